/-- what layResults leaves -/
def LR (g p : Nat) (rg bd : Nat → Nat) (ab ob : Nat → Bool) (S : Nat → Int32) (rm : Nat) (rs : Nat → Nat) : Prop :=
  rm ≤ 576 ∧ (∀ z, rs z < 4) ∧ RepL (fun w => sm (fun z => w (cdR rs z (g * p))) rm) g p rg bd ab ob S
theorem LR_rm {g p : Nat} {rg bd : Nat → Nat} {ab ob : Nat → Bool} {S : Nat → Int32} {rm : Nat} {rs : Nat → Nat} (h : LR g p rg bd ab ob S rm rs) : rm = rsN g p rg bd ab ob S := by
  have h1 := h.2.2 (fun _ => 1)
  simp only [sm_one] at h1
  exact h1
theorem LR_ev {g p : Nat} {rg bd : Nat → Nat} {ab ob : Nat → Bool} {S : Nat → Int32} {rm : Nat} {rs : Nat → Nat} (h : LR g p rg bd ab ob S rm rs) {t k : Nat} (ht : t < g * p) :
    ct (fun z => decide (rs (9 * z + t) = k)) rm = evN g p rg bd ab ob S t k := by
  unfold evN
  rw [← h.2.2]
  refine sm_congr (fun z _ => ?_)
  show (decide (rs (9 * z + t) = k)).toNat = (decide (gr (cdR rs z (g * p)) t = k)).toNat
  rw [gr_cdR h.2.1 ht]
theorem LR_low {g p : Nat} {rg bd : Nat → Nat} {ab ob : Nat → Bool} {S : Nat → Int32} {rm : Nat} {rs : Nat → Nat} (h : LR g p rg bd ab ob S rm rs) {t : Nat} (ht : t < g * p) :
    lowR (fun zq => ct (fun z => decide (rs (9 * z + t) = zq)) rm) g 0 = if lowC g p rg bd ab ob S t < g then nI (lowC g p rg bd ab ob S t) else -1 := by
  rw [lowR_fst, Nat.zero_add]
  have e : fstN (fun zq => ct (fun z => decide (rs (9 * z + t) = zq)) rm) g 0 = lowC g p rg bd ab ob S t := fstN_congr (fun j => LR_ev h ht) g 0
  rw [e]
def loI32 (g p : Nat) (rg bd : Nat → Nat) (ab ob : Nat → Bool) (S : Nat → Int32) (t : Nat) : Int32 := if lowC g p rg bd ab ob S t < g then nI (lowC g p rg bd ab ob S t) else -1
def evPost (g p : Nat) (rg bd : Nat → Nat) (ab ob : Nat → Bool) (S : Nat → Int32) (x y : Int32) (th2 : Nat) (r : Int32) : Prop :=
  th2 = (if inB x (nI 0) (nI (g * p - 1)) && inB y (nI 0) (nI (g - 1)) then 0 else 1) ∧ (th2 = 0 → ∃ t k, t < g * p ∧ k < g ∧ x = nI t ∧ y = nI k ∧ r = nI (evN g p rg bd ab ob S t k)) ∧ (th2 ≠ 0 → r = nI 0)
def fiPost (g p : Nat) (rg bd : Nat → Nat) (ab ob : Nat → Bool) (S : Nat → Int32) (x y : Int32) (th2 : Nat) (r : Int32) : Prop :=
  th2 = (if inB x (nI 0) (nI (g * p - 1)) && inB y (nI 0) (nI (g - 1)) then 0 else 1) ∧ (th2 = 0 → ∃ t k, t < g * p ∧ k < g ∧ x = nI t ∧ y = nI k ∧ r = bI (decide (0 < evN g p rg bd ab ob S t k)))
theorem evN_le {g p : Nat} {rg bd : Nat → Nat} {ab ob : Nat → Bool} {S : Nat → Int32} {rm : Nat} {rs : Nat → Nat} (h : LR g p rg bd ab ob S rm rs) {t k : Nat} (ht : t < g * p) : evN g p rg bd ab ob S t k ≤ 576 := by
  rw [← LR_ev h ht]
  exact Nat.le_trans (ct_le _ _) h.1
def foN (g p : Nat) (rg bd : Nat → Nat) (ab ob : Nat → Bool) (S : Nat → Int32) (t : Nat) : Int32 :=
  if lowC g p rg bd ab ob S t < g ∧ evN g p rg bd ab ob S t (lowC g p rg bd ab ob S t) = rsN g p rg bd ab ob S then nI (lowC g p rg bd ab ob S t) else -1
def foPost (g p : Nat) (rg bd : Nat → Nat) (ab ob : Nat → Bool) (S : Nat → Int32) (x : Int32) (th2 : Nat) (r : Int32) : Prop :=
  th2 = (if inB x (nI 0) (nI (g * p - 1)) then 0 else 1) ∧ (th2 = 0 → ∃ t, t < g * p ∧ x = nI t ∧ r = foN g p rg bd ab ob S t)
theorem loI_some {g p : Nat} {rg bd : Nat → Nat} {ab ob : Nat → Bool} {S : Nat → Int32} {t : Nat} (h : ¬ loI32 g p rg bd ab ob S t = -1) : lowC g p rg bd ab ob S t < g ∧ loI32 g p rg bd ab ob S t = nI (lowC g p rg bd ab ob S t) := by
  unfold loI32 at h ⊢
  by_cases c : lowC g p rg bd ab ob S t < g
  · rw [if_pos c]; exact ⟨c, rfl⟩
  · rw [if_neg c] at h; exact absurd rfl h
theorem loI_none {g p : Nat} {rg bd : Nat → Nat} {ab ob : Nat → Bool} {S : Nat → Int32} {t : Nat} (hg : g ≤ 4) (h : loI32 g p rg bd ab ob S t = -1) : ¬ lowC g p rg bd ab ob S t < g := by
  intro c
  unfold loI32 at h
  rw [if_pos c] at h
  exact nI_nm1 (by omega) h
def tDr (x : Int32) (dm T n L : Nat) : Nat := if dm = T ∨ n = 0 then 1 else if inB x (nI 0) (nI L - nI 1) then 0 else 2
def drPost (g p dm : Nat) (rg bd : Nat → Nat) (ab ob : Nat → Bool) (S : Nat → Int32) (dt : Nat → Nat) (x : Int32) (th2 dm2 : Nat) (S2 : Nat → Int32) (dt2 : Nat → Nat) (r : Int32) : Prop :=
  th2 = tDr x dm (g * p) (rsN g p rg bd ab ob S) (leN dm g p) ∧
  (th2 = 0 → ∃ k, k < leN dm g p ∧ dm < g * p ∧ x = nI k ∧ dm2 = dm + 1 ∧ dt2 = updN dt dm (balT S g (dm / g) k) ∧ S2 = upd S (balT S g (dm / g) k) (loI32 g p rg bd ab ob S (balT S g (dm / g) k)) ∧ r = loI32 g p rg bd ab ob S (balT S g (dm / g) k)) ∧
  (th2 ≠ 0 → dm2 = dm ∧ S2 = S ∧ dt2 = dt)
theorem leN_ok {dm g p : Nat} (h : ¬ dm = g * p) : leN dm g p = g - dm % g := by simp [leN, h]
/-- how many orders lead to P -/
def orS (g p : Nat) (rg bd : Nat → Nat) (ab ob : Nat → Bool) (S : Nat → Int32) (dm : Nat) (P : (Nat → Int32) → Bool) : Nat :=
  if rsN g p rg bd ab ob S = 0 then 0 else ct (fun n => P (finS g (lowC g p rg bd ab ob) (g * p - dm) dm S n)) (ordN S g p)
def chPost (g p : Nat) (rg bd : Nat → Nat) (ab ob : Nat → Bool) (S : Nat → Int32) (dm : Nat) (x y : Int32) (th2 : Nat) (r : Int32) : Prop :=
  th2 = (if inB x (nI 0) (nI (g * p - 1)) && inB y (nI 0) (nI (g - 1)) then 0 else 1) ∧ (th2 = 0 → ∃ t k, t < g * p ∧ k < g ∧ x = nI t ∧ y = nI k ∧ r = nI (orS g p rg bd ab ob S dm (fun E => decide (E t = nI k))))
def paPost (g p : Nat) (rg bd : Nat → Nat) (ab ob : Nat → Bool) (S : Nat → Int32) (dm : Nat) (x y : Int32) (th2 : Nat) (r : Int32) : Prop :=
  th2 = (if inB x (nI 0) (nI (g * p - 1)) && inB y (nI 0) (nI (g * p - 1)) then 0 else 1) ∧ (th2 = 0 → ∃ t k, t < g * p ∧ k < g * p ∧ x = nI t ∧ y = nI k ∧ r = nI (orS g p rg bd ab ob S dm (fun E => decide (E t = E k))))
theorem fac_mono {a b : Nat} (h : a ≤ b) (hb : b ≤ 4) : fac a ≤ fac b := by
  rcases (show b = 0 ∨ b = 1 ∨ b = 2 ∨ b = 3 ∨ b = 4 by omega) with rfl | rfl | rfl | rfl | rfl <;> rcases (show a = 0 ∨ a = 1 ∨ a = 2 ∨ a = 3 ∨ a = 4 by omega) with rfl | rfl | rfl | rfl | rfl <;> first | decide | omega
theorem ordN_le (S : Nat → Int32) {g : Nat} (hg : g ≤ 4) (p : Nat) : ordN S g p ≤ fac g ^ p := by
  induction p with
  | zero => exact Nat.le_refl _
  | succ p ih =>
    simp only [ordN, Nat.pow_succ]
    exact Nat.mul_le_mul ih (fac_mono (ct_le _ _) hg)
theorem evN_le576 {g p : Nat} {rg bd : Nat → Nat} {ab ob : Nat → Bool} {S : Nat → Int32} {t k : Nat} (_ : g ≤ 4) (h : fac g ^ p ≤ 576) (_ : t < g * p) : evN g p rg bd ab ob S t k ≤ 576 := by
  unfold evN RS
  refine Nat.le_trans (sm_le_n (fun i _ => ?_)) h
  split
  · show (decide (gr (cdN g i (g * p)) t = k)).toNat ≤ 1
    cases decide (gr (cdN g i (g * p)) t = k)
    · decide
    · decide
  · exact Nat.zero_le _
abbrev rmX3_results : Room := { frames := 3, cells := 0, slots := 0, locals := 69 }
set_option maxHeartbeats 4000000 in
set_option maxRecDepth 100000 in
theorem kX3_results (l : Launch) (D : va_G) (cI : ClassId) (cZ : ClassId) (h : Nat) (g : Nat) (p : Nat) (aR : Nat) (aB : Nat) (aA : Nat) (aO : Nat) (dm : Nat) (aD : Nat) (aP : Nat) (th : Nat) (rm : Nat) (aS : Nat) (aW : Nat) (aU : Nat) (aL : Nat) (aE : Nat) (aQ : Nat) (rg : Nat → Nat) (bd : Nat → Nat) (ab : Nat → Bool) (ob : Nat → Bool) (S : Nat → Int32) (rs : Nat → Nat) (rw : Nat → Nat) (us : Nat → Bool) (hg2 : 2 ≤ g) (hg4 : g ≤ 4) (hp2 : 2 ≤ p) (hp3 : p ≤ 3) (hT : g * p ≤ 9) (hrg : ∀ z, z < 9 → rg z < 6) (hbd : ∀ z, z < 6 → bd z < 4) (hrs : ∀ z, rs z < 4) (hrw : ∀ z, rw z < 4) : Ci l yX3_results wsX3_results rmX3_results D [(cI, .int), (cZ, .boolean)] [.ref h] [(h, .inr (3, [.int (nI g), .int (nI p), .ref aR, .ref aB, .ref aA, .ref aO, .int (nI dm), .ref aD, .ref aP, .int (nI th), .int (nI rm), .ref aS, .ref aW, .ref aU, .ref aL, .ref aE, .ref aQ])), (aR, .inl (cI, 9, .inl (fun j => nI (rg j)))), (aB, .inl (cI, 6, .inl (fun j => nI (bd j)))), (aA, .inl (cZ, 81, .inl (fun j => bI (ab j)))), (aO, .inl (cZ, 81, .inl (fun j => bI (ob j)))), (aP, .inl (cI, 9, .inl S)), (aS, .inl (cI, 5184, .inl (fun j => nI (rs j)))), (aW, .inl (cI, 9, .inl (fun j => nI (rw j)))), (aU, .inl (cZ, 9, .inl (fun j => bI (us j))))] (fun (r : Int32) (u : Nat × (Nat → Nat) × (Nat → Nat) × (Nat → Bool)) => (r = nI (rsN g p rg bd ab ob S)) ∧ (LR g p rg bd ab ob S u.1 u.2.1) ∧ (∀ z, u.2.2.1 z < 4)) (fun (u : Nat × (Nat → Nat) × (Nat → Nat) × (Nat → Bool)) => [(h, .inr (3, [.int (nI g), .int (nI p), .ref aR, .ref aB, .ref aA, .ref aO, .int (nI dm), .ref aD, .ref aP, .int (nI 0), .int (nI u.1), .ref aS, .ref aW, .ref aU, .ref aL, .ref aE, .ref aQ])), (aR, .inl (cI, 9, .inl (fun j => nI (rg j)))), (aB, .inl (cI, 6, .inl (fun j => nI (bd j)))), (aA, .inl (cZ, 81, .inl (fun j => bI (ab j)))), (aO, .inl (cZ, 81, .inl (fun j => bI (ob j)))), (aP, .inl (cI, 9, .inl S)), (aS, .inl (cI, 5184, .inl (fun j => nI (u.2.1 j)))), (aW, .inl (cI, 9, .inl (fun j => nI (u.2.2.1 j)))), (aU, .inl (cZ, 9, .inl (fun j => bI (u.2.2.2 j))))]) := by
  refine Ci_of (cc := cX3_results) (maxL := 1) (by decide) rfl (Nat.le_of_ble_eq_true rfl) ?_
  intro pR eV sT mI args below meth cO AA QQ ls hXX hBB hml hown hts hnm hN hK hP hD hS hAA hl hret
  have hl : lv_has ls 1 [(0, .ref h)] := hl
  have kw_1 := hts (.fieldLink RX3 51 "CupDrawModel" "thrown" "I") (List.mem_of_getElem? (i := 1) rfl)
  have iw_X3 : ∀ w ∈ wsX30, w ∈ wsX3_results := by decide +kernel
  have kw_2 := hts (.fieldLink RX3 84 "CupDrawModel" "resultMany" "I") (List.mem_of_getElem? (i := 2) rfl)
  refine lv_aload_n hXX hBB dX3_results_0 rfl (lv_at hl 0 rfl) ?_
  refine lv_iconst (v := nI 0) hXX hBB dX3_results_1 (by decide) ?_
  refine va_put (D := D) (ci := 3) (v := .int (nI 0)) (ty := .int) (C := RX3) (T := TX3) (N := 17) hXX hBB hts iw_X3 tyX3 tyX3_ok nmX3 hown hK hP hD hS 0 rfl rfl 9 (by decide) kw_1 (fun _ h9 => h9) rfl (by decide +kernel) (rfl) (rfl) (Nat.le_of_ble_eq_true rfl) dX3_results_2 (fun H locs hP hD hS => ?_)
  have hP : va_P D vwCl [(h, .inr (3, [.int (nI g), .int (nI p), .ref aR, .ref aB, .ref aA, .ref aO, .int (nI dm), .ref aD, .ref aP, .int (nI 0), .int (nI rm), .ref aS, .ref aW, .ref aU, .ref aL, .ref aE, .ref aQ])), (aR, .inl (cI, 9, .inl (fun j => nI (rg j)))), (aB, .inl (cI, 6, .inl (fun j => nI (bd j)))), (aA, .inl (cZ, 81, .inl (fun j => bI (ab j)))), (aO, .inl (cZ, 81, .inl (fun j => bI (ob j)))), (aP, .inl (cI, 9, .inl S)), (aS, .inl (cI, 5184, .inl (fun j => nI (rs j)))), (aW, .inl (cI, 9, .inl (fun j => nI (rw j)))), (aU, .inl (cZ, 9, .inl (fun j => bI (us j))))] H := hP
  have hD : va_D AA [(h, .inr (3, [.int (nI g), .int (nI p), .ref aR, .ref aB, .ref aA, .ref aO, .int (nI dm), .ref aD, .ref aP, .int (nI 0), .int (nI rm), .ref aS, .ref aW, .ref aU, .ref aL, .ref aE, .ref aQ])), (aR, .inl (cI, 9, .inl (fun j => nI (rg j)))), (aB, .inl (cI, 6, .inl (fun j => nI (bd j)))), (aA, .inl (cZ, 81, .inl (fun j => bI (ab j)))), (aO, .inl (cZ, 81, .inl (fun j => bI (ob j)))), (aP, .inl (cI, 9, .inl S)), (aS, .inl (cI, 5184, .inl (fun j => nI (rs j)))), (aW, .inl (cI, 9, .inl (fun j => nI (rw j)))), (aU, .inl (cZ, 9, .inl (fun j => bI (us j))))] := hD
  refine lv_aload_n hXX hBB dX3_results_5 rfl (lv_at hl 0 rfl) ?_
  refine m_callv (wr := []) ⟨hXX, hBB, hml, hown, hts⟩ hN (kX3_layResults l D cI cZ h g p aR aB aA aO dm aD aP 0 rm aS aW aU aL aE aQ rg bd ab ob S rs rw us (by omega) (by omega) (by omega) (by omega) (by omega) (by assumption) (by assumption) (by assumption) (by assumption)) (cwV 0 hts gX3_results_X3_layResults rfl rfl rfl (by decide +kernel) ⟨Nat.le_of_ble_eq_true rfl, Nat.le_of_ble_eq_true rfl⟩) hK hP hD hS hAA [0, 1, 2, 3, 4, 5, 6, 7, 8] [] [0, 1] rfl rfl rfl (by decide) (by decide) (by decide) rfl 3 rfl rfl rfl rfl hl.1 rfl (Nat.le_of_ble_eq_true rfl) dX3_results_6 ⟨Nat.le_of_ble_eq_true rfl, Nat.le_of_ble_eq_true rfl⟩ (k := 0) (n := 0) rfl rfl (fun  u_ H locs hw hP hD hS => ?_)
  obtain ⟨rm2, rs2, rw2, us2⟩ := u_
  have hw : (rm2 ≤ 576) ∧ (∀ z, rs2 z < 4) ∧ (∀ z, rw2 z < 4) ∧ (∀ w : Nat → Nat, sm (fun z => w (cdR rs2 z (g * p))) rm2 = RS g p rg bd ab ob S w) := hw
  obtain ⟨e_1, e_2, e_3, e_4⟩ := hw
  have hP : va_P D vwCl [(h, .inr (3, [.int (nI g), .int (nI p), .ref aR, .ref aB, .ref aA, .ref aO, .int (nI dm), .ref aD, .ref aP, .int (nI 0), .int (nI rm2), .ref aS, .ref aW, .ref aU, .ref aL, .ref aE, .ref aQ])), (aR, .inl (cI, 9, .inl (fun j => nI (rg j)))), (aB, .inl (cI, 6, .inl (fun j => nI (bd j)))), (aA, .inl (cZ, 81, .inl (fun j => bI (ab j)))), (aO, .inl (cZ, 81, .inl (fun j => bI (ob j)))), (aP, .inl (cI, 9, .inl S)), (aS, .inl (cI, 5184, .inl (fun j => nI (rs2 j)))), (aW, .inl (cI, 9, .inl (fun j => nI (rw2 j)))), (aU, .inl (cZ, 9, .inl (fun j => bI (us2 j))))] H := hP
  have hD : va_D AA [(h, .inr (3, [.int (nI g), .int (nI p), .ref aR, .ref aB, .ref aA, .ref aO, .int (nI dm), .ref aD, .ref aP, .int (nI 0), .int (nI rm2), .ref aS, .ref aW, .ref aU, .ref aL, .ref aE, .ref aQ])), (aR, .inl (cI, 9, .inl (fun j => nI (rg j)))), (aB, .inl (cI, 6, .inl (fun j => nI (bd j)))), (aA, .inl (cZ, 81, .inl (fun j => bI (ab j)))), (aO, .inl (cZ, 81, .inl (fun j => bI (ob j)))), (aP, .inl (cI, 9, .inl S)), (aS, .inl (cI, 5184, .inl (fun j => nI (rs2 j)))), (aW, .inl (cI, 9, .inl (fun j => nI (rw2 j)))), (aU, .inl (cZ, 9, .inl (fun j => bI (us2 j))))] := hD
  have hLR : LR g p rg bd ab ob S rm2 rs2 := ⟨e_1, e_2, e_4⟩
  refine lv_aload_n hXX hBB dX3_results_9 rfl (lv_at hl 0 rfl) ?_
  refine va_get (D := D) (ci := 3) (v := .int (nI rm2)) (C := RX3) (T := TX3) (N := 17) hXX hBB hts iw_X3 hown hK hP 0 rfl rfl 10 (by decide) kw_2 (fun _ h9 => h9) rfl dX3_results_10 ?_
  refine hret (r := nI rm2) (rm2, rs2, rw2, us2) ?_ (rfl) (hP.sub [0, 1, 2, 3, 4, 5, 6, 7, 8] rfl) (hD.sub [0, 1, 2, 3, 4, 5, 6, 7, 8] (by decide) rfl) hS (Nat.le_of_ble_eq_true rfl) (Nat.le_of_ble_eq_true rfl) dX3_results_13
  show ((nI rm2) = nI (rsN g p rg bd ab ob S)) ∧ (LR g p rg bd ab ob S rm2 rs2) ∧ (∀ z, rw2 z < 4)
  exact ⟨by rw [LR_rm hLR], hLR, e_3⟩
abbrev rmX3_evenly : Room := { frames := 3, cells := 0, slots := 0, locals := 69 }
set_option maxHeartbeats 4000000 in
set_option maxRecDepth 100000 in
theorem kX3_evenly (l : Launch) (D : va_G) (cI : ClassId) (cZ : ClassId) (h : Nat) (g : Nat) (p : Nat) (aR : Nat) (aB : Nat) (aA : Nat) (aO : Nat) (dm : Nat) (aD : Nat) (aP : Nat) (th : Nat) (rm : Nat) (aS : Nat) (aW : Nat) (aU : Nat) (aL : Nat) (aE : Nat) (aQ : Nat) (rg : Nat → Nat) (bd : Nat → Nat) (ab : Nat → Bool) (ob : Nat → Bool) (S : Nat → Int32) (rs : Nat → Nat) (rw : Nat → Nat) (us : Nat → Bool) (x : Int32) (y : Int32) (hg2 : 2 ≤ g) (hg4 : g ≤ 4) (hp2 : 2 ≤ p) (hp3 : p ≤ 3) (hT : g * p ≤ 9) (hrg : ∀ z, z < 9 → rg z < 6) (hbd : ∀ z, z < 6 → bd z < 4) (hrs : ∀ z, rs z < 4) (hrw : ∀ z, rw z < 4) (hrm : rm ≤ 576) : Ci l yX3_evenly wsX3_evenly rmX3_evenly D [(cI, .int), (cZ, .boolean)] [.ref h, .int x, .int y] [(h, .inr (3, [.int (nI g), .int (nI p), .ref aR, .ref aB, .ref aA, .ref aO, .int (nI dm), .ref aD, .ref aP, .int (nI th), .int (nI rm), .ref aS, .ref aW, .ref aU, .ref aL, .ref aE, .ref aQ])), (aR, .inl (cI, 9, .inl (fun j => nI (rg j)))), (aB, .inl (cI, 6, .inl (fun j => nI (bd j)))), (aA, .inl (cZ, 81, .inl (fun j => bI (ab j)))), (aO, .inl (cZ, 81, .inl (fun j => bI (ob j)))), (aP, .inl (cI, 9, .inl S)), (aS, .inl (cI, 5184, .inl (fun j => nI (rs j)))), (aW, .inl (cI, 9, .inl (fun j => nI (rw j)))), (aU, .inl (cZ, 9, .inl (fun j => bI (us j))))] (fun (r : Int32) (u : Nat × Nat × (Nat → Nat) × (Nat → Nat) × (Nat → Bool)) => (evPost g p rg bd ab ob S x y u.1 r) ∧ (u.2.1 ≤ 576) ∧ (∀ z, u.2.2.1 z < 4) ∧ (∀ z, u.2.2.2.1 z < 4)) (fun (u : Nat × Nat × (Nat → Nat) × (Nat → Nat) × (Nat → Bool)) => [(h, .inr (3, [.int (nI g), .int (nI p), .ref aR, .ref aB, .ref aA, .ref aO, .int (nI dm), .ref aD, .ref aP, .int (nI u.1), .int (nI u.2.1), .ref aS, .ref aW, .ref aU, .ref aL, .ref aE, .ref aQ])), (aR, .inl (cI, 9, .inl (fun j => nI (rg j)))), (aB, .inl (cI, 6, .inl (fun j => nI (bd j)))), (aA, .inl (cZ, 81, .inl (fun j => bI (ab j)))), (aO, .inl (cZ, 81, .inl (fun j => bI (ob j)))), (aP, .inl (cI, 9, .inl S)), (aS, .inl (cI, 5184, .inl (fun j => nI (u.2.2.1 j)))), (aW, .inl (cI, 9, .inl (fun j => nI (u.2.2.2.1 j)))), (aU, .inl (cZ, 9, .inl (fun j => bI (u.2.2.2.2 j))))]) := by
  refine Ci_of (cc := cX3_evenly) (maxL := 3) (by decide) rfl (Nat.le_of_ble_eq_true rfl) ?_
  intro pR eV sT mI args below meth cO AA QQ ls hXX hBB hml hown hts hnm hN hK hP hD hS hAA hl hret
  have hl : lv_has ls 3 [(0, .ref h), (1, .int x), (2, .int y)] := hl
  refine lv_aload_n hXX hBB dX3_evenly_0 rfl (lv_at hl 0 rfl) ?_
  refine lv_iload_n hXX hBB dX3_evenly_1 rfl (lv_at hl 1 rfl) ?_
  refine lv_iload_n hXX hBB dX3_evenly_2 rfl (lv_at hl 2 rfl) ?_
  refine m_calli (wr := [(aR, .inl (cI, 9, .inl (fun j => nI (rg j)))), (aB, .inl (cI, 6, .inl (fun j => nI (bd j)))), (aA, .inl (cZ, 81, .inl (fun j => bI (ab j)))), (aO, .inl (cZ, 81, .inl (fun j => bI (ob j)))), (aP, .inl (cI, 9, .inl S)), (aS, .inl (cI, 5184, .inl (fun j => nI (rs j)))), (aW, .inl (cI, 9, .inl (fun j => nI (rw j)))), (aU, .inl (cZ, 9, .inl (fun j => bI (us j))))]) ⟨hXX, hBB, hml, hown, hts⟩ hN (kX3_isPlace l D h g p aR aB aA aO dm aD aP th rm aS aW aU aL aE aQ x y (Nat.mul_pos (by omega) (by omega)) (by omega) (by omega)) (cwV 2 hts gX3_evenly_X3_isPlace rfl rfl rfl (by decide +kernel) ⟨Nat.le_of_ble_eq_true rfl, Nat.le_of_ble_eq_true rfl⟩) hK hP hD hS hAA [0] [1, 2, 3, 4, 5, 6, 7, 8] [] rfl rfl rfl (by decide) (by decide) (by decide) rfl 3 rfl rfl rfl rfl hl.1 rfl (Nat.le_of_ble_eq_true rfl) dX3_evenly_3 ⟨Nat.le_of_ble_eq_true rfl, Nat.le_of_ble_eq_true rfl⟩ (k := 0) (n := 0) rfl rfl (fun r_1 u_ H locs hw hP hD hS => ?_)
  obtain ⟨thq, rfl⟩ : ∃ z, z = u_ := ⟨_, rfl⟩
  have hw : (plPost x y (g * p) g thq r_1) := hw
  have e_p := hw
  have hP : va_P D vwCl [(aR, .inl (cI, 9, .inl (fun j => nI (rg j)))), (aB, .inl (cI, 6, .inl (fun j => nI (bd j)))), (aA, .inl (cZ, 81, .inl (fun j => bI (ab j)))), (aO, .inl (cZ, 81, .inl (fun j => bI (ob j)))), (aP, .inl (cI, 9, .inl S)), (aS, .inl (cI, 5184, .inl (fun j => nI (rs j)))), (aW, .inl (cI, 9, .inl (fun j => nI (rw j)))), (aU, .inl (cZ, 9, .inl (fun j => bI (us j)))), (h, .inr (3, [.int (nI g), .int (nI p), .ref aR, .ref aB, .ref aA, .ref aO, .int (nI dm), .ref aD, .ref aP, .int (nI thq), .int (nI rm), .ref aS, .ref aW, .ref aU, .ref aL, .ref aE, .ref aQ]))] H := hP
  have hD : va_D AA [(aR, .inl (cI, 9, .inl (fun j => nI (rg j)))), (aB, .inl (cI, 6, .inl (fun j => nI (bd j)))), (aA, .inl (cZ, 81, .inl (fun j => bI (ab j)))), (aO, .inl (cZ, 81, .inl (fun j => bI (ob j)))), (aP, .inl (cI, 9, .inl S)), (aS, .inl (cI, 5184, .inl (fun j => nI (rs j)))), (aW, .inl (cI, 9, .inl (fun j => nI (rw j)))), (aU, .inl (cZ, 9, .inl (fun j => bI (us j)))), (h, .inr (3, [.int (nI g), .int (nI p), .ref aR, .ref aB, .ref aA, .ref aO, .int (nI dm), .ref aD, .ref aP, .int (nI thq), .int (nI rm), .ref aS, .ref aW, .ref aU, .ref aL, .ref aE, .ref aQ]))] := hD
  refine m_top (y := bI (decide (thq = 0))) (by exact e_p.2) ?_
  refine lv_if_ne (tgt := 11) hXX hBB dX3_evenly_6 (by decide) (fun c_6 => ?_) (fun c_6 => ?_)
  · have c_6 : (decide (thq = 0)) = true := m_bz1 c_6
    have hz : thq = 0 := of_decide_eq_true c_6
    have hpl : (inB x (nI 0) (nI (g * p - 1)) && inB y (nI 0) (nI (g - 1))) = true := by
      have h9 := e_p.1
      rw [hz] at h9
      by_cases q9 : (inB x (nI 0) (nI (g * p - 1)) && inB y (nI 0) (nI (g - 1))) = true
      · exact q9
      · rw [if_neg q9] at h9; cases h9
    rw [Bool.and_eq_true] at hpl
    have hgp : 0 < g * p := Nat.mul_pos (by omega) (by omega)
    obtain ⟨t, hlo_t, hhi_t, he_t⟩ := inB_nat (lo := 0) (hi := g * p - 1) (by omega) hpl.1
    obtain ⟨k, hlo_k, hhi_k, he_k⟩ := inB_nat (lo := 0) (hi := g - 1) (by omega) hpl.2
    have hl : lv_has ls 3 [(0, .ref h), (1, .int (nI t)), (2, .int (nI k))] := by rw [he_t, he_k] at hl; exact hl
    refine lv_aload_n hXX hBB dX3_evenly_11 rfl (lv_at hl 0 rfl) ?_
    refine m_callv (wr := []) ⟨hXX, hBB, hml, hown, hts⟩ hN (kX3_layResults l D cI cZ h g p aR aB aA aO dm aD aP thq rm aS aW aU aL aE aQ rg bd ab ob S rs rw us (by omega) (by omega) (by omega) (by omega) (by omega) (by assumption) (by assumption) (by assumption) (by assumption)) (cwV 0 hts gX3_evenly_X3_layResults rfl rfl rfl (by decide +kernel) ⟨Nat.le_of_ble_eq_true rfl, Nat.le_of_ble_eq_true rfl⟩) hK hP hD hS hAA [8, 0, 1, 2, 3, 4, 5, 6, 7] [] [0, 1] rfl rfl rfl (by decide) (by decide) (by decide) rfl 3 rfl rfl rfl rfl hl.1 rfl (Nat.le_of_ble_eq_true rfl) dX3_evenly_12 ⟨Nat.le_of_ble_eq_true rfl, Nat.le_of_ble_eq_true rfl⟩ (k := 0) (n := 0) rfl rfl (fun  u_ H locs hw hP hD hS => ?_)
    obtain ⟨rm2, rs2, rw2, us2⟩ := u_
    have hw : (rm2 ≤ 576) ∧ (∀ z, rs2 z < 4) ∧ (∀ z, rw2 z < 4) ∧ (∀ w : Nat → Nat, sm (fun z => w (cdR rs2 z (g * p))) rm2 = RS g p rg bd ab ob S w) := hw
    obtain ⟨e_1, e_2, e_3, e_4⟩ := hw
    have hP : va_P D vwCl [(h, .inr (3, [.int (nI g), .int (nI p), .ref aR, .ref aB, .ref aA, .ref aO, .int (nI dm), .ref aD, .ref aP, .int (nI thq), .int (nI rm2), .ref aS, .ref aW, .ref aU, .ref aL, .ref aE, .ref aQ])), (aR, .inl (cI, 9, .inl (fun j => nI (rg j)))), (aB, .inl (cI, 6, .inl (fun j => nI (bd j)))), (aA, .inl (cZ, 81, .inl (fun j => bI (ab j)))), (aO, .inl (cZ, 81, .inl (fun j => bI (ob j)))), (aP, .inl (cI, 9, .inl S)), (aS, .inl (cI, 5184, .inl (fun j => nI (rs2 j)))), (aW, .inl (cI, 9, .inl (fun j => nI (rw2 j)))), (aU, .inl (cZ, 9, .inl (fun j => bI (us2 j))))] H := hP
    have hD : va_D AA [(h, .inr (3, [.int (nI g), .int (nI p), .ref aR, .ref aB, .ref aA, .ref aO, .int (nI dm), .ref aD, .ref aP, .int (nI thq), .int (nI rm2), .ref aS, .ref aW, .ref aU, .ref aL, .ref aE, .ref aQ])), (aR, .inl (cI, 9, .inl (fun j => nI (rg j)))), (aB, .inl (cI, 6, .inl (fun j => nI (bd j)))), (aA, .inl (cZ, 81, .inl (fun j => bI (ab j)))), (aO, .inl (cZ, 81, .inl (fun j => bI (ob j)))), (aP, .inl (cI, 9, .inl S)), (aS, .inl (cI, 5184, .inl (fun j => nI (rs2 j)))), (aW, .inl (cI, 9, .inl (fun j => nI (rw2 j)))), (aU, .inl (cZ, 9, .inl (fun j => bI (us2 j))))] := hD
    have hLR : LR g p rg bd ab ob S rm2 rs2 := ⟨e_1, e_2, e_4⟩
    refine lv_aload_n hXX hBB dX3_evenly_15 rfl (lv_at hl 0 rfl) ?_
    refine lv_iload_n hXX hBB dX3_evenly_16 rfl (lv_at hl 1 rfl) ?_
    refine lv_iload_n hXX hBB dX3_evenly_17 rfl (lv_at hl 2 rfl) ?_
    refine m_calli (wr := [(aR, .inl (cI, 9, .inl (fun j => nI (rg j)))), (aB, .inl (cI, 6, .inl (fun j => nI (bd j)))), (aA, .inl (cZ, 81, .inl (fun j => bI (ab j)))), (aO, .inl (cZ, 81, .inl (fun j => bI (ob j)))), (aP, .inl (cI, 9, .inl S)), (aW, .inl (cI, 9, .inl (fun j => nI (rw2 j)))), (aU, .inl (cZ, 9, .inl (fun j => bI (us2 j))))]) ⟨hXX, hBB, hml, hown, hts⟩ hN (kX3_countIn l D cI h g p aR aB aA aO dm aD aP thq rm2 aS aW aU aL aE aQ rs2 t k (by exact e_1) (by exact fun z _ => e_2 z) (by omega) (by omega)) (cwV 2 hts gX3_evenly_X3_countIn rfl rfl rfl (by decide +kernel) ⟨Nat.le_of_ble_eq_true rfl, Nat.le_of_ble_eq_true rfl⟩) hK hP hD hS hAA [0, 6] [1, 2, 3, 4, 5, 7, 8] [0] rfl rfl rfl (by decide) (by decide) (by decide) rfl 3 rfl rfl rfl rfl hl.1 rfl (Nat.le_of_ble_eq_true rfl) dX3_evenly_18 ⟨Nat.le_of_ble_eq_true rfl, Nat.le_of_ble_eq_true rfl⟩ (k := 0) (n := 0) rfl rfl (fun r_2 u_ H locs hw hP hD hS => ?_)
    have hw : (r_2 = nI (ct (fun z => decide (rs2 (9 * z + t) = k)) rm2)) := hw
    have hr_r_2 := hw
    have hP : va_P D vwCl [(aR, .inl (cI, 9, .inl (fun j => nI (rg j)))), (aB, .inl (cI, 6, .inl (fun j => nI (bd j)))), (aA, .inl (cZ, 81, .inl (fun j => bI (ab j)))), (aO, .inl (cZ, 81, .inl (fun j => bI (ob j)))), (aP, .inl (cI, 9, .inl S)), (aW, .inl (cI, 9, .inl (fun j => nI (rw2 j)))), (aU, .inl (cZ, 9, .inl (fun j => bI (us2 j)))), (h, .inr (3, [.int (nI g), .int (nI p), .ref aR, .ref aB, .ref aA, .ref aO, .int (nI dm), .ref aD, .ref aP, .int (nI thq), .int (nI rm2), .ref aS, .ref aW, .ref aU, .ref aL, .ref aE, .ref aQ])), (aS, .inl (cI, 5184, .inl (fun j => nI (rs2 j))))] H := hP
    have hD : va_D AA [(aR, .inl (cI, 9, .inl (fun j => nI (rg j)))), (aB, .inl (cI, 6, .inl (fun j => nI (bd j)))), (aA, .inl (cZ, 81, .inl (fun j => bI (ab j)))), (aO, .inl (cZ, 81, .inl (fun j => bI (ob j)))), (aP, .inl (cI, 9, .inl S)), (aW, .inl (cI, 9, .inl (fun j => nI (rw2 j)))), (aU, .inl (cZ, 9, .inl (fun j => bI (us2 j)))), (h, .inr (3, [.int (nI g), .int (nI p), .ref aR, .ref aB, .ref aA, .ref aO, .int (nI dm), .ref aD, .ref aP, .int (nI thq), .int (nI rm2), .ref aS, .ref aW, .ref aU, .ref aL, .ref aE, .ref aQ])), (aS, .inl (cI, 5184, .inl (fun j => nI (rs2 j))))] := hD
    subst hr_r_2
    refine m_top (y := nI (evN g p rg bd ab ob S t k)) (by rw [LR_ev hLR (by omega)]) ?_
    refine hret (r := nI (evN g p rg bd ab ob S t k)) (thq, rm2, rs2, rw2, us2) ?_ (rfl) (hP.sub [7, 0, 1, 2, 3, 4, 8, 5, 6] rfl) (hD.sub [7, 0, 1, 2, 3, 4, 8, 5, 6] (by decide) rfl) hS (Nat.le_of_ble_eq_true rfl) (Nat.le_of_ble_eq_true rfl) dX3_evenly_21
    show (evPost g p rg bd ab ob S x y thq (nI (evN g p rg bd ab ob S t k))) ∧ (rm2 ≤ 576) ∧ (∀ z, rs2 z < 4) ∧ (∀ z, rw2 z < 4)
    exact ⟨⟨e_p.1, fun _ => ⟨t, k, by omega, by omega, he_t, he_k, rfl⟩, fun q => absurd hz q⟩, e_1, e_2, e_3⟩
  · have c_6 : (decide (thq = 0)) = false := m_bz0 c_6
    refine lv_iconst (v := nI 0) hXX hBB dX3_evenly_9 (by decide) ?_
    refine hret (r := nI 0) (thq, rm, rs, rw, us) ?_ (rfl) (hP.sub [8, 0, 1, 2, 3, 4, 5, 6, 7] rfl) (hD.sub [8, 0, 1, 2, 3, 4, 5, 6, 7] (by decide) rfl) hS (Nat.le_of_ble_eq_true rfl) (Nat.le_of_ble_eq_true rfl) dX3_evenly_10
    show (evPost g p rg bd ab ob S x y thq (nI 0)) ∧ (rm ≤ 576) ∧ (∀ z, rs z < 4) ∧ (∀ z, rw z < 4)
    exact ⟨⟨e_p.1, fun q => absurd q (of_decide_eq_false c_6), fun _ => rfl⟩, hrm, hrs, hrw⟩
abbrev rmX3_fits : Room := { frames := 4, cells := 0, slots := 0, locals := 91 }
set_option maxHeartbeats 4000000 in
set_option maxRecDepth 100000 in
theorem kX3_fits (l : Launch) (D : va_G) (cI : ClassId) (cZ : ClassId) (h : Nat) (g : Nat) (p : Nat) (aR : Nat) (aB : Nat) (aA : Nat) (aO : Nat) (dm : Nat) (aD : Nat) (aP : Nat) (th : Nat) (rm : Nat) (aS : Nat) (aW : Nat) (aU : Nat) (aL : Nat) (aE : Nat) (aQ : Nat) (rg : Nat → Nat) (bd : Nat → Nat) (ab : Nat → Bool) (ob : Nat → Bool) (S : Nat → Int32) (rs : Nat → Nat) (rw : Nat → Nat) (us : Nat → Bool) (x : Int32) (y : Int32) (hg2 : 2 ≤ g) (hg4 : g ≤ 4) (hp2 : 2 ≤ p) (hp3 : p ≤ 3) (hT : g * p ≤ 9) (hrg : ∀ z, z < 9 → rg z < 6) (hbd : ∀ z, z < 6 → bd z < 4) (hrs : ∀ z, rs z < 4) (hrw : ∀ z, rw z < 4) (hrm : rm ≤ 576) : Ci l yX3_fits wsX3_fits rmX3_fits D [(cI, .int), (cZ, .boolean)] [.ref h, .int x, .int y] [(h, .inr (3, [.int (nI g), .int (nI p), .ref aR, .ref aB, .ref aA, .ref aO, .int (nI dm), .ref aD, .ref aP, .int (nI th), .int (nI rm), .ref aS, .ref aW, .ref aU, .ref aL, .ref aE, .ref aQ])), (aR, .inl (cI, 9, .inl (fun j => nI (rg j)))), (aB, .inl (cI, 6, .inl (fun j => nI (bd j)))), (aA, .inl (cZ, 81, .inl (fun j => bI (ab j)))), (aO, .inl (cZ, 81, .inl (fun j => bI (ob j)))), (aP, .inl (cI, 9, .inl S)), (aS, .inl (cI, 5184, .inl (fun j => nI (rs j)))), (aW, .inl (cI, 9, .inl (fun j => nI (rw j)))), (aU, .inl (cZ, 9, .inl (fun j => bI (us j))))] (fun (r : Int32) (u : Nat × Nat × (Nat → Nat) × (Nat → Nat) × (Nat → Bool)) => (fiPost g p rg bd ab ob S x y u.1 r) ∧ (u.2.1 ≤ 576) ∧ (∀ z, u.2.2.1 z < 4) ∧ (∀ z, u.2.2.2.1 z < 4)) (fun (u : Nat × Nat × (Nat → Nat) × (Nat → Nat) × (Nat → Bool)) => [(h, .inr (3, [.int (nI g), .int (nI p), .ref aR, .ref aB, .ref aA, .ref aO, .int (nI dm), .ref aD, .ref aP, .int (nI u.1), .int (nI u.2.1), .ref aS, .ref aW, .ref aU, .ref aL, .ref aE, .ref aQ])), (aR, .inl (cI, 9, .inl (fun j => nI (rg j)))), (aB, .inl (cI, 6, .inl (fun j => nI (bd j)))), (aA, .inl (cZ, 81, .inl (fun j => bI (ab j)))), (aO, .inl (cZ, 81, .inl (fun j => bI (ob j)))), (aP, .inl (cI, 9, .inl S)), (aS, .inl (cI, 5184, .inl (fun j => nI (u.2.2.1 j)))), (aW, .inl (cI, 9, .inl (fun j => nI (u.2.2.2.1 j)))), (aU, .inl (cZ, 9, .inl (fun j => bI (u.2.2.2.2 j))))]) := by
  refine Ci_of (cc := cX3_fits) (maxL := 3) (by decide) rfl (Nat.le_of_ble_eq_true rfl) ?_
  intro pR eV sT mI args below meth cO AA QQ ls hXX hBB hml hown hts hnm hN hK hP hD hS hAA hl hret
  have hl : lv_has ls 3 [(0, .ref h), (1, .int x), (2, .int y)] := hl
  have hfp := facp_le hg2 hg4 hp2 hp3 hT
  refine lv_aload_n hXX hBB dX3_fits_0 rfl (lv_at hl 0 rfl) ?_
  refine lv_iload_n hXX hBB dX3_fits_1 rfl (lv_at hl 1 rfl) ?_
  refine lv_iload_n hXX hBB dX3_fits_2 rfl (lv_at hl 2 rfl) ?_
  refine m_calli (wr := []) ⟨hXX, hBB, hml, hown, hts⟩ hN (kX3_evenly l D cI cZ h g p aR aB aA aO dm aD aP th rm aS aW aU aL aE aQ rg bd ab ob S rs rw us x y (by omega) (by omega) (by omega) (by omega) (by omega) (by assumption) (by assumption) (by assumption) (by assumption) (by omega)) (cwV 2 hts gX3_fits_X3_evenly rfl rfl rfl (by decide +kernel) ⟨Nat.le_of_ble_eq_true rfl, Nat.le_of_ble_eq_true rfl⟩) hK hP hD hS hAA [0, 1, 2, 3, 4, 5, 6, 7, 8] [] [0, 1] rfl rfl rfl (by decide) (by decide) (by decide) rfl 3 rfl rfl rfl rfl hl.1 rfl (Nat.le_of_ble_eq_true rfl) dX3_fits_3 ⟨Nat.le_of_ble_eq_true rfl, Nat.le_of_ble_eq_true rfl⟩ (k := 0) (n := 0) rfl rfl (fun r_1 u_ H locs hw hP hD hS => ?_)
  obtain ⟨thq, rm2, rs2, rw2, us2⟩ := u_
  have hw : (evPost g p rg bd ab ob S x y thq r_1) ∧ (rm2 ≤ 576) ∧ (∀ z, rs2 z < 4) ∧ (∀ z, rw2 z < 4) := hw
  obtain ⟨e_e, e_0, e_1, e_2⟩ := hw
  have hP : va_P D vwCl [(h, .inr (3, [.int (nI g), .int (nI p), .ref aR, .ref aB, .ref aA, .ref aO, .int (nI dm), .ref aD, .ref aP, .int (nI thq), .int (nI rm2), .ref aS, .ref aW, .ref aU, .ref aL, .ref aE, .ref aQ])), (aR, .inl (cI, 9, .inl (fun j => nI (rg j)))), (aB, .inl (cI, 6, .inl (fun j => nI (bd j)))), (aA, .inl (cZ, 81, .inl (fun j => bI (ab j)))), (aO, .inl (cZ, 81, .inl (fun j => bI (ob j)))), (aP, .inl (cI, 9, .inl S)), (aS, .inl (cI, 5184, .inl (fun j => nI (rs2 j)))), (aW, .inl (cI, 9, .inl (fun j => nI (rw2 j)))), (aU, .inl (cZ, 9, .inl (fun j => bI (us2 j))))] H := hP
  have hD : va_D AA [(h, .inr (3, [.int (nI g), .int (nI p), .ref aR, .ref aB, .ref aA, .ref aO, .int (nI dm), .ref aD, .ref aP, .int (nI thq), .int (nI rm2), .ref aS, .ref aW, .ref aU, .ref aL, .ref aE, .ref aQ])), (aR, .inl (cI, 9, .inl (fun j => nI (rg j)))), (aB, .inl (cI, 6, .inl (fun j => nI (bd j)))), (aA, .inl (cZ, 81, .inl (fun j => bI (ab j)))), (aO, .inl (cZ, 81, .inl (fun j => bI (ob j)))), (aP, .inl (cI, 9, .inl S)), (aS, .inl (cI, 5184, .inl (fun j => nI (rs2 j)))), (aW, .inl (cI, 9, .inl (fun j => nI (rw2 j)))), (aU, .inl (cZ, 9, .inl (fun j => bI (us2 j))))] := hD
  have hvb : ∃ v, v ≤ 576 ∧ r_1 = nI v ∧ (thq = 0 → ∃ t k, t < g * p ∧ k < g ∧ x = nI t ∧ y = nI k ∧ v = evN g p rg bd ab ob S t k) := by
    by_cases q9 : thq = 0
    · obtain ⟨t, k, h1, h2, h3, h4, h5⟩ := e_e.2.1 q9
      exact ⟨evN g p rg bd ab ob S t k, evN_le576 hg4 hfp h1, h5, fun _ => ⟨t, k, h1, h2, h3, h4, rfl⟩⟩
    · exact ⟨0, by omega, e_e.2.2 q9, fun q => absurd q q9⟩
  obtain ⟨v, hv1, hv2, hv3⟩ := hvb
  refine m_top (y := nI v) hv2 ?_
  refine lv_if_le (tgt := 13) hXX hBB dX3_fits_6 (by decide) (fun c_6 => ?_) (fun c_6 => ?_)
  · have c_6 : v = 0 := m_nps_le_t (by omega) c_6
    refine lv_iconst (v := nI 0) hXX hBB dX3_fits_13 (by decide) ?_
    refine hret (r := nI 0) (thq, rm2, rs2, rw2, us2) ?_ (rfl) (hP.sub [0, 1, 2, 3, 4, 5, 6, 7, 8] rfl) (hD.sub [0, 1, 2, 3, 4, 5, 6, 7, 8] (by decide) rfl) hS (Nat.le_of_ble_eq_true rfl) (Nat.le_of_ble_eq_true rfl) dX3_fits_14
    show (fiPost g p rg bd ab ob S x y thq (nI 0)) ∧ (rm2 ≤ 576) ∧ (∀ z, rs2 z < 4) ∧ (∀ z, rw2 z < 4)
    exact ⟨⟨e_e.1, fun q => by obtain ⟨t, k, h1, h2, h3, h4, h5⟩ := hv3 q; exact ⟨t, k, h1, h2, h3, h4, by rw [← h5]; simp [bI, c_6]⟩⟩, e_0, e_1, e_2⟩
  · have c_6 : 0 < v := m_pos_le_f (by omega) c_6
    refine lv_iconst (v := nI 1) hXX hBB dX3_fits_9 (by decide) ?_
    refine lv_goto (tgt := 14) hXX hBB dX3_fits_10 (by decide) ?_
    refine hret (r := nI 1) (thq, rm2, rs2, rw2, us2) ?_ (rfl) (hP.sub [0, 1, 2, 3, 4, 5, 6, 7, 8] rfl) (hD.sub [0, 1, 2, 3, 4, 5, 6, 7, 8] (by decide) rfl) hS (Nat.le_of_ble_eq_true rfl) (Nat.le_of_ble_eq_true rfl) dX3_fits_14
    show (fiPost g p rg bd ab ob S x y thq (nI 1)) ∧ (rm2 ≤ 576) ∧ (∀ z, rs2 z < 4) ∧ (∀ z, rw2 z < 4)
    exact ⟨⟨e_e.1, fun q => by obtain ⟨t, k, h1, h2, h3, h4, h5⟩ := hv3 q; exact ⟨t, k, h1, h2, h3, h4, by rw [← h5]; simp [bI, c_6]⟩⟩, e_0, e_1, e_2⟩
abbrev rmX3_forced : Room := { frames := 3, cells := 0, slots := 0, locals := 69 }
set_option maxHeartbeats 4000000 in
set_option maxRecDepth 100000 in
theorem kX3_forced (l : Launch) (D : va_G) (cI : ClassId) (cZ : ClassId) (h : Nat) (g : Nat) (p : Nat) (aR : Nat) (aB : Nat) (aA : Nat) (aO : Nat) (dm : Nat) (aD : Nat) (aP : Nat) (th : Nat) (rm : Nat) (aS : Nat) (aW : Nat) (aU : Nat) (aL : Nat) (aE : Nat) (aQ : Nat) (rg : Nat → Nat) (bd : Nat → Nat) (ab : Nat → Bool) (ob : Nat → Bool) (S : Nat → Int32) (rs : Nat → Nat) (rw : Nat → Nat) (us : Nat → Bool) (x : Int32) (hg2 : 2 ≤ g) (hg4 : g ≤ 4) (hp2 : 2 ≤ p) (hp3 : p ≤ 3) (hT : g * p ≤ 9) (hrg : ∀ z, z < 9 → rg z < 6) (hbd : ∀ z, z < 6 → bd z < 4) (hrs : ∀ z, rs z < 4) (hrw : ∀ z, rw z < 4) (hrm : rm ≤ 576) : Ci l yX3_forced wsX3_forced rmX3_forced D [(cI, .int), (cZ, .boolean)] [.ref h, .int x] [(h, .inr (3, [.int (nI g), .int (nI p), .ref aR, .ref aB, .ref aA, .ref aO, .int (nI dm), .ref aD, .ref aP, .int (nI th), .int (nI rm), .ref aS, .ref aW, .ref aU, .ref aL, .ref aE, .ref aQ])), (aR, .inl (cI, 9, .inl (fun j => nI (rg j)))), (aB, .inl (cI, 6, .inl (fun j => nI (bd j)))), (aA, .inl (cZ, 81, .inl (fun j => bI (ab j)))), (aO, .inl (cZ, 81, .inl (fun j => bI (ob j)))), (aP, .inl (cI, 9, .inl S)), (aS, .inl (cI, 5184, .inl (fun j => nI (rs j)))), (aW, .inl (cI, 9, .inl (fun j => nI (rw j)))), (aU, .inl (cZ, 9, .inl (fun j => bI (us j))))] (fun (r : Int32) (u : Nat × Nat × (Nat → Nat) × (Nat → Nat) × (Nat → Bool)) => (foPost g p rg bd ab ob S x u.1 r) ∧ (u.2.1 ≤ 576) ∧ (∀ z, u.2.2.1 z < 4) ∧ (∀ z, u.2.2.2.1 z < 4)) (fun (u : Nat × Nat × (Nat → Nat) × (Nat → Nat) × (Nat → Bool)) => [(h, .inr (3, [.int (nI g), .int (nI p), .ref aR, .ref aB, .ref aA, .ref aO, .int (nI dm), .ref aD, .ref aP, .int (nI u.1), .int (nI u.2.1), .ref aS, .ref aW, .ref aU, .ref aL, .ref aE, .ref aQ])), (aR, .inl (cI, 9, .inl (fun j => nI (rg j)))), (aB, .inl (cI, 6, .inl (fun j => nI (bd j)))), (aA, .inl (cZ, 81, .inl (fun j => bI (ab j)))), (aO, .inl (cZ, 81, .inl (fun j => bI (ob j)))), (aP, .inl (cI, 9, .inl S)), (aS, .inl (cI, 5184, .inl (fun j => nI (u.2.2.1 j)))), (aW, .inl (cI, 9, .inl (fun j => nI (u.2.2.2.1 j)))), (aU, .inl (cZ, 9, .inl (fun j => bI (u.2.2.2.2 j))))]) := by
  refine Ci_of (cc := cX3_forced) (maxL := 3) (by decide) rfl (Nat.le_of_ble_eq_true rfl) ?_
  intro pR eV sT mI args below meth cO AA QQ ls hXX hBB hml hown hts hnm hN hK hP hD hS hAA hl hret
  have hl : lv_has ls 3 [(0, .ref h), (1, .int x)] := hl
  have hgp : 0 < g * p := Nat.mul_pos (by omega) (by omega)
  have hfp := facp_le hg2 hg4 hp2 hp3 hT
  have kw_1 := hts (.fieldLink RX3 51 "CupDrawModel" "thrown" "I") (List.mem_of_getElem? (i := 1) rfl)
  have iw_X3 : ∀ w ∈ wsX30, w ∈ wsX3_forced := by decide +kernel
  have kw_2 := hts (.fieldLink RX3 84 "CupDrawModel" "resultMany" "I") (List.mem_of_getElem? (i := 2) rfl)
  refine lv_aload_n hXX hBB dX3_forced_0 rfl (lv_at hl 0 rfl) ?_
  refine lv_aload_n hXX hBB dX3_forced_1 rfl (lv_at hl 0 rfl) ?_
  refine lv_iload_n hXX hBB dX3_forced_2 rfl (lv_at hl 1 rfl) ?_
  refine m_calli (wr := [(aR, .inl (cI, 9, .inl (fun j => nI (rg j)))), (aB, .inl (cI, 6, .inl (fun j => nI (bd j)))), (aA, .inl (cZ, 81, .inl (fun j => bI (ab j)))), (aO, .inl (cZ, 81, .inl (fun j => bI (ob j)))), (aP, .inl (cI, 9, .inl S)), (aS, .inl (cI, 5184, .inl (fun j => nI (rs j)))), (aW, .inl (cI, 9, .inl (fun j => nI (rw j)))), (aU, .inl (cZ, 9, .inl (fun j => bI (us j))))]) ⟨hXX, hBB, hml, hown, hts⟩ hN (kX3_isTeam l D h g p aR aB aA aO dm aD aP th rm aS aW aU aL aE aQ x (hgp)) (cwV 1 hts gX3_forced_X3_isTeam rfl rfl rfl (by decide +kernel) ⟨Nat.le_of_ble_eq_true rfl, Nat.le_of_ble_eq_true rfl⟩) hK hP hD hS hAA [0] [1, 2, 3, 4, 5, 6, 7, 8] [] rfl rfl rfl (by decide) (by decide) (by decide) rfl 3 rfl rfl rfl rfl hl.1 rfl (Nat.le_of_ble_eq_true rfl) dX3_forced_3 ⟨Nat.le_of_ble_eq_true rfl, Nat.le_of_ble_eq_true rfl⟩ (k := 0) (n := 0) rfl rfl (fun r_1 u_ H locs hw hP hD hS => ?_)
  have hw : (r_1 = bI (inB x (nI 0) (nI (g * p - 1)))) := hw
  have hr_r_1 := hw
  have hP : va_P D vwCl [(aR, .inl (cI, 9, .inl (fun j => nI (rg j)))), (aB, .inl (cI, 6, .inl (fun j => nI (bd j)))), (aA, .inl (cZ, 81, .inl (fun j => bI (ab j)))), (aO, .inl (cZ, 81, .inl (fun j => bI (ob j)))), (aP, .inl (cI, 9, .inl S)), (aS, .inl (cI, 5184, .inl (fun j => nI (rs j)))), (aW, .inl (cI, 9, .inl (fun j => nI (rw j)))), (aU, .inl (cZ, 9, .inl (fun j => bI (us j)))), (h, .inr (3, [.int (nI g), .int (nI p), .ref aR, .ref aB, .ref aA, .ref aO, .int (nI dm), .ref aD, .ref aP, .int (nI th), .int (nI rm), .ref aS, .ref aW, .ref aU, .ref aL, .ref aE, .ref aQ]))] H := hP
  have hD : va_D AA [(aR, .inl (cI, 9, .inl (fun j => nI (rg j)))), (aB, .inl (cI, 6, .inl (fun j => nI (bd j)))), (aA, .inl (cZ, 81, .inl (fun j => bI (ab j)))), (aO, .inl (cZ, 81, .inl (fun j => bI (ob j)))), (aP, .inl (cI, 9, .inl S)), (aS, .inl (cI, 5184, .inl (fun j => nI (rs j)))), (aW, .inl (cI, 9, .inl (fun j => nI (rw j)))), (aU, .inl (cZ, 9, .inl (fun j => bI (us j)))), (h, .inr (3, [.int (nI g), .int (nI p), .ref aR, .ref aB, .ref aA, .ref aO, .int (nI dm), .ref aD, .ref aP, .int (nI th), .int (nI rm), .ref aS, .ref aW, .ref aU, .ref aL, .ref aE, .ref aQ]))] := hD
  subst hr_r_1
  refine lv_if_eq (tgt := 13) hXX hBB dX3_forced_6 (by decide) (fun c_6 => ?_) (fun c_6 => ?_)
  · have c_6 : (inB x (nI 0) (nI (g * p - 1))) = false := m_bz0 c_6
    refine lv_iconst (v := nI 1) hXX hBB dX3_forced_13 (by decide) ?_
    refine va_put (D := D) (ci := 3) (v := .int (nI 1)) (ty := .int) (C := RX3) (T := TX3) (N := 17) hXX hBB hts iw_X3 tyX3 tyX3_ok nmX3 hown hK hP hD hS 8 rfl rfl 9 (by decide) kw_1 (fun _ h9 => h9) rfl (by decide +kernel) (rfl) (rfl) (Nat.le_of_ble_eq_true rfl) dX3_forced_14 (fun H locs hP hD hS => ?_)
    have hP : va_P D vwCl [(aR, .inl (cI, 9, .inl (fun j => nI (rg j)))), (aB, .inl (cI, 6, .inl (fun j => nI (bd j)))), (aA, .inl (cZ, 81, .inl (fun j => bI (ab j)))), (aO, .inl (cZ, 81, .inl (fun j => bI (ob j)))), (aP, .inl (cI, 9, .inl S)), (aS, .inl (cI, 5184, .inl (fun j => nI (rs j)))), (aW, .inl (cI, 9, .inl (fun j => nI (rw j)))), (aU, .inl (cZ, 9, .inl (fun j => bI (us j)))), (h, .inr (3, [.int (nI g), .int (nI p), .ref aR, .ref aB, .ref aA, .ref aO, .int (nI dm), .ref aD, .ref aP, .int (nI 1), .int (nI rm), .ref aS, .ref aW, .ref aU, .ref aL, .ref aE, .ref aQ]))] H := hP
    have hD : va_D AA [(aR, .inl (cI, 9, .inl (fun j => nI (rg j)))), (aB, .inl (cI, 6, .inl (fun j => nI (bd j)))), (aA, .inl (cZ, 81, .inl (fun j => bI (ab j)))), (aO, .inl (cZ, 81, .inl (fun j => bI (ob j)))), (aP, .inl (cI, 9, .inl S)), (aS, .inl (cI, 5184, .inl (fun j => nI (rs j)))), (aW, .inl (cI, 9, .inl (fun j => nI (rw j)))), (aU, .inl (cZ, 9, .inl (fun j => bI (us j)))), (h, .inr (3, [.int (nI g), .int (nI p), .ref aR, .ref aB, .ref aA, .ref aO, .int (nI dm), .ref aD, .ref aP, .int (nI 1), .int (nI rm), .ref aS, .ref aW, .ref aU, .ref aL, .ref aE, .ref aQ]))] := hD
    refine lv_aload_n hXX hBB dX3_forced_17 rfl (lv_at hl 0 rfl) ?_
    refine va_get (D := D) (ci := 3) (v := .int (nI 1)) (C := RX3) (T := TX3) (N := 17) hXX hBB hts iw_X3 hown hK hP 8 rfl rfl 9 (by decide) kw_1 (fun _ h9 => h9) rfl dX3_forced_18 ?_
    refine lv_if_le (tgt := 26) hXX hBB dX3_forced_21 (by decide) (fun c_21 => ?_) (fun c_21 => ?_)
    · exact absurd c_21 (by decide)
    · have c_21 : 0 < 1 := m_pos_le_f (by omega) c_21
      refine lv_iconst (v := nI 0) hXX hBB dX3_forced_24 (by decide) ?_
      refine hret (r := nI 0) (1, rm, rs, rw, us) ?_ (rfl) (hP.sub [8, 0, 1, 2, 3, 4, 5, 6, 7] rfl) (hD.sub [8, 0, 1, 2, 3, 4, 5, 6, 7] (by decide) rfl) hS (Nat.le_of_ble_eq_true rfl) (Nat.le_of_ble_eq_true rfl) dX3_forced_25
      show (foPost g p rg bd ab ob S x 1 (nI 0)) ∧ (rm ≤ 576) ∧ (∀ z, rs z < 4) ∧ (∀ z, rw z < 4)
      exact ⟨⟨by simp [c_6], fun q => absurd q (by decide)⟩, hrm, hrs, hrw⟩
  · have c_6 : (inB x (nI 0) (nI (g * p - 1))) = true := m_bz1 c_6
    refine lv_iconst (v := nI 0) hXX hBB dX3_forced_9 (by decide) ?_
    refine lv_goto (tgt := 14) hXX hBB dX3_forced_10 (by decide) ?_
    refine va_put (D := D) (ci := 3) (v := .int (nI 0)) (ty := .int) (C := RX3) (T := TX3) (N := 17) hXX hBB hts iw_X3 tyX3 tyX3_ok nmX3 hown hK hP hD hS 8 rfl rfl 9 (by decide) kw_1 (fun _ h9 => h9) rfl (by decide +kernel) (rfl) (rfl) (Nat.le_of_ble_eq_true rfl) dX3_forced_14 (fun H locs hP hD hS => ?_)
    have hP : va_P D vwCl [(aR, .inl (cI, 9, .inl (fun j => nI (rg j)))), (aB, .inl (cI, 6, .inl (fun j => nI (bd j)))), (aA, .inl (cZ, 81, .inl (fun j => bI (ab j)))), (aO, .inl (cZ, 81, .inl (fun j => bI (ob j)))), (aP, .inl (cI, 9, .inl S)), (aS, .inl (cI, 5184, .inl (fun j => nI (rs j)))), (aW, .inl (cI, 9, .inl (fun j => nI (rw j)))), (aU, .inl (cZ, 9, .inl (fun j => bI (us j)))), (h, .inr (3, [.int (nI g), .int (nI p), .ref aR, .ref aB, .ref aA, .ref aO, .int (nI dm), .ref aD, .ref aP, .int (nI 0), .int (nI rm), .ref aS, .ref aW, .ref aU, .ref aL, .ref aE, .ref aQ]))] H := hP
    have hD : va_D AA [(aR, .inl (cI, 9, .inl (fun j => nI (rg j)))), (aB, .inl (cI, 6, .inl (fun j => nI (bd j)))), (aA, .inl (cZ, 81, .inl (fun j => bI (ab j)))), (aO, .inl (cZ, 81, .inl (fun j => bI (ob j)))), (aP, .inl (cI, 9, .inl S)), (aS, .inl (cI, 5184, .inl (fun j => nI (rs j)))), (aW, .inl (cI, 9, .inl (fun j => nI (rw j)))), (aU, .inl (cZ, 9, .inl (fun j => bI (us j)))), (h, .inr (3, [.int (nI g), .int (nI p), .ref aR, .ref aB, .ref aA, .ref aO, .int (nI dm), .ref aD, .ref aP, .int (nI 0), .int (nI rm), .ref aS, .ref aW, .ref aU, .ref aL, .ref aE, .ref aQ]))] := hD
    refine lv_aload_n hXX hBB dX3_forced_17 rfl (lv_at hl 0 rfl) ?_
    refine va_get (D := D) (ci := 3) (v := .int (nI 0)) (C := RX3) (T := TX3) (N := 17) hXX hBB hts iw_X3 hown hK hP 8 rfl rfl 9 (by decide) kw_1 (fun _ h9 => h9) rfl dX3_forced_18 ?_
    refine lv_if_le (tgt := 26) hXX hBB dX3_forced_21 (by decide) (fun c_21 => ?_) (fun c_21 => ?_)
    · have c_21 : 0 = 0 := m_nps_le_t (by omega) c_21
      obtain ⟨t, hlo_t, hhi_t, he_t⟩ := inB_nat (lo := 0) (hi := g * p - 1) (by omega) c_6
      have hl : lv_has ls 3 [(0, .ref h), (1, .int (nI t))] := by rw [he_t] at hl; exact hl
      refine lv_aload_n hXX hBB dX3_forced_26 rfl (lv_at hl 0 rfl) ?_
      refine m_callv (wr := []) ⟨hXX, hBB, hml, hown, hts⟩ hN (kX3_layResults l D cI cZ h g p aR aB aA aO dm aD aP 0 rm aS aW aU aL aE aQ rg bd ab ob S rs rw us (by omega) (by omega) (by omega) (by omega) (by omega) (by assumption) (by assumption) (by assumption) (by assumption)) (cwV 0 hts gX3_forced_X3_layResults rfl rfl rfl (by decide +kernel) ⟨Nat.le_of_ble_eq_true rfl, Nat.le_of_ble_eq_true rfl⟩) hK hP hD hS hAA [8, 0, 1, 2, 3, 4, 5, 6, 7] [] [0, 1] rfl rfl rfl (by decide) (by decide) (by decide) rfl 3 rfl rfl rfl rfl hl.1 rfl (Nat.le_of_ble_eq_true rfl) dX3_forced_27 ⟨Nat.le_of_ble_eq_true rfl, Nat.le_of_ble_eq_true rfl⟩ (k := 0) (n := 0) rfl rfl (fun  u_ H locs hw hP hD hS => ?_)
      obtain ⟨rm2, rs2, rw2, us2⟩ := u_
      have hw : (rm2 ≤ 576) ∧ (∀ z, rs2 z < 4) ∧ (∀ z, rw2 z < 4) ∧ (∀ w : Nat → Nat, sm (fun z => w (cdR rs2 z (g * p))) rm2 = RS g p rg bd ab ob S w) := hw
      obtain ⟨e_1, e_2, e_3, e_4⟩ := hw
      have hP : va_P D vwCl [(h, .inr (3, [.int (nI g), .int (nI p), .ref aR, .ref aB, .ref aA, .ref aO, .int (nI dm), .ref aD, .ref aP, .int (nI 0), .int (nI rm2), .ref aS, .ref aW, .ref aU, .ref aL, .ref aE, .ref aQ])), (aR, .inl (cI, 9, .inl (fun j => nI (rg j)))), (aB, .inl (cI, 6, .inl (fun j => nI (bd j)))), (aA, .inl (cZ, 81, .inl (fun j => bI (ab j)))), (aO, .inl (cZ, 81, .inl (fun j => bI (ob j)))), (aP, .inl (cI, 9, .inl S)), (aS, .inl (cI, 5184, .inl (fun j => nI (rs2 j)))), (aW, .inl (cI, 9, .inl (fun j => nI (rw2 j)))), (aU, .inl (cZ, 9, .inl (fun j => bI (us2 j))))] H := hP
      have hD : va_D AA [(h, .inr (3, [.int (nI g), .int (nI p), .ref aR, .ref aB, .ref aA, .ref aO, .int (nI dm), .ref aD, .ref aP, .int (nI 0), .int (nI rm2), .ref aS, .ref aW, .ref aU, .ref aL, .ref aE, .ref aQ])), (aR, .inl (cI, 9, .inl (fun j => nI (rg j)))), (aB, .inl (cI, 6, .inl (fun j => nI (bd j)))), (aA, .inl (cZ, 81, .inl (fun j => bI (ab j)))), (aO, .inl (cZ, 81, .inl (fun j => bI (ob j)))), (aP, .inl (cI, 9, .inl S)), (aS, .inl (cI, 5184, .inl (fun j => nI (rs2 j)))), (aW, .inl (cI, 9, .inl (fun j => nI (rw2 j)))), (aU, .inl (cZ, 9, .inl (fun j => bI (us2 j))))] := hD
      have hLR : LR g p rg bd ab ob S rm2 rs2 := ⟨e_1, e_2, e_4⟩
      refine lv_aload_n hXX hBB dX3_forced_30 rfl (lv_at hl 0 rfl) ?_
      refine lv_iload_n hXX hBB dX3_forced_31 rfl (lv_at hl 1 rfl) ?_
      refine m_calli (wr := [(aR, .inl (cI, 9, .inl (fun j => nI (rg j)))), (aB, .inl (cI, 6, .inl (fun j => nI (bd j)))), (aA, .inl (cZ, 81, .inl (fun j => bI (ab j)))), (aO, .inl (cZ, 81, .inl (fun j => bI (ob j)))), (aP, .inl (cI, 9, .inl S)), (aW, .inl (cI, 9, .inl (fun j => nI (rw2 j)))), (aU, .inl (cZ, 9, .inl (fun j => bI (us2 j))))]) ⟨hXX, hBB, hml, hown, hts⟩ hN (kX3_lowestFor l D cI h g p aR aB aA aO dm aD aP 0 rm2 aS aW aU aL aE aQ rs2 t (by exact e_1) (by exact fun z _ => e_2 z) (by omega) (by omega)) (cwV 1 hts gX3_forced_X3_lowestFor rfl rfl rfl (by decide +kernel) ⟨Nat.le_of_ble_eq_true rfl, Nat.le_of_ble_eq_true rfl⟩) hK hP hD hS hAA [0, 6] [1, 2, 3, 4, 5, 7, 8] [0] rfl rfl rfl (by decide) (by decide) (by decide) rfl 3 rfl rfl rfl rfl hl.1 rfl (Nat.le_of_ble_eq_true rfl) dX3_forced_32 ⟨Nat.le_of_ble_eq_true rfl, Nat.le_of_ble_eq_true rfl⟩ (k := 0) (n := 0) rfl rfl (fun r_2 u_ H locs hw hP hD hS => ?_)
      have hw : (r_2 = lowR (fun zq => ct (fun z => decide (rs2 (9 * z + t) = zq)) rm2) g 0) := hw
      have hr_r_2 := hw
      have hP : va_P D vwCl [(aR, .inl (cI, 9, .inl (fun j => nI (rg j)))), (aB, .inl (cI, 6, .inl (fun j => nI (bd j)))), (aA, .inl (cZ, 81, .inl (fun j => bI (ab j)))), (aO, .inl (cZ, 81, .inl (fun j => bI (ob j)))), (aP, .inl (cI, 9, .inl S)), (aW, .inl (cI, 9, .inl (fun j => nI (rw2 j)))), (aU, .inl (cZ, 9, .inl (fun j => bI (us2 j)))), (h, .inr (3, [.int (nI g), .int (nI p), .ref aR, .ref aB, .ref aA, .ref aO, .int (nI dm), .ref aD, .ref aP, .int (nI 0), .int (nI rm2), .ref aS, .ref aW, .ref aU, .ref aL, .ref aE, .ref aQ])), (aS, .inl (cI, 5184, .inl (fun j => nI (rs2 j))))] H := hP
      have hD : va_D AA [(aR, .inl (cI, 9, .inl (fun j => nI (rg j)))), (aB, .inl (cI, 6, .inl (fun j => nI (bd j)))), (aA, .inl (cZ, 81, .inl (fun j => bI (ab j)))), (aO, .inl (cZ, 81, .inl (fun j => bI (ob j)))), (aP, .inl (cI, 9, .inl S)), (aW, .inl (cI, 9, .inl (fun j => nI (rw2 j)))), (aU, .inl (cZ, 9, .inl (fun j => bI (us2 j)))), (h, .inr (3, [.int (nI g), .int (nI p), .ref aR, .ref aB, .ref aA, .ref aO, .int (nI dm), .ref aD, .ref aP, .int (nI 0), .int (nI rm2), .ref aS, .ref aW, .ref aU, .ref aL, .ref aE, .ref aQ])), (aS, .inl (cI, 5184, .inl (fun j => nI (rs2 j))))] := hD
      subst hr_r_2
      refine m_top (y := loI32 g p rg bd ab ob S t) (by exact LR_low hLR (by omega)) ?_
      refine lv_istore_n (lv' := [(2, .int (loI32 g p rg bd ab ob S t)), (0, .ref h), (1, .int (nI t))]) hXX hBB dX3_forced_35 rfl hl (by decide) rfl (fun ls hl => ?_)
      refine lv_iload_n hXX hBB dX3_forced_36 rfl (lv_at hl 0 rfl) ?_
      refine lv_iconst (v := (-1)) hXX hBB dX3_forced_37 (by decide) ?_
      refine lv_icmp_eq (tgt := 58) hXX hBB dX3_forced_38 (by decide) (fun c_38 => ?_) (fun c_38 => ?_)
      · have c_38 := c_38
        refine lv_iconst (v := (-1)) hXX hBB dX3_forced_58 (by decide) ?_
        refine hret (r := (-1)) (0, rm2, rs2, rw2, us2) ?_ (rfl) (hP.sub [7, 0, 1, 2, 3, 4, 8, 5, 6] rfl) (hD.sub [7, 0, 1, 2, 3, 4, 8, 5, 6] (by decide) rfl) hS (Nat.le_of_ble_eq_true rfl) (Nat.le_of_ble_eq_true rfl) dX3_forced_59
        show (foPost g p rg bd ab ob S x 0 (-1)) ∧ (rm2 ≤ 576) ∧ (∀ z, rs2 z < 4) ∧ (∀ z, rw2 z < 4)
        exact ⟨⟨by simp [c_6], fun _ => ⟨t, by omega, he_t, by first | (rw [foN, if_neg (fun q => loI_none hg4 c_38 q.1)]; done) | (rw [foN, if_neg (fun q => c_51 (by rw [LR_rm hLR]; exact q.2))]; done)⟩⟩, e_1, e_2, e_3⟩
      · have c_38 := c_38
        
        obtain ⟨hlow, hle⟩ := loI_some c_38
        have hl : lv_has ls 3 [(2, .int (nI (lowC g p rg bd ab ob S t))), (0, .ref h), (1, .int (nI t))] := by rw [hle] at hl; exact hl
        refine lv_aload_n hXX hBB dX3_forced_41 rfl (lv_at hl 1 rfl) ?_
        refine lv_iload_n hXX hBB dX3_forced_42 rfl (lv_at hl 2 rfl) ?_
        refine lv_iload_n hXX hBB dX3_forced_43 rfl (lv_at hl 0 rfl) ?_
        refine m_calli (wr := [(aR, .inl (cI, 9, .inl (fun j => nI (rg j)))), (aB, .inl (cI, 6, .inl (fun j => nI (bd j)))), (aA, .inl (cZ, 81, .inl (fun j => bI (ab j)))), (aO, .inl (cZ, 81, .inl (fun j => bI (ob j)))), (aP, .inl (cI, 9, .inl S)), (aW, .inl (cI, 9, .inl (fun j => nI (rw2 j)))), (aU, .inl (cZ, 9, .inl (fun j => bI (us2 j))))]) ⟨hXX, hBB, hml, hown, hts⟩ hN (kX3_countIn l D cI h g p aR aB aA aO dm aD aP 0 rm2 aS aW aU aL aE aQ rs2 t (lowC g p rg bd ab ob S t) (by exact e_1) (by exact fun z _ => e_2 z) (by omega) (by omega)) (cwV 2 hts gX3_forced_X3_countIn rfl rfl rfl (by decide +kernel) ⟨Nat.le_of_ble_eq_true rfl, Nat.le_of_ble_eq_true rfl⟩) hK hP hD hS hAA [7, 8] [0, 1, 2, 3, 4, 5, 6] [0] rfl rfl rfl (by decide) (by decide) (by decide) rfl 3 rfl rfl rfl rfl hl.1 rfl (Nat.le_of_ble_eq_true rfl) dX3_forced_44 ⟨Nat.le_of_ble_eq_true rfl, Nat.le_of_ble_eq_true rfl⟩ (k := 0) (n := 0) rfl rfl (fun r_3 u_ H locs hw hP hD hS => ?_)
        have hw : (r_3 = nI (ct (fun z => decide (rs2 (9 * z + t) = (lowC g p rg bd ab ob S t))) rm2)) := hw
        have hr_r_3 := hw
        have hP : va_P D vwCl [(aR, .inl (cI, 9, .inl (fun j => nI (rg j)))), (aB, .inl (cI, 6, .inl (fun j => nI (bd j)))), (aA, .inl (cZ, 81, .inl (fun j => bI (ab j)))), (aO, .inl (cZ, 81, .inl (fun j => bI (ob j)))), (aP, .inl (cI, 9, .inl S)), (aW, .inl (cI, 9, .inl (fun j => nI (rw2 j)))), (aU, .inl (cZ, 9, .inl (fun j => bI (us2 j)))), (h, .inr (3, [.int (nI g), .int (nI p), .ref aR, .ref aB, .ref aA, .ref aO, .int (nI dm), .ref aD, .ref aP, .int (nI 0), .int (nI rm2), .ref aS, .ref aW, .ref aU, .ref aL, .ref aE, .ref aQ])), (aS, .inl (cI, 5184, .inl (fun j => nI (rs2 j))))] H := hP
        have hD : va_D AA [(aR, .inl (cI, 9, .inl (fun j => nI (rg j)))), (aB, .inl (cI, 6, .inl (fun j => nI (bd j)))), (aA, .inl (cZ, 81, .inl (fun j => bI (ab j)))), (aO, .inl (cZ, 81, .inl (fun j => bI (ob j)))), (aP, .inl (cI, 9, .inl S)), (aW, .inl (cI, 9, .inl (fun j => nI (rw2 j)))), (aU, .inl (cZ, 9, .inl (fun j => bI (us2 j)))), (h, .inr (3, [.int (nI g), .int (nI p), .ref aR, .ref aB, .ref aA, .ref aO, .int (nI dm), .ref aD, .ref aP, .int (nI 0), .int (nI rm2), .ref aS, .ref aW, .ref aU, .ref aL, .ref aE, .ref aQ])), (aS, .inl (cI, 5184, .inl (fun j => nI (rs2 j))))] := hD
        subst hr_r_3
        refine m_top (y := nI (evN g p rg bd ab ob S t (lowC g p rg bd ab ob S t))) (by rw [LR_ev hLR (by omega)]) ?_
        refine lv_aload_n hXX hBB dX3_forced_47 rfl (lv_at hl 1 rfl) ?_
        refine va_get (D := D) (ci := 3) (v := .int (nI rm2)) (C := RX3) (T := TX3) (N := 17) hXX hBB hts iw_X3 hown hK hP 7 rfl rfl 10 (by decide) kw_2 (fun _ h9 => h9) rfl dX3_forced_48 ?_
        refine lv_icmp_ne (tgt := 58) hXX hBB dX3_forced_51 (by decide) (fun c_51 => ?_) (fun c_51 => ?_)
        · have c_51 : ¬ (evN g p rg bd ab ob S t (lowC g p rg bd ab ob S t)) = rm2 := fun h9 => c_51 ((nI_eq (by first | omega | (have h9 := evN_le576 (rg := rg) (bd := bd) (ab := ab) (ob := ob) (S := S) (p := p) (t := t) (k := lowC g p rg bd ab ob S t) hg4 hfp (by omega); omega)) (by first | omega | (have h9 := evN_le576 (rg := rg) (bd := bd) (ab := ab) (ob := ob) (S := S) (p := p) (t := t) (k := lowC g p rg bd ab ob S t) hg4 hfp (by omega); omega))).mpr h9)
          
          refine lv_iconst (v := (-1)) hXX hBB dX3_forced_58 (by decide) ?_
          refine hret (r := (-1)) (0, rm2, rs2, rw2, us2) ?_ (rfl) (hP.sub [7, 0, 1, 2, 3, 4, 8, 5, 6] rfl) (hD.sub [7, 0, 1, 2, 3, 4, 8, 5, 6] (by decide) rfl) hS (Nat.le_of_ble_eq_true rfl) (Nat.le_of_ble_eq_true rfl) dX3_forced_59
          show (foPost g p rg bd ab ob S x 0 (-1)) ∧ (rm2 ≤ 576) ∧ (∀ z, rs2 z < 4) ∧ (∀ z, rw2 z < 4)
          exact ⟨⟨by simp [c_6], fun _ => ⟨t, by omega, he_t, by first | (rw [foN, if_neg (fun q => loI_none hg4 c_38 q.1)]; done) | (rw [foN, if_neg (fun q => c_51 (by rw [LR_rm hLR]; exact q.2))]; done)⟩⟩, e_1, e_2, e_3⟩
        · have c_51 : (evN g p rg bd ab ob S t (lowC g p rg bd ab ob S t)) = rm2 := (nI_eq (by first | omega | (have h9 := evN_le576 (rg := rg) (bd := bd) (ab := ab) (ob := ob) (S := S) (p := p) (t := t) (k := lowC g p rg bd ab ob S t) hg4 hfp (by omega); omega)) (by first | omega | (have h9 := evN_le576 (rg := rg) (bd := bd) (ab := ab) (ob := ob) (S := S) (p := p) (t := t) (k := lowC g p rg bd ab ob S t) hg4 hfp (by omega); omega))).mp c_51
          refine lv_iload_n hXX hBB dX3_forced_54 rfl (lv_at hl 0 rfl) ?_
          refine lv_goto (tgt := 59) hXX hBB dX3_forced_55 (by decide) ?_
          refine hret (r := nI (lowC g p rg bd ab ob S t)) (0, rm2, rs2, rw2, us2) ?_ (rfl) (hP.sub [7, 0, 1, 2, 3, 4, 8, 5, 6] rfl) (hD.sub [7, 0, 1, 2, 3, 4, 8, 5, 6] (by decide) rfl) hS (Nat.le_of_ble_eq_true rfl) (Nat.le_of_ble_eq_true rfl) dX3_forced_59
          show (foPost g p rg bd ab ob S x 0 (nI (lowC g p rg bd ab ob S t))) ∧ (rm2 ≤ 576) ∧ (∀ z, rs2 z < 4) ∧ (∀ z, rw2 z < 4)
          exact ⟨⟨by simp [c_6], fun _ => ⟨t, by omega, he_t, by rw [foN, if_pos ⟨hlow, by rw [← LR_rm hLR]; exact c_51⟩]⟩⟩, e_1, e_2, e_3⟩
    · exact absurd (by decide) c_21
abbrev rmX3_draw : Room := { frames := 3, cells := 0, slots := 0, locals := 69 }
set_option maxHeartbeats 4000000 in
set_option maxRecDepth 100000 in
theorem kX3_draw (l : Launch) (D : va_G) (cI : ClassId) (cZ : ClassId) (h : Nat) (g : Nat) (p : Nat) (aR : Nat) (aB : Nat) (aA : Nat) (aO : Nat) (dm : Nat) (aD : Nat) (aP : Nat) (th : Nat) (rm : Nat) (aS : Nat) (aW : Nat) (aU : Nat) (aL : Nat) (aE : Nat) (aQ : Nat) (rg : Nat → Nat) (bd : Nat → Nat) (ab : Nat → Bool) (ob : Nat → Bool) (dt : Nat → Nat) (S : Nat → Int32) (rs : Nat → Nat) (rw : Nat → Nat) (us : Nat → Bool) (x : Int32) (hg2 : 2 ≤ g) (hg4 : g ≤ 4) (hp2 : 2 ≤ p) (hp3 : p ≤ 3) (hT : g * p ≤ 9) (hrg : ∀ z, z < 9 → rg z < 6) (hbd : ∀ z, z < 6 → bd z < 4) (hrs : ∀ z, rs z < 4) (hrw : ∀ z, rw z < 4) (hdm : dm ≤ g * p) (hV : VS g p dm S) : Ci l yX3_draw wsX3_draw rmX3_draw D [(cI, .int), (cZ, .boolean)] [.ref h, .int x] [(h, .inr (3, [.int (nI g), .int (nI p), .ref aR, .ref aB, .ref aA, .ref aO, .int (nI dm), .ref aD, .ref aP, .int (nI th), .int (nI rm), .ref aS, .ref aW, .ref aU, .ref aL, .ref aE, .ref aQ])), (aR, .inl (cI, 9, .inl (fun j => nI (rg j)))), (aB, .inl (cI, 6, .inl (fun j => nI (bd j)))), (aA, .inl (cZ, 81, .inl (fun j => bI (ab j)))), (aO, .inl (cZ, 81, .inl (fun j => bI (ob j)))), (aD, .inl (cI, 9, .inl (fun j => nI (dt j)))), (aP, .inl (cI, 9, .inl S)), (aS, .inl (cI, 5184, .inl (fun j => nI (rs j)))), (aW, .inl (cI, 9, .inl (fun j => nI (rw j)))), (aU, .inl (cZ, 9, .inl (fun j => bI (us j))))] (fun (r : Int32) (u : Nat × Nat × (Nat → Int32) × (Nat → Nat) × Nat × (Nat → Nat) × (Nat → Nat) × (Nat → Bool)) => (drPost g p dm rg bd ab ob S dt x u.1 u.2.1 u.2.2.1 u.2.2.2.1 r) ∧ (u.2.2.2.2.1 ≤ 576) ∧ (∀ z, u.2.2.2.2.2.1 z < 4) ∧ (∀ z, u.2.2.2.2.2.2.1 z < 4)) (fun (u : Nat × Nat × (Nat → Int32) × (Nat → Nat) × Nat × (Nat → Nat) × (Nat → Nat) × (Nat → Bool)) => [(h, .inr (3, [.int (nI g), .int (nI p), .ref aR, .ref aB, .ref aA, .ref aO, .int (nI u.2.1), .ref aD, .ref aP, .int (nI u.1), .int (nI u.2.2.2.2.1), .ref aS, .ref aW, .ref aU, .ref aL, .ref aE, .ref aQ])), (aR, .inl (cI, 9, .inl (fun j => nI (rg j)))), (aB, .inl (cI, 6, .inl (fun j => nI (bd j)))), (aA, .inl (cZ, 81, .inl (fun j => bI (ab j)))), (aO, .inl (cZ, 81, .inl (fun j => bI (ob j)))), (aD, .inl (cI, 9, .inl (fun j => nI (u.2.2.2.1 j)))), (aP, .inl (cI, 9, .inl u.2.2.1)), (aS, .inl (cI, 5184, .inl (fun j => nI (u.2.2.2.2.2.1 j)))), (aW, .inl (cI, 9, .inl (fun j => nI (u.2.2.2.2.2.2.1 j)))), (aU, .inl (cZ, 9, .inl (fun j => bI (u.2.2.2.2.2.2.2 j))))]) := by
  refine Ci_of (cc := cX3_draw) (maxL := 3) (by decide) rfl (Nat.le_of_ble_eq_true rfl) ?_
  intro pR eV sT mI args below meth cO AA QQ ls hXX hBB hml hown hts hnm hN hK hP hD hS hAA hl hret
  have hl : lv_has ls 3 [(0, .ref h), (1, .int x)] := hl
  have hle := leN_le dm g p
  have kw_1 := hts (.fieldLink RX3 61 "CupDrawModel" "drawnMany" "I") (List.mem_of_getElem? (i := 1) rfl)
  have iw_X3 : ∀ w ∈ wsX30, w ∈ wsX3_draw := by decide +kernel
  have kw_3 := hts (.fieldLink RX3 51 "CupDrawModel" "thrown" "I") (List.mem_of_getElem? (i := 3) rfl)
  have kw_2 := hts (.fieldLink RX3 84 "CupDrawModel" "resultMany" "I") (List.mem_of_getElem? (i := 2) rfl)
  have kw_4 := hts (.fieldLink RX3 26 "CupDrawModel" "places" "[I") (List.mem_of_getElem? (i := 4) rfl)
  have kw_5 := hts (.fieldLink RX3 23 "CupDrawModel" "drawnTeams" "[I") (List.mem_of_getElem? (i := 5) rfl)
  refine lv_aload_n hXX hBB dX3_draw_0 rfl (lv_at hl 0 rfl) ?_
  refine m_callv (wr := [(aD, .inl (cI, 9, .inl (fun j => nI (dt j))))]) ⟨hXX, hBB, hml, hown, hts⟩ hN (kX3_layResults l D cI cZ h g p aR aB aA aO dm aD aP th rm aS aW aU aL aE aQ rg bd ab ob S rs rw us (by omega) (by omega) (by omega) (by omega) (by omega) (by assumption) (by assumption) (by assumption) (by assumption)) (cwV 0 hts gX3_draw_X3_layResults rfl rfl rfl (by decide +kernel) ⟨Nat.le_of_ble_eq_true rfl, Nat.le_of_ble_eq_true rfl⟩) hK hP hD hS hAA [0, 1, 2, 3, 4, 6, 7, 8, 9] [5] [0, 1] rfl rfl rfl (by decide) (by decide) (by decide) rfl 3 rfl rfl rfl rfl hl.1 rfl (Nat.le_of_ble_eq_true rfl) dX3_draw_1 ⟨Nat.le_of_ble_eq_true rfl, Nat.le_of_ble_eq_true rfl⟩ (k := 0) (n := 0) rfl rfl (fun  u_ H locs hw hP hD hS => ?_)
  obtain ⟨rm2, rs2, rw2, us2⟩ := u_
  have hw : (rm2 ≤ 576) ∧ (∀ z, rs2 z < 4) ∧ (∀ z, rw2 z < 4) ∧ (∀ w : Nat → Nat, sm (fun z => w (cdR rs2 z (g * p))) rm2 = RS g p rg bd ab ob S w) := hw
  obtain ⟨e_1, e_2, e_3, e_4⟩ := hw
  have hP : va_P D vwCl [(aD, .inl (cI, 9, .inl (fun j => nI (dt j)))), (h, .inr (3, [.int (nI g), .int (nI p), .ref aR, .ref aB, .ref aA, .ref aO, .int (nI dm), .ref aD, .ref aP, .int (nI th), .int (nI rm2), .ref aS, .ref aW, .ref aU, .ref aL, .ref aE, .ref aQ])), (aR, .inl (cI, 9, .inl (fun j => nI (rg j)))), (aB, .inl (cI, 6, .inl (fun j => nI (bd j)))), (aA, .inl (cZ, 81, .inl (fun j => bI (ab j)))), (aO, .inl (cZ, 81, .inl (fun j => bI (ob j)))), (aP, .inl (cI, 9, .inl S)), (aS, .inl (cI, 5184, .inl (fun j => nI (rs2 j)))), (aW, .inl (cI, 9, .inl (fun j => nI (rw2 j)))), (aU, .inl (cZ, 9, .inl (fun j => bI (us2 j))))] H := hP
  have hD : va_D AA [(aD, .inl (cI, 9, .inl (fun j => nI (dt j)))), (h, .inr (3, [.int (nI g), .int (nI p), .ref aR, .ref aB, .ref aA, .ref aO, .int (nI dm), .ref aD, .ref aP, .int (nI th), .int (nI rm2), .ref aS, .ref aW, .ref aU, .ref aL, .ref aE, .ref aQ])), (aR, .inl (cI, 9, .inl (fun j => nI (rg j)))), (aB, .inl (cI, 6, .inl (fun j => nI (bd j)))), (aA, .inl (cZ, 81, .inl (fun j => bI (ab j)))), (aO, .inl (cZ, 81, .inl (fun j => bI (ob j)))), (aP, .inl (cI, 9, .inl S)), (aS, .inl (cI, 5184, .inl (fun j => nI (rs2 j)))), (aW, .inl (cI, 9, .inl (fun j => nI (rw2 j)))), (aU, .inl (cZ, 9, .inl (fun j => bI (us2 j))))] := hD
  have hLR : LR g p rg bd ab ob S rm2 rs2 := ⟨e_1, e_2, e_4⟩
  refine lv_aload_n hXX hBB dX3_draw_4 rfl (lv_at hl 0 rfl) ?_
  refine lv_aload_n hXX hBB dX3_draw_5 rfl (lv_at hl 0 rfl) ?_
  refine va_get (D := D) (ci := 3) (v := .int (nI dm)) (C := RX3) (T := TX3) (N := 17) hXX hBB hts iw_X3 hown hK hP 1 rfl rfl 6 (by decide) kw_1 (fun _ h9 => h9) rfl dX3_draw_6 ?_
  refine lv_aload_n hXX hBB dX3_draw_9 rfl (lv_at hl 0 rfl) ?_
  refine m_calli (wr := [(aD, .inl (cI, 9, .inl (fun j => nI (dt j)))), (aR, .inl (cI, 9, .inl (fun j => nI (rg j)))), (aB, .inl (cI, 6, .inl (fun j => nI (bd j)))), (aA, .inl (cZ, 81, .inl (fun j => bI (ab j)))), (aO, .inl (cZ, 81, .inl (fun j => bI (ob j)))), (aP, .inl (cI, 9, .inl S)), (aS, .inl (cI, 5184, .inl (fun j => nI (rs2 j)))), (aW, .inl (cI, 9, .inl (fun j => nI (rw2 j)))), (aU, .inl (cZ, 9, .inl (fun j => bI (us2 j))))]) ⟨hXX, hBB, hml, hown, hts⟩ hN (kX3_teamMany l D h g p aR aB aA aO dm aD aP th rm2 aS aW aU aL aE aQ) (cwV 0 hts gX3_draw_X3_teamMany rfl rfl rfl (by decide +kernel) ⟨Nat.le_of_ble_eq_true rfl, Nat.le_of_ble_eq_true rfl⟩) hK hP hD hS hAA [1] [0, 2, 3, 4, 5, 6, 7, 8, 9] [] rfl rfl rfl (by decide) (by decide) (by decide) rfl 3 rfl rfl rfl rfl hl.1 rfl (Nat.le_of_ble_eq_true rfl) dX3_draw_10 ⟨Nat.le_of_ble_eq_true rfl, Nat.le_of_ble_eq_true rfl⟩ (k := 0) (n := 0) rfl rfl (fun r_1 u_ H locs hw hP hD hS => ?_)
  have hw : (r_1 = nI (g * p)) := hw
  have hr_r_1 := hw
  have hP : va_P D vwCl [(aD, .inl (cI, 9, .inl (fun j => nI (dt j)))), (aR, .inl (cI, 9, .inl (fun j => nI (rg j)))), (aB, .inl (cI, 6, .inl (fun j => nI (bd j)))), (aA, .inl (cZ, 81, .inl (fun j => bI (ab j)))), (aO, .inl (cZ, 81, .inl (fun j => bI (ob j)))), (aP, .inl (cI, 9, .inl S)), (aS, .inl (cI, 5184, .inl (fun j => nI (rs2 j)))), (aW, .inl (cI, 9, .inl (fun j => nI (rw2 j)))), (aU, .inl (cZ, 9, .inl (fun j => bI (us2 j)))), (h, .inr (3, [.int (nI g), .int (nI p), .ref aR, .ref aB, .ref aA, .ref aO, .int (nI dm), .ref aD, .ref aP, .int (nI th), .int (nI rm2), .ref aS, .ref aW, .ref aU, .ref aL, .ref aE, .ref aQ]))] H := hP
  have hD : va_D AA [(aD, .inl (cI, 9, .inl (fun j => nI (dt j)))), (aR, .inl (cI, 9, .inl (fun j => nI (rg j)))), (aB, .inl (cI, 6, .inl (fun j => nI (bd j)))), (aA, .inl (cZ, 81, .inl (fun j => bI (ab j)))), (aO, .inl (cZ, 81, .inl (fun j => bI (ob j)))), (aP, .inl (cI, 9, .inl S)), (aS, .inl (cI, 5184, .inl (fun j => nI (rs2 j)))), (aW, .inl (cI, 9, .inl (fun j => nI (rw2 j)))), (aU, .inl (cZ, 9, .inl (fun j => bI (us2 j)))), (h, .inr (3, [.int (nI g), .int (nI p), .ref aR, .ref aB, .ref aA, .ref aO, .int (nI dm), .ref aD, .ref aP, .int (nI th), .int (nI rm2), .ref aS, .ref aW, .ref aU, .ref aL, .ref aE, .ref aQ]))] := hD
  subst hr_r_1
  refine lv_icmp_eq (tgt := 23) hXX hBB dX3_draw_13 (by decide) (fun c_13 => ?_) (fun c_13 => ?_)
  · have c_13 : dm = (g * p) := (nI_eq (by omega) (by omega)).mp c_13
    refine lv_iconst (v := nI 1) hXX hBB dX3_draw_23 (by decide) ?_
    refine lv_goto (tgt := 46) hXX hBB dX3_draw_24 (by decide) ?_
    refine va_put (D := D) (ci := 3) (v := .int (nI 1)) (ty := .int) (C := RX3) (T := TX3) (N := 17) hXX hBB hts iw_X3 tyX3 tyX3_ok nmX3 hown hK hP hD hS 9 rfl rfl 9 (by decide) kw_3 (fun _ h9 => h9) rfl (by decide +kernel) (rfl) (rfl) (Nat.le_of_ble_eq_true rfl) dX3_draw_46 (fun H locs hP hD hS => ?_)
    have hP : va_P D vwCl [(aD, .inl (cI, 9, .inl (fun j => nI (dt j)))), (aR, .inl (cI, 9, .inl (fun j => nI (rg j)))), (aB, .inl (cI, 6, .inl (fun j => nI (bd j)))), (aA, .inl (cZ, 81, .inl (fun j => bI (ab j)))), (aO, .inl (cZ, 81, .inl (fun j => bI (ob j)))), (aP, .inl (cI, 9, .inl S)), (aS, .inl (cI, 5184, .inl (fun j => nI (rs2 j)))), (aW, .inl (cI, 9, .inl (fun j => nI (rw2 j)))), (aU, .inl (cZ, 9, .inl (fun j => bI (us2 j)))), (h, .inr (3, [.int (nI g), .int (nI p), .ref aR, .ref aB, .ref aA, .ref aO, .int (nI dm), .ref aD, .ref aP, .int (nI 1), .int (nI rm2), .ref aS, .ref aW, .ref aU, .ref aL, .ref aE, .ref aQ]))] H := hP
    have hD : va_D AA [(aD, .inl (cI, 9, .inl (fun j => nI (dt j)))), (aR, .inl (cI, 9, .inl (fun j => nI (rg j)))), (aB, .inl (cI, 6, .inl (fun j => nI (bd j)))), (aA, .inl (cZ, 81, .inl (fun j => bI (ab j)))), (aO, .inl (cZ, 81, .inl (fun j => bI (ob j)))), (aP, .inl (cI, 9, .inl S)), (aS, .inl (cI, 5184, .inl (fun j => nI (rs2 j)))), (aW, .inl (cI, 9, .inl (fun j => nI (rw2 j)))), (aU, .inl (cZ, 9, .inl (fun j => bI (us2 j)))), (h, .inr (3, [.int (nI g), .int (nI p), .ref aR, .ref aB, .ref aA, .ref aO, .int (nI dm), .ref aD, .ref aP, .int (nI 1), .int (nI rm2), .ref aS, .ref aW, .ref aU, .ref aL, .ref aE, .ref aQ]))] := hD
    refine lv_aload_n hXX hBB dX3_draw_49 rfl (lv_at hl 0 rfl) ?_
    refine va_get (D := D) (ci := 3) (v := .int (nI 1)) (C := RX3) (T := TX3) (N := 17) hXX hBB hts iw_X3 hown hK hP 9 rfl rfl 9 (by decide) kw_3 (fun _ h9 => h9) rfl dX3_draw_50 ?_
    refine lv_if_le (tgt := 58) hXX hBB dX3_draw_53 (by decide) (fun c_53 => ?_) (fun c_53 => ?_)
    · exact absurd c_53 (by decide)
    · have c_53 : 0 < 1 := m_pos_le_f (by omega) c_53
      refine lv_iconst (v := nI 0) hXX hBB dX3_draw_56 (by decide) ?_
      refine hret (r := nI 0) (1, dm, S, dt, rm2, rs2, rw2, us2) ?_ (rfl) (hP.sub [9, 1, 2, 3, 4, 0, 5, 6, 7, 8] rfl) (hD.sub [9, 1, 2, 3, 4, 0, 5, 6, 7, 8] (by decide) rfl) hS (Nat.le_of_ble_eq_true rfl) (Nat.le_of_ble_eq_true rfl) dX3_draw_57
      show (drPost g p dm rg bd ab ob S dt x 1 dm S dt (nI 0)) ∧ (rm2 ≤ 576) ∧ (∀ z, rs2 z < 4) ∧ (∀ z, rw2 z < 4)
      exact ⟨⟨by first | (simp [tDr, c_13]; done) | (simp [tDr, c_20, ← LR_rm hLR]; done) | (simp [tDr, c_13, c_20, ← LR_rm hLR, c_38]; done), fun q => absurd q (by decide), fun _ => ⟨rfl, rfl, rfl⟩⟩, e_1, e_2, e_3⟩
  · have c_13 : ¬ dm = (g * p) := fun h9 => c_13 ((nI_eq (by omega) (by omega)).mpr h9)
    refine lv_aload_n hXX hBB dX3_draw_16 rfl (lv_at hl 0 rfl) ?_
    refine va_get (D := D) (ci := 3) (v := .int (nI rm2)) (C := RX3) (T := TX3) (N := 17) hXX hBB hts iw_X3 hown hK hP 9 rfl rfl 10 (by decide) kw_2 (fun _ h9 => h9) rfl dX3_draw_17 ?_
    refine lv_if_ne (tgt := 27) hXX hBB dX3_draw_20 (by decide) (fun c_20 => ?_) (fun c_20 => ?_)
    · have c_20 : ¬ rm2 = 0 := fun h9 => c_20 ((m_z (by omega)).mpr h9)
      refine lv_iload_n hXX hBB dX3_draw_27 rfl (lv_at hl 1 rfl) ?_
      refine lv_iconst (v := nI 0) hXX hBB dX3_draw_28 (by decide) ?_
      refine lv_aload_n hXX hBB dX3_draw_29 rfl (lv_at hl 0 rfl) ?_
      refine m_calli (wr := [(aD, .inl (cI, 9, .inl (fun j => nI (dt j)))), (aR, .inl (cI, 9, .inl (fun j => nI (rg j)))), (aB, .inl (cI, 6, .inl (fun j => nI (bd j)))), (aA, .inl (cZ, 81, .inl (fun j => bI (ab j)))), (aO, .inl (cZ, 81, .inl (fun j => bI (ob j)))), (aP, .inl (cI, 9, .inl S)), (aS, .inl (cI, 5184, .inl (fun j => nI (rs2 j)))), (aW, .inl (cI, 9, .inl (fun j => nI (rw2 j)))), (aU, .inl (cZ, 9, .inl (fun j => bI (us2 j))))]) ⟨hXX, hBB, hml, hown, hts⟩ hN (kX3_leftNow l D h g p aR aB aA aO dm aD aP th rm2 aS aW aU aL aE aQ (by omega) (by omega) (by omega) (by omega)) (cwV 0 hts gX3_draw_X3_leftNow rfl rfl rfl (by decide +kernel) ⟨Nat.le_of_ble_eq_true rfl, Nat.le_of_ble_eq_true rfl⟩) hK hP hD hS hAA [9] [0, 1, 2, 3, 4, 5, 6, 7, 8] [] rfl rfl rfl (by decide) (by decide) (by decide) rfl 3 rfl rfl rfl rfl hl.1 rfl (Nat.le_of_ble_eq_true rfl) dX3_draw_30 ⟨Nat.le_of_ble_eq_true rfl, Nat.le_of_ble_eq_true rfl⟩ (k := 0) (n := 0) rfl rfl (fun r_2 u_ H locs hw hP hD hS => ?_)
      have hw : (r_2 = nI (leN dm g p)) := hw
      have hr_r_2 := hw
      have hP : va_P D vwCl [(aD, .inl (cI, 9, .inl (fun j => nI (dt j)))), (aR, .inl (cI, 9, .inl (fun j => nI (rg j)))), (aB, .inl (cI, 6, .inl (fun j => nI (bd j)))), (aA, .inl (cZ, 81, .inl (fun j => bI (ab j)))), (aO, .inl (cZ, 81, .inl (fun j => bI (ob j)))), (aP, .inl (cI, 9, .inl S)), (aS, .inl (cI, 5184, .inl (fun j => nI (rs2 j)))), (aW, .inl (cI, 9, .inl (fun j => nI (rw2 j)))), (aU, .inl (cZ, 9, .inl (fun j => bI (us2 j)))), (h, .inr (3, [.int (nI g), .int (nI p), .ref aR, .ref aB, .ref aA, .ref aO, .int (nI dm), .ref aD, .ref aP, .int (nI th), .int (nI rm2), .ref aS, .ref aW, .ref aU, .ref aL, .ref aE, .ref aQ]))] H := hP
      have hD : va_D AA [(aD, .inl (cI, 9, .inl (fun j => nI (dt j)))), (aR, .inl (cI, 9, .inl (fun j => nI (rg j)))), (aB, .inl (cI, 6, .inl (fun j => nI (bd j)))), (aA, .inl (cZ, 81, .inl (fun j => bI (ab j)))), (aO, .inl (cZ, 81, .inl (fun j => bI (ob j)))), (aP, .inl (cI, 9, .inl S)), (aS, .inl (cI, 5184, .inl (fun j => nI (rs2 j)))), (aW, .inl (cI, 9, .inl (fun j => nI (rw2 j)))), (aU, .inl (cZ, 9, .inl (fun j => bI (us2 j)))), (h, .inr (3, [.int (nI g), .int (nI p), .ref aR, .ref aB, .ref aA, .ref aO, .int (nI dm), .ref aD, .ref aP, .int (nI th), .int (nI rm2), .ref aS, .ref aW, .ref aU, .ref aL, .ref aE, .ref aQ]))] := hD
      subst hr_r_2
      refine lv_iconst (v := nI 1) hXX hBB dX3_draw_33 (by decide) ?_
      refine lv_isub hXX hBB dX3_draw_34 ?_
      refine m_top (y := (nI (leN dm g p)) - (nI 1)) (by rfl) ?_
      refine m_scalli (wr := [(aD, .inl (cI, 9, .inl (fun j => nI (dt j)))), (aR, .inl (cI, 9, .inl (fun j => nI (rg j)))), (aB, .inl (cI, 6, .inl (fun j => nI (bd j)))), (aA, .inl (cZ, 81, .inl (fun j => bI (ab j)))), (aO, .inl (cZ, 81, .inl (fun j => bI (ob j)))), (aP, .inl (cI, 9, .inl S)), (aS, .inl (cI, 5184, .inl (fun j => nI (rs2 j)))), (aW, .inl (cI, 9, .inl (fun j => nI (rw2 j)))), (aU, .inl (cZ, 9, .inl (fun j => bI (us2 j)))), (h, .inr (3, [.int (nI g), .int (nI p), .ref aR, .ref aB, .ref aA, .ref aO, .int (nI dm), .ref aD, .ref aP, .int (nI th), .int (nI rm2), .ref aS, .ref aW, .ref aU, .ref aL, .ref aE, .ref aQ]))]) ⟨hXX, hBB, hml, hown, hts⟩ hN (kX3_in l D x (nI 0) ((nI (leN dm g p)) - (nI 1))) (va_cwS 3 hts gX3_draw_X3_in rfl rfl rfl (by decide +kernel) ⟨Nat.le_of_ble_eq_true rfl, Nat.le_of_ble_eq_true rfl⟩) hK hP hD hS hAA [] [0, 1, 2, 3, 4, 5, 6, 7, 8, 9] [] rfl rfl rfl (by decide) (by decide) (by decide) rfl hl.1 rfl (Nat.le_of_ble_eq_true rfl) dX3_draw_35 ⟨Nat.le_of_ble_eq_true rfl, Nat.le_of_ble_eq_true rfl⟩ (k := 0) (n := 0) rfl rfl (fun r_3 u_ H locs hw hP hD hS => ?_)
      have hw : (r_3 = bI (inB x (nI 0) ((nI (leN dm g p)) - (nI 1)))) := hw
      have hr_r_3 := hw
      have hP : va_P D vwCl [(aD, .inl (cI, 9, .inl (fun j => nI (dt j)))), (aR, .inl (cI, 9, .inl (fun j => nI (rg j)))), (aB, .inl (cI, 6, .inl (fun j => nI (bd j)))), (aA, .inl (cZ, 81, .inl (fun j => bI (ab j)))), (aO, .inl (cZ, 81, .inl (fun j => bI (ob j)))), (aP, .inl (cI, 9, .inl S)), (aS, .inl (cI, 5184, .inl (fun j => nI (rs2 j)))), (aW, .inl (cI, 9, .inl (fun j => nI (rw2 j)))), (aU, .inl (cZ, 9, .inl (fun j => bI (us2 j)))), (h, .inr (3, [.int (nI g), .int (nI p), .ref aR, .ref aB, .ref aA, .ref aO, .int (nI dm), .ref aD, .ref aP, .int (nI th), .int (nI rm2), .ref aS, .ref aW, .ref aU, .ref aL, .ref aE, .ref aQ]))] H := hP
      have hD : va_D AA [(aD, .inl (cI, 9, .inl (fun j => nI (dt j)))), (aR, .inl (cI, 9, .inl (fun j => nI (rg j)))), (aB, .inl (cI, 6, .inl (fun j => nI (bd j)))), (aA, .inl (cZ, 81, .inl (fun j => bI (ab j)))), (aO, .inl (cZ, 81, .inl (fun j => bI (ob j)))), (aP, .inl (cI, 9, .inl S)), (aS, .inl (cI, 5184, .inl (fun j => nI (rs2 j)))), (aW, .inl (cI, 9, .inl (fun j => nI (rw2 j)))), (aU, .inl (cZ, 9, .inl (fun j => bI (us2 j)))), (h, .inr (3, [.int (nI g), .int (nI p), .ref aR, .ref aB, .ref aA, .ref aO, .int (nI dm), .ref aD, .ref aP, .int (nI th), .int (nI rm2), .ref aS, .ref aW, .ref aU, .ref aL, .ref aE, .ref aQ]))] := hD
      subst hr_r_3
      refine lv_if_ne (tgt := 45) hXX hBB dX3_draw_38 (by decide) (fun c_38 => ?_) (fun c_38 => ?_)
      · have c_38 : (inB x (nI 0) ((nI (leN dm g p)) - (nI 1))) = true := m_bz1 c_38
        refine lv_iconst (v := nI 0) hXX hBB dX3_draw_45 (by decide) ?_
        refine va_put (D := D) (ci := 3) (v := .int (nI 0)) (ty := .int) (C := RX3) (T := TX3) (N := 17) hXX hBB hts iw_X3 tyX3 tyX3_ok nmX3 hown hK hP hD hS 9 rfl rfl 9 (by decide) kw_3 (fun _ h9 => h9) rfl (by decide +kernel) (rfl) (rfl) (Nat.le_of_ble_eq_true rfl) dX3_draw_46 (fun H locs hP hD hS => ?_)
        have hP : va_P D vwCl [(aD, .inl (cI, 9, .inl (fun j => nI (dt j)))), (aR, .inl (cI, 9, .inl (fun j => nI (rg j)))), (aB, .inl (cI, 6, .inl (fun j => nI (bd j)))), (aA, .inl (cZ, 81, .inl (fun j => bI (ab j)))), (aO, .inl (cZ, 81, .inl (fun j => bI (ob j)))), (aP, .inl (cI, 9, .inl S)), (aS, .inl (cI, 5184, .inl (fun j => nI (rs2 j)))), (aW, .inl (cI, 9, .inl (fun j => nI (rw2 j)))), (aU, .inl (cZ, 9, .inl (fun j => bI (us2 j)))), (h, .inr (3, [.int (nI g), .int (nI p), .ref aR, .ref aB, .ref aA, .ref aO, .int (nI dm), .ref aD, .ref aP, .int (nI 0), .int (nI rm2), .ref aS, .ref aW, .ref aU, .ref aL, .ref aE, .ref aQ]))] H := hP
        have hD : va_D AA [(aD, .inl (cI, 9, .inl (fun j => nI (dt j)))), (aR, .inl (cI, 9, .inl (fun j => nI (rg j)))), (aB, .inl (cI, 6, .inl (fun j => nI (bd j)))), (aA, .inl (cZ, 81, .inl (fun j => bI (ab j)))), (aO, .inl (cZ, 81, .inl (fun j => bI (ob j)))), (aP, .inl (cI, 9, .inl S)), (aS, .inl (cI, 5184, .inl (fun j => nI (rs2 j)))), (aW, .inl (cI, 9, .inl (fun j => nI (rw2 j)))), (aU, .inl (cZ, 9, .inl (fun j => bI (us2 j)))), (h, .inr (3, [.int (nI g), .int (nI p), .ref aR, .ref aB, .ref aA, .ref aO, .int (nI dm), .ref aD, .ref aP, .int (nI 0), .int (nI rm2), .ref aS, .ref aW, .ref aU, .ref aL, .ref aE, .ref aQ]))] := hD
        refine lv_aload_n hXX hBB dX3_draw_49 rfl (lv_at hl 0 rfl) ?_
        refine va_get (D := D) (ci := 3) (v := .int (nI 0)) (C := RX3) (T := TX3) (N := 17) hXX hBB hts iw_X3 hown hK hP 9 rfl rfl 9 (by decide) kw_3 (fun _ h9 => h9) rfl dX3_draw_50 ?_
        refine lv_if_le (tgt := 58) hXX hBB dX3_draw_53 (by decide) (fun c_53 => ?_) (fun c_53 => ?_)
        · have c_53 : 0 = 0 := m_nps_le_t (by omega) c_53
          obtain ⟨k, hk, he_k⟩ := inB_L (n := leN dm g p) (by omega) c_38
          have hl : lv_has ls 3 [(0, .ref h), (1, .int (nI k))] := by rw [he_k] at hl; exact hl
          have hk2 : k < g - dm % g := by rw [← leN_ok c_13]; exact hk
          obtain ⟨b1, b2, b3, b4, b5⟩ := ball_ok (by omega) hV (by omega) hT hk2
          refine lv_aload_n hXX hBB dX3_draw_58 rfl (lv_at hl 0 rfl) ?_
          refine lv_aload_n hXX hBB dX3_draw_59 rfl (lv_at hl 0 rfl) ?_
          refine m_calli (wr := [(aD, .inl (cI, 9, .inl (fun j => nI (dt j)))), (aR, .inl (cI, 9, .inl (fun j => nI (rg j)))), (aB, .inl (cI, 6, .inl (fun j => nI (bd j)))), (aA, .inl (cZ, 81, .inl (fun j => bI (ab j)))), (aO, .inl (cZ, 81, .inl (fun j => bI (ob j)))), (aP, .inl (cI, 9, .inl S)), (aS, .inl (cI, 5184, .inl (fun j => nI (rs2 j)))), (aW, .inl (cI, 9, .inl (fun j => nI (rw2 j)))), (aU, .inl (cZ, 9, .inl (fun j => bI (us2 j))))]) ⟨hXX, hBB, hml, hown, hts⟩ hN (kX3_potNow l D h g p aR aB aA aO dm aD aP 0 rm2 aS aW aU aL aE aQ (by omega) (by omega) (by omega) (by omega)) (cwV 0 hts gX3_draw_X3_potNow rfl rfl rfl (by decide +kernel) ⟨Nat.le_of_ble_eq_true rfl, Nat.le_of_ble_eq_true rfl⟩) hK hP hD hS hAA [9] [0, 1, 2, 3, 4, 5, 6, 7, 8] [] rfl rfl rfl (by decide) (by decide) (by decide) rfl 3 rfl rfl rfl rfl hl.1 rfl (Nat.le_of_ble_eq_true rfl) dX3_draw_60 ⟨Nat.le_of_ble_eq_true rfl, Nat.le_of_ble_eq_true rfl⟩ (k := 0) (n := 0) rfl rfl (fun r_4 u_ H locs hw hP hD hS => ?_)
          have hw : (r_4 = poR dm g p) := hw
          have hr_r_4 := hw
          have hP : va_P D vwCl [(aD, .inl (cI, 9, .inl (fun j => nI (dt j)))), (aR, .inl (cI, 9, .inl (fun j => nI (rg j)))), (aB, .inl (cI, 6, .inl (fun j => nI (bd j)))), (aA, .inl (cZ, 81, .inl (fun j => bI (ab j)))), (aO, .inl (cZ, 81, .inl (fun j => bI (ob j)))), (aP, .inl (cI, 9, .inl S)), (aS, .inl (cI, 5184, .inl (fun j => nI (rs2 j)))), (aW, .inl (cI, 9, .inl (fun j => nI (rw2 j)))), (aU, .inl (cZ, 9, .inl (fun j => bI (us2 j)))), (h, .inr (3, [.int (nI g), .int (nI p), .ref aR, .ref aB, .ref aA, .ref aO, .int (nI dm), .ref aD, .ref aP, .int (nI 0), .int (nI rm2), .ref aS, .ref aW, .ref aU, .ref aL, .ref aE, .ref aQ]))] H := hP
          have hD : va_D AA [(aD, .inl (cI, 9, .inl (fun j => nI (dt j)))), (aR, .inl (cI, 9, .inl (fun j => nI (rg j)))), (aB, .inl (cI, 6, .inl (fun j => nI (bd j)))), (aA, .inl (cZ, 81, .inl (fun j => bI (ab j)))), (aO, .inl (cZ, 81, .inl (fun j => bI (ob j)))), (aP, .inl (cI, 9, .inl S)), (aS, .inl (cI, 5184, .inl (fun j => nI (rs2 j)))), (aW, .inl (cI, 9, .inl (fun j => nI (rw2 j)))), (aU, .inl (cZ, 9, .inl (fun j => bI (us2 j)))), (h, .inr (3, [.int (nI g), .int (nI p), .ref aR, .ref aB, .ref aA, .ref aO, .int (nI dm), .ref aD, .ref aP, .int (nI 0), .int (nI rm2), .ref aS, .ref aW, .ref aU, .ref aL, .ref aE, .ref aQ]))] := hD
          subst hr_r_4
          refine m_top (y := nI (dm / g)) (by exact (poR_2 c_13).symm) ?_
          refine lv_iload_n hXX hBB dX3_draw_63 rfl (lv_at hl 1 rfl) ?_
          refine m_calli (wr := [(aD, .inl (cI, 9, .inl (fun j => nI (dt j)))), (aR, .inl (cI, 9, .inl (fun j => nI (rg j)))), (aB, .inl (cI, 6, .inl (fun j => nI (bd j)))), (aA, .inl (cZ, 81, .inl (fun j => bI (ab j)))), (aO, .inl (cZ, 81, .inl (fun j => bI (ob j)))), (aS, .inl (cI, 5184, .inl (fun j => nI (rs2 j)))), (aW, .inl (cI, 9, .inl (fun j => nI (rw2 j)))), (aU, .inl (cZ, 9, .inl (fun j => bI (us2 j))))]) ⟨hXX, hBB, hml, hown, hts⟩ hN (kX3_ball l D cI h g p aR aB aA aO dm aD aP 0 rm2 aS aW aU aL aE aQ S (dm / g) k (by omega) (by omega) (by exact potb (by omega) hdm c_13 hT) (by omega)) (cwV 2 hts gX3_draw_X3_ball rfl rfl rfl (by decide +kernel) ⟨Nat.le_of_ble_eq_true rfl, Nat.le_of_ble_eq_true rfl⟩) hK hP hD hS hAA [9, 5] [0, 1, 2, 3, 4, 6, 7, 8] [0] rfl rfl rfl (by decide) (by decide) (by decide) rfl 3 rfl rfl rfl rfl hl.1 rfl (Nat.le_of_ble_eq_true rfl) dX3_draw_64 ⟨Nat.le_of_ble_eq_true rfl, Nat.le_of_ble_eq_true rfl⟩ (k := 0) (n := 0) rfl rfl (fun r_5 u_ H locs hw hP hD hS => ?_)
          have hw : (r_5 = nth S g (g * (dm / g)) k) := hw
          have hr_r_5 := hw
          have hP : va_P D vwCl [(aD, .inl (cI, 9, .inl (fun j => nI (dt j)))), (aR, .inl (cI, 9, .inl (fun j => nI (rg j)))), (aB, .inl (cI, 6, .inl (fun j => nI (bd j)))), (aA, .inl (cZ, 81, .inl (fun j => bI (ab j)))), (aO, .inl (cZ, 81, .inl (fun j => bI (ob j)))), (aS, .inl (cI, 5184, .inl (fun j => nI (rs2 j)))), (aW, .inl (cI, 9, .inl (fun j => nI (rw2 j)))), (aU, .inl (cZ, 9, .inl (fun j => bI (us2 j)))), (h, .inr (3, [.int (nI g), .int (nI p), .ref aR, .ref aB, .ref aA, .ref aO, .int (nI dm), .ref aD, .ref aP, .int (nI 0), .int (nI rm2), .ref aS, .ref aW, .ref aU, .ref aL, .ref aE, .ref aQ])), (aP, .inl (cI, 9, .inl S))] H := hP
          have hD : va_D AA [(aD, .inl (cI, 9, .inl (fun j => nI (dt j)))), (aR, .inl (cI, 9, .inl (fun j => nI (rg j)))), (aB, .inl (cI, 6, .inl (fun j => nI (bd j)))), (aA, .inl (cZ, 81, .inl (fun j => bI (ab j)))), (aO, .inl (cZ, 81, .inl (fun j => bI (ob j)))), (aS, .inl (cI, 5184, .inl (fun j => nI (rs2 j)))), (aW, .inl (cI, 9, .inl (fun j => nI (rw2 j)))), (aU, .inl (cZ, 9, .inl (fun j => bI (us2 j)))), (h, .inr (3, [.int (nI g), .int (nI p), .ref aR, .ref aB, .ref aA, .ref aO, .int (nI dm), .ref aD, .ref aP, .int (nI 0), .int (nI rm2), .ref aS, .ref aW, .ref aU, .ref aL, .ref aE, .ref aQ])), (aP, .inl (cI, 9, .inl S))] := hD
          subst hr_r_5
          refine m_top (y := nI (balT S g (dm / g) k)) (by exact b5) ?_
          refine lv_istore_n (lv' := [(2, .int (nI (balT S g (dm / g) k))), (0, .ref h), (1, .int (nI k))]) hXX hBB dX3_draw_67 rfl hl (by decide) rfl (fun ls hl => ?_)
          refine lv_aload_n hXX hBB dX3_draw_68 rfl (lv_at hl 1 rfl) ?_
          refine va_get (D := D) (ci := 3) (v := .ref aP) (C := RX3) (T := TX3) (N := 17) hXX hBB hts iw_X3 hown hK hP 8 rfl rfl 8 (by decide) kw_4 (fun _ h9 => h9) rfl dX3_draw_69 ?_
          refine lv_iload_n hXX hBB dX3_draw_72 rfl (lv_at hl 0 rfl) ?_
          refine lv_aload_n hXX hBB dX3_draw_73 rfl (lv_at hl 1 rfl) ?_
          refine lv_iload_n hXX hBB dX3_draw_74 rfl (lv_at hl 0 rfl) ?_
          refine m_calli (wr := [(aD, .inl (cI, 9, .inl (fun j => nI (dt j)))), (aR, .inl (cI, 9, .inl (fun j => nI (rg j)))), (aB, .inl (cI, 6, .inl (fun j => nI (bd j)))), (aA, .inl (cZ, 81, .inl (fun j => bI (ab j)))), (aO, .inl (cZ, 81, .inl (fun j => bI (ob j)))), (aW, .inl (cI, 9, .inl (fun j => nI (rw2 j)))), (aU, .inl (cZ, 9, .inl (fun j => bI (us2 j)))), (aP, .inl (cI, 9, .inl S))]) ⟨hXX, hBB, hml, hown, hts⟩ hN (kX3_lowestFor l D cI h g p aR aB aA aO dm aD aP 0 rm2 aS aW aU aL aE aQ rs2 (balT S g (dm / g) k) (by exact e_1) (by exact fun z _ => e_2 z) (by omega) (by omega)) (cwV 1 hts gX3_draw_X3_lowestFor rfl rfl rfl (by decide +kernel) ⟨Nat.le_of_ble_eq_true rfl, Nat.le_of_ble_eq_true rfl⟩) hK hP hD hS hAA [8, 5] [0, 1, 2, 3, 4, 6, 7, 9] [0] rfl rfl rfl (by decide) (by decide) (by decide) rfl 3 rfl rfl rfl rfl hl.1 rfl (Nat.le_of_ble_eq_true rfl) dX3_draw_75 ⟨Nat.le_of_ble_eq_true rfl, Nat.le_of_ble_eq_true rfl⟩ (k := 0) (n := 0) rfl rfl (fun r_6 u_ H locs hw hP hD hS => ?_)
          have hw : (r_6 = lowR (fun zq => ct (fun z => decide (rs2 (9 * z + (balT S g (dm / g) k)) = zq)) rm2) g 0) := hw
          have hr_r_6 := hw
          have hP : va_P D vwCl [(aD, .inl (cI, 9, .inl (fun j => nI (dt j)))), (aR, .inl (cI, 9, .inl (fun j => nI (rg j)))), (aB, .inl (cI, 6, .inl (fun j => nI (bd j)))), (aA, .inl (cZ, 81, .inl (fun j => bI (ab j)))), (aO, .inl (cZ, 81, .inl (fun j => bI (ob j)))), (aW, .inl (cI, 9, .inl (fun j => nI (rw2 j)))), (aU, .inl (cZ, 9, .inl (fun j => bI (us2 j)))), (aP, .inl (cI, 9, .inl S)), (h, .inr (3, [.int (nI g), .int (nI p), .ref aR, .ref aB, .ref aA, .ref aO, .int (nI dm), .ref aD, .ref aP, .int (nI 0), .int (nI rm2), .ref aS, .ref aW, .ref aU, .ref aL, .ref aE, .ref aQ])), (aS, .inl (cI, 5184, .inl (fun j => nI (rs2 j))))] H := hP
          have hD : va_D AA [(aD, .inl (cI, 9, .inl (fun j => nI (dt j)))), (aR, .inl (cI, 9, .inl (fun j => nI (rg j)))), (aB, .inl (cI, 6, .inl (fun j => nI (bd j)))), (aA, .inl (cZ, 81, .inl (fun j => bI (ab j)))), (aO, .inl (cZ, 81, .inl (fun j => bI (ob j)))), (aW, .inl (cI, 9, .inl (fun j => nI (rw2 j)))), (aU, .inl (cZ, 9, .inl (fun j => bI (us2 j)))), (aP, .inl (cI, 9, .inl S)), (h, .inr (3, [.int (nI g), .int (nI p), .ref aR, .ref aB, .ref aA, .ref aO, .int (nI dm), .ref aD, .ref aP, .int (nI 0), .int (nI rm2), .ref aS, .ref aW, .ref aU, .ref aL, .ref aE, .ref aQ])), (aS, .inl (cI, 5184, .inl (fun j => nI (rs2 j))))] := hD
          subst hr_r_6
          refine m_top (y := loI32 g p rg bd ab ob S (balT S g (dm / g) k)) (by exact LR_low hLR b3) ?_
          refine m_iast hXX hBB hK hP hD hS 7 0 rfl rfl (i := balT S g (dm / g) k) (by omega) (by decide) (g := upd S (balT S g (dm / g) k) (loI32 g p rg bd ab ob S (balT S g (dm / g) k))) (rfl) dX3_draw_78 (fun H locs hP hD hS => ?_)
          have hP : va_P D vwCl [(aD, .inl (cI, 9, .inl (fun j => nI (dt j)))), (aR, .inl (cI, 9, .inl (fun j => nI (rg j)))), (aB, .inl (cI, 6, .inl (fun j => nI (bd j)))), (aA, .inl (cZ, 81, .inl (fun j => bI (ab j)))), (aO, .inl (cZ, 81, .inl (fun j => bI (ob j)))), (aW, .inl (cI, 9, .inl (fun j => nI (rw2 j)))), (aU, .inl (cZ, 9, .inl (fun j => bI (us2 j)))), (aP, .inl (cI, 9, .inl (upd S (balT S g (dm / g) k) (loI32 g p rg bd ab ob S (balT S g (dm / g) k))))), (h, .inr (3, [.int (nI g), .int (nI p), .ref aR, .ref aB, .ref aA, .ref aO, .int (nI dm), .ref aD, .ref aP, .int (nI 0), .int (nI rm2), .ref aS, .ref aW, .ref aU, .ref aL, .ref aE, .ref aQ])), (aS, .inl (cI, 5184, .inl (fun j => nI (rs2 j))))] H := hP
          have hD : va_D AA [(aD, .inl (cI, 9, .inl (fun j => nI (dt j)))), (aR, .inl (cI, 9, .inl (fun j => nI (rg j)))), (aB, .inl (cI, 6, .inl (fun j => nI (bd j)))), (aA, .inl (cZ, 81, .inl (fun j => bI (ab j)))), (aO, .inl (cZ, 81, .inl (fun j => bI (ob j)))), (aW, .inl (cI, 9, .inl (fun j => nI (rw2 j)))), (aU, .inl (cZ, 9, .inl (fun j => bI (us2 j)))), (aP, .inl (cI, 9, .inl (upd S (balT S g (dm / g) k) (loI32 g p rg bd ab ob S (balT S g (dm / g) k))))), (h, .inr (3, [.int (nI g), .int (nI p), .ref aR, .ref aB, .ref aA, .ref aO, .int (nI dm), .ref aD, .ref aP, .int (nI 0), .int (nI rm2), .ref aS, .ref aW, .ref aU, .ref aL, .ref aE, .ref aQ])), (aS, .inl (cI, 5184, .inl (fun j => nI (rs2 j))))] := hD
          refine lv_aload_n hXX hBB dX3_draw_79 rfl (lv_at hl 1 rfl) ?_
          refine va_get (D := D) (ci := 3) (v := .ref aD) (C := RX3) (T := TX3) (N := 17) hXX hBB hts iw_X3 hown hK hP 8 rfl rfl 7 (by decide) kw_5 (fun _ h9 => h9) rfl dX3_draw_80 ?_
          refine lv_aload_n hXX hBB dX3_draw_83 rfl (lv_at hl 1 rfl) ?_
          refine va_get (D := D) (ci := 3) (v := .int (nI dm)) (C := RX3) (T := TX3) (N := 17) hXX hBB hts iw_X3 hown hK hP 8 rfl rfl 6 (by decide) kw_1 (fun _ h9 => h9) rfl dX3_draw_84 ?_
          refine lv_iload_n hXX hBB dX3_draw_87 rfl (lv_at hl 0 rfl) ?_
          refine m_iast hXX hBB hK hP hD hS 0 0 rfl rfl (i := dm) (by omega) (by decide) (g := fun j => nI (updN dt dm (balT S g (dm / g) k) j)) (m_upd _ _ _) dX3_draw_88 (fun H locs hP hD hS => ?_)
          have hP : va_P D vwCl [(aD, .inl (cI, 9, .inl (fun j => nI (updN dt dm (balT S g (dm / g) k) j)))), (aR, .inl (cI, 9, .inl (fun j => nI (rg j)))), (aB, .inl (cI, 6, .inl (fun j => nI (bd j)))), (aA, .inl (cZ, 81, .inl (fun j => bI (ab j)))), (aO, .inl (cZ, 81, .inl (fun j => bI (ob j)))), (aW, .inl (cI, 9, .inl (fun j => nI (rw2 j)))), (aU, .inl (cZ, 9, .inl (fun j => bI (us2 j)))), (aP, .inl (cI, 9, .inl (upd S (balT S g (dm / g) k) (loI32 g p rg bd ab ob S (balT S g (dm / g) k))))), (h, .inr (3, [.int (nI g), .int (nI p), .ref aR, .ref aB, .ref aA, .ref aO, .int (nI dm), .ref aD, .ref aP, .int (nI 0), .int (nI rm2), .ref aS, .ref aW, .ref aU, .ref aL, .ref aE, .ref aQ])), (aS, .inl (cI, 5184, .inl (fun j => nI (rs2 j))))] H := hP
          have hD : va_D AA [(aD, .inl (cI, 9, .inl (fun j => nI (updN dt dm (balT S g (dm / g) k) j)))), (aR, .inl (cI, 9, .inl (fun j => nI (rg j)))), (aB, .inl (cI, 6, .inl (fun j => nI (bd j)))), (aA, .inl (cZ, 81, .inl (fun j => bI (ab j)))), (aO, .inl (cZ, 81, .inl (fun j => bI (ob j)))), (aW, .inl (cI, 9, .inl (fun j => nI (rw2 j)))), (aU, .inl (cZ, 9, .inl (fun j => bI (us2 j)))), (aP, .inl (cI, 9, .inl (upd S (balT S g (dm / g) k) (loI32 g p rg bd ab ob S (balT S g (dm / g) k))))), (h, .inr (3, [.int (nI g), .int (nI p), .ref aR, .ref aB, .ref aA, .ref aO, .int (nI dm), .ref aD, .ref aP, .int (nI 0), .int (nI rm2), .ref aS, .ref aW, .ref aU, .ref aL, .ref aE, .ref aQ])), (aS, .inl (cI, 5184, .inl (fun j => nI (rs2 j))))] := hD
          refine lv_aload_n hXX hBB dX3_draw_89 rfl (lv_at hl 1 rfl) ?_
          refine lv_dup hXX hBB dX3_draw_90 rfl ?_
          refine va_get (D := D) (ci := 3) (v := .int (nI dm)) (C := RX3) (T := TX3) (N := 17) hXX hBB hts iw_X3 hown hK hP 8 rfl rfl 6 (by decide) kw_1 (fun _ h9 => h9) rfl dX3_draw_91 ?_
          refine lv_iconst (v := nI 1) hXX hBB dX3_draw_94 (by decide) ?_
          refine lv_iadd hXX hBB dX3_draw_95 ?_
          refine m_top (y := nI (dm + 1)) (nI_add _ _) ?_
          refine va_put (D := D) (ci := 3) (v := .int (nI (dm + 1))) (ty := .int) (C := RX3) (T := TX3) (N := 17) hXX hBB hts iw_X3 tyX3 tyX3_ok nmX3 hown hK hP hD hS 8 rfl rfl 6 (by decide) kw_1 (fun _ h9 => h9) rfl (by decide +kernel) (rfl) (rfl) (Nat.le_of_ble_eq_true rfl) dX3_draw_96 (fun H locs hP hD hS => ?_)
          have hP : va_P D vwCl [(aD, .inl (cI, 9, .inl (fun j => nI (updN dt dm (balT S g (dm / g) k) j)))), (aR, .inl (cI, 9, .inl (fun j => nI (rg j)))), (aB, .inl (cI, 6, .inl (fun j => nI (bd j)))), (aA, .inl (cZ, 81, .inl (fun j => bI (ab j)))), (aO, .inl (cZ, 81, .inl (fun j => bI (ob j)))), (aW, .inl (cI, 9, .inl (fun j => nI (rw2 j)))), (aU, .inl (cZ, 9, .inl (fun j => bI (us2 j)))), (aP, .inl (cI, 9, .inl (upd S (balT S g (dm / g) k) (loI32 g p rg bd ab ob S (balT S g (dm / g) k))))), (h, .inr (3, [.int (nI g), .int (nI p), .ref aR, .ref aB, .ref aA, .ref aO, .int (nI (dm + 1)), .ref aD, .ref aP, .int (nI 0), .int (nI rm2), .ref aS, .ref aW, .ref aU, .ref aL, .ref aE, .ref aQ])), (aS, .inl (cI, 5184, .inl (fun j => nI (rs2 j))))] H := hP
          have hD : va_D AA [(aD, .inl (cI, 9, .inl (fun j => nI (updN dt dm (balT S g (dm / g) k) j)))), (aR, .inl (cI, 9, .inl (fun j => nI (rg j)))), (aB, .inl (cI, 6, .inl (fun j => nI (bd j)))), (aA, .inl (cZ, 81, .inl (fun j => bI (ab j)))), (aO, .inl (cZ, 81, .inl (fun j => bI (ob j)))), (aW, .inl (cI, 9, .inl (fun j => nI (rw2 j)))), (aU, .inl (cZ, 9, .inl (fun j => bI (us2 j)))), (aP, .inl (cI, 9, .inl (upd S (balT S g (dm / g) k) (loI32 g p rg bd ab ob S (balT S g (dm / g) k))))), (h, .inr (3, [.int (nI g), .int (nI p), .ref aR, .ref aB, .ref aA, .ref aO, .int (nI (dm + 1)), .ref aD, .ref aP, .int (nI 0), .int (nI rm2), .ref aS, .ref aW, .ref aU, .ref aL, .ref aE, .ref aQ])), (aS, .inl (cI, 5184, .inl (fun j => nI (rs2 j))))] := hD
          refine lv_aload_n hXX hBB dX3_draw_99 rfl (lv_at hl 1 rfl) ?_
          refine va_get (D := D) (ci := 3) (v := .ref aP) (C := RX3) (T := TX3) (N := 17) hXX hBB hts iw_X3 hown hK hP 8 rfl rfl 8 (by decide) kw_4 (fun _ h9 => h9) rfl dX3_draw_100 ?_
          refine lv_iload_n hXX hBB dX3_draw_103 rfl (lv_at hl 0 rfl) ?_
          refine m_iald hXX hBB hK hP 7 0 rfl rfl (i := balT S g (dm / g) k) (by omega) (by decide) (x := (upd S (balT S g (dm / g) k) (loI32 g p rg bd ab ob S (balT S g (dm / g) k))) (balT S g (dm / g) k)) rfl dX3_draw_104 ?_
          refine hret (r := (upd S (balT S g (dm / g) k) (loI32 g p rg bd ab ob S (balT S g (dm / g) k))) (balT S g (dm / g) k)) (0, dm + 1, upd S (balT S g (dm / g) k) (loI32 g p rg bd ab ob S (balT S g (dm / g) k)), updN dt dm (balT S g (dm / g) k), rm2, rs2, rw2, us2) ?_ (rfl) (hP.sub [8, 1, 2, 3, 4, 0, 7, 9, 5, 6] rfl) (hD.sub [8, 1, 2, 3, 4, 0, 7, 9, 5, 6] (by decide) rfl) hS (Nat.le_of_ble_eq_true rfl) (Nat.le_of_ble_eq_true rfl) dX3_draw_105
          show (drPost g p dm rg bd ab ob S dt x 0 (dm + 1) (upd S (balT S g (dm / g) k) (loI32 g p rg bd ab ob S (balT S g (dm / g) k))) (updN dt dm (balT S g (dm / g) k)) ((upd S (balT S g (dm / g) k) (loI32 g p rg bd ab ob S (balT S g (dm / g) k))) (balT S g (dm / g) k))) ∧ (rm2 ≤ 576) ∧ (∀ z, rs2 z < 4) ∧ (∀ z, rw2 z < 4)
          have hs9 : upd S (balT S g (dm / g) k) (loI32 g p rg bd ab ob S (balT S g (dm / g) k)) (balT S g (dm / g) k) = loI32 g p rg bd ab ob S (balT S g (dm / g) k) := by simp [upd]
          exact ⟨⟨by simp [tDr, c_13, c_20, ← LR_rm hLR, c_38], fun _ => ⟨k, hk, by omega, he_k, rfl, rfl, rfl, hs9⟩, fun q => absurd rfl q⟩, e_1, e_2, e_3⟩
        · exact absurd (by decide) c_53
      · have c_38 : (inB x (nI 0) ((nI (leN dm g p)) - (nI 1))) = false := m_bz0 c_38
        refine lv_iconst (v := nI 2) hXX hBB dX3_draw_41 (by decide) ?_
        refine lv_goto (tgt := 46) hXX hBB dX3_draw_42 (by decide) ?_
        refine va_put (D := D) (ci := 3) (v := .int (nI 2)) (ty := .int) (C := RX3) (T := TX3) (N := 17) hXX hBB hts iw_X3 tyX3 tyX3_ok nmX3 hown hK hP hD hS 9 rfl rfl 9 (by decide) kw_3 (fun _ h9 => h9) rfl (by decide +kernel) (rfl) (rfl) (Nat.le_of_ble_eq_true rfl) dX3_draw_46 (fun H locs hP hD hS => ?_)
        have hP : va_P D vwCl [(aD, .inl (cI, 9, .inl (fun j => nI (dt j)))), (aR, .inl (cI, 9, .inl (fun j => nI (rg j)))), (aB, .inl (cI, 6, .inl (fun j => nI (bd j)))), (aA, .inl (cZ, 81, .inl (fun j => bI (ab j)))), (aO, .inl (cZ, 81, .inl (fun j => bI (ob j)))), (aP, .inl (cI, 9, .inl S)), (aS, .inl (cI, 5184, .inl (fun j => nI (rs2 j)))), (aW, .inl (cI, 9, .inl (fun j => nI (rw2 j)))), (aU, .inl (cZ, 9, .inl (fun j => bI (us2 j)))), (h, .inr (3, [.int (nI g), .int (nI p), .ref aR, .ref aB, .ref aA, .ref aO, .int (nI dm), .ref aD, .ref aP, .int (nI 2), .int (nI rm2), .ref aS, .ref aW, .ref aU, .ref aL, .ref aE, .ref aQ]))] H := hP
        have hD : va_D AA [(aD, .inl (cI, 9, .inl (fun j => nI (dt j)))), (aR, .inl (cI, 9, .inl (fun j => nI (rg j)))), (aB, .inl (cI, 6, .inl (fun j => nI (bd j)))), (aA, .inl (cZ, 81, .inl (fun j => bI (ab j)))), (aO, .inl (cZ, 81, .inl (fun j => bI (ob j)))), (aP, .inl (cI, 9, .inl S)), (aS, .inl (cI, 5184, .inl (fun j => nI (rs2 j)))), (aW, .inl (cI, 9, .inl (fun j => nI (rw2 j)))), (aU, .inl (cZ, 9, .inl (fun j => bI (us2 j)))), (h, .inr (3, [.int (nI g), .int (nI p), .ref aR, .ref aB, .ref aA, .ref aO, .int (nI dm), .ref aD, .ref aP, .int (nI 2), .int (nI rm2), .ref aS, .ref aW, .ref aU, .ref aL, .ref aE, .ref aQ]))] := hD
        refine lv_aload_n hXX hBB dX3_draw_49 rfl (lv_at hl 0 rfl) ?_
        refine va_get (D := D) (ci := 3) (v := .int (nI 2)) (C := RX3) (T := TX3) (N := 17) hXX hBB hts iw_X3 hown hK hP 9 rfl rfl 9 (by decide) kw_3 (fun _ h9 => h9) rfl dX3_draw_50 ?_
        refine lv_if_le (tgt := 58) hXX hBB dX3_draw_53 (by decide) (fun c_53 => ?_) (fun c_53 => ?_)
        · exact absurd c_53 (by decide)
        · have c_53 : 0 < 2 := m_pos_le_f (by omega) c_53
          refine lv_iconst (v := nI 0) hXX hBB dX3_draw_56 (by decide) ?_
          refine hret (r := nI 0) (2, dm, S, dt, rm2, rs2, rw2, us2) ?_ (rfl) (hP.sub [9, 1, 2, 3, 4, 0, 5, 6, 7, 8] rfl) (hD.sub [9, 1, 2, 3, 4, 0, 5, 6, 7, 8] (by decide) rfl) hS (Nat.le_of_ble_eq_true rfl) (Nat.le_of_ble_eq_true rfl) dX3_draw_57
          show (drPost g p dm rg bd ab ob S dt x 2 dm S dt (nI 0)) ∧ (rm2 ≤ 576) ∧ (∀ z, rs2 z < 4) ∧ (∀ z, rw2 z < 4)
          exact ⟨⟨by first | (simp [tDr, c_13]; done) | (simp [tDr, c_20, ← LR_rm hLR]; done) | (simp [tDr, c_13, c_20, ← LR_rm hLR, c_38]; done), fun q => absurd q (by decide), fun _ => ⟨rfl, rfl, rfl⟩⟩, e_1, e_2, e_3⟩
    · have c_20 : rm2 = 0 := (m_z (by omega)).mp c_20
      refine lv_iconst (v := nI 1) hXX hBB dX3_draw_23 (by decide) ?_
      refine lv_goto (tgt := 46) hXX hBB dX3_draw_24 (by decide) ?_
      refine va_put (D := D) (ci := 3) (v := .int (nI 1)) (ty := .int) (C := RX3) (T := TX3) (N := 17) hXX hBB hts iw_X3 tyX3 tyX3_ok nmX3 hown hK hP hD hS 9 rfl rfl 9 (by decide) kw_3 (fun _ h9 => h9) rfl (by decide +kernel) (rfl) (rfl) (Nat.le_of_ble_eq_true rfl) dX3_draw_46 (fun H locs hP hD hS => ?_)
      have hP : va_P D vwCl [(aD, .inl (cI, 9, .inl (fun j => nI (dt j)))), (aR, .inl (cI, 9, .inl (fun j => nI (rg j)))), (aB, .inl (cI, 6, .inl (fun j => nI (bd j)))), (aA, .inl (cZ, 81, .inl (fun j => bI (ab j)))), (aO, .inl (cZ, 81, .inl (fun j => bI (ob j)))), (aP, .inl (cI, 9, .inl S)), (aS, .inl (cI, 5184, .inl (fun j => nI (rs2 j)))), (aW, .inl (cI, 9, .inl (fun j => nI (rw2 j)))), (aU, .inl (cZ, 9, .inl (fun j => bI (us2 j)))), (h, .inr (3, [.int (nI g), .int (nI p), .ref aR, .ref aB, .ref aA, .ref aO, .int (nI dm), .ref aD, .ref aP, .int (nI 1), .int (nI rm2), .ref aS, .ref aW, .ref aU, .ref aL, .ref aE, .ref aQ]))] H := hP
      have hD : va_D AA [(aD, .inl (cI, 9, .inl (fun j => nI (dt j)))), (aR, .inl (cI, 9, .inl (fun j => nI (rg j)))), (aB, .inl (cI, 6, .inl (fun j => nI (bd j)))), (aA, .inl (cZ, 81, .inl (fun j => bI (ab j)))), (aO, .inl (cZ, 81, .inl (fun j => bI (ob j)))), (aP, .inl (cI, 9, .inl S)), (aS, .inl (cI, 5184, .inl (fun j => nI (rs2 j)))), (aW, .inl (cI, 9, .inl (fun j => nI (rw2 j)))), (aU, .inl (cZ, 9, .inl (fun j => bI (us2 j)))), (h, .inr (3, [.int (nI g), .int (nI p), .ref aR, .ref aB, .ref aA, .ref aO, .int (nI dm), .ref aD, .ref aP, .int (nI 1), .int (nI rm2), .ref aS, .ref aW, .ref aU, .ref aL, .ref aE, .ref aQ]))] := hD
      refine lv_aload_n hXX hBB dX3_draw_49 rfl (lv_at hl 0 rfl) ?_
      refine va_get (D := D) (ci := 3) (v := .int (nI 1)) (C := RX3) (T := TX3) (N := 17) hXX hBB hts iw_X3 hown hK hP 9 rfl rfl 9 (by decide) kw_3 (fun _ h9 => h9) rfl dX3_draw_50 ?_
      refine lv_if_le (tgt := 58) hXX hBB dX3_draw_53 (by decide) (fun c_53 => ?_) (fun c_53 => ?_)
      · exact absurd c_53 (by decide)
      · have c_53 : 0 < 1 := m_pos_le_f (by omega) c_53
        refine lv_iconst (v := nI 0) hXX hBB dX3_draw_56 (by decide) ?_
        refine hret (r := nI 0) (1, dm, S, dt, rm2, rs2, rw2, us2) ?_ (rfl) (hP.sub [9, 1, 2, 3, 4, 0, 5, 6, 7, 8] rfl) (hD.sub [9, 1, 2, 3, 4, 0, 5, 6, 7, 8] (by decide) rfl) hS (Nat.le_of_ble_eq_true rfl) (Nat.le_of_ble_eq_true rfl) dX3_draw_57
        show (drPost g p dm rg bd ab ob S dt x 1 dm S dt (nI 0)) ∧ (rm2 ≤ 576) ∧ (∀ z, rs2 z < 4) ∧ (∀ z, rw2 z < 4)
        exact ⟨⟨by first | (simp [tDr, c_13]; done) | (simp [tDr, c_20, ← LR_rm hLR]; done) | (simp [tDr, c_13, c_20, ← LR_rm hLR, c_38]; done), fun q => absurd q (by decide), fun _ => ⟨rfl, rfl, rfl⟩⟩, e_1, e_2, e_3⟩
abbrev rmX3_lowestLeft : Room := { frames := 0, cells := 0, slots := 0, locals := 0 }
set_option maxHeartbeats 4000000 in
set_option maxRecDepth 100000 in
theorem kX3_lowestLeft (l : Launch) (D : va_G) (cI : ClassId) (cZ : ClassId) (h : Nat) (g : Nat) (p : Nat) (aR : Nat) (aB : Nat) (aA : Nat) (aO : Nat) (dm : Nat) (aD : Nat) (aP : Nat) (th : Nat) (rm : Nat) (aS : Nat) (aW : Nat) (aU : Nat) (aL : Nat) (aE : Nat) (aQ : Nat) (rs : Nat → Nat) (lf : Nat → Bool) (tm : Nat) (hrm : rm ≤ 576) (hrs : ∀ z, rs z < 4) (htm : tm < 9) (hg4 : g ≤ 4) : Ci l yX3_lowestLeft wsX3_lowestLeft rmX3_lowestLeft D [(cI, .int), (cZ, .boolean)] [.ref h, .int (nI tm)] [(h, .inr (3, [.int (nI g), .int (nI p), .ref aR, .ref aB, .ref aA, .ref aO, .int (nI dm), .ref aD, .ref aP, .int (nI th), .int (nI rm), .ref aS, .ref aW, .ref aU, .ref aL, .ref aE, .ref aQ])), (aS, .inl (cI, 5184, .inl (fun j => nI (rs j)))), (aL, .inl (cZ, 576, .inl (fun j => bI (lf j))))] (fun (r : Int32) (_ : Unit) => r = nI (llN g rs lf tm rm)) (fun (_ : Unit) => [(h, .inr (3, [.int (nI g), .int (nI p), .ref aR, .ref aB, .ref aA, .ref aO, .int (nI dm), .ref aD, .ref aP, .int (nI th), .int (nI rm), .ref aS, .ref aW, .ref aU, .ref aL, .ref aE, .ref aQ])), (aS, .inl (cI, 5184, .inl (fun j => nI (rs j)))), (aL, .inl (cZ, 576, .inl (fun j => bI (lf j))))]) := by
  refine Ci_of (cc := cX3_lowestLeft) (maxL := 5) (by decide) rfl (Nat.le_of_ble_eq_true rfl) ?_
  intro pR eV sT mI args below meth cO AA QQ ls hXX hBB hml hown hts hnm hN hK hP hD hS hAA hl hret
  have hl : lv_has ls 5 [(0, .ref h), (1, .int (nI tm))] := hl
  have kw_1 := hts (.fieldLink RX3 55 "CupDrawModel" "groupMany" "I") (List.mem_of_getElem? (i := 1) rfl)
  have iw_X3 : ∀ w ∈ wsX30, w ∈ wsX3_lowestLeft := by decide +kernel
  have kw_2 := hts (.fieldLink RX3 84 "CupDrawModel" "resultMany" "I") (List.mem_of_getElem? (i := 2) rfl)
  have kw_3 := hts (.fieldLink RX3 29 "CupDrawModel" "results" "[I") (List.mem_of_getElem? (i := 3) rfl)
  have kw_4 := hts (.fieldLink RX3 38 "CupDrawModel" "isLeft" "[Z") (List.mem_of_getElem? (i := 4) rfl)
  refine lv_aload_n hXX hBB dX3_lowestLeft_0 rfl (lv_at hl 0 rfl) ?_
  refine va_get (D := D) (ci := 3) (v := .int (nI g)) (C := RX3) (T := TX3) (N := 17) hXX hBB hts iw_X3 hown hK hP 0 rfl rfl 0 (by decide) kw_1 (fun _ h9 => h9) rfl dX3_lowestLeft_1 ?_
  refine lv_istore_n (lv' := [(2, .int (nI g)), (0, .ref h), (1, .int (nI tm))]) hXX hBB dX3_lowestLeft_4 rfl hl (by decide) rfl (fun ls hl => ?_)
  refine lv_iconst (v := nI 0) hXX hBB dX3_lowestLeft_5 (by decide) ?_
  refine lv_istore_n (lv' := [(3, .int (nI 0)), (2, .int (nI g)), (0, .ref h), (1, .int (nI tm))]) hXX hBB dX3_lowestLeft_6 rfl hl (by decide) rfl (fun ls hl => ?_)
  have L_7 : ∀ (N_7 : Nat) (k : Nat) (v : Nat), (k ≤ rm) → (v = llN g rs lf tm k) → (v ≤ 4) → rm - k < N_7 → ∀ (H : Heap) (locs : List Loc), va_P D vwCl [(h, .inr (3, [.int (nI g), .int (nI p), .ref aR, .ref aB, .ref aA, .ref aO, .int (nI dm), .ref aD, .ref aP, .int (nI th), .int (nI rm), .ref aS, .ref aW, .ref aU, .ref aL, .ref aE, .ref aQ])), (aS, .inl (cI, 5184, .inl (fun j => nI (rs j)))), (aL, .inl (cZ, 576, .inl (fun j => bI (lf j))))] H → va_D AA [(h, .inr (3, [.int (nI g), .int (nI p), .ref aR, .ref aB, .ref aA, .ref aO, .int (nI dm), .ref aD, .ref aP, .int (nI th), .int (nI rm), .ref aS, .ref aW, .ref aU, .ref aL, .ref aE, .ref aQ])), (aS, .inl (cI, 5184, .inl (fun j => nI (rs j)))), (aL, .inl (cZ, 576, .inl (fun j => bI (lf j))))] → va_S AA sT.heap H locs → ∀ (ls : Array Slot), lv_has ls 5 [(3, .int (nI k)), (2, .int (nI v)), (0, .ref h), (1, .int (nI tm))] → W pR l eV rmX3_lowestLeft sT mI args below meth cO H locs 0 0 QQ (F0 mI 7 ls []) := by
    intro N_7
    induction N_7 with
    | zero =>
      intro k v hk hv hv4 hMM
      exact absurd hMM (Nat.not_lt_zero _)
    | succ N_7 ih_7 =>
      intro k v hk hv hv4 hMM H locs hP hD hS ls hl
      refine lv_iload_n hXX hBB dX3_lowestLeft_7 rfl (lv_at hl 0 rfl) ?_
      refine lv_aload_n hXX hBB dX3_lowestLeft_8 rfl (lv_at hl 2 rfl) ?_
      refine va_get (D := D) (ci := 3) (v := .int (nI rm)) (C := RX3) (T := TX3) (N := 17) hXX hBB hts iw_X3 hown hK hP 0 rfl rfl 10 (by decide) kw_2 (fun _ h9 => h9) rfl dX3_lowestLeft_9 ?_
      refine lv_icmp_ge (tgt := 56) hXX hBB dX3_lowestLeft_12 (by decide) (fun c_12 => ?_) (fun c_12 => ?_)
      · have c_12 : rm ≤ k := (nI_leI (by omega) (by omega)).mp c_12
        have hE : k = rm := by omega
        refine lv_iload_n hXX hBB dX3_lowestLeft_56 rfl (lv_at hl 1 rfl) ?_
        refine hret (r := nI v) () ?_ (rfl) (hP.sub [0, 1, 2] rfl) (hD.sub [0, 1, 2] (by decide) rfl) hS (Nat.le_of_ble_eq_true rfl) (Nat.le_of_ble_eq_true rfl) dX3_lowestLeft_57
        show nI v = nI (llN g rs lf tm rm)
        rw [hv, hE]
      · have c_12 : ¬ rm ≤ k := fun h9 => c_12 ((nI_leI (by omega) (by omega)).mpr h9)
        have hb4 := hrs (9 * k + tm)
        refine lv_aload_n hXX hBB dX3_lowestLeft_15 rfl (lv_at hl 2 rfl) ?_
        refine va_get (D := D) (ci := 3) (v := .ref aS) (C := RX3) (T := TX3) (N := 17) hXX hBB hts iw_X3 hown hK hP 0 rfl rfl 11 (by decide) kw_3 (fun _ h9 => h9) rfl dX3_lowestLeft_16 ?_
        refine lv_bipush (v := nI 9) hXX hBB dX3_lowestLeft_19 (by decide) ?_
        refine lv_iload_n hXX hBB dX3_lowestLeft_21 rfl (lv_at hl 0 rfl) ?_
        refine lv_imul hXX hBB dX3_lowestLeft_22 ?_
        refine m_top (y := nI (9 * k)) (pk_mul _ _) ?_
        refine lv_iload_n hXX hBB dX3_lowestLeft_23 rfl (lv_at hl 3 rfl) ?_
        refine lv_iadd hXX hBB dX3_lowestLeft_24 ?_
        refine m_top (y := nI ((9 * k) + tm)) (nI_add _ _) ?_
        refine m_iald hXX hBB hK hP 1 0 rfl rfl (i := (9 * k) + tm) (by omega) (by decide) (x := nI (rs ((9 * k) + tm))) rfl dX3_lowestLeft_25 ?_
        refine lv_istore (lv' := [(4, .int (nI (rs ((9 * k) + tm)))), (3, .int (nI k)), (2, .int (nI v)), (0, .ref h), (1, .int (nI tm))]) hXX hBB dX3_lowestLeft_26 hl (by decide) rfl (fun ls hl => ?_)
        refine lv_aload_n hXX hBB dX3_lowestLeft_28 rfl (lv_at hl 3 rfl) ?_
        refine va_get (D := D) (ci := 3) (v := .ref aL) (C := RX3) (T := TX3) (N := 17) hXX hBB hts iw_X3 hown hK hP 0 rfl rfl 14 (by decide) kw_4 (fun _ h9 => h9) rfl dX3_lowestLeft_29 ?_
        refine lv_iload_n hXX hBB dX3_lowestLeft_32 rfl (lv_at hl 1 rfl) ?_
        refine m_zald hXX hBB hK hP 2 1 rfl rfl (i := k) (by omega) (by decide) (x := bI (lf k)) rfl dX3_lowestLeft_33 ?_
        refine lv_if_eq (tgt := 48) hXX hBB dX3_lowestLeft_34 (by decide) (fun c_34 => ?_) (fun c_34 => ?_)
        · have c_34 : (lf k) = false := m_bz0 c_34
          refine lv_iload_n hXX hBB dX3_lowestLeft_48 rfl (lv_at hl 2 rfl) ?_
          refine lv_istore_n (lv' := [(2, .int (nI v)), (4, .int (nI (rs ((9 * k) + tm)))), (3, .int (nI k)), (0, .ref h), (1, .int (nI tm))]) hXX hBB dX3_lowestLeft_49 rfl hl (by decide) rfl (fun ls hl => ?_)
          refine lv_iinc (v := nI (k + 1)) (lv' := [(3, .int (nI (k + 1))), (2, .int (nI v)), (4, .int (nI (rs ((9 * k) + tm)))), (0, .ref h), (1, .int (nI tm))]) hXX hBB dX3_lowestLeft_50 hl (k := 2) rfl (nI_1 _) (by decide) rfl (fun ls hl => ?_)
          refine lv_goto (tgt := 7) hXX hBB dX3_lowestLeft_53 (by decide) ?_
          have hi_k : (k + 1) ≤ rm := by omega
          have hi_v : v = llN g rs lf tm (k + 1) := by simp only [llN]; rw [← hv]; first | (simp [c_34]; done) | (simp [c_34, c_40]; done) | (simp [c_34, Nat.not_lt.mpr c_40]; done) | (simp [c_34, Nat.not_le.mp c_40]; done)
          have hi_v4 : v ≤ 4 := by omega
          have hmm : rm - (k + 1) < N_7 := by omega
          exact ih_7 (k + 1) v hi_k hi_v hi_v4 hmm _ _ (hP.sub [0, 1, 2] rfl) (hD.sub [0, 1, 2] (by decide) rfl) hS ls (lv_sub hl [0, 1, 3, 4] rfl)
        · have c_34 : (lf k) = true := m_bz1 c_34
          refine lv_iload hXX hBB dX3_lowestLeft_37 (lv_at hl 0 rfl) ?_
          refine lv_iload_n hXX hBB dX3_lowestLeft_39 rfl (lv_at hl 2 rfl) ?_
          refine lv_icmp_ge (tgt := 48) hXX hBB dX3_lowestLeft_40 (by decide) (fun c_40 => ?_) (fun c_40 => ?_)
          · have c_40 : v ≤ (rs ((9 * k) + tm)) := (nI_leI (by omega) (by omega)).mp c_40
            refine lv_iload_n hXX hBB dX3_lowestLeft_48 rfl (lv_at hl 2 rfl) ?_
            refine lv_istore_n (lv' := [(2, .int (nI v)), (4, .int (nI (rs ((9 * k) + tm)))), (3, .int (nI k)), (0, .ref h), (1, .int (nI tm))]) hXX hBB dX3_lowestLeft_49 rfl hl (by decide) rfl (fun ls hl => ?_)
            refine lv_iinc (v := nI (k + 1)) (lv' := [(3, .int (nI (k + 1))), (2, .int (nI v)), (4, .int (nI (rs ((9 * k) + tm)))), (0, .ref h), (1, .int (nI tm))]) hXX hBB dX3_lowestLeft_50 hl (k := 2) rfl (nI_1 _) (by decide) rfl (fun ls hl => ?_)
            refine lv_goto (tgt := 7) hXX hBB dX3_lowestLeft_53 (by decide) ?_
            have hi_k : (k + 1) ≤ rm := by omega
            have hi_v : v = llN g rs lf tm (k + 1) := by simp only [llN]; rw [← hv]; first | (simp [c_34]; done) | (simp [c_34, c_40]; done) | (simp [c_34, Nat.not_lt.mpr c_40]; done) | (simp [c_34, Nat.not_le.mp c_40]; done)
            have hi_v4 : v ≤ 4 := by omega
            have hmm : rm - (k + 1) < N_7 := by omega
            exact ih_7 (k + 1) v hi_k hi_v hi_v4 hmm _ _ (hP.sub [0, 1, 2] rfl) (hD.sub [0, 1, 2] (by decide) rfl) hS ls (lv_sub hl [0, 1, 3, 4] rfl)
          · have c_40 : ¬ v ≤ (rs ((9 * k) + tm)) := fun h9 => c_40 ((nI_leI (by omega) (by omega)).mpr h9)
            refine lv_iload hXX hBB dX3_lowestLeft_43 (lv_at hl 0 rfl) ?_
            refine lv_goto (tgt := 49) hXX hBB dX3_lowestLeft_45 (by decide) ?_
            refine lv_istore_n (lv' := [(2, .int (nI (rs ((9 * k) + tm)))), (4, .int (nI (rs ((9 * k) + tm)))), (3, .int (nI k)), (0, .ref h), (1, .int (nI tm))]) hXX hBB dX3_lowestLeft_49 rfl hl (by decide) rfl (fun ls hl => ?_)
            refine lv_iinc (v := nI (k + 1)) (lv' := [(3, .int (nI (k + 1))), (2, .int (nI (rs ((9 * k) + tm)))), (4, .int (nI (rs ((9 * k) + tm)))), (0, .ref h), (1, .int (nI tm))]) hXX hBB dX3_lowestLeft_50 hl (k := 2) rfl (nI_1 _) (by decide) rfl (fun ls hl => ?_)
            refine lv_goto (tgt := 7) hXX hBB dX3_lowestLeft_53 (by decide) ?_
            have hi_k : (k + 1) ≤ rm := by omega
            have hi_v : (rs ((9 * k) + tm)) = llN g rs lf tm (k + 1) := by simp only [llN]; rw [← hv]; first | (simp [c_34]; done) | (simp [c_34, c_40]; done) | (simp [c_34, Nat.not_lt.mpr c_40]; done) | (simp [c_34, Nat.not_le.mp c_40]; done)
            have hi_v4 : (rs ((9 * k) + tm)) ≤ 4 := by omega
            have hmm : rm - (k + 1) < N_7 := by omega
            exact ih_7 (k + 1) (rs ((9 * k) + tm)) hi_k hi_v hi_v4 hmm _ _ (hP.sub [0, 1, 2] rfl) (hD.sub [0, 1, 2] (by decide) rfl) hS ls (lv_sub hl [0, 1, 3, 4] rfl)
  have hi_k : 0 ≤ rm := by omega
  have hi_v : g = llN g rs lf tm 0 := by rfl
  have hi_v4 : g ≤ 4 := by omega
  exact L_7 _ 0 g hi_k hi_v hi_v4 (Nat.lt_succ_self _) _ _ hP hD hS ls (lv_sub hl [0, 1, 2, 3] rfl)
abbrev rmX3_follow : Room := { frames := 1, cells := 0, slots := 0, locals := 27 }
set_option maxHeartbeats 4000000 in
set_option maxRecDepth 100000 in
theorem kX3_follow (l : Launch) (D : va_G) (cI : ClassId) (cZ : ClassId) (h : Nat) (g : Nat) (p : Nat) (aR : Nat) (aB : Nat) (aA : Nat) (aO : Nat) (dm : Nat) (aD : Nat) (aP : Nat) (th : Nat) (rm : Nat) (aS : Nat) (aW : Nat) (aU : Nat) (aL : Nat) (aE : Nat) (aQ : Nat) (S : Nat → Int32) (rs : Nat → Nat) (rw : Nat → Nat) (us : Nat → Bool) (lf : Nat → Bool) (E : Nat → Int32) (bq : Nat → Nat) (num : Nat) (rg : Nat → Nat) (bd : Nat → Nat) (ab : Nat → Bool) (ob : Nat → Bool) (hC : FolC g p dm rm rg bd ab ob S rs) (hp3 : p ≤ 3) (hrm : rm ≤ 576) (hn : num < 576) (hrw : ∀ z, rw z < 4) : Cv l yX3_follow wsX3_follow rmX3_follow D [(cI, .int), (cZ, .boolean)] [.ref h, .int (nI num)] [(h, .inr (3, [.int (nI g), .int (nI p), .ref aR, .ref aB, .ref aA, .ref aO, .int (nI dm), .ref aD, .ref aP, .int (nI th), .int (nI rm), .ref aS, .ref aW, .ref aU, .ref aL, .ref aE, .ref aQ])), (aP, .inl (cI, 9, .inl S)), (aS, .inl (cI, 5184, .inl (fun j => nI (rs j)))), (aW, .inl (cI, 9, .inl (fun j => nI (rw j)))), (aU, .inl (cZ, 9, .inl (fun j => bI (us j)))), (aL, .inl (cZ, 576, .inl (fun j => bI (lf j)))), (aE, .inl (cI, 9, .inl E)), (aQ, .inl (cI, 9, .inl (fun j => nI (bq j))))] (fun (u : (Nat → Nat) × (Nat → Bool) × (Nat → Bool) × (Nat → Int32) × (Nat → Nat)) => (∀ t, t < g * p → u.2.2.2.1 t = finS g (lowC g p rg bd ab ob) (g * p - dm) dm S num t) ∧ (∀ z, u.1 z < 4)) (fun (u : (Nat → Nat) × (Nat → Bool) × (Nat → Bool) × (Nat → Int32) × (Nat → Nat)) => [(h, .inr (3, [.int (nI g), .int (nI p), .ref aR, .ref aB, .ref aA, .ref aO, .int (nI dm), .ref aD, .ref aP, .int (nI th), .int (nI rm), .ref aS, .ref aW, .ref aU, .ref aL, .ref aE, .ref aQ])), (aP, .inl (cI, 9, .inl S)), (aS, .inl (cI, 5184, .inl (fun j => nI (rs j)))), (aW, .inl (cI, 9, .inl (fun j => nI (u.1 j)))), (aU, .inl (cZ, 9, .inl (fun j => bI (u.2.1 j)))), (aL, .inl (cZ, 576, .inl (fun j => bI (u.2.2.1 j)))), (aE, .inl (cI, 9, .inl u.2.2.2.1)), (aQ, .inl (cI, 9, .inl (fun j => nI (u.2.2.2.2 j))))]) := by
  refine Cv_of (cc := cX3_follow) (maxL := 8) (by decide) rfl (Nat.le_of_ble_eq_true rfl) ?_
  intro pR eV sT mI args below meth cO AA QQ ls hXX hBB hml hown hts hnm hN hK hP hD hS hAA hl hret
  have hl : lv_has ls 8 [(0, .ref h), (1, .int (nI num))] := hl
  obtain ⟨hg2, hg4, hT, hdm, hV, hrs, hRL⟩ := id hC
  have kw_1 := hts (.fieldLink RX3 84 "CupDrawModel" "resultMany" "I") (List.mem_of_getElem? (i := 1) rfl)
  have iw_X3 : ∀ w ∈ wsX30, w ∈ wsX3_follow := by decide +kernel
  have kw_3 := hts (.fieldLink RX3 58 "CupDrawModel" "potMany" "I") (List.mem_of_getElem? (i := 3) rfl)
  have kw_4 := hts (.fieldLink RX3 55 "CupDrawModel" "groupMany" "I") (List.mem_of_getElem? (i := 4) rfl)
  have kw_7 := hts (.fieldLink RX3 44 "CupDrawModel" "balls" "[I") (List.mem_of_getElem? (i := 7) rfl)
  have kw_8 := hts (.fieldLink RX3 32 "CupDrawModel" "row" "[I") (List.mem_of_getElem? (i := 8) rfl)
  have kw_5 := hts (.fieldLink RX3 41 "CupDrawModel" "ends" "[I") (List.mem_of_getElem? (i := 5) rfl)
  have kw_2 := hts (.fieldLink RX3 38 "CupDrawModel" "isLeft" "[Z") (List.mem_of_getElem? (i := 2) rfl)
  have kw_9 := hts (.fieldLink RX3 29 "CupDrawModel" "results" "[I") (List.mem_of_getElem? (i := 9) rfl)
  have kw_6 := hts (.fieldLink RX3 26 "CupDrawModel" "places" "[I") (List.mem_of_getElem? (i := 6) rfl)
  refine lv_iload_n hXX hBB dX3_follow_0 rfl (lv_at hl 1 rfl) ?_
  refine lv_istore_n (lv' := [(2, .int (nI num)), (0, .ref h), (1, .int (nI num))]) hXX hBB dX3_follow_1 rfl hl (by decide) rfl (fun ls hl => ?_)
  refine lv_iconst (v := nI 0) hXX hBB dX3_follow_2 (by decide) ?_
  refine lv_istore_n (lv' := [(3, .int (nI 0)), (2, .int (nI num)), (0, .ref h), (1, .int (nI num))]) hXX hBB dX3_follow_3 rfl hl (by decide) rfl (fun ls hl => ?_)
  have L_4 : ∀ (N_4 : Nat) (k : Nat) (lq : Nat → Bool), (k ≤ rm) → (∀ z, z < k → lq z = true) → rm - k < N_4 → ∀ (H : Heap) (locs : List Loc), va_P D vwCl [(h, .inr (3, [.int (nI g), .int (nI p), .ref aR, .ref aB, .ref aA, .ref aO, .int (nI dm), .ref aD, .ref aP, .int (nI th), .int (nI rm), .ref aS, .ref aW, .ref aU, .ref aL, .ref aE, .ref aQ])), (aP, .inl (cI, 9, .inl S)), (aS, .inl (cI, 5184, .inl (fun j => nI (rs j)))), (aW, .inl (cI, 9, .inl (fun j => nI (rw j)))), (aU, .inl (cZ, 9, .inl (fun j => bI (us j)))), (aL, .inl (cZ, 576, .inl (fun j => bI (lq j)))), (aE, .inl (cI, 9, .inl E)), (aQ, .inl (cI, 9, .inl (fun j => nI (bq j))))] H → va_D AA [(h, .inr (3, [.int (nI g), .int (nI p), .ref aR, .ref aB, .ref aA, .ref aO, .int (nI dm), .ref aD, .ref aP, .int (nI th), .int (nI rm), .ref aS, .ref aW, .ref aU, .ref aL, .ref aE, .ref aQ])), (aP, .inl (cI, 9, .inl S)), (aS, .inl (cI, 5184, .inl (fun j => nI (rs j)))), (aW, .inl (cI, 9, .inl (fun j => nI (rw j)))), (aU, .inl (cZ, 9, .inl (fun j => bI (us j)))), (aL, .inl (cZ, 576, .inl (fun j => bI (lq j)))), (aE, .inl (cI, 9, .inl E)), (aQ, .inl (cI, 9, .inl (fun j => nI (bq j))))] → va_S AA sT.heap H locs → ∀ (ls : Array Slot), lv_has ls 8 [(3, .int (nI k)), (2, .int (nI num)), (0, .ref h), (1, .int (nI num))] → W pR l eV rmX3_follow sT mI args below meth cO H locs 0 0 QQ (F0 mI 4 ls []) := by
    intro N_4
    induction N_4 with
    | zero =>
      intro k lq hk hL hMM
      exact absurd hMM (Nat.not_lt_zero _)
    | succ N_4 ih_4 =>
      intro k lq hk hL hMM H locs hP hD hS ls hl
      refine lv_iload_n hXX hBB dX3_follow_4 rfl (lv_at hl 0 rfl) ?_
      refine lv_aload_n hXX hBB dX3_follow_5 rfl (lv_at hl 2 rfl) ?_
      refine va_get (D := D) (ci := 3) (v := .int (nI rm)) (C := RX3) (T := TX3) (N := 17) hXX hBB hts iw_X3 hown hK hP 0 rfl rfl 10 (by decide) kw_1 (fun _ h9 => h9) rfl dX3_follow_6 ?_
      refine lv_icmp_ge (tgt := 25) hXX hBB dX3_follow_9 (by decide) (fun c_9 => ?_) (fun c_9 => ?_)
      · have c_9 : rm ≤ k := (nI_leI (by omega) (by omega)).mp c_9
        refine lv_iconst (v := nI 0) hXX hBB dX3_follow_25 (by decide) ?_
        refine lv_istore_n (lv' := [(3, .int (nI 0)), (2, .int (nI num)), (0, .ref h), (1, .int (nI num))]) hXX hBB dX3_follow_26 rfl hl (by decide) rfl (fun ls hl => ?_)
        have L_27 : ∀ (N_27 : Nat) (q : Nat) (rest : Nat) (S9 : Nat → Int32) (d : Nat) (lq : Nat → Bool) (Eq9 : Nat → Int32) (bq9 : Nat → Nat) (wq : Nat → Nat) (uq : Nat → Bool), (FolP g p rg bd ab ob S dm rm rs num q S9 d rest Eq9 lq) → (∀ z, wq z < 4) → p - q < N_27 → ∀ (H : Heap) (locs : List Loc), va_P D vwCl [(h, .inr (3, [.int (nI g), .int (nI p), .ref aR, .ref aB, .ref aA, .ref aO, .int (nI dm), .ref aD, .ref aP, .int (nI th), .int (nI rm), .ref aS, .ref aW, .ref aU, .ref aL, .ref aE, .ref aQ])), (aP, .inl (cI, 9, .inl S)), (aS, .inl (cI, 5184, .inl (fun j => nI (rs j)))), (aW, .inl (cI, 9, .inl (fun j => nI (wq j)))), (aU, .inl (cZ, 9, .inl (fun j => bI (uq j)))), (aL, .inl (cZ, 576, .inl (fun j => bI (lq j)))), (aE, .inl (cI, 9, .inl Eq9)), (aQ, .inl (cI, 9, .inl (fun j => nI (bq9 j))))] H → va_D AA [(h, .inr (3, [.int (nI g), .int (nI p), .ref aR, .ref aB, .ref aA, .ref aO, .int (nI dm), .ref aD, .ref aP, .int (nI th), .int (nI rm), .ref aS, .ref aW, .ref aU, .ref aL, .ref aE, .ref aQ])), (aP, .inl (cI, 9, .inl S)), (aS, .inl (cI, 5184, .inl (fun j => nI (rs j)))), (aW, .inl (cI, 9, .inl (fun j => nI (wq j)))), (aU, .inl (cZ, 9, .inl (fun j => bI (uq j)))), (aL, .inl (cZ, 576, .inl (fun j => bI (lq j)))), (aE, .inl (cI, 9, .inl Eq9)), (aQ, .inl (cI, 9, .inl (fun j => nI (bq9 j))))] → va_S AA sT.heap H locs → ∀ (ls : Array Slot), lv_has ls 8 [(3, .int (nI q)), (2, .int (nI rest)), (0, .ref h), (1, .int (nI num))] → W pR l eV rmX3_follow sT mI args below meth cO H locs 0 0 QQ (F0 mI 27 ls []) := by
          intro N_27
          induction N_27 with
          | zero =>
            intro q rest S9 d lq Eq9 bq9 wq uq hP9 hW9 hMM
            exact absurd hMM (Nat.not_lt_zero _)
          | succ N_27 ih_27 =>
            intro q rest S9 d lq Eq9 bq9 wq uq hP9 hW9 hMM H locs hP hD hS ls hl
            refine lv_iload_n hXX hBB dX3_follow_27 rfl (lv_at hl 0 rfl) ?_
            refine lv_aload_n hXX hBB dX3_follow_28 rfl (lv_at hl 2 rfl) ?_
            refine va_get (D := D) (ci := 3) (v := .int (nI p)) (C := RX3) (T := TX3) (N := 17) hXX hBB hts iw_X3 hown hK hP 0 rfl rfl 1 (by decide) kw_3 (fun _ h9 => h9) rfl dX3_follow_29 ?_
            refine lv_icmp_ge (tgt := 236) hXX hBB dX3_follow_32 (by decide) (fun c_32 => ?_) (fun c_32 => ?_)
            · have c_32 : p ≤ q := (nI_leI (by have h9 := hP9.1; omega) (by have h9 := hP9.1; omega)).mp c_32
              have hE : q = p := by have := hP9.1; omega
              rw [hE] at hP9
              refine hret (wq, uq, lq, Eq9, bq9) ?_ (hP.sub [0, 1, 2, 3, 4, 5, 6, 7] rfl) (hD.sub [0, 1, 2, 3, 4, 5, 6, 7] (by decide) rfl) hS (Nat.le_of_ble_eq_true rfl) (Nat.le_of_ble_eq_true rfl) dX3_follow_236
              show (∀ t, t < g * p → Eq9 t = finS g (lowC g p rg bd ab ob) (g * p - dm) dm S num t) ∧ (∀ z, wq z < 4)
              exact ⟨FolP_end hdm hP9, hW9⟩
            · have c_32 : ¬ p ≤ q := fun h9 => c_32 ((nI_leI (by have h9 := hP9.1; omega) (by have h9 := hP9.1; omega)).mpr h9)
              have hq : q < p := by omega
              have hms : g * (q + 1) = g * q + g := Nat.mul_succ g q
              have hmq : g * (q + 1) ≤ g * p := Nat.mul_le_mul_left g hq
              have hr576 : rest < 576 := hP9.2.2.1
              refine lv_iconst (v := nI 0) hXX hBB dX3_follow_35 (by decide) ?_
              refine lv_istore (lv' := [(4, .int (nI 0)), (3, .int (nI q)), (2, .int (nI rest)), (0, .ref h), (1, .int (nI num))]) hXX hBB dX3_follow_36 hl (by decide) rfl (fun ls hl => ?_)
              refine lv_aload_n hXX hBB dX3_follow_38 rfl (lv_at hl 3 rfl) ?_
              refine va_get (D := D) (ci := 3) (v := .int (nI g)) (C := RX3) (T := TX3) (N := 17) hXX hBB hts iw_X3 hown hK hP 0 rfl rfl 0 (by decide) kw_4 (fun _ h9 => h9) rfl dX3_follow_39 ?_
              refine lv_iload_n hXX hBB dX3_follow_42 rfl (lv_at hl 1 rfl) ?_
              refine lv_imul hXX hBB dX3_follow_43 ?_
              refine m_top (y := nI (g * q)) (pk_mul _ _) ?_
              refine lv_istore (lv' := [(5, .int (nI (g * q))), (4, .int (nI 0)), (3, .int (nI q)), (2, .int (nI rest)), (0, .ref h), (1, .int (nI num))]) hXX hBB dX3_follow_44 hl (by decide) rfl (fun ls hl => ?_)
              have L_46 : ∀ (N_46 : Nat) (t : Nat) (many : Nat) (E8 : Nat → Int32) (b8 : Nat → Nat), (g * q ≤ t ∧ t ≤ g * q + g) → (FolB S (g * q) t many b8) → (∀ z, z < t → E8 z = S9 z) → (many ≤ t - g * q) → g * q + g - t < N_46 → ∀ (H : Heap) (locs : List Loc), va_P D vwCl [(h, .inr (3, [.int (nI g), .int (nI p), .ref aR, .ref aB, .ref aA, .ref aO, .int (nI dm), .ref aD, .ref aP, .int (nI th), .int (nI rm), .ref aS, .ref aW, .ref aU, .ref aL, .ref aE, .ref aQ])), (aP, .inl (cI, 9, .inl S)), (aS, .inl (cI, 5184, .inl (fun j => nI (rs j)))), (aW, .inl (cI, 9, .inl (fun j => nI (wq j)))), (aU, .inl (cZ, 9, .inl (fun j => bI (uq j)))), (aL, .inl (cZ, 576, .inl (fun j => bI (lq j)))), (aE, .inl (cI, 9, .inl E8)), (aQ, .inl (cI, 9, .inl (fun j => nI (b8 j))))] H → va_D AA [(h, .inr (3, [.int (nI g), .int (nI p), .ref aR, .ref aB, .ref aA, .ref aO, .int (nI dm), .ref aD, .ref aP, .int (nI th), .int (nI rm), .ref aS, .ref aW, .ref aU, .ref aL, .ref aE, .ref aQ])), (aP, .inl (cI, 9, .inl S)), (aS, .inl (cI, 5184, .inl (fun j => nI (rs j)))), (aW, .inl (cI, 9, .inl (fun j => nI (wq j)))), (aU, .inl (cZ, 9, .inl (fun j => bI (uq j)))), (aL, .inl (cZ, 576, .inl (fun j => bI (lq j)))), (aE, .inl (cI, 9, .inl E8)), (aQ, .inl (cI, 9, .inl (fun j => nI (b8 j))))] → va_S AA sT.heap H locs → ∀ (ls : Array Slot), lv_has ls 8 [(5, .int (nI t)), (4, .int (nI many)), (3, .int (nI q)), (2, .int (nI rest)), (0, .ref h), (1, .int (nI num))] → W pR l eV rmX3_follow sT mI args below meth cO H locs 0 0 QQ (F0 mI 46 ls []) := by
                intro N_46
                induction N_46 with
                | zero =>
                  intro t many E8 b8 ht hB9 hE9 hm9 hMM
                  exact absurd hMM (Nat.not_lt_zero _)
                | succ N_46 ih_46 =>
                  intro t many E8 b8 ht hB9 hE9 hm9 hMM H locs hP hD hS ls hl
                  refine lv_iload hXX hBB dX3_follow_46 (lv_at hl 0 rfl) ?_
                  refine lv_aload_n hXX hBB dX3_follow_48 rfl (lv_at hl 4 rfl) ?_
                  refine va_get (D := D) (ci := 3) (v := .int (nI g)) (C := RX3) (T := TX3) (N := 17) hXX hBB hts iw_X3 hown hK hP 0 rfl rfl 0 (by decide) kw_4 (fun _ h9 => h9) rfl dX3_follow_49 ?_
                  refine lv_iload_n hXX hBB dX3_follow_52 rfl (lv_at hl 2 rfl) ?_
                  refine lv_iconst (v := nI 1) hXX hBB dX3_follow_53 (by decide) ?_
                  refine lv_iadd hXX hBB dX3_follow_54 ?_
                  refine m_top (y := nI (q + 1)) (nI_add _ _) ?_
                  refine lv_imul hXX hBB dX3_follow_55 ?_
                  refine m_top (y := nI (g * (q + 1))) (pk_mul _ _) ?_
                  refine lv_icmp_ge (tgt := 102) hXX hBB dX3_follow_56 (by decide) (fun c_56 => ?_) (fun c_56 => ?_)
                  · have c_56 : (g * (q + 1)) ≤ t := (nI_leI (by omega) (by omega)).mp c_56
                    have hE5 : t = g * q + g := by omega
                    rw [hE5] at hB9 hE9 hm9
                    have hm4 : many ≤ 4 := by omega
                    have hfm := fac_le hm4
                    have hrl : rest % fac many < fac many := Nat.mod_lt _ hfm.2
                    have hrd : rest / fac many ≤ rest := Nat.div_le_self _ _
                    refine lv_aload_n hXX hBB dX3_follow_102 rfl (lv_at hl 4 rfl) ?_
                    refine lv_iload_n hXX hBB dX3_follow_103 rfl (lv_at hl 3 rfl) ?_
                    refine lv_iload hXX hBB dX3_follow_104 (lv_at hl 1 rfl) ?_
                    refine m_scalli (wr := [(h, .inr (3, [.int (nI g), .int (nI p), .ref aR, .ref aB, .ref aA, .ref aO, .int (nI dm), .ref aD, .ref aP, .int (nI th), .int (nI rm), .ref aS, .ref aW, .ref aU, .ref aL, .ref aE, .ref aQ])), (aP, .inl (cI, 9, .inl S)), (aS, .inl (cI, 5184, .inl (fun j => nI (rs j)))), (aW, .inl (cI, 9, .inl (fun j => nI (wq j)))), (aU, .inl (cZ, 9, .inl (fun j => bI (uq j)))), (aL, .inl (cZ, 576, .inl (fun j => bI (lq j)))), (aE, .inl (cI, 9, .inl E8)), (aQ, .inl (cI, 9, .inl (fun j => nI (b8 j))))]) ⟨hXX, hBB, hml, hown, hts⟩ hN (kX3_factorial l D many (by omega)) (va_cwS 1 hts gX3_follow_X3_factorial rfl rfl rfl (by decide +kernel) ⟨Nat.le_of_ble_eq_true rfl, Nat.le_of_ble_eq_true rfl⟩) hK hP hD hS hAA [] [0, 1, 2, 3, 4, 5, 6, 7] [] rfl rfl rfl (by decide) (by decide) (by decide) rfl hl.1 rfl (Nat.le_of_ble_eq_true rfl) dX3_follow_106 ⟨Nat.le_of_ble_eq_true rfl, Nat.le_of_ble_eq_true rfl⟩ (k := 0) (n := 0) rfl rfl (fun r_1 u_ H locs hw hP hD hS => ?_)
                    have hw : (r_1 = nI (fac many)) := hw
                    have hr_r_1 := hw
                    have hP : va_P D vwCl [(h, .inr (3, [.int (nI g), .int (nI p), .ref aR, .ref aB, .ref aA, .ref aO, .int (nI dm), .ref aD, .ref aP, .int (nI th), .int (nI rm), .ref aS, .ref aW, .ref aU, .ref aL, .ref aE, .ref aQ])), (aP, .inl (cI, 9, .inl S)), (aS, .inl (cI, 5184, .inl (fun j => nI (rs j)))), (aW, .inl (cI, 9, .inl (fun j => nI (wq j)))), (aU, .inl (cZ, 9, .inl (fun j => bI (uq j)))), (aL, .inl (cZ, 576, .inl (fun j => bI (lq j)))), (aE, .inl (cI, 9, .inl E8)), (aQ, .inl (cI, 9, .inl (fun j => nI (b8 j))))] H := hP
                    have hD : va_D AA [(h, .inr (3, [.int (nI g), .int (nI p), .ref aR, .ref aB, .ref aA, .ref aO, .int (nI dm), .ref aD, .ref aP, .int (nI th), .int (nI rm), .ref aS, .ref aW, .ref aU, .ref aL, .ref aE, .ref aQ])), (aP, .inl (cI, 9, .inl S)), (aS, .inl (cI, 5184, .inl (fun j => nI (rs j)))), (aW, .inl (cI, 9, .inl (fun j => nI (wq j)))), (aU, .inl (cZ, 9, .inl (fun j => bI (uq j)))), (aL, .inl (cZ, 576, .inl (fun j => bI (lq j)))), (aE, .inl (cI, 9, .inl E8)), (aQ, .inl (cI, 9, .inl (fun j => nI (b8 j))))] := hD
                    subst hr_r_1
                    refine lv_irem hXX hBB dX3_follow_109 (nI_ne0 (by omega) (by omega)) ?_
                    refine m_top (y := nI (rest % (fac many))) (pk_rem (by omega) (by omega) (by omega)) ?_
                    refine lv_iload hXX hBB dX3_follow_110 (lv_at hl 1 rfl) ?_
                    refine lv_iconst (v := nI 0) hXX hBB dX3_follow_112 (by decide) ?_
                    refine m_callv (wr := [(aP, .inl (cI, 9, .inl S)), (aS, .inl (cI, 5184, .inl (fun j => nI (rs j)))), (aL, .inl (cZ, 576, .inl (fun j => bI (lq j)))), (aE, .inl (cI, 9, .inl E8)), (aQ, .inl (cI, 9, .inl (fun j => nI (b8 j))))]) ⟨hXX, hBB, hml, hown, hts⟩ hN (kX3_layOrder l D cI cZ h g p aR aB aA aO dm aD aP th rm aS aW aU aL aE aQ wq uq (rest % (fac many)) many 0 (by omega) (by omega) (by omega)) (cwV 3 hts gX3_follow_X3_layOrder rfl rfl rfl (by decide +kernel) ⟨Nat.le_of_ble_eq_true rfl, Nat.le_of_ble_eq_true rfl⟩) hK hP hD hS hAA [0, 3, 4] [1, 2, 5, 6, 7] [0, 1] rfl rfl rfl (by decide) (by decide) (by decide) rfl 3 rfl rfl rfl rfl hl.1 rfl (Nat.le_of_ble_eq_true rfl) dX3_follow_113 ⟨Nat.le_of_ble_eq_true rfl, Nat.le_of_ble_eq_true rfl⟩ (k := 0) (n := 0) rfl rfl (fun  u_ H locs hw hP hD hS => ?_)
                    obtain ⟨wo, uo⟩ := u_
                    have hw : (∀ z, z < many → wo (0 + z) = lo many (rest % (fac many)) z) ∧ (∀ z, z < 0 ∨ 0 + many ≤ z → wo z = wq z) := hw
                    obtain ⟨e_r, e_s⟩ := hw
                    have hP : va_P D vwCl [(aP, .inl (cI, 9, .inl S)), (aS, .inl (cI, 5184, .inl (fun j => nI (rs j)))), (aL, .inl (cZ, 576, .inl (fun j => bI (lq j)))), (aE, .inl (cI, 9, .inl E8)), (aQ, .inl (cI, 9, .inl (fun j => nI (b8 j)))), (h, .inr (3, [.int (nI g), .int (nI p), .ref aR, .ref aB, .ref aA, .ref aO, .int (nI dm), .ref aD, .ref aP, .int (nI th), .int (nI rm), .ref aS, .ref aW, .ref aU, .ref aL, .ref aE, .ref aQ])), (aW, .inl (cI, 9, .inl (fun j => nI (wo j)))), (aU, .inl (cZ, 9, .inl (fun j => bI (uo j))))] H := hP
                    have hD : va_D AA [(aP, .inl (cI, 9, .inl S)), (aS, .inl (cI, 5184, .inl (fun j => nI (rs j)))), (aL, .inl (cZ, 576, .inl (fun j => bI (lq j)))), (aE, .inl (cI, 9, .inl E8)), (aQ, .inl (cI, 9, .inl (fun j => nI (b8 j)))), (h, .inr (3, [.int (nI g), .int (nI p), .ref aR, .ref aB, .ref aA, .ref aO, .int (nI dm), .ref aD, .ref aP, .int (nI th), .int (nI rm), .ref aS, .ref aW, .ref aU, .ref aL, .ref aE, .ref aQ])), (aW, .inl (cI, 9, .inl (fun j => nI (wo j)))), (aU, .inl (cZ, 9, .inl (fun j => bI (uo j))))] := hD
                    have hW9o : ∀ z, wo z < 4 := fun z => by
                      rcases Nat.lt_or_ge z many with h9 | h9
                      · have h8 := e_r z h9
                        rw [Nat.zero_add] at h8
                        rw [h8]
                        exact Nat.lt_of_lt_of_le (lo_spec h9).1 hm4
                      · rw [e_s z (Or.inr (by omega))]; exact hW9 z
                    refine lv_iload_n hXX hBB dX3_follow_116 rfl (lv_at hl 3 rfl) ?_
                    refine lv_iload hXX hBB dX3_follow_117 (lv_at hl 1 rfl) ?_
                    refine m_scalli (wr := [(aP, .inl (cI, 9, .inl S)), (aS, .inl (cI, 5184, .inl (fun j => nI (rs j)))), (aL, .inl (cZ, 576, .inl (fun j => bI (lq j)))), (aE, .inl (cI, 9, .inl E8)), (aQ, .inl (cI, 9, .inl (fun j => nI (b8 j)))), (h, .inr (3, [.int (nI g), .int (nI p), .ref aR, .ref aB, .ref aA, .ref aO, .int (nI dm), .ref aD, .ref aP, .int (nI th), .int (nI rm), .ref aS, .ref aW, .ref aU, .ref aL, .ref aE, .ref aQ])), (aW, .inl (cI, 9, .inl (fun j => nI (wo j)))), (aU, .inl (cZ, 9, .inl (fun j => bI (uo j))))]) ⟨hXX, hBB, hml, hown, hts⟩ hN (kX3_factorial l D many (by omega)) (va_cwS 1 hts gX3_follow_X3_factorial rfl rfl rfl (by decide +kernel) ⟨Nat.le_of_ble_eq_true rfl, Nat.le_of_ble_eq_true rfl⟩) hK hP hD hS hAA [] [0, 1, 2, 3, 4, 5, 6, 7] [] rfl rfl rfl (by decide) (by decide) (by decide) rfl hl.1 rfl (Nat.le_of_ble_eq_true rfl) dX3_follow_119 ⟨Nat.le_of_ble_eq_true rfl, Nat.le_of_ble_eq_true rfl⟩ (k := 0) (n := 0) rfl rfl (fun r_2 u_ H locs hw hP hD hS => ?_)
                    have hw : (r_2 = nI (fac many)) := hw
                    have hr_r_2 := hw
                    have hP : va_P D vwCl [(aP, .inl (cI, 9, .inl S)), (aS, .inl (cI, 5184, .inl (fun j => nI (rs j)))), (aL, .inl (cZ, 576, .inl (fun j => bI (lq j)))), (aE, .inl (cI, 9, .inl E8)), (aQ, .inl (cI, 9, .inl (fun j => nI (b8 j)))), (h, .inr (3, [.int (nI g), .int (nI p), .ref aR, .ref aB, .ref aA, .ref aO, .int (nI dm), .ref aD, .ref aP, .int (nI th), .int (nI rm), .ref aS, .ref aW, .ref aU, .ref aL, .ref aE, .ref aQ])), (aW, .inl (cI, 9, .inl (fun j => nI (wo j)))), (aU, .inl (cZ, 9, .inl (fun j => bI (uo j))))] H := hP
                    have hD : va_D AA [(aP, .inl (cI, 9, .inl S)), (aS, .inl (cI, 5184, .inl (fun j => nI (rs j)))), (aL, .inl (cZ, 576, .inl (fun j => bI (lq j)))), (aE, .inl (cI, 9, .inl E8)), (aQ, .inl (cI, 9, .inl (fun j => nI (b8 j)))), (h, .inr (3, [.int (nI g), .int (nI p), .ref aR, .ref aB, .ref aA, .ref aO, .int (nI dm), .ref aD, .ref aP, .int (nI th), .int (nI rm), .ref aS, .ref aW, .ref aU, .ref aL, .ref aE, .ref aQ])), (aW, .inl (cI, 9, .inl (fun j => nI (wo j)))), (aU, .inl (cZ, 9, .inl (fun j => bI (uo j))))] := hD
                    subst hr_r_2
                    refine lv_idiv hXX hBB dX3_follow_122 (nI_ne0 (by omega) (by omega)) ?_
                    refine m_top (y := nI (rest / (fac many))) (pk_div (by omega) (by omega) (by omega)) ?_
                    refine lv_istore_n (lv' := [(2, .int (nI (rest / (fac many)))), (5, .int (nI t)), (4, .int (nI many)), (3, .int (nI q)), (0, .ref h), (1, .int (nI num))]) hXX hBB dX3_follow_123 rfl hl (by decide) rfl (fun ls hl => ?_)
                    refine lv_iconst (v := nI 0) hXX hBB dX3_follow_124 (by decide) ?_
                    refine lv_istore (lv' := [(5, .int (nI 0)), (2, .int (nI (rest / (fac many)))), (4, .int (nI many)), (3, .int (nI q)), (0, .ref h), (1, .int (nI num))]) hXX hBB dX3_follow_125 hl (by decide) rfl (fun ls hl => ?_)
                    have L_127 : ∀ (N_127 : Nat) (k : Nat) (S8 : Nat → Int32) (E7 : Nat → Int32) (l7 : Nat → Bool), (FolK g p rg bd ab ob S dm rm rs num q many b8 d rest k S8 E7 l7) → many - k < N_127 → ∀ (H : Heap) (locs : List Loc), va_P D vwCl [(aP, .inl (cI, 9, .inl S)), (aS, .inl (cI, 5184, .inl (fun j => nI (rs j)))), (aL, .inl (cZ, 576, .inl (fun j => bI (l7 j)))), (aE, .inl (cI, 9, .inl E7)), (aQ, .inl (cI, 9, .inl (fun j => nI (b8 j)))), (h, .inr (3, [.int (nI g), .int (nI p), .ref aR, .ref aB, .ref aA, .ref aO, .int (nI dm), .ref aD, .ref aP, .int (nI th), .int (nI rm), .ref aS, .ref aW, .ref aU, .ref aL, .ref aE, .ref aQ])), (aW, .inl (cI, 9, .inl (fun j => nI (wo j)))), (aU, .inl (cZ, 9, .inl (fun j => bI (uo j))))] H → va_D AA [(aP, .inl (cI, 9, .inl S)), (aS, .inl (cI, 5184, .inl (fun j => nI (rs j)))), (aL, .inl (cZ, 576, .inl (fun j => bI (l7 j)))), (aE, .inl (cI, 9, .inl E7)), (aQ, .inl (cI, 9, .inl (fun j => nI (b8 j)))), (h, .inr (3, [.int (nI g), .int (nI p), .ref aR, .ref aB, .ref aA, .ref aO, .int (nI dm), .ref aD, .ref aP, .int (nI th), .int (nI rm), .ref aS, .ref aW, .ref aU, .ref aL, .ref aE, .ref aQ])), (aW, .inl (cI, 9, .inl (fun j => nI (wo j)))), (aU, .inl (cZ, 9, .inl (fun j => bI (uo j))))] → va_S AA sT.heap H locs → ∀ (ls : Array Slot), lv_has ls 8 [(5, .int (nI k)), (2, .int (nI (rest / (fac many)))), (4, .int (nI many)), (3, .int (nI q)), (0, .ref h), (1, .int (nI num))] → W pR l eV rmX3_follow sT mI args below meth cO H locs 0 0 QQ (F0 mI 127 ls []) := by
                      intro N_127
                      induction N_127 with
                      | zero =>
                        intro k S8 E7 l7 hK9 hMM
                        exact absurd hMM (Nat.not_lt_zero _)
                      | succ N_127 ih_127 =>
                        intro k S8 E7 l7 hK9 hMM H locs hP hD hS ls hl
                        refine lv_iload hXX hBB dX3_follow_127 (lv_at hl 0 rfl) ?_
                        refine lv_iload hXX hBB dX3_follow_129 (lv_at hl 2 rfl) ?_
                        refine lv_icmp_ge (tgt := 230) hXX hBB dX3_follow_131 (by decide) (fun c_131 => ?_) (fun c_131 => ?_)
                        · have c_131 : many ≤ k := (nI_leI (by have h9 := hK9.1; omega) (by have h9 := hK9.1; omega)).mp c_131
                          have hE6 : k = many := by have := hK9.1; omega
                          rw [hE6] at hK9
                          refine lv_iinc (v := nI (q + 1)) (lv' := [(3, .int (nI (q + 1))), (5, .int (nI k)), (2, .int (nI (rest / (fac many)))), (4, .int (nI many)), (0, .ref h), (1, .int (nI num))]) hXX hBB dX3_follow_230 hl (k := 3) rfl (nI_1 _) (by decide) rfl (fun ls hl => ?_)
                          refine lv_goto (tgt := 27) hXX hBB dX3_follow_233 (by decide) ?_
                          have hi_P9 : FolP g p rg bd ab ob S dm rm rs num (q + 1) S8 (d + many) (rest / (fac many)) E7 l7 := by exact FolK_end hg4 hP9 hq hK9
                          have hi_W9 : ∀ z, wo z < 4 := by exact hW9o
                          have hmm : p - (q + 1) < N_27 := by omega
                          exact ih_27 (q + 1) (rest / (fac many)) S8 (d + many) l7 E7 b8 wo uo hi_P9 hi_W9 hmm _ _ (hP.sub [5, 0, 1, 6, 7, 2, 3, 4] rfl) (hD.sub [5, 0, 1, 6, 7, 2, 3, 4] (by decide) rfl) hS ls (lv_sub hl [0, 2, 4, 5] rfl)
                        · have c_131 : ¬ many ≤ k := fun h9 => c_131 ((nI_leI (by have h9 := hK9.1; omega) (by have h9 := hK9.1; omega)).mpr h9)
                          have hkm : k < many := by omega
                          obtain ⟨b1, b2, b3, b4, b5⟩ := FolK_ball hT hq hK9 hkm
                          have hrowk : wo k = lo many (rest % fac many) k := by have h9 := e_r k hkm; rw [Nat.zero_add] at h9; exact h9
                          refine lv_aload_n hXX hBB dX3_follow_134 rfl (lv_at hl 4 rfl) ?_
                          refine va_get (D := D) (ci := 3) (v := .ref aQ) (C := RX3) (T := TX3) (N := 17) hXX hBB hts iw_X3 hown hK hP 5 rfl rfl 16 (by decide) kw_7 (fun _ h9 => h9) rfl dX3_follow_135 ?_
                          refine lv_aload_n hXX hBB dX3_follow_138 rfl (lv_at hl 4 rfl) ?_
                          refine va_get (D := D) (ci := 3) (v := .ref aW) (C := RX3) (T := TX3) (N := 17) hXX hBB hts iw_X3 hown hK hP 5 rfl rfl 12 (by decide) kw_8 (fun _ h9 => h9) rfl dX3_follow_139 ?_
                          refine lv_iload hXX hBB dX3_follow_142 (lv_at hl 0 rfl) ?_
                          refine m_iald hXX hBB hK hP 6 0 rfl rfl (i := k) (by omega) (by decide) (x := nI (wo k)) rfl dX3_follow_144 ?_
                          refine m_top (y := nI (lo many (rest % fac many) k)) (by rw [hrowk]) ?_
                          refine m_iald hXX hBB hK hP 4 0 rfl rfl (i := lo many (rest % fac many) k) (by omega) (by decide) (x := nI (b8 (lo many (rest % fac many) k))) rfl dX3_follow_145 ?_
                          refine lv_istore (lv' := [(6, .int (nI (b8 (lo many (rest % fac many) k)))), (5, .int (nI k)), (2, .int (nI (rest / (fac many)))), (4, .int (nI many)), (3, .int (nI q)), (0, .ref h), (1, .int (nI num))]) hXX hBB dX3_follow_146 hl (by decide) rfl (fun ls hl => ?_)
                          refine lv_aload_n hXX hBB dX3_follow_148 rfl (lv_at hl 5 rfl) ?_
                          refine va_get (D := D) (ci := 3) (v := .ref aE) (C := RX3) (T := TX3) (N := 17) hXX hBB hts iw_X3 hown hK hP 5 rfl rfl 15 (by decide) kw_5 (fun _ h9 => h9) rfl dX3_follow_149 ?_
                          refine lv_iload hXX hBB dX3_follow_152 (lv_at hl 0 rfl) ?_
                          refine lv_aload_n hXX hBB dX3_follow_154 rfl (lv_at hl 5 rfl) ?_
                          refine lv_iload hXX hBB dX3_follow_155 (lv_at hl 0 rfl) ?_
                          refine m_calli (wr := [(aP, .inl (cI, 9, .inl S)), (aE, .inl (cI, 9, .inl E7)), (aQ, .inl (cI, 9, .inl (fun j => nI (b8 j)))), (aW, .inl (cI, 9, .inl (fun j => nI (wo j)))), (aU, .inl (cZ, 9, .inl (fun j => bI (uo j))))]) ⟨hXX, hBB, hml, hown, hts⟩ hN (kX3_lowestLeft l D cI cZ h g p aR aB aA aO dm aD aP th rm aS aW aU aL aE aQ rs l7 (b8 (lo many (rest % fac many) k)) (by omega) (by assumption) (by omega) (by omega)) (cwV 1 hts gX3_follow_X3_lowestLeft rfl rfl rfl (by decide +kernel) ⟨Nat.le_of_ble_eq_true rfl, Nat.le_of_ble_eq_true rfl⟩) hK hP hD hS hAA [5, 1, 2] [0, 3, 4, 6, 7] [0, 1] rfl rfl rfl (by decide) (by decide) (by decide) rfl 3 rfl rfl rfl rfl hl.1 rfl (Nat.le_of_ble_eq_true rfl) dX3_follow_157 ⟨Nat.le_of_ble_eq_true rfl, Nat.le_of_ble_eq_true rfl⟩ (k := 0) (n := 0) rfl rfl (fun r_3 u_ H locs hw hP hD hS => ?_)
                          have hw : (r_3 = nI (llN g rs l7 (b8 (lo many (rest % fac many) k)) rm)) := hw
                          have hr_r_3 := hw
                          have hP : va_P D vwCl [(aP, .inl (cI, 9, .inl S)), (aE, .inl (cI, 9, .inl E7)), (aQ, .inl (cI, 9, .inl (fun j => nI (b8 j)))), (aW, .inl (cI, 9, .inl (fun j => nI (wo j)))), (aU, .inl (cZ, 9, .inl (fun j => bI (uo j)))), (h, .inr (3, [.int (nI g), .int (nI p), .ref aR, .ref aB, .ref aA, .ref aO, .int (nI dm), .ref aD, .ref aP, .int (nI th), .int (nI rm), .ref aS, .ref aW, .ref aU, .ref aL, .ref aE, .ref aQ])), (aS, .inl (cI, 5184, .inl (fun j => nI (rs j)))), (aL, .inl (cZ, 576, .inl (fun j => bI (l7 j))))] H := hP
                          have hD : va_D AA [(aP, .inl (cI, 9, .inl S)), (aE, .inl (cI, 9, .inl E7)), (aQ, .inl (cI, 9, .inl (fun j => nI (b8 j)))), (aW, .inl (cI, 9, .inl (fun j => nI (wo j)))), (aU, .inl (cZ, 9, .inl (fun j => bI (uo j)))), (h, .inr (3, [.int (nI g), .int (nI p), .ref aR, .ref aB, .ref aA, .ref aO, .int (nI dm), .ref aD, .ref aP, .int (nI th), .int (nI rm), .ref aS, .ref aW, .ref aU, .ref aL, .ref aE, .ref aQ])), (aS, .inl (cI, 5184, .inl (fun j => nI (rs j)))), (aL, .inl (cZ, 576, .inl (fun j => bI (l7 j))))] := hD
                          subst hr_r_3
                          refine m_iast hXX hBB hK hP hD hS 1 0 rfl rfl (i := b8 (lo many (rest % fac many) k)) (by omega) (by decide) (g := upd E7 (b8 (lo many (rest % fac many) k)) (nI (llN g rs l7 (b8 (lo many (rest % fac many) k)) rm))) (rfl) dX3_follow_160 (fun H locs hP hD hS => ?_)
                          have hP : va_P D vwCl [(aP, .inl (cI, 9, .inl S)), (aE, .inl (cI, 9, .inl (upd E7 (b8 (lo many (rest % fac many) k)) (nI (llN g rs l7 (b8 (lo many (rest % fac many) k)) rm))))), (aQ, .inl (cI, 9, .inl (fun j => nI (b8 j)))), (aW, .inl (cI, 9, .inl (fun j => nI (wo j)))), (aU, .inl (cZ, 9, .inl (fun j => bI (uo j)))), (h, .inr (3, [.int (nI g), .int (nI p), .ref aR, .ref aB, .ref aA, .ref aO, .int (nI dm), .ref aD, .ref aP, .int (nI th), .int (nI rm), .ref aS, .ref aW, .ref aU, .ref aL, .ref aE, .ref aQ])), (aS, .inl (cI, 5184, .inl (fun j => nI (rs j)))), (aL, .inl (cZ, 576, .inl (fun j => bI (l7 j))))] H := hP
                          have hD : va_D AA [(aP, .inl (cI, 9, .inl S)), (aE, .inl (cI, 9, .inl (upd E7 (b8 (lo many (rest % fac many) k)) (nI (llN g rs l7 (b8 (lo many (rest % fac many) k)) rm))))), (aQ, .inl (cI, 9, .inl (fun j => nI (b8 j)))), (aW, .inl (cI, 9, .inl (fun j => nI (wo j)))), (aU, .inl (cZ, 9, .inl (fun j => bI (uo j)))), (h, .inr (3, [.int (nI g), .int (nI p), .ref aR, .ref aB, .ref aA, .ref aO, .int (nI dm), .ref aD, .ref aP, .int (nI th), .int (nI rm), .ref aS, .ref aW, .ref aU, .ref aL, .ref aE, .ref aQ])), (aS, .inl (cI, 5184, .inl (fun j => nI (rs j)))), (aL, .inl (cZ, 576, .inl (fun j => bI (l7 j))))] := hD
                          refine lv_iconst (v := nI 0) hXX hBB dX3_follow_161 (by decide) ?_
                          refine lv_istore (lv' := [(7, .int (nI 0)), (6, .int (nI (b8 (lo many (rest % fac many) k)))), (5, .int (nI k)), (2, .int (nI (rest / (fac many)))), (4, .int (nI many)), (3, .int (nI q)), (0, .ref h), (1, .int (nI num))]) hXX hBB dX3_follow_162 hl (by decide) rfl (fun ls hl => ?_)
                          have L_164 : ∀ (N_164 : Nat) (jj : Nat) (l6 : Nat → Bool), (jj ≤ rm) → (∀ z, z < jj → l6 z = (l7 z && decide (rs (9 * z + (b8 (lo many (rest % fac many) k))) = llN g rs l7 (b8 (lo many (rest % fac many) k)) rm))) → (∀ z, jj ≤ z → l6 z = l7 z) → rm - jj < N_164 → ∀ (H : Heap) (locs : List Loc), va_P D vwCl [(aP, .inl (cI, 9, .inl S)), (aE, .inl (cI, 9, .inl (upd E7 (b8 (lo many (rest % fac many) k)) (nI (llN g rs l7 (b8 (lo many (rest % fac many) k)) rm))))), (aQ, .inl (cI, 9, .inl (fun j => nI (b8 j)))), (aW, .inl (cI, 9, .inl (fun j => nI (wo j)))), (aU, .inl (cZ, 9, .inl (fun j => bI (uo j)))), (h, .inr (3, [.int (nI g), .int (nI p), .ref aR, .ref aB, .ref aA, .ref aO, .int (nI dm), .ref aD, .ref aP, .int (nI th), .int (nI rm), .ref aS, .ref aW, .ref aU, .ref aL, .ref aE, .ref aQ])), (aS, .inl (cI, 5184, .inl (fun j => nI (rs j)))), (aL, .inl (cZ, 576, .inl (fun j => bI (l6 j))))] H → va_D AA [(aP, .inl (cI, 9, .inl S)), (aE, .inl (cI, 9, .inl (upd E7 (b8 (lo many (rest % fac many) k)) (nI (llN g rs l7 (b8 (lo many (rest % fac many) k)) rm))))), (aQ, .inl (cI, 9, .inl (fun j => nI (b8 j)))), (aW, .inl (cI, 9, .inl (fun j => nI (wo j)))), (aU, .inl (cZ, 9, .inl (fun j => bI (uo j)))), (h, .inr (3, [.int (nI g), .int (nI p), .ref aR, .ref aB, .ref aA, .ref aO, .int (nI dm), .ref aD, .ref aP, .int (nI th), .int (nI rm), .ref aS, .ref aW, .ref aU, .ref aL, .ref aE, .ref aQ])), (aS, .inl (cI, 5184, .inl (fun j => nI (rs j)))), (aL, .inl (cZ, 576, .inl (fun j => bI (l6 j))))] → va_S AA sT.heap H locs → ∀ (ls : Array Slot), lv_has ls 8 [(7, .int (nI jj)), (6, .int (nI (b8 (lo many (rest % fac many) k)))), (5, .int (nI k)), (2, .int (nI (rest / (fac many)))), (4, .int (nI many)), (3, .int (nI q)), (0, .ref h), (1, .int (nI num))] → W pR l eV rmX3_follow sT mI args below meth cO H locs 0 0 QQ (F0 mI 164 ls []) := by
                            intro N_164
                            induction N_164 with
                            | zero =>
                              intro jj l6 hjj hl6 hl5 hMM
                              exact absurd hMM (Nat.not_lt_zero _)
                            | succ N_164 ih_164 =>
                              intro jj l6 hjj hl6 hl5 hMM H locs hP hD hS ls hl
                              refine lv_iload hXX hBB dX3_follow_164 (lv_at hl 0 rfl) ?_
                              refine lv_aload_n hXX hBB dX3_follow_166 rfl (lv_at hl 6 rfl) ?_
                              refine va_get (D := D) (ci := 3) (v := .int (nI rm)) (C := RX3) (T := TX3) (N := 17) hXX hBB hts iw_X3 hown hK hP 5 rfl rfl 10 (by decide) kw_1 (fun _ h9 => h9) rfl dX3_follow_167 ?_
                              refine lv_icmp_ge (tgt := 224) hXX hBB dX3_follow_170 (by decide) (fun c_170 => ?_) (fun c_170 => ?_)
                              · have c_170 : rm ≤ jj := (nI_leI (by omega) (by omega)).mp c_170
                                have hE7 : jj = rm := by omega
                                rw [hE7] at hl6
                                refine lv_iinc (v := nI (k + 1)) (lv' := [(5, .int (nI (k + 1))), (7, .int (nI jj)), (6, .int (nI (b8 (lo many (rest % fac many) k)))), (2, .int (nI (rest / (fac many)))), (4, .int (nI many)), (3, .int (nI q)), (0, .ref h), (1, .int (nI num))]) hXX hBB dX3_follow_224 hl (k := 2) rfl (nI_1 _) (by decide) rfl (fun ls hl => ?_)
                                refine lv_goto (tgt := 127) hXX hBB dX3_follow_227 (by decide) ?_
                                have hi_K9 : FolK g p rg bd ab ob S dm rm rs num q many b8 d rest (k + 1) (upd S8 (b8 (lo many (rest % fac many) k)) (nI (llN g rs l7 (b8 (lo many (rest % fac many) k)) rm))) (upd E7 (b8 (lo many (rest % fac many) k)) (nI (llN g rs l7 (b8 (lo many (rest % fac many) k)) rm))) l6 := by exact FolK_step hC hq hr576 hK9 hkm rfl rfl (fun z hz => hl6 z hz)
                                have hmm : many - (k + 1) < N_127 := by omega
                                exact ih_127 (k + 1) (upd S8 (b8 (lo many (rest % fac many) k)) (nI (llN g rs l7 (b8 (lo many (rest % fac many) k)) rm))) (upd E7 (b8 (lo many (rest % fac many) k)) (nI (llN g rs l7 (b8 (lo many (rest % fac many) k)) rm))) l6 hi_K9 hmm _ _ (hP.sub [0, 6, 7, 1, 2, 5, 3, 4] rfl) (hD.sub [0, 6, 7, 1, 2, 5, 3, 4] (by decide) rfl) hS ls (lv_sub hl [0, 3, 4, 5, 6, 7] rfl)
                              · have c_170 : ¬ rm ≤ jj := fun h9 => c_170 ((nI_leI (by omega) (by omega)).mpr h9)
                                have hjr : jj < rm := by omega
                                have hb4 := hrs (9 * jj + (b8 (lo many (rest % fac many) k)))
                                have hll := (llN_spec g rs l7 (b8 (lo many (rest % fac many) k)) rm).1
                                refine lv_aload_n hXX hBB dX3_follow_173 rfl (lv_at hl 6 rfl) ?_
                                refine va_get (D := D) (ci := 3) (v := .ref aL) (C := RX3) (T := TX3) (N := 17) hXX hBB hts iw_X3 hown hK hP 5 rfl rfl 14 (by decide) kw_2 (fun _ h9 => h9) rfl dX3_follow_174 ?_
                                refine lv_iload hXX hBB dX3_follow_177 (lv_at hl 0 rfl) ?_
                                have J_217 : ∀ (H : Heap) (locs : List Loc), va_P D vwCl [(aP, .inl (cI, 9, .inl S)), (aE, .inl (cI, 9, .inl (upd E7 (b8 (lo many (rest % fac many) k)) (nI (llN g rs l7 (b8 (lo many (rest % fac many) k)) rm))))), (aQ, .inl (cI, 9, .inl (fun j => nI (b8 j)))), (aW, .inl (cI, 9, .inl (fun j => nI (wo j)))), (aU, .inl (cZ, 9, .inl (fun j => bI (uo j)))), (h, .inr (3, [.int (nI g), .int (nI p), .ref aR, .ref aB, .ref aA, .ref aO, .int (nI dm), .ref aD, .ref aP, .int (nI th), .int (nI rm), .ref aS, .ref aW, .ref aU, .ref aL, .ref aE, .ref aQ])), (aS, .inl (cI, 5184, .inl (fun j => nI (rs j)))), (aL, .inl (cZ, 576, .inl (fun j => bI (l6 j))))] H → va_D AA [(aP, .inl (cI, 9, .inl S)), (aE, .inl (cI, 9, .inl (upd E7 (b8 (lo many (rest % fac many) k)) (nI (llN g rs l7 (b8 (lo many (rest % fac many) k)) rm))))), (aQ, .inl (cI, 9, .inl (fun j => nI (b8 j)))), (aW, .inl (cI, 9, .inl (fun j => nI (wo j)))), (aU, .inl (cZ, 9, .inl (fun j => bI (uo j)))), (h, .inr (3, [.int (nI g), .int (nI p), .ref aR, .ref aB, .ref aA, .ref aO, .int (nI dm), .ref aD, .ref aP, .int (nI th), .int (nI rm), .ref aS, .ref aW, .ref aU, .ref aL, .ref aE, .ref aQ])), (aS, .inl (cI, 5184, .inl (fun j => nI (rs j)))), (aL, .inl (cZ, 576, .inl (fun j => bI (l6 j))))] → va_S AA sT.heap H locs → ∀ (ls : Array Slot), lv_has ls 8 [(7, .int (nI jj)), (6, .int (nI (b8 (lo many (rest % fac many) k)))), (5, .int (nI k)), (2, .int (nI (rest / (fac many)))), (4, .int (nI many)), (3, .int (nI q)), (0, .ref h), (1, .int (nI num))] → W pR l eV rmX3_follow sT mI args below meth cO H locs 0 0 QQ (F0 mI 217 ls [.int (bI (l7 jj && decide (rs (9 * jj + (b8 (lo many (rest % fac many) k))) = llN g rs l7 (b8 (lo many (rest % fac many) k)) rm))), .int (nI jj), .ref aL]) := by
                                  intro H locs hP hD hS ls hl
                                  refine m_zast hXX hBB hK hP hD hS 7 1 rfl rfl (i := jj) (by omega) (by decide) (g := fun j => bI (updB l6 jj (l7 jj && decide (rs (9 * jj + (b8 (lo many (rest % fac many) k))) = llN g rs l7 (b8 (lo many (rest % fac many) k)) rm)) j)) (m_updB _ _ _) dX3_follow_217 (fun H locs hP hD hS => ?_)
                                  have hP : va_P D vwCl [(aP, .inl (cI, 9, .inl S)), (aE, .inl (cI, 9, .inl (upd E7 (b8 (lo many (rest % fac many) k)) (nI (llN g rs l7 (b8 (lo many (rest % fac many) k)) rm))))), (aQ, .inl (cI, 9, .inl (fun j => nI (b8 j)))), (aW, .inl (cI, 9, .inl (fun j => nI (wo j)))), (aU, .inl (cZ, 9, .inl (fun j => bI (uo j)))), (h, .inr (3, [.int (nI g), .int (nI p), .ref aR, .ref aB, .ref aA, .ref aO, .int (nI dm), .ref aD, .ref aP, .int (nI th), .int (nI rm), .ref aS, .ref aW, .ref aU, .ref aL, .ref aE, .ref aQ])), (aS, .inl (cI, 5184, .inl (fun j => nI (rs j)))), (aL, .inl (cZ, 576, .inl (fun j => bI (updB l6 jj (l7 jj && decide (rs (9 * jj + (b8 (lo many (rest % fac many) k))) = llN g rs l7 (b8 (lo many (rest % fac many) k)) rm)) j))))] H := hP
                                  have hD : va_D AA [(aP, .inl (cI, 9, .inl S)), (aE, .inl (cI, 9, .inl (upd E7 (b8 (lo many (rest % fac many) k)) (nI (llN g rs l7 (b8 (lo many (rest % fac many) k)) rm))))), (aQ, .inl (cI, 9, .inl (fun j => nI (b8 j)))), (aW, .inl (cI, 9, .inl (fun j => nI (wo j)))), (aU, .inl (cZ, 9, .inl (fun j => bI (uo j)))), (h, .inr (3, [.int (nI g), .int (nI p), .ref aR, .ref aB, .ref aA, .ref aO, .int (nI dm), .ref aD, .ref aP, .int (nI th), .int (nI rm), .ref aS, .ref aW, .ref aU, .ref aL, .ref aE, .ref aQ])), (aS, .inl (cI, 5184, .inl (fun j => nI (rs j)))), (aL, .inl (cZ, 576, .inl (fun j => bI (updB l6 jj (l7 jj && decide (rs (9 * jj + (b8 (lo many (rest % fac many) k))) = llN g rs l7 (b8 (lo many (rest % fac many) k)) rm)) j))))] := hD
                                  refine lv_iinc (v := nI (jj + 1)) (lv' := [(7, .int (nI (jj + 1))), (6, .int (nI (b8 (lo many (rest % fac many) k)))), (5, .int (nI k)), (2, .int (nI (rest / (fac many)))), (4, .int (nI many)), (3, .int (nI q)), (0, .ref h), (1, .int (nI num))]) hXX hBB dX3_follow_218 hl (k := 0) rfl (nI_1 _) (by decide) rfl (fun ls hl => ?_)
                                  refine lv_goto (tgt := 164) hXX hBB dX3_follow_221 (by decide) ?_
                                  have hi_jj : (jj + 1) ≤ rm := by omega
                                  have hi_l6 : ∀ z, z < (jj + 1) → (updB l6 jj (l7 jj && decide (rs (9 * jj + (b8 (lo many (rest % fac many) k))) = llN g rs l7 (b8 (lo many (rest % fac many) k)) rm))) z = (l7 z && decide (rs (9 * z + (b8 (lo many (rest % fac many) k))) = llN g rs l7 (b8 (lo many (rest % fac many) k)) rm)) := by
                                    intro z hz
                                    by_cases e9 : z = jj
                                    · rw [e9, updB_s]
                                    · rw [updB_n e9]; exact hl6 z (by omega)
                                  have hi_l5 : ∀ z, (jj + 1) ≤ z → (updB l6 jj (l7 jj && decide (rs (9 * jj + (b8 (lo many (rest % fac many) k))) = llN g rs l7 (b8 (lo many (rest % fac many) k)) rm))) z = l7 z := by
                                    intro z hz
                                    rw [updB_n (by omega)]; exact hl5 z (by omega)
                                  have hmm : rm - (jj + 1) < N_164 := by omega
                                  exact ih_164 (jj + 1) (updB l6 jj (l7 jj && decide (rs (9 * jj + (b8 (lo many (rest % fac many) k))) = llN g rs l7 (b8 (lo many (rest % fac many) k)) rm))) hi_jj hi_l6 hi_l5 hmm _ _ (hP.sub [0, 1, 2, 3, 4, 5, 6, 7] rfl) (hD.sub [0, 1, 2, 3, 4, 5, 6, 7] (by decide) rfl) hS ls (lv_sub hl [0, 1, 2, 3, 4, 5, 6, 7] rfl)
                                refine lv_aload_n hXX hBB dX3_follow_179 rfl (lv_at hl 6 rfl) ?_
                                refine va_get (D := D) (ci := 3) (v := .ref aL) (C := RX3) (T := TX3) (N := 17) hXX hBB hts iw_X3 hown hK hP 5 rfl rfl 14 (by decide) kw_2 (fun _ h9 => h9) rfl dX3_follow_180 ?_
                                refine lv_iload hXX hBB dX3_follow_183 (lv_at hl 0 rfl) ?_
                                refine m_zald hXX hBB hK hP 7 1 rfl rfl (i := jj) (by omega) (by decide) (x := bI (l6 jj)) rfl dX3_follow_185 ?_
                                refine m_top (y := bI (l7 jj)) (by rw [hl5 jj (Nat.le_refl _)]) ?_
                                refine lv_if_eq (tgt := 216) hXX hBB dX3_follow_186 (by decide) (fun c_186 => ?_) (fun c_186 => ?_)
                                · have c_186 : (l7 jj) = false := m_bz0 c_186
                                  refine lv_iconst (v := nI 0) hXX hBB dX3_follow_216 (by decide) ?_
                                  refine m_top (y := bI (l7 jj && decide (rs (9 * jj + (b8 (lo many (rest % fac many) k))) = llN g rs l7 (b8 (lo many (rest % fac many) k)) rm))) (by first | (simp [bI, c_186]; done) | (simp [bI, c_186, c_209]; done)) ?_
                                  exact J_217 _ _ (hP.sub [0, 1, 2, 3, 4, 5, 6, 7] rfl) (hD.sub [0, 1, 2, 3, 4, 5, 6, 7] (by decide) rfl) hS ls (lv_sub hl [0, 1, 2, 3, 4, 5, 6, 7] rfl)
                                · have c_186 : (l7 jj) = true := m_bz1 c_186
                                  refine lv_aload_n hXX hBB dX3_follow_189 rfl (lv_at hl 6 rfl) ?_
                                  refine va_get (D := D) (ci := 3) (v := .ref aS) (C := RX3) (T := TX3) (N := 17) hXX hBB hts iw_X3 hown hK hP 5 rfl rfl 11 (by decide) kw_9 (fun _ h9 => h9) rfl dX3_follow_190 ?_
                                  refine lv_bipush (v := nI 9) hXX hBB dX3_follow_193 (by decide) ?_
                                  refine lv_iload hXX hBB dX3_follow_195 (lv_at hl 0 rfl) ?_
                                  refine lv_imul hXX hBB dX3_follow_197 ?_
                                  refine m_top (y := nI (9 * jj)) (pk_mul _ _) ?_
                                  refine lv_iload hXX hBB dX3_follow_198 (lv_at hl 1 rfl) ?_
                                  refine lv_iadd hXX hBB dX3_follow_200 ?_
                                  refine m_top (y := nI ((9 * jj) + (b8 (lo many (rest % fac many) k)))) (nI_add _ _) ?_
                                  refine m_iald hXX hBB hK hP 6 0 rfl rfl (i := (9 * jj) + (b8 (lo many (rest % fac many) k))) (by omega) (by decide) (x := nI (rs ((9 * jj) + (b8 (lo many (rest % fac many) k))))) rfl dX3_follow_201 ?_
                                  refine lv_aload_n hXX hBB dX3_follow_202 rfl (lv_at hl 6 rfl) ?_
                                  refine va_get (D := D) (ci := 3) (v := .ref aE) (C := RX3) (T := TX3) (N := 17) hXX hBB hts iw_X3 hown hK hP 5 rfl rfl 15 (by decide) kw_5 (fun _ h9 => h9) rfl dX3_follow_203 ?_
                                  refine lv_iload hXX hBB dX3_follow_206 (lv_at hl 1 rfl) ?_
                                  refine m_iald hXX hBB hK hP 1 0 rfl rfl (i := b8 (lo many (rest % fac many) k)) (by omega) (by decide) (x := (upd E7 (b8 (lo many (rest % fac many) k)) (nI (llN g rs l7 (b8 (lo many (rest % fac many) k)) rm))) (b8 (lo many (rest % fac many) k))) rfl dX3_follow_208 ?_
                                  refine m_top (y := nI (llN g rs l7 (b8 (lo many (rest % fac many) k)) rm)) (by simp [upd]) ?_
                                  refine lv_icmp_ne (tgt := 216) hXX hBB dX3_follow_209 (by decide) (fun c_209 => ?_) (fun c_209 => ?_)
                                  · have c_209 : ¬ (rs ((9 * jj) + (b8 (lo many (rest % fac many) k)))) = (llN g rs l7 (b8 (lo many (rest % fac many) k)) rm) := fun h9 => c_209 ((nI_eq (by omega) (by omega)).mpr h9)
                                    refine lv_iconst (v := nI 0) hXX hBB dX3_follow_216 (by decide) ?_
                                    refine m_top (y := bI (l7 jj && decide (rs (9 * jj + (b8 (lo many (rest % fac many) k))) = llN g rs l7 (b8 (lo many (rest % fac many) k)) rm))) (by first | (simp [bI, c_186]; done) | (simp [bI, c_186, c_209]; done)) ?_
                                    exact J_217 _ _ (hP.sub [0, 1, 2, 3, 4, 5, 6, 7] rfl) (hD.sub [0, 1, 2, 3, 4, 5, 6, 7] (by decide) rfl) hS ls (lv_sub hl [0, 1, 2, 3, 4, 5, 6, 7] rfl)
                                  · have c_209 : (rs ((9 * jj) + (b8 (lo many (rest % fac many) k)))) = (llN g rs l7 (b8 (lo many (rest % fac many) k)) rm) := (nI_eq (by omega) (by omega)).mp c_209
                                    refine lv_iconst (v := nI 1) hXX hBB dX3_follow_212 (by decide) ?_
                                    refine lv_goto (tgt := 217) hXX hBB dX3_follow_213 (by decide) ?_
                                    refine m_top (y := bI (l7 jj && decide (rs (9 * jj + (b8 (lo many (rest % fac many) k))) = llN g rs l7 (b8 (lo many (rest % fac many) k)) rm))) (by first | (simp [bI, c_186]; done) | (simp [bI, c_186, c_209]; done)) ?_
                                    exact J_217 _ _ (hP.sub [0, 1, 2, 3, 4, 5, 6, 7] rfl) (hD.sub [0, 1, 2, 3, 4, 5, 6, 7] (by decide) rfl) hS ls (lv_sub hl [0, 1, 2, 3, 4, 5, 6, 7] rfl)
                          have hi_jj : 0 ≤ rm := by omega
                          have hi_l6 : ∀ z, z < 0 → l7 z = (l7 z && decide (rs (9 * z + (b8 (lo many (rest % fac many) k))) = llN g rs l7 (b8 (lo many (rest % fac many) k)) rm)) := by exact fun z hz => absurd hz (Nat.not_lt_zero z)
                          have hi_l5 : ∀ z, 0 ≤ z → l7 z = l7 z := by exact fun z _ => rfl
                          exact L_164 _ 0 l7 hi_jj hi_l6 hi_l5 (Nat.lt_succ_self _) _ _ hP hD hS ls (lv_sub hl [0, 1, 2, 3, 4, 5, 6, 7] rfl)
                    have hi_K9 : FolK g p rg bd ab ob S dm rm rs num q many b8 d rest 0 S9 E8 lq := by exact FolK_0 (by omega) hg4 hP9 hq hB9 hE9
                    exact L_127 _ 0 S9 E8 lq hi_K9 (Nat.lt_succ_self _) _ _ hP hD hS ls (lv_sub hl [0, 1, 2, 3, 4, 5] rfl)
                  · have c_56 : ¬ (g * (q + 1)) ≤ t := fun h9 => c_56 ((nI_leI (by omega) (by omega)).mpr h9)
                    refine lv_aload_n hXX hBB dX3_follow_59 rfl (lv_at hl 4 rfl) ?_
                    refine va_get (D := D) (ci := 3) (v := .ref aE) (C := RX3) (T := TX3) (N := 17) hXX hBB hts iw_X3 hown hK hP 0 rfl rfl 15 (by decide) kw_5 (fun _ h9 => h9) rfl dX3_follow_60 ?_
                    refine lv_iload hXX hBB dX3_follow_63 (lv_at hl 0 rfl) ?_
                    refine lv_aload_n hXX hBB dX3_follow_65 rfl (lv_at hl 4 rfl) ?_
                    refine va_get (D := D) (ci := 3) (v := .ref aP) (C := RX3) (T := TX3) (N := 17) hXX hBB hts iw_X3 hown hK hP 0 rfl rfl 8 (by decide) kw_6 (fun _ h9 => h9) rfl dX3_follow_66 ?_
                    refine lv_iload hXX hBB dX3_follow_69 (lv_at hl 0 rfl) ?_
                    refine m_iald hXX hBB hK hP 1 0 rfl rfl (i := t) (by omega) (by decide) (x := S t) rfl dX3_follow_71 ?_
                    refine m_iast hXX hBB hK hP hD hS 6 0 rfl rfl (i := t) (by omega) (by decide) (g := upd E8 t (S t)) (rfl) dX3_follow_72 (fun H locs hP hD hS => ?_)
                    have hP : va_P D vwCl [(h, .inr (3, [.int (nI g), .int (nI p), .ref aR, .ref aB, .ref aA, .ref aO, .int (nI dm), .ref aD, .ref aP, .int (nI th), .int (nI rm), .ref aS, .ref aW, .ref aU, .ref aL, .ref aE, .ref aQ])), (aP, .inl (cI, 9, .inl S)), (aS, .inl (cI, 5184, .inl (fun j => nI (rs j)))), (aW, .inl (cI, 9, .inl (fun j => nI (wq j)))), (aU, .inl (cZ, 9, .inl (fun j => bI (uq j)))), (aL, .inl (cZ, 576, .inl (fun j => bI (lq j)))), (aE, .inl (cI, 9, .inl (upd E8 t (S t)))), (aQ, .inl (cI, 9, .inl (fun j => nI (b8 j))))] H := hP
                    have hD : va_D AA [(h, .inr (3, [.int (nI g), .int (nI p), .ref aR, .ref aB, .ref aA, .ref aO, .int (nI dm), .ref aD, .ref aP, .int (nI th), .int (nI rm), .ref aS, .ref aW, .ref aU, .ref aL, .ref aE, .ref aQ])), (aP, .inl (cI, 9, .inl S)), (aS, .inl (cI, 5184, .inl (fun j => nI (rs j)))), (aW, .inl (cI, 9, .inl (fun j => nI (wq j)))), (aU, .inl (cZ, 9, .inl (fun j => bI (uq j)))), (aL, .inl (cZ, 576, .inl (fun j => bI (lq j)))), (aE, .inl (cI, 9, .inl (upd E8 t (S t)))), (aQ, .inl (cI, 9, .inl (fun j => nI (b8 j))))] := hD
                    refine lv_aload_n hXX hBB dX3_follow_73 rfl (lv_at hl 4 rfl) ?_
                    refine va_get (D := D) (ci := 3) (v := .ref aP) (C := RX3) (T := TX3) (N := 17) hXX hBB hts iw_X3 hown hK hP 0 rfl rfl 8 (by decide) kw_6 (fun _ h9 => h9) rfl dX3_follow_74 ?_
                    refine lv_iload hXX hBB dX3_follow_77 (lv_at hl 0 rfl) ?_
                    refine m_iald hXX hBB hK hP 1 0 rfl rfl (i := t) (by omega) (by decide) (x := S t) rfl dX3_follow_79 ?_
                    refine lv_iconst (v := (-1)) hXX hBB dX3_follow_80 (by decide) ?_
                    refine lv_icmp_ne (tgt := 96) hXX hBB dX3_follow_81 (by decide) (fun c_81 => ?_) (fun c_81 => ?_)
                    · have c_81 := c_81
                      refine lv_iinc (v := nI (t + 1)) (lv' := [(5, .int (nI (t + 1))), (4, .int (nI many)), (3, .int (nI q)), (2, .int (nI rest)), (0, .ref h), (1, .int (nI num))]) hXX hBB dX3_follow_96 hl (k := 0) rfl (nI_1 _) (by decide) rfl (fun ls hl => ?_)
                      refine lv_goto (tgt := 46) hXX hBB dX3_follow_99 (by decide) ?_
                      have hi_t : g * q ≤ (t + 1) ∧ (t + 1) ≤ g * q + g := by omega
                      have hi_B9 : FolB S (g * q) (t + 1) many b8 := by first | exact FolB_no hB9 ht.1 c_81 | exact FolB_yes hB9 ht.1 c_81
                      have hi_E9 : ∀ z, z < (t + 1) → (upd E8 t (S t)) z = S9 z := by
                        intro z hz
                        by_cases e9 : z = t
                        · rw [e9]; simp only [upd, if_true]; exact (hP9.2.2.2.2.1 t ht.1).symm
                        · simp only [upd, if_neg e9]; exact hE9 z (by omega)
                      have hi_m9 : many ≤ (t + 1) - g * q := by omega
                      have hmm : g * q + g - (t + 1) < N_46 := by omega
                      exact ih_46 (t + 1) many (upd E8 t (S t)) b8 hi_t hi_B9 hi_E9 hi_m9 hmm _ _ (hP.sub [0, 1, 2, 3, 4, 5, 6, 7] rfl) (hD.sub [0, 1, 2, 3, 4, 5, 6, 7] (by decide) rfl) hS ls (lv_sub hl [0, 1, 2, 3, 4, 5] rfl)
                    · have c_81 := c_81
                      refine lv_aload_n hXX hBB dX3_follow_84 rfl (lv_at hl 4 rfl) ?_
                      refine va_get (D := D) (ci := 3) (v := .ref aQ) (C := RX3) (T := TX3) (N := 17) hXX hBB hts iw_X3 hown hK hP 0 rfl rfl 16 (by decide) kw_7 (fun _ h9 => h9) rfl dX3_follow_85 ?_
                      refine lv_iload hXX hBB dX3_follow_88 (lv_at hl 1 rfl) ?_
                      refine lv_iload hXX hBB dX3_follow_90 (lv_at hl 0 rfl) ?_
                      refine m_iast hXX hBB hK hP hD hS 7 0 rfl rfl (i := many) (by omega) (by decide) (g := fun j => nI (updN b8 many t j)) (m_upd _ _ _) dX3_follow_92 (fun H locs hP hD hS => ?_)
                      have hP : va_P D vwCl [(h, .inr (3, [.int (nI g), .int (nI p), .ref aR, .ref aB, .ref aA, .ref aO, .int (nI dm), .ref aD, .ref aP, .int (nI th), .int (nI rm), .ref aS, .ref aW, .ref aU, .ref aL, .ref aE, .ref aQ])), (aP, .inl (cI, 9, .inl S)), (aS, .inl (cI, 5184, .inl (fun j => nI (rs j)))), (aW, .inl (cI, 9, .inl (fun j => nI (wq j)))), (aU, .inl (cZ, 9, .inl (fun j => bI (uq j)))), (aL, .inl (cZ, 576, .inl (fun j => bI (lq j)))), (aE, .inl (cI, 9, .inl (upd E8 t (S t)))), (aQ, .inl (cI, 9, .inl (fun j => nI (updN b8 many t j))))] H := hP
                      have hD : va_D AA [(h, .inr (3, [.int (nI g), .int (nI p), .ref aR, .ref aB, .ref aA, .ref aO, .int (nI dm), .ref aD, .ref aP, .int (nI th), .int (nI rm), .ref aS, .ref aW, .ref aU, .ref aL, .ref aE, .ref aQ])), (aP, .inl (cI, 9, .inl S)), (aS, .inl (cI, 5184, .inl (fun j => nI (rs j)))), (aW, .inl (cI, 9, .inl (fun j => nI (wq j)))), (aU, .inl (cZ, 9, .inl (fun j => bI (uq j)))), (aL, .inl (cZ, 576, .inl (fun j => bI (lq j)))), (aE, .inl (cI, 9, .inl (upd E8 t (S t)))), (aQ, .inl (cI, 9, .inl (fun j => nI (updN b8 many t j))))] := hD
                      refine lv_iinc (v := nI (many + 1)) (lv' := [(4, .int (nI (many + 1))), (5, .int (nI t)), (3, .int (nI q)), (2, .int (nI rest)), (0, .ref h), (1, .int (nI num))]) hXX hBB dX3_follow_93 hl (k := 1) rfl (nI_1 _) (by decide) rfl (fun ls hl => ?_)
                      refine lv_iinc (v := nI (t + 1)) (lv' := [(5, .int (nI (t + 1))), (4, .int (nI (many + 1))), (3, .int (nI q)), (2, .int (nI rest)), (0, .ref h), (1, .int (nI num))]) hXX hBB dX3_follow_96 hl (k := 1) rfl (nI_1 _) (by decide) rfl (fun ls hl => ?_)
                      refine lv_goto (tgt := 46) hXX hBB dX3_follow_99 (by decide) ?_
                      have hi_t : g * q ≤ (t + 1) ∧ (t + 1) ≤ g * q + g := by omega
                      have hi_B9 : FolB S (g * q) (t + 1) (many + 1) (updN b8 many t) := by first | exact FolB_no hB9 ht.1 c_81 | exact FolB_yes hB9 ht.1 c_81
                      have hi_E9 : ∀ z, z < (t + 1) → (upd E8 t (S t)) z = S9 z := by
                        intro z hz
                        by_cases e9 : z = t
                        · rw [e9]; simp only [upd, if_true]; exact (hP9.2.2.2.2.1 t ht.1).symm
                        · simp only [upd, if_neg e9]; exact hE9 z (by omega)
                      have hi_m9 : (many + 1) ≤ (t + 1) - g * q := by omega
                      have hmm : g * q + g - (t + 1) < N_46 := by omega
                      exact ih_46 (t + 1) (many + 1) (upd E8 t (S t)) (updN b8 many t) hi_t hi_B9 hi_E9 hi_m9 hmm _ _ (hP.sub [0, 1, 2, 3, 4, 5, 6, 7] rfl) (hD.sub [0, 1, 2, 3, 4, 5, 6, 7] (by decide) rfl) hS ls (lv_sub hl [0, 1, 2, 3, 4, 5] rfl)
              have hi_t : g * q ≤ (g * q) ∧ (g * q) ≤ g * q + g := by omega
              have hi_B9 : FolB S (g * q) (g * q) 0 bq9 := by exact FolB_0 S (g * q) bq9
              have hi_E9 : ∀ z, z < (g * q) → Eq9 z = S9 z := by exact hP9.2.2.2.1
              have hi_m9 : 0 ≤ (g * q) - g * q := by omega
              exact L_46 _ (g * q) 0 Eq9 bq9 hi_t hi_B9 hi_E9 hi_m9 (Nat.lt_succ_self _) _ _ hP hD hS ls (lv_sub hl [0, 1, 2, 3, 4, 5] rfl)
        have hi_P9 : FolP g p rg bd ab ob S dm rm rs num 0 S dm num E lq := by exact FolP_0 hC hn (fun z hz => hL z (by omega))
        have hi_W9 : ∀ z, rw z < 4 := by exact hrw
        exact L_27 _ 0 num S dm lq E bq rw us hi_P9 hi_W9 (Nat.lt_succ_self _) _ _ hP hD hS ls (lv_sub hl [0, 1, 2, 3] rfl)
      · have c_9 : ¬ rm ≤ k := fun h9 => c_9 ((nI_leI (by omega) (by omega)).mpr h9)
        refine lv_aload_n hXX hBB dX3_follow_12 rfl (lv_at hl 2 rfl) ?_
        refine va_get (D := D) (ci := 3) (v := .ref aL) (C := RX3) (T := TX3) (N := 17) hXX hBB hts iw_X3 hown hK hP 0 rfl rfl 14 (by decide) kw_2 (fun _ h9 => h9) rfl dX3_follow_13 ?_
        refine lv_iload_n hXX hBB dX3_follow_16 rfl (lv_at hl 0 rfl) ?_
        refine lv_iconst (v := nI 1) hXX hBB dX3_follow_17 (by decide) ?_
        refine m_zast hXX hBB hK hP hD hS 5 1 rfl rfl (i := k) (by omega) (by decide) (g := fun j => bI (updB lq k true j)) (m_updB1 _ _) dX3_follow_18 (fun H locs hP hD hS => ?_)
        have hP : va_P D vwCl [(h, .inr (3, [.int (nI g), .int (nI p), .ref aR, .ref aB, .ref aA, .ref aO, .int (nI dm), .ref aD, .ref aP, .int (nI th), .int (nI rm), .ref aS, .ref aW, .ref aU, .ref aL, .ref aE, .ref aQ])), (aP, .inl (cI, 9, .inl S)), (aS, .inl (cI, 5184, .inl (fun j => nI (rs j)))), (aW, .inl (cI, 9, .inl (fun j => nI (rw j)))), (aU, .inl (cZ, 9, .inl (fun j => bI (us j)))), (aL, .inl (cZ, 576, .inl (fun j => bI (updB lq k true j)))), (aE, .inl (cI, 9, .inl E)), (aQ, .inl (cI, 9, .inl (fun j => nI (bq j))))] H := hP
        have hD : va_D AA [(h, .inr (3, [.int (nI g), .int (nI p), .ref aR, .ref aB, .ref aA, .ref aO, .int (nI dm), .ref aD, .ref aP, .int (nI th), .int (nI rm), .ref aS, .ref aW, .ref aU, .ref aL, .ref aE, .ref aQ])), (aP, .inl (cI, 9, .inl S)), (aS, .inl (cI, 5184, .inl (fun j => nI (rs j)))), (aW, .inl (cI, 9, .inl (fun j => nI (rw j)))), (aU, .inl (cZ, 9, .inl (fun j => bI (us j)))), (aL, .inl (cZ, 576, .inl (fun j => bI (updB lq k true j)))), (aE, .inl (cI, 9, .inl E)), (aQ, .inl (cI, 9, .inl (fun j => nI (bq j))))] := hD
        refine lv_iinc (v := nI (k + 1)) (lv' := [(3, .int (nI (k + 1))), (2, .int (nI num)), (0, .ref h), (1, .int (nI num))]) hXX hBB dX3_follow_19 hl (k := 0) rfl (nI_1 _) (by decide) rfl (fun ls hl => ?_)
        refine lv_goto (tgt := 4) hXX hBB dX3_follow_22 (by decide) ?_
        have hi_k : (k + 1) ≤ rm := by omega
        have hi_L : ∀ z, z < (k + 1) → (updB lq k true) z = true := by
          intro z hz
          rcases Nat.lt_or_ge z k with q | q
          · rw [updB_n (by omega)]; exact hL z q
          · rw [show z = k by omega, updB_s]
        have hmm : rm - (k + 1) < N_4 := by omega
        exact ih_4 (k + 1) (updB lq k true) hi_k hi_L hmm _ _ (hP.sub [0, 1, 2, 3, 4, 5, 6, 7] rfl) (hD.sub [0, 1, 2, 3, 4, 5, 6, 7] (by decide) rfl) hS ls (lv_sub hl [0, 1, 2, 3] rfl)
  have hi_k : 0 ≤ rm := by omega
  have hi_L : ∀ z, z < 0 → lf z = true := by exact fun z hz => absurd hz (Nat.not_lt_zero z)
  exact L_4 _ 0 lf hi_k hi_L (Nat.lt_succ_self _) _ _ hP hD hS ls (lv_sub hl [0, 1, 2, 3] rfl)
abbrev rmX3_chances : Room := { frames := 3, cells := 0, slots := 0, locals := 69 }
set_option maxHeartbeats 4000000 in
set_option maxRecDepth 100000 in
theorem kX3_chances (l : Launch) (D : va_G) (cI : ClassId) (cZ : ClassId) (h : Nat) (g : Nat) (p : Nat) (aR : Nat) (aB : Nat) (aA : Nat) (aO : Nat) (dm : Nat) (aD : Nat) (aP : Nat) (th : Nat) (rm : Nat) (aS : Nat) (aW : Nat) (aU : Nat) (aL : Nat) (aE : Nat) (aQ : Nat) (rg : Nat → Nat) (bd : Nat → Nat) (ab : Nat → Bool) (ob : Nat → Bool) (S : Nat → Int32) (rs : Nat → Nat) (rw : Nat → Nat) (us : Nat → Bool) (lf : Nat → Bool) (E : Nat → Int32) (bq : Nat → Nat) (x : Int32) (y : Int32) (hg2 : 2 ≤ g) (hg4 : g ≤ 4) (hp2 : 2 ≤ p) (hp3 : p ≤ 3) (hT : g * p ≤ 9) (hrg : ∀ z, z < 9 → rg z < 6) (hbd : ∀ z, z < 6 → bd z < 4) (hrs : ∀ z, rs z < 4) (hrw : ∀ z, rw z < 4) (hrm : rm ≤ 576) (hdm : dm ≤ g * p) (hV : VS g p dm S) : Ci l yX3_chances wsX3_chances rmX3_chances D [(cI, .int), (cZ, .boolean)] [.ref h, .int x, .int y] [(h, .inr (3, [.int (nI g), .int (nI p), .ref aR, .ref aB, .ref aA, .ref aO, .int (nI dm), .ref aD, .ref aP, .int (nI th), .int (nI rm), .ref aS, .ref aW, .ref aU, .ref aL, .ref aE, .ref aQ])), (aR, .inl (cI, 9, .inl (fun j => nI (rg j)))), (aB, .inl (cI, 6, .inl (fun j => nI (bd j)))), (aA, .inl (cZ, 81, .inl (fun j => bI (ab j)))), (aO, .inl (cZ, 81, .inl (fun j => bI (ob j)))), (aP, .inl (cI, 9, .inl S)), (aS, .inl (cI, 5184, .inl (fun j => nI (rs j)))), (aW, .inl (cI, 9, .inl (fun j => nI (rw j)))), (aU, .inl (cZ, 9, .inl (fun j => bI (us j)))), (aL, .inl (cZ, 576, .inl (fun j => bI (lf j)))), (aE, .inl (cI, 9, .inl E)), (aQ, .inl (cI, 9, .inl (fun j => nI (bq j))))] (fun (r : Int32) (u : Nat × Nat × (Nat → Nat) × (Nat → Nat) × (Nat → Bool) × (Nat → Bool) × (Nat → Int32) × (Nat → Nat)) => (chPost g p rg bd ab ob S dm x y u.1 r) ∧ (u.2.1 ≤ 576) ∧ (∀ z, u.2.2.1 z < 4) ∧ (∀ z, u.2.2.2.1 z < 4)) (fun (u : Nat × Nat × (Nat → Nat) × (Nat → Nat) × (Nat → Bool) × (Nat → Bool) × (Nat → Int32) × (Nat → Nat)) => [(h, .inr (3, [.int (nI g), .int (nI p), .ref aR, .ref aB, .ref aA, .ref aO, .int (nI dm), .ref aD, .ref aP, .int (nI u.1), .int (nI u.2.1), .ref aS, .ref aW, .ref aU, .ref aL, .ref aE, .ref aQ])), (aR, .inl (cI, 9, .inl (fun j => nI (rg j)))), (aB, .inl (cI, 6, .inl (fun j => nI (bd j)))), (aA, .inl (cZ, 81, .inl (fun j => bI (ab j)))), (aO, .inl (cZ, 81, .inl (fun j => bI (ob j)))), (aP, .inl (cI, 9, .inl S)), (aS, .inl (cI, 5184, .inl (fun j => nI (u.2.2.1 j)))), (aW, .inl (cI, 9, .inl (fun j => nI (u.2.2.2.1 j)))), (aU, .inl (cZ, 9, .inl (fun j => bI (u.2.2.2.2.1 j)))), (aL, .inl (cZ, 576, .inl (fun j => bI (u.2.2.2.2.2.1 j)))), (aE, .inl (cI, 9, .inl u.2.2.2.2.2.2.1)), (aQ, .inl (cI, 9, .inl (fun j => nI (u.2.2.2.2.2.2.2 j))))]) := by
  refine Ci_of (cc := cX3_chances) (maxL := 6) (by decide) rfl (Nat.le_of_ble_eq_true rfl) ?_
  intro pR eV sT mI args below meth cO AA QQ ls hXX hBB hml hown hts hnm hN hK hP hD hS hAA hl hret
  have hl : lv_has ls 6 [(0, .ref h), (1, .int x), (2, .int y)] := hl
  have hgp : 0 < g * p := Nat.mul_pos (by omega) (by omega)
  have hfp := facp_le hg2 hg4 hp2 hp3 hT
  have hol := ordN_le S hg4 p
  have kw_2 := hts (.fieldLink RX3 41 "CupDrawModel" "ends" "[I") (List.mem_of_getElem? (i := 2) rfl)
  have iw_X3 : ∀ w ∈ wsX30, w ∈ wsX3_chances := by decide +kernel
  have kw_1 := hts (.fieldLink RX3 84 "CupDrawModel" "resultMany" "I") (List.mem_of_getElem? (i := 1) rfl)
  refine lv_aload_n hXX hBB dX3_chances_0 rfl (lv_at hl 0 rfl) ?_
  refine lv_iload_n hXX hBB dX3_chances_1 rfl (lv_at hl 1 rfl) ?_
  refine lv_iload_n hXX hBB dX3_chances_2 rfl (lv_at hl 2 rfl) ?_
  refine m_calli (wr := [(aR, .inl (cI, 9, .inl (fun j => nI (rg j)))), (aB, .inl (cI, 6, .inl (fun j => nI (bd j)))), (aA, .inl (cZ, 81, .inl (fun j => bI (ab j)))), (aO, .inl (cZ, 81, .inl (fun j => bI (ob j)))), (aP, .inl (cI, 9, .inl S)), (aS, .inl (cI, 5184, .inl (fun j => nI (rs j)))), (aW, .inl (cI, 9, .inl (fun j => nI (rw j)))), (aU, .inl (cZ, 9, .inl (fun j => bI (us j)))), (aL, .inl (cZ, 576, .inl (fun j => bI (lf j)))), (aE, .inl (cI, 9, .inl E)), (aQ, .inl (cI, 9, .inl (fun j => nI (bq j))))]) ⟨hXX, hBB, hml, hown, hts⟩ hN (kX3_isPlace l D h g p aR aB aA aO dm aD aP th rm aS aW aU aL aE aQ x y (Nat.mul_pos (by omega) (by omega)) (by omega) (by omega)) (cwV 2 hts gX3_chances_X3_isPlace rfl rfl rfl (by decide +kernel) ⟨Nat.le_of_ble_eq_true rfl, Nat.le_of_ble_eq_true rfl⟩) hK hP hD hS hAA [0] [1, 2, 3, 4, 5, 6, 7, 8, 9, 10, 11] [] rfl rfl rfl (by decide) (by decide) (by decide) rfl 3 rfl rfl rfl rfl hl.1 rfl (Nat.le_of_ble_eq_true rfl) dX3_chances_3 ⟨Nat.le_of_ble_eq_true rfl, Nat.le_of_ble_eq_true rfl⟩ (k := 0) (n := 0) rfl rfl (fun r_1 u_ H locs hw hP hD hS => ?_)
  obtain ⟨thq, rfl⟩ : ∃ z, z = u_ := ⟨_, rfl⟩
  have hw : (plPost x y (g * p) g thq r_1) := hw
  have e_p := hw
  have hP : va_P D vwCl [(aR, .inl (cI, 9, .inl (fun j => nI (rg j)))), (aB, .inl (cI, 6, .inl (fun j => nI (bd j)))), (aA, .inl (cZ, 81, .inl (fun j => bI (ab j)))), (aO, .inl (cZ, 81, .inl (fun j => bI (ob j)))), (aP, .inl (cI, 9, .inl S)), (aS, .inl (cI, 5184, .inl (fun j => nI (rs j)))), (aW, .inl (cI, 9, .inl (fun j => nI (rw j)))), (aU, .inl (cZ, 9, .inl (fun j => bI (us j)))), (aL, .inl (cZ, 576, .inl (fun j => bI (lf j)))), (aE, .inl (cI, 9, .inl E)), (aQ, .inl (cI, 9, .inl (fun j => nI (bq j)))), (h, .inr (3, [.int (nI g), .int (nI p), .ref aR, .ref aB, .ref aA, .ref aO, .int (nI dm), .ref aD, .ref aP, .int (nI thq), .int (nI rm), .ref aS, .ref aW, .ref aU, .ref aL, .ref aE, .ref aQ]))] H := hP
  have hD : va_D AA [(aR, .inl (cI, 9, .inl (fun j => nI (rg j)))), (aB, .inl (cI, 6, .inl (fun j => nI (bd j)))), (aA, .inl (cZ, 81, .inl (fun j => bI (ab j)))), (aO, .inl (cZ, 81, .inl (fun j => bI (ob j)))), (aP, .inl (cI, 9, .inl S)), (aS, .inl (cI, 5184, .inl (fun j => nI (rs j)))), (aW, .inl (cI, 9, .inl (fun j => nI (rw j)))), (aU, .inl (cZ, 9, .inl (fun j => bI (us j)))), (aL, .inl (cZ, 576, .inl (fun j => bI (lf j)))), (aE, .inl (cI, 9, .inl E)), (aQ, .inl (cI, 9, .inl (fun j => nI (bq j)))), (h, .inr (3, [.int (nI g), .int (nI p), .ref aR, .ref aB, .ref aA, .ref aO, .int (nI dm), .ref aD, .ref aP, .int (nI thq), .int (nI rm), .ref aS, .ref aW, .ref aU, .ref aL, .ref aE, .ref aQ]))] := hD
  refine m_top (y := bI (decide (thq = 0))) (by exact e_p.2) ?_
  refine lv_if_ne (tgt := 11) hXX hBB dX3_chances_6 (by decide) (fun c_6 => ?_) (fun c_6 => ?_)
  · have c_6 : (decide (thq = 0)) = true := m_bz1 c_6
    have hz : thq = 0 := of_decide_eq_true c_6
    have hpl : (inB x (nI 0) (nI (g * p - 1)) && inB y (nI 0) (nI (g - 1))) = true := by
      have h9 := e_p.1
      rw [hz] at h9
      by_cases q9 : (inB x (nI 0) (nI (g * p - 1)) && inB y (nI 0) (nI (g - 1))) = true
      · exact q9
      · rw [if_neg q9] at h9; cases h9
    rw [Bool.and_eq_true] at hpl
    have hgp : 0 < g * p := Nat.mul_pos (by omega) (by omega)
    obtain ⟨t, hlo_t, hhi_t, he_t⟩ := inB_nat (lo := 0) (hi := g * p - 1) (by omega) hpl.1
    obtain ⟨k, hlo_k, hhi_k, he_k⟩ := inB_nat (lo := 0) (hi := g - 1) (by omega) hpl.2
    have hl : lv_has ls 6 [(0, .ref h), (1, .int (nI t)), (2, .int (nI k))] := by rw [he_t, he_k] at hl; exact hl
    refine lv_aload_n hXX hBB dX3_chances_11 rfl (lv_at hl 0 rfl) ?_
    refine m_callv (wr := [(aL, .inl (cZ, 576, .inl (fun j => bI (lf j)))), (aE, .inl (cI, 9, .inl E)), (aQ, .inl (cI, 9, .inl (fun j => nI (bq j))))]) ⟨hXX, hBB, hml, hown, hts⟩ hN (kX3_layResults l D cI cZ h g p aR aB aA aO dm aD aP thq rm aS aW aU aL aE aQ rg bd ab ob S rs rw us (by omega) (by omega) (by omega) (by omega) (by omega) (by assumption) (by assumption) (by assumption) (by assumption)) (cwV 0 hts gX3_chances_X3_layResults rfl rfl rfl (by decide +kernel) ⟨Nat.le_of_ble_eq_true rfl, Nat.le_of_ble_eq_true rfl⟩) hK hP hD hS hAA [11, 0, 1, 2, 3, 4, 5, 6, 7] [8, 9, 10] [0, 1] rfl rfl rfl (by decide) (by decide) (by decide) rfl 3 rfl rfl rfl rfl hl.1 rfl (Nat.le_of_ble_eq_true rfl) dX3_chances_12 ⟨Nat.le_of_ble_eq_true rfl, Nat.le_of_ble_eq_true rfl⟩ (k := 0) (n := 0) rfl rfl (fun  u_ H locs hw hP hD hS => ?_)
    obtain ⟨rm2, rs2, rw2, us2⟩ := u_
    have hw : (rm2 ≤ 576) ∧ (∀ z, rs2 z < 4) ∧ (∀ z, rw2 z < 4) ∧ (∀ w : Nat → Nat, sm (fun z => w (cdR rs2 z (g * p))) rm2 = RS g p rg bd ab ob S w) := hw
    obtain ⟨e_1, e_2, e_3, e_4⟩ := hw
    have hP : va_P D vwCl [(aL, .inl (cZ, 576, .inl (fun j => bI (lf j)))), (aE, .inl (cI, 9, .inl E)), (aQ, .inl (cI, 9, .inl (fun j => nI (bq j)))), (h, .inr (3, [.int (nI g), .int (nI p), .ref aR, .ref aB, .ref aA, .ref aO, .int (nI dm), .ref aD, .ref aP, .int (nI thq), .int (nI rm2), .ref aS, .ref aW, .ref aU, .ref aL, .ref aE, .ref aQ])), (aR, .inl (cI, 9, .inl (fun j => nI (rg j)))), (aB, .inl (cI, 6, .inl (fun j => nI (bd j)))), (aA, .inl (cZ, 81, .inl (fun j => bI (ab j)))), (aO, .inl (cZ, 81, .inl (fun j => bI (ob j)))), (aP, .inl (cI, 9, .inl S)), (aS, .inl (cI, 5184, .inl (fun j => nI (rs2 j)))), (aW, .inl (cI, 9, .inl (fun j => nI (rw2 j)))), (aU, .inl (cZ, 9, .inl (fun j => bI (us2 j))))] H := hP
    have hD : va_D AA [(aL, .inl (cZ, 576, .inl (fun j => bI (lf j)))), (aE, .inl (cI, 9, .inl E)), (aQ, .inl (cI, 9, .inl (fun j => nI (bq j)))), (h, .inr (3, [.int (nI g), .int (nI p), .ref aR, .ref aB, .ref aA, .ref aO, .int (nI dm), .ref aD, .ref aP, .int (nI thq), .int (nI rm2), .ref aS, .ref aW, .ref aU, .ref aL, .ref aE, .ref aQ])), (aR, .inl (cI, 9, .inl (fun j => nI (rg j)))), (aB, .inl (cI, 6, .inl (fun j => nI (bd j)))), (aA, .inl (cZ, 81, .inl (fun j => bI (ab j)))), (aO, .inl (cZ, 81, .inl (fun j => bI (ob j)))), (aP, .inl (cI, 9, .inl S)), (aS, .inl (cI, 5184, .inl (fun j => nI (rs2 j)))), (aW, .inl (cI, 9, .inl (fun j => nI (rw2 j)))), (aU, .inl (cZ, 9, .inl (fun j => bI (us2 j))))] := hD
    have hLR : LR g p rg bd ab ob S rm2 rs2 := ⟨e_1, e_2, e_4⟩
    have J_30 : ∀ (H : Heap) (locs : List Loc), va_P D vwCl [(aL, .inl (cZ, 576, .inl (fun j => bI (lf j)))), (aE, .inl (cI, 9, .inl E)), (aQ, .inl (cI, 9, .inl (fun j => nI (bq j)))), (h, .inr (3, [.int (nI g), .int (nI p), .ref aR, .ref aB, .ref aA, .ref aO, .int (nI dm), .ref aD, .ref aP, .int (nI thq), .int (nI rm2), .ref aS, .ref aW, .ref aU, .ref aL, .ref aE, .ref aQ])), (aR, .inl (cI, 9, .inl (fun j => nI (rg j)))), (aB, .inl (cI, 6, .inl (fun j => nI (bd j)))), (aA, .inl (cZ, 81, .inl (fun j => bI (ab j)))), (aO, .inl (cZ, 81, .inl (fun j => bI (ob j)))), (aP, .inl (cI, 9, .inl S)), (aS, .inl (cI, 5184, .inl (fun j => nI (rs2 j)))), (aW, .inl (cI, 9, .inl (fun j => nI (rw2 j)))), (aU, .inl (cZ, 9, .inl (fun j => bI (us2 j))))] H → va_D AA [(aL, .inl (cZ, 576, .inl (fun j => bI (lf j)))), (aE, .inl (cI, 9, .inl E)), (aQ, .inl (cI, 9, .inl (fun j => nI (bq j)))), (h, .inr (3, [.int (nI g), .int (nI p), .ref aR, .ref aB, .ref aA, .ref aO, .int (nI dm), .ref aD, .ref aP, .int (nI thq), .int (nI rm2), .ref aS, .ref aW, .ref aU, .ref aL, .ref aE, .ref aQ])), (aR, .inl (cI, 9, .inl (fun j => nI (rg j)))), (aB, .inl (cI, 6, .inl (fun j => nI (bd j)))), (aA, .inl (cZ, 81, .inl (fun j => bI (ab j)))), (aO, .inl (cZ, 81, .inl (fun j => bI (ob j)))), (aP, .inl (cI, 9, .inl S)), (aS, .inl (cI, 5184, .inl (fun j => nI (rs2 j)))), (aW, .inl (cI, 9, .inl (fun j => nI (rw2 j)))), (aU, .inl (cZ, 9, .inl (fun j => bI (us2 j))))] → va_S AA sT.heap H locs → ∀ (ls : Array Slot), lv_has ls 6 [(0, .ref h), (1, .int (nI t)), (2, .int (nI k))] → W pR l eV rmX3_chances sT mI args below meth cO H locs 0 0 QQ (F0 mI 30 ls [.int (nI (if rm2 = 0 then 0 else ordN S g p))]) := by
      intro H locs hP hD hS ls hl
      refine lv_istore_n (lv' := [(3, .int (nI (if rm2 = 0 then 0 else ordN S g p))), (0, .ref h), (1, .int (nI t)), (2, .int (nI k))]) hXX hBB dX3_chances_30 rfl hl (by decide) rfl (fun ls hl => ?_)
      refine lv_iconst (v := nI 0) hXX hBB dX3_chances_31 (by decide) ?_
      refine lv_istore (lv' := [(4, .int (nI 0)), (3, .int (nI (if rm2 = 0 then 0 else ordN S g p))), (0, .ref h), (1, .int (nI t)), (2, .int (nI k))]) hXX hBB dX3_chances_32 hl (by decide) rfl (fun ls hl => ?_)
      refine lv_iconst (v := nI 0) hXX hBB dX3_chances_34 (by decide) ?_
      refine lv_istore (lv' := [(5, .int (nI 0)), (4, .int (nI 0)), (3, .int (nI (if rm2 = 0 then 0 else ordN S g p))), (0, .ref h), (1, .int (nI t)), (2, .int (nI k))]) hXX hBB dX3_chances_35 hl (by decide) rfl (fun ls hl => ?_)
      have hal : (if rm2 = 0 then 0 else ordN S g p) ≤ 576 := by split <;> omega
      have L_37 : ∀ (N_37 : Nat) (nn : Nat) (acc : Nat) (lq : Nat → Bool) (Eq9 : Nat → Int32) (bq9 : Nat → Nat) (wq : Nat → Nat) (uq : Nat → Bool), (nn ≤ (if rm2 = 0 then 0 else ordN S g p)) → (acc = ct (fun zn => decide (finS g (lowC g p rg bd ab ob) (g * p - dm) dm S zn t = nI k)) nn) → (∀ z, wq z < 4) → (if rm2 = 0 then 0 else ordN S g p) - nn < N_37 → ∀ (H : Heap) (locs : List Loc), va_P D vwCl [(aL, .inl (cZ, 576, .inl (fun j => bI (lq j)))), (aE, .inl (cI, 9, .inl Eq9)), (aQ, .inl (cI, 9, .inl (fun j => nI (bq9 j)))), (h, .inr (3, [.int (nI g), .int (nI p), .ref aR, .ref aB, .ref aA, .ref aO, .int (nI dm), .ref aD, .ref aP, .int (nI thq), .int (nI rm2), .ref aS, .ref aW, .ref aU, .ref aL, .ref aE, .ref aQ])), (aR, .inl (cI, 9, .inl (fun j => nI (rg j)))), (aB, .inl (cI, 6, .inl (fun j => nI (bd j)))), (aA, .inl (cZ, 81, .inl (fun j => bI (ab j)))), (aO, .inl (cZ, 81, .inl (fun j => bI (ob j)))), (aP, .inl (cI, 9, .inl S)), (aS, .inl (cI, 5184, .inl (fun j => nI (rs2 j)))), (aW, .inl (cI, 9, .inl (fun j => nI (wq j)))), (aU, .inl (cZ, 9, .inl (fun j => bI (uq j))))] H → va_D AA [(aL, .inl (cZ, 576, .inl (fun j => bI (lq j)))), (aE, .inl (cI, 9, .inl Eq9)), (aQ, .inl (cI, 9, .inl (fun j => nI (bq9 j)))), (h, .inr (3, [.int (nI g), .int (nI p), .ref aR, .ref aB, .ref aA, .ref aO, .int (nI dm), .ref aD, .ref aP, .int (nI thq), .int (nI rm2), .ref aS, .ref aW, .ref aU, .ref aL, .ref aE, .ref aQ])), (aR, .inl (cI, 9, .inl (fun j => nI (rg j)))), (aB, .inl (cI, 6, .inl (fun j => nI (bd j)))), (aA, .inl (cZ, 81, .inl (fun j => bI (ab j)))), (aO, .inl (cZ, 81, .inl (fun j => bI (ob j)))), (aP, .inl (cI, 9, .inl S)), (aS, .inl (cI, 5184, .inl (fun j => nI (rs2 j)))), (aW, .inl (cI, 9, .inl (fun j => nI (wq j)))), (aU, .inl (cZ, 9, .inl (fun j => bI (uq j))))] → va_S AA sT.heap H locs → ∀ (ls : Array Slot), lv_has ls 6 [(5, .int (nI nn)), (4, .int (nI acc)), (3, .int (nI (if rm2 = 0 then 0 else ordN S g p))), (0, .ref h), (1, .int (nI t)), (2, .int (nI k))] → W pR l eV rmX3_chances sT mI args below meth cO H locs 0 0 QQ (F0 mI 37 ls []) := by
        intro N_37
        induction N_37 with
        | zero =>
          intro nn acc lq Eq9 bq9 wq uq hnn hac hW9 hMM
          exact absurd hMM (Nat.not_lt_zero _)
        | succ N_37 ih_37 =>
          intro nn acc lq Eq9 bq9 wq uq hnn hac hW9 hMM H locs hP hD hS ls hl
          have hal : (if rm2 = 0 then 0 else ordN S g p) ≤ 576 := by split <;> omega
          refine lv_iload hXX hBB dX3_chances_37 (lv_at hl 0 rfl) ?_
          refine lv_iload_n hXX hBB dX3_chances_39 rfl (lv_at hl 2 rfl) ?_
          refine lv_icmp_ge (tgt := 75) hXX hBB dX3_chances_40 (by decide) (fun c_40 => ?_) (fun c_40 => ?_)
          · have c_40 : (if rm2 = 0 then 0 else ordN S g p) ≤ nn := (nI_leI (by omega) (by omega)).mp c_40
            have hE9 : nn = (if rm2 = 0 then 0 else ordN S g p) := by omega
            have hor : acc = orS g p rg bd ab ob S dm (fun E => decide (E t = nI k)) := by
              rw [hac, hE9]
              unfold orS
              rw [← LR_rm hLR]
              by_cases q9 : rm2 = 0
              · rw [if_pos q9, if_pos q9]; rfl
              · rw [if_neg q9, if_neg q9]
            refine lv_iload hXX hBB dX3_chances_75 (lv_at hl 1 rfl) ?_
            refine hret (r := nI acc) (thq, rm2, rs2, wq, uq, lq, Eq9, bq9) ?_ (rfl) (hP.sub [3, 4, 5, 6, 7, 8, 9, 10, 11, 0, 1, 2] rfl) (hD.sub [3, 4, 5, 6, 7, 8, 9, 10, 11, 0, 1, 2] (by decide) rfl) hS (Nat.le_of_ble_eq_true rfl) (Nat.le_of_ble_eq_true rfl) dX3_chances_77
            show (chPost g p rg bd ab ob S dm x y thq (nI acc)) ∧ (rm2 ≤ 576) ∧ (∀ z, rs2 z < 4) ∧ (∀ z, wq z < 4)
            exact ⟨⟨e_p.1, fun _ => ⟨t, k, by omega, by omega, he_t, he_k, by rw [hor]⟩⟩, e_1, e_2, hW9⟩
          · have c_40 : ¬ (if rm2 = 0 then 0 else ordN S g p) ≤ nn := fun h9 => c_40 ((nI_leI (by omega) (by omega)).mpr h9)
            have hacl := ct_le (fun zn => decide (finS g (lowC g p rg bd ab ob) (g * p - dm) dm S zn t = nI k)) nn
            have hFC : FolC g p dm rm2 rg bd ab ob S rs2 := ⟨hg2, hg4, hT, hdm, hV, e_2, e_4⟩
            refine lv_aload_n hXX hBB dX3_chances_43 rfl (lv_at hl 3 rfl) ?_
            refine lv_iload hXX hBB dX3_chances_44 (lv_at hl 0 rfl) ?_
            refine m_callv (wr := [(aR, .inl (cI, 9, .inl (fun j => nI (rg j)))), (aB, .inl (cI, 6, .inl (fun j => nI (bd j)))), (aA, .inl (cZ, 81, .inl (fun j => bI (ab j)))), (aO, .inl (cZ, 81, .inl (fun j => bI (ob j))))]) ⟨hXX, hBB, hml, hown, hts⟩ hN (kX3_follow l D cI cZ h g p aR aB aA aO dm aD aP thq rm2 aS aW aU aL aE aQ S rs2 wq uq lq Eq9 bq9 nn rg bd ab ob (by assumption) (by omega) (by exact e_1) (by omega) (by exact hW9)) (cwV 1 hts gX3_chances_X3_follow rfl rfl rfl (by decide +kernel) ⟨Nat.le_of_ble_eq_true rfl, Nat.le_of_ble_eq_true rfl⟩) hK hP hD hS hAA [3, 8, 9, 10, 11, 0, 1, 2] [4, 5, 6, 7] [0, 1] rfl rfl rfl (by decide) (by decide) (by decide) rfl 3 rfl rfl rfl rfl hl.1 rfl (Nat.le_of_ble_eq_true rfl) dX3_chances_46 ⟨Nat.le_of_ble_eq_true rfl, Nat.le_of_ble_eq_true rfl⟩ (k := 0) (n := 0) rfl rfl (fun  u_ H locs hw hP hD hS => ?_)
            obtain ⟨wr, ur, lr, Er, br⟩ := u_
            have hw : (∀ t, t < g * p → Er t = finS g (lowC g p rg bd ab ob) (g * p - dm) dm S nn t) ∧ (∀ z, wr z < 4) := hw
            obtain ⟨e_f, e_w⟩ := hw
            have hP : va_P D vwCl [(aR, .inl (cI, 9, .inl (fun j => nI (rg j)))), (aB, .inl (cI, 6, .inl (fun j => nI (bd j)))), (aA, .inl (cZ, 81, .inl (fun j => bI (ab j)))), (aO, .inl (cZ, 81, .inl (fun j => bI (ob j)))), (h, .inr (3, [.int (nI g), .int (nI p), .ref aR, .ref aB, .ref aA, .ref aO, .int (nI dm), .ref aD, .ref aP, .int (nI thq), .int (nI rm2), .ref aS, .ref aW, .ref aU, .ref aL, .ref aE, .ref aQ])), (aP, .inl (cI, 9, .inl S)), (aS, .inl (cI, 5184, .inl (fun j => nI (rs2 j)))), (aW, .inl (cI, 9, .inl (fun j => nI (wr j)))), (aU, .inl (cZ, 9, .inl (fun j => bI (ur j)))), (aL, .inl (cZ, 576, .inl (fun j => bI (lr j)))), (aE, .inl (cI, 9, .inl Er)), (aQ, .inl (cI, 9, .inl (fun j => nI (br j))))] H := hP
            have hD : va_D AA [(aR, .inl (cI, 9, .inl (fun j => nI (rg j)))), (aB, .inl (cI, 6, .inl (fun j => nI (bd j)))), (aA, .inl (cZ, 81, .inl (fun j => bI (ab j)))), (aO, .inl (cZ, 81, .inl (fun j => bI (ob j)))), (h, .inr (3, [.int (nI g), .int (nI p), .ref aR, .ref aB, .ref aA, .ref aO, .int (nI dm), .ref aD, .ref aP, .int (nI thq), .int (nI rm2), .ref aS, .ref aW, .ref aU, .ref aL, .ref aE, .ref aQ])), (aP, .inl (cI, 9, .inl S)), (aS, .inl (cI, 5184, .inl (fun j => nI (rs2 j)))), (aW, .inl (cI, 9, .inl (fun j => nI (wr j)))), (aU, .inl (cZ, 9, .inl (fun j => bI (ur j)))), (aL, .inl (cZ, 576, .inl (fun j => bI (lr j)))), (aE, .inl (cI, 9, .inl Er)), (aQ, .inl (cI, 9, .inl (fun j => nI (br j))))] := hD
            refine lv_iload hXX hBB dX3_chances_49 (lv_at hl 1 rfl) ?_
            refine lv_aload_n hXX hBB dX3_chances_51 rfl (lv_at hl 3 rfl) ?_
            refine va_get (D := D) (ci := 3) (v := .ref aE) (C := RX3) (T := TX3) (N := 17) hXX hBB hts iw_X3 hown hK hP 4 rfl rfl 15 (by decide) kw_2 (fun _ h9 => h9) rfl dX3_chances_52 ?_
            refine lv_iload_n hXX hBB dX3_chances_55 rfl (lv_at hl 4 rfl) ?_
            refine m_iald hXX hBB hK hP 10 0 rfl rfl (i := t) (by omega) (by decide) (x := Er t) rfl dX3_chances_56 ?_
            refine lv_iload_n hXX hBB dX3_chances_57 rfl (lv_at hl 5 rfl) ?_
            refine lv_icmp_ne (tgt := 65) hXX hBB dX3_chances_58 (by decide) (fun c_58 => ?_) (fun c_58 => ?_)
            · have c_58 := c_58
              refine lv_iconst (v := nI 0) hXX hBB dX3_chances_65 (by decide) ?_
              refine lv_iadd hXX hBB dX3_chances_66 ?_
              refine m_top (y := nI (acc + 0)) (nI_add _ _) ?_
              refine lv_istore (lv' := [(4, .int (nI (acc + 0))), (5, .int (nI nn)), (3, .int (nI (if rm2 = 0 then 0 else ordN S g p))), (0, .ref h), (1, .int (nI t)), (2, .int (nI k))]) hXX hBB dX3_chances_67 hl (by decide) rfl (fun ls hl => ?_)
              refine lv_iinc (v := nI (nn + 1)) (lv' := [(5, .int (nI (nn + 1))), (4, .int (nI (acc + 0))), (3, .int (nI (if rm2 = 0 then 0 else ordN S g p))), (0, .ref h), (1, .int (nI t)), (2, .int (nI k))]) hXX hBB dX3_chances_69 hl (k := 1) rfl (nI_1 _) (by decide) rfl (fun ls hl => ?_)
              refine lv_goto (tgt := 37) hXX hBB dX3_chances_72 (by decide) ?_
              have hal : (if rm2 = 0 then 0 else ordN S g p) ≤ 576 := by split <;> omega
              have hi_nn : (nn + 1) ≤ (if rm2 = 0 then 0 else ordN S g p) := by omega
              have hi_ac : (acc + 0) = ct (fun zn => decide (finS g (lowC g p rg bd ab ob) (g * p - dm) dm S zn t = nI k)) (nn + 1) := by first | (rw [ct_t (by simp [← e_f t (by omega), c_58])]; omega) | (rw [ct_f (by simp [← e_f t (by omega), c_58])]; omega)
              have hi_W9 : ∀ z, wr z < 4 := by exact e_w
              have hmm : (if rm2 = 0 then 0 else ordN S g p) - (nn + 1) < N_37 := by omega
              exact ih_37 (nn + 1) (acc + 0) lr Er br wr ur hi_nn hi_ac hi_W9 hmm _ _ (hP.sub [9, 10, 11, 4, 0, 1, 2, 3, 5, 6, 7, 8] rfl) (hD.sub [9, 10, 11, 4, 0, 1, 2, 3, 5, 6, 7, 8] (by decide) rfl) hS ls (lv_sub hl [0, 1, 2, 3, 4, 5] rfl)
            · have c_58 := c_58
              refine lv_iconst (v := nI 1) hXX hBB dX3_chances_61 (by decide) ?_
              refine lv_goto (tgt := 66) hXX hBB dX3_chances_62 (by decide) ?_
              refine lv_iadd hXX hBB dX3_chances_66 ?_
              refine m_top (y := nI (acc + 1)) (nI_add _ _) ?_
              refine lv_istore (lv' := [(4, .int (nI (acc + 1))), (5, .int (nI nn)), (3, .int (nI (if rm2 = 0 then 0 else ordN S g p))), (0, .ref h), (1, .int (nI t)), (2, .int (nI k))]) hXX hBB dX3_chances_67 hl (by decide) rfl (fun ls hl => ?_)
              refine lv_iinc (v := nI (nn + 1)) (lv' := [(5, .int (nI (nn + 1))), (4, .int (nI (acc + 1))), (3, .int (nI (if rm2 = 0 then 0 else ordN S g p))), (0, .ref h), (1, .int (nI t)), (2, .int (nI k))]) hXX hBB dX3_chances_69 hl (k := 1) rfl (nI_1 _) (by decide) rfl (fun ls hl => ?_)
              refine lv_goto (tgt := 37) hXX hBB dX3_chances_72 (by decide) ?_
              have hal : (if rm2 = 0 then 0 else ordN S g p) ≤ 576 := by split <;> omega
              have hi_nn : (nn + 1) ≤ (if rm2 = 0 then 0 else ordN S g p) := by omega
              have hi_ac : (acc + 1) = ct (fun zn => decide (finS g (lowC g p rg bd ab ob) (g * p - dm) dm S zn t = nI k)) (nn + 1) := by first | (rw [ct_t (by simp [← e_f t (by omega), c_58])]; omega) | (rw [ct_f (by simp [← e_f t (by omega), c_58])]; omega)
              have hi_W9 : ∀ z, wr z < 4 := by exact e_w
              have hmm : (if rm2 = 0 then 0 else ordN S g p) - (nn + 1) < N_37 := by omega
              exact ih_37 (nn + 1) (acc + 1) lr Er br wr ur hi_nn hi_ac hi_W9 hmm _ _ (hP.sub [9, 10, 11, 4, 0, 1, 2, 3, 5, 6, 7, 8] rfl) (hD.sub [9, 10, 11, 4, 0, 1, 2, 3, 5, 6, 7, 8] (by decide) rfl) hS ls (lv_sub hl [0, 1, 2, 3, 4, 5] rfl)
      have hi_nn : 0 ≤ (if rm2 = 0 then 0 else ordN S g p) := by omega
      have hi_ac : 0 = ct (fun zn => decide (finS g (lowC g p rg bd ab ob) (g * p - dm) dm S zn t = nI k)) 0 := by rfl
      have hi_W9 : ∀ z, rw2 z < 4 := by exact e_3
      exact L_37 _ 0 0 lf E bq rw2 us2 hi_nn hi_ac hi_W9 (Nat.lt_succ_self _) _ _ hP hD hS ls (lv_sub hl [0, 1, 2, 3, 4, 5] rfl)
    refine lv_aload_n hXX hBB dX3_chances_15 rfl (lv_at hl 0 rfl) ?_
    refine va_get (D := D) (ci := 3) (v := .int (nI rm2)) (C := RX3) (T := TX3) (N := 17) hXX hBB hts iw_X3 hown hK hP 3 rfl rfl 10 (by decide) kw_1 (fun _ h9 => h9) rfl dX3_chances_16 ?_
    refine lv_if_ne (tgt := 26) hXX hBB dX3_chances_19 (by decide) (fun c_19 => ?_) (fun c_19 => ?_)
    · have c_19 : ¬ rm2 = 0 := fun h9 => c_19 ((m_z (by omega)).mpr h9)
      refine lv_aload_n hXX hBB dX3_chances_26 rfl (lv_at hl 0 rfl) ?_
      refine m_calli (wr := [(aL, .inl (cZ, 576, .inl (fun j => bI (lf j)))), (aE, .inl (cI, 9, .inl E)), (aQ, .inl (cI, 9, .inl (fun j => nI (bq j)))), (aR, .inl (cI, 9, .inl (fun j => nI (rg j)))), (aB, .inl (cI, 6, .inl (fun j => nI (bd j)))), (aA, .inl (cZ, 81, .inl (fun j => bI (ab j)))), (aO, .inl (cZ, 81, .inl (fun j => bI (ob j)))), (aS, .inl (cI, 5184, .inl (fun j => nI (rs2 j)))), (aW, .inl (cI, 9, .inl (fun j => nI (rw2 j)))), (aU, .inl (cZ, 9, .inl (fun j => bI (us2 j))))]) ⟨hXX, hBB, hml, hown, hts⟩ hN (kX3_orderMany l D cI h g p aR aB aA aO dm aD aP thq rm2 aS aW aU aL aE aQ S (by omega) (by omega) (by omega)) (cwV 0 hts gX3_chances_X3_orderMany rfl rfl rfl (by decide +kernel) ⟨Nat.le_of_ble_eq_true rfl, Nat.le_of_ble_eq_true rfl⟩) hK hP hD hS hAA [3, 8] [0, 1, 2, 4, 5, 6, 7, 9, 10, 11] [0] rfl rfl rfl (by decide) (by decide) (by decide) rfl 3 rfl rfl rfl rfl hl.1 rfl (Nat.le_of_ble_eq_true rfl) dX3_chances_27 ⟨Nat.le_of_ble_eq_true rfl, Nat.le_of_ble_eq_true rfl⟩ (k := 0) (n := 0) rfl rfl (fun r_2 u_ H locs hw hP hD hS => ?_)
      have hw : (r_2 = nI (ordN S g p)) := hw
      have hr_r_2 := hw
      have hP : va_P D vwCl [(aL, .inl (cZ, 576, .inl (fun j => bI (lf j)))), (aE, .inl (cI, 9, .inl E)), (aQ, .inl (cI, 9, .inl (fun j => nI (bq j)))), (aR, .inl (cI, 9, .inl (fun j => nI (rg j)))), (aB, .inl (cI, 6, .inl (fun j => nI (bd j)))), (aA, .inl (cZ, 81, .inl (fun j => bI (ab j)))), (aO, .inl (cZ, 81, .inl (fun j => bI (ob j)))), (aS, .inl (cI, 5184, .inl (fun j => nI (rs2 j)))), (aW, .inl (cI, 9, .inl (fun j => nI (rw2 j)))), (aU, .inl (cZ, 9, .inl (fun j => bI (us2 j)))), (h, .inr (3, [.int (nI g), .int (nI p), .ref aR, .ref aB, .ref aA, .ref aO, .int (nI dm), .ref aD, .ref aP, .int (nI thq), .int (nI rm2), .ref aS, .ref aW, .ref aU, .ref aL, .ref aE, .ref aQ])), (aP, .inl (cI, 9, .inl S))] H := hP
      have hD : va_D AA [(aL, .inl (cZ, 576, .inl (fun j => bI (lf j)))), (aE, .inl (cI, 9, .inl E)), (aQ, .inl (cI, 9, .inl (fun j => nI (bq j)))), (aR, .inl (cI, 9, .inl (fun j => nI (rg j)))), (aB, .inl (cI, 6, .inl (fun j => nI (bd j)))), (aA, .inl (cZ, 81, .inl (fun j => bI (ab j)))), (aO, .inl (cZ, 81, .inl (fun j => bI (ob j)))), (aS, .inl (cI, 5184, .inl (fun j => nI (rs2 j)))), (aW, .inl (cI, 9, .inl (fun j => nI (rw2 j)))), (aU, .inl (cZ, 9, .inl (fun j => bI (us2 j)))), (h, .inr (3, [.int (nI g), .int (nI p), .ref aR, .ref aB, .ref aA, .ref aO, .int (nI dm), .ref aD, .ref aP, .int (nI thq), .int (nI rm2), .ref aS, .ref aW, .ref aU, .ref aL, .ref aE, .ref aQ])), (aP, .inl (cI, 9, .inl S))] := hD
      subst hr_r_2
      refine m_top (y := nI (if rm2 = 0 then 0 else ordN S g p)) (by first | (rw [if_pos c_19]; done) | (rw [if_neg c_19]; done)) ?_
      exact J_30 _ _ (hP.sub [0, 1, 2, 10, 3, 4, 5, 6, 11, 7, 8, 9] rfl) (hD.sub [0, 1, 2, 10, 3, 4, 5, 6, 11, 7, 8, 9] (by decide) rfl) hS ls (lv_sub hl [0, 1, 2] rfl)
    · have c_19 : rm2 = 0 := (m_z (by omega)).mp c_19
      refine lv_iconst (v := nI 0) hXX hBB dX3_chances_22 (by decide) ?_
      refine lv_goto (tgt := 30) hXX hBB dX3_chances_23 (by decide) ?_
      refine m_top (y := nI (if rm2 = 0 then 0 else ordN S g p)) (by first | (rw [if_pos c_19]; done) | (rw [if_neg c_19]; done)) ?_
      exact J_30 _ _ (hP.sub [0, 1, 2, 3, 4, 5, 6, 7, 8, 9, 10, 11] rfl) (hD.sub [0, 1, 2, 3, 4, 5, 6, 7, 8, 9, 10, 11] (by decide) rfl) hS ls (lv_sub hl [0, 1, 2] rfl)
  · have c_6 : (decide (thq = 0)) = false := m_bz0 c_6
    refine lv_iconst (v := nI 0) hXX hBB dX3_chances_9 (by decide) ?_
    refine hret (r := nI 0) (thq, rm, rs, rw, us, lf, E, bq) ?_ (rfl) (hP.sub [11, 0, 1, 2, 3, 4, 5, 6, 7, 8, 9, 10] rfl) (hD.sub [11, 0, 1, 2, 3, 4, 5, 6, 7, 8, 9, 10] (by decide) rfl) hS (Nat.le_of_ble_eq_true rfl) (Nat.le_of_ble_eq_true rfl) dX3_chances_10
    show (chPost g p rg bd ab ob S dm x y thq (nI 0)) ∧ (rm ≤ 576) ∧ (∀ z, rs z < 4) ∧ (∀ z, rw z < 4)
    exact ⟨⟨e_p.1, fun q => absurd q (of_decide_eq_false c_6)⟩, hrm, hrs, hrw⟩
abbrev rmX3_pairings : Room := { frames := 3, cells := 0, slots := 0, locals := 69 }
set_option maxHeartbeats 4000000 in
set_option maxRecDepth 100000 in
theorem kX3_pairings (l : Launch) (D : va_G) (cI : ClassId) (cZ : ClassId) (h : Nat) (g : Nat) (p : Nat) (aR : Nat) (aB : Nat) (aA : Nat) (aO : Nat) (dm : Nat) (aD : Nat) (aP : Nat) (th : Nat) (rm : Nat) (aS : Nat) (aW : Nat) (aU : Nat) (aL : Nat) (aE : Nat) (aQ : Nat) (rg : Nat → Nat) (bd : Nat → Nat) (ab : Nat → Bool) (ob : Nat → Bool) (S : Nat → Int32) (rs : Nat → Nat) (rw : Nat → Nat) (us : Nat → Bool) (lf : Nat → Bool) (E : Nat → Int32) (bq : Nat → Nat) (x : Int32) (y : Int32) (hg2 : 2 ≤ g) (hg4 : g ≤ 4) (hp2 : 2 ≤ p) (hp3 : p ≤ 3) (hT : g * p ≤ 9) (hrg : ∀ z, z < 9 → rg z < 6) (hbd : ∀ z, z < 6 → bd z < 4) (hrs : ∀ z, rs z < 4) (hrw : ∀ z, rw z < 4) (hrm : rm ≤ 576) (hdm : dm ≤ g * p) (hV : VS g p dm S) : Ci l yX3_pairings wsX3_pairings rmX3_pairings D [(cI, .int), (cZ, .boolean)] [.ref h, .int x, .int y] [(h, .inr (3, [.int (nI g), .int (nI p), .ref aR, .ref aB, .ref aA, .ref aO, .int (nI dm), .ref aD, .ref aP, .int (nI th), .int (nI rm), .ref aS, .ref aW, .ref aU, .ref aL, .ref aE, .ref aQ])), (aR, .inl (cI, 9, .inl (fun j => nI (rg j)))), (aB, .inl (cI, 6, .inl (fun j => nI (bd j)))), (aA, .inl (cZ, 81, .inl (fun j => bI (ab j)))), (aO, .inl (cZ, 81, .inl (fun j => bI (ob j)))), (aP, .inl (cI, 9, .inl S)), (aS, .inl (cI, 5184, .inl (fun j => nI (rs j)))), (aW, .inl (cI, 9, .inl (fun j => nI (rw j)))), (aU, .inl (cZ, 9, .inl (fun j => bI (us j)))), (aL, .inl (cZ, 576, .inl (fun j => bI (lf j)))), (aE, .inl (cI, 9, .inl E)), (aQ, .inl (cI, 9, .inl (fun j => nI (bq j))))] (fun (r : Int32) (u : Nat × Nat × (Nat → Nat) × (Nat → Nat) × (Nat → Bool) × (Nat → Bool) × (Nat → Int32) × (Nat → Nat)) => (paPost g p rg bd ab ob S dm x y u.1 r) ∧ (u.2.1 ≤ 576) ∧ (∀ z, u.2.2.1 z < 4) ∧ (∀ z, u.2.2.2.1 z < 4)) (fun (u : Nat × Nat × (Nat → Nat) × (Nat → Nat) × (Nat → Bool) × (Nat → Bool) × (Nat → Int32) × (Nat → Nat)) => [(h, .inr (3, [.int (nI g), .int (nI p), .ref aR, .ref aB, .ref aA, .ref aO, .int (nI dm), .ref aD, .ref aP, .int (nI u.1), .int (nI u.2.1), .ref aS, .ref aW, .ref aU, .ref aL, .ref aE, .ref aQ])), (aR, .inl (cI, 9, .inl (fun j => nI (rg j)))), (aB, .inl (cI, 6, .inl (fun j => nI (bd j)))), (aA, .inl (cZ, 81, .inl (fun j => bI (ab j)))), (aO, .inl (cZ, 81, .inl (fun j => bI (ob j)))), (aP, .inl (cI, 9, .inl S)), (aS, .inl (cI, 5184, .inl (fun j => nI (u.2.2.1 j)))), (aW, .inl (cI, 9, .inl (fun j => nI (u.2.2.2.1 j)))), (aU, .inl (cZ, 9, .inl (fun j => bI (u.2.2.2.2.1 j)))), (aL, .inl (cZ, 576, .inl (fun j => bI (u.2.2.2.2.2.1 j)))), (aE, .inl (cI, 9, .inl u.2.2.2.2.2.2.1)), (aQ, .inl (cI, 9, .inl (fun j => nI (u.2.2.2.2.2.2.2 j))))]) := by
  refine Ci_of (cc := cX3_pairings) (maxL := 6) (by decide) rfl (Nat.le_of_ble_eq_true rfl) ?_
  intro pR eV sT mI args below meth cO AA QQ ls hXX hBB hml hown hts hnm hN hK hP hD hS hAA hl hret
  have hl : lv_has ls 6 [(0, .ref h), (1, .int x), (2, .int y)] := hl
  have hgp : 0 < g * p := Nat.mul_pos (by omega) (by omega)
  have hfp := facp_le hg2 hg4 hp2 hp3 hT
  have hol := ordN_le S hg4 p
  have kw_1 := hts (.fieldLink RX3 51 "CupDrawModel" "thrown" "I") (List.mem_of_getElem? (i := 1) rfl)
  have iw_X3 : ∀ w ∈ wsX30, w ∈ wsX3_pairings := by decide +kernel
  have kw_3 := hts (.fieldLink RX3 41 "CupDrawModel" "ends" "[I") (List.mem_of_getElem? (i := 3) rfl)
  have kw_2 := hts (.fieldLink RX3 84 "CupDrawModel" "resultMany" "I") (List.mem_of_getElem? (i := 2) rfl)
  refine lv_aload_n hXX hBB dX3_pairings_0 rfl (lv_at hl 0 rfl) ?_
  refine lv_aload_n hXX hBB dX3_pairings_1 rfl (lv_at hl 0 rfl) ?_
  refine lv_iload_n hXX hBB dX3_pairings_2 rfl (lv_at hl 1 rfl) ?_
  refine m_calli (wr := [(aR, .inl (cI, 9, .inl (fun j => nI (rg j)))), (aB, .inl (cI, 6, .inl (fun j => nI (bd j)))), (aA, .inl (cZ, 81, .inl (fun j => bI (ab j)))), (aO, .inl (cZ, 81, .inl (fun j => bI (ob j)))), (aP, .inl (cI, 9, .inl S)), (aS, .inl (cI, 5184, .inl (fun j => nI (rs j)))), (aW, .inl (cI, 9, .inl (fun j => nI (rw j)))), (aU, .inl (cZ, 9, .inl (fun j => bI (us j)))), (aL, .inl (cZ, 576, .inl (fun j => bI (lf j)))), (aE, .inl (cI, 9, .inl E)), (aQ, .inl (cI, 9, .inl (fun j => nI (bq j))))]) ⟨hXX, hBB, hml, hown, hts⟩ hN (kX3_isTeam l D h g p aR aB aA aO dm aD aP th rm aS aW aU aL aE aQ x (hgp)) (cwV 1 hts gX3_pairings_X3_isTeam rfl rfl rfl (by decide +kernel) ⟨Nat.le_of_ble_eq_true rfl, Nat.le_of_ble_eq_true rfl⟩) hK hP hD hS hAA [0] [1, 2, 3, 4, 5, 6, 7, 8, 9, 10, 11] [] rfl rfl rfl (by decide) (by decide) (by decide) rfl 3 rfl rfl rfl rfl hl.1 rfl (Nat.le_of_ble_eq_true rfl) dX3_pairings_3 ⟨Nat.le_of_ble_eq_true rfl, Nat.le_of_ble_eq_true rfl⟩ (k := 0) (n := 0) rfl rfl (fun r_1 u_ H locs hw hP hD hS => ?_)
  have hw : (r_1 = bI (inB x (nI 0) (nI (g * p - 1)))) := hw
  have hr_r_1 := hw
  have hP : va_P D vwCl [(aR, .inl (cI, 9, .inl (fun j => nI (rg j)))), (aB, .inl (cI, 6, .inl (fun j => nI (bd j)))), (aA, .inl (cZ, 81, .inl (fun j => bI (ab j)))), (aO, .inl (cZ, 81, .inl (fun j => bI (ob j)))), (aP, .inl (cI, 9, .inl S)), (aS, .inl (cI, 5184, .inl (fun j => nI (rs j)))), (aW, .inl (cI, 9, .inl (fun j => nI (rw j)))), (aU, .inl (cZ, 9, .inl (fun j => bI (us j)))), (aL, .inl (cZ, 576, .inl (fun j => bI (lf j)))), (aE, .inl (cI, 9, .inl E)), (aQ, .inl (cI, 9, .inl (fun j => nI (bq j)))), (h, .inr (3, [.int (nI g), .int (nI p), .ref aR, .ref aB, .ref aA, .ref aO, .int (nI dm), .ref aD, .ref aP, .int (nI th), .int (nI rm), .ref aS, .ref aW, .ref aU, .ref aL, .ref aE, .ref aQ]))] H := hP
  have hD : va_D AA [(aR, .inl (cI, 9, .inl (fun j => nI (rg j)))), (aB, .inl (cI, 6, .inl (fun j => nI (bd j)))), (aA, .inl (cZ, 81, .inl (fun j => bI (ab j)))), (aO, .inl (cZ, 81, .inl (fun j => bI (ob j)))), (aP, .inl (cI, 9, .inl S)), (aS, .inl (cI, 5184, .inl (fun j => nI (rs j)))), (aW, .inl (cI, 9, .inl (fun j => nI (rw j)))), (aU, .inl (cZ, 9, .inl (fun j => bI (us j)))), (aL, .inl (cZ, 576, .inl (fun j => bI (lf j)))), (aE, .inl (cI, 9, .inl E)), (aQ, .inl (cI, 9, .inl (fun j => nI (bq j)))), (h, .inr (3, [.int (nI g), .int (nI p), .ref aR, .ref aB, .ref aA, .ref aO, .int (nI dm), .ref aD, .ref aP, .int (nI th), .int (nI rm), .ref aS, .ref aW, .ref aU, .ref aL, .ref aE, .ref aQ]))] := hD
  subst hr_r_1
  refine lv_if_eq (tgt := 21) hXX hBB dX3_pairings_6 (by decide) (fun c_6 => ?_) (fun c_6 => ?_)
  · have c_6 : (inB x (nI 0) (nI (g * p - 1))) = false := m_bz0 c_6
    refine lv_iconst (v := nI 1) hXX hBB dX3_pairings_21 (by decide) ?_
    refine va_put (D := D) (ci := 3) (v := .int (nI 1)) (ty := .int) (C := RX3) (T := TX3) (N := 17) hXX hBB hts iw_X3 tyX3 tyX3_ok nmX3 hown hK hP hD hS 11 rfl rfl 9 (by decide) kw_1 (fun _ h9 => h9) rfl (by decide +kernel) (rfl) (rfl) (Nat.le_of_ble_eq_true rfl) dX3_pairings_22 (fun H locs hP hD hS => ?_)
    have hP : va_P D vwCl [(aR, .inl (cI, 9, .inl (fun j => nI (rg j)))), (aB, .inl (cI, 6, .inl (fun j => nI (bd j)))), (aA, .inl (cZ, 81, .inl (fun j => bI (ab j)))), (aO, .inl (cZ, 81, .inl (fun j => bI (ob j)))), (aP, .inl (cI, 9, .inl S)), (aS, .inl (cI, 5184, .inl (fun j => nI (rs j)))), (aW, .inl (cI, 9, .inl (fun j => nI (rw j)))), (aU, .inl (cZ, 9, .inl (fun j => bI (us j)))), (aL, .inl (cZ, 576, .inl (fun j => bI (lf j)))), (aE, .inl (cI, 9, .inl E)), (aQ, .inl (cI, 9, .inl (fun j => nI (bq j)))), (h, .inr (3, [.int (nI g), .int (nI p), .ref aR, .ref aB, .ref aA, .ref aO, .int (nI dm), .ref aD, .ref aP, .int (nI 1), .int (nI rm), .ref aS, .ref aW, .ref aU, .ref aL, .ref aE, .ref aQ]))] H := hP
    have hD : va_D AA [(aR, .inl (cI, 9, .inl (fun j => nI (rg j)))), (aB, .inl (cI, 6, .inl (fun j => nI (bd j)))), (aA, .inl (cZ, 81, .inl (fun j => bI (ab j)))), (aO, .inl (cZ, 81, .inl (fun j => bI (ob j)))), (aP, .inl (cI, 9, .inl S)), (aS, .inl (cI, 5184, .inl (fun j => nI (rs j)))), (aW, .inl (cI, 9, .inl (fun j => nI (rw j)))), (aU, .inl (cZ, 9, .inl (fun j => bI (us j)))), (aL, .inl (cZ, 576, .inl (fun j => bI (lf j)))), (aE, .inl (cI, 9, .inl E)), (aQ, .inl (cI, 9, .inl (fun j => nI (bq j)))), (h, .inr (3, [.int (nI g), .int (nI p), .ref aR, .ref aB, .ref aA, .ref aO, .int (nI dm), .ref aD, .ref aP, .int (nI 1), .int (nI rm), .ref aS, .ref aW, .ref aU, .ref aL, .ref aE, .ref aQ]))] := hD
    refine lv_aload_n hXX hBB dX3_pairings_25 rfl (lv_at hl 0 rfl) ?_
    refine va_get (D := D) (ci := 3) (v := .int (nI 1)) (C := RX3) (T := TX3) (N := 17) hXX hBB hts iw_X3 hown hK hP 11 rfl rfl 9 (by decide) kw_1 (fun _ h9 => h9) rfl dX3_pairings_26 ?_
    refine lv_if_le (tgt := 34) hXX hBB dX3_pairings_29 (by decide) (fun c_29 => ?_) (fun c_29 => ?_)
    · exact absurd c_29 (by decide)
    · have c_29 : 0 < 1 := m_pos_le_f (by omega) c_29
      refine lv_iconst (v := nI 0) hXX hBB dX3_pairings_32 (by decide) ?_
      refine hret (r := nI 0) (1, rm, rs, rw, us, lf, E, bq) ?_ (rfl) (hP.sub [11, 0, 1, 2, 3, 4, 5, 6, 7, 8, 9, 10] rfl) (hD.sub [11, 0, 1, 2, 3, 4, 5, 6, 7, 8, 9, 10] (by decide) rfl) hS (Nat.le_of_ble_eq_true rfl) (Nat.le_of_ble_eq_true rfl) dX3_pairings_33
      show (paPost g p rg bd ab ob S dm x y 1 (nI 0)) ∧ (rm ≤ 576) ∧ (∀ z, rs z < 4) ∧ (∀ z, rw z < 4)
      exact ⟨⟨by first | (simp [c_6]; done) | (simp [c_6, c_14]; done), fun q => absurd q (by decide)⟩, hrm, hrs, hrw⟩
  · have c_6 : (inB x (nI 0) (nI (g * p - 1))) = true := m_bz1 c_6
    refine lv_aload_n hXX hBB dX3_pairings_9 rfl (lv_at hl 0 rfl) ?_
    refine lv_iload_n hXX hBB dX3_pairings_10 rfl (lv_at hl 2 rfl) ?_
    refine m_calli (wr := [(aR, .inl (cI, 9, .inl (fun j => nI (rg j)))), (aB, .inl (cI, 6, .inl (fun j => nI (bd j)))), (aA, .inl (cZ, 81, .inl (fun j => bI (ab j)))), (aO, .inl (cZ, 81, .inl (fun j => bI (ob j)))), (aP, .inl (cI, 9, .inl S)), (aS, .inl (cI, 5184, .inl (fun j => nI (rs j)))), (aW, .inl (cI, 9, .inl (fun j => nI (rw j)))), (aU, .inl (cZ, 9, .inl (fun j => bI (us j)))), (aL, .inl (cZ, 576, .inl (fun j => bI (lf j)))), (aE, .inl (cI, 9, .inl E)), (aQ, .inl (cI, 9, .inl (fun j => nI (bq j))))]) ⟨hXX, hBB, hml, hown, hts⟩ hN (kX3_isTeam l D h g p aR aB aA aO dm aD aP th rm aS aW aU aL aE aQ y (hgp)) (cwV 1 hts gX3_pairings_X3_isTeam rfl rfl rfl (by decide +kernel) ⟨Nat.le_of_ble_eq_true rfl, Nat.le_of_ble_eq_true rfl⟩) hK hP hD hS hAA [11] [0, 1, 2, 3, 4, 5, 6, 7, 8, 9, 10] [] rfl rfl rfl (by decide) (by decide) (by decide) rfl 3 rfl rfl rfl rfl hl.1 rfl (Nat.le_of_ble_eq_true rfl) dX3_pairings_11 ⟨Nat.le_of_ble_eq_true rfl, Nat.le_of_ble_eq_true rfl⟩ (k := 0) (n := 0) rfl rfl (fun r_2 u_ H locs hw hP hD hS => ?_)
    have hw : (r_2 = bI (inB y (nI 0) (nI (g * p - 1)))) := hw
    have hr_r_2 := hw
    have hP : va_P D vwCl [(aR, .inl (cI, 9, .inl (fun j => nI (rg j)))), (aB, .inl (cI, 6, .inl (fun j => nI (bd j)))), (aA, .inl (cZ, 81, .inl (fun j => bI (ab j)))), (aO, .inl (cZ, 81, .inl (fun j => bI (ob j)))), (aP, .inl (cI, 9, .inl S)), (aS, .inl (cI, 5184, .inl (fun j => nI (rs j)))), (aW, .inl (cI, 9, .inl (fun j => nI (rw j)))), (aU, .inl (cZ, 9, .inl (fun j => bI (us j)))), (aL, .inl (cZ, 576, .inl (fun j => bI (lf j)))), (aE, .inl (cI, 9, .inl E)), (aQ, .inl (cI, 9, .inl (fun j => nI (bq j)))), (h, .inr (3, [.int (nI g), .int (nI p), .ref aR, .ref aB, .ref aA, .ref aO, .int (nI dm), .ref aD, .ref aP, .int (nI th), .int (nI rm), .ref aS, .ref aW, .ref aU, .ref aL, .ref aE, .ref aQ]))] H := hP
    have hD : va_D AA [(aR, .inl (cI, 9, .inl (fun j => nI (rg j)))), (aB, .inl (cI, 6, .inl (fun j => nI (bd j)))), (aA, .inl (cZ, 81, .inl (fun j => bI (ab j)))), (aO, .inl (cZ, 81, .inl (fun j => bI (ob j)))), (aP, .inl (cI, 9, .inl S)), (aS, .inl (cI, 5184, .inl (fun j => nI (rs j)))), (aW, .inl (cI, 9, .inl (fun j => nI (rw j)))), (aU, .inl (cZ, 9, .inl (fun j => bI (us j)))), (aL, .inl (cZ, 576, .inl (fun j => bI (lf j)))), (aE, .inl (cI, 9, .inl E)), (aQ, .inl (cI, 9, .inl (fun j => nI (bq j)))), (h, .inr (3, [.int (nI g), .int (nI p), .ref aR, .ref aB, .ref aA, .ref aO, .int (nI dm), .ref aD, .ref aP, .int (nI th), .int (nI rm), .ref aS, .ref aW, .ref aU, .ref aL, .ref aE, .ref aQ]))] := hD
    subst hr_r_2
    refine lv_if_eq (tgt := 21) hXX hBB dX3_pairings_14 (by decide) (fun c_14 => ?_) (fun c_14 => ?_)
    · have c_14 : (inB y (nI 0) (nI (g * p - 1))) = false := m_bz0 c_14
      refine lv_iconst (v := nI 1) hXX hBB dX3_pairings_21 (by decide) ?_
      refine va_put (D := D) (ci := 3) (v := .int (nI 1)) (ty := .int) (C := RX3) (T := TX3) (N := 17) hXX hBB hts iw_X3 tyX3 tyX3_ok nmX3 hown hK hP hD hS 11 rfl rfl 9 (by decide) kw_1 (fun _ h9 => h9) rfl (by decide +kernel) (rfl) (rfl) (Nat.le_of_ble_eq_true rfl) dX3_pairings_22 (fun H locs hP hD hS => ?_)
      have hP : va_P D vwCl [(aR, .inl (cI, 9, .inl (fun j => nI (rg j)))), (aB, .inl (cI, 6, .inl (fun j => nI (bd j)))), (aA, .inl (cZ, 81, .inl (fun j => bI (ab j)))), (aO, .inl (cZ, 81, .inl (fun j => bI (ob j)))), (aP, .inl (cI, 9, .inl S)), (aS, .inl (cI, 5184, .inl (fun j => nI (rs j)))), (aW, .inl (cI, 9, .inl (fun j => nI (rw j)))), (aU, .inl (cZ, 9, .inl (fun j => bI (us j)))), (aL, .inl (cZ, 576, .inl (fun j => bI (lf j)))), (aE, .inl (cI, 9, .inl E)), (aQ, .inl (cI, 9, .inl (fun j => nI (bq j)))), (h, .inr (3, [.int (nI g), .int (nI p), .ref aR, .ref aB, .ref aA, .ref aO, .int (nI dm), .ref aD, .ref aP, .int (nI 1), .int (nI rm), .ref aS, .ref aW, .ref aU, .ref aL, .ref aE, .ref aQ]))] H := hP
      have hD : va_D AA [(aR, .inl (cI, 9, .inl (fun j => nI (rg j)))), (aB, .inl (cI, 6, .inl (fun j => nI (bd j)))), (aA, .inl (cZ, 81, .inl (fun j => bI (ab j)))), (aO, .inl (cZ, 81, .inl (fun j => bI (ob j)))), (aP, .inl (cI, 9, .inl S)), (aS, .inl (cI, 5184, .inl (fun j => nI (rs j)))), (aW, .inl (cI, 9, .inl (fun j => nI (rw j)))), (aU, .inl (cZ, 9, .inl (fun j => bI (us j)))), (aL, .inl (cZ, 576, .inl (fun j => bI (lf j)))), (aE, .inl (cI, 9, .inl E)), (aQ, .inl (cI, 9, .inl (fun j => nI (bq j)))), (h, .inr (3, [.int (nI g), .int (nI p), .ref aR, .ref aB, .ref aA, .ref aO, .int (nI dm), .ref aD, .ref aP, .int (nI 1), .int (nI rm), .ref aS, .ref aW, .ref aU, .ref aL, .ref aE, .ref aQ]))] := hD
      refine lv_aload_n hXX hBB dX3_pairings_25 rfl (lv_at hl 0 rfl) ?_
      refine va_get (D := D) (ci := 3) (v := .int (nI 1)) (C := RX3) (T := TX3) (N := 17) hXX hBB hts iw_X3 hown hK hP 11 rfl rfl 9 (by decide) kw_1 (fun _ h9 => h9) rfl dX3_pairings_26 ?_
      refine lv_if_le (tgt := 34) hXX hBB dX3_pairings_29 (by decide) (fun c_29 => ?_) (fun c_29 => ?_)
      · exact absurd c_29 (by decide)
      · have c_29 : 0 < 1 := m_pos_le_f (by omega) c_29
        refine lv_iconst (v := nI 0) hXX hBB dX3_pairings_32 (by decide) ?_
        refine hret (r := nI 0) (1, rm, rs, rw, us, lf, E, bq) ?_ (rfl) (hP.sub [11, 0, 1, 2, 3, 4, 5, 6, 7, 8, 9, 10] rfl) (hD.sub [11, 0, 1, 2, 3, 4, 5, 6, 7, 8, 9, 10] (by decide) rfl) hS (Nat.le_of_ble_eq_true rfl) (Nat.le_of_ble_eq_true rfl) dX3_pairings_33
        show (paPost g p rg bd ab ob S dm x y 1 (nI 0)) ∧ (rm ≤ 576) ∧ (∀ z, rs z < 4) ∧ (∀ z, rw z < 4)
        exact ⟨⟨by first | (simp [c_6]; done) | (simp [c_6, c_14]; done), fun q => absurd q (by decide)⟩, hrm, hrs, hrw⟩
    · have c_14 : (inB y (nI 0) (nI (g * p - 1))) = true := m_bz1 c_14
      refine lv_iconst (v := nI 0) hXX hBB dX3_pairings_17 (by decide) ?_
      refine lv_goto (tgt := 22) hXX hBB dX3_pairings_18 (by decide) ?_
      refine va_put (D := D) (ci := 3) (v := .int (nI 0)) (ty := .int) (C := RX3) (T := TX3) (N := 17) hXX hBB hts iw_X3 tyX3 tyX3_ok nmX3 hown hK hP hD hS 11 rfl rfl 9 (by decide) kw_1 (fun _ h9 => h9) rfl (by decide +kernel) (rfl) (rfl) (Nat.le_of_ble_eq_true rfl) dX3_pairings_22 (fun H locs hP hD hS => ?_)
      have hP : va_P D vwCl [(aR, .inl (cI, 9, .inl (fun j => nI (rg j)))), (aB, .inl (cI, 6, .inl (fun j => nI (bd j)))), (aA, .inl (cZ, 81, .inl (fun j => bI (ab j)))), (aO, .inl (cZ, 81, .inl (fun j => bI (ob j)))), (aP, .inl (cI, 9, .inl S)), (aS, .inl (cI, 5184, .inl (fun j => nI (rs j)))), (aW, .inl (cI, 9, .inl (fun j => nI (rw j)))), (aU, .inl (cZ, 9, .inl (fun j => bI (us j)))), (aL, .inl (cZ, 576, .inl (fun j => bI (lf j)))), (aE, .inl (cI, 9, .inl E)), (aQ, .inl (cI, 9, .inl (fun j => nI (bq j)))), (h, .inr (3, [.int (nI g), .int (nI p), .ref aR, .ref aB, .ref aA, .ref aO, .int (nI dm), .ref aD, .ref aP, .int (nI 0), .int (nI rm), .ref aS, .ref aW, .ref aU, .ref aL, .ref aE, .ref aQ]))] H := hP
      have hD : va_D AA [(aR, .inl (cI, 9, .inl (fun j => nI (rg j)))), (aB, .inl (cI, 6, .inl (fun j => nI (bd j)))), (aA, .inl (cZ, 81, .inl (fun j => bI (ab j)))), (aO, .inl (cZ, 81, .inl (fun j => bI (ob j)))), (aP, .inl (cI, 9, .inl S)), (aS, .inl (cI, 5184, .inl (fun j => nI (rs j)))), (aW, .inl (cI, 9, .inl (fun j => nI (rw j)))), (aU, .inl (cZ, 9, .inl (fun j => bI (us j)))), (aL, .inl (cZ, 576, .inl (fun j => bI (lf j)))), (aE, .inl (cI, 9, .inl E)), (aQ, .inl (cI, 9, .inl (fun j => nI (bq j)))), (h, .inr (3, [.int (nI g), .int (nI p), .ref aR, .ref aB, .ref aA, .ref aO, .int (nI dm), .ref aD, .ref aP, .int (nI 0), .int (nI rm), .ref aS, .ref aW, .ref aU, .ref aL, .ref aE, .ref aQ]))] := hD
      refine lv_aload_n hXX hBB dX3_pairings_25 rfl (lv_at hl 0 rfl) ?_
      refine va_get (D := D) (ci := 3) (v := .int (nI 0)) (C := RX3) (T := TX3) (N := 17) hXX hBB hts iw_X3 hown hK hP 11 rfl rfl 9 (by decide) kw_1 (fun _ h9 => h9) rfl dX3_pairings_26 ?_
      refine lv_if_le (tgt := 34) hXX hBB dX3_pairings_29 (by decide) (fun c_29 => ?_) (fun c_29 => ?_)
      · have c_29 : 0 = 0 := m_nps_le_t (by omega) c_29
        obtain ⟨t, hlo_t, hhi_t, he_t⟩ := inB_nat (lo := 0) (hi := g * p - 1) (by omega) c_6
        obtain ⟨k, hlo_k, hhi_k, he_k⟩ := inB_nat (lo := 0) (hi := g * p - 1) (by omega) c_14
        have hl : lv_has ls 6 [(0, .ref h), (1, .int (nI t)), (2, .int (nI k))] := by rw [he_t, he_k] at hl; exact hl
        refine lv_aload_n hXX hBB dX3_pairings_34 rfl (lv_at hl 0 rfl) ?_
        refine m_callv (wr := [(aL, .inl (cZ, 576, .inl (fun j => bI (lf j)))), (aE, .inl (cI, 9, .inl E)), (aQ, .inl (cI, 9, .inl (fun j => nI (bq j))))]) ⟨hXX, hBB, hml, hown, hts⟩ hN (kX3_layResults l D cI cZ h g p aR aB aA aO dm aD aP 0 rm aS aW aU aL aE aQ rg bd ab ob S rs rw us (by omega) (by omega) (by omega) (by omega) (by omega) (by assumption) (by assumption) (by assumption) (by assumption)) (cwV 0 hts gX3_pairings_X3_layResults rfl rfl rfl (by decide +kernel) ⟨Nat.le_of_ble_eq_true rfl, Nat.le_of_ble_eq_true rfl⟩) hK hP hD hS hAA [11, 0, 1, 2, 3, 4, 5, 6, 7] [8, 9, 10] [0, 1] rfl rfl rfl (by decide) (by decide) (by decide) rfl 3 rfl rfl rfl rfl hl.1 rfl (Nat.le_of_ble_eq_true rfl) dX3_pairings_35 ⟨Nat.le_of_ble_eq_true rfl, Nat.le_of_ble_eq_true rfl⟩ (k := 0) (n := 0) rfl rfl (fun  u_ H locs hw hP hD hS => ?_)
        obtain ⟨rm2, rs2, rw2, us2⟩ := u_
        have hw : (rm2 ≤ 576) ∧ (∀ z, rs2 z < 4) ∧ (∀ z, rw2 z < 4) ∧ (∀ w : Nat → Nat, sm (fun z => w (cdR rs2 z (g * p))) rm2 = RS g p rg bd ab ob S w) := hw
        obtain ⟨e_1, e_2, e_3, e_4⟩ := hw
        have hP : va_P D vwCl [(aL, .inl (cZ, 576, .inl (fun j => bI (lf j)))), (aE, .inl (cI, 9, .inl E)), (aQ, .inl (cI, 9, .inl (fun j => nI (bq j)))), (h, .inr (3, [.int (nI g), .int (nI p), .ref aR, .ref aB, .ref aA, .ref aO, .int (nI dm), .ref aD, .ref aP, .int (nI 0), .int (nI rm2), .ref aS, .ref aW, .ref aU, .ref aL, .ref aE, .ref aQ])), (aR, .inl (cI, 9, .inl (fun j => nI (rg j)))), (aB, .inl (cI, 6, .inl (fun j => nI (bd j)))), (aA, .inl (cZ, 81, .inl (fun j => bI (ab j)))), (aO, .inl (cZ, 81, .inl (fun j => bI (ob j)))), (aP, .inl (cI, 9, .inl S)), (aS, .inl (cI, 5184, .inl (fun j => nI (rs2 j)))), (aW, .inl (cI, 9, .inl (fun j => nI (rw2 j)))), (aU, .inl (cZ, 9, .inl (fun j => bI (us2 j))))] H := hP
        have hD : va_D AA [(aL, .inl (cZ, 576, .inl (fun j => bI (lf j)))), (aE, .inl (cI, 9, .inl E)), (aQ, .inl (cI, 9, .inl (fun j => nI (bq j)))), (h, .inr (3, [.int (nI g), .int (nI p), .ref aR, .ref aB, .ref aA, .ref aO, .int (nI dm), .ref aD, .ref aP, .int (nI 0), .int (nI rm2), .ref aS, .ref aW, .ref aU, .ref aL, .ref aE, .ref aQ])), (aR, .inl (cI, 9, .inl (fun j => nI (rg j)))), (aB, .inl (cI, 6, .inl (fun j => nI (bd j)))), (aA, .inl (cZ, 81, .inl (fun j => bI (ab j)))), (aO, .inl (cZ, 81, .inl (fun j => bI (ob j)))), (aP, .inl (cI, 9, .inl S)), (aS, .inl (cI, 5184, .inl (fun j => nI (rs2 j)))), (aW, .inl (cI, 9, .inl (fun j => nI (rw2 j)))), (aU, .inl (cZ, 9, .inl (fun j => bI (us2 j))))] := hD
        have hLR : LR g p rg bd ab ob S rm2 rs2 := ⟨e_1, e_2, e_4⟩
        have J_53 : ∀ (H : Heap) (locs : List Loc), va_P D vwCl [(aL, .inl (cZ, 576, .inl (fun j => bI (lf j)))), (aE, .inl (cI, 9, .inl E)), (aQ, .inl (cI, 9, .inl (fun j => nI (bq j)))), (h, .inr (3, [.int (nI g), .int (nI p), .ref aR, .ref aB, .ref aA, .ref aO, .int (nI dm), .ref aD, .ref aP, .int (nI 0), .int (nI rm2), .ref aS, .ref aW, .ref aU, .ref aL, .ref aE, .ref aQ])), (aR, .inl (cI, 9, .inl (fun j => nI (rg j)))), (aB, .inl (cI, 6, .inl (fun j => nI (bd j)))), (aA, .inl (cZ, 81, .inl (fun j => bI (ab j)))), (aO, .inl (cZ, 81, .inl (fun j => bI (ob j)))), (aP, .inl (cI, 9, .inl S)), (aS, .inl (cI, 5184, .inl (fun j => nI (rs2 j)))), (aW, .inl (cI, 9, .inl (fun j => nI (rw2 j)))), (aU, .inl (cZ, 9, .inl (fun j => bI (us2 j))))] H → va_D AA [(aL, .inl (cZ, 576, .inl (fun j => bI (lf j)))), (aE, .inl (cI, 9, .inl E)), (aQ, .inl (cI, 9, .inl (fun j => nI (bq j)))), (h, .inr (3, [.int (nI g), .int (nI p), .ref aR, .ref aB, .ref aA, .ref aO, .int (nI dm), .ref aD, .ref aP, .int (nI 0), .int (nI rm2), .ref aS, .ref aW, .ref aU, .ref aL, .ref aE, .ref aQ])), (aR, .inl (cI, 9, .inl (fun j => nI (rg j)))), (aB, .inl (cI, 6, .inl (fun j => nI (bd j)))), (aA, .inl (cZ, 81, .inl (fun j => bI (ab j)))), (aO, .inl (cZ, 81, .inl (fun j => bI (ob j)))), (aP, .inl (cI, 9, .inl S)), (aS, .inl (cI, 5184, .inl (fun j => nI (rs2 j)))), (aW, .inl (cI, 9, .inl (fun j => nI (rw2 j)))), (aU, .inl (cZ, 9, .inl (fun j => bI (us2 j))))] → va_S AA sT.heap H locs → ∀ (ls : Array Slot), lv_has ls 6 [(0, .ref h), (1, .int (nI t)), (2, .int (nI k))] → W pR l eV rmX3_pairings sT mI args below meth cO H locs 0 0 QQ (F0 mI 53 ls [.int (nI (if rm2 = 0 then 0 else ordN S g p))]) := by
          intro H locs hP hD hS ls hl
          refine lv_istore_n (lv' := [(3, .int (nI (if rm2 = 0 then 0 else ordN S g p))), (0, .ref h), (1, .int (nI t)), (2, .int (nI k))]) hXX hBB dX3_pairings_53 rfl hl (by decide) rfl (fun ls hl => ?_)
          refine lv_iconst (v := nI 0) hXX hBB dX3_pairings_54 (by decide) ?_
          refine lv_istore (lv' := [(4, .int (nI 0)), (3, .int (nI (if rm2 = 0 then 0 else ordN S g p))), (0, .ref h), (1, .int (nI t)), (2, .int (nI k))]) hXX hBB dX3_pairings_55 hl (by decide) rfl (fun ls hl => ?_)
          refine lv_iconst (v := nI 0) hXX hBB dX3_pairings_57 (by decide) ?_
          refine lv_istore (lv' := [(5, .int (nI 0)), (4, .int (nI 0)), (3, .int (nI (if rm2 = 0 then 0 else ordN S g p))), (0, .ref h), (1, .int (nI t)), (2, .int (nI k))]) hXX hBB dX3_pairings_58 hl (by decide) rfl (fun ls hl => ?_)
          have hal : (if rm2 = 0 then 0 else ordN S g p) ≤ 576 := by split <;> omega
          have L_60 : ∀ (N_60 : Nat) (nn : Nat) (acc : Nat) (lq : Nat → Bool) (Eq9 : Nat → Int32) (bq9 : Nat → Nat) (wq : Nat → Nat) (uq : Nat → Bool), (nn ≤ (if rm2 = 0 then 0 else ordN S g p)) → (acc = ct (fun zn => decide (finS g (lowC g p rg bd ab ob) (g * p - dm) dm S zn t = finS g (lowC g p rg bd ab ob) (g * p - dm) dm S zn k)) nn) → (∀ z, wq z < 4) → (if rm2 = 0 then 0 else ordN S g p) - nn < N_60 → ∀ (H : Heap) (locs : List Loc), va_P D vwCl [(aL, .inl (cZ, 576, .inl (fun j => bI (lq j)))), (aE, .inl (cI, 9, .inl Eq9)), (aQ, .inl (cI, 9, .inl (fun j => nI (bq9 j)))), (h, .inr (3, [.int (nI g), .int (nI p), .ref aR, .ref aB, .ref aA, .ref aO, .int (nI dm), .ref aD, .ref aP, .int (nI 0), .int (nI rm2), .ref aS, .ref aW, .ref aU, .ref aL, .ref aE, .ref aQ])), (aR, .inl (cI, 9, .inl (fun j => nI (rg j)))), (aB, .inl (cI, 6, .inl (fun j => nI (bd j)))), (aA, .inl (cZ, 81, .inl (fun j => bI (ab j)))), (aO, .inl (cZ, 81, .inl (fun j => bI (ob j)))), (aP, .inl (cI, 9, .inl S)), (aS, .inl (cI, 5184, .inl (fun j => nI (rs2 j)))), (aW, .inl (cI, 9, .inl (fun j => nI (wq j)))), (aU, .inl (cZ, 9, .inl (fun j => bI (uq j))))] H → va_D AA [(aL, .inl (cZ, 576, .inl (fun j => bI (lq j)))), (aE, .inl (cI, 9, .inl Eq9)), (aQ, .inl (cI, 9, .inl (fun j => nI (bq9 j)))), (h, .inr (3, [.int (nI g), .int (nI p), .ref aR, .ref aB, .ref aA, .ref aO, .int (nI dm), .ref aD, .ref aP, .int (nI 0), .int (nI rm2), .ref aS, .ref aW, .ref aU, .ref aL, .ref aE, .ref aQ])), (aR, .inl (cI, 9, .inl (fun j => nI (rg j)))), (aB, .inl (cI, 6, .inl (fun j => nI (bd j)))), (aA, .inl (cZ, 81, .inl (fun j => bI (ab j)))), (aO, .inl (cZ, 81, .inl (fun j => bI (ob j)))), (aP, .inl (cI, 9, .inl S)), (aS, .inl (cI, 5184, .inl (fun j => nI (rs2 j)))), (aW, .inl (cI, 9, .inl (fun j => nI (wq j)))), (aU, .inl (cZ, 9, .inl (fun j => bI (uq j))))] → va_S AA sT.heap H locs → ∀ (ls : Array Slot), lv_has ls 6 [(5, .int (nI nn)), (4, .int (nI acc)), (3, .int (nI (if rm2 = 0 then 0 else ordN S g p))), (0, .ref h), (1, .int (nI t)), (2, .int (nI k))] → W pR l eV rmX3_pairings sT mI args below meth cO H locs 0 0 QQ (F0 mI 60 ls []) := by
            intro N_60
            induction N_60 with
            | zero =>
              intro nn acc lq Eq9 bq9 wq uq hnn hac hW9 hMM
              exact absurd hMM (Nat.not_lt_zero _)
            | succ N_60 ih_60 =>
              intro nn acc lq Eq9 bq9 wq uq hnn hac hW9 hMM H locs hP hD hS ls hl
              have hal : (if rm2 = 0 then 0 else ordN S g p) ≤ 576 := by split <;> omega
              refine lv_iload hXX hBB dX3_pairings_60 (lv_at hl 0 rfl) ?_
              refine lv_iload_n hXX hBB dX3_pairings_62 rfl (lv_at hl 2 rfl) ?_
              refine lv_icmp_ge (tgt := 103) hXX hBB dX3_pairings_63 (by decide) (fun c_63 => ?_) (fun c_63 => ?_)
              · have c_63 : (if rm2 = 0 then 0 else ordN S g p) ≤ nn := (nI_leI (by omega) (by omega)).mp c_63
                have hE9 : nn = (if rm2 = 0 then 0 else ordN S g p) := by omega
                have hor : acc = orS g p rg bd ab ob S dm (fun E => decide (E t = E k)) := by
                  rw [hac, hE9]
                  unfold orS
                  rw [← LR_rm hLR]
                  by_cases q9 : rm2 = 0
                  · rw [if_pos q9, if_pos q9]; rfl
                  · rw [if_neg q9, if_neg q9]
                refine lv_iload hXX hBB dX3_pairings_103 (lv_at hl 1 rfl) ?_
                refine hret (r := nI acc) (0, rm2, rs2, wq, uq, lq, Eq9, bq9) ?_ (rfl) (hP.sub [3, 4, 5, 6, 7, 8, 9, 10, 11, 0, 1, 2] rfl) (hD.sub [3, 4, 5, 6, 7, 8, 9, 10, 11, 0, 1, 2] (by decide) rfl) hS (Nat.le_of_ble_eq_true rfl) (Nat.le_of_ble_eq_true rfl) dX3_pairings_105
                show (paPost g p rg bd ab ob S dm x y 0 (nI acc)) ∧ (rm2 ≤ 576) ∧ (∀ z, rs2 z < 4) ∧ (∀ z, wq z < 4)
                exact ⟨⟨by simp [c_6, c_14], fun _ => ⟨t, k, by omega, by omega, he_t, he_k, by rw [hor]⟩⟩, e_1, e_2, hW9⟩
              · have c_63 : ¬ (if rm2 = 0 then 0 else ordN S g p) ≤ nn := fun h9 => c_63 ((nI_leI (by omega) (by omega)).mpr h9)
                have hacl := ct_le (fun zn => decide (finS g (lowC g p rg bd ab ob) (g * p - dm) dm S zn t = finS g (lowC g p rg bd ab ob) (g * p - dm) dm S zn k)) nn
                have hFC : FolC g p dm rm2 rg bd ab ob S rs2 := ⟨hg2, hg4, hT, hdm, hV, e_2, e_4⟩
                refine lv_aload_n hXX hBB dX3_pairings_66 rfl (lv_at hl 3 rfl) ?_
                refine lv_iload hXX hBB dX3_pairings_67 (lv_at hl 0 rfl) ?_
                refine m_callv (wr := [(aR, .inl (cI, 9, .inl (fun j => nI (rg j)))), (aB, .inl (cI, 6, .inl (fun j => nI (bd j)))), (aA, .inl (cZ, 81, .inl (fun j => bI (ab j)))), (aO, .inl (cZ, 81, .inl (fun j => bI (ob j))))]) ⟨hXX, hBB, hml, hown, hts⟩ hN (kX3_follow l D cI cZ h g p aR aB aA aO dm aD aP 0 rm2 aS aW aU aL aE aQ S rs2 wq uq lq Eq9 bq9 nn rg bd ab ob (by assumption) (by omega) (by exact e_1) (by omega) (by exact hW9)) (cwV 1 hts gX3_pairings_X3_follow rfl rfl rfl (by decide +kernel) ⟨Nat.le_of_ble_eq_true rfl, Nat.le_of_ble_eq_true rfl⟩) hK hP hD hS hAA [3, 8, 9, 10, 11, 0, 1, 2] [4, 5, 6, 7] [0, 1] rfl rfl rfl (by decide) (by decide) (by decide) rfl 3 rfl rfl rfl rfl hl.1 rfl (Nat.le_of_ble_eq_true rfl) dX3_pairings_69 ⟨Nat.le_of_ble_eq_true rfl, Nat.le_of_ble_eq_true rfl⟩ (k := 0) (n := 0) rfl rfl (fun  u_ H locs hw hP hD hS => ?_)
                obtain ⟨wr, ur, lr, Er, br⟩ := u_
                have hw : (∀ t, t < g * p → Er t = finS g (lowC g p rg bd ab ob) (g * p - dm) dm S nn t) ∧ (∀ z, wr z < 4) := hw
                obtain ⟨e_f, e_w⟩ := hw
                have hP : va_P D vwCl [(aR, .inl (cI, 9, .inl (fun j => nI (rg j)))), (aB, .inl (cI, 6, .inl (fun j => nI (bd j)))), (aA, .inl (cZ, 81, .inl (fun j => bI (ab j)))), (aO, .inl (cZ, 81, .inl (fun j => bI (ob j)))), (h, .inr (3, [.int (nI g), .int (nI p), .ref aR, .ref aB, .ref aA, .ref aO, .int (nI dm), .ref aD, .ref aP, .int (nI 0), .int (nI rm2), .ref aS, .ref aW, .ref aU, .ref aL, .ref aE, .ref aQ])), (aP, .inl (cI, 9, .inl S)), (aS, .inl (cI, 5184, .inl (fun j => nI (rs2 j)))), (aW, .inl (cI, 9, .inl (fun j => nI (wr j)))), (aU, .inl (cZ, 9, .inl (fun j => bI (ur j)))), (aL, .inl (cZ, 576, .inl (fun j => bI (lr j)))), (aE, .inl (cI, 9, .inl Er)), (aQ, .inl (cI, 9, .inl (fun j => nI (br j))))] H := hP
                have hD : va_D AA [(aR, .inl (cI, 9, .inl (fun j => nI (rg j)))), (aB, .inl (cI, 6, .inl (fun j => nI (bd j)))), (aA, .inl (cZ, 81, .inl (fun j => bI (ab j)))), (aO, .inl (cZ, 81, .inl (fun j => bI (ob j)))), (h, .inr (3, [.int (nI g), .int (nI p), .ref aR, .ref aB, .ref aA, .ref aO, .int (nI dm), .ref aD, .ref aP, .int (nI 0), .int (nI rm2), .ref aS, .ref aW, .ref aU, .ref aL, .ref aE, .ref aQ])), (aP, .inl (cI, 9, .inl S)), (aS, .inl (cI, 5184, .inl (fun j => nI (rs2 j)))), (aW, .inl (cI, 9, .inl (fun j => nI (wr j)))), (aU, .inl (cZ, 9, .inl (fun j => bI (ur j)))), (aL, .inl (cZ, 576, .inl (fun j => bI (lr j)))), (aE, .inl (cI, 9, .inl Er)), (aQ, .inl (cI, 9, .inl (fun j => nI (br j))))] := hD
                refine lv_iload hXX hBB dX3_pairings_72 (lv_at hl 1 rfl) ?_
                refine lv_aload_n hXX hBB dX3_pairings_74 rfl (lv_at hl 3 rfl) ?_
                refine va_get (D := D) (ci := 3) (v := .ref aE) (C := RX3) (T := TX3) (N := 17) hXX hBB hts iw_X3 hown hK hP 4 rfl rfl 15 (by decide) kw_3 (fun _ h9 => h9) rfl dX3_pairings_75 ?_
                refine lv_iload_n hXX hBB dX3_pairings_78 rfl (lv_at hl 4 rfl) ?_
                refine m_iald hXX hBB hK hP 10 0 rfl rfl (i := t) (by omega) (by decide) (x := Er t) rfl dX3_pairings_79 ?_
                refine lv_aload_n hXX hBB dX3_pairings_80 rfl (lv_at hl 3 rfl) ?_
                refine va_get (D := D) (ci := 3) (v := .ref aE) (C := RX3) (T := TX3) (N := 17) hXX hBB hts iw_X3 hown hK hP 4 rfl rfl 15 (by decide) kw_3 (fun _ h9 => h9) rfl dX3_pairings_81 ?_
                refine lv_iload_n hXX hBB dX3_pairings_84 rfl (lv_at hl 5 rfl) ?_
                refine m_iald hXX hBB hK hP 10 0 rfl rfl (i := k) (by omega) (by decide) (x := Er k) rfl dX3_pairings_85 ?_
                refine lv_icmp_ne (tgt := 93) hXX hBB dX3_pairings_86 (by decide) (fun c_86 => ?_) (fun c_86 => ?_)
                · have c_86 := c_86
                  refine lv_iconst (v := nI 0) hXX hBB dX3_pairings_93 (by decide) ?_
                  refine lv_iadd hXX hBB dX3_pairings_94 ?_
                  refine m_top (y := nI (acc + 0)) (nI_add _ _) ?_
                  refine lv_istore (lv' := [(4, .int (nI (acc + 0))), (5, .int (nI nn)), (3, .int (nI (if rm2 = 0 then 0 else ordN S g p))), (0, .ref h), (1, .int (nI t)), (2, .int (nI k))]) hXX hBB dX3_pairings_95 hl (by decide) rfl (fun ls hl => ?_)
                  refine lv_iinc (v := nI (nn + 1)) (lv' := [(5, .int (nI (nn + 1))), (4, .int (nI (acc + 0))), (3, .int (nI (if rm2 = 0 then 0 else ordN S g p))), (0, .ref h), (1, .int (nI t)), (2, .int (nI k))]) hXX hBB dX3_pairings_97 hl (k := 1) rfl (nI_1 _) (by decide) rfl (fun ls hl => ?_)
                  refine lv_goto (tgt := 60) hXX hBB dX3_pairings_100 (by decide) ?_
                  have hal : (if rm2 = 0 then 0 else ordN S g p) ≤ 576 := by split <;> omega
                  have hi_nn : (nn + 1) ≤ (if rm2 = 0 then 0 else ordN S g p) := by omega
                  have hi_ac : (acc + 0) = ct (fun zn => decide (finS g (lowC g p rg bd ab ob) (g * p - dm) dm S zn t = finS g (lowC g p rg bd ab ob) (g * p - dm) dm S zn k)) (nn + 1) := by first | (rw [ct_t (by simp [← e_f t (by omega), ← e_f k (by omega), c_86])]; omega) | (rw [ct_f (by simp [← e_f t (by omega), ← e_f k (by omega), c_86])]; omega)
                  have hi_W9 : ∀ z, wr z < 4 := by exact e_w
                  have hmm : (if rm2 = 0 then 0 else ordN S g p) - (nn + 1) < N_60 := by omega
                  exact ih_60 (nn + 1) (acc + 0) lr Er br wr ur hi_nn hi_ac hi_W9 hmm _ _ (hP.sub [9, 10, 11, 4, 0, 1, 2, 3, 5, 6, 7, 8] rfl) (hD.sub [9, 10, 11, 4, 0, 1, 2, 3, 5, 6, 7, 8] (by decide) rfl) hS ls (lv_sub hl [0, 1, 2, 3, 4, 5] rfl)
                · have c_86 := c_86
                  refine lv_iconst (v := nI 1) hXX hBB dX3_pairings_89 (by decide) ?_
                  refine lv_goto (tgt := 94) hXX hBB dX3_pairings_90 (by decide) ?_
                  refine lv_iadd hXX hBB dX3_pairings_94 ?_
                  refine m_top (y := nI (acc + 1)) (nI_add _ _) ?_
                  refine lv_istore (lv' := [(4, .int (nI (acc + 1))), (5, .int (nI nn)), (3, .int (nI (if rm2 = 0 then 0 else ordN S g p))), (0, .ref h), (1, .int (nI t)), (2, .int (nI k))]) hXX hBB dX3_pairings_95 hl (by decide) rfl (fun ls hl => ?_)
                  refine lv_iinc (v := nI (nn + 1)) (lv' := [(5, .int (nI (nn + 1))), (4, .int (nI (acc + 1))), (3, .int (nI (if rm2 = 0 then 0 else ordN S g p))), (0, .ref h), (1, .int (nI t)), (2, .int (nI k))]) hXX hBB dX3_pairings_97 hl (k := 1) rfl (nI_1 _) (by decide) rfl (fun ls hl => ?_)
                  refine lv_goto (tgt := 60) hXX hBB dX3_pairings_100 (by decide) ?_
                  have hal : (if rm2 = 0 then 0 else ordN S g p) ≤ 576 := by split <;> omega
                  have hi_nn : (nn + 1) ≤ (if rm2 = 0 then 0 else ordN S g p) := by omega
                  have hi_ac : (acc + 1) = ct (fun zn => decide (finS g (lowC g p rg bd ab ob) (g * p - dm) dm S zn t = finS g (lowC g p rg bd ab ob) (g * p - dm) dm S zn k)) (nn + 1) := by first | (rw [ct_t (by simp [← e_f t (by omega), ← e_f k (by omega), c_86])]; omega) | (rw [ct_f (by simp [← e_f t (by omega), ← e_f k (by omega), c_86])]; omega)
                  have hi_W9 : ∀ z, wr z < 4 := by exact e_w
                  have hmm : (if rm2 = 0 then 0 else ordN S g p) - (nn + 1) < N_60 := by omega
                  exact ih_60 (nn + 1) (acc + 1) lr Er br wr ur hi_nn hi_ac hi_W9 hmm _ _ (hP.sub [9, 10, 11, 4, 0, 1, 2, 3, 5, 6, 7, 8] rfl) (hD.sub [9, 10, 11, 4, 0, 1, 2, 3, 5, 6, 7, 8] (by decide) rfl) hS ls (lv_sub hl [0, 1, 2, 3, 4, 5] rfl)
          have hi_nn : 0 ≤ (if rm2 = 0 then 0 else ordN S g p) := by omega
          have hi_ac : 0 = ct (fun zn => decide (finS g (lowC g p rg bd ab ob) (g * p - dm) dm S zn t = finS g (lowC g p rg bd ab ob) (g * p - dm) dm S zn k)) 0 := by rfl
          have hi_W9 : ∀ z, rw2 z < 4 := by exact e_3
          exact L_60 _ 0 0 lf E bq rw2 us2 hi_nn hi_ac hi_W9 (Nat.lt_succ_self _) _ _ hP hD hS ls (lv_sub hl [0, 1, 2, 3, 4, 5] rfl)
        refine lv_aload_n hXX hBB dX3_pairings_38 rfl (lv_at hl 0 rfl) ?_
        refine va_get (D := D) (ci := 3) (v := .int (nI rm2)) (C := RX3) (T := TX3) (N := 17) hXX hBB hts iw_X3 hown hK hP 3 rfl rfl 10 (by decide) kw_2 (fun _ h9 => h9) rfl dX3_pairings_39 ?_
        refine lv_if_ne (tgt := 49) hXX hBB dX3_pairings_42 (by decide) (fun c_42 => ?_) (fun c_42 => ?_)
        · have c_42 : ¬ rm2 = 0 := fun h9 => c_42 ((m_z (by omega)).mpr h9)
          refine lv_aload_n hXX hBB dX3_pairings_49 rfl (lv_at hl 0 rfl) ?_
          refine m_calli (wr := [(aL, .inl (cZ, 576, .inl (fun j => bI (lf j)))), (aE, .inl (cI, 9, .inl E)), (aQ, .inl (cI, 9, .inl (fun j => nI (bq j)))), (aR, .inl (cI, 9, .inl (fun j => nI (rg j)))), (aB, .inl (cI, 6, .inl (fun j => nI (bd j)))), (aA, .inl (cZ, 81, .inl (fun j => bI (ab j)))), (aO, .inl (cZ, 81, .inl (fun j => bI (ob j)))), (aS, .inl (cI, 5184, .inl (fun j => nI (rs2 j)))), (aW, .inl (cI, 9, .inl (fun j => nI (rw2 j)))), (aU, .inl (cZ, 9, .inl (fun j => bI (us2 j))))]) ⟨hXX, hBB, hml, hown, hts⟩ hN (kX3_orderMany l D cI h g p aR aB aA aO dm aD aP 0 rm2 aS aW aU aL aE aQ S (by omega) (by omega) (by omega)) (cwV 0 hts gX3_pairings_X3_orderMany rfl rfl rfl (by decide +kernel) ⟨Nat.le_of_ble_eq_true rfl, Nat.le_of_ble_eq_true rfl⟩) hK hP hD hS hAA [3, 8] [0, 1, 2, 4, 5, 6, 7, 9, 10, 11] [0] rfl rfl rfl (by decide) (by decide) (by decide) rfl 3 rfl rfl rfl rfl hl.1 rfl (Nat.le_of_ble_eq_true rfl) dX3_pairings_50 ⟨Nat.le_of_ble_eq_true rfl, Nat.le_of_ble_eq_true rfl⟩ (k := 0) (n := 0) rfl rfl (fun r_3 u_ H locs hw hP hD hS => ?_)
          have hw : (r_3 = nI (ordN S g p)) := hw
          have hr_r_3 := hw
          have hP : va_P D vwCl [(aL, .inl (cZ, 576, .inl (fun j => bI (lf j)))), (aE, .inl (cI, 9, .inl E)), (aQ, .inl (cI, 9, .inl (fun j => nI (bq j)))), (aR, .inl (cI, 9, .inl (fun j => nI (rg j)))), (aB, .inl (cI, 6, .inl (fun j => nI (bd j)))), (aA, .inl (cZ, 81, .inl (fun j => bI (ab j)))), (aO, .inl (cZ, 81, .inl (fun j => bI (ob j)))), (aS, .inl (cI, 5184, .inl (fun j => nI (rs2 j)))), (aW, .inl (cI, 9, .inl (fun j => nI (rw2 j)))), (aU, .inl (cZ, 9, .inl (fun j => bI (us2 j)))), (h, .inr (3, [.int (nI g), .int (nI p), .ref aR, .ref aB, .ref aA, .ref aO, .int (nI dm), .ref aD, .ref aP, .int (nI 0), .int (nI rm2), .ref aS, .ref aW, .ref aU, .ref aL, .ref aE, .ref aQ])), (aP, .inl (cI, 9, .inl S))] H := hP
          have hD : va_D AA [(aL, .inl (cZ, 576, .inl (fun j => bI (lf j)))), (aE, .inl (cI, 9, .inl E)), (aQ, .inl (cI, 9, .inl (fun j => nI (bq j)))), (aR, .inl (cI, 9, .inl (fun j => nI (rg j)))), (aB, .inl (cI, 6, .inl (fun j => nI (bd j)))), (aA, .inl (cZ, 81, .inl (fun j => bI (ab j)))), (aO, .inl (cZ, 81, .inl (fun j => bI (ob j)))), (aS, .inl (cI, 5184, .inl (fun j => nI (rs2 j)))), (aW, .inl (cI, 9, .inl (fun j => nI (rw2 j)))), (aU, .inl (cZ, 9, .inl (fun j => bI (us2 j)))), (h, .inr (3, [.int (nI g), .int (nI p), .ref aR, .ref aB, .ref aA, .ref aO, .int (nI dm), .ref aD, .ref aP, .int (nI 0), .int (nI rm2), .ref aS, .ref aW, .ref aU, .ref aL, .ref aE, .ref aQ])), (aP, .inl (cI, 9, .inl S))] := hD
          subst hr_r_3
          refine m_top (y := nI (if rm2 = 0 then 0 else ordN S g p)) (by first | (rw [if_pos c_42]; done) | (rw [if_neg c_42]; done)) ?_
          exact J_53 _ _ (hP.sub [0, 1, 2, 10, 3, 4, 5, 6, 11, 7, 8, 9] rfl) (hD.sub [0, 1, 2, 10, 3, 4, 5, 6, 11, 7, 8, 9] (by decide) rfl) hS ls (lv_sub hl [0, 1, 2] rfl)
        · have c_42 : rm2 = 0 := (m_z (by omega)).mp c_42
          refine lv_iconst (v := nI 0) hXX hBB dX3_pairings_45 (by decide) ?_
          refine lv_goto (tgt := 53) hXX hBB dX3_pairings_46 (by decide) ?_
          refine m_top (y := nI (if rm2 = 0 then 0 else ordN S g p)) (by first | (rw [if_pos c_42]; done) | (rw [if_neg c_42]; done)) ?_
          exact J_53 _ _ (hP.sub [0, 1, 2, 3, 4, 5, 6, 7, 8, 9, 10, 11] rfl) (hD.sub [0, 1, 2, 3, 4, 5, 6, 7, 8, 9, 10, 11] (by decide) rfl) hS ls (lv_sub hl [0, 1, 2] rfl)
      · exact absurd (by decide) c_29
