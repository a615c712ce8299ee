def tSR (x y : Int32) (T dm : Nat) : Nat := if inB x (nI 0) (nI (T - 1)) && inB y (nI 0) (nI 5) then (if 0 < dm then 2 else 0) else 1
def srPost (x y : Int32) (T dm th2 : Nat) (rg2 rg : Nat → Nat) (r : Int32) : Prop :=
  th2 = tSR x y T dm ∧ (th2 = 0 → ∃ t v, t < T ∧ v ≤ 5 ∧ x = nI t ∧ y = nI v ∧ r = nI (rg t) ∧ rg2 = updN rg t v) ∧ (th2 ≠ 0 → rg2 = rg)
theorem srPost_1 {x y : Int32} {T dm : Nat} {rg : Nat → Nat} {r : Int32} (h : inB x (nI 0) (nI (T - 1)) = false ∨ inB y (nI 0) (nI 5) = false) : srPost x y T dm 1 rg rg r :=
  ⟨by rcases h with h | h <;> simp [tSR, h], fun q => absurd q (by decide), fun _ => rfl⟩
theorem srPost_2 {x y : Int32} {T dm : Nat} {rg : Nat → Nat} {r : Int32} (h1 : inB x (nI 0) (nI (T - 1)) = true) (h2 : inB y (nI 0) (nI 5) = true) (h3 : 0 < dm) : srPost x y T dm 2 rg rg r :=
  ⟨by simp [tSR, h1, h2, h3], fun q => absurd q (by decide), fun _ => rfl⟩
theorem srPost_0 {x y : Int32} {T dm t v : Nat} {rg : Nat → Nat} (h1 : inB x (nI 0) (nI (T - 1)) = true) (h2 : inB y (nI 0) (nI 5) = true) (h3 : dm = 0) (ht : t ≤ T - 1) (hT : 0 < T) (hv : v ≤ 5) (hx : x = nI t) (hy : y = nI v) : srPost x y T dm 0 (updN rg t v) rg (nI (rg t)) :=
  ⟨by simp [tSR, h1, h2, h3], fun _ => ⟨t, v, by omega, hv, hx, hy, rfl, rfl⟩, fun q => absurd rfl q⟩
def tSB (x y : Int32) (dm : Nat) : Nat := if inB x (nI 0) (nI 5) then (if inB y (nI 1) (nI 3) then (if 0 < dm then 3 else 0) else 2) else 1
def sbPost (x y : Int32) (dm th2 : Nat) (bd2 bd : Nat → Nat) (r : Int32) : Prop :=
  th2 = tSB x y dm ∧ (th2 = 0 → ∃ t v, t ≤ 5 ∧ 1 ≤ v ∧ v ≤ 3 ∧ x = nI t ∧ y = nI v ∧ r = nI (bd t) ∧ bd2 = updN bd t v) ∧ (th2 ≠ 0 → bd2 = bd)
theorem sbPost_n {x y : Int32} {dm k : Nat} {bd : Nat → Nat} {r : Int32} (h : k = tSB x y dm) (h0 : k ≠ 0) : sbPost x y dm k bd bd r := ⟨h, fun q => absurd q h0, fun _ => rfl⟩
theorem sbPost_0 {x y : Int32} {dm t v : Nat} {bd : Nat → Nat} (h1 : inB x (nI 0) (nI 5) = true) (h2 : inB y (nI 1) (nI 3) = true) (h3 : dm = 0) (ht : t ≤ 5) (hv1 : 1 ≤ v) (hv : v ≤ 3) (hx : x = nI t) (hy : y = nI v) : sbPost x y dm 0 (updN bd t v) bd (nI (bd t)) :=
  ⟨by simp [tSB, h1, h2, h3], fun _ => ⟨t, v, ht, hv1, hv, hx, hy, rfl, rfl⟩, fun q => absurd rfl q⟩
def tCP (x y : Int32) (T dm : Nat) : Nat := if inB x (nI 0) (nI (T - 1)) && inB y (nI 0) (nI (T - 1)) then (if x = y then 2 else if 0 < dm then 3 else 0) else 1
def cpPost (x y : Int32) (T dm th2 : Nat) (r : Int32) : Prop := th2 = tCP x y T dm ∧ r = bI (decide (th2 = 0))
def saPost (x y : Int32) (b : Bool) (T dm th2 : Nat) (ab2 ab : Nat → Bool) (r : Int32) : Prop :=
  th2 = tCP x y T dm ∧ (th2 = 0 → ∃ t o, t < T ∧ o < T ∧ t ≠ o ∧ dm = 0 ∧ x = nI t ∧ y = nI o ∧ r = bI (ab (9 * t + o)) ∧ ab2 = updB (updB ab (9 * t + o) b) (9 * o + t) b) ∧ (th2 ≠ 0 → ab2 = ab)
theorem tCP_ok {x y : Int32} {T dm : Nat} (hT : 0 < T) (hT9 : T ≤ 9) (h : tCP x y T dm = 0) : ∃ t o, t ≤ T - 1 ∧ o ≤ T - 1 ∧ t ≠ o ∧ dm = 0 ∧ x = nI t ∧ y = nI o := by
  unfold tCP at h
  by_cases h1 : (inB x (nI 0) (nI (T - 1)) && inB y (nI 0) (nI (T - 1))) = true
  · rw [if_pos h1] at h
    rw [Bool.and_eq_true] at h1
    obtain ⟨t, -, ht, hx⟩ := inB_nat (by omega) h1.1
    obtain ⟨o, -, ho, hy⟩ := inB_nat (by omega) h1.2
    by_cases h2 : x = y
    · rw [if_pos h2] at h; cases h
    · rw [if_neg h2] at h
      by_cases h3 : 0 < dm
      · rw [if_pos h3] at h; cases h
      · exact ⟨t, o, ht, ho, fun q => h2 (by rw [hx, hy, q]), by omega, hx, hy⟩
  · rw [if_neg h1] at h; cases h
def poR (dm g p : Nat) : Int32 := if dm = g * p then -1 else nI (dm / g)
def leN (dm g p : Nat) : Nat := if dm = g * p then 0 else g - dm % g
theorem poR_1 {dm g p : Nat} (h : dm = g * p) : -1 = poR dm g p := by simp [poR, h]
theorem poR_2 {dm g p : Nat} (h : ¬ dm = g * p) : nI (dm / g) = poR dm g p := by simp [poR, h]
theorem leN_1 {dm g p : Nat} (h : dm = g * p) : nI 0 = nI (leN dm g p) := by simp [leN, h]
theorem leN_2 {dm g p : Nat} (h : ¬ dm = g * p) : nI (g - dm % g) = nI (leN dm g p) := by simp [leN, h]
theorem leN_le (dm g p : Nat) : leN dm g p ≤ g := by
  unfold leN
  by_cases h : dm = g * p
  · rw [if_pos h]; omega
  · rw [if_neg h]; omega
theorem leN_pos {dm g p : Nat} (h : 0 < leN dm g p) : ¬ dm = g * p := fun q => by simp [leN, q] at h
/-- the k-th place from t on with S = -1 -/
def nth (S : Nat → Int32) : Nat → Nat → Nat → Int32
  | 0, _, _ => -1
  | f + 1, t, l => if S t = -1 then (if l = 0 then nI t else nth S f (t + 1) (l - 1)) else nth S f (t + 1) l
def fndR (S : Nat → Int32) (v : Int32) : Nat → Nat → Int32
  | 0, _ => -1
  | f + 1, t => if S t = v then nI t else fndR S v f (t + 1)
def lowR (c : Nat → Nat) : Nat → Nat → Int32
  | 0, _ => -1
  | f + 1, q => if 0 < c q then nI q else lowR c f (q + 1)
/-- 'in(k, 0, L - 1)' of a number L that may be 0 -/
theorem inB_L {x : Int32} {n : Nat} (hn : n < 2 ^ 30) (h : inB x (nI 0) (nI n - nI 1) = true) : ∃ k, k < n ∧ x = nI k := by
  simp only [inB, Bool.and_eq_true, decide_eq_true_eq] at h
  obtain ⟨h1, h2⟩ := h
  rw [Int32.le_iff_toInt_le, nI_toInt (by omega)] at h1
  rw [Int32.le_iff_toInt_le, pk_sub_toInt hn (by omega)] at h2
  refine ⟨x.toInt.toNat, by omega, ?_⟩
  apply Int32.toInt_inj.mp
  rw [nI_toInt (by omega)]
  omega
theorem inB_Lt {x : Int32} {n : Nat} (hn : n < 2 ^ 30) : inB x (nI 0) (nI n - nI 1) = (decide (nI 0 ≤ x) && decide (x < nI n)) := by
  unfold inB
  congr 1
  apply decide_eq_decide.mpr
  rw [Int32.le_iff_toInt_le, Int32.lt_iff_toInt_lt, pk_sub_toInt hn (by omega), nI_toInt (by omega)]
  omega
def udPost (dm th2 dm2 : Nat) (S2 S : Nat → Int32) (dt : Nat → Nat) (r : Int32) : Prop :=
  (dm = 0 → th2 = 1 ∧ dm2 = 0 ∧ S2 = S) ∧ (dm ≠ 0 → th2 = 0 ∧ dm2 = dm - 1 ∧ S2 = upd S (dt (dm - 1)) (-1) ∧ r = nI (dt (dm - 1)))
def baPost (x : Int32) (L th2 : Nat) (r : Int32) (S : Nat → Int32) (g dm : Nat) : Prop :=
  th2 = (if inB x (nI 0) (nI L - nI 1) then 0 else 1) ∧ (th2 = 0 → ∃ k, k < L ∧ x = nI k ∧ r = nth S g (g * (dm / g)) k)
def goPost (x : Int32) (T th2 : Nat) (r : Int32) (S : Nat → Int32) : Prop :=
  th2 = (if inB x (nI 0) (nI (T - 1)) then 0 else 1) ∧ (th2 = 0 → ∃ t, t < T ∧ x = nI t ∧ r = S t)
def taPost (x y : Int32) (g p th2 : Nat) (r : Int32) (S : Nat → Int32) : Prop :=
  th2 = (if inB x (nI 0) (nI (g - 1)) && inB y (nI 0) (nI (p - 1)) then 0 else 1) ∧ (th2 = 0 → ∃ k q, k < g ∧ q < p ∧ x = nI k ∧ y = nI q ∧ r = fndR S x g (g * q))
def plPost (x y : Int32) (T g th2 : Nat) (r : Int32) : Prop := th2 = (if inB x (nI 0) (nI (T - 1)) && inB y (nI 0) (nI (g - 1)) then 0 else 1) ∧ r = bI (decide (th2 = 0))
def ordN (S : Nat → Int32) (g : Nat) : Nat → Nat
  | 0 => 1
  | p + 1 => ordN S g p * fac (ct (fun z => decide (S (g * p + z) = -1)) g)
theorem rem2 {a : Nat} (h : a < 2 ^ 31) : nI a - nI a / nI 2 * nI 2 = nI (a % 2) := pk_rem h (by decide) (by decide)
theorem potb {dm g p : Nat} (hg : 0 < g) (hd : dm ≤ g * p) (h : ¬ dm = g * p) (hT : g * p ≤ 9) : g * (dm / g + 1) ≤ 9 := by
  have h1 : dm / g < p := (Nat.div_lt_iff_lt_mul hg).mpr (by rw [Nat.mul_comm]; omega)
  exact Nat.le_trans (Nat.mul_le_mul_left g h1) hT
abbrev rmX3_setRegion : Room := { frames := 2, cells := 0, slots := 0, locals := 43 }
set_option maxHeartbeats 4000000 in
set_option maxRecDepth 100000 in
theorem kX3_setRegion (l : Launch) (D : va_G) (cI : ClassId) (h : Nat) (g : Nat) (p : Nat) (aR : Nat) (aB : Nat) (aA : Nat) (aO : Nat) (dm : Nat) (aD : Nat) (aP : Nat) (th : Nat) (rm : Nat) (aS : Nat) (aW : Nat) (aU : Nat) (aL : Nat) (aE : Nat) (aQ : Nat) (rg : Nat → Nat) (x : Int32) (y : Int32) (h1 : 0 < g * p) (hT : g * p ≤ 9) (hdm : dm ≤ 9) : Ci l yX3_setRegion wsX3_setRegion rmX3_setRegion D [(cI, .int)] [.ref h, .int x, .int y] [(h, .inr (3, [.int (nI g), .int (nI p), .ref aR, .ref aB, .ref aA, .ref aO, .int (nI dm), .ref aD, .ref aP, .int (nI th), .int (nI rm), .ref aS, .ref aW, .ref aU, .ref aL, .ref aE, .ref aQ])), (aR, .inl (cI, 9, .inl (fun j => nI (rg j))))] (fun (r : Int32) (u : Nat × (Nat → Nat)) => (srPost x y (g * p) dm u.1 u.2 rg r)) (fun (u : Nat × (Nat → Nat)) => [(h, .inr (3, [.int (nI g), .int (nI p), .ref aR, .ref aB, .ref aA, .ref aO, .int (nI dm), .ref aD, .ref aP, .int (nI u.1), .int (nI rm), .ref aS, .ref aW, .ref aU, .ref aL, .ref aE, .ref aQ])), (aR, .inl (cI, 9, .inl (fun j => nI (u.2 j))))]) := by
  refine Ci_of (cc := cX3_setRegion) (maxL := 4) (by decide) rfl (Nat.le_of_ble_eq_true rfl) ?_
  intro pR eV sT mI args below meth cO AA QQ ls hXX hBB hml hown hts hnm hN hK hP hD hS hAA hl hret
  have hl : lv_has ls 4 [(0, .ref h), (1, .int x), (2, .int y)] := hl
  have kw_2 := hts (.fieldLink RX3 51 "CupDrawModel" "thrown" "I") (List.mem_of_getElem? (i := 2) rfl)
  have iw_X3 : ∀ w ∈ wsX30, w ∈ wsX3_setRegion := by decide +kernel
  have kw_1 := hts (.fieldLink RX3 61 "CupDrawModel" "drawnMany" "I") (List.mem_of_getElem? (i := 1) rfl)
  have kw_3 := hts (.fieldLink RX3 7 "CupDrawModel" "regions" "[I") (List.mem_of_getElem? (i := 3) rfl)
  refine lv_aload_n hXX hBB dX3_setRegion_0 rfl (lv_at hl 0 rfl) ?_
  refine lv_aload_n hXX hBB dX3_setRegion_1 rfl (lv_at hl 0 rfl) ?_
  refine lv_iload_n hXX hBB dX3_setRegion_2 rfl (lv_at hl 1 rfl) ?_
  refine m_calli (wr := [(aR, .inl (cI, 9, .inl (fun j => nI (rg j))))]) ⟨hXX, hBB, hml, hown, hts⟩ hN (kX3_isTeam l D h g p aR aB aA aO dm aD aP th rm aS aW aU aL aE aQ x (by omega)) (cwV 1 hts gX3_setRegion_X3_isTeam rfl rfl rfl (by decide +kernel) ⟨Nat.le_of_ble_eq_true rfl, Nat.le_of_ble_eq_true rfl⟩) hK hP hD hS hAA [0] [1] [] rfl rfl rfl (by decide) (by decide) (by decide) rfl 3 rfl rfl rfl rfl hl.1 rfl (Nat.le_of_ble_eq_true rfl) dX3_setRegion_3 ⟨Nat.le_of_ble_eq_true rfl, Nat.le_of_ble_eq_true rfl⟩ (k := 0) (n := 0) rfl rfl (fun r_1 u_ H locs hw hP hD hS => ?_)
  have hw : (r_1 = bI (inB x (nI 0) (nI (g * p - 1)))) := hw
  have hr_r_1 := hw
  have hP : va_P D vwCl [(aR, .inl (cI, 9, .inl (fun j => nI (rg j)))), (h, .inr (3, [.int (nI g), .int (nI p), .ref aR, .ref aB, .ref aA, .ref aO, .int (nI dm), .ref aD, .ref aP, .int (nI th), .int (nI rm), .ref aS, .ref aW, .ref aU, .ref aL, .ref aE, .ref aQ]))] H := hP
  have hD : va_D AA [(aR, .inl (cI, 9, .inl (fun j => nI (rg j)))), (h, .inr (3, [.int (nI g), .int (nI p), .ref aR, .ref aB, .ref aA, .ref aO, .int (nI dm), .ref aD, .ref aP, .int (nI th), .int (nI rm), .ref aS, .ref aW, .ref aU, .ref aL, .ref aE, .ref aQ]))] := hD
  subst hr_r_1
  refine lv_if_eq (tgt := 18) hXX hBB dX3_setRegion_6 (by decide) (fun c_6 => ?_) (fun c_6 => ?_)
  · have c_6 : (inB x (nI 0) (nI (g * p - 1))) = false := m_bz0 c_6
    refine lv_iconst (v := nI 1) hXX hBB dX3_setRegion_18 (by decide) ?_
    refine lv_goto (tgt := 34) hXX hBB dX3_setRegion_19 (by decide) ?_
    refine va_put (D := D) (ci := 3) (v := .int (nI 1)) (ty := .int) (C := RX3) (T := TX3) (N := 17) hXX hBB hts iw_X3 tyX3 tyX3_ok nmX3 hown hK hP hD hS 1 rfl rfl 9 (by decide) kw_2 (fun _ h9 => h9) rfl (by decide +kernel) (rfl) (rfl) (Nat.le_of_ble_eq_true rfl) dX3_setRegion_34 (fun H locs hP hD hS => ?_)
    have hP : va_P D vwCl [(aR, .inl (cI, 9, .inl (fun j => nI (rg j)))), (h, .inr (3, [.int (nI g), .int (nI p), .ref aR, .ref aB, .ref aA, .ref aO, .int (nI dm), .ref aD, .ref aP, .int (nI 1), .int (nI rm), .ref aS, .ref aW, .ref aU, .ref aL, .ref aE, .ref aQ]))] H := hP
    have hD : va_D AA [(aR, .inl (cI, 9, .inl (fun j => nI (rg j)))), (h, .inr (3, [.int (nI g), .int (nI p), .ref aR, .ref aB, .ref aA, .ref aO, .int (nI dm), .ref aD, .ref aP, .int (nI 1), .int (nI rm), .ref aS, .ref aW, .ref aU, .ref aL, .ref aE, .ref aQ]))] := hD
    refine lv_aload_n hXX hBB dX3_setRegion_37 rfl (lv_at hl 0 rfl) ?_
    refine va_get (D := D) (ci := 3) (v := .int (nI 1)) (C := RX3) (T := TX3) (N := 17) hXX hBB hts iw_X3 hown hK hP 1 rfl rfl 9 (by decide) kw_2 (fun _ h9 => h9) rfl dX3_setRegion_38 ?_
    refine lv_if_le (tgt := 46) hXX hBB dX3_setRegion_41 (by decide) (fun c_41 => ?_) (fun c_41 => ?_)
    · exact absurd c_41 (by decide)
    · have c_41 : 0 < 1 := m_pos_le_f (by omega) c_41
      refine lv_iconst (v := nI 0) hXX hBB dX3_setRegion_44 (by decide) ?_
      refine hret (r := nI 0) (1, rg) ?_ (rfl) (hP.sub [1, 0] rfl) (hD.sub [1, 0] (by decide) rfl) hS (Nat.le_of_ble_eq_true rfl) (Nat.le_of_ble_eq_true rfl) dX3_setRegion_45
      show (srPost x y (g * p) dm 1 rg rg (nI 0))
      first | exact srPost_1 (Or.inl c_6) | exact srPost_1 (Or.inr c_15) | exact srPost_2 c_6 c_15 c_26
  · have c_6 : (inB x (nI 0) (nI (g * p - 1))) = true := m_bz1 c_6
    refine lv_iload_n hXX hBB dX3_setRegion_9 rfl (lv_at hl 2 rfl) ?_
    refine lv_iconst (v := nI 0) hXX hBB dX3_setRegion_10 (by decide) ?_
    refine lv_iconst (v := nI 5) hXX hBB dX3_setRegion_11 (by decide) ?_
    refine m_scalli (wr := [(aR, .inl (cI, 9, .inl (fun j => nI (rg j)))), (h, .inr (3, [.int (nI g), .int (nI p), .ref aR, .ref aB, .ref aA, .ref aO, .int (nI dm), .ref aD, .ref aP, .int (nI th), .int (nI rm), .ref aS, .ref aW, .ref aU, .ref aL, .ref aE, .ref aQ]))]) ⟨hXX, hBB, hml, hown, hts⟩ hN (kX3_in l D y (nI 0) (nI 5)) (va_cwS 3 hts gX3_setRegion_X3_in rfl rfl rfl (by decide +kernel) ⟨Nat.le_of_ble_eq_true rfl, Nat.le_of_ble_eq_true rfl⟩) hK hP hD hS hAA [] [0, 1] [] rfl rfl rfl (by decide) (by decide) (by decide) rfl hl.1 rfl (Nat.le_of_ble_eq_true rfl) dX3_setRegion_12 ⟨Nat.le_of_ble_eq_true rfl, Nat.le_of_ble_eq_true rfl⟩ (k := 0) (n := 0) rfl rfl (fun r_2 u_ H locs hw hP hD hS => ?_)
    have hw : (r_2 = bI (inB y (nI 0) (nI 5))) := hw
    have hr_r_2 := hw
    have hP : va_P D vwCl [(aR, .inl (cI, 9, .inl (fun j => nI (rg j)))), (h, .inr (3, [.int (nI g), .int (nI p), .ref aR, .ref aB, .ref aA, .ref aO, .int (nI dm), .ref aD, .ref aP, .int (nI th), .int (nI rm), .ref aS, .ref aW, .ref aU, .ref aL, .ref aE, .ref aQ]))] H := hP
    have hD : va_D AA [(aR, .inl (cI, 9, .inl (fun j => nI (rg j)))), (h, .inr (3, [.int (nI g), .int (nI p), .ref aR, .ref aB, .ref aA, .ref aO, .int (nI dm), .ref aD, .ref aP, .int (nI th), .int (nI rm), .ref aS, .ref aW, .ref aU, .ref aL, .ref aE, .ref aQ]))] := hD
    subst hr_r_2
    refine lv_if_ne (tgt := 22) hXX hBB dX3_setRegion_15 (by decide) (fun c_15 => ?_) (fun c_15 => ?_)
    · have c_15 : (inB y (nI 0) (nI 5)) = true := m_bz1 c_15
      refine lv_aload_n hXX hBB dX3_setRegion_22 rfl (lv_at hl 0 rfl) ?_
      refine va_get (D := D) (ci := 3) (v := .int (nI dm)) (C := RX3) (T := TX3) (N := 17) hXX hBB hts iw_X3 hown hK hP 1 rfl rfl 6 (by decide) kw_1 (fun _ h9 => h9) rfl dX3_setRegion_23 ?_
      refine lv_if_le (tgt := 33) hXX hBB dX3_setRegion_26 (by decide) (fun c_26 => ?_) (fun c_26 => ?_)
      · have c_26 : dm = 0 := m_nps_le_t (by omega) c_26
        refine lv_iconst (v := nI 0) hXX hBB dX3_setRegion_33 (by decide) ?_
        refine va_put (D := D) (ci := 3) (v := .int (nI 0)) (ty := .int) (C := RX3) (T := TX3) (N := 17) hXX hBB hts iw_X3 tyX3 tyX3_ok nmX3 hown hK hP hD hS 1 rfl rfl 9 (by decide) kw_2 (fun _ h9 => h9) rfl (by decide +kernel) (rfl) (rfl) (Nat.le_of_ble_eq_true rfl) dX3_setRegion_34 (fun H locs hP hD hS => ?_)
        have hP : va_P D vwCl [(aR, .inl (cI, 9, .inl (fun j => nI (rg j)))), (h, .inr (3, [.int (nI g), .int (nI p), .ref aR, .ref aB, .ref aA, .ref aO, .int (nI dm), .ref aD, .ref aP, .int (nI 0), .int (nI rm), .ref aS, .ref aW, .ref aU, .ref aL, .ref aE, .ref aQ]))] H := hP
        have hD : va_D AA [(aR, .inl (cI, 9, .inl (fun j => nI (rg j)))), (h, .inr (3, [.int (nI g), .int (nI p), .ref aR, .ref aB, .ref aA, .ref aO, .int (nI dm), .ref aD, .ref aP, .int (nI 0), .int (nI rm), .ref aS, .ref aW, .ref aU, .ref aL, .ref aE, .ref aQ]))] := hD
        refine lv_aload_n hXX hBB dX3_setRegion_37 rfl (lv_at hl 0 rfl) ?_
        refine va_get (D := D) (ci := 3) (v := .int (nI 0)) (C := RX3) (T := TX3) (N := 17) hXX hBB hts iw_X3 hown hK hP 1 rfl rfl 9 (by decide) kw_2 (fun _ h9 => h9) rfl dX3_setRegion_38 ?_
        refine lv_if_le (tgt := 46) hXX hBB dX3_setRegion_41 (by decide) (fun c_41 => ?_) (fun c_41 => ?_)
        · have c_41 : 0 = 0 := m_nps_le_t (by omega) c_41
          obtain ⟨t, hlo_t, hhi_t, he_t⟩ := inB_nat (lo := 0) (hi := g * p - 1) (by omega) c_6
          obtain ⟨v, hlo_v, hhi_v, he_v⟩ := inB_nat (lo := 0) (hi := 5) (by omega) c_15
          have hl : lv_has ls 4 [(0, .ref h), (1, .int (nI t)), (2, .int (nI v))] := by rw [he_t, he_v] at hl; exact hl
          refine lv_aload_n hXX hBB dX3_setRegion_46 rfl (lv_at hl 0 rfl) ?_
          refine va_get (D := D) (ci := 3) (v := .ref aR) (C := RX3) (T := TX3) (N := 17) hXX hBB hts iw_X3 hown hK hP 1 rfl rfl 2 (by decide) kw_3 (fun _ h9 => h9) rfl dX3_setRegion_47 ?_
          refine lv_iload_n hXX hBB dX3_setRegion_50 rfl (lv_at hl 1 rfl) ?_
          refine m_iald hXX hBB hK hP 0 0 rfl rfl (i := t) (by omega) (by decide) (x := nI (rg t)) rfl dX3_setRegion_51 ?_
          refine lv_istore_n (lv' := [(3, .int (nI (rg t))), (0, .ref h), (1, .int (nI t)), (2, .int (nI v))]) hXX hBB dX3_setRegion_52 rfl hl (by decide) rfl (fun ls hl => ?_)
          refine lv_aload_n hXX hBB dX3_setRegion_53 rfl (lv_at hl 1 rfl) ?_
          refine va_get (D := D) (ci := 3) (v := .ref aR) (C := RX3) (T := TX3) (N := 17) hXX hBB hts iw_X3 hown hK hP 1 rfl rfl 2 (by decide) kw_3 (fun _ h9 => h9) rfl dX3_setRegion_54 ?_
          refine lv_iload_n hXX hBB dX3_setRegion_57 rfl (lv_at hl 2 rfl) ?_
          refine lv_iload_n hXX hBB dX3_setRegion_58 rfl (lv_at hl 3 rfl) ?_
          refine m_iast hXX hBB hK hP hD hS 0 0 rfl rfl (i := t) (by omega) (by decide) (g := fun j => nI (updN rg t v j)) (m_upd _ _ _) dX3_setRegion_59 (fun H locs hP hD hS => ?_)
          have hP : va_P D vwCl [(aR, .inl (cI, 9, .inl (fun j => nI (updN rg t v j)))), (h, .inr (3, [.int (nI g), .int (nI p), .ref aR, .ref aB, .ref aA, .ref aO, .int (nI dm), .ref aD, .ref aP, .int (nI 0), .int (nI rm), .ref aS, .ref aW, .ref aU, .ref aL, .ref aE, .ref aQ]))] H := hP
          have hD : va_D AA [(aR, .inl (cI, 9, .inl (fun j => nI (updN rg t v j)))), (h, .inr (3, [.int (nI g), .int (nI p), .ref aR, .ref aB, .ref aA, .ref aO, .int (nI dm), .ref aD, .ref aP, .int (nI 0), .int (nI rm), .ref aS, .ref aW, .ref aU, .ref aL, .ref aE, .ref aQ]))] := hD
          refine lv_iload_n hXX hBB dX3_setRegion_60 rfl (lv_at hl 0 rfl) ?_
          refine hret (r := nI (rg t)) (0, updN rg t v) ?_ (rfl) (hP.sub [1, 0] rfl) (hD.sub [1, 0] (by decide) rfl) hS (Nat.le_of_ble_eq_true rfl) (Nat.le_of_ble_eq_true rfl) dX3_setRegion_61
          show (srPost x y (g * p) dm 0 (updN rg t v) rg (nI (rg t)))
          exact srPost_0 c_6 c_15 c_26 hhi_t h1 hhi_v he_t he_v
        · exact absurd (by decide) c_41
      · have c_26 : 0 < dm := m_pos_le_f (by omega) c_26
        refine lv_iconst (v := nI 2) hXX hBB dX3_setRegion_29 (by decide) ?_
        refine lv_goto (tgt := 34) hXX hBB dX3_setRegion_30 (by decide) ?_
        refine va_put (D := D) (ci := 3) (v := .int (nI 2)) (ty := .int) (C := RX3) (T := TX3) (N := 17) hXX hBB hts iw_X3 tyX3 tyX3_ok nmX3 hown hK hP hD hS 1 rfl rfl 9 (by decide) kw_2 (fun _ h9 => h9) rfl (by decide +kernel) (rfl) (rfl) (Nat.le_of_ble_eq_true rfl) dX3_setRegion_34 (fun H locs hP hD hS => ?_)
        have hP : va_P D vwCl [(aR, .inl (cI, 9, .inl (fun j => nI (rg j)))), (h, .inr (3, [.int (nI g), .int (nI p), .ref aR, .ref aB, .ref aA, .ref aO, .int (nI dm), .ref aD, .ref aP, .int (nI 2), .int (nI rm), .ref aS, .ref aW, .ref aU, .ref aL, .ref aE, .ref aQ]))] H := hP
        have hD : va_D AA [(aR, .inl (cI, 9, .inl (fun j => nI (rg j)))), (h, .inr (3, [.int (nI g), .int (nI p), .ref aR, .ref aB, .ref aA, .ref aO, .int (nI dm), .ref aD, .ref aP, .int (nI 2), .int (nI rm), .ref aS, .ref aW, .ref aU, .ref aL, .ref aE, .ref aQ]))] := hD
        refine lv_aload_n hXX hBB dX3_setRegion_37 rfl (lv_at hl 0 rfl) ?_
        refine va_get (D := D) (ci := 3) (v := .int (nI 2)) (C := RX3) (T := TX3) (N := 17) hXX hBB hts iw_X3 hown hK hP 1 rfl rfl 9 (by decide) kw_2 (fun _ h9 => h9) rfl dX3_setRegion_38 ?_
        refine lv_if_le (tgt := 46) hXX hBB dX3_setRegion_41 (by decide) (fun c_41 => ?_) (fun c_41 => ?_)
        · exact absurd c_41 (by decide)
        · have c_41 : 0 < 2 := m_pos_le_f (by omega) c_41
          refine lv_iconst (v := nI 0) hXX hBB dX3_setRegion_44 (by decide) ?_
          refine hret (r := nI 0) (2, rg) ?_ (rfl) (hP.sub [1, 0] rfl) (hD.sub [1, 0] (by decide) rfl) hS (Nat.le_of_ble_eq_true rfl) (Nat.le_of_ble_eq_true rfl) dX3_setRegion_45
          show (srPost x y (g * p) dm 2 rg rg (nI 0))
          first | exact srPost_1 (Or.inl c_6) | exact srPost_1 (Or.inr c_15) | exact srPost_2 c_6 c_15 c_26
    · have c_15 : (inB y (nI 0) (nI 5)) = false := m_bz0 c_15
      refine lv_iconst (v := nI 1) hXX hBB dX3_setRegion_18 (by decide) ?_
      refine lv_goto (tgt := 34) hXX hBB dX3_setRegion_19 (by decide) ?_
      refine va_put (D := D) (ci := 3) (v := .int (nI 1)) (ty := .int) (C := RX3) (T := TX3) (N := 17) hXX hBB hts iw_X3 tyX3 tyX3_ok nmX3 hown hK hP hD hS 1 rfl rfl 9 (by decide) kw_2 (fun _ h9 => h9) rfl (by decide +kernel) (rfl) (rfl) (Nat.le_of_ble_eq_true rfl) dX3_setRegion_34 (fun H locs hP hD hS => ?_)
      have hP : va_P D vwCl [(aR, .inl (cI, 9, .inl (fun j => nI (rg j)))), (h, .inr (3, [.int (nI g), .int (nI p), .ref aR, .ref aB, .ref aA, .ref aO, .int (nI dm), .ref aD, .ref aP, .int (nI 1), .int (nI rm), .ref aS, .ref aW, .ref aU, .ref aL, .ref aE, .ref aQ]))] H := hP
      have hD : va_D AA [(aR, .inl (cI, 9, .inl (fun j => nI (rg j)))), (h, .inr (3, [.int (nI g), .int (nI p), .ref aR, .ref aB, .ref aA, .ref aO, .int (nI dm), .ref aD, .ref aP, .int (nI 1), .int (nI rm), .ref aS, .ref aW, .ref aU, .ref aL, .ref aE, .ref aQ]))] := hD
      refine lv_aload_n hXX hBB dX3_setRegion_37 rfl (lv_at hl 0 rfl) ?_
      refine va_get (D := D) (ci := 3) (v := .int (nI 1)) (C := RX3) (T := TX3) (N := 17) hXX hBB hts iw_X3 hown hK hP 1 rfl rfl 9 (by decide) kw_2 (fun _ h9 => h9) rfl dX3_setRegion_38 ?_
      refine lv_if_le (tgt := 46) hXX hBB dX3_setRegion_41 (by decide) (fun c_41 => ?_) (fun c_41 => ?_)
      · exact absurd c_41 (by decide)
      · have c_41 : 0 < 1 := m_pos_le_f (by omega) c_41
        refine lv_iconst (v := nI 0) hXX hBB dX3_setRegion_44 (by decide) ?_
        refine hret (r := nI 0) (1, rg) ?_ (rfl) (hP.sub [1, 0] rfl) (hD.sub [1, 0] (by decide) rfl) hS (Nat.le_of_ble_eq_true rfl) (Nat.le_of_ble_eq_true rfl) dX3_setRegion_45
        show (srPost x y (g * p) dm 1 rg rg (nI 0))
        first | exact srPost_1 (Or.inl c_6) | exact srPost_1 (Or.inr c_15) | exact srPost_2 c_6 c_15 c_26
abbrev rmX3_setBound : Room := { frames := 1, cells := 0, slots := 0, locals := 22 }
set_option maxHeartbeats 4000000 in
set_option maxRecDepth 100000 in
theorem kX3_setBound (l : Launch) (D : va_G) (cI : ClassId) (h : Nat) (g : Nat) (p : Nat) (aR : Nat) (aB : Nat) (aA : Nat) (aO : Nat) (dm : Nat) (aD : Nat) (aP : Nat) (th : Nat) (rm : Nat) (aS : Nat) (aW : Nat) (aU : Nat) (aL : Nat) (aE : Nat) (aQ : Nat) (bd : Nat → Nat) (x : Int32) (y : Int32) (hdm : dm ≤ 9) : Ci l yX3_setBound wsX3_setBound rmX3_setBound D [(cI, .int)] [.ref h, .int x, .int y] [(h, .inr (3, [.int (nI g), .int (nI p), .ref aR, .ref aB, .ref aA, .ref aO, .int (nI dm), .ref aD, .ref aP, .int (nI th), .int (nI rm), .ref aS, .ref aW, .ref aU, .ref aL, .ref aE, .ref aQ])), (aB, .inl (cI, 6, .inl (fun j => nI (bd j))))] (fun (r : Int32) (u : Nat × (Nat → Nat)) => (sbPost x y dm u.1 u.2 bd r)) (fun (u : Nat × (Nat → Nat)) => [(h, .inr (3, [.int (nI g), .int (nI p), .ref aR, .ref aB, .ref aA, .ref aO, .int (nI dm), .ref aD, .ref aP, .int (nI u.1), .int (nI rm), .ref aS, .ref aW, .ref aU, .ref aL, .ref aE, .ref aQ])), (aB, .inl (cI, 6, .inl (fun j => nI (u.2 j))))]) := by
  refine Ci_of (cc := cX3_setBound) (maxL := 4) (by decide) rfl (Nat.le_of_ble_eq_true rfl) ?_
  intro pR eV sT mI args below meth cO AA QQ ls hXX hBB hml hown hts hnm hN hK hP hD hS hAA hl hret
  have hl : lv_has ls 4 [(0, .ref h), (1, .int x), (2, .int y)] := hl
  have kw_1 := hts (.fieldLink RX3 61 "CupDrawModel" "drawnMany" "I") (List.mem_of_getElem? (i := 1) rfl)
  have iw_X3 : ∀ w ∈ wsX30, w ∈ wsX3_setBound := by decide +kernel
  have kw_2 := hts (.fieldLink RX3 51 "CupDrawModel" "thrown" "I") (List.mem_of_getElem? (i := 2) rfl)
  have kw_3 := hts (.fieldLink RX3 13 "CupDrawModel" "bounds" "[I") (List.mem_of_getElem? (i := 3) rfl)
  refine lv_aload_n hXX hBB dX3_setBound_0 rfl (lv_at hl 0 rfl) ?_
  refine lv_iload_n hXX hBB dX3_setBound_1 rfl (lv_at hl 1 rfl) ?_
  refine lv_iconst (v := nI 0) hXX hBB dX3_setBound_2 (by decide) ?_
  refine lv_iconst (v := nI 5) hXX hBB dX3_setBound_3 (by decide) ?_
  refine m_scalli (wr := [(h, .inr (3, [.int (nI g), .int (nI p), .ref aR, .ref aB, .ref aA, .ref aO, .int (nI dm), .ref aD, .ref aP, .int (nI th), .int (nI rm), .ref aS, .ref aW, .ref aU, .ref aL, .ref aE, .ref aQ])), (aB, .inl (cI, 6, .inl (fun j => nI (bd j))))]) ⟨hXX, hBB, hml, hown, hts⟩ hN (kX3_in l D x (nI 0) (nI 5)) (va_cwS 3 hts gX3_setBound_X3_in rfl rfl rfl (by decide +kernel) ⟨Nat.le_of_ble_eq_true rfl, Nat.le_of_ble_eq_true rfl⟩) hK hP hD hS hAA [] [0, 1] [] rfl rfl rfl (by decide) (by decide) (by decide) rfl hl.1 rfl (Nat.le_of_ble_eq_true rfl) dX3_setBound_4 ⟨Nat.le_of_ble_eq_true rfl, Nat.le_of_ble_eq_true rfl⟩ (k := 0) (n := 0) rfl rfl (fun r_1 u_ H locs hw hP hD hS => ?_)
  have hw : (r_1 = bI (inB x (nI 0) (nI 5))) := hw
  have hr_r_1 := hw
  have hP : va_P D vwCl [(h, .inr (3, [.int (nI g), .int (nI p), .ref aR, .ref aB, .ref aA, .ref aO, .int (nI dm), .ref aD, .ref aP, .int (nI th), .int (nI rm), .ref aS, .ref aW, .ref aU, .ref aL, .ref aE, .ref aQ])), (aB, .inl (cI, 6, .inl (fun j => nI (bd j))))] H := hP
  have hD : va_D AA [(h, .inr (3, [.int (nI g), .int (nI p), .ref aR, .ref aB, .ref aA, .ref aO, .int (nI dm), .ref aD, .ref aP, .int (nI th), .int (nI rm), .ref aS, .ref aW, .ref aU, .ref aL, .ref aE, .ref aQ])), (aB, .inl (cI, 6, .inl (fun j => nI (bd j))))] := hD
  subst hr_r_1
  refine lv_if_ne (tgt := 14) hXX hBB dX3_setBound_7 (by decide) (fun c_7 => ?_) (fun c_7 => ?_)
  · have c_7 : (inB x (nI 0) (nI 5)) = true := m_bz1 c_7
    refine lv_iload_n hXX hBB dX3_setBound_14 rfl (lv_at hl 2 rfl) ?_
    refine lv_iconst (v := nI 1) hXX hBB dX3_setBound_15 (by decide) ?_
    refine lv_iconst (v := nI 3) hXX hBB dX3_setBound_16 (by decide) ?_
    refine m_scalli (wr := [(h, .inr (3, [.int (nI g), .int (nI p), .ref aR, .ref aB, .ref aA, .ref aO, .int (nI dm), .ref aD, .ref aP, .int (nI th), .int (nI rm), .ref aS, .ref aW, .ref aU, .ref aL, .ref aE, .ref aQ])), (aB, .inl (cI, 6, .inl (fun j => nI (bd j))))]) ⟨hXX, hBB, hml, hown, hts⟩ hN (kX3_in l D y (nI 1) (nI 3)) (va_cwS 3 hts gX3_setBound_X3_in rfl rfl rfl (by decide +kernel) ⟨Nat.le_of_ble_eq_true rfl, Nat.le_of_ble_eq_true rfl⟩) hK hP hD hS hAA [] [0, 1] [] rfl rfl rfl (by decide) (by decide) (by decide) rfl hl.1 rfl (Nat.le_of_ble_eq_true rfl) dX3_setBound_17 ⟨Nat.le_of_ble_eq_true rfl, Nat.le_of_ble_eq_true rfl⟩ (k := 0) (n := 0) rfl rfl (fun r_2 u_ H locs hw hP hD hS => ?_)
    have hw : (r_2 = bI (inB y (nI 1) (nI 3))) := hw
    have hr_r_2 := hw
    have hP : va_P D vwCl [(h, .inr (3, [.int (nI g), .int (nI p), .ref aR, .ref aB, .ref aA, .ref aO, .int (nI dm), .ref aD, .ref aP, .int (nI th), .int (nI rm), .ref aS, .ref aW, .ref aU, .ref aL, .ref aE, .ref aQ])), (aB, .inl (cI, 6, .inl (fun j => nI (bd j))))] H := hP
    have hD : va_D AA [(h, .inr (3, [.int (nI g), .int (nI p), .ref aR, .ref aB, .ref aA, .ref aO, .int (nI dm), .ref aD, .ref aP, .int (nI th), .int (nI rm), .ref aS, .ref aW, .ref aU, .ref aL, .ref aE, .ref aQ])), (aB, .inl (cI, 6, .inl (fun j => nI (bd j))))] := hD
    subst hr_r_2
    refine lv_if_ne (tgt := 27) hXX hBB dX3_setBound_20 (by decide) (fun c_20 => ?_) (fun c_20 => ?_)
    · have c_20 : (inB y (nI 1) (nI 3)) = true := m_bz1 c_20
      refine lv_aload_n hXX hBB dX3_setBound_27 rfl (lv_at hl 0 rfl) ?_
      refine va_get (D := D) (ci := 3) (v := .int (nI dm)) (C := RX3) (T := TX3) (N := 17) hXX hBB hts iw_X3 hown hK hP 0 rfl rfl 6 (by decide) kw_1 (fun _ h9 => h9) rfl dX3_setBound_28 ?_
      refine lv_if_le (tgt := 38) hXX hBB dX3_setBound_31 (by decide) (fun c_31 => ?_) (fun c_31 => ?_)
      · have c_31 : dm = 0 := m_nps_le_t (by omega) c_31
        refine lv_iconst (v := nI 0) hXX hBB dX3_setBound_38 (by decide) ?_
        refine va_put (D := D) (ci := 3) (v := .int (nI 0)) (ty := .int) (C := RX3) (T := TX3) (N := 17) hXX hBB hts iw_X3 tyX3 tyX3_ok nmX3 hown hK hP hD hS 0 rfl rfl 9 (by decide) kw_2 (fun _ h9 => h9) rfl (by decide +kernel) (rfl) (rfl) (Nat.le_of_ble_eq_true rfl) dX3_setBound_39 (fun H locs hP hD hS => ?_)
        have hP : va_P D vwCl [(h, .inr (3, [.int (nI g), .int (nI p), .ref aR, .ref aB, .ref aA, .ref aO, .int (nI dm), .ref aD, .ref aP, .int (nI 0), .int (nI rm), .ref aS, .ref aW, .ref aU, .ref aL, .ref aE, .ref aQ])), (aB, .inl (cI, 6, .inl (fun j => nI (bd j))))] H := hP
        have hD : va_D AA [(h, .inr (3, [.int (nI g), .int (nI p), .ref aR, .ref aB, .ref aA, .ref aO, .int (nI dm), .ref aD, .ref aP, .int (nI 0), .int (nI rm), .ref aS, .ref aW, .ref aU, .ref aL, .ref aE, .ref aQ])), (aB, .inl (cI, 6, .inl (fun j => nI (bd j))))] := hD
        refine lv_aload_n hXX hBB dX3_setBound_42 rfl (lv_at hl 0 rfl) ?_
        refine va_get (D := D) (ci := 3) (v := .int (nI 0)) (C := RX3) (T := TX3) (N := 17) hXX hBB hts iw_X3 hown hK hP 0 rfl rfl 9 (by decide) kw_2 (fun _ h9 => h9) rfl dX3_setBound_43 ?_
        refine lv_if_le (tgt := 51) hXX hBB dX3_setBound_46 (by decide) (fun c_46 => ?_) (fun c_46 => ?_)
        · have c_46 : 0 = 0 := m_nps_le_t (by omega) c_46
          obtain ⟨t, hlo_t, hhi_t, he_t⟩ := inB_nat (lo := 0) (hi := 5) (by omega) c_7
          obtain ⟨v, hlo_v, hhi_v, he_v⟩ := inB_nat (lo := 1) (hi := 3) (by omega) c_20
          have hl : lv_has ls 4 [(0, .ref h), (1, .int (nI t)), (2, .int (nI v))] := by rw [he_t, he_v] at hl; exact hl
          refine lv_aload_n hXX hBB dX3_setBound_51 rfl (lv_at hl 0 rfl) ?_
          refine va_get (D := D) (ci := 3) (v := .ref aB) (C := RX3) (T := TX3) (N := 17) hXX hBB hts iw_X3 hown hK hP 0 rfl rfl 3 (by decide) kw_3 (fun _ h9 => h9) rfl dX3_setBound_52 ?_
          refine lv_iload_n hXX hBB dX3_setBound_55 rfl (lv_at hl 1 rfl) ?_
          refine m_iald hXX hBB hK hP 1 0 rfl rfl (i := t) (by omega) (by decide) (x := nI (bd t)) rfl dX3_setBound_56 ?_
          refine lv_istore_n (lv' := [(3, .int (nI (bd t))), (0, .ref h), (1, .int (nI t)), (2, .int (nI v))]) hXX hBB dX3_setBound_57 rfl hl (by decide) rfl (fun ls hl => ?_)
          refine lv_aload_n hXX hBB dX3_setBound_58 rfl (lv_at hl 1 rfl) ?_
          refine va_get (D := D) (ci := 3) (v := .ref aB) (C := RX3) (T := TX3) (N := 17) hXX hBB hts iw_X3 hown hK hP 0 rfl rfl 3 (by decide) kw_3 (fun _ h9 => h9) rfl dX3_setBound_59 ?_
          refine lv_iload_n hXX hBB dX3_setBound_62 rfl (lv_at hl 2 rfl) ?_
          refine lv_iload_n hXX hBB dX3_setBound_63 rfl (lv_at hl 3 rfl) ?_
          refine m_iast hXX hBB hK hP hD hS 1 0 rfl rfl (i := t) (by omega) (by decide) (g := fun j => nI (updN bd t v j)) (m_upd _ _ _) dX3_setBound_64 (fun H locs hP hD hS => ?_)
          have hP : va_P D vwCl [(h, .inr (3, [.int (nI g), .int (nI p), .ref aR, .ref aB, .ref aA, .ref aO, .int (nI dm), .ref aD, .ref aP, .int (nI 0), .int (nI rm), .ref aS, .ref aW, .ref aU, .ref aL, .ref aE, .ref aQ])), (aB, .inl (cI, 6, .inl (fun j => nI (updN bd t v j))))] H := hP
          have hD : va_D AA [(h, .inr (3, [.int (nI g), .int (nI p), .ref aR, .ref aB, .ref aA, .ref aO, .int (nI dm), .ref aD, .ref aP, .int (nI 0), .int (nI rm), .ref aS, .ref aW, .ref aU, .ref aL, .ref aE, .ref aQ])), (aB, .inl (cI, 6, .inl (fun j => nI (updN bd t v j))))] := hD
          refine lv_iload_n hXX hBB dX3_setBound_65 rfl (lv_at hl 0 rfl) ?_
          refine hret (r := nI (bd t)) (0, updN bd t v) ?_ (rfl) (hP.sub [0, 1] rfl) (hD.sub [0, 1] (by decide) rfl) hS (Nat.le_of_ble_eq_true rfl) (Nat.le_of_ble_eq_true rfl) dX3_setBound_66
          show (sbPost x y dm 0 (updN bd t v) bd (nI (bd t)))
          exact sbPost_0 c_7 c_20 c_31 hhi_t hlo_v hhi_v he_t he_v
        · exact absurd (by decide) c_46
      · have c_31 : 0 < dm := m_pos_le_f (by omega) c_31
        refine lv_iconst (v := nI 3) hXX hBB dX3_setBound_34 (by decide) ?_
        refine lv_goto (tgt := 39) hXX hBB dX3_setBound_35 (by decide) ?_
        refine va_put (D := D) (ci := 3) (v := .int (nI 3)) (ty := .int) (C := RX3) (T := TX3) (N := 17) hXX hBB hts iw_X3 tyX3 tyX3_ok nmX3 hown hK hP hD hS 0 rfl rfl 9 (by decide) kw_2 (fun _ h9 => h9) rfl (by decide +kernel) (rfl) (rfl) (Nat.le_of_ble_eq_true rfl) dX3_setBound_39 (fun H locs hP hD hS => ?_)
        have hP : va_P D vwCl [(h, .inr (3, [.int (nI g), .int (nI p), .ref aR, .ref aB, .ref aA, .ref aO, .int (nI dm), .ref aD, .ref aP, .int (nI 3), .int (nI rm), .ref aS, .ref aW, .ref aU, .ref aL, .ref aE, .ref aQ])), (aB, .inl (cI, 6, .inl (fun j => nI (bd j))))] H := hP
        have hD : va_D AA [(h, .inr (3, [.int (nI g), .int (nI p), .ref aR, .ref aB, .ref aA, .ref aO, .int (nI dm), .ref aD, .ref aP, .int (nI 3), .int (nI rm), .ref aS, .ref aW, .ref aU, .ref aL, .ref aE, .ref aQ])), (aB, .inl (cI, 6, .inl (fun j => nI (bd j))))] := hD
        refine lv_aload_n hXX hBB dX3_setBound_42 rfl (lv_at hl 0 rfl) ?_
        refine va_get (D := D) (ci := 3) (v := .int (nI 3)) (C := RX3) (T := TX3) (N := 17) hXX hBB hts iw_X3 hown hK hP 0 rfl rfl 9 (by decide) kw_2 (fun _ h9 => h9) rfl dX3_setBound_43 ?_
        refine lv_if_le (tgt := 51) hXX hBB dX3_setBound_46 (by decide) (fun c_46 => ?_) (fun c_46 => ?_)
        · exact absurd c_46 (by decide)
        · have c_46 : 0 < 3 := m_pos_le_f (by omega) c_46
          refine lv_iconst (v := nI 0) hXX hBB dX3_setBound_49 (by decide) ?_
          refine hret (r := nI 0) (3, bd) ?_ (rfl) (hP.sub [0, 1] rfl) (hD.sub [0, 1] (by decide) rfl) hS (Nat.le_of_ble_eq_true rfl) (Nat.le_of_ble_eq_true rfl) dX3_setBound_50
          show (sbPost x y dm 3 bd bd (nI 0))
          exact sbPost_n (by first | (simp [tSB, c_7]; done) | (simp [tSB, c_7, c_20]; done) | (simp [tSB, c_7, c_20, c_31]; done)) (by decide)
    · have c_20 : (inB y (nI 1) (nI 3)) = false := m_bz0 c_20
      refine lv_iconst (v := nI 2) hXX hBB dX3_setBound_23 (by decide) ?_
      refine lv_goto (tgt := 39) hXX hBB dX3_setBound_24 (by decide) ?_
      refine va_put (D := D) (ci := 3) (v := .int (nI 2)) (ty := .int) (C := RX3) (T := TX3) (N := 17) hXX hBB hts iw_X3 tyX3 tyX3_ok nmX3 hown hK hP hD hS 0 rfl rfl 9 (by decide) kw_2 (fun _ h9 => h9) rfl (by decide +kernel) (rfl) (rfl) (Nat.le_of_ble_eq_true rfl) dX3_setBound_39 (fun H locs hP hD hS => ?_)
      have hP : va_P D vwCl [(h, .inr (3, [.int (nI g), .int (nI p), .ref aR, .ref aB, .ref aA, .ref aO, .int (nI dm), .ref aD, .ref aP, .int (nI 2), .int (nI rm), .ref aS, .ref aW, .ref aU, .ref aL, .ref aE, .ref aQ])), (aB, .inl (cI, 6, .inl (fun j => nI (bd j))))] H := hP
      have hD : va_D AA [(h, .inr (3, [.int (nI g), .int (nI p), .ref aR, .ref aB, .ref aA, .ref aO, .int (nI dm), .ref aD, .ref aP, .int (nI 2), .int (nI rm), .ref aS, .ref aW, .ref aU, .ref aL, .ref aE, .ref aQ])), (aB, .inl (cI, 6, .inl (fun j => nI (bd j))))] := hD
      refine lv_aload_n hXX hBB dX3_setBound_42 rfl (lv_at hl 0 rfl) ?_
      refine va_get (D := D) (ci := 3) (v := .int (nI 2)) (C := RX3) (T := TX3) (N := 17) hXX hBB hts iw_X3 hown hK hP 0 rfl rfl 9 (by decide) kw_2 (fun _ h9 => h9) rfl dX3_setBound_43 ?_
      refine lv_if_le (tgt := 51) hXX hBB dX3_setBound_46 (by decide) (fun c_46 => ?_) (fun c_46 => ?_)
      · exact absurd c_46 (by decide)
      · have c_46 : 0 < 2 := m_pos_le_f (by omega) c_46
        refine lv_iconst (v := nI 0) hXX hBB dX3_setBound_49 (by decide) ?_
        refine hret (r := nI 0) (2, bd) ?_ (rfl) (hP.sub [0, 1] rfl) (hD.sub [0, 1] (by decide) rfl) hS (Nat.le_of_ble_eq_true rfl) (Nat.le_of_ble_eq_true rfl) dX3_setBound_50
        show (sbPost x y dm 2 bd bd (nI 0))
        exact sbPost_n (by first | (simp [tSB, c_7]; done) | (simp [tSB, c_7, c_20]; done) | (simp [tSB, c_7, c_20, c_31]; done)) (by decide)
  · have c_7 : (inB x (nI 0) (nI 5)) = false := m_bz0 c_7
    refine lv_iconst (v := nI 1) hXX hBB dX3_setBound_10 (by decide) ?_
    refine lv_goto (tgt := 39) hXX hBB dX3_setBound_11 (by decide) ?_
    refine va_put (D := D) (ci := 3) (v := .int (nI 1)) (ty := .int) (C := RX3) (T := TX3) (N := 17) hXX hBB hts iw_X3 tyX3 tyX3_ok nmX3 hown hK hP hD hS 0 rfl rfl 9 (by decide) kw_2 (fun _ h9 => h9) rfl (by decide +kernel) (rfl) (rfl) (Nat.le_of_ble_eq_true rfl) dX3_setBound_39 (fun H locs hP hD hS => ?_)
    have hP : va_P D vwCl [(h, .inr (3, [.int (nI g), .int (nI p), .ref aR, .ref aB, .ref aA, .ref aO, .int (nI dm), .ref aD, .ref aP, .int (nI 1), .int (nI rm), .ref aS, .ref aW, .ref aU, .ref aL, .ref aE, .ref aQ])), (aB, .inl (cI, 6, .inl (fun j => nI (bd j))))] H := hP
    have hD : va_D AA [(h, .inr (3, [.int (nI g), .int (nI p), .ref aR, .ref aB, .ref aA, .ref aO, .int (nI dm), .ref aD, .ref aP, .int (nI 1), .int (nI rm), .ref aS, .ref aW, .ref aU, .ref aL, .ref aE, .ref aQ])), (aB, .inl (cI, 6, .inl (fun j => nI (bd j))))] := hD
    refine lv_aload_n hXX hBB dX3_setBound_42 rfl (lv_at hl 0 rfl) ?_
    refine va_get (D := D) (ci := 3) (v := .int (nI 1)) (C := RX3) (T := TX3) (N := 17) hXX hBB hts iw_X3 hown hK hP 0 rfl rfl 9 (by decide) kw_2 (fun _ h9 => h9) rfl dX3_setBound_43 ?_
    refine lv_if_le (tgt := 51) hXX hBB dX3_setBound_46 (by decide) (fun c_46 => ?_) (fun c_46 => ?_)
    · exact absurd c_46 (by decide)
    · have c_46 : 0 < 1 := m_pos_le_f (by omega) c_46
      refine lv_iconst (v := nI 0) hXX hBB dX3_setBound_49 (by decide) ?_
      refine hret (r := nI 0) (1, bd) ?_ (rfl) (hP.sub [0, 1] rfl) (hD.sub [0, 1] (by decide) rfl) hS (Nat.le_of_ble_eq_true rfl) (Nat.le_of_ble_eq_true rfl) dX3_setBound_50
      show (sbPost x y dm 1 bd bd (nI 0))
      exact sbPost_n (by first | (simp [tSB, c_7]; done) | (simp [tSB, c_7, c_20]; done) | (simp [tSB, c_7, c_20, c_31]; done)) (by decide)
abbrev rmX3_canPair : Room := { frames := 2, cells := 0, slots := 0, locals := 43 }
set_option maxHeartbeats 4000000 in
set_option maxRecDepth 100000 in
theorem kX3_canPair (l : Launch) (D : va_G) (h : Nat) (g : Nat) (p : Nat) (aR : Nat) (aB : Nat) (aA : Nat) (aO : Nat) (dm : Nat) (aD : Nat) (aP : Nat) (th : Nat) (rm : Nat) (aS : Nat) (aW : Nat) (aU : Nat) (aL : Nat) (aE : Nat) (aQ : Nat) (x : Int32) (y : Int32) (h1 : 0 < g * p) (hT : g * p ≤ 9) (hdm : dm ≤ 9) : Ci l yX3_canPair wsX3_canPair rmX3_canPair D [] [.ref h, .int x, .int y] [(h, .inr (3, [.int (nI g), .int (nI p), .ref aR, .ref aB, .ref aA, .ref aO, .int (nI dm), .ref aD, .ref aP, .int (nI th), .int (nI rm), .ref aS, .ref aW, .ref aU, .ref aL, .ref aE, .ref aQ]))] (fun (r : Int32) (u : Nat) => (cpPost x y (g * p) dm u r)) (fun (u : Nat) => [(h, .inr (3, [.int (nI g), .int (nI p), .ref aR, .ref aB, .ref aA, .ref aO, .int (nI dm), .ref aD, .ref aP, .int (nI u), .int (nI rm), .ref aS, .ref aW, .ref aU, .ref aL, .ref aE, .ref aQ]))]) := by
  refine Ci_of (cc := cX3_canPair) (maxL := 3) (by decide) rfl (Nat.le_of_ble_eq_true rfl) ?_
  intro pR eV sT mI args below meth cO AA QQ ls hXX hBB hml hown hts hnm hN hK hP hD hS hAA hl hret
  have hl : lv_has ls 3 [(0, .ref h), (1, .int x), (2, .int y)] := hl
  have kw_2 := hts (.fieldLink RX3 51 "CupDrawModel" "thrown" "I") (List.mem_of_getElem? (i := 2) rfl)
  have iw_X3 : ∀ w ∈ wsX30, w ∈ wsX3_canPair := by decide +kernel
  have kw_1 := hts (.fieldLink RX3 61 "CupDrawModel" "drawnMany" "I") (List.mem_of_getElem? (i := 1) rfl)
  refine lv_aload_n hXX hBB dX3_canPair_0 rfl (lv_at hl 0 rfl) ?_
  refine lv_aload_n hXX hBB dX3_canPair_1 rfl (lv_at hl 0 rfl) ?_
  refine lv_iload_n hXX hBB dX3_canPair_2 rfl (lv_at hl 1 rfl) ?_
  refine m_calli (wr := []) ⟨hXX, hBB, hml, hown, hts⟩ hN (kX3_isTeam l D h g p aR aB aA aO dm aD aP th rm aS aW aU aL aE aQ x (by omega)) (cwV 1 hts gX3_canPair_X3_isTeam rfl rfl rfl (by decide +kernel) ⟨Nat.le_of_ble_eq_true rfl, Nat.le_of_ble_eq_true rfl⟩) hK hP hD hS hAA [0] [] [] rfl rfl rfl (by decide) (by decide) (by decide) rfl 3 rfl rfl rfl rfl hl.1 rfl (Nat.le_of_ble_eq_true rfl) dX3_canPair_3 ⟨Nat.le_of_ble_eq_true rfl, Nat.le_of_ble_eq_true rfl⟩ (k := 0) (n := 0) rfl rfl (fun r_1 u_ H locs hw hP hD hS => ?_)
  have hw : (r_1 = bI (inB x (nI 0) (nI (g * p - 1)))) := hw
  have hr_r_1 := hw
  have hP : va_P D vwCl [(h, .inr (3, [.int (nI g), .int (nI p), .ref aR, .ref aB, .ref aA, .ref aO, .int (nI dm), .ref aD, .ref aP, .int (nI th), .int (nI rm), .ref aS, .ref aW, .ref aU, .ref aL, .ref aE, .ref aQ]))] H := hP
  have hD : va_D AA [(h, .inr (3, [.int (nI g), .int (nI p), .ref aR, .ref aB, .ref aA, .ref aO, .int (nI dm), .ref aD, .ref aP, .int (nI th), .int (nI rm), .ref aS, .ref aW, .ref aU, .ref aL, .ref aE, .ref aQ]))] := hD
  subst hr_r_1
  refine lv_if_eq (tgt := 17) hXX hBB dX3_canPair_6 (by decide) (fun c_6 => ?_) (fun c_6 => ?_)
  · have c_6 : (inB x (nI 0) (nI (g * p - 1))) = false := m_bz0 c_6
    refine lv_iconst (v := nI 1) hXX hBB dX3_canPair_17 (by decide) ?_
    refine lv_goto (tgt := 42) hXX hBB dX3_canPair_18 (by decide) ?_
    refine va_put (D := D) (ci := 3) (v := .int (nI 1)) (ty := .int) (C := RX3) (T := TX3) (N := 17) hXX hBB hts iw_X3 tyX3 tyX3_ok nmX3 hown hK hP hD hS 0 rfl rfl 9 (by decide) kw_2 (fun _ h9 => h9) rfl (by decide +kernel) (rfl) (rfl) (Nat.le_of_ble_eq_true rfl) dX3_canPair_42 (fun H locs hP hD hS => ?_)
    have hP : va_P D vwCl [(h, .inr (3, [.int (nI g), .int (nI p), .ref aR, .ref aB, .ref aA, .ref aO, .int (nI dm), .ref aD, .ref aP, .int (nI 1), .int (nI rm), .ref aS, .ref aW, .ref aU, .ref aL, .ref aE, .ref aQ]))] H := hP
    have hD : va_D AA [(h, .inr (3, [.int (nI g), .int (nI p), .ref aR, .ref aB, .ref aA, .ref aO, .int (nI dm), .ref aD, .ref aP, .int (nI 1), .int (nI rm), .ref aS, .ref aW, .ref aU, .ref aL, .ref aE, .ref aQ]))] := hD
    refine lv_aload_n hXX hBB dX3_canPair_45 rfl (lv_at hl 0 rfl) ?_
    refine va_get (D := D) (ci := 3) (v := .int (nI 1)) (C := RX3) (T := TX3) (N := 17) hXX hBB hts iw_X3 hown hK hP 0 rfl rfl 9 (by decide) kw_2 (fun _ h9 => h9) rfl dX3_canPair_46 ?_
    refine lv_if_ne (tgt := 56) hXX hBB dX3_canPair_49 (by decide) (fun c_49 => ?_) (fun c_49 => ?_)
    · have c_49 : ¬ 1 = 0 := fun h9 => c_49 ((m_z (by omega)).mpr h9)
      refine lv_iconst (v := nI 0) hXX hBB dX3_canPair_56 (by decide) ?_
      refine hret (r := nI 0) 1 ?_ (rfl) (hP.sub [0] rfl) (hD.sub [0] (by decide) rfl) hS (Nat.le_of_ble_eq_true rfl) (Nat.le_of_ble_eq_true rfl) dX3_canPair_57
      show (cpPost x y (g * p) dm 1 (nI 0))
      exact ⟨by first | (simp [tCP, c_6]; done) | (simp [tCP, c_6, c_14]; done) | (simp [tCP, c_6, c_14, c_23]; done) | (simp [tCP, c_6, c_14, c_23, c_34]; done), rfl⟩
    · exact absurd c_49 (by decide)
  · have c_6 : (inB x (nI 0) (nI (g * p - 1))) = true := m_bz1 c_6
    refine lv_aload_n hXX hBB dX3_canPair_9 rfl (lv_at hl 0 rfl) ?_
    refine lv_iload_n hXX hBB dX3_canPair_10 rfl (lv_at hl 2 rfl) ?_
    refine m_calli (wr := []) ⟨hXX, hBB, hml, hown, hts⟩ hN (kX3_isTeam l D h g p aR aB aA aO dm aD aP th rm aS aW aU aL aE aQ y (by omega)) (cwV 1 hts gX3_canPair_X3_isTeam rfl rfl rfl (by decide +kernel) ⟨Nat.le_of_ble_eq_true rfl, Nat.le_of_ble_eq_true rfl⟩) hK hP hD hS hAA [0] [] [] rfl rfl rfl (by decide) (by decide) (by decide) rfl 3 rfl rfl rfl rfl hl.1 rfl (Nat.le_of_ble_eq_true rfl) dX3_canPair_11 ⟨Nat.le_of_ble_eq_true rfl, Nat.le_of_ble_eq_true rfl⟩ (k := 0) (n := 0) rfl rfl (fun r_2 u_ H locs hw hP hD hS => ?_)
    have hw : (r_2 = bI (inB y (nI 0) (nI (g * p - 1)))) := hw
    have hr_r_2 := hw
    have hP : va_P D vwCl [(h, .inr (3, [.int (nI g), .int (nI p), .ref aR, .ref aB, .ref aA, .ref aO, .int (nI dm), .ref aD, .ref aP, .int (nI th), .int (nI rm), .ref aS, .ref aW, .ref aU, .ref aL, .ref aE, .ref aQ]))] H := hP
    have hD : va_D AA [(h, .inr (3, [.int (nI g), .int (nI p), .ref aR, .ref aB, .ref aA, .ref aO, .int (nI dm), .ref aD, .ref aP, .int (nI th), .int (nI rm), .ref aS, .ref aW, .ref aU, .ref aL, .ref aE, .ref aQ]))] := hD
    subst hr_r_2
    refine lv_if_ne (tgt := 21) hXX hBB dX3_canPair_14 (by decide) (fun c_14 => ?_) (fun c_14 => ?_)
    · have c_14 : (inB y (nI 0) (nI (g * p - 1))) = true := m_bz1 c_14
      refine lv_iload_n hXX hBB dX3_canPair_21 rfl (lv_at hl 1 rfl) ?_
      refine lv_iload_n hXX hBB dX3_canPair_22 rfl (lv_at hl 2 rfl) ?_
      refine lv_icmp_ne (tgt := 30) hXX hBB dX3_canPair_23 (by decide) (fun c_23 => ?_) (fun c_23 => ?_)
      · have c_23 := c_23
        refine lv_aload_n hXX hBB dX3_canPair_30 rfl (lv_at hl 0 rfl) ?_
        refine va_get (D := D) (ci := 3) (v := .int (nI dm)) (C := RX3) (T := TX3) (N := 17) hXX hBB hts iw_X3 hown hK hP 0 rfl rfl 6 (by decide) kw_1 (fun _ h9 => h9) rfl dX3_canPair_31 ?_
        refine lv_if_le (tgt := 41) hXX hBB dX3_canPair_34 (by decide) (fun c_34 => ?_) (fun c_34 => ?_)
        · have c_34 : dm = 0 := m_nps_le_t (by omega) c_34
          refine lv_iconst (v := nI 0) hXX hBB dX3_canPair_41 (by decide) ?_
          refine va_put (D := D) (ci := 3) (v := .int (nI 0)) (ty := .int) (C := RX3) (T := TX3) (N := 17) hXX hBB hts iw_X3 tyX3 tyX3_ok nmX3 hown hK hP hD hS 0 rfl rfl 9 (by decide) kw_2 (fun _ h9 => h9) rfl (by decide +kernel) (rfl) (rfl) (Nat.le_of_ble_eq_true rfl) dX3_canPair_42 (fun H locs hP hD hS => ?_)
          have hP : va_P D vwCl [(h, .inr (3, [.int (nI g), .int (nI p), .ref aR, .ref aB, .ref aA, .ref aO, .int (nI dm), .ref aD, .ref aP, .int (nI 0), .int (nI rm), .ref aS, .ref aW, .ref aU, .ref aL, .ref aE, .ref aQ]))] H := hP
          have hD : va_D AA [(h, .inr (3, [.int (nI g), .int (nI p), .ref aR, .ref aB, .ref aA, .ref aO, .int (nI dm), .ref aD, .ref aP, .int (nI 0), .int (nI rm), .ref aS, .ref aW, .ref aU, .ref aL, .ref aE, .ref aQ]))] := hD
          refine lv_aload_n hXX hBB dX3_canPair_45 rfl (lv_at hl 0 rfl) ?_
          refine va_get (D := D) (ci := 3) (v := .int (nI 0)) (C := RX3) (T := TX3) (N := 17) hXX hBB hts iw_X3 hown hK hP 0 rfl rfl 9 (by decide) kw_2 (fun _ h9 => h9) rfl dX3_canPair_46 ?_
          refine lv_if_ne (tgt := 56) hXX hBB dX3_canPair_49 (by decide) (fun c_49 => ?_) (fun c_49 => ?_)
          · exact absurd (by decide) c_49
          · have c_49 : 0 = 0 := (m_z (by omega)).mp c_49
            refine lv_iconst (v := nI 1) hXX hBB dX3_canPair_52 (by decide) ?_
            refine lv_goto (tgt := 57) hXX hBB dX3_canPair_53 (by decide) ?_
            refine hret (r := nI 1) 0 ?_ (rfl) (hP.sub [0] rfl) (hD.sub [0] (by decide) rfl) hS (Nat.le_of_ble_eq_true rfl) (Nat.le_of_ble_eq_true rfl) dX3_canPair_57
            show (cpPost x y (g * p) dm 0 (nI 1))
            exact ⟨by first | (simp [tCP, c_6]; done) | (simp [tCP, c_6, c_14]; done) | (simp [tCP, c_6, c_14, c_23]; done) | (simp [tCP, c_6, c_14, c_23, c_34]; done), rfl⟩
        · have c_34 : 0 < dm := m_pos_le_f (by omega) c_34
          refine lv_iconst (v := nI 3) hXX hBB dX3_canPair_37 (by decide) ?_
          refine lv_goto (tgt := 42) hXX hBB dX3_canPair_38 (by decide) ?_
          refine va_put (D := D) (ci := 3) (v := .int (nI 3)) (ty := .int) (C := RX3) (T := TX3) (N := 17) hXX hBB hts iw_X3 tyX3 tyX3_ok nmX3 hown hK hP hD hS 0 rfl rfl 9 (by decide) kw_2 (fun _ h9 => h9) rfl (by decide +kernel) (rfl) (rfl) (Nat.le_of_ble_eq_true rfl) dX3_canPair_42 (fun H locs hP hD hS => ?_)
          have hP : va_P D vwCl [(h, .inr (3, [.int (nI g), .int (nI p), .ref aR, .ref aB, .ref aA, .ref aO, .int (nI dm), .ref aD, .ref aP, .int (nI 3), .int (nI rm), .ref aS, .ref aW, .ref aU, .ref aL, .ref aE, .ref aQ]))] H := hP
          have hD : va_D AA [(h, .inr (3, [.int (nI g), .int (nI p), .ref aR, .ref aB, .ref aA, .ref aO, .int (nI dm), .ref aD, .ref aP, .int (nI 3), .int (nI rm), .ref aS, .ref aW, .ref aU, .ref aL, .ref aE, .ref aQ]))] := hD
          refine lv_aload_n hXX hBB dX3_canPair_45 rfl (lv_at hl 0 rfl) ?_
          refine va_get (D := D) (ci := 3) (v := .int (nI 3)) (C := RX3) (T := TX3) (N := 17) hXX hBB hts iw_X3 hown hK hP 0 rfl rfl 9 (by decide) kw_2 (fun _ h9 => h9) rfl dX3_canPair_46 ?_
          refine lv_if_ne (tgt := 56) hXX hBB dX3_canPair_49 (by decide) (fun c_49 => ?_) (fun c_49 => ?_)
          · have c_49 : ¬ 3 = 0 := fun h9 => c_49 ((m_z (by omega)).mpr h9)
            refine lv_iconst (v := nI 0) hXX hBB dX3_canPair_56 (by decide) ?_
            refine hret (r := nI 0) 3 ?_ (rfl) (hP.sub [0] rfl) (hD.sub [0] (by decide) rfl) hS (Nat.le_of_ble_eq_true rfl) (Nat.le_of_ble_eq_true rfl) dX3_canPair_57
            show (cpPost x y (g * p) dm 3 (nI 0))
            exact ⟨by first | (simp [tCP, c_6]; done) | (simp [tCP, c_6, c_14]; done) | (simp [tCP, c_6, c_14, c_23]; done) | (simp [tCP, c_6, c_14, c_23, c_34]; done), rfl⟩
          · exact absurd c_49 (by decide)
      · have c_23 := c_23
        refine lv_iconst (v := nI 2) hXX hBB dX3_canPair_26 (by decide) ?_
        refine lv_goto (tgt := 42) hXX hBB dX3_canPair_27 (by decide) ?_
        refine va_put (D := D) (ci := 3) (v := .int (nI 2)) (ty := .int) (C := RX3) (T := TX3) (N := 17) hXX hBB hts iw_X3 tyX3 tyX3_ok nmX3 hown hK hP hD hS 0 rfl rfl 9 (by decide) kw_2 (fun _ h9 => h9) rfl (by decide +kernel) (rfl) (rfl) (Nat.le_of_ble_eq_true rfl) dX3_canPair_42 (fun H locs hP hD hS => ?_)
        have hP : va_P D vwCl [(h, .inr (3, [.int (nI g), .int (nI p), .ref aR, .ref aB, .ref aA, .ref aO, .int (nI dm), .ref aD, .ref aP, .int (nI 2), .int (nI rm), .ref aS, .ref aW, .ref aU, .ref aL, .ref aE, .ref aQ]))] H := hP
        have hD : va_D AA [(h, .inr (3, [.int (nI g), .int (nI p), .ref aR, .ref aB, .ref aA, .ref aO, .int (nI dm), .ref aD, .ref aP, .int (nI 2), .int (nI rm), .ref aS, .ref aW, .ref aU, .ref aL, .ref aE, .ref aQ]))] := hD
        refine lv_aload_n hXX hBB dX3_canPair_45 rfl (lv_at hl 0 rfl) ?_
        refine va_get (D := D) (ci := 3) (v := .int (nI 2)) (C := RX3) (T := TX3) (N := 17) hXX hBB hts iw_X3 hown hK hP 0 rfl rfl 9 (by decide) kw_2 (fun _ h9 => h9) rfl dX3_canPair_46 ?_
        refine lv_if_ne (tgt := 56) hXX hBB dX3_canPair_49 (by decide) (fun c_49 => ?_) (fun c_49 => ?_)
        · have c_49 : ¬ 2 = 0 := fun h9 => c_49 ((m_z (by omega)).mpr h9)
          refine lv_iconst (v := nI 0) hXX hBB dX3_canPair_56 (by decide) ?_
          refine hret (r := nI 0) 2 ?_ (rfl) (hP.sub [0] rfl) (hD.sub [0] (by decide) rfl) hS (Nat.le_of_ble_eq_true rfl) (Nat.le_of_ble_eq_true rfl) dX3_canPair_57
          show (cpPost x y (g * p) dm 2 (nI 0))
          exact ⟨by first | (simp [tCP, c_6]; done) | (simp [tCP, c_6, c_14]; done) | (simp [tCP, c_6, c_14, c_23]; done) | (simp [tCP, c_6, c_14, c_23, c_34]; done), rfl⟩
        · exact absurd c_49 (by decide)
    · have c_14 : (inB y (nI 0) (nI (g * p - 1))) = false := m_bz0 c_14
      refine lv_iconst (v := nI 1) hXX hBB dX3_canPair_17 (by decide) ?_
      refine lv_goto (tgt := 42) hXX hBB dX3_canPair_18 (by decide) ?_
      refine va_put (D := D) (ci := 3) (v := .int (nI 1)) (ty := .int) (C := RX3) (T := TX3) (N := 17) hXX hBB hts iw_X3 tyX3 tyX3_ok nmX3 hown hK hP hD hS 0 rfl rfl 9 (by decide) kw_2 (fun _ h9 => h9) rfl (by decide +kernel) (rfl) (rfl) (Nat.le_of_ble_eq_true rfl) dX3_canPair_42 (fun H locs hP hD hS => ?_)
      have hP : va_P D vwCl [(h, .inr (3, [.int (nI g), .int (nI p), .ref aR, .ref aB, .ref aA, .ref aO, .int (nI dm), .ref aD, .ref aP, .int (nI 1), .int (nI rm), .ref aS, .ref aW, .ref aU, .ref aL, .ref aE, .ref aQ]))] H := hP
      have hD : va_D AA [(h, .inr (3, [.int (nI g), .int (nI p), .ref aR, .ref aB, .ref aA, .ref aO, .int (nI dm), .ref aD, .ref aP, .int (nI 1), .int (nI rm), .ref aS, .ref aW, .ref aU, .ref aL, .ref aE, .ref aQ]))] := hD
      refine lv_aload_n hXX hBB dX3_canPair_45 rfl (lv_at hl 0 rfl) ?_
      refine va_get (D := D) (ci := 3) (v := .int (nI 1)) (C := RX3) (T := TX3) (N := 17) hXX hBB hts iw_X3 hown hK hP 0 rfl rfl 9 (by decide) kw_2 (fun _ h9 => h9) rfl dX3_canPair_46 ?_
      refine lv_if_ne (tgt := 56) hXX hBB dX3_canPair_49 (by decide) (fun c_49 => ?_) (fun c_49 => ?_)
      · have c_49 : ¬ 1 = 0 := fun h9 => c_49 ((m_z (by omega)).mpr h9)
        refine lv_iconst (v := nI 0) hXX hBB dX3_canPair_56 (by decide) ?_
        refine hret (r := nI 0) 1 ?_ (rfl) (hP.sub [0] rfl) (hD.sub [0] (by decide) rfl) hS (Nat.le_of_ble_eq_true rfl) (Nat.le_of_ble_eq_true rfl) dX3_canPair_57
        show (cpPost x y (g * p) dm 1 (nI 0))
        exact ⟨by first | (simp [tCP, c_6]; done) | (simp [tCP, c_6, c_14]; done) | (simp [tCP, c_6, c_14, c_23]; done) | (simp [tCP, c_6, c_14, c_23, c_34]; done), rfl⟩
      · exact absurd c_49 (by decide)
abbrev rmX3_setApart : Room := { frames := 3, cells := 0, slots := 0, locals := 65 }
set_option maxHeartbeats 4000000 in
set_option maxRecDepth 100000 in
theorem kX3_setApart (l : Launch) (D : va_G) (cZ : ClassId) (h : Nat) (g : Nat) (p : Nat) (aR : Nat) (aB : Nat) (aA : Nat) (aO : Nat) (dm : Nat) (aD : Nat) (aP : Nat) (th : Nat) (rm : Nat) (aS : Nat) (aW : Nat) (aU : Nat) (aL : Nat) (aE : Nat) (aQ : Nat) (ab : Nat → Bool) (x : Int32) (y : Int32) (bv : Bool) (h1 : 0 < g * p) (hT : g * p ≤ 9) (hdm : dm ≤ 9) : Ci l yX3_setApart wsX3_setApart rmX3_setApart D [(cZ, .boolean)] [.ref h, .int x, .int y, .int (bI bv)] [(h, .inr (3, [.int (nI g), .int (nI p), .ref aR, .ref aB, .ref aA, .ref aO, .int (nI dm), .ref aD, .ref aP, .int (nI th), .int (nI rm), .ref aS, .ref aW, .ref aU, .ref aL, .ref aE, .ref aQ])), (aA, .inl (cZ, 81, .inl (fun j => bI (ab j))))] (fun (r : Int32) (u : Nat × (Nat → Bool)) => (saPost x y bv (g * p) dm u.1 u.2 ab r)) (fun (u : Nat × (Nat → Bool)) => [(h, .inr (3, [.int (nI g), .int (nI p), .ref aR, .ref aB, .ref aA, .ref aO, .int (nI dm), .ref aD, .ref aP, .int (nI u.1), .int (nI rm), .ref aS, .ref aW, .ref aU, .ref aL, .ref aE, .ref aQ])), (aA, .inl (cZ, 81, .inl (fun j => bI (u.2 j))))]) := by
  refine Ci_of (cc := cX3_setApart) (maxL := 5) (by decide) rfl (Nat.le_of_ble_eq_true rfl) ?_
  intro pR eV sT mI args below meth cO AA QQ ls hXX hBB hml hown hts hnm hN hK hP hD hS hAA hl hret
  have hl : lv_has ls 5 [(0, .ref h), (1, .int x), (2, .int y), (3, .int (bI bv))] := hl
  have kw_1 := hts (.fieldLink RX3 16 "CupDrawModel" "isApart" "[Z") (List.mem_of_getElem? (i := 1) rfl)
  have iw_X3 : ∀ w ∈ wsX30, w ∈ wsX3_setApart := by decide +kernel
  refine lv_aload_n hXX hBB dX3_setApart_0 rfl (lv_at hl 0 rfl) ?_
  refine lv_iload_n hXX hBB dX3_setApart_1 rfl (lv_at hl 1 rfl) ?_
  refine lv_iload_n hXX hBB dX3_setApart_2 rfl (lv_at hl 2 rfl) ?_
  refine m_calli (wr := [(aA, .inl (cZ, 81, .inl (fun j => bI (ab j))))]) ⟨hXX, hBB, hml, hown, hts⟩ hN (kX3_canPair l D h g p aR aB aA aO dm aD aP th rm aS aW aU aL aE aQ x y (by omega) (by omega) (by omega)) (cwV 2 hts gX3_setApart_X3_canPair rfl rfl rfl (by decide +kernel) ⟨Nat.le_of_ble_eq_true rfl, Nat.le_of_ble_eq_true rfl⟩) hK hP hD hS hAA [0] [1] [] rfl rfl rfl (by decide) (by decide) (by decide) rfl 3 rfl rfl rfl rfl hl.1 rfl (Nat.le_of_ble_eq_true rfl) dX3_setApart_3 ⟨Nat.le_of_ble_eq_true rfl, Nat.le_of_ble_eq_true rfl⟩ (k := 0) (n := 0) rfl rfl (fun r_1 u_ H locs hw hP hD hS => ?_)
  obtain ⟨thq, rfl⟩ : ∃ z, z = u_ := ⟨_, rfl⟩
  have hw : (cpPost x y (g * p) dm thq r_1) := hw
  have e_cp := hw
  have hP : va_P D vwCl [(aA, .inl (cZ, 81, .inl (fun j => bI (ab j)))), (h, .inr (3, [.int (nI g), .int (nI p), .ref aR, .ref aB, .ref aA, .ref aO, .int (nI dm), .ref aD, .ref aP, .int (nI thq), .int (nI rm), .ref aS, .ref aW, .ref aU, .ref aL, .ref aE, .ref aQ]))] H := hP
  have hD : va_D AA [(aA, .inl (cZ, 81, .inl (fun j => bI (ab j)))), (h, .inr (3, [.int (nI g), .int (nI p), .ref aR, .ref aB, .ref aA, .ref aO, .int (nI dm), .ref aD, .ref aP, .int (nI thq), .int (nI rm), .ref aS, .ref aW, .ref aU, .ref aL, .ref aE, .ref aQ]))] := hD
  refine m_top (y := bI (decide (thq = 0))) (by exact e_cp.2) ?_
  refine lv_if_ne (tgt := 11) hXX hBB dX3_setApart_6 (by decide) (fun c_6 => ?_) (fun c_6 => ?_)
  · have c_6 : (decide (thq = 0)) = true := m_bz1 c_6
    have hz : thq = 0 := of_decide_eq_true c_6
    obtain ⟨t, o, hht, hho, hto, hd0, he_t, he_o⟩ := tCP_ok h1 hT (e_cp.1.symm.trans hz)
    have hl : lv_has ls 5 [(0, .ref h), (1, .int (nI t)), (2, .int (nI o)), (3, .int (bI bv))] := by rw [he_t, he_o] at hl; exact hl
    refine lv_aload_n hXX hBB dX3_setApart_11 rfl (lv_at hl 0 rfl) ?_
    refine va_get (D := D) (ci := 3) (v := .ref aA) (C := RX3) (T := TX3) (N := 17) hXX hBB hts iw_X3 hown hK hP 1 rfl rfl 4 (by decide) kw_1 (fun _ h9 => h9) rfl dX3_setApart_12 ?_
    refine lv_bipush (v := nI 9) hXX hBB dX3_setApart_15 (by decide) ?_
    refine lv_iload_n hXX hBB dX3_setApart_17 rfl (lv_at hl 1 rfl) ?_
    refine lv_imul hXX hBB dX3_setApart_18 ?_
    refine m_top (y := nI (9 * t)) (pk_mul _ _) ?_
    refine lv_iload_n hXX hBB dX3_setApart_19 rfl (lv_at hl 2 rfl) ?_
    refine lv_iadd hXX hBB dX3_setApart_20 ?_
    refine m_top (y := nI ((9 * t) + o)) (nI_add _ _) ?_
    refine m_zald hXX hBB hK hP 0 0 rfl rfl (i := (9 * t) + o) (by omega) (by decide) (x := bI (ab ((9 * t) + o))) rfl dX3_setApart_21 ?_
    refine lv_istore (lv' := [(4, .int (bI (ab ((9 * t) + o)))), (0, .ref h), (1, .int (nI t)), (2, .int (nI o)), (3, .int (bI bv))]) hXX hBB dX3_setApart_22 hl (by decide) rfl (fun ls hl => ?_)
    refine lv_aload_n hXX hBB dX3_setApart_24 rfl (lv_at hl 1 rfl) ?_
    refine va_get (D := D) (ci := 3) (v := .ref aA) (C := RX3) (T := TX3) (N := 17) hXX hBB hts iw_X3 hown hK hP 1 rfl rfl 4 (by decide) kw_1 (fun _ h9 => h9) rfl dX3_setApart_25 ?_
    refine lv_bipush (v := nI 9) hXX hBB dX3_setApart_28 (by decide) ?_
    refine lv_iload_n hXX hBB dX3_setApart_30 rfl (lv_at hl 2 rfl) ?_
    refine lv_imul hXX hBB dX3_setApart_31 ?_
    refine m_top (y := nI (9 * t)) (pk_mul _ _) ?_
    refine lv_iload_n hXX hBB dX3_setApart_32 rfl (lv_at hl 3 rfl) ?_
    refine lv_iadd hXX hBB dX3_setApart_33 ?_
    refine m_top (y := nI ((9 * t) + o)) (nI_add _ _) ?_
    refine lv_iload_n hXX hBB dX3_setApart_34 rfl (lv_at hl 4 rfl) ?_
    refine m_zast hXX hBB hK hP hD hS 0 0 rfl rfl (i := (9 * t) + o) (by omega) (by decide) (g := fun j => bI (updB ab ((9 * t) + o) bv j)) (m_updB _ _ _) dX3_setApart_35 (fun H locs hP hD hS => ?_)
    have hP : va_P D vwCl [(aA, .inl (cZ, 81, .inl (fun j => bI (updB ab ((9 * t) + o) bv j)))), (h, .inr (3, [.int (nI g), .int (nI p), .ref aR, .ref aB, .ref aA, .ref aO, .int (nI dm), .ref aD, .ref aP, .int (nI thq), .int (nI rm), .ref aS, .ref aW, .ref aU, .ref aL, .ref aE, .ref aQ]))] H := hP
    have hD : va_D AA [(aA, .inl (cZ, 81, .inl (fun j => bI (updB ab ((9 * t) + o) bv j)))), (h, .inr (3, [.int (nI g), .int (nI p), .ref aR, .ref aB, .ref aA, .ref aO, .int (nI dm), .ref aD, .ref aP, .int (nI thq), .int (nI rm), .ref aS, .ref aW, .ref aU, .ref aL, .ref aE, .ref aQ]))] := hD
    refine lv_aload_n hXX hBB dX3_setApart_36 rfl (lv_at hl 1 rfl) ?_
    refine va_get (D := D) (ci := 3) (v := .ref aA) (C := RX3) (T := TX3) (N := 17) hXX hBB hts iw_X3 hown hK hP 1 rfl rfl 4 (by decide) kw_1 (fun _ h9 => h9) rfl dX3_setApart_37 ?_
    refine lv_bipush (v := nI 9) hXX hBB dX3_setApart_40 (by decide) ?_
    refine lv_iload_n hXX hBB dX3_setApart_42 rfl (lv_at hl 3 rfl) ?_
    refine lv_imul hXX hBB dX3_setApart_43 ?_
    refine m_top (y := nI (9 * o)) (pk_mul _ _) ?_
    refine lv_iload_n hXX hBB dX3_setApart_44 rfl (lv_at hl 2 rfl) ?_
    refine lv_iadd hXX hBB dX3_setApart_45 ?_
    refine m_top (y := nI ((9 * o) + t)) (nI_add _ _) ?_
    refine lv_iload_n hXX hBB dX3_setApart_46 rfl (lv_at hl 4 rfl) ?_
    refine m_zast hXX hBB hK hP hD hS 0 0 rfl rfl (i := (9 * o) + t) (by omega) (by decide) (g := fun j => bI (updB (updB ab ((9 * t) + o) bv) ((9 * o) + t) bv j)) (m_updB _ _ _) dX3_setApart_47 (fun H locs hP hD hS => ?_)
    have hP : va_P D vwCl [(aA, .inl (cZ, 81, .inl (fun j => bI (updB (updB ab ((9 * t) + o) bv) ((9 * o) + t) bv j)))), (h, .inr (3, [.int (nI g), .int (nI p), .ref aR, .ref aB, .ref aA, .ref aO, .int (nI dm), .ref aD, .ref aP, .int (nI thq), .int (nI rm), .ref aS, .ref aW, .ref aU, .ref aL, .ref aE, .ref aQ]))] H := hP
    have hD : va_D AA [(aA, .inl (cZ, 81, .inl (fun j => bI (updB (updB ab ((9 * t) + o) bv) ((9 * o) + t) bv j)))), (h, .inr (3, [.int (nI g), .int (nI p), .ref aR, .ref aB, .ref aA, .ref aO, .int (nI dm), .ref aD, .ref aP, .int (nI thq), .int (nI rm), .ref aS, .ref aW, .ref aU, .ref aL, .ref aE, .ref aQ]))] := hD
    refine lv_iload hXX hBB dX3_setApart_48 (lv_at hl 0 rfl) ?_
    refine hret (r := bI (ab ((9 * t) + o))) (thq, updB (updB ab ((9 * t) + o) bv) ((9 * o) + t) bv) ?_ (m_narb _) (hP.sub [1, 0] rfl) (hD.sub [1, 0] (by decide) rfl) hS (Nat.le_of_ble_eq_true rfl) (Nat.le_of_ble_eq_true rfl) dX3_setApart_50
    show (saPost x y bv (g * p) dm thq (updB (updB ab ((9 * t) + o) bv) ((9 * o) + t) bv) ab (bI (ab ((9 * t) + o))))
    exact ⟨e_cp.1, fun _ => ⟨t, o, by omega, by omega, hto, hd0, he_t, he_o, rfl, rfl⟩, fun q => absurd hz q⟩
  · have c_6 : (decide (thq = 0)) = false := m_bz0 c_6
    refine lv_iconst (v := nI 0) hXX hBB dX3_setApart_9 (by decide) ?_
    refine hret (r := nI 0) (thq, ab) ?_ (rfl) (hP.sub [1, 0] rfl) (hD.sub [1, 0] (by decide) rfl) hS (Nat.le_of_ble_eq_true rfl) (Nat.le_of_ble_eq_true rfl) dX3_setApart_10
    show (saPost x y bv (g * p) dm thq ab ab (nI 0))
    exact ⟨e_cp.1, fun q => absurd q (of_decide_eq_false c_6), fun _ => rfl⟩
abbrev rmX3_setOtherDays : Room := { frames := 3, cells := 0, slots := 0, locals := 65 }
set_option maxHeartbeats 4000000 in
set_option maxRecDepth 100000 in
theorem kX3_setOtherDays (l : Launch) (D : va_G) (cZ : ClassId) (h : Nat) (g : Nat) (p : Nat) (aR : Nat) (aB : Nat) (aA : Nat) (aO : Nat) (dm : Nat) (aD : Nat) (aP : Nat) (th : Nat) (rm : Nat) (aS : Nat) (aW : Nat) (aU : Nat) (aL : Nat) (aE : Nat) (aQ : Nat) (ob : Nat → Bool) (x : Int32) (y : Int32) (bv : Bool) (h1 : 0 < g * p) (hT : g * p ≤ 9) (hdm : dm ≤ 9) : Ci l yX3_setOtherDays wsX3_setOtherDays rmX3_setOtherDays D [(cZ, .boolean)] [.ref h, .int x, .int y, .int (bI bv)] [(h, .inr (3, [.int (nI g), .int (nI p), .ref aR, .ref aB, .ref aA, .ref aO, .int (nI dm), .ref aD, .ref aP, .int (nI th), .int (nI rm), .ref aS, .ref aW, .ref aU, .ref aL, .ref aE, .ref aQ])), (aO, .inl (cZ, 81, .inl (fun j => bI (ob j))))] (fun (r : Int32) (u : Nat × (Nat → Bool)) => (saPost x y bv (g * p) dm u.1 u.2 ob r)) (fun (u : Nat × (Nat → Bool)) => [(h, .inr (3, [.int (nI g), .int (nI p), .ref aR, .ref aB, .ref aA, .ref aO, .int (nI dm), .ref aD, .ref aP, .int (nI u.1), .int (nI rm), .ref aS, .ref aW, .ref aU, .ref aL, .ref aE, .ref aQ])), (aO, .inl (cZ, 81, .inl (fun j => bI (u.2 j))))]) := by
  refine Ci_of (cc := cX3_setOtherDays) (maxL := 5) (by decide) rfl (Nat.le_of_ble_eq_true rfl) ?_
  intro pR eV sT mI args below meth cO AA QQ ls hXX hBB hml hown hts hnm hN hK hP hD hS hAA hl hret
  have hl : lv_has ls 5 [(0, .ref h), (1, .int x), (2, .int y), (3, .int (bI bv))] := hl
  have kw_1 := hts (.fieldLink RX3 20 "CupDrawModel" "isOther" "[Z") (List.mem_of_getElem? (i := 1) rfl)
  have iw_X3 : ∀ w ∈ wsX30, w ∈ wsX3_setOtherDays := by decide +kernel
  refine lv_aload_n hXX hBB dX3_setOtherDays_0 rfl (lv_at hl 0 rfl) ?_
  refine lv_iload_n hXX hBB dX3_setOtherDays_1 rfl (lv_at hl 1 rfl) ?_
  refine lv_iload_n hXX hBB dX3_setOtherDays_2 rfl (lv_at hl 2 rfl) ?_
  refine m_calli (wr := [(aO, .inl (cZ, 81, .inl (fun j => bI (ob j))))]) ⟨hXX, hBB, hml, hown, hts⟩ hN (kX3_canPair l D h g p aR aB aA aO dm aD aP th rm aS aW aU aL aE aQ x y (by omega) (by omega) (by omega)) (cwV 2 hts gX3_setOtherDays_X3_canPair rfl rfl rfl (by decide +kernel) ⟨Nat.le_of_ble_eq_true rfl, Nat.le_of_ble_eq_true rfl⟩) hK hP hD hS hAA [0] [1] [] rfl rfl rfl (by decide) (by decide) (by decide) rfl 3 rfl rfl rfl rfl hl.1 rfl (Nat.le_of_ble_eq_true rfl) dX3_setOtherDays_3 ⟨Nat.le_of_ble_eq_true rfl, Nat.le_of_ble_eq_true rfl⟩ (k := 0) (n := 0) rfl rfl (fun r_1 u_ H locs hw hP hD hS => ?_)
  obtain ⟨thq, rfl⟩ : ∃ z, z = u_ := ⟨_, rfl⟩
  have hw : (cpPost x y (g * p) dm thq r_1) := hw
  have e_cp := hw
  have hP : va_P D vwCl [(aO, .inl (cZ, 81, .inl (fun j => bI (ob j)))), (h, .inr (3, [.int (nI g), .int (nI p), .ref aR, .ref aB, .ref aA, .ref aO, .int (nI dm), .ref aD, .ref aP, .int (nI thq), .int (nI rm), .ref aS, .ref aW, .ref aU, .ref aL, .ref aE, .ref aQ]))] H := hP
  have hD : va_D AA [(aO, .inl (cZ, 81, .inl (fun j => bI (ob j)))), (h, .inr (3, [.int (nI g), .int (nI p), .ref aR, .ref aB, .ref aA, .ref aO, .int (nI dm), .ref aD, .ref aP, .int (nI thq), .int (nI rm), .ref aS, .ref aW, .ref aU, .ref aL, .ref aE, .ref aQ]))] := hD
  refine m_top (y := bI (decide (thq = 0))) (by exact e_cp.2) ?_
  refine lv_if_ne (tgt := 11) hXX hBB dX3_setOtherDays_6 (by decide) (fun c_6 => ?_) (fun c_6 => ?_)
  · have c_6 : (decide (thq = 0)) = true := m_bz1 c_6
    have hz : thq = 0 := of_decide_eq_true c_6
    obtain ⟨t, o, hht, hho, hto, hd0, he_t, he_o⟩ := tCP_ok h1 hT (e_cp.1.symm.trans hz)
    have hl : lv_has ls 5 [(0, .ref h), (1, .int (nI t)), (2, .int (nI o)), (3, .int (bI bv))] := by rw [he_t, he_o] at hl; exact hl
    refine lv_aload_n hXX hBB dX3_setOtherDays_11 rfl (lv_at hl 0 rfl) ?_
    refine va_get (D := D) (ci := 3) (v := .ref aO) (C := RX3) (T := TX3) (N := 17) hXX hBB hts iw_X3 hown hK hP 1 rfl rfl 5 (by decide) kw_1 (fun _ h9 => h9) rfl dX3_setOtherDays_12 ?_
    refine lv_bipush (v := nI 9) hXX hBB dX3_setOtherDays_15 (by decide) ?_
    refine lv_iload_n hXX hBB dX3_setOtherDays_17 rfl (lv_at hl 1 rfl) ?_
    refine lv_imul hXX hBB dX3_setOtherDays_18 ?_
    refine m_top (y := nI (9 * t)) (pk_mul _ _) ?_
    refine lv_iload_n hXX hBB dX3_setOtherDays_19 rfl (lv_at hl 2 rfl) ?_
    refine lv_iadd hXX hBB dX3_setOtherDays_20 ?_
    refine m_top (y := nI ((9 * t) + o)) (nI_add _ _) ?_
    refine m_zald hXX hBB hK hP 0 0 rfl rfl (i := (9 * t) + o) (by omega) (by decide) (x := bI (ob ((9 * t) + o))) rfl dX3_setOtherDays_21 ?_
    refine lv_istore (lv' := [(4, .int (bI (ob ((9 * t) + o)))), (0, .ref h), (1, .int (nI t)), (2, .int (nI o)), (3, .int (bI bv))]) hXX hBB dX3_setOtherDays_22 hl (by decide) rfl (fun ls hl => ?_)
    refine lv_aload_n hXX hBB dX3_setOtherDays_24 rfl (lv_at hl 1 rfl) ?_
    refine va_get (D := D) (ci := 3) (v := .ref aO) (C := RX3) (T := TX3) (N := 17) hXX hBB hts iw_X3 hown hK hP 1 rfl rfl 5 (by decide) kw_1 (fun _ h9 => h9) rfl dX3_setOtherDays_25 ?_
    refine lv_bipush (v := nI 9) hXX hBB dX3_setOtherDays_28 (by decide) ?_
    refine lv_iload_n hXX hBB dX3_setOtherDays_30 rfl (lv_at hl 2 rfl) ?_
    refine lv_imul hXX hBB dX3_setOtherDays_31 ?_
    refine m_top (y := nI (9 * t)) (pk_mul _ _) ?_
    refine lv_iload_n hXX hBB dX3_setOtherDays_32 rfl (lv_at hl 3 rfl) ?_
    refine lv_iadd hXX hBB dX3_setOtherDays_33 ?_
    refine m_top (y := nI ((9 * t) + o)) (nI_add _ _) ?_
    refine lv_iload_n hXX hBB dX3_setOtherDays_34 rfl (lv_at hl 4 rfl) ?_
    refine m_zast hXX hBB hK hP hD hS 0 0 rfl rfl (i := (9 * t) + o) (by omega) (by decide) (g := fun j => bI (updB ob ((9 * t) + o) bv j)) (m_updB _ _ _) dX3_setOtherDays_35 (fun H locs hP hD hS => ?_)
    have hP : va_P D vwCl [(aO, .inl (cZ, 81, .inl (fun j => bI (updB ob ((9 * t) + o) bv j)))), (h, .inr (3, [.int (nI g), .int (nI p), .ref aR, .ref aB, .ref aA, .ref aO, .int (nI dm), .ref aD, .ref aP, .int (nI thq), .int (nI rm), .ref aS, .ref aW, .ref aU, .ref aL, .ref aE, .ref aQ]))] H := hP
    have hD : va_D AA [(aO, .inl (cZ, 81, .inl (fun j => bI (updB ob ((9 * t) + o) bv j)))), (h, .inr (3, [.int (nI g), .int (nI p), .ref aR, .ref aB, .ref aA, .ref aO, .int (nI dm), .ref aD, .ref aP, .int (nI thq), .int (nI rm), .ref aS, .ref aW, .ref aU, .ref aL, .ref aE, .ref aQ]))] := hD
    refine lv_aload_n hXX hBB dX3_setOtherDays_36 rfl (lv_at hl 1 rfl) ?_
    refine va_get (D := D) (ci := 3) (v := .ref aO) (C := RX3) (T := TX3) (N := 17) hXX hBB hts iw_X3 hown hK hP 1 rfl rfl 5 (by decide) kw_1 (fun _ h9 => h9) rfl dX3_setOtherDays_37 ?_
    refine lv_bipush (v := nI 9) hXX hBB dX3_setOtherDays_40 (by decide) ?_
    refine lv_iload_n hXX hBB dX3_setOtherDays_42 rfl (lv_at hl 3 rfl) ?_
    refine lv_imul hXX hBB dX3_setOtherDays_43 ?_
    refine m_top (y := nI (9 * o)) (pk_mul _ _) ?_
    refine lv_iload_n hXX hBB dX3_setOtherDays_44 rfl (lv_at hl 2 rfl) ?_
    refine lv_iadd hXX hBB dX3_setOtherDays_45 ?_
    refine m_top (y := nI ((9 * o) + t)) (nI_add _ _) ?_
    refine lv_iload_n hXX hBB dX3_setOtherDays_46 rfl (lv_at hl 4 rfl) ?_
    refine m_zast hXX hBB hK hP hD hS 0 0 rfl rfl (i := (9 * o) + t) (by omega) (by decide) (g := fun j => bI (updB (updB ob ((9 * t) + o) bv) ((9 * o) + t) bv j)) (m_updB _ _ _) dX3_setOtherDays_47 (fun H locs hP hD hS => ?_)
    have hP : va_P D vwCl [(aO, .inl (cZ, 81, .inl (fun j => bI (updB (updB ob ((9 * t) + o) bv) ((9 * o) + t) bv j)))), (h, .inr (3, [.int (nI g), .int (nI p), .ref aR, .ref aB, .ref aA, .ref aO, .int (nI dm), .ref aD, .ref aP, .int (nI thq), .int (nI rm), .ref aS, .ref aW, .ref aU, .ref aL, .ref aE, .ref aQ]))] H := hP
    have hD : va_D AA [(aO, .inl (cZ, 81, .inl (fun j => bI (updB (updB ob ((9 * t) + o) bv) ((9 * o) + t) bv j)))), (h, .inr (3, [.int (nI g), .int (nI p), .ref aR, .ref aB, .ref aA, .ref aO, .int (nI dm), .ref aD, .ref aP, .int (nI thq), .int (nI rm), .ref aS, .ref aW, .ref aU, .ref aL, .ref aE, .ref aQ]))] := hD
    refine lv_iload hXX hBB dX3_setOtherDays_48 (lv_at hl 0 rfl) ?_
    refine hret (r := bI (ob ((9 * t) + o))) (thq, updB (updB ob ((9 * t) + o) bv) ((9 * o) + t) bv) ?_ (m_narb _) (hP.sub [1, 0] rfl) (hD.sub [1, 0] (by decide) rfl) hS (Nat.le_of_ble_eq_true rfl) (Nat.le_of_ble_eq_true rfl) dX3_setOtherDays_50
    show (saPost x y bv (g * p) dm thq (updB (updB ob ((9 * t) + o) bv) ((9 * o) + t) bv) ob (bI (ob ((9 * t) + o))))
    exact ⟨e_cp.1, fun _ => ⟨t, o, by omega, by omega, hto, hd0, he_t, he_o, rfl, rfl⟩, fun q => absurd hz q⟩
  · have c_6 : (decide (thq = 0)) = false := m_bz0 c_6
    refine lv_iconst (v := nI 0) hXX hBB dX3_setOtherDays_9 (by decide) ?_
    refine hret (r := nI 0) (thq, ob) ?_ (rfl) (hP.sub [1, 0] rfl) (hD.sub [1, 0] (by decide) rfl) hS (Nat.le_of_ble_eq_true rfl) (Nat.le_of_ble_eq_true rfl) dX3_setOtherDays_10
    show (saPost x y bv (g * p) dm thq ob ob (nI 0))
    exact ⟨e_cp.1, fun q => absurd q (of_decide_eq_false c_6), fun _ => rfl⟩
abbrev rmX3_potNow : Room := { frames := 1, cells := 0, slots := 0, locals := 20 }
set_option maxHeartbeats 4000000 in
set_option maxRecDepth 100000 in
theorem kX3_potNow (l : Launch) (D : va_G) (h : Nat) (g : Nat) (p : Nat) (aR : Nat) (aB : Nat) (aA : Nat) (aO : Nat) (dm : Nat) (aD : Nat) (aP : Nat) (th : Nat) (rm : Nat) (aS : Nat) (aW : Nat) (aU : Nat) (aL : Nat) (aE : Nat) (aQ : Nat) (hdm : dm ≤ 9) (hg0 : 0 < g) (hg4 : g ≤ 4) (hT : g * p ≤ 9) : Ci l yX3_potNow wsX3_potNow rmX3_potNow D [] [.ref h] [(h, .inr (3, [.int (nI g), .int (nI p), .ref aR, .ref aB, .ref aA, .ref aO, .int (nI dm), .ref aD, .ref aP, .int (nI th), .int (nI rm), .ref aS, .ref aW, .ref aU, .ref aL, .ref aE, .ref aQ]))] (fun (r : Int32) (_ : Unit) => r = poR dm g p) (fun (_ : Unit) => [(h, .inr (3, [.int (nI g), .int (nI p), .ref aR, .ref aB, .ref aA, .ref aO, .int (nI dm), .ref aD, .ref aP, .int (nI th), .int (nI rm), .ref aS, .ref aW, .ref aU, .ref aL, .ref aE, .ref aQ]))]) := by
  refine Ci_of (cc := cX3_potNow) (maxL := 1) (by decide) rfl (Nat.le_of_ble_eq_true rfl) ?_
  intro pR eV sT mI args below meth cO AA QQ ls hXX hBB hml hown hts hnm hN hK hP hD hS hAA hl hret
  have hl : lv_has ls 1 [(0, .ref h)] := hl
  have kw_1 := hts (.fieldLink RX3 61 "CupDrawModel" "drawnMany" "I") (List.mem_of_getElem? (i := 1) rfl)
  have iw_X3 : ∀ w ∈ wsX30, w ∈ wsX3_potNow := by decide +kernel
  have kw_2 := hts (.fieldLink RX3 55 "CupDrawModel" "groupMany" "I") (List.mem_of_getElem? (i := 2) rfl)
  refine lv_aload_n hXX hBB dX3_potNow_0 rfl (lv_at hl 0 rfl) ?_
  refine va_get (D := D) (ci := 3) (v := .int (nI dm)) (C := RX3) (T := TX3) (N := 17) hXX hBB hts iw_X3 hown hK hP 0 rfl rfl 6 (by decide) kw_1 (fun _ h9 => h9) rfl dX3_potNow_1 ?_
  refine lv_aload_n hXX hBB dX3_potNow_4 rfl (lv_at hl 0 rfl) ?_
  refine m_calli (wr := []) ⟨hXX, hBB, hml, hown, hts⟩ hN (kX3_teamMany l D h g p aR aB aA aO dm aD aP th rm aS aW aU aL aE aQ) (cwV 0 hts gX3_potNow_X3_teamMany rfl rfl rfl (by decide +kernel) ⟨Nat.le_of_ble_eq_true rfl, Nat.le_of_ble_eq_true rfl⟩) hK hP hD hS hAA [0] [] [] rfl rfl rfl (by decide) (by decide) (by decide) rfl 3 rfl rfl rfl rfl hl.1 rfl (Nat.le_of_ble_eq_true rfl) dX3_potNow_5 ⟨Nat.le_of_ble_eq_true rfl, Nat.le_of_ble_eq_true rfl⟩ (k := 0) (n := 0) rfl rfl (fun r_1 u_ H locs hw hP hD hS => ?_)
  have hw : (r_1 = nI (g * p)) := hw
  have hr_r_1 := hw
  have hP : va_P D vwCl [(h, .inr (3, [.int (nI g), .int (nI p), .ref aR, .ref aB, .ref aA, .ref aO, .int (nI dm), .ref aD, .ref aP, .int (nI th), .int (nI rm), .ref aS, .ref aW, .ref aU, .ref aL, .ref aE, .ref aQ]))] H := hP
  have hD : va_D AA [(h, .inr (3, [.int (nI g), .int (nI p), .ref aR, .ref aB, .ref aA, .ref aO, .int (nI dm), .ref aD, .ref aP, .int (nI th), .int (nI rm), .ref aS, .ref aW, .ref aU, .ref aL, .ref aE, .ref aQ]))] := hD
  subst hr_r_1
  refine lv_icmp_ne (tgt := 15) hXX hBB dX3_potNow_8 (by decide) (fun c_8 => ?_) (fun c_8 => ?_)
  · have c_8 : ¬ dm = (g * p) := fun h9 => c_8 ((nI_eq (by omega) (by omega)).mpr h9)
    refine lv_aload_n hXX hBB dX3_potNow_15 rfl (lv_at hl 0 rfl) ?_
    refine va_get (D := D) (ci := 3) (v := .int (nI dm)) (C := RX3) (T := TX3) (N := 17) hXX hBB hts iw_X3 hown hK hP 0 rfl rfl 6 (by decide) kw_1 (fun _ h9 => h9) rfl dX3_potNow_16 ?_
    refine lv_aload_n hXX hBB dX3_potNow_19 rfl (lv_at hl 0 rfl) ?_
    refine va_get (D := D) (ci := 3) (v := .int (nI g)) (C := RX3) (T := TX3) (N := 17) hXX hBB hts iw_X3 hown hK hP 0 rfl rfl 0 (by decide) kw_2 (fun _ h9 => h9) rfl dX3_potNow_20 ?_
    refine lv_idiv hXX hBB dX3_potNow_23 (nI_ne0 (by omega) (by omega)) ?_
    refine m_top (y := nI (dm / g)) (pk_div (by omega) (by omega) (by omega)) ?_
    refine hret (r := nI (dm / g)) () ?_ (rfl) (hP.sub [0] rfl) (hD.sub [0] (by decide) rfl) hS (Nat.le_of_ble_eq_true rfl) (Nat.le_of_ble_eq_true rfl) dX3_potNow_24
    show nI (dm / g) = poR dm g p
    first | exact poR_1 c_8 | exact poR_2 c_8
  · have c_8 : dm = (g * p) := (nI_eq (by omega) (by omega)).mp c_8
    refine lv_iconst (v := (-1)) hXX hBB dX3_potNow_11 (by decide) ?_
    refine lv_goto (tgt := 24) hXX hBB dX3_potNow_12 (by decide) ?_
    refine hret (r := (-1)) () ?_ (rfl) (hP.sub [0] rfl) (hD.sub [0] (by decide) rfl) hS (Nat.le_of_ble_eq_true rfl) (Nat.le_of_ble_eq_true rfl) dX3_potNow_24
    show (-1) = poR dm g p
    first | exact poR_1 c_8 | exact poR_2 c_8
abbrev rmX3_leftNow : Room := { frames := 1, cells := 0, slots := 0, locals := 20 }
set_option maxHeartbeats 4000000 in
set_option maxRecDepth 100000 in
theorem kX3_leftNow (l : Launch) (D : va_G) (h : Nat) (g : Nat) (p : Nat) (aR : Nat) (aB : Nat) (aA : Nat) (aO : Nat) (dm : Nat) (aD : Nat) (aP : Nat) (th : Nat) (rm : Nat) (aS : Nat) (aW : Nat) (aU : Nat) (aL : Nat) (aE : Nat) (aQ : Nat) (hdm : dm ≤ 9) (hg0 : 0 < g) (hg4 : g ≤ 4) (hT : g * p ≤ 9) : Ci l yX3_leftNow wsX3_leftNow rmX3_leftNow D [] [.ref h] [(h, .inr (3, [.int (nI g), .int (nI p), .ref aR, .ref aB, .ref aA, .ref aO, .int (nI dm), .ref aD, .ref aP, .int (nI th), .int (nI rm), .ref aS, .ref aW, .ref aU, .ref aL, .ref aE, .ref aQ]))] (fun (r : Int32) (_ : Unit) => r = nI (leN dm g p)) (fun (_ : Unit) => [(h, .inr (3, [.int (nI g), .int (nI p), .ref aR, .ref aB, .ref aA, .ref aO, .int (nI dm), .ref aD, .ref aP, .int (nI th), .int (nI rm), .ref aS, .ref aW, .ref aU, .ref aL, .ref aE, .ref aQ]))]) := by
  refine Ci_of (cc := cX3_leftNow) (maxL := 1) (by decide) rfl (Nat.le_of_ble_eq_true rfl) ?_
  intro pR eV sT mI args below meth cO AA QQ ls hXX hBB hml hown hts hnm hN hK hP hD hS hAA hl hret
  have hl : lv_has ls 1 [(0, .ref h)] := hl
  have kw_1 := hts (.fieldLink RX3 61 "CupDrawModel" "drawnMany" "I") (List.mem_of_getElem? (i := 1) rfl)
  have iw_X3 : ∀ w ∈ wsX30, w ∈ wsX3_leftNow := by decide +kernel
  have kw_2 := hts (.fieldLink RX3 55 "CupDrawModel" "groupMany" "I") (List.mem_of_getElem? (i := 2) rfl)
  refine lv_aload_n hXX hBB dX3_leftNow_0 rfl (lv_at hl 0 rfl) ?_
  refine va_get (D := D) (ci := 3) (v := .int (nI dm)) (C := RX3) (T := TX3) (N := 17) hXX hBB hts iw_X3 hown hK hP 0 rfl rfl 6 (by decide) kw_1 (fun _ h9 => h9) rfl dX3_leftNow_1 ?_
  refine lv_aload_n hXX hBB dX3_leftNow_4 rfl (lv_at hl 0 rfl) ?_
  refine m_calli (wr := []) ⟨hXX, hBB, hml, hown, hts⟩ hN (kX3_teamMany l D h g p aR aB aA aO dm aD aP th rm aS aW aU aL aE aQ) (cwV 0 hts gX3_leftNow_X3_teamMany rfl rfl rfl (by decide +kernel) ⟨Nat.le_of_ble_eq_true rfl, Nat.le_of_ble_eq_true rfl⟩) hK hP hD hS hAA [0] [] [] rfl rfl rfl (by decide) (by decide) (by decide) rfl 3 rfl rfl rfl rfl hl.1 rfl (Nat.le_of_ble_eq_true rfl) dX3_leftNow_5 ⟨Nat.le_of_ble_eq_true rfl, Nat.le_of_ble_eq_true rfl⟩ (k := 0) (n := 0) rfl rfl (fun r_1 u_ H locs hw hP hD hS => ?_)
  have hw : (r_1 = nI (g * p)) := hw
  have hr_r_1 := hw
  have hP : va_P D vwCl [(h, .inr (3, [.int (nI g), .int (nI p), .ref aR, .ref aB, .ref aA, .ref aO, .int (nI dm), .ref aD, .ref aP, .int (nI th), .int (nI rm), .ref aS, .ref aW, .ref aU, .ref aL, .ref aE, .ref aQ]))] H := hP
  have hD : va_D AA [(h, .inr (3, [.int (nI g), .int (nI p), .ref aR, .ref aB, .ref aA, .ref aO, .int (nI dm), .ref aD, .ref aP, .int (nI th), .int (nI rm), .ref aS, .ref aW, .ref aU, .ref aL, .ref aE, .ref aQ]))] := hD
  subst hr_r_1
  refine lv_icmp_ne (tgt := 15) hXX hBB dX3_leftNow_8 (by decide) (fun c_8 => ?_) (fun c_8 => ?_)
  · have c_8 : ¬ dm = (g * p) := fun h9 => c_8 ((nI_eq (by omega) (by omega)).mpr h9)
    have hml9 : dm % g < g := Nat.mod_lt _ hg0
    refine lv_aload_n hXX hBB dX3_leftNow_15 rfl (lv_at hl 0 rfl) ?_
    refine va_get (D := D) (ci := 3) (v := .int (nI g)) (C := RX3) (T := TX3) (N := 17) hXX hBB hts iw_X3 hown hK hP 0 rfl rfl 0 (by decide) kw_2 (fun _ h9 => h9) rfl dX3_leftNow_16 ?_
    refine lv_aload_n hXX hBB dX3_leftNow_19 rfl (lv_at hl 0 rfl) ?_
    refine va_get (D := D) (ci := 3) (v := .int (nI dm)) (C := RX3) (T := TX3) (N := 17) hXX hBB hts iw_X3 hown hK hP 0 rfl rfl 6 (by decide) kw_1 (fun _ h9 => h9) rfl dX3_leftNow_20 ?_
    refine lv_aload_n hXX hBB dX3_leftNow_23 rfl (lv_at hl 0 rfl) ?_
    refine va_get (D := D) (ci := 3) (v := .int (nI g)) (C := RX3) (T := TX3) (N := 17) hXX hBB hts iw_X3 hown hK hP 0 rfl rfl 0 (by decide) kw_2 (fun _ h9 => h9) rfl dX3_leftNow_24 ?_
    refine lv_irem hXX hBB dX3_leftNow_27 (nI_ne0 (by omega) (by omega)) ?_
    refine m_top (y := nI (dm % g)) (pk_rem (by omega) (by omega) (by omega)) ?_
    refine lv_isub hXX hBB dX3_leftNow_28 ?_
    refine m_top (y := nI (g - (dm % g))) (pk_sub (by omega)) ?_
    refine hret (r := nI (g - (dm % g))) () ?_ (rfl) (hP.sub [0] rfl) (hD.sub [0] (by decide) rfl) hS (Nat.le_of_ble_eq_true rfl) (Nat.le_of_ble_eq_true rfl) dX3_leftNow_29
    show nI (g - (dm % g)) = nI (leN dm g p)
    first | exact leN_1 c_8 | exact leN_2 c_8
  · have c_8 : dm = (g * p) := (nI_eq (by omega) (by omega)).mp c_8
    refine lv_iconst (v := nI 0) hXX hBB dX3_leftNow_11 (by decide) ?_
    refine lv_goto (tgt := 29) hXX hBB dX3_leftNow_12 (by decide) ?_
    refine hret (r := nI 0) () ?_ (rfl) (hP.sub [0] rfl) (hD.sub [0] (by decide) rfl) hS (Nat.le_of_ble_eq_true rfl) (Nat.le_of_ble_eq_true rfl) dX3_leftNow_29
    show nI 0 = nI (leN dm g p)
    first | exact leN_1 c_8 | exact leN_2 c_8
abbrev rmX3_ball : Room := { frames := 0, cells := 0, slots := 0, locals := 0 }
set_option maxHeartbeats 4000000 in
set_option maxRecDepth 100000 in
theorem kX3_ball (l : Launch) (D : va_G) (cI : ClassId) (h : Nat) (g : Nat) (p : Nat) (aR : Nat) (aB : Nat) (aA : Nat) (aO : Nat) (dm : Nat) (aD : Nat) (aP : Nat) (th : Nat) (rm : Nat) (aS : Nat) (aW : Nat) (aU : Nat) (aL : Nat) (aE : Nat) (aQ : Nat) (S : Nat → Int32) (q : Nat) (k : Nat) (hg0 : 0 < g) (hg4 : g ≤ 4) (hq : g * (q + 1) ≤ 9) (hk : k < 2 ^ 31) : Ci l yX3_ball wsX3_ball rmX3_ball D [(cI, .int)] [.ref h, .int (nI q), .int (nI k)] [(h, .inr (3, [.int (nI g), .int (nI p), .ref aR, .ref aB, .ref aA, .ref aO, .int (nI dm), .ref aD, .ref aP, .int (nI th), .int (nI rm), .ref aS, .ref aW, .ref aU, .ref aL, .ref aE, .ref aQ])), (aP, .inl (cI, 9, .inl S))] (fun (r : Int32) (_ : Unit) => r = nth S g (g * q) k) (fun (_ : Unit) => [(h, .inr (3, [.int (nI g), .int (nI p), .ref aR, .ref aB, .ref aA, .ref aO, .int (nI dm), .ref aD, .ref aP, .int (nI th), .int (nI rm), .ref aS, .ref aW, .ref aU, .ref aL, .ref aE, .ref aQ])), (aP, .inl (cI, 9, .inl S))]) := by
  refine Ci_of (cc := cX3_ball) (maxL := 5) (by decide) rfl (Nat.le_of_ble_eq_true rfl) ?_
  intro pR eV sT mI args below meth cO AA QQ ls hXX hBB hml hown hts hnm hN hK hP hD hS hAA hl hret
  have hl : lv_has ls 5 [(0, .ref h), (1, .int (nI q)), (2, .int (nI k))] := hl
  have hms : g * (q + 1) = g * q + g := Nat.mul_succ g q
  have kw_1 := hts (.fieldLink RX3 55 "CupDrawModel" "groupMany" "I") (List.mem_of_getElem? (i := 1) rfl)
  have iw_X3 : ∀ w ∈ wsX30, w ∈ wsX3_ball := by decide +kernel
  have kw_2 := hts (.fieldLink RX3 26 "CupDrawModel" "places" "[I") (List.mem_of_getElem? (i := 2) rfl)
  refine lv_iload_n hXX hBB dX3_ball_0 rfl (lv_at hl 2 rfl) ?_
  refine lv_istore_n (lv' := [(3, .int (nI k)), (0, .ref h), (1, .int (nI q)), (2, .int (nI k))]) hXX hBB dX3_ball_1 rfl hl (by decide) rfl (fun ls hl => ?_)
  refine lv_aload_n hXX hBB dX3_ball_2 rfl (lv_at hl 1 rfl) ?_
  refine va_get (D := D) (ci := 3) (v := .int (nI g)) (C := RX3) (T := TX3) (N := 17) hXX hBB hts iw_X3 hown hK hP 0 rfl rfl 0 (by decide) kw_1 (fun _ h9 => h9) rfl dX3_ball_3 ?_
  refine lv_iload_n hXX hBB dX3_ball_6 rfl (lv_at hl 2 rfl) ?_
  refine lv_imul hXX hBB dX3_ball_7 ?_
  refine m_top (y := nI (g * q)) (pk_mul _ _) ?_
  refine lv_istore (lv' := [(4, .int (nI (g * q))), (3, .int (nI k)), (0, .ref h), (1, .int (nI q)), (2, .int (nI k))]) hXX hBB dX3_ball_8 hl (by decide) rfl (fun ls hl => ?_)
  have L_10 : ∀ (N_10 : Nat) (t : Nat) (lq : Nat), (g * q ≤ t ∧ t ≤ g * q + g) → (lq < 2 ^ 31) → (nth S (g * q + g - t) t lq = nth S g (g * q) k) → g * q + g - t < N_10 → ∀ (H : Heap) (locs : List Loc), va_P D vwCl [(h, .inr (3, [.int (nI g), .int (nI p), .ref aR, .ref aB, .ref aA, .ref aO, .int (nI dm), .ref aD, .ref aP, .int (nI th), .int (nI rm), .ref aS, .ref aW, .ref aU, .ref aL, .ref aE, .ref aQ])), (aP, .inl (cI, 9, .inl S))] H → va_D AA [(h, .inr (3, [.int (nI g), .int (nI p), .ref aR, .ref aB, .ref aA, .ref aO, .int (nI dm), .ref aD, .ref aP, .int (nI th), .int (nI rm), .ref aS, .ref aW, .ref aU, .ref aL, .ref aE, .ref aQ])), (aP, .inl (cI, 9, .inl S))] → va_S AA sT.heap H locs → ∀ (ls : Array Slot), lv_has ls 5 [(4, .int (nI t)), (3, .int (nI lq)), (0, .ref h), (1, .int (nI q)), (2, .int (nI k))] → W pR l eV rmX3_ball sT mI args below meth cO H locs 0 0 QQ (F0 mI 10 ls []) := by
    intro N_10
    induction N_10 with
    | zero =>
      intro t lq ht hlq hr hMM
      exact absurd hMM (Nat.not_lt_zero _)
    | succ N_10 ih_10 =>
      intro t lq ht hlq hr hMM H locs hP hD hS ls hl
      refine lv_iload hXX hBB dX3_ball_10 (lv_at hl 0 rfl) ?_
      refine lv_aload_n hXX hBB dX3_ball_12 rfl (lv_at hl 2 rfl) ?_
      refine va_get (D := D) (ci := 3) (v := .int (nI g)) (C := RX3) (T := TX3) (N := 17) hXX hBB hts iw_X3 hown hK hP 0 rfl rfl 0 (by decide) kw_1 (fun _ h9 => h9) rfl dX3_ball_13 ?_
      refine lv_iload_n hXX hBB dX3_ball_16 rfl (lv_at hl 3 rfl) ?_
      refine lv_iconst (v := nI 1) hXX hBB dX3_ball_17 (by decide) ?_
      refine lv_iadd hXX hBB dX3_ball_18 ?_
      refine m_top (y := nI (q + 1)) (nI_add _ _) ?_
      refine lv_imul hXX hBB dX3_ball_19 ?_
      refine m_top (y := nI (g * (q + 1))) (pk_mul _ _) ?_
      refine lv_icmp_ge (tgt := 54) hXX hBB dX3_ball_20 (by decide) (fun c_20 => ?_) (fun c_20 => ?_)
      · have c_20 : (g * (q + 1)) ≤ t := (nI_leI (by omega) (by omega)).mp c_20
        rw [show g * q + g - t = 0 by omega] at hr
        refine lv_iconst (v := (-1)) hXX hBB dX3_ball_54 (by decide) ?_
        refine hret (r := (-1)) () ?_ (rfl) (hP.sub [0, 1] rfl) (hD.sub [0, 1] (by decide) rfl) hS (Nat.le_of_ble_eq_true rfl) (Nat.le_of_ble_eq_true rfl) dX3_ball_55
        show (-1) = nth S g (g * q) k
        exact hr
      · have c_20 : ¬ (g * (q + 1)) ≤ t := fun h9 => c_20 ((nI_leI (by omega) (by omega)).mpr h9)
        obtain ⟨z, hz⟩ : ∃ z, g * q + g - t = z + 1 := ⟨g * q + g - t - 1, by omega⟩
        rw [hz] at hr
        simp only [nth] at hr
        refine lv_iload_n hXX hBB dX3_ball_23 rfl (lv_at hl 4 rfl) ?_
        refine lv_if_lt (tgt := 54) hXX hBB dX3_ball_24 (by decide) (fun c_24 => ?_) (fun c_24 => ?_)
        · have c_24 := c_24
          exact absurd c_24 (nI_pos hk)
        · have c_24 := c_24
          refine lv_aload_n hXX hBB dX3_ball_27 rfl (lv_at hl 2 rfl) ?_
          refine va_get (D := D) (ci := 3) (v := .ref aP) (C := RX3) (T := TX3) (N := 17) hXX hBB hts iw_X3 hown hK hP 0 rfl rfl 8 (by decide) kw_2 (fun _ h9 => h9) rfl dX3_ball_28 ?_
          refine lv_iload hXX hBB dX3_ball_31 (lv_at hl 0 rfl) ?_
          refine m_iald hXX hBB hK hP 1 0 rfl rfl (i := t) (by omega) (by decide) (x := S t) rfl dX3_ball_33 ?_
          refine lv_iconst (v := (-1)) hXX hBB dX3_ball_34 (by decide) ?_
          refine lv_icmp_ne (tgt := 48) hXX hBB dX3_ball_35 (by decide) (fun c_35 => ?_) (fun c_35 => ?_)
          · have c_35 := c_35
            rw [if_neg c_35] at hr
            have hst : nth S (g * q + g - (t + 1)) (t + 1) lq = nth S g (g * q) k := by rw [show g * q + g - (t + 1) = z by omega]; exact hr
            refine lv_iinc (v := nI (t + 1)) (lv' := [(4, .int (nI (t + 1))), (3, .int (nI lq)), (0, .ref h), (1, .int (nI q)), (2, .int (nI k))]) hXX hBB dX3_ball_48 hl (k := 0) rfl (nI_1 _) (by decide) rfl (fun ls hl => ?_)
            refine lv_goto (tgt := 10) hXX hBB dX3_ball_51 (by decide) ?_
            have hi_t : g * q ≤ (t + 1) ∧ (t + 1) ≤ g * q + g := by omega
            have hi_lq : lq < 2 ^ 31 := by omega
            have hi_r : nth S (g * q + g - (t + 1)) (t + 1) lq = nth S g (g * q) k := by exact hst
            have hmm : g * q + g - (t + 1) < N_10 := by omega
            exact ih_10 (t + 1) lq hi_t hi_lq hi_r hmm _ _ (hP.sub [0, 1] rfl) (hD.sub [0, 1] (by decide) rfl) hS ls (lv_sub hl [0, 1, 2, 3, 4] rfl)
          · have c_35 := c_35
            rw [if_pos c_35] at hr
            refine lv_iload_n hXX hBB dX3_ball_38 rfl (lv_at hl 1 rfl) ?_
            refine lv_if_ne (tgt := 45) hXX hBB dX3_ball_39 (by decide) (fun c_39 => ?_) (fun c_39 => ?_)
            · have c_39 : ¬ lq = 0 := fun h9 => c_39 ((m_z (by omega)).mpr h9)
              rw [if_neg c_39] at hr
              have hst : nth S (g * q + g - (t + 1)) (t + 1) (lq - 1) = nth S g (g * q) k := by rw [show g * q + g - (t + 1) = z by omega]; exact hr
              refine lv_iinc (v := nI (lq - 1)) (lv' := [(3, .int (nI (lq - 1))), (4, .int (nI t)), (0, .ref h), (1, .int (nI q)), (2, .int (nI k))]) hXX hBB dX3_ball_45 hl (k := 1) rfl (m_dec (by omega)) (by decide) rfl (fun ls hl => ?_)
              refine lv_iinc (v := nI (t + 1)) (lv' := [(4, .int (nI (t + 1))), (3, .int (nI (lq - 1))), (0, .ref h), (1, .int (nI q)), (2, .int (nI k))]) hXX hBB dX3_ball_48 hl (k := 1) rfl (nI_1 _) (by decide) rfl (fun ls hl => ?_)
              refine lv_goto (tgt := 10) hXX hBB dX3_ball_51 (by decide) ?_
              have hi_t : g * q ≤ (t + 1) ∧ (t + 1) ≤ g * q + g := by omega
              have hi_lq : (lq - 1) < 2 ^ 31 := by omega
              have hi_r : nth S (g * q + g - (t + 1)) (t + 1) (lq - 1) = nth S g (g * q) k := by exact hst
              have hmm : g * q + g - (t + 1) < N_10 := by omega
              exact ih_10 (t + 1) (lq - 1) hi_t hi_lq hi_r hmm _ _ (hP.sub [0, 1] rfl) (hD.sub [0, 1] (by decide) rfl) hS ls (lv_sub hl [0, 1, 2, 3, 4] rfl)
            · have c_39 : lq = 0 := (m_z (by omega)).mp c_39
              rw [if_pos c_39] at hr
              refine lv_iload hXX hBB dX3_ball_42 (lv_at hl 0 rfl) ?_
              refine hret (r := nI t) () ?_ (rfl) (hP.sub [0, 1] rfl) (hD.sub [0, 1] (by decide) rfl) hS (Nat.le_of_ble_eq_true rfl) (Nat.le_of_ble_eq_true rfl) dX3_ball_44
              show nI t = nth S g (g * q) k
              exact hr
  have hi_t : g * q ≤ (g * q) ∧ (g * q) ≤ g * q + g := by omega
  have hi_lq : k < 2 ^ 31 := by exact hk
  have hi_r : nth S (g * q + g - (g * q)) (g * q) k = nth S g (g * q) k := by rw [show g * q + g - g * q = g by omega]
  exact L_10 _ (g * q) k hi_t hi_lq hi_r (Nat.lt_succ_self _) _ _ hP hD hS ls (lv_sub hl [0, 1, 2, 3, 4] rfl)
abbrev rmX3_undo : Room := { frames := 0, cells := 0, slots := 0, locals := 0 }
set_option maxHeartbeats 4000000 in
set_option maxRecDepth 100000 in
theorem kX3_undo (l : Launch) (D : va_G) (cI : ClassId) (h : Nat) (g : Nat) (p : Nat) (aR : Nat) (aB : Nat) (aA : Nat) (aO : Nat) (dm : Nat) (aD : Nat) (aP : Nat) (th : Nat) (rm : Nat) (aS : Nat) (aW : Nat) (aU : Nat) (aL : Nat) (aE : Nat) (aQ : Nat) (dt : Nat → Nat) (S : Nat → Int32) (hdm : dm ≤ 9) (hdt : ∀ z, z < 9 → dt z < 9) : Ci l yX3_undo wsX3_undo rmX3_undo D [(cI, .int)] [.ref h] [(h, .inr (3, [.int (nI g), .int (nI p), .ref aR, .ref aB, .ref aA, .ref aO, .int (nI dm), .ref aD, .ref aP, .int (nI th), .int (nI rm), .ref aS, .ref aW, .ref aU, .ref aL, .ref aE, .ref aQ])), (aD, .inl (cI, 9, .inl (fun j => nI (dt j)))), (aP, .inl (cI, 9, .inl S))] (fun (r : Int32) (u : Nat × Nat × (Nat → Int32)) => (udPost dm u.1 u.2.1 u.2.2 S dt r)) (fun (u : Nat × Nat × (Nat → Int32)) => [(h, .inr (3, [.int (nI g), .int (nI p), .ref aR, .ref aB, .ref aA, .ref aO, .int (nI u.2.1), .ref aD, .ref aP, .int (nI u.1), .int (nI rm), .ref aS, .ref aW, .ref aU, .ref aL, .ref aE, .ref aQ])), (aD, .inl (cI, 9, .inl (fun j => nI (dt j)))), (aP, .inl (cI, 9, .inl u.2.2))]) := by
  refine Ci_of (cc := cX3_undo) (maxL := 1) (by decide) rfl (Nat.le_of_ble_eq_true rfl) ?_
  intro pR eV sT mI args below meth cO AA QQ ls hXX hBB hml hown hts hnm hN hK hP hD hS hAA hl hret
  have hl : lv_has ls 1 [(0, .ref h)] := hl
  have kw_1 := hts (.fieldLink RX3 61 "CupDrawModel" "drawnMany" "I") (List.mem_of_getElem? (i := 1) rfl)
  have iw_X3 : ∀ w ∈ wsX30, w ∈ wsX3_undo := by decide +kernel
  have kw_2 := hts (.fieldLink RX3 51 "CupDrawModel" "thrown" "I") (List.mem_of_getElem? (i := 2) rfl)
  have kw_3 := hts (.fieldLink RX3 26 "CupDrawModel" "places" "[I") (List.mem_of_getElem? (i := 3) rfl)
  have kw_4 := hts (.fieldLink RX3 23 "CupDrawModel" "drawnTeams" "[I") (List.mem_of_getElem? (i := 4) rfl)
  refine lv_aload_n hXX hBB dX3_undo_0 rfl (lv_at hl 0 rfl) ?_
  refine lv_aload_n hXX hBB dX3_undo_1 rfl (lv_at hl 0 rfl) ?_
  refine va_get (D := D) (ci := 3) (v := .int (nI dm)) (C := RX3) (T := TX3) (N := 17) hXX hBB hts iw_X3 hown hK hP 0 rfl rfl 6 (by decide) kw_1 (fun _ h9 => h9) rfl dX3_undo_2 ?_
  refine lv_if_ne (tgt := 12) hXX hBB dX3_undo_5 (by decide) (fun c_5 => ?_) (fun c_5 => ?_)
  · have c_5 : ¬ dm = 0 := fun h9 => c_5 ((m_z (by omega)).mpr h9)
    refine lv_iconst (v := nI 0) hXX hBB dX3_undo_12 (by decide) ?_
    refine va_put (D := D) (ci := 3) (v := .int (nI 0)) (ty := .int) (C := RX3) (T := TX3) (N := 17) hXX hBB hts iw_X3 tyX3 tyX3_ok nmX3 hown hK hP hD hS 0 rfl rfl 9 (by decide) kw_2 (fun _ h9 => h9) rfl (by decide +kernel) (rfl) (rfl) (Nat.le_of_ble_eq_true rfl) dX3_undo_13 (fun H locs hP hD hS => ?_)
    have hP : va_P D vwCl [(h, .inr (3, [.int (nI g), .int (nI p), .ref aR, .ref aB, .ref aA, .ref aO, .int (nI dm), .ref aD, .ref aP, .int (nI 0), .int (nI rm), .ref aS, .ref aW, .ref aU, .ref aL, .ref aE, .ref aQ])), (aD, .inl (cI, 9, .inl (fun j => nI (dt j)))), (aP, .inl (cI, 9, .inl S))] H := hP
    have hD : va_D AA [(h, .inr (3, [.int (nI g), .int (nI p), .ref aR, .ref aB, .ref aA, .ref aO, .int (nI dm), .ref aD, .ref aP, .int (nI 0), .int (nI rm), .ref aS, .ref aW, .ref aU, .ref aL, .ref aE, .ref aQ])), (aD, .inl (cI, 9, .inl (fun j => nI (dt j)))), (aP, .inl (cI, 9, .inl S))] := hD
    refine lv_aload_n hXX hBB dX3_undo_16 rfl (lv_at hl 0 rfl) ?_
    refine va_get (D := D) (ci := 3) (v := .int (nI 0)) (C := RX3) (T := TX3) (N := 17) hXX hBB hts iw_X3 hown hK hP 0 rfl rfl 9 (by decide) kw_2 (fun _ h9 => h9) rfl dX3_undo_17 ?_
    refine lv_if_le (tgt := 25) hXX hBB dX3_undo_20 (by decide) (fun c_20 => ?_) (fun c_20 => ?_)
    · have c_20 : 0 = 0 := m_nps_le_t (by omega) c_20
      refine lv_aload_n hXX hBB dX3_undo_25 rfl (lv_at hl 0 rfl) ?_
      refine lv_dup hXX hBB dX3_undo_26 rfl ?_
      refine va_get (D := D) (ci := 3) (v := .int (nI dm)) (C := RX3) (T := TX3) (N := 17) hXX hBB hts iw_X3 hown hK hP 0 rfl rfl 6 (by decide) kw_1 (fun _ h9 => h9) rfl dX3_undo_27 ?_
      refine lv_iconst (v := nI 1) hXX hBB dX3_undo_30 (by decide) ?_
      refine lv_isub hXX hBB dX3_undo_31 ?_
      refine m_top (y := nI (dm - 1)) (pk_sub (by omega)) ?_
      refine va_put (D := D) (ci := 3) (v := .int (nI (dm - 1))) (ty := .int) (C := RX3) (T := TX3) (N := 17) hXX hBB hts iw_X3 tyX3 tyX3_ok nmX3 hown hK hP hD hS 0 rfl rfl 6 (by decide) kw_1 (fun _ h9 => h9) rfl (by decide +kernel) (rfl) (rfl) (Nat.le_of_ble_eq_true rfl) dX3_undo_32 (fun H locs hP hD hS => ?_)
      have hP : va_P D vwCl [(h, .inr (3, [.int (nI g), .int (nI p), .ref aR, .ref aB, .ref aA, .ref aO, .int (nI (dm - 1)), .ref aD, .ref aP, .int (nI 0), .int (nI rm), .ref aS, .ref aW, .ref aU, .ref aL, .ref aE, .ref aQ])), (aD, .inl (cI, 9, .inl (fun j => nI (dt j)))), (aP, .inl (cI, 9, .inl S))] H := hP
      have hD : va_D AA [(h, .inr (3, [.int (nI g), .int (nI p), .ref aR, .ref aB, .ref aA, .ref aO, .int (nI (dm - 1)), .ref aD, .ref aP, .int (nI 0), .int (nI rm), .ref aS, .ref aW, .ref aU, .ref aL, .ref aE, .ref aQ])), (aD, .inl (cI, 9, .inl (fun j => nI (dt j)))), (aP, .inl (cI, 9, .inl S))] := hD
      refine lv_aload_n hXX hBB dX3_undo_35 rfl (lv_at hl 0 rfl) ?_
      refine va_get (D := D) (ci := 3) (v := .ref aP) (C := RX3) (T := TX3) (N := 17) hXX hBB hts iw_X3 hown hK hP 0 rfl rfl 8 (by decide) kw_3 (fun _ h9 => h9) rfl dX3_undo_36 ?_
      refine lv_aload_n hXX hBB dX3_undo_39 rfl (lv_at hl 0 rfl) ?_
      refine va_get (D := D) (ci := 3) (v := .ref aD) (C := RX3) (T := TX3) (N := 17) hXX hBB hts iw_X3 hown hK hP 0 rfl rfl 7 (by decide) kw_4 (fun _ h9 => h9) rfl dX3_undo_40 ?_
      refine lv_aload_n hXX hBB dX3_undo_43 rfl (lv_at hl 0 rfl) ?_
      refine va_get (D := D) (ci := 3) (v := .int (nI (dm - 1))) (C := RX3) (T := TX3) (N := 17) hXX hBB hts iw_X3 hown hK hP 0 rfl rfl 6 (by decide) kw_1 (fun _ h9 => h9) rfl dX3_undo_44 ?_
      refine m_iald hXX hBB hK hP 1 0 rfl rfl (i := dm - 1) (by omega) (by decide) (x := nI (dt (dm - 1))) rfl dX3_undo_47 ?_
      refine lv_iconst (v := (-1)) hXX hBB dX3_undo_48 (by decide) ?_
      refine m_iast hXX hBB hK hP hD hS 2 0 rfl rfl (i := dt (dm - 1)) (by exact hdt _ (by omega)) (by decide) (g := upd S (dt (dm - 1)) (-1)) (rfl) dX3_undo_49 (fun H locs hP hD hS => ?_)
      have hP : va_P D vwCl [(h, .inr (3, [.int (nI g), .int (nI p), .ref aR, .ref aB, .ref aA, .ref aO, .int (nI (dm - 1)), .ref aD, .ref aP, .int (nI 0), .int (nI rm), .ref aS, .ref aW, .ref aU, .ref aL, .ref aE, .ref aQ])), (aD, .inl (cI, 9, .inl (fun j => nI (dt j)))), (aP, .inl (cI, 9, .inl (upd S (dt (dm - 1)) (-1))))] H := hP
      have hD : va_D AA [(h, .inr (3, [.int (nI g), .int (nI p), .ref aR, .ref aB, .ref aA, .ref aO, .int (nI (dm - 1)), .ref aD, .ref aP, .int (nI 0), .int (nI rm), .ref aS, .ref aW, .ref aU, .ref aL, .ref aE, .ref aQ])), (aD, .inl (cI, 9, .inl (fun j => nI (dt j)))), (aP, .inl (cI, 9, .inl (upd S (dt (dm - 1)) (-1))))] := hD
      refine lv_aload_n hXX hBB dX3_undo_50 rfl (lv_at hl 0 rfl) ?_
      refine va_get (D := D) (ci := 3) (v := .ref aD) (C := RX3) (T := TX3) (N := 17) hXX hBB hts iw_X3 hown hK hP 0 rfl rfl 7 (by decide) kw_4 (fun _ h9 => h9) rfl dX3_undo_51 ?_
      refine lv_aload_n hXX hBB dX3_undo_54 rfl (lv_at hl 0 rfl) ?_
      refine va_get (D := D) (ci := 3) (v := .int (nI (dm - 1))) (C := RX3) (T := TX3) (N := 17) hXX hBB hts iw_X3 hown hK hP 0 rfl rfl 6 (by decide) kw_1 (fun _ h9 => h9) rfl dX3_undo_55 ?_
      refine m_iald hXX hBB hK hP 1 0 rfl rfl (i := dm - 1) (by omega) (by decide) (x := nI (dt (dm - 1))) rfl dX3_undo_58 ?_
      refine hret (r := nI (dt (dm - 1))) (0, dm - 1, upd S (dt (dm - 1)) (-1)) ?_ (rfl) (hP.sub [0, 1, 2] rfl) (hD.sub [0, 1, 2] (by decide) rfl) hS (Nat.le_of_ble_eq_true rfl) (Nat.le_of_ble_eq_true rfl) dX3_undo_59
      show (udPost dm 0 (dm - 1) (upd S (dt (dm - 1)) (-1)) S dt (nI (dt (dm - 1))))
      exact ⟨fun q => absurd q c_5, fun _ => ⟨rfl, rfl, rfl, rfl⟩⟩
    · exact absurd (by decide) c_20
  · have c_5 : dm = 0 := (m_z (by omega)).mp c_5
    refine lv_iconst (v := nI 1) hXX hBB dX3_undo_8 (by decide) ?_
    refine lv_goto (tgt := 13) hXX hBB dX3_undo_9 (by decide) ?_
    refine va_put (D := D) (ci := 3) (v := .int (nI 1)) (ty := .int) (C := RX3) (T := TX3) (N := 17) hXX hBB hts iw_X3 tyX3 tyX3_ok nmX3 hown hK hP hD hS 0 rfl rfl 9 (by decide) kw_2 (fun _ h9 => h9) rfl (by decide +kernel) (rfl) (rfl) (Nat.le_of_ble_eq_true rfl) dX3_undo_13 (fun H locs hP hD hS => ?_)
    have hP : va_P D vwCl [(h, .inr (3, [.int (nI g), .int (nI p), .ref aR, .ref aB, .ref aA, .ref aO, .int (nI dm), .ref aD, .ref aP, .int (nI 1), .int (nI rm), .ref aS, .ref aW, .ref aU, .ref aL, .ref aE, .ref aQ])), (aD, .inl (cI, 9, .inl (fun j => nI (dt j)))), (aP, .inl (cI, 9, .inl S))] H := hP
    have hD : va_D AA [(h, .inr (3, [.int (nI g), .int (nI p), .ref aR, .ref aB, .ref aA, .ref aO, .int (nI dm), .ref aD, .ref aP, .int (nI 1), .int (nI rm), .ref aS, .ref aW, .ref aU, .ref aL, .ref aE, .ref aQ])), (aD, .inl (cI, 9, .inl (fun j => nI (dt j)))), (aP, .inl (cI, 9, .inl S))] := hD
    refine lv_aload_n hXX hBB dX3_undo_16 rfl (lv_at hl 0 rfl) ?_
    refine va_get (D := D) (ci := 3) (v := .int (nI 1)) (C := RX3) (T := TX3) (N := 17) hXX hBB hts iw_X3 hown hK hP 0 rfl rfl 9 (by decide) kw_2 (fun _ h9 => h9) rfl dX3_undo_17 ?_
    refine lv_if_le (tgt := 25) hXX hBB dX3_undo_20 (by decide) (fun c_20 => ?_) (fun c_20 => ?_)
    · exact absurd c_20 (by decide)
    · have c_20 : 0 < 1 := m_pos_le_f (by omega) c_20
      refine lv_iconst (v := nI 0) hXX hBB dX3_undo_23 (by decide) ?_
      refine hret (r := nI 0) (1, dm, S) ?_ (rfl) (hP.sub [0, 1, 2] rfl) (hD.sub [0, 1, 2] (by decide) rfl) hS (Nat.le_of_ble_eq_true rfl) (Nat.le_of_ble_eq_true rfl) dX3_undo_24
      show (udPost dm 1 dm S S dt (nI 0))
      exact ⟨fun _ => ⟨rfl, c_5, rfl⟩, fun q => absurd c_5 q⟩
abbrev rmX3_drawn : Room := { frames := 0, cells := 0, slots := 0, locals := 0 }
set_option maxHeartbeats 4000000 in
set_option maxRecDepth 100000 in
theorem kX3_drawn (l : Launch) (D : va_G) (h : Nat) (g : Nat) (p : Nat) (aR : Nat) (aB : Nat) (aA : Nat) (aO : Nat) (dm : Nat) (aD : Nat) (aP : Nat) (th : Nat) (rm : Nat) (aS : Nat) (aW : Nat) (aU : Nat) (aL : Nat) (aE : Nat) (aQ : Nat) : Ci l yX3_drawn wsX3_drawn rmX3_drawn D [] [.ref h] [(h, .inr (3, [.int (nI g), .int (nI p), .ref aR, .ref aB, .ref aA, .ref aO, .int (nI dm), .ref aD, .ref aP, .int (nI th), .int (nI rm), .ref aS, .ref aW, .ref aU, .ref aL, .ref aE, .ref aQ]))] (fun (r : Int32) (_ : Unit) => r = nI dm) (fun (_ : Unit) => [(h, .inr (3, [.int (nI g), .int (nI p), .ref aR, .ref aB, .ref aA, .ref aO, .int (nI dm), .ref aD, .ref aP, .int (nI 0), .int (nI rm), .ref aS, .ref aW, .ref aU, .ref aL, .ref aE, .ref aQ]))]) := by
  refine Ci_of (cc := cX3_drawn) (maxL := 1) (by decide) rfl (Nat.le_of_ble_eq_true rfl) ?_
  intro pR eV sT mI args below meth cO AA QQ ls hXX hBB hml hown hts hnm hN hK hP hD hS hAA hl hret
  have hl : lv_has ls 1 [(0, .ref h)] := hl
  have kw_1 := hts (.fieldLink RX3 51 "CupDrawModel" "thrown" "I") (List.mem_of_getElem? (i := 1) rfl)
  have iw_X3 : ∀ w ∈ wsX30, w ∈ wsX3_drawn := by decide +kernel
  have kw_2 := hts (.fieldLink RX3 61 "CupDrawModel" "drawnMany" "I") (List.mem_of_getElem? (i := 2) rfl)
  refine lv_aload_n hXX hBB dX3_drawn_0 rfl (lv_at hl 0 rfl) ?_
  refine lv_iconst (v := nI 0) hXX hBB dX3_drawn_1 (by decide) ?_
  refine va_put (D := D) (ci := 3) (v := .int (nI 0)) (ty := .int) (C := RX3) (T := TX3) (N := 17) hXX hBB hts iw_X3 tyX3 tyX3_ok nmX3 hown hK hP hD hS 0 rfl rfl 9 (by decide) kw_1 (fun _ h9 => h9) rfl (by decide +kernel) (rfl) (rfl) (Nat.le_of_ble_eq_true rfl) dX3_drawn_2 (fun H locs hP hD hS => ?_)
  have hP : va_P D vwCl [(h, .inr (3, [.int (nI g), .int (nI p), .ref aR, .ref aB, .ref aA, .ref aO, .int (nI dm), .ref aD, .ref aP, .int (nI 0), .int (nI rm), .ref aS, .ref aW, .ref aU, .ref aL, .ref aE, .ref aQ]))] H := hP
  have hD : va_D AA [(h, .inr (3, [.int (nI g), .int (nI p), .ref aR, .ref aB, .ref aA, .ref aO, .int (nI dm), .ref aD, .ref aP, .int (nI 0), .int (nI rm), .ref aS, .ref aW, .ref aU, .ref aL, .ref aE, .ref aQ]))] := hD
  refine lv_aload_n hXX hBB dX3_drawn_5 rfl (lv_at hl 0 rfl) ?_
  refine va_get (D := D) (ci := 3) (v := .int (nI dm)) (C := RX3) (T := TX3) (N := 17) hXX hBB hts iw_X3 hown hK hP 0 rfl rfl 6 (by decide) kw_2 (fun _ h9 => h9) rfl dX3_drawn_6 ?_
  refine hret (r := nI dm) () ?_ (rfl) (hP.sub [0] rfl) (hD.sub [0] (by decide) rfl) hS (Nat.le_of_ble_eq_true rfl) (Nat.le_of_ble_eq_true rfl) dX3_drawn_9
  show nI dm = nI dm
  rfl
abbrev rmX3_pot : Room := { frames := 2, cells := 0, slots := 0, locals := 40 }
set_option maxHeartbeats 4000000 in
set_option maxRecDepth 100000 in
theorem kX3_pot (l : Launch) (D : va_G) (h : Nat) (g : Nat) (p : Nat) (aR : Nat) (aB : Nat) (aA : Nat) (aO : Nat) (dm : Nat) (aD : Nat) (aP : Nat) (th : Nat) (rm : Nat) (aS : Nat) (aW : Nat) (aU : Nat) (aL : Nat) (aE : Nat) (aQ : Nat) (hdm : dm ≤ 9) (hg0 : 0 < g) (hg4 : g ≤ 4) (hT : g * p ≤ 9) : Ci l yX3_pot wsX3_pot rmX3_pot D [] [.ref h] [(h, .inr (3, [.int (nI g), .int (nI p), .ref aR, .ref aB, .ref aA, .ref aO, .int (nI dm), .ref aD, .ref aP, .int (nI th), .int (nI rm), .ref aS, .ref aW, .ref aU, .ref aL, .ref aE, .ref aQ]))] (fun (r : Int32) (_ : Unit) => r = poR dm g p) (fun (_ : Unit) => [(h, .inr (3, [.int (nI g), .int (nI p), .ref aR, .ref aB, .ref aA, .ref aO, .int (nI dm), .ref aD, .ref aP, .int (nI 0), .int (nI rm), .ref aS, .ref aW, .ref aU, .ref aL, .ref aE, .ref aQ]))]) := by
  refine Ci_of (cc := cX3_pot) (maxL := 1) (by decide) rfl (Nat.le_of_ble_eq_true rfl) ?_
  intro pR eV sT mI args below meth cO AA QQ ls hXX hBB hml hown hts hnm hN hK hP hD hS hAA hl hret
  have hl : lv_has ls 1 [(0, .ref h)] := hl
  have kw_1 := hts (.fieldLink RX3 51 "CupDrawModel" "thrown" "I") (List.mem_of_getElem? (i := 1) rfl)
  have iw_X3 : ∀ w ∈ wsX30, w ∈ wsX3_pot := by decide +kernel
  refine lv_aload_n hXX hBB dX3_pot_0 rfl (lv_at hl 0 rfl) ?_
  refine lv_iconst (v := nI 0) hXX hBB dX3_pot_1 (by decide) ?_
  refine va_put (D := D) (ci := 3) (v := .int (nI 0)) (ty := .int) (C := RX3) (T := TX3) (N := 17) hXX hBB hts iw_X3 tyX3 tyX3_ok nmX3 hown hK hP hD hS 0 rfl rfl 9 (by decide) kw_1 (fun _ h9 => h9) rfl (by decide +kernel) (rfl) (rfl) (Nat.le_of_ble_eq_true rfl) dX3_pot_2 (fun H locs hP hD hS => ?_)
  have hP : va_P D vwCl [(h, .inr (3, [.int (nI g), .int (nI p), .ref aR, .ref aB, .ref aA, .ref aO, .int (nI dm), .ref aD, .ref aP, .int (nI 0), .int (nI rm), .ref aS, .ref aW, .ref aU, .ref aL, .ref aE, .ref aQ]))] H := hP
  have hD : va_D AA [(h, .inr (3, [.int (nI g), .int (nI p), .ref aR, .ref aB, .ref aA, .ref aO, .int (nI dm), .ref aD, .ref aP, .int (nI 0), .int (nI rm), .ref aS, .ref aW, .ref aU, .ref aL, .ref aE, .ref aQ]))] := hD
  refine lv_aload_n hXX hBB dX3_pot_5 rfl (lv_at hl 0 rfl) ?_
  refine m_calli (wr := []) ⟨hXX, hBB, hml, hown, hts⟩ hN (kX3_potNow l D h g p aR aB aA aO dm aD aP 0 rm aS aW aU aL aE aQ (by omega) (by omega) (by omega) (by omega)) (cwV 0 hts gX3_pot_X3_potNow rfl rfl rfl (by decide +kernel) ⟨Nat.le_of_ble_eq_true rfl, Nat.le_of_ble_eq_true rfl⟩) hK hP hD hS hAA [0] [] [] rfl rfl rfl (by decide) (by decide) (by decide) rfl 3 rfl rfl rfl rfl hl.1 rfl (Nat.le_of_ble_eq_true rfl) dX3_pot_6 ⟨Nat.le_of_ble_eq_true rfl, Nat.le_of_ble_eq_true rfl⟩ (k := 0) (n := 0) rfl rfl (fun r_1 u_ H locs hw hP hD hS => ?_)
  have hw : (r_1 = poR dm g p) := hw
  have hr_r_1 := hw
  have hP : va_P D vwCl [(h, .inr (3, [.int (nI g), .int (nI p), .ref aR, .ref aB, .ref aA, .ref aO, .int (nI dm), .ref aD, .ref aP, .int (nI 0), .int (nI rm), .ref aS, .ref aW, .ref aU, .ref aL, .ref aE, .ref aQ]))] H := hP
  have hD : va_D AA [(h, .inr (3, [.int (nI g), .int (nI p), .ref aR, .ref aB, .ref aA, .ref aO, .int (nI dm), .ref aD, .ref aP, .int (nI 0), .int (nI rm), .ref aS, .ref aW, .ref aU, .ref aL, .ref aE, .ref aQ]))] := hD
  subst hr_r_1
  refine hret (r := poR dm g p) () ?_ (rfl) (hP.sub [0] rfl) (hD.sub [0] (by decide) rfl) hS (Nat.le_of_ble_eq_true rfl) (Nat.le_of_ble_eq_true rfl) dX3_pot_9
  show poR dm g p = poR dm g p
  rfl
abbrev rmX3_left : Room := { frames := 2, cells := 0, slots := 0, locals := 40 }
set_option maxHeartbeats 4000000 in
set_option maxRecDepth 100000 in
theorem kX3_left (l : Launch) (D : va_G) (h : Nat) (g : Nat) (p : Nat) (aR : Nat) (aB : Nat) (aA : Nat) (aO : Nat) (dm : Nat) (aD : Nat) (aP : Nat) (th : Nat) (rm : Nat) (aS : Nat) (aW : Nat) (aU : Nat) (aL : Nat) (aE : Nat) (aQ : Nat) (hdm : dm ≤ 9) (hg0 : 0 < g) (hg4 : g ≤ 4) (hT : g * p ≤ 9) : Ci l yX3_left wsX3_left rmX3_left D [] [.ref h] [(h, .inr (3, [.int (nI g), .int (nI p), .ref aR, .ref aB, .ref aA, .ref aO, .int (nI dm), .ref aD, .ref aP, .int (nI th), .int (nI rm), .ref aS, .ref aW, .ref aU, .ref aL, .ref aE, .ref aQ]))] (fun (r : Int32) (_ : Unit) => r = nI (leN dm g p)) (fun (_ : Unit) => [(h, .inr (3, [.int (nI g), .int (nI p), .ref aR, .ref aB, .ref aA, .ref aO, .int (nI dm), .ref aD, .ref aP, .int (nI 0), .int (nI rm), .ref aS, .ref aW, .ref aU, .ref aL, .ref aE, .ref aQ]))]) := by
  refine Ci_of (cc := cX3_left) (maxL := 1) (by decide) rfl (Nat.le_of_ble_eq_true rfl) ?_
  intro pR eV sT mI args below meth cO AA QQ ls hXX hBB hml hown hts hnm hN hK hP hD hS hAA hl hret
  have hl : lv_has ls 1 [(0, .ref h)] := hl
  have kw_1 := hts (.fieldLink RX3 51 "CupDrawModel" "thrown" "I") (List.mem_of_getElem? (i := 1) rfl)
  have iw_X3 : ∀ w ∈ wsX30, w ∈ wsX3_left := by decide +kernel
  refine lv_aload_n hXX hBB dX3_left_0 rfl (lv_at hl 0 rfl) ?_
  refine lv_iconst (v := nI 0) hXX hBB dX3_left_1 (by decide) ?_
  refine va_put (D := D) (ci := 3) (v := .int (nI 0)) (ty := .int) (C := RX3) (T := TX3) (N := 17) hXX hBB hts iw_X3 tyX3 tyX3_ok nmX3 hown hK hP hD hS 0 rfl rfl 9 (by decide) kw_1 (fun _ h9 => h9) rfl (by decide +kernel) (rfl) (rfl) (Nat.le_of_ble_eq_true rfl) dX3_left_2 (fun H locs hP hD hS => ?_)
  have hP : va_P D vwCl [(h, .inr (3, [.int (nI g), .int (nI p), .ref aR, .ref aB, .ref aA, .ref aO, .int (nI dm), .ref aD, .ref aP, .int (nI 0), .int (nI rm), .ref aS, .ref aW, .ref aU, .ref aL, .ref aE, .ref aQ]))] H := hP
  have hD : va_D AA [(h, .inr (3, [.int (nI g), .int (nI p), .ref aR, .ref aB, .ref aA, .ref aO, .int (nI dm), .ref aD, .ref aP, .int (nI 0), .int (nI rm), .ref aS, .ref aW, .ref aU, .ref aL, .ref aE, .ref aQ]))] := hD
  refine lv_aload_n hXX hBB dX3_left_5 rfl (lv_at hl 0 rfl) ?_
  refine m_calli (wr := []) ⟨hXX, hBB, hml, hown, hts⟩ hN (kX3_leftNow l D h g p aR aB aA aO dm aD aP 0 rm aS aW aU aL aE aQ (by omega) (by omega) (by omega) (by omega)) (cwV 0 hts gX3_left_X3_leftNow rfl rfl rfl (by decide +kernel) ⟨Nat.le_of_ble_eq_true rfl, Nat.le_of_ble_eq_true rfl⟩) hK hP hD hS hAA [0] [] [] rfl rfl rfl (by decide) (by decide) (by decide) rfl 3 rfl rfl rfl rfl hl.1 rfl (Nat.le_of_ble_eq_true rfl) dX3_left_6 ⟨Nat.le_of_ble_eq_true rfl, Nat.le_of_ble_eq_true rfl⟩ (k := 0) (n := 0) rfl rfl (fun r_1 u_ H locs hw hP hD hS => ?_)
  have hw : (r_1 = nI (leN dm g p)) := hw
  have hr_r_1 := hw
  have hP : va_P D vwCl [(h, .inr (3, [.int (nI g), .int (nI p), .ref aR, .ref aB, .ref aA, .ref aO, .int (nI dm), .ref aD, .ref aP, .int (nI 0), .int (nI rm), .ref aS, .ref aW, .ref aU, .ref aL, .ref aE, .ref aQ]))] H := hP
  have hD : va_D AA [(h, .inr (3, [.int (nI g), .int (nI p), .ref aR, .ref aB, .ref aA, .ref aO, .int (nI dm), .ref aD, .ref aP, .int (nI 0), .int (nI rm), .ref aS, .ref aW, .ref aU, .ref aL, .ref aE, .ref aQ]))] := hD
  subst hr_r_1
  refine hret (r := nI (leN dm g p)) () ?_ (rfl) (hP.sub [0] rfl) (hD.sub [0] (by decide) rfl) hS (Nat.le_of_ble_eq_true rfl) (Nat.le_of_ble_eq_true rfl) dX3_left_9
  show nI (leN dm g p) = nI (leN dm g p)
  rfl
abbrev rmX3_ballAt : Room := { frames := 2, cells := 0, slots := 0, locals := 40 }
set_option maxHeartbeats 4000000 in
set_option maxRecDepth 100000 in
theorem kX3_ballAt (l : Launch) (D : va_G) (cI : ClassId) (h : Nat) (g : Nat) (p : Nat) (aR : Nat) (aB : Nat) (aA : Nat) (aO : Nat) (dm : Nat) (aD : Nat) (aP : Nat) (th : Nat) (rm : Nat) (aS : Nat) (aW : Nat) (aU : Nat) (aL : Nat) (aE : Nat) (aQ : Nat) (S : Nat → Int32) (x : Int32) (hdm : dm ≤ 9) (hg0 : 0 < g) (hg4 : g ≤ 4) (hT : g * p ≤ 9) (hdm9 : dm ≤ g * p) : Ci l yX3_ballAt wsX3_ballAt rmX3_ballAt D [(cI, .int)] [.ref h, .int x] [(h, .inr (3, [.int (nI g), .int (nI p), .ref aR, .ref aB, .ref aA, .ref aO, .int (nI dm), .ref aD, .ref aP, .int (nI th), .int (nI rm), .ref aS, .ref aW, .ref aU, .ref aL, .ref aE, .ref aQ])), (aP, .inl (cI, 9, .inl S))] (fun (r : Int32) (u : Nat) => (baPost x (leN dm g p) u r S g dm)) (fun (u : Nat) => [(h, .inr (3, [.int (nI g), .int (nI p), .ref aR, .ref aB, .ref aA, .ref aO, .int (nI dm), .ref aD, .ref aP, .int (nI u), .int (nI rm), .ref aS, .ref aW, .ref aU, .ref aL, .ref aE, .ref aQ])), (aP, .inl (cI, 9, .inl S))]) := by
  refine Ci_of (cc := cX3_ballAt) (maxL := 2) (by decide) rfl (Nat.le_of_ble_eq_true rfl) ?_
  intro pR eV sT mI args below meth cO AA QQ ls hXX hBB hml hown hts hnm hN hK hP hD hS hAA hl hret
  have hl : lv_has ls 2 [(0, .ref h), (1, .int x)] := hl
  have hle := leN_le dm g p
  have kw_1 := hts (.fieldLink RX3 51 "CupDrawModel" "thrown" "I") (List.mem_of_getElem? (i := 1) rfl)
  have iw_X3 : ∀ w ∈ wsX30, w ∈ wsX3_ballAt := by decide +kernel
  refine lv_aload_n hXX hBB dX3_ballAt_0 rfl (lv_at hl 0 rfl) ?_
  refine lv_iload_n hXX hBB dX3_ballAt_1 rfl (lv_at hl 1 rfl) ?_
  refine lv_iconst (v := nI 0) hXX hBB dX3_ballAt_2 (by decide) ?_
  refine lv_aload_n hXX hBB dX3_ballAt_3 rfl (lv_at hl 0 rfl) ?_
  refine m_calli (wr := [(aP, .inl (cI, 9, .inl S))]) ⟨hXX, hBB, hml, hown, hts⟩ hN (kX3_leftNow l D h g p aR aB aA aO dm aD aP th rm aS aW aU aL aE aQ (by omega) (by omega) (by omega) (by omega)) (cwV 0 hts gX3_ballAt_X3_leftNow rfl rfl rfl (by decide +kernel) ⟨Nat.le_of_ble_eq_true rfl, Nat.le_of_ble_eq_true rfl⟩) hK hP hD hS hAA [0] [1] [] rfl rfl rfl (by decide) (by decide) (by decide) rfl 3 rfl rfl rfl rfl hl.1 rfl (Nat.le_of_ble_eq_true rfl) dX3_ballAt_4 ⟨Nat.le_of_ble_eq_true rfl, Nat.le_of_ble_eq_true rfl⟩ (k := 0) (n := 0) rfl rfl (fun r_1 u_ H locs hw hP hD hS => ?_)
  have hw : (r_1 = nI (leN dm g p)) := hw
  have hr_r_1 := hw
  have hP : va_P D vwCl [(aP, .inl (cI, 9, .inl S)), (h, .inr (3, [.int (nI g), .int (nI p), .ref aR, .ref aB, .ref aA, .ref aO, .int (nI dm), .ref aD, .ref aP, .int (nI th), .int (nI rm), .ref aS, .ref aW, .ref aU, .ref aL, .ref aE, .ref aQ]))] H := hP
  have hD : va_D AA [(aP, .inl (cI, 9, .inl S)), (h, .inr (3, [.int (nI g), .int (nI p), .ref aR, .ref aB, .ref aA, .ref aO, .int (nI dm), .ref aD, .ref aP, .int (nI th), .int (nI rm), .ref aS, .ref aW, .ref aU, .ref aL, .ref aE, .ref aQ]))] := hD
  subst hr_r_1
  refine lv_iconst (v := nI 1) hXX hBB dX3_ballAt_7 (by decide) ?_
  refine lv_isub hXX hBB dX3_ballAt_8 ?_
  refine m_top (y := (nI (leN dm g p)) - (nI 1)) (by rfl) ?_
  refine m_scalli (wr := [(aP, .inl (cI, 9, .inl S)), (h, .inr (3, [.int (nI g), .int (nI p), .ref aR, .ref aB, .ref aA, .ref aO, .int (nI dm), .ref aD, .ref aP, .int (nI th), .int (nI rm), .ref aS, .ref aW, .ref aU, .ref aL, .ref aE, .ref aQ]))]) ⟨hXX, hBB, hml, hown, hts⟩ hN (kX3_in l D x (nI 0) ((nI (leN dm g p)) - (nI 1))) (va_cwS 3 hts gX3_ballAt_X3_in rfl rfl rfl (by decide +kernel) ⟨Nat.le_of_ble_eq_true rfl, Nat.le_of_ble_eq_true rfl⟩) hK hP hD hS hAA [] [0, 1] [] rfl rfl rfl (by decide) (by decide) (by decide) rfl hl.1 rfl (Nat.le_of_ble_eq_true rfl) dX3_ballAt_9 ⟨Nat.le_of_ble_eq_true rfl, Nat.le_of_ble_eq_true rfl⟩ (k := 0) (n := 0) rfl rfl (fun r_2 u_ H locs hw hP hD hS => ?_)
  have hw : (r_2 = bI (inB x (nI 0) ((nI (leN dm g p)) - (nI 1)))) := hw
  have hr_r_2 := hw
  have hP : va_P D vwCl [(aP, .inl (cI, 9, .inl S)), (h, .inr (3, [.int (nI g), .int (nI p), .ref aR, .ref aB, .ref aA, .ref aO, .int (nI dm), .ref aD, .ref aP, .int (nI th), .int (nI rm), .ref aS, .ref aW, .ref aU, .ref aL, .ref aE, .ref aQ]))] H := hP
  have hD : va_D AA [(aP, .inl (cI, 9, .inl S)), (h, .inr (3, [.int (nI g), .int (nI p), .ref aR, .ref aB, .ref aA, .ref aO, .int (nI dm), .ref aD, .ref aP, .int (nI th), .int (nI rm), .ref aS, .ref aW, .ref aU, .ref aL, .ref aE, .ref aQ]))] := hD
  subst hr_r_2
  refine lv_if_eq (tgt := 19) hXX hBB dX3_ballAt_12 (by decide) (fun c_12 => ?_) (fun c_12 => ?_)
  · have c_12 : (inB x (nI 0) ((nI (leN dm g p)) - (nI 1))) = false := m_bz0 c_12
    refine lv_iconst (v := nI 1) hXX hBB dX3_ballAt_19 (by decide) ?_
    refine va_put (D := D) (ci := 3) (v := .int (nI 1)) (ty := .int) (C := RX3) (T := TX3) (N := 17) hXX hBB hts iw_X3 tyX3 tyX3_ok nmX3 hown hK hP hD hS 1 rfl rfl 9 (by decide) kw_1 (fun _ h9 => h9) rfl (by decide +kernel) (rfl) (rfl) (Nat.le_of_ble_eq_true rfl) dX3_ballAt_20 (fun H locs hP hD hS => ?_)
    have hP : va_P D vwCl [(aP, .inl (cI, 9, .inl S)), (h, .inr (3, [.int (nI g), .int (nI p), .ref aR, .ref aB, .ref aA, .ref aO, .int (nI dm), .ref aD, .ref aP, .int (nI 1), .int (nI rm), .ref aS, .ref aW, .ref aU, .ref aL, .ref aE, .ref aQ]))] H := hP
    have hD : va_D AA [(aP, .inl (cI, 9, .inl S)), (h, .inr (3, [.int (nI g), .int (nI p), .ref aR, .ref aB, .ref aA, .ref aO, .int (nI dm), .ref aD, .ref aP, .int (nI 1), .int (nI rm), .ref aS, .ref aW, .ref aU, .ref aL, .ref aE, .ref aQ]))] := hD
    refine lv_aload_n hXX hBB dX3_ballAt_23 rfl (lv_at hl 0 rfl) ?_
    refine va_get (D := D) (ci := 3) (v := .int (nI 1)) (C := RX3) (T := TX3) (N := 17) hXX hBB hts iw_X3 hown hK hP 1 rfl rfl 9 (by decide) kw_1 (fun _ h9 => h9) rfl dX3_ballAt_24 ?_
    refine lv_if_ne (tgt := 42) hXX hBB dX3_ballAt_27 (by decide) (fun c_27 => ?_) (fun c_27 => ?_)
    · have c_27 : ¬ 1 = 0 := fun h9 => c_27 ((m_z (by omega)).mpr h9)
      refine lv_iconst (v := nI 0) hXX hBB dX3_ballAt_42 (by decide) ?_
      refine hret (r := nI 0) 1 ?_ (rfl) (hP.sub [1, 0] rfl) (hD.sub [1, 0] (by decide) rfl) hS (Nat.le_of_ble_eq_true rfl) (Nat.le_of_ble_eq_true rfl) dX3_ballAt_43
      show (baPost x (leN dm g p) 1 (nI 0) S g dm)
      exact ⟨by simp [c_12], fun q => absurd q (by decide)⟩
    · exact absurd c_27 (by decide)
  · have c_12 : (inB x (nI 0) ((nI (leN dm g p)) - (nI 1))) = true := m_bz1 c_12
    refine lv_iconst (v := nI 0) hXX hBB dX3_ballAt_15 (by decide) ?_
    refine lv_goto (tgt := 20) hXX hBB dX3_ballAt_16 (by decide) ?_
    refine va_put (D := D) (ci := 3) (v := .int (nI 0)) (ty := .int) (C := RX3) (T := TX3) (N := 17) hXX hBB hts iw_X3 tyX3 tyX3_ok nmX3 hown hK hP hD hS 1 rfl rfl 9 (by decide) kw_1 (fun _ h9 => h9) rfl (by decide +kernel) (rfl) (rfl) (Nat.le_of_ble_eq_true rfl) dX3_ballAt_20 (fun H locs hP hD hS => ?_)
    have hP : va_P D vwCl [(aP, .inl (cI, 9, .inl S)), (h, .inr (3, [.int (nI g), .int (nI p), .ref aR, .ref aB, .ref aA, .ref aO, .int (nI dm), .ref aD, .ref aP, .int (nI 0), .int (nI rm), .ref aS, .ref aW, .ref aU, .ref aL, .ref aE, .ref aQ]))] H := hP
    have hD : va_D AA [(aP, .inl (cI, 9, .inl S)), (h, .inr (3, [.int (nI g), .int (nI p), .ref aR, .ref aB, .ref aA, .ref aO, .int (nI dm), .ref aD, .ref aP, .int (nI 0), .int (nI rm), .ref aS, .ref aW, .ref aU, .ref aL, .ref aE, .ref aQ]))] := hD
    refine lv_aload_n hXX hBB dX3_ballAt_23 rfl (lv_at hl 0 rfl) ?_
    refine va_get (D := D) (ci := 3) (v := .int (nI 0)) (C := RX3) (T := TX3) (N := 17) hXX hBB hts iw_X3 hown hK hP 1 rfl rfl 9 (by decide) kw_1 (fun _ h9 => h9) rfl dX3_ballAt_24 ?_
    refine lv_if_ne (tgt := 42) hXX hBB dX3_ballAt_27 (by decide) (fun c_27 => ?_) (fun c_27 => ?_)
    · exact absurd (by decide) c_27
    · have c_27 : 0 = 0 := (m_z (by omega)).mp c_27
      obtain ⟨k, hk, he_k⟩ := inB_L (n := leN dm g p) (by omega) c_12
      have hl : lv_has ls 2 [(0, .ref h), (1, .int (nI k))] := by rw [he_k] at hl; exact hl
      refine lv_aload_n hXX hBB dX3_ballAt_30 rfl (lv_at hl 0 rfl) ?_
      refine lv_aload_n hXX hBB dX3_ballAt_31 rfl (lv_at hl 0 rfl) ?_
      refine m_calli (wr := [(aP, .inl (cI, 9, .inl S))]) ⟨hXX, hBB, hml, hown, hts⟩ hN (kX3_potNow l D h g p aR aB aA aO dm aD aP 0 rm aS aW aU aL aE aQ (by omega) (by omega) (by omega) (by omega)) (cwV 0 hts gX3_ballAt_X3_potNow rfl rfl rfl (by decide +kernel) ⟨Nat.le_of_ble_eq_true rfl, Nat.le_of_ble_eq_true rfl⟩) hK hP hD hS hAA [1] [0] [] rfl rfl rfl (by decide) (by decide) (by decide) rfl 3 rfl rfl rfl rfl hl.1 rfl (Nat.le_of_ble_eq_true rfl) dX3_ballAt_32 ⟨Nat.le_of_ble_eq_true rfl, Nat.le_of_ble_eq_true rfl⟩ (k := 0) (n := 0) rfl rfl (fun r_3 u_ H locs hw hP hD hS => ?_)
      have hw : (r_3 = poR dm g p) := hw
      have hr_r_3 := hw
      have hP : va_P D vwCl [(aP, .inl (cI, 9, .inl S)), (h, .inr (3, [.int (nI g), .int (nI p), .ref aR, .ref aB, .ref aA, .ref aO, .int (nI dm), .ref aD, .ref aP, .int (nI 0), .int (nI rm), .ref aS, .ref aW, .ref aU, .ref aL, .ref aE, .ref aQ]))] H := hP
      have hD : va_D AA [(aP, .inl (cI, 9, .inl S)), (h, .inr (3, [.int (nI g), .int (nI p), .ref aR, .ref aB, .ref aA, .ref aO, .int (nI dm), .ref aD, .ref aP, .int (nI 0), .int (nI rm), .ref aS, .ref aW, .ref aU, .ref aL, .ref aE, .ref aQ]))] := hD
      subst hr_r_3
      refine m_top (y := nI (dm / g)) (by exact (poR_2 (leN_pos (by omega))).symm) ?_
      refine lv_iload_n hXX hBB dX3_ballAt_35 rfl (lv_at hl 1 rfl) ?_
      refine m_calli (wr := []) ⟨hXX, hBB, hml, hown, hts⟩ hN (kX3_ball l D cI h g p aR aB aA aO dm aD aP 0 rm aS aW aU aL aE aQ S (dm / g) k (by omega) (by omega) (by exact potb hg0 hdm9 (leN_pos (by omega)) hT) (by omega)) (cwV 2 hts gX3_ballAt_X3_ball rfl rfl rfl (by decide +kernel) ⟨Nat.le_of_ble_eq_true rfl, Nat.le_of_ble_eq_true rfl⟩) hK hP hD hS hAA [1, 0] [] [0] rfl rfl rfl (by decide) (by decide) (by decide) rfl 3 rfl rfl rfl rfl hl.1 rfl (Nat.le_of_ble_eq_true rfl) dX3_ballAt_36 ⟨Nat.le_of_ble_eq_true rfl, Nat.le_of_ble_eq_true rfl⟩ (k := 0) (n := 0) rfl rfl (fun r_4 u_ H locs hw hP hD hS => ?_)
      have hw : (r_4 = nth S g (g * (dm / g)) k) := hw
      have hr_r_4 := hw
      have hP : va_P D vwCl [(h, .inr (3, [.int (nI g), .int (nI p), .ref aR, .ref aB, .ref aA, .ref aO, .int (nI dm), .ref aD, .ref aP, .int (nI 0), .int (nI rm), .ref aS, .ref aW, .ref aU, .ref aL, .ref aE, .ref aQ])), (aP, .inl (cI, 9, .inl S))] H := hP
      have hD : va_D AA [(h, .inr (3, [.int (nI g), .int (nI p), .ref aR, .ref aB, .ref aA, .ref aO, .int (nI dm), .ref aD, .ref aP, .int (nI 0), .int (nI rm), .ref aS, .ref aW, .ref aU, .ref aL, .ref aE, .ref aQ])), (aP, .inl (cI, 9, .inl S))] := hD
      subst hr_r_4
      refine lv_goto (tgt := 43) hXX hBB dX3_ballAt_39 (by decide) ?_
      refine hret (r := nth S g (g * (dm / g)) k) 0 ?_ (rfl) (hP.sub [0, 1] rfl) (hD.sub [0, 1] (by decide) rfl) hS (Nat.le_of_ble_eq_true rfl) (Nat.le_of_ble_eq_true rfl) dX3_ballAt_43
      show (baPost x (leN dm g p) 0 (nth S g (g * (dm / g)) k) S g dm)
      exact ⟨by simp [c_12], fun _ => ⟨k, hk, he_k, rfl⟩⟩
abbrev rmX3_groupOf : Room := { frames := 2, cells := 0, slots := 0, locals := 43 }
set_option maxHeartbeats 4000000 in
set_option maxRecDepth 100000 in
theorem kX3_groupOf (l : Launch) (D : va_G) (cI : ClassId) (h : Nat) (g : Nat) (p : Nat) (aR : Nat) (aB : Nat) (aA : Nat) (aO : Nat) (dm : Nat) (aD : Nat) (aP : Nat) (th : Nat) (rm : Nat) (aS : Nat) (aW : Nat) (aU : Nat) (aL : Nat) (aE : Nat) (aQ : Nat) (S : Nat → Int32) (x : Int32) (h1 : 0 < g * p) (hT : g * p ≤ 9) : Ci l yX3_groupOf wsX3_groupOf rmX3_groupOf D [(cI, .int)] [.ref h, .int x] [(h, .inr (3, [.int (nI g), .int (nI p), .ref aR, .ref aB, .ref aA, .ref aO, .int (nI dm), .ref aD, .ref aP, .int (nI th), .int (nI rm), .ref aS, .ref aW, .ref aU, .ref aL, .ref aE, .ref aQ])), (aP, .inl (cI, 9, .inl S))] (fun (r : Int32) (u : Nat) => (goPost x (g * p) u r S)) (fun (u : Nat) => [(h, .inr (3, [.int (nI g), .int (nI p), .ref aR, .ref aB, .ref aA, .ref aO, .int (nI dm), .ref aD, .ref aP, .int (nI u), .int (nI rm), .ref aS, .ref aW, .ref aU, .ref aL, .ref aE, .ref aQ])), (aP, .inl (cI, 9, .inl S))]) := by
  refine Ci_of (cc := cX3_groupOf) (maxL := 2) (by decide) rfl (Nat.le_of_ble_eq_true rfl) ?_
  intro pR eV sT mI args below meth cO AA QQ ls hXX hBB hml hown hts hnm hN hK hP hD hS hAA hl hret
  have hl : lv_has ls 2 [(0, .ref h), (1, .int x)] := hl
  have kw_1 := hts (.fieldLink RX3 51 "CupDrawModel" "thrown" "I") (List.mem_of_getElem? (i := 1) rfl)
  have iw_X3 : ∀ w ∈ wsX30, w ∈ wsX3_groupOf := by decide +kernel
  have kw_2 := hts (.fieldLink RX3 26 "CupDrawModel" "places" "[I") (List.mem_of_getElem? (i := 2) rfl)
  refine lv_aload_n hXX hBB dX3_groupOf_0 rfl (lv_at hl 0 rfl) ?_
  refine lv_aload_n hXX hBB dX3_groupOf_1 rfl (lv_at hl 0 rfl) ?_
  refine lv_iload_n hXX hBB dX3_groupOf_2 rfl (lv_at hl 1 rfl) ?_
  refine m_calli (wr := [(aP, .inl (cI, 9, .inl S))]) ⟨hXX, hBB, hml, hown, hts⟩ hN (kX3_isTeam l D h g p aR aB aA aO dm aD aP th rm aS aW aU aL aE aQ x (by omega)) (cwV 1 hts gX3_groupOf_X3_isTeam rfl rfl rfl (by decide +kernel) ⟨Nat.le_of_ble_eq_true rfl, Nat.le_of_ble_eq_true rfl⟩) hK hP hD hS hAA [0] [1] [] rfl rfl rfl (by decide) (by decide) (by decide) rfl 3 rfl rfl rfl rfl hl.1 rfl (Nat.le_of_ble_eq_true rfl) dX3_groupOf_3 ⟨Nat.le_of_ble_eq_true rfl, Nat.le_of_ble_eq_true rfl⟩ (k := 0) (n := 0) rfl rfl (fun r_1 u_ H locs hw hP hD hS => ?_)
  have hw : (r_1 = bI (inB x (nI 0) (nI (g * p - 1)))) := hw
  have hr_r_1 := hw
  have hP : va_P D vwCl [(aP, .inl (cI, 9, .inl S)), (h, .inr (3, [.int (nI g), .int (nI p), .ref aR, .ref aB, .ref aA, .ref aO, .int (nI dm), .ref aD, .ref aP, .int (nI th), .int (nI rm), .ref aS, .ref aW, .ref aU, .ref aL, .ref aE, .ref aQ]))] H := hP
  have hD : va_D AA [(aP, .inl (cI, 9, .inl S)), (h, .inr (3, [.int (nI g), .int (nI p), .ref aR, .ref aB, .ref aA, .ref aO, .int (nI dm), .ref aD, .ref aP, .int (nI th), .int (nI rm), .ref aS, .ref aW, .ref aU, .ref aL, .ref aE, .ref aQ]))] := hD
  subst hr_r_1
  refine lv_if_eq (tgt := 13) hXX hBB dX3_groupOf_6 (by decide) (fun c_6 => ?_) (fun c_6 => ?_)
  · have c_6 : (inB x (nI 0) (nI (g * p - 1))) = false := m_bz0 c_6
    refine lv_iconst (v := nI 1) hXX hBB dX3_groupOf_13 (by decide) ?_
    refine va_put (D := D) (ci := 3) (v := .int (nI 1)) (ty := .int) (C := RX3) (T := TX3) (N := 17) hXX hBB hts iw_X3 tyX3 tyX3_ok nmX3 hown hK hP hD hS 1 rfl rfl 9 (by decide) kw_1 (fun _ h9 => h9) rfl (by decide +kernel) (rfl) (rfl) (Nat.le_of_ble_eq_true rfl) dX3_groupOf_14 (fun H locs hP hD hS => ?_)
    have hP : va_P D vwCl [(aP, .inl (cI, 9, .inl S)), (h, .inr (3, [.int (nI g), .int (nI p), .ref aR, .ref aB, .ref aA, .ref aO, .int (nI dm), .ref aD, .ref aP, .int (nI 1), .int (nI rm), .ref aS, .ref aW, .ref aU, .ref aL, .ref aE, .ref aQ]))] H := hP
    have hD : va_D AA [(aP, .inl (cI, 9, .inl S)), (h, .inr (3, [.int (nI g), .int (nI p), .ref aR, .ref aB, .ref aA, .ref aO, .int (nI dm), .ref aD, .ref aP, .int (nI 1), .int (nI rm), .ref aS, .ref aW, .ref aU, .ref aL, .ref aE, .ref aQ]))] := hD
    refine lv_aload_n hXX hBB dX3_groupOf_17 rfl (lv_at hl 0 rfl) ?_
    refine va_get (D := D) (ci := 3) (v := .int (nI 1)) (C := RX3) (T := TX3) (N := 17) hXX hBB hts iw_X3 hown hK hP 1 rfl rfl 9 (by decide) kw_1 (fun _ h9 => h9) rfl dX3_groupOf_18 ?_
    refine lv_if_ne (tgt := 33) hXX hBB dX3_groupOf_21 (by decide) (fun c_21 => ?_) (fun c_21 => ?_)
    · have c_21 : ¬ 1 = 0 := fun h9 => c_21 ((m_z (by omega)).mpr h9)
      refine lv_iconst (v := nI 0) hXX hBB dX3_groupOf_33 (by decide) ?_
      refine hret (r := nI 0) 1 ?_ (rfl) (hP.sub [1, 0] rfl) (hD.sub [1, 0] (by decide) rfl) hS (Nat.le_of_ble_eq_true rfl) (Nat.le_of_ble_eq_true rfl) dX3_groupOf_34
      show (goPost x (g * p) 1 (nI 0) S)
      exact ⟨by simp [c_6], fun q => absurd q (by decide)⟩
    · exact absurd c_21 (by decide)
  · have c_6 : (inB x (nI 0) (nI (g * p - 1))) = true := m_bz1 c_6
    refine lv_iconst (v := nI 0) hXX hBB dX3_groupOf_9 (by decide) ?_
    refine lv_goto (tgt := 14) hXX hBB dX3_groupOf_10 (by decide) ?_
    refine va_put (D := D) (ci := 3) (v := .int (nI 0)) (ty := .int) (C := RX3) (T := TX3) (N := 17) hXX hBB hts iw_X3 tyX3 tyX3_ok nmX3 hown hK hP hD hS 1 rfl rfl 9 (by decide) kw_1 (fun _ h9 => h9) rfl (by decide +kernel) (rfl) (rfl) (Nat.le_of_ble_eq_true rfl) dX3_groupOf_14 (fun H locs hP hD hS => ?_)
    have hP : va_P D vwCl [(aP, .inl (cI, 9, .inl S)), (h, .inr (3, [.int (nI g), .int (nI p), .ref aR, .ref aB, .ref aA, .ref aO, .int (nI dm), .ref aD, .ref aP, .int (nI 0), .int (nI rm), .ref aS, .ref aW, .ref aU, .ref aL, .ref aE, .ref aQ]))] H := hP
    have hD : va_D AA [(aP, .inl (cI, 9, .inl S)), (h, .inr (3, [.int (nI g), .int (nI p), .ref aR, .ref aB, .ref aA, .ref aO, .int (nI dm), .ref aD, .ref aP, .int (nI 0), .int (nI rm), .ref aS, .ref aW, .ref aU, .ref aL, .ref aE, .ref aQ]))] := hD
    refine lv_aload_n hXX hBB dX3_groupOf_17 rfl (lv_at hl 0 rfl) ?_
    refine va_get (D := D) (ci := 3) (v := .int (nI 0)) (C := RX3) (T := TX3) (N := 17) hXX hBB hts iw_X3 hown hK hP 1 rfl rfl 9 (by decide) kw_1 (fun _ h9 => h9) rfl dX3_groupOf_18 ?_
    refine lv_if_ne (tgt := 33) hXX hBB dX3_groupOf_21 (by decide) (fun c_21 => ?_) (fun c_21 => ?_)
    · exact absurd (by decide) c_21
    · have c_21 : 0 = 0 := (m_z (by omega)).mp c_21
      obtain ⟨t, hlo_t, hhi_t, he_t⟩ := inB_nat (lo := 0) (hi := g * p - 1) (by omega) c_6
      have hl : lv_has ls 2 [(0, .ref h), (1, .int (nI t))] := by rw [he_t] at hl; exact hl
      refine lv_aload_n hXX hBB dX3_groupOf_24 rfl (lv_at hl 0 rfl) ?_
      refine va_get (D := D) (ci := 3) (v := .ref aP) (C := RX3) (T := TX3) (N := 17) hXX hBB hts iw_X3 hown hK hP 1 rfl rfl 8 (by decide) kw_2 (fun _ h9 => h9) rfl dX3_groupOf_25 ?_
      refine lv_iload_n hXX hBB dX3_groupOf_28 rfl (lv_at hl 1 rfl) ?_
      refine m_iald hXX hBB hK hP 0 0 rfl rfl (i := t) (by omega) (by decide) (x := S t) rfl dX3_groupOf_29 ?_
      refine lv_goto (tgt := 34) hXX hBB dX3_groupOf_30 (by decide) ?_
      refine hret (r := S t) 0 ?_ (rfl) (hP.sub [1, 0] rfl) (hD.sub [1, 0] (by decide) rfl) hS (Nat.le_of_ble_eq_true rfl) (Nat.le_of_ble_eq_true rfl) dX3_groupOf_34
      show (goPost x (g * p) 0 (S t) S)
      exact ⟨by simp [c_6], fun _ => ⟨t, by omega, he_t, rfl⟩⟩
abbrev rmX3_isPlace : Room := { frames := 2, cells := 0, slots := 0, locals := 43 }
set_option maxHeartbeats 4000000 in
set_option maxRecDepth 100000 in
theorem kX3_isPlace (l : Launch) (D : va_G) (h : Nat) (g : Nat) (p : Nat) (aR : Nat) (aB : Nat) (aA : Nat) (aO : Nat) (dm : Nat) (aD : Nat) (aP : Nat) (th : Nat) (rm : Nat) (aS : Nat) (aW : Nat) (aU : Nat) (aL : Nat) (aE : Nat) (aQ : Nat) (x : Int32) (y : Int32) (h1 : 0 < g * p) (hT : g * p ≤ 9) (hg0 : 0 < g) : Ci l yX3_isPlace wsX3_isPlace rmX3_isPlace D [] [.ref h, .int x, .int y] [(h, .inr (3, [.int (nI g), .int (nI p), .ref aR, .ref aB, .ref aA, .ref aO, .int (nI dm), .ref aD, .ref aP, .int (nI th), .int (nI rm), .ref aS, .ref aW, .ref aU, .ref aL, .ref aE, .ref aQ]))] (fun (r : Int32) (u : Nat) => (plPost x y (g * p) g u r)) (fun (u : Nat) => [(h, .inr (3, [.int (nI g), .int (nI p), .ref aR, .ref aB, .ref aA, .ref aO, .int (nI dm), .ref aD, .ref aP, .int (nI u), .int (nI rm), .ref aS, .ref aW, .ref aU, .ref aL, .ref aE, .ref aQ]))]) := by
  refine Ci_of (cc := cX3_isPlace) (maxL := 3) (by decide) rfl (Nat.le_of_ble_eq_true rfl) ?_
  intro pR eV sT mI args below meth cO AA QQ ls hXX hBB hml hown hts hnm hN hK hP hD hS hAA hl hret
  have hl : lv_has ls 3 [(0, .ref h), (1, .int x), (2, .int y)] := hl
  have kw_1 := hts (.fieldLink RX3 51 "CupDrawModel" "thrown" "I") (List.mem_of_getElem? (i := 1) rfl)
  have iw_X3 : ∀ w ∈ wsX30, w ∈ wsX3_isPlace := by decide +kernel
  refine lv_aload_n hXX hBB dX3_isPlace_0 rfl (lv_at hl 0 rfl) ?_
  refine lv_aload_n hXX hBB dX3_isPlace_1 rfl (lv_at hl 0 rfl) ?_
  refine lv_iload_n hXX hBB dX3_isPlace_2 rfl (lv_at hl 1 rfl) ?_
  refine m_calli (wr := []) ⟨hXX, hBB, hml, hown, hts⟩ hN (kX3_isTeam l D h g p aR aB aA aO dm aD aP th rm aS aW aU aL aE aQ x (by omega)) (cwV 1 hts gX3_isPlace_X3_isTeam rfl rfl rfl (by decide +kernel) ⟨Nat.le_of_ble_eq_true rfl, Nat.le_of_ble_eq_true rfl⟩) hK hP hD hS hAA [0] [] [] rfl rfl rfl (by decide) (by decide) (by decide) rfl 3 rfl rfl rfl rfl hl.1 rfl (Nat.le_of_ble_eq_true rfl) dX3_isPlace_3 ⟨Nat.le_of_ble_eq_true rfl, Nat.le_of_ble_eq_true rfl⟩ (k := 0) (n := 0) rfl rfl (fun r_1 u_ H locs hw hP hD hS => ?_)
  have hw : (r_1 = bI (inB x (nI 0) (nI (g * p - 1)))) := hw
  have hr_r_1 := hw
  have hP : va_P D vwCl [(h, .inr (3, [.int (nI g), .int (nI p), .ref aR, .ref aB, .ref aA, .ref aO, .int (nI dm), .ref aD, .ref aP, .int (nI th), .int (nI rm), .ref aS, .ref aW, .ref aU, .ref aL, .ref aE, .ref aQ]))] H := hP
  have hD : va_D AA [(h, .inr (3, [.int (nI g), .int (nI p), .ref aR, .ref aB, .ref aA, .ref aO, .int (nI dm), .ref aD, .ref aP, .int (nI th), .int (nI rm), .ref aS, .ref aW, .ref aU, .ref aL, .ref aE, .ref aQ]))] := hD
  subst hr_r_1
  refine lv_if_eq (tgt := 21) hXX hBB dX3_isPlace_6 (by decide) (fun c_6 => ?_) (fun c_6 => ?_)
  · have c_6 : (inB x (nI 0) (nI (g * p - 1))) = false := m_bz0 c_6
    refine lv_iconst (v := nI 1) hXX hBB dX3_isPlace_21 (by decide) ?_
    refine va_put (D := D) (ci := 3) (v := .int (nI 1)) (ty := .int) (C := RX3) (T := TX3) (N := 17) hXX hBB hts iw_X3 tyX3 tyX3_ok nmX3 hown hK hP hD hS 0 rfl rfl 9 (by decide) kw_1 (fun _ h9 => h9) rfl (by decide +kernel) (rfl) (rfl) (Nat.le_of_ble_eq_true rfl) dX3_isPlace_22 (fun H locs hP hD hS => ?_)
    have hP : va_P D vwCl [(h, .inr (3, [.int (nI g), .int (nI p), .ref aR, .ref aB, .ref aA, .ref aO, .int (nI dm), .ref aD, .ref aP, .int (nI 1), .int (nI rm), .ref aS, .ref aW, .ref aU, .ref aL, .ref aE, .ref aQ]))] H := hP
    have hD : va_D AA [(h, .inr (3, [.int (nI g), .int (nI p), .ref aR, .ref aB, .ref aA, .ref aO, .int (nI dm), .ref aD, .ref aP, .int (nI 1), .int (nI rm), .ref aS, .ref aW, .ref aU, .ref aL, .ref aE, .ref aQ]))] := hD
    refine lv_aload_n hXX hBB dX3_isPlace_25 rfl (lv_at hl 0 rfl) ?_
    refine va_get (D := D) (ci := 3) (v := .int (nI 1)) (C := RX3) (T := TX3) (N := 17) hXX hBB hts iw_X3 hown hK hP 0 rfl rfl 9 (by decide) kw_1 (fun _ h9 => h9) rfl dX3_isPlace_26 ?_
    refine lv_if_ne (tgt := 36) hXX hBB dX3_isPlace_29 (by decide) (fun c_29 => ?_) (fun c_29 => ?_)
    · have c_29 : ¬ 1 = 0 := fun h9 => c_29 ((m_z (by omega)).mpr h9)
      refine lv_iconst (v := nI 0) hXX hBB dX3_isPlace_36 (by decide) ?_
      refine hret (r := nI 0) 1 ?_ (rfl) (hP.sub [0] rfl) (hD.sub [0] (by decide) rfl) hS (Nat.le_of_ble_eq_true rfl) (Nat.le_of_ble_eq_true rfl) dX3_isPlace_37
      show (plPost x y (g * p) g 1 (nI 0))
      exact ⟨by first | (simp [c_6]; done) | (simp [c_6, c_14]; done), rfl⟩
    · exact absurd c_29 (by decide)
  · have c_6 : (inB x (nI 0) (nI (g * p - 1))) = true := m_bz1 c_6
    refine lv_aload_n hXX hBB dX3_isPlace_9 rfl (lv_at hl 0 rfl) ?_
    refine lv_iload_n hXX hBB dX3_isPlace_10 rfl (lv_at hl 2 rfl) ?_
    refine m_calli (wr := []) ⟨hXX, hBB, hml, hown, hts⟩ hN (kX3_isGroup l D h g p aR aB aA aO dm aD aP th rm aS aW aU aL aE aQ y (by omega)) (cwV 1 hts gX3_isPlace_X3_isGroup rfl rfl rfl (by decide +kernel) ⟨Nat.le_of_ble_eq_true rfl, Nat.le_of_ble_eq_true rfl⟩) hK hP hD hS hAA [0] [] [] rfl rfl rfl (by decide) (by decide) (by decide) rfl 3 rfl rfl rfl rfl hl.1 rfl (Nat.le_of_ble_eq_true rfl) dX3_isPlace_11 ⟨Nat.le_of_ble_eq_true rfl, Nat.le_of_ble_eq_true rfl⟩ (k := 0) (n := 0) rfl rfl (fun r_2 u_ H locs hw hP hD hS => ?_)
    have hw : (r_2 = bI (inB y (nI 0) (nI (g - 1)))) := hw
    have hr_r_2 := hw
    have hP : va_P D vwCl [(h, .inr (3, [.int (nI g), .int (nI p), .ref aR, .ref aB, .ref aA, .ref aO, .int (nI dm), .ref aD, .ref aP, .int (nI th), .int (nI rm), .ref aS, .ref aW, .ref aU, .ref aL, .ref aE, .ref aQ]))] H := hP
    have hD : va_D AA [(h, .inr (3, [.int (nI g), .int (nI p), .ref aR, .ref aB, .ref aA, .ref aO, .int (nI dm), .ref aD, .ref aP, .int (nI th), .int (nI rm), .ref aS, .ref aW, .ref aU, .ref aL, .ref aE, .ref aQ]))] := hD
    subst hr_r_2
    refine lv_if_eq (tgt := 21) hXX hBB dX3_isPlace_14 (by decide) (fun c_14 => ?_) (fun c_14 => ?_)
    · have c_14 : (inB y (nI 0) (nI (g - 1))) = false := m_bz0 c_14
      refine lv_iconst (v := nI 1) hXX hBB dX3_isPlace_21 (by decide) ?_
      refine va_put (D := D) (ci := 3) (v := .int (nI 1)) (ty := .int) (C := RX3) (T := TX3) (N := 17) hXX hBB hts iw_X3 tyX3 tyX3_ok nmX3 hown hK hP hD hS 0 rfl rfl 9 (by decide) kw_1 (fun _ h9 => h9) rfl (by decide +kernel) (rfl) (rfl) (Nat.le_of_ble_eq_true rfl) dX3_isPlace_22 (fun H locs hP hD hS => ?_)
      have hP : va_P D vwCl [(h, .inr (3, [.int (nI g), .int (nI p), .ref aR, .ref aB, .ref aA, .ref aO, .int (nI dm), .ref aD, .ref aP, .int (nI 1), .int (nI rm), .ref aS, .ref aW, .ref aU, .ref aL, .ref aE, .ref aQ]))] H := hP
      have hD : va_D AA [(h, .inr (3, [.int (nI g), .int (nI p), .ref aR, .ref aB, .ref aA, .ref aO, .int (nI dm), .ref aD, .ref aP, .int (nI 1), .int (nI rm), .ref aS, .ref aW, .ref aU, .ref aL, .ref aE, .ref aQ]))] := hD
      refine lv_aload_n hXX hBB dX3_isPlace_25 rfl (lv_at hl 0 rfl) ?_
      refine va_get (D := D) (ci := 3) (v := .int (nI 1)) (C := RX3) (T := TX3) (N := 17) hXX hBB hts iw_X3 hown hK hP 0 rfl rfl 9 (by decide) kw_1 (fun _ h9 => h9) rfl dX3_isPlace_26 ?_
      refine lv_if_ne (tgt := 36) hXX hBB dX3_isPlace_29 (by decide) (fun c_29 => ?_) (fun c_29 => ?_)
      · have c_29 : ¬ 1 = 0 := fun h9 => c_29 ((m_z (by omega)).mpr h9)
        refine lv_iconst (v := nI 0) hXX hBB dX3_isPlace_36 (by decide) ?_
        refine hret (r := nI 0) 1 ?_ (rfl) (hP.sub [0] rfl) (hD.sub [0] (by decide) rfl) hS (Nat.le_of_ble_eq_true rfl) (Nat.le_of_ble_eq_true rfl) dX3_isPlace_37
        show (plPost x y (g * p) g 1 (nI 0))
        exact ⟨by first | (simp [c_6]; done) | (simp [c_6, c_14]; done), rfl⟩
      · exact absurd c_29 (by decide)
    · have c_14 : (inB y (nI 0) (nI (g - 1))) = true := m_bz1 c_14
      refine lv_iconst (v := nI 0) hXX hBB dX3_isPlace_17 (by decide) ?_
      refine lv_goto (tgt := 22) hXX hBB dX3_isPlace_18 (by decide) ?_
      refine va_put (D := D) (ci := 3) (v := .int (nI 0)) (ty := .int) (C := RX3) (T := TX3) (N := 17) hXX hBB hts iw_X3 tyX3 tyX3_ok nmX3 hown hK hP hD hS 0 rfl rfl 9 (by decide) kw_1 (fun _ h9 => h9) rfl (by decide +kernel) (rfl) (rfl) (Nat.le_of_ble_eq_true rfl) dX3_isPlace_22 (fun H locs hP hD hS => ?_)
      have hP : va_P D vwCl [(h, .inr (3, [.int (nI g), .int (nI p), .ref aR, .ref aB, .ref aA, .ref aO, .int (nI dm), .ref aD, .ref aP, .int (nI 0), .int (nI rm), .ref aS, .ref aW, .ref aU, .ref aL, .ref aE, .ref aQ]))] H := hP
      have hD : va_D AA [(h, .inr (3, [.int (nI g), .int (nI p), .ref aR, .ref aB, .ref aA, .ref aO, .int (nI dm), .ref aD, .ref aP, .int (nI 0), .int (nI rm), .ref aS, .ref aW, .ref aU, .ref aL, .ref aE, .ref aQ]))] := hD
      refine lv_aload_n hXX hBB dX3_isPlace_25 rfl (lv_at hl 0 rfl) ?_
      refine va_get (D := D) (ci := 3) (v := .int (nI 0)) (C := RX3) (T := TX3) (N := 17) hXX hBB hts iw_X3 hown hK hP 0 rfl rfl 9 (by decide) kw_1 (fun _ h9 => h9) rfl dX3_isPlace_26 ?_
      refine lv_if_ne (tgt := 36) hXX hBB dX3_isPlace_29 (by decide) (fun c_29 => ?_) (fun c_29 => ?_)
      · exact absurd (by decide) c_29
      · have c_29 : 0 = 0 := (m_z (by omega)).mp c_29
        refine lv_iconst (v := nI 1) hXX hBB dX3_isPlace_32 (by decide) ?_
        refine lv_goto (tgt := 37) hXX hBB dX3_isPlace_33 (by decide) ?_
        refine hret (r := nI 1) 0 ?_ (rfl) (hP.sub [0] rfl) (hD.sub [0] (by decide) rfl) hS (Nat.le_of_ble_eq_true rfl) (Nat.le_of_ble_eq_true rfl) dX3_isPlace_37
        show (plPost x y (g * p) g 0 (nI 1))
        exact ⟨by first | (simp [c_6]; done) | (simp [c_6, c_14]; done), rfl⟩
abbrev rmX3_teamAt : Room := { frames := 2, cells := 0, slots := 0, locals := 43 }
set_option maxHeartbeats 4000000 in
set_option maxRecDepth 100000 in
theorem kX3_teamAt (l : Launch) (D : va_G) (cI : ClassId) (h : Nat) (g : Nat) (p : Nat) (aR : Nat) (aB : Nat) (aA : Nat) (aO : Nat) (dm : Nat) (aD : Nat) (aP : Nat) (th : Nat) (rm : Nat) (aS : Nat) (aW : Nat) (aU : Nat) (aL : Nat) (aE : Nat) (aQ : Nat) (S : Nat → Int32) (x : Int32) (y : Int32) (hg0 : 0 < g) (hg4 : g ≤ 4) (hp0 : 0 < p) (hp3 : p ≤ 3) (hT : g * p ≤ 9) : Ci l yX3_teamAt wsX3_teamAt rmX3_teamAt D [(cI, .int)] [.ref h, .int x, .int y] [(h, .inr (3, [.int (nI g), .int (nI p), .ref aR, .ref aB, .ref aA, .ref aO, .int (nI dm), .ref aD, .ref aP, .int (nI th), .int (nI rm), .ref aS, .ref aW, .ref aU, .ref aL, .ref aE, .ref aQ])), (aP, .inl (cI, 9, .inl S))] (fun (r : Int32) (u : Nat) => (taPost x y g p u r S)) (fun (u : Nat) => [(h, .inr (3, [.int (nI g), .int (nI p), .ref aR, .ref aB, .ref aA, .ref aO, .int (nI dm), .ref aD, .ref aP, .int (nI u), .int (nI rm), .ref aS, .ref aW, .ref aU, .ref aL, .ref aE, .ref aQ])), (aP, .inl (cI, 9, .inl S))]) := by
  refine Ci_of (cc := cX3_teamAt) (maxL := 4) (by decide) rfl (Nat.le_of_ble_eq_true rfl) ?_
  intro pR eV sT mI args below meth cO AA QQ ls hXX hBB hml hown hts hnm hN hK hP hD hS hAA hl hret
  have hl : lv_has ls 4 [(0, .ref h), (1, .int x), (2, .int y)] := hl
  have kw_2 := hts (.fieldLink RX3 51 "CupDrawModel" "thrown" "I") (List.mem_of_getElem? (i := 2) rfl)
  have iw_X3 : ∀ w ∈ wsX30, w ∈ wsX3_teamAt := by decide +kernel
  have kw_3 := hts (.fieldLink RX3 55 "CupDrawModel" "groupMany" "I") (List.mem_of_getElem? (i := 3) rfl)
  have kw_1 := hts (.fieldLink RX3 58 "CupDrawModel" "potMany" "I") (List.mem_of_getElem? (i := 1) rfl)
  have kw_4 := hts (.fieldLink RX3 26 "CupDrawModel" "places" "[I") (List.mem_of_getElem? (i := 4) rfl)
  refine lv_aload_n hXX hBB dX3_teamAt_0 rfl (lv_at hl 0 rfl) ?_
  refine lv_aload_n hXX hBB dX3_teamAt_1 rfl (lv_at hl 0 rfl) ?_
  refine lv_iload_n hXX hBB dX3_teamAt_2 rfl (lv_at hl 1 rfl) ?_
  refine m_calli (wr := [(aP, .inl (cI, 9, .inl S))]) ⟨hXX, hBB, hml, hown, hts⟩ hN (kX3_isGroup l D h g p aR aB aA aO dm aD aP th rm aS aW aU aL aE aQ x (by omega)) (cwV 1 hts gX3_teamAt_X3_isGroup rfl rfl rfl (by decide +kernel) ⟨Nat.le_of_ble_eq_true rfl, Nat.le_of_ble_eq_true rfl⟩) hK hP hD hS hAA [0] [1] [] rfl rfl rfl (by decide) (by decide) (by decide) rfl 3 rfl rfl rfl rfl hl.1 rfl (Nat.le_of_ble_eq_true rfl) dX3_teamAt_3 ⟨Nat.le_of_ble_eq_true rfl, Nat.le_of_ble_eq_true rfl⟩ (k := 0) (n := 0) rfl rfl (fun r_1 u_ H locs hw hP hD hS => ?_)
  have hw : (r_1 = bI (inB x (nI 0) (nI (g - 1)))) := hw
  have hr_r_1 := hw
  have hP : va_P D vwCl [(aP, .inl (cI, 9, .inl S)), (h, .inr (3, [.int (nI g), .int (nI p), .ref aR, .ref aB, .ref aA, .ref aO, .int (nI dm), .ref aD, .ref aP, .int (nI th), .int (nI rm), .ref aS, .ref aW, .ref aU, .ref aL, .ref aE, .ref aQ]))] H := hP
  have hD : va_D AA [(aP, .inl (cI, 9, .inl S)), (h, .inr (3, [.int (nI g), .int (nI p), .ref aR, .ref aB, .ref aA, .ref aO, .int (nI dm), .ref aD, .ref aP, .int (nI th), .int (nI rm), .ref aS, .ref aW, .ref aU, .ref aL, .ref aE, .ref aQ]))] := hD
  subst hr_r_1
  refine lv_if_eq (tgt := 27) hXX hBB dX3_teamAt_6 (by decide) (fun c_6 => ?_) (fun c_6 => ?_)
  · have c_6 : (inB x (nI 0) (nI (g - 1))) = false := m_bz0 c_6
    refine lv_iconst (v := nI 1) hXX hBB dX3_teamAt_27 (by decide) ?_
    refine va_put (D := D) (ci := 3) (v := .int (nI 1)) (ty := .int) (C := RX3) (T := TX3) (N := 17) hXX hBB hts iw_X3 tyX3 tyX3_ok nmX3 hown hK hP hD hS 1 rfl rfl 9 (by decide) kw_2 (fun _ h9 => h9) rfl (by decide +kernel) (rfl) (rfl) (Nat.le_of_ble_eq_true rfl) dX3_teamAt_28 (fun H locs hP hD hS => ?_)
    have hP : va_P D vwCl [(aP, .inl (cI, 9, .inl S)), (h, .inr (3, [.int (nI g), .int (nI p), .ref aR, .ref aB, .ref aA, .ref aO, .int (nI dm), .ref aD, .ref aP, .int (nI 1), .int (nI rm), .ref aS, .ref aW, .ref aU, .ref aL, .ref aE, .ref aQ]))] H := hP
    have hD : va_D AA [(aP, .inl (cI, 9, .inl S)), (h, .inr (3, [.int (nI g), .int (nI p), .ref aR, .ref aB, .ref aA, .ref aO, .int (nI dm), .ref aD, .ref aP, .int (nI 1), .int (nI rm), .ref aS, .ref aW, .ref aU, .ref aL, .ref aE, .ref aQ]))] := hD
    refine lv_aload_n hXX hBB dX3_teamAt_31 rfl (lv_at hl 0 rfl) ?_
    refine va_get (D := D) (ci := 3) (v := .int (nI g)) (C := RX3) (T := TX3) (N := 17) hXX hBB hts iw_X3 hown hK hP 1 rfl rfl 0 (by decide) kw_3 (fun _ h9 => h9) rfl dX3_teamAt_32 ?_
    refine lv_iload_n hXX hBB dX3_teamAt_35 rfl (lv_at hl 2 rfl) ?_
    refine lv_imul hXX hBB dX3_teamAt_36 ?_
    refine lv_istore_n (lv' := [(3, .int ((nI g) * y)), (0, .ref h), (1, .int x), (2, .int y)]) hXX hBB dX3_teamAt_37 rfl hl (by decide) rfl (fun ls hl => ?_)
    refine lv_iload_n hXX hBB dX3_teamAt_38 rfl (lv_at hl 0 rfl) ?_
    refine lv_aload_n hXX hBB dX3_teamAt_39 rfl (lv_at hl 1 rfl) ?_
    refine va_get (D := D) (ci := 3) (v := .int (nI g)) (C := RX3) (T := TX3) (N := 17) hXX hBB hts iw_X3 hown hK hP 1 rfl rfl 0 (by decide) kw_3 (fun _ h9 => h9) rfl dX3_teamAt_40 ?_
    refine lv_iload_n hXX hBB dX3_teamAt_43 rfl (lv_at hl 3 rfl) ?_
    refine lv_iconst (v := nI 1) hXX hBB dX3_teamAt_44 (by decide) ?_
    refine lv_iadd hXX hBB dX3_teamAt_45 ?_
    refine lv_imul hXX hBB dX3_teamAt_46 ?_
    refine lv_icmp_ge (tgt := 75) hXX hBB dX3_teamAt_47 (by decide) (fun c_47 => ?_) (fun c_47 => ?_)
    · have c_47 := c_47
      
      refine lv_aload_n hXX hBB dX3_teamAt_75 rfl (lv_at hl 1 rfl) ?_
      refine va_get (D := D) (ci := 3) (v := .int (nI 1)) (C := RX3) (T := TX3) (N := 17) hXX hBB hts iw_X3 hown hK hP 1 rfl rfl 9 (by decide) kw_2 (fun _ h9 => h9) rfl dX3_teamAt_76 ?_
      refine lv_if_ne (tgt := 86) hXX hBB dX3_teamAt_79 (by decide) (fun c_79 => ?_) (fun c_79 => ?_)
      · have c_79 : ¬ 1 = 0 := fun h9 => c_79 ((m_z (by omega)).mpr h9)
        refine lv_iconst (v := nI 0) hXX hBB dX3_teamAt_86 (by decide) ?_
        refine hret (r := nI 0) 1 ?_ (rfl) (hP.sub [1, 0] rfl) (hD.sub [1, 0] (by decide) rfl) hS (Nat.le_of_ble_eq_true rfl) (Nat.le_of_ble_eq_true rfl) dX3_teamAt_87
        show (taPost x y g p 1 (nI 0) S)
        exact ⟨by first | (simp [c_6]; done) | (simp [c_6, c_20]; done), fun q => absurd q (by decide)⟩
      · exact absurd c_79 (by decide)
    · have c_47 := c_47
      refine lv_aload_n hXX hBB dX3_teamAt_50 rfl (lv_at hl 1 rfl) ?_
      refine va_get (D := D) (ci := 3) (v := .int (nI 1)) (C := RX3) (T := TX3) (N := 17) hXX hBB hts iw_X3 hown hK hP 1 rfl rfl 9 (by decide) kw_2 (fun _ h9 => h9) rfl dX3_teamAt_51 ?_
      refine lv_if_ne (tgt := 75) hXX hBB dX3_teamAt_54 (by decide) (fun c_54 => ?_) (fun c_54 => ?_)
      · have c_54 : ¬ 1 = 0 := fun h9 => c_54 ((m_z (by omega)).mpr h9)
        refine lv_aload_n hXX hBB dX3_teamAt_75 rfl (lv_at hl 1 rfl) ?_
        refine va_get (D := D) (ci := 3) (v := .int (nI 1)) (C := RX3) (T := TX3) (N := 17) hXX hBB hts iw_X3 hown hK hP 1 rfl rfl 9 (by decide) kw_2 (fun _ h9 => h9) rfl dX3_teamAt_76 ?_
        refine lv_if_ne (tgt := 86) hXX hBB dX3_teamAt_79 (by decide) (fun c_79 => ?_) (fun c_79 => ?_)
        · have c_79 : ¬ 1 = 0 := fun h9 => c_79 ((m_z (by omega)).mpr h9)
          refine lv_iconst (v := nI 0) hXX hBB dX3_teamAt_86 (by decide) ?_
          refine hret (r := nI 0) 1 ?_ (rfl) (hP.sub [1, 0] rfl) (hD.sub [1, 0] (by decide) rfl) hS (Nat.le_of_ble_eq_true rfl) (Nat.le_of_ble_eq_true rfl) dX3_teamAt_87
          show (taPost x y g p 1 (nI 0) S)
          exact ⟨by first | (simp [c_6]; done) | (simp [c_6, c_20]; done), fun q => absurd q (by decide)⟩
        · exact absurd c_79 (by decide)
      · exact absurd c_54 (by decide)
  · have c_6 : (inB x (nI 0) (nI (g - 1))) = true := m_bz1 c_6
    refine lv_iload_n hXX hBB dX3_teamAt_9 rfl (lv_at hl 2 rfl) ?_
    refine lv_iconst (v := nI 0) hXX hBB dX3_teamAt_10 (by decide) ?_
    refine lv_aload_n hXX hBB dX3_teamAt_11 rfl (lv_at hl 0 rfl) ?_
    refine va_get (D := D) (ci := 3) (v := .int (nI p)) (C := RX3) (T := TX3) (N := 17) hXX hBB hts iw_X3 hown hK hP 1 rfl rfl 1 (by decide) kw_1 (fun _ h9 => h9) rfl dX3_teamAt_12 ?_
    refine lv_iconst (v := nI 1) hXX hBB dX3_teamAt_15 (by decide) ?_
    refine lv_isub hXX hBB dX3_teamAt_16 ?_
    refine m_top (y := nI (p - 1)) (pk_sub (by omega)) ?_
    refine m_scalli (wr := [(aP, .inl (cI, 9, .inl S)), (h, .inr (3, [.int (nI g), .int (nI p), .ref aR, .ref aB, .ref aA, .ref aO, .int (nI dm), .ref aD, .ref aP, .int (nI th), .int (nI rm), .ref aS, .ref aW, .ref aU, .ref aL, .ref aE, .ref aQ]))]) ⟨hXX, hBB, hml, hown, hts⟩ hN (kX3_in l D y (nI 0) (nI (p - 1))) (va_cwS 3 hts gX3_teamAt_X3_in rfl rfl rfl (by decide +kernel) ⟨Nat.le_of_ble_eq_true rfl, Nat.le_of_ble_eq_true rfl⟩) hK hP hD hS hAA [] [0, 1] [] rfl rfl rfl (by decide) (by decide) (by decide) rfl hl.1 rfl (Nat.le_of_ble_eq_true rfl) dX3_teamAt_17 ⟨Nat.le_of_ble_eq_true rfl, Nat.le_of_ble_eq_true rfl⟩ (k := 0) (n := 0) rfl rfl (fun r_2 u_ H locs hw hP hD hS => ?_)
    have hw : (r_2 = bI (inB y (nI 0) (nI (p - 1)))) := hw
    have hr_r_2 := hw
    have hP : va_P D vwCl [(aP, .inl (cI, 9, .inl S)), (h, .inr (3, [.int (nI g), .int (nI p), .ref aR, .ref aB, .ref aA, .ref aO, .int (nI dm), .ref aD, .ref aP, .int (nI th), .int (nI rm), .ref aS, .ref aW, .ref aU, .ref aL, .ref aE, .ref aQ]))] H := hP
    have hD : va_D AA [(aP, .inl (cI, 9, .inl S)), (h, .inr (3, [.int (nI g), .int (nI p), .ref aR, .ref aB, .ref aA, .ref aO, .int (nI dm), .ref aD, .ref aP, .int (nI th), .int (nI rm), .ref aS, .ref aW, .ref aU, .ref aL, .ref aE, .ref aQ]))] := hD
    subst hr_r_2
    refine lv_if_eq (tgt := 27) hXX hBB dX3_teamAt_20 (by decide) (fun c_20 => ?_) (fun c_20 => ?_)
    · have c_20 : (inB y (nI 0) (nI (p - 1))) = false := m_bz0 c_20
      refine lv_iconst (v := nI 1) hXX hBB dX3_teamAt_27 (by decide) ?_
      refine va_put (D := D) (ci := 3) (v := .int (nI 1)) (ty := .int) (C := RX3) (T := TX3) (N := 17) hXX hBB hts iw_X3 tyX3 tyX3_ok nmX3 hown hK hP hD hS 1 rfl rfl 9 (by decide) kw_2 (fun _ h9 => h9) rfl (by decide +kernel) (rfl) (rfl) (Nat.le_of_ble_eq_true rfl) dX3_teamAt_28 (fun H locs hP hD hS => ?_)
      have hP : va_P D vwCl [(aP, .inl (cI, 9, .inl S)), (h, .inr (3, [.int (nI g), .int (nI p), .ref aR, .ref aB, .ref aA, .ref aO, .int (nI dm), .ref aD, .ref aP, .int (nI 1), .int (nI rm), .ref aS, .ref aW, .ref aU, .ref aL, .ref aE, .ref aQ]))] H := hP
      have hD : va_D AA [(aP, .inl (cI, 9, .inl S)), (h, .inr (3, [.int (nI g), .int (nI p), .ref aR, .ref aB, .ref aA, .ref aO, .int (nI dm), .ref aD, .ref aP, .int (nI 1), .int (nI rm), .ref aS, .ref aW, .ref aU, .ref aL, .ref aE, .ref aQ]))] := hD
      refine lv_aload_n hXX hBB dX3_teamAt_31 rfl (lv_at hl 0 rfl) ?_
      refine va_get (D := D) (ci := 3) (v := .int (nI g)) (C := RX3) (T := TX3) (N := 17) hXX hBB hts iw_X3 hown hK hP 1 rfl rfl 0 (by decide) kw_3 (fun _ h9 => h9) rfl dX3_teamAt_32 ?_
      refine lv_iload_n hXX hBB dX3_teamAt_35 rfl (lv_at hl 2 rfl) ?_
      refine lv_imul hXX hBB dX3_teamAt_36 ?_
      refine lv_istore_n (lv' := [(3, .int ((nI g) * y)), (0, .ref h), (1, .int x), (2, .int y)]) hXX hBB dX3_teamAt_37 rfl hl (by decide) rfl (fun ls hl => ?_)
      refine lv_iload_n hXX hBB dX3_teamAt_38 rfl (lv_at hl 0 rfl) ?_
      refine lv_aload_n hXX hBB dX3_teamAt_39 rfl (lv_at hl 1 rfl) ?_
      refine va_get (D := D) (ci := 3) (v := .int (nI g)) (C := RX3) (T := TX3) (N := 17) hXX hBB hts iw_X3 hown hK hP 1 rfl rfl 0 (by decide) kw_3 (fun _ h9 => h9) rfl dX3_teamAt_40 ?_
      refine lv_iload_n hXX hBB dX3_teamAt_43 rfl (lv_at hl 3 rfl) ?_
      refine lv_iconst (v := nI 1) hXX hBB dX3_teamAt_44 (by decide) ?_
      refine lv_iadd hXX hBB dX3_teamAt_45 ?_
      refine lv_imul hXX hBB dX3_teamAt_46 ?_
      refine lv_icmp_ge (tgt := 75) hXX hBB dX3_teamAt_47 (by decide) (fun c_47 => ?_) (fun c_47 => ?_)
      · have c_47 := c_47
        
        refine lv_aload_n hXX hBB dX3_teamAt_75 rfl (lv_at hl 1 rfl) ?_
        refine va_get (D := D) (ci := 3) (v := .int (nI 1)) (C := RX3) (T := TX3) (N := 17) hXX hBB hts iw_X3 hown hK hP 1 rfl rfl 9 (by decide) kw_2 (fun _ h9 => h9) rfl dX3_teamAt_76 ?_
        refine lv_if_ne (tgt := 86) hXX hBB dX3_teamAt_79 (by decide) (fun c_79 => ?_) (fun c_79 => ?_)
        · have c_79 : ¬ 1 = 0 := fun h9 => c_79 ((m_z (by omega)).mpr h9)
          refine lv_iconst (v := nI 0) hXX hBB dX3_teamAt_86 (by decide) ?_
          refine hret (r := nI 0) 1 ?_ (rfl) (hP.sub [1, 0] rfl) (hD.sub [1, 0] (by decide) rfl) hS (Nat.le_of_ble_eq_true rfl) (Nat.le_of_ble_eq_true rfl) dX3_teamAt_87
          show (taPost x y g p 1 (nI 0) S)
          exact ⟨by first | (simp [c_6]; done) | (simp [c_6, c_20]; done), fun q => absurd q (by decide)⟩
        · exact absurd c_79 (by decide)
      · have c_47 := c_47
        refine lv_aload_n hXX hBB dX3_teamAt_50 rfl (lv_at hl 1 rfl) ?_
        refine va_get (D := D) (ci := 3) (v := .int (nI 1)) (C := RX3) (T := TX3) (N := 17) hXX hBB hts iw_X3 hown hK hP 1 rfl rfl 9 (by decide) kw_2 (fun _ h9 => h9) rfl dX3_teamAt_51 ?_
        refine lv_if_ne (tgt := 75) hXX hBB dX3_teamAt_54 (by decide) (fun c_54 => ?_) (fun c_54 => ?_)
        · have c_54 : ¬ 1 = 0 := fun h9 => c_54 ((m_z (by omega)).mpr h9)
          refine lv_aload_n hXX hBB dX3_teamAt_75 rfl (lv_at hl 1 rfl) ?_
          refine va_get (D := D) (ci := 3) (v := .int (nI 1)) (C := RX3) (T := TX3) (N := 17) hXX hBB hts iw_X3 hown hK hP 1 rfl rfl 9 (by decide) kw_2 (fun _ h9 => h9) rfl dX3_teamAt_76 ?_
          refine lv_if_ne (tgt := 86) hXX hBB dX3_teamAt_79 (by decide) (fun c_79 => ?_) (fun c_79 => ?_)
          · have c_79 : ¬ 1 = 0 := fun h9 => c_79 ((m_z (by omega)).mpr h9)
            refine lv_iconst (v := nI 0) hXX hBB dX3_teamAt_86 (by decide) ?_
            refine hret (r := nI 0) 1 ?_ (rfl) (hP.sub [1, 0] rfl) (hD.sub [1, 0] (by decide) rfl) hS (Nat.le_of_ble_eq_true rfl) (Nat.le_of_ble_eq_true rfl) dX3_teamAt_87
            show (taPost x y g p 1 (nI 0) S)
            exact ⟨by first | (simp [c_6]; done) | (simp [c_6, c_20]; done), fun q => absurd q (by decide)⟩
          · exact absurd c_79 (by decide)
        · exact absurd c_54 (by decide)
    · have c_20 : (inB y (nI 0) (nI (p - 1))) = true := m_bz1 c_20
      refine lv_iconst (v := nI 0) hXX hBB dX3_teamAt_23 (by decide) ?_
      refine lv_goto (tgt := 28) hXX hBB dX3_teamAt_24 (by decide) ?_
      refine va_put (D := D) (ci := 3) (v := .int (nI 0)) (ty := .int) (C := RX3) (T := TX3) (N := 17) hXX hBB hts iw_X3 tyX3 tyX3_ok nmX3 hown hK hP hD hS 1 rfl rfl 9 (by decide) kw_2 (fun _ h9 => h9) rfl (by decide +kernel) (rfl) (rfl) (Nat.le_of_ble_eq_true rfl) dX3_teamAt_28 (fun H locs hP hD hS => ?_)
      have hP : va_P D vwCl [(aP, .inl (cI, 9, .inl S)), (h, .inr (3, [.int (nI g), .int (nI p), .ref aR, .ref aB, .ref aA, .ref aO, .int (nI dm), .ref aD, .ref aP, .int (nI 0), .int (nI rm), .ref aS, .ref aW, .ref aU, .ref aL, .ref aE, .ref aQ]))] H := hP
      have hD : va_D AA [(aP, .inl (cI, 9, .inl S)), (h, .inr (3, [.int (nI g), .int (nI p), .ref aR, .ref aB, .ref aA, .ref aO, .int (nI dm), .ref aD, .ref aP, .int (nI 0), .int (nI rm), .ref aS, .ref aW, .ref aU, .ref aL, .ref aE, .ref aQ]))] := hD
      obtain ⟨kx, hlo_kx, hhi_kx, he_kx⟩ := inB_nat (lo := 0) (hi := g - 1) (by omega) c_6
      obtain ⟨q, hlo_q, hhi_q, he_q⟩ := inB_nat (lo := 0) (hi := p - 1) (by omega) c_20
      have hl : lv_has ls 4 [(0, .ref h), (1, .int x), (2, .int (nI q))] := by rw [he_q] at hl; exact hl
      have hms : g * (q + 1) = g * q + g := Nat.mul_succ g q
      have hmq : g * (q + 1) ≤ 9 := Nat.le_trans (Nat.mul_le_mul_left g (by omega)) hT
      refine lv_aload_n hXX hBB dX3_teamAt_31 rfl (lv_at hl 0 rfl) ?_
      refine va_get (D := D) (ci := 3) (v := .int (nI g)) (C := RX3) (T := TX3) (N := 17) hXX hBB hts iw_X3 hown hK hP 1 rfl rfl 0 (by decide) kw_3 (fun _ h9 => h9) rfl dX3_teamAt_32 ?_
      refine lv_iload_n hXX hBB dX3_teamAt_35 rfl (lv_at hl 2 rfl) ?_
      refine lv_imul hXX hBB dX3_teamAt_36 ?_
      refine m_top (y := nI (g * q)) (pk_mul _ _) ?_
      refine lv_istore_n (lv' := [(3, .int (nI (g * q))), (0, .ref h), (1, .int x), (2, .int (nI q))]) hXX hBB dX3_teamAt_37 rfl hl (by decide) rfl (fun ls hl => ?_)
      have L_38 : ∀ (N_38 : Nat) (t : Nat), (g * q ≤ t ∧ t ≤ g * q + g) → (fndR S x (g * q + g - t) t = fndR S x g (g * q)) → g * q + g - t < N_38 → ∀ (H : Heap) (locs : List Loc), va_P D vwCl [(aP, .inl (cI, 9, .inl S)), (h, .inr (3, [.int (nI g), .int (nI p), .ref aR, .ref aB, .ref aA, .ref aO, .int (nI dm), .ref aD, .ref aP, .int (nI 0), .int (nI rm), .ref aS, .ref aW, .ref aU, .ref aL, .ref aE, .ref aQ]))] H → va_D AA [(aP, .inl (cI, 9, .inl S)), (h, .inr (3, [.int (nI g), .int (nI p), .ref aR, .ref aB, .ref aA, .ref aO, .int (nI dm), .ref aD, .ref aP, .int (nI 0), .int (nI rm), .ref aS, .ref aW, .ref aU, .ref aL, .ref aE, .ref aQ]))] → va_S AA sT.heap H locs → ∀ (ls : Array Slot), lv_has ls 4 [(3, .int (nI t)), (0, .ref h), (1, .int x), (2, .int (nI q))] → W pR l eV rmX3_teamAt sT mI args below meth cO H locs 0 0 QQ (F0 mI 38 ls []) := by
        intro N_38
        induction N_38 with
        | zero =>
          intro t ht hr hMM
          exact absurd hMM (Nat.not_lt_zero _)
        | succ N_38 ih_38 =>
          intro t ht hr hMM H locs hP hD hS ls hl
          refine lv_iload_n hXX hBB dX3_teamAt_38 rfl (lv_at hl 0 rfl) ?_
          refine lv_aload_n hXX hBB dX3_teamAt_39 rfl (lv_at hl 1 rfl) ?_
          refine va_get (D := D) (ci := 3) (v := .int (nI g)) (C := RX3) (T := TX3) (N := 17) hXX hBB hts iw_X3 hown hK hP 1 rfl rfl 0 (by decide) kw_3 (fun _ h9 => h9) rfl dX3_teamAt_40 ?_
          refine lv_iload_n hXX hBB dX3_teamAt_43 rfl (lv_at hl 3 rfl) ?_
          refine lv_iconst (v := nI 1) hXX hBB dX3_teamAt_44 (by decide) ?_
          refine lv_iadd hXX hBB dX3_teamAt_45 ?_
          refine m_top (y := nI (q + 1)) (nI_add _ _) ?_
          refine lv_imul hXX hBB dX3_teamAt_46 ?_
          refine m_top (y := nI (g * (q + 1))) (pk_mul _ _) ?_
          refine lv_icmp_ge (tgt := 75) hXX hBB dX3_teamAt_47 (by decide) (fun c_47 => ?_) (fun c_47 => ?_)
          · have c_47 : (g * (q + 1)) ≤ t := (nI_leI (by omega) (by omega)).mp c_47
            
            refine lv_aload_n hXX hBB dX3_teamAt_75 rfl (lv_at hl 1 rfl) ?_
            refine va_get (D := D) (ci := 3) (v := .int (nI 0)) (C := RX3) (T := TX3) (N := 17) hXX hBB hts iw_X3 hown hK hP 1 rfl rfl 9 (by decide) kw_2 (fun _ h9 => h9) rfl dX3_teamAt_76 ?_
            refine lv_if_ne (tgt := 86) hXX hBB dX3_teamAt_79 (by decide) (fun c_79 => ?_) (fun c_79 => ?_)
            · exact absurd (by decide) c_79
            · have c_79 : 0 = 0 := (m_z (by omega)).mp c_79
              refine lv_iconst (v := (-1)) hXX hBB dX3_teamAt_82 (by decide) ?_
              refine lv_goto (tgt := 87) hXX hBB dX3_teamAt_83 (by decide) ?_
              refine hret (r := (-1)) 0 ?_ (rfl) (hP.sub [1, 0] rfl) (hD.sub [1, 0] (by decide) rfl) hS (Nat.le_of_ble_eq_true rfl) (Nat.le_of_ble_eq_true rfl) dX3_teamAt_87
              show (taPost x y g p 0 (-1) S)
              rw [show g * q + g - t = 0 by omega] at hr
              exact ⟨by simp [c_6, c_20], fun _ => ⟨kx, q, by omega, by omega, he_kx, he_q, hr⟩⟩
          · have c_47 : ¬ (g * (q + 1)) ≤ t := fun h9 => c_47 ((nI_leI (by omega) (by omega)).mpr h9)
            refine lv_aload_n hXX hBB dX3_teamAt_50 rfl (lv_at hl 1 rfl) ?_
            refine va_get (D := D) (ci := 3) (v := .int (nI 0)) (C := RX3) (T := TX3) (N := 17) hXX hBB hts iw_X3 hown hK hP 1 rfl rfl 9 (by decide) kw_2 (fun _ h9 => h9) rfl dX3_teamAt_51 ?_
            refine lv_if_ne (tgt := 75) hXX hBB dX3_teamAt_54 (by decide) (fun c_54 => ?_) (fun c_54 => ?_)
            · exact absurd (by decide) c_54
            · have c_54 : 0 = 0 := (m_z (by omega)).mp c_54
              obtain ⟨z, hz⟩ : ∃ z, g * q + g - t = z + 1 := ⟨g * q + g - t - 1, by omega⟩
              rw [hz] at hr
              simp only [fndR] at hr
              refine lv_aload_n hXX hBB dX3_teamAt_57 rfl (lv_at hl 1 rfl) ?_
              refine va_get (D := D) (ci := 3) (v := .ref aP) (C := RX3) (T := TX3) (N := 17) hXX hBB hts iw_X3 hown hK hP 1 rfl rfl 8 (by decide) kw_4 (fun _ h9 => h9) rfl dX3_teamAt_58 ?_
              refine lv_iload_n hXX hBB dX3_teamAt_61 rfl (lv_at hl 0 rfl) ?_
              refine m_iald hXX hBB hK hP 0 0 rfl rfl (i := t) (by omega) (by decide) (x := S t) rfl dX3_teamAt_62 ?_
              refine lv_iload_n hXX hBB dX3_teamAt_63 rfl (lv_at hl 2 rfl) ?_
              refine lv_icmp_ne (tgt := 69) hXX hBB dX3_teamAt_64 (by decide) (fun c_64 => ?_) (fun c_64 => ?_)
              · have c_64 := c_64
                rw [if_neg c_64] at hr
                have hst : fndR S x (g * q + g - (t + 1)) (t + 1) = fndR S x g (g * q) := by rw [show g * q + g - (t + 1) = z by omega]; exact hr
                refine lv_iinc (v := nI (t + 1)) (lv' := [(3, .int (nI (t + 1))), (0, .ref h), (1, .int x), (2, .int (nI q))]) hXX hBB dX3_teamAt_69 hl (k := 0) rfl (nI_1 _) (by decide) rfl (fun ls hl => ?_)
                refine lv_goto (tgt := 38) hXX hBB dX3_teamAt_72 (by decide) ?_
                have hi_t : g * q ≤ (t + 1) ∧ (t + 1) ≤ g * q + g := by omega
                have hi_r : fndR S x (g * q + g - (t + 1)) (t + 1) = fndR S x g (g * q) := by exact hst
                have hmm : g * q + g - (t + 1) < N_38 := by omega
                exact ih_38 (t + 1) hi_t hi_r hmm _ _ (hP.sub [0, 1] rfl) (hD.sub [0, 1] (by decide) rfl) hS ls (lv_sub hl [0, 1, 2, 3] rfl)
              · have c_64 := c_64
                rw [if_pos c_64] at hr
                refine lv_iload_n hXX hBB dX3_teamAt_67 rfl (lv_at hl 0 rfl) ?_
                refine hret (r := nI t) 0 ?_ (rfl) (hP.sub [1, 0] rfl) (hD.sub [1, 0] (by decide) rfl) hS (Nat.le_of_ble_eq_true rfl) (Nat.le_of_ble_eq_true rfl) dX3_teamAt_68
                show (taPost x y g p 0 (nI t) S)
                exact ⟨by simp [c_6, c_20], fun _ => ⟨kx, q, by omega, by omega, he_kx, he_q, hr⟩⟩
      have hi_t : g * q ≤ (g * q) ∧ (g * q) ≤ g * q + g := by omega
      have hi_r : fndR S x (g * q + g - (g * q)) (g * q) = fndR S x g (g * q) := by rw [show g * q + g - g * q = g by omega]
      exact L_38 _ (g * q) hi_t hi_r (Nat.lt_succ_self _) _ _ hP hD hS ls (lv_sub hl [0, 1, 2, 3] rfl)
abbrev rmX3_countIn : Room := { frames := 0, cells := 0, slots := 0, locals := 0 }
set_option maxHeartbeats 4000000 in
set_option maxRecDepth 100000 in
theorem kX3_countIn (l : Launch) (D : va_G) (cI : ClassId) (h : Nat) (g : Nat) (p : Nat) (aR : Nat) (aB : Nat) (aA : Nat) (aO : Nat) (dm : Nat) (aD : Nat) (aP : Nat) (th : Nat) (rm : Nat) (aS : Nat) (aW : Nat) (aU : Nat) (aL : Nat) (aE : Nat) (aQ : Nat) (rs : Nat → Nat) (tm : Nat) (gg : Nat) (hrm : rm ≤ 576) (hrs : ∀ z, z < 5184 → rs z < 4) (htm : tm < 9) (hgg : gg < 2 ^ 31) : Ci l yX3_countIn wsX3_countIn rmX3_countIn D [(cI, .int)] [.ref h, .int (nI tm), .int (nI gg)] [(h, .inr (3, [.int (nI g), .int (nI p), .ref aR, .ref aB, .ref aA, .ref aO, .int (nI dm), .ref aD, .ref aP, .int (nI th), .int (nI rm), .ref aS, .ref aW, .ref aU, .ref aL, .ref aE, .ref aQ])), (aS, .inl (cI, 5184, .inl (fun j => nI (rs j))))] (fun (r : Int32) (_ : Unit) => r = nI (ct (fun z => decide (rs (9 * z + tm) = gg)) rm)) (fun (_ : Unit) => [(h, .inr (3, [.int (nI g), .int (nI p), .ref aR, .ref aB, .ref aA, .ref aO, .int (nI dm), .ref aD, .ref aP, .int (nI th), .int (nI rm), .ref aS, .ref aW, .ref aU, .ref aL, .ref aE, .ref aQ])), (aS, .inl (cI, 5184, .inl (fun j => nI (rs j))))]) := by
  refine Ci_of (cc := cX3_countIn) (maxL := 5) (by decide) rfl (Nat.le_of_ble_eq_true rfl) ?_
  intro pR eV sT mI args below meth cO AA QQ ls hXX hBB hml hown hts hnm hN hK hP hD hS hAA hl hret
  have hl : lv_has ls 5 [(0, .ref h), (1, .int (nI tm)), (2, .int (nI gg))] := hl
  have kw_1 := hts (.fieldLink RX3 84 "CupDrawModel" "resultMany" "I") (List.mem_of_getElem? (i := 1) rfl)
  have iw_X3 : ∀ w ∈ wsX30, w ∈ wsX3_countIn := by decide +kernel
  have kw_2 := hts (.fieldLink RX3 29 "CupDrawModel" "results" "[I") (List.mem_of_getElem? (i := 2) rfl)
  refine lv_iconst (v := nI 0) hXX hBB dX3_countIn_0 (by decide) ?_
  refine lv_istore_n (lv' := [(3, .int (nI 0)), (0, .ref h), (1, .int (nI tm)), (2, .int (nI gg))]) hXX hBB dX3_countIn_1 rfl hl (by decide) rfl (fun ls hl => ?_)
  refine lv_iconst (v := nI 0) hXX hBB dX3_countIn_2 (by decide) ?_
  refine lv_istore (lv' := [(4, .int (nI 0)), (3, .int (nI 0)), (0, .ref h), (1, .int (nI tm)), (2, .int (nI gg))]) hXX hBB dX3_countIn_3 hl (by decide) rfl (fun ls hl => ?_)
  have L_5 : ∀ (N_5 : Nat) (k : Nat) (x : Nat), (k ≤ rm) → (x = ct (fun z => decide (rs (9 * z + tm) = gg)) k) → rm - k < N_5 → ∀ (H : Heap) (locs : List Loc), va_P D vwCl [(h, .inr (3, [.int (nI g), .int (nI p), .ref aR, .ref aB, .ref aA, .ref aO, .int (nI dm), .ref aD, .ref aP, .int (nI th), .int (nI rm), .ref aS, .ref aW, .ref aU, .ref aL, .ref aE, .ref aQ])), (aS, .inl (cI, 5184, .inl (fun j => nI (rs j))))] H → va_D AA [(h, .inr (3, [.int (nI g), .int (nI p), .ref aR, .ref aB, .ref aA, .ref aO, .int (nI dm), .ref aD, .ref aP, .int (nI th), .int (nI rm), .ref aS, .ref aW, .ref aU, .ref aL, .ref aE, .ref aQ])), (aS, .inl (cI, 5184, .inl (fun j => nI (rs j))))] → va_S AA sT.heap H locs → ∀ (ls : Array Slot), lv_has ls 5 [(4, .int (nI k)), (3, .int (nI x)), (0, .ref h), (1, .int (nI tm)), (2, .int (nI gg))] → W pR l eV rmX3_countIn sT mI args below meth cO H locs 0 0 QQ (F0 mI 5 ls []) := by
    intro N_5
    induction N_5 with
    | zero =>
      intro k x hk hx hMM
      exact absurd hMM (Nat.not_lt_zero _)
    | succ N_5 ih_5 =>
      intro k x hk hx hMM H locs hP hD hS ls hl
      refine lv_iload hXX hBB dX3_countIn_5 (lv_at hl 0 rfl) ?_
      refine lv_aload_n hXX hBB dX3_countIn_7 rfl (lv_at hl 2 rfl) ?_
      refine va_get (D := D) (ci := 3) (v := .int (nI rm)) (C := RX3) (T := TX3) (N := 17) hXX hBB hts iw_X3 hown hK hP 0 rfl rfl 10 (by decide) kw_1 (fun _ h9 => h9) rfl dX3_countIn_8 ?_
      refine lv_icmp_ge (tgt := 44) hXX hBB dX3_countIn_11 (by decide) (fun c_11 => ?_) (fun c_11 => ?_)
      · have c_11 : rm ≤ k := (nI_leI (by omega) (by omega)).mp c_11
        have hE : k = rm := by omega
        refine lv_iload_n hXX hBB dX3_countIn_44 rfl (lv_at hl 1 rfl) ?_
        refine hret (r := nI x) () ?_ (rfl) (hP.sub [0, 1] rfl) (hD.sub [0, 1] (by decide) rfl) hS (Nat.le_of_ble_eq_true rfl) (Nat.le_of_ble_eq_true rfl) dX3_countIn_45
        show nI x = nI (ct (fun z => decide (rs (9 * z + tm) = gg)) rm)
        rw [hx, hE]
      · have c_11 : ¬ rm ≤ k := fun h9 => c_11 ((nI_leI (by omega) (by omega)).mpr h9)
        have hb4 := hrs (9 * k + tm) (by omega)
        refine lv_iload_n hXX hBB dX3_countIn_14 rfl (lv_at hl 1 rfl) ?_
        refine lv_aload_n hXX hBB dX3_countIn_15 rfl (lv_at hl 2 rfl) ?_
        refine va_get (D := D) (ci := 3) (v := .ref aS) (C := RX3) (T := TX3) (N := 17) hXX hBB hts iw_X3 hown hK hP 0 rfl rfl 11 (by decide) kw_2 (fun _ h9 => h9) rfl dX3_countIn_16 ?_
        refine lv_bipush (v := nI 9) hXX hBB dX3_countIn_19 (by decide) ?_
        refine lv_iload hXX hBB dX3_countIn_21 (lv_at hl 0 rfl) ?_
        refine lv_imul hXX hBB dX3_countIn_23 ?_
        refine m_top (y := nI (9 * k)) (pk_mul _ _) ?_
        refine lv_iload_n hXX hBB dX3_countIn_24 rfl (lv_at hl 3 rfl) ?_
        refine lv_iadd hXX hBB dX3_countIn_25 ?_
        refine m_top (y := nI ((9 * k) + tm)) (nI_add _ _) ?_
        refine m_iald hXX hBB hK hP 1 0 rfl rfl (i := (9 * k) + tm) (by omega) (by decide) (x := nI (rs ((9 * k) + tm))) rfl dX3_countIn_26 ?_
        refine lv_iload_n hXX hBB dX3_countIn_27 rfl (lv_at hl 4 rfl) ?_
        refine lv_icmp_ne (tgt := 35) hXX hBB dX3_countIn_28 (by decide) (fun c_28 => ?_) (fun c_28 => ?_)
        · have c_28 : ¬ (rs ((9 * k) + tm)) = gg := fun h9 => c_28 ((nI_eq (by omega) (by omega)).mpr h9)
          refine lv_iconst (v := nI 0) hXX hBB dX3_countIn_35 (by decide) ?_
          refine lv_iadd hXX hBB dX3_countIn_36 ?_
          refine m_top (y := nI (x + 0)) (nI_add _ _) ?_
          refine lv_istore_n (lv' := [(3, .int (nI (x + 0))), (4, .int (nI k)), (0, .ref h), (1, .int (nI tm)), (2, .int (nI gg))]) hXX hBB dX3_countIn_37 rfl hl (by decide) rfl (fun ls hl => ?_)
          refine lv_iinc (v := nI (k + 1)) (lv' := [(4, .int (nI (k + 1))), (3, .int (nI (x + 0))), (0, .ref h), (1, .int (nI tm)), (2, .int (nI gg))]) hXX hBB dX3_countIn_38 hl (k := 1) rfl (nI_1 _) (by decide) rfl (fun ls hl => ?_)
          refine lv_goto (tgt := 5) hXX hBB dX3_countIn_41 (by decide) ?_
          have hi_k : (k + 1) ≤ rm := by omega
          have hi_x : (x + 0) = ct (fun z => decide (rs (9 * z + tm) = gg)) (k + 1) := by first | (rw [ct_t (by simp [c_28])]; omega) | (rw [ct_f (by simp [c_28])]; omega)
          have hmm : rm - (k + 1) < N_5 := by omega
          exact ih_5 (k + 1) (x + 0) hi_k hi_x hmm _ _ (hP.sub [0, 1] rfl) (hD.sub [0, 1] (by decide) rfl) hS ls (lv_sub hl [0, 1, 2, 3, 4] rfl)
        · have c_28 : (rs ((9 * k) + tm)) = gg := (nI_eq (by omega) (by omega)).mp c_28
          refine lv_iconst (v := nI 1) hXX hBB dX3_countIn_31 (by decide) ?_
          refine lv_goto (tgt := 36) hXX hBB dX3_countIn_32 (by decide) ?_
          refine lv_iadd hXX hBB dX3_countIn_36 ?_
          refine m_top (y := nI (x + 1)) (nI_add _ _) ?_
          refine lv_istore_n (lv' := [(3, .int (nI (x + 1))), (4, .int (nI k)), (0, .ref h), (1, .int (nI tm)), (2, .int (nI gg))]) hXX hBB dX3_countIn_37 rfl hl (by decide) rfl (fun ls hl => ?_)
          refine lv_iinc (v := nI (k + 1)) (lv' := [(4, .int (nI (k + 1))), (3, .int (nI (x + 1))), (0, .ref h), (1, .int (nI tm)), (2, .int (nI gg))]) hXX hBB dX3_countIn_38 hl (k := 1) rfl (nI_1 _) (by decide) rfl (fun ls hl => ?_)
          refine lv_goto (tgt := 5) hXX hBB dX3_countIn_41 (by decide) ?_
          have hi_k : (k + 1) ≤ rm := by omega
          have hi_x : (x + 1) = ct (fun z => decide (rs (9 * z + tm) = gg)) (k + 1) := by first | (rw [ct_t (by simp [c_28])]; omega) | (rw [ct_f (by simp [c_28])]; omega)
          have hmm : rm - (k + 1) < N_5 := by omega
          exact ih_5 (k + 1) (x + 1) hi_k hi_x hmm _ _ (hP.sub [0, 1] rfl) (hD.sub [0, 1] (by decide) rfl) hS ls (lv_sub hl [0, 1, 2, 3, 4] rfl)
  have hi_k : 0 ≤ rm := by omega
  have hi_x : 0 = ct (fun z => decide (rs (9 * z + tm) = gg)) 0 := by rfl
  exact L_5 _ 0 0 hi_k hi_x (Nat.lt_succ_self _) _ _ hP hD hS ls (lv_sub hl [0, 1, 2, 3, 4] rfl)
abbrev rmX3_lowestFor : Room := { frames := 1, cells := 0, slots := 0, locals := 24 }
set_option maxHeartbeats 4000000 in
set_option maxRecDepth 100000 in
theorem kX3_lowestFor (l : Launch) (D : va_G) (cI : ClassId) (h : Nat) (g : Nat) (p : Nat) (aR : Nat) (aB : Nat) (aA : Nat) (aO : Nat) (dm : Nat) (aD : Nat) (aP : Nat) (th : Nat) (rm : Nat) (aS : Nat) (aW : Nat) (aU : Nat) (aL : Nat) (aE : Nat) (aQ : Nat) (rs : Nat → Nat) (tm : Nat) (hrm : rm ≤ 576) (hrs : ∀ z, z < 5184 → rs z < 4) (htm : tm < 9) (hg4 : g ≤ 4) : Ci l yX3_lowestFor wsX3_lowestFor rmX3_lowestFor D [(cI, .int)] [.ref h, .int (nI tm)] [(h, .inr (3, [.int (nI g), .int (nI p), .ref aR, .ref aB, .ref aA, .ref aO, .int (nI dm), .ref aD, .ref aP, .int (nI th), .int (nI rm), .ref aS, .ref aW, .ref aU, .ref aL, .ref aE, .ref aQ])), (aS, .inl (cI, 5184, .inl (fun j => nI (rs j))))] (fun (r : Int32) (_ : Unit) => r = lowR (fun zq => ct (fun z => decide (rs (9 * z + tm) = zq)) rm) g 0) (fun (_ : Unit) => [(h, .inr (3, [.int (nI g), .int (nI p), .ref aR, .ref aB, .ref aA, .ref aO, .int (nI dm), .ref aD, .ref aP, .int (nI th), .int (nI rm), .ref aS, .ref aW, .ref aU, .ref aL, .ref aE, .ref aQ])), (aS, .inl (cI, 5184, .inl (fun j => nI (rs j))))]) := by
  refine Ci_of (cc := cX3_lowestFor) (maxL := 3) (by decide) rfl (Nat.le_of_ble_eq_true rfl) ?_
  intro pR eV sT mI args below meth cO AA QQ ls hXX hBB hml hown hts hnm hN hK hP hD hS hAA hl hret
  have hl : lv_has ls 3 [(0, .ref h), (1, .int (nI tm))] := hl
  have kw_1 := hts (.fieldLink RX3 55 "CupDrawModel" "groupMany" "I") (List.mem_of_getElem? (i := 1) rfl)
  have iw_X3 : ∀ w ∈ wsX30, w ∈ wsX3_lowestFor := by decide +kernel
  refine lv_iconst (v := nI 0) hXX hBB dX3_lowestFor_0 (by decide) ?_
  refine lv_istore_n (lv' := [(2, .int (nI 0)), (0, .ref h), (1, .int (nI tm))]) hXX hBB dX3_lowestFor_1 rfl hl (by decide) rfl (fun ls hl => ?_)
  have L_2 : ∀ (N_2 : Nat) (q : Nat), (q ≤ g) → (lowR (fun zq => ct (fun z => decide (rs (9 * z + tm) = zq)) rm) (g - q) q = lowR (fun zq => ct (fun z => decide (rs (9 * z + tm) = zq)) rm) g 0) → g - q < N_2 → ∀ (H : Heap) (locs : List Loc), va_P D vwCl [(h, .inr (3, [.int (nI g), .int (nI p), .ref aR, .ref aB, .ref aA, .ref aO, .int (nI dm), .ref aD, .ref aP, .int (nI th), .int (nI rm), .ref aS, .ref aW, .ref aU, .ref aL, .ref aE, .ref aQ])), (aS, .inl (cI, 5184, .inl (fun j => nI (rs j))))] H → va_D AA [(h, .inr (3, [.int (nI g), .int (nI p), .ref aR, .ref aB, .ref aA, .ref aO, .int (nI dm), .ref aD, .ref aP, .int (nI th), .int (nI rm), .ref aS, .ref aW, .ref aU, .ref aL, .ref aE, .ref aQ])), (aS, .inl (cI, 5184, .inl (fun j => nI (rs j))))] → va_S AA sT.heap H locs → ∀ (ls : Array Slot), lv_has ls 3 [(2, .int (nI q)), (0, .ref h), (1, .int (nI tm))] → W pR l eV rmX3_lowestFor sT mI args below meth cO H locs 0 0 QQ (F0 mI 2 ls []) := by
    intro N_2
    induction N_2 with
    | zero =>
      intro q hq hr hMM
      exact absurd hMM (Nat.not_lt_zero _)
    | succ N_2 ih_2 =>
      intro q hq hr hMM H locs hP hD hS ls hl
      refine lv_iload_n hXX hBB dX3_lowestFor_2 rfl (lv_at hl 0 rfl) ?_
      refine lv_aload_n hXX hBB dX3_lowestFor_3 rfl (lv_at hl 1 rfl) ?_
      refine va_get (D := D) (ci := 3) (v := .int (nI g)) (C := RX3) (T := TX3) (N := 17) hXX hBB hts iw_X3 hown hK hP 0 rfl rfl 0 (by decide) kw_1 (fun _ h9 => h9) rfl dX3_lowestFor_4 ?_
      refine lv_icmp_ge (tgt := 27) hXX hBB dX3_lowestFor_7 (by decide) (fun c_7 => ?_) (fun c_7 => ?_)
      · have c_7 : g ≤ q := (nI_leI (by omega) (by omega)).mp c_7
        rw [show g - q = 0 by omega] at hr
        refine lv_iconst (v := (-1)) hXX hBB dX3_lowestFor_27 (by decide) ?_
        refine hret (r := (-1)) () ?_ (rfl) (hP.sub [0, 1] rfl) (hD.sub [0, 1] (by decide) rfl) hS (Nat.le_of_ble_eq_true rfl) (Nat.le_of_ble_eq_true rfl) dX3_lowestFor_28
        show (-1) = lowR (fun zq => ct (fun z => decide (rs (9 * z + tm) = zq)) rm) g 0
        exact hr
      · have c_7 : ¬ g ≤ q := fun h9 => c_7 ((nI_leI (by omega) (by omega)).mpr h9)
        obtain ⟨z, hz⟩ : ∃ z, g - q = z + 1 := ⟨g - q - 1, by omega⟩
        rw [hz] at hr
        simp only [lowR] at hr
        refine lv_aload_n hXX hBB dX3_lowestFor_10 rfl (lv_at hl 1 rfl) ?_
        refine lv_iload_n hXX hBB dX3_lowestFor_11 rfl (lv_at hl 2 rfl) ?_
        refine lv_iload_n hXX hBB dX3_lowestFor_12 rfl (lv_at hl 0 rfl) ?_
        refine m_calli (wr := []) ⟨hXX, hBB, hml, hown, hts⟩ hN (kX3_countIn l D cI h g p aR aB aA aO dm aD aP th rm aS aW aU aL aE aQ rs tm q (by omega) (by assumption) (by omega) (by omega)) (cwV 2 hts gX3_lowestFor_X3_countIn rfl rfl rfl (by decide +kernel) ⟨Nat.le_of_ble_eq_true rfl, Nat.le_of_ble_eq_true rfl⟩) hK hP hD hS hAA [0, 1] [] [0] rfl rfl rfl (by decide) (by decide) (by decide) rfl 3 rfl rfl rfl rfl hl.1 rfl (Nat.le_of_ble_eq_true rfl) dX3_lowestFor_13 ⟨Nat.le_of_ble_eq_true rfl, Nat.le_of_ble_eq_true rfl⟩ (k := 0) (n := 0) rfl rfl (fun r_1 u_ H locs hw hP hD hS => ?_)
        have hw : (r_1 = nI (ct (fun z => decide (rs (9 * z + tm) = q)) rm)) := hw
        have hr_r_1 := hw
        have hP : va_P D vwCl [(h, .inr (3, [.int (nI g), .int (nI p), .ref aR, .ref aB, .ref aA, .ref aO, .int (nI dm), .ref aD, .ref aP, .int (nI th), .int (nI rm), .ref aS, .ref aW, .ref aU, .ref aL, .ref aE, .ref aQ])), (aS, .inl (cI, 5184, .inl (fun j => nI (rs j))))] H := hP
        have hD : va_D AA [(h, .inr (3, [.int (nI g), .int (nI p), .ref aR, .ref aB, .ref aA, .ref aO, .int (nI dm), .ref aD, .ref aP, .int (nI th), .int (nI rm), .ref aS, .ref aW, .ref aU, .ref aL, .ref aE, .ref aQ])), (aS, .inl (cI, 5184, .inl (fun j => nI (rs j))))] := hD
        subst hr_r_1
        have hcl := ct_le (fun z => decide (rs (9 * z + tm) = q)) rm
        refine lv_if_le (tgt := 21) hXX hBB dX3_lowestFor_16 (by decide) (fun c_16 => ?_) (fun c_16 => ?_)
        · have c_16 : (ct (fun z => decide (rs (9 * z + tm) = q)) rm) = 0 := m_nps_le_t (by omega) c_16
          rw [if_neg (by omega)] at hr
          have hst : lowR (fun zq => ct (fun z => decide (rs (9 * z + tm) = zq)) rm) (g - (q + 1)) (q + 1) = lowR (fun zq => ct (fun z => decide (rs (9 * z + tm) = zq)) rm) g 0 := by rw [show g - (q + 1) = z by omega]; exact hr
          refine lv_iinc (v := nI (q + 1)) (lv' := [(2, .int (nI (q + 1))), (0, .ref h), (1, .int (nI tm))]) hXX hBB dX3_lowestFor_21 hl (k := 0) rfl (nI_1 _) (by decide) rfl (fun ls hl => ?_)
          refine lv_goto (tgt := 2) hXX hBB dX3_lowestFor_24 (by decide) ?_
          have hi_q : (q + 1) ≤ g := by omega
          have hi_r : lowR (fun zq => ct (fun z => decide (rs (9 * z + tm) = zq)) rm) (g - (q + 1)) (q + 1) = lowR (fun zq => ct (fun z => decide (rs (9 * z + tm) = zq)) rm) g 0 := by exact hst
          have hmm : g - (q + 1) < N_2 := by omega
          exact ih_2 (q + 1) hi_q hi_r hmm _ _ (hP.sub [0, 1] rfl) (hD.sub [0, 1] (by decide) rfl) hS ls (lv_sub hl [0, 1, 2] rfl)
        · have c_16 : 0 < (ct (fun z => decide (rs (9 * z + tm) = q)) rm) := m_pos_le_f (by omega) c_16
          rw [if_pos c_16] at hr
          refine lv_iload_n hXX hBB dX3_lowestFor_19 rfl (lv_at hl 0 rfl) ?_
          refine hret (r := nI q) () ?_ (rfl) (hP.sub [0, 1] rfl) (hD.sub [0, 1] (by decide) rfl) hS (Nat.le_of_ble_eq_true rfl) (Nat.le_of_ble_eq_true rfl) dX3_lowestFor_20
          show nI q = lowR (fun zq => ct (fun z => decide (rs (9 * z + tm) = zq)) rm) g 0
          exact hr
  have hi_q : 0 ≤ g := by omega
  have hi_r : lowR (fun zq => ct (fun z => decide (rs (9 * z + tm) = zq)) rm) (g - 0) 0 = lowR (fun zq => ct (fun z => decide (rs (9 * z + tm) = zq)) rm) g 0 := by rfl
  exact L_2 _ 0 hi_q hi_r (Nat.lt_succ_self _) _ _ hP hD hS ls (lv_sub hl [0, 1, 2] rfl)
abbrev rmX3_orderMany : Room := { frames := 1, cells := 0, slots := 0, locals := 22 }
set_option maxHeartbeats 4000000 in
set_option maxRecDepth 100000 in
theorem kX3_orderMany (l : Launch) (D : va_G) (cI : ClassId) (h : Nat) (g : Nat) (p : Nat) (aR : Nat) (aB : Nat) (aA : Nat) (aO : Nat) (dm : Nat) (aD : Nat) (aP : Nat) (th : Nat) (rm : Nat) (aS : Nat) (aW : Nat) (aU : Nat) (aL : Nat) (aE : Nat) (aQ : Nat) (S : Nat → Int32) (hg4 : g ≤ 4) (hp3 : p ≤ 3) (hT : g * p ≤ 9) : Ci l yX3_orderMany wsX3_orderMany rmX3_orderMany D [(cI, .int)] [.ref h] [(h, .inr (3, [.int (nI g), .int (nI p), .ref aR, .ref aB, .ref aA, .ref aO, .int (nI dm), .ref aD, .ref aP, .int (nI th), .int (nI rm), .ref aS, .ref aW, .ref aU, .ref aL, .ref aE, .ref aQ])), (aP, .inl (cI, 9, .inl S))] (fun (r : Int32) (_ : Unit) => r = nI (ordN S g p)) (fun (_ : Unit) => [(h, .inr (3, [.int (nI g), .int (nI p), .ref aR, .ref aB, .ref aA, .ref aO, .int (nI dm), .ref aD, .ref aP, .int (nI th), .int (nI rm), .ref aS, .ref aW, .ref aU, .ref aL, .ref aE, .ref aQ])), (aP, .inl (cI, 9, .inl S))]) := by
  refine Ci_of (cc := cX3_orderMany) (maxL := 5) (by decide) rfl (Nat.le_of_ble_eq_true rfl) ?_
  intro pR eV sT mI args below meth cO AA QQ ls hXX hBB hml hown hts hnm hN hK hP hD hS hAA hl hret
  have hl : lv_has ls 5 [(0, .ref h)] := hl
  have kw_1 := hts (.fieldLink RX3 58 "CupDrawModel" "potMany" "I") (List.mem_of_getElem? (i := 1) rfl)
  have iw_X3 : ∀ w ∈ wsX30, w ∈ wsX3_orderMany := by decide +kernel
  have kw_2 := hts (.fieldLink RX3 55 "CupDrawModel" "groupMany" "I") (List.mem_of_getElem? (i := 2) rfl)
  have kw_3 := hts (.fieldLink RX3 26 "CupDrawModel" "places" "[I") (List.mem_of_getElem? (i := 3) rfl)
  refine lv_iconst (v := nI 1) hXX hBB dX3_orderMany_0 (by decide) ?_
  refine lv_istore_n (lv' := [(1, .int (nI 1)), (0, .ref h)]) hXX hBB dX3_orderMany_1 rfl hl (by decide) rfl (fun ls hl => ?_)
  refine lv_iconst (v := nI 0) hXX hBB dX3_orderMany_2 (by decide) ?_
  refine lv_istore_n (lv' := [(2, .int (nI 0)), (1, .int (nI 1)), (0, .ref h)]) hXX hBB dX3_orderMany_3 rfl hl (by decide) rfl (fun ls hl => ?_)
  have L_4 : ∀ (N_4 : Nat) (pt : Nat) (x : Nat), (pt ≤ p) → (x = ordN S g pt) → p - pt < N_4 → ∀ (H : Heap) (locs : List Loc), va_P D vwCl [(h, .inr (3, [.int (nI g), .int (nI p), .ref aR, .ref aB, .ref aA, .ref aO, .int (nI dm), .ref aD, .ref aP, .int (nI th), .int (nI rm), .ref aS, .ref aW, .ref aU, .ref aL, .ref aE, .ref aQ])), (aP, .inl (cI, 9, .inl S))] H → va_D AA [(h, .inr (3, [.int (nI g), .int (nI p), .ref aR, .ref aB, .ref aA, .ref aO, .int (nI dm), .ref aD, .ref aP, .int (nI th), .int (nI rm), .ref aS, .ref aW, .ref aU, .ref aL, .ref aE, .ref aQ])), (aP, .inl (cI, 9, .inl S))] → va_S AA sT.heap H locs → ∀ (ls : Array Slot), lv_has ls 5 [(2, .int (nI pt)), (1, .int (nI x)), (0, .ref h)] → W pR l eV rmX3_orderMany sT mI args below meth cO H locs 0 0 QQ (F0 mI 4 ls []) := by
    intro N_4
    induction N_4 with
    | zero =>
      intro pt x hpt hx hMM
      exact absurd hMM (Nat.not_lt_zero _)
    | succ N_4 ih_4 =>
      intro pt x hpt hx hMM H locs hP hD hS ls hl
      refine lv_iload_n hXX hBB dX3_orderMany_4 rfl (lv_at hl 0 rfl) ?_
      refine lv_aload_n hXX hBB dX3_orderMany_5 rfl (lv_at hl 2 rfl) ?_
      refine va_get (D := D) (ci := 3) (v := .int (nI p)) (C := RX3) (T := TX3) (N := 17) hXX hBB hts iw_X3 hown hK hP 0 rfl rfl 1 (by decide) kw_1 (fun _ h9 => h9) rfl dX3_orderMany_6 ?_
      refine lv_icmp_ge (tgt := 73) hXX hBB dX3_orderMany_9 (by decide) (fun c_9 => ?_) (fun c_9 => ?_)
      · have c_9 : p ≤ pt := (nI_leI (by omega) (by omega)).mp c_9
        have hE : pt = p := by omega
        refine lv_iload_n hXX hBB dX3_orderMany_73 rfl (lv_at hl 1 rfl) ?_
        refine hret (r := nI x) () ?_ (rfl) (hP.sub [0, 1] rfl) (hD.sub [0, 1] (by decide) rfl) hS (Nat.le_of_ble_eq_true rfl) (Nat.le_of_ble_eq_true rfl) dX3_orderMany_74
        show nI x = nI (ordN S g p)
        rw [hx, hE]
      · have c_9 : ¬ p ≤ pt := fun h9 => c_9 ((nI_leI (by omega) (by omega)).mpr h9)
        have hms : g * (pt + 1) = g * pt + g := Nat.mul_succ g pt
        have hmq : g * (pt + 1) ≤ 9 := Nat.le_trans (Nat.mul_le_mul_left g (by omega)) hT
        refine lv_iconst (v := nI 0) hXX hBB dX3_orderMany_12 (by decide) ?_
        refine lv_istore_n (lv' := [(3, .int (nI 0)), (2, .int (nI pt)), (1, .int (nI x)), (0, .ref h)]) hXX hBB dX3_orderMany_13 rfl hl (by decide) rfl (fun ls hl => ?_)
        refine lv_aload_n hXX hBB dX3_orderMany_14 rfl (lv_at hl 3 rfl) ?_
        refine va_get (D := D) (ci := 3) (v := .int (nI g)) (C := RX3) (T := TX3) (N := 17) hXX hBB hts iw_X3 hown hK hP 0 rfl rfl 0 (by decide) kw_2 (fun _ h9 => h9) rfl dX3_orderMany_15 ?_
        refine lv_iload_n hXX hBB dX3_orderMany_18 rfl (lv_at hl 1 rfl) ?_
        refine lv_imul hXX hBB dX3_orderMany_19 ?_
        refine m_top (y := nI (g * pt)) (pk_mul _ _) ?_
        refine lv_istore (lv' := [(4, .int (nI (g * pt))), (3, .int (nI 0)), (2, .int (nI pt)), (1, .int (nI x)), (0, .ref h)]) hXX hBB dX3_orderMany_20 hl (by decide) rfl (fun ls hl => ?_)
        have L_22 : ∀ (N_22 : Nat) (t : Nat) (y : Nat), (g * pt ≤ t ∧ t ≤ g * pt + g) → (y = ct (fun z => decide (S (g * pt + z) = -1)) (t - g * pt)) → g * pt + g - t < N_22 → ∀ (H : Heap) (locs : List Loc), va_P D vwCl [(h, .inr (3, [.int (nI g), .int (nI p), .ref aR, .ref aB, .ref aA, .ref aO, .int (nI dm), .ref aD, .ref aP, .int (nI th), .int (nI rm), .ref aS, .ref aW, .ref aU, .ref aL, .ref aE, .ref aQ])), (aP, .inl (cI, 9, .inl S))] H → va_D AA [(h, .inr (3, [.int (nI g), .int (nI p), .ref aR, .ref aB, .ref aA, .ref aO, .int (nI dm), .ref aD, .ref aP, .int (nI th), .int (nI rm), .ref aS, .ref aW, .ref aU, .ref aL, .ref aE, .ref aQ])), (aP, .inl (cI, 9, .inl S))] → va_S AA sT.heap H locs → ∀ (ls : Array Slot), lv_has ls 5 [(4, .int (nI t)), (3, .int (nI y)), (2, .int (nI pt)), (1, .int (nI x)), (0, .ref h)] → W pR l eV rmX3_orderMany sT mI args below meth cO H locs 0 0 QQ (F0 mI 22 ls []) := by
          intro N_22
          induction N_22 with
          | zero =>
            intro t y ht hy hMM
            exact absurd hMM (Nat.not_lt_zero _)
          | succ N_22 ih_22 =>
            intro t y ht hy hMM H locs hP hD hS ls hl
            refine lv_iload hXX hBB dX3_orderMany_22 (lv_at hl 0 rfl) ?_
            refine lv_aload_n hXX hBB dX3_orderMany_24 rfl (lv_at hl 4 rfl) ?_
            refine va_get (D := D) (ci := 3) (v := .int (nI g)) (C := RX3) (T := TX3) (N := 17) hXX hBB hts iw_X3 hown hK hP 0 rfl rfl 0 (by decide) kw_2 (fun _ h9 => h9) rfl dX3_orderMany_25 ?_
            refine lv_iload_n hXX hBB dX3_orderMany_28 rfl (lv_at hl 2 rfl) ?_
            refine lv_iconst (v := nI 1) hXX hBB dX3_orderMany_29 (by decide) ?_
            refine lv_iadd hXX hBB dX3_orderMany_30 ?_
            refine m_top (y := nI (pt + 1)) (nI_add _ _) ?_
            refine lv_imul hXX hBB dX3_orderMany_31 ?_
            refine m_top (y := nI (g * (pt + 1))) (pk_mul _ _) ?_
            refine lv_icmp_ge (tgt := 60) hXX hBB dX3_orderMany_32 (by decide) (fun c_32 => ?_) (fun c_32 => ?_)
            · have c_32 : (g * (pt + 1)) ≤ t := (nI_leI (by omega) (by omega)).mp c_32
              rw [show t - g * pt = g by omega] at hy
              have hyb := ct_le (fun z => decide (S (g * pt + z) = -1)) g
              refine lv_iload_n hXX hBB dX3_orderMany_60 rfl (lv_at hl 3 rfl) ?_
              refine lv_iload_n hXX hBB dX3_orderMany_61 rfl (lv_at hl 1 rfl) ?_
              refine m_scalli (wr := [(h, .inr (3, [.int (nI g), .int (nI p), .ref aR, .ref aB, .ref aA, .ref aO, .int (nI dm), .ref aD, .ref aP, .int (nI th), .int (nI rm), .ref aS, .ref aW, .ref aU, .ref aL, .ref aE, .ref aQ])), (aP, .inl (cI, 9, .inl S))]) ⟨hXX, hBB, hml, hown, hts⟩ hN (kX3_factorial l D y (by omega)) (va_cwS 1 hts gX3_orderMany_X3_factorial rfl rfl rfl (by decide +kernel) ⟨Nat.le_of_ble_eq_true rfl, Nat.le_of_ble_eq_true rfl⟩) hK hP hD hS hAA [] [0, 1] [] rfl rfl rfl (by decide) (by decide) (by decide) rfl hl.1 rfl (Nat.le_of_ble_eq_true rfl) dX3_orderMany_62 ⟨Nat.le_of_ble_eq_true rfl, Nat.le_of_ble_eq_true rfl⟩ (k := 0) (n := 0) rfl rfl (fun r_1 u_ H locs hw hP hD hS => ?_)
              have hw : (r_1 = nI (fac y)) := hw
              have hr_r_1 := hw
              have hP : va_P D vwCl [(h, .inr (3, [.int (nI g), .int (nI p), .ref aR, .ref aB, .ref aA, .ref aO, .int (nI dm), .ref aD, .ref aP, .int (nI th), .int (nI rm), .ref aS, .ref aW, .ref aU, .ref aL, .ref aE, .ref aQ])), (aP, .inl (cI, 9, .inl S))] H := hP
              have hD : va_D AA [(h, .inr (3, [.int (nI g), .int (nI p), .ref aR, .ref aB, .ref aA, .ref aO, .int (nI dm), .ref aD, .ref aP, .int (nI th), .int (nI rm), .ref aS, .ref aW, .ref aU, .ref aL, .ref aE, .ref aQ])), (aP, .inl (cI, 9, .inl S))] := hD
              subst hr_r_1
              refine lv_imul hXX hBB dX3_orderMany_65 ?_
              refine m_top (y := nI (x * (fac y))) (pk_mul _ _) ?_
              refine lv_istore_n (lv' := [(1, .int (nI (x * (fac y)))), (4, .int (nI t)), (3, .int (nI y)), (2, .int (nI pt)), (0, .ref h)]) hXX hBB dX3_orderMany_66 rfl hl (by decide) rfl (fun ls hl => ?_)
              refine lv_iinc (v := nI (pt + 1)) (lv' := [(2, .int (nI (pt + 1))), (1, .int (nI (x * (fac y)))), (4, .int (nI t)), (3, .int (nI y)), (0, .ref h)]) hXX hBB dX3_orderMany_67 hl (k := 3) rfl (nI_1 _) (by decide) rfl (fun ls hl => ?_)
              refine lv_goto (tgt := 4) hXX hBB dX3_orderMany_70 (by decide) ?_
              have hi_pt : (pt + 1) ≤ p := by omega
              have hi_x : (x * (fac y)) = ordN S g (pt + 1) := by rw [hx]; simp only [ordN]; rw [hy]
              have hmm : p - (pt + 1) < N_4 := by omega
              exact ih_4 (pt + 1) (x * (fac y)) hi_pt hi_x hmm _ _ (hP.sub [0, 1] rfl) (hD.sub [0, 1] (by decide) rfl) hS ls (lv_sub hl [0, 1, 4] rfl)
            · have c_32 : ¬ (g * (pt + 1)) ≤ t := fun h9 => c_32 ((nI_leI (by omega) (by omega)).mpr h9)
              have hyb := ct_le (fun z => decide (S (g * pt + z) = -1)) (t - g * pt)
              refine lv_iload_n hXX hBB dX3_orderMany_35 rfl (lv_at hl 1 rfl) ?_
              refine lv_aload_n hXX hBB dX3_orderMany_36 rfl (lv_at hl 4 rfl) ?_
              refine va_get (D := D) (ci := 3) (v := .ref aP) (C := RX3) (T := TX3) (N := 17) hXX hBB hts iw_X3 hown hK hP 0 rfl rfl 8 (by decide) kw_3 (fun _ h9 => h9) rfl dX3_orderMany_37 ?_
              refine lv_iload hXX hBB dX3_orderMany_40 (lv_at hl 0 rfl) ?_
              refine m_iald hXX hBB hK hP 1 0 rfl rfl (i := t) (by omega) (by decide) (x := S t) rfl dX3_orderMany_42 ?_
              refine lv_iconst (v := (-1)) hXX hBB dX3_orderMany_43 (by decide) ?_
              refine lv_icmp_ne (tgt := 51) hXX hBB dX3_orderMany_44 (by decide) (fun c_44 => ?_) (fun c_44 => ?_)
              · have c_44 := c_44
                refine lv_iconst (v := nI 0) hXX hBB dX3_orderMany_51 (by decide) ?_
                refine lv_iadd hXX hBB dX3_orderMany_52 ?_
                refine m_top (y := nI (y + 0)) (nI_add _ _) ?_
                refine lv_istore_n (lv' := [(3, .int (nI (y + 0))), (4, .int (nI t)), (2, .int (nI pt)), (1, .int (nI x)), (0, .ref h)]) hXX hBB dX3_orderMany_53 rfl hl (by decide) rfl (fun ls hl => ?_)
                refine lv_iinc (v := nI (t + 1)) (lv' := [(4, .int (nI (t + 1))), (3, .int (nI (y + 0))), (2, .int (nI pt)), (1, .int (nI x)), (0, .ref h)]) hXX hBB dX3_orderMany_54 hl (k := 1) rfl (nI_1 _) (by decide) rfl (fun ls hl => ?_)
                refine lv_goto (tgt := 22) hXX hBB dX3_orderMany_57 (by decide) ?_
                have hi_t : g * pt ≤ (t + 1) ∧ (t + 1) ≤ g * pt + g := by omega
                have hi_y : (y + 0) = ct (fun z => decide (S (g * pt + z) = -1)) ((t + 1) - g * pt) := by
                  rw [show t + 1 - g * pt = (t - g * pt) + 1 by omega]
                  first | (rw [ct_t (by simp [show g * pt + (t - g * pt) = t by omega, c_44])]; omega) | (rw [ct_f (by simp [show g * pt + (t - g * pt) = t by omega, c_44])]; omega)
                have hmm : g * pt + g - (t + 1) < N_22 := by omega
                exact ih_22 (t + 1) (y + 0) hi_t hi_y hmm _ _ (hP.sub [0, 1] rfl) (hD.sub [0, 1] (by decide) rfl) hS ls (lv_sub hl [0, 1, 2, 3, 4] rfl)
              · have c_44 := c_44
                refine lv_iconst (v := nI 1) hXX hBB dX3_orderMany_47 (by decide) ?_
                refine lv_goto (tgt := 52) hXX hBB dX3_orderMany_48 (by decide) ?_
                refine lv_iadd hXX hBB dX3_orderMany_52 ?_
                refine m_top (y := nI (y + 1)) (nI_add _ _) ?_
                refine lv_istore_n (lv' := [(3, .int (nI (y + 1))), (4, .int (nI t)), (2, .int (nI pt)), (1, .int (nI x)), (0, .ref h)]) hXX hBB dX3_orderMany_53 rfl hl (by decide) rfl (fun ls hl => ?_)
                refine lv_iinc (v := nI (t + 1)) (lv' := [(4, .int (nI (t + 1))), (3, .int (nI (y + 1))), (2, .int (nI pt)), (1, .int (nI x)), (0, .ref h)]) hXX hBB dX3_orderMany_54 hl (k := 1) rfl (nI_1 _) (by decide) rfl (fun ls hl => ?_)
                refine lv_goto (tgt := 22) hXX hBB dX3_orderMany_57 (by decide) ?_
                have hi_t : g * pt ≤ (t + 1) ∧ (t + 1) ≤ g * pt + g := by omega
                have hi_y : (y + 1) = ct (fun z => decide (S (g * pt + z) = -1)) ((t + 1) - g * pt) := by
                  rw [show t + 1 - g * pt = (t - g * pt) + 1 by omega]
                  first | (rw [ct_t (by simp [show g * pt + (t - g * pt) = t by omega, c_44])]; omega) | (rw [ct_f (by simp [show g * pt + (t - g * pt) = t by omega, c_44])]; omega)
                have hmm : g * pt + g - (t + 1) < N_22 := by omega
                exact ih_22 (t + 1) (y + 1) hi_t hi_y hmm _ _ (hP.sub [0, 1] rfl) (hD.sub [0, 1] (by decide) rfl) hS ls (lv_sub hl [0, 1, 2, 3, 4] rfl)
        have hi_t : g * pt ≤ (g * pt) ∧ (g * pt) ≤ g * pt + g := by omega
        have hi_y : 0 = ct (fun z => decide (S (g * pt + z) = -1)) ((g * pt) - g * pt) := by rw [Nat.sub_self]; rfl
        exact L_22 _ (g * pt) 0 hi_t hi_y (Nat.lt_succ_self _) _ _ hP hD hS ls (lv_sub hl [0, 1, 2, 3, 4] rfl)
  have hi_pt : 0 ≤ p := by omega
  have hi_x : 1 = ordN S g 0 := by rfl
  exact L_4 _ 0 1 hi_pt hi_x (Nat.lt_succ_self _) _ _ hP hD hS ls (lv_sub hl [0, 1, 2] rfl)
abbrev rmX3_orders : Room := { frames := 2, cells := 0, slots := 0, locals := 46 }
set_option maxHeartbeats 4000000 in
set_option maxRecDepth 100000 in
theorem kX3_orders (l : Launch) (D : va_G) (cI : ClassId) (h : Nat) (g : Nat) (p : Nat) (aR : Nat) (aB : Nat) (aA : Nat) (aO : Nat) (dm : Nat) (aD : Nat) (aP : Nat) (th : Nat) (rm : Nat) (aS : Nat) (aW : Nat) (aU : Nat) (aL : Nat) (aE : Nat) (aQ : Nat) (S : Nat → Int32) (hg4 : g ≤ 4) (hp3 : p ≤ 3) (hT : g * p ≤ 9) : Ci l yX3_orders wsX3_orders rmX3_orders D [(cI, .int)] [.ref h] [(h, .inr (3, [.int (nI g), .int (nI p), .ref aR, .ref aB, .ref aA, .ref aO, .int (nI dm), .ref aD, .ref aP, .int (nI th), .int (nI rm), .ref aS, .ref aW, .ref aU, .ref aL, .ref aE, .ref aQ])), (aP, .inl (cI, 9, .inl S))] (fun (r : Int32) (_ : Unit) => r = nI (ordN S g p)) (fun (_ : Unit) => [(h, .inr (3, [.int (nI g), .int (nI p), .ref aR, .ref aB, .ref aA, .ref aO, .int (nI dm), .ref aD, .ref aP, .int (nI 0), .int (nI rm), .ref aS, .ref aW, .ref aU, .ref aL, .ref aE, .ref aQ])), (aP, .inl (cI, 9, .inl S))]) := by
  refine Ci_of (cc := cX3_orders) (maxL := 1) (by decide) rfl (Nat.le_of_ble_eq_true rfl) ?_
  intro pR eV sT mI args below meth cO AA QQ ls hXX hBB hml hown hts hnm hN hK hP hD hS hAA hl hret
  have hl : lv_has ls 1 [(0, .ref h)] := hl
  have kw_1 := hts (.fieldLink RX3 51 "CupDrawModel" "thrown" "I") (List.mem_of_getElem? (i := 1) rfl)
  have iw_X3 : ∀ w ∈ wsX30, w ∈ wsX3_orders := by decide +kernel
  refine lv_aload_n hXX hBB dX3_orders_0 rfl (lv_at hl 0 rfl) ?_
  refine lv_iconst (v := nI 0) hXX hBB dX3_orders_1 (by decide) ?_
  refine va_put (D := D) (ci := 3) (v := .int (nI 0)) (ty := .int) (C := RX3) (T := TX3) (N := 17) hXX hBB hts iw_X3 tyX3 tyX3_ok nmX3 hown hK hP hD hS 0 rfl rfl 9 (by decide) kw_1 (fun _ h9 => h9) rfl (by decide +kernel) (rfl) (rfl) (Nat.le_of_ble_eq_true rfl) dX3_orders_2 (fun H locs hP hD hS => ?_)
  have hP : va_P D vwCl [(h, .inr (3, [.int (nI g), .int (nI p), .ref aR, .ref aB, .ref aA, .ref aO, .int (nI dm), .ref aD, .ref aP, .int (nI 0), .int (nI rm), .ref aS, .ref aW, .ref aU, .ref aL, .ref aE, .ref aQ])), (aP, .inl (cI, 9, .inl S))] H := hP
  have hD : va_D AA [(h, .inr (3, [.int (nI g), .int (nI p), .ref aR, .ref aB, .ref aA, .ref aO, .int (nI dm), .ref aD, .ref aP, .int (nI 0), .int (nI rm), .ref aS, .ref aW, .ref aU, .ref aL, .ref aE, .ref aQ])), (aP, .inl (cI, 9, .inl S))] := hD
  refine lv_aload_n hXX hBB dX3_orders_5 rfl (lv_at hl 0 rfl) ?_
  refine m_calli (wr := []) ⟨hXX, hBB, hml, hown, hts⟩ hN (kX3_orderMany l D cI h g p aR aB aA aO dm aD aP 0 rm aS aW aU aL aE aQ S (by omega) (by omega) (by omega)) (cwV 0 hts gX3_orders_X3_orderMany rfl rfl rfl (by decide +kernel) ⟨Nat.le_of_ble_eq_true rfl, Nat.le_of_ble_eq_true rfl⟩) hK hP hD hS hAA [0, 1] [] [0] rfl rfl rfl (by decide) (by decide) (by decide) rfl 3 rfl rfl rfl rfl hl.1 rfl (Nat.le_of_ble_eq_true rfl) dX3_orders_6 ⟨Nat.le_of_ble_eq_true rfl, Nat.le_of_ble_eq_true rfl⟩ (k := 0) (n := 0) rfl rfl (fun r_1 u_ H locs hw hP hD hS => ?_)
  have hw : (r_1 = nI (ordN S g p)) := hw
  have hr_r_1 := hw
  have hP : va_P D vwCl [(h, .inr (3, [.int (nI g), .int (nI p), .ref aR, .ref aB, .ref aA, .ref aO, .int (nI dm), .ref aD, .ref aP, .int (nI 0), .int (nI rm), .ref aS, .ref aW, .ref aU, .ref aL, .ref aE, .ref aQ])), (aP, .inl (cI, 9, .inl S))] H := hP
  have hD : va_D AA [(h, .inr (3, [.int (nI g), .int (nI p), .ref aR, .ref aB, .ref aA, .ref aO, .int (nI dm), .ref aD, .ref aP, .int (nI 0), .int (nI rm), .ref aS, .ref aW, .ref aU, .ref aL, .ref aE, .ref aQ])), (aP, .inl (cI, 9, .inl S))] := hD
  subst hr_r_1
  refine hret (r := nI (ordN S g p)) () ?_ (rfl) (hP.sub [0, 1] rfl) (hD.sub [0, 1] (by decide) rfl) hS (Nat.le_of_ble_eq_true rfl) (Nat.le_of_ble_eq_true rfl) dX3_orders_9
  show nI (ordN S g p) = nI (ordN S g p)
  rfl
