theorem m_fitb (b : Bool) : fits .boolean (.int (bI b)) = true := by cases b <;> decide +kernel
theorem m_mask {g f : Nat} (hg : g ≤ 4) (hf : f ≤ 9) : nI (2 ^ g - 1) <<< (nI f &&& 31) = nI ((2 ^ g - 1) * 2 ^ f) := by
  have h1 : (2 : Nat) ^ g ≤ 2 ^ 4 := Nat.pow_le_pow_right (by decide) hg
  have h2 : (2 : Nat) ^ f ≤ 2 ^ 9 := Nat.pow_le_pow_right (by decide) hf
  have h3 : (2 ^ g - 1) * 2 ^ f ≤ 16 * 512 := Nat.mul_le_mul (by omega) h2
  exact pk_shlN _ f (q_sl _ (by omega)) (by omega)
def pmN (g t : Nat) : Nat := (2 ^ g - 1) * 2 ^ (g * (t / g))
theorem pow2_pos (g : Nat) : 1 ≤ 2 ^ g := Nat.one_le_two_pow
theorem pow2_lt {g : Nat} (h : g < 31) : 2 ^ g < 2 ^ 31 := Nat.pow_lt_pow_right (by decide) h
theorem ht_t {x : Int32} {T : Nat} (h0 : 0 < T) (hT : T < 2 ^ 30) (h1 : ¬ x < 0) (h2 : ¬ nI T ≤ x) : nI 1 = bI (inB x (nI 0) (nI (T - 1))) := by
  rw [inB_lt h0 (by omega)]
  have h3 : nI 0 ≤ x := Int32.not_lt.mp h1
  have h4 : x < nI T := Int32.not_le.mp h2
  simp [h3, h4, bI]
theorem ht_f1 {x : Int32} {T : Nat} (h1 : x < 0) : nI 0 = bI (inB x (nI 0) (nI (T - 1))) := inB_f1 h1
theorem ht_f2 {x : Int32} {T : Nat} (h0 : 0 < T) (hT : T < 2 ^ 30) (h2 : nI T ≤ x) : nI 0 = bI (inB x (nI 0) (nI (T - 1))) := by
  rw [inB_lt h0 (by omega)]
  have h4 : ¬ x < nI T := Int32.not_lt.mpr h2
  simp [h4, bI]
def clrB (m k : Nat) : Nat := m &&& (511 ^^^ 2 ^ k)
theorem clrB_tb (m k j : Nat) (hj : j < 9) : (clrB m k).testBit j = (m.testBit j && !decide (k = j)) := by
  unfold clrB
  have h1 : (511 : Nat).testBit j = true := by
    have := Nat.testBit_two_pow_sub_one 9 j
    rw [show (2 : Nat) ^ 9 - 1 = 511 from rfl] at this
    rw [this]; simp [hj]
  rw [Nat.testBit_and, Nat.testBit_xor, h1, Nat.testBit_two_pow]
  simp
theorem clrB_lt {m : Nat} (h : m < 512) (k : Nat) : clrB m k < 512 := Nat.lt_of_le_of_lt Nat.and_le_left h
theorem m_clr : ∀ m, m < 512 → ∀ k, k < 9 → nI m &&& (nI (2 ^ k) ^^^ (-1)) = nI (clrB m k) := by decide +kernel
theorem m_tb (a k : Nat) : nI (a / 2 ^ k) &&& nI 1 = nI ((a.testBit k).toNat) := by
  rw [q_and]
  have h1 : a / 2 ^ k &&& 1 = a / 2 ^ k % 2 := Nat.and_two_pow_sub_one_eq_mod _ 1
  rw [h1, Nat.testBit_eq_decide_div_mod_eq]
  have h2 := Nat.mod_lt (a / 2 ^ k) (show 2 > 0 by decide)
  rcases (show a / 2 ^ k % 2 = 0 ∨ a / 2 ^ k % 2 = 1 by omega) with q | q <;> rw [q] <;> rfl
theorem m_shrN {a k : Nat} (ha : a < 2 ^ 31) (hk : k < 32) : nI a >>> (nI k &&& 31) = nI (a / 2 ^ k) := pk_shrN ha _ k (q_sl _ hk)
theorem or512 {a b : Nat} (ha : a < 512) (hb : b < 512) : a ||| b < 512 := Nat.or_lt_two_pow (n := 9) ha hb
theorem pow512 {k : Nat} (h : k < 9) : 2 ^ k < 512 := Nat.lt_of_le_of_lt (Nat.pow_le_pow_right (by decide) (show k ≤ 8 by omega)) (by decide)
theorem tb_hi {a j : Nat} (ha : a < 512) (hj : 9 ≤ j) : a.testBit j = false := by
  have h1 : (2 : Nat) ^ 9 ≤ 2 ^ j := Nat.pow_le_pow_right (by decide) hj
  exact Nat.testBit_lt_two_pow (Nat.lt_of_lt_of_le ha h1)
def spB (bv : Bool) (ap : Nat → Nat) (t o : Nat) : Nat → Nat :=
  if bv then updN (updN ap t (ap t ||| 2 ^ o)) o (ap o ||| 2 ^ t) else updN (updN ap t (clrB (ap t) o)) o (clrB (ap o) t)
theorem spB_lt {bv : Bool} {ap : Nat → Nat} {t o : Nat} (h : ∀ z, ap z < 512) (ht : t < 9) (ho : o < 9) : ∀ z, spB bv ap t o z < 512 := by
  intro z
  unfold spB
  cases bv
  · simp only [Bool.false_eq_true, if_false]
    by_cases q : z = o
    · rw [q, updN_s]; exact clrB_lt (h _) _
    · rw [updN_n q]
      by_cases q2 : z = t
      · rw [q2, updN_s]; exact clrB_lt (h _) _
      · rw [updN_n q2]; exact h z
  · simp only [if_true]
    by_cases q : z = o
    · rw [q, updN_s]; exact or512 (h _) (pow512 ht)
    · rw [updN_n q]
      by_cases q2 : z = t
      · rw [q2, updN_s]; exact or512 (h _) (pow512 ho)
      · rw [updN_n q2]; exact h z
theorem spB_tb {bv : Bool} {ap : Nat → Nat} {t o : Nat} (h : ∀ z, ap z < 512) (ht : t < 9) (ho : o < 9) (hto : t ≠ o) (a b : Nat) (hb : b < 9) :
    (spB bv ap t o a).testBit b = if (a = t ∧ b = o) ∨ (a = o ∧ b = t) then bv else (ap a).testBit b := by
  unfold spB
  cases bv
  · simp only [Bool.false_eq_true, if_false]
    by_cases q : a = o
    · rw [q, updN_s, clrB_tb _ _ _ hb]
      by_cases q2 : b = t
      · simp [q2]
      · have : ¬ t = b := fun e => q2 e.symm
        simp [q2, this, show ¬ o = t from fun e => hto e.symm]
    · rw [updN_n q]
      by_cases q2 : a = t
      · rw [q2, updN_s, clrB_tb _ _ _ hb]
        by_cases q3 : b = o
        · simp [q3]
        · have : ¬ o = b := fun e => q3 e.symm
          simp [q3, this, hto]
      · rw [updN_n q2]; simp [q, q2]
  · simp only [if_true]
    by_cases q : a = o
    · rw [q, updN_s, Nat.testBit_or, Nat.testBit_two_pow]
      by_cases q2 : b = t
      · simp [q2]
      · have : ¬ t = b := fun e => q2 e.symm
        simp [q2, this, show ¬ o = t from fun e => hto e.symm]
    · rw [updN_n q]
      by_cases q2 : a = t
      · rw [q2, updN_s, Nat.testBit_or, Nat.testBit_two_pow]
        by_cases q3 : b = o
        · simp [q3]
        · have : ¬ o = b := fun e => q3 e.symm
          simp [q3, this, hto]
      · rw [updN_n q2]; simp [q, q2]
/-- the mask of the teams ahead of team that are in the group gp -/
def mskN (res : Nat) : Nat → Nat → Nat
  | 0, _ => 0
  | t + 1, gp => if gr res t = gp then mskN res t gp ||| 2 ^ t else mskN res t gp
theorem mskN_tb (res : Nat) (t gp j : Nat) : (mskN res t gp).testBit j = (decide (j < t) && decide (gr res j = gp)) := by
  induction t with
  | zero => simp [mskN]
  | succ t ih =>
    simp only [mskN]
    by_cases q : gr res t = gp
    · rw [if_pos q, Nat.testBit_or, ih, Nat.testBit_two_pow]
      by_cases e : j = t
      · subst e; simp [q]
      · have e1 : ¬ t = j := fun z => e z.symm
        have e2 : decide (j < t + 1) = decide (j < t) := decide_eq_decide.mpr (by omega)
        simp [e1, e2]
    · rw [if_neg q, ih]
      by_cases e : j = t
      · subst e; simp [q]
      · have e2 : decide (j < t + 1) = decide (j < t) := decide_eq_decide.mpr (by omega)
        simp [e2]
theorem mskN_lt (res gp : Nat) : ∀ t, t ≤ 9 → mskN res t gp < 512 := by
  intro t
  induction t with
  | zero => intro _; simp [mskN]
  | succ t ih =>
    intro h
    simp only [mskN]
    split
    · exact or512 (ih (by omega)) (pow512 (by omega))
    · exact ih (by omega)
def anyB (P : Nat → Bool) : Nat → Bool
  | 0 => false
  | n + 1 => anyB P n || P n
theorem anyB_iff {P : Nat → Bool} {n : Nat} : anyB P n = true ↔ ∃ i, i < n ∧ P i = true := by
  induction n with
  | zero => simp [anyB]
  | succ n ih =>
    simp only [anyB, Bool.or_eq_true, ih]
    constructor
    · rintro (⟨i, h1, h2⟩ | h)
      · exact ⟨i, by omega, h2⟩
      · exact ⟨n, by omega, h⟩
    · rintro ⟨i, h1, h2⟩
      by_cases q : i = n
      · subst q; exact Or.inr h2
      · exact Or.inl ⟨i, by omega, h2⟩
def dayB (mb : Nat → Nat) (gp j : Nat) : Nat → Bool := fun s => decide (s % 2 = gp % 2) && (mb s).testBit j
theorem day_step {mb : Nat → Nat} {gp j s : Nat} (h : s % 2 = gp % 2) : anyB (dayB mb gp j) (s + 2) = (anyB (dayB mb gp j) s || (mb s).testBit j) := by
  have h1 : ¬ (s + 1) % 2 = gp % 2 := by omega
  simp [anyB, dayB, h, h1]
theorem day_end {mb : Nat → Nat} {gp j s g : Nat} (h : s % 2 = gp % 2) (h1 : g ≤ s) (h2 : s ≤ g + 1) : anyB (dayB mb gp j) s = anyB (dayB mb gp j) g := by
  by_cases q : s = g
  · rw [q]
  · have e : s = g + 1 := by omega
    have h3 : ¬ g % 2 = gp % 2 := by omega
    rw [e]
    simp [anyB, dayB, h3]
theorem day_start {mb : Nat → Nat} {gp j : Nat} : anyB (dayB mb gp j) (gp % 2) = false := by
  rcases (show gp % 2 = 0 ∨ gp % 2 = 1 by omega) with q | q
  · rw [q]; rfl
  · rw [q]; simp [anyB, dayB, q]
theorem and0 {a b : Nat} : a &&& b = 0 ↔ ∀ j, (a.testBit j && b.testBit j) = false := by
  constructor
  · intro h j
    rw [← Nat.testBit_and, h]; simp
  · intro h
    apply Nat.eq_of_testBit_eq
    intro j
    rw [Nat.testBit_and, h j]; simp
/-- may the team be put into the group, behind the teams ahead of it -/
def admR (g : Nat) (rg bd ap od : Nat → Nat) (res team gp : Nat) : Bool :=
  allB (fun t => !(decide (gr res t = gp) && (decide (t / g = team / g) || (ap team).testBit t))) team && (allB (fun t => !(decide (gr res t % 2 = gp % 2) && (od team).testBit t)) team && decide (ct (fun t => decide (gr res t = gp) && decide (rg t = rg team)) team < bd (rg team)))
theorem allB_nf {P : Nat → Bool} {n : Nat} (h : ¬ allB P n = true) : ∃ i, i < n ∧ P i = false := by
  induction n with
  | zero => exact absurd rfl h
  | succ n ih =>
    by_cases q : allB P n = true
    · refine ⟨n, by omega, ?_⟩
      cases e : P n
      · rfl
      · exact absurd (allB_s q e) h
    · obtain ⟨i, h1, h2⟩ := ih q
      exact ⟨i, by omega, h2⟩
theorem pm_tb {g team j : Nat} (hg : 0 < g) : (pmN g team).testBit j = decide (j / g = team / g) := by
  unfold pmN
  rw [Nat.mul_comm, Nat.testBit_two_pow_mul, Nat.testBit_two_pow_sub_one]
  rw [← Bool.decide_and]
  apply decide_eq_decide.mpr
  generalize team / g = q
  constructor
  · intro h
    exact Nat.div_eq_of_lt_le (by rw [Nat.mul_comm]; exact h.1) (by rw [Nat.mul_comm, Nat.mul_succ]; omega)
  · intro h
    have h1 := Nat.div_add_mod j g
    have h2 := Nat.mod_lt j hg
    rw [h] at h1
    omega
theorem adm_1 {g team gp res : Nat} {ap : Nat → Nat} (hg : 0 < g) : (mskN res team gp &&& (pmN g team ||| ap team) = 0) ↔ allB (fun t => !(decide (gr res t = gp) && (decide (t / g = team / g) || (ap team).testBit t))) team = true := by
  rw [and0, allB_iff]
  constructor
  · intro h t ht
    have h1 := h t
    rw [mskN_tb, Nat.testBit_or, pm_tb hg] at h1
    simp only [ht, decide_true, Bool.true_and] at h1
    simp [h1]
  · intro h j
    rw [mskN_tb, Nat.testBit_or, pm_tb hg]
    by_cases q : j < team
    · have h1 := h j q
      simp only [q, decide_true, Bool.true_and]
      rw [Bool.not_eq_true'] at h1
      exact h1
    · simp [q]
theorem adm_2 {g team gp res v : Nat} {mb od : Nat → Nat} (hmb : ∀ z, z < g → mb z = mskN res team z) (hgr : ∀ t, t < team → gr res t < g) (hv : ∀ j, v.testBit j = anyB (dayB mb gp j) g) :
    (v &&& od team = 0) ↔ allB (fun t => !(decide (gr res t % 2 = gp % 2) && (od team).testBit t)) team = true := by
  rw [and0, allB_iff]
  constructor
  · intro h t ht
    have h1 := h t
    rw [hv] at h1
    by_cases q : gr res t % 2 = gp % 2
    · have h2 : anyB (dayB mb gp t) g = true := anyB_iff.mpr ⟨gr res t, hgr t ht, by
        simp only [dayB]
        rw [hmb _ (hgr t ht), mskN_tb]
        simp [q, ht]⟩
      rw [h2] at h1
      simp only [Bool.true_and] at h1
      simp [h1]
    · simp [q]
  · intro h j
    rw [hv]
    cases q : anyB (dayB mb gp j) g
    · rfl
    · obtain ⟨s, h1, h2⟩ := anyB_iff.mp q
      simp only [dayB, Bool.and_eq_true, decide_eq_true_eq] at h2
      rw [hmb s h1, mskN_tb, Bool.and_eq_true, decide_eq_true_eq, decide_eq_true_eq] at h2
      have h3 := h j h2.2.1
      rw [h2.2.2] at h3
      simp only [h2.1, decide_true, Bool.true_and, Bool.not_eq_true'] at h3
      rw [h3]; rfl
theorem adm_3 {team gp res T : Nat} {rg : Nat → Nat} {r : Nat} (h : team ≤ T) : ct (fun t => (mskN res team gp).testBit t && decide (rg t = r)) T = ct (fun t => decide (gr res t = gp) && decide (rg t = r)) team := by
  have h1 : ∀ n, team ≤ n → ct (fun t => (mskN res team gp).testBit t && decide (rg t = r)) n = ct (fun t => (mskN res team gp).testBit t && decide (rg t = r)) team := by
    intro n
    induction n with
    | zero => intro q; rw [show team = 0 by omega]
    | succ n ih =>
      intro q
      by_cases e : team = n + 1
      · rw [e]
      · rw [ct_f (by rw [mskN_tb]; simp [show ¬ n < team by omega]), ih (by omega)]
  rw [h1 T h]
  exact ct_congr (fun t ht => by rw [mskN_tb]; simp [ht])
def extN (g : Nat) (rg bd ap od : Nat → Nat) : Nat → Nat → Nat → (Nat → Nat) → Nat
  | 0, _, res, w => w res
  | d + 1, team, res, w => sm (fun gp => if admR g rg bd ap od res team gp then extN g rg bd ap od d (team + 1) (res + gp * 4 ^ team) w else 0) g
theorem pmN_lt {g t : Nat} (hg : 0 < g) (hg4 : g ≤ 4) (ht : t < 9) : pmN g t < 4096 := by
  unfold pmN
  have h1 : (2 : Nat) ^ g ≤ 2 ^ 4 := Nat.pow_le_pow_right (by decide) hg4
  have h3 := pot_in t hg
  have h2 : (2 : Nat) ^ (g * (t / g)) ≤ 2 ^ 8 := Nat.pow_le_pow_right (by decide) (by omega)
  have h4 : (2 ^ g - 1) * 2 ^ (g * (t / g)) ≤ 15 * 256 := Nat.mul_le_mul (by omega) h2
  omega
abbrev rmX0_resetPot : Room := { frames := 0, cells := 0, slots := 0, locals := 0 }
set_option maxHeartbeats 4000000 in
set_option maxRecDepth 100000 in
theorem kX0_resetPot (l : Launch) (D : va_G) (cI : ClassId) (b : Nat) (g : Nat) (p : Nat) (T : Nat) (bR : Nat) (bB : Nat) (bA : Nat) (bO : Nat) (bP : Nat) (bM : Nat) (pm : Nat → Nat) (f1 : Nat) (hg0 : 0 < g) (hg4 : g ≤ 4) (hf : f1 + g ≤ 9) : Cv l yX0_resetPot wsX0_resetPot rmX0_resetPot D [(cI, .int)] [.ref b, .int (nI f1)] [(b, .inr (0, [.int (nI g), .int (nI p), .int (nI T), .ref bR, .ref bB, .ref bA, .ref bO, .ref bP, .ref bM])), (bP, .inl (cI, 9, .inl (fun j => nI (pm j))))] (fun (u : (Nat → Nat)) => (∀ z, f1 ≤ z → z < f1 + g → u z = (2 ^ g - 1) * 2 ^ f1) ∧ (∀ z, z < f1 ∨ f1 + g ≤ z → u z = pm z)) (fun (u : (Nat → Nat)) => [(b, .inr (0, [.int (nI g), .int (nI p), .int (nI T), .ref bR, .ref bB, .ref bA, .ref bO, .ref bP, .ref bM])), (bP, .inl (cI, 9, .inl (fun j => nI (u j))))]) := by
  refine Cv_of (cc := cX0_resetPot) (maxL := 4) (by decide) rfl (Nat.le_of_ble_eq_true rfl) ?_
  intro pR eV sT mI args below meth cO AA QQ ls hXX hBB hml hown hts hnm hN hK hP hD hS hAA hl hret
  have hl : lv_has ls 4 [(0, .ref b), (1, .int (nI f1))] := hl
  have kw_1 := hts (.fieldLink RX0 30 "CupDraw$Bowl" "groups" "I") (List.mem_of_getElem? (i := 1) rfl)
  have iw_X0 : ∀ w ∈ wsX00, w ∈ wsX0_resetPot := by decide +kernel
  have kw_2 := hts (.fieldLink RX0 24 "CupDraw$Bowl" "potMates" "[I") (List.mem_of_getElem? (i := 2) rfl)
  refine lv_iconst (v := nI 1) hXX hBB dX0_resetPot_0 (by decide) ?_
  refine lv_aload_n hXX hBB dX0_resetPot_1 rfl (lv_at hl 0 rfl) ?_
  refine va_get (D := D) (ci := 0) (v := .int (nI g)) (C := RX0) (T := TX0) (N := 9) hXX hBB hts iw_X0 hown hK hP 0 rfl rfl 0 (by decide) kw_1 (fun _ h9 => h9) rfl dX0_resetPot_2 ?_
  refine lv_ishl hXX hBB dX0_resetPot_5 ?_
  refine m_top (y := nI (2 ^ g)) (by exact m_bit (by omega)) ?_
  refine lv_iconst (v := nI 1) hXX hBB dX0_resetPot_6 (by decide) ?_
  refine lv_isub hXX hBB dX0_resetPot_7 ?_
  refine m_top (y := nI (2 ^ g - 1)) (by exact pk_sub (pow2_pos g)) ?_
  refine lv_iload_n hXX hBB dX0_resetPot_8 rfl (lv_at hl 1 rfl) ?_
  refine lv_ishl hXX hBB dX0_resetPot_9 ?_
  refine m_top (y := nI ((2 ^ g - 1) * 2 ^ f1)) (by exact m_mask hg4 (by omega)) ?_
  refine lv_istore_n (lv' := [(2, .int (nI ((2 ^ g - 1) * 2 ^ f1))), (0, .ref b), (1, .int (nI f1))]) hXX hBB dX0_resetPot_10 rfl hl (by decide) rfl (fun ls hl => ?_)
  refine lv_iload_n hXX hBB dX0_resetPot_11 rfl (lv_at hl 2 rfl) ?_
  refine lv_istore_n (lv' := [(3, .int (nI f1)), (2, .int (nI ((2 ^ g - 1) * 2 ^ f1))), (0, .ref b), (1, .int (nI f1))]) hXX hBB dX0_resetPot_12 rfl hl (by decide) rfl (fun ls hl => ?_)
  have L_13 : ∀ (N_13 : Nat) (t : Nat) (pq : Nat → Nat), (f1 ≤ t ∧ t ≤ f1 + g) → (∀ z, f1 ≤ z → z < t → pq z = (2 ^ g - 1) * 2 ^ f1) → (∀ z, z < f1 ∨ t ≤ z → pq z = pm z) → f1 + g - t < N_13 → ∀ (H : Heap) (locs : List Loc), va_P D vwCl [(b, .inr (0, [.int (nI g), .int (nI p), .int (nI T), .ref bR, .ref bB, .ref bA, .ref bO, .ref bP, .ref bM])), (bP, .inl (cI, 9, .inl (fun j => nI (pq j))))] H → va_D AA [(b, .inr (0, [.int (nI g), .int (nI p), .int (nI T), .ref bR, .ref bB, .ref bA, .ref bO, .ref bP, .ref bM])), (bP, .inl (cI, 9, .inl (fun j => nI (pq j))))] → va_S AA sT.heap H locs → ∀ (ls : Array Slot), lv_has ls 4 [(3, .int (nI t)), (2, .int (nI ((2 ^ g - 1) * 2 ^ f1))), (0, .ref b), (1, .int (nI f1))] → W pR l eV rmX0_resetPot sT mI args below meth cO H locs 0 0 QQ (F0 mI 13 ls []) := by
    intro N_13
    induction N_13 with
    | zero =>
      intro t pq ht he1 he2 hMM
      exact absurd hMM (Nat.not_lt_zero _)
    | succ N_13 ih_13 =>
      intro t pq ht he1 he2 hMM H locs hP hD hS ls hl
      refine lv_iload_n hXX hBB dX0_resetPot_13 rfl (lv_at hl 0 rfl) ?_
      refine lv_iload_n hXX hBB dX0_resetPot_14 rfl (lv_at hl 3 rfl) ?_
      refine lv_aload_n hXX hBB dX0_resetPot_15 rfl (lv_at hl 2 rfl) ?_
      refine va_get (D := D) (ci := 0) (v := .int (nI g)) (C := RX0) (T := TX0) (N := 9) hXX hBB hts iw_X0 hown hK hP 0 rfl rfl 0 (by decide) kw_1 (fun _ h9 => h9) rfl dX0_resetPot_16 ?_
      refine lv_iadd hXX hBB dX0_resetPot_19 ?_
      refine m_top (y := nI (f1 + g)) (nI_add _ _) ?_
      refine lv_icmp_ge (tgt := 36) hXX hBB dX0_resetPot_20 (by decide) (fun c_20 => ?_) (fun c_20 => ?_)
      · have c_20 : (f1 + g) ≤ t := (nI_leI (by omega) (by omega)).mp c_20
        have hE : t = f1 + g := by omega
        rw [hE] at he1 he2
        refine hret pq ?_ (hP.sub [0, 1] rfl) (hD.sub [0, 1] (by decide) rfl) hS (Nat.le_of_ble_eq_true rfl) (Nat.le_of_ble_eq_true rfl) dX0_resetPot_36
        show (∀ z, f1 ≤ z → z < f1 + g → pq z = (2 ^ g - 1) * 2 ^ f1) ∧ (∀ z, z < f1 ∨ f1 + g ≤ z → pq z = pm z)
        exact ⟨he1, he2⟩
      · have c_20 : ¬ (f1 + g) ≤ t := fun h9 => c_20 ((nI_leI (by omega) (by omega)).mpr h9)
        refine lv_aload_n hXX hBB dX0_resetPot_23 rfl (lv_at hl 2 rfl) ?_
        refine va_get (D := D) (ci := 0) (v := .ref bP) (C := RX0) (T := TX0) (N := 9) hXX hBB hts iw_X0 hown hK hP 0 rfl rfl 7 (by decide) kw_2 (fun _ h9 => h9) rfl dX0_resetPot_24 ?_
        refine lv_iload_n hXX hBB dX0_resetPot_27 rfl (lv_at hl 0 rfl) ?_
        refine lv_iload_n hXX hBB dX0_resetPot_28 rfl (lv_at hl 1 rfl) ?_
        refine m_iast hXX hBB hK hP hD hS 1 0 rfl rfl (i := t) (by omega) (by decide) (g := fun j => nI (updN pq t ((2 ^ g - 1) * 2 ^ f1) j)) (m_upd _ _ _) dX0_resetPot_29 (fun H locs hP hD hS => ?_)
        have hP : va_P D vwCl [(b, .inr (0, [.int (nI g), .int (nI p), .int (nI T), .ref bR, .ref bB, .ref bA, .ref bO, .ref bP, .ref bM])), (bP, .inl (cI, 9, .inl (fun j => nI (updN pq t ((2 ^ g - 1) * 2 ^ f1) j))))] H := hP
        have hD : va_D AA [(b, .inr (0, [.int (nI g), .int (nI p), .int (nI T), .ref bR, .ref bB, .ref bA, .ref bO, .ref bP, .ref bM])), (bP, .inl (cI, 9, .inl (fun j => nI (updN pq t ((2 ^ g - 1) * 2 ^ f1) j))))] := hD
        refine lv_iinc (v := nI (t + 1)) (lv' := [(3, .int (nI (t + 1))), (2, .int (nI ((2 ^ g - 1) * 2 ^ f1))), (0, .ref b), (1, .int (nI f1))]) hXX hBB dX0_resetPot_30 hl (k := 0) rfl (nI_1 _) (by decide) rfl (fun ls hl => ?_)
        refine lv_goto (tgt := 13) hXX hBB dX0_resetPot_33 (by decide) ?_
        have hi_t : f1 ≤ (t + 1) ∧ (t + 1) ≤ f1 + g := by omega
        have hi_e1 : ∀ z, f1 ≤ z → z < (t + 1) → (updN pq t ((2 ^ g - 1) * 2 ^ f1)) z = (2 ^ g - 1) * 2 ^ f1 := by
          intro z h1 h2
          by_cases q : z = t
          · rw [q, updN_s]
          · rw [updN_n q]; exact he1 z h1 (by omega)
        have hi_e2 : ∀ z, z < f1 ∨ (t + 1) ≤ z → (updN pq t ((2 ^ g - 1) * 2 ^ f1)) z = pm z := by
          intro z h1
          rw [updN_n (by omega)]; exact he2 z (by omega)
        have hmm : f1 + g - (t + 1) < N_13 := by omega
        exact ih_13 (t + 1) (updN pq t ((2 ^ g - 1) * 2 ^ f1)) hi_t hi_e1 hi_e2 hmm _ _ (hP.sub [0, 1] rfl) (hD.sub [0, 1] (by decide) rfl) hS ls (lv_sub hl [0, 1, 2, 3] rfl)
  have hi_t : f1 ≤ f1 ∧ f1 ≤ f1 + g := by omega
  have hi_e1 : ∀ z, f1 ≤ z → z < f1 → pm z = (2 ^ g - 1) * 2 ^ f1 := by intro z h1 h2; omega
  have hi_e2 : ∀ z, z < f1 ∨ f1 ≤ z → pm z = pm z := by exact fun z _ => rfl
  exact L_13 _ f1 pm hi_t hi_e1 hi_e2 (Nat.lt_succ_self _) _ _ hP hD hS ls (lv_sub hl [0, 1, 2, 3] rfl)
abbrev rmX0_reset : Room := { frames := 1, cells := 0, slots := 0, locals := 23 }
set_option maxHeartbeats 4000000 in
set_option maxRecDepth 100000 in
theorem kX0_reset (l : Launch) (D : va_G) (cI : ClassId) (b : Nat) (g : Nat) (p : Nat) (T : Nat) (bR : Nat) (bB : Nat) (bA : Nat) (bO : Nat) (bP : Nat) (bM : Nat) (rg : Nat → Nat) (bd : Nat → Nat) (ap : Nat → Nat) (od : Nat → Nat) (pm : Nat → Nat) (g2 : Nat) (p2 : Nat) (hg2 : 2 ≤ g2) (hg4 : g2 ≤ 4) (hp3 : p2 ≤ 3) (hT : g2 * p2 ≤ 9) : Cv l yX0_reset wsX0_reset rmX0_reset D [(cI, .int)] [.ref b, .int (nI g2), .int (nI p2)] [(b, .inr (0, [.int (nI g), .int (nI p), .int (nI T), .ref bR, .ref bB, .ref bA, .ref bO, .ref bP, .ref bM])), (bR, .inl (cI, 9, .inl (fun j => nI (rg j)))), (bB, .inl (cI, 6, .inl (fun j => nI (bd j)))), (bA, .inl (cI, 9, .inl (fun j => nI (ap j)))), (bO, .inl (cI, 9, .inl (fun j => nI (od j)))), (bP, .inl (cI, 9, .inl (fun j => nI (pm j))))] (fun (u : (Nat → Nat)) => (∀ z, z < g2 * p2 → u z = pmN g2 z)) (fun (u : (Nat → Nat)) => [(b, .inr (0, [.int (nI g2), .int (nI p2), .int (nI (g2 * p2)), .ref bR, .ref bB, .ref bA, .ref bO, .ref bP, .ref bM])), (bR, .inl (cI, 9, .inl (fun j => nI ((fun _ => 0) j)))), (bB, .inl (cI, 6, .inl (fun j => nI ((fun _ => 3) j)))), (bA, .inl (cI, 9, .inl (fun j => nI ((fun _ => 0) j)))), (bO, .inl (cI, 9, .inl (fun j => nI ((fun _ => 0) j)))), (bP, .inl (cI, 9, .inl (fun j => nI (u j))))]) := by
  refine Cv_of (cc := cX0_reset) (maxL := 4) (by decide) rfl (Nat.le_of_ble_eq_true rfl) ?_
  intro pR eV sT mI args below meth cO AA QQ ls hXX hBB hml hown hts hnm hN hK hP hD hS hAA hl hret
  have hl : lv_has ls 4 [(0, .ref b), (1, .int (nI g2)), (2, .int (nI p2))] := hl
  have kw_1 := hts (.fieldLink RX0 30 "CupDraw$Bowl" "groups" "I") (List.mem_of_getElem? (i := 1) rfl)
  have iw_X0 : ∀ w ∈ wsX00, w ∈ wsX0_reset := by decide +kernel
  have kw_2 := hts (.fieldLink RX0 34 "CupDraw$Bowl" "pots" "I") (List.mem_of_getElem? (i := 2) rfl)
  have kw_3 := hts (.fieldLink RX0 37 "CupDraw$Bowl" "teams" "I") (List.mem_of_getElem? (i := 3) rfl)
  have kw_5 := hts (.fieldLink RX0 9 "CupDraw$Bowl" "regions" "[I") (List.mem_of_getElem? (i := 5) rfl)
  have kw_6 := hts (.fieldLink RX0 18 "CupDraw$Bowl" "apart" "[I") (List.mem_of_getElem? (i := 6) rfl)
  have kw_7 := hts (.fieldLink RX0 21 "CupDraw$Bowl" "otherDays" "[I") (List.mem_of_getElem? (i := 7) rfl)
  have kw_4 := hts (.fieldLink RX0 15 "CupDraw$Bowl" "bounds" "[I") (List.mem_of_getElem? (i := 4) rfl)
  refine lv_aload_n hXX hBB dX0_reset_0 rfl (lv_at hl 0 rfl) ?_
  refine lv_iload_n hXX hBB dX0_reset_1 rfl (lv_at hl 1 rfl) ?_
  refine va_put (D := D) (ci := 0) (v := .int (nI g2)) (ty := .int) (C := RX0) (T := TX0) (N := 9) hXX hBB hts iw_X0 tyX0 tyX0_ok nmX0 hown hK hP hD hS 0 rfl rfl 0 (by decide) kw_1 (fun _ h9 => h9) rfl (by decide +kernel) (rfl) (rfl) (Nat.le_of_ble_eq_true rfl) dX0_reset_2 (fun H locs hP hD hS => ?_)
  have hP : va_P D vwCl [(b, .inr (0, [.int (nI g2), .int (nI p), .int (nI T), .ref bR, .ref bB, .ref bA, .ref bO, .ref bP, .ref bM])), (bR, .inl (cI, 9, .inl (fun j => nI (rg j)))), (bB, .inl (cI, 6, .inl (fun j => nI (bd j)))), (bA, .inl (cI, 9, .inl (fun j => nI (ap j)))), (bO, .inl (cI, 9, .inl (fun j => nI (od j)))), (bP, .inl (cI, 9, .inl (fun j => nI (pm j))))] H := hP
  have hD : va_D AA [(b, .inr (0, [.int (nI g2), .int (nI p), .int (nI T), .ref bR, .ref bB, .ref bA, .ref bO, .ref bP, .ref bM])), (bR, .inl (cI, 9, .inl (fun j => nI (rg j)))), (bB, .inl (cI, 6, .inl (fun j => nI (bd j)))), (bA, .inl (cI, 9, .inl (fun j => nI (ap j)))), (bO, .inl (cI, 9, .inl (fun j => nI (od j)))), (bP, .inl (cI, 9, .inl (fun j => nI (pm j))))] := hD
  refine lv_aload_n hXX hBB dX0_reset_5 rfl (lv_at hl 0 rfl) ?_
  refine lv_iload_n hXX hBB dX0_reset_6 rfl (lv_at hl 2 rfl) ?_
  refine va_put (D := D) (ci := 0) (v := .int (nI p2)) (ty := .int) (C := RX0) (T := TX0) (N := 9) hXX hBB hts iw_X0 tyX0 tyX0_ok nmX0 hown hK hP hD hS 0 rfl rfl 1 (by decide) kw_2 (fun _ h9 => h9) rfl (by decide +kernel) (rfl) (rfl) (Nat.le_of_ble_eq_true rfl) dX0_reset_7 (fun H locs hP hD hS => ?_)
  have hP : va_P D vwCl [(b, .inr (0, [.int (nI g2), .int (nI p2), .int (nI T), .ref bR, .ref bB, .ref bA, .ref bO, .ref bP, .ref bM])), (bR, .inl (cI, 9, .inl (fun j => nI (rg j)))), (bB, .inl (cI, 6, .inl (fun j => nI (bd j)))), (bA, .inl (cI, 9, .inl (fun j => nI (ap j)))), (bO, .inl (cI, 9, .inl (fun j => nI (od j)))), (bP, .inl (cI, 9, .inl (fun j => nI (pm j))))] H := hP
  have hD : va_D AA [(b, .inr (0, [.int (nI g2), .int (nI p2), .int (nI T), .ref bR, .ref bB, .ref bA, .ref bO, .ref bP, .ref bM])), (bR, .inl (cI, 9, .inl (fun j => nI (rg j)))), (bB, .inl (cI, 6, .inl (fun j => nI (bd j)))), (bA, .inl (cI, 9, .inl (fun j => nI (ap j)))), (bO, .inl (cI, 9, .inl (fun j => nI (od j)))), (bP, .inl (cI, 9, .inl (fun j => nI (pm j))))] := hD
  refine lv_aload_n hXX hBB dX0_reset_10 rfl (lv_at hl 0 rfl) ?_
  refine lv_iload_n hXX hBB dX0_reset_11 rfl (lv_at hl 1 rfl) ?_
  refine lv_iload_n hXX hBB dX0_reset_12 rfl (lv_at hl 2 rfl) ?_
  refine lv_imul hXX hBB dX0_reset_13 ?_
  refine m_top (y := nI (g2 * p2)) (pk_mul _ _) ?_
  refine va_put (D := D) (ci := 0) (v := .int (nI (g2 * p2))) (ty := .int) (C := RX0) (T := TX0) (N := 9) hXX hBB hts iw_X0 tyX0 tyX0_ok nmX0 hown hK hP hD hS 0 rfl rfl 2 (by decide) kw_3 (fun _ h9 => h9) rfl (by decide +kernel) (rfl) (rfl) (Nat.le_of_ble_eq_true rfl) dX0_reset_14 (fun H locs hP hD hS => ?_)
  have hP : va_P D vwCl [(b, .inr (0, [.int (nI g2), .int (nI p2), .int (nI (g2 * p2)), .ref bR, .ref bB, .ref bA, .ref bO, .ref bP, .ref bM])), (bR, .inl (cI, 9, .inl (fun j => nI (rg j)))), (bB, .inl (cI, 6, .inl (fun j => nI (bd j)))), (bA, .inl (cI, 9, .inl (fun j => nI (ap j)))), (bO, .inl (cI, 9, .inl (fun j => nI (od j)))), (bP, .inl (cI, 9, .inl (fun j => nI (pm j))))] H := hP
  have hD : va_D AA [(b, .inr (0, [.int (nI g2), .int (nI p2), .int (nI (g2 * p2)), .ref bR, .ref bB, .ref bA, .ref bO, .ref bP, .ref bM])), (bR, .inl (cI, 9, .inl (fun j => nI (rg j)))), (bB, .inl (cI, 6, .inl (fun j => nI (bd j)))), (bA, .inl (cI, 9, .inl (fun j => nI (ap j)))), (bO, .inl (cI, 9, .inl (fun j => nI (od j)))), (bP, .inl (cI, 9, .inl (fun j => nI (pm j))))] := hD
  refine lv_iconst (v := nI 0) hXX hBB dX0_reset_17 (by decide) ?_
  refine lv_istore_n (lv' := [(3, .int (nI 0)), (0, .ref b), (1, .int (nI g2)), (2, .int (nI p2))]) hXX hBB dX0_reset_18 rfl hl (by decide) rfl (fun ls hl => ?_)
  have L_19 : ∀ (N_19 : Nat) (k : Nat) (bq : Nat → Nat), (k ≤ 6) → (∀ z, z < k → bq z = 3) → 6 - k < N_19 → ∀ (H : Heap) (locs : List Loc), va_P D vwCl [(b, .inr (0, [.int (nI g2), .int (nI p2), .int (nI (g2 * p2)), .ref bR, .ref bB, .ref bA, .ref bO, .ref bP, .ref bM])), (bR, .inl (cI, 9, .inl (fun j => nI (rg j)))), (bB, .inl (cI, 6, .inl (fun j => nI (bq j)))), (bA, .inl (cI, 9, .inl (fun j => nI (ap j)))), (bO, .inl (cI, 9, .inl (fun j => nI (od j)))), (bP, .inl (cI, 9, .inl (fun j => nI (pm j))))] H → va_D AA [(b, .inr (0, [.int (nI g2), .int (nI p2), .int (nI (g2 * p2)), .ref bR, .ref bB, .ref bA, .ref bO, .ref bP, .ref bM])), (bR, .inl (cI, 9, .inl (fun j => nI (rg j)))), (bB, .inl (cI, 6, .inl (fun j => nI (bq j)))), (bA, .inl (cI, 9, .inl (fun j => nI (ap j)))), (bO, .inl (cI, 9, .inl (fun j => nI (od j)))), (bP, .inl (cI, 9, .inl (fun j => nI (pm j))))] → va_S AA sT.heap H locs → ∀ (ls : Array Slot), lv_has ls 4 [(3, .int (nI k)), (0, .ref b), (1, .int (nI g2)), (2, .int (nI p2))] → W pR l eV rmX0_reset sT mI args below meth cO H locs 0 0 QQ (F0 mI 19 ls []) := by
    intro N_19
    induction N_19 with
    | zero =>
      intro k bq hk hAbq hMM
      exact absurd hMM (Nat.not_lt_zero _)
    | succ N_19 ih_19 =>
      intro k bq hk hAbq hMM H locs hP hD hS ls hl
      refine lv_iload_n hXX hBB dX0_reset_19 rfl (lv_at hl 0 rfl) ?_
      refine lv_bipush (v := nI 6) hXX hBB dX0_reset_20 (by decide) ?_
      refine lv_icmp_ge (tgt := 38) hXX hBB dX0_reset_22 (by decide) (fun c_22 => ?_) (fun c_22 => ?_)
      · have c_22 : 6 ≤ k := (nI_leI (by omega) (by omega)).mp c_22
        have hP := m_ext (q0 := 2) (g := fun j => nI ((fun _ => 3) j)) hP rfl (fun z hz => by rw [hAbq z (by omega)])
        have hD := m_extD (q0 := 2) (g := fun j => nI ((fun _ => 3) j)) hD rfl
        have hP : va_P D vwCl [(b, .inr (0, [.int (nI g2), .int (nI p2), .int (nI (g2 * p2)), .ref bR, .ref bB, .ref bA, .ref bO, .ref bP, .ref bM])), (bR, .inl (cI, 9, .inl (fun j => nI (rg j)))), (bB, .inl (cI, 6, .inl (fun j => nI ((fun _ => 3) j)))), (bA, .inl (cI, 9, .inl (fun j => nI (ap j)))), (bO, .inl (cI, 9, .inl (fun j => nI (od j)))), (bP, .inl (cI, 9, .inl (fun j => nI (pm j))))] H := hP
        have hD : va_D AA [(b, .inr (0, [.int (nI g2), .int (nI p2), .int (nI (g2 * p2)), .ref bR, .ref bB, .ref bA, .ref bO, .ref bP, .ref bM])), (bR, .inl (cI, 9, .inl (fun j => nI (rg j)))), (bB, .inl (cI, 6, .inl (fun j => nI ((fun _ => 3) j)))), (bA, .inl (cI, 9, .inl (fun j => nI (ap j)))), (bO, .inl (cI, 9, .inl (fun j => nI (od j)))), (bP, .inl (cI, 9, .inl (fun j => nI (pm j))))] := hD
        refine lv_iconst (v := nI 0) hXX hBB dX0_reset_38 (by decide) ?_
        refine lv_istore_n (lv' := [(3, .int (nI 0)), (0, .ref b), (1, .int (nI g2)), (2, .int (nI p2))]) hXX hBB dX0_reset_39 rfl hl (by decide) rfl (fun ls hl => ?_)
        have L_40 : ∀ (N_40 : Nat) (k : Nat) (rq : Nat → Nat) (aq : Nat → Nat) (oq : Nat → Nat), (k ≤ 9) → (∀ z, z < k → rq z = 0) → (∀ z, z < k → aq z = 0) → (∀ z, z < k → oq z = 0) → 9 - k < N_40 → ∀ (H : Heap) (locs : List Loc), va_P D vwCl [(b, .inr (0, [.int (nI g2), .int (nI p2), .int (nI (g2 * p2)), .ref bR, .ref bB, .ref bA, .ref bO, .ref bP, .ref bM])), (bR, .inl (cI, 9, .inl (fun j => nI (rq j)))), (bB, .inl (cI, 6, .inl (fun j => nI ((fun _ => 3) j)))), (bA, .inl (cI, 9, .inl (fun j => nI (aq j)))), (bO, .inl (cI, 9, .inl (fun j => nI (oq j)))), (bP, .inl (cI, 9, .inl (fun j => nI (pm j))))] H → va_D AA [(b, .inr (0, [.int (nI g2), .int (nI p2), .int (nI (g2 * p2)), .ref bR, .ref bB, .ref bA, .ref bO, .ref bP, .ref bM])), (bR, .inl (cI, 9, .inl (fun j => nI (rq j)))), (bB, .inl (cI, 6, .inl (fun j => nI ((fun _ => 3) j)))), (bA, .inl (cI, 9, .inl (fun j => nI (aq j)))), (bO, .inl (cI, 9, .inl (fun j => nI (oq j)))), (bP, .inl (cI, 9, .inl (fun j => nI (pm j))))] → va_S AA sT.heap H locs → ∀ (ls : Array Slot), lv_has ls 4 [(3, .int (nI k)), (0, .ref b), (1, .int (nI g2)), (2, .int (nI p2))] → W pR l eV rmX0_reset sT mI args below meth cO H locs 0 0 QQ (F0 mI 40 ls []) := by
          intro N_40
          induction N_40 with
          | zero =>
            intro k rq aq oq hk hArq hAaq hAoq hMM
            exact absurd hMM (Nat.not_lt_zero _)
          | succ N_40 ih_40 =>
            intro k rq aq oq hk hArq hAaq hAoq hMM H locs hP hD hS ls hl
            refine lv_iload_n hXX hBB dX0_reset_40 rfl (lv_at hl 0 rfl) ?_
            refine lv_bipush (v := nI 9) hXX hBB dX0_reset_41 (by decide) ?_
            refine lv_icmp_ge (tgt := 73) hXX hBB dX0_reset_43 (by decide) (fun c_43 => ?_) (fun c_43 => ?_)
            · have c_43 : 9 ≤ k := (nI_leI (by omega) (by omega)).mp c_43
              have hP := m_ext (q0 := 1) (g := fun j => nI ((fun _ => 0) j)) hP rfl (fun z hz => by rw [hArq z (by omega)])
              have hD := m_extD (q0 := 1) (g := fun j => nI ((fun _ => 0) j)) hD rfl
              have hP : va_P D vwCl [(b, .inr (0, [.int (nI g2), .int (nI p2), .int (nI (g2 * p2)), .ref bR, .ref bB, .ref bA, .ref bO, .ref bP, .ref bM])), (bR, .inl (cI, 9, .inl (fun j => nI ((fun _ => 0) j)))), (bB, .inl (cI, 6, .inl (fun j => nI ((fun _ => 3) j)))), (bA, .inl (cI, 9, .inl (fun j => nI (aq j)))), (bO, .inl (cI, 9, .inl (fun j => nI (oq j)))), (bP, .inl (cI, 9, .inl (fun j => nI (pm j))))] H := hP
              have hD : va_D AA [(b, .inr (0, [.int (nI g2), .int (nI p2), .int (nI (g2 * p2)), .ref bR, .ref bB, .ref bA, .ref bO, .ref bP, .ref bM])), (bR, .inl (cI, 9, .inl (fun j => nI ((fun _ => 0) j)))), (bB, .inl (cI, 6, .inl (fun j => nI ((fun _ => 3) j)))), (bA, .inl (cI, 9, .inl (fun j => nI (aq j)))), (bO, .inl (cI, 9, .inl (fun j => nI (oq j)))), (bP, .inl (cI, 9, .inl (fun j => nI (pm j))))] := hD
              have hP := m_ext (q0 := 3) (g := fun j => nI ((fun _ => 0) j)) hP rfl (fun z hz => by rw [hAaq z (by omega)])
              have hD := m_extD (q0 := 3) (g := fun j => nI ((fun _ => 0) j)) hD rfl
              have hP : va_P D vwCl [(b, .inr (0, [.int (nI g2), .int (nI p2), .int (nI (g2 * p2)), .ref bR, .ref bB, .ref bA, .ref bO, .ref bP, .ref bM])), (bR, .inl (cI, 9, .inl (fun j => nI ((fun _ => 0) j)))), (bB, .inl (cI, 6, .inl (fun j => nI ((fun _ => 3) j)))), (bA, .inl (cI, 9, .inl (fun j => nI ((fun _ => 0) j)))), (bO, .inl (cI, 9, .inl (fun j => nI (oq j)))), (bP, .inl (cI, 9, .inl (fun j => nI (pm j))))] H := hP
              have hD : va_D AA [(b, .inr (0, [.int (nI g2), .int (nI p2), .int (nI (g2 * p2)), .ref bR, .ref bB, .ref bA, .ref bO, .ref bP, .ref bM])), (bR, .inl (cI, 9, .inl (fun j => nI ((fun _ => 0) j)))), (bB, .inl (cI, 6, .inl (fun j => nI ((fun _ => 3) j)))), (bA, .inl (cI, 9, .inl (fun j => nI ((fun _ => 0) j)))), (bO, .inl (cI, 9, .inl (fun j => nI (oq j)))), (bP, .inl (cI, 9, .inl (fun j => nI (pm j))))] := hD
              have hP := m_ext (q0 := 4) (g := fun j => nI ((fun _ => 0) j)) hP rfl (fun z hz => by rw [hAoq z (by omega)])
              have hD := m_extD (q0 := 4) (g := fun j => nI ((fun _ => 0) j)) hD rfl
              have hP : va_P D vwCl [(b, .inr (0, [.int (nI g2), .int (nI p2), .int (nI (g2 * p2)), .ref bR, .ref bB, .ref bA, .ref bO, .ref bP, .ref bM])), (bR, .inl (cI, 9, .inl (fun j => nI ((fun _ => 0) j)))), (bB, .inl (cI, 6, .inl (fun j => nI ((fun _ => 3) j)))), (bA, .inl (cI, 9, .inl (fun j => nI ((fun _ => 0) j)))), (bO, .inl (cI, 9, .inl (fun j => nI ((fun _ => 0) j)))), (bP, .inl (cI, 9, .inl (fun j => nI (pm j))))] H := hP
              have hD : va_D AA [(b, .inr (0, [.int (nI g2), .int (nI p2), .int (nI (g2 * p2)), .ref bR, .ref bB, .ref bA, .ref bO, .ref bP, .ref bM])), (bR, .inl (cI, 9, .inl (fun j => nI ((fun _ => 0) j)))), (bB, .inl (cI, 6, .inl (fun j => nI ((fun _ => 3) j)))), (bA, .inl (cI, 9, .inl (fun j => nI ((fun _ => 0) j)))), (bO, .inl (cI, 9, .inl (fun j => nI ((fun _ => 0) j)))), (bP, .inl (cI, 9, .inl (fun j => nI (pm j))))] := hD
              refine lv_iconst (v := nI 0) hXX hBB dX0_reset_73 (by decide) ?_
              refine lv_istore_n (lv' := [(3, .int (nI 0)), (0, .ref b), (1, .int (nI g2)), (2, .int (nI p2))]) hXX hBB dX0_reset_74 rfl hl (by decide) rfl (fun ls hl => ?_)
              have L_75 : ∀ (N_75 : Nat) (q : Nat) (pq : Nat → Nat), (q ≤ p2) → (∀ z, z < g2 * q → pq z = pmN g2 z) → p2 - q < N_75 → ∀ (H : Heap) (locs : List Loc), va_P D vwCl [(b, .inr (0, [.int (nI g2), .int (nI p2), .int (nI (g2 * p2)), .ref bR, .ref bB, .ref bA, .ref bO, .ref bP, .ref bM])), (bR, .inl (cI, 9, .inl (fun j => nI ((fun _ => 0) j)))), (bB, .inl (cI, 6, .inl (fun j => nI ((fun _ => 3) j)))), (bA, .inl (cI, 9, .inl (fun j => nI ((fun _ => 0) j)))), (bO, .inl (cI, 9, .inl (fun j => nI ((fun _ => 0) j)))), (bP, .inl (cI, 9, .inl (fun j => nI (pq j))))] H → va_D AA [(b, .inr (0, [.int (nI g2), .int (nI p2), .int (nI (g2 * p2)), .ref bR, .ref bB, .ref bA, .ref bO, .ref bP, .ref bM])), (bR, .inl (cI, 9, .inl (fun j => nI ((fun _ => 0) j)))), (bB, .inl (cI, 6, .inl (fun j => nI ((fun _ => 3) j)))), (bA, .inl (cI, 9, .inl (fun j => nI ((fun _ => 0) j)))), (bO, .inl (cI, 9, .inl (fun j => nI ((fun _ => 0) j)))), (bP, .inl (cI, 9, .inl (fun j => nI (pq j))))] → va_S AA sT.heap H locs → ∀ (ls : Array Slot), lv_has ls 4 [(3, .int (nI q)), (0, .ref b), (1, .int (nI g2)), (2, .int (nI p2))] → W pR l eV rmX0_reset sT mI args below meth cO H locs 0 0 QQ (F0 mI 75 ls []) := by
                intro N_75
                induction N_75 with
                | zero =>
                  intro q pq hq he1 hMM
                  exact absurd hMM (Nat.not_lt_zero _)
                | succ N_75 ih_75 =>
                  intro q pq hq he1 hMM H locs hP hD hS ls hl
                  refine lv_iload_n hXX hBB dX0_reset_75 rfl (lv_at hl 0 rfl) ?_
                  refine lv_aload_n hXX hBB dX0_reset_76 rfl (lv_at hl 1 rfl) ?_
                  refine va_get (D := D) (ci := 0) (v := .int (nI p2)) (C := RX0) (T := TX0) (N := 9) hXX hBB hts iw_X0 hown hK hP 0 rfl rfl 1 (by decide) kw_2 (fun _ h9 => h9) rfl dX0_reset_77 ?_
                  refine lv_icmp_ge (tgt := 99) hXX hBB dX0_reset_80 (by decide) (fun c_80 => ?_) (fun c_80 => ?_)
                  · have c_80 : p2 ≤ q := (nI_leI (by omega) (by omega)).mp c_80
                    have hE : q = p2 := by omega
                    rw [hE] at he1
                    refine hret pq ?_ (hP.sub [0, 1, 2, 3, 4, 5] rfl) (hD.sub [0, 1, 2, 3, 4, 5] (by decide) rfl) hS (Nat.le_of_ble_eq_true rfl) (Nat.le_of_ble_eq_true rfl) dX0_reset_99
                    show (∀ z, z < g2 * p2 → pq z = pmN g2 z)
                    exact he1
                  · have c_80 : ¬ p2 ≤ q := fun h9 => c_80 ((nI_leI (by omega) (by omega)).mpr h9)
                    have hms : g2 * (q + 1) = g2 * q + g2 := Nat.mul_succ g2 q
                    have hmq : g2 * (q + 1) ≤ g2 * p2 := Nat.mul_le_mul_left g2 (by omega)
                    refine lv_aload_n hXX hBB dX0_reset_83 rfl (lv_at hl 1 rfl) ?_
                    refine lv_iload_n hXX hBB dX0_reset_84 rfl (lv_at hl 0 rfl) ?_
                    refine lv_aload_n hXX hBB dX0_reset_85 rfl (lv_at hl 1 rfl) ?_
                    refine va_get (D := D) (ci := 0) (v := .int (nI g2)) (C := RX0) (T := TX0) (N := 9) hXX hBB hts iw_X0 hown hK hP 0 rfl rfl 0 (by decide) kw_1 (fun _ h9 => h9) rfl dX0_reset_86 ?_
                    refine lv_imul hXX hBB dX0_reset_89 ?_
                    refine m_top (y := nI (g2 * q)) (by rw [pk_mul, Nat.mul_comm]) ?_
                    refine m_callv (wr := [(bR, .inl (cI, 9, .inl (fun j => nI ((fun _ => 0) j)))), (bB, .inl (cI, 6, .inl (fun j => nI ((fun _ => 3) j)))), (bA, .inl (cI, 9, .inl (fun j => nI ((fun _ => 0) j)))), (bO, .inl (cI, 9, .inl (fun j => nI ((fun _ => 0) j))))]) ⟨hXX, hBB, hml, hown, hts⟩ hN (kX0_resetPot l D cI b g2 p2 (g2 * p2) bR bB bA bO bP bM pq (g2 * q) (by omega) (by omega) (by omega)) (cwV 1 hts gX0_reset_X0_resetPot rfl rfl rfl (by decide +kernel) ⟨Nat.le_of_ble_eq_true rfl, Nat.le_of_ble_eq_true rfl⟩) hK hP hD hS hAA [0, 5] [1, 2, 3, 4] [0] rfl rfl rfl (by decide) (by decide) (by decide) rfl 0 rfl rfl rfl rfl hl.1 rfl (Nat.le_of_ble_eq_true rfl) dX0_reset_90 ⟨Nat.le_of_ble_eq_true rfl, Nat.le_of_ble_eq_true rfl⟩ (k := 0) (n := 0) rfl rfl (fun  u_ H locs hw hP hD hS => ?_)
                    obtain ⟨po, rfl⟩ : ∃ z, z = u_ := ⟨_, rfl⟩
                    have hw : (∀ z, (g2 * q) ≤ z → z < (g2 * q) + g2 → po z = (2 ^ g2 - 1) * 2 ^ (g2 * q)) ∧ (∀ z, z < (g2 * q) ∨ (g2 * q) + g2 ≤ z → po z = pq z) := hw
                    obtain ⟨e_1, e_2⟩ := hw
                    have hP : va_P D vwCl [(bR, .inl (cI, 9, .inl (fun j => nI ((fun _ => 0) j)))), (bB, .inl (cI, 6, .inl (fun j => nI ((fun _ => 3) j)))), (bA, .inl (cI, 9, .inl (fun j => nI ((fun _ => 0) j)))), (bO, .inl (cI, 9, .inl (fun j => nI ((fun _ => 0) j)))), (b, .inr (0, [.int (nI g2), .int (nI p2), .int (nI (g2 * p2)), .ref bR, .ref bB, .ref bA, .ref bO, .ref bP, .ref bM])), (bP, .inl (cI, 9, .inl (fun j => nI (po j))))] H := hP
                    have hD : va_D AA [(bR, .inl (cI, 9, .inl (fun j => nI ((fun _ => 0) j)))), (bB, .inl (cI, 6, .inl (fun j => nI ((fun _ => 3) j)))), (bA, .inl (cI, 9, .inl (fun j => nI ((fun _ => 0) j)))), (bO, .inl (cI, 9, .inl (fun j => nI ((fun _ => 0) j)))), (b, .inr (0, [.int (nI g2), .int (nI p2), .int (nI (g2 * p2)), .ref bR, .ref bB, .ref bA, .ref bO, .ref bP, .ref bM])), (bP, .inl (cI, 9, .inl (fun j => nI (po j))))] := hD
                    have stE : ∀ z, z < g2 * (q + 1) → po z = pmN g2 z := fun z hz => by
                      rcases Nat.lt_or_ge z (g2 * q) with h9 | h9
                      · rw [e_2 z (Or.inl h9)]; exact he1 z h9
                      · rw [e_1 z h9 (by omega)]
                        unfold pmN
                        rw [(pot_of h9 (by omega)).1]
                    refine lv_iinc (v := nI (q + 1)) (lv' := [(3, .int (nI (q + 1))), (0, .ref b), (1, .int (nI g2)), (2, .int (nI p2))]) hXX hBB dX0_reset_93 hl (k := 0) rfl (nI_1 _) (by decide) rfl (fun ls hl => ?_)
                    refine lv_goto (tgt := 75) hXX hBB dX0_reset_96 (by decide) ?_
                    have hi_q : (q + 1) ≤ p2 := by omega
                    have hi_e1 : ∀ z, z < g2 * (q + 1) → po z = pmN g2 z := by exact stE
                    have hmm : p2 - (q + 1) < N_75 := by omega
                    exact ih_75 (q + 1) po hi_q hi_e1 hmm _ _ (hP.sub [4, 0, 1, 2, 3, 5] rfl) (hD.sub [4, 0, 1, 2, 3, 5] (by decide) rfl) hS ls (lv_sub hl [0, 1, 2, 3] rfl)
              have hi_q : 0 ≤ p2 := by omega
              have hi_e1 : ∀ z, z < g2 * 0 → pm z = pmN g2 z := by intro z hz; omega
              exact L_75 _ 0 pm hi_q hi_e1 (Nat.lt_succ_self _) _ _ hP hD hS ls (lv_sub hl [0, 1, 2, 3] rfl)
            · have c_43 : ¬ 9 ≤ k := fun h9 => c_43 ((nI_leI (by omega) (by omega)).mpr h9)
              refine lv_aload_n hXX hBB dX0_reset_46 rfl (lv_at hl 1 rfl) ?_
              refine va_get (D := D) (ci := 0) (v := .ref bR) (C := RX0) (T := TX0) (N := 9) hXX hBB hts iw_X0 hown hK hP 0 rfl rfl 3 (by decide) kw_5 (fun _ h9 => h9) rfl dX0_reset_47 ?_
              refine lv_iload_n hXX hBB dX0_reset_50 rfl (lv_at hl 0 rfl) ?_
              refine lv_iconst (v := nI 0) hXX hBB dX0_reset_51 (by decide) ?_
              refine m_iast hXX hBB hK hP hD hS 1 0 rfl rfl (i := k) (by omega) (by decide) (g := fun j => nI (updN rq k 0 j)) (m_upd _ _ _) dX0_reset_52 (fun H locs hP hD hS => ?_)
              have hP : va_P D vwCl [(b, .inr (0, [.int (nI g2), .int (nI p2), .int (nI (g2 * p2)), .ref bR, .ref bB, .ref bA, .ref bO, .ref bP, .ref bM])), (bR, .inl (cI, 9, .inl (fun j => nI (updN rq k 0 j)))), (bB, .inl (cI, 6, .inl (fun j => nI ((fun _ => 3) j)))), (bA, .inl (cI, 9, .inl (fun j => nI (aq j)))), (bO, .inl (cI, 9, .inl (fun j => nI (oq j)))), (bP, .inl (cI, 9, .inl (fun j => nI (pm j))))] H := hP
              have hD : va_D AA [(b, .inr (0, [.int (nI g2), .int (nI p2), .int (nI (g2 * p2)), .ref bR, .ref bB, .ref bA, .ref bO, .ref bP, .ref bM])), (bR, .inl (cI, 9, .inl (fun j => nI (updN rq k 0 j)))), (bB, .inl (cI, 6, .inl (fun j => nI ((fun _ => 3) j)))), (bA, .inl (cI, 9, .inl (fun j => nI (aq j)))), (bO, .inl (cI, 9, .inl (fun j => nI (oq j)))), (bP, .inl (cI, 9, .inl (fun j => nI (pm j))))] := hD
              refine lv_aload_n hXX hBB dX0_reset_53 rfl (lv_at hl 1 rfl) ?_
              refine va_get (D := D) (ci := 0) (v := .ref bA) (C := RX0) (T := TX0) (N := 9) hXX hBB hts iw_X0 hown hK hP 0 rfl rfl 5 (by decide) kw_6 (fun _ h9 => h9) rfl dX0_reset_54 ?_
              refine lv_iload_n hXX hBB dX0_reset_57 rfl (lv_at hl 0 rfl) ?_
              refine lv_iconst (v := nI 0) hXX hBB dX0_reset_58 (by decide) ?_
              refine m_iast hXX hBB hK hP hD hS 3 0 rfl rfl (i := k) (by omega) (by decide) (g := fun j => nI (updN aq k 0 j)) (m_upd _ _ _) dX0_reset_59 (fun H locs hP hD hS => ?_)
              have hP : va_P D vwCl [(b, .inr (0, [.int (nI g2), .int (nI p2), .int (nI (g2 * p2)), .ref bR, .ref bB, .ref bA, .ref bO, .ref bP, .ref bM])), (bR, .inl (cI, 9, .inl (fun j => nI (updN rq k 0 j)))), (bB, .inl (cI, 6, .inl (fun j => nI ((fun _ => 3) j)))), (bA, .inl (cI, 9, .inl (fun j => nI (updN aq k 0 j)))), (bO, .inl (cI, 9, .inl (fun j => nI (oq j)))), (bP, .inl (cI, 9, .inl (fun j => nI (pm j))))] H := hP
              have hD : va_D AA [(b, .inr (0, [.int (nI g2), .int (nI p2), .int (nI (g2 * p2)), .ref bR, .ref bB, .ref bA, .ref bO, .ref bP, .ref bM])), (bR, .inl (cI, 9, .inl (fun j => nI (updN rq k 0 j)))), (bB, .inl (cI, 6, .inl (fun j => nI ((fun _ => 3) j)))), (bA, .inl (cI, 9, .inl (fun j => nI (updN aq k 0 j)))), (bO, .inl (cI, 9, .inl (fun j => nI (oq j)))), (bP, .inl (cI, 9, .inl (fun j => nI (pm j))))] := hD
              refine lv_aload_n hXX hBB dX0_reset_60 rfl (lv_at hl 1 rfl) ?_
              refine va_get (D := D) (ci := 0) (v := .ref bO) (C := RX0) (T := TX0) (N := 9) hXX hBB hts iw_X0 hown hK hP 0 rfl rfl 6 (by decide) kw_7 (fun _ h9 => h9) rfl dX0_reset_61 ?_
              refine lv_iload_n hXX hBB dX0_reset_64 rfl (lv_at hl 0 rfl) ?_
              refine lv_iconst (v := nI 0) hXX hBB dX0_reset_65 (by decide) ?_
              refine m_iast hXX hBB hK hP hD hS 4 0 rfl rfl (i := k) (by omega) (by decide) (g := fun j => nI (updN oq k 0 j)) (m_upd _ _ _) dX0_reset_66 (fun H locs hP hD hS => ?_)
              have hP : va_P D vwCl [(b, .inr (0, [.int (nI g2), .int (nI p2), .int (nI (g2 * p2)), .ref bR, .ref bB, .ref bA, .ref bO, .ref bP, .ref bM])), (bR, .inl (cI, 9, .inl (fun j => nI (updN rq k 0 j)))), (bB, .inl (cI, 6, .inl (fun j => nI ((fun _ => 3) j)))), (bA, .inl (cI, 9, .inl (fun j => nI (updN aq k 0 j)))), (bO, .inl (cI, 9, .inl (fun j => nI (updN oq k 0 j)))), (bP, .inl (cI, 9, .inl (fun j => nI (pm j))))] H := hP
              have hD : va_D AA [(b, .inr (0, [.int (nI g2), .int (nI p2), .int (nI (g2 * p2)), .ref bR, .ref bB, .ref bA, .ref bO, .ref bP, .ref bM])), (bR, .inl (cI, 9, .inl (fun j => nI (updN rq k 0 j)))), (bB, .inl (cI, 6, .inl (fun j => nI ((fun _ => 3) j)))), (bA, .inl (cI, 9, .inl (fun j => nI (updN aq k 0 j)))), (bO, .inl (cI, 9, .inl (fun j => nI (updN oq k 0 j)))), (bP, .inl (cI, 9, .inl (fun j => nI (pm j))))] := hD
              refine lv_iinc (v := nI (k + 1)) (lv' := [(3, .int (nI (k + 1))), (0, .ref b), (1, .int (nI g2)), (2, .int (nI p2))]) hXX hBB dX0_reset_67 hl (k := 0) rfl (nI_1 _) (by decide) rfl (fun ls hl => ?_)
              refine lv_goto (tgt := 40) hXX hBB dX0_reset_70 (by decide) ?_
              have hi_k : (k + 1) ≤ 9 := by omega
              have hi_Arq : ∀ z, z < (k + 1) → (updN rq k 0) z = 0 := by
                intro z hz
                rcases Nat.lt_or_ge z k with q | q
                · rw [updN_n (by omega)]; exact hArq z q
                · rw [show z = k by omega, updN_s]
              have hi_Aaq : ∀ z, z < (k + 1) → (updN aq k 0) z = 0 := by
                intro z hz
                rcases Nat.lt_or_ge z k with q | q
                · rw [updN_n (by omega)]; exact hAaq z q
                · rw [show z = k by omega, updN_s]
              have hi_Aoq : ∀ z, z < (k + 1) → (updN oq k 0) z = 0 := by
                intro z hz
                rcases Nat.lt_or_ge z k with q | q
                · rw [updN_n (by omega)]; exact hAoq z q
                · rw [show z = k by omega, updN_s]
              have hmm : 9 - (k + 1) < N_40 := by omega
              exact ih_40 (k + 1) (updN rq k 0) (updN aq k 0) (updN oq k 0) hi_k hi_Arq hi_Aaq hi_Aoq hmm _ _ (hP.sub [0, 1, 2, 3, 4, 5] rfl) (hD.sub [0, 1, 2, 3, 4, 5] (by decide) rfl) hS ls (lv_sub hl [0, 1, 2, 3] rfl)
        have hi_k : 0 ≤ 9 := by omega
        have hi_Arq : ∀ z, z < 0 → rg z = 0 := by exact fun z hz => absurd hz (Nat.not_lt_zero z)
        have hi_Aaq : ∀ z, z < 0 → ap z = 0 := by exact fun z hz => absurd hz (Nat.not_lt_zero z)
        have hi_Aoq : ∀ z, z < 0 → od z = 0 := by exact fun z hz => absurd hz (Nat.not_lt_zero z)
        exact L_40 _ 0 rg ap od hi_k hi_Arq hi_Aaq hi_Aoq (Nat.lt_succ_self _) _ _ hP hD hS ls (lv_sub hl [0, 1, 2, 3] rfl)
      · have c_22 : ¬ 6 ≤ k := fun h9 => c_22 ((nI_leI (by omega) (by omega)).mpr h9)
        refine lv_aload_n hXX hBB dX0_reset_25 rfl (lv_at hl 1 rfl) ?_
        refine va_get (D := D) (ci := 0) (v := .ref bB) (C := RX0) (T := TX0) (N := 9) hXX hBB hts iw_X0 hown hK hP 0 rfl rfl 4 (by decide) kw_4 (fun _ h9 => h9) rfl dX0_reset_26 ?_
        refine lv_iload_n hXX hBB dX0_reset_29 rfl (lv_at hl 0 rfl) ?_
        refine lv_iconst (v := nI 3) hXX hBB dX0_reset_30 (by decide) ?_
        refine m_iast hXX hBB hK hP hD hS 2 0 rfl rfl (i := k) (by omega) (by decide) (g := fun j => nI (updN bq k 3 j)) (m_upd _ _ _) dX0_reset_31 (fun H locs hP hD hS => ?_)
        have hP : va_P D vwCl [(b, .inr (0, [.int (nI g2), .int (nI p2), .int (nI (g2 * p2)), .ref bR, .ref bB, .ref bA, .ref bO, .ref bP, .ref bM])), (bR, .inl (cI, 9, .inl (fun j => nI (rg j)))), (bB, .inl (cI, 6, .inl (fun j => nI (updN bq k 3 j)))), (bA, .inl (cI, 9, .inl (fun j => nI (ap j)))), (bO, .inl (cI, 9, .inl (fun j => nI (od j)))), (bP, .inl (cI, 9, .inl (fun j => nI (pm j))))] H := hP
        have hD : va_D AA [(b, .inr (0, [.int (nI g2), .int (nI p2), .int (nI (g2 * p2)), .ref bR, .ref bB, .ref bA, .ref bO, .ref bP, .ref bM])), (bR, .inl (cI, 9, .inl (fun j => nI (rg j)))), (bB, .inl (cI, 6, .inl (fun j => nI (updN bq k 3 j)))), (bA, .inl (cI, 9, .inl (fun j => nI (ap j)))), (bO, .inl (cI, 9, .inl (fun j => nI (od j)))), (bP, .inl (cI, 9, .inl (fun j => nI (pm j))))] := hD
        refine lv_iinc (v := nI (k + 1)) (lv' := [(3, .int (nI (k + 1))), (0, .ref b), (1, .int (nI g2)), (2, .int (nI p2))]) hXX hBB dX0_reset_32 hl (k := 0) rfl (nI_1 _) (by decide) rfl (fun ls hl => ?_)
        refine lv_goto (tgt := 19) hXX hBB dX0_reset_35 (by decide) ?_
        have hi_k : (k + 1) ≤ 6 := by omega
        have hi_Abq : ∀ z, z < (k + 1) → (updN bq k 3) z = 3 := by
          intro z hz
          rcases Nat.lt_or_ge z k with q | q
          · rw [updN_n (by omega)]; exact hAbq z q
          · rw [show z = k by omega, updN_s]
        have hmm : 6 - (k + 1) < N_19 := by omega
        exact ih_19 (k + 1) (updN bq k 3) hi_k hi_Abq hmm _ _ (hP.sub [0, 1, 2, 3, 4, 5] rfl) (hD.sub [0, 1, 2, 3, 4, 5] (by decide) rfl) hS ls (lv_sub hl [0, 1, 2, 3] rfl)
  have hi_k : 0 ≤ 6 := by omega
  have hi_Abq : ∀ z, z < 0 → bd z = 3 := by exact fun z hz => absurd hz (Nat.not_lt_zero z)
  exact L_19 _ 0 bd hi_k hi_Abq (Nat.lt_succ_self _) _ _ hP hD hS ls (lv_sub hl [0, 1, 2, 3] rfl)
abbrev rmX0_hasTeam : Room := { frames := 0, cells := 0, slots := 0, locals := 0 }
set_option maxHeartbeats 4000000 in
set_option maxRecDepth 100000 in
theorem kX0_hasTeam (l : Launch) (D : va_G) (b : Nat) (g : Nat) (p : Nat) (T : Nat) (bR : Nat) (bB : Nat) (bA : Nat) (bO : Nat) (bP : Nat) (bM : Nat) (x : Int32) (h0 : 0 < T) (h9 : T ≤ 9) : Ci l yX0_hasTeam wsX0_hasTeam rmX0_hasTeam D [] [.ref b, .int x] [(b, .inr (0, [.int (nI g), .int (nI p), .int (nI T), .ref bR, .ref bB, .ref bA, .ref bO, .ref bP, .ref bM]))] (fun (r : Int32) (_ : Unit) => r = bI (inB x (nI 0) (nI (T - 1)))) (fun (_ : Unit) => [(b, .inr (0, [.int (nI g), .int (nI p), .int (nI T), .ref bR, .ref bB, .ref bA, .ref bO, .ref bP, .ref bM]))]) := by
  refine Ci_of (cc := cX0_hasTeam) (maxL := 2) (by decide) rfl (Nat.le_of_ble_eq_true rfl) ?_
  intro pR eV sT mI args below meth cO AA QQ ls hXX hBB hml hown hts hnm hN hK hP hD hS hAA hl hret
  have hl : lv_has ls 2 [(0, .ref b), (1, .int x)] := hl
  have kw_1 := hts (.fieldLink RX0 37 "CupDraw$Bowl" "teams" "I") (List.mem_of_getElem? (i := 1) rfl)
  have iw_X0 : ∀ w ∈ wsX00, w ∈ wsX0_hasTeam := by decide +kernel
  refine lv_iload_n hXX hBB dX0_hasTeam_0 rfl (lv_at hl 1 rfl) ?_
  refine lv_if_lt (tgt := 16) hXX hBB dX0_hasTeam_1 (by decide) (fun c_1 => ?_) (fun c_1 => ?_)
  · have c_1 := c_1
    refine lv_iconst (v := nI 0) hXX hBB dX0_hasTeam_16 (by decide) ?_
    refine hret (r := nI 0) () ?_ (rfl) (hP.sub [0] rfl) (hD.sub [0] (by decide) rfl) hS (Nat.le_of_ble_eq_true rfl) (Nat.le_of_ble_eq_true rfl) dX0_hasTeam_17
    show nI 0 = bI (inB x (nI 0) (nI (T - 1)))
    first | exact ht_t h0 (by omega) c_1 c_9 | exact ht_f1 c_1 | exact ht_f2 h0 (by omega) c_9
  · have c_1 := c_1
    refine lv_iload_n hXX hBB dX0_hasTeam_4 rfl (lv_at hl 1 rfl) ?_
    refine lv_aload_n hXX hBB dX0_hasTeam_5 rfl (lv_at hl 0 rfl) ?_
    refine va_get (D := D) (ci := 0) (v := .int (nI T)) (C := RX0) (T := TX0) (N := 9) hXX hBB hts iw_X0 hown hK hP 0 rfl rfl 2 (by decide) kw_1 (fun _ h9 => h9) rfl dX0_hasTeam_6 ?_
    refine lv_icmp_ge (tgt := 16) hXX hBB dX0_hasTeam_9 (by decide) (fun c_9 => ?_) (fun c_9 => ?_)
    · have c_9 := c_9
      refine lv_iconst (v := nI 0) hXX hBB dX0_hasTeam_16 (by decide) ?_
      refine hret (r := nI 0) () ?_ (rfl) (hP.sub [0] rfl) (hD.sub [0] (by decide) rfl) hS (Nat.le_of_ble_eq_true rfl) (Nat.le_of_ble_eq_true rfl) dX0_hasTeam_17
      show nI 0 = bI (inB x (nI 0) (nI (T - 1)))
      first | exact ht_t h0 (by omega) c_1 c_9 | exact ht_f1 c_1 | exact ht_f2 h0 (by omega) c_9
    · have c_9 := c_9
      refine lv_iconst (v := nI 1) hXX hBB dX0_hasTeam_12 (by decide) ?_
      refine lv_goto (tgt := 17) hXX hBB dX0_hasTeam_13 (by decide) ?_
      refine hret (r := nI 1) () ?_ (rfl) (hP.sub [0] rfl) (hD.sub [0] (by decide) rfl) hS (Nat.le_of_ble_eq_true rfl) (Nat.le_of_ble_eq_true rfl) dX0_hasTeam_17
      show nI 1 = bI (inB x (nI 0) (nI (T - 1)))
      first | exact ht_t h0 (by omega) c_1 c_9 | exact ht_f1 c_1 | exact ht_f2 h0 (by omega) c_9
abbrev rmX0_hasGroup : Room := { frames := 0, cells := 0, slots := 0, locals := 0 }
set_option maxHeartbeats 4000000 in
set_option maxRecDepth 100000 in
theorem kX0_hasGroup (l : Launch) (D : va_G) (b : Nat) (g : Nat) (p : Nat) (T : Nat) (bR : Nat) (bB : Nat) (bA : Nat) (bO : Nat) (bP : Nat) (bM : Nat) (x : Int32) (h0 : 0 < g) (h9 : g ≤ 9) : Ci l yX0_hasGroup wsX0_hasGroup rmX0_hasGroup D [] [.ref b, .int x] [(b, .inr (0, [.int (nI g), .int (nI p), .int (nI T), .ref bR, .ref bB, .ref bA, .ref bO, .ref bP, .ref bM]))] (fun (r : Int32) (_ : Unit) => r = bI (inB x (nI 0) (nI (g - 1)))) (fun (_ : Unit) => [(b, .inr (0, [.int (nI g), .int (nI p), .int (nI T), .ref bR, .ref bB, .ref bA, .ref bO, .ref bP, .ref bM]))]) := by
  refine Ci_of (cc := cX0_hasGroup) (maxL := 2) (by decide) rfl (Nat.le_of_ble_eq_true rfl) ?_
  intro pR eV sT mI args below meth cO AA QQ ls hXX hBB hml hown hts hnm hN hK hP hD hS hAA hl hret
  have hl : lv_has ls 2 [(0, .ref b), (1, .int x)] := hl
  have kw_1 := hts (.fieldLink RX0 30 "CupDraw$Bowl" "groups" "I") (List.mem_of_getElem? (i := 1) rfl)
  have iw_X0 : ∀ w ∈ wsX00, w ∈ wsX0_hasGroup := by decide +kernel
  refine lv_iload_n hXX hBB dX0_hasGroup_0 rfl (lv_at hl 1 rfl) ?_
  refine lv_if_lt (tgt := 16) hXX hBB dX0_hasGroup_1 (by decide) (fun c_1 => ?_) (fun c_1 => ?_)
  · have c_1 := c_1
    refine lv_iconst (v := nI 0) hXX hBB dX0_hasGroup_16 (by decide) ?_
    refine hret (r := nI 0) () ?_ (rfl) (hP.sub [0] rfl) (hD.sub [0] (by decide) rfl) hS (Nat.le_of_ble_eq_true rfl) (Nat.le_of_ble_eq_true rfl) dX0_hasGroup_17
    show nI 0 = bI (inB x (nI 0) (nI (g - 1)))
    first | exact ht_t h0 (by omega) c_1 c_9 | exact ht_f1 c_1 | exact ht_f2 h0 (by omega) c_9
  · have c_1 := c_1
    refine lv_iload_n hXX hBB dX0_hasGroup_4 rfl (lv_at hl 1 rfl) ?_
    refine lv_aload_n hXX hBB dX0_hasGroup_5 rfl (lv_at hl 0 rfl) ?_
    refine va_get (D := D) (ci := 0) (v := .int (nI g)) (C := RX0) (T := TX0) (N := 9) hXX hBB hts iw_X0 hown hK hP 0 rfl rfl 0 (by decide) kw_1 (fun _ h9 => h9) rfl dX0_hasGroup_6 ?_
    refine lv_icmp_ge (tgt := 16) hXX hBB dX0_hasGroup_9 (by decide) (fun c_9 => ?_) (fun c_9 => ?_)
    · have c_9 := c_9
      refine lv_iconst (v := nI 0) hXX hBB dX0_hasGroup_16 (by decide) ?_
      refine hret (r := nI 0) () ?_ (rfl) (hP.sub [0] rfl) (hD.sub [0] (by decide) rfl) hS (Nat.le_of_ble_eq_true rfl) (Nat.le_of_ble_eq_true rfl) dX0_hasGroup_17
      show nI 0 = bI (inB x (nI 0) (nI (g - 1)))
      first | exact ht_t h0 (by omega) c_1 c_9 | exact ht_f1 c_1 | exact ht_f2 h0 (by omega) c_9
    · have c_9 := c_9
      refine lv_iconst (v := nI 1) hXX hBB dX0_hasGroup_12 (by decide) ?_
      refine lv_goto (tgt := 17) hXX hBB dX0_hasGroup_13 (by decide) ?_
      refine hret (r := nI 1) () ?_ (rfl) (hP.sub [0] rfl) (hD.sub [0] (by decide) rfl) hS (Nat.le_of_ble_eq_true rfl) (Nat.le_of_ble_eq_true rfl) dX0_hasGroup_17
      show nI 1 = bI (inB x (nI 0) (nI (g - 1)))
      first | exact ht_t h0 (by omega) c_1 c_9 | exact ht_f1 c_1 | exact ht_f2 h0 (by omega) c_9
abbrev rmX0_hasPot : Room := { frames := 0, cells := 0, slots := 0, locals := 0 }
set_option maxHeartbeats 4000000 in
set_option maxRecDepth 100000 in
theorem kX0_hasPot (l : Launch) (D : va_G) (b : Nat) (g : Nat) (p : Nat) (T : Nat) (bR : Nat) (bB : Nat) (bA : Nat) (bO : Nat) (bP : Nat) (bM : Nat) (x : Int32) (h0 : 0 < p) (h9 : p ≤ 9) : Ci l yX0_hasPot wsX0_hasPot rmX0_hasPot D [] [.ref b, .int x] [(b, .inr (0, [.int (nI g), .int (nI p), .int (nI T), .ref bR, .ref bB, .ref bA, .ref bO, .ref bP, .ref bM]))] (fun (r : Int32) (_ : Unit) => r = bI (inB x (nI 0) (nI (p - 1)))) (fun (_ : Unit) => [(b, .inr (0, [.int (nI g), .int (nI p), .int (nI T), .ref bR, .ref bB, .ref bA, .ref bO, .ref bP, .ref bM]))]) := by
  refine Ci_of (cc := cX0_hasPot) (maxL := 2) (by decide) rfl (Nat.le_of_ble_eq_true rfl) ?_
  intro pR eV sT mI args below meth cO AA QQ ls hXX hBB hml hown hts hnm hN hK hP hD hS hAA hl hret
  have hl : lv_has ls 2 [(0, .ref b), (1, .int x)] := hl
  have kw_1 := hts (.fieldLink RX0 34 "CupDraw$Bowl" "pots" "I") (List.mem_of_getElem? (i := 1) rfl)
  have iw_X0 : ∀ w ∈ wsX00, w ∈ wsX0_hasPot := by decide +kernel
  refine lv_iload_n hXX hBB dX0_hasPot_0 rfl (lv_at hl 1 rfl) ?_
  refine lv_if_lt (tgt := 16) hXX hBB dX0_hasPot_1 (by decide) (fun c_1 => ?_) (fun c_1 => ?_)
  · have c_1 := c_1
    refine lv_iconst (v := nI 0) hXX hBB dX0_hasPot_16 (by decide) ?_
    refine hret (r := nI 0) () ?_ (rfl) (hP.sub [0] rfl) (hD.sub [0] (by decide) rfl) hS (Nat.le_of_ble_eq_true rfl) (Nat.le_of_ble_eq_true rfl) dX0_hasPot_17
    show nI 0 = bI (inB x (nI 0) (nI (p - 1)))
    first | exact ht_t h0 (by omega) c_1 c_9 | exact ht_f1 c_1 | exact ht_f2 h0 (by omega) c_9
  · have c_1 := c_1
    refine lv_iload_n hXX hBB dX0_hasPot_4 rfl (lv_at hl 1 rfl) ?_
    refine lv_aload_n hXX hBB dX0_hasPot_5 rfl (lv_at hl 0 rfl) ?_
    refine va_get (D := D) (ci := 0) (v := .int (nI p)) (C := RX0) (T := TX0) (N := 9) hXX hBB hts iw_X0 hown hK hP 0 rfl rfl 1 (by decide) kw_1 (fun _ h9 => h9) rfl dX0_hasPot_6 ?_
    refine lv_icmp_ge (tgt := 16) hXX hBB dX0_hasPot_9 (by decide) (fun c_9 => ?_) (fun c_9 => ?_)
    · have c_9 := c_9
      refine lv_iconst (v := nI 0) hXX hBB dX0_hasPot_16 (by decide) ?_
      refine hret (r := nI 0) () ?_ (rfl) (hP.sub [0] rfl) (hD.sub [0] (by decide) rfl) hS (Nat.le_of_ble_eq_true rfl) (Nat.le_of_ble_eq_true rfl) dX0_hasPot_17
      show nI 0 = bI (inB x (nI 0) (nI (p - 1)))
      first | exact ht_t h0 (by omega) c_1 c_9 | exact ht_f1 c_1 | exact ht_f2 h0 (by omega) c_9
    · have c_9 := c_9
      refine lv_iconst (v := nI 1) hXX hBB dX0_hasPot_12 (by decide) ?_
      refine lv_goto (tgt := 17) hXX hBB dX0_hasPot_13 (by decide) ?_
      refine hret (r := nI 1) () ?_ (rfl) (hP.sub [0] rfl) (hD.sub [0] (by decide) rfl) hS (Nat.le_of_ble_eq_true rfl) (Nat.le_of_ble_eq_true rfl) dX0_hasPot_17
      show nI 1 = bI (inB x (nI 0) (nI (p - 1)))
      first | exact ht_t h0 (by omega) c_1 c_9 | exact ht_f1 c_1 | exact ht_f2 h0 (by omega) c_9
abbrev rmX0_hasRegion : Room := { frames := 0, cells := 0, slots := 0, locals := 0 }
set_option maxHeartbeats 4000000 in
set_option maxRecDepth 100000 in
theorem kX0_hasRegion (l : Launch) (D : va_G) (b : Nat) (g : Nat) (p : Nat) (T : Nat) (bR : Nat) (bB : Nat) (bA : Nat) (bO : Nat) (bP : Nat) (bM : Nat) (x : Int32) : Ci l yX0_hasRegion wsX0_hasRegion rmX0_hasRegion D [] [.ref b, .int x] [(b, .inr (0, [.int (nI g), .int (nI p), .int (nI T), .ref bR, .ref bB, .ref bA, .ref bO, .ref bP, .ref bM]))] (fun (r : Int32) (_ : Unit) => r = bI (inB x (nI 0) (nI 5))) (fun (_ : Unit) => [(b, .inr (0, [.int (nI g), .int (nI p), .int (nI T), .ref bR, .ref bB, .ref bA, .ref bO, .ref bP, .ref bM]))]) := by
  refine Ci_of (cc := cX0_hasRegion) (maxL := 2) (by decide) rfl (Nat.le_of_ble_eq_true rfl) ?_
  intro pR eV sT mI args below meth cO AA QQ ls hXX hBB hml hown hts hnm hN hK hP hD hS hAA hl hret
  have hl : lv_has ls 2 [(0, .ref b), (1, .int x)] := hl
  refine lv_iload_n hXX hBB dX0_hasRegion_0 rfl (lv_at hl 1 rfl) ?_
  refine lv_if_lt (tgt := 14) hXX hBB dX0_hasRegion_1 (by decide) (fun c_1 => ?_) (fun c_1 => ?_)
  · have c_1 := c_1
    refine lv_iconst (v := nI 0) hXX hBB dX0_hasRegion_14 (by decide) ?_
    refine hret (r := nI 0) () ?_ (rfl) (hP.sub [0] rfl) (hD.sub [0] (by decide) rfl) hS (Nat.le_of_ble_eq_true rfl) (Nat.le_of_ble_eq_true rfl) dX0_hasRegion_15
    show nI 0 = bI (inB x (nI 0) (nI 5))
    first | exact ht_t (T := 6) (by decide) (by decide) c_1 c_7 | exact ht_f1 (T := 6) c_1 | exact ht_f2 (T := 6) (by decide) (by decide) c_7
  · have c_1 := c_1
    refine lv_iload_n hXX hBB dX0_hasRegion_4 rfl (lv_at hl 1 rfl) ?_
    refine lv_bipush (v := nI 6) hXX hBB dX0_hasRegion_5 (by decide) ?_
    refine lv_icmp_ge (tgt := 14) hXX hBB dX0_hasRegion_7 (by decide) (fun c_7 => ?_) (fun c_7 => ?_)
    · have c_7 := c_7
      refine lv_iconst (v := nI 0) hXX hBB dX0_hasRegion_14 (by decide) ?_
      refine hret (r := nI 0) () ?_ (rfl) (hP.sub [0] rfl) (hD.sub [0] (by decide) rfl) hS (Nat.le_of_ble_eq_true rfl) (Nat.le_of_ble_eq_true rfl) dX0_hasRegion_15
      show nI 0 = bI (inB x (nI 0) (nI 5))
      first | exact ht_t (T := 6) (by decide) (by decide) c_1 c_7 | exact ht_f1 (T := 6) c_1 | exact ht_f2 (T := 6) (by decide) (by decide) c_7
    · have c_7 := c_7
      refine lv_iconst (v := nI 1) hXX hBB dX0_hasRegion_10 (by decide) ?_
      refine lv_goto (tgt := 15) hXX hBB dX0_hasRegion_11 (by decide) ?_
      refine hret (r := nI 1) () ?_ (rfl) (hP.sub [0] rfl) (hD.sub [0] (by decide) rfl) hS (Nat.le_of_ble_eq_true rfl) (Nat.le_of_ble_eq_true rfl) dX0_hasRegion_15
      show nI 1 = bI (inB x (nI 0) (nI 5))
      first | exact ht_t (T := 6) (by decide) (by decide) c_1 c_7 | exact ht_f1 (T := 6) c_1 | exact ht_f2 (T := 6) (by decide) (by decide) c_7
abbrev rmX0_setPair : Room := { frames := 0, cells := 0, slots := 0, locals := 0 }
set_option maxHeartbeats 4000000 in
set_option maxRecDepth 100000 in
theorem kX0_setPair (l : Launch) (D : va_G) (cI : ClassId) (ad : Nat) (ap : Nat → Nat) (t : Nat) (o : Nat) (bv : Bool) (hap : ∀ z, ap z < 512) (ht : t < 9) (ho : o < 9) (hto : t ≠ o) : Ci l yX0_setPair wsX0_setPair rmX0_setPair D [(cI, .int)] [.ref ad, .int (nI t), .int (nI o), .int (bI bv)] [(ad, .inl (cI, 9, .inl (fun j => nI (ap j))))] (fun (r : Int32) (_ : Unit) => r = bI ((ap t).testBit o)) (fun (_ : Unit) => [(ad, .inl (cI, 9, .inl (fun j => nI (spB bv ap t o j))))]) := by
  refine Ci_of (cc := cX0_setPair) (maxL := 5) (by decide) rfl (Nat.le_of_ble_eq_true rfl) ?_
  intro pR eV sT mI args below meth cO AA QQ ls hXX hBB hml hown hts hnm hN hK hP hD hS hAA hl hret
  have hl : lv_has ls 5 [(0, .ref ad), (1, .int (nI t)), (2, .int (nI o)), (3, .int (bI bv))] := hl
  have hapt := hap t
  have hapo := hap o
  have J_15 : ∀ (H : Heap) (locs : List Loc), va_P D vwCl [(ad, .inl (cI, 9, .inl (fun j => nI (ap j))))] H → va_D AA [(ad, .inl (cI, 9, .inl (fun j => nI (ap j))))] → va_S AA sT.heap H locs → ∀ (ls : Array Slot), lv_has ls 5 [(0, .ref ad), (1, .int (nI t)), (2, .int (nI o)), (3, .int (bI bv))] → W pR l eV rmX0_setPair sT mI args below meth cO H locs 0 0 QQ (F0 mI 15 ls [.int (bI ((ap t).testBit o))]) := by
    intro H locs hP hD hS ls hl
    refine lv_istore (lv' := [(4, .int (bI ((ap t).testBit o))), (0, .ref ad), (1, .int (nI t)), (2, .int (nI o)), (3, .int (bI bv))]) hXX hBB dX0_setPair_15 hl (by decide) rfl (fun ls hl => ?_)
    refine lv_iload_n hXX hBB dX0_setPair_17 rfl (lv_at hl 4 rfl) ?_
    refine lv_if_eq (tgt := 42) hXX hBB dX0_setPair_18 (by decide) (fun c_18 => ?_) (fun c_18 => ?_)
    · have c_18 : bv = false := m_bz0 c_18
      refine lv_aload_n hXX hBB dX0_setPair_42 rfl (lv_at hl 1 rfl) ?_
      refine lv_iload_n hXX hBB dX0_setPair_43 rfl (lv_at hl 2 rfl) ?_
      refine lv_dup2_11 hXX hBB dX0_setPair_44 rfl rfl ?_
      refine m_iald hXX hBB hK hP 0 0 rfl rfl (i := t) (by omega) (by decide) (x := nI (ap t)) rfl dX0_setPair_45 ?_
      refine lv_iconst (v := nI 1) hXX hBB dX0_setPair_46 (by decide) ?_
      refine lv_iload_n hXX hBB dX0_setPair_47 rfl (lv_at hl 3 rfl) ?_
      refine lv_ishl hXX hBB dX0_setPair_48 ?_
      refine m_top (y := nI (2 ^ o)) (by exact m_bit (by omega)) ?_
      refine lv_iconst (v := (-1)) hXX hBB dX0_setPair_49 (by decide) ?_
      refine lv_ixor hXX hBB dX0_setPair_50 ?_
      refine lv_iand hXX hBB dX0_setPair_51 ?_
      refine m_top (y := nI (clrB (ap t) o)) (by exact m_clr _ hapt _ ho) ?_
      refine m_iast hXX hBB hK hP hD hS 0 0 rfl rfl (i := t) (by omega) (by decide) (g := fun j => nI (updN ap t (clrB (ap t) o) j)) (m_upd _ _ _) dX0_setPair_52 (fun H locs hP hD hS => ?_)
      have hP : va_P D vwCl [(ad, .inl (cI, 9, .inl (fun j => nI (updN ap t (clrB (ap t) o) j))))] H := hP
      have hD : va_D AA [(ad, .inl (cI, 9, .inl (fun j => nI (updN ap t (clrB (ap t) o) j))))] := hD
      refine lv_aload_n hXX hBB dX0_setPair_53 rfl (lv_at hl 1 rfl) ?_
      refine lv_iload_n hXX hBB dX0_setPair_54 rfl (lv_at hl 3 rfl) ?_
      refine lv_dup2_11 hXX hBB dX0_setPair_55 rfl rfl ?_
      refine m_iald hXX hBB hK hP 0 0 rfl rfl (i := o) (by omega) (by decide) (x := nI (updN ap t (clrB (ap t) o) o)) rfl dX0_setPair_56 ?_
      refine lv_iconst (v := nI 1) hXX hBB dX0_setPair_57 (by decide) ?_
      refine lv_iload_n hXX hBB dX0_setPair_58 rfl (lv_at hl 2 rfl) ?_
      refine lv_ishl hXX hBB dX0_setPair_59 ?_
      refine m_top (y := nI (2 ^ t)) (by exact m_bit (by omega)) ?_
      refine lv_iconst (v := (-1)) hXX hBB dX0_setPair_60 (by decide) ?_
      refine lv_ixor hXX hBB dX0_setPair_61 ?_
      refine lv_iand hXX hBB dX0_setPair_62 ?_
      refine m_top (y := nI (clrB (updN ap t (clrB (ap t) o) o) t)) (by exact m_clr (updN ap t (clrB (ap t) o) o) (by rw [updN_n (show o ≠ t from fun q => hto q.symm)]; exact hapo) t ht) ?_
      refine m_iast hXX hBB hK hP hD hS 0 0 rfl rfl (i := o) (by omega) (by decide) (g := fun j => nI (updN (updN ap t (clrB (ap t) o)) o (clrB (updN ap t (clrB (ap t) o) o) t) j)) (m_upd _ _ _) dX0_setPair_63 (fun H locs hP hD hS => ?_)
      have hP : va_P D vwCl [(ad, .inl (cI, 9, .inl (fun j => nI (updN (updN ap t (clrB (ap t) o)) o (clrB (updN ap t (clrB (ap t) o) o) t) j))))] H := hP
      have hD : va_D AA [(ad, .inl (cI, 9, .inl (fun j => nI (updN (updN ap t (clrB (ap t) o)) o (clrB (updN ap t (clrB (ap t) o) o) t) j))))] := hD
      have hsp : (fun j => nI (updN (updN ap t (clrB (ap t) o)) o (clrB (updN ap t (clrB (ap t) o) o) t) j)) = (fun j => nI (spB bv ap t o j)) := by
        rw [c_18]
        funext j
        simp only [spB, Bool.false_eq_true, if_true, if_false]
        rw [updN_n (show o ≠ t from fun q => hto q.symm)]
      rw [hsp] at hP hD
      have hP : va_P D vwCl [(ad, .inl (cI, 9, .inl (fun j => nI (spB bv ap t o j))))] H := hP
      have hD : va_D AA [(ad, .inl (cI, 9, .inl (fun j => nI (spB bv ap t o j))))] := hD
      refine lv_iload hXX hBB dX0_setPair_64 (lv_at hl 0 rfl) ?_
      refine hret (r := bI ((ap t).testBit o)) () ?_ (m_narb _) (hP.sub [0] rfl) (hD.sub [0] (by decide) rfl) hS (Nat.le_of_ble_eq_true rfl) (Nat.le_of_ble_eq_true rfl) dX0_setPair_66
      show bI ((ap t).testBit o) = bI ((ap t).testBit o)
      rfl
    · have c_18 : bv = true := m_bz1 c_18
      refine lv_aload_n hXX hBB dX0_setPair_21 rfl (lv_at hl 1 rfl) ?_
      refine lv_iload_n hXX hBB dX0_setPair_22 rfl (lv_at hl 2 rfl) ?_
      refine lv_dup2_11 hXX hBB dX0_setPair_23 rfl rfl ?_
      refine m_iald hXX hBB hK hP 0 0 rfl rfl (i := t) (by omega) (by decide) (x := nI (ap t)) rfl dX0_setPair_24 ?_
      refine lv_iconst (v := nI 1) hXX hBB dX0_setPair_25 (by decide) ?_
      refine lv_iload_n hXX hBB dX0_setPair_26 rfl (lv_at hl 3 rfl) ?_
      refine lv_ishl hXX hBB dX0_setPair_27 ?_
      refine m_top (y := nI (2 ^ o)) (by exact m_bit (by omega)) ?_
      refine lv_ior hXX hBB dX0_setPair_28 ?_
      refine m_top (y := nI (ap t ||| 2 ^ o)) (by exact q_or _ _) ?_
      refine m_iast hXX hBB hK hP hD hS 0 0 rfl rfl (i := t) (by omega) (by decide) (g := fun j => nI (updN ap t (ap t ||| 2 ^ o) j)) (m_upd _ _ _) dX0_setPair_29 (fun H locs hP hD hS => ?_)
      have hP : va_P D vwCl [(ad, .inl (cI, 9, .inl (fun j => nI (updN ap t (ap t ||| 2 ^ o) j))))] H := hP
      have hD : va_D AA [(ad, .inl (cI, 9, .inl (fun j => nI (updN ap t (ap t ||| 2 ^ o) j))))] := hD
      refine lv_aload_n hXX hBB dX0_setPair_30 rfl (lv_at hl 1 rfl) ?_
      refine lv_iload_n hXX hBB dX0_setPair_31 rfl (lv_at hl 3 rfl) ?_
      refine lv_dup2_11 hXX hBB dX0_setPair_32 rfl rfl ?_
      refine m_iald hXX hBB hK hP 0 0 rfl rfl (i := o) (by omega) (by decide) (x := nI (updN ap t (ap t ||| 2 ^ o) o)) rfl dX0_setPair_33 ?_
      refine lv_iconst (v := nI 1) hXX hBB dX0_setPair_34 (by decide) ?_
      refine lv_iload_n hXX hBB dX0_setPair_35 rfl (lv_at hl 2 rfl) ?_
      refine lv_ishl hXX hBB dX0_setPair_36 ?_
      refine m_top (y := nI (2 ^ t)) (by exact m_bit (by omega)) ?_
      refine lv_ior hXX hBB dX0_setPair_37 ?_
      refine m_top (y := nI (updN ap t (ap t ||| 2 ^ o) o ||| 2 ^ t)) (by exact q_or _ _) ?_
      refine m_iast hXX hBB hK hP hD hS 0 0 rfl rfl (i := o) (by omega) (by decide) (g := fun j => nI (updN (updN ap t (ap t ||| 2 ^ o)) o (updN ap t (ap t ||| 2 ^ o) o ||| 2 ^ t) j)) (m_upd _ _ _) dX0_setPair_38 (fun H locs hP hD hS => ?_)
      have hP : va_P D vwCl [(ad, .inl (cI, 9, .inl (fun j => nI (updN (updN ap t (ap t ||| 2 ^ o)) o (updN ap t (ap t ||| 2 ^ o) o ||| 2 ^ t) j))))] H := hP
      have hD : va_D AA [(ad, .inl (cI, 9, .inl (fun j => nI (updN (updN ap t (ap t ||| 2 ^ o)) o (updN ap t (ap t ||| 2 ^ o) o ||| 2 ^ t) j))))] := hD
      refine lv_goto (tgt := 64) hXX hBB dX0_setPair_39 (by decide) ?_
      have hsp : (fun j => nI (updN (updN ap t (ap t ||| 2 ^ o)) o (updN ap t (ap t ||| 2 ^ o) o ||| 2 ^ t) j)) = (fun j => nI (spB bv ap t o j)) := by
        rw [c_18]
        funext j
        simp only [spB, Bool.false_eq_true, if_true, if_false]
        rw [updN_n (show o ≠ t from fun q => hto q.symm)]
      rw [hsp] at hP hD
      have hP : va_P D vwCl [(ad, .inl (cI, 9, .inl (fun j => nI (spB bv ap t o j))))] H := hP
      have hD : va_D AA [(ad, .inl (cI, 9, .inl (fun j => nI (spB bv ap t o j))))] := hD
      refine lv_iload hXX hBB dX0_setPair_64 (lv_at hl 0 rfl) ?_
      refine hret (r := bI ((ap t).testBit o)) () ?_ (m_narb _) (hP.sub [0] rfl) (hD.sub [0] (by decide) rfl) hS (Nat.le_of_ble_eq_true rfl) (Nat.le_of_ble_eq_true rfl) dX0_setPair_66
      show bI ((ap t).testBit o) = bI ((ap t).testBit o)
      rfl
  refine lv_aload_n hXX hBB dX0_setPair_0 rfl (lv_at hl 0 rfl) ?_
  refine lv_iload_n hXX hBB dX0_setPair_1 rfl (lv_at hl 1 rfl) ?_
  refine m_iald hXX hBB hK hP 0 0 rfl rfl (i := t) (by omega) (by decide) (x := nI (ap t)) rfl dX0_setPair_2 ?_
  refine lv_iload_n hXX hBB dX0_setPair_3 rfl (lv_at hl 2 rfl) ?_
  refine lv_ishr hXX hBB dX0_setPair_4 ?_
  refine m_top (y := nI (ap t / 2 ^ o)) (by exact m_shrN (by omega) (by omega)) ?_
  refine lv_iconst (v := nI 1) hXX hBB dX0_setPair_5 (by decide) ?_
  refine lv_iand hXX hBB dX0_setPair_6 ?_
  refine m_top (y := nI (((ap t).testBit o).toNat)) (by exact m_tb _ _) ?_
  refine lv_if_eq (tgt := 14) hXX hBB dX0_setPair_7 (by decide) (fun c_7 => ?_) (fun c_7 => ?_)
  · have c_7 : (((ap t).testBit o).toNat) = 0 := (m_z (by cases (ap t).testBit o <;> decide)).mp c_7
    refine lv_iconst (v := nI 0) hXX hBB dX0_setPair_14 (by decide) ?_
    refine m_top (y := bI ((ap t).testBit o)) (by first | (rw [show (ap t).testBit o = false by simpa using c_7]; rfl) | (rw [show (ap t).testBit o = true by simpa using c_7]; rfl)) ?_
    exact J_15 _ _ (hP.sub [0] rfl) (hD.sub [0] (by decide) rfl) hS ls (lv_sub hl [0, 1, 2, 3] rfl)
  · have c_7 : ¬ (((ap t).testBit o).toNat) = 0 := fun h9 => c_7 ((m_z (by cases (ap t).testBit o <;> decide)).mpr h9)
    refine lv_iconst (v := nI 1) hXX hBB dX0_setPair_10 (by decide) ?_
    refine lv_goto (tgt := 15) hXX hBB dX0_setPair_11 (by decide) ?_
    refine m_top (y := bI ((ap t).testBit o)) (by first | (rw [show (ap t).testBit o = false by simpa using c_7]; rfl) | (rw [show (ap t).testBit o = true by simpa using c_7]; rfl)) ?_
    exact J_15 _ _ (hP.sub [0] rfl) (hD.sub [0] (by decide) rfl) hS ls (lv_sub hl [0, 1, 2, 3] rfl)
abbrev rmX0_playersOnDay : Room := { frames := 0, cells := 0, slots := 0, locals := 0 }
set_option maxHeartbeats 4000000 in
set_option maxRecDepth 100000 in
theorem kX0_playersOnDay (l : Launch) (D : va_G) (cI : ClassId) (b : Nat) (g : Nat) (p : Nat) (T : Nat) (bR : Nat) (bB : Nat) (bA : Nat) (bO : Nat) (bP : Nat) (bM : Nat) (mb : Nat → Nat) (gp : Nat) (hg4 : g ≤ 4) (hgp : gp < g) (hmb : ∀ z, z < g → mb z < 512) : Ci l yX0_playersOnDay wsX0_playersOnDay rmX0_playersOnDay D [(cI, .int)] [.ref b, .int (nI gp)] [(b, .inr (0, [.int (nI g), .int (nI p), .int (nI T), .ref bR, .ref bB, .ref bA, .ref bO, .ref bP, .ref bM])), (bM, .inl (cI, 4, .inl (fun j => nI (mb j))))] (fun (r : Int32) (u : Nat) => (r = nI u) ∧ (u < 512) ∧ (∀ z, u.testBit z = anyB (dayB mb gp z) g)) (fun (u : Nat) => [(b, .inr (0, [.int (nI g), .int (nI p), .int (nI T), .ref bR, .ref bB, .ref bA, .ref bO, .ref bP, .ref bM])), (bM, .inl (cI, 4, .inl (fun j => nI (mb j))))]) := by
  refine Ci_of (cc := cX0_playersOnDay) (maxL := 4) (by decide) rfl (Nat.le_of_ble_eq_true rfl) ?_
  intro pR eV sT mI args below meth cO AA QQ ls hXX hBB hml hown hts hnm hN hK hP hD hS hAA hl hret
  have hl : lv_has ls 4 [(0, .ref b), (1, .int (nI gp))] := hl
  have hg2 := Nat.mod_lt gp (show 2 > 0 by decide)
  have kw_1 := hts (.fieldLink RX0 30 "CupDraw$Bowl" "groups" "I") (List.mem_of_getElem? (i := 1) rfl)
  have iw_X0 : ∀ w ∈ wsX00, w ∈ wsX0_playersOnDay := by decide +kernel
  have kw_2 := hts (.fieldLink RX0 27 "CupDraw$Bowl" "members" "[I") (List.mem_of_getElem? (i := 2) rfl)
  refine lv_iconst (v := nI 0) hXX hBB dX0_playersOnDay_0 (by decide) ?_
  refine lv_istore_n (lv' := [(2, .int (nI 0)), (0, .ref b), (1, .int (nI gp))]) hXX hBB dX0_playersOnDay_1 rfl hl (by decide) rfl (fun ls hl => ?_)
  refine lv_iload_n hXX hBB dX0_playersOnDay_2 rfl (lv_at hl 2 rfl) ?_
  refine lv_iconst (v := nI 1) hXX hBB dX0_playersOnDay_3 (by decide) ?_
  refine lv_iand hXX hBB dX0_playersOnDay_4 ?_
  refine m_top (y := nI (gp % 2)) (by rw [q_and]; exact congrArg nI (Nat.and_two_pow_sub_one_eq_mod gp 1)) ?_
  refine lv_istore_n (lv' := [(3, .int (nI (gp % 2))), (2, .int (nI 0)), (0, .ref b), (1, .int (nI gp))]) hXX hBB dX0_playersOnDay_5 rfl hl (by decide) rfl (fun ls hl => ?_)
  have L_6 : ∀ (N_6 : Nat) (s9 : Nat) (ac : Nat), (s9 ≤ g + 1 ∧ s9 % 2 = gp % 2) → (ac < 512) → (∀ z, (ac).testBit z = anyB (dayB mb gp z) s9) → g + 2 - s9 < N_6 → ∀ (H : Heap) (locs : List Loc), va_P D vwCl [(b, .inr (0, [.int (nI g), .int (nI p), .int (nI T), .ref bR, .ref bB, .ref bA, .ref bO, .ref bP, .ref bM])), (bM, .inl (cI, 4, .inl (fun j => nI (mb j))))] H → va_D AA [(b, .inr (0, [.int (nI g), .int (nI p), .int (nI T), .ref bR, .ref bB, .ref bA, .ref bO, .ref bP, .ref bM])), (bM, .inl (cI, 4, .inl (fun j => nI (mb j))))] → va_S AA sT.heap H locs → ∀ (ls : Array Slot), lv_has ls 4 [(3, .int (nI s9)), (2, .int (nI ac)), (0, .ref b), (1, .int (nI gp))] → W pR l eV rmX0_playersOnDay sT mI args below meth cO H locs 0 0 QQ (F0 mI 6 ls []) := by
    intro N_6
    induction N_6 with
    | zero =>
      intro s9 ac hs ha htb hMM
      exact absurd hMM (Nat.not_lt_zero _)
    | succ N_6 ih_6 =>
      intro s9 ac hs ha htb hMM H locs hP hD hS ls hl
      refine lv_iload_n hXX hBB dX0_playersOnDay_6 rfl (lv_at hl 0 rfl) ?_
      refine lv_aload_n hXX hBB dX0_playersOnDay_7 rfl (lv_at hl 2 rfl) ?_
      refine va_get (D := D) (ci := 0) (v := .int (nI g)) (C := RX0) (T := TX0) (N := 9) hXX hBB hts iw_X0 hown hK hP 0 rfl rfl 0 (by decide) kw_1 (fun _ h9 => h9) rfl dX0_playersOnDay_8 ?_
      refine lv_icmp_ge (tgt := 29) hXX hBB dX0_playersOnDay_11 (by decide) (fun c_11 => ?_) (fun c_11 => ?_)
      · have c_11 : g ≤ s9 := (nI_leI (by omega) (by omega)).mp c_11
        refine lv_iload_n hXX hBB dX0_playersOnDay_29 rfl (lv_at hl 1 rfl) ?_
        refine hret (r := nI ac) ac ?_ (rfl) (hP.sub [0, 1] rfl) (hD.sub [0, 1] (by decide) rfl) hS (Nat.le_of_ble_eq_true rfl) (Nat.le_of_ble_eq_true rfl) dX0_playersOnDay_30
        show ((nI ac) = nI ac) ∧ (ac < 512) ∧ (∀ z, ac.testBit z = anyB (dayB mb gp z) g)
        exact ⟨rfl, ha, fun z => by rw [htb z, day_end hs.2 c_11 hs.1]⟩
      · have c_11 : ¬ g ≤ s9 := fun h9 => c_11 ((nI_leI (by omega) (by omega)).mpr h9)
        refine lv_iload_n hXX hBB dX0_playersOnDay_14 rfl (lv_at hl 1 rfl) ?_
        refine lv_aload_n hXX hBB dX0_playersOnDay_15 rfl (lv_at hl 2 rfl) ?_
        refine va_get (D := D) (ci := 0) (v := .ref bM) (C := RX0) (T := TX0) (N := 9) hXX hBB hts iw_X0 hown hK hP 0 rfl rfl 8 (by decide) kw_2 (fun _ h9 => h9) rfl dX0_playersOnDay_16 ?_
        refine lv_iload_n hXX hBB dX0_playersOnDay_19 rfl (lv_at hl 0 rfl) ?_
        refine m_iald hXX hBB hK hP 1 0 rfl rfl (i := s9) (by omega) (by decide) (x := nI (mb s9)) rfl dX0_playersOnDay_20 ?_
        refine lv_ior hXX hBB dX0_playersOnDay_21 ?_
        refine m_top (y := nI (ac ||| mb s9)) (by exact q_or _ _) ?_
        refine lv_istore_n (lv' := [(2, .int (nI (ac ||| mb s9))), (3, .int (nI s9)), (0, .ref b), (1, .int (nI gp))]) hXX hBB dX0_playersOnDay_22 rfl hl (by decide) rfl (fun ls hl => ?_)
        refine lv_iinc (v := nI (s9 + 2)) (lv' := [(3, .int (nI (s9 + 2))), (2, .int (nI (ac ||| mb s9))), (0, .ref b), (1, .int (nI gp))]) hXX hBB dX0_playersOnDay_23 hl (k := 1) rfl (nI_add _ _) (by decide) rfl (fun ls hl => ?_)
        refine lv_goto (tgt := 6) hXX hBB dX0_playersOnDay_26 (by decide) ?_
        have hi_s : (s9 + 2) ≤ g + 1 ∧ (s9 + 2) % 2 = gp % 2 := by omega
        have hi_a : (ac ||| mb s9) < 512 := by exact or512 ha (hmb s9 (by omega))
        have hi_tb : ∀ z, ((ac ||| mb s9)).testBit z = anyB (dayB mb gp z) (s9 + 2) := by intro z; rw [Nat.testBit_or, htb z, day_step hs.2]
        have hmm : g + 2 - (s9 + 2) < N_6 := by omega
        exact ih_6 (s9 + 2) (ac ||| mb s9) hi_s hi_a hi_tb hmm _ _ (hP.sub [0, 1] rfl) (hD.sub [0, 1] (by decide) rfl) hS ls (lv_sub hl [0, 1, 2, 3] rfl)
  have hi_s : (gp % 2) ≤ g + 1 ∧ (gp % 2) % 2 = gp % 2 := by omega
  have hi_a : 0 < 512 := by decide
  have hi_tb : ∀ z, (0).testBit z = anyB (dayB mb gp z) (gp % 2) := by intro z; rw [day_start]; simp
  exact L_6 _ (gp % 2) 0 hi_s hi_a hi_tb (Nat.lt_succ_self _) _ _ hP hD hS ls (lv_sub hl [0, 1, 2, 3] rfl)
abbrev rmX0_countOfRegion : Room := { frames := 0, cells := 0, slots := 0, locals := 0 }
set_option maxHeartbeats 4000000 in
set_option maxRecDepth 100000 in
theorem kX0_countOfRegion (l : Launch) (D : va_G) (cI : ClassId) (b : Nat) (g : Nat) (p : Nat) (T : Nat) (bR : Nat) (bB : Nat) (bA : Nat) (bO : Nat) (bP : Nat) (bM : Nat) (mb : Nat → Nat) (rg : Nat → Nat) (gp : Nat) (rn : Nat) (hT : T ≤ 9) (hgp : gp < 4) (hmb : mb gp < 512) (hrg : ∀ z, z < 9 → rg z < 6) (hrn : rn < 6) : Ci l yX0_countOfRegion wsX0_countOfRegion rmX0_countOfRegion D [(cI, .int)] [.ref b, .int (nI gp), .int (nI rn)] [(b, .inr (0, [.int (nI g), .int (nI p), .int (nI T), .ref bR, .ref bB, .ref bA, .ref bO, .ref bP, .ref bM])), (bM, .inl (cI, 4, .inl (fun j => nI (mb j)))), (bR, .inl (cI, 9, .inl (fun j => nI (rg j))))] (fun (r : Int32) (_ : Unit) => r = nI (ct (fun z => (mb gp).testBit z && decide (rg z = rn)) T)) (fun (_ : Unit) => [(b, .inr (0, [.int (nI g), .int (nI p), .int (nI T), .ref bR, .ref bB, .ref bA, .ref bO, .ref bP, .ref bM])), (bM, .inl (cI, 4, .inl (fun j => nI (mb j)))), (bR, .inl (cI, 9, .inl (fun j => nI (rg j))))]) := by
  refine Ci_of (cc := cX0_countOfRegion) (maxL := 5) (by decide) rfl (Nat.le_of_ble_eq_true rfl) ?_
  intro pR eV sT mI args below meth cO AA QQ ls hXX hBB hml hown hts hnm hN hK hP hD hS hAA hl hret
  have hl : lv_has ls 5 [(0, .ref b), (1, .int (nI gp)), (2, .int (nI rn))] := hl
  have kw_1 := hts (.fieldLink RX0 37 "CupDraw$Bowl" "teams" "I") (List.mem_of_getElem? (i := 1) rfl)
  have iw_X0 : ∀ w ∈ wsX00, w ∈ wsX0_countOfRegion := by decide +kernel
  have kw_2 := hts (.fieldLink RX0 27 "CupDraw$Bowl" "members" "[I") (List.mem_of_getElem? (i := 2) rfl)
  have kw_3 := hts (.fieldLink RX0 9 "CupDraw$Bowl" "regions" "[I") (List.mem_of_getElem? (i := 3) rfl)
  refine lv_iconst (v := nI 0) hXX hBB dX0_countOfRegion_0 (by decide) ?_
  refine lv_istore_n (lv' := [(3, .int (nI 0)), (0, .ref b), (1, .int (nI gp)), (2, .int (nI rn))]) hXX hBB dX0_countOfRegion_1 rfl hl (by decide) rfl (fun ls hl => ?_)
  refine lv_iconst (v := nI 0) hXX hBB dX0_countOfRegion_2 (by decide) ?_
  refine lv_istore (lv' := [(4, .int (nI 0)), (3, .int (nI 0)), (0, .ref b), (1, .int (nI gp)), (2, .int (nI rn))]) hXX hBB dX0_countOfRegion_3 hl (by decide) rfl (fun ls hl => ?_)
  have L_5 : ∀ (N_5 : Nat) (k : Nat) (x : Nat), (k ≤ T) → (x = ct (fun z => (mb gp).testBit z && decide (rg z = rn)) k) → T - k < N_5 → ∀ (H : Heap) (locs : List Loc), va_P D vwCl [(b, .inr (0, [.int (nI g), .int (nI p), .int (nI T), .ref bR, .ref bB, .ref bA, .ref bO, .ref bP, .ref bM])), (bM, .inl (cI, 4, .inl (fun j => nI (mb j)))), (bR, .inl (cI, 9, .inl (fun j => nI (rg j))))] H → va_D AA [(b, .inr (0, [.int (nI g), .int (nI p), .int (nI T), .ref bR, .ref bB, .ref bA, .ref bO, .ref bP, .ref bM])), (bM, .inl (cI, 4, .inl (fun j => nI (mb j)))), (bR, .inl (cI, 9, .inl (fun j => nI (rg j))))] → va_S AA sT.heap H locs → ∀ (ls : Array Slot), lv_has ls 5 [(4, .int (nI k)), (3, .int (nI x)), (0, .ref b), (1, .int (nI gp)), (2, .int (nI rn))] → W pR l eV rmX0_countOfRegion sT mI args below meth cO H locs 0 0 QQ (F0 mI 5 ls []) := by
    intro N_5
    induction N_5 with
    | zero =>
      intro k x hk hx hMM
      exact absurd hMM (Nat.not_lt_zero _)
    | succ N_5 ih_5 =>
      intro k x hk hx hMM H locs hP hD hS ls hl
      refine lv_iload hXX hBB dX0_countOfRegion_5 (lv_at hl 0 rfl) ?_
      refine lv_aload_n hXX hBB dX0_countOfRegion_7 rfl (lv_at hl 2 rfl) ?_
      refine va_get (D := D) (ci := 0) (v := .int (nI T)) (C := RX0) (T := TX0) (N := 9) hXX hBB hts iw_X0 hown hK hP 0 rfl rfl 2 (by decide) kw_1 (fun _ h9 => h9) rfl dX0_countOfRegion_8 ?_
      refine lv_icmp_ge (tgt := 48) hXX hBB dX0_countOfRegion_11 (by decide) (fun c_11 => ?_) (fun c_11 => ?_)
      · have c_11 : T ≤ k := (nI_leI (by omega) (by omega)).mp c_11
        have hE : k = T := by omega
        refine lv_iload_n hXX hBB dX0_countOfRegion_48 rfl (lv_at hl 1 rfl) ?_
        refine hret (r := nI x) () ?_ (rfl) (hP.sub [0, 1, 2] rfl) (hD.sub [0, 1, 2] (by decide) rfl) hS (Nat.le_of_ble_eq_true rfl) (Nat.le_of_ble_eq_true rfl) dX0_countOfRegion_49
        show nI x = nI (ct (fun z => (mb gp).testBit z && decide (rg z = rn)) T)
        rw [hx, hE]
      · have c_11 : ¬ T ≤ k := fun h9 => c_11 ((nI_leI (by omega) (by omega)).mpr h9)
        have hr6 := hrg k (by omega)
        refine lv_aload_n hXX hBB dX0_countOfRegion_14 rfl (lv_at hl 2 rfl) ?_
        refine va_get (D := D) (ci := 0) (v := .ref bM) (C := RX0) (T := TX0) (N := 9) hXX hBB hts iw_X0 hown hK hP 0 rfl rfl 8 (by decide) kw_2 (fun _ h9 => h9) rfl dX0_countOfRegion_15 ?_
        refine lv_iload_n hXX hBB dX0_countOfRegion_18 rfl (lv_at hl 3 rfl) ?_
        refine m_iald hXX hBB hK hP 1 0 rfl rfl (i := gp) (by omega) (by decide) (x := nI (mb gp)) rfl dX0_countOfRegion_19 ?_
        refine lv_iload hXX hBB dX0_countOfRegion_20 (lv_at hl 0 rfl) ?_
        refine lv_ishr hXX hBB dX0_countOfRegion_22 ?_
        refine m_top (y := nI (mb gp / 2 ^ k)) (by exact m_shrN (by omega) (by omega)) ?_
        refine lv_iconst (v := nI 1) hXX hBB dX0_countOfRegion_23 (by decide) ?_
        refine lv_iand hXX hBB dX0_countOfRegion_24 ?_
        refine m_top (y := nI (((mb gp).testBit k).toNat)) (by exact m_tb _ _) ?_
        refine lv_if_eq (tgt := 42) hXX hBB dX0_countOfRegion_25 (by decide) (fun c_25 => ?_) (fun c_25 => ?_)
        · have c_25 : (((mb gp).testBit k).toNat) = 0 := (m_z (by cases (mb gp).testBit k <;> decide)).mp c_25
          have hc25 : (mb gp).testBit k = false := by simpa using c_25
          have c_36 := hc25
          refine lv_iinc (v := nI (k + 1)) (lv' := [(4, .int (nI (k + 1))), (3, .int (nI x)), (0, .ref b), (1, .int (nI gp)), (2, .int (nI rn))]) hXX hBB dX0_countOfRegion_42 hl (k := 0) rfl (nI_1 _) (by decide) rfl (fun ls hl => ?_)
          refine lv_goto (tgt := 5) hXX hBB dX0_countOfRegion_45 (by decide) ?_
          have hi_k : (k + 1) ≤ T := by omega
          have hi_x : x = ct (fun z => (mb gp).testBit z && decide (rg z = rn)) (k + 1) := by first | (rw [ct_t (by simp [hc25, c_36])]; omega) | (rw [ct_f (by simp [hc25, c_36])]; omega) | (rw [ct_f (by simp [hc25])]; omega)
          have hmm : T - (k + 1) < N_5 := by omega
          exact ih_5 (k + 1) x hi_k hi_x hmm _ _ (hP.sub [0, 1, 2] rfl) (hD.sub [0, 1, 2] (by decide) rfl) hS ls (lv_sub hl [0, 1, 2, 3, 4] rfl)
        · have c_25 : ¬ (((mb gp).testBit k).toNat) = 0 := fun h9 => c_25 ((m_z (by cases (mb gp).testBit k <;> decide)).mpr h9)
          have hc25 : (mb gp).testBit k = true := by simpa using c_25
          refine lv_aload_n hXX hBB dX0_countOfRegion_28 rfl (lv_at hl 2 rfl) ?_
          refine va_get (D := D) (ci := 0) (v := .ref bR) (C := RX0) (T := TX0) (N := 9) hXX hBB hts iw_X0 hown hK hP 0 rfl rfl 3 (by decide) kw_3 (fun _ h9 => h9) rfl dX0_countOfRegion_29 ?_
          refine lv_iload hXX hBB dX0_countOfRegion_32 (lv_at hl 0 rfl) ?_
          refine m_iald hXX hBB hK hP 2 0 rfl rfl (i := k) (by omega) (by decide) (x := nI (rg k)) rfl dX0_countOfRegion_34 ?_
          refine lv_iload_n hXX hBB dX0_countOfRegion_35 rfl (lv_at hl 4 rfl) ?_
          refine lv_icmp_ne (tgt := 42) hXX hBB dX0_countOfRegion_36 (by decide) (fun c_36 => ?_) (fun c_36 => ?_)
          · have c_36 : ¬ (rg k) = rn := fun h9 => c_36 ((nI_eq (by omega) (by omega)).mpr h9)
            refine lv_iinc (v := nI (k + 1)) (lv' := [(4, .int (nI (k + 1))), (3, .int (nI x)), (0, .ref b), (1, .int (nI gp)), (2, .int (nI rn))]) hXX hBB dX0_countOfRegion_42 hl (k := 0) rfl (nI_1 _) (by decide) rfl (fun ls hl => ?_)
            refine lv_goto (tgt := 5) hXX hBB dX0_countOfRegion_45 (by decide) ?_
            have hi_k : (k + 1) ≤ T := by omega
            have hi_x : x = ct (fun z => (mb gp).testBit z && decide (rg z = rn)) (k + 1) := by first | (rw [ct_t (by simp [hc25, c_36])]; omega) | (rw [ct_f (by simp [hc25, c_36])]; omega) | (rw [ct_f (by simp [hc25])]; omega)
            have hmm : T - (k + 1) < N_5 := by omega
            exact ih_5 (k + 1) x hi_k hi_x hmm _ _ (hP.sub [0, 1, 2] rfl) (hD.sub [0, 1, 2] (by decide) rfl) hS ls (lv_sub hl [0, 1, 2, 3, 4] rfl)
          · have c_36 : (rg k) = rn := (nI_eq (by omega) (by omega)).mp c_36
            refine lv_iinc (v := nI (x + 1)) (lv' := [(3, .int (nI (x + 1))), (4, .int (nI k)), (0, .ref b), (1, .int (nI gp)), (2, .int (nI rn))]) hXX hBB dX0_countOfRegion_39 hl (k := 1) rfl (nI_1 _) (by decide) rfl (fun ls hl => ?_)
            refine lv_iinc (v := nI (k + 1)) (lv' := [(4, .int (nI (k + 1))), (3, .int (nI (x + 1))), (0, .ref b), (1, .int (nI gp)), (2, .int (nI rn))]) hXX hBB dX0_countOfRegion_42 hl (k := 1) rfl (nI_1 _) (by decide) rfl (fun ls hl => ?_)
            refine lv_goto (tgt := 5) hXX hBB dX0_countOfRegion_45 (by decide) ?_
            have hi_k : (k + 1) ≤ T := by omega
            have hi_x : (x + 1) = ct (fun z => (mb gp).testBit z && decide (rg z = rn)) (k + 1) := by first | (rw [ct_t (by simp [hc25, c_36])]; omega) | (rw [ct_f (by simp [hc25, c_36])]; omega) | (rw [ct_f (by simp [hc25])]; omega)
            have hmm : T - (k + 1) < N_5 := by omega
            exact ih_5 (k + 1) (x + 1) hi_k hi_x hmm _ _ (hP.sub [0, 1, 2] rfl) (hD.sub [0, 1, 2] (by decide) rfl) hS ls (lv_sub hl [0, 1, 2, 3, 4] rfl)
  have hi_k : 0 ≤ T := by omega
  have hi_x : 0 = ct (fun z => (mb gp).testBit z && decide (rg z = rn)) 0 := by rfl
  exact L_5 _ 0 0 hi_k hi_x (Nat.lt_succ_self _) _ _ hP hD hS ls (lv_sub hl [0, 1, 2, 3, 4] rfl)
abbrev rmX0_admits : Room := { frames := 1, cells := 0, slots := 0, locals := 24 }
set_option maxHeartbeats 4000000 in
set_option maxRecDepth 100000 in
theorem kX0_admits (l : Launch) (D : va_G) (cI : ClassId) (b : Nat) (g : Nat) (p : Nat) (T : Nat) (bR : Nat) (bB : Nat) (bA : Nat) (bO : Nat) (bP : Nat) (bM : Nat) (rg : Nat → Nat) (bd : Nat → Nat) (ap : Nat → Nat) (od : Nat → Nat) (pm : Nat → Nat) (mb : Nat → Nat) (gp : Nat) (tm : Nat) (rs9 : Nat) (hg0 : 0 < g) (hg4 : g ≤ 4) (hT : T ≤ 9) (hrg : ∀ z, z < 9 → rg z < 6) (hbd : ∀ z, z < 6 → bd z < 4) (hap : ∀ z, ap z < 512) (hod : ∀ z, od z < 512) (hpm : ∀ z, z < T → pm z = pmN g z) (htm : tm < T) (hgp : gp < g) (hgr : ∀ z, z < tm → gr rs9 z < g) (hmb : ∀ z, z < g → mb z = mskN rs9 tm z) : Ci l yX0_admits wsX0_admits rmX0_admits D [(cI, .int)] [.ref b, .int (nI gp), .int (nI tm)] [(b, .inr (0, [.int (nI g), .int (nI p), .int (nI T), .ref bR, .ref bB, .ref bA, .ref bO, .ref bP, .ref bM])), (bR, .inl (cI, 9, .inl (fun j => nI (rg j)))), (bB, .inl (cI, 6, .inl (fun j => nI (bd j)))), (bA, .inl (cI, 9, .inl (fun j => nI (ap j)))), (bO, .inl (cI, 9, .inl (fun j => nI (od j)))), (bP, .inl (cI, 9, .inl (fun j => nI (pm j)))), (bM, .inl (cI, 4, .inl (fun j => nI (mb j))))] (fun (r : Int32) (_ : Unit) => r = bI (admR g rg bd ap od rs9 tm gp)) (fun (_ : Unit) => [(b, .inr (0, [.int (nI g), .int (nI p), .int (nI T), .ref bR, .ref bB, .ref bA, .ref bO, .ref bP, .ref bM])), (bR, .inl (cI, 9, .inl (fun j => nI (rg j)))), (bB, .inl (cI, 6, .inl (fun j => nI (bd j)))), (bA, .inl (cI, 9, .inl (fun j => nI (ap j)))), (bO, .inl (cI, 9, .inl (fun j => nI (od j)))), (bP, .inl (cI, 9, .inl (fun j => nI (pm j)))), (bM, .inl (cI, 4, .inl (fun j => nI (mb j))))]) := by
  refine Ci_of (cc := cX0_admits) (maxL := 3) (by decide) rfl (Nat.le_of_ble_eq_true rfl) ?_
  intro pR eV sT mI args below meth cO AA QQ ls hXX hBB hml hown hts hnm hN hK hP hD hS hAA hl hret
  have hl : lv_has ls 3 [(0, .ref b), (1, .int (nI gp)), (2, .int (nI tm))] := hl
  have hm5 : ∀ z, z < g → mb z < 512 := fun z hz => by rw [hmb z hz]; exact mskN_lt _ _ _ (by omega)
  have hmg := hm5 gp hgp
  have hr6 := hrg tm (by omega)
  have hb4 := hbd (rg tm) hr6
  have hapt := hap tm
  have hodt := hod tm
  have hpmt : pm tm < 4096 := by rw [hpm tm htm]; exact pmN_lt hg0 hg4 (by omega)
  have kw_1 := hts (.fieldLink RX0 27 "CupDraw$Bowl" "members" "[I") (List.mem_of_getElem? (i := 1) rfl)
  have iw_X0 : ∀ w ∈ wsX00, w ∈ wsX0_admits := by decide +kernel
  have kw_2 := hts (.fieldLink RX0 24 "CupDraw$Bowl" "potMates" "[I") (List.mem_of_getElem? (i := 2) rfl)
  have kw_3 := hts (.fieldLink RX0 18 "CupDraw$Bowl" "apart" "[I") (List.mem_of_getElem? (i := 3) rfl)
  have kw_4 := hts (.fieldLink RX0 21 "CupDraw$Bowl" "otherDays" "[I") (List.mem_of_getElem? (i := 4) rfl)
  have kw_5 := hts (.fieldLink RX0 9 "CupDraw$Bowl" "regions" "[I") (List.mem_of_getElem? (i := 5) rfl)
  have kw_6 := hts (.fieldLink RX0 15 "CupDraw$Bowl" "bounds" "[I") (List.mem_of_getElem? (i := 6) rfl)
  refine lv_aload_n hXX hBB dX0_admits_0 rfl (lv_at hl 0 rfl) ?_
  refine va_get (D := D) (ci := 0) (v := .ref bM) (C := RX0) (T := TX0) (N := 9) hXX hBB hts iw_X0 hown hK hP 0 rfl rfl 8 (by decide) kw_1 (fun _ h9 => h9) rfl dX0_admits_1 ?_
  refine lv_iload_n hXX hBB dX0_admits_4 rfl (lv_at hl 1 rfl) ?_
  refine m_iald hXX hBB hK hP 6 0 rfl rfl (i := gp) (by omega) (by decide) (x := nI (mb gp)) rfl dX0_admits_5 ?_
  refine lv_aload_n hXX hBB dX0_admits_6 rfl (lv_at hl 0 rfl) ?_
  refine va_get (D := D) (ci := 0) (v := .ref bP) (C := RX0) (T := TX0) (N := 9) hXX hBB hts iw_X0 hown hK hP 0 rfl rfl 7 (by decide) kw_2 (fun _ h9 => h9) rfl dX0_admits_7 ?_
  refine lv_iload_n hXX hBB dX0_admits_10 rfl (lv_at hl 2 rfl) ?_
  refine m_iald hXX hBB hK hP 5 0 rfl rfl (i := tm) (by omega) (by decide) (x := nI (pm tm)) rfl dX0_admits_11 ?_
  refine lv_aload_n hXX hBB dX0_admits_12 rfl (lv_at hl 0 rfl) ?_
  refine va_get (D := D) (ci := 0) (v := .ref bA) (C := RX0) (T := TX0) (N := 9) hXX hBB hts iw_X0 hown hK hP 0 rfl rfl 5 (by decide) kw_3 (fun _ h9 => h9) rfl dX0_admits_13 ?_
  refine lv_iload_n hXX hBB dX0_admits_16 rfl (lv_at hl 2 rfl) ?_
  refine m_iald hXX hBB hK hP 3 0 rfl rfl (i := tm) (by omega) (by decide) (x := nI (ap tm)) rfl dX0_admits_17 ?_
  refine lv_ior hXX hBB dX0_admits_18 ?_
  refine m_top (y := nI (pm tm ||| ap tm)) (by exact q_or _ _) ?_
  refine lv_iand hXX hBB dX0_admits_19 ?_
  refine m_top (y := nI (mb gp &&& (pm tm ||| ap tm))) (by exact q_and _ _) ?_
  refine lv_if_ne (tgt := 67) hXX hBB dX0_admits_20 (by decide) (fun c_20 => ?_) (fun c_20 => ?_)
  · have c_20 : ¬ (mb gp &&& (pm tm ||| ap tm)) = 0 := fun h9 => c_20 ((m_z (by exact Nat.lt_of_le_of_lt Nat.and_le_left (by omega))).mpr h9)
    rw [hmb gp hgp, hpm tm htm] at c_20
    have hA1 : ¬ _ := fun q => c_20 ((adm_1 hg0).mpr q)
    refine lv_iconst (v := nI 0) hXX hBB dX0_admits_67 (by decide) ?_
    refine hret (r := nI 0) () ?_ (rfl) (hP.sub [0, 1, 2, 3, 4, 5, 6] rfl) (hD.sub [0, 1, 2, 3, 4, 5, 6] (by decide) rfl) hS (Nat.le_of_ble_eq_true rfl) (Nat.le_of_ble_eq_true rfl) dX0_admits_68
    show nI 0 = bI (admR g rg bd ap od rs9 tm gp)
    unfold admR
    first | (simp only [hA1, hA2, Bool.true_and]; simp [bI, Nat.not_le.mp c_60]; done) | (simp only [hA1, hA2, Bool.true_and]; simp [bI, Nat.not_lt.mpr c_60]; done) | (simp only [hA1, Bool.true_and, Bool.eq_false_iff.mpr hA2]; rfl) | (simp only [Bool.eq_false_iff.mpr hA1]; rfl)
  · have c_20 : (mb gp &&& (pm tm ||| ap tm)) = 0 := (m_z (by exact Nat.lt_of_le_of_lt Nat.and_le_left (by omega))).mp c_20
    rw [hmb gp hgp, hpm tm htm] at c_20
    have hA1 := (adm_1 hg0).mp c_20
    refine lv_aload_n hXX hBB dX0_admits_23 rfl (lv_at hl 0 rfl) ?_
    refine lv_iload_n hXX hBB dX0_admits_24 rfl (lv_at hl 1 rfl) ?_
    refine m_calli (wr := [(bR, .inl (cI, 9, .inl (fun j => nI (rg j)))), (bB, .inl (cI, 6, .inl (fun j => nI (bd j)))), (bA, .inl (cI, 9, .inl (fun j => nI (ap j)))), (bO, .inl (cI, 9, .inl (fun j => nI (od j)))), (bP, .inl (cI, 9, .inl (fun j => nI (pm j))))]) ⟨hXX, hBB, hml, hown, hts⟩ hN (kX0_playersOnDay l D cI b g p T bR bB bA bO bP bM mb gp (by omega) (by omega) (by exact hm5)) (cwV 1 hts gX0_admits_X0_playersOnDay rfl rfl rfl (by decide +kernel) ⟨Nat.le_of_ble_eq_true rfl, Nat.le_of_ble_eq_true rfl⟩) hK hP hD hS hAA [0, 6] [1, 2, 3, 4, 5] [0] rfl rfl rfl (by decide) (by decide) (by decide) rfl 0 rfl rfl rfl rfl hl.1 rfl (Nat.le_of_ble_eq_true rfl) dX0_admits_25 ⟨Nat.le_of_ble_eq_true rfl, Nat.le_of_ble_eq_true rfl⟩ (k := 0) (n := 0) rfl rfl (fun r_1 u_ H locs hw hP hD hS => ?_)
    obtain ⟨v9, rfl⟩ : ∃ z, z = u_ := ⟨_, rfl⟩
    have hw : (r_1 = nI v9) ∧ (v9 < 512) ∧ (∀ z, v9.testBit z = anyB (dayB mb gp z) g) := hw
    obtain ⟨e_r, e_v, e_tb⟩ := hw
    have hP : va_P D vwCl [(bR, .inl (cI, 9, .inl (fun j => nI (rg j)))), (bB, .inl (cI, 6, .inl (fun j => nI (bd j)))), (bA, .inl (cI, 9, .inl (fun j => nI (ap j)))), (bO, .inl (cI, 9, .inl (fun j => nI (od j)))), (bP, .inl (cI, 9, .inl (fun j => nI (pm j)))), (b, .inr (0, [.int (nI g), .int (nI p), .int (nI T), .ref bR, .ref bB, .ref bA, .ref bO, .ref bP, .ref bM])), (bM, .inl (cI, 4, .inl (fun j => nI (mb j))))] H := hP
    have hD : va_D AA [(bR, .inl (cI, 9, .inl (fun j => nI (rg j)))), (bB, .inl (cI, 6, .inl (fun j => nI (bd j)))), (bA, .inl (cI, 9, .inl (fun j => nI (ap j)))), (bO, .inl (cI, 9, .inl (fun j => nI (od j)))), (bP, .inl (cI, 9, .inl (fun j => nI (pm j)))), (b, .inr (0, [.int (nI g), .int (nI p), .int (nI T), .ref bR, .ref bB, .ref bA, .ref bO, .ref bP, .ref bM])), (bM, .inl (cI, 4, .inl (fun j => nI (mb j))))] := hD
    refine m_top (y := nI v9) e_r ?_
    refine lv_aload_n hXX hBB dX0_admits_28 rfl (lv_at hl 0 rfl) ?_
    refine va_get (D := D) (ci := 0) (v := .ref bO) (C := RX0) (T := TX0) (N := 9) hXX hBB hts iw_X0 hown hK hP 5 rfl rfl 6 (by decide) kw_4 (fun _ h9 => h9) rfl dX0_admits_29 ?_
    refine lv_iload_n hXX hBB dX0_admits_32 rfl (lv_at hl 2 rfl) ?_
    refine m_iald hXX hBB hK hP 3 0 rfl rfl (i := tm) (by omega) (by decide) (x := nI (od tm)) rfl dX0_admits_33 ?_
    refine lv_iand hXX hBB dX0_admits_34 ?_
    refine m_top (y := nI (v9 &&& od tm)) (by exact q_and _ _) ?_
    refine lv_if_ne (tgt := 67) hXX hBB dX0_admits_35 (by decide) (fun c_35 => ?_) (fun c_35 => ?_)
    · have c_35 : ¬ (v9 &&& od tm) = 0 := fun h9 => c_35 ((m_z (by exact Nat.lt_of_le_of_lt Nat.and_le_left (by omega))).mpr h9)
      have hA2 : ¬ _ := fun q => c_35 ((adm_2 hmb hgr e_tb).mpr q)
      refine lv_iconst (v := nI 0) hXX hBB dX0_admits_67 (by decide) ?_
      refine hret (r := nI 0) () ?_ (rfl) (hP.sub [5, 0, 1, 2, 3, 4, 6] rfl) (hD.sub [5, 0, 1, 2, 3, 4, 6] (by decide) rfl) hS (Nat.le_of_ble_eq_true rfl) (Nat.le_of_ble_eq_true rfl) dX0_admits_68
      show nI 0 = bI (admR g rg bd ap od rs9 tm gp)
      unfold admR
      first | (simp only [hA1, hA2, Bool.true_and]; simp [bI, Nat.not_le.mp c_60]; done) | (simp only [hA1, hA2, Bool.true_and]; simp [bI, Nat.not_lt.mpr c_60]; done) | (simp only [hA1, Bool.true_and, Bool.eq_false_iff.mpr hA2]; rfl) | (simp only [Bool.eq_false_iff.mpr hA1]; rfl)
    · have c_35 : (v9 &&& od tm) = 0 := (m_z (by exact Nat.lt_of_le_of_lt Nat.and_le_left (by omega))).mp c_35
      have hA2 := (adm_2 hmb hgr e_tb).mp c_35
      refine lv_aload_n hXX hBB dX0_admits_38 rfl (lv_at hl 0 rfl) ?_
      refine lv_iload_n hXX hBB dX0_admits_39 rfl (lv_at hl 1 rfl) ?_
      refine lv_aload_n hXX hBB dX0_admits_40 rfl (lv_at hl 0 rfl) ?_
      refine va_get (D := D) (ci := 0) (v := .ref bR) (C := RX0) (T := TX0) (N := 9) hXX hBB hts iw_X0 hown hK hP 5 rfl rfl 3 (by decide) kw_5 (fun _ h9 => h9) rfl dX0_admits_41 ?_
      refine lv_iload_n hXX hBB dX0_admits_44 rfl (lv_at hl 2 rfl) ?_
      refine m_iald hXX hBB hK hP 0 0 rfl rfl (i := tm) (by omega) (by decide) (x := nI (rg tm)) rfl dX0_admits_45 ?_
      refine m_calli (wr := [(bB, .inl (cI, 6, .inl (fun j => nI (bd j)))), (bA, .inl (cI, 9, .inl (fun j => nI (ap j)))), (bO, .inl (cI, 9, .inl (fun j => nI (od j)))), (bP, .inl (cI, 9, .inl (fun j => nI (pm j))))]) ⟨hXX, hBB, hml, hown, hts⟩ hN (kX0_countOfRegion l D cI b g p T bR bB bA bO bP bM mb rg gp (rg tm) (by omega) (by omega) (by exact hmg) (by assumption) (by omega)) (cwV 2 hts gX0_admits_X0_countOfRegion rfl rfl rfl (by decide +kernel) ⟨Nat.le_of_ble_eq_true rfl, Nat.le_of_ble_eq_true rfl⟩) hK hP hD hS hAA [5, 6, 0] [1, 2, 3, 4] [0] rfl rfl rfl (by decide) (by decide) (by decide) rfl 0 rfl rfl rfl rfl hl.1 rfl (Nat.le_of_ble_eq_true rfl) dX0_admits_46 ⟨Nat.le_of_ble_eq_true rfl, Nat.le_of_ble_eq_true rfl⟩ (k := 0) (n := 0) rfl rfl (fun r_2 u_ H locs hw hP hD hS => ?_)
      have hw : (r_2 = nI (ct (fun z => (mb gp).testBit z && decide (rg z = (rg tm))) T)) := hw
      have hr_r_2 := hw
      have hP : va_P D vwCl [(bB, .inl (cI, 6, .inl (fun j => nI (bd j)))), (bA, .inl (cI, 9, .inl (fun j => nI (ap j)))), (bO, .inl (cI, 9, .inl (fun j => nI (od j)))), (bP, .inl (cI, 9, .inl (fun j => nI (pm j)))), (b, .inr (0, [.int (nI g), .int (nI p), .int (nI T), .ref bR, .ref bB, .ref bA, .ref bO, .ref bP, .ref bM])), (bM, .inl (cI, 4, .inl (fun j => nI (mb j)))), (bR, .inl (cI, 9, .inl (fun j => nI (rg j))))] H := hP
      have hD : va_D AA [(bB, .inl (cI, 6, .inl (fun j => nI (bd j)))), (bA, .inl (cI, 9, .inl (fun j => nI (ap j)))), (bO, .inl (cI, 9, .inl (fun j => nI (od j)))), (bP, .inl (cI, 9, .inl (fun j => nI (pm j)))), (b, .inr (0, [.int (nI g), .int (nI p), .int (nI T), .ref bR, .ref bB, .ref bA, .ref bO, .ref bP, .ref bM])), (bM, .inl (cI, 4, .inl (fun j => nI (mb j)))), (bR, .inl (cI, 9, .inl (fun j => nI (rg j))))] := hD
      subst hr_r_2
      refine lv_aload_n hXX hBB dX0_admits_49 rfl (lv_at hl 0 rfl) ?_
      refine va_get (D := D) (ci := 0) (v := .ref bB) (C := RX0) (T := TX0) (N := 9) hXX hBB hts iw_X0 hown hK hP 4 rfl rfl 4 (by decide) kw_6 (fun _ h9 => h9) rfl dX0_admits_50 ?_
      refine lv_aload_n hXX hBB dX0_admits_53 rfl (lv_at hl 0 rfl) ?_
      refine va_get (D := D) (ci := 0) (v := .ref bR) (C := RX0) (T := TX0) (N := 9) hXX hBB hts iw_X0 hown hK hP 4 rfl rfl 3 (by decide) kw_5 (fun _ h9 => h9) rfl dX0_admits_54 ?_
      refine lv_iload_n hXX hBB dX0_admits_57 rfl (lv_at hl 2 rfl) ?_
      refine m_iald hXX hBB hK hP 6 0 rfl rfl (i := tm) (by omega) (by decide) (x := nI (rg tm)) rfl dX0_admits_58 ?_
      refine m_iald hXX hBB hK hP 0 0 rfl rfl (i := rg tm) (by omega) (by decide) (x := nI (bd (rg tm))) rfl dX0_admits_59 ?_
      refine lv_icmp_ge (tgt := 67) hXX hBB dX0_admits_60 (by decide) (fun c_60 => ?_) (fun c_60 => ?_)
      · have c_60 : (bd (rg tm)) ≤ (ct (fun z => (mb gp).testBit z && decide (rg z = (rg tm))) T) := (nI_leI (by first | omega | exact Nat.lt_of_le_of_lt (ct_le _ _) (by omega)) (by first | omega | exact Nat.lt_of_le_of_lt (ct_le _ _) (by omega))).mp c_60
        rw [hmb gp hgp, adm_3 (by omega)] at c_60
        refine lv_iconst (v := nI 0) hXX hBB dX0_admits_67 (by decide) ?_
        refine hret (r := nI 0) () ?_ (rfl) (hP.sub [4, 6, 0, 1, 2, 3, 5] rfl) (hD.sub [4, 6, 0, 1, 2, 3, 5] (by decide) rfl) hS (Nat.le_of_ble_eq_true rfl) (Nat.le_of_ble_eq_true rfl) dX0_admits_68
        show nI 0 = bI (admR g rg bd ap od rs9 tm gp)
        unfold admR
        first | (simp only [hA1, hA2, Bool.true_and]; simp [bI, Nat.not_le.mp c_60]; done) | (simp only [hA1, hA2, Bool.true_and]; simp [bI, Nat.not_lt.mpr c_60]; done) | (simp only [hA1, Bool.true_and, Bool.eq_false_iff.mpr hA2]; rfl) | (simp only [Bool.eq_false_iff.mpr hA1]; rfl)
      · have c_60 : ¬ (bd (rg tm)) ≤ (ct (fun z => (mb gp).testBit z && decide (rg z = (rg tm))) T) := fun h9 => c_60 ((nI_leI (by first | omega | exact Nat.lt_of_le_of_lt (ct_le _ _) (by omega)) (by first | omega | exact Nat.lt_of_le_of_lt (ct_le _ _) (by omega))).mpr h9)
        rw [hmb gp hgp, adm_3 (by omega)] at c_60
        refine lv_iconst (v := nI 1) hXX hBB dX0_admits_63 (by decide) ?_
        refine lv_goto (tgt := 68) hXX hBB dX0_admits_64 (by decide) ?_
        refine hret (r := nI 1) () ?_ (rfl) (hP.sub [4, 6, 0, 1, 2, 3, 5] rfl) (hD.sub [4, 6, 0, 1, 2, 3, 5] (by decide) rfl) hS (Nat.le_of_ble_eq_true rfl) (Nat.le_of_ble_eq_true rfl) dX0_admits_68
        show nI 1 = bI (admR g rg bd ap od rs9 tm gp)
        unfold admR
        first | (simp only [hA1, hA2, Bool.true_and]; simp [bI, Nat.not_le.mp c_60]; done) | (simp only [hA1, hA2, Bool.true_and]; simp [bI, Nat.not_lt.mpr c_60]; done) | (simp only [hA1, Bool.true_and, Bool.eq_false_iff.mpr hA2]; rfl) | (simp only [Bool.eq_false_iff.mpr hA1]; rfl)
