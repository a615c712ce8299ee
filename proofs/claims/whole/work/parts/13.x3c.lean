def allB (P : Nat → Bool) : Nat → Bool
  | 0 => true
  | n + 1 => allB P n && P n
theorem allB_s {P : Nat → Bool} {n : Nat} (h : allB P n = true) (h2 : P n = true) : allB P (n + 1) = true := by simp [allB, h, h2]
theorem allB_f {P : Nat → Bool} {n i : Nat} (hi : i < n) (h : P i = false) : allB P n = false := by
  induction n with
  | zero => exact absurd hi (Nat.not_lt_zero _)
  | succ n ih =>
    by_cases q : i = n
    · subst q; simp [allB, h]
    · simp [allB, ih (by omega)]
theorem allB_iff {P : Nat → Bool} {n : Nat} : allB P n = true ↔ ∀ i, i < n → P i = true := by
  induction n with
  | zero => exact ⟨fun _ i hi => absurd hi (Nat.not_lt_zero _), fun _ => rfl⟩
  | succ n ih =>
    simp only [allB, Bool.and_eq_true, ih]
    constructor
    · intro h i hi
      by_cases q : i = n
      · subst q; exact h.2
      · exact h.1 i (by omega)
    · intro h
      exact ⟨fun i hi => h i (by omega), h n (by omega)⟩
theorem allB_congr {P Q : Nat → Bool} {n : Nat} (h : ∀ i, i < n → P i = Q i) : allB P n = allB Q n := by
  induction n with
  | zero => rfl
  | succ n ih => simp only [allB]; rw [ih (fun i hi => h i (by omega)), h n (by omega)]
theorem ct_congr {P Q : Nat → Bool} {n : Nat} (h : ∀ i, i < n → P i = Q i) : ct P n = ct Q n := sm_congr (fun i hi => by simp only [h i hi])
/-- the place that the inner loop of layOrder comes to -/
def nuF (U : Nat → Bool) : Nat → Nat → Nat → Nat
  | 0, its, _ => its
  | f + 1, its, left => if U its then nuF U f (its + 1) left else if left = 0 then its else nuF U f (its + 1) (left - 1)
def loI (m k : Nat) (s : Nat × (Nat → Bool)) : Nat := nuF s.2 m 0 (s.1 % (m - k))
def loS (m n : Nat) : Nat → Nat × (Nat → Bool)
  | 0 => (n, fun _ => false)
  | k + 1 => ((loS m n k).1 / (m - k), updB (loS m n k).2 (loI m k (loS m n k)) true)
def lo (m n k : Nat) : Nat := loI m k (loS m n k)
theorem nuF_congr {U V : Nat → Bool} {m : Nat} (h : ∀ z, z < m → U z = V z) : ∀ (f its left : Nat), its + f ≤ m → nuF U f its left = nuF V f its left := by
  intro f
  induction f with
  | zero => intros; rfl
  | succ f ih =>
    intro its left hf
    simp only [nuF]
    rw [h its (by omega), ih (its + 1) left (by omega), ih (its + 1) (left - 1) (by omega)]
theorem ct_nupd {U : Nat → Bool} {i m : Nat} (hi : i < m) (hu : U i = false) : ct (fun z => !(updB U i true z)) m + 1 = ct (fun z => !(U z)) m := by
  induction m with
  | zero => exact absurd hi (Nat.not_lt_zero _)
  | succ m ih =>
    by_cases q : i = m
    · subst q
      have e : ct (fun z => !(updB U i true z)) i = ct (fun z => !(U z)) i := ct_congr (fun z hz => by simp [updB, show ¬ z = i by omega])
      rw [ct_f (by simp [updB]), ct_t (by simp [hu]), e]
    · have h1 := ih (by omega)
      have e : (!(updB U i true m)) = !(U m) := by simp [updB, show ¬ m = i by omega]
      rw [ct_s, ct_s, e]
      omega
theorem updB_s (f : Nat → Bool) (k : Nat) (x : Bool) : updB f k x k = x := by simp [updB]
theorem updB_n {f : Nat → Bool} {k j : Nat} {x : Bool} (h : j ≠ k) : updB f k x j = f j := by simp [updB, h]
theorem loS1_le (m n k : Nat) : (loS m n k).1 ≤ n := by
  induction k with
  | zero => exact Nat.le_refl _
  | succ k ih => exact Nat.le_trans (Nat.div_le_self _ _) ih
def okP (ab ob : Nat → Bool) (rw : Nat → Nat) (t o : Nat) : Bool := !(ab (9 * t + o) && decide (rw t = rw o)) && !(ob (9 * t + o) && decide (rw t % 2 = rw o % 2))
def smT (rg rw : Nat → Nat) (t o : Nat) : Bool := decide (rw t = rw o) && decide (rg t = rg o)
def okT (T : Nat) (rg bd : Nat → Nat) (ab ob : Nat → Bool) (S : Nat → Int32) (rw : Nat → Nat) (t : Nat) : Bool :=
  allB (okP ab ob rw t) T && (decide (ct (smT rg rw t) T ≤ bd (rg t)) && (decide (S t = -1) || decide (S t = nI (rw t))))
def lawB (T : Nat) (rg bd : Nat → Nat) (ab ob : Nat → Bool) (S : Nat → Int32) (rw : Nat → Nat) : Bool := allB (okT T rg bd ab ob S rw) T
theorem law_f {T : Nat} {rg bd : Nat → Nat} {ab ob : Nat → Bool} {S : Nat → Int32} {rw : Nat → Nat} {t : Nat} (ht : t < T) (h : okT T rg bd ab ob S rw t = false) : nI 0 = bI (lawB T rg bd ab ob S rw) := by
  unfold lawB
  rw [allB_f ht h]
  rfl
theorem okT_f1 {T : Nat} {rg bd : Nat → Nat} {ab ob : Nat → Bool} {S : Nat → Int32} {rw : Nat → Nat} {t o : Nat} (ho : o < T) (h : okP ab ob rw t o = false) : okT T rg bd ab ob S rw t = false := by
  unfold okT
  rw [allB_f ho h]
  rfl
theorem fac_le {g : Nat} (h : g ≤ 4) : fac g ≤ 24 ∧ 0 < fac g := by
  rcases (show g = 0 ∨ g = 1 ∨ g = 2 ∨ g = 3 ∨ g = 4 by omega) with rfl | rfl | rfl | rfl | rfl <;> decide
theorem facp_le {g p : Nat} (hg2 : 2 ≤ g) (hg4 : g ≤ 4) (hp2 : 2 ≤ p) (hp3 : p ≤ 3) (hT : g * p ≤ 9) : fac g ^ p ≤ 576 := by
  rcases (show p = 2 ∨ p = 3 by omega) with rfl | rfl
  · rcases (show g = 2 ∨ g = 3 ∨ g = 4 by omega) with rfl | rfl | rfl <;> decide
  · rcases (show g = 2 ∨ g = 3 by omega) with rfl | rfl <;> decide
def cdR (rs : Nat → Nat) (k : Nat) : Nat → Nat
  | 0 => 0
  | t + 1 => cdR rs k t + rs (9 * k + t) * 4 ^ t
def rowN (g num t : Nat) : Nat := lo g (num / fac g ^ (t / g) % fac g) (t % g)
def cdN (g num : Nat) : Nat → Nat
  | 0 => 0
  | t + 1 => cdN g num t + rowN g num t * 4 ^ t
def RS (g p : Nat) (rg bd : Nat → Nat) (ab ob : Nat → Bool) (S : Nat → Int32) (w : Nat → Nat) : Nat :=
  sm (fun m => if lawB (g * p) rg bd ab ob S (rowN g m) then w (cdN g m (g * p)) else 0) (fac g ^ p)
theorem cdR_congr {rs rs2 : Nat → Nat} {k T : Nat} (h : ∀ t, t < T → rs (9 * k + t) = rs2 (9 * k + t)) : cdR rs k T = cdR rs2 k T := by
  induction T with
  | zero => rfl
  | succ T ih => simp only [cdR]; rw [ih (fun t ht => h t (by omega)), h T (by omega)]
theorem cdR_cdN {rs : Nat → Nat} {k g num T : Nat} (h : ∀ t, t < T → rs (9 * k + t) = rowN g num t) : cdR rs k T = cdN g num T := by
  induction T with
  | zero => rfl
  | succ T ih => simp only [cdR, cdN]; rw [ih (fun t ht => h t (by omega)), h T (by omega)]
theorem okT_congr {T : Nat} {rg bd : Nat → Nat} {ab ob : Nat → Bool} {S : Nat → Int32} {rw rv : Nat → Nat} (h : ∀ t, t < T → rw t = rv t) {t : Nat} (ht : t < T) : okT T rg bd ab ob S rw t = okT T rg bd ab ob S rv t := by
  unfold okT
  rw [allB_congr (P := okP ab ob rw t) (Q := okP ab ob rv t) (fun o ho => by simp only [okP, h t ht, h o ho]), ct_congr (P := smT rg rw t) (Q := smT rg rv t) (fun o ho => by simp only [smT, h t ht, h o ho]), h t ht]
theorem lawB_congr {T : Nat} {rg bd : Nat → Nat} {ab ob : Nat → Bool} {S : Nat → Int32} {rw rv : Nat → Nat} (h : ∀ t, t < T → rw t = rv t) : lawB T rg bd ab ob S rw = lawB T rg bd ab ob S rv :=
  allB_congr (fun _ ht => okT_congr h ht)
theorem ct_full (m : Nat) : ct (fun z => !((loS m 0 0).2 z)) m = m - 0 := by
  induction m with
  | zero => rfl
  | succ m ih => rw [ct_t rfl]; have h9 : ct (fun z => !((loS (m + 1) 0 0).2 z)) m = ct (fun z => !((loS m 0 0).2 z)) m := rfl; omega
theorem ct_lt {P : Nat → Bool} {n i : Nat} (hi : i < n) (h : P i = true) : 0 < ct P n := by
  induction n with
  | zero => exact absurd hi (Nat.not_lt_zero _)
  | succ n ih =>
    by_cases q : i = n
    · subst q; rw [ct_t h]; omega
    · have := ih (by omega); rw [ct_s]; omega
theorem ct_mono (P : Nat → Bool) {a b : Nat} (h : a ≤ b) : ct P a ≤ ct P b := by
  induction b with
  | zero => rw [show a = 0 by omega]; exact Nat.le_refl _
  | succ b ih =>
    by_cases q : a = b + 1
    · rw [q]; exact Nat.le_refl _
    · have := ih (by omega); rw [ct_s]; omega
/-- where the walk over the free places ends: a free place, with left free ones ahead of it -/
theorem nuF_spec {U : Nat → Bool} {m : Nat} : ∀ (f its left : Nat), its + f = m → left + ct (fun z => !(U z)) its < ct (fun z => !(U z)) m → nuF U f its left < m ∧ U (nuF U f its left) = false ∧ ct (fun z => !(U z)) (nuF U f its left) = left + ct (fun z => !(U z)) its := by
  intro f
  induction f with
  | zero =>
    intro its left h1 h2
    rw [show its = m by omega] at h2
    omega
  | succ f ih =>
    intro its left h1 h2
    simp only [nuF]
    by_cases c : U its = true
    · rw [if_pos c]
      have e : ct (fun z => !(U z)) (its + 1) = ct (fun z => !(U z)) its := ct_f (by simp [c])
      have h3 := ih (its + 1) left (by omega) (by rw [e]; exact h2)
      rw [e] at h3
      exact h3
    · rw [if_neg c]
      have e : ct (fun z => !(U z)) (its + 1) = ct (fun z => !(U z)) its + 1 := ct_t (by simp [c])
      by_cases d : left = 0
      · rw [if_pos d]
        exact ⟨by omega, by simpa using c, by omega⟩
      · rw [if_neg d]
        have h3 := ih (its + 1) (left - 1) (by omega) (by omega)
        refine ⟨h3.1, h3.2.1, ?_⟩
        rw [h3.2.2, e]
        omega
theorem loS_ct (m n : Nat) : ∀ k, k ≤ m → ct (fun z => !((loS m n k).2 z)) m = m - k := by
  intro k
  induction k with
  | zero => intro _; exact ct_full m
  | succ k ih =>
    intro hk
    have h1 := ih (by omega)
    have hd : (loS m n k).1 % (m - k) < m - k := Nat.mod_lt _ (by omega)
    have h2 := nuF_spec (U := (loS m n k).2) (m := m) m 0 ((loS m n k).1 % (m - k)) (by omega) (by rw [ct_0]; omega)
    have h3 := ct_nupd (U := (loS m n k).2) (i := loI m k (loS m n k)) h2.1 h2.2.1
    show ct (fun z => !(updB (loS m n k).2 (loI m k (loS m n k)) true z)) m = _
    omega
theorem lo_spec {m n k : Nat} (hk : k < m) : lo m n k < m ∧ (loS m n k).2 (lo m n k) = false ∧ ct (fun z => !((loS m n k).2 z)) (lo m n k) = (loS m n k).1 % (m - k) := by
  have h1 := loS_ct m n k (by omega)
  have hd : (loS m n k).1 % (m - k) < m - k := Nat.mod_lt _ (by omega)
  have h2 := nuF_spec (U := (loS m n k).2) (m := m) m 0 ((loS m n k).1 % (m - k)) (by omega) (by rw [ct_0]; omega)
  rw [ct_0, Nat.add_zero] at h2
  exact h2
theorem lo_lt {m n k : Nat} (hk : k < m) (_ : m ≤ 4) (_ : k ≤ m) : lo m n k < m := (lo_spec hk).1
abbrev rmX3_layOrder : Room := { frames := 0, cells := 0, slots := 0, locals := 0 }
set_option maxHeartbeats 4000000 in
set_option maxRecDepth 100000 in
theorem kX3_layOrder (l : Launch) (D : va_G) (cI : ClassId) (cZ : ClassId) (h : Nat) (g : Nat) (p : Nat) (aR : Nat) (aB : Nat) (aA : Nat) (aO : Nat) (dm : Nat) (aD : Nat) (aP : Nat) (th : Nat) (rm : Nat) (aS : Nat) (aW : Nat) (aU : Nat) (aL : Nat) (aE : Nat) (aQ : Nat) (rw : Nat → Nat) (us : Nat → Bool) (num : Nat) (m : Nat) (fr : Nat) (hnum : num < 2 ^ 31) (hm : m ≤ 4) (hfr : fr + m ≤ 9) : Cv l yX3_layOrder wsX3_layOrder rmX3_layOrder D [(cI, .int), (cZ, .boolean)] [.ref h, .int (nI num), .int (nI m), .int (nI fr)] [(h, .inr (3, [.int (nI g), .int (nI p), .ref aR, .ref aB, .ref aA, .ref aO, .int (nI dm), .ref aD, .ref aP, .int (nI th), .int (nI rm), .ref aS, .ref aW, .ref aU, .ref aL, .ref aE, .ref aQ])), (aW, .inl (cI, 9, .inl (fun j => nI (rw j)))), (aU, .inl (cZ, 9, .inl (fun j => bI (us j))))] (fun (u : (Nat → Nat) × (Nat → Bool)) => (∀ z, z < m → u.1 (fr + z) = lo m num z) ∧ (∀ z, z < fr ∨ fr + m ≤ z → u.1 z = rw z)) (fun (u : (Nat → Nat) × (Nat → Bool)) => [(h, .inr (3, [.int (nI g), .int (nI p), .ref aR, .ref aB, .ref aA, .ref aO, .int (nI dm), .ref aD, .ref aP, .int (nI th), .int (nI rm), .ref aS, .ref aW, .ref aU, .ref aL, .ref aE, .ref aQ])), (aW, .inl (cI, 9, .inl (fun j => nI (u.1 j)))), (aU, .inl (cZ, 9, .inl (fun j => bI (u.2 j))))]) := by
  refine Cv_of (cc := cX3_layOrder) (maxL := 8) (by decide) rfl (Nat.le_of_ble_eq_true rfl) ?_
  intro pR eV sT mI args below meth cO AA QQ ls hXX hBB hml hown hts hnm hN hK hP hD hS hAA hl hret
  have hl : lv_has ls 8 [(0, .ref h), (1, .int (nI num)), (2, .int (nI m)), (3, .int (nI fr))] := hl
  have kw_1 := hts (.fieldLink RX3 35 "CupDrawModel" "isUsed" "[Z") (List.mem_of_getElem? (i := 1) rfl)
  have iw_X3 : ∀ w ∈ wsX30, w ∈ wsX3_layOrder := by decide +kernel
  have kw_2 := hts (.fieldLink RX3 32 "CupDrawModel" "row" "[I") (List.mem_of_getElem? (i := 2) rfl)
  refine lv_iload_n hXX hBB dX3_layOrder_0 rfl (lv_at hl 1 rfl) ?_
  refine lv_istore (lv' := [(4, .int (nI num)), (0, .ref h), (1, .int (nI num)), (2, .int (nI m)), (3, .int (nI fr))]) hXX hBB dX3_layOrder_1 hl (by decide) rfl (fun ls hl => ?_)
  refine lv_iconst (v := nI 0) hXX hBB dX3_layOrder_3 (by decide) ?_
  refine lv_istore (lv' := [(5, .int (nI 0)), (4, .int (nI num)), (0, .ref h), (1, .int (nI num)), (2, .int (nI m)), (3, .int (nI fr))]) hXX hBB dX3_layOrder_4 hl (by decide) rfl (fun ls hl => ?_)
  have L_6 : ∀ (N_6 : Nat) (k : Nat) (uq : Nat → Bool), (k ≤ m) → (∀ z, z < k → uq z = false) → m - k < N_6 → ∀ (H : Heap) (locs : List Loc), va_P D vwCl [(h, .inr (3, [.int (nI g), .int (nI p), .ref aR, .ref aB, .ref aA, .ref aO, .int (nI dm), .ref aD, .ref aP, .int (nI th), .int (nI rm), .ref aS, .ref aW, .ref aU, .ref aL, .ref aE, .ref aQ])), (aW, .inl (cI, 9, .inl (fun j => nI (rw j)))), (aU, .inl (cZ, 9, .inl (fun j => bI (uq j))))] H → va_D AA [(h, .inr (3, [.int (nI g), .int (nI p), .ref aR, .ref aB, .ref aA, .ref aO, .int (nI dm), .ref aD, .ref aP, .int (nI th), .int (nI rm), .ref aS, .ref aW, .ref aU, .ref aL, .ref aE, .ref aQ])), (aW, .inl (cI, 9, .inl (fun j => nI (rw j)))), (aU, .inl (cZ, 9, .inl (fun j => bI (uq j))))] → va_S AA sT.heap H locs → ∀ (ls : Array Slot), lv_has ls 8 [(5, .int (nI k)), (4, .int (nI num)), (0, .ref h), (1, .int (nI num)), (2, .int (nI m)), (3, .int (nI fr))] → W pR l eV rmX3_layOrder sT mI args below meth cO H locs 0 0 QQ (F0 mI 6 ls []) := by
    intro N_6
    induction N_6 with
    | zero =>
      intro k uq hk hA hMM
      exact absurd hMM (Nat.not_lt_zero _)
    | succ N_6 ih_6 =>
      intro k uq hk hA hMM H locs hP hD hS ls hl
      refine lv_iload hXX hBB dX3_layOrder_6 (lv_at hl 0 rfl) ?_
      refine lv_iload_n hXX hBB dX3_layOrder_8 rfl (lv_at hl 4 rfl) ?_
      refine lv_icmp_ge (tgt := 26) hXX hBB dX3_layOrder_9 (by decide) (fun c_9 => ?_) (fun c_9 => ?_)
      · have c_9 : m ≤ k := (nI_leI (by omega) (by omega)).mp c_9
        have hkm : k = m := by omega
        rw [hkm] at hA
        refine lv_iconst (v := nI 0) hXX hBB dX3_layOrder_26 (by decide) ?_
        refine lv_istore (lv' := [(5, .int (nI 0)), (4, .int (nI num)), (0, .ref h), (1, .int (nI num)), (2, .int (nI m)), (3, .int (nI fr))]) hXX hBB dX3_layOrder_27 hl (by decide) rfl (fun ls hl => ?_)
        have L_29 : ∀ (N_29 : Nat) (k : Nat) (rq : Nat) (uq : Nat → Bool) (wq : Nat → Nat), (k ≤ m) → (rq = (loS m num k).1) → (∀ z, z < m → uq z = (loS m num k).2 z) → (ct (fun z => !((loS m num k).2 z)) m = m - k) → (∀ z, z < k → wq (fr + z) = lo m num z) → (∀ z, z < fr ∨ fr + k ≤ z → wq z = rw z) → m - k < N_29 → ∀ (H : Heap) (locs : List Loc), va_P D vwCl [(h, .inr (3, [.int (nI g), .int (nI p), .ref aR, .ref aB, .ref aA, .ref aO, .int (nI dm), .ref aD, .ref aP, .int (nI th), .int (nI rm), .ref aS, .ref aW, .ref aU, .ref aL, .ref aE, .ref aQ])), (aW, .inl (cI, 9, .inl (fun j => nI (wq j)))), (aU, .inl (cZ, 9, .inl (fun j => bI (uq j))))] H → va_D AA [(h, .inr (3, [.int (nI g), .int (nI p), .ref aR, .ref aB, .ref aA, .ref aO, .int (nI dm), .ref aD, .ref aP, .int (nI th), .int (nI rm), .ref aS, .ref aW, .ref aU, .ref aL, .ref aE, .ref aQ])), (aW, .inl (cI, 9, .inl (fun j => nI (wq j)))), (aU, .inl (cZ, 9, .inl (fun j => bI (uq j))))] → va_S AA sT.heap H locs → ∀ (ls : Array Slot), lv_has ls 8 [(5, .int (nI k)), (4, .int (nI rq)), (0, .ref h), (1, .int (nI num)), (2, .int (nI m)), (3, .int (nI fr))] → W pR l eV rmX3_layOrder sT mI args below meth cO H locs 0 0 QQ (F0 mI 29 ls []) := by
          intro N_29
          induction N_29 with
          | zero =>
            intro k rq uq wq hk hR hU hC hW hV hMM
            exact absurd hMM (Nat.not_lt_zero _)
          | succ N_29 ih_29 =>
            intro k rq uq wq hk hR hU hC hW hV hMM H locs hP hD hS ls hl
            refine lv_iload hXX hBB dX3_layOrder_29 (lv_at hl 0 rfl) ?_
            refine lv_iload_n hXX hBB dX3_layOrder_31 rfl (lv_at hl 4 rfl) ?_
            refine lv_icmp_ge (tgt := 122) hXX hBB dX3_layOrder_32 (by decide) (fun c_32 => ?_) (fun c_32 => ?_)
            · have c_32 : m ≤ k := (nI_leI (by omega) (by omega)).mp c_32
              have hkm : k = m := by omega
              rw [hkm] at hW hV
              refine hret (wq, uq) ?_ (hP.sub [0, 1, 2] rfl) (hD.sub [0, 1, 2] (by decide) rfl) hS (Nat.le_of_ble_eq_true rfl) (Nat.le_of_ble_eq_true rfl) dX3_layOrder_122
              show (∀ z, z < m → wq (fr + z) = lo m num z) ∧ (∀ z, z < fr ∨ fr + m ≤ z → wq z = rw z)
              exact ⟨hW, hV⟩
            · have c_32 : ¬ m ≤ k := fun h9 => c_32 ((nI_leI (by omega) (by omega)).mpr h9)
              have hkm : k < m := by omega
              have hdm : (loS m num k).1 % (m - k) < m - k := Nat.mod_lt _ (by omega)
              have hrb : rq < 2 ^ 31 := by rw [hR]; exact Nat.lt_of_le_of_lt (loS1_le m num k) hnum
              have hrm : rq % (m - k) < m - k := Nat.mod_lt _ (by omega)
              refine lv_iload hXX hBB dX3_layOrder_35 (lv_at hl 1 rfl) ?_
              refine lv_iload_n hXX hBB dX3_layOrder_37 rfl (lv_at hl 4 rfl) ?_
              refine lv_iload hXX hBB dX3_layOrder_38 (lv_at hl 0 rfl) ?_
              refine lv_isub hXX hBB dX3_layOrder_40 ?_
              refine m_top (y := nI (m - k)) (pk_sub (by omega)) ?_
              refine lv_irem hXX hBB dX3_layOrder_41 (nI_ne0 (by omega) (by omega)) ?_
              refine m_top (y := nI (rq % (m - k))) (pk_rem (by omega) (by omega) (by omega)) ?_
              refine lv_istore (lv' := [(6, .int (nI (rq % (m - k)))), (5, .int (nI k)), (4, .int (nI rq)), (0, .ref h), (1, .int (nI num)), (2, .int (nI m)), (3, .int (nI fr))]) hXX hBB dX3_layOrder_42 hl (by decide) rfl (fun ls hl => ?_)
              refine lv_iload hXX hBB dX3_layOrder_44 (lv_at hl 2 rfl) ?_
              refine lv_iload_n hXX hBB dX3_layOrder_46 rfl (lv_at hl 5 rfl) ?_
              refine lv_iload hXX hBB dX3_layOrder_47 (lv_at hl 1 rfl) ?_
              refine lv_isub hXX hBB dX3_layOrder_49 ?_
              refine m_top (y := nI (m - k)) (pk_sub (by omega)) ?_
              refine lv_idiv hXX hBB dX3_layOrder_50 (nI_ne0 (by omega) (by omega)) ?_
              refine m_top (y := nI (rq / (m - k))) (pk_div (by omega) (by omega) (by omega)) ?_
              refine lv_istore (lv' := [(4, .int (nI (rq / (m - k)))), (6, .int (nI (rq % (m - k)))), (5, .int (nI k)), (0, .ref h), (1, .int (nI num)), (2, .int (nI m)), (3, .int (nI fr))]) hXX hBB dX3_layOrder_51 hl (by decide) rfl (fun ls hl => ?_)
              refine lv_iconst (v := nI 0) hXX hBB dX3_layOrder_53 (by decide) ?_
              refine lv_istore (lv' := [(7, .int (nI 0)), (4, .int (nI (rq / (m - k)))), (6, .int (nI (rq % (m - k)))), (5, .int (nI k)), (0, .ref h), (1, .int (nI num)), (2, .int (nI m)), (3, .int (nI fr))]) hXX hBB dX3_layOrder_54 hl (by decide) rfl (fun ls hl => ?_)
              have L_56 : ∀ (N_56 : Nat) (lf9 : Nat) (its : Nat), (its ≤ m) → (lf9 + ct (fun z => !((loS m num k).2 z)) its = (loS m num k).1 % (m - k)) → (nuF (loS m num k).2 (m - its) its lf9 = lo m num k) → m - its < N_56 → ∀ (H : Heap) (locs : List Loc), va_P D vwCl [(h, .inr (3, [.int (nI g), .int (nI p), .ref aR, .ref aB, .ref aA, .ref aO, .int (nI dm), .ref aD, .ref aP, .int (nI th), .int (nI rm), .ref aS, .ref aW, .ref aU, .ref aL, .ref aE, .ref aQ])), (aW, .inl (cI, 9, .inl (fun j => nI (wq j)))), (aU, .inl (cZ, 9, .inl (fun j => bI (uq j))))] H → va_D AA [(h, .inr (3, [.int (nI g), .int (nI p), .ref aR, .ref aB, .ref aA, .ref aO, .int (nI dm), .ref aD, .ref aP, .int (nI th), .int (nI rm), .ref aS, .ref aW, .ref aU, .ref aL, .ref aE, .ref aQ])), (aW, .inl (cI, 9, .inl (fun j => nI (wq j)))), (aU, .inl (cZ, 9, .inl (fun j => bI (uq j))))] → va_S AA sT.heap H locs → ∀ (ls : Array Slot), lv_has ls 8 [(7, .int (nI its)), (4, .int (nI (rq / (m - k)))), (6, .int (nI lf9)), (5, .int (nI k)), (0, .ref h), (1, .int (nI num)), (2, .int (nI m)), (3, .int (nI fr))] → W pR l eV rmX3_layOrder sT mI args below meth cO H locs 0 0 QQ (F0 mI 56 ls []) := by
                intro N_56
                induction N_56 with
                | zero =>
                  intro lf9 its hI hDD hF hMM
                  exact absurd hMM (Nat.not_lt_zero _)
                | succ N_56 ih_56 =>
                  intro lf9 its hI hDD hF hMM H locs hP hD hS ls hl
                  have him : its < m := by
                    rcases Nat.lt_or_ge its m with q | q
                    · exact q
                    · have e9 : its = m := by omega
                      rw [e9] at hDD
                      omega
                  obtain ⟨fz, hfz⟩ : ∃ z, m - its = z + 1 := ⟨m - its - 1, by omega⟩
                  have hUi := hU its him
                  rw [hfz] at hF
                  simp only [nuF] at hF
                  refine lv_aload_n hXX hBB dX3_layOrder_56 rfl (lv_at hl 4 rfl) ?_
                  refine va_get (D := D) (ci := 3) (v := .ref aU) (C := RX3) (T := TX3) (N := 17) hXX hBB hts iw_X3 hown hK hP 0 rfl rfl 13 (by decide) kw_1 (fun _ h9 => h9) rfl dX3_layOrder_57 ?_
                  refine lv_iload hXX hBB dX3_layOrder_60 (lv_at hl 0 rfl) ?_
                  refine m_zald hXX hBB hK hP 2 1 rfl rfl (i := its) (by omega) (by decide) (x := bI (uq its)) rfl dX3_layOrder_62 ?_
                  refine lv_if_ne (tgt := 71) hXX hBB dX3_layOrder_63 (by decide) (fun c_63 => ?_) (fun c_63 => ?_)
                  · have c_63 : (uq its) = true := m_bz1 c_63
                    rw [hUi] at c_63
                    rw [if_pos c_63] at hF
                    refine lv_iload hXX hBB dX3_layOrder_71 (lv_at hl 2 rfl) ?_
                    refine lv_aload_n hXX hBB dX3_layOrder_73 rfl (lv_at hl 4 rfl) ?_
                    refine va_get (D := D) (ci := 3) (v := .ref aU) (C := RX3) (T := TX3) (N := 17) hXX hBB hts iw_X3 hown hK hP 0 rfl rfl 13 (by decide) kw_1 (fun _ h9 => h9) rfl dX3_layOrder_74 ?_
                    refine lv_iload hXX hBB dX3_layOrder_77 (lv_at hl 0 rfl) ?_
                    refine m_zald hXX hBB hK hP 2 1 rfl rfl (i := its) (by omega) (by decide) (x := bI (uq its)) rfl dX3_layOrder_79 ?_
                    refine lv_if_eq (tgt := 87) hXX hBB dX3_layOrder_80 (by decide) (fun c_80 => ?_) (fun c_80 => ?_)
                    · have c_80 : (uq its) = false := m_bz0 c_80
                      rw [hUi] at c_80
                      exact absurd (c_80.symm.trans c_63) (by decide)
                    · have c_80 : (uq its) = true := m_bz1 c_80
                      have stD : lf9 - 0 + ct (fun z => !((loS m num k).2 z)) (its + 1) = (loS m num k).1 % (m - k) := by
                        rw [ct_f (by simp [c_63])]; omega
                      have stF : nuF (loS m num k).2 (m - (its + 1)) (its + 1) (lf9 - 0) = lo m num k := by
                        rw [show m - (its + 1) = fz by omega]; exact hF
                      refine lv_iconst (v := nI 0) hXX hBB dX3_layOrder_83 (by decide) ?_
                      refine lv_goto (tgt := 88) hXX hBB dX3_layOrder_84 (by decide) ?_
                      refine lv_isub hXX hBB dX3_layOrder_88 ?_
                      refine m_top (y := nI (lf9 - 0)) (pk_sub (by omega)) ?_
                      refine lv_istore (lv' := [(6, .int (nI (lf9 - 0))), (7, .int (nI its)), (4, .int (nI (rq / (m - k)))), (5, .int (nI k)), (0, .ref h), (1, .int (nI num)), (2, .int (nI m)), (3, .int (nI fr))]) hXX hBB dX3_layOrder_89 hl (by decide) rfl (fun ls hl => ?_)
                      refine lv_iinc (v := nI (its + 1)) (lv' := [(7, .int (nI (its + 1))), (6, .int (nI (lf9 - 0))), (4, .int (nI (rq / (m - k)))), (5, .int (nI k)), (0, .ref h), (1, .int (nI num)), (2, .int (nI m)), (3, .int (nI fr))]) hXX hBB dX3_layOrder_91 hl (k := 1) rfl (nI_1 _) (by decide) rfl (fun ls hl => ?_)
                      refine lv_goto (tgt := 56) hXX hBB dX3_layOrder_94 (by decide) ?_
                      have hi_I : (its + 1) ≤ m := by omega
                      have hi_DD : (lf9 - 0) + ct (fun z => !((loS m num k).2 z)) (its + 1) = (loS m num k).1 % (m - k) := by exact stD
                      have hi_F : nuF (loS m num k).2 (m - (its + 1)) (its + 1) (lf9 - 0) = lo m num k := by exact stF
                      have hmm : m - (its + 1) < N_56 := by omega
                      exact ih_56 (lf9 - 0) (its + 1) hi_I hi_DD hi_F hmm _ _ (hP.sub [0, 1, 2] rfl) (hD.sub [0, 1, 2] (by decide) rfl) hS ls (lv_sub hl [0, 2, 1, 3, 4, 5, 6, 7] rfl)
                  · have c_63 : (uq its) = false := m_bz0 c_63
                    rw [hUi] at c_63
                    rw [if_neg (by simp [c_63])] at hF
                    refine lv_iload hXX hBB dX3_layOrder_66 (lv_at hl 2 rfl) ?_
                    refine lv_if_le (tgt := 97) hXX hBB dX3_layOrder_68 (by decide) (fun c_68 => ?_) (fun c_68 => ?_)
                    · have c_68 : lf9 = 0 := m_nps_le_t (by omega) c_68
                      rw [if_pos c_68] at hF
                      have stU : ∀ z, z < m → updB uq its true z = (loS m num (k + 1)).2 z := fun z hz => by
                        show _ = updB (loS m num k).2 (lo m num k) true z
                        rw [← hF]
                        by_cases q : z = its
                        · rw [q, updB_s, updB_s]
                        · rw [updB_n q, updB_n q]; exact hU z hz
                      have stC : ct (fun z => !((loS m num (k + 1)).2 z)) m = m - (k + 1) := by
                        show ct (fun z => !(updB (loS m num k).2 (lo m num k) true z)) m = _
                        rw [← hF]
                        have h9 := ct_nupd (U := (loS m num k).2) him c_63
                        omega
                      have stW : ∀ z, z < k + 1 → updN wq (fr + k) its (fr + z) = lo m num z := fun z hz => by
                        by_cases q : z = k
                        · rw [q, updN_s, hF]
                        · rw [updN_n (by omega)]; exact hW z (by omega)
                      have stV : ∀ z, z < fr ∨ fr + (k + 1) ≤ z → updN wq (fr + k) its z = rw z := fun z hz => by
                        rw [updN_n (by omega)]; exact hV z (by omega)
                      refine lv_aload_n hXX hBB dX3_layOrder_97 rfl (lv_at hl 4 rfl) ?_
                      refine va_get (D := D) (ci := 3) (v := .ref aU) (C := RX3) (T := TX3) (N := 17) hXX hBB hts iw_X3 hown hK hP 0 rfl rfl 13 (by decide) kw_1 (fun _ h9 => h9) rfl dX3_layOrder_98 ?_
                      refine lv_iload hXX hBB dX3_layOrder_101 (lv_at hl 0 rfl) ?_
                      refine lv_iconst (v := nI 1) hXX hBB dX3_layOrder_103 (by decide) ?_
                      refine m_zast hXX hBB hK hP hD hS 2 1 rfl rfl (i := its) (by omega) (by decide) (g := fun j => bI (updB uq its true j)) (m_updB1 _ _) dX3_layOrder_104 (fun H locs hP hD hS => ?_)
                      have hP : va_P D vwCl [(h, .inr (3, [.int (nI g), .int (nI p), .ref aR, .ref aB, .ref aA, .ref aO, .int (nI dm), .ref aD, .ref aP, .int (nI th), .int (nI rm), .ref aS, .ref aW, .ref aU, .ref aL, .ref aE, .ref aQ])), (aW, .inl (cI, 9, .inl (fun j => nI (wq j)))), (aU, .inl (cZ, 9, .inl (fun j => bI (updB uq its true j))))] H := hP
                      have hD : va_D AA [(h, .inr (3, [.int (nI g), .int (nI p), .ref aR, .ref aB, .ref aA, .ref aO, .int (nI dm), .ref aD, .ref aP, .int (nI th), .int (nI rm), .ref aS, .ref aW, .ref aU, .ref aL, .ref aE, .ref aQ])), (aW, .inl (cI, 9, .inl (fun j => nI (wq j)))), (aU, .inl (cZ, 9, .inl (fun j => bI (updB uq its true j))))] := hD
                      refine lv_aload_n hXX hBB dX3_layOrder_105 rfl (lv_at hl 4 rfl) ?_
                      refine va_get (D := D) (ci := 3) (v := .ref aW) (C := RX3) (T := TX3) (N := 17) hXX hBB hts iw_X3 hown hK hP 0 rfl rfl 12 (by decide) kw_2 (fun _ h9 => h9) rfl dX3_layOrder_106 ?_
                      refine lv_iload_n hXX hBB dX3_layOrder_109 rfl (lv_at hl 7 rfl) ?_
                      refine lv_iload hXX hBB dX3_layOrder_110 (lv_at hl 3 rfl) ?_
                      refine lv_iadd hXX hBB dX3_layOrder_112 ?_
                      refine m_top (y := nI (fr + k)) (nI_add _ _) ?_
                      refine lv_iload hXX hBB dX3_layOrder_113 (lv_at hl 0 rfl) ?_
                      refine m_iast hXX hBB hK hP hD hS 1 0 rfl rfl (i := fr + k) (by omega) (by decide) (g := fun j => nI (updN wq (fr + k) its j)) (m_upd _ _ _) dX3_layOrder_115 (fun H locs hP hD hS => ?_)
                      have hP : va_P D vwCl [(h, .inr (3, [.int (nI g), .int (nI p), .ref aR, .ref aB, .ref aA, .ref aO, .int (nI dm), .ref aD, .ref aP, .int (nI th), .int (nI rm), .ref aS, .ref aW, .ref aU, .ref aL, .ref aE, .ref aQ])), (aW, .inl (cI, 9, .inl (fun j => nI (updN wq (fr + k) its j)))), (aU, .inl (cZ, 9, .inl (fun j => bI (updB uq its true j))))] H := hP
                      have hD : va_D AA [(h, .inr (3, [.int (nI g), .int (nI p), .ref aR, .ref aB, .ref aA, .ref aO, .int (nI dm), .ref aD, .ref aP, .int (nI th), .int (nI rm), .ref aS, .ref aW, .ref aU, .ref aL, .ref aE, .ref aQ])), (aW, .inl (cI, 9, .inl (fun j => nI (updN wq (fr + k) its j)))), (aU, .inl (cZ, 9, .inl (fun j => bI (updB uq its true j))))] := hD
                      refine lv_iinc (v := nI (k + 1)) (lv' := [(5, .int (nI (k + 1))), (7, .int (nI its)), (4, .int (nI (rq / (m - k)))), (6, .int (nI lf9)), (0, .ref h), (1, .int (nI num)), (2, .int (nI m)), (3, .int (nI fr))]) hXX hBB dX3_layOrder_116 hl (k := 3) rfl (nI_1 _) (by decide) rfl (fun ls hl => ?_)
                      refine lv_goto (tgt := 29) hXX hBB dX3_layOrder_119 (by decide) ?_
                      have hi_k : (k + 1) ≤ m := by omega
                      have hi_R : (rq / (m - k)) = (loS m num (k + 1)).1 := by rw [hR]; rfl
                      have hi_U : ∀ z, z < m → (updB uq its true) z = (loS m num (k + 1)).2 z := by exact stU
                      have hi_C : ct (fun z => !((loS m num (k + 1)).2 z)) m = m - (k + 1) := by exact stC
                      have hi_W : ∀ z, z < (k + 1) → (updN wq (fr + k) its) (fr + z) = lo m num z := by exact stW
                      have hi_V : ∀ z, z < fr ∨ fr + (k + 1) ≤ z → (updN wq (fr + k) its) z = rw z := by exact stV
                      have hmm : m - (k + 1) < N_29 := by omega
                      exact ih_29 (k + 1) (rq / (m - k)) (updB uq its true) (updN wq (fr + k) its) hi_k hi_R hi_U hi_C hi_W hi_V hmm _ _ (hP.sub [0, 1, 2] rfl) (hD.sub [0, 1, 2] (by decide) rfl) hS ls (lv_sub hl [0, 2, 4, 5, 6, 7] rfl)
                    · have c_68 : 0 < lf9 := m_pos_le_f (by omega) c_68
                      rw [if_neg (by omega)] at hF
                      refine lv_iload hXX hBB dX3_layOrder_71 (lv_at hl 2 rfl) ?_
                      refine lv_aload_n hXX hBB dX3_layOrder_73 rfl (lv_at hl 4 rfl) ?_
                      refine va_get (D := D) (ci := 3) (v := .ref aU) (C := RX3) (T := TX3) (N := 17) hXX hBB hts iw_X3 hown hK hP 0 rfl rfl 13 (by decide) kw_1 (fun _ h9 => h9) rfl dX3_layOrder_74 ?_
                      refine lv_iload hXX hBB dX3_layOrder_77 (lv_at hl 0 rfl) ?_
                      refine m_zald hXX hBB hK hP 2 1 rfl rfl (i := its) (by omega) (by decide) (x := bI (uq its)) rfl dX3_layOrder_79 ?_
                      refine lv_if_eq (tgt := 87) hXX hBB dX3_layOrder_80 (by decide) (fun c_80 => ?_) (fun c_80 => ?_)
                      · have c_80 : (uq its) = false := m_bz0 c_80
                        have stD : lf9 - 1 + ct (fun z => !((loS m num k).2 z)) (its + 1) = (loS m num k).1 % (m - k) := by
                          rw [ct_t (by simp [c_63])]; omega
                        have stF : nuF (loS m num k).2 (m - (its + 1)) (its + 1) (lf9 - 1) = lo m num k := by
                          rw [show m - (its + 1) = fz by omega]; exact hF
                        refine lv_iconst (v := nI 1) hXX hBB dX3_layOrder_87 (by decide) ?_
                        refine lv_isub hXX hBB dX3_layOrder_88 ?_
                        refine m_top (y := nI (lf9 - 1)) (pk_sub (by omega)) ?_
                        refine lv_istore (lv' := [(6, .int (nI (lf9 - 1))), (7, .int (nI its)), (4, .int (nI (rq / (m - k)))), (5, .int (nI k)), (0, .ref h), (1, .int (nI num)), (2, .int (nI m)), (3, .int (nI fr))]) hXX hBB dX3_layOrder_89 hl (by decide) rfl (fun ls hl => ?_)
                        refine lv_iinc (v := nI (its + 1)) (lv' := [(7, .int (nI (its + 1))), (6, .int (nI (lf9 - 1))), (4, .int (nI (rq / (m - k)))), (5, .int (nI k)), (0, .ref h), (1, .int (nI num)), (2, .int (nI m)), (3, .int (nI fr))]) hXX hBB dX3_layOrder_91 hl (k := 1) rfl (nI_1 _) (by decide) rfl (fun ls hl => ?_)
                        refine lv_goto (tgt := 56) hXX hBB dX3_layOrder_94 (by decide) ?_
                        have hi_I : (its + 1) ≤ m := by omega
                        have hi_DD : (lf9 - 1) + ct (fun z => !((loS m num k).2 z)) (its + 1) = (loS m num k).1 % (m - k) := by exact stD
                        have hi_F : nuF (loS m num k).2 (m - (its + 1)) (its + 1) (lf9 - 1) = lo m num k := by exact stF
                        have hmm : m - (its + 1) < N_56 := by omega
                        exact ih_56 (lf9 - 1) (its + 1) hi_I hi_DD hi_F hmm _ _ (hP.sub [0, 1, 2] rfl) (hD.sub [0, 1, 2] (by decide) rfl) hS ls (lv_sub hl [0, 2, 1, 3, 4, 5, 6, 7] rfl)
                      · have c_80 : (uq its) = true := m_bz1 c_80
                        rw [hUi] at c_80
                        exact absurd (c_80.symm.trans c_63) (by decide)
              have hi_I : 0 ≤ m := by omega
              have hi_DD : (rq % (m - k)) + ct (fun z => !((loS m num k).2 z)) 0 = (loS m num k).1 % (m - k) := by rw [ct_0, Nat.add_zero, hR]
              have hi_F : nuF (loS m num k).2 (m - 0) 0 (rq % (m - k)) = lo m num k := by rw [hR]; rfl
              exact L_56 _ (rq % (m - k)) 0 hi_I hi_DD hi_F (Nat.lt_succ_self _) _ _ hP hD hS ls (lv_sub hl [0, 1, 2, 3, 4, 5, 6, 7] rfl)
        have hi_k : 0 ≤ m := by omega
        have hi_R : num = (loS m num 0).1 := by rfl
        have hi_U : ∀ z, z < m → uq z = (loS m num 0).2 z := by intro z hz; exact hA z (by omega)
        have hi_C : ct (fun z => !((loS m num 0).2 z)) m = m - 0 := by exact ct_full m
        have hi_W : ∀ z, z < 0 → rw (fr + z) = lo m num z := by exact fun z hz => absurd hz (Nat.not_lt_zero z)
        have hi_V : ∀ z, z < fr ∨ fr + 0 ≤ z → rw z = rw z := by exact fun z _ => rfl
        exact L_29 _ 0 num uq rw hi_k hi_R hi_U hi_C hi_W hi_V (Nat.lt_succ_self _) _ _ hP hD hS ls (lv_sub hl [0, 1, 2, 3, 4, 5] rfl)
      · have c_9 : ¬ m ≤ k := fun h9 => c_9 ((nI_leI (by omega) (by omega)).mpr h9)
        refine lv_aload_n hXX hBB dX3_layOrder_12 rfl (lv_at hl 2 rfl) ?_
        refine va_get (D := D) (ci := 3) (v := .ref aU) (C := RX3) (T := TX3) (N := 17) hXX hBB hts iw_X3 hown hK hP 0 rfl rfl 13 (by decide) kw_1 (fun _ h9 => h9) rfl dX3_layOrder_13 ?_
        refine lv_iload hXX hBB dX3_layOrder_16 (lv_at hl 0 rfl) ?_
        refine lv_iconst (v := nI 0) hXX hBB dX3_layOrder_18 (by decide) ?_
        refine m_zast hXX hBB hK hP hD hS 2 1 rfl rfl (i := k) (by omega) (by decide) (g := fun j => bI (updB uq k false j)) (m_updB0 _ _) dX3_layOrder_19 (fun H locs hP hD hS => ?_)
        have hP : va_P D vwCl [(h, .inr (3, [.int (nI g), .int (nI p), .ref aR, .ref aB, .ref aA, .ref aO, .int (nI dm), .ref aD, .ref aP, .int (nI th), .int (nI rm), .ref aS, .ref aW, .ref aU, .ref aL, .ref aE, .ref aQ])), (aW, .inl (cI, 9, .inl (fun j => nI (rw j)))), (aU, .inl (cZ, 9, .inl (fun j => bI (updB uq k false j))))] H := hP
        have hD : va_D AA [(h, .inr (3, [.int (nI g), .int (nI p), .ref aR, .ref aB, .ref aA, .ref aO, .int (nI dm), .ref aD, .ref aP, .int (nI th), .int (nI rm), .ref aS, .ref aW, .ref aU, .ref aL, .ref aE, .ref aQ])), (aW, .inl (cI, 9, .inl (fun j => nI (rw j)))), (aU, .inl (cZ, 9, .inl (fun j => bI (updB uq k false j))))] := hD
        refine lv_iinc (v := nI (k + 1)) (lv' := [(5, .int (nI (k + 1))), (4, .int (nI num)), (0, .ref h), (1, .int (nI num)), (2, .int (nI m)), (3, .int (nI fr))]) hXX hBB dX3_layOrder_20 hl (k := 0) rfl (nI_1 _) (by decide) rfl (fun ls hl => ?_)
        refine lv_goto (tgt := 6) hXX hBB dX3_layOrder_23 (by decide) ?_
        have hi_k : (k + 1) ≤ m := by omega
        have hi_A : ∀ z, z < (k + 1) → (updB uq k false) z = false := by
          intro z hz
          rcases Nat.lt_or_ge z k with q | q
          · rw [updB_n (by omega)]; exact hA z q
          · rw [show z = k by omega, updB_s]
        have hmm : m - (k + 1) < N_6 := by omega
        exact ih_6 (k + 1) (updB uq k false) hi_k hi_A hmm _ _ (hP.sub [0, 1, 2] rfl) (hD.sub [0, 1, 2] (by decide) rfl) hS ls (lv_sub hl [0, 1, 2, 3, 4, 5] rfl)
  have hi_k : 0 ≤ m := by omega
  have hi_A : ∀ z, z < 0 → us z = false := by exact fun z hz => absurd hz (Nat.not_lt_zero z)
  exact L_6 _ 0 us hi_k hi_A (Nat.lt_succ_self _) _ _ hP hD hS ls (lv_sub hl [0, 1, 2, 3, 4, 5] rfl)
abbrev rmX3_isLawful : Room := { frames := 1, cells := 0, slots := 0, locals := 20 }
set_option maxHeartbeats 4000000 in
set_option maxRecDepth 100000 in
theorem kX3_isLawful (l : Launch) (D : va_G) (cI : ClassId) (cZ : ClassId) (h : Nat) (g : Nat) (p : Nat) (aR : Nat) (aB : Nat) (aA : Nat) (aO : Nat) (dm : Nat) (aD : Nat) (aP : Nat) (th : Nat) (rm : Nat) (aS : Nat) (aW : Nat) (aU : Nat) (aL : Nat) (aE : Nat) (aQ : Nat) (rg : Nat → Nat) (bd : Nat → Nat) (ab : Nat → Bool) (ob : Nat → Bool) (S : Nat → Int32) (rw : Nat → Nat) (hT : g * p ≤ 9) (hrg : ∀ z, z < 9 → rg z < 6) (hbd : ∀ z, z < 6 → bd z < 4) (hrw : ∀ z, z < 9 → rw z < 4) : Ci l yX3_isLawful wsX3_isLawful rmX3_isLawful D [(cI, .int), (cZ, .boolean)] [.ref h] [(h, .inr (3, [.int (nI g), .int (nI p), .ref aR, .ref aB, .ref aA, .ref aO, .int (nI dm), .ref aD, .ref aP, .int (nI th), .int (nI rm), .ref aS, .ref aW, .ref aU, .ref aL, .ref aE, .ref aQ])), (aR, .inl (cI, 9, .inl (fun j => nI (rg j)))), (aB, .inl (cI, 6, .inl (fun j => nI (bd j)))), (aA, .inl (cZ, 81, .inl (fun j => bI (ab j)))), (aO, .inl (cZ, 81, .inl (fun j => bI (ob j)))), (aP, .inl (cI, 9, .inl S)), (aW, .inl (cI, 9, .inl (fun j => nI (rw j))))] (fun (r : Int32) (_ : Unit) => r = bI (lawB (g * p) rg bd ab ob S rw)) (fun (_ : Unit) => [(h, .inr (3, [.int (nI g), .int (nI p), .ref aR, .ref aB, .ref aA, .ref aO, .int (nI dm), .ref aD, .ref aP, .int (nI th), .int (nI rm), .ref aS, .ref aW, .ref aU, .ref aL, .ref aE, .ref aQ])), (aR, .inl (cI, 9, .inl (fun j => nI (rg j)))), (aB, .inl (cI, 6, .inl (fun j => nI (bd j)))), (aA, .inl (cZ, 81, .inl (fun j => bI (ab j)))), (aO, .inl (cZ, 81, .inl (fun j => bI (ob j)))), (aP, .inl (cI, 9, .inl S)), (aW, .inl (cI, 9, .inl (fun j => nI (rw j))))]) := by
  refine Ci_of (cc := cX3_isLawful) (maxL := 5) (by decide) rfl (Nat.le_of_ble_eq_true rfl) ?_
  intro pR eV sT mI args below meth cO AA QQ ls hXX hBB hml hown hts hnm hN hK hP hD hS hAA hl hret
  have hl : lv_has ls 5 [(0, .ref h)] := hl
  have kw_5 := hts (.fieldLink RX3 13 "CupDrawModel" "bounds" "[I") (List.mem_of_getElem? (i := 5) rfl)
  have iw_X3 : ∀ w ∈ wsX30, w ∈ wsX3_isLawful := by decide +kernel
  have kw_2 := hts (.fieldLink RX3 7 "CupDrawModel" "regions" "[I") (List.mem_of_getElem? (i := 2) rfl)
  have kw_6 := hts (.fieldLink RX3 26 "CupDrawModel" "places" "[I") (List.mem_of_getElem? (i := 6) rfl)
  have kw_1 := hts (.fieldLink RX3 32 "CupDrawModel" "row" "[I") (List.mem_of_getElem? (i := 1) rfl)
  have kw_3 := hts (.fieldLink RX3 16 "CupDrawModel" "isApart" "[Z") (List.mem_of_getElem? (i := 3) rfl)
  have kw_4 := hts (.fieldLink RX3 20 "CupDrawModel" "isOther" "[Z") (List.mem_of_getElem? (i := 4) rfl)
  refine lv_iconst (v := nI 0) hXX hBB dX3_isLawful_0 (by decide) ?_
  refine lv_istore_n (lv' := [(1, .int (nI 0)), (0, .ref h)]) hXX hBB dX3_isLawful_1 rfl hl (by decide) rfl (fun ls hl => ?_)
  have L_2 : ∀ (N_2 : Nat) (t : Nat), (t ≤ g * p) → (allB (okT (g * p) rg bd ab ob S rw) t = true) → g * p - t < N_2 → ∀ (H : Heap) (locs : List Loc), va_P D vwCl [(h, .inr (3, [.int (nI g), .int (nI p), .ref aR, .ref aB, .ref aA, .ref aO, .int (nI dm), .ref aD, .ref aP, .int (nI th), .int (nI rm), .ref aS, .ref aW, .ref aU, .ref aL, .ref aE, .ref aQ])), (aR, .inl (cI, 9, .inl (fun j => nI (rg j)))), (aB, .inl (cI, 6, .inl (fun j => nI (bd j)))), (aA, .inl (cZ, 81, .inl (fun j => bI (ab j)))), (aO, .inl (cZ, 81, .inl (fun j => bI (ob j)))), (aP, .inl (cI, 9, .inl S)), (aW, .inl (cI, 9, .inl (fun j => nI (rw j))))] H → va_D AA [(h, .inr (3, [.int (nI g), .int (nI p), .ref aR, .ref aB, .ref aA, .ref aO, .int (nI dm), .ref aD, .ref aP, .int (nI th), .int (nI rm), .ref aS, .ref aW, .ref aU, .ref aL, .ref aE, .ref aQ])), (aR, .inl (cI, 9, .inl (fun j => nI (rg j)))), (aB, .inl (cI, 6, .inl (fun j => nI (bd j)))), (aA, .inl (cZ, 81, .inl (fun j => bI (ab j)))), (aO, .inl (cZ, 81, .inl (fun j => bI (ob j)))), (aP, .inl (cI, 9, .inl S)), (aW, .inl (cI, 9, .inl (fun j => nI (rw j))))] → va_S AA sT.heap H locs → ∀ (ls : Array Slot), lv_has ls 5 [(1, .int (nI t)), (0, .ref h)] → W pR l eV rmX3_isLawful sT mI args below meth cO H locs 0 0 QQ (F0 mI 2 ls []) := by
    intro N_2
    induction N_2 with
    | zero =>
      intro t ht hA hMM
      exact absurd hMM (Nat.not_lt_zero _)
    | succ N_2 ih_2 =>
      intro t ht hA hMM H locs hP hD hS ls hl
      refine lv_iload_n hXX hBB dX3_isLawful_2 rfl (lv_at hl 0 rfl) ?_
      refine lv_aload_n hXX hBB dX3_isLawful_3 rfl (lv_at hl 1 rfl) ?_
      refine m_calli (wr := [(aR, .inl (cI, 9, .inl (fun j => nI (rg j)))), (aB, .inl (cI, 6, .inl (fun j => nI (bd j)))), (aA, .inl (cZ, 81, .inl (fun j => bI (ab j)))), (aO, .inl (cZ, 81, .inl (fun j => bI (ob j)))), (aP, .inl (cI, 9, .inl S)), (aW, .inl (cI, 9, .inl (fun j => nI (rw j))))]) ⟨hXX, hBB, hml, hown, hts⟩ hN (kX3_teamMany l D h g p aR aB aA aO dm aD aP th rm aS aW aU aL aE aQ) (cwV 0 hts gX3_isLawful_X3_teamMany rfl rfl rfl (by decide +kernel) ⟨Nat.le_of_ble_eq_true rfl, Nat.le_of_ble_eq_true rfl⟩) hK hP hD hS hAA [0] [1, 2, 3, 4, 5, 6] [] rfl rfl rfl (by decide) (by decide) (by decide) rfl 3 rfl rfl rfl rfl hl.1 rfl (Nat.le_of_ble_eq_true rfl) dX3_isLawful_4 ⟨Nat.le_of_ble_eq_true rfl, Nat.le_of_ble_eq_true rfl⟩ (k := 0) (n := 0) rfl rfl (fun r_1 u_ H locs hw hP hD hS => ?_)
      have hw : (r_1 = nI (g * p)) := hw
      have hr_r_1 := hw
      have hP : va_P D vwCl [(aR, .inl (cI, 9, .inl (fun j => nI (rg j)))), (aB, .inl (cI, 6, .inl (fun j => nI (bd j)))), (aA, .inl (cZ, 81, .inl (fun j => bI (ab j)))), (aO, .inl (cZ, 81, .inl (fun j => bI (ob j)))), (aP, .inl (cI, 9, .inl S)), (aW, .inl (cI, 9, .inl (fun j => nI (rw j)))), (h, .inr (3, [.int (nI g), .int (nI p), .ref aR, .ref aB, .ref aA, .ref aO, .int (nI dm), .ref aD, .ref aP, .int (nI th), .int (nI rm), .ref aS, .ref aW, .ref aU, .ref aL, .ref aE, .ref aQ]))] H := hP
      have hD : va_D AA [(aR, .inl (cI, 9, .inl (fun j => nI (rg j)))), (aB, .inl (cI, 6, .inl (fun j => nI (bd j)))), (aA, .inl (cZ, 81, .inl (fun j => bI (ab j)))), (aO, .inl (cZ, 81, .inl (fun j => bI (ob j)))), (aP, .inl (cI, 9, .inl S)), (aW, .inl (cI, 9, .inl (fun j => nI (rw j)))), (h, .inr (3, [.int (nI g), .int (nI p), .ref aR, .ref aB, .ref aA, .ref aO, .int (nI dm), .ref aD, .ref aP, .int (nI th), .int (nI rm), .ref aS, .ref aW, .ref aU, .ref aL, .ref aE, .ref aQ]))] := hD
      subst hr_r_1
      refine lv_icmp_ge (tgt := 180) hXX hBB dX3_isLawful_7 (by decide) (fun c_7 => ?_) (fun c_7 => ?_)
      · have c_7 : (g * p) ≤ t := (nI_leI (by omega) (by omega)).mp c_7
        have hE : t = g * p := by omega
        refine lv_iconst (v := nI 1) hXX hBB dX3_isLawful_180 (by decide) ?_
        refine hret (r := nI 1) () ?_ (rfl) (hP.sub [6, 0, 1, 2, 3, 4, 5] rfl) (hD.sub [6, 0, 1, 2, 3, 4, 5] (by decide) rfl) hS (Nat.le_of_ble_eq_true rfl) (Nat.le_of_ble_eq_true rfl) dX3_isLawful_181
        show nI 1 = bI (lawB (g * p) rg bd ab ob S rw)
        rw [hE] at hA
        unfold lawB
        rw [hA]
        rfl
      · have c_7 : ¬ (g * p) ≤ t := fun h9 => c_7 ((nI_leI (by omega) (by omega)).mpr h9)
        have htT : t < g * p := by omega
        have h4t := hrw t (by omega)
        have h6t := hrg t (by omega)
        refine lv_iconst (v := nI 0) hXX hBB dX3_isLawful_10 (by decide) ?_
        refine lv_istore_n (lv' := [(2, .int (nI 0)), (1, .int (nI t)), (0, .ref h)]) hXX hBB dX3_isLawful_11 rfl hl (by decide) rfl (fun ls hl => ?_)
        refine lv_iconst (v := nI 0) hXX hBB dX3_isLawful_12 (by decide) ?_
        refine lv_istore_n (lv' := [(3, .int (nI 0)), (2, .int (nI 0)), (1, .int (nI t)), (0, .ref h)]) hXX hBB dX3_isLawful_13 rfl hl (by decide) rfl (fun ls hl => ?_)
        have L_14 : ∀ (N_14 : Nat) (o : Nat) (sa : Nat), (o ≤ g * p) → (sa = ct (smT rg rw t) o) → (allB (okP ab ob rw t) o = true) → g * p - o < N_14 → ∀ (H : Heap) (locs : List Loc), va_P D vwCl [(aR, .inl (cI, 9, .inl (fun j => nI (rg j)))), (aB, .inl (cI, 6, .inl (fun j => nI (bd j)))), (aA, .inl (cZ, 81, .inl (fun j => bI (ab j)))), (aO, .inl (cZ, 81, .inl (fun j => bI (ob j)))), (aP, .inl (cI, 9, .inl S)), (aW, .inl (cI, 9, .inl (fun j => nI (rw j)))), (h, .inr (3, [.int (nI g), .int (nI p), .ref aR, .ref aB, .ref aA, .ref aO, .int (nI dm), .ref aD, .ref aP, .int (nI th), .int (nI rm), .ref aS, .ref aW, .ref aU, .ref aL, .ref aE, .ref aQ]))] H → va_D AA [(aR, .inl (cI, 9, .inl (fun j => nI (rg j)))), (aB, .inl (cI, 6, .inl (fun j => nI (bd j)))), (aA, .inl (cZ, 81, .inl (fun j => bI (ab j)))), (aO, .inl (cZ, 81, .inl (fun j => bI (ob j)))), (aP, .inl (cI, 9, .inl S)), (aW, .inl (cI, 9, .inl (fun j => nI (rw j)))), (h, .inr (3, [.int (nI g), .int (nI p), .ref aR, .ref aB, .ref aA, .ref aO, .int (nI dm), .ref aD, .ref aP, .int (nI th), .int (nI rm), .ref aS, .ref aW, .ref aU, .ref aL, .ref aE, .ref aQ]))] → va_S AA sT.heap H locs → ∀ (ls : Array Slot), lv_has ls 5 [(3, .int (nI o)), (2, .int (nI sa)), (1, .int (nI t)), (0, .ref h)] → W pR l eV rmX3_isLawful sT mI args below meth cO H locs 0 0 QQ (F0 mI 14 ls []) := by
          intro N_14
          induction N_14 with
          | zero =>
            intro o sa ho hsa hP9 hMM
            exact absurd hMM (Nat.not_lt_zero _)
          | succ N_14 ih_14 =>
            intro o sa ho hsa hP9 hMM H locs hP hD hS ls hl
            refine lv_iload_n hXX hBB dX3_isLawful_14 rfl (lv_at hl 0 rfl) ?_
            refine lv_aload_n hXX hBB dX3_isLawful_15 rfl (lv_at hl 3 rfl) ?_
            refine m_calli (wr := [(aR, .inl (cI, 9, .inl (fun j => nI (rg j)))), (aB, .inl (cI, 6, .inl (fun j => nI (bd j)))), (aA, .inl (cZ, 81, .inl (fun j => bI (ab j)))), (aO, .inl (cZ, 81, .inl (fun j => bI (ob j)))), (aP, .inl (cI, 9, .inl S)), (aW, .inl (cI, 9, .inl (fun j => nI (rw j))))]) ⟨hXX, hBB, hml, hown, hts⟩ hN (kX3_teamMany l D h g p aR aB aA aO dm aD aP th rm aS aW aU aL aE aQ) (cwV 0 hts gX3_isLawful_X3_teamMany rfl rfl rfl (by decide +kernel) ⟨Nat.le_of_ble_eq_true rfl, Nat.le_of_ble_eq_true rfl⟩) hK hP hD hS hAA [6] [0, 1, 2, 3, 4, 5] [] rfl rfl rfl (by decide) (by decide) (by decide) rfl 3 rfl rfl rfl rfl hl.1 rfl (Nat.le_of_ble_eq_true rfl) dX3_isLawful_16 ⟨Nat.le_of_ble_eq_true rfl, Nat.le_of_ble_eq_true rfl⟩ (k := 0) (n := 0) rfl rfl (fun r_2 u_ H locs hw hP hD hS => ?_)
            have hw : (r_2 = nI (g * p)) := hw
            have hr_r_2 := hw
            have hP : va_P D vwCl [(aR, .inl (cI, 9, .inl (fun j => nI (rg j)))), (aB, .inl (cI, 6, .inl (fun j => nI (bd j)))), (aA, .inl (cZ, 81, .inl (fun j => bI (ab j)))), (aO, .inl (cZ, 81, .inl (fun j => bI (ob j)))), (aP, .inl (cI, 9, .inl S)), (aW, .inl (cI, 9, .inl (fun j => nI (rw j)))), (h, .inr (3, [.int (nI g), .int (nI p), .ref aR, .ref aB, .ref aA, .ref aO, .int (nI dm), .ref aD, .ref aP, .int (nI th), .int (nI rm), .ref aS, .ref aW, .ref aU, .ref aL, .ref aE, .ref aQ]))] H := hP
            have hD : va_D AA [(aR, .inl (cI, 9, .inl (fun j => nI (rg j)))), (aB, .inl (cI, 6, .inl (fun j => nI (bd j)))), (aA, .inl (cZ, 81, .inl (fun j => bI (ab j)))), (aO, .inl (cZ, 81, .inl (fun j => bI (ob j)))), (aP, .inl (cI, 9, .inl S)), (aW, .inl (cI, 9, .inl (fun j => nI (rw j)))), (h, .inr (3, [.int (nI g), .int (nI p), .ref aR, .ref aB, .ref aA, .ref aO, .int (nI dm), .ref aD, .ref aP, .int (nI th), .int (nI rm), .ref aS, .ref aW, .ref aU, .ref aL, .ref aE, .ref aQ]))] := hD
            subst hr_r_2
            refine lv_icmp_ge (tgt := 132) hXX hBB dX3_isLawful_19 (by decide) (fun c_19 => ?_) (fun c_19 => ?_)
            · have c_19 : (g * p) ≤ o := (nI_leI (by omega) (by omega)).mp c_19
              have hE2 : o = g * p := by omega
              have hcs := ct_le (smT rg rw t) o
              rw [hE2] at hsa hP9 hcs
              have hbt := hbd (rg t) h6t
              refine lv_iload_n hXX hBB dX3_isLawful_132 rfl (lv_at hl 1 rfl) ?_
              refine lv_aload_n hXX hBB dX3_isLawful_133 rfl (lv_at hl 3 rfl) ?_
              refine va_get (D := D) (ci := 3) (v := .ref aB) (C := RX3) (T := TX3) (N := 17) hXX hBB hts iw_X3 hown hK hP 6 rfl rfl 3 (by decide) kw_5 (fun _ h9 => h9) rfl dX3_isLawful_134 ?_
              refine lv_aload_n hXX hBB dX3_isLawful_137 rfl (lv_at hl 3 rfl) ?_
              refine va_get (D := D) (ci := 3) (v := .ref aR) (C := RX3) (T := TX3) (N := 17) hXX hBB hts iw_X3 hown hK hP 6 rfl rfl 2 (by decide) kw_2 (fun _ h9 => h9) rfl dX3_isLawful_138 ?_
              refine lv_iload_n hXX hBB dX3_isLawful_141 rfl (lv_at hl 2 rfl) ?_
              refine m_iald hXX hBB hK hP 0 0 rfl rfl (i := t) (by omega) (by decide) (x := nI (rg t)) rfl dX3_isLawful_142 ?_
              refine m_iald hXX hBB hK hP 1 0 rfl rfl (i := rg t) (by omega) (by decide) (x := nI (bd (rg t))) rfl dX3_isLawful_143 ?_
              refine lv_icmp_gt (tgt := 172) hXX hBB dX3_isLawful_144 (by decide) (fun c_144 => ?_) (fun c_144 => ?_)
              · have c_144 : (bd (rg t)) < sa := (nI_ltI (by omega) (by omega)).mp c_144
                
                refine lv_iconst (v := nI 0) hXX hBB dX3_isLawful_172 (by decide) ?_
                refine hret (r := nI 0) () ?_ (rfl) (hP.sub [6, 0, 1, 2, 3, 4, 5] rfl) (hD.sub [6, 0, 1, 2, 3, 4, 5] (by decide) rfl) hS (Nat.le_of_ble_eq_true rfl) (Nat.le_of_ble_eq_true rfl) dX3_isLawful_173
                show nI 0 = bI (lawB (g * p) rg bd ab ob S rw)
                exact law_f htT (by first | (simp [okT, ← hsa, Nat.not_le.mpr c_144]; done) | (simp [okT, c_154, c_169]; done))
              · have c_144 : ¬ (bd (rg t)) < sa := fun h9 => c_144 ((nI_ltI (by omega) (by omega)).mpr h9)
                refine lv_aload_n hXX hBB dX3_isLawful_147 rfl (lv_at hl 3 rfl) ?_
                refine va_get (D := D) (ci := 3) (v := .ref aP) (C := RX3) (T := TX3) (N := 17) hXX hBB hts iw_X3 hown hK hP 6 rfl rfl 8 (by decide) kw_6 (fun _ h9 => h9) rfl dX3_isLawful_148 ?_
                refine lv_iload_n hXX hBB dX3_isLawful_151 rfl (lv_at hl 2 rfl) ?_
                refine m_iald hXX hBB hK hP 4 0 rfl rfl (i := t) (by omega) (by decide) (x := S t) rfl dX3_isLawful_152 ?_
                refine lv_iconst (v := (-1)) hXX hBB dX3_isLawful_153 (by decide) ?_
                refine lv_icmp_eq (tgt := 174) hXX hBB dX3_isLawful_154 (by decide) (fun c_154 => ?_) (fun c_154 => ?_)
                · have c_154 := c_154
                  have hok : okT (g * p) rg bd ab ob S rw t = true := by simp [okT, hP9, ← hsa, c_144, c_154, Nat.not_lt.mp c_144]
                  refine lv_iinc (v := nI (t + 1)) (lv' := [(1, .int (nI (t + 1))), (3, .int (nI o)), (2, .int (nI sa)), (0, .ref h)]) hXX hBB dX3_isLawful_174 hl (k := 2) rfl (nI_1 _) (by decide) rfl (fun ls hl => ?_)
                  refine lv_goto (tgt := 2) hXX hBB dX3_isLawful_177 (by decide) ?_
                  have hi_t : (t + 1) ≤ g * p := by omega
                  have hi_A : allB (okT (g * p) rg bd ab ob S rw) (t + 1) = true := by exact allB_s hA hok
                  have hmm : g * p - (t + 1) < N_2 := by omega
                  exact ih_2 (t + 1) hi_t hi_A hmm _ _ (hP.sub [6, 0, 1, 2, 3, 4, 5] rfl) (hD.sub [6, 0, 1, 2, 3, 4, 5] (by decide) rfl) hS ls (lv_sub hl [0, 3] rfl)
                · have c_154 := c_154
                  refine lv_aload_n hXX hBB dX3_isLawful_157 rfl (lv_at hl 3 rfl) ?_
                  refine va_get (D := D) (ci := 3) (v := .ref aP) (C := RX3) (T := TX3) (N := 17) hXX hBB hts iw_X3 hown hK hP 6 rfl rfl 8 (by decide) kw_6 (fun _ h9 => h9) rfl dX3_isLawful_158 ?_
                  refine lv_iload_n hXX hBB dX3_isLawful_161 rfl (lv_at hl 2 rfl) ?_
                  refine m_iald hXX hBB hK hP 4 0 rfl rfl (i := t) (by omega) (by decide) (x := S t) rfl dX3_isLawful_162 ?_
                  refine lv_aload_n hXX hBB dX3_isLawful_163 rfl (lv_at hl 3 rfl) ?_
                  refine va_get (D := D) (ci := 3) (v := .ref aW) (C := RX3) (T := TX3) (N := 17) hXX hBB hts iw_X3 hown hK hP 6 rfl rfl 12 (by decide) kw_1 (fun _ h9 => h9) rfl dX3_isLawful_164 ?_
                  refine lv_iload_n hXX hBB dX3_isLawful_167 rfl (lv_at hl 2 rfl) ?_
                  refine m_iald hXX hBB hK hP 5 0 rfl rfl (i := t) (by omega) (by decide) (x := nI (rw t)) rfl dX3_isLawful_168 ?_
                  refine lv_icmp_eq (tgt := 174) hXX hBB dX3_isLawful_169 (by decide) (fun c_169 => ?_) (fun c_169 => ?_)
                  · have c_169 := c_169
                    have hok : okT (g * p) rg bd ab ob S rw t = true := by simp [okT, hP9, ← hsa, c_169, Nat.not_lt.mp c_144]
                    refine lv_iinc (v := nI (t + 1)) (lv' := [(1, .int (nI (t + 1))), (3, .int (nI o)), (2, .int (nI sa)), (0, .ref h)]) hXX hBB dX3_isLawful_174 hl (k := 2) rfl (nI_1 _) (by decide) rfl (fun ls hl => ?_)
                    refine lv_goto (tgt := 2) hXX hBB dX3_isLawful_177 (by decide) ?_
                    have hi_t : (t + 1) ≤ g * p := by omega
                    have hi_A : allB (okT (g * p) rg bd ab ob S rw) (t + 1) = true := by exact allB_s hA hok
                    have hmm : g * p - (t + 1) < N_2 := by omega
                    exact ih_2 (t + 1) hi_t hi_A hmm _ _ (hP.sub [6, 0, 1, 2, 3, 4, 5] rfl) (hD.sub [6, 0, 1, 2, 3, 4, 5] (by decide) rfl) hS ls (lv_sub hl [0, 3] rfl)
                  · have c_169 := c_169
                    refine lv_iconst (v := nI 0) hXX hBB dX3_isLawful_172 (by decide) ?_
                    refine hret (r := nI 0) () ?_ (rfl) (hP.sub [6, 0, 1, 2, 3, 4, 5] rfl) (hD.sub [6, 0, 1, 2, 3, 4, 5] (by decide) rfl) hS (Nat.le_of_ble_eq_true rfl) (Nat.le_of_ble_eq_true rfl) dX3_isLawful_173
                    show nI 0 = bI (lawB (g * p) rg bd ab ob S rw)
                    exact law_f htT (by first | (simp [okT, ← hsa, Nat.not_le.mpr c_144]; done) | (simp [okT, c_154, c_169]; done))
            · have c_19 : ¬ (g * p) ≤ o := fun h9 => c_19 ((nI_leI (by omega) (by omega)).mpr h9)
              have hoT : o < g * p := by omega
              have h4o := hrw o (by omega)
              have h6o := hrg o (by omega)
              have hcs := ct_le (smT rg rw t) o
              have J_42 : ∀ (H : Heap) (locs : List Loc), va_P D vwCl [(aR, .inl (cI, 9, .inl (fun j => nI (rg j)))), (aB, .inl (cI, 6, .inl (fun j => nI (bd j)))), (aA, .inl (cZ, 81, .inl (fun j => bI (ab j)))), (aO, .inl (cZ, 81, .inl (fun j => bI (ob j)))), (aP, .inl (cI, 9, .inl S)), (aW, .inl (cI, 9, .inl (fun j => nI (rw j)))), (h, .inr (3, [.int (nI g), .int (nI p), .ref aR, .ref aB, .ref aA, .ref aO, .int (nI dm), .ref aD, .ref aP, .int (nI th), .int (nI rm), .ref aS, .ref aW, .ref aU, .ref aL, .ref aE, .ref aQ]))] H → va_D AA [(aR, .inl (cI, 9, .inl (fun j => nI (rg j)))), (aB, .inl (cI, 6, .inl (fun j => nI (bd j)))), (aA, .inl (cZ, 81, .inl (fun j => bI (ab j)))), (aO, .inl (cZ, 81, .inl (fun j => bI (ob j)))), (aP, .inl (cI, 9, .inl S)), (aW, .inl (cI, 9, .inl (fun j => nI (rw j)))), (h, .inr (3, [.int (nI g), .int (nI p), .ref aR, .ref aB, .ref aA, .ref aO, .int (nI dm), .ref aD, .ref aP, .int (nI th), .int (nI rm), .ref aS, .ref aW, .ref aU, .ref aL, .ref aE, .ref aQ]))] → va_S AA sT.heap H locs → ∀ (ls : Array Slot), lv_has ls 5 [(3, .int (nI o)), (2, .int (nI sa)), (1, .int (nI t)), (0, .ref h)] → W pR l eV rmX3_isLawful sT mI args below meth cO H locs 0 0 QQ (F0 mI 42 ls [.int (bI (decide (rw t = rw o)))]) := by
                intro H locs hP hD hS ls hl
                refine lv_istore (lv' := [(4, .int (bI (decide (rw t = rw o)))), (3, .int (nI o)), (2, .int (nI sa)), (1, .int (nI t)), (0, .ref h)]) hXX hBB dX3_isLawful_42 hl (by decide) rfl (fun ls hl => ?_)
                refine lv_iload_n hXX hBB dX3_isLawful_44 rfl (lv_at hl 2 rfl) ?_
                have J_70 : ∀ (H : Heap) (locs : List Loc), va_P D vwCl [(aR, .inl (cI, 9, .inl (fun j => nI (rg j)))), (aB, .inl (cI, 6, .inl (fun j => nI (bd j)))), (aA, .inl (cZ, 81, .inl (fun j => bI (ab j)))), (aO, .inl (cZ, 81, .inl (fun j => bI (ob j)))), (aP, .inl (cI, 9, .inl S)), (aW, .inl (cI, 9, .inl (fun j => nI (rw j)))), (h, .inr (3, [.int (nI g), .int (nI p), .ref aR, .ref aB, .ref aA, .ref aO, .int (nI dm), .ref aD, .ref aP, .int (nI th), .int (nI rm), .ref aS, .ref aW, .ref aU, .ref aL, .ref aE, .ref aQ]))] H → va_D AA [(aR, .inl (cI, 9, .inl (fun j => nI (rg j)))), (aB, .inl (cI, 6, .inl (fun j => nI (bd j)))), (aA, .inl (cZ, 81, .inl (fun j => bI (ab j)))), (aO, .inl (cZ, 81, .inl (fun j => bI (ob j)))), (aP, .inl (cI, 9, .inl S)), (aW, .inl (cI, 9, .inl (fun j => nI (rw j)))), (h, .inr (3, [.int (nI g), .int (nI p), .ref aR, .ref aB, .ref aA, .ref aO, .int (nI dm), .ref aD, .ref aP, .int (nI th), .int (nI rm), .ref aS, .ref aW, .ref aU, .ref aL, .ref aE, .ref aQ]))] → va_S AA sT.heap H locs → ∀ (ls : Array Slot), lv_has ls 5 [(4, .int (bI (decide (rw t = rw o)))), (3, .int (nI o)), (2, .int (nI sa)), (1, .int (nI t)), (0, .ref h)] → W pR l eV rmX3_isLawful sT mI args below meth cO H locs 0 0 QQ (F0 mI 70 ls [.int (nI ((smT rg rw t o).toNat)), .int (nI sa)]) := by
                  intro H locs hP hD hS ls hl
                  refine lv_iadd hXX hBB dX3_isLawful_70 ?_
                  refine m_top (y := nI (sa + ((smT rg rw t o).toNat))) (nI_add _ _) ?_
                  refine lv_istore_n (lv' := [(2, .int (nI (sa + ((smT rg rw t o).toNat)))), (4, .int (bI (decide (rw t = rw o)))), (3, .int (nI o)), (1, .int (nI t)), (0, .ref h)]) hXX hBB dX3_isLawful_71 rfl hl (by decide) rfl (fun ls hl => ?_)
                  refine lv_aload_n hXX hBB dX3_isLawful_72 rfl (lv_at hl 4 rfl) ?_
                  refine va_get (D := D) (ci := 3) (v := .ref aA) (C := RX3) (T := TX3) (N := 17) hXX hBB hts iw_X3 hown hK hP 6 rfl rfl 4 (by decide) kw_3 (fun _ h9 => h9) rfl dX3_isLawful_73 ?_
                  refine lv_bipush (v := nI 9) hXX hBB dX3_isLawful_76 (by decide) ?_
                  refine lv_iload_n hXX hBB dX3_isLawful_78 rfl (lv_at hl 3 rfl) ?_
                  refine lv_imul hXX hBB dX3_isLawful_79 ?_
                  refine m_top (y := nI (9 * t)) (pk_mul _ _) ?_
                  refine lv_iload_n hXX hBB dX3_isLawful_80 rfl (lv_at hl 2 rfl) ?_
                  refine lv_iadd hXX hBB dX3_isLawful_81 ?_
                  refine m_top (y := nI ((9 * t) + o)) (nI_add _ _) ?_
                  refine m_zald hXX hBB hK hP 2 1 rfl rfl (i := (9 * t) + o) (by omega) (by decide) (x := bI (ab ((9 * t) + o))) rfl dX3_isLawful_82 ?_
                  refine lv_if_eq (tgt := 91) hXX hBB dX3_isLawful_83 (by decide) (fun c_83 => ?_) (fun c_83 => ?_)
                  · have c_83 : (ab ((9 * t) + o)) = false := m_bz0 c_83
                    refine lv_aload_n hXX hBB dX3_isLawful_91 rfl (lv_at hl 4 rfl) ?_
                    refine va_get (D := D) (ci := 3) (v := .ref aO) (C := RX3) (T := TX3) (N := 17) hXX hBB hts iw_X3 hown hK hP 6 rfl rfl 5 (by decide) kw_4 (fun _ h9 => h9) rfl dX3_isLawful_92 ?_
                    refine lv_bipush (v := nI 9) hXX hBB dX3_isLawful_95 (by decide) ?_
                    refine lv_iload_n hXX hBB dX3_isLawful_97 rfl (lv_at hl 3 rfl) ?_
                    refine lv_imul hXX hBB dX3_isLawful_98 ?_
                    refine m_top (y := nI (9 * t)) (pk_mul _ _) ?_
                    refine lv_iload_n hXX hBB dX3_isLawful_99 rfl (lv_at hl 2 rfl) ?_
                    refine lv_iadd hXX hBB dX3_isLawful_100 ?_
                    refine m_top (y := nI ((9 * t) + o)) (nI_add _ _) ?_
                    refine m_zald hXX hBB hK hP 3 1 rfl rfl (i := (9 * t) + o) (by omega) (by decide) (x := bI (ob ((9 * t) + o))) rfl dX3_isLawful_101 ?_
                    refine lv_if_eq (tgt := 126) hXX hBB dX3_isLawful_102 (by decide) (fun c_102 => ?_) (fun c_102 => ?_)
                    · have c_102 : (ob ((9 * t) + o)) = false := m_bz0 c_102
                      refine lv_iinc (v := nI (o + 1)) (lv' := [(3, .int (nI (o + 1))), (2, .int (nI (sa + ((smT rg rw t o).toNat)))), (4, .int (bI (decide (rw t = rw o)))), (1, .int (nI t)), (0, .ref h)]) hXX hBB dX3_isLawful_126 hl (k := 2) rfl (nI_1 _) (by decide) rfl (fun ls hl => ?_)
                      refine lv_goto (tgt := 14) hXX hBB dX3_isLawful_129 (by decide) ?_
                      have hi_o : (o + 1) ≤ g * p := by omega
                      have hi_sa : (sa + ((smT rg rw t o).toNat)) = ct (smT rg rw t) (o + 1) := by rw [ct_s, hsa]
                      have hi_P9 : allB (okP ab ob rw t) (o + 1) = true := by exact allB_s hP9 (by first | (simp [okP, c_83, c_102]; done) | (simp [okP, c_88, c_102]; done) | (simp [okP, c_83, c_121]; done) | (simp [okP, c_88, c_121]; done))
                      have hmm : g * p - (o + 1) < N_14 := by omega
                      exact ih_14 (o + 1) (sa + ((smT rg rw t o).toNat)) hi_o hi_sa hi_P9 hmm _ _ (hP.sub [0, 1, 2, 3, 4, 5, 6] rfl) (hD.sub [0, 1, 2, 3, 4, 5, 6] (by decide) rfl) hS ls (lv_sub hl [0, 1, 3, 4] rfl)
                    · have c_102 : (ob ((9 * t) + o)) = true := m_bz1 c_102
                      refine lv_aload_n hXX hBB dX3_isLawful_105 rfl (lv_at hl 4 rfl) ?_
                      refine va_get (D := D) (ci := 3) (v := .ref aW) (C := RX3) (T := TX3) (N := 17) hXX hBB hts iw_X3 hown hK hP 6 rfl rfl 12 (by decide) kw_1 (fun _ h9 => h9) rfl dX3_isLawful_106 ?_
                      refine lv_iload_n hXX hBB dX3_isLawful_109 rfl (lv_at hl 3 rfl) ?_
                      refine m_iald hXX hBB hK hP 5 0 rfl rfl (i := t) (by omega) (by decide) (x := nI (rw t)) rfl dX3_isLawful_110 ?_
                      refine lv_iconst (v := nI 2) hXX hBB dX3_isLawful_111 (by decide) ?_
                      refine lv_irem hXX hBB dX3_isLawful_112 (nI_ne0 (by omega) (by omega)) ?_
                      refine m_top (y := nI ((rw t) % 2)) (pk_rem (by omega) (by omega) (by omega)) ?_
                      refine lv_aload_n hXX hBB dX3_isLawful_113 rfl (lv_at hl 4 rfl) ?_
                      refine va_get (D := D) (ci := 3) (v := .ref aW) (C := RX3) (T := TX3) (N := 17) hXX hBB hts iw_X3 hown hK hP 6 rfl rfl 12 (by decide) kw_1 (fun _ h9 => h9) rfl dX3_isLawful_114 ?_
                      refine lv_iload_n hXX hBB dX3_isLawful_117 rfl (lv_at hl 2 rfl) ?_
                      refine m_iald hXX hBB hK hP 5 0 rfl rfl (i := o) (by omega) (by decide) (x := nI (rw o)) rfl dX3_isLawful_118 ?_
                      refine lv_iconst (v := nI 2) hXX hBB dX3_isLawful_119 (by decide) ?_
                      refine lv_irem hXX hBB dX3_isLawful_120 (nI_ne0 (by omega) (by omega)) ?_
                      refine m_top (y := nI ((rw o) % 2)) (pk_rem (by omega) (by omega) (by omega)) ?_
                      refine lv_icmp_ne (tgt := 126) hXX hBB dX3_isLawful_121 (by decide) (fun c_121 => ?_) (fun c_121 => ?_)
                      · have c_121 : ¬ ((rw t) % 2) = ((rw o) % 2) := fun h9 => c_121 ((nI_eq (by omega) (by omega)).mpr h9)
                        refine lv_iinc (v := nI (o + 1)) (lv' := [(3, .int (nI (o + 1))), (2, .int (nI (sa + ((smT rg rw t o).toNat)))), (4, .int (bI (decide (rw t = rw o)))), (1, .int (nI t)), (0, .ref h)]) hXX hBB dX3_isLawful_126 hl (k := 2) rfl (nI_1 _) (by decide) rfl (fun ls hl => ?_)
                        refine lv_goto (tgt := 14) hXX hBB dX3_isLawful_129 (by decide) ?_
                        have hi_o : (o + 1) ≤ g * p := by omega
                        have hi_sa : (sa + ((smT rg rw t o).toNat)) = ct (smT rg rw t) (o + 1) := by rw [ct_s, hsa]
                        have hi_P9 : allB (okP ab ob rw t) (o + 1) = true := by exact allB_s hP9 (by first | (simp [okP, c_83, c_102]; done) | (simp [okP, c_88, c_102]; done) | (simp [okP, c_83, c_121]; done) | (simp [okP, c_88, c_121]; done))
                        have hmm : g * p - (o + 1) < N_14 := by omega
                        exact ih_14 (o + 1) (sa + ((smT rg rw t o).toNat)) hi_o hi_sa hi_P9 hmm _ _ (hP.sub [0, 1, 2, 3, 4, 5, 6] rfl) (hD.sub [0, 1, 2, 3, 4, 5, 6] (by decide) rfl) hS ls (lv_sub hl [0, 1, 3, 4] rfl)
                      · have c_121 : ((rw t) % 2) = ((rw o) % 2) := (nI_eq (by omega) (by omega)).mp c_121
                        refine lv_iconst (v := nI 0) hXX hBB dX3_isLawful_124 (by decide) ?_
                        refine hret (r := nI 0) () ?_ (rfl) (hP.sub [6, 0, 1, 2, 3, 4, 5] rfl) (hD.sub [6, 0, 1, 2, 3, 4, 5] (by decide) rfl) hS (Nat.le_of_ble_eq_true rfl) (Nat.le_of_ble_eq_true rfl) dX3_isLawful_125
                        show nI 0 = bI (lawB (g * p) rg bd ab ob S rw)
                        exact law_f htT (okT_f1 hoT (by first | (simp [okP, c_83, c_88]; done) | (simp [okP, c_102, c_121]; done)))
                  · have c_83 : (ab ((9 * t) + o)) = true := m_bz1 c_83
                    refine lv_iload hXX hBB dX3_isLawful_86 (lv_at hl 1 rfl) ?_
                    refine lv_if_ne (tgt := 124) hXX hBB dX3_isLawful_88 (by decide) (fun c_88 => ?_) (fun c_88 => ?_)
                    · have c_88 : (decide (rw t = rw o)) = true := m_bz1 c_88
                      refine lv_iconst (v := nI 0) hXX hBB dX3_isLawful_124 (by decide) ?_
                      refine hret (r := nI 0) () ?_ (rfl) (hP.sub [6, 0, 1, 2, 3, 4, 5] rfl) (hD.sub [6, 0, 1, 2, 3, 4, 5] (by decide) rfl) hS (Nat.le_of_ble_eq_true rfl) (Nat.le_of_ble_eq_true rfl) dX3_isLawful_125
                      show nI 0 = bI (lawB (g * p) rg bd ab ob S rw)
                      exact law_f htT (okT_f1 hoT (by first | (simp [okP, c_83, c_88]; done) | (simp [okP, c_102, c_121]; done)))
                    · have c_88 : (decide (rw t = rw o)) = false := m_bz0 c_88
                      refine lv_aload_n hXX hBB dX3_isLawful_91 rfl (lv_at hl 4 rfl) ?_
                      refine va_get (D := D) (ci := 3) (v := .ref aO) (C := RX3) (T := TX3) (N := 17) hXX hBB hts iw_X3 hown hK hP 6 rfl rfl 5 (by decide) kw_4 (fun _ h9 => h9) rfl dX3_isLawful_92 ?_
                      refine lv_bipush (v := nI 9) hXX hBB dX3_isLawful_95 (by decide) ?_
                      refine lv_iload_n hXX hBB dX3_isLawful_97 rfl (lv_at hl 3 rfl) ?_
                      refine lv_imul hXX hBB dX3_isLawful_98 ?_
                      refine m_top (y := nI (9 * t)) (pk_mul _ _) ?_
                      refine lv_iload_n hXX hBB dX3_isLawful_99 rfl (lv_at hl 2 rfl) ?_
                      refine lv_iadd hXX hBB dX3_isLawful_100 ?_
                      refine m_top (y := nI ((9 * t) + o)) (nI_add _ _) ?_
                      refine m_zald hXX hBB hK hP 3 1 rfl rfl (i := (9 * t) + o) (by omega) (by decide) (x := bI (ob ((9 * t) + o))) rfl dX3_isLawful_101 ?_
                      refine lv_if_eq (tgt := 126) hXX hBB dX3_isLawful_102 (by decide) (fun c_102 => ?_) (fun c_102 => ?_)
                      · have c_102 : (ob ((9 * t) + o)) = false := m_bz0 c_102
                        refine lv_iinc (v := nI (o + 1)) (lv' := [(3, .int (nI (o + 1))), (2, .int (nI (sa + ((smT rg rw t o).toNat)))), (4, .int (bI (decide (rw t = rw o)))), (1, .int (nI t)), (0, .ref h)]) hXX hBB dX3_isLawful_126 hl (k := 2) rfl (nI_1 _) (by decide) rfl (fun ls hl => ?_)
                        refine lv_goto (tgt := 14) hXX hBB dX3_isLawful_129 (by decide) ?_
                        have hi_o : (o + 1) ≤ g * p := by omega
                        have hi_sa : (sa + ((smT rg rw t o).toNat)) = ct (smT rg rw t) (o + 1) := by rw [ct_s, hsa]
                        have hi_P9 : allB (okP ab ob rw t) (o + 1) = true := by exact allB_s hP9 (by first | (simp [okP, c_83, c_102]; done) | (simp [okP, c_88, c_102]; done) | (simp [okP, c_83, c_121]; done) | (simp [okP, c_88, c_121]; done))
                        have hmm : g * p - (o + 1) < N_14 := by omega
                        exact ih_14 (o + 1) (sa + ((smT rg rw t o).toNat)) hi_o hi_sa hi_P9 hmm _ _ (hP.sub [0, 1, 2, 3, 4, 5, 6] rfl) (hD.sub [0, 1, 2, 3, 4, 5, 6] (by decide) rfl) hS ls (lv_sub hl [0, 1, 3, 4] rfl)
                      · have c_102 : (ob ((9 * t) + o)) = true := m_bz1 c_102
                        refine lv_aload_n hXX hBB dX3_isLawful_105 rfl (lv_at hl 4 rfl) ?_
                        refine va_get (D := D) (ci := 3) (v := .ref aW) (C := RX3) (T := TX3) (N := 17) hXX hBB hts iw_X3 hown hK hP 6 rfl rfl 12 (by decide) kw_1 (fun _ h9 => h9) rfl dX3_isLawful_106 ?_
                        refine lv_iload_n hXX hBB dX3_isLawful_109 rfl (lv_at hl 3 rfl) ?_
                        refine m_iald hXX hBB hK hP 5 0 rfl rfl (i := t) (by omega) (by decide) (x := nI (rw t)) rfl dX3_isLawful_110 ?_
                        refine lv_iconst (v := nI 2) hXX hBB dX3_isLawful_111 (by decide) ?_
                        refine lv_irem hXX hBB dX3_isLawful_112 (nI_ne0 (by omega) (by omega)) ?_
                        refine m_top (y := nI ((rw t) % 2)) (pk_rem (by omega) (by omega) (by omega)) ?_
                        refine lv_aload_n hXX hBB dX3_isLawful_113 rfl (lv_at hl 4 rfl) ?_
                        refine va_get (D := D) (ci := 3) (v := .ref aW) (C := RX3) (T := TX3) (N := 17) hXX hBB hts iw_X3 hown hK hP 6 rfl rfl 12 (by decide) kw_1 (fun _ h9 => h9) rfl dX3_isLawful_114 ?_
                        refine lv_iload_n hXX hBB dX3_isLawful_117 rfl (lv_at hl 2 rfl) ?_
                        refine m_iald hXX hBB hK hP 5 0 rfl rfl (i := o) (by omega) (by decide) (x := nI (rw o)) rfl dX3_isLawful_118 ?_
                        refine lv_iconst (v := nI 2) hXX hBB dX3_isLawful_119 (by decide) ?_
                        refine lv_irem hXX hBB dX3_isLawful_120 (nI_ne0 (by omega) (by omega)) ?_
                        refine m_top (y := nI ((rw o) % 2)) (pk_rem (by omega) (by omega) (by omega)) ?_
                        refine lv_icmp_ne (tgt := 126) hXX hBB dX3_isLawful_121 (by decide) (fun c_121 => ?_) (fun c_121 => ?_)
                        · have c_121 : ¬ ((rw t) % 2) = ((rw o) % 2) := fun h9 => c_121 ((nI_eq (by omega) (by omega)).mpr h9)
                          refine lv_iinc (v := nI (o + 1)) (lv' := [(3, .int (nI (o + 1))), (2, .int (nI (sa + ((smT rg rw t o).toNat)))), (4, .int (bI (decide (rw t = rw o)))), (1, .int (nI t)), (0, .ref h)]) hXX hBB dX3_isLawful_126 hl (k := 2) rfl (nI_1 _) (by decide) rfl (fun ls hl => ?_)
                          refine lv_goto (tgt := 14) hXX hBB dX3_isLawful_129 (by decide) ?_
                          have hi_o : (o + 1) ≤ g * p := by omega
                          have hi_sa : (sa + ((smT rg rw t o).toNat)) = ct (smT rg rw t) (o + 1) := by rw [ct_s, hsa]
                          have hi_P9 : allB (okP ab ob rw t) (o + 1) = true := by exact allB_s hP9 (by first | (simp [okP, c_83, c_102]; done) | (simp [okP, c_88, c_102]; done) | (simp [okP, c_83, c_121]; done) | (simp [okP, c_88, c_121]; done))
                          have hmm : g * p - (o + 1) < N_14 := by omega
                          exact ih_14 (o + 1) (sa + ((smT rg rw t o).toNat)) hi_o hi_sa hi_P9 hmm _ _ (hP.sub [0, 1, 2, 3, 4, 5, 6] rfl) (hD.sub [0, 1, 2, 3, 4, 5, 6] (by decide) rfl) hS ls (lv_sub hl [0, 1, 3, 4] rfl)
                        · have c_121 : ((rw t) % 2) = ((rw o) % 2) := (nI_eq (by omega) (by omega)).mp c_121
                          refine lv_iconst (v := nI 0) hXX hBB dX3_isLawful_124 (by decide) ?_
                          refine hret (r := nI 0) () ?_ (rfl) (hP.sub [6, 0, 1, 2, 3, 4, 5] rfl) (hD.sub [6, 0, 1, 2, 3, 4, 5] (by decide) rfl) hS (Nat.le_of_ble_eq_true rfl) (Nat.le_of_ble_eq_true rfl) dX3_isLawful_125
                          show nI 0 = bI (lawB (g * p) rg bd ab ob S rw)
                          exact law_f htT (okT_f1 hoT (by first | (simp [okP, c_83, c_88]; done) | (simp [okP, c_102, c_121]; done)))
                refine lv_iload hXX hBB dX3_isLawful_45 (lv_at hl 0 rfl) ?_
                refine lv_if_eq (tgt := 69) hXX hBB dX3_isLawful_47 (by decide) (fun c_47 => ?_) (fun c_47 => ?_)
                · have c_47 : (decide (rw t = rw o)) = false := m_bz0 c_47
                  refine lv_iconst (v := nI 0) hXX hBB dX3_isLawful_69 (by decide) ?_
                  refine m_top (y := nI ((smT rg rw t o).toNat)) (by first | (simp [smT, c_47]; done) | (simp [smT, c_47, c_62]; done) | (simp [smT, of_decide_eq_true c_47, c_62]; done) | (simp [smT, of_decide_eq_false c_47]; done)) ?_
                  exact J_70 _ _ (hP.sub [0, 1, 2, 3, 4, 5, 6] rfl) (hD.sub [0, 1, 2, 3, 4, 5, 6] (by decide) rfl) hS ls (lv_sub hl [0, 1, 2, 3, 4] rfl)
                · have c_47 : (decide (rw t = rw o)) = true := m_bz1 c_47
                  refine lv_aload_n hXX hBB dX3_isLawful_50 rfl (lv_at hl 4 rfl) ?_
                  refine va_get (D := D) (ci := 3) (v := .ref aR) (C := RX3) (T := TX3) (N := 17) hXX hBB hts iw_X3 hown hK hP 6 rfl rfl 2 (by decide) kw_2 (fun _ h9 => h9) rfl dX3_isLawful_51 ?_
                  refine lv_iload_n hXX hBB dX3_isLawful_54 rfl (lv_at hl 3 rfl) ?_
                  refine m_iald hXX hBB hK hP 0 0 rfl rfl (i := t) (by omega) (by decide) (x := nI (rg t)) rfl dX3_isLawful_55 ?_
                  refine lv_aload_n hXX hBB dX3_isLawful_56 rfl (lv_at hl 4 rfl) ?_
                  refine va_get (D := D) (ci := 3) (v := .ref aR) (C := RX3) (T := TX3) (N := 17) hXX hBB hts iw_X3 hown hK hP 6 rfl rfl 2 (by decide) kw_2 (fun _ h9 => h9) rfl dX3_isLawful_57 ?_
                  refine lv_iload_n hXX hBB dX3_isLawful_60 rfl (lv_at hl 1 rfl) ?_
                  refine m_iald hXX hBB hK hP 0 0 rfl rfl (i := o) (by omega) (by decide) (x := nI (rg o)) rfl dX3_isLawful_61 ?_
                  refine lv_icmp_ne (tgt := 69) hXX hBB dX3_isLawful_62 (by decide) (fun c_62 => ?_) (fun c_62 => ?_)
                  · have c_62 : ¬ (rg t) = (rg o) := fun h9 => c_62 ((nI_eq (by omega) (by omega)).mpr h9)
                    refine lv_iconst (v := nI 0) hXX hBB dX3_isLawful_69 (by decide) ?_
                    refine m_top (y := nI ((smT rg rw t o).toNat)) (by first | (simp [smT, c_47]; done) | (simp [smT, c_47, c_62]; done) | (simp [smT, of_decide_eq_true c_47, c_62]; done) | (simp [smT, of_decide_eq_false c_47]; done)) ?_
                    exact J_70 _ _ (hP.sub [0, 1, 2, 3, 4, 5, 6] rfl) (hD.sub [0, 1, 2, 3, 4, 5, 6] (by decide) rfl) hS ls (lv_sub hl [0, 1, 2, 3, 4] rfl)
                  · have c_62 : (rg t) = (rg o) := (nI_eq (by omega) (by omega)).mp c_62
                    refine lv_iconst (v := nI 1) hXX hBB dX3_isLawful_65 (by decide) ?_
                    refine lv_goto (tgt := 70) hXX hBB dX3_isLawful_66 (by decide) ?_
                    refine m_top (y := nI ((smT rg rw t o).toNat)) (by first | (simp [smT, c_47]; done) | (simp [smT, c_47, c_62]; done) | (simp [smT, of_decide_eq_true c_47, c_62]; done) | (simp [smT, of_decide_eq_false c_47]; done)) ?_
                    exact J_70 _ _ (hP.sub [0, 1, 2, 3, 4, 5, 6] rfl) (hD.sub [0, 1, 2, 3, 4, 5, 6] (by decide) rfl) hS ls (lv_sub hl [0, 1, 2, 3, 4] rfl)
              refine lv_aload_n hXX hBB dX3_isLawful_22 rfl (lv_at hl 3 rfl) ?_
              refine va_get (D := D) (ci := 3) (v := .ref aW) (C := RX3) (T := TX3) (N := 17) hXX hBB hts iw_X3 hown hK hP 6 rfl rfl 12 (by decide) kw_1 (fun _ h9 => h9) rfl dX3_isLawful_23 ?_
              refine lv_iload_n hXX hBB dX3_isLawful_26 rfl (lv_at hl 2 rfl) ?_
              refine m_iald hXX hBB hK hP 5 0 rfl rfl (i := t) (by omega) (by decide) (x := nI (rw t)) rfl dX3_isLawful_27 ?_
              refine lv_aload_n hXX hBB dX3_isLawful_28 rfl (lv_at hl 3 rfl) ?_
              refine va_get (D := D) (ci := 3) (v := .ref aW) (C := RX3) (T := TX3) (N := 17) hXX hBB hts iw_X3 hown hK hP 6 rfl rfl 12 (by decide) kw_1 (fun _ h9 => h9) rfl dX3_isLawful_29 ?_
              refine lv_iload_n hXX hBB dX3_isLawful_32 rfl (lv_at hl 0 rfl) ?_
              refine m_iald hXX hBB hK hP 5 0 rfl rfl (i := o) (by omega) (by decide) (x := nI (rw o)) rfl dX3_isLawful_33 ?_
              refine lv_icmp_ne (tgt := 41) hXX hBB dX3_isLawful_34 (by decide) (fun c_34 => ?_) (fun c_34 => ?_)
              · have c_34 : ¬ (rw t) = (rw o) := fun h9 => c_34 ((nI_eq (by omega) (by omega)).mpr h9)
                refine lv_iconst (v := nI 0) hXX hBB dX3_isLawful_41 (by decide) ?_
                refine m_top (y := bI (decide (rw t = rw o))) (by simp [bI, c_34]) ?_
                exact J_42 _ _ (hP.sub [0, 1, 2, 3, 4, 5, 6] rfl) (hD.sub [0, 1, 2, 3, 4, 5, 6] (by decide) rfl) hS ls (lv_sub hl [0, 1, 2, 3] rfl)
              · have c_34 : (rw t) = (rw o) := (nI_eq (by omega) (by omega)).mp c_34
                refine lv_iconst (v := nI 1) hXX hBB dX3_isLawful_37 (by decide) ?_
                refine lv_goto (tgt := 42) hXX hBB dX3_isLawful_38 (by decide) ?_
                refine m_top (y := bI (decide (rw t = rw o))) (by simp [bI, c_34]) ?_
                exact J_42 _ _ (hP.sub [0, 1, 2, 3, 4, 5, 6] rfl) (hD.sub [0, 1, 2, 3, 4, 5, 6] (by decide) rfl) hS ls (lv_sub hl [0, 1, 2, 3] rfl)
        have hi_o : 0 ≤ g * p := by omega
        have hi_sa : 0 = ct (smT rg rw t) 0 := by rfl
        have hi_P9 : allB (okP ab ob rw t) 0 = true := by rfl
        exact L_14 _ 0 0 hi_o hi_sa hi_P9 (Nat.lt_succ_self _) _ _ hP hD hS ls (lv_sub hl [0, 1, 2, 3] rfl)
  have hi_t : 0 ≤ g * p := by omega
  have hi_A : allB (okT (g * p) rg bd ab ob S rw) 0 = true := by rfl
  exact L_2 _ 0 hi_t hi_A (Nat.lt_succ_self _) _ _ hP hD hS ls (lv_sub hl [0, 1] rfl)
abbrev rmX3_layResults : Room := { frames := 2, cells := 0, slots := 0, locals := 44 }
set_option maxHeartbeats 4000000 in
set_option maxRecDepth 100000 in
theorem kX3_layResults (l : Launch) (D : va_G) (cI : ClassId) (cZ : ClassId) (h : Nat) (g : Nat) (p : Nat) (aR : Nat) (aB : Nat) (aA : Nat) (aO : Nat) (dm : Nat) (aD : Nat) (aP : Nat) (th : Nat) (rm : Nat) (aS : Nat) (aW : Nat) (aU : Nat) (aL : Nat) (aE : Nat) (aQ : Nat) (rg : Nat → Nat) (bd : Nat → Nat) (ab : Nat → Bool) (ob : Nat → Bool) (S : Nat → Int32) (rs : Nat → Nat) (rw : Nat → Nat) (us : Nat → Bool) (hg2 : 2 ≤ g) (hg4 : g ≤ 4) (hp2 : 2 ≤ p) (hp3 : p ≤ 3) (hT : g * p ≤ 9) (hrg : ∀ z, z < 9 → rg z < 6) (hbd : ∀ z, z < 6 → bd z < 4) (hrs : ∀ z, rs z < 4) (hrw : ∀ z, rw z < 4) : Cv l yX3_layResults wsX3_layResults rmX3_layResults D [(cI, .int), (cZ, .boolean)] [.ref h] [(h, .inr (3, [.int (nI g), .int (nI p), .ref aR, .ref aB, .ref aA, .ref aO, .int (nI dm), .ref aD, .ref aP, .int (nI th), .int (nI rm), .ref aS, .ref aW, .ref aU, .ref aL, .ref aE, .ref aQ])), (aR, .inl (cI, 9, .inl (fun j => nI (rg j)))), (aB, .inl (cI, 6, .inl (fun j => nI (bd j)))), (aA, .inl (cZ, 81, .inl (fun j => bI (ab j)))), (aO, .inl (cZ, 81, .inl (fun j => bI (ob j)))), (aP, .inl (cI, 9, .inl S)), (aS, .inl (cI, 5184, .inl (fun j => nI (rs j)))), (aW, .inl (cI, 9, .inl (fun j => nI (rw j)))), (aU, .inl (cZ, 9, .inl (fun j => bI (us j))))] (fun (u : Nat × (Nat → Nat) × (Nat → Nat) × (Nat → Bool)) => (u.1 ≤ 576) ∧ (∀ z, u.2.1 z < 4) ∧ (∀ z, u.2.2.1 z < 4) ∧ (∀ w : Nat → Nat, sm (fun z => w (cdR u.2.1 z (g * p))) u.1 = RS g p rg bd ab ob S w)) (fun (u : Nat × (Nat → Nat) × (Nat → Nat) × (Nat → Bool)) => [(h, .inr (3, [.int (nI g), .int (nI p), .ref aR, .ref aB, .ref aA, .ref aO, .int (nI dm), .ref aD, .ref aP, .int (nI th), .int (nI u.1), .ref aS, .ref aW, .ref aU, .ref aL, .ref aE, .ref aQ])), (aR, .inl (cI, 9, .inl (fun j => nI (rg j)))), (aB, .inl (cI, 6, .inl (fun j => nI (bd j)))), (aA, .inl (cZ, 81, .inl (fun j => bI (ab j)))), (aO, .inl (cZ, 81, .inl (fun j => bI (ob j)))), (aP, .inl (cI, 9, .inl S)), (aS, .inl (cI, 5184, .inl (fun j => nI (u.2.1 j)))), (aW, .inl (cI, 9, .inl (fun j => nI (u.2.2.1 j)))), (aU, .inl (cZ, 9, .inl (fun j => bI (u.2.2.2 j))))]) := by
  refine Cv_of (cc := cX3_layResults) (maxL := 6) (by decide) rfl (Nat.le_of_ble_eq_true rfl) ?_
  intro pR eV sT mI args below meth cO AA QQ ls hXX hBB hml hown hts hnm hN hK hP hD hS hAA hl hret
  have hl : lv_has ls 6 [(0, .ref h)] := hl
  have hfl := fac_le hg4
  have hfp := facp_le hg2 hg4 hp2 hp3 hT
  have kw_1 := hts (.fieldLink RX3 55 "CupDrawModel" "groupMany" "I") (List.mem_of_getElem? (i := 1) rfl)
  have iw_X3 : ∀ w ∈ wsX30, w ∈ wsX3_layResults := by decide +kernel
  have kw_3 := hts (.fieldLink RX3 84 "CupDrawModel" "resultMany" "I") (List.mem_of_getElem? (i := 3) rfl)
  have kw_2 := hts (.fieldLink RX3 58 "CupDrawModel" "potMany" "I") (List.mem_of_getElem? (i := 2) rfl)
  have kw_4 := hts (.fieldLink RX3 29 "CupDrawModel" "results" "[I") (List.mem_of_getElem? (i := 4) rfl)
  have kw_5 := hts (.fieldLink RX3 32 "CupDrawModel" "row" "[I") (List.mem_of_getElem? (i := 5) rfl)
  refine lv_aload_n hXX hBB dX3_layResults_0 rfl (lv_at hl 0 rfl) ?_
  refine va_get (D := D) (ci := 3) (v := .int (nI g)) (C := RX3) (T := TX3) (N := 17) hXX hBB hts iw_X3 hown hK hP 0 rfl rfl 0 (by decide) kw_1 (fun _ h9 => h9) rfl dX3_layResults_1 ?_
  refine m_scalli (wr := [(h, .inr (3, [.int (nI g), .int (nI p), .ref aR, .ref aB, .ref aA, .ref aO, .int (nI dm), .ref aD, .ref aP, .int (nI th), .int (nI rm), .ref aS, .ref aW, .ref aU, .ref aL, .ref aE, .ref aQ])), (aR, .inl (cI, 9, .inl (fun j => nI (rg j)))), (aB, .inl (cI, 6, .inl (fun j => nI (bd j)))), (aA, .inl (cZ, 81, .inl (fun j => bI (ab j)))), (aO, .inl (cZ, 81, .inl (fun j => bI (ob j)))), (aP, .inl (cI, 9, .inl S)), (aS, .inl (cI, 5184, .inl (fun j => nI (rs j)))), (aW, .inl (cI, 9, .inl (fun j => nI (rw j)))), (aU, .inl (cZ, 9, .inl (fun j => bI (us j))))]) ⟨hXX, hBB, hml, hown, hts⟩ hN (kX3_factorial l D g (by omega)) (va_cwS 1 hts gX3_layResults_X3_factorial rfl rfl rfl (by decide +kernel) ⟨Nat.le_of_ble_eq_true rfl, Nat.le_of_ble_eq_true rfl⟩) hK hP hD hS hAA [] [0, 1, 2, 3, 4, 5, 6, 7, 8] [] rfl rfl rfl (by decide) (by decide) (by decide) rfl hl.1 rfl (Nat.le_of_ble_eq_true rfl) dX3_layResults_4 ⟨Nat.le_of_ble_eq_true rfl, Nat.le_of_ble_eq_true rfl⟩ (k := 0) (n := 0) rfl rfl (fun r_1 u_ H locs hw hP hD hS => ?_)
  have hw : (r_1 = nI (fac g)) := hw
  have hr_r_1 := hw
  have hP : va_P D vwCl [(h, .inr (3, [.int (nI g), .int (nI p), .ref aR, .ref aB, .ref aA, .ref aO, .int (nI dm), .ref aD, .ref aP, .int (nI th), .int (nI rm), .ref aS, .ref aW, .ref aU, .ref aL, .ref aE, .ref aQ])), (aR, .inl (cI, 9, .inl (fun j => nI (rg j)))), (aB, .inl (cI, 6, .inl (fun j => nI (bd j)))), (aA, .inl (cZ, 81, .inl (fun j => bI (ab j)))), (aO, .inl (cZ, 81, .inl (fun j => bI (ob j)))), (aP, .inl (cI, 9, .inl S)), (aS, .inl (cI, 5184, .inl (fun j => nI (rs j)))), (aW, .inl (cI, 9, .inl (fun j => nI (rw j)))), (aU, .inl (cZ, 9, .inl (fun j => bI (us j))))] H := hP
  have hD : va_D AA [(h, .inr (3, [.int (nI g), .int (nI p), .ref aR, .ref aB, .ref aA, .ref aO, .int (nI dm), .ref aD, .ref aP, .int (nI th), .int (nI rm), .ref aS, .ref aW, .ref aU, .ref aL, .ref aE, .ref aQ])), (aR, .inl (cI, 9, .inl (fun j => nI (rg j)))), (aB, .inl (cI, 6, .inl (fun j => nI (bd j)))), (aA, .inl (cZ, 81, .inl (fun j => bI (ab j)))), (aO, .inl (cZ, 81, .inl (fun j => bI (ob j)))), (aP, .inl (cI, 9, .inl S)), (aS, .inl (cI, 5184, .inl (fun j => nI (rs j)))), (aW, .inl (cI, 9, .inl (fun j => nI (rw j)))), (aU, .inl (cZ, 9, .inl (fun j => bI (us j))))] := hD
  subst hr_r_1
  refine lv_istore_n (lv' := [(1, .int (nI (fac g))), (0, .ref h)]) hXX hBB dX3_layResults_7 rfl hl (by decide) rfl (fun ls hl => ?_)
  have J_27 : ∀ (H : Heap) (locs : List Loc), va_P D vwCl [(h, .inr (3, [.int (nI g), .int (nI p), .ref aR, .ref aB, .ref aA, .ref aO, .int (nI dm), .ref aD, .ref aP, .int (nI th), .int (nI rm), .ref aS, .ref aW, .ref aU, .ref aL, .ref aE, .ref aQ])), (aR, .inl (cI, 9, .inl (fun j => nI (rg j)))), (aB, .inl (cI, 6, .inl (fun j => nI (bd j)))), (aA, .inl (cZ, 81, .inl (fun j => bI (ab j)))), (aO, .inl (cZ, 81, .inl (fun j => bI (ob j)))), (aP, .inl (cI, 9, .inl S)), (aS, .inl (cI, 5184, .inl (fun j => nI (rs j)))), (aW, .inl (cI, 9, .inl (fun j => nI (rw j)))), (aU, .inl (cZ, 9, .inl (fun j => bI (us j))))] H → va_D AA [(h, .inr (3, [.int (nI g), .int (nI p), .ref aR, .ref aB, .ref aA, .ref aO, .int (nI dm), .ref aD, .ref aP, .int (nI th), .int (nI rm), .ref aS, .ref aW, .ref aU, .ref aL, .ref aE, .ref aQ])), (aR, .inl (cI, 9, .inl (fun j => nI (rg j)))), (aB, .inl (cI, 6, .inl (fun j => nI (bd j)))), (aA, .inl (cZ, 81, .inl (fun j => bI (ab j)))), (aO, .inl (cZ, 81, .inl (fun j => bI (ob j)))), (aP, .inl (cI, 9, .inl S)), (aS, .inl (cI, 5184, .inl (fun j => nI (rs j)))), (aW, .inl (cI, 9, .inl (fun j => nI (rw j)))), (aU, .inl (cZ, 9, .inl (fun j => bI (us j))))] → va_S AA sT.heap H locs → ∀ (ls : Array Slot), lv_has ls 6 [(1, .int (nI (fac g))), (0, .ref h)] → W pR l eV rmX3_layResults sT mI args below meth cO H locs 0 0 QQ (F0 mI 27 ls [.int (nI (fac g ^ p))]) := by
    intro H locs hP hD hS ls hl
    refine lv_istore_n (lv' := [(2, .int (nI (fac g ^ p))), (1, .int (nI (fac g))), (0, .ref h)]) hXX hBB dX3_layResults_27 rfl hl (by decide) rfl (fun ls hl => ?_)
    refine lv_aload_n hXX hBB dX3_layResults_28 rfl (lv_at hl 2 rfl) ?_
    refine lv_iconst (v := nI 0) hXX hBB dX3_layResults_29 (by decide) ?_
    refine va_put (D := D) (ci := 3) (v := .int (nI 0)) (ty := .int) (C := RX3) (T := TX3) (N := 17) hXX hBB hts iw_X3 tyX3 tyX3_ok nmX3 hown hK hP hD hS 0 rfl rfl 10 (by decide) kw_3 (fun _ h9 => h9) rfl (by decide +kernel) (rfl) (rfl) (Nat.le_of_ble_eq_true rfl) dX3_layResults_30 (fun H locs hP hD hS => ?_)
    have hP : va_P D vwCl [(h, .inr (3, [.int (nI g), .int (nI p), .ref aR, .ref aB, .ref aA, .ref aO, .int (nI dm), .ref aD, .ref aP, .int (nI th), .int (nI 0), .ref aS, .ref aW, .ref aU, .ref aL, .ref aE, .ref aQ])), (aR, .inl (cI, 9, .inl (fun j => nI (rg j)))), (aB, .inl (cI, 6, .inl (fun j => nI (bd j)))), (aA, .inl (cZ, 81, .inl (fun j => bI (ab j)))), (aO, .inl (cZ, 81, .inl (fun j => bI (ob j)))), (aP, .inl (cI, 9, .inl S)), (aS, .inl (cI, 5184, .inl (fun j => nI (rs j)))), (aW, .inl (cI, 9, .inl (fun j => nI (rw j)))), (aU, .inl (cZ, 9, .inl (fun j => bI (us j))))] H := hP
    have hD : va_D AA [(h, .inr (3, [.int (nI g), .int (nI p), .ref aR, .ref aB, .ref aA, .ref aO, .int (nI dm), .ref aD, .ref aP, .int (nI th), .int (nI 0), .ref aS, .ref aW, .ref aU, .ref aL, .ref aE, .ref aQ])), (aR, .inl (cI, 9, .inl (fun j => nI (rg j)))), (aB, .inl (cI, 6, .inl (fun j => nI (bd j)))), (aA, .inl (cZ, 81, .inl (fun j => bI (ab j)))), (aO, .inl (cZ, 81, .inl (fun j => bI (ob j)))), (aP, .inl (cI, 9, .inl S)), (aS, .inl (cI, 5184, .inl (fun j => nI (rs j)))), (aW, .inl (cI, 9, .inl (fun j => nI (rw j)))), (aU, .inl (cZ, 9, .inl (fun j => bI (us j))))] := hD
    refine lv_iconst (v := nI 0) hXX hBB dX3_layResults_33 (by decide) ?_
    refine lv_istore_n (lv' := [(3, .int (nI 0)), (2, .int (nI (fac g ^ p))), (1, .int (nI (fac g))), (0, .ref h)]) hXX hBB dX3_layResults_34 rfl hl (by decide) rfl (fun ls hl => ?_)
    have L_35 : ∀ (N_35 : Nat) (i : Nat) (n : Nat) (rq : Nat → Nat) (wq : Nat → Nat) (uq : Nat → Bool), (i ≤ fac g ^ p) → (n ≤ i) → (∀ z, rq z < 4) → (∀ z, wq z < 4) → (∀ w : Nat → Nat, sm (fun z => w (cdR rq z (g * p))) n = sm (fun z => if lawB (g * p) rg bd ab ob S (rowN g z) then w (cdN g z (g * p)) else 0) i) → fac g ^ p - i < N_35 → ∀ (H : Heap) (locs : List Loc), va_P D vwCl [(h, .inr (3, [.int (nI g), .int (nI p), .ref aR, .ref aB, .ref aA, .ref aO, .int (nI dm), .ref aD, .ref aP, .int (nI th), .int (nI n), .ref aS, .ref aW, .ref aU, .ref aL, .ref aE, .ref aQ])), (aR, .inl (cI, 9, .inl (fun j => nI (rg j)))), (aB, .inl (cI, 6, .inl (fun j => nI (bd j)))), (aA, .inl (cZ, 81, .inl (fun j => bI (ab j)))), (aO, .inl (cZ, 81, .inl (fun j => bI (ob j)))), (aP, .inl (cI, 9, .inl S)), (aS, .inl (cI, 5184, .inl (fun j => nI (rq j)))), (aW, .inl (cI, 9, .inl (fun j => nI (wq j)))), (aU, .inl (cZ, 9, .inl (fun j => bI (uq j))))] H → va_D AA [(h, .inr (3, [.int (nI g), .int (nI p), .ref aR, .ref aB, .ref aA, .ref aO, .int (nI dm), .ref aD, .ref aP, .int (nI th), .int (nI n), .ref aS, .ref aW, .ref aU, .ref aL, .ref aE, .ref aQ])), (aR, .inl (cI, 9, .inl (fun j => nI (rg j)))), (aB, .inl (cI, 6, .inl (fun j => nI (bd j)))), (aA, .inl (cZ, 81, .inl (fun j => bI (ab j)))), (aO, .inl (cZ, 81, .inl (fun j => bI (ob j)))), (aP, .inl (cI, 9, .inl S)), (aS, .inl (cI, 5184, .inl (fun j => nI (rq j)))), (aW, .inl (cI, 9, .inl (fun j => nI (wq j)))), (aU, .inl (cZ, 9, .inl (fun j => bI (uq j))))] → va_S AA sT.heap H locs → ∀ (ls : Array Slot), lv_has ls 6 [(3, .int (nI i)), (2, .int (nI (fac g ^ p))), (1, .int (nI (fac g))), (0, .ref h)] → W pR l eV rmX3_layResults sT mI args below meth cO H locs 0 0 QQ (F0 mI 35 ls []) := by
      intro N_35
      induction N_35 with
      | zero =>
        intro i n rq wq uq hi hn hQ hW hS9 hMM
        exact absurd hMM (Nat.not_lt_zero _)
      | succ N_35 ih_35 =>
        intro i n rq wq uq hi hn hQ hW hS9 hMM H locs hP hD hS ls hl
        refine lv_iload_n hXX hBB dX3_layResults_35 rfl (lv_at hl 0 rfl) ?_
        refine lv_iload_n hXX hBB dX3_layResults_36 rfl (lv_at hl 1 rfl) ?_
        refine lv_icmp_ge (tgt := 149) hXX hBB dX3_layResults_37 (by decide) (fun c_37 => ?_) (fun c_37 => ?_)
        · have c_37 : (fac g ^ p) ≤ i := (nI_leI (by omega) (by omega)).mp c_37
          have hE : i = fac g ^ p := by omega
          rw [hE] at hS9
          refine hret (n, rq, wq, uq) ?_ (hP.sub [0, 1, 2, 3, 4, 5, 6, 7, 8] rfl) (hD.sub [0, 1, 2, 3, 4, 5, 6, 7, 8] (by decide) rfl) hS (Nat.le_of_ble_eq_true rfl) (Nat.le_of_ble_eq_true rfl) dX3_layResults_149
          show (n ≤ 576) ∧ (∀ z, rq z < 4) ∧ (∀ z, wq z < 4) ∧ (∀ w : Nat → Nat, sm (fun z => w (cdR rq z (g * p))) n = RS g p rg bd ab ob S w)
          exact ⟨by omega, hQ, hW, hS9⟩
        · have c_37 : ¬ (fac g ^ p) ≤ i := fun h9 => c_37 ((nI_leI (by omega) (by omega)).mpr h9)
          have hib : i < 576 := by omega
          refine lv_iload_n hXX hBB dX3_layResults_40 rfl (lv_at hl 0 rfl) ?_
          refine lv_istore (lv' := [(4, .int (nI i)), (3, .int (nI i)), (2, .int (nI (fac g ^ p))), (1, .int (nI (fac g))), (0, .ref h)]) hXX hBB dX3_layResults_41 hl (by decide) rfl (fun ls hl => ?_)
          have hl : lv_has ls 6 [(4, .int (nI (i / fac g ^ 0))), (3, .int (nI i)), (2, .int (nI (fac g ^ p))), (1, .int (nI (fac g))), (0, .ref h)] := by rw [Nat.pow_zero, Nat.div_one]; exact hl
          refine lv_iconst (v := nI 0) hXX hBB dX3_layResults_43 (by decide) ?_
          refine lv_istore (lv' := [(5, .int (nI 0)), (4, .int (nI (i / fac g ^ 0))), (3, .int (nI i)), (2, .int (nI (fac g ^ p))), (1, .int (nI (fac g))), (0, .ref h)]) hXX hBB dX3_layResults_44 hl (by decide) rfl (fun ls hl => ?_)
          have L_46 : ∀ (N_46 : Nat) (q : Nat) (wp : Nat → Nat) (up : Nat → Bool), (q ≤ p) → (∀ z, wp z < 4) → (∀ z, z < g * q → wp z = rowN g i z) → p - q < N_46 → ∀ (H : Heap) (locs : List Loc), va_P D vwCl [(h, .inr (3, [.int (nI g), .int (nI p), .ref aR, .ref aB, .ref aA, .ref aO, .int (nI dm), .ref aD, .ref aP, .int (nI th), .int (nI n), .ref aS, .ref aW, .ref aU, .ref aL, .ref aE, .ref aQ])), (aR, .inl (cI, 9, .inl (fun j => nI (rg j)))), (aB, .inl (cI, 6, .inl (fun j => nI (bd j)))), (aA, .inl (cZ, 81, .inl (fun j => bI (ab j)))), (aO, .inl (cZ, 81, .inl (fun j => bI (ob j)))), (aP, .inl (cI, 9, .inl S)), (aS, .inl (cI, 5184, .inl (fun j => nI (rq j)))), (aW, .inl (cI, 9, .inl (fun j => nI (wp j)))), (aU, .inl (cZ, 9, .inl (fun j => bI (up j))))] H → va_D AA [(h, .inr (3, [.int (nI g), .int (nI p), .ref aR, .ref aB, .ref aA, .ref aO, .int (nI dm), .ref aD, .ref aP, .int (nI th), .int (nI n), .ref aS, .ref aW, .ref aU, .ref aL, .ref aE, .ref aQ])), (aR, .inl (cI, 9, .inl (fun j => nI (rg j)))), (aB, .inl (cI, 6, .inl (fun j => nI (bd j)))), (aA, .inl (cZ, 81, .inl (fun j => bI (ab j)))), (aO, .inl (cZ, 81, .inl (fun j => bI (ob j)))), (aP, .inl (cI, 9, .inl S)), (aS, .inl (cI, 5184, .inl (fun j => nI (rq j)))), (aW, .inl (cI, 9, .inl (fun j => nI (wp j)))), (aU, .inl (cZ, 9, .inl (fun j => bI (up j))))] → va_S AA sT.heap H locs → ∀ (ls : Array Slot), lv_has ls 6 [(5, .int (nI q)), (4, .int (nI (i / fac g ^ q))), (3, .int (nI i)), (2, .int (nI (fac g ^ p))), (1, .int (nI (fac g))), (0, .ref h)] → W pR l eV rmX3_layResults sT mI args below meth cO H locs 0 0 QQ (F0 mI 46 ls []) := by
            intro N_46
            induction N_46 with
            | zero =>
              intro q wp up hq hW2 hB hMM
              exact absurd hMM (Nat.not_lt_zero _)
            | succ N_46 ih_46 =>
              intro q wp up hq hW2 hB hMM H locs hP hD hS ls hl
              refine lv_iload hXX hBB dX3_layResults_46 (lv_at hl 0 rfl) ?_
              refine lv_aload_n hXX hBB dX3_layResults_48 rfl (lv_at hl 5 rfl) ?_
              refine va_get (D := D) (ci := 3) (v := .int (nI p)) (C := RX3) (T := TX3) (N := 17) hXX hBB hts iw_X3 hown hK hP 0 rfl rfl 1 (by decide) kw_2 (fun _ h9 => h9) rfl dX3_layResults_49 ?_
              refine lv_icmp_ge (tgt := 86) hXX hBB dX3_layResults_52 (by decide) (fun c_52 => ?_) (fun c_52 => ?_)
              · have c_52 : p ≤ q := (nI_leI (by omega) (by omega)).mp c_52
                have hqe : q = p := by omega
                rw [hqe] at hB
                have hlb : lawB (g * p) rg bd ab ob S wp = lawB (g * p) rg bd ab ob S (rowN g i) := lawB_congr hB
                refine lv_aload_n hXX hBB dX3_layResults_86 rfl (lv_at hl 5 rfl) ?_
                refine m_calli (wr := [(aS, .inl (cI, 5184, .inl (fun j => nI (rq j)))), (aU, .inl (cZ, 9, .inl (fun j => bI (up j))))]) ⟨hXX, hBB, hml, hown, hts⟩ hN (kX3_isLawful l D cI cZ h g p aR aB aA aO dm aD aP th n aS aW aU aL aE aQ rg bd ab ob S wp (by omega) (by assumption) (by assumption) (by exact fun z _ => hW2 z)) (cwV 0 hts gX3_layResults_X3_isLawful rfl rfl rfl (by decide +kernel) ⟨Nat.le_of_ble_eq_true rfl, Nat.le_of_ble_eq_true rfl⟩) hK hP hD hS hAA [0, 1, 2, 3, 4, 5, 7] [6, 8] [0, 1] rfl rfl rfl (by decide) (by decide) (by decide) rfl 3 rfl rfl rfl rfl hl.1 rfl (Nat.le_of_ble_eq_true rfl) dX3_layResults_87 ⟨Nat.le_of_ble_eq_true rfl, Nat.le_of_ble_eq_true rfl⟩ (k := 0) (n := 0) rfl rfl (fun r_2 u_ H locs hw hP hD hS => ?_)
                have hw : (r_2 = bI (lawB (g * p) rg bd ab ob S wp)) := hw
                have hr_r_2 := hw
                have hP : va_P D vwCl [(aS, .inl (cI, 5184, .inl (fun j => nI (rq j)))), (aU, .inl (cZ, 9, .inl (fun j => bI (up j)))), (h, .inr (3, [.int (nI g), .int (nI p), .ref aR, .ref aB, .ref aA, .ref aO, .int (nI dm), .ref aD, .ref aP, .int (nI th), .int (nI n), .ref aS, .ref aW, .ref aU, .ref aL, .ref aE, .ref aQ])), (aR, .inl (cI, 9, .inl (fun j => nI (rg j)))), (aB, .inl (cI, 6, .inl (fun j => nI (bd j)))), (aA, .inl (cZ, 81, .inl (fun j => bI (ab j)))), (aO, .inl (cZ, 81, .inl (fun j => bI (ob j)))), (aP, .inl (cI, 9, .inl S)), (aW, .inl (cI, 9, .inl (fun j => nI (wp j))))] H := hP
                have hD : va_D AA [(aS, .inl (cI, 5184, .inl (fun j => nI (rq j)))), (aU, .inl (cZ, 9, .inl (fun j => bI (up j)))), (h, .inr (3, [.int (nI g), .int (nI p), .ref aR, .ref aB, .ref aA, .ref aO, .int (nI dm), .ref aD, .ref aP, .int (nI th), .int (nI n), .ref aS, .ref aW, .ref aU, .ref aL, .ref aE, .ref aQ])), (aR, .inl (cI, 9, .inl (fun j => nI (rg j)))), (aB, .inl (cI, 6, .inl (fun j => nI (bd j)))), (aA, .inl (cZ, 81, .inl (fun j => bI (ab j)))), (aO, .inl (cZ, 81, .inl (fun j => bI (ob j)))), (aP, .inl (cI, 9, .inl S)), (aW, .inl (cI, 9, .inl (fun j => nI (wp j))))] := hD
                subst hr_r_2
                refine lv_if_eq (tgt := 143) hXX hBB dX3_layResults_90 (by decide) (fun c_90 => ?_) (fun c_90 => ?_)
                · have c_90 : (lawB (g * p) rg bd ab ob S wp) = false := m_bz0 c_90
                  have stS : ∀ w : Nat → Nat, sm (fun z => w (cdR rq z (g * p))) n = sm (fun z => if lawB (g * p) rg bd ab ob S (rowN g z) then w (cdN g z (g * p)) else 0) (i + 1) := fun w => by
                    simp only [sm]
                    rw [← hlb, c_90, hS9 w]
                    simp
                  refine lv_iinc (v := nI (i + 1)) (lv' := [(3, .int (nI (i + 1))), (5, .int (nI q)), (4, .int (nI (i / fac g ^ q))), (2, .int (nI (fac g ^ p))), (1, .int (nI (fac g))), (0, .ref h)]) hXX hBB dX3_layResults_143 hl (k := 2) rfl (nI_1 _) (by decide) rfl (fun ls hl => ?_)
                  refine lv_goto (tgt := 35) hXX hBB dX3_layResults_146 (by decide) ?_
                  have hi_i : (i + 1) ≤ fac g ^ p := by omega
                  have hi_n : n ≤ (i + 1) := by omega
                  have hi_Q : ∀ z, rq z < 4 := by first | exact hQ2 | exact hQ
                  have hi_W : ∀ z, wp z < 4 := by exact hW2
                  have hi_S9 : ∀ w : Nat → Nat, sm (fun z => w (cdR rq z (g * p))) n = sm (fun z => if lawB (g * p) rg bd ab ob S (rowN g z) then w (cdN g z (g * p)) else 0) (i + 1) := by exact stS
                  have hmm : fac g ^ p - (i + 1) < N_35 := by omega
                  exact ih_35 (i + 1) n rq wp up hi_i hi_n hi_Q hi_W hi_S9 hmm _ _ (hP.sub [2, 3, 4, 5, 6, 7, 0, 8, 1] rfl) (hD.sub [2, 3, 4, 5, 6, 7, 0, 8, 1] (by decide) rfl) hS ls (lv_sub hl [0, 3, 4, 5] rfl)
                · have c_90 : (lawB (g * p) rg bd ab ob S wp) = true := m_bz1 c_90
                  refine lv_iconst (v := nI 0) hXX hBB dX3_layResults_93 (by decide) ?_
                  refine lv_istore (lv' := [(5, .int (nI 0)), (4, .int (nI (i / fac g ^ q))), (3, .int (nI i)), (2, .int (nI (fac g ^ p))), (1, .int (nI (fac g))), (0, .ref h)]) hXX hBB dX3_layResults_94 hl (by decide) rfl (fun ls hl => ?_)
                  have L_96 : ∀ (N_96 : Nat) (t : Nat) (rp : Nat → Nat), (t ≤ g * p) → (∀ z, rp z < 4) → (∀ z, z < t → rp (9 * n + z) = wp z) → (∀ z, z < 9 * n → rp z = rq z) → g * p - t < N_96 → ∀ (H : Heap) (locs : List Loc), va_P D vwCl [(aS, .inl (cI, 5184, .inl (fun j => nI (rp j)))), (aU, .inl (cZ, 9, .inl (fun j => bI (up j)))), (h, .inr (3, [.int (nI g), .int (nI p), .ref aR, .ref aB, .ref aA, .ref aO, .int (nI dm), .ref aD, .ref aP, .int (nI th), .int (nI n), .ref aS, .ref aW, .ref aU, .ref aL, .ref aE, .ref aQ])), (aR, .inl (cI, 9, .inl (fun j => nI (rg j)))), (aB, .inl (cI, 6, .inl (fun j => nI (bd j)))), (aA, .inl (cZ, 81, .inl (fun j => bI (ab j)))), (aO, .inl (cZ, 81, .inl (fun j => bI (ob j)))), (aP, .inl (cI, 9, .inl S)), (aW, .inl (cI, 9, .inl (fun j => nI (wp j))))] H → va_D AA [(aS, .inl (cI, 5184, .inl (fun j => nI (rp j)))), (aU, .inl (cZ, 9, .inl (fun j => bI (up j)))), (h, .inr (3, [.int (nI g), .int (nI p), .ref aR, .ref aB, .ref aA, .ref aO, .int (nI dm), .ref aD, .ref aP, .int (nI th), .int (nI n), .ref aS, .ref aW, .ref aU, .ref aL, .ref aE, .ref aQ])), (aR, .inl (cI, 9, .inl (fun j => nI (rg j)))), (aB, .inl (cI, 6, .inl (fun j => nI (bd j)))), (aA, .inl (cZ, 81, .inl (fun j => bI (ab j)))), (aO, .inl (cZ, 81, .inl (fun j => bI (ob j)))), (aP, .inl (cI, 9, .inl S)), (aW, .inl (cI, 9, .inl (fun j => nI (wp j))))] → va_S AA sT.heap H locs → ∀ (ls : Array Slot), lv_has ls 6 [(5, .int (nI t)), (4, .int (nI (i / fac g ^ q))), (3, .int (nI i)), (2, .int (nI (fac g ^ p))), (1, .int (nI (fac g))), (0, .ref h)] → W pR l eV rmX3_layResults sT mI args below meth cO H locs 0 0 QQ (F0 mI 96 ls []) := by
                    intro N_96
                    induction N_96 with
                    | zero =>
                      intro t rp ht hQ2 hC hD9 hMM
                      exact absurd hMM (Nat.not_lt_zero _)
                    | succ N_96 ih_96 =>
                      intro t rp ht hQ2 hC hD9 hMM H locs hP hD hS ls hl
                      refine lv_iload hXX hBB dX3_layResults_96 (lv_at hl 0 rfl) ?_
                      refine lv_aload_n hXX hBB dX3_layResults_98 rfl (lv_at hl 5 rfl) ?_
                      refine m_calli (wr := [(aS, .inl (cI, 5184, .inl (fun j => nI (rp j)))), (aU, .inl (cZ, 9, .inl (fun j => bI (up j)))), (aR, .inl (cI, 9, .inl (fun j => nI (rg j)))), (aB, .inl (cI, 6, .inl (fun j => nI (bd j)))), (aA, .inl (cZ, 81, .inl (fun j => bI (ab j)))), (aO, .inl (cZ, 81, .inl (fun j => bI (ob j)))), (aP, .inl (cI, 9, .inl S)), (aW, .inl (cI, 9, .inl (fun j => nI (wp j))))]) ⟨hXX, hBB, hml, hown, hts⟩ hN (kX3_teamMany l D h g p aR aB aA aO dm aD aP th n aS aW aU aL aE aQ) (cwV 0 hts gX3_layResults_X3_teamMany rfl rfl rfl (by decide +kernel) ⟨Nat.le_of_ble_eq_true rfl, Nat.le_of_ble_eq_true rfl⟩) hK hP hD hS hAA [2] [0, 1, 3, 4, 5, 6, 7, 8] [] rfl rfl rfl (by decide) (by decide) (by decide) rfl 3 rfl rfl rfl rfl hl.1 rfl (Nat.le_of_ble_eq_true rfl) dX3_layResults_99 ⟨Nat.le_of_ble_eq_true rfl, Nat.le_of_ble_eq_true rfl⟩ (k := 0) (n := 0) rfl rfl (fun r_3 u_ H locs hw hP hD hS => ?_)
                      have hw : (r_3 = nI (g * p)) := hw
                      have hr_r_3 := hw
                      have hP : va_P D vwCl [(aS, .inl (cI, 5184, .inl (fun j => nI (rp j)))), (aU, .inl (cZ, 9, .inl (fun j => bI (up j)))), (aR, .inl (cI, 9, .inl (fun j => nI (rg j)))), (aB, .inl (cI, 6, .inl (fun j => nI (bd j)))), (aA, .inl (cZ, 81, .inl (fun j => bI (ab j)))), (aO, .inl (cZ, 81, .inl (fun j => bI (ob j)))), (aP, .inl (cI, 9, .inl S)), (aW, .inl (cI, 9, .inl (fun j => nI (wp j)))), (h, .inr (3, [.int (nI g), .int (nI p), .ref aR, .ref aB, .ref aA, .ref aO, .int (nI dm), .ref aD, .ref aP, .int (nI th), .int (nI n), .ref aS, .ref aW, .ref aU, .ref aL, .ref aE, .ref aQ]))] H := hP
                      have hD : va_D AA [(aS, .inl (cI, 5184, .inl (fun j => nI (rp j)))), (aU, .inl (cZ, 9, .inl (fun j => bI (up j)))), (aR, .inl (cI, 9, .inl (fun j => nI (rg j)))), (aB, .inl (cI, 6, .inl (fun j => nI (bd j)))), (aA, .inl (cZ, 81, .inl (fun j => bI (ab j)))), (aO, .inl (cZ, 81, .inl (fun j => bI (ob j)))), (aP, .inl (cI, 9, .inl S)), (aW, .inl (cI, 9, .inl (fun j => nI (wp j)))), (h, .inr (3, [.int (nI g), .int (nI p), .ref aR, .ref aB, .ref aA, .ref aO, .int (nI dm), .ref aD, .ref aP, .int (nI th), .int (nI n), .ref aS, .ref aW, .ref aU, .ref aL, .ref aE, .ref aQ]))] := hD
                      subst hr_r_3
                      refine lv_icmp_ge (tgt := 133) hXX hBB dX3_layResults_102 (by decide) (fun c_102 => ?_) (fun c_102 => ?_)
                      · have c_102 : (g * p) ≤ t := (nI_leI (by omega) (by omega)).mp c_102
                        have hte : t = g * p := by omega
                        rw [hte] at hC
                        have stS : ∀ w : Nat → Nat, sm (fun z => w (cdR rp z (g * p))) (n + 1) = sm (fun z => if lawB (g * p) rg bd ab ob S (rowN g z) then w (cdN g z (g * p)) else 0) (i + 1) := fun w => by
                          simp only [sm]
                          rw [← hlb, c_90, ← hS9 w, cdR_cdN (rs := rp) (k := n) (num := i) (g := g) (fun z hz => (hC z hz).trans (hB z hz)), if_pos rfl]
                          congr 1
                          exact sm_congr (fun z hz => by rw [cdR_congr (fun y hy => hD9 (9 * z + y) (by omega))])
                        refine lv_aload_n hXX hBB dX3_layResults_133 rfl (lv_at hl 5 rfl) ?_
                        refine lv_dup hXX hBB dX3_layResults_134 rfl ?_
                        refine va_get (D := D) (ci := 3) (v := .int (nI n)) (C := RX3) (T := TX3) (N := 17) hXX hBB hts iw_X3 hown hK hP 8 rfl rfl 10 (by decide) kw_3 (fun _ h9 => h9) rfl dX3_layResults_135 ?_
                        refine lv_iconst (v := nI 1) hXX hBB dX3_layResults_138 (by decide) ?_
                        refine lv_iadd hXX hBB dX3_layResults_139 ?_
                        refine m_top (y := nI (n + 1)) (nI_add _ _) ?_
                        refine va_put (D := D) (ci := 3) (v := .int (nI (n + 1))) (ty := .int) (C := RX3) (T := TX3) (N := 17) hXX hBB hts iw_X3 tyX3 tyX3_ok nmX3 hown hK hP hD hS 8 rfl rfl 10 (by decide) kw_3 (fun _ h9 => h9) rfl (by decide +kernel) (rfl) (rfl) (Nat.le_of_ble_eq_true rfl) dX3_layResults_140 (fun H locs hP hD hS => ?_)
                        have hP : va_P D vwCl [(aS, .inl (cI, 5184, .inl (fun j => nI (rp j)))), (aU, .inl (cZ, 9, .inl (fun j => bI (up j)))), (aR, .inl (cI, 9, .inl (fun j => nI (rg j)))), (aB, .inl (cI, 6, .inl (fun j => nI (bd j)))), (aA, .inl (cZ, 81, .inl (fun j => bI (ab j)))), (aO, .inl (cZ, 81, .inl (fun j => bI (ob j)))), (aP, .inl (cI, 9, .inl S)), (aW, .inl (cI, 9, .inl (fun j => nI (wp j)))), (h, .inr (3, [.int (nI g), .int (nI p), .ref aR, .ref aB, .ref aA, .ref aO, .int (nI dm), .ref aD, .ref aP, .int (nI th), .int (nI (n + 1)), .ref aS, .ref aW, .ref aU, .ref aL, .ref aE, .ref aQ]))] H := hP
                        have hD : va_D AA [(aS, .inl (cI, 5184, .inl (fun j => nI (rp j)))), (aU, .inl (cZ, 9, .inl (fun j => bI (up j)))), (aR, .inl (cI, 9, .inl (fun j => nI (rg j)))), (aB, .inl (cI, 6, .inl (fun j => nI (bd j)))), (aA, .inl (cZ, 81, .inl (fun j => bI (ab j)))), (aO, .inl (cZ, 81, .inl (fun j => bI (ob j)))), (aP, .inl (cI, 9, .inl S)), (aW, .inl (cI, 9, .inl (fun j => nI (wp j)))), (h, .inr (3, [.int (nI g), .int (nI p), .ref aR, .ref aB, .ref aA, .ref aO, .int (nI dm), .ref aD, .ref aP, .int (nI th), .int (nI (n + 1)), .ref aS, .ref aW, .ref aU, .ref aL, .ref aE, .ref aQ]))] := hD
                        refine lv_iinc (v := nI (i + 1)) (lv' := [(3, .int (nI (i + 1))), (5, .int (nI t)), (4, .int (nI (i / fac g ^ q))), (2, .int (nI (fac g ^ p))), (1, .int (nI (fac g))), (0, .ref h)]) hXX hBB dX3_layResults_143 hl (k := 2) rfl (nI_1 _) (by decide) rfl (fun ls hl => ?_)
                        refine lv_goto (tgt := 35) hXX hBB dX3_layResults_146 (by decide) ?_
                        have hi_i : (i + 1) ≤ fac g ^ p := by omega
                        have hi_n : (n + 1) ≤ (i + 1) := by omega
                        have hi_Q : ∀ z, rp z < 4 := by first | exact hQ2 | exact hQ
                        have hi_W : ∀ z, wp z < 4 := by exact hW2
                        have hi_S9 : ∀ w : Nat → Nat, sm (fun z => w (cdR rp z (g * p))) (n + 1) = sm (fun z => if lawB (g * p) rg bd ab ob S (rowN g z) then w (cdN g z (g * p)) else 0) (i + 1) := by exact stS
                        have hmm : fac g ^ p - (i + 1) < N_35 := by omega
                        exact ih_35 (i + 1) (n + 1) rp wp up hi_i hi_n hi_Q hi_W hi_S9 hmm _ _ (hP.sub [8, 2, 3, 4, 5, 6, 0, 7, 1] rfl) (hD.sub [8, 2, 3, 4, 5, 6, 0, 7, 1] (by decide) rfl) hS ls (lv_sub hl [0, 3, 4, 5] rfl)
                      · have c_102 : ¬ (g * p) ≤ t := fun h9 => c_102 ((nI_leI (by omega) (by omega)).mpr h9)
                        refine lv_aload_n hXX hBB dX3_layResults_105 rfl (lv_at hl 5 rfl) ?_
                        refine va_get (D := D) (ci := 3) (v := .ref aS) (C := RX3) (T := TX3) (N := 17) hXX hBB hts iw_X3 hown hK hP 8 rfl rfl 11 (by decide) kw_4 (fun _ h9 => h9) rfl dX3_layResults_106 ?_
                        refine lv_bipush (v := nI 9) hXX hBB dX3_layResults_109 (by decide) ?_
                        refine lv_aload_n hXX hBB dX3_layResults_111 rfl (lv_at hl 5 rfl) ?_
                        refine va_get (D := D) (ci := 3) (v := .int (nI n)) (C := RX3) (T := TX3) (N := 17) hXX hBB hts iw_X3 hown hK hP 8 rfl rfl 10 (by decide) kw_3 (fun _ h9 => h9) rfl dX3_layResults_112 ?_
                        refine lv_imul hXX hBB dX3_layResults_115 ?_
                        refine m_top (y := nI (9 * n)) (pk_mul _ _) ?_
                        refine lv_iload hXX hBB dX3_layResults_116 (lv_at hl 0 rfl) ?_
                        refine lv_iadd hXX hBB dX3_layResults_118 ?_
                        refine m_top (y := nI ((9 * n) + t)) (nI_add _ _) ?_
                        refine lv_aload_n hXX hBB dX3_layResults_119 rfl (lv_at hl 5 rfl) ?_
                        refine va_get (D := D) (ci := 3) (v := .ref aW) (C := RX3) (T := TX3) (N := 17) hXX hBB hts iw_X3 hown hK hP 8 rfl rfl 12 (by decide) kw_5 (fun _ h9 => h9) rfl dX3_layResults_120 ?_
                        refine lv_iload hXX hBB dX3_layResults_123 (lv_at hl 0 rfl) ?_
                        refine m_iald hXX hBB hK hP 7 0 rfl rfl (i := t) (by omega) (by decide) (x := nI (wp t)) rfl dX3_layResults_125 ?_
                        refine m_iast hXX hBB hK hP hD hS 0 0 rfl rfl (i := (9 * n) + t) (by omega) (by decide) (g := fun j => nI (updN rp ((9 * n) + t) (wp t) j)) (m_upd _ _ _) dX3_layResults_126 (fun H locs hP hD hS => ?_)
                        have hP : va_P D vwCl [(aS, .inl (cI, 5184, .inl (fun j => nI (updN rp ((9 * n) + t) (wp t) j)))), (aU, .inl (cZ, 9, .inl (fun j => bI (up j)))), (aR, .inl (cI, 9, .inl (fun j => nI (rg j)))), (aB, .inl (cI, 6, .inl (fun j => nI (bd j)))), (aA, .inl (cZ, 81, .inl (fun j => bI (ab j)))), (aO, .inl (cZ, 81, .inl (fun j => bI (ob j)))), (aP, .inl (cI, 9, .inl S)), (aW, .inl (cI, 9, .inl (fun j => nI (wp j)))), (h, .inr (3, [.int (nI g), .int (nI p), .ref aR, .ref aB, .ref aA, .ref aO, .int (nI dm), .ref aD, .ref aP, .int (nI th), .int (nI n), .ref aS, .ref aW, .ref aU, .ref aL, .ref aE, .ref aQ]))] H := hP
                        have hD : va_D AA [(aS, .inl (cI, 5184, .inl (fun j => nI (updN rp ((9 * n) + t) (wp t) j)))), (aU, .inl (cZ, 9, .inl (fun j => bI (up j)))), (aR, .inl (cI, 9, .inl (fun j => nI (rg j)))), (aB, .inl (cI, 6, .inl (fun j => nI (bd j)))), (aA, .inl (cZ, 81, .inl (fun j => bI (ab j)))), (aO, .inl (cZ, 81, .inl (fun j => bI (ob j)))), (aP, .inl (cI, 9, .inl S)), (aW, .inl (cI, 9, .inl (fun j => nI (wp j)))), (h, .inr (3, [.int (nI g), .int (nI p), .ref aR, .ref aB, .ref aA, .ref aO, .int (nI dm), .ref aD, .ref aP, .int (nI th), .int (nI n), .ref aS, .ref aW, .ref aU, .ref aL, .ref aE, .ref aQ]))] := hD
                        refine lv_iinc (v := nI (t + 1)) (lv' := [(5, .int (nI (t + 1))), (4, .int (nI (i / fac g ^ q))), (3, .int (nI i)), (2, .int (nI (fac g ^ p))), (1, .int (nI (fac g))), (0, .ref h)]) hXX hBB dX3_layResults_127 hl (k := 0) rfl (nI_1 _) (by decide) rfl (fun ls hl => ?_)
                        refine lv_goto (tgt := 96) hXX hBB dX3_layResults_130 (by decide) ?_
                        have hi_t : (t + 1) ≤ g * p := by omega
                        have hi_Q2 : ∀ z, (updN rp ((9 * n) + t) (wp t)) z < 4 := by
                          intro z
                          by_cases q9 : z = 9 * n + t
                          · rw [q9, updN_s]; exact hW2 t
                          · rw [updN_n q9]; exact hQ2 z
                        have hi_C : ∀ z, z < (t + 1) → (updN rp ((9 * n) + t) (wp t)) (9 * n + z) = wp z := by
                          intro z hz
                          by_cases q9 : z = t
                          · rw [q9, updN_s]
                          · rw [updN_n (by omega)]; exact hC z (by omega)
                        have hi_D9 : ∀ z, z < 9 * n → (updN rp ((9 * n) + t) (wp t)) z = rq z := by intro z hz; rw [updN_n (by omega)]; exact hD9 z hz
                        have hmm : g * p - (t + 1) < N_96 := by omega
                        exact ih_96 (t + 1) (updN rp ((9 * n) + t) (wp t)) hi_t hi_Q2 hi_C hi_D9 hmm _ _ (hP.sub [0, 1, 8, 2, 3, 4, 5, 6, 7] rfl) (hD.sub [0, 1, 8, 2, 3, 4, 5, 6, 7] (by decide) rfl) hS ls (lv_sub hl [0, 1, 2, 3, 4, 5] rfl)
                  have hi_t : 0 ≤ g * p := by omega
                  have hi_Q2 : ∀ z, rq z < 4 := by exact hQ
                  have hi_C : ∀ z, z < 0 → rq (9 * n + z) = wp z := by exact fun z hz => absurd hz (Nat.not_lt_zero z)
                  have hi_D9 : ∀ z, z < 9 * n → rq z = rq z := by exact fun z _ => rfl
                  exact L_96 _ 0 rq hi_t hi_Q2 hi_C hi_D9 (Nat.lt_succ_self _) _ _ hP hD hS ls (lv_sub hl [0, 1, 2, 3, 4, 5] rfl)
              · have c_52 : ¬ p ≤ q := fun h9 => c_52 ((nI_leI (by omega) (by omega)).mpr h9)
                have hqp : q < p := by omega
                have hms : g * (q + 1) = g * q + g := Nat.mul_succ g q
                have hmq : g * (q + 1) ≤ g * p := Nat.mul_le_mul_left g hqp
                have hdl : i / fac g ^ q ≤ i := Nat.div_le_self _ _
                have hmlq : i / fac g ^ q % fac g < fac g := Nat.mod_lt _ hfl.2
                refine lv_aload_n hXX hBB dX3_layResults_55 rfl (lv_at hl 5 rfl) ?_
                refine lv_iload hXX hBB dX3_layResults_56 (lv_at hl 1 rfl) ?_
                refine lv_iload_n hXX hBB dX3_layResults_58 rfl (lv_at hl 4 rfl) ?_
                refine lv_irem hXX hBB dX3_layResults_59 (nI_ne0 (by omega) (by omega)) ?_
                refine m_top (y := nI ((i / fac g ^ q) % (fac g))) (pk_rem (by omega) (by omega) (by omega)) ?_
                refine lv_aload_n hXX hBB dX3_layResults_60 rfl (lv_at hl 5 rfl) ?_
                refine va_get (D := D) (ci := 3) (v := .int (nI g)) (C := RX3) (T := TX3) (N := 17) hXX hBB hts iw_X3 hown hK hP 0 rfl rfl 0 (by decide) kw_1 (fun _ h9 => h9) rfl dX3_layResults_61 ?_
                refine lv_aload_n hXX hBB dX3_layResults_64 rfl (lv_at hl 5 rfl) ?_
                refine va_get (D := D) (ci := 3) (v := .int (nI g)) (C := RX3) (T := TX3) (N := 17) hXX hBB hts iw_X3 hown hK hP 0 rfl rfl 0 (by decide) kw_1 (fun _ h9 => h9) rfl dX3_layResults_65 ?_
                refine lv_iload hXX hBB dX3_layResults_68 (lv_at hl 0 rfl) ?_
                refine lv_imul hXX hBB dX3_layResults_70 ?_
                refine m_top (y := nI (g * q)) (pk_mul _ _) ?_
                refine m_callv (wr := [(aR, .inl (cI, 9, .inl (fun j => nI (rg j)))), (aB, .inl (cI, 6, .inl (fun j => nI (bd j)))), (aA, .inl (cZ, 81, .inl (fun j => bI (ab j)))), (aO, .inl (cZ, 81, .inl (fun j => bI (ob j)))), (aP, .inl (cI, 9, .inl S)), (aS, .inl (cI, 5184, .inl (fun j => nI (rq j))))]) ⟨hXX, hBB, hml, hown, hts⟩ hN (kX3_layOrder l D cI cZ h g p aR aB aA aO dm aD aP th n aS aW aU aL aE aQ wp up ((i / fac g ^ q) % (fac g)) g (g * q) (by omega) (by omega) (by omega)) (cwV 3 hts gX3_layResults_X3_layOrder rfl rfl rfl (by decide +kernel) ⟨Nat.le_of_ble_eq_true rfl, Nat.le_of_ble_eq_true rfl⟩) hK hP hD hS hAA [0, 7, 8] [1, 2, 3, 4, 5, 6] [0, 1] rfl rfl rfl (by decide) (by decide) (by decide) rfl 3 rfl rfl rfl rfl hl.1 rfl (Nat.le_of_ble_eq_true rfl) dX3_layResults_71 ⟨Nat.le_of_ble_eq_true rfl, Nat.le_of_ble_eq_true rfl⟩ (k := 0) (n := 0) rfl rfl (fun  u_ H locs hw hP hD hS => ?_)
                obtain ⟨wo, uo⟩ := u_
                have hw : (∀ z, z < g → wo ((g * q) + z) = lo g ((i / fac g ^ q) % (fac g)) z) ∧ (∀ z, z < (g * q) ∨ (g * q) + g ≤ z → wo z = wp z) := hw
                obtain ⟨e_1, e_2⟩ := hw
                have hP : va_P D vwCl [(aR, .inl (cI, 9, .inl (fun j => nI (rg j)))), (aB, .inl (cI, 6, .inl (fun j => nI (bd j)))), (aA, .inl (cZ, 81, .inl (fun j => bI (ab j)))), (aO, .inl (cZ, 81, .inl (fun j => bI (ob j)))), (aP, .inl (cI, 9, .inl S)), (aS, .inl (cI, 5184, .inl (fun j => nI (rq j)))), (h, .inr (3, [.int (nI g), .int (nI p), .ref aR, .ref aB, .ref aA, .ref aO, .int (nI dm), .ref aD, .ref aP, .int (nI th), .int (nI n), .ref aS, .ref aW, .ref aU, .ref aL, .ref aE, .ref aQ])), (aW, .inl (cI, 9, .inl (fun j => nI (wo j)))), (aU, .inl (cZ, 9, .inl (fun j => bI (uo j))))] H := hP
                have hD : va_D AA [(aR, .inl (cI, 9, .inl (fun j => nI (rg j)))), (aB, .inl (cI, 6, .inl (fun j => nI (bd j)))), (aA, .inl (cZ, 81, .inl (fun j => bI (ab j)))), (aO, .inl (cZ, 81, .inl (fun j => bI (ob j)))), (aP, .inl (cI, 9, .inl S)), (aS, .inl (cI, 5184, .inl (fun j => nI (rq j)))), (h, .inr (3, [.int (nI g), .int (nI p), .ref aR, .ref aB, .ref aA, .ref aO, .int (nI dm), .ref aD, .ref aP, .int (nI th), .int (nI n), .ref aS, .ref aW, .ref aU, .ref aL, .ref aE, .ref aQ])), (aW, .inl (cI, 9, .inl (fun j => nI (wo j)))), (aU, .inl (cZ, 9, .inl (fun j => bI (uo j))))] := hD
                have stB : ∀ z, z < g * (q + 1) → wo z = rowN g i z := fun z hz => by
                  rcases Nat.lt_or_ge z (g * q) with h9 | h9
                  · rw [e_2 z (Or.inl h9)]; exact hB z h9
                  · have h8 := e_1 (z - g * q) (by omega)
                    rw [show g * q + (z - g * q) = z by omega] at h8
                    rw [h8]
                    have hz1 : z / g = q := Nat.div_eq_of_lt_le (by rw [Nat.mul_comm]; exact h9) (by rw [Nat.mul_comm]; omega)
                    have hz2 : z % g = z - g * q := by have := Nat.div_add_mod z g; rw [hz1] at this; omega
                    unfold rowN
                    rw [hz1, hz2]
                have stW : ∀ z, wo z < 4 := fun z => by
                  rcases Nat.lt_or_ge z (g * q) with h9 | h9
                  · rw [e_2 z (Or.inl h9)]; exact hW2 z
                  · rcases Nat.lt_or_ge z (g * q + g) with h7 | h7
                    · have h8 := e_1 (z - g * q) (by omega)
                      rw [show g * q + (z - g * q) = z by omega] at h8
                      rw [h8]
                      exact Nat.lt_of_lt_of_le (lo_lt (by omega) hg4 (by omega)) hg4
                    · rw [e_2 z (Or.inr h7)]; exact hW2 z
                refine lv_iload hXX hBB dX3_layResults_74 (lv_at hl 1 rfl) ?_
                refine lv_iload_n hXX hBB dX3_layResults_76 rfl (lv_at hl 4 rfl) ?_
                refine lv_idiv hXX hBB dX3_layResults_77 (nI_ne0 (by omega) (by omega)) ?_
                refine m_top (y := nI (i / fac g ^ (q + 1))) (by rw [pk_div (by omega) (by omega) (by omega), Nat.div_div_eq_div_mul, Nat.pow_succ]) ?_
                refine lv_istore (lv' := [(4, .int (nI (i / fac g ^ (q + 1)))), (5, .int (nI q)), (3, .int (nI i)), (2, .int (nI (fac g ^ p))), (1, .int (nI (fac g))), (0, .ref h)]) hXX hBB dX3_layResults_78 hl (by decide) rfl (fun ls hl => ?_)
                refine lv_iinc (v := nI (q + 1)) (lv' := [(5, .int (nI (q + 1))), (4, .int (nI (i / fac g ^ (q + 1)))), (3, .int (nI i)), (2, .int (nI (fac g ^ p))), (1, .int (nI (fac g))), (0, .ref h)]) hXX hBB dX3_layResults_80 hl (k := 1) rfl (nI_1 _) (by decide) rfl (fun ls hl => ?_)
                refine lv_goto (tgt := 46) hXX hBB dX3_layResults_83 (by decide) ?_
                have hi_q : (q + 1) ≤ p := by omega
                have hi_W2 : ∀ z, wo z < 4 := by exact stW
                have hi_B : ∀ z, z < g * (q + 1) → wo z = rowN g i z := by exact stB
                have hmm : p - (q + 1) < N_46 := by omega
                exact ih_46 (q + 1) wo uo hi_q hi_W2 hi_B hmm _ _ (hP.sub [6, 0, 1, 2, 3, 4, 5, 7, 8] rfl) (hD.sub [6, 0, 1, 2, 3, 4, 5, 7, 8] (by decide) rfl) hS ls (lv_sub hl [0, 1, 2, 3, 4, 5] rfl)
          have hi_q : 0 ≤ p := by omega
          have hi_W2 : ∀ z, wq z < 4 := by exact hW
          have hi_B : ∀ z, z < g * 0 → wq z = rowN g i z := by exact fun z hz => absurd hz (by omega)
          exact L_46 _ 0 wq uq hi_q hi_W2 hi_B (Nat.lt_succ_self _) _ _ hP hD hS ls (lv_sub hl [0, 1, 2, 3, 4, 5] rfl)
    have hi_i : 0 ≤ fac g ^ p := by omega
    have hi_n : 0 ≤ 0 := by omega
    have hi_Q : ∀ z, rs z < 4 := by exact hrs
    have hi_W : ∀ z, rw z < 4 := by exact hrw
    have hi_S9 : ∀ w : Nat → Nat, sm (fun z => w (cdR rs z (g * p))) 0 = sm (fun z => if lawB (g * p) rg bd ab ob S (rowN g z) then w (cdN g z (g * p)) else 0) 0 := by intro w; rfl
    exact L_35 _ 0 0 rs rw us hi_i hi_n hi_Q hi_W hi_S9 (Nat.lt_succ_self _) _ _ hP hD hS ls (lv_sub hl [0, 1, 2, 3] rfl)
  refine lv_aload_n hXX hBB dX3_layResults_8 rfl (lv_at hl 1 rfl) ?_
  refine va_get (D := D) (ci := 3) (v := .int (nI p)) (C := RX3) (T := TX3) (N := 17) hXX hBB hts iw_X3 hown hK hP 0 rfl rfl 1 (by decide) kw_2 (fun _ h9 => h9) rfl dX3_layResults_9 ?_
  refine lv_iconst (v := nI 2) hXX hBB dX3_layResults_12 (by decide) ?_
  refine lv_icmp_ne (tgt := 22) hXX hBB dX3_layResults_13 (by decide) (fun c_13 => ?_) (fun c_13 => ?_)
  · have c_13 : ¬ p = 2 := fun h9 => c_13 ((nI_eq (by omega) (by omega)).mpr h9)
    refine lv_iload_n hXX hBB dX3_layResults_22 rfl (lv_at hl 0 rfl) ?_
    refine lv_iload_n hXX hBB dX3_layResults_23 rfl (lv_at hl 0 rfl) ?_
    refine lv_imul hXX hBB dX3_layResults_24 ?_
    refine m_top (y := nI ((fac g) * (fac g))) (pk_mul _ _) ?_
    refine lv_iload_n hXX hBB dX3_layResults_25 rfl (lv_at hl 0 rfl) ?_
    refine lv_imul hXX hBB dX3_layResults_26 ?_
    refine m_top (y := nI (((fac g) * (fac g)) * (fac g))) (pk_mul _ _) ?_
    refine m_top (y := nI (fac g ^ p)) (by first | rw [c_13, Nat.pow_two] | rw [show p = 3 by omega, Nat.pow_succ, Nat.pow_two]) ?_
    exact J_27 _ _ (hP.sub [0, 1, 2, 3, 4, 5, 6, 7, 8] rfl) (hD.sub [0, 1, 2, 3, 4, 5, 6, 7, 8] (by decide) rfl) hS ls (lv_sub hl [0, 1] rfl)
  · have c_13 : p = 2 := (nI_eq (by omega) (by omega)).mp c_13
    refine lv_iload_n hXX hBB dX3_layResults_16 rfl (lv_at hl 0 rfl) ?_
    refine lv_iload_n hXX hBB dX3_layResults_17 rfl (lv_at hl 0 rfl) ?_
    refine lv_imul hXX hBB dX3_layResults_18 ?_
    refine m_top (y := nI ((fac g) * (fac g))) (pk_mul _ _) ?_
    refine lv_goto (tgt := 27) hXX hBB dX3_layResults_19 (by decide) ?_
    refine m_top (y := nI (fac g ^ p)) (by first | rw [c_13, Nat.pow_two] | rw [show p = 3 by omega, Nat.pow_succ, Nat.pow_two]) ?_
    exact J_27 _ _ (hP.sub [0, 1, 2, 3, 4, 5, 6, 7, 8] rfl) (hD.sub [0, 1, 2, 3, 4, 5, 6, 7, 8] (by decide) rfl) hS ls (lv_sub hl [0, 1] rfl)
