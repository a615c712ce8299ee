/-! own rows: results, by what every weight sums to -/
theorem gr_add_lo {a b t T : Nat} (h : t < T) : gr (a + b * 4 ^ T) t = gr a t := by
  unfold gr
  obtain ⟨d, rfl⟩ : ∃ d, T = t + 1 + d := ⟨T - (t + 1), by omega⟩
  have e : b * 4 ^ (t + 1 + d) = (b * 4 ^ d * 4) * 4 ^ t := by
    rw [Nat.pow_add, Nat.pow_succ]
    simp only [Nat.mul_assoc, Nat.mul_comm, Nat.mul_left_comm]
  rw [e, Nat.add_mul_div_right _ _ (Nat.pow_pos (by decide)), Nat.add_mul_mod_self_right]
theorem gr_add_hi {a b T : Nat} (ha : a < 4 ^ T) (hb : b < 4) : gr (a + b * 4 ^ T) T = b := by
  unfold gr
  rw [Nat.add_mul_div_right _ _ (Nat.pow_pos (by decide)), Nat.div_eq_of_lt ha, Nat.zero_add, Nat.mod_eq_of_lt hb]
theorem cdR_lt {rs : Nat → Nat} {k : Nat} (h : ∀ z, rs z < 4) (T : Nat) : cdR rs k T < 4 ^ T := by
  induction T with
  | zero => exact Nat.one_pos
  | succ T ih =>
    simp only [cdR, Nat.pow_succ]
    have h1 := h (9 * k + T)
    have h2 : rs (9 * k + T) * 4 ^ T ≤ 3 * 4 ^ T := Nat.mul_le_mul_right _ (by omega)
    omega
theorem gr_cdR {rs : Nat → Nat} {k : Nat} (h : ∀ z, rs z < 4) {t T : Nat} (ht : t < T) : gr (cdR rs k T) t = rs (9 * k + t) := by
  induction T with
  | zero => exact absurd ht (Nat.not_lt_zero _)
  | succ T ih =>
    simp only [cdR]
    by_cases q : t = T
    · subst q; exact gr_add_hi (cdR_lt h t) (h _)
    · rw [gr_add_lo (by omega)]; exact ih (by omega)
theorem rowN_lt {g m t : Nat} (hg : 0 < g) (hg4 : g ≤ 4) : rowN g m t < g := lo_lt (Nat.mod_lt _ hg) hg4 (Nat.le_of_lt (Nat.mod_lt _ hg))
theorem cdN_lt {g m : Nat} (hg : 0 < g) (hg4 : g ≤ 4) (T : Nat) : cdN g m T < 4 ^ T := by
  induction T with
  | zero => exact Nat.one_pos
  | succ T ih =>
    simp only [cdN, Nat.pow_succ]
    have h1 : rowN g m T < g := rowN_lt hg hg4
    have h2 : rowN g m T * 4 ^ T ≤ 3 * 4 ^ T := Nat.mul_le_mul_right _ (by omega)
    omega
theorem gr_cdN {g m : Nat} (hg : 0 < g) (hg4 : g ≤ 4) {t T : Nat} (ht : t < T) : gr (cdN g m T) t = rowN g m t := by
  induction T with
  | zero => exact absurd ht (Nat.not_lt_zero _)
  | succ T ih =>
    simp only [cdN]
    by_cases q : t = T
    · subst q; exact gr_add_hi (cdN_lt hg hg4 t) (Nat.lt_of_lt_of_le (rowN_lt hg hg4) hg4)
    · rw [gr_add_lo (by omega)]; exact ih (by omega)
/-- a code that keeps to the seats -/
def consC (T : Nat) (S : Nat → Int32) (c : Nat) : Bool := allB (fun t => decide (S t = -1) || decide (S t = nI (gr c t))) T
def consR (T : Nat) (S : Nat → Int32) (rw : Nat → Nat) : Bool := allB (fun t => decide (S t = -1) || decide (S t = nI (rw t))) T
theorem allB_and (P Q : Nat → Bool) (n : Nat) : allB (fun i => P i && Q i) n = (allB P n && allB Q n) := by
  induction n with
  | zero => rfl
  | succ n ih =>
    simp only [allB, ih]
    cases allB P n <;> cases allB Q n <;> cases P n <;> cases Q n <;> rfl
theorem lawB_split (T : Nat) (rg bd : Nat → Nat) (ab ob : Nat → Bool) (S : Nat → Int32) (rw : Nat → Nat) : lawB T rg bd ab ob S rw = (lawB T rg bd ab ob (fun _ => -1) rw && consR T S rw) := by
  unfold lawB consR
  rw [← allB_and]
  exact allB_congr (fun t ht => by
    simp only [okT, decide_true, Bool.true_or, Bool.and_true]
    cases allB (okP ab ob rw t) T <;> cases decide (ct (smT rg rw t) T ≤ bd (rg t)) <;> rfl)
/-- S2 has all seats of S, and maybe more -/
def Ext (T : Nat) (S S2 : Nat → Int32) : Prop := ∀ t, t < T → S t = -1 ∨ S2 t = S t
theorem Ext.refl (T : Nat) (S : Nat → Int32) : Ext T S S := fun _ _ => Or.inr rfl
theorem Ext.upd {T : Nat} {S S2 : Nat → Int32} (h : Ext T S S2) {t : Nat} (ht : S2 t = -1) (v : Int32) : Ext T S (upd S2 t v) := fun z hz => by
  rcases h z hz with q | q
  · exact Or.inl q
  · by_cases e : z = t
    · subst e; rw [ht] at q; exact Or.inl q.symm
    · right; show (if z = t then v else S2 z) = S z; rw [if_neg e]; exact q
theorem consC_ext {T : Nat} {S S2 : Nat → Int32} (h : Ext T S S2) {c : Nat} (h2 : consC T S2 c = true) : consC T S c = true := by
  unfold consC at h2 ⊢
  rw [allB_iff] at h2 ⊢
  intro t ht
  have h3 := h2 t ht
  rcases h t ht with q | q
  · simp [q]
  · rw [← q]; exact h3
theorem consR_cdN {g m T : Nat} (hg : 0 < g) (hg4 : g ≤ 4) (S : Nat → Int32) : consR T S (rowN g m) = consC T S (cdN g m T) :=
  allB_congr (fun t ht => by rw [gr_cdN hg hg4 ht])
theorem RS_ext {g p : Nat} {rg bd : Nat → Nat} {ab ob : Nat → Bool} {S S2 : Nat → Int32} (hg : 0 < g) (hg4 : g ≤ 4) (h : Ext (g * p) S S2) (w : Nat → Nat) :
    RS g p rg bd ab ob S2 w = RS g p rg bd ab ob S (fun c => if consC (g * p) S2 c then w c else 0) := by
  unfold RS
  refine sm_congr (fun m _ => ?_)
  rw [lawB_split _ _ _ _ _ S2, lawB_split _ _ _ _ _ S, consR_cdN hg hg4, consR_cdN hg hg4]
  cases h0 : lawB (g * p) rg bd ab ob (fun _ => -1) (rowN g m)
  · simp
  · cases h2 : consC (g * p) S2 (cdN g m (g * p))
    · simp [h2]
    · simp [h2, consC_ext h h2]
theorem RS_congr {g p : Nat} {rg bd : Nat → Nat} {ab ob : Nat → Bool} {S : Nat → Int32} {w w2 : Nat → Nat} (h : ∀ c, w c = w2 c) : RS g p rg bd ab ob S w = RS g p rg bd ab ob S w2 := by
  rw [show w = w2 from funext h]
theorem RS_le {g p : Nat} {rg bd : Nat → Nat} {ab ob : Nat → Bool} {S : Nat → Int32} {w w2 : Nat → Nat} (h : ∀ c, w c ≤ w2 c) : RS g p rg bd ab ob S w ≤ RS g p rg bd ab ob S w2 := by
  unfold RS
  generalize fac g ^ p = n
  induction n with
  | zero => exact Nat.le_refl _
  | succ n ih =>
    simp only [sm]
    have h1 := h (cdN g n (g * p))
    split
    · omega
    · omega
/-- in how many open results a team is in a group -/
def evN (g p : Nat) (rg bd : Nat → Nat) (ab ob : Nat → Bool) (S : Nat → Int32) (t k : Nat) : Nat := RS g p rg bd ab ob S (fun c => (decide (gr c t = k)).toNat)
def rsN (g p : Nat) (rg bd : Nat → Nat) (ab ob : Nat → Bool) (S : Nat → Int32) : Nat := RS g p rg bd ab ob S (fun _ => 1)
theorem sm_one (n : Nat) : sm (fun _ => 1) n = n := by
  induction n with
  | zero => rfl
  | succ n ih => simp only [sm, ih]
/-- the first q from a place on with c q, or the end -/
def fstN (c : Nat → Nat) : Nat → Nat → Nat
  | 0, q => q
  | f + 1, q => if 0 < c q then q else fstN c f (q + 1)
theorem fstN_spec (c : Nat → Nat) : ∀ (f q : Nat), q ≤ fstN c f q ∧ fstN c f q ≤ q + f ∧ (fstN c f q < q + f → 0 < c (fstN c f q)) ∧ ∀ j, q ≤ j → j < fstN c f q → c j = 0 := by
  intro f
  induction f with
  | zero => intro q; exact ⟨Nat.le_refl _, Nat.le_refl _, fun h => absurd h (Nat.lt_irrefl _), fun j h1 h2 => absurd h2 (by simp only [fstN]; omega)⟩
  | succ f ih =>
    intro q
    simp only [fstN]
    by_cases h : 0 < c q
    · rw [if_pos h]; exact ⟨Nat.le_refl _, by omega, fun _ => h, fun j h1 h2 => by omega⟩
    · rw [if_neg h]
      have h1 := ih (q + 1)
      refine ⟨by omega, by omega, fun h2 => h1.2.2.1 (by omega), fun j h2 h3 => ?_⟩
      by_cases e : j = q
      · subst e; omega
      · exact h1.2.2.2 j (by omega) h3
theorem fstN_eq {c : Nat → Nat} {f k : Nat} (hk : k ≤ f) (h0 : ∀ j, j < k → c j = 0) (h1 : k < f → 0 < c k) : fstN c f 0 = k := by
  have h := fstN_spec c f 0
  rcases Nat.lt_trichotomy (fstN c f 0) k with q | q | q
  · have h2 := h.2.2.1 (by omega)
    have h3 := h0 _ q
    omega
  · exact q
  · have h2 := h.2.2.2 k (Nat.zero_le _) q
    have h3 := h1 (by omega)
    omega
theorem fstN_congr {c d : Nat → Nat} (h : ∀ j, c j = d j) (f q : Nat) : fstN c f q = fstN d f q := by rw [show c = d from funext h]
theorem lowR_fst (c : Nat → Nat) : ∀ (f q : Nat), lowR c f q = if fstN c f q < q + f then nI (fstN c f q) else -1 := by
  intro f
  induction f with
  | zero => intro q; simp [lowR, fstN]
  | succ f ih =>
    intro q
    by_cases h : 0 < c q
    · have e : fstN c (f + 1) q = q := by simp only [fstN]; rw [if_pos h]
      have e2 : lowR c (f + 1) q = nI q := by simp only [lowR]; rw [if_pos h]
      rw [e2, e, if_pos (by omega)]
    · have e : fstN c (f + 1) q = fstN c f (q + 1) := by simp only [fstN]; rw [if_neg h]
      have e2 : lowR c (f + 1) q = lowR c f (q + 1) := by simp only [lowR]; rw [if_neg h]
      rw [e2, e, ih (q + 1), show q + 1 + f = q + (f + 1) by omega]
/-- the group to which a team goes -/
def lowC (g p : Nat) (rg bd : Nat → Nat) (ab ob : Nat → Bool) (S : Nat → Int32) (t : Nat) : Nat := fstN (evN g p rg bd ab ob S t) g 0
/-- a list of codes holds the open results -/
def RepL (L : (Nat → Nat) → Nat) (g p : Nat) (rg bd : Nat → Nat) (ab ob : Nat → Bool) (S : Nat → Int32) : Prop := ∀ w : Nat → Nat, L w = RS g p rg bd ab ob S w
theorem RS_w0 {g p : Nat} {rg bd : Nat → Nat} {ab ob : Nat → Bool} {S : Nat → Int32} {w : Nat → Nat} (h : ∀ m, m < fac g ^ p → lawB (g * p) rg bd ab ob S (rowN g m) = true → w (cdN g m (g * p)) = 0) : RS g p rg bd ab ob S w = 0 := by
  unfold RS
  refine sm_zero (fun m hm => ?_)
  by_cases q : lawB (g * p) rg bd ab ob S (rowN g m) = true
  · rw [if_pos q]; exact h m hm q
  · rw [if_neg q]
theorem sm_0 {h : Nat → Nat} {n : Nat} (e : sm h n = 0) : ∀ i, i < n → h i = 0 := by
  induction n with
  | zero => exact fun i hi => absurd hi (Nat.not_lt_zero _)
  | succ n ih =>
    simp only [sm] at e
    intro i hi
    by_cases q : i = n
    · subst q; omega
    · exact ih (by omega) i (by omega)
theorem RS_grp {g p : Nat} {rg bd : Nat → Nat} {ab ob : Nat → Bool} {S : Nat → Int32} (hg : 0 < g) (hg4 : g ≤ 4) {t : Nat} (ht : t < g * p) : RS g p rg bd ab ob S (fun c => (decide (g ≤ gr c t)).toNat) = 0 :=
  RS_w0 (fun m _ _ => by rw [gr_cdN hg hg4 ht]; have := rowN_lt (g := g) (m := m) (t := t) hg hg4; simp; omega)
theorem RS_cons {g p : Nat} {rg bd : Nat → Nat} {ab ob : Nat → Bool} {S : Nat → Int32} (hg : 0 < g) (hg4 : g ≤ 4) : RS g p rg bd ab ob S (fun c => (!(consC (g * p) S c)).toNat) = 0 :=
  RS_w0 (fun m _ h => by
    rw [lawB_split, consR_cdN hg hg4, Bool.and_eq_true] at h
    rw [h.2]; rfl)
/-- of a list that holds the open results: its numbers -/
theorem rep_el {f : Nat → Nat} {n g p : Nat} {rg bd : Nat → Nat} {ab ob : Nat → Bool} {S : Nat → Int32} (hg : 0 < g) (hg4 : g ≤ 4) (h : RepL (fun w => sm (fun z => w (f z)) n) g p rg bd ab ob S) :
    ∀ z, z < n → (∀ t, t < g * p → gr (f z) t < g) ∧ consC (g * p) S (f z) = true := by
  intro z hz
  refine ⟨fun t ht => ?_, ?_⟩
  · have h1 := (h (fun c => (decide (g ≤ gr c t)).toNat)).trans (RS_grp hg hg4 ht)
    have h2 := sm_0 h1 z hz
    by_cases q : g ≤ gr (f z) t
    · simp [q] at h2
    · omega
  · have h1 := (h (fun c => (!(consC (g * p) S c)).toNat)).trans (RS_cons hg hg4)
    have h2 := sm_0 h1 z hz
    cases q : consC (g * p) S (f z)
    · simp [q] at h2
    · rfl
theorem sm_pos {h : Nat → Nat} {n : Nat} (e : 0 < sm h n) : ∃ i, i < n ∧ 0 < h i := by
  induction n with
  | zero => exact absurd e (Nat.lt_irrefl _)
  | succ n ih =>
    simp only [sm] at e
    by_cases q : 0 < h n
    · exact ⟨n, by omega, q⟩
    · obtain ⟨i, h1, h2⟩ := ih (by omega)
      exact ⟨i, by omega, h2⟩
theorem sm_ge {h : Nat → Nat} {n i : Nat} (hi : i < n) : h i ≤ sm h n := by
  induction n with
  | zero => exact absurd hi (Nat.not_lt_zero _)
  | succ n ih =>
    simp only [sm]
    by_cases q : i = n
    · subst q; omega
    · have := ih (by omega); omega
/-- the least group of a team over the places with P -/
def llN (g : Nat) (rs : Nat → Nat) (P : Nat → Bool) (t : Nat) : Nat → Nat
  | 0 => g
  | k + 1 => if P k && decide (rs (9 * k + t) < llN g rs P t k) then rs (9 * k + t) else llN g rs P t k
theorem llN_congr {g : Nat} {rs : Nat → Nat} {P Q : Nat → Bool} {t n : Nat} (h : ∀ z, z < n → P z = Q z) : llN g rs P t n = llN g rs Q t n := by
  induction n with
  | zero => rfl
  | succ n ih => simp only [llN]; rw [ih (fun z hz => h z (by omega)), h n (by omega)]
theorem llN_spec (g : Nat) (rs : Nat → Nat) (P : Nat → Bool) (t : Nat) : ∀ n, llN g rs P t n ≤ g ∧ (∀ z, z < n → P z = true → llN g rs P t n ≤ rs (9 * z + t)) ∧ (llN g rs P t n < g → ∃ z, z < n ∧ P z = true ∧ rs (9 * z + t) = llN g rs P t n) := by
  intro n
  induction n with
  | zero => exact ⟨Nat.le_refl _, fun z hz => absurd hz (Nat.not_lt_zero _), fun h => absurd h (Nat.lt_irrefl _)⟩
  | succ n ih =>
    simp only [llN]
    by_cases c : (P n && decide (rs (9 * n + t) < llN g rs P t n)) = true
    · rw [if_pos c]
      rw [Bool.and_eq_true, decide_eq_true_eq] at c
      refine ⟨by omega, fun z hz hP => ?_, fun _ => ⟨n, by omega, c.1, rfl⟩⟩
      by_cases q : z = n
      · subst q; exact Nat.le_refl _
      · have := ih.2.1 z (by omega) hP; omega
    · rw [if_neg c]
      refine ⟨ih.1, fun z hz hP => ?_, fun h => ?_⟩
      · by_cases q : z = n
        · subst q
          simp only [hP, Bool.true_and, decide_eq_true_eq] at c
          omega
        · exact ih.2.1 z (by omega) hP
      · obtain ⟨z, h1, h2, h3⟩ := ih.2.2 h
        exact ⟨z, by omega, h2, h3⟩
/-- the model's way to the lowest group is the lowest group -/
theorem llN_low {rs : Nat → Nat} {n g p : Nat} {rg bd : Nat → Nat} {ab ob : Nat → Bool} {S S2 : Nat → Int32} (hg : 0 < g) (hg4 : g ≤ 4) (hrs : ∀ z, rs z < 4) (hL : RepL (fun w => sm (fun z => w (cdR rs z (g * p))) n) g p rg bd ab ob S) (hE : Ext (g * p) S S2) {t : Nat} (ht : t < g * p) :
    llN g rs (fun z => consC (g * p) S2 (cdR rs z (g * p))) t n = lowC g p rg bd ab ob S2 t := by
  have hs := llN_spec g rs (fun z => consC (g * p) S2 (cdR rs z (g * p))) t n
  have ev : ∀ k, evN g p rg bd ab ob S2 t k = sm (fun z => if consC (g * p) S2 (cdR rs z (g * p)) then (decide (gr (cdR rs z (g * p)) t = k)).toNat else 0) n := fun k => by
    unfold evN
    rw [RS_ext hg hg4 hE]
    exact (hL (fun c => if consC (g * p) S2 c then (decide (gr c t = k)).toNat else 0)).symm
  refine (fstN_eq hs.1 (fun j hj => ?_) (fun h => ?_)).symm
  · rw [ev]
    refine sm_zero (fun z hz => ?_)
    by_cases q : consC (g * p) S2 (cdR rs z (g * p)) = true
    · rw [if_pos q]
      have h1 := hs.2.1 z hz q
      rw [gr_cdR hrs ht]
      have : ¬ rs (9 * z + t) = j := by omega
      simp [this]
    · rw [if_neg q]
  · obtain ⟨z, h1, h2, h3⟩ := hs.2.2 h
    rw [ev]
    refine Nat.lt_of_lt_of_le ?_ (sm_ge h1)
    have h2' : consC (g * p) S2 (cdR rs z (g * p)) = true := h2
    rw [if_pos h2', gr_cdR hrs ht, h3]
    simp
