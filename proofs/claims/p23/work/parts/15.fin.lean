/-! own rows: the draw, ball by ball -/
def unP (S : Nat → Int32) (b : Nat) : Nat → Bool := fun z => decide (S (b + z) = -1)
theorem ct_shift (P : Nat → Bool) (n : Nat) : ct P (n + 1) = (P 0).toNat + ct (fun z => P (z + 1)) n := by
  induction n with
  | zero => simp [ct, sm]
  | succ n ih => rw [ct_s P (n + 1), ih, ct_s (fun z => P (z + 1)) n]; omega
theorem nth_rank {S : Nat → Int32} : ∀ (f t0 l t : Nat), t0 ≤ t → t < t0 + f → S t = -1 → ct (unP S t0) (t - t0) = l → nth S f t0 l = nI t := by
  intro f
  induction f with
  | zero => intro t0 l t h1 h2; omega
  | succ f ih =>
    intro t0 l t h1 h2 h3 h4
    simp only [nth]
    by_cases c : t = t0
    · subst c
      rw [Nat.sub_self] at h4
      have h5 : l = 0 := h4.symm
      rw [if_pos h3, if_pos h5]
    · have e : t - t0 = (t - (t0 + 1)) + 1 := by omega
      rw [e, ct_shift] at h4
      have e2 : ct (fun z => unP S t0 (z + 1)) (t - (t0 + 1)) = ct (unP S (t0 + 1)) (t - (t0 + 1)) := ct_congr (fun z _ => by simp only [unP]; rw [show t0 + (z + 1) = t0 + 1 + z by omega])
      rw [e2] at h4
      by_cases d : S t0 = -1
      · have h6 : (unP S t0 0).toNat = 1 := by simp [unP, d]
        rw [if_pos d, if_neg (by omega)]
        exact ih (t0 + 1) (l - 1) t (by omega) (by omega) h3 (by omega)
      · have h6 : (unP S t0 0).toNat = 0 := by simp [unP, d]
        rw [if_neg d]
        exact ih (t0 + 1) l t (by omega) (by omega) h3 (by omega)
theorem nth_ex {S : Nat → Int32} {t0 l : Nat} : ∀ f, l < ct (unP S t0) f → ∃ t, t0 ≤ t ∧ t < t0 + f ∧ S t = -1 ∧ ct (unP S t0) (t - t0) = l := by
  intro f
  induction f with
  | zero => intro h; exact absurd h (Nat.not_lt_zero _)
  | succ f ih =>
    intro h
    by_cases c : l < ct (unP S t0) f
    · obtain ⟨t, h1, h2, h3, h4⟩ := ih c
      exact ⟨t, h1, by omega, h3, h4⟩
    · rw [ct_s] at h
      cases q : unP S t0 f
      · rw [q] at h; simp at h; omega
      · rw [q] at h
        simp only [Bool.toNat_true] at h
        refine ⟨t0 + f, by omega, by omega, of_decide_eq_true q, ?_⟩
        rw [show t0 + f - t0 = f by omega]
        omega
def VS (g p d : Nat) (S : Nat → Int32) : Prop := ∀ q, q < p → ct (unP S (g * q)) g = min g (g * (q + 1) - d)
def tnI (x : Int32) : Nat := x.toNatClampNeg
theorem tnI_nI {t : Nat} (h : t < 2 ^ 31) : tnI (nI t) = t := nI_clamp h
def balT (S : Nat → Int32) (g q l : Nat) : Nat := tnI (nth S g (g * q) l)
def finS (g : Nat) (low : (Nat → Int32) → Nat → Nat) : Nat → Nat → (Nat → Int32) → Nat → (Nat → Int32)
  | 0, _, S, _ => S
  | f + 1, d, S, n => finS g low f (d + 1) (upd S (balT S g (d / g) (n % (g - d % g))) (nI (low S (balT S g (d / g) (n % (g - d % g)))))) (n / (g - d % g))
theorem ct_unP_upd {S : Nat → Int32} {b t n : Nat} {v : Int32} (h1 : b ≤ t) (h2 : t < b + n) (h3 : S t = -1) (hv : v ≠ -1) : ct (unP (upd S t v) b) n + 1 = ct (unP S b) n := by
  induction n with
  | zero => omega
  | succ n ih =>
    by_cases c : t = b + n
    · have e : ct (unP (upd S t v) b) n = ct (unP S b) n := ct_congr (fun z hz => by simp [unP, upd, show ¬ b + z = t by omega])
      rw [ct_f (show unP (upd S t v) b n = false by simp [unP, upd, c, hv]), ct_t (show unP S b n = true by simp [unP, ← c, h3]), e]
    · have h4 := ih (by omega)
      have e : unP (upd S t v) b n = unP S b n := by simp [unP, upd, show ¬ b + n = t by omega]
      rw [ct_s, ct_s, e]
      omega
theorem ct_unP_out {S : Nat → Int32} {b t n : Nat} {v : Int32} (h : t < b ∨ b + n ≤ t) : ct (unP (upd S t v) b) n = ct (unP S b) n :=
  ct_congr (fun z hz => by simp [unP, upd, show ¬ b + z = t by omega])
theorem pot_of {g d q : Nat} (h1 : g * q ≤ d) (h2 : d < g * q + g) : d / g = q ∧ d % g = d - g * q := by
  have hg : 0 < g := by omega
  have e : d / g = q := Nat.div_eq_of_lt_le (by rw [Nat.mul_comm]; exact h1) (by rw [Nat.mul_comm, Nat.mul_succ]; exact h2)
  have h3 := Nat.div_add_mod d g
  rw [e] at h3
  exact ⟨e, by omega⟩
theorem pot_in (d : Nat) {g : Nat} (hg : 0 < g) : g * (d / g) ≤ d ∧ d < g * (d / g) + g := by
  have h1 := Nat.div_add_mod d g
  have h2 := Nat.mod_lt d hg
  omega
theorem pot_lt {d g p : Nat} (hg : 0 < g) (h : d < g * p) : d / g < p := (Nat.div_lt_iff_lt_mul hg).mpr (by rw [Nat.mul_comm]; exact h)
theorem VS_step {g p d : Nat} {S : Nat → Int32} (hg : 0 < g) (h : VS g p d S) (hd : d < g * p) {t : Nat} {v : Int32} (h1 : g * (d / g) ≤ t) (h2 : t < g * (d / g) + g) (h3 : S t = -1) (hv : v ≠ -1) : VS g p (d + 1) (upd S t v) := by
  intro q hq
  have hp := pot_in d hg
  have h4 := h q hq
  have e1 : g * (q + 1) = g * q + g := Nat.mul_succ g q
  rcases Nat.lt_trichotomy q (d / g) with c | c | c
  · have e2 : g * (q + 1) ≤ g * (d / g) := Nat.mul_le_mul_left g c
    rw [ct_unP_out (by omega), h4]
    omega
  · subst c
    have h5 := ct_unP_upd (n := g) h1 h2 h3 hv
    omega
  · have e2 : g * (d / g + 1) ≤ g * q := Nat.mul_le_mul_left g c
    have e3 : g * (d / g + 1) = g * (d / g) + g := Nat.mul_succ g (d / g)
    rw [ct_unP_out (by omega), h4]
    omega
theorem VS_cnt {g p d : Nat} {S : Nat → Int32} (hg : 0 < g) (h : VS g p d S) (hd : d < g * p) : ct (unP S (g * (d / g))) g = g - d % g := by
  have hp := pot_in d hg
  have h1 := h (d / g) (pot_lt hg hd)
  have e1 : g * (d / g + 1) = g * (d / g) + g := Nat.mul_succ g (d / g)
  have h2 := pot_of hp.1 hp.2
  omega
/-- a ball that is left is found -/
theorem ball_ok {g p d l : Nat} {S : Nat → Int32} (hg : 0 < g) (h : VS g p d S) (hd : d < g * p) (hT : g * p ≤ 9) (hl : l < g - d % g) :
    g * (d / g) ≤ balT S g (d / g) l ∧ balT S g (d / g) l < g * (d / g) + g ∧ balT S g (d / g) l < g * p ∧ S (balT S g (d / g) l) = -1 ∧ nth S g (g * (d / g)) l = nI (balT S g (d / g) l) := by
  obtain ⟨t, h1, h2, h3, h4⟩ := nth_ex g (by rw [VS_cnt hg h hd]; exact hl)
  have h5 : g * (d / g + 1) ≤ g * p := Nat.mul_le_mul_left g (pot_lt hg hd)
  have e1 : g * (d / g + 1) = g * (d / g) + g := Nat.mul_succ g (d / g)
  have h6 := nth_rank g (g * (d / g)) l t h1 h2 h3 h4
  have h7 : balT S g (d / g) l = t := by unfold balT; rw [h6]; exact tnI_nI (by omega)
  rw [h7]
  exact ⟨h1, h2, by omega, h3, h6⟩
def nkD (m n : Nat) : Nat → Nat
  | 0 => n
  | k + 1 => nkD m n k / (m - k)
theorem nkD_lo (m n k : Nat) : (loS m n k).1 = nkD m n k := by
  induction k with
  | zero => rfl
  | succ k ih => show (loS m n k).1 / (m - k) = _; rw [ih]; rfl
theorem nkD_dig : ∀ m, m < 5 → ∀ n, n < 576 → ∀ k, k < m → nkD m (n % fac m) k % (m - k) = nkD m n k % (m - k) := by decide +kernel
theorem nkD_end : ∀ m, m < 5 → ∀ n, n < 576 → nkD m n m = n / fac m := by decide +kernel
theorem nkD_le (m n k : Nat) : nkD m n k ≤ n := by
  induction k with
  | zero => exact Nat.le_refl _
  | succ k ih => exact Nat.le_trans (Nat.div_le_self _ _) ih
theorem consC_upd {T : Nat} {S : Nat → Int32} {t k c : Nat} (ht : t < T) (h : S t = -1) (hk : k < 2 ^ 31) : consC T (upd S t (nI k)) c = (consC T S c && decide (gr c t = k)) := by
  have hgr := gr_lt c t
  have key : ∀ n, consC n (upd S t (nI k)) c = (consC n S c && (decide (n ≤ t) || decide (gr c t = k))) := by
    intro n
    induction n with
    | zero => simp [consC, allB]
    | succ n ih =>
      unfold consC at ih ⊢
      simp only [allB, ih]
      by_cases q : n = t
      · subst q
        have e1 : decide (upd S n (nI k) n = -1) = false := by simp [upd, nI_nm1 hk]
        have e2 : decide (upd S n (nI k) n = nI (gr c n)) = decide (gr c n = k) := by
          simp only [upd, if_true]
          apply decide_eq_decide.mpr
          rw [nI_eq hk (by omega)]
          exact eq_comm
        rw [e1, e2, h]
        simp [show ¬ n + 1 ≤ n by omega]
      · have e1 : upd S t (nI k) n = S n := by simp [upd, q]
        rw [e1]
        by_cases r : n ≤ t
        · have r2 : n + 1 ≤ t := by omega
          simp [r, r2]
        · have r2 : ¬ n + 1 ≤ t := by omega
          simp only [r, r2, decide_false, Bool.false_or]
          cases allB (fun t => decide (S t = -1) || decide (S t = nI (gr c t))) n <;> cases decide (gr c t = k) <;> cases (decide (S n = -1) || decide (S n = nI (gr c n))) <;> rfl
  rw [key T]
  have : ¬ T ≤ t := by omega
  simp [this]
abbrev lowT := (Nat → Int32) → Nat → Nat
/-- the enumeration of the balls of a pot -/
def FolB (S : Nat → Int32) (b t many : Nat) (bq : Nat → Nat) : Prop :=
  many = ct (unP S b) (t - b) ∧ (∀ y, y < many → b ≤ bq y ∧ bq y < t ∧ S (bq y) = -1 ∧ ct (unP S b) (bq y - b) = y) ∧ ∀ z, z < t - b → S (b + z) = -1 → bq (ct (unP S b) z) = b + z
theorem FolB_0 (S : Nat → Int32) (b : Nat) (bq : Nat → Nat) : FolB S b b 0 bq := by
  refine ⟨?_, fun y hy => absurd hy (Nat.not_lt_zero _), fun z hz => by omega⟩
  rw [Nat.sub_self]; rfl
theorem FolB_no {S : Nat → Int32} {b t many : Nat} {bq : Nat → Nat} (h : FolB S b t many bq) (hb : b ≤ t) (c : ¬ S t = -1) : FolB S b (t + 1) many bq := by
  obtain ⟨h1, h2, h3⟩ := h
  have e : t + 1 - b = (t - b) + 1 := by omega
  have e2 : unP S b (t - b) = false := by simp only [unP]; rw [show b + (t - b) = t by omega]; simp [c]
  refine ⟨by rw [e, ct_f e2]; exact h1, fun y hy => ?_, fun z hz hs => ?_⟩
  · have := h2 y hy; exact ⟨this.1, by omega, this.2.2⟩
  · by_cases q : z = t - b
    · subst q; rw [show b + (t - b) = t by omega] at hs; exact absurd hs c
    · exact h3 z (by omega) hs
theorem FolB_yes {S : Nat → Int32} {b t many : Nat} {bq : Nat → Nat} (h : FolB S b t many bq) (hb : b ≤ t) (c : S t = -1) : FolB S b (t + 1) (many + 1) (updN bq many t) := by
  obtain ⟨h1, h2, h3⟩ := h
  have e : t + 1 - b = (t - b) + 1 := by omega
  have e2 : unP S b (t - b) = true := by simp only [unP]; rw [show b + (t - b) = t by omega]; simp [c]
  refine ⟨by rw [e, ct_t e2, ← h1], fun y hy => ?_, fun z hz hs => ?_⟩
  · by_cases q : y = many
    · subst q; rw [updN_s]; exact ⟨hb, by omega, c, h1.symm⟩
    · rw [updN_n q]; have := h2 y (by omega); exact ⟨this.1, by omega, this.2.2⟩
  · by_cases q : z = t - b
    · subst q
      rw [← h1, updN_s]; omega
    · have h4 := h3 z (by omega) hs
      have h5 : ct (unP S b) z < many := by
        have e3 : ct (unP S b) (z + 1) = ct (unP S b) z + 1 := ct_t (by simp [unP, hs])
        have e4 := ct_mono (unP S b) (show z + 1 ≤ t - b by omega)
        omega
      rw [updN_n (by omega)]; exact h4
/-- counted by the balls' places in the row, or by the teams -/
theorem FolB_cnt {S : Nat → Int32} {b t many : Nat} {bq : Nat → Nat} (h : FolB S b t many bq) (P : Nat → Bool) (hP : ∀ z, z < t - b → P (b + z) = true → S (b + z) = -1) :
    ∀ i, i ≤ t - b → ct (fun z => P (b + z)) i = ct (fun y => P (bq y)) (ct (unP S b) i) := by
  intro i
  induction i with
  | zero => intro _; rfl
  | succ i ih =>
    intro hi
    have h1 := ih (by omega)
    by_cases c : S (b + i) = -1
    · have e : ct (unP S b) (i + 1) = ct (unP S b) i + 1 := ct_t (by simp [unP, c])
      rw [e, ct_s, ct_s (fun y => P (bq y)), h1, h.2.2 i (by omega) c]
    · have e : ct (unP S b) (i + 1) = ct (unP S b) i := ct_f (by simp [unP, c])
      have e2 : P (b + i) = false := by
        cases q : P (b + i)
        · rfl
        · exact absurd (hP i (by omega) q) c
      rw [e, ct_f (P := fun z => P (b + z)) e2, h1]
/-- the pots, one after the other -/
def FolP (g p : Nat) (rg bd : Nat → Nat) (ab ob : Nat → Bool) (S : Nat → Int32) (dm rm : Nat) (rs : Nat → Nat) (num q : Nat) (S2 : Nat → Int32) (d rest : Nat) (E : Nat → Int32) (lf : Nat → Bool) : Prop :=
  q ≤ p ∧ (dm ≤ d ∧ g * q ≤ d ∧ (d = dm ∨ d = g * q)) ∧ rest < 576 ∧ (∀ t, t < g * q → E t = S2 t) ∧ (∀ t, g * q ≤ t → S2 t = S t) ∧ Ext (g * p) S S2 ∧ VS g p d S2 ∧
  finS g (lowC g p rg bd ab ob) (g * p - d) d S2 rest = finS g (lowC g p rg bd ab ob) (g * p - dm) dm S num ∧ ∀ z, z < rm → lf z = consC (g * p) S2 (cdR rs z (g * p))
/-- within a pot: k balls of it drawn -/
def FolK (g p : Nat) (rg bd : Nat → Nat) (ab ob : Nat → Bool) (S : Nat → Int32) (dm rm : Nat) (rs : Nat → Nat) (num q many : Nat) (bq : Nat → Nat) (d rest k : Nat) (S2 : Nat → Int32) (E : Nat → Int32) (lf : Nat → Bool) : Prop :=
  k ≤ many ∧ many ≤ g ∧ FolB S (g * q) (g * q + g) many bq ∧ (many = 0 ∨ (g * q ≤ d ∧ d < g * q + g ∧ many = g * q + g - d)) ∧ (many = 0 → g * q + g ≤ d) ∧
  (∀ t, t < g * q + g → E t = S2 t) ∧ (∀ t, g * q + g ≤ t → S2 t = S t) ∧ Ext (g * p) S S2 ∧ VS g p (d + k) S2 ∧
  finS g (lowC g p rg bd ab ob) (g * p - (d + k)) (d + k) S2 (nkD many rest k) = finS g (lowC g p rg bd ab ob) (g * p - dm) dm S num ∧ (∀ z, z < rm → lf z = consC (g * p) S2 (cdR rs z (g * p))) ∧
  ∀ y, y < many → decide (S2 (bq y) = -1) = !((loS many (rest % fac many) k).2 y)
def FolC (g p dm rm : Nat) (rg bd : Nat → Nat) (ab ob : Nat → Bool) (S : Nat → Int32) (rs : Nat → Nat) : Prop :=
  2 ≤ g ∧ g ≤ 4 ∧ g * p ≤ 9 ∧ dm ≤ g * p ∧ VS g p dm S ∧ (∀ z, rs z < 4) ∧ RepL (fun w => sm (fun z => w (cdR rs z (g * p))) rm) g p rg bd ab ob S
theorem FolP_0 {g p : Nat} {rg bd : Nat → Nat} {ab ob : Nat → Bool} {S : Nat → Int32} {dm rm : Nat} {rs : Nat → Nat} {num : Nat} {E : Nat → Int32} {lf : Nat → Bool} (hC : FolC g p dm rm rg bd ab ob S rs) (hn : num < 576) (hl : ∀ z, z < rm → lf z = true) :
    FolP g p rg bd ab ob S dm rm rs num 0 S dm num E lf := by
  obtain ⟨hg2, hg4, hT, hdm, hV, hrs, hL⟩ := hC
  refine ⟨Nat.zero_le _, ⟨Nat.le_refl _, by omega, Or.inl rfl⟩, hn, fun t ht => absurd ht (by omega), fun t _ => rfl, Ext.refl _ _, hV, rfl, fun z hz => ?_⟩
  rw [hl z hz, (rep_el (by omega) hg4 hL z hz).2]
theorem FolK_0 {g p : Nat} {rg bd : Nat → Nat} {ab ob : Nat → Bool} {S : Nat → Int32} {dm rm : Nat} {rs : Nat → Nat} {num q many d rest : Nat} {S2 : Nat → Int32} {E E2 : Nat → Int32} {lf : Nat → Bool} {bq : Nat → Nat}
    (hg : 0 < g) (hg4 : g ≤ 4) (h : FolP g p rg bd ab ob S dm rm rs num q S2 d rest E lf) (hq : q < p) (hB : FolB S (g * q) (g * q + g) many bq) (hE : ∀ t, t < g * q + g → E2 t = S2 t) :
    FolK g p rg bd ab ob S dm rm rs num q many bq d rest 0 S2 E2 lf := by
  obtain ⟨h1, h2, h3, h4, h5, h6, h7, h8, h9⟩ := h
  have hms : g * (q + 1) = g * q + g := Nat.mul_succ g q
  have hm : many = min g (g * q + g - d) := by
    have e1 := h7 q hq
    have e2 := hB.1
    rw [show g * q + g - g * q = g by omega] at e2
    rw [e2, ← hms, ← e1]
    exact ct_congr (fun z _ => by simp only [unP]; rw [h5 _ (by omega)])
  refine ⟨Nat.zero_le _, by omega, hB, by omega, by omega, hE, fun t ht => h5 t (by omega), h6, h7, h8, h9, fun y hy => ?_⟩
  have hb := hB.2.1 y hy
  rw [h5 _ hb.1, hb.2.2.1]
  rfl
theorem FolK_end {g p : Nat} {rg bd : Nat → Nat} {ab ob : Nat → Bool} {S : Nat → Int32} {dm rm : Nat} {rs : Nat → Nat} {num q many d rest : Nat} {S2 : Nat → Int32} {S0 E0 E : Nat → Int32} {lf0 lf : Nat → Bool} {bq : Nat → Nat}
    (hg4 : g ≤ 4) (h0 : FolP g p rg bd ab ob S dm rm rs num q S0 d rest E0 lf0) (hq : q < p) (h : FolK g p rg bd ab ob S dm rm rs num q many bq d rest many S2 E lf) :
    FolP g p rg bd ab ob S dm rm rs num (q + 1) S2 (d + many) (rest / fac many) E lf := by
  obtain ⟨k1, k2, k3, k4, k5, k6, k7, k8, k9, k10, k11, k12⟩ := h
  obtain ⟨h1, h2, h3, -⟩ := h0
  have hms : g * (q + 1) = g * q + g := Nat.mul_succ g q
  rw [nkD_end many (by omega) rest h3] at k10
  exact ⟨by omega, by omega, Nat.lt_of_le_of_lt (Nat.div_le_self _ _) h3, fun t ht => k6 t (by omega), fun t ht => k7 t (by omega), k8, k9, k10, k11⟩
/-- the next ball: where it is, and that its team has no group yet -/
theorem FolK_ball {g p : Nat} {rg bd : Nat → Nat} {ab ob : Nat → Bool} {S : Nat → Int32} {dm rm : Nat} {rs : Nat → Nat} {num q many d rest k : Nat} {S2 E : Nat → Int32} {lf : Nat → Bool} {bq : Nat → Nat}
    (hT : g * p ≤ 9) (hq : q < p) (h : FolK g p rg bd ab ob S dm rm rs num q many bq d rest k S2 E lf) (hk : k < many) :
    lo many (rest % fac many) k < many ∧ g * q ≤ bq (lo many (rest % fac many) k) ∧ bq (lo many (rest % fac many) k) < g * q + g ∧ bq (lo many (rest % fac many) k) < g * p ∧ S2 (bq (lo many (rest % fac many) k)) = -1 := by
  obtain ⟨k1, k2, k3, k4, k5, k6, k7, k8, k9, k10, k11, k12⟩ := h
  have hl := lo_spec (n := rest % fac many) hk
  have hb := k3.2.1 _ hl.1
  have hms : g * (q + 1) = g * q + g := Nat.mul_succ g q
  have hmq : g * (q + 1) ≤ g * p := Nat.mul_le_mul_left g hq
  have h9 := k12 _ hl.1
  have h8 : decide (S2 (bq (lo many (rest % fac many) k)) = -1) = true := by rw [h9, hl.2.1]; rfl
  exact ⟨hl.1, hb.1, hb.2.1, by omega, of_decide_eq_true h8⟩
theorem FolK_step {g p : Nat} {rg bd : Nat → Nat} {ab ob : Nat → Bool} {S : Nat → Int32} {dm rm : Nat} {rs : Nat → Nat} {num q many d rest k t v : Nat} {S2 E : Nat → Int32} {lf lf2 : Nat → Bool} {bq : Nat → Nat}
    (hC : FolC g p dm rm rg bd ab ob S rs) (hq : q < p) (hr : rest < 576) (h : FolK g p rg bd ab ob S dm rm rs num q many bq d rest k S2 E lf) (hk : k < many) (ht : t = bq (lo many (rest % fac many) k)) (hv : v = llN g rs lf t rm)
    (hl2 : ∀ z, z < rm → lf2 z = (lf z && decide (rs (9 * z + t) = v))) :
    FolK g p rg bd ab ob S dm rm rs num q many bq d rest (k + 1) (upd S2 t (nI v)) (upd E t (nI v)) lf2 := by
  obtain ⟨hg2, hg4, hT, hdm, hV, hrs, hL⟩ := hC
  have hball := FolK_ball hT hq h hk
  obtain ⟨k1, k2, k3, k4, k5, k6, k7, k8, k9, k10, k11, k12⟩ := h
  rw [← ht] at hball
  obtain ⟨b1, b2, b3, b4, b5⟩ := hball
  have hl := lo_spec (n := rest % fac many) hk
  have hb := k3.2.1 _ hl.1
  rw [← ht] at hb
  have hms : g * (q + 1) = g * q + g := Nat.mul_succ g q
  have hmq : g * (q + 1) ≤ g * p := Nat.mul_le_mul_left g hq
  have hlow : v = lowC g p rg bd ab ob S2 t := by
    rw [hv, llN_congr k11]
    exact llN_low (by omega) hg4 hrs hL k8 b4
  have hv4 : v ≤ 4 := by have := (llN_spec g rs lf t rm).1; omega
  have hvn : nI v ≠ -1 := nI_nm1 (by omega)
  have hpot : (d + k) / g = q ∧ (d + k) % g = d + k - g * q := pot_of (by omega) (by omega)
  have hL9 : g - (d + k) % g = many - k := by omega
  have hrank : ct (unP S2 (g * q)) (t - g * q) = nkD many rest k % (many - k) := by
    have e1 := FolB_cnt k3 (fun z => decide (S2 z = -1)) (fun z hz hs => by
      rcases k8 (g * q + z) (by omega) with q9 | q9
      · exact q9
      · rw [← q9]; exact of_decide_eq_true hs) (t - g * q) (by omega)
    have e2 : ct (unP S2 (g * q)) (t - g * q) = ct (fun z => decide (S2 (g * q + z) = -1)) (t - g * q) := rfl
    rw [e2, e1, hb.2.2.2, ct_congr (P := fun y => decide (S2 (bq y) = -1)) (Q := fun y => !((loS many (rest % fac many) k).2 y)) (fun y hy => k12 y (by omega)), hl.2.2, nkD_lo]
    exact nkD_dig many (by omega) rest hr k hk
  have hnth : nth S2 g (g * q) (nkD many rest k % (many - k)) = nI t := nth_rank g (g * q) _ t b2 b3 b5 hrank
  have hbal : balT S2 g ((d + k) / g) (nkD many rest k % (g - (d + k) % g)) = t := by
    rw [hpot.1, hL9]
    unfold balT
    rw [hnth]
    exact tnI_nI (by omega)
  refine ⟨by omega, k2, k3, k4, k5, fun z hz => ?_, fun z hz => ?_, k8.upd b5 _, ?_, ?_, fun z hz => ?_, fun y hy => ?_⟩
  · by_cases e : z = t
    · simp [upd, e]
    · simp [upd, e, k6 z hz]
  · have : ¬ z = t := by omega
    simp [upd, this, k7 z hz]
  · have h9 := VS_step (by omega) k9 (by omega) (t := t) (v := nI v) (by rw [hpot.1]; exact b2) (by rw [hpot.1]; exact b3) b5 hvn
    exact h9
  · obtain ⟨f, hf⟩ : ∃ f, g * p - (d + k) = f + 1 := ⟨g * p - (d + k) - 1, by omega⟩
    rw [hf] at k10
    simp only [finS] at k10
    rw [hbal, hL9, ← hlow] at k10
    rw [show g * p - (d + (k + 1)) = f by omega]
    exact k10
  · rw [hl2 z hz, k11 z hz, consC_upd b4 b5 (by omega), gr_cdR hrs b4]
  · show _ = !(updB (loS many (rest % fac many) k).2 (lo many (rest % fac many) k) true y)
    by_cases e : y = lo many (rest % fac many) k
    · rw [e, updB_s, ← ht]
      simp [upd, hvn]
    · have hby := k3.2.1 y hy
      have hne : ¬ bq y = t := fun q9 => e (by rw [← hby.2.2.2, q9, hb.2.2.2])
      rw [updB_n e, ← k12 y hy]
      simp [upd, hne]
theorem FolP_end {g p : Nat} {rg bd : Nat → Nat} {ab ob : Nat → Bool} {S : Nat → Int32} {dm rm : Nat} {rs : Nat → Nat} {num d rest : Nat} {S2 : Nat → Int32} {E : Nat → Int32} {lf : Nat → Bool} (hdm : dm ≤ g * p) (h : FolP g p rg bd ab ob S dm rm rs num p S2 d rest E lf) :
    ∀ t, t < g * p → E t = finS g (lowC g p rg bd ab ob) (g * p - dm) dm S num t := by
  obtain ⟨h1, h2, h3, h4, h5, h6, h7, h8, h9⟩ := h
  intro t ht
  rw [← h8, show g * p - d = 0 by omega]
  exact h4 t ht
