/-! own rows: orders, lawful results -/
def allB (P : Nat → Bool) : Nat → Bool
  | 0 => true
  | n + 1 => allB P n && P n
theorem allB_s {P : Nat → Bool} {n : Nat} (h : allB P n = true) (h2 : P n = true) : allB P (n + 1) = true := by simp [allB, h, h2]
theorem allB_f {P : Nat → Bool} {n i : Nat} (hi : i < n) (h : P i = false) : allB P n = false := by
  induction n with
  | zero => exact absurd hi (Nat.not_lt_zero _)
  | succ n ih =>
    by_cases q : i = n
    · subst q; simp [allB, h]
    · simp [allB, ih (by omega)]
theorem allB_iff {P : Nat → Bool} {n : Nat} : allB P n = true ↔ ∀ i, i < n → P i = true := by
  induction n with
  | zero => exact ⟨fun _ i hi => absurd hi (Nat.not_lt_zero _), fun _ => rfl⟩
  | succ n ih =>
    simp only [allB, Bool.and_eq_true, ih]
    constructor
    · intro h i hi
      by_cases q : i = n
      · subst q; exact h.2
      · exact h.1 i (by omega)
    · intro h
      exact ⟨fun i hi => h i (by omega), h n (by omega)⟩
theorem allB_congr {P Q : Nat → Bool} {n : Nat} (h : ∀ i, i < n → P i = Q i) : allB P n = allB Q n := by
  induction n with
  | zero => rfl
  | succ n ih => simp only [allB]; rw [ih (fun i hi => h i (by omega)), h n (by omega)]
theorem ct_congr {P Q : Nat → Bool} {n : Nat} (h : ∀ i, i < n → P i = Q i) : ct P n = ct Q n := sm_congr (fun i hi => by simp only [h i hi])
/-- the place that the inner loop of layOrder comes to -/
def nuF (U : Nat → Bool) : Nat → Nat → Nat → Nat
  | 0, its, _ => its
  | f + 1, its, left => if U its then nuF U f (its + 1) left else if left = 0 then its else nuF U f (its + 1) (left - 1)
def loI (m k : Nat) (s : Nat × (Nat → Bool)) : Nat := nuF s.2 m 0 (s.1 % (m - k))
def loS (m n : Nat) : Nat → Nat × (Nat → Bool)
  | 0 => (n, fun _ => false)
  | k + 1 => ((loS m n k).1 / (m - k), updB (loS m n k).2 (loI m k (loS m n k)) true)
def lo (m n k : Nat) : Nat := loI m k (loS m n k)
theorem nuF_congr {U V : Nat → Bool} {m : Nat} (h : ∀ z, z < m → U z = V z) : ∀ (f its left : Nat), its + f ≤ m → nuF U f its left = nuF V f its left := by
  intro f
  induction f with
  | zero => intros; rfl
  | succ f ih =>
    intro its left hf
    simp only [nuF]
    rw [h its (by omega), ih (its + 1) left (by omega), ih (its + 1) (left - 1) (by omega)]
theorem ct_nupd {U : Nat → Bool} {i m : Nat} (hi : i < m) (hu : U i = false) : ct (fun z => !(updB U i true z)) m + 1 = ct (fun z => !(U z)) m := by
  induction m with
  | zero => exact absurd hi (Nat.not_lt_zero _)
  | succ m ih =>
    by_cases q : i = m
    · subst q
      have e : ct (fun z => !(updB U i true z)) i = ct (fun z => !(U z)) i := ct_congr (fun z hz => by simp [updB, show ¬ z = i by omega])
      rw [ct_f (by simp [updB]), ct_t (by simp [hu]), e]
    · have h1 := ih (by omega)
      have e : (!(updB U i true m)) = !(U m) := by simp [updB, show ¬ m = i by omega]
      rw [ct_s, ct_s, e]
      omega
theorem updB_s (f : Nat → Bool) (k : Nat) (x : Bool) : updB f k x k = x := by simp [updB]
theorem updB_n {f : Nat → Bool} {k j : Nat} {x : Bool} (h : j ≠ k) : updB f k x j = f j := by simp [updB, h]
theorem loS1_le (m n k : Nat) : (loS m n k).1 ≤ n := by
  induction k with
  | zero => exact Nat.le_refl _
  | succ k ih => exact Nat.le_trans (Nat.div_le_self _ _) ih
def okP (ab ob : Nat → Bool) (rw : Nat → Nat) (t o : Nat) : Bool := !(ab (9 * t + o) && decide (rw t = rw o)) && !(ob (9 * t + o) && decide (rw t % 2 = rw o % 2))
def smT (rg rw : Nat → Nat) (t o : Nat) : Bool := decide (rw t = rw o) && decide (rg t = rg o)
def okT (T : Nat) (rg bd : Nat → Nat) (ab ob : Nat → Bool) (S : Nat → Int32) (rw : Nat → Nat) (t : Nat) : Bool :=
  allB (okP ab ob rw t) T && (decide (ct (smT rg rw t) T ≤ bd (rg t)) && (decide (S t = -1) || decide (S t = nI (rw t))))
def lawB (T : Nat) (rg bd : Nat → Nat) (ab ob : Nat → Bool) (S : Nat → Int32) (rw : Nat → Nat) : Bool := allB (okT T rg bd ab ob S rw) T
theorem law_f {T : Nat} {rg bd : Nat → Nat} {ab ob : Nat → Bool} {S : Nat → Int32} {rw : Nat → Nat} {t : Nat} (ht : t < T) (h : okT T rg bd ab ob S rw t = false) : nI 0 = bI (lawB T rg bd ab ob S rw) := by
  unfold lawB
  rw [allB_f ht h]
  rfl
theorem okT_f1 {T : Nat} {rg bd : Nat → Nat} {ab ob : Nat → Bool} {S : Nat → Int32} {rw : Nat → Nat} {t o : Nat} (ho : o < T) (h : okP ab ob rw t o = false) : okT T rg bd ab ob S rw t = false := by
  unfold okT
  rw [allB_f ho h]
  rfl
theorem fac_le {g : Nat} (h : g ≤ 4) : fac g ≤ 24 ∧ 0 < fac g := by
  rcases (show g = 0 ∨ g = 1 ∨ g = 2 ∨ g = 3 ∨ g = 4 by omega) with rfl | rfl | rfl | rfl | rfl <;> decide
theorem facp_le {g p : Nat} (hg2 : 2 ≤ g) (hg4 : g ≤ 4) (hp2 : 2 ≤ p) (hp3 : p ≤ 3) (hT : g * p ≤ 9) : fac g ^ p ≤ 576 := by
  rcases (show p = 2 ∨ p = 3 by omega) with rfl | rfl
  · rcases (show g = 2 ∨ g = 3 ∨ g = 4 by omega) with rfl | rfl | rfl <;> decide
  · rcases (show g = 2 ∨ g = 3 by omega) with rfl | rfl <;> decide
def cdR (rs : Nat → Nat) (k : Nat) : Nat → Nat
  | 0 => 0
  | t + 1 => cdR rs k t + rs (9 * k + t) * 4 ^ t
def rowN (g num t : Nat) : Nat := lo g (num / fac g ^ (t / g) % fac g) (t % g)
def cdN (g num : Nat) : Nat → Nat
  | 0 => 0
  | t + 1 => cdN g num t + rowN g num t * 4 ^ t
def RS (g p : Nat) (rg bd : Nat → Nat) (ab ob : Nat → Bool) (S : Nat → Int32) (w : Nat → Nat) : Nat :=
  sm (fun m => if lawB (g * p) rg bd ab ob S (rowN g m) then w (cdN g m (g * p)) else 0) (fac g ^ p)
theorem cdR_congr {rs rs2 : Nat → Nat} {k T : Nat} (h : ∀ t, t < T → rs (9 * k + t) = rs2 (9 * k + t)) : cdR rs k T = cdR rs2 k T := by
  induction T with
  | zero => rfl
  | succ T ih => simp only [cdR]; rw [ih (fun t ht => h t (by omega)), h T (by omega)]
theorem cdR_cdN {rs : Nat → Nat} {k g num T : Nat} (h : ∀ t, t < T → rs (9 * k + t) = rowN g num t) : cdR rs k T = cdN g num T := by
  induction T with
  | zero => rfl
  | succ T ih => simp only [cdR, cdN]; rw [ih (fun t ht => h t (by omega)), h T (by omega)]
theorem okT_congr {T : Nat} {rg bd : Nat → Nat} {ab ob : Nat → Bool} {S : Nat → Int32} {rw rv : Nat → Nat} (h : ∀ t, t < T → rw t = rv t) {t : Nat} (ht : t < T) : okT T rg bd ab ob S rw t = okT T rg bd ab ob S rv t := by
  unfold okT
  rw [allB_congr (P := okP ab ob rw t) (Q := okP ab ob rv t) (fun o ho => by simp only [okP, h t ht, h o ho]), ct_congr (P := smT rg rw t) (Q := smT rg rv t) (fun o ho => by simp only [smT, h t ht, h o ho]), h t ht]
theorem lawB_congr {T : Nat} {rg bd : Nat → Nat} {ab ob : Nat → Bool} {S : Nat → Int32} {rw rv : Nat → Nat} (h : ∀ t, t < T → rw t = rv t) : lawB T rg bd ab ob S rw = lawB T rg bd ab ob S rv :=
  allB_congr (fun _ ht => okT_congr h ht)
theorem ct_full (m : Nat) : ct (fun z => !((loS m 0 0).2 z)) m = m - 0 := by
  induction m with
  | zero => rfl
  | succ m ih => rw [ct_t rfl]; have h9 : ct (fun z => !((loS (m + 1) 0 0).2 z)) m = ct (fun z => !((loS m 0 0).2 z)) m := rfl; omega
theorem ct_lt {P : Nat → Bool} {n i : Nat} (hi : i < n) (h : P i = true) : 0 < ct P n := by
  induction n with
  | zero => exact absurd hi (Nat.not_lt_zero _)
  | succ n ih =>
    by_cases q : i = n
    · subst q; rw [ct_t h]; omega
    · have := ih (by omega); rw [ct_s]; omega
theorem ct_mono (P : Nat → Bool) {a b : Nat} (h : a ≤ b) : ct P a ≤ ct P b := by
  induction b with
  | zero => rw [show a = 0 by omega]; exact Nat.le_refl _
  | succ b ih =>
    by_cases q : a = b + 1
    · rw [q]; exact Nat.le_refl _
    · have := ih (by omega); rw [ct_s]; omega
/-- where the walk over the free places ends: a free place, with left free ones ahead of it -/
theorem nuF_spec {U : Nat → Bool} {m : Nat} : ∀ (f its left : Nat), its + f = m → left + ct (fun z => !(U z)) its < ct (fun z => !(U z)) m → nuF U f its left < m ∧ U (nuF U f its left) = false ∧ ct (fun z => !(U z)) (nuF U f its left) = left + ct (fun z => !(U z)) its := by
  intro f
  induction f with
  | zero =>
    intro its left h1 h2
    rw [show its = m by omega] at h2
    omega
  | succ f ih =>
    intro its left h1 h2
    simp only [nuF]
    by_cases c : U its = true
    · rw [if_pos c]
      have e : ct (fun z => !(U z)) (its + 1) = ct (fun z => !(U z)) its := ct_f (by simp [c])
      have h3 := ih (its + 1) left (by omega) (by rw [e]; exact h2)
      rw [e] at h3
      exact h3
    · rw [if_neg c]
      have e : ct (fun z => !(U z)) (its + 1) = ct (fun z => !(U z)) its + 1 := ct_t (by simp [c])
      by_cases d : left = 0
      · rw [if_pos d]
        exact ⟨by omega, by simpa using c, by omega⟩
      · rw [if_neg d]
        have h3 := ih (its + 1) (left - 1) (by omega) (by omega)
        refine ⟨h3.1, h3.2.1, ?_⟩
        rw [h3.2.2, e]
        omega
theorem loS_ct (m n : Nat) : ∀ k, k ≤ m → ct (fun z => !((loS m n k).2 z)) m = m - k := by
  intro k
  induction k with
  | zero => intro _; exact ct_full m
  | succ k ih =>
    intro hk
    have h1 := ih (by omega)
    have hd : (loS m n k).1 % (m - k) < m - k := Nat.mod_lt _ (by omega)
    have h2 := nuF_spec (U := (loS m n k).2) (m := m) m 0 ((loS m n k).1 % (m - k)) (by omega) (by rw [ct_0]; omega)
    have h3 := ct_nupd (U := (loS m n k).2) (i := loI m k (loS m n k)) h2.1 h2.2.1
    show ct (fun z => !(updB (loS m n k).2 (loI m k (loS m n k)) true z)) m = _
    omega
theorem lo_spec {m n k : Nat} (hk : k < m) : lo m n k < m ∧ (loS m n k).2 (lo m n k) = false ∧ ct (fun z => !((loS m n k).2 z)) (lo m n k) = (loS m n k).1 % (m - k) := by
  have h1 := loS_ct m n k (by omega)
  have hd : (loS m n k).1 % (m - k) < m - k := Nat.mod_lt _ (by omega)
  have h2 := nuF_spec (U := (loS m n k).2) (m := m) m 0 ((loS m n k).1 % (m - k)) (by omega) (by rw [ct_0]; omega)
  rw [ct_0, Nat.add_zero] at h2
  exact h2
theorem lo_lt {m n k : Nat} (hk : k < m) (_ : m ≤ 4) (_ : k ≤ m) : lo m n k < m := (lo_spec hk).1
