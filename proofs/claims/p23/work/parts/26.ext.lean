/-! own rows: the class's way to all lawful results, and the model's -/
def dl (x c : Nat) : Nat := if c = x then 1 else 0
theorem sm_dl (w : Nat → Nat) {c : Nat} : ∀ {X : Nat}, c < X → sm (fun x => w x * dl x c) X = w c := by
  intro X
  induction X with
  | zero => intro h; exact absurd h (Nat.not_lt_zero _)
  | succ X ih =>
    intro h
    simp only [sm]
    by_cases q : c = X
    · subst q
      have e : sm (fun x => w x * dl x c) c = 0 := sm_zero (fun i hi => by simp [dl, show ¬ c = i by omega])
      rw [e]
      simp [dl]
    · rw [ih (by omega)]
      simp [dl, q]
theorem sm_mulr (a : Nat) (h : Nat → Nat) (n : Nat) : sm (fun i => a * h i) n = a * sm h n := by
  induction n with
  | zero => rfl
  | succ n ih => simp only [sm, ih, Nat.mul_add]
theorem sm_sm (h : Nat → Nat → Nat) (m n : Nat) : sm (fun i => sm (fun j => h i j) n) m = sm (fun j => sm (fun i => h i j) m) n := by
  induction m with
  | zero => exact (sm_zero (fun _ _ => rfl)).symm
  | succ m ih =>
    simp only [sm]
    rw [ih, ← sm_add]
theorem sm_at {h : Nat → Nat} {n k : Nat} (hk : k < n) (e : ∀ i, i < n → i ≠ k → h i = 0) : sm h n = h k := by
  induction n with
  | zero => exact absurd hk (Nat.not_lt_zero _)
  | succ n ih =>
    simp only [sm]
    by_cases q : k = n
    · subst q
      rw [sm_zero (fun i hi => e i (by omega) (by omega)), Nat.zero_add]
    · rw [ih (by omega) (fun i hi => e i (by omega)), e n (by omega) (fun z => q z.symm), Nat.add_zero]
theorem p4_s (t : Nat) : 4 ^ (t + 1) = 4 ^ t * 4 := Nat.pow_succ _ _
theorem p4_pos (t : Nat) : 0 < 4 ^ t := Nat.pow_pos (by decide)
theorem p4_dig (x t : Nat) : x % 4 ^ (t + 1) = x % 4 ^ t + gr x t * 4 ^ t := by
  rw [p4_s, Nat.mod_mul]
  unfold gr
  rw [Nat.mul_comm]
theorem p4_res {a b g t : Nat} (ha : a < 4 ^ t) (hb : b < 4 ^ t) {u : Nat} (h : a + g * 4 ^ t = b + u * 4 ^ t) : a = b ∧ g = u := by
  have h1 : (a + g * 4 ^ t) % 4 ^ t = (b + u * 4 ^ t) % 4 ^ t := by rw [h]
  rw [Nat.add_mul_mod_self_right, Nat.add_mul_mod_self_right, Nat.mod_eq_of_lt ha, Nat.mod_eq_of_lt hb] at h1
  refine ⟨h1, ?_⟩
  subst h1
  exact Nat.eq_of_mul_eq_mul_right (p4_pos t) (by omega)
theorem ext_lin {g : Nat} {rg bd ap od : Nat → Nat} (hg4 : g ≤ 4) : ∀ (d team res : Nat) (w : Nat → Nat), res < 4 ^ team →
    extN g rg bd ap od d team res w = sm (fun x => w x * extN g rg bd ap od d team res (dl x)) (4 ^ (team + d)) := by
  intro d
  induction d with
  | zero => intro team res w hr; exact (sm_dl w hr).symm
  | succ d ih =>
    intro team res w hr
    have e : ∀ x, w x * extN g rg bd ap od (d + 1) team res (dl x) = sm (fun gp => w x * (if admR g rg bd ap od res team gp then extN g rg bd ap od d (team + 1) (res + gp * 4 ^ team) (dl x) else 0)) g := fun x => (sm_mulr _ _ _).symm
    rw [sm_congr (fun x _ => e x), sm_sm]
    show sm (fun gp => if admR g rg bd ap od res team gp then extN g rg bd ap od d (team + 1) (res + gp * 4 ^ team) w else 0) g = _
    refine sm_congr (fun gp hgp => ?_)
    by_cases q : admR g rg bd ap od res team gp = true
    · have h4 : res + gp * 4 ^ team < 4 ^ (team + 1) := by
        have h5 : gp * 4 ^ team ≤ 3 * 4 ^ team := Nat.mul_le_mul_right _ (by omega)
        rw [p4_s]; omega
      rw [if_pos q, ih _ _ w h4, show team + 1 + d = team + (d + 1) by omega]
      exact sm_congr (fun x _ => by rw [if_pos q])
    · rw [if_neg q]
      exact (sm_zero (fun x _ => by rw [if_neg q, Nat.mul_zero])).symm
def okX (g : Nat) (rg bd ap od : Nat → Nat) (x t : Nat) : Prop := gr x t < g ∧ admR g rg bd ap od (x % 4 ^ t) t (gr x t) = true
theorem ext_dl {g : Nat} {rg bd ap od : Nat → Nat} (hg4 : g ≤ 4) : ∀ (d team res x : Nat), res < 4 ^ team → x < 4 ^ (team + d) →
    ((x % 4 ^ team = res ∧ ∀ t, team ≤ t → t < team + d → okX g rg bd ap od x t) → extN g rg bd ap od d team res (dl x) = 1) ∧
    (¬ (x % 4 ^ team = res ∧ ∀ t, team ≤ t → t < team + d → okX g rg bd ap od x t) → extN g rg bd ap od d team res (dl x) = 0) := by
  intro d
  induction d with
  | zero =>
    intro team res x hr hx
    have e : x % 4 ^ team = x := Nat.mod_eq_of_lt hx
    rw [e]
    constructor
    · intro h
      show dl x res = 1
      simp [dl, h.1]
    · intro h
      show dl x res = 0
      have : ¬ res = x := fun q => h ⟨q.symm, fun t h1 h2 => by omega⟩
      simp [dl, this]
  | succ d ih =>
    intro team res x hr hx
    have hlt : ∀ gp, gp < g → res + gp * 4 ^ team < 4 ^ (team + 1) := fun gp hgp => by
      have h5 : gp * 4 ^ team ≤ 3 * 4 ^ team := Nat.mul_le_mul_right _ (by omega)
      rw [p4_s]; omega
    have hx2 : x < 4 ^ (team + 1 + d) := by rw [show team + 1 + d = team + (d + 1) by omega]; exact hx
    have hm : x % 4 ^ team < 4 ^ team := Nat.mod_lt _ (p4_pos team)
    constructor
    · intro h
      have h0 := h.2 team (Nat.le_refl _) (by omega)
      show sm (fun gp => if admR g rg bd ap od res team gp then extN g rg bd ap od d (team + 1) (res + gp * 4 ^ team) (dl x) else 0) g = 1
      rw [sm_at (k := gr x team) h0.1 (fun gp hgp hne => ?_)]
      · have h1 : admR g rg bd ap od res team (gr x team) = true := by rw [← h.1]; exact h0.2
        rw [if_pos h1]
        refine (ih (team + 1) _ x (hlt _ h0.1) hx2).1 ⟨by rw [p4_dig, h.1], fun t h2 h3 => h.2 t (by omega) (by omega)⟩
      · by_cases q : admR g rg bd ap od res team gp = true
        · rw [if_pos q]
          refine (ih (team + 1) _ x (hlt _ hgp) hx2).2 (fun h2 => ?_)
          have h3 := h2.1
          rw [p4_dig] at h3
          exact hne (p4_res hm hr h3).2.symm
        · rw [if_neg q]
    · intro h
      show sm (fun gp => if admR g rg bd ap od res team gp then extN g rg bd ap od d (team + 1) (res + gp * 4 ^ team) (dl x) else 0) g = 0
      refine sm_zero (fun gp hgp => ?_)
      by_cases q : admR g rg bd ap od res team gp = true
      · rw [if_pos q]
        refine (ih (team + 1) _ x (hlt _ hgp) hx2).2 (fun h2 => h ?_)
        have h3 := h2.1
        rw [p4_dig] at h3
        have h4 := p4_res hm hr h3
        refine ⟨h4.1, fun t h5 h6 => ?_⟩
        by_cases q2 : t = team
        · subst q2
          refine ⟨by rw [h4.2]; exact hgp, ?_⟩
          rw [h4.1, h4.2]; exact q
        · exact h2.2 t (by omega) (by omega)
      · rw [if_neg q]
/-- one pot's rows -/
theorem lo_inj {g : Nat} (hg2 : 2 ≤ g) (hg4 : g ≤ 4) : ∀ m, m < fac g → ∀ i, i < g → ∀ j, j < g → lo g m i = lo g m j → i = j := by
  rcases (show g = 2 ∨ g = 3 ∨ g = 4 by omega) with rfl | rfl | rfl <;> decide +kernel
theorem lo_one {g : Nat} (hg2 : 2 ≤ g) (hg4 : g ≤ 4) : ∀ m, m < fac g → ∀ k, k < fac g → (∀ i, i < g → lo g m i = lo g k i) → m = k := by
  rcases (show g = 2 ∨ g = 3 ∨ g = 4 by omega) with rfl | rfl | rfl <;> decide +kernel
theorem lo_ex2 : ∀ a, a < 2 → ∀ b, b < 2 → a ≠ b → ∃ m, m < fac 2 ∧ lo 2 m 0 = a ∧ lo 2 m 1 = b := by decide +kernel
theorem lo_ex3B : ∀ a, a < 3 → ∀ b, b < 3 → ∀ c, c < 3 → (decide (a = b) || decide (a = c) || decide (b = c) || anyB (fun m => decide (lo 3 m 0 = a) && (decide (lo 3 m 1 = b) && decide (lo 3 m 2 = c))) (fac 3)) = true := by decide +kernel
theorem lo_ex3 : ∀ a, a < 3 → ∀ b, b < 3 → ∀ c, c < 3 → a ≠ b → a ≠ c → b ≠ c → ∃ m, m < fac 3 ∧ lo 3 m 0 = a ∧ lo 3 m 1 = b ∧ lo 3 m 2 = c := by
  intro a ha b hb c hc h1 h2 h3
  have h := lo_ex3B a ha b hb c hc
  simp only [h1, h2, h3, decide_false, Bool.false_or] at h
  obtain ⟨m, h4, h5⟩ := anyB_iff.mp h
  simp only [Bool.and_eq_true, decide_eq_true_eq] at h5
  exact ⟨m, h4, h5.1, h5.2.1, h5.2.2⟩
theorem lo_ex4B : ∀ a, a < 4 → ∀ b, b < 4 → ∀ c, c < 4 → ∀ d, d < 4 → (decide (a = b) || decide (a = c) || decide (a = d) || decide (b = c) || decide (b = d) || decide (c = d) || anyB (fun m => decide (lo 4 m 0 = a) && (decide (lo 4 m 1 = b) && (decide (lo 4 m 2 = c) && decide (lo 4 m 3 = d)))) (fac 4)) = true := by decide +kernel
theorem lo_ex4 : ∀ a, a < 4 → ∀ b, b < 4 → ∀ c, c < 4 → ∀ d, d < 4 → a ≠ b → a ≠ c → a ≠ d → b ≠ c → b ≠ d → c ≠ d → ∃ m, m < fac 4 ∧ lo 4 m 0 = a ∧ lo 4 m 1 = b ∧ lo 4 m 2 = c ∧ lo 4 m 3 = d := by
  intro a ha b hb c hc d hd h1 h2 h3 h4 h5 h6
  have h := lo_ex4B a ha b hb c hc d hd
  simp only [h1, h2, h3, h4, h5, h6, decide_false, Bool.false_or] at h
  obtain ⟨m, h7, h8⟩ := anyB_iff.mp h
  simp only [Bool.and_eq_true, decide_eq_true_eq] at h8
  exact ⟨m, h7, h8.1, h8.2.1, h8.2.2.1, h8.2.2.2⟩
theorem lo_ex {g : Nat} (hg2 : 2 ≤ g) (hg4 : g ≤ 4) (r : Nat → Nat) (hr : ∀ i, i < g → r i < g) (hi : ∀ i, i < g → ∀ j, j < i → r i ≠ r j) : ∃ m, m < fac g ∧ ∀ i, i < g → lo g m i = r i := by
  rcases (show g = 2 ∨ g = 3 ∨ g = 4 by omega) with rfl | rfl | rfl
  · obtain ⟨m, h1, h2, h3⟩ := lo_ex2 (r 0) (hr 0 (by decide)) (r 1) (hr 1 (by decide)) (fun q => hi 1 (by decide) 0 (by decide) q.symm)
    refine ⟨m, h1, fun i h => ?_⟩
    rcases (show i = 0 ∨ i = 1 by omega) with rfl | rfl
    · exact h2
    · exact h3
  · obtain ⟨m, h1, h2, h3, h4⟩ := lo_ex3 (r 0) (hr 0 (by decide)) (r 1) (hr 1 (by decide)) (r 2) (hr 2 (by decide)) (fun q => hi 1 (by decide) 0 (by decide) q.symm) (fun q => hi 2 (by decide) 0 (by decide) q.symm) (fun q => hi 2 (by decide) 1 (by decide) q.symm)
    refine ⟨m, h1, fun i h => ?_⟩
    rcases (show i = 0 ∨ i = 1 ∨ i = 2 by omega) with rfl | rfl | rfl
    · exact h2
    · exact h3
    · exact h4
  · obtain ⟨m, h1, h2, h3, h4, h5⟩ := lo_ex4 (r 0) (hr 0 (by decide)) (r 1) (hr 1 (by decide)) (r 2) (hr 2 (by decide)) (r 3) (hr 3 (by decide)) (fun q => hi 1 (by decide) 0 (by decide) q.symm) (fun q => hi 2 (by decide) 0 (by decide) q.symm) (fun q => hi 3 (by decide) 0 (by decide) q.symm) (fun q => hi 2 (by decide) 1 (by decide) q.symm) (fun q => hi 3 (by decide) 1 (by decide) q.symm) (fun q => hi 3 (by decide) 2 (by decide) q.symm)
    refine ⟨m, h1, fun i h => ?_⟩
    rcases (show i = 0 ∨ i = 1 ∨ i = 2 ∨ i = 3 by omega) with rfl | rfl | rfl | rfl
    · exact h2
    · exact h3
    · exact h4
    · exact h5
theorem dig_ex {b : Nat} (hb : 0 < b) (P : Nat → Nat → Prop) : ∀ p, (∀ q, q < p → ∃ m, m < b ∧ P q m) → ∃ m, m < b ^ p ∧ ∀ q, q < p → P q (m / b ^ q % b) := by
  intro p
  induction p with
  | zero => intro _; exact ⟨0, Nat.one_pos, fun q h => absurd h (Nat.not_lt_zero _)⟩
  | succ p ih =>
    intro h
    obtain ⟨m, h1, h2⟩ := ih (fun q hq => h q (by omega))
    obtain ⟨k, h3, h4⟩ := h p (by omega)
    have hp : 0 < b ^ p := Nat.pow_pos hb
    refine ⟨m + b ^ p * k, ?_, fun q hq => ?_⟩
    · rw [Nat.pow_succ]
      have : b ^ p * (k + 1) ≤ b ^ p * b := Nat.mul_le_mul_left _ h3
      rw [Nat.mul_add] at this
      omega
    · by_cases e : q = p
      · subst e
        rw [Nat.add_mul_div_left _ _ hp, Nat.div_eq_of_lt h1, Nat.zero_add, Nat.mod_eq_of_lt h3]
        exact h4
      · have e2 : (m + b ^ p * k) / b ^ q % b = m / b ^ q % b := by
          obtain ⟨s, rfl⟩ : ∃ s, p = q + 1 + s := ⟨p - (q + 1), by omega⟩
          have e3 : b ^ (q + 1 + s) * k = b ^ q * (b * (b ^ s * k)) := by rw [Nat.pow_add, Nat.pow_succ, Nat.mul_assoc, Nat.mul_assoc]
          rw [e3, Nat.add_mul_div_left _ _ (Nat.pow_pos hb), Nat.add_mul_mod_self_left]
        rw [e2]
        exact h2 q (by omega)
theorem dig_one {b : Nat} (hb : 0 < b) : ∀ p m k, m < b ^ p → k < b ^ p → (∀ q, q < p → m / b ^ q % b = k / b ^ q % b) → m = k := by
  intro p
  induction p with
  | zero =>
    intro m k h1 h2 _
    rw [Nat.pow_zero] at h1 h2
    omega
  | succ p ih =>
    intro m k h1 h2 h
    have hp : 0 < b ^ p := Nat.pow_pos hb
    have e1 : m % b ^ p = k % b ^ p := by
      refine ih _ _ (Nat.mod_lt _ hp) (Nat.mod_lt _ hp) (fun q hq => ?_)
      have e : ∀ x, x % b ^ p / b ^ q % b = x / b ^ q % b := fun x => by
        obtain ⟨s, rfl⟩ : ∃ s, p = q + 1 + s := ⟨p - (q + 1), by omega⟩
        rw [show b ^ (q + 1 + s) = b ^ q * (b * b ^ s) by rw [Nat.pow_add, Nat.pow_succ, Nat.mul_assoc], Nat.mod_mul_right_div_self, Nat.mod_mul_right_mod]
      rw [e, e]
      exact h q (by omega)
    have e2 := h p (by omega)
    rw [Nat.pow_succ, Nat.mul_comm] at h1 h2
    rw [Nat.mod_eq_of_lt (Nat.div_lt_of_lt_mul (by rw [Nat.mul_comm]; exact h1)), Nat.mod_eq_of_lt (Nat.div_lt_of_lt_mul (by rw [Nat.mul_comm]; exact h2))] at e2
    rw [← Nat.div_add_mod m (b ^ p), ← Nat.div_add_mod k (b ^ p), e1, e2]
/-- the last place with P, counting them -/
theorem ct_last {P : Nat → Bool} : ∀ {n : Nat}, 0 < ct P n → ∃ o, o < n ∧ P o = true ∧ ct P n = ct P o + 1 := by
  intro n
  induction n with
  | zero => intro h; exact absurd h (Nat.not_lt_zero _)
  | succ n ih =>
    intro h
    cases q : P n
    · rw [ct_f q] at h
      obtain ⟨o, h1, h2, h3⟩ := ih h
      exact ⟨o, by omega, h2, by rw [ct_f q]; exact h3⟩
    · exact ⟨n, by omega, q, ct_t q⟩
theorem q_dc (a b : Nat) : decide (a = b) = decide (b = a) := decide_eq_decide.mpr eq_comm
/-- the class's masks and the model's rows of pairs -/
def RelR (ap od : Nat → Nat) (ab ob : Nat → Bool) : Prop :=
  (∀ t, t < 9 → ∀ o, o < 9 → (ap t).testBit o = ab (9 * t + o)) ∧
  (∀ t, t < 9 → ∀ o, o < 9 → (od t).testBit o = ob (9 * t + o)) ∧
  (∀ t, t < 9 → ∀ o, o < 9 → ab (9 * t + o) = ab (9 * o + t)) ∧
  (∀ t, t < 9 → ∀ o, o < 9 → ob (9 * t + o) = ob (9 * o + t)) ∧
  (∀ t, t < 9 → ab (9 * t + t) = false) ∧
  (∀ t, t < 9 → ob (9 * t + t) = false) ∧
  (∀ t, t < 9 → ap t < 512) ∧
  (∀ t, t < 9 → od t < 512)
theorem RelR.a {ap od : Nat → Nat} {ab ob : Nat → Bool} (h : RelR ap od ab ob) : ∀ t, t < 9 → ∀ o, o < 9 → (ap t).testBit o = ab (9 * t + o) := h.1
theorem RelR.o {ap od : Nat → Nat} {ab ob : Nat → Bool} (h : RelR ap od ab ob) : ∀ t, t < 9 → ∀ o, o < 9 → (od t).testBit o = ob (9 * t + o) := h.2.1
theorem RelR.sa {ap od : Nat → Nat} {ab ob : Nat → Bool} (h : RelR ap od ab ob) : ∀ t, t < 9 → ∀ o, o < 9 → ab (9 * t + o) = ab (9 * o + t) := h.2.2.1
theorem RelR.so {ap od : Nat → Nat} {ab ob : Nat → Bool} (h : RelR ap od ab ob) : ∀ t, t < 9 → ∀ o, o < 9 → ob (9 * t + o) = ob (9 * o + t) := h.2.2.2.1
theorem RelR.da {ap od : Nat → Nat} {ab ob : Nat → Bool} (h : RelR ap od ab ob) : ∀ t, t < 9 → ab (9 * t + t) = false := h.2.2.2.2.1
theorem RelR.dO {ap od : Nat → Nat} {ab ob : Nat → Bool} (h : RelR ap od ab ob) : ∀ t, t < 9 → ob (9 * t + t) = false := h.2.2.2.2.2.1
theorem RelR.la {ap od : Nat → Nat} {ab ob : Nat → Bool} (h : RelR ap od ab ob) : ∀ t, t < 9 → ap t < 512 := h.2.2.2.2.2.2.1
theorem RelR.lo {ap od : Nat → Nat} {ab ob : Nat → Bool} (h : RelR ap od ab ob) : ∀ t, t < 9 → od t < 512 := h.2.2.2.2.2.2.2
theorem cdN_mod {g m : Nat} (hg : 0 < g) (hg4 : g ≤ 4) : ∀ {t T : Nat}, t ≤ T → cdN g m T % 4 ^ t = cdN g m t := by
  intro t T h
  obtain ⟨d, rfl⟩ : ∃ d, T = t + d := ⟨T - t, by omega⟩
  induction d with
  | zero => exact Nat.mod_eq_of_lt (cdN_lt hg hg4 t)
  | succ d ih =>
    show (cdN g m (t + d) + rowN g m (t + d) * 4 ^ (t + d)) % 4 ^ t = cdN g m t
    rw [show rowN g m (t + d) * 4 ^ (t + d) = 4 ^ t * (4 ^ d * rowN g m (t + d)) by rw [Nat.pow_add, Nat.mul_comm, Nat.mul_assoc], Nat.add_mul_mod_self_left]
    exact ih (by omega)
theorem gr_mod {x t z : Nat} (h : z < t) : gr (x % 4 ^ t) z = gr x z := by
  unfold gr
  obtain ⟨s, rfl⟩ : ∃ s, t = z + 1 + s := ⟨t - (z + 1), by omega⟩
  rw [show 4 ^ (z + 1 + s) = 4 ^ z * (4 * 4 ^ s) by rw [Nat.pow_add, Nat.pow_succ, Nat.mul_assoc], Nat.mod_mul_right_div_self, Nat.mod_mul_right_mod]
theorem x_cdN {g m T x : Nat} (hx : x < 4 ^ T) (h : ∀ t, t < T → rowN g m t = gr x t) : cdN g m T = x := by
  have h1 : ∀ n, n ≤ T → cdN g m n = x % 4 ^ n := by
    intro n
    induction n with
    | zero => intro _; show 0 = x % 1; omega
    | succ n ih =>
      intro hn
      show cdN g m n + rowN g m n * 4 ^ n = x % 4 ^ (n + 1)
      rw [ih (by omega), h n (by omega), p4_dig]
  rw [h1 T (Nat.le_refl _), Nat.mod_eq_of_lt hx]
/-- a lawful row is one that the class comes to -/
theorem okX_of {g p m : Nat} {rg bd ap od : Nat → Nat} {ab ob : Nat → Bool} (hg2 : 2 ≤ g) (hg4 : g ≤ 4) (hT : g * p ≤ 9) (hR : RelR ap od ab ob) (hm : m < fac g ^ p)
    (h : lawB (g * p) rg bd ab ob (fun _ => -1) (rowN g m) = true) : ∀ t, t < g * p → okX g rg bd ap od (cdN g m (g * p)) t := by
  intro t ht
  have hg : 0 < g := by omega
  have e0 : gr (cdN g m (g * p)) t = rowN g m t := gr_cdN hg hg4 ht
  have e1 : ∀ z, z < t → gr (cdN g m t) z = rowN g m z := fun z hz => gr_cdN hg hg4 hz
  unfold lawB at h
  rw [allB_iff] at h
  have h1 := h t ht
  unfold okT at h1
  rw [Bool.and_eq_true, Bool.and_eq_true, allB_iff, decide_eq_true_eq] at h1
  refine ⟨by rw [e0]; exact rowN_lt hg hg4, ?_⟩
  rw [cdN_mod hg hg4 (Nat.le_of_lt ht), e0]
  unfold admR
  rw [Bool.and_eq_true, Bool.and_eq_true, allB_iff, allB_iff, decide_eq_true_eq]
  refine ⟨fun z hz => ?_, fun z hz => ?_, ?_⟩
  · rw [e1 z hz]
    have h2 := h1.1 z (by omega)
    unfold okP at h2
    rw [Bool.and_eq_true] at h2
    have h3 := h2.1
    rw [hR.a t (by omega) z (by omega)]
    by_cases q : rowN g m z = rowN g m t
    · have q2 : ¬ z / g = t / g := by
        intro q2
        have h4 : lo g (m / fac g ^ (z / g) % fac g) (z % g) = lo g (m / fac g ^ (t / g) % fac g) (t % g) := q
        rw [q2] at h4
        have h5 := lo_inj hg2 hg4 _ (Nat.mod_lt _ (fac_le hg4).2) _ (Nat.mod_lt _ hg) _ (Nat.mod_lt _ hg) h4
        have h6 := Nat.div_add_mod z g
        have h7 := Nat.div_add_mod t g
        rw [q2, h5] at h6
        omega
      rw [q] at h3
      simp only [decide_true, Bool.and_true, Bool.not_eq_true'] at h3
      simp [q2, h3]
    · simp [q]
  · rw [e1 z hz]
    have h2 := h1.1 z (by omega)
    unfold okP at h2
    rw [Bool.and_eq_true] at h2
    have h3 := h2.2
    rw [hR.o t (by omega) z (by omega)]
    by_cases q : rowN g m z % 2 = rowN g m t % 2
    · rw [q] at h3
      simp only [decide_true, Bool.and_true, Bool.not_eq_true'] at h3
      simp [h3]
    · simp [q]
  · have h2 : ct (fun z => decide (gr (cdN g m t) z = rowN g m t) && decide (rg z = rg t)) t = ct (smT rg (rowN g m) t) t := ct_congr (fun z hz => by
      rw [e1 z hz]
      unfold smT
      rw [q_dc (rowN g m z) (rowN g m t), q_dc (rg z) (rg t)])
    have h3 := ct_mono (smT rg (rowN g m) t) (show t + 1 ≤ g * p by omega)
    rw [ct_t (show smT rg (rowN g m) t t = true by simp [smT])] at h3
    have h4 := h1.2.1
    show ct (fun z => decide (gr (cdN g m t) z = rowN g m t) && decide (rg z = rg t)) t < bd (rg t)
    rw [h2]
    omega
theorem law_of {g p x : Nat} {rg bd ap od : Nat → Nat} {ab ob : Nat → Bool} (hg2 : 2 ≤ g) (hg4 : g ≤ 4) (hT : g * p ≤ 9) (hR : RelR ap od ab ob) (hx : x < 4 ^ (g * p))
    (h : ∀ t, t < g * p → okX g rg bd ap od x t) : ∃ m, m < fac g ^ p ∧ lawB (g * p) rg bd ab ob (fun _ => -1) (rowN g m) = true ∧ cdN g m (g * p) = x := by
  have hg : 0 < g := by omega
  have hO : ∀ t, t < g * p → ∀ z, z < t → (gr x z = gr x t → ¬ z / g = t / g ∧ ab (9 * t + z) = false) ∧ (gr x z % 2 = gr x t % 2 → ob (9 * t + z) = false) ∧ ct (smT rg (gr x) t) t < bd (rg t) := by
    intro t ht z hz
    have h1 := (h t ht).2
    unfold admR at h1
    rw [Bool.and_eq_true, Bool.and_eq_true, allB_iff, allB_iff, decide_eq_true_eq] at h1
    have h2 := h1.1 z hz
    have h3 := h1.2.1 z hz
    rw [gr_mod hz, hR.a t (by omega) z (by omega)] at h2
    rw [gr_mod hz, hR.o t (by omega) z (by omega)] at h3
    refine ⟨fun q => ?_, fun q => ?_, ?_⟩
    · simp only [q, decide_true, Bool.true_and, Bool.not_eq_true', Bool.or_eq_false_iff, decide_eq_false_iff_not] at h2
      exact h2
    · simp only [q, decide_true, Bool.true_and, Bool.not_eq_true'] at h3
      exact h3
    · have h4 : ct (fun z => decide (gr (x % 4 ^ t) z = gr x t) && decide (rg z = rg t)) t = ct (smT rg (gr x) t) t := ct_congr (fun z hz => by
        rw [gr_mod hz]
        unfold smT
        rw [q_dc (gr x z) (gr x t), q_dc (rg z) (rg t)])
      rw [← h4]; exact h1.2.2
  have hB : ∀ t, t < g * p → ct (smT rg (gr x) t) t < bd (rg t) := by
    intro t ht
    have h1 := (h t ht).2
    unfold admR at h1
    rw [Bool.and_eq_true, Bool.and_eq_true, decide_eq_true_eq] at h1
    have h4 : ct (fun z => decide (gr (x % 4 ^ t) z = gr x t) && decide (rg z = rg t)) t = ct (smT rg (gr x) t) t := ct_congr (fun z hz => by
      rw [gr_mod hz]
      unfold smT
      rw [q_dc (gr x z) (gr x t), q_dc (rg z) (rg t)])
    rw [← h4]; exact h1.2.2
  have hex : ∀ q, q < p → ∃ m, m < fac g ∧ ∀ i, i < g → lo g m i = gr x (g * q + i) := by
    intro q hq
    have hq2 : g * q + g ≤ g * p := by
      have : g * (q + 1) ≤ g * p := Nat.mul_le_mul_left g hq
      rw [Nat.mul_add, Nat.mul_one] at this
      exact this
    refine lo_ex hg2 hg4 (fun i => gr x (g * q + i)) (fun i hi => (h _ (by omega)).1) (fun i hi j hj e => ?_)
    have h1 := ((hO (g * q + i) (by omega) (g * q + j) (by omega)).1 e.symm).1
    rw [Nat.mul_add_div hg, Nat.mul_add_div hg, Nat.div_eq_of_lt hi, Nat.div_eq_of_lt (by omega)] at h1
    exact h1 rfl
  obtain ⟨m, h1, h2⟩ := dig_ex (fac_le hg4).2 (fun q m => ∀ i, i < g → lo g m i = gr x (g * q + i)) p hex
  have hrow : ∀ t, t < g * p → rowN g m t = gr x t := by
    intro t ht
    have h3 := h2 (t / g) (pot_lt hg ht) (t % g) (Nat.mod_lt _ hg)
    rw [Nat.div_add_mod] at h3
    exact h3
  refine ⟨m, h1, ?_, x_cdN hx hrow⟩
  unfold lawB
  rw [allB_iff]
  intro t ht
  unfold okT
  rw [Bool.and_eq_true, Bool.and_eq_true, allB_iff, decide_eq_true_eq]
  refine ⟨fun z hz => ?_, ?_, by simp⟩
  · unfold okP
    rw [hrow t ht, hrow z hz]
    rcases Nat.lt_trichotomy z t with q | q | q
    · have h3 := hO t ht z q
      have c1 : (ab (9 * t + z) && decide (gr x t = gr x z)) = false := by
        by_cases e : gr x t = gr x z
        · rw [(h3.1 e.symm).2]; rfl
        · simp [e]
      have c2 : (ob (9 * t + z) && decide (gr x t % 2 = gr x z % 2)) = false := by
        by_cases e : gr x t % 2 = gr x z % 2
        · rw [h3.2.1 e.symm]; rfl
        · simp [e]
      rw [c1, c2]; rfl
    · subst q
      rw [hR.da z (by omega), hR.dO z (by omega)]; rfl
    · have h3 := hO z hz t q
      have c1 : (ab (9 * t + z) && decide (gr x t = gr x z)) = false := by
        by_cases e : gr x t = gr x z
        · rw [hR.sa t (by omega) z (by omega), (h3.1 e).2]; rfl
        · simp [e]
      have c2 : (ob (9 * t + z) && decide (gr x t % 2 = gr x z % 2)) = false := by
        by_cases e : gr x t % 2 = gr x z % 2
        · rw [hR.so t (by omega) z (by omega), h3.2.1 e]; rfl
        · simp [e]
      rw [c1, c2]; rfl
  · have e1 : ct (smT rg (rowN g m) t) (g * p) = ct (smT rg (gr x) t) (g * p) := ct_congr (fun z hz => by
      unfold smT
      rw [hrow t ht, hrow z hz])
    rw [e1]
    have h3 : 0 < ct (smT rg (gr x) t) (g * p) := ct_lt ht (by simp [smT])
    obtain ⟨o, h4, h5, h6⟩ := ct_last h3
    simp only [smT, Bool.and_eq_true, decide_eq_true_eq] at h5
    have h7 := hB o h4
    have e2 : ct (smT rg (gr x) o) o = ct (smT rg (gr x) t) o := ct_congr (fun z hz => by
      simp only [smT, h5.1, h5.2])
    rw [e2, ← h5.2] at h7
    omega
theorem RS_lin {g p : Nat} {rg bd : Nat → Nat} {ab ob : Nat → Bool} {S : Nat → Int32} (hg : 0 < g) (hg4 : g ≤ 4) (w : Nat → Nat) : RS g p rg bd ab ob S w = sm (fun x => w x * RS g p rg bd ab ob S (dl x)) (4 ^ (g * p)) := by
  have e : ∀ x, w x * RS g p rg bd ab ob S (dl x) = sm (fun m => w x * (if lawB (g * p) rg bd ab ob S (rowN g m) then dl x (cdN g m (g * p)) else 0)) (fac g ^ p) := fun x => (sm_mulr _ _ _).symm
  rw [sm_congr (fun x _ => e x), sm_sm]
  unfold RS
  refine sm_congr (fun m hm => ?_)
  by_cases q : lawB (g * p) rg bd ab ob S (rowN g m) = true
  · rw [if_pos q, ← sm_dl w (cdN_lt (m := m) hg hg4 (g * p))]
    exact sm_congr (fun x _ => by rw [if_pos q])
  · rw [if_neg q]
    exact (sm_zero (fun x _ => by rw [if_neg q, Nat.mul_zero])).symm
theorem cdN_one {g p m k : Nat} (hg2 : 2 ≤ g) (hg4 : g ≤ 4) (hm : m < fac g ^ p) (hk : k < fac g ^ p) (h : cdN g m (g * p) = cdN g k (g * p)) : m = k := by
  have hg : 0 < g := by omega
  refine dig_one (fac_le hg4).2 p m k hm hk (fun q hq => ?_)
  refine lo_one hg2 hg4 _ (Nat.mod_lt _ (fac_le hg4).2) _ (Nat.mod_lt _ (fac_le hg4).2) (fun i hi => ?_)
  have hq2 : g * q + i < g * p := by
    have : g * (q + 1) ≤ g * p := Nat.mul_le_mul_left g hq
    rw [Nat.mul_add, Nat.mul_one] at this
    omega
  have h1 : rowN g m (g * q + i) = rowN g k (g * q + i) := by
    rw [← gr_cdN hg hg4 hq2, ← gr_cdN hg hg4 hq2, h]
  unfold rowN at h1
  rw [Nat.mul_add_div hg, Nat.div_eq_of_lt hi, Nat.add_zero, Nat.mul_add_mod, Nat.mod_eq_of_lt hi] at h1
  exact h1
theorem ext_RS {g p : Nat} {rg bd ap od : Nat → Nat} {ab ob : Nat → Bool} (hg2 : 2 ≤ g) (hg4 : g ≤ 4) (hT : g * p ≤ 9) (hR : RelR ap od ab ob) (w : Nat → Nat) :
    extN g rg bd ap od (g * p) 0 0 w = RS g p rg bd ab ob (fun _ => -1) w := by
  have hg : 0 < g := by omega
  rw [ext_lin hg4 (g * p) 0 0 w Nat.one_pos, RS_lin hg hg4 w, Nat.zero_add]
  refine sm_congr (fun x hx => ?_)
  congr 1
  have h1 := ext_dl (rg := rg) (bd := bd) (ap := ap) (od := od) hg4 (g * p) 0 0 x Nat.one_pos (by rw [Nat.zero_add]; exact hx)
  by_cases q : ∀ t, t < g * p → okX g rg bd ap od x t
  · rw [h1.1 ⟨Nat.mod_one _, fun t _ h2 => q t (by omega)⟩]
    obtain ⟨m, h2, h3, h4⟩ := law_of hg2 hg4 hT hR hx q
    unfold RS
    rw [sm_at h2 (fun k hk hne => ?_)]
    · rw [if_pos h3]
      simp [dl, h4]
    · by_cases q2 : cdN g k (g * p) = x
      · exact absurd (cdN_one hg2 hg4 hk h2 (q2.trans h4.symm)) hne
      · simp [dl, q2]
  · rw [h1.2 (fun h2 => q (fun t ht => h2.2 t (Nat.zero_le _) (by omega)))]
    unfold RS
    refine (sm_zero (fun k hk => ?_)).symm
    by_cases q3 : lawB (g * p) rg bd ab ob (fun _ => -1) (rowN g k) = true
    · rw [if_pos q3]
      by_cases q2 : cdN g k (g * p) = x
      · exact absurd (by rw [← q2]; exact okX_of hg2 hg4 hT hR hk q3) q
      · simp [dl, q2]
    · rw [if_neg q3]
theorem ext_le {g p : Nat} {rg bd ap od : Nat → Nat} {ab ob : Nat → Bool} (hg2 : 2 ≤ g) (hg4 : g ≤ 4) (hp2 : 2 ≤ p) (hp3 : p ≤ 3) (hT : g * p ≤ 9) (hR : RelR ap od ab ob) :
    extN g rg bd ap od (g * p) 0 0 (fun _ => 1) ≤ 576 := by
  rw [ext_RS hg2 hg4 hT hR]
  refine Nat.le_trans (sm_le_n (fun i _ => ?_)) (facp_le hg2 hg4 hp2 hp3 hT)
  split
  · exact Nat.le_refl _
  · exact Nat.zero_le _
