/-! own rows: sets of orders as bits of a long -/
def mkN (P : Nat → Bool) : Nat → Nat
  | 0 => 0
  | n + 1 => mkN P n + (if P n then 2 ^ n else 0)
theorem mkN_lt (P : Nat → Bool) (n : Nat) : mkN P n < 2 ^ n := by
  induction n with
  | zero => exact Nat.one_pos
  | succ n ih =>
    simp only [mkN]
    have e : (2 : Nat) ^ (n + 1) = 2 ^ n + 2 ^ n := by rw [Nat.pow_succ]; omega
    split <;> omega
theorem mkN_or (P : Nat → Bool) (n : Nat) : mkN P n ||| 2 ^ n = mkN P n + 2 ^ n := by
  have h := Nat.two_pow_add_eq_or_of_lt (mkN_lt P n) 1
  rw [Nat.mul_one] at h
  rw [Nat.or_comm, ← h, Nat.add_comm]
theorem mkN_bit (P : Nat → Bool) (i : Nat) : ∀ n, (mkN P n).testBit i = (decide (i < n) && P i) := by
  intro n
  induction n with
  | zero => simp [mkN]
  | succ n ih =>
    simp only [mkN]
    by_cases q : P n = true
    · rw [if_pos q, ← mkN_or, Nat.testBit_or, ih, Nat.testBit_two_pow]
      by_cases e : n = i
      · subst e; simp [q]
      · have e2 : decide (i < n + 1) = decide (i < n) := decide_eq_decide.mpr (by omega)
        simp [e, e2]
    · rw [if_neg q, Nat.add_zero, ih]
      by_cases e : n = i
      · subst e; simp [Bool.eq_false_iff.mpr q]
      · have e2 : decide (i < n + 1) = decide (i < n) := decide_eq_decide.mpr (by omega)
        rw [e2]
theorem mkN_congr {P Q : Nat → Bool} {n : Nat} (h : ∀ i, i < n → P i = Q i) : mkN P n = mkN Q n := by
  induction n with
  | zero => rfl
  | succ n ih => simp only [mkN]; rw [ih (fun i hi => h i (by omega)), h n (by omega)]
theorem mkN_and (P Q : Nat → Bool) (n : Nat) : mkN P n &&& mkN Q n = mkN (fun i => P i && Q i) n := by
  apply Nat.eq_of_testBit_eq
  intro i
  rw [Nat.testBit_and, mkN_bit, mkN_bit, mkN_bit]
  cases decide (i < n) <;> cases P i <;> cases Q i <;> rfl
theorem mkN_all (n : Nat) : mkN (fun _ => true) n = 2 ^ n - 1 := by
  induction n with
  | zero => rfl
  | succ n ih =>
    have h := Nat.pow_pos (n := n) (show 0 < 2 by decide)
    have e : (2 : Nat) ^ (n + 1) = 2 ^ n + 2 ^ n := by rw [Nat.pow_succ]; omega
    simp only [mkN, ih, if_true]
    omega
theorem mkN_0 (n : Nat) : mkN (fun _ => false) n = 0 := by
  induction n with
  | zero => rfl
  | succ n ih => simp [mkN, ih]
theorem mkN_shift (P : Nat → Bool) (n : Nat) : mkN P (n + 1) = (P 0).toNat + 2 * mkN (fun i => P (i + 1)) n := by
  induction n with
  | zero => simp only [mkN]; cases P 0 <;> rfl
  | succ n ih =>
    show mkN P (n + 1) + (if P (n + 1) then 2 ^ (n + 1) else 0) = _
    rw [ih]
    simp only [mkN]
    have e : (2 : Nat) ^ (n + 1) = 2 * 2 ^ n := by rw [Nat.pow_succ]; omega
    split <;> omega
/-- the bits of a number, counted -/
def pcN : Nat → Nat → Nat
  | 0, _ => 0
  | f + 1, x => x % 2 + pcN f (x / 2)
theorem pcN_mk : ∀ (f n : Nat) (P : Nat → Bool), n ≤ f → pcN f (mkN P n) = ct P n := by
  intro f
  induction f with
  | zero => intro n P h; obtain rfl : n = 0 := by omega
            rfl
  | succ f ih =>
    intro n P h
    cases n with
    | zero =>
      have e : ∀ f, pcN f 0 = 0 := by
        intro f
        induction f with
        | zero => rfl
        | succ f ih => simp [pcN, ih]
      exact e (f + 1)
    | succ n =>
      rw [mkN_shift, ct_shift]
      simp only [pcN]
      have h1 : ((P 0).toNat + 2 * mkN (fun i => P (i + 1)) n) % 2 = (P 0).toNat := by
        have : (P 0).toNat < 2 := by cases P 0 <;> decide
        omega
      have h2 : ((P 0).toNat + 2 * mkN (fun i => P (i + 1)) n) / 2 = mkN (fun i => P (i + 1)) n := by
        have : (P 0).toNat < 2 := by cases P 0 <;> decide
        omega
      rw [h1, h2, ih n _ (by omega)]
theorem pcN_step : ∀ (f x : Nat), 0 < x → x < 2 ^ f → pcN f (x &&& (x - 1)) + 1 = pcN f x := by
  intro f
  induction f with
  | zero => intro x h1 h2; rw [Nat.pow_zero] at h2; omega
  | succ f ih =>
    intro x h1 h2
    have e : (2 : Nat) ^ (f + 1) = 2 * 2 ^ f := by rw [Nat.pow_succ]; omega
    simp only [pcN]
    rw [Nat.and_div_two]
    have hm : (x &&& (x - 1)) % 2 = 0 := by
      have h3 : ¬ (x &&& (x - 1)) % 2 = 1 := by
        rw [Nat.and_mod_two_eq_one]
        omega
      omega
    rw [hm]
    by_cases q : x % 2 = 1
    · have h4 : (x - 1) / 2 = x / 2 := by omega
      rw [h4, Nat.and_self, q]
      omega
    · have h4 : (x - 1) / 2 = x / 2 - 1 := by omega
      have h5 := ih (x / 2) (by omega) (by omega)
      rw [h4]
      omega
theorem and_lt_self {x : Nat} (h : 0 < x) : x &&& (x - 1) < x := Nat.lt_of_le_of_lt Nat.and_le_right (by omega)
/-- the bits of a long, asked one by one -/
theorem mkN_dig (P : Nat → Bool) {n i : Nat} (h : i < n) : mkN P n / 2 ^ i % 2 = (P i).toNat := by
  have h1 := mkN_bit P i n
  rw [Nat.testBit_eq_decide_div_mod_eq] at h1
  have h2 : decide (i < n) = true := decide_eq_true h
  rw [h2, Bool.true_and] at h1
  have h3 : mkN P n / 2 ^ i % 2 < 2 := Nat.mod_lt _ (by decide)
  cases q : P i
  · rw [q] at h1
    have := of_decide_eq_false h1
    show _ = 0
    omega
  · rw [q] at h1
    exact of_decide_eq_true h1
theorem fac_24 : ∀ g, g < 5 → fac g ≤ 24 := by decide
theorem mkN_24 (P : Nat → Bool) {g : Nat} (h : g < 5) : mkN P (fac g) < 2 ^ 24 := Nat.lt_of_lt_of_le (mkN_lt P _) (Nat.pow_le_pow_right (by decide) (fac_24 g h))
