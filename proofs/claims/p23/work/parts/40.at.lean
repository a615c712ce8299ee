/-! own rows: the law's orders of a pot, and their numbers -/
def atP (n : Nat) : Nat → Nat
  | 0 => if n = 4 then 24 else if n = 3 then 6 else 2
  | k + 1 => atP n k / (n - k)
/-- what is left of the number ahead of the ball k -/
def atR (n o : Nat) : Nat → Nat
  | 0 => o
  | k + 1 => atR n o k % atP n (k + 1)
def atL (n o k : Nat) : Nat := atR n o k / atP n (k + 1)
/-- the place that the inner loop comes to -/
def nuG (u : Nat) : Nat → Nat → Nat → Nat
  | 0, its, _ => its
  | f + 1, its, left => if u.testBit its then nuG u f (its + 1) left else if left = 0 then its else nuG u f (its + 1) (left - 1)
/-- the places that are taken ahead of the ball k -/
def atU (n o : Nat) : Nat → Nat
  | 0 => 0
  | k + 1 => atU n o k ||| 2 ^ nuG (atU n o k) 4 0 (atL n o k)
def atN (n o k : Nat) : Nat := nuG (atU n o k) 4 0 (atL n o k)
theorem at_lt : ∀ n, n < 5 → ∀ o, o < fac n → ∀ k, k < n → atN n o k < n := by decide +kernel
theorem at_U : ∀ n, n < 5 → ∀ o, o < fac n → ∀ k, k < n + 1 → atU n o k < 16 := by decide +kernel
theorem at_P : ∀ n, n < 5 → ∀ k, k < n → 0 < atP n (k + 1) ∧ atP n (k + 1) < 25 ∧ atP n k < 25 := by decide +kernel
theorem at_R : ∀ n, n < 5 → ∀ o, o < fac n → ∀ k, k < n + 1 → atR n o k < 25 := by decide +kernel
/-- the same order's number as the draw's digits have it -/
def tauR (n o : Nat) : Nat → Nat → Nat
  | 0, _ => 0
  | f + 1, k => atL n o k + (n - k) * tauR n o f (k + 1)
def tau (n o : Nat) : Nat := tauR n o n 0
theorem tau_lt : ∀ n, n < 5 → ∀ o, o < fac n → tau n o < fac n := by decide +kernel
theorem tau_lo : ∀ n, n < 5 → ∀ o, o < fac n → ∀ k, k < n → lo n (tau n o) k = atN n o k := by decide +kernel
theorem tau_one : ∀ n, n < 5 → ∀ x, x < fac n → sm (fun o => dl x (tau n o)) (fac n) = 1 := by decide +kernel
theorem tau_sum (F : Nat → Nat) {n : Nat} (h : n < 5) : sm (fun o => F (tau n o)) (fac n) = sm F (fac n) := by
  rw [sm_congr (fun o ho => (sm_dl F (tau_lt n h o ho)).symm), sm_sm]
  refine sm_congr (fun x hx => ?_)
  rw [sm_mulr, tau_one n h x hx, Nat.mul_one]
theorem fac_pos (n : Nat) : 0 < fac n := by
  induction n with
  | zero => exact Nat.one_pos
  | succ n ih => rw [fac_succ]; exact Nat.mul_pos (Nat.succ_pos n) ih
/-- a number of digits, pot by pot: the law's to the draw's -/
def RRn (c : Nat → Nat) : Nat → Nat → Nat → Nat
  | 0, _, _ => 0
  | j + 1, q, n => tau (c q) (n % fac (c q)) + fac (c q) * RRn c j (q + 1) (n / fac (c q))
def prC (c : Nat → Nat) : Nat → Nat → Nat
  | 0, _ => 1
  | j + 1, q => fac (c q) * prC c j (q + 1)
theorem RR_sum {c : Nat → Nat} (hc : ∀ q, c q < 5) : ∀ (j q : Nat) (F : Nat → Nat), sm (fun n => F (RRn c j q n)) (prC c j q) = sm F (prC c j q) := by
  intro j
  induction j with
  | zero => intro q F; rfl
  | succ j ih =>
    intro q F
    simp only [prC]
    rw [sm_mul, sm_mul]
    have e : sm (fun a => sm (fun i => F (RRn c (j + 1) q (a + fac (c q) * i))) (prC c j (q + 1))) (fac (c q)) = sm (fun a => sm (fun i => F (tau (c q) a + fac (c q) * i)) (prC c j (q + 1))) (fac (c q)) := by
      refine sm_congr (fun a ha => ?_)
      rw [← ih (q + 1) (fun x => F (tau (c q) a + fac (c q) * x))]
      refine sm_congr (fun i _ => ?_)
      simp only [RRn]
      rw [Nat.add_mul_mod_self_left, Nat.mod_eq_of_lt ha, Nat.add_mul_div_left _ _ (fac_pos _), Nat.div_eq_of_lt ha, Nat.zero_add]
    rw [e]
    exact tau_sum (fun a => sm (fun i => F (a + fac (c q) * i)) (prC c j (q + 1))) (hc q)
theorem RR_mod {c : Nat → Nat} (hc : ∀ q, c q < 5) (j q n : Nat) : RRn c (j + 1) q n % fac (c q) = tau (c q) (n % fac (c q)) := by
  simp only [RRn]
  rw [Nat.add_mul_mod_self_left, Nat.mod_eq_of_lt (tau_lt _ (hc q) _ (Nat.mod_lt _ (fac_pos _)))]
theorem RR_div {c : Nat → Nat} (hc : ∀ q, c q < 5) (j q n : Nat) : RRn c (j + 1) q n / fac (c q) = RRn c j (q + 1) (n / fac (c q)) := by
  simp only [RRn]
  rw [Nat.add_mul_div_left _ _ (fac_pos _), Nat.div_eq_of_lt (tau_lt _ (hc q) _ (Nat.mod_lt _ (fac_pos _))), Nat.zero_add]
theorem RR_lt {c : Nat → Nat} (hc : ∀ q, c q < 5) : ∀ (j q n : Nat), RRn c j q n < prC c j q := by
  intro j
  induction j with
  | zero => intro q n; exact Nat.one_pos
  | succ j ih =>
    intro q n
    have h1 := tau_lt _ (hc q) _ (Nat.mod_lt n (fac_pos (c q)))
    have h2 := Nat.mul_le_mul_left (fac (c q)) (Nat.succ_le_of_lt (ih (q + 1) (n / fac (c q))))
    rw [Nat.mul_succ] at h2
    simp only [RRn, prC]
    omega
theorem prC_c (g : Nat) : ∀ (j q : Nat), prC (fun _ => g) j q = fac g ^ j := by
  intro j
  induction j with
  | zero => intro q; rfl
  | succ j ih => intro q; simp only [prC]; rw [ih, Nat.pow_succ, Nat.mul_comm]
theorem prC_ord (S : Nat → Int32) (g : Nat) {p : Nat} (hp : p = 2 ∨ p = 3) : prC (clN S g) p 0 = ordN S g p := by
  have e : ∀ q, ct (fun z => decide (S (g * q + z) = -1)) g = clN S g q := fun q => rfl
  rcases hp with rfl | rfl
  · show fac (clN S g 0) * (fac (clN S g 1) * 1) = 1 * fac (clN S g 0) * fac (clN S g 1)
    rw [Nat.mul_one, Nat.one_mul]
  · show fac (clN S g 0) * (fac (clN S g 1) * (fac (clN S g 2) * 1)) = 1 * fac (clN S g 0) * fac (clN S g 1) * fac (clN S g 2)
    rw [Nat.mul_one, Nat.one_mul, Nat.mul_assoc]
theorem RR_dig {g : Nat} (hg4 : g ≤ 4) : ∀ (j q0 n q : Nat), q < j → RRn (fun _ => g) j q0 n / fac g ^ q % fac g = tau g (n / fac g ^ q % fac g) := by
  intro j
  induction j with
  | zero => intro q0 n q h; exact absurd h (Nat.not_lt_zero _)
  | succ j ih =>
    intro q0 n q h
    have hc : ∀ _ : Nat, g < 5 := fun _ => by omega
    cases q with
    | zero =>
      rw [Nat.pow_zero, Nat.div_one, Nat.div_one]
      exact RR_mod (c := fun _ => g) hc j q0 n
    | succ q =>
      have e : fac g ^ (q + 1) = fac g * fac g ^ q := by rw [Nat.pow_succ, Nat.mul_comm]
      rw [e, ← Nat.div_div_eq_div_mul, ← Nat.div_div_eq_div_mul, RR_div (c := fun _ => g) hc j q0 n]
      exact ih (q0 + 1) (n / fac g) q (by omega)
/-- the group of a team by the law's number of all orders -/
def rowA (g M t : Nat) : Nat := atN g (M / fac g ^ (t / g) % fac g) (t % g)
theorem rowA_N {g p M t : Nat} (hg : 0 < g) (hg4 : g ≤ 4) (ht : t < g * p) : rowN g (RRn (fun _ => g) p 0 M) t = rowA g M t := by
  unfold rowN rowA
  rw [RR_dig hg4 p 0 M (t / g) (pot_lt hg ht)]
  exact tau_lo g (by omega) _ (Nat.mod_lt _ (fac_pos g)) _ (Nat.mod_lt _ hg)
theorem rowA_lt {g M t : Nat} (hg : 0 < g) (hg4 : g ≤ 4) : rowA g M t < g := at_lt g (by omega) _ (Nat.mod_lt _ (fac_pos g)) _ (Nat.mod_lt _ hg)
/-- lawful, by the law's number -/
def LMb (g p : Nat) (rg bd : Nat → Nat) (ab ob : Nat → Bool) (M : Nat) : Bool := lawB (g * p) rg bd ab ob (fun _ => -1) (rowA g M)
def potA (g : Nat) (S : Nat → Int32) (q o : Nat) : Bool := allB (fun i => decide (S (g * q + i) = -1) || decide (S (g * q + i) = nI (atN g o i))) g
theorem allB_split (P : Nat → Bool) (a b : Nat) : allB P (a + b) = (allB P a && allB (fun i => P (a + i)) b) := by
  induction b with
  | zero => simp [allB]
  | succ b ih => rw [← Nat.add_assoc]; simp only [allB]; rw [ih, Bool.and_assoc]
theorem allB_mul (P : Nat → Bool) (g : Nat) : ∀ p, allB P (g * p) = allB (fun q => allB (fun i => P (g * q + i)) g) p := by
  intro p
  induction p with
  | zero => rfl
  | succ p ih => rw [Nat.mul_succ, allB_split, ih]; rfl
theorem consR_A {g p M : Nat} (S : Nat → Int32) (hg : 0 < g) : consR (g * p) S (rowA g M) = allB (fun q => potA g S q (M / fac g ^ q % fac g)) p := by
  unfold consR
  rw [allB_mul]
  refine allB_congr (fun q _ => allB_congr (fun i hi => ?_))
  have e1 : (g * q + i) / g = q := by rw [Nat.mul_add_div hg, Nat.div_eq_of_lt hi, Nat.add_zero]
  have e2 : (g * q + i) % g = i := by rw [Nat.mul_add_mod, Nat.mod_eq_of_lt hi]
  unfold rowA
  rw [e1, e2]
/-- how many results there are with these orders of the pots -/
def cntN (g p : Nat) (L : Nat → Bool) (A : Nat → Nat → Bool) : Nat := ct (fun M => L M && allB (fun q => A q (M / fac g ^ q % fac g)) p) (fac g ^ p)
def potT (g : Nat) (S : Nat → Int32) (t k q o : Nat) : Bool := potA g S q o && (!(decide (q = t / g)) || decide (atN g o (t % g) = k))
theorem RS_A {g p : Nat} {rg bd : Nat → Nat} {ab ob : Nat → Bool} {S : Nat → Int32} (hg : 0 < g) (hg4 : g ≤ 4) (w : Nat → Nat) (P : Nat → Bool)
    (hw : ∀ m, w (cdN g (RRn (fun _ => g) p 0 m) (g * p)) = (P m).toNat) : RS g p rg bd ab ob S w = ct (fun M => (LMb g p rg bd ab ob M && consR (g * p) S (rowA g M)) && P M) (fac g ^ p) := by
  unfold RS ct
  have h1 := RR_sum (c := fun _ => g) (fun _ => by omega) p 0 (fun m => if lawB (g * p) rg bd ab ob S (rowN g m) then w (cdN g m (g * p)) else 0)
  rw [prC_c] at h1
  rw [← h1]
  refine sm_congr (fun M _ => ?_)
  have e1 : lawB (g * p) rg bd ab ob S (rowN g (RRn (fun _ => g) p 0 M)) = lawB (g * p) rg bd ab ob S (rowA g M) := lawB_congr (fun t ht => rowA_N hg hg4 ht)
  simp only [e1, hw, lawB_split (g * p) rg bd ab ob S (rowA g M)]
  show _ = ((lawB (g * p) rg bd ab ob (fun _ => -1) (rowA g M) && consR (g * p) S (rowA g M)) && P M).toNat
  cases (lawB (g * p) rg bd ab ob (fun _ => -1) (rowA g M) && consR (g * p) S (rowA g M)) <;> cases P M <;> rfl
theorem rsA {g p : Nat} {rg bd : Nat → Nat} {ab ob : Nat → Bool} {S : Nat → Int32} (hg : 0 < g) (hg4 : g ≤ 4) : rsN g p rg bd ab ob S = cntN g p (LMb g p rg bd ab ob) (potA g S) := by
  unfold rsN
  rw [RS_A hg hg4 (fun _ => 1) (fun _ => true) (fun _ => rfl)]
  exact ct_congr (fun M _ => by rw [consR_A S hg, Bool.and_true])
theorem allB_1 (P Q : Nat → Bool) {p k : Nat} (hk : k < p) : allB (fun q => P q && (!(decide (q = k)) || Q q)) p = (allB P p && Q k) := by
  have key : ∀ n, allB (fun q => P q && (!(decide (q = k)) || Q q)) n = (allB P n && (decide (n ≤ k) || Q k)) := by
    intro n
    induction n with
    | zero => simp [allB]
    | succ n ih =>
      simp only [allB, ih]
      by_cases e : n = k
      · subst e
        simp only [Nat.le_refl, decide_true, Bool.true_or, Bool.and_true, Bool.not_true, Bool.false_or, show ¬ n + 1 ≤ n by omega, decide_false]
        cases allB P n <;> cases P n <;> rfl
      · simp only [e, decide_false, Bool.not_false, Bool.true_or, Bool.and_true]
        by_cases h : n ≤ k
        · have h2 : n + 1 ≤ k := by omega
          simp only [h, h2, decide_true, Bool.true_or, Bool.and_true]
        · have h2 : ¬ n + 1 ≤ k := by omega
          simp only [h, h2, decide_false, Bool.false_or]
          cases allB P n <;> cases P n <;> cases Q k <;> rfl
  rw [key p]
  simp [show ¬ p ≤ k by omega]
theorem evA {g p : Nat} {rg bd : Nat → Nat} {ab ob : Nat → Bool} {S : Nat → Int32} (hg : 0 < g) (hg4 : g ≤ 4) {t k : Nat} (ht : t < g * p) : evN g p rg bd ab ob S t k = cntN g p (LMb g p rg bd ab ob) (potT g S t k) := by
  unfold evN
  rw [RS_A hg hg4 _ (fun M => decide (rowA g M t = k)) (fun m => by rw [gr_cdN hg hg4 ht, rowA_N hg hg4 ht])]
  refine ct_congr (fun M _ => ?_)
  rw [consR_A S hg, Bool.and_assoc]
  have e := allB_1 (fun q => potA g S q (M / fac g ^ q % fac g)) (fun q => decide (atN g (M / fac g ^ q % fac g) (t % g) = k)) (pot_lt hg ht)
  show (LMb g p rg bd ab ob M && (allB (fun q => potA g S q (M / fac g ^ q % fac g)) p && decide (rowA g M t = k))) = _
  rw [show decide (rowA g M t = k) = decide (atN g (M / fac g ^ (t / g) % fac g) (t % g) = k) from rfl, ← e]
  rfl
/-- the same as the law counts it -/
def cntJ (g p : Nat) (L : Nat → Bool) (A : Nat → Nat → Bool) : Nat :=
  sm (fun k => if A 0 (k % fac g) && (decide (p = 2) || A 1 (k / fac g)) then ct (fun o => L (k + fac g ^ (p - 1) * o) && A (p - 1) o) (fac g) else 0) (fac g ^ (p - 1))
theorem cntJ_N {g p : Nat} (L : Nat → Bool) (A : Nat → Nat → Bool) (hp : p = 2 ∨ p = 3) : cntJ g p L A = cntN g p L A := by
  have hf := fac_pos g
  unfold cntJ cntN
  rcases hp with rfl | rfl
  · rw [show (2 : Nat) - 1 = 1 from rfl, Nat.pow_one, show fac g ^ 2 = fac g * fac g by rw [Nat.pow_succ, Nat.pow_one]]
    unfold ct
    rw [sm_mul]
    refine sm_congr (fun k hk => ?_)
    simp only [decide_true, Bool.true_or, Bool.and_true]
    have h2 : ∀ o, o < fac g → (L (k + fac g * o) && allB (fun q => A q ((k + fac g * o) / fac g ^ q % fac g)) 2).toNat = if A 0 (k % fac g) then (L (k + fac g * o) && A 1 o).toNat else 0 := by
      intro o ho
      simp only [allB, Nat.pow_zero, Nat.div_one, Nat.pow_one, Bool.true_and]
      rw [Nat.add_mul_mod_self_left, Nat.add_mul_div_left _ _ hf, Nat.div_eq_of_lt hk, Nat.zero_add, Nat.mod_eq_of_lt ho]
      cases A 0 (k % fac g) <;> cases L (k + fac g * o) <;> cases A 1 o <;> rfl
    rw [sm_congr h2]
    cases A 0 (k % fac g)
    · exact (sm_zero (fun _ _ => rfl)).symm
    · rfl
  · rw [show (3 : Nat) - 1 = 2 from rfl, show fac g ^ 3 = fac g ^ 2 * fac g from Nat.pow_succ _ _, show fac g ^ 2 = fac g * fac g by rw [Nat.pow_succ, Nat.pow_one]]
    unfold ct
    rw [sm_mul _ (fac g * fac g) (fac g)]
    refine sm_congr (fun k hk => ?_)
    have hk2 : k / fac g < fac g := Nat.div_lt_of_lt_mul hk
    simp only [show ¬ (3 : Nat) = 2 by decide, decide_false, Bool.false_or]
    have h2 : ∀ o, o < fac g → (L (k + fac g * fac g * o) && allB (fun q => A q ((k + fac g * fac g * o) / fac g ^ q % fac g)) 3).toNat = if A 0 (k % fac g) && A 1 (k / fac g) then (L (k + fac g * fac g * o) && A 2 o).toNat else 0 := by
      intro o ho
      have e1 : (k + fac g * fac g * o) % fac g = k % fac g := by rw [Nat.mul_assoc, Nat.add_mul_mod_self_left]
      have e2 : (k + fac g * fac g * o) / fac g = k / fac g + fac g * o := by rw [Nat.mul_assoc, Nat.add_mul_div_left _ _ hf]
      have e3 : (k + fac g * fac g * o) / fac g ^ 2 = o := by
        rw [show fac g ^ 2 = fac g * fac g by rw [Nat.pow_succ, Nat.pow_one], Nat.add_mul_div_left _ _ (Nat.mul_pos hf hf), Nat.div_eq_of_lt hk, Nat.zero_add]
      simp only [allB, Nat.pow_zero, Nat.div_one, Nat.pow_one, Bool.true_and]
      rw [e1, e2, e3, Nat.add_mul_mod_self_left, Nat.mod_eq_of_lt hk2, Nat.mod_eq_of_lt ho]
      cases A 0 (k % fac g) <;> cases A 1 (k / fac g) <;> cases L (k + fac g * fac g * o) <;> cases A 2 o <;> rfl
    rw [sm_congr h2]
    cases (A 0 (k % fac g) && A 1 (k / fac g))
    · exact (sm_zero (fun _ _ => rfl)).symm
    · rfl
