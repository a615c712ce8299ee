/-! own rows: numbers, places, rows of balls -/
def inB (x a b : Int32) : Bool := decide (a ≤ x) && decide (x ≤ b)
theorem inB_t {x a b : Int32} (h1 : ¬ x < a) (h2 : ¬ b < x) : nI 1 = bI (inB x a b) := by
  have h3 : a ≤ x := Int32.not_lt.mp h1
  have h4 : x ≤ b := Int32.not_lt.mp h2
  simp [inB, bI, h3, h4]
theorem inB_f1 {x a b : Int32} (h1 : x < a) : nI 0 = bI (inB x a b) := by
  have h3 : ¬ a ≤ x := Int32.not_le.mpr h1
  simp [inB, bI, h3]
theorem inB_f2 {x a b : Int32} (h1 : b < x) : nI 0 = bI (inB x a b) := by
  have h3 : ¬ x ≤ b := Int32.not_le.mpr h1
  simp [inB, bI, h3]
theorem inB_nat {x : Int32} {lo hi : Nat} (hb : lo < 2 ^ 31 ∧ hi < 2 ^ 31) (h : inB x (nI lo) (nI hi) = true) : ∃ k, lo ≤ k ∧ k ≤ hi ∧ x = nI k := by
  simp only [inB, Bool.and_eq_true, decide_eq_true_eq] at h
  obtain ⟨h1, h2⟩ := h
  rw [Int32.le_iff_toInt_le, nI_toInt hb.1] at h1
  rw [Int32.le_iff_toInt_le, nI_toInt hb.2] at h2
  refine ⟨x.toInt.toNat, by omega, by omega, ?_⟩
  apply Int32.toInt_inj.mp
  rw [nI_toInt (by omega)]
  omega
theorem inB_of {k lo hi : Nat} (h1 : lo ≤ k) (h2 : k ≤ hi) (hb : hi < 2 ^ 31) : inB (nI k) (nI lo) (nI hi) = true := by
  have h3 : nI lo ≤ nI k := nI_le h1 (by omega)
  have h4 : nI k ≤ nI hi := nI_le h2 (by omega)
  simp [inB, h3, h4]
theorem inB_lt {x : Int32} {n : Nat} (h0 : 0 < n) (hn : n < 2 ^ 31) : inB x (nI 0) (nI (n - 1)) = (decide (nI 0 ≤ x) && decide (x < nI n)) := by
  unfold inB
  congr 1
  apply decide_eq_decide.mpr
  rw [Int32.le_iff_toInt_le, Int32.lt_iff_toInt_lt, nI_toInt (by omega), nI_toInt hn]
  omega
def fac : Nat → Nat
  | 0 => 1
  | n + 1 => (n + 1) * fac n
theorem fac_step {k : Nat} (h : 2 ≤ k) : fac (k - 1) * k = fac (k + 1 - 1) := by
  obtain ⟨j, rfl⟩ : ∃ j, k = j + 1 := ⟨k - 1, by omega⟩
  simp only [Nat.add_sub_cancel, fac]
  exact Nat.mul_comm _ _
theorem fac_end {n k x : Nat} (hk : 2 ≤ k ∧ (k ≤ n + 1 ∨ k = 2)) (c : n < k) (hx : x = fac (k - 1)) : x = fac n := by
  rw [hx]
  rcases hk.2 with q | q
  · rw [show k - 1 = n by omega]
  · rw [q]
    rcases (show n = 0 ∨ n = 1 by omega) with rfl | rfl <;> rfl
def tLay (x y : Int32) : Nat := if inB x (nI 2) (nI 4) && inB y (nI 2) (nI 3) && !(decide (x = nI 4) && decide (y = nI 3)) then 0 else 1
theorem tLay_1 {x y : Int32} (h : inB x (nI 2) (nI 4) = false) : tLay x y = 1 := by simp [tLay, h]
theorem tLay_2 {x y : Int32} (h : inB y (nI 2) (nI 3) = false) : tLay x y = 1 := by simp [tLay, h]
theorem tLay_3 {x y : Int32} (h1 : x = nI 4) (h2 : y = nI 3) : tLay x y = 1 := by simp [tLay, h1, h2]
theorem tLay_0 {x y : Int32} (h1 : inB x (nI 2) (nI 4) = true) (h2 : inB y (nI 2) (nI 3) = true) (h3 : ¬ x = nI 4 ∨ ¬ y = nI 3) : tLay x y = 0 := by
  rcases h3 with h3 | h3 <;> simp [tLay, h1, h2, h3]
def layPost (x y : Int32) (th2 g2 p2 dm2 : Nat) (rg2 bd2 : Nat → Nat) (ab2 ob2 : Nat → Bool) (S2 : Nat → Int32) (r : Int32) (g p dm : Nat) (rg bd : Nat → Nat) (ab ob : Nat → Bool) (S : Nat → Int32) : Prop :=
  th2 = tLay x y ∧ (tLay x y = 0 → r = nI (g2 * p2) ∧ x = nI g2 ∧ y = nI p2 ∧ dm2 = 0 ∧ rg2 = (fun _ => 0) ∧ bd2 = (fun _ => 3) ∧ ab2 = (fun _ => false) ∧ ob2 = (fun _ => false) ∧ S2 = (fun _ => -1)) ∧
  (tLay x y ≠ 0 → g2 = g ∧ p2 = p ∧ dm2 = dm ∧ rg2 = rg ∧ bd2 = bd ∧ ab2 = ab ∧ ob2 = ob ∧ S2 = S)
theorem layPost_no {x y : Int32} {r : Int32} {g p dm : Nat} {rg bd : Nat → Nat} {ab ob : Nat → Bool} {S : Nat → Int32} (h : tLay x y = 1) : layPost x y 1 g p dm rg bd ab ob S r g p dm rg bd ab ob S :=
  ⟨h.symm, fun q => (by rw [h] at q; cases q), fun _ => ⟨rfl, rfl, rfl, rfl, rfl, rfl, rfl, rfl⟩⟩
theorem layPost_ok {x y : Int32} {g2 p2 g p dm : Nat} {rg bd : Nat → Nat} {ab ob : Nat → Bool} {S : Nat → Int32} (h : tLay x y = 0) (hx : x = nI g2) (hy : y = nI p2) : layPost x y 0 g2 p2 0 (fun _ => 0) (fun _ => 3) (fun _ => false) (fun _ => false) (fun _ => -1) (nI (g2 * p2)) g p dm rg bd ab ob S :=
  ⟨h.symm, fun _ => ⟨rfl, hx, hy, rfl, rfl, rfl, rfl, rfl, rfl⟩, fun q => absurd h q⟩
def tSR (x y : Int32) (T dm : Nat) : Nat := if inB x (nI 0) (nI (T - 1)) && inB y (nI 0) (nI 5) then (if 0 < dm then 2 else 0) else 1
def srPost (x y : Int32) (T dm th2 : Nat) (rg2 rg : Nat → Nat) (r : Int32) : Prop :=
  th2 = tSR x y T dm ∧ (th2 = 0 → ∃ t v, t < T ∧ v ≤ 5 ∧ x = nI t ∧ y = nI v ∧ r = nI (rg t) ∧ rg2 = updN rg t v) ∧ (th2 ≠ 0 → rg2 = rg)
theorem srPost_1 {x y : Int32} {T dm : Nat} {rg : Nat → Nat} {r : Int32} (h : inB x (nI 0) (nI (T - 1)) = false ∨ inB y (nI 0) (nI 5) = false) : srPost x y T dm 1 rg rg r :=
  ⟨by rcases h with h | h <;> simp [tSR, h], fun q => absurd q (by decide), fun _ => rfl⟩
theorem srPost_2 {x y : Int32} {T dm : Nat} {rg : Nat → Nat} {r : Int32} (h1 : inB x (nI 0) (nI (T - 1)) = true) (h2 : inB y (nI 0) (nI 5) = true) (h3 : 0 < dm) : srPost x y T dm 2 rg rg r :=
  ⟨by simp [tSR, h1, h2, h3], fun q => absurd q (by decide), fun _ => rfl⟩
theorem srPost_0 {x y : Int32} {T dm t v : Nat} {rg : Nat → Nat} (h1 : inB x (nI 0) (nI (T - 1)) = true) (h2 : inB y (nI 0) (nI 5) = true) (h3 : dm = 0) (ht : t ≤ T - 1) (hT : 0 < T) (hv : v ≤ 5) (hx : x = nI t) (hy : y = nI v) : srPost x y T dm 0 (updN rg t v) rg (nI (rg t)) :=
  ⟨by simp [tSR, h1, h2, h3], fun _ => ⟨t, v, by omega, hv, hx, hy, rfl, rfl⟩, fun q => absurd rfl q⟩
def tSB (x y : Int32) (dm : Nat) : Nat := if inB x (nI 0) (nI 5) then (if inB y (nI 1) (nI 3) then (if 0 < dm then 3 else 0) else 2) else 1
def sbPost (x y : Int32) (dm th2 : Nat) (bd2 bd : Nat → Nat) (r : Int32) : Prop :=
  th2 = tSB x y dm ∧ (th2 = 0 → ∃ t v, t ≤ 5 ∧ 1 ≤ v ∧ v ≤ 3 ∧ x = nI t ∧ y = nI v ∧ r = nI (bd t) ∧ bd2 = updN bd t v) ∧ (th2 ≠ 0 → bd2 = bd)
theorem sbPost_n {x y : Int32} {dm k : Nat} {bd : Nat → Nat} {r : Int32} (h : k = tSB x y dm) (h0 : k ≠ 0) : sbPost x y dm k bd bd r := ⟨h, fun q => absurd q h0, fun _ => rfl⟩
theorem sbPost_0 {x y : Int32} {dm t v : Nat} {bd : Nat → Nat} (h1 : inB x (nI 0) (nI 5) = true) (h2 : inB y (nI 1) (nI 3) = true) (h3 : dm = 0) (ht : t ≤ 5) (hv1 : 1 ≤ v) (hv : v ≤ 3) (hx : x = nI t) (hy : y = nI v) : sbPost x y dm 0 (updN bd t v) bd (nI (bd t)) :=
  ⟨by simp [tSB, h1, h2, h3], fun _ => ⟨t, v, ht, hv1, hv, hx, hy, rfl, rfl⟩, fun q => absurd rfl q⟩
def tCP (x y : Int32) (T dm : Nat) : Nat := if inB x (nI 0) (nI (T - 1)) && inB y (nI 0) (nI (T - 1)) then (if x = y then 2 else if 0 < dm then 3 else 0) else 1
def cpPost (x y : Int32) (T dm th2 : Nat) (r : Int32) : Prop := th2 = tCP x y T dm ∧ r = bI (decide (th2 = 0))
def saPost (x y : Int32) (b : Bool) (T dm th2 : Nat) (ab2 ab : Nat → Bool) (r : Int32) : Prop :=
  th2 = tCP x y T dm ∧ (th2 = 0 → ∃ t o, t < T ∧ o < T ∧ t ≠ o ∧ dm = 0 ∧ x = nI t ∧ y = nI o ∧ r = bI (ab (9 * t + o)) ∧ ab2 = updB (updB ab (9 * t + o) b) (9 * o + t) b) ∧ (th2 ≠ 0 → ab2 = ab)
theorem tCP_ok {x y : Int32} {T dm : Nat} (hT : 0 < T) (hT9 : T ≤ 9) (h : tCP x y T dm = 0) : ∃ t o, t ≤ T - 1 ∧ o ≤ T - 1 ∧ t ≠ o ∧ dm = 0 ∧ x = nI t ∧ y = nI o := by
  unfold tCP at h
  by_cases h1 : (inB x (nI 0) (nI (T - 1)) && inB y (nI 0) (nI (T - 1))) = true
  · rw [if_pos h1] at h
    rw [Bool.and_eq_true] at h1
    obtain ⟨t, -, ht, hx⟩ := inB_nat (by omega) h1.1
    obtain ⟨o, -, ho, hy⟩ := inB_nat (by omega) h1.2
    by_cases h2 : x = y
    · rw [if_pos h2] at h; cases h
    · rw [if_neg h2] at h
      by_cases h3 : 0 < dm
      · rw [if_pos h3] at h; cases h
      · exact ⟨t, o, ht, ho, fun q => h2 (by rw [hx, hy, q]), by omega, hx, hy⟩
  · rw [if_neg h1] at h; cases h
def poR (dm g p : Nat) : Int32 := if dm = g * p then -1 else nI (dm / g)
def leN (dm g p : Nat) : Nat := if dm = g * p then 0 else g - dm % g
theorem poR_1 {dm g p : Nat} (h : dm = g * p) : -1 = poR dm g p := by simp [poR, h]
theorem poR_2 {dm g p : Nat} (h : ¬ dm = g * p) : nI (dm / g) = poR dm g p := by simp [poR, h]
theorem leN_1 {dm g p : Nat} (h : dm = g * p) : nI 0 = nI (leN dm g p) := by simp [leN, h]
theorem leN_2 {dm g p : Nat} (h : ¬ dm = g * p) : nI (g - dm % g) = nI (leN dm g p) := by simp [leN, h]
theorem leN_le (dm g p : Nat) : leN dm g p ≤ g := by
  unfold leN
  by_cases h : dm = g * p
  · rw [if_pos h]; omega
  · rw [if_neg h]; omega
theorem leN_pos {dm g p : Nat} (h : 0 < leN dm g p) : ¬ dm = g * p := fun q => by simp [leN, q] at h
/-- the k-th place from t on with S = -1 -/
def nth (S : Nat → Int32) : Nat → Nat → Nat → Int32
  | 0, _, _ => -1
  | f + 1, t, l => if S t = -1 then (if l = 0 then nI t else nth S f (t + 1) (l - 1)) else nth S f (t + 1) l
def fndR (S : Nat → Int32) (v : Int32) : Nat → Nat → Int32
  | 0, _ => -1
  | f + 1, t => if S t = v then nI t else fndR S v f (t + 1)
def lowR (c : Nat → Nat) : Nat → Nat → Int32
  | 0, _ => -1
  | f + 1, q => if 0 < c q then nI q else lowR c f (q + 1)
/-- 'in(k, 0, L - 1)' of a number L that may be 0 -/
theorem inB_L {x : Int32} {n : Nat} (hn : n < 2 ^ 30) (h : inB x (nI 0) (nI n - nI 1) = true) : ∃ k, k < n ∧ x = nI k := by
  simp only [inB, Bool.and_eq_true, decide_eq_true_eq] at h
  obtain ⟨h1, h2⟩ := h
  rw [Int32.le_iff_toInt_le, nI_toInt (by omega)] at h1
  rw [Int32.le_iff_toInt_le, pk_sub_toInt hn (by omega)] at h2
  refine ⟨x.toInt.toNat, by omega, ?_⟩
  apply Int32.toInt_inj.mp
  rw [nI_toInt (by omega)]
  omega
theorem inB_Lt {x : Int32} {n : Nat} (hn : n < 2 ^ 30) : inB x (nI 0) (nI n - nI 1) = (decide (nI 0 ≤ x) && decide (x < nI n)) := by
  unfold inB
  congr 1
  apply decide_eq_decide.mpr
  rw [Int32.le_iff_toInt_le, Int32.lt_iff_toInt_lt, pk_sub_toInt hn (by omega), nI_toInt (by omega)]
  omega
def udPost (dm th2 dm2 : Nat) (S2 S : Nat → Int32) (dt : Nat → Nat) (r : Int32) : Prop :=
  (dm = 0 → th2 = 1 ∧ dm2 = 0 ∧ S2 = S) ∧ (dm ≠ 0 → th2 = 0 ∧ dm2 = dm - 1 ∧ S2 = upd S (dt (dm - 1)) (-1) ∧ r = nI (dt (dm - 1)))
def baPost (x : Int32) (L th2 : Nat) (r : Int32) (S : Nat → Int32) (g dm : Nat) : Prop :=
  th2 = (if inB x (nI 0) (nI L - nI 1) then 0 else 1) ∧ (th2 = 0 → ∃ k, k < L ∧ x = nI k ∧ r = nth S g (g * (dm / g)) k)
def goPost (x : Int32) (T th2 : Nat) (r : Int32) (S : Nat → Int32) : Prop :=
  th2 = (if inB x (nI 0) (nI (T - 1)) then 0 else 1) ∧ (th2 = 0 → ∃ t, t < T ∧ x = nI t ∧ r = S t)
def taPost (x y : Int32) (g p th2 : Nat) (r : Int32) (S : Nat → Int32) : Prop :=
  th2 = (if inB x (nI 0) (nI (g - 1)) && inB y (nI 0) (nI (p - 1)) then 0 else 1) ∧ (th2 = 0 → ∃ k q, k < g ∧ q < p ∧ x = nI k ∧ y = nI q ∧ r = fndR S x g (g * q))
def plPost (x y : Int32) (T g th2 : Nat) (r : Int32) : Prop := th2 = (if inB x (nI 0) (nI (T - 1)) && inB y (nI 0) (nI (g - 1)) then 0 else 1) ∧ r = bI (decide (th2 = 0))
def ordN (S : Nat → Int32) (g : Nat) : Nat → Nat
  | 0 => 1
  | p + 1 => ordN S g p * fac (ct (fun z => decide (S (g * p + z) = -1)) g)
theorem rem2 {a : Nat} (h : a < 2 ^ 31) : nI a - nI a / nI 2 * nI 2 = nI (a % 2) := pk_rem h (by decide) (by decide)
theorem potb {dm g p : Nat} (hg : 0 < g) (hd : dm ≤ g * p) (h : ¬ dm = g * p) (hT : g * p ≤ 9) : g * (dm / g + 1) ≤ 9 := by
  have h1 : dm / g < p := (Nat.div_lt_iff_lt_mul hg).mpr (by rw [Nat.mul_comm]; omega)
  exact Nat.le_trans (Nat.mul_le_mul_left g h1) hT
