/-! own rows: numbers -/
theorem q_and (a b : Nat) : nI a &&& nI b = nI (a &&& b) := by
  apply Int32.toBitVec_inj.1
  show BitVec.ofNat 32 a &&& BitVec.ofNat 32 b = BitVec.ofNat 32 (a &&& b)
  apply BitVec.eq_of_getLsbD_eq
  intro i hi
  simp [hi]
theorem q_or (a b : Nat) : nI a ||| nI b = nI (a ||| b) := by
  apply Int32.toBitVec_inj.1
  show BitVec.ofNat 32 a ||| BitVec.ofNat 32 b = BitVec.ofNat 32 (a ||| b)
  apply BitVec.eq_of_getLsbD_eq
  intro i hi
  simp [hi]
theorem q_sl : ∀ n, n < 32 → ((nI n &&& 31).toBitVec.smod 32).toNat = n := by decide +kernel
def gr (r t : Nat) : Nat := r / 4 ^ t % 4
def sm (h : Nat → Nat) : Nat → Nat
  | 0 => 0
  | n + 1 => sm h n + h n
def bI (b : Bool) : Int32 := if b then nI 1 else nI 0
def updN (f : Nat → Nat) (k x : Nat) : Nat → Nat := fun j => if j = k then x else f j
def updB (f : Nat → Bool) (k : Nat) (x : Bool) : Nat → Bool := fun j => if j = k then x else f j
theorem m_upd (f : Nat → Nat) (k x : Nat) : upd (fun j => nI (f j)) k (nI x) = fun j => nI (updN f k x j) := by
  funext j
  by_cases h : j = k <;> simp [upd, updN, h]
theorem m_narB (b : Bool) : vp_nar .boolean (bI b) = bI b := by cases b <;> decide +kernel
theorem m_updB (f : Nat → Bool) (k : Nat) (b : Bool) : upd (fun j => bI (f j)) k (vp_nar .boolean (bI b)) = fun j => bI (updB f k b j) := by
  rw [m_narB]
  funext j
  by_cases h : j = k <;> simp [upd, updB, h]
theorem m_updB1 (f : Nat → Bool) (k : Nat) : upd (fun j => bI (f j)) k (vp_nar .boolean (nI 1)) = fun j => bI (updB f k true j) := m_updB f k true
theorem m_updB0 (f : Nat → Bool) (k : Nat) : upd (fun j => bI (f j)) k (vp_nar .boolean (nI 0)) = fun j => bI (updB f k false j) := m_updB f k false
theorem m_narb (b : Bool) : narrow .boolean (.int (bI b)) = .int (bI b) := by cases b <;> decide +kernel
theorem m_bz0 {b : Bool} (h : bI b = 0) : b = false := by
  cases b with
  | false => rfl
  | true => exact absurd h (by decide)
theorem m_bz1 {b : Bool} (h : ¬ bI b = 0) : b = true := by
  cases b with
  | true => rfl
  | false => exact absurd rfl h
theorem m_z {a : Nat} (h : a < 2 ^ 31) : nI a = 0 ↔ a = 0 := nI_eq (b := 0) h (by decide)
theorem m_dec {a : Nat} (h : 0 < a) : nI a + Int32.ofInt (-1) = nI (a - 1) := by
  obtain ⟨b, rfl⟩ : ∃ b, a = b + 1 := ⟨a - 1, by omega⟩
  exact pk_m1 b
theorem m_pos_gt_t {a : Nat} (h : a < 2 ^ 31) (c : 0 < nI a) : 0 < a := (nI_ltI (a := 0) (by decide) h).mp c
theorem m_nps_gt_f {a : Nat} (h : a < 2 ^ 31) (c : ¬ 0 < nI a) : a = 0 := by
  have : ¬ 0 < a := fun q => c ((nI_ltI (a := 0) (by decide) h).mpr q)
  omega
theorem m_nps_le_t {a : Nat} (h : a < 2 ^ 31) (c : nI a ≤ 0) : a = 0 := by
  have : a ≤ 0 := (nI_leI (b := 0) h (by decide)).mp c
  omega
theorem m_pos_le_f {a : Nat} (h : a < 2 ^ 31) (c : ¬ nI a ≤ 0) : 0 < a := by
  have : ¬ a ≤ 0 := fun q => c ((nI_leI (b := 0) h (by decide)).mpr q)
  omega
theorem m_shr4 {r t : Nat} (hr : r < 2 ^ 31) (ht : t < 16) : nI r >>> (nI (2 * t) &&& 31) = nI (r / 4 ^ t) := by
  rw [pk_shrN hr _ (2 * t) (q_sl _ (by omega)), Nat.pow_mul]
theorem m_and3 (x : Nat) : nI x &&& nI 3 = nI (x % 4) := by
  rw [q_and]
  exact congrArg nI (Nat.and_two_pow_sub_one_eq_mod x 2)
theorem q_pow4 {t : Nat} (ht : t ≤ 9) : 4 ^ t ≤ 262144 := Nat.le_trans (Nat.pow_le_pow_right (by decide) ht) (by decide)
theorem m_sh4 {g t : Nat} (hg : g < 4) (ht : t < 9) : nI g <<< (nI (2 * t) &&& 31) = nI (g * 4 ^ t) := by
  have h4 : 4 ^ t ≤ 262144 := q_pow4 (by omega)
  have h5 : g * 4 ^ t ≤ 4 * 262144 := Nat.mul_le_mul (by omega) h4
  have e : (2 : Nat) ^ (2 * t) = 4 ^ t := by rw [Nat.pow_mul]
  rw [pk_shlN _ (2 * t) (q_sl _ (by omega)) (by rw [e]; omega), e]
theorem m_oradd {r g t : Nat} (hr : r < 4 ^ t) : nI r ||| nI (g * 4 ^ t) = nI (r + g * 4 ^ t) := by
  have e : (4 : Nat) ^ t = 2 ^ (2 * t) := by rw [Nat.pow_mul]
  rw [q_or, e, Nat.or_comm, Nat.mul_comm, ← Nat.two_pow_add_eq_or_of_lt (by rw [← e]; exact hr)]
  exact congrArg nI (by omega)
theorem m_bit {t : Nat} (ht : t < 31) : nI 1 <<< (nI t &&& 31) = nI (2 ^ t) := by
  have h : (2 : Nat) ^ t < 2 ^ 31 := Nat.pow_lt_pow_right (by decide) ht
  rw [pk_shlN _ t (q_sl _ (by omega)) (by omega), Nat.one_mul]
theorem gr_lt (r t : Nat) : gr r t < 4 := Nat.mod_lt _ (by decide)
theorem sm_congr {h k : Nat → Nat} {n : Nat} (e : ∀ i, i < n → h i = k i) : sm h n = sm k n := by
  induction n with
  | zero => rfl
  | succ n ih => simp only [sm]; rw [ih (fun i hi => e i (by omega)), e n (by omega)]
theorem sm_zero {h : Nat → Nat} {n : Nat} (e : ∀ i, i < n → h i = 0) : sm h n = 0 := by
  induction n with
  | zero => rfl
  | succ n ih => simp only [sm]; rw [ih (fun i hi => e i (by omega)), e n (by omega)]
theorem sm_add (h k : Nat → Nat) (n : Nat) : sm (fun i => h i + k i) n = sm h n + sm k n := by
  induction n with
  | zero => rfl
  | succ n ih => simp only [sm, ih]; omega
theorem sm_le_n {h : Nat → Nat} {n : Nat} (e : ∀ i, i < n → h i ≤ 1) : sm h n ≤ n := by
  induction n with
  | zero => exact Nat.le_refl _
  | succ n ih =>
    have h1 := ih (fun i hi => e i (by omega))
    have h2 := e n (by omega)
    simp only [sm]; omega
/-- how many of the first n places have P -/
def ct (P : Nat → Bool) (n : Nat) : Nat := sm (fun i => (P i).toNat) n
theorem ct_s (P : Nat → Bool) (n : Nat) : ct P (n + 1) = ct P n + (P n).toNat := rfl
theorem ct_le (P : Nat → Bool) (n : Nat) : ct P n ≤ n := sm_le_n (fun i _ => by cases P i <;> decide)
theorem ct_t {P : Nat → Bool} {n : Nat} (h : P n = true) : ct P (n + 1) = ct P n + 1 := by rw [ct_s, h]; rfl
theorem ct_f {P : Nat → Bool} {n : Nat} (h : P n = false) : ct P (n + 1) = ct P n := by rw [ct_s, h]; rfl
theorem ct_0 (P : Nat → Bool) : ct P 0 = 0 := rfl
/-- swapping two places keeps every sum over a longer row -/
theorem sm_upd (w : Nat → Nat) (f : Nat → Nat) (k x n : Nat) : sm (fun i => w (updN f k x i)) n + (if k < n then w (f k) else 0) = sm (fun i => w (f i)) n + (if k < n then w x else 0) := by
  induction n with
  | zero => simp [sm]
  | succ n ih =>
    simp only [sm]
    by_cases h : k = n
    · subst h
      have e : sm (fun i => w (updN f k x i)) k = sm (fun i => w (f i)) k := sm_congr (fun i hi => by simp [updN, show ¬ i = k by omega])
      rw [e]
      simp [updN]
      omega
    · have e : updN f k x n = f n := by simp [updN, show ¬ n = k by omega]
      rw [e]
      by_cases h2 : k < n
      · rw [if_pos h2] at ih; rw [if_pos h2] at ih; rw [if_pos (by omega), if_pos (by omega)]; omega
      · rw [if_neg h2] at ih; rw [if_neg h2] at ih; rw [if_neg (by omega), if_neg (by omega)]; omega
/-- the first n places, by what every weight sums to -/
def sameR (f g : Nat → Nat) (n : Nat) : Prop := ∀ w : Nat → Nat, sm (fun i => w (f i)) n = sm (fun i => w (g i)) n
theorem sameR.refl (f : Nat → Nat) (n : Nat) : sameR f f n := fun _ => rfl
theorem sameR.trans {f g h : Nat → Nat} {n : Nat} (a : sameR f g n) (b : sameR g h n) : sameR f h n := fun w => (a w).trans (b w)
theorem sameR_swap (f : Nat → Nat) (i k n : Nat) (hi : i < n) (hk : k < n) : sameR (updN (updN f i (f k)) k (f i)) f n := by
  intro w
  have h1 := sm_upd w (updN f i (f k)) k (f i) n
  have h2 := sm_upd w f i (f k) n
  rw [if_pos hk, if_pos hk] at h1
  rw [if_pos hi, if_pos hi] at h2
  by_cases e : k = i
  · subst e
    simp [updN] at h1 h2 ⊢
    omega
  · have e2 : updN f i (f k) k = f k := by simp [updN, e]
    rw [e2] at h1
    omega
theorem sm_le_upd {f : Nat → Nat} {k x n : Nat} (h : n ≤ k) (w : Nat → Nat) : sm (fun i => w (updN f k x i)) n = sm (fun i => w (f i)) n := sm_congr (fun i hi => by simp [updN, show ¬ i = k by omega])
theorem updN_s (f : Nat → Nat) (k x : Nat) : updN f k x k = x := by simp [updN]
theorem updN_n {f : Nat → Nat} {k x j : Nat} (h : j ≠ k) : updN f k x j = f j := by simp [updN, h]
/-- the least of h over the first n places (0 of none) -/
def mnR (h : Nat → Nat) : Nat → Nat
  | 0 => 0
  | n + 1 => if n = 0 then h 0 else min (mnR h n) (h n)
theorem mnR_lt {h : Nat → Nat} {b n : Nat} (hb : 0 < b) (e : ∀ i, i < n → h i < b) : mnR h n < b := by
  induction n with
  | zero => exact hb
  | succ n ih =>
    simp only [mnR]
    by_cases q : n = 0
    · rw [if_pos q]; subst q; exact e 0 (by omega)
    · rw [if_neg q]
      have h1 := ih (fun i hi => e i (by omega))
      omega
