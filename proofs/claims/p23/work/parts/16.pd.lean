/-! own rows: what the calls answer -/
/-- what layResults leaves -/
def LR (g p : Nat) (rg bd : Nat → Nat) (ab ob : Nat → Bool) (S : Nat → Int32) (rm : Nat) (rs : Nat → Nat) : Prop :=
  rm ≤ 576 ∧ (∀ z, rs z < 4) ∧ RepL (fun w => sm (fun z => w (cdR rs z (g * p))) rm) g p rg bd ab ob S
theorem LR_rm {g p : Nat} {rg bd : Nat → Nat} {ab ob : Nat → Bool} {S : Nat → Int32} {rm : Nat} {rs : Nat → Nat} (h : LR g p rg bd ab ob S rm rs) : rm = rsN g p rg bd ab ob S := by
  have h1 := h.2.2 (fun _ => 1)
  simp only [sm_one] at h1
  exact h1
theorem LR_ev {g p : Nat} {rg bd : Nat → Nat} {ab ob : Nat → Bool} {S : Nat → Int32} {rm : Nat} {rs : Nat → Nat} (h : LR g p rg bd ab ob S rm rs) {t k : Nat} (ht : t < g * p) :
    ct (fun z => decide (rs (9 * z + t) = k)) rm = evN g p rg bd ab ob S t k := by
  unfold evN
  rw [← h.2.2]
  refine sm_congr (fun z _ => ?_)
  show (decide (rs (9 * z + t) = k)).toNat = (decide (gr (cdR rs z (g * p)) t = k)).toNat
  rw [gr_cdR h.2.1 ht]
theorem LR_low {g p : Nat} {rg bd : Nat → Nat} {ab ob : Nat → Bool} {S : Nat → Int32} {rm : Nat} {rs : Nat → Nat} (h : LR g p rg bd ab ob S rm rs) {t : Nat} (ht : t < g * p) :
    lowR (fun zq => ct (fun z => decide (rs (9 * z + t) = zq)) rm) g 0 = if lowC g p rg bd ab ob S t < g then nI (lowC g p rg bd ab ob S t) else -1 := by
  rw [lowR_fst, Nat.zero_add]
  have e : fstN (fun zq => ct (fun z => decide (rs (9 * z + t) = zq)) rm) g 0 = lowC g p rg bd ab ob S t := fstN_congr (fun j => LR_ev h ht) g 0
  rw [e]
def loI32 (g p : Nat) (rg bd : Nat → Nat) (ab ob : Nat → Bool) (S : Nat → Int32) (t : Nat) : Int32 := if lowC g p rg bd ab ob S t < g then nI (lowC g p rg bd ab ob S t) else -1
def evPost (g p : Nat) (rg bd : Nat → Nat) (ab ob : Nat → Bool) (S : Nat → Int32) (x y : Int32) (th2 : Nat) (r : Int32) : Prop :=
  th2 = (if inB x (nI 0) (nI (g * p - 1)) && inB y (nI 0) (nI (g - 1)) then 0 else 1) ∧ (th2 = 0 → ∃ t k, t < g * p ∧ k < g ∧ x = nI t ∧ y = nI k ∧ r = nI (evN g p rg bd ab ob S t k)) ∧ (th2 ≠ 0 → r = nI 0)
def fiPost (g p : Nat) (rg bd : Nat → Nat) (ab ob : Nat → Bool) (S : Nat → Int32) (x y : Int32) (th2 : Nat) (r : Int32) : Prop :=
  th2 = (if inB x (nI 0) (nI (g * p - 1)) && inB y (nI 0) (nI (g - 1)) then 0 else 1) ∧ (th2 = 0 → ∃ t k, t < g * p ∧ k < g ∧ x = nI t ∧ y = nI k ∧ r = bI (decide (0 < evN g p rg bd ab ob S t k)))
theorem evN_le {g p : Nat} {rg bd : Nat → Nat} {ab ob : Nat → Bool} {S : Nat → Int32} {rm : Nat} {rs : Nat → Nat} (h : LR g p rg bd ab ob S rm rs) {t k : Nat} (ht : t < g * p) : evN g p rg bd ab ob S t k ≤ 576 := by
  rw [← LR_ev h ht]
  exact Nat.le_trans (ct_le _ _) h.1
def foN (g p : Nat) (rg bd : Nat → Nat) (ab ob : Nat → Bool) (S : Nat → Int32) (t : Nat) : Int32 :=
  if lowC g p rg bd ab ob S t < g ∧ evN g p rg bd ab ob S t (lowC g p rg bd ab ob S t) = rsN g p rg bd ab ob S then nI (lowC g p rg bd ab ob S t) else -1
def foPost (g p : Nat) (rg bd : Nat → Nat) (ab ob : Nat → Bool) (S : Nat → Int32) (x : Int32) (th2 : Nat) (r : Int32) : Prop :=
  th2 = (if inB x (nI 0) (nI (g * p - 1)) then 0 else 1) ∧ (th2 = 0 → ∃ t, t < g * p ∧ x = nI t ∧ r = foN g p rg bd ab ob S t)
theorem loI_some {g p : Nat} {rg bd : Nat → Nat} {ab ob : Nat → Bool} {S : Nat → Int32} {t : Nat} (h : ¬ loI32 g p rg bd ab ob S t = -1) : lowC g p rg bd ab ob S t < g ∧ loI32 g p rg bd ab ob S t = nI (lowC g p rg bd ab ob S t) := by
  unfold loI32 at h ⊢
  by_cases c : lowC g p rg bd ab ob S t < g
  · rw [if_pos c]; exact ⟨c, rfl⟩
  · rw [if_neg c] at h; exact absurd rfl h
theorem loI_none {g p : Nat} {rg bd : Nat → Nat} {ab ob : Nat → Bool} {S : Nat → Int32} {t : Nat} (hg : g ≤ 4) (h : loI32 g p rg bd ab ob S t = -1) : ¬ lowC g p rg bd ab ob S t < g := by
  intro c
  unfold loI32 at h
  rw [if_pos c] at h
  exact nI_nm1 (by omega) h
def tDr (x : Int32) (dm T n L : Nat) : Nat := if dm = T ∨ n = 0 then 1 else if inB x (nI 0) (nI L - nI 1) then 0 else 2
def drPost (g p dm : Nat) (rg bd : Nat → Nat) (ab ob : Nat → Bool) (S : Nat → Int32) (dt : Nat → Nat) (x : Int32) (th2 dm2 : Nat) (S2 : Nat → Int32) (dt2 : Nat → Nat) (r : Int32) : Prop :=
  th2 = tDr x dm (g * p) (rsN g p rg bd ab ob S) (leN dm g p) ∧
  (th2 = 0 → ∃ k, k < leN dm g p ∧ dm < g * p ∧ x = nI k ∧ dm2 = dm + 1 ∧ dt2 = updN dt dm (balT S g (dm / g) k) ∧ S2 = upd S (balT S g (dm / g) k) (loI32 g p rg bd ab ob S (balT S g (dm / g) k)) ∧ r = loI32 g p rg bd ab ob S (balT S g (dm / g) k)) ∧
  (th2 ≠ 0 → dm2 = dm ∧ S2 = S ∧ dt2 = dt)
theorem leN_ok {dm g p : Nat} (h : ¬ dm = g * p) : leN dm g p = g - dm % g := by simp [leN, h]
/-- how many orders lead to P -/
def orS (g p : Nat) (rg bd : Nat → Nat) (ab ob : Nat → Bool) (S : Nat → Int32) (dm : Nat) (P : (Nat → Int32) → Bool) : Nat :=
  if rsN g p rg bd ab ob S = 0 then 0 else ct (fun n => P (finS g (lowC g p rg bd ab ob) (g * p - dm) dm S n)) (ordN S g p)
def chPost (g p : Nat) (rg bd : Nat → Nat) (ab ob : Nat → Bool) (S : Nat → Int32) (dm : Nat) (x y : Int32) (th2 : Nat) (r : Int32) : Prop :=
  th2 = (if inB x (nI 0) (nI (g * p - 1)) && inB y (nI 0) (nI (g - 1)) then 0 else 1) ∧ (th2 = 0 → ∃ t k, t < g * p ∧ k < g ∧ x = nI t ∧ y = nI k ∧ r = nI (orS g p rg bd ab ob S dm (fun E => decide (E t = nI k))))
def paPost (g p : Nat) (rg bd : Nat → Nat) (ab ob : Nat → Bool) (S : Nat → Int32) (dm : Nat) (x y : Int32) (th2 : Nat) (r : Int32) : Prop :=
  th2 = (if inB x (nI 0) (nI (g * p - 1)) && inB y (nI 0) (nI (g * p - 1)) then 0 else 1) ∧ (th2 = 0 → ∃ t k, t < g * p ∧ k < g * p ∧ x = nI t ∧ y = nI k ∧ r = nI (orS g p rg bd ab ob S dm (fun E => decide (E t = E k))))
theorem fac_mono {a b : Nat} (h : a ≤ b) (hb : b ≤ 4) : fac a ≤ fac b := by
  rcases (show b = 0 ∨ b = 1 ∨ b = 2 ∨ b = 3 ∨ b = 4 by omega) with rfl | rfl | rfl | rfl | rfl <;> rcases (show a = 0 ∨ a = 1 ∨ a = 2 ∨ a = 3 ∨ a = 4 by omega) with rfl | rfl | rfl | rfl | rfl <;> first | decide | omega
theorem ordN_le (S : Nat → Int32) {g : Nat} (hg : g ≤ 4) (p : Nat) : ordN S g p ≤ fac g ^ p := by
  induction p with
  | zero => exact Nat.le_refl _
  | succ p ih =>
    simp only [ordN, Nat.pow_succ]
    exact Nat.mul_le_mul ih (fac_mono (ct_le _ _) hg)
theorem evN_le576 {g p : Nat} {rg bd : Nat → Nat} {ab ob : Nat → Bool} {S : Nat → Int32} {t k : Nat} (_ : g ≤ 4) (h : fac g ^ p ≤ 576) (_ : t < g * p) : evN g p rg bd ab ob S t k ≤ 576 := by
  unfold evN RS
  refine Nat.le_trans (sm_le_n (fun i _ => ?_)) h
  split
  · show (decide (gr (cdN g i (g * p)) t = k)).toNat ≤ 1
    cases decide (gr (cdN g i (g * p)) t = k)
    · decide
    · decide
  · exact Nat.zero_le _
