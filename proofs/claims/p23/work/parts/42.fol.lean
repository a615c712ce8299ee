/-! own rows: an order of the law's own draw, ball by ball -/
theorem FolB_bal {S : Nat → Int32} {g q p : Nat} (hT : g * p ≤ 9) (hq : q < p) : FolB S (g * q) (g * q + g) (clN S g q) (balT S g q) := by
  have h5 : g * (q + 1) ≤ g * p := Nat.mul_le_mul_left g hq
  have e1 : g * (q + 1) = g * q + g := Nat.mul_succ g q
  have key : ∀ t, g * q ≤ t → t < g * q + g → S t = -1 → balT S g q (ct (unP S (g * q)) (t - g * q)) = t := by
    intro t h1 h2 h3
    unfold balT
    rw [nth_rank g (g * q) _ t h1 h2 h3 rfl]
    exact tnI_nI (by omega)
  refine ⟨by rw [show g * q + g - g * q = g by omega]; rfl, fun y hy => ?_, fun z hz hs => ?_⟩
  · obtain ⟨t, h1, h2, h3, h4⟩ := nth_ex (S := S) (t0 := g * q) (l := y) g hy
    have h6 := key t h1 h2 h3
    rw [h4] at h6
    rw [h6]
    exact ⟨h1, h2, h3, h4⟩
  · have h6 := key (g * q + z) (by omega) (by omega) hs
    rw [show g * q + z - g * q = z by omega] at h6
    exact h6
theorem fac_leM {a b : Nat} (h : a ≤ b) : fac a ≤ fac b := by
  obtain ⟨d, rfl⟩ : ∃ d, b = a + d := ⟨b - a, by omega⟩
  induction d with
  | zero => exact Nat.le_refl _
  | succ d ih =>
    refine Nat.le_trans (ih (by omega)) ?_
    rw [← Nat.add_assoc, fac_succ]
    exact Nat.le_mul_of_pos_left _ (by omega)
theorem prC_le {c : Nat → Nat} {g : Nat} (hc : ∀ q, c q ≤ g) : ∀ j q, prC c j q ≤ fac g ^ j := by
  intro j
  induction j with
  | zero => intro q; exact Nat.le_refl _
  | succ j ih =>
    intro q
    simp only [prC]
    rw [Nat.pow_succ, Nat.mul_comm]
    exact Nat.mul_le_mul (ih (q + 1)) (fac_leM (hc q))
theorem pow_576 {g p j : Nat} (hg : 0 < g) (hg4 : g ≤ 4) (hT : g * p ≤ 9) (hp : p ≤ 3) (hj : j ≤ p) : fac g ^ j ≤ 576 := by
  have h1 : fac g ^ j ≤ fac g ^ p := Nat.pow_le_pow_right (fac_pos g) hj
  refine Nat.le_trans h1 ?_
  rcases (show p = 0 ∨ p = 1 ∨ p = 2 ∨ p = 3 by omega) with rfl | rfl | rfl | rfl
  · rcases (show g = 1 ∨ g = 2 ∨ g = 3 ∨ g = 4 by omega) with rfl | rfl | rfl | rfl <;> decide
  · rcases (show g = 1 ∨ g = 2 ∨ g = 3 ∨ g = 4 by omega) with rfl | rfl | rfl | rfl <;> decide
  · rcases (show g = 1 ∨ g = 2 ∨ g = 3 ∨ g = 4 by omega) with rfl | rfl | rfl | rfl <;> decide
  · rcases (show g = 1 ∨ g = 2 ∨ g = 3 by omega) with rfl | rfl | rfl <;> decide
/-- what is given of the start -/
def FLC (g p dm : Nat) (S : Nat → Int32) : Prop := 2 ≤ g ∧ g ≤ 4 ∧ p ≤ 3 ∧ g * p ≤ 9 ∧ dm ≤ g * p ∧ VS g p dm S
theorem FL_576 {g p dm : Nat} {S : Nat → Int32} (hC : FLC g p dm S) {j : Nat} (hj : j ≤ p) (q n : Nat) : RRn (clN S g) j q n < 576 := by
  obtain ⟨h1, h2, h3, h4, h5, h6⟩ := hC
  have hc : ∀ q, clN S g q ≤ g := clN_le S g
  exact Nat.lt_of_lt_of_le (RR_lt (fun q => by have := hc q; omega) j q n) (Nat.le_trans (prC_le hc j q) (pow_576 (by omega) h2 h4 h3 hj))
/-- the pots, one after the other -/
def FLP (g p : Nat) (rg bd : Nat → Nat) (ab ob : Nat → Bool) (S : Nat → Int32) (dm num q : Nat) (S2 : Nat → Int32) (d rest : Nat) (E : Nat → Int32) : Prop :=
  q ≤ p ∧ (dm ≤ d ∧ g * q ≤ d ∧ (d = dm ∨ d = g * q)) ∧ (∀ t, g * q ≤ t → S2 t = S t) ∧ Ext (g * p) S S2 ∧ VS g p d S2 ∧
  finS g (lowC g p rg bd ab ob) (g * p - d) d S2 (RRn (clN S g) (p - q) q rest) = finS g (lowC g p rg bd ab ob) (g * p - dm) dm S (RRn (clN S g) p 0 num) ∧
  (∀ t, t < g * p → S t = -1 → ¬ S2 t = -1 → E t = S2 t) ∧ 0 < rsN g p rg bd ab ob S2
/-- within a pot: k balls of it drawn -/
def FLK (g p : Nat) (rg bd : Nat → Nat) (ab ob : Nat → Bool) (S : Nat → Int32) (dm num q : Nat) (d rest k : Nat) (S2 : Nat → Int32) (E : Nat → Int32) : Prop :=
  k ≤ clN S g q ∧ (clN S g q = 0 ∨ (g * q ≤ d ∧ d < g * q + g ∧ clN S g q = g * q + g - d)) ∧ (clN S g q = 0 → g * q + g ≤ d) ∧
  (∀ t, g * q + g ≤ t → S2 t = S t) ∧ Ext (g * p) S S2 ∧ VS g p (d + k) S2 ∧
  finS g (lowC g p rg bd ab ob) (g * p - (d + k)) (d + k) S2 (nkD (clN S g q) (RRn (clN S g) (p - q) q rest) k) = finS g (lowC g p rg bd ab ob) (g * p - dm) dm S (RRn (clN S g) p 0 num) ∧
  (∀ t, t < g * p → S t = -1 → ¬ S2 t = -1 → E t = S2 t) ∧ 0 < rsN g p rg bd ab ob S2 ∧
  ∀ y, y < clN S g q → decide (S2 (balT S g q y) = -1) = !((loS (clN S g q) (RRn (clN S g) (p - q) q rest % fac (clN S g q)) k).2 y)
theorem FLP_0 {g p : Nat} {rg bd : Nat → Nat} {ab ob : Nat → Bool} {S : Nat → Int32} {dm num : Nat} {E : Nat → Int32} (hC : FLC g p dm S) (hr : 0 < rsN g p rg bd ab ob S) : FLP g p rg bd ab ob S dm num 0 S dm num E := by
  obtain ⟨hg2, hg4, hp, hT, hdm, hV⟩ := hC
  exact ⟨Nat.zero_le _, ⟨Nat.le_refl _, by omega, Or.inl rfl⟩, fun t _ => rfl, Ext.refl _ _, hV, rfl, fun t _ h1 h2 => absurd h1 h2, hr⟩
theorem FLK_0 {g p : Nat} {rg bd : Nat → Nat} {ab ob : Nat → Bool} {S : Nat → Int32} {dm num q d rest : Nat} {S2 : Nat → Int32} {E : Nat → Int32} (hC : FLC g p dm S)
    (h : FLP g p rg bd ab ob S dm num q S2 d rest E) (hq : q < p) : FLK g p rg bd ab ob S dm num q d rest 0 S2 E := by
  obtain ⟨hg2, hg4, hp, hT, hdm, hV⟩ := hC
  obtain ⟨h1, h2, h5, h6, h7, h8, h9, h10⟩ := h
  have hms : g * (q + 1) = g * q + g := Nat.mul_succ g q
  have hB := FolB_bal (S := S) hT hq
  have hm : clN S g q = min g (g * q + g - d) := by
    have e1 := h7 q hq
    have e2 := hB.1
    rw [show g * q + g - g * q = g by omega] at e2
    rw [e2, ← hms, ← e1]
    exact ct_congr (fun z _ => by simp only [unP]; rw [h5 _ (by omega)])
  refine ⟨Nat.zero_le _, by omega, by omega, fun t ht => h5 t (by omega), h6, h7, h8, h9, h10, fun y hy => ?_⟩
  have hb := hB.2.1 y hy
  rw [h5 _ hb.1, hb.2.2.1]
  rfl
theorem FLK_end {g p : Nat} {rg bd : Nat → Nat} {ab ob : Nat → Bool} {S : Nat → Int32} {dm num q d rest : Nat} {S2 : Nat → Int32} {S0 E0 E : Nat → Int32} (hC : FLC g p dm S)
    (h0 : FLP g p rg bd ab ob S dm num q S0 d rest E0) (hq : q < p) (h : FLK g p rg bd ab ob S dm num q d rest (clN S g q) S2 E) :
    FLP g p rg bd ab ob S dm num (q + 1) S2 (d + clN S g q) (rest / fac (clN S g q)) E := by
  have hlt := FL_576 hC (j := p - q) (by omega) q rest
  obtain ⟨hg2, hg4, hp, hT, hdm, hV⟩ := hC
  obtain ⟨k1, k4, k5, k7, k8, k9, k10, k11, k12, k13⟩ := h
  obtain ⟨h1, h2, -⟩ := h0
  have hms : g * (q + 1) = g * q + g := Nat.mul_succ g q
  have hc := clN_le S g
  have e : p - q = (p - (q + 1)) + 1 := by omega
  rw [nkD_end (clN S g q) (by have := hc q; omega) _ hlt, e, RR_div (fun q => by have := hc q; omega)] at k10
  exact ⟨by omega, by omega, fun t ht => k7 t (by omega), k8, k9, k10, k11, k12⟩
/-- the next ball -/
theorem FLK_ball {g p : Nat} {rg bd : Nat → Nat} {ab ob : Nat → Bool} {S : Nat → Int32} {dm num q d rest k : Nat} {S2 E : Nat → Int32} (hC : FLC g p dm S)
    (hq : q < p) (h : FLK g p rg bd ab ob S dm num q d rest k S2 E) (hk : k < clN S g q) :
    lo (clN S g q) (RRn (clN S g) (p - q) q rest % fac (clN S g q)) k = atN (clN S g q) (rest % fac (clN S g q)) k ∧ atN (clN S g q) (rest % fac (clN S g q)) k < clN S g q ∧
    g * q ≤ balT S g q (atN (clN S g q) (rest % fac (clN S g q)) k) ∧ balT S g q (atN (clN S g q) (rest % fac (clN S g q)) k) < g * q + g ∧ balT S g q (atN (clN S g q) (rest % fac (clN S g q)) k) < g * p ∧
    S (balT S g q (atN (clN S g q) (rest % fac (clN S g q)) k)) = -1 ∧ S2 (balT S g q (atN (clN S g q) (rest % fac (clN S g q)) k)) = -1 := by
  obtain ⟨hg2, hg4, hp, hT, hdm, hV⟩ := hC
  obtain ⟨k1, k4, k5, k7, k8, k9, k10, k11, k12, k13⟩ := h
  have hc := clN_le S g
  have e : p - q = (p - (q + 1)) + 1 := by omega
  have e2 : lo (clN S g q) (RRn (clN S g) (p - q) q rest % fac (clN S g q)) k = atN (clN S g q) (rest % fac (clN S g q)) k := by
    rw [e, RR_mod (fun q => by have := hc q; omega)]
    exact tau_lo _ (by have := hc q; omega) _ (Nat.mod_lt _ (fac_pos _)) k hk
  have hl := lo_spec (n := RRn (clN S g) (p - q) q rest % fac (clN S g q)) hk
  rw [e2] at hl
  have hb := (FolB_bal (S := S) hT hq).2.1 _ hl.1
  have hms : g * (q + 1) = g * q + g := Nat.mul_succ g q
  have hmq : g * (q + 1) ≤ g * p := Nat.mul_le_mul_left g hq
  have h9 := k13 _ hl.1
  rw [hl.2.1] at h9
  exact ⟨e2, hl.1, hb.1, hb.2.1, by omega, hb.2.2.1, of_decide_eq_true h9⟩
theorem FLK_step {g p : Nat} {rg bd : Nat → Nat} {ab ob : Nat → Bool} {S : Nat → Int32} {dm num q d rest k t v : Nat} {S2 E : Nat → Int32} (hC : FLC g p dm S)
    (hq : q < p) (h : FLK g p rg bd ab ob S dm num q d rest k S2 E) (hk : k < clN S g q) (ht : t = balT S g q (atN (clN S g q) (rest % fac (clN S g q)) k)) (hv : v = lowC g p rg bd ab ob S2 t) :
    FLK g p rg bd ab ob S dm num q d rest (k + 1) (upd S2 t (nI v)) (upd E t (nI v)) ∧ v < g := by
  have hball := FLK_ball hC hq h hk
  have hlt := FL_576 hC (j := p - q) (by omega) q rest
  obtain ⟨hg2, hg4, hp, hT, hdm, hV⟩ := hC
  obtain ⟨k1, k4, k5, k7, k8, k9, k10, k11, k12, k13⟩ := h
  have hc := clN_le S g
  have hB := FolB_bal (S := S) hT hq
  rw [← ht] at hball
  obtain ⟨e0, b0, b1, b2, b4, bS, b5⟩ := hball
  have hl := lo_spec (n := RRn (clN S g) (p - q) q rest % fac (clN S g q)) hk
  rw [e0] at hl
  have hb := hB.2.1 _ hl.1
  rw [← ht] at hb
  have hms : g * (q + 1) = g * q + g := Nat.mul_succ g q
  have hmq : g * (q + 1) ≤ g * p := Nat.mul_le_mul_left g hq
  have hlow := low_RS (by omega) hg4 k12 b4
  have hvg : v < g := by rw [hv]; exact hlow.1
  have hvn : nI v ≠ -1 := nI_nm1 (by omega)
  have hpot : (d + k) / g = q ∧ (d + k) % g = d + k - g * q := pot_of (by omega) (by omega)
  have hL9 : g - (d + k) % g = clN S g q - k := by omega
  have hrank : ct (unP S2 (g * q)) (t - g * q) = nkD (clN S g q) (RRn (clN S g) (p - q) q rest) k % (clN S g q - k) := by
    have e1 := FolB_cnt hB (fun z => decide (S2 z = -1)) (fun z hz hs => by
      rcases k8 (g * q + z) (by omega) with q9 | q9
      · exact q9
      · rw [← q9]; exact of_decide_eq_true hs) (t - g * q) (by omega)
    have e2 : ct (unP S2 (g * q)) (t - g * q) = ct (fun z => decide (S2 (g * q + z) = -1)) (t - g * q) := rfl
    rw [e2, e1, hb.2.2.2, ct_congr (P := fun y => decide (S2 (balT S g q y) = -1)) (Q := fun y => !((loS (clN S g q) (RRn (clN S g) (p - q) q rest % fac (clN S g q)) k).2 y)) (fun y hy => k13 y (by omega)), hl.2.2, nkD_lo]
    exact nkD_dig _ (by have := hc q; omega) _ hlt k hk
  have hnth : nth S2 g (g * q) (nkD (clN S g q) (RRn (clN S g) (p - q) q rest) k % (clN S g q - k)) = nI t := nth_rank g (g * q) _ t b1 b2 b5 hrank
  have hbal : balT S2 g ((d + k) / g) (nkD (clN S g q) (RRn (clN S g) (p - q) q rest) k % (g - (d + k) % g)) = t := by
    rw [hpot.1, hL9]
    unfold balT
    rw [hnth]
    exact tnI_nI (by omega)
  refine ⟨⟨by omega, k4, k5, fun z hz => ?_, k8.upd b5 _, ?_, ?_, fun z hz hs hn => ?_, ?_, fun y hy => ?_⟩, hvg⟩
  · have : ¬ z = t := by omega
    simp [upd, this, k7 z hz]
  · have h9 := VS_step (by omega) k9 (by omega) (t := t) (v := nI v) (by rw [hpot.1]; exact b1) (by rw [hpot.1]; exact b2) b5 hvn
    exact h9
  · obtain ⟨f, hf⟩ : ∃ f, g * p - (d + k) = f + 1 := ⟨g * p - (d + k) - 1, by omega⟩
    rw [hf] at k10
    simp only [finS] at k10
    rw [hbal, hL9, ← hv] at k10
    rw [show g * p - (d + (k + 1)) = f by omega]
    exact k10
  · by_cases e : z = t
    · simp [upd, e]
    · have e2 : upd S2 t (nI v) z = S2 z := by simp [upd, e]
      rw [e2] at hn
      rw [e2]
      have e3 : upd E t (nI v) z = E z := by simp [upd, e]
      rw [e3]
      exact k11 z hz hs hn
  · exact rep_draw_pos (by omega) hg4 b4 b5 (by omega) (by rw [hv]; exact hlow.2)
  · show _ = !(updB (loS (clN S g q) (RRn (clN S g) (p - q) q rest % fac (clN S g q)) k).2 (lo (clN S g q) (RRn (clN S g) (p - q) q rest % fac (clN S g q)) k) true y)
    rw [e0]
    by_cases e : y = atN (clN S g q) (rest % fac (clN S g q)) k
    · rw [e, updB_s, ← ht]
      simp [upd, hvn]
    · have hby := hB.2.1 y hy
      have hne : ¬ balT S g q y = t := fun q9 => e (by rw [← hby.2.2.2, q9, hb.2.2.2])
      rw [updB_n e, ← k13 y hy]
      simp [upd, hne]
/-- all pots gone through: the groups are the draw's -/
theorem FLP_end {g p : Nat} {rg bd : Nat → Nat} {ab ob : Nat → Bool} {S : Nat → Int32} {dm num d rest : Nat} {S2 : Nat → Int32} {E : Nat → Int32} (hC : FLC g p dm S) (h : FLP g p rg bd ab ob S dm num p S2 d rest E) :
    ∀ t, t < g * p → (if S t = -1 then E t else S t) = finS g (lowC g p rg bd ab ob) (g * p - dm) dm S (RRn (clN S g) p 0 num) t := by
  obtain ⟨hg2, hg4, hp, hT, hdm, hV⟩ := hC
  obtain ⟨h1, h2, h5, h6, h7, h8, h9, h10⟩ := h
  intro t ht
  have e : finS g (lowC g p rg bd ab ob) (g * p - dm) dm S (RRn (clN S g) p 0 num) = S2 := by
    rw [← h8, show g * p - d = 0 by omega]
    rfl
  rw [e]
  by_cases q : S t = -1
  · rw [if_pos q]
    refine h9 t ht q (fun c => ?_)
    have hd : d = g * p := by
      rcases h2.2.2 with e | e <;> omega
    have h11 := h7 (t / g) (pot_lt (by omega) ht)
    have h12 := Nat.div_add_mod t g
    have h13 := Nat.mod_lt t (show 0 < g by omega)
    have h14 : g * (t / g + 1) ≤ g * p := Nat.mul_le_mul_left g (pot_lt (by omega) ht)
    have h15 : ct (unP S2 (g * (t / g))) g = 0 := by omega
    have h16 : 0 < ct (unP S2 (g * (t / g))) g := ct_lt h13 (by simp only [unP]; rw [h12, c]; rfl)
    omega
  · rw [if_neg q]
    rcases h6 t ht with e | e
    · exact absurd e q
    · exact e.symm
/-- the sum over all orders -/
theorem FL_sum {g p : Nat} {rg bd : Nat → Nat} {ab ob : Nat → Bool} {S : Nat → Int32} {dm : Nat} (hp : p = 2 ∨ p = 3) (hg4 : g ≤ 4) (hr : 0 < rsN g p rg bd ab ob S) (P : (Nat → Int32) → Bool) :
    ct (fun num => P (finS g (lowC g p rg bd ab ob) (g * p - dm) dm S (RRn (clN S g) p 0 num))) (ordN S g p) = orS g p rg bd ab ob S dm P := by
  unfold orS
  rw [if_neg (by omega), ← prC_ord S g hp]
  exact RR_sum (fun q => by have := clN_le S g q; omega) p 0 (fun n => (P (finS g (lowC g p rg bd ab ob) (g * p - dm) dm S n)).toNat)
/-- one team more, in its pot's set of orders -/
theorem potA_upd {g : Nat} {S : Nat → Int32} {t v q o : Nat} (hg : 0 < g) (hs : S t = -1) (hv : v < 2 ^ 31) (h1 : g * q ≤ t) (h2 : t < g * q + g) (ha : atN g o (t % g) < 2 ^ 31) : potA g (upd S t (nI v)) q o = (potA g S q o && decide (atN g o (t % g) = v)) := by
  have hm : t % g = t - g * q := by
    have e := (pot_of h1 h2).2
    exact e
  unfold potA
  have key : ∀ n, allB (fun i => decide (upd S t (nI v) (g * q + i) = -1) || decide (upd S t (nI v) (g * q + i) = nI (atN g o i))) n = (allB (fun i => decide (S (g * q + i) = -1) || decide (S (g * q + i) = nI (atN g o i))) n && (decide (n ≤ t - g * q) || decide (atN g o (t % g) = v))) := by
    intro n
    induction n with
    | zero => simp [allB]
    | succ n ih =>
      simp only [allB, ih]
      by_cases e : g * q + n = t
      · have e1 : decide (upd S t (nI v) (g * q + n) = -1) = false := by simp [upd, e, nI_nm1 hv]
        have e3 : n = t % g := by omega
        have e2 : decide (upd S t (nI v) (g * q + n) = nI (atN g o n)) = decide (atN g o (t % g) = v) := by
          have e4 : upd S t (nI v) (g * q + n) = nI v := by simp [upd, e]
          rw [e4, e3]
          apply decide_eq_decide.mpr
          rw [nI_eq hv ha]
          exact eq_comm
        rw [e1, e2, e, hs]
        have h5 : n ≤ t - g * q := by omega
        have h6 : ¬ n + 1 ≤ t - g * q := by omega
        simp [h5, h6]
      · have e1 : upd S t (nI v) (g * q + n) = S (g * q + n) := by simp [upd, e]
        rw [e1]
        by_cases r : n ≤ t - g * q
        · have r2 : n + 1 ≤ t - g * q := by omega
          simp [r, r2]
        · have r2 : ¬ n + 1 ≤ t - g * q := by omega
          simp only [r, r2, decide_false, Bool.false_or]
          cases allB (fun i => decide (S (g * q + i) = -1) || decide (S (g * q + i) = nI (atN g o i))) n <;> cases decide (atN g o (t % g) = v) <;> cases (decide (S (g * q + n) = -1) || decide (S (g * q + n) = nI (atN g o n))) <;> rfl
  rw [key g]
  simp [show ¬ g ≤ t - g * q by omega]
theorem potA_out {g : Nat} {S : Nat → Int32} {t q o : Nat} {v : Int32} (h : t < g * q ∨ g * q + g ≤ t) : potA g (upd S t v) q o = potA g S q o :=
  allB_congr (fun i hi => by have : ¬ g * q + i = t := by omega
                             simp [upd, this])
