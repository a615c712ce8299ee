/-! own rows: where an order ends -/
theorem RS_ex {g p : Nat} {rg bd : Nat → Nat} {ab ob : Nat → Bool} {S : Nat → Int32} (h : 0 < rsN g p rg bd ab ob S) : ∃ m, m < fac g ^ p ∧ lawB (g * p) rg bd ab ob S (rowN g m) = true := by
  unfold rsN RS at h
  obtain ⟨m, h1, h2⟩ := sm_pos h
  refine ⟨m, h1, ?_⟩
  by_cases q : lawB (g * p) rg bd ab ob S (rowN g m) = true
  · exact q
  · rw [if_neg q] at h2; exact absurd h2 (Nat.lt_irrefl _)
theorem low_RS {g p : Nat} {rg bd : Nat → Nat} {ab ob : Nat → Bool} {S : Nat → Int32} (hg : 0 < g) (hg4 : g ≤ 4) (h : 0 < rsN g p rg bd ab ob S) {t : Nat} (ht : t < g * p) :
    lowC g p rg bd ab ob S t < g ∧ 0 < evN g p rg bd ab ob S t (lowC g p rg bd ab ob S t) := by
  obtain ⟨m, h1, h2⟩ := RS_ex h
  have hk : rowN g m t < g := rowN_lt hg hg4
  have h3 : 0 < evN g p rg bd ab ob S t (rowN g m t) := by
    unfold evN RS
    refine Nat.lt_of_lt_of_le ?_ (sm_ge h1)
    rw [if_pos h2]
    show 0 < (decide (gr (cdN g m (g * p)) t = rowN g m t)).toNat
    rw [gr_cdN hg hg4 ht]
    simp
  have h4 := fstN_spec (evN g p rg bd ab ob S t) g 0
  have h5 : lowC g p rg bd ab ob S t ≤ rowN g m t := by
    rcases Nat.lt_or_ge (rowN g m t) (lowC g p rg bd ab ob S t) with q | q
    · have h6 := h4.2.2.2 _ (Nat.zero_le _) q
      omega
    · exact q
  exact ⟨by omega, h4.2.2.1 (by show lowC g p rg bd ab ob S t < 0 + g; omega)⟩
theorem fin_ok {g p : Nat} {rg bd : Nat → Nat} {ab ob : Nat → Bool} (hg : 0 < g) (hg4 : g ≤ 4) (hT : g * p ≤ 9) : ∀ (f d : Nat) (S : Nat → Int32) (m : Nat), d + f = g * p → VS g p d S → 0 < rsN g p rg bd ab ob S →
    VS g p (g * p) (finS g (lowC g p rg bd ab ob) f d S m) ∧ 0 < rsN g p rg bd ab ob (finS g (lowC g p rg bd ab ob) f d S m) := by
  intro f
  induction f with
  | zero => intro d S m h1 h2 h3; rw [show g * p = d by omega]; exact ⟨h2, h3⟩
  | succ f ih =>
    intro d S m h1 h2 h3
    simp only [finS]
    have hd : d < g * p := by omega
    have hL := Nat.mod_lt d hg
    obtain ⟨b1, b2, b3, b4, b5⟩ := ball_ok hg h2 hd hT (Nat.mod_lt m (show g - d % g > 0 by omega))
    obtain ⟨l1, l2⟩ := low_RS hg hg4 h3 b3
    exact ih (d + 1) _ _ (by omega) (VS_step hg h2 hd b1 b2 b4 (nI_nm1 (by omega))) (rep_draw_pos hg hg4 b3 b4 (by omega) l2)
theorem fin_dig {g p : Nat} {rg bd : Nat → Nat} {ab ob : Nat → Bool} {E : Nat → Int32} (hg : 0 < g) (hg4 : g ≤ 4) (hV : VS g p (g * p) E) (h : 0 < rsN g p rg bd ab ob E) : ∀ t, t < g * p → ∃ k, k < g ∧ E t = nI k := by
  intro t ht
  obtain ⟨m, h1, h2⟩ := RS_ex h
  rw [lawB_split, Bool.and_eq_true] at h2
  have h3 := h2.2
  unfold consR at h3
  rw [allB_iff] at h3
  have h5 := h3 t ht
  have h6 : ¬ E t = -1 := by
    intro q
    have h7 := hV (t / g) (pot_lt hg ht)
    have h8 := pot_in t hg
    have h10 : g * (t / g + 1) ≤ g * p := Nat.mul_le_mul_left g (pot_lt hg ht)
    rw [show min g (g * (t / g + 1) - g * p) = 0 by omega] at h7
    have h9 : 0 < ct (unP E (g * (t / g))) g := ct_lt (i := t - g * (t / g)) (by omega) (by simp only [unP]; rw [show g * (t / g) + (t - g * (t / g)) = t by omega]; simp [q])
    omega
  simp only [h6, decide_false, Bool.false_or, decide_eq_true_eq] at h5
  exact ⟨rowN g m t, rowN_lt hg hg4, h5⟩
theorem fin_gr {g p : Nat} {E : Nat → Int32} (hg4 : g ≤ 4) (h : ∀ t, t < g * p → ∃ k, k < g ∧ E t = nI k) {t : Nat} (ht : t < g * p) : nI (gr (cdE (g * p) E) t) = E t ∧ gr (cdE (g * p) E) t < 4 := by
  have h1 : ∀ z, z < g * p → tnI (E z) < 4 := fun z hz => by
    obtain ⟨k, h2, h3⟩ := h z hz
    rw [h3, tnI_nI (by omega)]
    omega
  have h4 : gr (cdE (g * p) E) t = tnI (E t) := gr_cdF (g * p) h1 ht
  obtain ⟨k, h2, h3⟩ := h t ht
  rw [h4, h3, tnI_nI (by omega)]
  exact ⟨rfl, by omega⟩
theorem fin_lt {g p : Nat} {E : Nat → Int32} (hg4 : g ≤ 4) (h : ∀ t, t < g * p → ∃ k, k < g ∧ E t = nI k) : cdE (g * p) E < 4 ^ (g * p) :=
  cdF_lt (g * p) (fun z hz => by
    obtain ⟨k, h2, h3⟩ := h z hz
    rw [h3, tnI_nI (by omega)]
    omega)
/-- the list of the ends of all orders -/
def EndR (fl : Nat → Nat) (ne g p : Nat) (rg bd : Nat → Nat) (ab ob : Nat → Bool) (S : Nat → Int32) (dm : Nat) : Prop :=
  ne ≤ 576 ∧ ∀ w : Nat → Nat, sm (fun z => w (fl z)) ne = if rsN g p rg bd ab ob S = 0 then 0 else EOS g p rg bd ab ob w S dm
theorem EndR_w {fl : Nat → Nat} {ne g p : Nat} {rg bd : Nat → Nat} {ab ob : Nat → Bool} {S : Nat → Int32} {dm : Nat} (hg : 0 < g) (hg4 : g ≤ 4) (hT : g * p ≤ 9) (hV : VS g p dm S) (hd : dm ≤ g * p) (h : EndR fl ne g p rg bd ab ob S dm) (P : Nat → Bool) (Q : (Nat → Int32) → Bool)
    (hPQ : ∀ E : Nat → Int32, (∀ t, t < g * p → ∃ k, k < g ∧ E t = nI k) → P (cdE (g * p) E) = Q E) : ct (fun z => P (fl z)) ne = orS g p rg bd ab ob S dm Q := by
  have h1 := h.2 (fun c => (P c).toNat)
  unfold orS
  have e : ct (fun z => P (fl z)) ne = sm (fun z => (P (fl z)).toNat) ne := rfl
  rw [e, h1]
  by_cases q : rsN g p rg bd ab ob S = 0
  · rw [if_pos q, if_pos q]
  · rw [if_neg q, if_neg q, ordN_D hV]
    unfold EOS ct
    refine sm_congr (fun m _ => ?_)
    have h2 := fin_ok hg hg4 hT (g * p - dm) dm S m (by omega) hV (Nat.pos_of_ne_zero q)
    show (P (cdE (g * p) (finS g (lowC g p rg bd ab ob) (g * p - dm) dm S m))).toNat = _
    rw [hPQ _ (fin_dig hg hg4 h2.1 h2.2)]
theorem EndR_ch {fl : Nat → Nat} {ne g p : Nat} {rg bd : Nat → Nat} {ab ob : Nat → Bool} {S : Nat → Int32} {dm t k : Nat} (hg : 0 < g) (hg4 : g ≤ 4) (hT : g * p ≤ 9) (hV : VS g p dm S) (hd : dm ≤ g * p) (h : EndR fl ne g p rg bd ab ob S dm) (ht : t < g * p) (hk : k < 2 ^ 31) :
    ct (fun z => decide (gr (fl z) t = k)) ne = orS g p rg bd ab ob S dm (fun E => decide (E t = nI k)) :=
  EndR_w hg hg4 hT hV hd h (fun c => decide (gr c t = k)) _ (fun E hE => by
    have h1 := fin_gr hg4 hE ht
    apply decide_eq_decide.mpr
    rw [← h1.1, nI_eq (by omega) hk])
theorem EndR_pa {fl : Nat → Nat} {ne g p : Nat} {rg bd : Nat → Nat} {ab ob : Nat → Bool} {S : Nat → Int32} {dm t k : Nat} (hg : 0 < g) (hg4 : g ≤ 4) (hT : g * p ≤ 9) (hV : VS g p dm S) (hd : dm ≤ g * p) (h : EndR fl ne g p rg bd ab ob S dm) (ht : t < g * p) (hk : k < g * p) :
    ct (fun z => decide (gr (fl z) t = gr (fl z) k)) ne = orS g p rg bd ab ob S dm (fun E => decide (E t = E k)) :=
  EndR_w hg hg4 hT hV hd h (fun c => decide (gr c t = gr c k)) _ (fun E hE => by
    have h1 := fin_gr hg4 hE ht
    have h2 := fin_gr hg4 hE hk
    apply decide_eq_decide.mpr
    rw [← h1.1, ← h2.1, nI_eq (by omega) (by omega)])
theorem EndR_31 {fl : Nat → Nat} {ne g p : Nat} {rg bd : Nat → Nat} {ab ob : Nat → Bool} {S : Nat → Int32} {dm : Nat} (hg : 0 < g) (hg4 : g ≤ 4) (hT : g * p ≤ 9) (hV : VS g p dm S) (hd : dm ≤ g * p) (h : EndR fl ne g p rg bd ab ob S dm) : ∀ z, z < ne → fl z < 2 ^ 31 := by
  intro z hz
  have h1 := EndR_w hg hg4 hT hV hd h (fun c => decide (4 ^ (g * p) ≤ c)) (fun _ => false) (fun E hE => by
    have h9 := fin_lt hg4 hE
    show decide (4 ^ (g * p) ≤ cdE (g * p) E) = false
    exact decide_eq_false (Nat.not_le.mpr h9))
  have h2 : orS g p rg bd ab ob S dm (fun _ => false) = 0 := by
    unfold orS
    split
    · rfl
    · exact sm_zero (fun _ _ => rfl)
  rw [h2] at h1
  have h3 := sm_0 h1 z hz
  by_cases q : 4 ^ (g * p) ≤ fl z
  · simp [q] at h3
  · have := q_pow4 hT
    omega
/-- the class's lowest group of a list of open results -/
theorem rep_loR {f : Nat → Nat} {n g p : Nat} {rg bd : Nat → Nat} {ab ob : Nat → Bool} {S : Nat → Int32} (hg : 0 < g) (hg4 : g ≤ 4) (h : RepF f n g p rg bd ab ob S) {t : Nat} (ht : t < g * p) : loR (fun z => gr (f z) t) n = loI32 g p rg bd ab ob S t := by
  unfold loR loI32
  by_cases q : n = 0
  · rw [if_pos q]
    have h1 : lowC g p rg bd ab ob S t = g := fstN_eq (Nat.le_refl _) (fun j _ => by rw [← rep_ev h, q]; rfl) (fun z => absurd z (Nat.lt_irrefl _))
    rw [if_neg (by omega)]
  · rw [if_neg q]
    have h1 := rep_low hg hg4 h (by omega) ht
    rw [if_pos h1.2.1, h1.1]
theorem OL_rep {g p n k : Nat} {rg bd ap od : Nat → Nat} {ab ob : Nat → Bool} {S : Nat → Int32} {fo : Bool} {f fq : Nat → Nat} (h1 : fo = true → RepF f n g p rg bd ab ob S ∧ n ≤ 576) (h2 : fo = false → ∀ w, extN g rg bd ap od (g * p) 0 0 w = RS g p rg bd ab ob S w)
    (e1 : fo = true → fq = f ∧ k = n) (e2 : fo = false → k ≤ 576 ∧ ∀ w : Nat → Nat, sm (fun z => w (fq z)) k = extN g rg bd ap od (g * p) 0 0 w) : RepF fq k g p rg bd ab ob S ∧ k ≤ 576 := by
  cases fo
  · exact ⟨fun w => ((e2 rfl).2 w).trans (h2 rfl w), (e2 rfl).1⟩
  · have h3 := e1 rfl
    rw [h3.1, h3.2]
    exact h1 rfl
theorem ordD_le {g p d : Nat} {S : Nat → Int32} (hg4 : g ≤ 4) (hV : VS g p d S) : ordD g d p ≤ fac g ^ p := by
  rw [← ordN_D hV]
  exact ordN_le S hg4 p
