/-! own rows: the orders, and a list that holds the open results -/
theorem sm_split (F : Nat → Nat) (a b : Nat) : sm F (a + b) = sm F a + sm (fun i => F (a + i)) b := by
  induction b with
  | zero => rfl
  | succ b ih => rw [← Nat.add_assoc]; simp only [sm]; rw [ih]; omega
theorem sm_swap (F : Nat → Nat → Nat) (a b : Nat) : sm (fun i => sm (fun j => F i j) b) a = sm (fun j => sm (fun i => F i j) a) b := by
  induction a with
  | zero => simp only [sm]; exact (sm_zero (fun _ _ => rfl)).symm
  | succ a ih => simp only [sm]; rw [ih, ← sm_add]
theorem sm_mul (F : Nat → Nat) (L M : Nat) : sm F (L * M) = sm (fun j => sm (fun i => F (j + L * i)) M) L := by
  rw [sm_swap]
  induction M with
  | zero => rfl
  | succ M ih =>
    rw [Nat.mul_succ, sm_split, ih]
    simp only [sm]
    congr 1
    exact sm_congr (fun i _ => by rw [Nat.add_comm])
theorem sm_const (c n : Nat) : sm (fun _ => c) n = n * c := by
  induction n with
  | zero => simp [sm]
  | succ n ih => simp only [sm, ih, Nat.succ_mul]
def ordD (g d : Nat) : Nat → Nat
  | 0 => 1
  | p + 1 => ordD g d p * fac (min g (g * (p + 1) - d))
theorem ordN_D {g p d : Nat} {S : Nat → Int32} (h : VS g p d S) : ordN S g p = ordD g d p := by
  have key : ∀ q, q ≤ p → ordN S g q = ordD g d q := by
    intro q
    induction q with
    | zero => intro _; rfl
    | succ q ih =>
      intro hq
      simp only [ordN, ordD]
      rw [ih (by omega)]
      have h1 := h q (by omega)
      have h2 : ct (fun z => decide (S (g * q + z) = -1)) g = ct (unP S (g * q)) g := rfl
      rw [h2, h1]
  exact key p (Nat.le_refl _)
theorem ordD_1 {g d : Nat} : ∀ p, g * p ≤ d → ordD g d p = 1 := by
  intro p
  induction p with
  | zero => intro _; rfl
  | succ p ih =>
    intro h
    have e1 : g * (p + 1) = g * p + g := Nat.mul_succ g p
    simp only [ordD]
    rw [ih (by omega), show min g (g * (p + 1) - d) = 0 by omega]
    rfl
theorem fac_succ (n : Nat) : fac (n + 1) = (n + 1) * fac n := rfl
theorem ordD_s {g d : Nat} (hg : 0 < g) : ∀ p, d < g * p → ordD g d p = (g - d % g) * ordD g (d + 1) p := by
  intro p
  induction p with
  | zero => intro h; omega
  | succ p ih =>
    intro h
    have e1 : g * (p + 1) = g * p + g := Nat.mul_succ g p
    simp only [ordD]
    by_cases c : d < g * p
    · rw [ih c, show min g (g * (p + 1) - d) = g by omega, show min g (g * (p + 1) - (d + 1)) = g by omega, Nat.mul_assoc]
    · have h2 := pot_of (g := g) (d := d) (q := p) (by omega) (by rw [← e1]; exact h)
      rw [ordD_1 p (by omega), ordD_1 p (by omega), Nat.one_mul, Nat.one_mul]
      obtain ⟨z, hz⟩ : ∃ z, g - d % g = z + 1 := ⟨g - d % g - 1, by omega⟩
      rw [show min g (g * (p + 1) - d) = z + 1 by omega, show min g (g * (p + 1) - (d + 1)) = z by omega, hz]
      rfl
/-- a result as a number, out of the groups -/
def cdF (r : Nat → Nat) : Nat → Nat
  | 0 => 0
  | t + 1 => cdF r t + r t * 4 ^ t
theorem cdF_congr {r s : Nat → Nat} {T : Nat} (h : ∀ t, t < T → r t = s t) : cdF r T = cdF s T := by
  induction T with
  | zero => rfl
  | succ T ih => simp only [cdF]; rw [ih (fun t ht => h t (by omega)), h T (by omega)]
theorem cdF_mod (c : Nat) : ∀ T, cdF (gr c) T = c % 4 ^ T := by
  intro T
  induction T with
  | zero => simp [cdF, Nat.mod_one]
  | succ T ih =>
    simp only [cdF]
    rw [ih]
    unfold gr
    rw [Nat.pow_succ, Nat.mod_mul]
    rw [Nat.mul_comm (c / 4 ^ T % 4)]
theorem cdF_lt {r : Nat → Nat} : ∀ T, (∀ t, t < T → r t < 4) → cdF r T < 4 ^ T := by
  intro T
  induction T with
  | zero => intro _; exact Nat.one_pos
  | succ T ih =>
    intro h
    simp only [cdF, Nat.pow_succ]
    have h1 := ih (fun t ht => h t (by omega))
    have h3 := h T (by omega)
    have h2 : r T * 4 ^ T ≤ 3 * 4 ^ T := Nat.mul_le_mul_right _ (by omega)
    omega
theorem gr_cdF {r : Nat → Nat} {t : Nat} : ∀ T, (∀ t, t < T → r t < 4) → t < T → gr (cdF r T) t = r t := by
  intro T
  induction T with
  | zero => intro _ h; omega
  | succ T ih =>
    intro h ht
    simp only [cdF]
    by_cases q : t = T
    · subst q; exact gr_add_hi (cdF_lt t (fun z hz => h z (by omega))) (h t (by omega))
    · rw [gr_add_lo (by omega)]; exact ih (fun z hz => h z (by omega)) (by omega)
def cdE (T : Nat) (E : Nat → Int32) : Nat := cdF (fun t => tnI (E t)) T
abbrev RepF (f : Nat → Nat) (n g p : Nat) (rg bd : Nat → Nat) (ab ob : Nat → Bool) (S : Nat → Int32) : Prop := RepL (fun w => sm (fun z => w (f z)) n) g p rg bd ab ob S
theorem RS_code {g p : Nat} {rg bd : Nat → Nat} {ab ob : Nat → Bool} {S : Nat → Int32} (hg : 0 < g) (hg4 : g ≤ 4) : RS g p rg bd ab ob S (fun c => (decide (4 ^ (g * p) ≤ c)).toNat) = 0 :=
  RS_w0 (fun m _ _ => by have := cdN_lt (g := g) (m := m) hg hg4 (g * p); simp; omega)
theorem rep_lt {f : Nat → Nat} {n g p : Nat} {rg bd : Nat → Nat} {ab ob : Nat → Bool} {S : Nat → Int32} (hg : 0 < g) (hg4 : g ≤ 4) (h : RepF f n g p rg bd ab ob S) : ∀ z, z < n → f z < 4 ^ (g * p) := by
  intro z hz
  have h1 := (h (fun c => (decide (4 ^ (g * p) ≤ c)).toNat)).trans (RS_code hg hg4)
  have h2 := sm_0 h1 z hz
  by_cases q : 4 ^ (g * p) ≤ f z
  · simp [q] at h2
  · omega
theorem rep_31 {f : Nat → Nat} {n g p : Nat} {rg bd : Nat → Nat} {ab ob : Nat → Bool} {S : Nat → Int32} (hg : 0 < g) (hg4 : g ≤ 4) (hT : g * p ≤ 9) (h : RepF f n g p rg bd ab ob S) : ∀ z, z < n → f z < 2 ^ 31 := fun z hz => by
  have h1 := rep_lt hg hg4 h z hz
  have h2 := q_pow4 hT
  omega
theorem rep_n {f : Nat → Nat} {n g p : Nat} {rg bd : Nat → Nat} {ab ob : Nat → Bool} {S : Nat → Int32} (h : RepF f n g p rg bd ab ob S) : n = rsN g p rg bd ab ob S := by
  have h1 := h (fun _ => 1)
  simp only [sm_one] at h1
  exact h1
theorem rep_ev {f : Nat → Nat} {n g p : Nat} {rg bd : Nat → Nat} {ab ob : Nat → Bool} {S : Nat → Int32} (h : RepF f n g p rg bd ab ob S) (t k : Nat) : ct (fun z => decide (gr (f z) t = k)) n = evN g p rg bd ab ob S t k := h (fun c => (decide (gr c t = k)).toNat)
theorem mnR_spec (h : Nat → Nat) : ∀ n, 0 < n → (∀ z, z < n → mnR h n ≤ h z) ∧ ∃ z, z < n ∧ h z = mnR h n := by
  intro n
  induction n with
  | zero => intro q; omega
  | succ n ih =>
    intro _
    simp only [mnR]
    by_cases q : n = 0
    · subst q; rw [if_pos rfl]; exact ⟨fun z hz => by rw [show z = 0 by omega]; exact Nat.le_refl _, 0, by omega, rfl⟩
    · rw [if_neg q]
      obtain ⟨h1, z, h2, h3⟩ := ih (by omega)
      refine ⟨fun y hy => ?_, ?_⟩
      · by_cases e : y = n
        · subst e; omega
        · have := h1 y (by omega); omega
      · by_cases e : mnR h n ≤ h n
        · exact ⟨z, by omega, by omega⟩
        · exact ⟨n, by omega, by omega⟩
/-- the class's way to the lowest group -/
theorem rep_low {f : Nat → Nat} {n g p : Nat} {rg bd : Nat → Nat} {ab ob : Nat → Bool} {S : Nat → Int32} (hg : 0 < g) (hg4 : g ≤ 4) (h : RepF f n g p rg bd ab ob S) (hn : 0 < n) {t : Nat} (ht : t < g * p) :
    lowC g p rg bd ab ob S t = mnR (fun z => gr (f z) t) n ∧ lowC g p rg bd ab ob S t < g ∧ 0 < evN g p rg bd ab ob S t (lowC g p rg bd ab ob S t) := by
  obtain ⟨h1, z, h2, h3⟩ := mnR_spec (fun z => gr (f z) t) n hn
  have h4 := (rep_el hg hg4 h z h2).1 t ht
  have h5 : 0 < evN g p rg bd ab ob S t (mnR (fun z => gr (f z) t) n) := by
    rw [← rep_ev h]
    exact ct_lt h2 (by simp [h3])
  have e : lowC g p rg bd ab ob S t = mnR (fun z => gr (f z) t) n := by
    refine fstN_eq (by omega) (fun j hj => ?_) (fun _ => h5)
    rw [← rep_ev h]
    refine sm_zero (fun y hy => ?_)
    have h6 := h1 y hy
    have h7 : ¬ gr (f y) t = j := by omega
    simp [h7]
  rw [e]
  exact ⟨rfl, by omega, h5⟩
theorem Ext_1 {T : Nat} {S : Nat → Int32} {t : Nat} (h : S t = -1) (v : Int32) : Ext T S (upd S t v) := (Ext.refl T S).upd h v
/-- the open results behind a ball -/
theorem RS_draw {g p : Nat} {rg bd : Nat → Nat} {ab ob : Nat → Bool} {S : Nat → Int32} (hg : 0 < g) (hg4 : g ≤ 4) {t k : Nat} (ht : t < g * p) (hs : S t = -1) (hk : k < 2 ^ 31) (w : Nat → Nat) :
    RS g p rg bd ab ob (upd S t (nI k)) w = RS g p rg bd ab ob S (wIf (fun z => decide (gr z t = k)) w) := by
  rw [RS_ext hg hg4 (Ext_1 hs (nI k)) w, RS_ext hg hg4 (Ext.refl _ S) (wIf (fun z => decide (gr z t = k)) w)]
  refine RS_congr (fun c => ?_)
  rw [consC_upd ht hs hk]
  by_cases h1 : consC (g * p) S c = true <;> by_cases h2 : gr c t = k <;> simp [wIf, h1, h2]
theorem rep_draw {f fq : Nat → Nat} {n k g p : Nat} {rg bd : Nat → Nat} {ab ob : Nat → Bool} {S : Nat → Int32} (hg : 0 < g) (hg4 : g ≤ 4) (h : RepF f n g p rg bd ab ob S) {t v : Nat} (ht : t < g * p) (hs : S t = -1) (hv : v < 2 ^ 31)
    (h2 : ∀ w : Nat → Nat, sm (fun z => w (fq z)) k = sm (fun z => wIf (fun z => decide (gr z t = v)) w (f z)) n) : RepF fq k g p rg bd ab ob (upd S t (nI v)) := by
  intro w
  rw [RS_draw hg hg4 ht hs hv w, ← h]
  exact h2 w
theorem rep_same {f fq : Nat → Nat} {n g p : Nat} {rg bd : Nat → Nat} {ab ob : Nat → Bool} {S : Nat → Int32} (h : RepF f n g p rg bd ab ob S) (h2 : sameR fq f n) : RepF fq n g p rg bd ab ob S := fun w => (h2 w).trans (h w)
theorem rep_draw_pos {g p : Nat} {rg bd : Nat → Nat} {ab ob : Nat → Bool} {S : Nat → Int32} (hg : 0 < g) (hg4 : g ≤ 4) {t v : Nat} (ht : t < g * p) (hs : S t = -1) (hv : v < 2 ^ 31) (he : 0 < evN g p rg bd ab ob S t v) : 0 < rsN g p rg bd ab ob (upd S t (nI v)) := by
  unfold rsN
  rw [RS_draw hg hg4 ht hs hv]
  have e : RS g p rg bd ab ob S (wIf (fun z => decide (gr z t = v)) (fun _ => 1)) = evN g p rg bd ab ob S t v := RS_congr (fun c => by by_cases h : gr c t = v <;> simp [wIf, h])
  rw [e]; exact he
/-- the results of all orders from here on, by a weight -/
def EOS (g p : Nat) (rg bd : Nat → Nat) (ab ob : Nat → Bool) (w : Nat → Nat) (S : Nat → Int32) (d : Nat) : Nat :=
  sm (fun m => w (cdE (g * p) (finS g (lowC g p rg bd ab ob) (g * p - d) d S m))) (ordD g d p)
def nxS (g p : Nat) (rg bd : Nat → Nat) (ab ob : Nat → Bool) (S : Nat → Int32) (d j : Nat) : Nat → Int32 :=
  upd S (balT S g (d / g) j) (nI (lowC g p rg bd ab ob S (balT S g (d / g) j)))
theorem EOS_s {g p : Nat} {rg bd : Nat → Nat} {ab ob : Nat → Bool} {w : Nat → Nat} {S : Nat → Int32} {d : Nat} (hg : 0 < g) (hd : d < g * p) :
    EOS g p rg bd ab ob w S d = sm (fun j => EOS g p rg bd ab ob w (nxS g p rg bd ab ob S d j) (d + 1)) (g - d % g) := by
  unfold EOS
  rw [ordD_s hg p hd, sm_mul]
  refine sm_congr (fun j hj => sm_congr (fun i _ => ?_))
  have hL := Nat.mod_lt d hg
  have e1 : (j + (g - d % g) * i) % (g - d % g) = j := by rw [Nat.add_mul_mod_self_left, Nat.mod_eq_of_lt hj]
  have e2 : (j + (g - d % g) * i) / (g - d % g) = i := by rw [Nat.add_mul_div_left _ _ (by omega), Nat.div_eq_of_lt hj, Nat.zero_add]
  obtain ⟨f, hf⟩ : ∃ f, g * p - d = f + 1 := ⟨g * p - d - 1, by omega⟩
  rw [hf, show g * p - (d + 1) = f by omega]
  simp only [finS]
  rw [e1, e2]
  rfl
theorem EOS_0 {g p : Nat} {rg bd : Nat → Nat} {ab ob : Nat → Bool} {w : Nat → Nat} {S : Nat → Int32} {d : Nat} (hd : g * p ≤ d) : EOS g p rg bd ab ob w S d = w (cdE (g * p) S) := by
  unfold EOS
  rw [ordD_1 p hd, show g * p - d = 0 by omega]
  simp [sm, finS]
/-- all drawn: the one result that is open -/
theorem last_code {f : Nat → Nat} {n g p d : Nat} {rg bd : Nat → Nat} {ab ob : Nat → Bool} {S : Nat → Int32} (hg : 0 < g) (hg4 : g ≤ 4) (h : RepF f n g p rg bd ab ob S) (hn : 0 < n) (hV : VS g p d S) (hd : g * p ≤ d) : f 0 = cdE (g * p) S := by
  have h1 := rep_el hg hg4 h 0 hn
  have h2 := rep_lt hg hg4 h 0 hn
  have h3 : cdF (gr (f 0)) (g * p) = f 0 := by rw [cdF_mod, Nat.mod_eq_of_lt h2]
  rw [← h3]
  refine cdF_congr (fun t ht => ?_)
  have h4 := h1.2
  unfold consC at h4
  rw [allB_iff] at h4
  have h5 := h4 t ht
  have h6 : ¬ S t = -1 := by
    intro q
    have h7 := hV (t / g) (pot_lt hg ht)
    have h8 := pot_in t hg
    have h10 : g * (t / g + 1) ≤ g * p := Nat.mul_le_mul_left g (pot_lt hg ht)
    rw [show min g (g * (t / g + 1) - d) = 0 by omega] at h7
    have h9 : 0 < ct (unP S (g * (t / g))) g := ct_lt (i := t - g * (t / g)) (by omega) (by simp only [unP]; rw [show g * (t / g) + (t - g * (t / g)) = t by omega]; simp [q])
    omega
  simp only [h6, decide_false, Bool.false_or, decide_eq_true_eq] at h5
  rw [h5]
  have h11 := gr_lt (f 0) t
  exact (tnI_nI (by omega)).symm
/-- the pot of the moment, and how many are left in it -/
theorem pot_fst {g p d : Nat} {S : Nat → Int32} (hg : 0 < g) (hV : VS g p d S) (hd : d < g * p) : fstN (clN S g) p 0 = d / g ∧ d / g < p ∧ clN S g (d / g) = g - d % g := by
  have h1 := pot_lt hg hd
  have h2 := VS_cnt hg hV hd
  have h3 := pot_in d hg
  have hL := Nat.mod_lt d hg
  refine ⟨fstN_eq (by omega) (fun j hj => ?_) (fun _ => ?_), h1, h2⟩
  · have h4 := hV j (by omega)
    have h5 : g * (j + 1) ≤ g * (d / g) := Nat.mul_le_mul_left g hj
    have e : clN S g j = ct (unP S (g * j)) g := rfl
    rw [e, h4]; omega
  · have e : clN S g (d / g) = ct (unP S (g * (d / g))) g := rfl
    rw [e, h2]; omega
theorem pot_full {g p d : Nat} {S : Nat → Int32} (hg : 0 < g) (hV : VS g p d S) (hd : g * p ≤ d) : fstN (clN S g) p 0 = p :=
  fstN_eq (Nat.le_refl _) (fun j hj => by
    have h4 := hV j hj
    have h5 : g * (j + 1) ≤ g * p := Nat.mul_le_mul_left g hj
    have e : clN S g j = ct (unP S (g * j)) g := rfl
    rw [e, h4]; omega) (fun h => absurd h (Nat.lt_irrefl _))
theorem leF_eq {g p d : Nat} {S : Nat → Int32} (hg : 0 < g) (hV : VS g p d S) (hd : d ≤ g * p) : leF S g p = leN d g p := by
  unfold leF leN
  by_cases c : d = g * p
  · rw [if_pos c, pot_full hg hV (by omega), if_neg (by omega)]
  · rw [if_neg c]
    have h1 := pot_fst hg hV (by omega)
    rw [h1.1, if_pos h1.2.1, h1.2.2]
theorem poF_eq {g p d : Nat} {S : Nat → Int32} (hg : 0 < g) (hV : VS g p d S) (hd : d ≤ g * p) : poF S g p = poR d g p := by
  unfold poF poR
  rw [lowR_fst, Nat.zero_add]
  by_cases c : d = g * p
  · rw [if_pos c, pot_full hg hV (by omega), if_neg (by omega)]
  · rw [if_neg c]
    have h1 := pot_fst hg hV (by omega)
    rw [h1.1, if_pos h1.2.1]
theorem fbR_eq {g p d k : Nat} {S : Nat → Int32} (hg : 0 < g) (hT : g * p ≤ 9) (hV : VS g p d S) (hd : d < g * p) (hk : k < g - d % g) : fbR S g p (nI k) = nI (balT S g (d / g) k) := by
  have h1 := pot_fst hg hV hd
  unfold fbR
  have h2 : g * p < 2 ^ 31 := by omega
  have h3 : d / g < p := pot_lt hg hd
  have hg9 : g ≤ 9 := by
    rcases Nat.eq_zero_or_pos p with q | q
    · omega
    · have := Nat.le_mul_of_pos_right g q; omega
  rw [h1.1, if_pos ⟨h1.2.1, nI_pos (by omega)⟩, tnI_nI (by omega)]
  exact (ball_ok hg hV hd hT hk).2.2.2.2
