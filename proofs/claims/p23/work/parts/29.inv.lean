/-! own rows: what stands between two calls of the law -/
def LG (g p : Nat) : Prop := (2 ≤ g ∧ g ≤ 4) ∧ (2 ≤ p ∧ p ≤ 3) ∧ g * p ≤ 9
def LU (g p : Nat) (rg bd : Nat → Nat) (ab ob : Nat → Bool) (ap od pm mb : Nat → Nat) : Prop :=
  (∀ z, z < 9 → rg z < 6) ∧ (∀ z, z < 6 → bd z < 4) ∧ RelR ap od ab ob ∧ (∀ z, ap z < 512) ∧ (∀ z, od z < 512) ∧ (∀ z, z < g * p → pm z = pmN g z) ∧ ∀ z, z < 4 → mb z = 0
def Hst (g p : Nat) (rg bd : Nat → Nat) (ab ob : Nat → Bool) (f dt ob9 : Nat → Nat) : Nat → Nat → (Nat → Int32) → Prop
  | 0, _, _ => True
  | d + 1, n, S => n ≤ ob9 d ∧ (dt d < g * p ∧ VS g p d (upd S (dt d) (-1)) ∧ RepF f (ob9 d) g p rg bd ab ob (upd S (dt d) (-1)) ∧ ob9 d ≤ 576) ∧ Hst g p rg bd ab ob f dt ob9 d (ob9 d) (upd S (dt d) (-1))
theorem RepF_same {f f2 : Nat → Nat} {n g p : Nat} {rg bd : Nat → Nat} {ab ob : Nat → Bool} {S : Nat → Int32} (h : RepF f n g p rg bd ab ob S) (hs : sameR f2 f n) : RepF f2 n g p rg bd ab ob S := fun w => (hs w).trans (h w)
theorem Hst_congr {g p : Nat} {rg bd : Nat → Nat} {ab ob : Nat → Bool} {f f2 dt dt2 ob9 ob2 : Nat → Nat} : ∀ {d n : Nat} {S : Nat → Int32}, (∀ z, z < d → dt2 z = dt z) → (∀ z, z < d → ob2 z = ob9 z) → (∀ N, n ≤ N → sameR f2 f N) → Hst g p rg bd ab ob f dt ob9 d n S → Hst g p rg bd ab ob f2 dt2 ob2 d n S := by
  intro d
  induction d with
  | zero => intros; trivial
  | succ d ih =>
    intro n S h1 h2 h3 h
    obtain ⟨a1, ⟨a2, a3, a4, a5⟩, a6⟩ := h
    have e1 := h1 d (Nat.lt_succ_self d)
    have e2 := h2 d (Nat.lt_succ_self d)
    refine ⟨by rw [e2]; exact a1, ⟨by rw [e1]; exact a2, by rw [e1]; exact a3, ?_, by rw [e2]; exact a5⟩, ?_⟩
    · rw [e1, e2]; exact RepF_same a4 (h3 _ a1)
    · rw [e1, e2]
      exact ih (fun z hz => h1 z (by omega)) (fun z hz => h2 z (by omega)) (fun N hN => h3 N (by omega)) a6
def LSt (g p dm : Nat) (rg bd : Nat → Nat) (ab ob : Nat → Bool) (S : Nat → Int32) (fo : Bool) (n : Nat) (f dt ob9 dtm : Nat → Nat) : Prop :=
  (VS g p dm S ∧ dm ≤ g * p) ∧ (∀ z, z < dm → dtm z = dt z) ∧ Hst g p rg bd ab ob f dt ob9 dm n S ∧ (fo = true → RepF f n g p rg bd ab ob S ∧ n ≤ 576) ∧ (fo = false → dm = 0)
def LMo (rm : Nat) (rs rw dtm : Nat → Nat) : Prop := rm ≤ 576 ∧ (∀ z, rs z < 4) ∧ (∀ z, rw z < 4) ∧ ∀ z, z < 9 → dtm z < 9
def LEn (g p dm : Nat) (rg bd : Nat → Nat) (ab ob : Nat → Bool) (S : Nat → Int32) (fe : Bool) (ne : Nat) (fl : Nat → Nat) : Prop := fe = true → EndR fl ne g p rg bd ab ob S dm
theorem LI_ext {g p : Nat} {rg bd : Nat → Nat} {ab ob : Nat → Bool} {ap od pm mb : Nat → Nat} (hG : LG g p) (hU : LU g p rg bd ab ob ap od pm mb) : extN g rg bd ap od (g * p) 0 0 (fun _ => 1) ≤ 576 :=
  ext_le hG.1.1 hG.1.2 hG.2.1.1 hG.2.1.2 hG.2.2 hU.2.2.1
theorem VS_m1 {g p : Nat} {S : Nat → Int32} (hg : 0 < g) (h : VS g p 0 S) : ∀ t, t < g * p → S t = -1 := by
  intro t ht
  have h1 := h (t / g) (pot_lt hg ht)
  have h2 := pot_in t hg
  have h3 : g ≤ g * (t / g + 1) := Nat.le_mul_of_pos_right g (Nat.succ_pos _)
  rw [show min g (g * (t / g + 1) - 0) = g by omega] at h1
  have h5 : ∀ k, ct (unP S (g * (t / g))) k ≤ k := fun k => ct_le _ _
  by_cases q : unP S (g * (t / g)) (t - g * (t / g)) = true
  · simp only [unP, decide_eq_true_eq] at q
    rw [show g * (t / g) + (t - g * (t / g)) = t by omega] at q
    exact q
  · have q : unP S (g * (t / g)) (t - g * (t / g)) = false := by simpa using q
    have h6 : ∀ k, t - g * (t / g) < k → ct (unP S (g * (t / g))) k < k := by
      intro k
      induction k with
      | zero => intro hk; exact absurd hk (Nat.not_lt_zero _)
      | succ k ih =>
        intro hk
        by_cases e : t - g * (t / g) = k
        · rw [← e, ct_f q]; have := h5 (t - g * (t / g)); omega
        · have := ih (by omega); rw [ct_s]; cases unP S (g * (t / g)) k <;> simp only [Bool.toNat_false, Bool.toNat_true] <;> omega
    have := h6 g (by omega)
    omega
theorem RS_S {g p : Nat} {rg bd : Nat → Nat} {ab ob : Nat → Bool} {S : Nat → Int32} (h : ∀ t, t < g * p → S t = -1) (w : Nat → Nat) : RS g p rg bd ab ob (fun _ => -1) w = RS g p rg bd ab ob S w := by
  unfold RS
  refine sm_congr (fun m _ => ?_)
  rw [lawB_split _ _ _ _ _ S]
  have e : consR (g * p) S (rowN g m) = true := by
    unfold consR
    rw [allB_iff]
    intro t ht
    simp [h t ht]
  rw [e, Bool.and_true]
theorem LI_rn {g p dm : Nat} {rg bd : Nat → Nat} {ab ob : Nat → Bool} {S : Nat → Int32} {ap od pm mb : Nat → Nat} {fo : Bool} {n : Nat} {f dt ob9 dtm : Nat → Nat} (hG : LG g p) (hU : LU g p rg bd ab ob ap od pm mb) (hS : LSt g p dm rg bd ab ob S fo n f dt ob9 dtm) (h : fo = false) (w : Nat → Nat) :
    extN g rg bd ap od (g * p) 0 0 w = RS g p rg bd ab ob S w := by
  have h0 := hS.2.2.2.2 h
  subst h0
  have hg : 0 < g := by have := hG.1.1; omega
  rw [ext_RS hG.1.1 hG.1.2 hG.2.2 hU.2.2.1, RS_S (VS_m1 hg hS.1.1)]
/-- the open list was laid, or stood -/
theorem LS_open {g p dm : Nat} {rg bd : Nat → Nat} {ab ob : Nat → Bool} {S : Nat → Int32} {fo : Bool} {n k : Nat} {f fq dt ob9 dtm : Nat → Nat} (hS : LSt g p dm rg bd ab ob S fo n f dt ob9 dtm) (h1 : RepF fq k g p rg bd ab ob S ∧ k ≤ 576) (h2 : fo = true → fq = f ∧ k = n) :
    LSt g p dm rg bd ab ob S true k fq dt ob9 dtm := by
  obtain ⟨a1, a2, a3, a4, a5⟩ := hS
  refine ⟨a1, a2, ?_, fun _ => h1, fun q => by cases q⟩
  cases fo with
  | true =>
    obtain ⟨rfl, rfl⟩ := h2 rfl
    exact a3
  | false =>
    have h0 := a5 rfl
    subst h0
    trivial
theorem LS_end {g p dm : Nat} {rg bd : Nat → Nat} {ab ob : Nat → Bool} {S : Nat → Int32} {fo fe fo2 : Bool} {n k ne ne2 : Nat} {f fq dt ob9 dtm dt2 ob2 fl fl2 : Nat → Nat} (hS : LSt g p dm rg bd ab ob S fo n f dt ob9 dtm)
    (ha : fe = true → fo2 = fo ∧ fq = f ∧ k = n ∧ fl2 = fl ∧ ne2 = ne ∧ dt2 = dt ∧ ob2 = ob9)
    (hb : fe = false → fo2 = true ∧ (RepF fq k g p rg bd ab ob S ∧ k ≤ 576) ∧ (fo = true → k = n ∧ ∀ N, n ≤ N → sameR fq f N) ∧ (∀ z, z < dm → dt2 z = dt z ∧ ob2 z = ob9 z) ∧ EndR fl2 ne2 g p rg bd ab ob S dm) :
    LSt g p dm rg bd ab ob S fo2 k fq dt2 ob2 dtm := by
  cases fe with
  | true =>
    obtain ⟨rfl, rfl, rfl, rfl, rfl, rfl, rfl⟩ := ha rfl
    exact hS
  | false =>
    obtain ⟨rfl, b1, b2, b3, b4⟩ := hb rfl
    obtain ⟨a1, a2, a3, a4, a5⟩ := hS
    refine ⟨a1, fun z hz => (a2 z hz).trans (b3 z hz).1.symm, ?_, fun _ => b1, fun q => by cases q⟩
    cases fo with
    | true =>
      obtain ⟨rfl, h2⟩ := b2 rfl
      exact Hst_congr (fun z hz => (b3 z hz).1) (fun z hz => (b3 z hz).2) h2 a3
    | false =>
      have h0 := a5 rfl
      subst h0
      trivial
theorem LS_draw {g p dm : Nat} {rg bd : Nat → Nat} {ab ob : Nat → Bool} {S : Nat → Int32} {fo : Bool} {n n1 k t : Nat} {v : Int32} {f f1 fq dt ob9 dtm : Nat → Nat} (hg : 0 < g) (hS : LSt g p dm rg bd ab ob S fo n f dt ob9 dtm) (hd : dm < g * p) (ht : t < g * p) (hts : S t = -1) (h1 : g * (dm / g) ≤ t) (h2 : t < g * (dm / g) + g) (hv : v ≠ -1)
    (h4 : (RepF f1 n1 g p rg bd ab ob S ∧ n1 ≤ 576) ∧ (fo = true → f1 = f ∧ n1 = n)) (h5 : k ≤ n1 ∧ RepF fq k g p rg bd ab ob (upd S t v) ∧ ∀ N, n1 ≤ N → sameR fq f1 N) :
    LSt g p (dm + 1) rg bd ab ob (upd S t v) true k fq (updN dt dm t) (updN ob9 dm n1) (updN dtm dm t) := by
  have h6 := LS_open hS h4.1 h4.2
  obtain ⟨a1, a2, a3, a4, a5⟩ := h6
  have eS : upd (upd S t v) t (-1) = S := by
    funext z
    by_cases q : z = t
    · rw [q, hts]; simp [upd]
    · simp [upd, q]
  refine ⟨⟨VS_step hg a1.1 hd h1 h2 hts hv, hd⟩, fun z hz => ?_, ⟨?_, ⟨?_, ?_, ?_, ?_⟩, ?_⟩, fun _ => ⟨h5.2.1, by omega⟩, fun q => by cases q⟩
  · by_cases q : z = dm
    · subst q; rw [updN_s, updN_s]
    · rw [updN_n q, updN_n q]; exact a2 z (by omega)
  · rw [updN_s]; exact h5.1
  · rw [updN_s]; exact ht
  · rw [updN_s, eS]; exact a1.1
  · rw [updN_s, updN_s, eS]; exact RepF_same h4.1.1 (h5.2.2 _ (Nat.le_refl _))
  · rw [updN_s]; exact h4.1.2
  · rw [updN_s, updN_s, eS]
    exact Hst_congr (fun z hz => updN_n (by omega)) (fun z hz => updN_n (by omega)) h5.2.2 a3
theorem LS_undo {g p dm : Nat} {rg bd : Nat → Nat} {ab ob : Nat → Bool} {S : Nat → Int32} {fo : Bool} {n : Nat} {f dt ob9 dtm : Nat → Nat} (hS : LSt g p dm rg bd ab ob S fo n f dt ob9 dtm) (hd : 0 < dm) :
    LSt g p (dm - 1) rg bd ab ob (upd S (dt (dm - 1)) (-1)) fo (ob9 (dm - 1)) f dt ob9 dtm := by
  obtain ⟨d, rfl⟩ : ∃ d, dm = d + 1 := ⟨dm - 1, by omega⟩
  obtain ⟨a1, a2, a3, a4, a5⟩ := hS
  obtain ⟨b1, ⟨b2, b3, b4, b5⟩, b6⟩ := a3
  rw [Nat.add_sub_cancel]
  exact ⟨⟨b3, by omega⟩, fun z hz => a2 z (by omega), b6, fun _ => ⟨b4, b5⟩, fun q => absurd (a5 q) (by omega)⟩
theorem LS_dt {g p dm : Nat} {rg bd : Nat → Nat} {ab ob : Nat → Bool} {S : Nat → Int32} {fo : Bool} {n : Nat} {f dt ob9 dtm : Nat → Nat} (hS : LSt g p dm rg bd ab ob S fo n f dt ob9 dtm) (hT : g * p ≤ 9) (hd : 0 < dm) : dt (dm - 1) < 9 := by
  obtain ⟨d, rfl⟩ : ∃ d, dm = d + 1 := ⟨dm - 1, by omega⟩
  have := hS.2.2.1.2.1.1
  rw [Nat.add_sub_cancel]
  omega
/-- rules changed, or a new bowl: nothing is drawn, and the list is to be laid anew -/
theorem LS_new {g p : Nat} {rg bd : Nat → Nat} {ab ob : Nat → Bool} {S : Nat → Int32} {n : Nat} {f dt ob9 dtm : Nat → Nat} (hV : VS g p 0 S) : LSt g p 0 rg bd ab ob S false n f dt ob9 dtm :=
  ⟨⟨hV, Nat.zero_le _⟩, fun z hz => absurd hz (Nat.not_lt_zero z), trivial, fun q => (by cases q), fun _ => rfl⟩
theorem VS_0 (g p : Nat) : VS g p 0 (fun _ => -1) := by
  intro q hq
  have h1 : ct (unP (fun _ => -1) (g * q)) g = g := by
    rw [show ct (unP (fun _ => -1) (g * q)) g = ct (fun _ => true) g from ct_congr (fun z _ => by simp [unP])]
    exact sm_one g
  rw [h1]
  have h3 : g ≤ g * (q + 1) := Nat.le_mul_of_pos_right g (Nat.succ_pos _)
  omega
theorem pair_idx {t o a b : Nat} (ho : o < 9) (hb : b < 9) : 9 * a + b = 9 * t + o ↔ a = t ∧ b = o := by omega
theorem updB2 {ab : Nat → Bool} {t o a b : Nat} {bv : Bool} (ht : t < 9) (ho : o < 9) (hb : b < 9) : updB (updB ab (9 * t + o) bv) (9 * o + t) bv (9 * a + b) = if (a = t ∧ b = o) ∨ (a = o ∧ b = t) then bv else ab (9 * a + b) := by
  unfold updB
  by_cases h1 : a = o ∧ b = t
  · rw [if_pos ((pair_idx ht hb).mpr h1), if_pos (Or.inr h1)]
  · rw [if_neg (fun q => h1 ((pair_idx ht hb).mp q))]
    by_cases h2 : a = t ∧ b = o
    · rw [if_pos ((pair_idx ho hb).mpr h2), if_pos (Or.inl h2)]
    · rw [if_neg (fun q => h2 ((pair_idx ho hb).mp q)), if_neg (fun q => q.elim h2 h1)]
theorem Rel_a {ap od : Nat → Nat} {ab ob : Nat → Bool} {t o : Nat} (bv : Bool) (h : RelR ap od ab ob) (h9 : ∀ z, ap z < 512) (ht : t < 9) (ho : o < 9) (hto : t ≠ o) : RelR (spB bv ap t o) od (updB (updB ab (9 * t + o) bv) (9 * o + t) bv) ob := by
  refine ⟨fun a ha b hb => ?_, h.o, fun a ha b hb => ?_, h.so, fun a ha => ?_, h.dO, fun a _ => spB_lt h9 ht ho a, h.lo⟩
  · rw [spB_tb h9 ht ho hto a b hb, updB2 ht ho hb, h.a a ha b hb]
  · rw [updB2 ht ho hb, updB2 ht ho ha, h.sa a ha b hb]
    by_cases q : (a = t ∧ b = o) ∨ (a = o ∧ b = t)
    · rw [if_pos q, if_pos (by omega)]
    · rw [if_neg q, if_neg (by omega)]
  · rw [updB2 ht ho ha, if_neg (by omega), h.da a ha]
theorem Rel_o {ap od : Nat → Nat} {ab ob : Nat → Bool} {t o : Nat} (bv : Bool) (h : RelR ap od ab ob) (h9 : ∀ z, od z < 512) (ht : t < 9) (ho : o < 9) (hto : t ≠ o) : RelR ap (spB bv od t o) ab (updB (updB ob (9 * t + o) bv) (9 * o + t) bv) := by
  refine ⟨h.a, fun a ha b hb => ?_, h.sa, fun a ha b hb => ?_, h.da, fun a ha => ?_, h.la, fun a _ => spB_lt h9 ht ho a⟩
  · rw [spB_tb h9 ht ho hto a b hb, updB2 ht ho hb, h.o a ha b hb]
  · rw [updB2 ht ho hb, updB2 ht ho ha, h.so a ha b hb]
    by_cases q : (a = t ∧ b = o) ∨ (a = o ∧ b = t)
    · rw [if_pos q, if_pos (by omega)]
    · rw [if_neg q, if_neg (by omega)]
  · rw [updB2 ht ho ha, if_neg (by omega), h.dO a ha]
theorem LU_a {g p : Nat} {rg bd : Nat → Nat} {ab ob : Nat → Bool} {ap od pm mb : Nat → Nat} {t o : Nat} (bv : Bool) (h : LU g p rg bd ab ob ap od pm mb) (ht : t < 9) (ho : o < 9) (hto : t ≠ o) : LU g p rg bd (updB (updB ab (9 * t + o) bv) (9 * o + t) bv) ob (spB bv ap t o) od pm mb :=
  ⟨h.1, h.2.1, Rel_a bv h.2.2.1 h.2.2.2.1 ht ho hto, spB_lt h.2.2.2.1 ht ho, h.2.2.2.2⟩
theorem LU_o {g p : Nat} {rg bd : Nat → Nat} {ab ob : Nat → Bool} {ap od pm mb : Nat → Nat} {t o : Nat} (bv : Bool) (h : LU g p rg bd ab ob ap od pm mb) (ht : t < 9) (ho : o < 9) (hto : t ≠ o) : LU g p rg bd ab (updB (updB ob (9 * t + o) bv) (9 * o + t) bv) ap (spB bv od t o) pm mb :=
  ⟨h.1, h.2.1, Rel_o bv h.2.2.1 h.2.2.2.2.1 ht ho hto, h.2.2.2.1, spB_lt h.2.2.2.2.1 ht ho, h.2.2.2.2.2⟩
theorem Rel_0 : RelR (fun _ => 0) (fun _ => 0) (fun _ => false) (fun _ => false) := ⟨fun t _ o _ => Nat.zero_testBit o, fun t _ o _ => Nat.zero_testBit o, fun _ _ _ _ => rfl, fun _ _ _ _ => rfl, fun _ _ => rfl, fun _ _ => rfl, fun _ _ => (show 0 < 512 from by decide), fun _ _ => (show 0 < 512 from by decide)⟩
theorem LU_0 {g p : Nat} {pm mb : Nat → Nat} (hp : ∀ z, z < g * p → pm z = pmN g z) (hm : ∀ z, z < 4 → mb z = 0) : LU g p (fun _ => 0) (fun _ => 3) (fun _ => false) (fun _ => false) (fun _ => 0) (fun _ => 0) pm mb :=
  ⟨fun _ _ => (show 0 < 6 from by decide), fun _ _ => (show 3 < 4 from by decide), Rel_0, fun _ => (show 0 < 512 from by decide), fun _ => (show 0 < 512 from by decide), hp, hm⟩
theorem LU_r {g p : Nat} {rg bd : Nat → Nat} {ab ob : Nat → Bool} {ap od pm mb : Nat → Nat} {t v : Nat} (h : LU g p rg bd ab ob ap od pm mb) (hv : v ≤ 5) : LU g p (updN rg t v) bd ab ob ap od pm mb :=
  ⟨fun z hz => by
    by_cases q : z = t
    · rw [q, updN_s]; omega
    · rw [updN_n q]; exact h.1 z hz, h.2⟩
theorem LU_b {g p : Nat} {rg bd : Nat → Nat} {ab ob : Nat → Bool} {ap od pm mb : Nat → Nat} {t v : Nat} (h : LU g p rg bd ab ob ap od pm mb) (hv : v ≤ 3) : LU g p rg (updN bd t v) ab ob ap od pm mb :=
  ⟨h.1, fun z hz => by
    by_cases q : z = t
    · rw [q, updN_s]; omega
    · rw [updN_n q]; exact h.2.1 z hz, h.2.2⟩
