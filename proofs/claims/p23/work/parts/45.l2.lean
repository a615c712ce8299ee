/-! own rows: the law's own draw -/
def QM (g : Nat) (qm : Nat → Nat) : Prop := ∀ i, i < g → ∀ j, j < 4 → qm (4 * i + j) = mkN (fun o => decide (atN g o i = j)) (fac g)
def WM (g p : Nat) (rg bd : Nat → Nat) (ab ob : Nat → Bool) (wm : Nat → Nat) : Prop := ∀ k, k < fac g ^ (p - 1) → wm k = mkN (fun o => LMb g p rg bd ab ob (k + fac g ^ (p - 1) * o)) (fac g)
def MM (g p : Nat) (S : Nat → Int32) (mm : Nat → Nat) : Prop := ∀ j, j < p → mm j = mkN (potA g S j) (fac g)
def potI (g : Nat) (S : Nat → Int32) (q i o : Nat) : Bool := allB (fun i => decide (S (g * q + i) = -1) || decide (S (g * q + i) = nI (atN g o i))) i
def ordB (g p : Nat) (S : Nat → Int32) (q o : Nat) : Bool := !(decide (q < p)) || potA g S q o
def layM (g p : Nat) (S : Nat → Int32) : Nat → Nat := fun j => mkN (ordB g p S j) (fac g)
theorem lay_MM (g p : Nat) (S : Nat → Int32) : MM g p S (layM g p S) := fun j hj => mkN_congr (fun o _ => by simp [ordB, hj])
theorem ord_1 {g q i f : Nat} {S : Nat → Int32} (h : S (g * q + i) = -1) : lN (mkN (potI g S q i) f) &&& lN (mkN (potI g S q i) f) = lN (mkN (potI g S q (i + 1)) f) := by
  rw [l_and, Nat.and_self]
  refine congrArg lN (mkN_congr (fun o _ => ?_))
  show _ = (potI g S q i o && (decide (S (g * q + i) = -1) || decide (S (g * q + i) = nI (atN g o i))))
  rw [h]
  simp
theorem ord_2 {g q i f k : Nat} {S : Nat → Int32} (h : S (g * q + i) = nI k) (hk : k < 4) (ha : ∀ o, o < f → atN g o i < 4) : lN (mkN (potI g S q i) f) &&& lN (mkN (fun o => decide (atN g o i = k)) f) = lN (mkN (potI g S q (i + 1)) f) := by
  rw [l_and, mkN_and]
  refine congrArg lN (mkN_congr (fun o ho => ?_))
  show _ = (potI g S q i o && (decide (S (g * q + i) = -1) || decide (S (g * q + i) = nI (atN g o i))))
  have h4 := ha o ho
  have e1 : decide (nI k = -1) = false := decide_eq_false (nI_nm1 (by omega))
  have e2 : decide (nI k = nI (atN g o i)) = decide (atN g o i = k) := decide_eq_decide.mpr ((nI_eq (by omega) (by omega)).trans eq_comm)
  rw [h, e1, e2, Bool.false_or]
theorem ord_end {g p q i : Nat} {S : Nat → Int32} (hE : i = g) (hq : q < p) : lN (mkN (potI g S q i) (fac g)) = lN (mkN (ordB g p S q) (fac g)) := by
  subst hE
  refine congrArg lN (mkN_congr (fun o _ => ?_))
  show potA i S q o = _
  simp [ordB, hq]
theorem ord_no {g p q i : Nat} {S : Nat → Int32} (hE : i = 0) (hq : p ≤ q) : lN (mkN (potI g S q i) (fac g)) = lN (mkN (ordB g p S q) (fac g)) := by
  subst hE
  refine congrArg lN (mkN_congr (fun o _ => ?_))
  show true = _
  simp [ordB, show ¬ q < p by omega]
theorem m_extDl {a q0 : Nat} {cA : ClassId} {N : Nat} {f g : Nat → Int64} {ws0 : va_W} {A : Nat → Prop} (hD : va_D A ws0) (ha : ws0[q0]? = some (a, .inl (cA, N, .inr (.inl f)))) : va_D A (ws0.set q0 (a, .inl (cA, N, .inr (.inl g)))) := by
  have hl : q0 < ws0.length := (List.getElem?_eq_some_iff.mp ha).1
  have key : ∀ (k : Nat) (q : Nat × va_E), (ws0.set q0 (a, .inl (cA, N, .inr (.inl g))))[k]? = some q → ∃ q', ws0[k]? = some q' ∧ q'.1 = q.1 := by
    intro k q hk
    by_cases h : k = q0
    · subst h
      rw [List.getElem?_set_self hl] at hk
      cases hk
      exact ⟨_, ha, rfl⟩
    · rw [List.getElem?_set_ne (fun q => h q.symm)] at hk
      exact ⟨q, hk, rfl⟩
  refine ⟨fun i j p q hp hq e => ?_, fun k q hk => ?_⟩
  · obtain ⟨p', h1, e1⟩ := key i p hp
    obtain ⟨q', h2, e2⟩ := key j q hq
    exact hD.1 i j p' q' h1 h2 (by rw [e1, e2, e])
  · obtain ⟨q', h1, e1⟩ := key k q hk
    rw [← e1]
    exact hD.2 k q' h1
theorem b2n63 (b : Bool) : b.toNat < 2 ^ 63 := by cases b <;> decide
theorem b2n1 {b : Bool} (h : b.toNat = 1) : b = true := by cases b with
  | true => rfl
  | false => exact absurd h (by decide)
theorem b2n0 {b : Bool} (h : ¬ b.toNat = 1) : b = false := by cases b with
  | false => rfl
  | true => exact absurd rfl h
theorem F_2 {g p : Nat} (h : p = 2) : nI (fac g) = nI (fac g ^ (p - 1)) := by subst h; rw [show (2 : Nat) - 1 = 1 from rfl, Nat.pow_one]
theorem F_3 {g p : Nat} (h2 : 2 ≤ p) (h3 : p ≤ 3) (h : ¬ p = 2) : nI (fac g * fac g) = nI (fac g ^ (p - 1)) := by
  obtain rfl : p = 3 := by omega
  rw [show (3 : Nat) - 1 = 2 from rfl, Nat.pow_succ, Nat.pow_one]
theorem F_36 {g p : Nat} (hg2 : 2 ≤ g) (hg4 : g ≤ 4) (hp2 : 2 ≤ p) (hp3 : p ≤ 3) (hT : g * p ≤ 9) : fac g ^ (p - 1) ≤ 36 := by
  rcases (show p = 2 ∨ p = 3 by omega) with rfl | rfl
  · rcases (show g = 2 ∨ g = 3 ∨ g = 4 by omega) with rfl | rfl | rfl <;> decide
  · rcases (show g = 2 ∨ g = 3 by omega) with rfl | rfl <;> decide
theorem F_div {g p k : Nat} (h : p = 3) (hk : k < fac g ^ (p - 1)) : k / fac g < fac g := by
  subst h
  rw [show (3 : Nat) - 1 = 2 from rfl, Nat.pow_succ, Nat.pow_one] at hk
  exact Nat.div_lt_of_lt_mul hk
def cjT (g p : Nat) (L : Nat → Bool) (A : Nat → Nat → Bool) (k : Nat) : Nat := if A 0 (k % fac g) && (decide (p = 2) || A 1 (k / fac g)) then ct (fun o => L (k + fac g ^ (p - 1) * o) && A (p - 1) o) (fac g) else 0
theorem cj_1 {g p k acc : Nat} {L : Nat → Bool} {A : Nat → Nat → Bool} (h : acc = sm (cjT g p L A) k) (c : (A 0 (k % fac g) && (decide (p = 2) || A 1 (k / fac g))) = true) : acc + ct (fun o => L (k + fac g ^ (p - 1) * o) && A (p - 1) o) (fac g) = sm (cjT g p L A) (k + 1) := by
  show _ = sm (cjT g p L A) k + cjT g p L A k
  rw [← h, show cjT g p L A k = ct (fun o => L (k + fac g ^ (p - 1) * o) && A (p - 1) o) (fac g) from if_pos c]
theorem cj_0 {g p k acc : Nat} {L : Nat → Bool} {A : Nat → Nat → Bool} (h : acc = sm (cjT g p L A) k) (c : (A 0 (k % fac g) && (decide (p = 2) || A 1 (k / fac g))) = false) : acc + 0 = sm (cjT g p L A) (k + 1) := by
  show _ = sm (cjT g p L A) k + cjT g p L A k
  rw [← h, show cjT g p L A k = 0 from if_neg (by rw [c]; decide)]
theorem cnt_2 {p f x : Nat} {P : Nat → Bool} {A : Nat → Nat → Bool} (h : x = mkN (A 1) f) (hp : p = 2) : lN (mkN P f) &&& lN x = lN (mkN (fun o => P o && A (p - 1) o) f) := by
  subst hp
  rw [h, l_and, mkN_and]
theorem cnt_3 {p f x : Nat} {P : Nat → Bool} {A : Nat → Nat → Bool} (h : p = 3 → x = mkN (A 2) f) (h2 : 2 ≤ p) (h3 : p ≤ 3) (hp : ¬ p = 2) : lN (mkN P f) &&& lN x = lN (mkN (fun o => P o && A (p - 1) o) f) := by
  obtain rfl : p = 3 := by omega
  rw [h rfl, l_and, mkN_and]
theorem mm_and {g p t k j : Nat} {S : Nat → Int32} {mm : Nat → Nat} (h : MM g p S mm) (hj : j < p) (hjt : j = t / g) : mm j &&& mkN (fun o => decide (atN g o (t % g) = k)) (fac g) = mkN (potT g S t k j) (fac g) := by
  rw [h j hj, mkN_and]
  exact mkN_congr (fun o _ => by simp [potT, hjt])
theorem mm_is {g p t k j : Nat} {S : Nat → Int32} {mm : Nat → Nat} (h : MM g p S mm) (hj : j < p) (hjt : ¬ j = t / g) : mm j = mkN (potT g S t k j) (fac g) := by
  rw [h j hj]
  exact mkN_congr (fun o _ => by simp [potT, hjt])
theorem ev_31 {g p t k : Nat} {rg bd : Nat → Nat} {ab ob : Nat → Bool} {S : Nat → Int32} (hG : LG g p) (ht : t < g * p) : evN g p rg bd ab ob S t k < 2 ^ 31 := by
  obtain ⟨⟨hg2, hg4⟩, ⟨hp2, hp3⟩, hT⟩ := hG
  rw [evA (by omega) hg4 ht]
  have h1 := ct_le (fun M => LMb g p rg bd ab ob M && allB (fun q => potT g S t k q (M / fac g ^ q % fac g)) p) (fac g ^ p)
  have h2 := pow_576 (g := g) (p := p) (j := p) (by omega) hg4 hT hp3 (Nat.le_refl _)
  exact Nat.lt_of_le_of_lt (Nat.le_trans h1 h2) (by decide)
theorem z_upd {f : Nat → Nat} {k : Nat} (h : ∀ z, z < k → f z = 0) : ∀ z, z < k + 1 → updN f k 0 z = 0 := fun z hz => by
  by_cases q : z = k
  · rw [q, updN_s]
  · rw [updN_n q]; exact h z (by omega)
theorem z_upd3 {f : Nat → Nat} {k : Nat} (h : ∀ z, z < k → f z = 3) : ∀ z, z < k + 1 → updN f k 3 z = 3 := fun z hz => by
  by_cases q : z = k
  · rw [q, updN_s]
  · rw [updN_n q]; exact h z (by omega)
theorem z_updS {f : Nat → Int32} {k : Nat} (h : ∀ z, z < k → f z = -1) : ∀ z, z < k + 1 → upd f k (-1) z = -1 := fun z hz => by
  by_cases q : z = k
  · simp [upd, q]
  · simp only [upd, if_neg q]; exact h z (by omega)
theorem rA_u9 (rg bd : Nat → Nat) {t : Nat} (h : 9 ≤ t) (x : Nat) : upd (fun j => nI (rA rg bd j)) t (nI x) = fun j => nI (rA rg (updN bd (t - 9) x) j) := by
  obtain ⟨d, rfl⟩ : ∃ d, t = 9 + d := ⟨t - 9, by omega⟩
  rw [rA_uhi, show 9 + d - 9 = d by omega]
theorem beg_r {rq bq : Nat → Nat} (h1 : ∀ z, z < 9 → rq z = 0) (h2 : ∀ z, z < 6 → bq z = 3) (z : Nat) (hz : z < 15) : rA rq bq z = rA (fun _ => 0) (fun _ => 3) z := by
  unfold rA
  by_cases q : z < 9
  · rw [if_pos q, if_pos q, h1 z q]
  · rw [if_neg q, if_neg q, h2 (z - 9) (by omega)]
theorem beg_a {rq bq : Nat → Nat} (h1 : ∀ z, z < 9 → rq z = 0) (h2 : ∀ z, z < 9 → bq z = 0) (z : Nat) (hz : z < 18) : rA rq bq z = rA (fun _ => 0) (fun _ => 0) z := by
  unfold rA
  by_cases q : z < 9
  · rw [if_pos q, if_pos q, h1 z q]
  · rw [if_neg q, if_neg q, h2 (z - 9) (by omega)]
theorem beg_p {Sq : Nat → Int32} {dt : Nat → Nat} (h1 : ∀ z, z < 9 → Sq z = -1) (z : Nat) (hz : z < 18) : pA Sq dt z = pA (fun _ => -1) dt z := by
  unfold pA
  by_cases q : z < 9
  · rw [if_pos q, if_pos q, h1 z q]
  · rw [if_neg q, if_neg q]
theorem smT_1 {rg rw : Nat → Nat} {t o : Nat} (h1 : rw t = rw o) (h2 : rg t = rg o) : nI 1 = nI (smT rg rw t o).toNat := by simp [smT, h1, h2]
theorem smT_0a {rg rw : Nat → Nat} {t o : Nat} (h1 : ¬ rw t = rw o) : nI 0 = nI (smT rg rw t o).toNat := by simp [smT, h1]
theorem smT_0b {rg rw : Nat → Nat} {t o : Nat} (h1 : ¬ rg t = rg o) : nI 0 = nI (smT rg rw t o).toNat := by simp [smT, h1]
theorem rel_a {ap od : Nat → Nat} {ab ob : Nat → Bool} {t o : Nat} (h : RelR ap od ab ob) (ht : t < 9) (ho : o < 9) (c : ap t / 2 ^ o % 2 = 1) : ab (9 * t + o) = true := by rw [← h.a t ht o ho]; exact bit_t c
theorem rel_na {ap od : Nat → Nat} {ab ob : Nat → Bool} {t o : Nat} (h : RelR ap od ab ob) (ht : t < 9) (ho : o < 9) (c : ¬ ap t / 2 ^ o % 2 = 1) : ab (9 * t + o) = false := by rw [← h.a t ht o ho]; exact bit_f c
theorem rel_o {ap od : Nat → Nat} {ab ob : Nat → Bool} {t o : Nat} (h : RelR ap od ab ob) (ht : t < 9) (ho : o < 9) (c : od t / 2 ^ o % 2 = 1) : ob (9 * t + o) = true := by rw [← h.o t ht o ho]; exact bit_t c
theorem rel_no {ap od : Nat → Nat} {ab ob : Nat → Bool} {t o : Nat} (h : RelR ap od ab ob) (ht : t < 9) (ho : o < 9) (c : ¬ od t / 2 ^ o % 2 = 1) : ob (9 * t + o) = false := by rw [← h.o t ht o ho]; exact bit_f c
theorem okP_fa {ab ob : Nat → Bool} {rw : Nat → Nat} {t o : Nat} (h : ab (9 * t + o) = true) (c : rw t = rw o) : okP ab ob rw t o = false := by simp [okP, h, c]
theorem okP_fo {ab ob : Nat → Bool} {rw : Nat → Nat} {t o : Nat} (h : ob (9 * t + o) = true) (c : (rw t + rw o) % 2 = 0) : okP ab ob rw t o = false := by
  have e : rw t % 2 = rw o % 2 := by omega
  simp [okP, h, e]
theorem okP_t {ab ob : Nat → Bool} {rw : Nat → Nat} {t o : Nat} (h1 : ab (9 * t + o) = false ∨ ¬ rw t = rw o) (h2 : ob (9 * t + o) = false ∨ ¬ (rw t + rw o) % 2 = 0) : okP ab ob rw t o = true := by
  have e1 : (ab (9 * t + o) && decide (rw t = rw o)) = false := by
    rcases h1 with h | h
    · rw [h]; rfl
    · rw [decide_eq_false h]; exact Bool.and_false _
  have e2 : (ob (9 * t + o) && decide (rw t % 2 = rw o % 2)) = false := by
    rcases h2 with h | h
    · rw [h]; rfl
    · rw [decide_eq_false (show ¬ rw t % 2 = rw o % 2 by omega)]; exact Bool.and_false _
  unfold okP
  rw [e1, e2]
  rfl
theorem okT_all {T t : Nat} {rg bd : Nat → Nat} {ab ob : Nat → Bool} {rw : Nat → Nat} (h1 : ∀ z, z < T → okP ab ob rw t z = true) (h2 : ct (smT rg rw t) T ≤ bd (rg t)) : okT T rg bd ab ob (fun _ => -1) rw t = true := by
  unfold okT
  rw [allB_iff.mpr h1, decide_eq_true h2]
  rfl
theorem okT_f2 {T t : Nat} {rg bd : Nat → Nat} {ab ob : Nat → Bool} {S : Nat → Int32} {rw : Nat → Nat} (h2 : ¬ ct (smT rg rw t) T ≤ bd (rg t)) : okT T rg bd ab ob S rw t = false := by
  unfold okT
  rw [decide_eq_false h2, Bool.false_and, Bool.and_false]
theorem law_t {T : Nat} {rg bd : Nat → Nat} {ab ob : Nat → Bool} {S : Nat → Int32} {rw : Nat → Nat} (h : ∀ z, z < T → okT T rg bd ab ob S rw z = true) : nI 1 = bI (lawB T rg bd ab ob S rw) := by
  unfold lawB
  rw [allB_iff.mpr h]
  rfl
abbrev rmL_orders : Room := { frames := 0, cells := 0, slots := 0, locals := 0 }
set_option maxHeartbeats 4000000 in
set_option maxRecDepth 100000 in
theorem kL_orders (l : Launch) (D : va_G) (cI : ClassId) (cJ : ClassId) (bN : Nat) (g : Nat) (p : Nat) (dm : Nat) (bP : Nat) (S : Nat → Int32) (dt : Nat → Nat) (bQ : Nat) (qm : Nat → Nat) (q : Nat) (hG : LG g p) (hq9 : q < 2 ^ 31) (hs : SV g p S) (hqm : QM g qm) : Cl l yL_orders wsL_orders rmL_orders D [(cI, .int), (cJ, .long)] [.ref bN, .ref bP, .ref bQ, .int (nI q)] [(bN, .inl (cI, 4, .inl (fun j => nI (nA g p dm (fac g) j)))), (bP, .inl (cI, 18, .inl (fun j => pA S dt j))), (bQ, .inl (cJ, 16, .inr (.inl (fun j => lN (qm j)))))] (fun (r : Int64) (_ : Unit) => r = lN (mkN (ordB g p S q) (fac g))) (fun (_ : Unit) => [(bN, .inl (cI, 4, .inl (fun j => nI (nA g p dm (fac g) j)))), (bP, .inl (cI, 18, .inl (fun j => pA S dt j))), (bQ, .inl (cJ, 16, .inr (.inl (fun j => lN (qm j)))))]) := by
  refine Cl_of (cc := cL_orders) (maxL := 8) (by decide) rfl (Nat.le_of_ble_eq_true rfl) ?_
  intro pR eV sT mI args below meth cO AA QQ ls hXX hBB hml hown hts hnm hN hK hP hD hS hAA hl hret
  have hl : lv_has ls 8 [(0, .ref bN), (1, .ref bP), (2, .ref bQ), (3, .int (nI q))] := hl
  obtain ⟨⟨hg2, hg4⟩, ⟨hp2, hp3⟩, hT⟩ := id hG
  have hg0 : 0 < g := by omega
  have hF24 := fac_24 g (by omega)
  have hF0 := fac_pos g
  refine lv_lconst (v := lN 1) hXX hBB dL_orders_0 rfl ?_
  refine lv_aload_n hXX hBB dL_orders_1 rfl (lv_at hl 0 rfl) ?_
  refine lv_iconst (v := nI 3) hXX hBB dL_orders_2 (by decide) ?_
  refine m_iald hXX hBB hK hP 0 0 rfl rfl (i := 3) (by omega) (by decide) (x := nI (fac g)) rfl dL_orders_3 ?_
  refine lv_lshl (v := lN (2 ^ fac g)) hXX hBB dL_orders_4 (by rw [l_shl 1 (by omega), Nat.one_mul]) ?_
  refine lv_lconst (v := lN 1) hXX hBB dL_orders_5 rfl ?_
  refine lv_lsub hXX hBB dL_orders_6 ?_
  refine m_topl (y := lN (mkN (potI g S q 0) (fac g))) (by rw [lN_sub Nat.one_le_two_pow]; exact congrArg lN (mkN_all (fac g)).symm) ?_
  refine lv_lstore (lv' := [(4, .long (lN (mkN (potI g S q 0) (fac g)))), (0, .ref bN), (1, .ref bP), (2, .ref bQ), (3, .int (nI q))]) hXX hBB dL_orders_7 hl (by decide) rfl (fun ls hl => ?_)
  refine lv_iconst (v := nI 0) hXX hBB dL_orders_9 (by decide) ?_
  refine lv_istore (lv' := [(6, .int (nI 0)), (4, .long (lN (mkN (potI g S q 0) (fac g)))), (0, .ref bN), (1, .ref bP), (2, .ref bQ), (3, .int (nI q))]) hXX hBB dL_orders_10 hl (by decide) rfl (fun ls hl => ?_)
  have L_12 : ∀ (N_12 : Nat) (i : Nat), (i ≤ g) → (¬ q < p → i = 0) → g - i < N_12 → ∀ (H : Heap) (locs : List Loc), va_P D vwCl [(bN, .inl (cI, 4, .inl (fun j => nI (nA g p dm (fac g) j)))), (bP, .inl (cI, 18, .inl (fun j => pA S dt j))), (bQ, .inl (cJ, 16, .inr (.inl (fun j => lN (qm j)))))] H → va_D AA [(bN, .inl (cI, 4, .inl (fun j => nI (nA g p dm (fac g) j)))), (bP, .inl (cI, 18, .inl (fun j => pA S dt j))), (bQ, .inl (cJ, 16, .inr (.inl (fun j => lN (qm j)))))] → va_S AA sT.heap H locs → ∀ (ls : Array Slot), lv_has ls 8 [(6, .int (nI i)), (4, .long (lN (mkN (potI g S q i) (fac g)))), (0, .ref bN), (1, .ref bP), (2, .ref bQ), (3, .int (nI q))] → W pR l eV rmL_orders sT mI args below meth cO H locs 0 0 QQ (F0 mI 12 ls []) := by
    intro N_12
    induction N_12 with
    | zero =>
      intro i hi hz hMM
      exact absurd hMM (Nat.not_lt_zero _)
    | succ N_12 ih_12 =>
      intro i hi hz hMM H locs hP hD hS ls hl
      refine lv_iload hXX hBB dL_orders_12 (lv_at hl 0 rfl) ?_
      refine lv_aload_n hXX hBB dL_orders_14 rfl (lv_at hl 2 rfl) ?_
      refine lv_iconst (v := nI 0) hXX hBB dL_orders_15 (by decide) ?_
      refine m_iald hXX hBB hK hP 0 0 rfl rfl (i := 0) (by omega) (by decide) (x := nI g) rfl dL_orders_16 ?_
      refine lv_icmp_ge (tgt := 69) hXX hBB dL_orders_17 (by decide) (fun c_17 => ?_) (fun c_17 => ?_)
      · have c_17 : g ≤ i := (nI_leI (by omega) (by omega)).mp c_17
        have hE : i = g := by omega
        have hq : q < p := by
          by_cases h9 : q < p
          · exact h9
          · have := hz h9
            omega
        refine lv_lload hXX hBB dL_orders_69 (lv_at hl 1 rfl) ?_
        refine hret (r := lN (mkN (potI g S q i) (fac g))) () ?_ (hP.sub [0, 1, 2] rfl) (hD.sub [0, 1, 2] (by decide) rfl) hS (Nat.le_of_ble_eq_true rfl) (Nat.le_of_ble_eq_true rfl) dL_orders_71
        show lN (mkN (potI g S q i) (fac g)) = lN (mkN (ordB g p S q) (fac g))
        first | exact ord_end hE hq | exact ord_no hE c_24
      · have c_17 : ¬ g ≤ i := fun h9 => c_17 ((nI_leI (by omega) (by omega)).mpr h9)
        refine lv_iload_n hXX hBB dL_orders_20 rfl (lv_at hl 5 rfl) ?_
        refine lv_aload_n hXX hBB dL_orders_21 rfl (lv_at hl 2 rfl) ?_
        refine lv_iconst (v := nI 1) hXX hBB dL_orders_22 (by decide) ?_
        refine m_iald hXX hBB hK hP 0 0 rfl rfl (i := 1) (by omega) (by decide) (x := nI p) rfl dL_orders_23 ?_
        refine lv_icmp_ge (tgt := 69) hXX hBB dL_orders_24 (by decide) (fun c_24 => ?_) (fun c_24 => ?_)
        · have c_24 : p ≤ q := (nI_leI (by omega) (by omega)).mp c_24
          have hE : i = 0 := hz (by omega)
          refine lv_lload hXX hBB dL_orders_69 (lv_at hl 1 rfl) ?_
          refine hret (r := lN (mkN (potI g S q i) (fac g))) () ?_ (hP.sub [0, 1, 2] rfl) (hD.sub [0, 1, 2] (by decide) rfl) hS (Nat.le_of_ble_eq_true rfl) (Nat.le_of_ble_eq_true rfl) dL_orders_71
          show lN (mkN (potI g S q i) (fac g)) = lN (mkN (ordB g p S q) (fac g))
          first | exact ord_end hE hq | exact ord_no hE c_24
        · have c_24 : ¬ p ≤ q := fun h9 => c_24 ((nI_leI (by omega) (by omega)).mpr h9)
          have c_24 : q < p := by omega
          have hm9 : g * (q + 1) ≤ g * p := Nat.mul_le_mul_left g c_24
          rw [Nat.mul_succ] at hm9
          refine lv_aload_n hXX hBB dL_orders_27 rfl (lv_at hl 3 rfl) ?_
          refine lv_aload_n hXX hBB dL_orders_28 rfl (lv_at hl 2 rfl) ?_
          refine lv_iconst (v := nI 0) hXX hBB dL_orders_29 (by decide) ?_
          refine m_iald hXX hBB hK hP 0 0 rfl rfl (i := 0) (by omega) (by decide) (x := nI g) rfl dL_orders_30 ?_
          refine lv_iload_n hXX hBB dL_orders_31 rfl (lv_at hl 5 rfl) ?_
          refine lv_imul hXX hBB dL_orders_32 ?_
          refine m_top (y := nI (g * q)) (pk_mul _ _) ?_
          refine lv_iload hXX hBB dL_orders_33 (lv_at hl 0 rfl) ?_
          refine lv_iadd hXX hBB dL_orders_35 ?_
          refine m_top (y := nI ((g * q) + i)) (nI_add _ _) ?_
          refine m_iald hXX hBB hK hP 1 0 rfl rfl (i := (g * q) + i) (by omega) (by decide) (x := pA S dt ((g * q) + i)) rfl dL_orders_36 ?_
          refine m_top (y := S (g * q + i)) (by exact pA_lo _ _ (by omega)) ?_
          refine lv_istore (lv' := [(7, .int (S (g * q + i))), (6, .int (nI i)), (4, .long (lN (mkN (potI g S q i) (fac g)))), (0, .ref bN), (1, .ref bP), (2, .ref bQ), (3, .int (nI q))]) hXX hBB dL_orders_37 hl (by decide) rfl (fun ls hl => ?_)
          refine lv_lload hXX hBB dL_orders_39 (lv_at hl 2 rfl) ?_
          refine lv_iload hXX hBB dL_orders_41 (lv_at hl 0 rfl) ?_
          refine lv_if_ge (tgt := 51) hXX hBB dL_orders_43 (by decide) (fun c_43 => ?_) (fun c_43 => ?_)
          · have c_43 := c_43
            obtain ⟨k, hk, hsk⟩ : ∃ k, k < g ∧ S (g * q + i) = nI k := by
              rcases hs (g * q + i) (by omega) with h9 | h9
              · exact absurd h9 (sv_ge (hs.v hg4 (by omega)) c_43)
              · exact h9
            have hl : lv_has ls 8 [(7, .int (nI k)), (6, .int (nI i)), (4, .long (lN (mkN (potI g S q i) (fac g)))), (0, .ref bN), (1, .ref bP), (2, .ref bQ), (3, .int (nI q))] := by rw [hsk] at hl; exact hl
            refine lv_aload_n hXX hBB dL_orders_51 rfl (lv_at hl 5 rfl) ?_
            refine lv_iconst (v := nI 4) hXX hBB dL_orders_52 (by decide) ?_
            refine lv_iload hXX hBB dL_orders_53 (lv_at hl 1 rfl) ?_
            refine lv_imul hXX hBB dL_orders_55 ?_
            refine m_top (y := nI (4 * i)) (pk_mul _ _) ?_
            refine lv_iload hXX hBB dL_orders_56 (lv_at hl 0 rfl) ?_
            refine lv_iadd hXX hBB dL_orders_58 ?_
            refine m_top (y := nI ((4 * i) + k)) (nI_add _ _) ?_
            refine m_lald hXX hBB hK hP 2 1 rfl rfl (i := (4 * i) + k) (by omega) (by decide) (x := lN (qm ((4 * i) + k))) rfl dL_orders_59 ?_
            refine m_topl (y := lN (mkN (fun o => decide (atN g o i = k)) (fac g))) (by rw [hqm i (by omega) k (by omega)]) ?_
            refine lv_land hXX hBB dL_orders_60 ?_
            refine m_topl (y := lN (mkN (potI g S q (i + 1)) (fac g))) (by exact ord_2 hsk (by omega) (fun o ho => Nat.lt_of_lt_of_le (at_lt g (by omega) o ho i (by omega)) hg4)) ?_
            refine lv_lstore (lv' := [(4, .long (lN (mkN (potI g S q (i + 1)) (fac g)))), (7, .int (nI k)), (6, .int (nI i)), (0, .ref bN), (1, .ref bP), (2, .ref bQ), (3, .int (nI q))]) hXX hBB dL_orders_61 hl (by decide) rfl (fun ls hl => ?_)
            refine lv_iinc (v := nI (i + 1)) (lv' := [(6, .int (nI (i + 1))), (4, .long (lN (mkN (potI g S q (i + 1)) (fac g)))), (7, .int (nI k)), (0, .ref bN), (1, .ref bP), (2, .ref bQ), (3, .int (nI q))]) hXX hBB dL_orders_63 hl (k := 2) rfl (nI_1 _) (by decide) rfl (fun ls hl => ?_)
            refine lv_goto (tgt := 12) hXX hBB dL_orders_66 (by decide) ?_
            have hi_i : (i + 1) ≤ g := by omega
            have hi_z : ¬ q < p → (i + 1) = 0 := by exact fun h9 => absurd c_24 h9
            have hmm : g - (i + 1) < N_12 := by omega
            exact ih_12 (i + 1) hi_i hi_z hmm _ _ (hP.sub [0, 1, 2] rfl) (hD.sub [0, 1, 2] (by decide) rfl) hS ls (lv_sub hl [0, 1, 3, 4, 5, 6] rfl)
          · have c_43 := c_43
            have hs9 := sv_lt (hs.v hg4 (show g * q + i < g * p by omega)) c_43
            refine lv_lload hXX hBB dL_orders_46 (lv_at hl 2 rfl) ?_
            refine lv_goto (tgt := 60) hXX hBB dL_orders_48 (by decide) ?_
            refine lv_land hXX hBB dL_orders_60 ?_
            refine m_topl (y := lN (mkN (potI g S q (i + 1)) (fac g))) (by exact ord_1 hs9) ?_
            refine lv_lstore (lv' := [(4, .long (lN (mkN (potI g S q (i + 1)) (fac g)))), (7, .int (S (g * q + i))), (6, .int (nI i)), (0, .ref bN), (1, .ref bP), (2, .ref bQ), (3, .int (nI q))]) hXX hBB dL_orders_61 hl (by decide) rfl (fun ls hl => ?_)
            refine lv_iinc (v := nI (i + 1)) (lv' := [(6, .int (nI (i + 1))), (4, .long (lN (mkN (potI g S q (i + 1)) (fac g)))), (7, .int (S (g * q + i))), (0, .ref bN), (1, .ref bP), (2, .ref bQ), (3, .int (nI q))]) hXX hBB dL_orders_63 hl (k := 2) rfl (nI_1 _) (by decide) rfl (fun ls hl => ?_)
            refine lv_goto (tgt := 12) hXX hBB dL_orders_66 (by decide) ?_
            have hi_i : (i + 1) ≤ g := by omega
            have hi_z : ¬ q < p → (i + 1) = 0 := by exact fun h9 => absurd c_24 h9
            have hmm : g - (i + 1) < N_12 := by omega
            exact ih_12 (i + 1) hi_i hi_z hmm _ _ (hP.sub [0, 1, 2] rfl) (hD.sub [0, 1, 2] (by decide) rfl) hS ls (lv_sub hl [0, 1, 3, 4, 5, 6] rfl)
  have hi_i : 0 ≤ g := by exact Nat.zero_le _
  have hi_z : ¬ q < p → 0 = 0 := by exact fun _ => rfl
  exact L_12 _ 0 hi_i hi_z (Nat.lt_succ_self _) _ _ hP hD hS ls (lv_sub hl [0, 1, 2, 3, 4, 5] rfl)
abbrev rmL_lays : Room := { frames := 1, cells := 0, slots := 0, locals := 27 }
set_option maxHeartbeats 4000000 in
set_option maxRecDepth 100000 in
theorem kL_lays (l : Launch) (D : va_G) (cI : ClassId) (cJ : ClassId) (bN : Nat) (g : Nat) (p : Nat) (dm : Nat) (bP : Nat) (S : Nat → Int32) (dt : Nat → Nat) (bQ : Nat) (qm : Nat → Nat) (bM : Nat) (mm : Nat → Nat) (hG : LG g p) (hs : SV g p S) (hqm : QM g qm) : Cv l yL_lays wsL_lays rmL_lays D [(cI, .int), (cJ, .long)] [.ref bN, .ref bP, .ref bQ, .ref bM] [(bN, .inl (cI, 4, .inl (fun j => nI (nA g p dm (fac g) j)))), (bP, .inl (cI, 18, .inl (fun j => pA S dt j))), (bQ, .inl (cJ, 16, .inr (.inl (fun j => lN (qm j))))), (bM, .inl (cJ, 3, .inr (.inl (fun j => lN (mm j)))))] (fun (_ : Unit) => True) (fun (_ : Unit) => [(bN, .inl (cI, 4, .inl (fun j => nI (nA g p dm (fac g) j)))), (bP, .inl (cI, 18, .inl (fun j => pA S dt j))), (bQ, .inl (cJ, 16, .inr (.inl (fun j => lN (qm j))))), (bM, .inl (cJ, 3, .inr (.inl (fun j => lN ((layM g p S) j)))))]) := by
  refine Cv_of (cc := cL_lays) (maxL := 4) (by decide) rfl (Nat.le_of_ble_eq_true rfl) ?_
  intro pR eV sT mI args below meth cO AA QQ ls hXX hBB hml hown hts hnm hN hK hP hD hS hAA hl hret
  have hl : lv_has ls 4 [(0, .ref bN), (1, .ref bP), (2, .ref bQ), (3, .ref bM)] := hl
  obtain ⟨⟨hg2, hg4⟩, ⟨hp2, hp3⟩, hT⟩ := id hG
  have hg0 : 0 < g := by omega
  refine lv_aload_n hXX hBB dL_lays_0 rfl (lv_at hl 3 rfl) ?_
  refine lv_iconst (v := nI 0) hXX hBB dL_lays_1 (by decide) ?_
  refine lv_aload_n hXX hBB dL_lays_2 rfl (lv_at hl 0 rfl) ?_
  refine lv_aload_n hXX hBB dL_lays_3 rfl (lv_at hl 1 rfl) ?_
  refine lv_aload_n hXX hBB dL_lays_4 rfl (lv_at hl 2 rfl) ?_
  refine lv_iconst (v := nI 0) hXX hBB dL_lays_5 (by decide) ?_
  refine m_scalll (wr := [(bM, .inl (cJ, 3, .inr (.inl (fun j => lN (mm j)))))]) ⟨hXX, hBB, hml, hown, hts⟩ hN (kL_orders l D cI cJ bN g p dm bP S dt bQ qm 0 (by assumption) (by omega) (by assumption) (by assumption)) (va_cwS 4 hts gL_lays_L_orders rfl rfl rfl (by decide +kernel) ⟨Nat.le_of_ble_eq_true rfl, Nat.le_of_ble_eq_true rfl⟩) hK hP hD hS hAA [0, 1, 2] [3] [0, 1] rfl rfl rfl (by decide) (by decide) (by decide) rfl hl.1 rfl (Nat.le_of_ble_eq_true rfl) dL_lays_6 ⟨Nat.le_of_ble_eq_true rfl, Nat.le_of_ble_eq_true rfl⟩ (k := 0) (n := 0) rfl rfl (fun r_1 u_ H locs hw hP hD hS => ?_)
  have hw : (r_1 = lN (mkN (ordB g p S 0) (fac g))) := hw
  have hr_r_1 := hw
  have hP : va_P D vwCl [(bM, .inl (cJ, 3, .inr (.inl (fun j => lN (mm j))))), (bN, .inl (cI, 4, .inl (fun j => nI (nA g p dm (fac g) j)))), (bP, .inl (cI, 18, .inl (fun j => pA S dt j))), (bQ, .inl (cJ, 16, .inr (.inl (fun j => lN (qm j)))))] H := hP
  have hD : va_D AA [(bM, .inl (cJ, 3, .inr (.inl (fun j => lN (mm j))))), (bN, .inl (cI, 4, .inl (fun j => nI (nA g p dm (fac g) j)))), (bP, .inl (cI, 18, .inl (fun j => pA S dt j))), (bQ, .inl (cJ, 16, .inr (.inl (fun j => lN (qm j)))))] := hD
  subst hr_r_1
  refine m_last hXX hBB hK hP hD hS 0 1 rfl rfl (i := 0) (by decide) (by decide) (g := fun j => lN (updN mm 0 (mkN (ordB g p S 0) (fac g)) j)) (m_updL _ _ _) dL_lays_9 (fun H locs hP hD hS => ?_)
  have hP : va_P D vwCl [(bM, .inl (cJ, 3, .inr (.inl (fun j => lN (updN mm 0 (mkN (ordB g p S 0) (fac g)) j))))), (bN, .inl (cI, 4, .inl (fun j => nI (nA g p dm (fac g) j)))), (bP, .inl (cI, 18, .inl (fun j => pA S dt j))), (bQ, .inl (cJ, 16, .inr (.inl (fun j => lN (qm j)))))] H := hP
  have hD : va_D AA [(bM, .inl (cJ, 3, .inr (.inl (fun j => lN (updN mm 0 (mkN (ordB g p S 0) (fac g)) j))))), (bN, .inl (cI, 4, .inl (fun j => nI (nA g p dm (fac g) j)))), (bP, .inl (cI, 18, .inl (fun j => pA S dt j))), (bQ, .inl (cJ, 16, .inr (.inl (fun j => lN (qm j)))))] := hD
  refine lv_aload_n hXX hBB dL_lays_10 rfl (lv_at hl 3 rfl) ?_
  refine lv_iconst (v := nI 1) hXX hBB dL_lays_11 (by decide) ?_
  refine lv_aload_n hXX hBB dL_lays_12 rfl (lv_at hl 0 rfl) ?_
  refine lv_aload_n hXX hBB dL_lays_13 rfl (lv_at hl 1 rfl) ?_
  refine lv_aload_n hXX hBB dL_lays_14 rfl (lv_at hl 2 rfl) ?_
  refine lv_iconst (v := nI 1) hXX hBB dL_lays_15 (by decide) ?_
  refine m_scalll (wr := [(bM, .inl (cJ, 3, .inr (.inl (fun j => lN (updN mm 0 (mkN (ordB g p S 0) (fac g)) j)))))]) ⟨hXX, hBB, hml, hown, hts⟩ hN (kL_orders l D cI cJ bN g p dm bP S dt bQ qm 1 (by assumption) (by omega) (by assumption) (by assumption)) (va_cwS 4 hts gL_lays_L_orders rfl rfl rfl (by decide +kernel) ⟨Nat.le_of_ble_eq_true rfl, Nat.le_of_ble_eq_true rfl⟩) hK hP hD hS hAA [1, 2, 3] [0] [0, 1] rfl rfl rfl (by decide) (by decide) (by decide) rfl hl.1 rfl (Nat.le_of_ble_eq_true rfl) dL_lays_16 ⟨Nat.le_of_ble_eq_true rfl, Nat.le_of_ble_eq_true rfl⟩ (k := 0) (n := 0) rfl rfl (fun r_2 u_ H locs hw hP hD hS => ?_)
  have hw : (r_2 = lN (mkN (ordB g p S 1) (fac g))) := hw
  have hr_r_2 := hw
  have hP : va_P D vwCl [(bM, .inl (cJ, 3, .inr (.inl (fun j => lN (updN mm 0 (mkN (ordB g p S 0) (fac g)) j))))), (bN, .inl (cI, 4, .inl (fun j => nI (nA g p dm (fac g) j)))), (bP, .inl (cI, 18, .inl (fun j => pA S dt j))), (bQ, .inl (cJ, 16, .inr (.inl (fun j => lN (qm j)))))] H := hP
  have hD : va_D AA [(bM, .inl (cJ, 3, .inr (.inl (fun j => lN (updN mm 0 (mkN (ordB g p S 0) (fac g)) j))))), (bN, .inl (cI, 4, .inl (fun j => nI (nA g p dm (fac g) j)))), (bP, .inl (cI, 18, .inl (fun j => pA S dt j))), (bQ, .inl (cJ, 16, .inr (.inl (fun j => lN (qm j)))))] := hD
  subst hr_r_2
  refine m_last hXX hBB hK hP hD hS 0 1 rfl rfl (i := 1) (by decide) (by decide) (g := fun j => lN (updN (updN mm 0 (mkN (ordB g p S 0) (fac g))) 1 (mkN (ordB g p S 1) (fac g)) j)) (m_updL _ _ _) dL_lays_19 (fun H locs hP hD hS => ?_)
  have hP : va_P D vwCl [(bM, .inl (cJ, 3, .inr (.inl (fun j => lN (updN (updN mm 0 (mkN (ordB g p S 0) (fac g))) 1 (mkN (ordB g p S 1) (fac g)) j))))), (bN, .inl (cI, 4, .inl (fun j => nI (nA g p dm (fac g) j)))), (bP, .inl (cI, 18, .inl (fun j => pA S dt j))), (bQ, .inl (cJ, 16, .inr (.inl (fun j => lN (qm j)))))] H := hP
  have hD : va_D AA [(bM, .inl (cJ, 3, .inr (.inl (fun j => lN (updN (updN mm 0 (mkN (ordB g p S 0) (fac g))) 1 (mkN (ordB g p S 1) (fac g)) j))))), (bN, .inl (cI, 4, .inl (fun j => nI (nA g p dm (fac g) j)))), (bP, .inl (cI, 18, .inl (fun j => pA S dt j))), (bQ, .inl (cJ, 16, .inr (.inl (fun j => lN (qm j)))))] := hD
  refine lv_aload_n hXX hBB dL_lays_20 rfl (lv_at hl 3 rfl) ?_
  refine lv_iconst (v := nI 2) hXX hBB dL_lays_21 (by decide) ?_
  refine lv_aload_n hXX hBB dL_lays_22 rfl (lv_at hl 0 rfl) ?_
  refine lv_aload_n hXX hBB dL_lays_23 rfl (lv_at hl 1 rfl) ?_
  refine lv_aload_n hXX hBB dL_lays_24 rfl (lv_at hl 2 rfl) ?_
  refine lv_iconst (v := nI 2) hXX hBB dL_lays_25 (by decide) ?_
  refine m_scalll (wr := [(bM, .inl (cJ, 3, .inr (.inl (fun j => lN (updN (updN mm 0 (mkN (ordB g p S 0) (fac g))) 1 (mkN (ordB g p S 1) (fac g)) j)))))]) ⟨hXX, hBB, hml, hown, hts⟩ hN (kL_orders l D cI cJ bN g p dm bP S dt bQ qm 2 (by assumption) (by omega) (by assumption) (by assumption)) (va_cwS 4 hts gL_lays_L_orders rfl rfl rfl (by decide +kernel) ⟨Nat.le_of_ble_eq_true rfl, Nat.le_of_ble_eq_true rfl⟩) hK hP hD hS hAA [1, 2, 3] [0] [0, 1] rfl rfl rfl (by decide) (by decide) (by decide) rfl hl.1 rfl (Nat.le_of_ble_eq_true rfl) dL_lays_26 ⟨Nat.le_of_ble_eq_true rfl, Nat.le_of_ble_eq_true rfl⟩ (k := 0) (n := 0) rfl rfl (fun r_3 u_ H locs hw hP hD hS => ?_)
  have hw : (r_3 = lN (mkN (ordB g p S 2) (fac g))) := hw
  have hr_r_3 := hw
  have hP : va_P D vwCl [(bM, .inl (cJ, 3, .inr (.inl (fun j => lN (updN (updN mm 0 (mkN (ordB g p S 0) (fac g))) 1 (mkN (ordB g p S 1) (fac g)) j))))), (bN, .inl (cI, 4, .inl (fun j => nI (nA g p dm (fac g) j)))), (bP, .inl (cI, 18, .inl (fun j => pA S dt j))), (bQ, .inl (cJ, 16, .inr (.inl (fun j => lN (qm j)))))] H := hP
  have hD : va_D AA [(bM, .inl (cJ, 3, .inr (.inl (fun j => lN (updN (updN mm 0 (mkN (ordB g p S 0) (fac g))) 1 (mkN (ordB g p S 1) (fac g)) j))))), (bN, .inl (cI, 4, .inl (fun j => nI (nA g p dm (fac g) j)))), (bP, .inl (cI, 18, .inl (fun j => pA S dt j))), (bQ, .inl (cJ, 16, .inr (.inl (fun j => lN (qm j)))))] := hD
  subst hr_r_3
  refine m_last hXX hBB hK hP hD hS 0 1 rfl rfl (i := 2) (by decide) (by decide) (g := fun j => lN (updN (updN (updN mm 0 (mkN (ordB g p S 0) (fac g))) 1 (mkN (ordB g p S 1) (fac g))) 2 (mkN (ordB g p S 2) (fac g)) j)) (m_updL _ _ _) dL_lays_29 (fun H locs hP hD hS => ?_)
  have hP : va_P D vwCl [(bM, .inl (cJ, 3, .inr (.inl (fun j => lN (updN (updN (updN mm 0 (mkN (ordB g p S 0) (fac g))) 1 (mkN (ordB g p S 1) (fac g))) 2 (mkN (ordB g p S 2) (fac g)) j))))), (bN, .inl (cI, 4, .inl (fun j => nI (nA g p dm (fac g) j)))), (bP, .inl (cI, 18, .inl (fun j => pA S dt j))), (bQ, .inl (cJ, 16, .inr (.inl (fun j => lN (qm j)))))] H := hP
  have hD : va_D AA [(bM, .inl (cJ, 3, .inr (.inl (fun j => lN (updN (updN (updN mm 0 (mkN (ordB g p S 0) (fac g))) 1 (mkN (ordB g p S 1) (fac g))) 2 (mkN (ordB g p S 2) (fac g)) j))))), (bN, .inl (cI, 4, .inl (fun j => nI (nA g p dm (fac g) j)))), (bP, .inl (cI, 18, .inl (fun j => pA S dt j))), (bQ, .inl (cJ, 16, .inr (.inl (fun j => lN (qm j)))))] := hD
  have hP := m_extl (q0 := 0) (g := fun j => lN (layM g p S j)) hP rfl (fun z hz => by rcases (show z = 0 ∨ z = 1 ∨ z = 2 by omega) with rfl | rfl | rfl <;> rfl)
  have hD := m_extDl (q0 := 0) (g := fun j => lN (layM g p S j)) hD rfl
  have hP : va_P D vwCl [(bM, .inl (cJ, 3, .inr (.inl (fun j => lN (layM g p S j))))), (bN, .inl (cI, 4, .inl (fun j => nI (nA g p dm (fac g) j)))), (bP, .inl (cI, 18, .inl (fun j => pA S dt j))), (bQ, .inl (cJ, 16, .inr (.inl (fun j => lN (qm j)))))] H := hP
  have hD : va_D AA [(bM, .inl (cJ, 3, .inr (.inl (fun j => lN (layM g p S j))))), (bN, .inl (cI, 4, .inl (fun j => nI (nA g p dm (fac g) j)))), (bP, .inl (cI, 18, .inl (fun j => pA S dt j))), (bQ, .inl (cJ, 16, .inr (.inl (fun j => lN (qm j)))))] := hD
  refine hret () ?_ (hP.sub [1, 2, 3, 0] rfl) (hD.sub [1, 2, 3, 0] (by decide) rfl) hS (Nat.le_of_ble_eq_true rfl) (Nat.le_of_ble_eq_true rfl) dL_lays_30
  trivial
abbrev rmL_count : Room := { frames := 1, cells := 0, slots := 0, locals := 24 }
set_option maxHeartbeats 4000000 in
set_option maxRecDepth 100000 in
theorem kL_count (l : Launch) (D : va_G) (cI : ClassId) (cJ : ClassId) (bN : Nat) (g : Nat) (p : Nat) (dm : Nat) (bW : Nat) (wm : Nat → Nat) (x1 : Nat) (x2 : Nat) (x3 : Nat) (L : Nat → Bool) (A : Nat → Nat → Bool) (hG : LG g p) (hW : ∀ k, k < fac g ^ (p - 1) → wm k = mkN (fun o => L (k + fac g ^ (p - 1) * o)) (fac g)) (h1 : x1 = mkN (A 0) (fac g)) (h2 : x2 = mkN (A 1) (fac g)) (h3 : p = 3 → x3 = mkN (A 2) (fac g)) : Ci l yL_count wsL_count rmL_count D [(cI, .int), (cJ, .long)] [.ref bN, .ref bW, .long (lN x1), .long (lN x2), .long (lN x3)] [(bN, .inl (cI, 4, .inl (fun j => nI (nA g p dm (fac g) j)))), (bW, .inl (cJ, 36, .inr (.inl (fun j => lN (wm j)))))] (fun (r : Int32) (_ : Unit) => r = nI (cntN g p L A)) (fun (_ : Unit) => [(bN, .inl (cI, 4, .inl (fun j => nI (nA g p dm (fac g) j)))), (bW, .inl (cJ, 36, .inr (.inl (fun j => lN (wm j)))))]) := by
  refine Ci_of (cc := cL_count) (maxL := 12) (by decide) rfl (Nat.le_of_ble_eq_true rfl) ?_
  intro pR eV sT mI args below meth cO AA QQ ls hXX hBB hml hown hts hnm hN hK hP hD hS hAA hl hret
  have hl : lv_has ls 12 [(0, .ref bN), (1, .ref bW), (2, .long (lN x1)), (4, .long (lN x2)), (6, .long (lN x3))] := hl
  obtain ⟨⟨hg2, hg4⟩, ⟨hp2, hp3⟩, hT⟩ := id hG
  have hg0 : 0 < g := by omega
  have hF24 := fac_24 g (by omega)
  have hF0 := fac_pos g
  have hx1 : x1 < 2 ^ 24 := by rw [h1]; exact mkN_24 _ (by omega)
  have hx2 : x2 < 2 ^ 24 := by rw [h2]; exact mkN_24 _ (by omega)
  have hF9 := F_36 hg2 hg4 hp2 hp3 hT
  refine lv_aload_n hXX hBB dL_count_0 rfl (lv_at hl 0 rfl) ?_
  refine lv_iconst (v := nI 3) hXX hBB dL_count_1 (by decide) ?_
  refine m_iald hXX hBB hK hP 0 0 rfl rfl (i := 3) (by omega) (by decide) (x := nI (fac g)) rfl dL_count_2 ?_
  refine lv_istore (lv' := [(8, .int (nI (fac g))), (0, .ref bN), (1, .ref bW), (2, .long (lN x1)), (4, .long (lN x2)), (6, .long (lN x3))]) hXX hBB dL_count_3 hl (by decide) rfl (fun ls hl => ?_)
  refine lv_iconst (v := nI 0) hXX hBB dL_count_5 (by decide) ?_
  refine lv_istore (lv' := [(9, .int (nI 0)), (8, .int (nI (fac g))), (0, .ref bN), (1, .ref bW), (2, .long (lN x1)), (4, .long (lN x2)), (6, .long (lN x3))]) hXX hBB dL_count_6 hl (by decide) rfl (fun ls hl => ?_)
  refine lv_iconst (v := nI 0) hXX hBB dL_count_8 (by decide) ?_
  refine lv_istore (lv' := [(10, .int (nI 0)), (9, .int (nI 0)), (8, .int (nI (fac g))), (0, .ref bN), (1, .ref bW), (2, .long (lN x1)), (4, .long (lN x2)), (6, .long (lN x3))]) hXX hBB dL_count_9 hl (by decide) rfl (fun ls hl => ?_)
  have L_11 : ∀ (N_11 : Nat) (acc : Nat) (k : Nat), (k ≤ fac g ^ (p - 1)) → (acc = sm (cjT g p L A) k) → fac g ^ (p - 1) - k < N_11 → ∀ (H : Heap) (locs : List Loc), va_P D vwCl [(bN, .inl (cI, 4, .inl (fun j => nI (nA g p dm (fac g) j)))), (bW, .inl (cJ, 36, .inr (.inl (fun j => lN (wm j)))))] H → va_D AA [(bN, .inl (cI, 4, .inl (fun j => nI (nA g p dm (fac g) j)))), (bW, .inl (cJ, 36, .inr (.inl (fun j => lN (wm j)))))] → va_S AA sT.heap H locs → ∀ (ls : Array Slot), lv_has ls 12 [(10, .int (nI k)), (9, .int (nI acc)), (8, .int (nI (fac g))), (0, .ref bN), (1, .ref bW), (2, .long (lN x1)), (4, .long (lN x2)), (6, .long (lN x3))] → W pR l eV rmL_count sT mI args below meth cO H locs 0 0 QQ (F0 mI 11 ls []) := by
    intro N_11
    induction N_11 with
    | zero =>
      intro acc k hk hacc hMM
      exact absurd hMM (Nat.not_lt_zero _)
    | succ N_11 ih_11 =>
      intro acc k hk hacc hMM H locs hP hD hS ls hl
      refine lv_iload hXX hBB dL_count_11 (lv_at hl 0 rfl) ?_
      have J_30 : ∀ (H : Heap) (locs : List Loc), va_P D vwCl [(bN, .inl (cI, 4, .inl (fun j => nI (nA g p dm (fac g) j)))), (bW, .inl (cJ, 36, .inr (.inl (fun j => lN (wm j)))))] H → va_D AA [(bN, .inl (cI, 4, .inl (fun j => nI (nA g p dm (fac g) j)))), (bW, .inl (cJ, 36, .inr (.inl (fun j => lN (wm j)))))] → va_S AA sT.heap H locs → ∀ (ls : Array Slot), lv_has ls 12 [(10, .int (nI k)), (9, .int (nI acc)), (8, .int (nI (fac g))), (0, .ref bN), (1, .ref bW), (2, .long (lN x1)), (4, .long (lN x2)), (6, .long (lN x3))] → W pR l eV rmL_count sT mI args below meth cO H locs 0 0 QQ (F0 mI 30 ls [.int (nI (fac g ^ (p - 1))), .int (nI k)]) := by
        intro H locs hP hD hS ls hl
        refine lv_icmp_ge (tgt := 118) hXX hBB dL_count_30 (by decide) (fun c_30 => ?_) (fun c_30 => ?_)
        · have c_30 : (fac g ^ (p - 1)) ≤ k := (nI_leI (by omega) (by omega)).mp c_30
          have hE : k = fac g ^ (p - 1) := by omega
          refine lv_iload hXX hBB dL_count_118 (lv_at hl 1 rfl) ?_
          refine hret (r := nI acc) () ?_ (rfl) (hP.sub [0, 1] rfl) (hD.sub [0, 1] (by decide) rfl) hS (Nat.le_of_ble_eq_true rfl) (Nat.le_of_ble_eq_true rfl) dL_count_120
          show nI acc = nI (cntN g p L A)
          rw [hacc, hE, ← cntJ_N L A (show p = 2 ∨ p = 3 by omega)]; rfl
        · have c_30 : ¬ (fac g ^ (p - 1)) ≤ k := fun h9 => c_30 ((nI_leI (by omega) (by omega)).mpr h9)
          have hkf : k % fac g < fac g := Nat.mod_lt k hF0
          have J_74 : ∀ (H : Heap) (locs : List Loc), va_P D vwCl [(bN, .inl (cI, 4, .inl (fun j => nI (nA g p dm (fac g) j)))), (bW, .inl (cJ, 36, .inr (.inl (fun j => lN (wm j)))))] H → va_D AA [(bN, .inl (cI, 4, .inl (fun j => nI (nA g p dm (fac g) j)))), (bW, .inl (cJ, 36, .inr (.inl (fun j => lN (wm j)))))] → va_S AA sT.heap H locs → ∀ (ls : Array Slot), lv_has ls 12 [(10, .int (nI k)), (9, .int (nI acc)), (8, .int (nI (fac g))), (0, .ref bN), (1, .ref bW), (2, .long (lN x1)), (4, .long (lN x2)), (6, .long (lN x3))] → W pR l eV rmL_count sT mI args below meth cO H locs 0 0 QQ (F0 mI 74 ls [.int (bI (A 0 (k % fac g) && (decide (p = 2) || A 1 (k / fac g))))]) := by
            intro H locs hP hD hS ls hl
            refine lv_istore (lv' := [(11, .int (bI (A 0 (k % fac g) && (decide (p = 2) || A 1 (k / fac g))))), (10, .int (nI k)), (9, .int (nI acc)), (8, .int (nI (fac g))), (0, .ref bN), (1, .ref bW), (2, .long (lN x1)), (4, .long (lN x2)), (6, .long (lN x3))]) hXX hBB dL_count_74 hl (by decide) rfl (fun ls hl => ?_)
            refine lv_iload hXX hBB dL_count_76 (lv_at hl 2 rfl) ?_
            refine lv_iload hXX hBB dL_count_78 (lv_at hl 0 rfl) ?_
            refine lv_if_eq (tgt := 108) hXX hBB dL_count_80 (by decide) (fun c_80 => ?_) (fun c_80 => ?_)
            · have c_80 : (A 0 (k % fac g) && (decide (p = 2) || A 1 (k / fac g))) = false := m_bz0 c_80
              refine lv_iconst (v := nI 0) hXX hBB dL_count_108 (by decide) ?_
              refine lv_iadd hXX hBB dL_count_109 ?_
              refine m_top (y := nI (acc + 0)) (nI_add _ _) ?_
              refine lv_istore (lv' := [(9, .int (nI (acc + 0))), (11, .int (bI (A 0 (k % fac g) && (decide (p = 2) || A 1 (k / fac g))))), (10, .int (nI k)), (8, .int (nI (fac g))), (0, .ref bN), (1, .ref bW), (2, .long (lN x1)), (4, .long (lN x2)), (6, .long (lN x3))]) hXX hBB dL_count_110 hl (by decide) rfl (fun ls hl => ?_)
              refine lv_iinc (v := nI (k + 1)) (lv' := [(10, .int (nI (k + 1))), (9, .int (nI (acc + 0))), (11, .int (bI (A 0 (k % fac g) && (decide (p = 2) || A 1 (k / fac g))))), (8, .int (nI (fac g))), (0, .ref bN), (1, .ref bW), (2, .long (lN x1)), (4, .long (lN x2)), (6, .long (lN x3))]) hXX hBB dL_count_112 hl (k := 2) rfl (nI_1 _) (by decide) rfl (fun ls hl => ?_)
              refine lv_goto (tgt := 11) hXX hBB dL_count_115 (by decide) ?_
              have hi_k : (k + 1) ≤ fac g ^ (p - 1) := by omega
              have hi_acc : (acc + 0) = sm (cjT g p L A) (k + 1) := by first | exact cj_1 hacc c_80 | exact cj_0 hacc c_80
              have hmm : fac g ^ (p - 1) - (k + 1) < N_11 := by omega
              exact ih_11 (acc + 0) (k + 1) hi_k hi_acc hmm _ _ (hP.sub [0, 1] rfl) (hD.sub [0, 1] (by decide) rfl) hS ls (lv_sub hl [0, 1, 3, 4, 5, 6, 7, 8] rfl)
            · have c_80 : (A 0 (k % fac g) && (decide (p = 2) || A 1 (k / fac g))) = true := m_bz1 c_80
              refine lv_aload_n hXX hBB dL_count_83 rfl (lv_at hl 5 rfl) ?_
              refine lv_iload hXX hBB dL_count_84 (lv_at hl 1 rfl) ?_
              refine m_lald hXX hBB hK hP 1 1 rfl rfl (i := k) (by omega) (by decide) (x := lN (wm k)) rfl dL_count_86 ?_
              refine m_topl (y := lN (mkN (fun o => L (k + fac g ^ (p - 1) * o)) (fac g))) (by rw [hW k (by omega)]) ?_
              refine lv_aload_n hXX hBB dL_count_87 rfl (lv_at hl 4 rfl) ?_
              refine lv_iconst (v := nI 1) hXX hBB dL_count_88 (by decide) ?_
              refine m_iald hXX hBB hK hP 0 0 rfl rfl (i := 1) (by omega) (by decide) (x := nI p) rfl dL_count_89 ?_
              refine lv_iconst (v := nI 2) hXX hBB dL_count_90 (by decide) ?_
              refine lv_icmp_ne (tgt := 99) hXX hBB dL_count_91 (by decide) (fun c_91 => ?_) (fun c_91 => ?_)
              · have c_91 : ¬ p = 2 := fun h9 => c_91 ((nI_eq (by omega) (by omega)).mpr h9)
                refine lv_lload hXX hBB dL_count_99 (lv_at hl 8 rfl) ?_
                refine lv_land hXX hBB dL_count_101 ?_
                refine m_topl (y := lN (mkN (fun o => L (k + fac g ^ (p - 1) * o) && A (p - 1) o) (fac g))) (by first | exact cnt_2 h2 c_91 | exact cnt_3 h3 hp2 hp3 c_91) ?_
                refine m_scalli (wr := [(bN, .inl (cI, 4, .inl (fun j => nI (nA g p dm (fac g) j)))), (bW, .inl (cJ, 36, .inr (.inl (fun j => lN (wm j)))))]) ⟨hXX, hBB, hml, hown, hts⟩ hN (kL_bits l D (mkN (fun o => L (k + fac g ^ (p - 1) * o) && A (p - 1) o) (fac g)) (by exact mkN_24 _ (by omega))) (va_cwS 1 hts gL_count_L_bits rfl rfl rfl (by decide +kernel) ⟨Nat.le_of_ble_eq_true rfl, Nat.le_of_ble_eq_true rfl⟩) hK hP hD hS hAA [] [0, 1] [] rfl rfl rfl (by decide) (by decide) (by decide) rfl hl.1 rfl (Nat.le_of_ble_eq_true rfl) dL_count_102 ⟨Nat.le_of_ble_eq_true rfl, Nat.le_of_ble_eq_true rfl⟩ (k := 0) (n := 0) rfl rfl (fun r_1 u_ H locs hw hP hD hS => ?_)
                have hw : (r_1 = nI (pcN 24 (mkN (fun o => L (k + fac g ^ (p - 1) * o) && A (p - 1) o) (fac g)))) := hw
                have hr_r_1 := hw
                have hP : va_P D vwCl [(bN, .inl (cI, 4, .inl (fun j => nI (nA g p dm (fac g) j)))), (bW, .inl (cJ, 36, .inr (.inl (fun j => lN (wm j)))))] H := hP
                have hD : va_D AA [(bN, .inl (cI, 4, .inl (fun j => nI (nA g p dm (fac g) j)))), (bW, .inl (cJ, 36, .inr (.inl (fun j => lN (wm j)))))] := hD
                subst hr_r_1
                refine m_top (y := nI (ct (fun o => L (k + fac g ^ (p - 1) * o) && A (p - 1) o) (fac g))) (by rw [pcN_mk 24 (fac g) _ hF24]) ?_
                refine lv_goto (tgt := 109) hXX hBB dL_count_105 (by decide) ?_
                refine lv_iadd hXX hBB dL_count_109 ?_
                refine m_top (y := nI (acc + (ct (fun o => L (k + fac g ^ (p - 1) * o) && A (p - 1) o) (fac g)))) (nI_add _ _) ?_
                refine lv_istore (lv' := [(9, .int (nI (acc + (ct (fun o => L (k + fac g ^ (p - 1) * o) && A (p - 1) o) (fac g))))), (11, .int (bI (A 0 (k % fac g) && (decide (p = 2) || A 1 (k / fac g))))), (10, .int (nI k)), (8, .int (nI (fac g))), (0, .ref bN), (1, .ref bW), (2, .long (lN x1)), (4, .long (lN x2)), (6, .long (lN x3))]) hXX hBB dL_count_110 hl (by decide) rfl (fun ls hl => ?_)
                refine lv_iinc (v := nI (k + 1)) (lv' := [(10, .int (nI (k + 1))), (9, .int (nI (acc + (ct (fun o => L (k + fac g ^ (p - 1) * o) && A (p - 1) o) (fac g))))), (11, .int (bI (A 0 (k % fac g) && (decide (p = 2) || A 1 (k / fac g))))), (8, .int (nI (fac g))), (0, .ref bN), (1, .ref bW), (2, .long (lN x1)), (4, .long (lN x2)), (6, .long (lN x3))]) hXX hBB dL_count_112 hl (k := 2) rfl (nI_1 _) (by decide) rfl (fun ls hl => ?_)
                refine lv_goto (tgt := 11) hXX hBB dL_count_115 (by decide) ?_
                have hi_k : (k + 1) ≤ fac g ^ (p - 1) := by omega
                have hi_acc : (acc + (ct (fun o => L (k + fac g ^ (p - 1) * o) && A (p - 1) o) (fac g))) = sm (cjT g p L A) (k + 1) := by first | exact cj_1 hacc c_80 | exact cj_0 hacc c_80
                have hmm : fac g ^ (p - 1) - (k + 1) < N_11 := by omega
                exact ih_11 (acc + (ct (fun o => L (k + fac g ^ (p - 1) * o) && A (p - 1) o) (fac g))) (k + 1) hi_k hi_acc hmm _ _ (hP.sub [0, 1] rfl) (hD.sub [0, 1] (by decide) rfl) hS ls (lv_sub hl [0, 1, 3, 4, 5, 6, 7, 8] rfl)
              · have c_91 : p = 2 := (nI_eq (by omega) (by omega)).mp c_91
                refine lv_lload hXX hBB dL_count_94 (lv_at hl 7 rfl) ?_
                refine lv_goto (tgt := 101) hXX hBB dL_count_96 (by decide) ?_
                refine lv_land hXX hBB dL_count_101 ?_
                refine m_topl (y := lN (mkN (fun o => L (k + fac g ^ (p - 1) * o) && A (p - 1) o) (fac g))) (by first | exact cnt_2 h2 c_91 | exact cnt_3 h3 hp2 hp3 c_91) ?_
                refine m_scalli (wr := [(bN, .inl (cI, 4, .inl (fun j => nI (nA g p dm (fac g) j)))), (bW, .inl (cJ, 36, .inr (.inl (fun j => lN (wm j)))))]) ⟨hXX, hBB, hml, hown, hts⟩ hN (kL_bits l D (mkN (fun o => L (k + fac g ^ (p - 1) * o) && A (p - 1) o) (fac g)) (by exact mkN_24 _ (by omega))) (va_cwS 1 hts gL_count_L_bits rfl rfl rfl (by decide +kernel) ⟨Nat.le_of_ble_eq_true rfl, Nat.le_of_ble_eq_true rfl⟩) hK hP hD hS hAA [] [0, 1] [] rfl rfl rfl (by decide) (by decide) (by decide) rfl hl.1 rfl (Nat.le_of_ble_eq_true rfl) dL_count_102 ⟨Nat.le_of_ble_eq_true rfl, Nat.le_of_ble_eq_true rfl⟩ (k := 0) (n := 0) rfl rfl (fun r_2 u_ H locs hw hP hD hS => ?_)
                have hw : (r_2 = nI (pcN 24 (mkN (fun o => L (k + fac g ^ (p - 1) * o) && A (p - 1) o) (fac g)))) := hw
                have hr_r_2 := hw
                have hP : va_P D vwCl [(bN, .inl (cI, 4, .inl (fun j => nI (nA g p dm (fac g) j)))), (bW, .inl (cJ, 36, .inr (.inl (fun j => lN (wm j)))))] H := hP
                have hD : va_D AA [(bN, .inl (cI, 4, .inl (fun j => nI (nA g p dm (fac g) j)))), (bW, .inl (cJ, 36, .inr (.inl (fun j => lN (wm j)))))] := hD
                subst hr_r_2
                refine m_top (y := nI (ct (fun o => L (k + fac g ^ (p - 1) * o) && A (p - 1) o) (fac g))) (by rw [pcN_mk 24 (fac g) _ hF24]) ?_
                refine lv_goto (tgt := 109) hXX hBB dL_count_105 (by decide) ?_
                refine lv_iadd hXX hBB dL_count_109 ?_
                refine m_top (y := nI (acc + (ct (fun o => L (k + fac g ^ (p - 1) * o) && A (p - 1) o) (fac g)))) (nI_add _ _) ?_
                refine lv_istore (lv' := [(9, .int (nI (acc + (ct (fun o => L (k + fac g ^ (p - 1) * o) && A (p - 1) o) (fac g))))), (11, .int (bI (A 0 (k % fac g) && (decide (p = 2) || A 1 (k / fac g))))), (10, .int (nI k)), (8, .int (nI (fac g))), (0, .ref bN), (1, .ref bW), (2, .long (lN x1)), (4, .long (lN x2)), (6, .long (lN x3))]) hXX hBB dL_count_110 hl (by decide) rfl (fun ls hl => ?_)
                refine lv_iinc (v := nI (k + 1)) (lv' := [(10, .int (nI (k + 1))), (9, .int (nI (acc + (ct (fun o => L (k + fac g ^ (p - 1) * o) && A (p - 1) o) (fac g))))), (11, .int (bI (A 0 (k % fac g) && (decide (p = 2) || A 1 (k / fac g))))), (8, .int (nI (fac g))), (0, .ref bN), (1, .ref bW), (2, .long (lN x1)), (4, .long (lN x2)), (6, .long (lN x3))]) hXX hBB dL_count_112 hl (k := 2) rfl (nI_1 _) (by decide) rfl (fun ls hl => ?_)
                refine lv_goto (tgt := 11) hXX hBB dL_count_115 (by decide) ?_
                have hi_k : (k + 1) ≤ fac g ^ (p - 1) := by omega
                have hi_acc : (acc + (ct (fun o => L (k + fac g ^ (p - 1) * o) && A (p - 1) o) (fac g))) = sm (cjT g p L A) (k + 1) := by first | exact cj_1 hacc c_80 | exact cj_0 hacc c_80
                have hmm : fac g ^ (p - 1) - (k + 1) < N_11 := by omega
                exact ih_11 (acc + (ct (fun o => L (k + fac g ^ (p - 1) * o) && A (p - 1) o) (fac g))) (k + 1) hi_k hi_acc hmm _ _ (hP.sub [0, 1] rfl) (hD.sub [0, 1] (by decide) rfl) hS ls (lv_sub hl [0, 1, 3, 4, 5, 6, 7, 8] rfl)
          refine lv_lload_n hXX hBB dL_count_33 rfl (lv_at hl 5 rfl) ?_
          refine lv_iload hXX hBB dL_count_34 (lv_at hl 0 rfl) ?_
          refine lv_iload hXX hBB dL_count_36 (lv_at hl 2 rfl) ?_
          refine lv_irem hXX hBB dL_count_38 (nI_ne0 (by omega) (by omega)) ?_
          refine m_top (y := nI (k % (fac g))) (pk_rem (by omega) (by omega) (by omega)) ?_
          refine lv_lshr (v := lN (x1 / 2 ^ (k % fac g))) hXX hBB dL_count_39 (by exact l_shr (by omega) (by omega)) ?_
          refine lv_lconst (v := lN 1) hXX hBB dL_count_40 rfl ?_
          refine lv_land hXX hBB dL_count_41 ?_
          refine m_topl (y := lN ((A 0 (k % fac g)).toNat)) (by rw [l_and1, h1]; exact congrArg lN (mkN_dig (A 0) hkf)) ?_
          refine lv_lconst (v := lN 1) hXX hBB dL_count_42 rfl ?_
          refine W.lcmp hXX hBB dL_count_43 ?_
          refine lv_if_ne (tgt := 73) hXX hBB dL_count_44 (by decide) (fun c_44 => ?_) (fun c_44 => ?_)
          · have c_44 : ¬ ((A 0 (k % fac g)).toNat) = 1 := fun h9 => c_44 ((lcmpE (by first | exact b2n63 _ | decide) (by first | exact b2n63 _ | decide)).mpr h9)
            have a0 : A 0 (k % fac g) = false := b2n0 c_44
            refine lv_iconst (v := nI 0) hXX hBB dL_count_73 (by decide) ?_
            refine m_top (y := bI (A 0 (k % fac g) && (decide (p = 2) || A 1 (k / fac g)))) (by first | (rw [a0]; rfl) | (rw [a0, decide_eq_true c_51]; rfl) | (rw [a0, a1]; cases decide (p = 2) <;> rfl) | (rw [a0, a1, decide_eq_false c_51]; rfl)) ?_
            exact J_74 _ _ (hP.sub [0, 1] rfl) (hD.sub [0, 1] (by decide) rfl) hS ls (lv_sub hl [0, 1, 2, 3, 4, 5, 6, 7] rfl)
          · have c_44 : ((A 0 (k % fac g)).toNat) = 1 := (lcmpE (by first | exact b2n63 _ | decide) (by first | exact b2n63 _ | decide)).mp c_44
            have a0 : A 0 (k % fac g) = true := b2n1 c_44
            refine lv_aload_n hXX hBB dL_count_47 rfl (lv_at hl 3 rfl) ?_
            refine lv_iconst (v := nI 1) hXX hBB dL_count_48 (by decide) ?_
            refine m_iald hXX hBB hK hP 0 0 rfl rfl (i := 1) (by omega) (by decide) (x := nI p) rfl dL_count_49 ?_
            refine lv_iconst (v := nI 2) hXX hBB dL_count_50 (by decide) ?_
            refine lv_icmp_eq (tgt := 69) hXX hBB dL_count_51 (by decide) (fun c_51 => ?_) (fun c_51 => ?_)
            · have c_51 : p = 2 := (nI_eq (by omega) (by omega)).mp c_51
              refine lv_iconst (v := nI 1) hXX hBB dL_count_69 (by decide) ?_
              refine lv_goto (tgt := 74) hXX hBB dL_count_70 (by decide) ?_
              refine m_top (y := bI (A 0 (k % fac g) && (decide (p = 2) || A 1 (k / fac g)))) (by first | (rw [a0]; rfl) | (rw [a0, decide_eq_true c_51]; rfl) | (rw [a0, a1]; cases decide (p = 2) <;> rfl) | (rw [a0, a1, decide_eq_false c_51]; rfl)) ?_
              exact J_74 _ _ (hP.sub [0, 1] rfl) (hD.sub [0, 1] (by decide) rfl) hS ls (lv_sub hl [0, 1, 2, 3, 4, 5, 6, 7] rfl)
            · have c_51 : ¬ p = 2 := fun h9 => c_51 ((nI_eq (by omega) (by omega)).mpr h9)
              have hp9 : p = 3 := by omega
              have hkd : k / fac g < fac g := F_div hp9 (by omega)
              refine lv_lload hXX hBB dL_count_54 (lv_at hl 6 rfl) ?_
              refine lv_iload hXX hBB dL_count_56 (lv_at hl 0 rfl) ?_
              refine lv_iload hXX hBB dL_count_58 (lv_at hl 2 rfl) ?_
              refine lv_idiv hXX hBB dL_count_60 (nI_ne0 (by omega) (by omega)) ?_
              refine m_top (y := nI (k / (fac g))) (pk_div (by omega) (by omega) (by omega)) ?_
              refine lv_lshr (v := lN (x2 / 2 ^ (k / fac g))) hXX hBB dL_count_61 (by exact l_shr (by omega) (by omega)) ?_
              refine lv_lconst (v := lN 1) hXX hBB dL_count_62 rfl ?_
              refine lv_land hXX hBB dL_count_63 ?_
              refine m_topl (y := lN ((A 1 (k / fac g)).toNat)) (by rw [l_and1, h2]; exact congrArg lN (mkN_dig (A 1) hkd)) ?_
              refine lv_lconst (v := lN 1) hXX hBB dL_count_64 rfl ?_
              refine W.lcmp hXX hBB dL_count_65 ?_
              refine lv_if_ne (tgt := 73) hXX hBB dL_count_66 (by decide) (fun c_66 => ?_) (fun c_66 => ?_)
              · have c_66 : ¬ ((A 1 (k / fac g)).toNat) = 1 := fun h9 => c_66 ((lcmpE (by first | exact b2n63 _ | decide) (by first | exact b2n63 _ | decide)).mpr h9)
                have a1 : A 1 (k / fac g) = false := b2n0 c_66
                refine lv_iconst (v := nI 0) hXX hBB dL_count_73 (by decide) ?_
                refine m_top (y := bI (A 0 (k % fac g) && (decide (p = 2) || A 1 (k / fac g)))) (by first | (rw [a0]; rfl) | (rw [a0, decide_eq_true c_51]; rfl) | (rw [a0, a1]; cases decide (p = 2) <;> rfl) | (rw [a0, a1, decide_eq_false c_51]; rfl)) ?_
                exact J_74 _ _ (hP.sub [0, 1] rfl) (hD.sub [0, 1] (by decide) rfl) hS ls (lv_sub hl [0, 1, 2, 3, 4, 5, 6, 7] rfl)
              · have c_66 : ((A 1 (k / fac g)).toNat) = 1 := (lcmpE (by first | exact b2n63 _ | decide) (by first | exact b2n63 _ | decide)).mp c_66
                have a1 : A 1 (k / fac g) = true := b2n1 c_66
                refine lv_iconst (v := nI 1) hXX hBB dL_count_69 (by decide) ?_
                refine lv_goto (tgt := 74) hXX hBB dL_count_70 (by decide) ?_
                refine m_top (y := bI (A 0 (k % fac g) && (decide (p = 2) || A 1 (k / fac g)))) (by first | (rw [a0]; rfl) | (rw [a0, decide_eq_true c_51]; rfl) | (rw [a0, a1]; cases decide (p = 2) <;> rfl) | (rw [a0, a1, decide_eq_false c_51]; rfl)) ?_
                exact J_74 _ _ (hP.sub [0, 1] rfl) (hD.sub [0, 1] (by decide) rfl) hS ls (lv_sub hl [0, 1, 2, 3, 4, 5, 6, 7] rfl)
      refine lv_aload_n hXX hBB dL_count_13 rfl (lv_at hl 3 rfl) ?_
      refine lv_iconst (v := nI 1) hXX hBB dL_count_14 (by decide) ?_
      refine m_iald hXX hBB hK hP 0 0 rfl rfl (i := 1) (by omega) (by decide) (x := nI p) rfl dL_count_15 ?_
      refine lv_iconst (v := nI 2) hXX hBB dL_count_16 (by decide) ?_
      refine lv_icmp_ne (tgt := 25) hXX hBB dL_count_17 (by decide) (fun c_17 => ?_) (fun c_17 => ?_)
      · have c_17 : ¬ p = 2 := fun h9 => c_17 ((nI_eq (by omega) (by omega)).mpr h9)
        refine lv_iload hXX hBB dL_count_25 (lv_at hl 2 rfl) ?_
        refine lv_iload hXX hBB dL_count_27 (lv_at hl 2 rfl) ?_
        refine lv_imul hXX hBB dL_count_29 ?_
        refine m_top (y := nI ((fac g) * (fac g))) (pk_mul _ _) ?_
        refine m_top (y := nI (fac g ^ (p - 1))) (by first | exact F_2 c_17 | exact F_3 hp2 hp3 c_17) ?_
        exact J_30 _ _ (hP.sub [0, 1] rfl) (hD.sub [0, 1] (by decide) rfl) hS ls (lv_sub hl [0, 1, 2, 3, 4, 5, 6, 7] rfl)
      · have c_17 : p = 2 := (nI_eq (by omega) (by omega)).mp c_17
        refine lv_iload hXX hBB dL_count_20 (lv_at hl 2 rfl) ?_
        refine lv_goto (tgt := 30) hXX hBB dL_count_22 (by decide) ?_
        refine m_top (y := nI (fac g ^ (p - 1))) (by first | exact F_2 c_17 | exact F_3 hp2 hp3 c_17) ?_
        exact J_30 _ _ (hP.sub [0, 1] rfl) (hD.sub [0, 1] (by decide) rfl) hS ls (lv_sub hl [0, 1, 2, 3, 4, 5, 6, 7] rfl)
  have hi_k : 0 ≤ fac g ^ (p - 1) := by exact Nat.zero_le _
  have hi_acc : 0 = sm (cjT g p L A) 0 := by rfl
  exact L_11 _ 0 0 hi_k hi_acc (Nat.lt_succ_self _) _ _ hP hD hS ls (lv_sub hl [0, 1, 2, 3, 4, 5, 6, 7] rfl)
abbrev rmL_withTeam : Room := { frames := 2, cells := 0, slots := 0, locals := 55 }
set_option maxHeartbeats 4000000 in
set_option maxRecDepth 100000 in
theorem kL_withTeam (l : Launch) (D : va_G) (cI : ClassId) (cJ : ClassId) (bN : Nat) (g : Nat) (p : Nat) (dm : Nat) (bW : Nat) (wm : Nat → Nat) (bQ : Nat) (qm : Nat → Nat) (bM : Nat) (mm : Nat → Nat) (t : Nat) (k : Nat) (rg : Nat → Nat) (bd : Nat → Nat) (ab : Nat → Bool) (ob : Nat → Bool) (S : Nat → Int32) (hG : LG g p) (hW : WM g p rg bd ab ob wm) (hqm : QM g qm) (hmm : MM g p S mm) (ht : t < g * p) (hk : k < 4) : Ci l yL_withTeam wsL_withTeam rmL_withTeam D [(cI, .int), (cJ, .long)] [.ref bN, .ref bW, .ref bQ, .ref bM, .int (nI t), .int (nI k)] [(bN, .inl (cI, 4, .inl (fun j => nI (nA g p dm (fac g) j)))), (bW, .inl (cJ, 36, .inr (.inl (fun j => lN (wm j))))), (bQ, .inl (cJ, 16, .inr (.inl (fun j => lN (qm j))))), (bM, .inl (cJ, 3, .inr (.inl (fun j => lN (mm j)))))] (fun (r : Int32) (_ : Unit) => r = nI (evN g p rg bd ab ob S t k)) (fun (_ : Unit) => [(bN, .inl (cI, 4, .inl (fun j => nI (nA g p dm (fac g) j)))), (bW, .inl (cJ, 36, .inr (.inl (fun j => lN (wm j))))), (bQ, .inl (cJ, 16, .inr (.inl (fun j => lN (qm j))))), (bM, .inl (cJ, 3, .inr (.inl (fun j => lN (mm j)))))]) := by
  refine Ci_of (cc := cL_withTeam) (maxL := 9) (by decide) rfl (Nat.le_of_ble_eq_true rfl) ?_
  intro pR eV sT mI args below meth cO AA QQ ls hXX hBB hml hown hts hnm hN hK hP hD hS hAA hl hret
  have hl : lv_has ls 9 [(0, .ref bN), (1, .ref bW), (2, .ref bQ), (3, .ref bM), (4, .int (nI t)), (5, .int (nI k))] := hl
  obtain ⟨⟨hg2, hg4⟩, ⟨hp2, hp3⟩, hT⟩ := id hG
  have hg0 : 0 < g := by omega
  have hpl : t / g < p := pot_lt hg0 ht
  have hq09 : 0 ≤ t / g := Nat.zero_le _
  have htg : t % g < g := Nat.mod_lt t hg0
  refine lv_iload hXX hBB dL_withTeam_0 (lv_at hl 4 rfl) ?_
  refine lv_aload_n hXX hBB dL_withTeam_2 rfl (lv_at hl 0 rfl) ?_
  refine lv_iconst (v := nI 0) hXX hBB dL_withTeam_3 (by decide) ?_
  refine m_iald hXX hBB hK hP 0 0 rfl rfl (i := 0) (by omega) (by decide) (x := nI g) rfl dL_withTeam_4 ?_
  refine lv_idiv hXX hBB dL_withTeam_5 (nI_ne0 (by omega) (by omega)) ?_
  refine m_top (y := nI (t / g)) (by exact pk_div (by omega) (by omega) (by omega)) ?_
  refine lv_istore (lv' := [(6, .int (nI (t / g))), (0, .ref bN), (1, .ref bW), (2, .ref bQ), (3, .ref bM), (4, .int (nI t)), (5, .int (nI k))]) hXX hBB dL_withTeam_6 hl (by decide) rfl (fun ls hl => ?_)
  refine lv_aload_n hXX hBB dL_withTeam_8 rfl (lv_at hl 3 rfl) ?_
  refine lv_iconst (v := nI 4) hXX hBB dL_withTeam_9 (by decide) ?_
  refine lv_iload hXX hBB dL_withTeam_10 (lv_at hl 5 rfl) ?_
  refine lv_aload_n hXX hBB dL_withTeam_12 rfl (lv_at hl 1 rfl) ?_
  refine lv_iconst (v := nI 0) hXX hBB dL_withTeam_13 (by decide) ?_
  refine m_iald hXX hBB hK hP 0 0 rfl rfl (i := 0) (by omega) (by decide) (x := nI g) rfl dL_withTeam_14 ?_
  refine lv_irem hXX hBB dL_withTeam_15 (nI_ne0 (by omega) (by omega)) ?_
  refine m_top (y := nI (t % g)) (by exact pk_rem (by omega) (by omega) (by omega)) ?_
  refine lv_imul hXX hBB dL_withTeam_16 ?_
  refine m_top (y := nI (4 * (t % g))) (pk_mul _ _) ?_
  refine lv_iload hXX hBB dL_withTeam_17 (lv_at hl 6 rfl) ?_
  refine lv_iadd hXX hBB dL_withTeam_19 ?_
  refine m_top (y := nI ((4 * (t % g)) + k)) (nI_add _ _) ?_
  refine m_lald hXX hBB hK hP 2 1 rfl rfl (i := (4 * (t % g)) + k) (by omega) (by decide) (x := lN (qm ((4 * (t % g)) + k))) rfl dL_withTeam_20 ?_
  refine m_topl (y := lN (mkN (fun o => decide (atN g o (t % g) = k)) (fac g))) (by rw [hqm (t % g) htg k hk]) ?_
  refine lv_lstore (lv' := [(7, .long (lN (mkN (fun o => decide (atN g o (t % g) = k)) (fac g)))), (6, .int (nI (t / g))), (0, .ref bN), (1, .ref bW), (2, .ref bQ), (3, .ref bM), (4, .int (nI t)), (5, .int (nI k))]) hXX hBB dL_withTeam_21 hl (by decide) rfl (fun ls hl => ?_)
  refine lv_aload_n hXX hBB dL_withTeam_23 rfl (lv_at hl 2 rfl) ?_
  refine lv_aload_n hXX hBB dL_withTeam_24 rfl (lv_at hl 3 rfl) ?_
  refine lv_iload hXX hBB dL_withTeam_25 (lv_at hl 1 rfl) ?_
  refine lv_if_ne (tgt := 39) hXX hBB dL_withTeam_27 (by decide) (fun c_27 => ?_) (fun c_27 => ?_)
  · have c_27 : ¬ (t / g) = 0 := fun h9 => c_27 ((m_z (by omega)).mpr h9)
    refine lv_aload_n hXX hBB dL_withTeam_39 rfl (lv_at hl 5 rfl) ?_
    refine lv_iconst (v := nI 0) hXX hBB dL_withTeam_40 (by decide) ?_
    refine m_lald hXX hBB hK hP 3 1 rfl rfl (i := 0) (by omega) (by decide) (x := lN (mm 0)) rfl dL_withTeam_41 ?_
    refine lv_iload hXX hBB dL_withTeam_42 (lv_at hl 1 rfl) ?_
    refine lv_iconst (v := nI 1) hXX hBB dL_withTeam_44 (by decide) ?_
    refine lv_icmp_ne (tgt := 57) hXX hBB dL_withTeam_45 (by decide) (fun c_45 => ?_) (fun c_45 => ?_)
    · have c_45 : ¬ (t / g) = 1 := fun h9 => c_45 ((nI_eq (by omega) (by omega)).mpr h9)
      refine lv_aload_n hXX hBB dL_withTeam_57 rfl (lv_at hl 5 rfl) ?_
      refine lv_iconst (v := nI 1) hXX hBB dL_withTeam_58 (by decide) ?_
      refine m_lald hXX hBB hK hP 3 1 rfl rfl (i := 1) (by omega) (by decide) (x := lN (mm 1)) rfl dL_withTeam_59 ?_
      refine lv_iload hXX hBB dL_withTeam_60 (lv_at hl 1 rfl) ?_
      refine lv_iconst (v := nI 2) hXX hBB dL_withTeam_62 (by decide) ?_
      refine lv_icmp_ne (tgt := 75) hXX hBB dL_withTeam_63 (by decide) (fun c_63 => ?_) (fun c_63 => ?_)
      · have c_63 : ¬ (t / g) = 2 := fun h9 => c_63 ((nI_eq (by omega) (by omega)).mpr h9)
        omega
      · have c_63 : (t / g) = 2 := (nI_eq (by omega) (by omega)).mp c_63
        refine lv_aload_n hXX hBB dL_withTeam_66 rfl (lv_at hl 5 rfl) ?_
        refine lv_iconst (v := nI 2) hXX hBB dL_withTeam_67 (by decide) ?_
        refine m_lald hXX hBB hK hP 3 1 rfl rfl (i := 2) (by omega) (by decide) (x := lN (mm 2)) rfl dL_withTeam_68 ?_
        refine lv_lload hXX hBB dL_withTeam_69 (lv_at hl 0 rfl) ?_
        refine lv_land hXX hBB dL_withTeam_71 ?_
        refine m_topl (y := lN (mm 2 &&& mkN (fun o => decide (atN g o (t % g) = k)) (fac g))) (by exact l_and _ _) ?_
        refine lv_goto (tgt := 78) hXX hBB dL_withTeam_72 (by decide) ?_
        refine m_scalli (wr := [(bQ, .inl (cJ, 16, .inr (.inl (fun j => lN (qm j))))), (bM, .inl (cJ, 3, .inr (.inl (fun j => lN (mm j)))))]) ⟨hXX, hBB, hml, hown, hts⟩ hN (kL_count l D cI cJ bN g p dm bW wm (mm 0) (mm 1) (mm 2 &&& mkN (fun o => decide (atN g o (t % g) = k)) (fac g)) (LMb g p rg bd ab ob) (potT g S t k) (by assumption) (by exact hW) (by first | exact mm_and hmm (by omega) (by omega) | exact mm_is hmm (by omega) (by omega)) (by first | exact mm_and hmm (by omega) (by omega) | exact mm_is hmm (by omega) (by omega)) (by intro hp9; first | exact mm_and hmm (by omega) (by omega) | exact mm_is hmm (by omega) (by omega))) (va_cwS 5 hts gL_withTeam_L_count rfl rfl rfl (by decide +kernel) ⟨Nat.le_of_ble_eq_true rfl, Nat.le_of_ble_eq_true rfl⟩) hK hP hD hS hAA [0, 1] [2, 3] [0, 1] rfl rfl rfl (by decide) (by decide) (by decide) rfl hl.1 rfl (Nat.le_of_ble_eq_true rfl) dL_withTeam_78 ⟨Nat.le_of_ble_eq_true rfl, Nat.le_of_ble_eq_true rfl⟩ (k := 0) (n := 0) rfl rfl (fun r_1 u_ H locs hw hP hD hS => ?_)
        have hw : (r_1 = nI (cntN g p (LMb g p rg bd ab ob) (potT g S t k))) := hw
        have hr_r_1 := hw
        have hP : va_P D vwCl [(bQ, .inl (cJ, 16, .inr (.inl (fun j => lN (qm j))))), (bM, .inl (cJ, 3, .inr (.inl (fun j => lN (mm j))))), (bN, .inl (cI, 4, .inl (fun j => nI (nA g p dm (fac g) j)))), (bW, .inl (cJ, 36, .inr (.inl (fun j => lN (wm j)))))] H := hP
        have hD : va_D AA [(bQ, .inl (cJ, 16, .inr (.inl (fun j => lN (qm j))))), (bM, .inl (cJ, 3, .inr (.inl (fun j => lN (mm j))))), (bN, .inl (cI, 4, .inl (fun j => nI (nA g p dm (fac g) j)))), (bW, .inl (cJ, 36, .inr (.inl (fun j => lN (wm j)))))] := hD
        subst hr_r_1
        refine m_top (y := nI (evN g p rg bd ab ob S t k)) (by rw [evA hg0 hg4 ht]) ?_
        refine hret (r := nI (evN g p rg bd ab ob S t k)) () ?_ (rfl) (hP.sub [2, 3, 0, 1] rfl) (hD.sub [2, 3, 0, 1] (by decide) rfl) hS (Nat.le_of_ble_eq_true rfl) (Nat.le_of_ble_eq_true rfl) dL_withTeam_81
        show nI (evN g p rg bd ab ob S t k) = nI (evN g p rg bd ab ob S t k)
        rfl
    · have c_45 : (t / g) = 1 := (nI_eq (by omega) (by omega)).mp c_45
      refine lv_aload_n hXX hBB dL_withTeam_48 rfl (lv_at hl 5 rfl) ?_
      refine lv_iconst (v := nI 1) hXX hBB dL_withTeam_49 (by decide) ?_
      refine m_lald hXX hBB hK hP 3 1 rfl rfl (i := 1) (by omega) (by decide) (x := lN (mm 1)) rfl dL_withTeam_50 ?_
      refine lv_lload hXX hBB dL_withTeam_51 (lv_at hl 0 rfl) ?_
      refine lv_land hXX hBB dL_withTeam_53 ?_
      refine m_topl (y := lN (mm 1 &&& mkN (fun o => decide (atN g o (t % g) = k)) (fac g))) (by exact l_and _ _) ?_
      refine lv_goto (tgt := 60) hXX hBB dL_withTeam_54 (by decide) ?_
      refine lv_iload hXX hBB dL_withTeam_60 (lv_at hl 1 rfl) ?_
      refine lv_iconst (v := nI 2) hXX hBB dL_withTeam_62 (by decide) ?_
      refine lv_icmp_ne (tgt := 75) hXX hBB dL_withTeam_63 (by decide) (fun c_63 => ?_) (fun c_63 => ?_)
      · have c_63 : ¬ (t / g) = 2 := fun h9 => c_63 ((nI_eq (by omega) (by omega)).mpr h9)
        refine lv_aload_n hXX hBB dL_withTeam_75 rfl (lv_at hl 5 rfl) ?_
        refine lv_iconst (v := nI 2) hXX hBB dL_withTeam_76 (by decide) ?_
        refine m_lald hXX hBB hK hP 3 1 rfl rfl (i := 2) (by omega) (by decide) (x := lN (mm 2)) rfl dL_withTeam_77 ?_
        refine m_scalli (wr := [(bQ, .inl (cJ, 16, .inr (.inl (fun j => lN (qm j))))), (bM, .inl (cJ, 3, .inr (.inl (fun j => lN (mm j)))))]) ⟨hXX, hBB, hml, hown, hts⟩ hN (kL_count l D cI cJ bN g p dm bW wm (mm 0) (mm 1 &&& mkN (fun o => decide (atN g o (t % g) = k)) (fac g)) (mm 2) (LMb g p rg bd ab ob) (potT g S t k) (by assumption) (by exact hW) (by first | exact mm_and hmm (by omega) (by omega) | exact mm_is hmm (by omega) (by omega)) (by first | exact mm_and hmm (by omega) (by omega) | exact mm_is hmm (by omega) (by omega)) (by intro hp9; first | exact mm_and hmm (by omega) (by omega) | exact mm_is hmm (by omega) (by omega))) (va_cwS 5 hts gL_withTeam_L_count rfl rfl rfl (by decide +kernel) ⟨Nat.le_of_ble_eq_true rfl, Nat.le_of_ble_eq_true rfl⟩) hK hP hD hS hAA [0, 1] [2, 3] [0, 1] rfl rfl rfl (by decide) (by decide) (by decide) rfl hl.1 rfl (Nat.le_of_ble_eq_true rfl) dL_withTeam_78 ⟨Nat.le_of_ble_eq_true rfl, Nat.le_of_ble_eq_true rfl⟩ (k := 0) (n := 0) rfl rfl (fun r_2 u_ H locs hw hP hD hS => ?_)
        have hw : (r_2 = nI (cntN g p (LMb g p rg bd ab ob) (potT g S t k))) := hw
        have hr_r_2 := hw
        have hP : va_P D vwCl [(bQ, .inl (cJ, 16, .inr (.inl (fun j => lN (qm j))))), (bM, .inl (cJ, 3, .inr (.inl (fun j => lN (mm j))))), (bN, .inl (cI, 4, .inl (fun j => nI (nA g p dm (fac g) j)))), (bW, .inl (cJ, 36, .inr (.inl (fun j => lN (wm j)))))] H := hP
        have hD : va_D AA [(bQ, .inl (cJ, 16, .inr (.inl (fun j => lN (qm j))))), (bM, .inl (cJ, 3, .inr (.inl (fun j => lN (mm j))))), (bN, .inl (cI, 4, .inl (fun j => nI (nA g p dm (fac g) j)))), (bW, .inl (cJ, 36, .inr (.inl (fun j => lN (wm j)))))] := hD
        subst hr_r_2
        refine m_top (y := nI (evN g p rg bd ab ob S t k)) (by rw [evA hg0 hg4 ht]) ?_
        refine hret (r := nI (evN g p rg bd ab ob S t k)) () ?_ (rfl) (hP.sub [2, 3, 0, 1] rfl) (hD.sub [2, 3, 0, 1] (by decide) rfl) hS (Nat.le_of_ble_eq_true rfl) (Nat.le_of_ble_eq_true rfl) dL_withTeam_81
        show nI (evN g p rg bd ab ob S t k) = nI (evN g p rg bd ab ob S t k)
        rfl
      · have c_63 : (t / g) = 2 := (nI_eq (by omega) (by omega)).mp c_63
        omega
  · have c_27 : (t / g) = 0 := (m_z (by omega)).mp c_27
    refine lv_aload_n hXX hBB dL_withTeam_30 rfl (lv_at hl 5 rfl) ?_
    refine lv_iconst (v := nI 0) hXX hBB dL_withTeam_31 (by decide) ?_
    refine m_lald hXX hBB hK hP 3 1 rfl rfl (i := 0) (by omega) (by decide) (x := lN (mm 0)) rfl dL_withTeam_32 ?_
    refine lv_lload hXX hBB dL_withTeam_33 (lv_at hl 0 rfl) ?_
    refine lv_land hXX hBB dL_withTeam_35 ?_
    refine m_topl (y := lN (mm 0 &&& mkN (fun o => decide (atN g o (t % g) = k)) (fac g))) (by exact l_and _ _) ?_
    refine lv_goto (tgt := 42) hXX hBB dL_withTeam_36 (by decide) ?_
    refine lv_iload hXX hBB dL_withTeam_42 (lv_at hl 1 rfl) ?_
    refine lv_iconst (v := nI 1) hXX hBB dL_withTeam_44 (by decide) ?_
    refine lv_icmp_ne (tgt := 57) hXX hBB dL_withTeam_45 (by decide) (fun c_45 => ?_) (fun c_45 => ?_)
    · have c_45 : ¬ (t / g) = 1 := fun h9 => c_45 ((nI_eq (by omega) (by omega)).mpr h9)
      refine lv_aload_n hXX hBB dL_withTeam_57 rfl (lv_at hl 5 rfl) ?_
      refine lv_iconst (v := nI 1) hXX hBB dL_withTeam_58 (by decide) ?_
      refine m_lald hXX hBB hK hP 3 1 rfl rfl (i := 1) (by omega) (by decide) (x := lN (mm 1)) rfl dL_withTeam_59 ?_
      refine lv_iload hXX hBB dL_withTeam_60 (lv_at hl 1 rfl) ?_
      refine lv_iconst (v := nI 2) hXX hBB dL_withTeam_62 (by decide) ?_
      refine lv_icmp_ne (tgt := 75) hXX hBB dL_withTeam_63 (by decide) (fun c_63 => ?_) (fun c_63 => ?_)
      · have c_63 : ¬ (t / g) = 2 := fun h9 => c_63 ((nI_eq (by omega) (by omega)).mpr h9)
        refine lv_aload_n hXX hBB dL_withTeam_75 rfl (lv_at hl 5 rfl) ?_
        refine lv_iconst (v := nI 2) hXX hBB dL_withTeam_76 (by decide) ?_
        refine m_lald hXX hBB hK hP 3 1 rfl rfl (i := 2) (by omega) (by decide) (x := lN (mm 2)) rfl dL_withTeam_77 ?_
        refine m_scalli (wr := [(bQ, .inl (cJ, 16, .inr (.inl (fun j => lN (qm j))))), (bM, .inl (cJ, 3, .inr (.inl (fun j => lN (mm j)))))]) ⟨hXX, hBB, hml, hown, hts⟩ hN (kL_count l D cI cJ bN g p dm bW wm (mm 0 &&& mkN (fun o => decide (atN g o (t % g) = k)) (fac g)) (mm 1) (mm 2) (LMb g p rg bd ab ob) (potT g S t k) (by assumption) (by exact hW) (by first | exact mm_and hmm (by omega) (by omega) | exact mm_is hmm (by omega) (by omega)) (by first | exact mm_and hmm (by omega) (by omega) | exact mm_is hmm (by omega) (by omega)) (by intro hp9; first | exact mm_and hmm (by omega) (by omega) | exact mm_is hmm (by omega) (by omega))) (va_cwS 5 hts gL_withTeam_L_count rfl rfl rfl (by decide +kernel) ⟨Nat.le_of_ble_eq_true rfl, Nat.le_of_ble_eq_true rfl⟩) hK hP hD hS hAA [0, 1] [2, 3] [0, 1] rfl rfl rfl (by decide) (by decide) (by decide) rfl hl.1 rfl (Nat.le_of_ble_eq_true rfl) dL_withTeam_78 ⟨Nat.le_of_ble_eq_true rfl, Nat.le_of_ble_eq_true rfl⟩ (k := 0) (n := 0) rfl rfl (fun r_3 u_ H locs hw hP hD hS => ?_)
        have hw : (r_3 = nI (cntN g p (LMb g p rg bd ab ob) (potT g S t k))) := hw
        have hr_r_3 := hw
        have hP : va_P D vwCl [(bQ, .inl (cJ, 16, .inr (.inl (fun j => lN (qm j))))), (bM, .inl (cJ, 3, .inr (.inl (fun j => lN (mm j))))), (bN, .inl (cI, 4, .inl (fun j => nI (nA g p dm (fac g) j)))), (bW, .inl (cJ, 36, .inr (.inl (fun j => lN (wm j)))))] H := hP
        have hD : va_D AA [(bQ, .inl (cJ, 16, .inr (.inl (fun j => lN (qm j))))), (bM, .inl (cJ, 3, .inr (.inl (fun j => lN (mm j))))), (bN, .inl (cI, 4, .inl (fun j => nI (nA g p dm (fac g) j)))), (bW, .inl (cJ, 36, .inr (.inl (fun j => lN (wm j)))))] := hD
        subst hr_r_3
        refine m_top (y := nI (evN g p rg bd ab ob S t k)) (by rw [evA hg0 hg4 ht]) ?_
        refine hret (r := nI (evN g p rg bd ab ob S t k)) () ?_ (rfl) (hP.sub [2, 3, 0, 1] rfl) (hD.sub [2, 3, 0, 1] (by decide) rfl) hS (Nat.le_of_ble_eq_true rfl) (Nat.le_of_ble_eq_true rfl) dL_withTeam_81
        show nI (evN g p rg bd ab ob S t k) = nI (evN g p rg bd ab ob S t k)
        rfl
      · have c_63 : (t / g) = 2 := (nI_eq (by omega) (by omega)).mp c_63
        omega
    · have c_45 : (t / g) = 1 := (nI_eq (by omega) (by omega)).mp c_45
      omega
abbrev rmL_lowest : Room := { frames := 3, cells := 0, slots := 0, locals := 83 }
set_option maxHeartbeats 4000000 in
set_option maxRecDepth 100000 in
theorem kL_lowest (l : Launch) (D : va_G) (cI : ClassId) (cJ : ClassId) (bN : Nat) (g : Nat) (p : Nat) (dm : Nat) (bW : Nat) (wm : Nat → Nat) (bQ : Nat) (qm : Nat → Nat) (bM : Nat) (mm : Nat → Nat) (t : Nat) (rg : Nat → Nat) (bd : Nat → Nat) (ab : Nat → Bool) (ob : Nat → Bool) (S : Nat → Int32) (hG : LG g p) (hW : WM g p rg bd ab ob wm) (hqm : QM g qm) (hmm : MM g p S mm) (ht : t < g * p) : Ci l yL_lowest wsL_lowest rmL_lowest D [(cI, .int), (cJ, .long)] [.ref bN, .ref bW, .ref bQ, .ref bM, .int (nI t)] [(bN, .inl (cI, 4, .inl (fun j => nI (nA g p dm (fac g) j)))), (bW, .inl (cJ, 36, .inr (.inl (fun j => lN (wm j))))), (bQ, .inl (cJ, 16, .inr (.inl (fun j => lN (qm j))))), (bM, .inl (cJ, 3, .inr (.inl (fun j => lN (mm j)))))] (fun (r : Int32) (_ : Unit) => r = nI (lowC g p rg bd ab ob S t)) (fun (_ : Unit) => [(bN, .inl (cI, 4, .inl (fun j => nI (nA g p dm (fac g) j)))), (bW, .inl (cJ, 36, .inr (.inl (fun j => lN (wm j))))), (bQ, .inl (cJ, 16, .inr (.inl (fun j => lN (qm j))))), (bM, .inl (cJ, 3, .inr (.inl (fun j => lN (mm j)))))]) := by
  refine Ci_of (cc := cL_lowest) (maxL := 6) (by decide) rfl (Nat.le_of_ble_eq_true rfl) ?_
  intro pR eV sT mI args below meth cO AA QQ ls hXX hBB hml hown hts hnm hN hK hP hD hS hAA hl hret
  have hl : lv_has ls 6 [(0, .ref bN), (1, .ref bW), (2, .ref bQ), (3, .ref bM), (4, .int (nI t))] := hl
  obtain ⟨⟨hg2, hg4⟩, ⟨hp2, hp3⟩, hT⟩ := id hG
  have hg0 : 0 < g := by omega
  refine lv_iconst (v := nI 0) hXX hBB dL_lowest_0 (by decide) ?_
  refine lv_istore (lv' := [(5, .int (nI 0)), (0, .ref bN), (1, .ref bW), (2, .ref bQ), (3, .ref bM), (4, .int (nI t))]) hXX hBB dL_lowest_1 hl (by decide) rfl (fun ls hl => ?_)
  have L_3 : ∀ (N_3 : Nat) (k : Nat), (k ≤ g) → (∀ j, j < k → evN g p rg bd ab ob S t j = 0) → g - k < N_3 → ∀ (H : Heap) (locs : List Loc), va_P D vwCl [(bN, .inl (cI, 4, .inl (fun j => nI (nA g p dm (fac g) j)))), (bW, .inl (cJ, 36, .inr (.inl (fun j => lN (wm j))))), (bQ, .inl (cJ, 16, .inr (.inl (fun j => lN (qm j))))), (bM, .inl (cJ, 3, .inr (.inl (fun j => lN (mm j)))))] H → va_D AA [(bN, .inl (cI, 4, .inl (fun j => nI (nA g p dm (fac g) j)))), (bW, .inl (cJ, 36, .inr (.inl (fun j => lN (wm j))))), (bQ, .inl (cJ, 16, .inr (.inl (fun j => lN (qm j))))), (bM, .inl (cJ, 3, .inr (.inl (fun j => lN (mm j)))))] → va_S AA sT.heap H locs → ∀ (ls : Array Slot), lv_has ls 6 [(5, .int (nI k)), (0, .ref bN), (1, .ref bW), (2, .ref bQ), (3, .ref bM), (4, .int (nI t))] → W pR l eV rmL_lowest sT mI args below meth cO H locs 0 0 QQ (F0 mI 3 ls []) := by
    intro N_3
    induction N_3 with
    | zero =>
      intro k hk hz hMM
      exact absurd hMM (Nat.not_lt_zero _)
    | succ N_3 ih_3 =>
      intro k hk hz hMM H locs hP hD hS ls hl
      refine lv_iload hXX hBB dL_lowest_3 (lv_at hl 0 rfl) ?_
      refine lv_aload_n hXX hBB dL_lowest_5 rfl (lv_at hl 1 rfl) ?_
      refine lv_iconst (v := nI 0) hXX hBB dL_lowest_6 (by decide) ?_
      refine m_iald hXX hBB hK hP 0 0 rfl rfl (i := 0) (by omega) (by decide) (x := nI g) rfl dL_lowest_7 ?_
      refine lv_icmp_ge (tgt := 31) hXX hBB dL_lowest_8 (by decide) (fun c_8 => ?_) (fun c_8 => ?_)
      · have c_8 : g ≤ k := (nI_leI (by omega) (by omega)).mp c_8
        refine lv_iload hXX hBB dL_lowest_31 (lv_at hl 0 rfl) ?_
        refine hret (r := nI k) () ?_ (rfl) (hP.sub [0, 1, 2, 3] rfl) (hD.sub [0, 1, 2, 3] (by decide) rfl) hS (Nat.le_of_ble_eq_true rfl) (Nat.le_of_ble_eq_true rfl) dL_lowest_33
        show nI k = nI (lowC g p rg bd ab ob S t)
        exact congrArg nI (fstN_eq hk hz (fun h9 => by first | omega | exact Nat.pos_of_ne_zero c_22)).symm
      · have c_8 : ¬ g ≤ k := fun h9 => c_8 ((nI_leI (by omega) (by omega)).mpr h9)
        refine lv_aload_n hXX hBB dL_lowest_11 rfl (lv_at hl 1 rfl) ?_
        refine lv_aload_n hXX hBB dL_lowest_12 rfl (lv_at hl 2 rfl) ?_
        refine lv_aload_n hXX hBB dL_lowest_13 rfl (lv_at hl 3 rfl) ?_
        refine lv_aload_n hXX hBB dL_lowest_14 rfl (lv_at hl 4 rfl) ?_
        refine lv_iload hXX hBB dL_lowest_15 (lv_at hl 5 rfl) ?_
        refine lv_iload hXX hBB dL_lowest_17 (lv_at hl 0 rfl) ?_
        refine m_scalli (wr := []) ⟨hXX, hBB, hml, hown, hts⟩ hN (kL_withTeam l D cI cJ bN g p dm bW wm bQ qm bM mm t k rg bd ab ob S (by assumption) (by assumption) (by assumption) (by assumption) (by omega) (by omega)) (va_cwS 6 hts gL_lowest_L_withTeam rfl rfl rfl (by decide +kernel) ⟨Nat.le_of_ble_eq_true rfl, Nat.le_of_ble_eq_true rfl⟩) hK hP hD hS hAA [0, 1, 2, 3] [] [0, 1] rfl rfl rfl (by decide) (by decide) (by decide) rfl hl.1 rfl (Nat.le_of_ble_eq_true rfl) dL_lowest_19 ⟨Nat.le_of_ble_eq_true rfl, Nat.le_of_ble_eq_true rfl⟩ (k := 0) (n := 0) rfl rfl (fun r_1 u_ H locs hw hP hD hS => ?_)
        have hw : (r_1 = nI (evN g p rg bd ab ob S t k)) := hw
        have hr_r_1 := hw
        have hP : va_P D vwCl [(bN, .inl (cI, 4, .inl (fun j => nI (nA g p dm (fac g) j)))), (bW, .inl (cJ, 36, .inr (.inl (fun j => lN (wm j))))), (bQ, .inl (cJ, 16, .inr (.inl (fun j => lN (qm j))))), (bM, .inl (cJ, 3, .inr (.inl (fun j => lN (mm j)))))] H := hP
        have hD : va_D AA [(bN, .inl (cI, 4, .inl (fun j => nI (nA g p dm (fac g) j)))), (bW, .inl (cJ, 36, .inr (.inl (fun j => lN (wm j))))), (bQ, .inl (cJ, 16, .inr (.inl (fun j => lN (qm j))))), (bM, .inl (cJ, 3, .inr (.inl (fun j => lN (mm j)))))] := hD
        subst hr_r_1
        refine lv_if_ne (tgt := 31) hXX hBB dL_lowest_22 (by decide) (fun c_22 => ?_) (fun c_22 => ?_)
        · have c_22 : ¬ (evN g p rg bd ab ob S t k) = 0 := fun h9 => c_22 ((m_z (by exact ev_31 hG ht)).mpr h9)
          refine lv_iload hXX hBB dL_lowest_31 (lv_at hl 0 rfl) ?_
          refine hret (r := nI k) () ?_ (rfl) (hP.sub [0, 1, 2, 3] rfl) (hD.sub [0, 1, 2, 3] (by decide) rfl) hS (Nat.le_of_ble_eq_true rfl) (Nat.le_of_ble_eq_true rfl) dL_lowest_33
          show nI k = nI (lowC g p rg bd ab ob S t)
          exact congrArg nI (fstN_eq hk hz (fun h9 => by first | omega | exact Nat.pos_of_ne_zero c_22)).symm
        · have c_22 : (evN g p rg bd ab ob S t k) = 0 := (m_z (by exact ev_31 hG ht)).mp c_22
          refine lv_iinc (v := nI (k + 1)) (lv' := [(5, .int (nI (k + 1))), (0, .ref bN), (1, .ref bW), (2, .ref bQ), (3, .ref bM), (4, .int (nI t))]) hXX hBB dL_lowest_25 hl (k := 0) rfl (nI_1 _) (by decide) rfl (fun ls hl => ?_)
          refine lv_goto (tgt := 3) hXX hBB dL_lowest_28 (by decide) ?_
          have hi_k : (k + 1) ≤ g := by omega
          have hi_z : ∀ j, j < (k + 1) → evN g p rg bd ab ob S t j = 0 := by
            intro j hj
            by_cases q : j = k
            · rw [q]; exact c_22
            · exact hz j (by omega)
          have hmm : g - (k + 1) < N_3 := by omega
          exact ih_3 (k + 1) hi_k hi_z hmm _ _ (hP.sub [0, 1, 2, 3] rfl) (hD.sub [0, 1, 2, 3] (by decide) rfl) hS ls (lv_sub hl [0, 1, 2, 3, 4, 5] rfl)
  have hi_k : 0 ≤ g := by exact Nat.zero_le _
  have hi_z : ∀ j, j < 0 → evN g p rg bd ab ob S t j = 0 := by exact fun j hj => absurd hj (Nat.not_lt_zero j)
  exact L_3 _ 0 hi_k hi_z (Nat.lt_succ_self _) _ _ hP hD hS ls (lv_sub hl [0, 1, 2, 3, 4, 5] rfl)
abbrev rmL_begins : Room := { frames := 0, cells := 0, slots := 0, locals := 0 }
set_option maxHeartbeats 4000000 in
set_option maxRecDepth 100000 in
theorem kL_begins (l : Launch) (D : va_G) (cI : ClassId) (bN : Nat) (g : Nat) (p : Nat) (dm : Nat) (fa : Nat) (bR : Nat) (rg : Nat → Nat) (bd : Nat → Nat) (bP : Nat) (S : Nat → Int32) (dt : Nat → Nat) (bA : Nat) (ap : Nat → Nat) (od : Nat → Nat) (g2 : Nat) (p2 : Nat) : Cv l yL_begins wsL_begins rmL_begins D [(cI, .int)] [.ref bN, .ref bR, .ref bP, .ref bA, .int (nI g2), .int (nI p2)] [(bN, .inl (cI, 4, .inl (fun j => nI (nA g p dm fa j)))), (bR, .inl (cI, 15, .inl (fun j => nI (rA rg bd j)))), (bP, .inl (cI, 18, .inl (fun j => pA S dt j))), (bA, .inl (cI, 18, .inl (fun j => nI (rA ap od j))))] (fun (_ : Unit) => True) (fun (_ : Unit) => [(bN, .inl (cI, 4, .inl (fun j => nI (nA g2 p2 0 fa j)))), (bR, .inl (cI, 15, .inl (fun j => nI (rA (fun _ => 0) (fun _ => 3) j)))), (bP, .inl (cI, 18, .inl (fun j => pA (fun _ => -1) dt j))), (bA, .inl (cI, 18, .inl (fun j => nI (rA (fun _ => 0) (fun _ => 0) j))))]) := by
  refine Cv_of (cc := cL_begins) (maxL := 7) (by decide) rfl (Nat.le_of_ble_eq_true rfl) ?_
  intro pR eV sT mI args below meth cO AA QQ ls hXX hBB hml hown hts hnm hN hK hP hD hS hAA hl hret
  have hl : lv_has ls 7 [(0, .ref bN), (1, .ref bR), (2, .ref bP), (3, .ref bA), (4, .int (nI g2)), (5, .int (nI p2))] := hl
  refine lv_aload_n hXX hBB dL_begins_0 rfl (lv_at hl 0 rfl) ?_
  refine lv_iconst (v := nI 0) hXX hBB dL_begins_1 (by decide) ?_
  refine lv_iload hXX hBB dL_begins_2 (lv_at hl 4 rfl) ?_
  refine m_iast hXX hBB hK hP hD hS 0 0 rfl rfl (i := 0) (by decide) (by decide) (g := fun j => nI (nA g2 p dm fa j)) (nA_u0 _ _ _ _ _) dL_begins_4 (fun H locs hP hD hS => ?_)
  have hP : va_P D vwCl [(bN, .inl (cI, 4, .inl (fun j => nI (nA g2 p dm fa j)))), (bR, .inl (cI, 15, .inl (fun j => nI (rA rg bd j)))), (bP, .inl (cI, 18, .inl (fun j => pA S dt j))), (bA, .inl (cI, 18, .inl (fun j => nI (rA ap od j))))] H := hP
  have hD : va_D AA [(bN, .inl (cI, 4, .inl (fun j => nI (nA g2 p dm fa j)))), (bR, .inl (cI, 15, .inl (fun j => nI (rA rg bd j)))), (bP, .inl (cI, 18, .inl (fun j => pA S dt j))), (bA, .inl (cI, 18, .inl (fun j => nI (rA ap od j))))] := hD
  refine lv_aload_n hXX hBB dL_begins_5 rfl (lv_at hl 0 rfl) ?_
  refine lv_iconst (v := nI 1) hXX hBB dL_begins_6 (by decide) ?_
  refine lv_iload hXX hBB dL_begins_7 (lv_at hl 5 rfl) ?_
  refine m_iast hXX hBB hK hP hD hS 0 0 rfl rfl (i := 1) (by decide) (by decide) (g := fun j => nI (nA g2 p2 dm fa j)) (nA_u1 _ _ _ _ _) dL_begins_9 (fun H locs hP hD hS => ?_)
  have hP : va_P D vwCl [(bN, .inl (cI, 4, .inl (fun j => nI (nA g2 p2 dm fa j)))), (bR, .inl (cI, 15, .inl (fun j => nI (rA rg bd j)))), (bP, .inl (cI, 18, .inl (fun j => pA S dt j))), (bA, .inl (cI, 18, .inl (fun j => nI (rA ap od j))))] H := hP
  have hD : va_D AA [(bN, .inl (cI, 4, .inl (fun j => nI (nA g2 p2 dm fa j)))), (bR, .inl (cI, 15, .inl (fun j => nI (rA rg bd j)))), (bP, .inl (cI, 18, .inl (fun j => pA S dt j))), (bA, .inl (cI, 18, .inl (fun j => nI (rA ap od j))))] := hD
  refine lv_aload_n hXX hBB dL_begins_10 rfl (lv_at hl 0 rfl) ?_
  refine lv_iconst (v := nI 2) hXX hBB dL_begins_11 (by decide) ?_
  refine lv_iconst (v := nI 0) hXX hBB dL_begins_12 (by decide) ?_
  refine m_iast hXX hBB hK hP hD hS 0 0 rfl rfl (i := 2) (by decide) (by decide) (g := fun j => nI (nA g2 p2 0 fa j)) (nA_u2 _ _ _ _ _) dL_begins_13 (fun H locs hP hD hS => ?_)
  have hP : va_P D vwCl [(bN, .inl (cI, 4, .inl (fun j => nI (nA g2 p2 0 fa j)))), (bR, .inl (cI, 15, .inl (fun j => nI (rA rg bd j)))), (bP, .inl (cI, 18, .inl (fun j => pA S dt j))), (bA, .inl (cI, 18, .inl (fun j => nI (rA ap od j))))] H := hP
  have hD : va_D AA [(bN, .inl (cI, 4, .inl (fun j => nI (nA g2 p2 0 fa j)))), (bR, .inl (cI, 15, .inl (fun j => nI (rA rg bd j)))), (bP, .inl (cI, 18, .inl (fun j => pA S dt j))), (bA, .inl (cI, 18, .inl (fun j => nI (rA ap od j))))] := hD
  refine lv_iconst (v := nI 0) hXX hBB dL_begins_14 (by decide) ?_
  refine lv_istore (lv' := [(6, .int (nI 0)), (0, .ref bN), (1, .ref bR), (2, .ref bP), (3, .ref bA), (4, .int (nI g2)), (5, .int (nI p2))]) hXX hBB dL_begins_15 hl (by decide) rfl (fun ls hl => ?_)
  have L_17 : ∀ (N_17 : Nat) (k : Nat) (rq : Nat → Nat) (Sq : Nat → Int32) (aq : Nat → Nat) (oq : Nat → Nat), (k ≤ 9) → (∀ z, z < k → rq z = 0) → (∀ z, z < k → Sq z = -1) → (∀ z, z < k → aq z = 0) → (∀ z, z < k → oq z = 0) → 9 - k < N_17 → ∀ (H : Heap) (locs : List Loc), va_P D vwCl [(bN, .inl (cI, 4, .inl (fun j => nI (nA g2 p2 0 fa j)))), (bR, .inl (cI, 15, .inl (fun j => nI (rA rq bd j)))), (bP, .inl (cI, 18, .inl (fun j => pA Sq dt j))), (bA, .inl (cI, 18, .inl (fun j => nI (rA aq oq j))))] H → va_D AA [(bN, .inl (cI, 4, .inl (fun j => nI (nA g2 p2 0 fa j)))), (bR, .inl (cI, 15, .inl (fun j => nI (rA rq bd j)))), (bP, .inl (cI, 18, .inl (fun j => pA Sq dt j))), (bA, .inl (cI, 18, .inl (fun j => nI (rA aq oq j))))] → va_S AA sT.heap H locs → ∀ (ls : Array Slot), lv_has ls 7 [(6, .int (nI k)), (0, .ref bN), (1, .ref bR), (2, .ref bP), (3, .ref bA), (4, .int (nI g2)), (5, .int (nI p2))] → W pR l eV rmL_begins sT mI args below meth cO H locs 0 0 QQ (F0 mI 17 ls []) := by
    intro N_17
    induction N_17 with
    | zero =>
      intro k rq Sq aq oq hk hR0 hS0 hA0 hO0 hMM
      exact absurd hMM (Nat.not_lt_zero _)
    | succ N_17 ih_17 =>
      intro k rq Sq aq oq hk hR0 hS0 hA0 hO0 hMM H locs hP hD hS ls hl
      refine lv_iload hXX hBB dL_begins_17 (lv_at hl 0 rfl) ?_
      refine lv_bipush (v := nI 9) hXX hBB dL_begins_19 (by decide) ?_
      refine lv_icmp_ge (tgt := 53) hXX hBB dL_begins_21 (by decide) (fun c_21 => ?_) (fun c_21 => ?_)
      · have c_21 : 9 ≤ k := (nI_leI (by omega) (by omega)).mp c_21
        have hk9 : k = 9 := by omega
        subst hk9
        have hP := m_ext (q0 := 2) (g := fun j => pA (fun _ => -1) dt j) hP rfl (fun z hz => beg_p hS0 z (by omega))
        have hD := m_extD (q0 := 2) (g := fun j => pA (fun _ => -1) dt j) hD rfl
        have hP : va_P D vwCl [(bN, .inl (cI, 4, .inl (fun j => nI (nA g2 p2 0 fa j)))), (bR, .inl (cI, 15, .inl (fun j => nI (rA rq bd j)))), (bP, .inl (cI, 18, .inl (fun j => pA (fun _ => -1) dt j))), (bA, .inl (cI, 18, .inl (fun j => nI (rA aq oq j))))] H := hP
        have hD : va_D AA [(bN, .inl (cI, 4, .inl (fun j => nI (nA g2 p2 0 fa j)))), (bR, .inl (cI, 15, .inl (fun j => nI (rA rq bd j)))), (bP, .inl (cI, 18, .inl (fun j => pA (fun _ => -1) dt j))), (bA, .inl (cI, 18, .inl (fun j => nI (rA aq oq j))))] := hD
        have hP := m_ext (q0 := 3) (g := fun j => nI (rA (fun _ => 0) (fun _ => 0) j)) hP rfl (fun z hz => congrArg nI (beg_a hA0 hO0 z (by omega)))
        have hD := m_extD (q0 := 3) (g := fun j => nI (rA (fun _ => 0) (fun _ => 0) j)) hD rfl
        have hP : va_P D vwCl [(bN, .inl (cI, 4, .inl (fun j => nI (nA g2 p2 0 fa j)))), (bR, .inl (cI, 15, .inl (fun j => nI (rA rq bd j)))), (bP, .inl (cI, 18, .inl (fun j => pA (fun _ => -1) dt j))), (bA, .inl (cI, 18, .inl (fun j => nI (rA (fun _ => 0) (fun _ => 0) j))))] H := hP
        have hD : va_D AA [(bN, .inl (cI, 4, .inl (fun j => nI (nA g2 p2 0 fa j)))), (bR, .inl (cI, 15, .inl (fun j => nI (rA rq bd j)))), (bP, .inl (cI, 18, .inl (fun j => pA (fun _ => -1) dt j))), (bA, .inl (cI, 18, .inl (fun j => nI (rA (fun _ => 0) (fun _ => 0) j))))] := hD
        refine lv_bipush (v := nI 9) hXX hBB dL_begins_53 (by decide) ?_
        refine lv_istore (lv' := [(6, .int (nI 9)), (0, .ref bN), (1, .ref bR), (2, .ref bP), (3, .ref bA), (4, .int (nI g2)), (5, .int (nI p2))]) hXX hBB dL_begins_55 hl (by decide) rfl (fun ls hl => ?_)
        have L_57 : ∀ (N_57 : Nat) (k : Nat) (bq : Nat → Nat), (9 ≤ k ∧ k ≤ 15) → (∀ z, z < k - 9 → bq z = 3) → 15 - k < N_57 → ∀ (H : Heap) (locs : List Loc), va_P D vwCl [(bN, .inl (cI, 4, .inl (fun j => nI (nA g2 p2 0 fa j)))), (bR, .inl (cI, 15, .inl (fun j => nI (rA rq bq j)))), (bP, .inl (cI, 18, .inl (fun j => pA (fun _ => -1) dt j))), (bA, .inl (cI, 18, .inl (fun j => nI (rA (fun _ => 0) (fun _ => 0) j))))] H → va_D AA [(bN, .inl (cI, 4, .inl (fun j => nI (nA g2 p2 0 fa j)))), (bR, .inl (cI, 15, .inl (fun j => nI (rA rq bq j)))), (bP, .inl (cI, 18, .inl (fun j => pA (fun _ => -1) dt j))), (bA, .inl (cI, 18, .inl (fun j => nI (rA (fun _ => 0) (fun _ => 0) j))))] → va_S AA sT.heap H locs → ∀ (ls : Array Slot), lv_has ls 7 [(6, .int (nI k)), (0, .ref bN), (1, .ref bR), (2, .ref bP), (3, .ref bA), (4, .int (nI g2)), (5, .int (nI p2))] → W pR l eV rmL_begins sT mI args below meth cO H locs 0 0 QQ (F0 mI 57 ls []) := by
          intro N_57
          induction N_57 with
          | zero =>
            intro k bq hk hB hMM
            exact absurd hMM (Nat.not_lt_zero _)
          | succ N_57 ih_57 =>
            intro k bq hk hB hMM H locs hP hD hS ls hl
            refine lv_iload hXX hBB dL_begins_57 (lv_at hl 0 rfl) ?_
            refine lv_bipush (v := nI 15) hXX hBB dL_begins_59 (by decide) ?_
            refine lv_icmp_ge (tgt := 75) hXX hBB dL_begins_61 (by decide) (fun c_61 => ?_) (fun c_61 => ?_)
            · have c_61 : 15 ≤ k := (nI_leI (by omega) (by omega)).mp c_61
              have hB : ∀ z, z < 6 → bq z = 3 := fun z hz => hB z (by omega)
              have hP := m_ext (q0 := 1) (g := fun j => nI (rA (fun _ => 0) (fun _ => 3) j)) hP rfl (fun z hz => congrArg nI (beg_r hR0 hB z (by omega)))
              have hD := m_extD (q0 := 1) (g := fun j => nI (rA (fun _ => 0) (fun _ => 3) j)) hD rfl
              have hP : va_P D vwCl [(bN, .inl (cI, 4, .inl (fun j => nI (nA g2 p2 0 fa j)))), (bR, .inl (cI, 15, .inl (fun j => nI (rA (fun _ => 0) (fun _ => 3) j)))), (bP, .inl (cI, 18, .inl (fun j => pA (fun _ => -1) dt j))), (bA, .inl (cI, 18, .inl (fun j => nI (rA (fun _ => 0) (fun _ => 0) j))))] H := hP
              have hD : va_D AA [(bN, .inl (cI, 4, .inl (fun j => nI (nA g2 p2 0 fa j)))), (bR, .inl (cI, 15, .inl (fun j => nI (rA (fun _ => 0) (fun _ => 3) j)))), (bP, .inl (cI, 18, .inl (fun j => pA (fun _ => -1) dt j))), (bA, .inl (cI, 18, .inl (fun j => nI (rA (fun _ => 0) (fun _ => 0) j))))] := hD
              refine hret () ?_ (hP.sub [0, 1, 2, 3] rfl) (hD.sub [0, 1, 2, 3] (by decide) rfl) hS (Nat.le_of_ble_eq_true rfl) (Nat.le_of_ble_eq_true rfl) dL_begins_75
              trivial
            · have c_61 : ¬ 15 ≤ k := fun h9 => c_61 ((nI_leI (by omega) (by omega)).mpr h9)
              refine lv_aload_n hXX hBB dL_begins_64 rfl (lv_at hl 2 rfl) ?_
              refine lv_iload hXX hBB dL_begins_65 (lv_at hl 0 rfl) ?_
              refine lv_iconst (v := nI 3) hXX hBB dL_begins_67 (by decide) ?_
              refine m_iast hXX hBB hK hP hD hS 1 0 rfl rfl (i := k) (by omega) (by decide) (g := fun j => nI (rA rq (updN bq (k - 9) 3) j)) (rA_u9 _ _ (by omega) _) dL_begins_68 (fun H locs hP hD hS => ?_)
              have hP : va_P D vwCl [(bN, .inl (cI, 4, .inl (fun j => nI (nA g2 p2 0 fa j)))), (bR, .inl (cI, 15, .inl (fun j => nI (rA rq (updN bq (k - 9) 3) j)))), (bP, .inl (cI, 18, .inl (fun j => pA (fun _ => -1) dt j))), (bA, .inl (cI, 18, .inl (fun j => nI (rA (fun _ => 0) (fun _ => 0) j))))] H := hP
              have hD : va_D AA [(bN, .inl (cI, 4, .inl (fun j => nI (nA g2 p2 0 fa j)))), (bR, .inl (cI, 15, .inl (fun j => nI (rA rq (updN bq (k - 9) 3) j)))), (bP, .inl (cI, 18, .inl (fun j => pA (fun _ => -1) dt j))), (bA, .inl (cI, 18, .inl (fun j => nI (rA (fun _ => 0) (fun _ => 0) j))))] := hD
              refine lv_iinc (v := nI (k + 1)) (lv' := [(6, .int (nI (k + 1))), (0, .ref bN), (1, .ref bR), (2, .ref bP), (3, .ref bA), (4, .int (nI g2)), (5, .int (nI p2))]) hXX hBB dL_begins_69 hl (k := 0) rfl (nI_1 _) (by decide) rfl (fun ls hl => ?_)
              refine lv_goto (tgt := 57) hXX hBB dL_begins_72 (by decide) ?_
              have hi_k : 9 ≤ (k + 1) ∧ (k + 1) ≤ 15 := by omega
              have hi_B : ∀ z, z < (k + 1) - 9 → (updN bq (k - 9) 3) z = 3 := by rw [show k + 1 - 9 = (k - 9) + 1 by omega]; exact z_upd3 hB
              have hmm : 15 - (k + 1) < N_57 := by omega
              exact ih_57 (k + 1) (updN bq (k - 9) 3) hi_k hi_B hmm _ _ (hP.sub [0, 1, 2, 3] rfl) (hD.sub [0, 1, 2, 3] (by decide) rfl) hS ls (lv_sub hl [0, 1, 2, 3, 4, 5, 6] rfl)
        have hi_k : 9 ≤ 9 ∧ 9 ≤ 15 := by omega
        have hi_B : ∀ z, z < 9 - 9 → bd z = 3 := by exact fun z hz => absurd hz (Nat.not_lt_zero z)
        exact L_57 _ 9 bd hi_k hi_B (Nat.lt_succ_self _) _ _ hP hD hS ls (lv_sub hl [0, 1, 2, 3, 4, 5, 6] rfl)
      · have c_21 : ¬ 9 ≤ k := fun h9 => c_21 ((nI_leI (by omega) (by omega)).mpr h9)
        refine lv_aload_n hXX hBB dL_begins_24 rfl (lv_at hl 2 rfl) ?_
        refine lv_iload hXX hBB dL_begins_25 (lv_at hl 0 rfl) ?_
        refine lv_iconst (v := nI 0) hXX hBB dL_begins_27 (by decide) ?_
        refine m_iast hXX hBB hK hP hD hS 1 0 rfl rfl (i := k) (by omega) (by decide) (g := fun j => nI (rA (updN rq k 0) bd j)) (rA_ulo _ _ (by omega) _) dL_begins_28 (fun H locs hP hD hS => ?_)
        have hP : va_P D vwCl [(bN, .inl (cI, 4, .inl (fun j => nI (nA g2 p2 0 fa j)))), (bR, .inl (cI, 15, .inl (fun j => nI (rA (updN rq k 0) bd j)))), (bP, .inl (cI, 18, .inl (fun j => pA Sq dt j))), (bA, .inl (cI, 18, .inl (fun j => nI (rA aq oq j))))] H := hP
        have hD : va_D AA [(bN, .inl (cI, 4, .inl (fun j => nI (nA g2 p2 0 fa j)))), (bR, .inl (cI, 15, .inl (fun j => nI (rA (updN rq k 0) bd j)))), (bP, .inl (cI, 18, .inl (fun j => pA Sq dt j))), (bA, .inl (cI, 18, .inl (fun j => nI (rA aq oq j))))] := hD
        refine lv_aload_n hXX hBB dL_begins_29 rfl (lv_at hl 3 rfl) ?_
        refine lv_iload hXX hBB dL_begins_30 (lv_at hl 0 rfl) ?_
        refine lv_iconst (v := (-1)) hXX hBB dL_begins_32 (by decide) ?_
        refine m_iast hXX hBB hK hP hD hS 2 0 rfl rfl (i := k) (by omega) (by decide) (g := fun j => pA (upd Sq k (-1)) dt j) (pA_ulo _ _ (by omega) _) dL_begins_33 (fun H locs hP hD hS => ?_)
        have hP : va_P D vwCl [(bN, .inl (cI, 4, .inl (fun j => nI (nA g2 p2 0 fa j)))), (bR, .inl (cI, 15, .inl (fun j => nI (rA (updN rq k 0) bd j)))), (bP, .inl (cI, 18, .inl (fun j => pA (upd Sq k (-1)) dt j))), (bA, .inl (cI, 18, .inl (fun j => nI (rA aq oq j))))] H := hP
        have hD : va_D AA [(bN, .inl (cI, 4, .inl (fun j => nI (nA g2 p2 0 fa j)))), (bR, .inl (cI, 15, .inl (fun j => nI (rA (updN rq k 0) bd j)))), (bP, .inl (cI, 18, .inl (fun j => pA (upd Sq k (-1)) dt j))), (bA, .inl (cI, 18, .inl (fun j => nI (rA aq oq j))))] := hD
        refine lv_aload_n hXX hBB dL_begins_34 rfl (lv_at hl 4 rfl) ?_
        refine lv_iload hXX hBB dL_begins_35 (lv_at hl 0 rfl) ?_
        refine lv_iconst (v := nI 0) hXX hBB dL_begins_37 (by decide) ?_
        refine m_iast hXX hBB hK hP hD hS 3 0 rfl rfl (i := k) (by omega) (by decide) (g := fun j => nI (rA (updN aq k 0) oq j)) (rA_ulo _ _ (by omega) _) dL_begins_38 (fun H locs hP hD hS => ?_)
        have hP : va_P D vwCl [(bN, .inl (cI, 4, .inl (fun j => nI (nA g2 p2 0 fa j)))), (bR, .inl (cI, 15, .inl (fun j => nI (rA (updN rq k 0) bd j)))), (bP, .inl (cI, 18, .inl (fun j => pA (upd Sq k (-1)) dt j))), (bA, .inl (cI, 18, .inl (fun j => nI (rA (updN aq k 0) oq j))))] H := hP
        have hD : va_D AA [(bN, .inl (cI, 4, .inl (fun j => nI (nA g2 p2 0 fa j)))), (bR, .inl (cI, 15, .inl (fun j => nI (rA (updN rq k 0) bd j)))), (bP, .inl (cI, 18, .inl (fun j => pA (upd Sq k (-1)) dt j))), (bA, .inl (cI, 18, .inl (fun j => nI (rA (updN aq k 0) oq j))))] := hD
        refine lv_aload_n hXX hBB dL_begins_39 rfl (lv_at hl 4 rfl) ?_
        refine lv_bipush (v := nI 9) hXX hBB dL_begins_40 (by decide) ?_
        refine lv_iload hXX hBB dL_begins_42 (lv_at hl 0 rfl) ?_
        refine lv_iadd hXX hBB dL_begins_44 ?_
        refine m_top (y := nI (9 + k)) (nI_add _ _) ?_
        refine lv_iconst (v := nI 0) hXX hBB dL_begins_45 (by decide) ?_
        refine m_iast hXX hBB hK hP hD hS 3 0 rfl rfl (i := 9 + k) (by omega) (by decide) (g := fun j => nI (rA (updN aq k 0) (updN oq k 0) j)) (rA_uhi _ _ _ _) dL_begins_46 (fun H locs hP hD hS => ?_)
        have hP : va_P D vwCl [(bN, .inl (cI, 4, .inl (fun j => nI (nA g2 p2 0 fa j)))), (bR, .inl (cI, 15, .inl (fun j => nI (rA (updN rq k 0) bd j)))), (bP, .inl (cI, 18, .inl (fun j => pA (upd Sq k (-1)) dt j))), (bA, .inl (cI, 18, .inl (fun j => nI (rA (updN aq k 0) (updN oq k 0) j))))] H := hP
        have hD : va_D AA [(bN, .inl (cI, 4, .inl (fun j => nI (nA g2 p2 0 fa j)))), (bR, .inl (cI, 15, .inl (fun j => nI (rA (updN rq k 0) bd j)))), (bP, .inl (cI, 18, .inl (fun j => pA (upd Sq k (-1)) dt j))), (bA, .inl (cI, 18, .inl (fun j => nI (rA (updN aq k 0) (updN oq k 0) j))))] := hD
        refine lv_iinc (v := nI (k + 1)) (lv' := [(6, .int (nI (k + 1))), (0, .ref bN), (1, .ref bR), (2, .ref bP), (3, .ref bA), (4, .int (nI g2)), (5, .int (nI p2))]) hXX hBB dL_begins_47 hl (k := 0) rfl (nI_1 _) (by decide) rfl (fun ls hl => ?_)
        refine lv_goto (tgt := 17) hXX hBB dL_begins_50 (by decide) ?_
        have hi_k : (k + 1) ≤ 9 := by omega
        have hi_R0 : ∀ z, z < (k + 1) → (updN rq k 0) z = 0 := by exact z_upd hR0
        have hi_S0 : ∀ z, z < (k + 1) → (upd Sq k (-1)) z = -1 := by exact z_updS hS0
        have hi_A0 : ∀ z, z < (k + 1) → (updN aq k 0) z = 0 := by exact z_upd hA0
        have hi_O0 : ∀ z, z < (k + 1) → (updN oq k 0) z = 0 := by exact z_upd hO0
        have hmm : 9 - (k + 1) < N_17 := by omega
        exact ih_17 (k + 1) (updN rq k 0) (upd Sq k (-1)) (updN aq k 0) (updN oq k 0) hi_k hi_R0 hi_S0 hi_A0 hi_O0 hmm _ _ (hP.sub [0, 1, 2, 3] rfl) (hD.sub [0, 1, 2, 3] (by decide) rfl) hS ls (lv_sub hl [0, 1, 2, 3, 4, 5, 6] rfl)
  have hi_k : 0 ≤ 9 := by decide
  have hi_R0 : ∀ z, z < 0 → rg z = 0 := by exact fun z hz => absurd hz (Nat.not_lt_zero z)
  have hi_S0 : ∀ z, z < 0 → S z = -1 := by exact fun z hz => absurd hz (Nat.not_lt_zero z)
  have hi_A0 : ∀ z, z < 0 → ap z = 0 := by exact fun z hz => absurd hz (Nat.not_lt_zero z)
  have hi_O0 : ∀ z, z < 0 → od z = 0 := by exact fun z hz => absurd hz (Nat.not_lt_zero z)
  exact L_17 _ 0 rg S ap od hi_k hi_R0 hi_S0 hi_A0 hi_O0 (Nat.lt_succ_self _) _ _ hP hD hS ls (lv_sub hl [0, 1, 2, 3, 4, 5, 6] rfl)
abbrev rmL_isLawful : Room := { frames := 0, cells := 0, slots := 0, locals := 0 }
set_option maxHeartbeats 4000000 in
set_option maxRecDepth 100000 in
theorem kL_isLawful (l : Launch) (D : va_G) (cI : ClassId) (bN : Nat) (g : Nat) (p : Nat) (dm : Nat) (fa : Nat) (bR : Nat) (rg : Nat → Nat) (bd : Nat → Nat) (bA : Nat) (ap : Nat → Nat) (od : Nat → Nat) (bG : Nat) (rw : Nat → Nat) (ab : Nat → Bool) (ob : Nat → Bool) (hG : LG g p) (hrw : ∀ z, z < g * p → rw z < 4) (hrg : ∀ z, z < 9 → rg z ≤ 5) (hbd : ∀ z, z < 6 → bd z ≤ 3) (hR : RelR ap od ab ob) : Ci l yL_isLawful wsL_isLawful rmL_isLawful D [(cI, .int)] [.ref bN, .ref bR, .ref bA, .ref bG] [(bN, .inl (cI, 4, .inl (fun j => nI (nA g p dm fa j)))), (bR, .inl (cI, 15, .inl (fun j => nI (rA rg bd j)))), (bA, .inl (cI, 18, .inl (fun j => nI (rA ap od j)))), (bG, .inl (cI, 9, .inl (fun j => nI (rw j))))] (fun (r : Int32) (_ : Unit) => r = bI (lawB (g * p) rg bd ab ob (fun _ => -1) rw)) (fun (_ : Unit) => [(bN, .inl (cI, 4, .inl (fun j => nI (nA g p dm fa j)))), (bR, .inl (cI, 15, .inl (fun j => nI (rA rg bd j)))), (bA, .inl (cI, 18, .inl (fun j => nI (rA ap od j)))), (bG, .inl (cI, 9, .inl (fun j => nI (rw j))))]) := by
  refine Ci_of (cc := cL_isLawful) (maxL := 8) (by decide) rfl (Nat.le_of_ble_eq_true rfl) ?_
  intro pR eV sT mI args below meth cO AA QQ ls hXX hBB hml hown hts hnm hN hK hP hD hS hAA hl hret
  have hl : lv_has ls 8 [(0, .ref bN), (1, .ref bR), (2, .ref bA), (3, .ref bG)] := hl
  obtain ⟨⟨hg2, hg4⟩, ⟨hp2, hp3⟩, hT⟩ := id hG
  have hg0 : 0 < g := by omega
  refine lv_aload_n hXX hBB dL_isLawful_0 rfl (lv_at hl 0 rfl) ?_
  refine lv_iconst (v := nI 0) hXX hBB dL_isLawful_1 (by decide) ?_
  refine m_iald hXX hBB hK hP 0 0 rfl rfl (i := 0) (by omega) (by decide) (x := nI g) rfl dL_isLawful_2 ?_
  refine lv_aload_n hXX hBB dL_isLawful_3 rfl (lv_at hl 0 rfl) ?_
  refine lv_iconst (v := nI 1) hXX hBB dL_isLawful_4 (by decide) ?_
  refine m_iald hXX hBB hK hP 0 0 rfl rfl (i := 1) (by omega) (by decide) (x := nI p) rfl dL_isLawful_5 ?_
  refine lv_imul hXX hBB dL_isLawful_6 ?_
  refine m_top (y := nI (g * p)) (pk_mul _ _) ?_
  refine lv_istore (lv' := [(4, .int (nI (g * p))), (0, .ref bN), (1, .ref bR), (2, .ref bA), (3, .ref bG)]) hXX hBB dL_isLawful_7 hl (by decide) rfl (fun ls hl => ?_)
  refine lv_iconst (v := nI 0) hXX hBB dL_isLawful_9 (by decide) ?_
  refine lv_istore (lv' := [(5, .int (nI 0)), (4, .int (nI (g * p))), (0, .ref bN), (1, .ref bR), (2, .ref bA), (3, .ref bG)]) hXX hBB dL_isLawful_10 hl (by decide) rfl (fun ls hl => ?_)
  have L_12 : ∀ (N_12 : Nat) (t : Nat), (t ≤ g * p) → (∀ z, z < t → okT (g * p) rg bd ab ob (fun _ => -1) rw z = true) → g * p - t < N_12 → ∀ (H : Heap) (locs : List Loc), va_P D vwCl [(bN, .inl (cI, 4, .inl (fun j => nI (nA g p dm fa j)))), (bR, .inl (cI, 15, .inl (fun j => nI (rA rg bd j)))), (bA, .inl (cI, 18, .inl (fun j => nI (rA ap od j)))), (bG, .inl (cI, 9, .inl (fun j => nI (rw j))))] H → va_D AA [(bN, .inl (cI, 4, .inl (fun j => nI (nA g p dm fa j)))), (bR, .inl (cI, 15, .inl (fun j => nI (rA rg bd j)))), (bA, .inl (cI, 18, .inl (fun j => nI (rA ap od j)))), (bG, .inl (cI, 9, .inl (fun j => nI (rw j))))] → va_S AA sT.heap H locs → ∀ (ls : Array Slot), lv_has ls 8 [(5, .int (nI t)), (4, .int (nI (g * p))), (0, .ref bN), (1, .ref bR), (2, .ref bA), (3, .ref bG)] → W pR l eV rmL_isLawful sT mI args below meth cO H locs 0 0 QQ (F0 mI 12 ls []) := by
    intro N_12
    induction N_12 with
    | zero =>
      intro t ht hokt hMM
      exact absurd hMM (Nat.not_lt_zero _)
    | succ N_12 ih_12 =>
      intro t ht hokt hMM H locs hP hD hS ls hl
      refine lv_iload hXX hBB dL_isLawful_12 (lv_at hl 0 rfl) ?_
      refine lv_iload hXX hBB dL_isLawful_14 (lv_at hl 1 rfl) ?_
      refine lv_icmp_ge (tgt := 148) hXX hBB dL_isLawful_16 (by decide) (fun c_16 => ?_) (fun c_16 => ?_)
      · have c_16 : (g * p) ≤ t := (nI_leI (by omega) (by omega)).mp c_16
        refine lv_iconst (v := nI 1) hXX hBB dL_isLawful_148 (by decide) ?_
        refine hret (r := nI 1) () ?_ (rfl) (hP.sub [0, 1, 2, 3] rfl) (hD.sub [0, 1, 2, 3] (by decide) rfl) hS (Nat.le_of_ble_eq_true rfl) (Nat.le_of_ble_eq_true rfl) dL_isLawful_149
        show nI 1 = bI (lawB (g * p) rg bd ab ob (fun _ => -1) rw)
        exact law_t (fun z hz => hokt z (by omega))
      · have c_16 : ¬ (g * p) ≤ t := fun h9 => c_16 ((nI_leI (by omega) (by omega)).mpr h9)
        have hta := hR.la t (by omega)
        have hto := hR.lo t (by omega)
        have hr5 := hrg t (by omega)
        have hb3 := hbd (rg t) (by omega)
        have hw4 := hrw t (by omega)
        refine lv_iconst (v := nI 0) hXX hBB dL_isLawful_19 (by decide) ?_
        refine lv_istore (lv' := [(6, .int (nI 0)), (5, .int (nI t)), (4, .int (nI (g * p))), (0, .ref bN), (1, .ref bR), (2, .ref bA), (3, .ref bG)]) hXX hBB dL_isLawful_20 hl (by decide) rfl (fun ls hl => ?_)
        refine lv_iconst (v := nI 0) hXX hBB dL_isLawful_22 (by decide) ?_
        refine lv_istore (lv' := [(7, .int (nI 0)), (6, .int (nI 0)), (5, .int (nI t)), (4, .int (nI (g * p))), (0, .ref bN), (1, .ref bR), (2, .ref bA), (3, .ref bG)]) hXX hBB dL_isLawful_23 hl (by decide) rfl (fun ls hl => ?_)
        have L_25 : ∀ (N_25 : Nat) (sa : Nat) (o : Nat), (o ≤ g * p) → (sa = ct (smT rg rw t) o) → (∀ z, z < o → okP ab ob rw t z = true) → g * p - o < N_25 → ∀ (H : Heap) (locs : List Loc), va_P D vwCl [(bN, .inl (cI, 4, .inl (fun j => nI (nA g p dm fa j)))), (bR, .inl (cI, 15, .inl (fun j => nI (rA rg bd j)))), (bA, .inl (cI, 18, .inl (fun j => nI (rA ap od j)))), (bG, .inl (cI, 9, .inl (fun j => nI (rw j))))] H → va_D AA [(bN, .inl (cI, 4, .inl (fun j => nI (nA g p dm fa j)))), (bR, .inl (cI, 15, .inl (fun j => nI (rA rg bd j)))), (bA, .inl (cI, 18, .inl (fun j => nI (rA ap od j)))), (bG, .inl (cI, 9, .inl (fun j => nI (rw j))))] → va_S AA sT.heap H locs → ∀ (ls : Array Slot), lv_has ls 8 [(7, .int (nI o)), (6, .int (nI sa)), (5, .int (nI t)), (4, .int (nI (g * p))), (0, .ref bN), (1, .ref bR), (2, .ref bA), (3, .ref bG)] → W pR l eV rmL_isLawful sT mI args below meth cO H locs 0 0 QQ (F0 mI 25 ls []) := by
          intro N_25
          induction N_25 with
          | zero =>
            intro sa o ho hsa hokp hMM
            exact absurd hMM (Nat.not_lt_zero _)
          | succ N_25 ih_25 =>
            intro sa o ho hsa hokp hMM H locs hP hD hS ls hl
            refine lv_iload hXX hBB dL_isLawful_25 (lv_at hl 0 rfl) ?_
            refine lv_iload hXX hBB dL_isLawful_27 (lv_at hl 3 rfl) ?_
            refine lv_icmp_ge (tgt := 126) hXX hBB dL_isLawful_29 (by decide) (fun c_29 => ?_) (fun c_29 => ?_)
            · have c_29 : (g * p) ≤ o := (nI_leI (by omega) (by omega)).mp c_29
              have hE : o = g * p := by omega
              have hokp9 : ∀ z, z < g * p → okP ab ob rw t z = true := fun z hz => hokp z (by omega)
              have hs9 := ct_le (smT rg rw t) o
              refine lv_iload hXX hBB dL_isLawful_126 (lv_at hl 1 rfl) ?_
              refine lv_aload_n hXX hBB dL_isLawful_128 rfl (lv_at hl 5 rfl) ?_
              refine lv_bipush (v := nI 9) hXX hBB dL_isLawful_129 (by decide) ?_
              refine lv_aload_n hXX hBB dL_isLawful_131 rfl (lv_at hl 5 rfl) ?_
              refine lv_iload hXX hBB dL_isLawful_132 (lv_at hl 2 rfl) ?_
              refine m_iald hXX hBB hK hP 1 0 rfl rfl (i := t) (by omega) (by decide) (x := nI (rA rg bd t)) rfl dL_isLawful_134 ?_
              refine m_top (y := nI (rg t)) (by exact congrArg nI (rA_lo _ _ (by omega))) ?_
              refine lv_iadd hXX hBB dL_isLawful_135 ?_
              refine m_top (y := nI (9 + (rg t))) (nI_add _ _) ?_
              refine m_iald hXX hBB hK hP 1 0 rfl rfl (i := 9 + (rg t)) (by omega) (by decide) (x := nI (rA rg bd (9 + (rg t)))) rfl dL_isLawful_136 ?_
              refine m_top (y := nI (bd (rg t))) (by exact congrArg nI (rA_hi _ _ _)) ?_
              refine lv_icmp_le (tgt := 142) hXX hBB dL_isLawful_137 (by decide) (fun c_137 => ?_) (fun c_137 => ?_)
              · have c_137 : sa ≤ (bd (rg t)) := (nI_leI (by omega) (by omega)).mp c_137
                refine lv_iinc (v := nI (t + 1)) (lv' := [(5, .int (nI (t + 1))), (7, .int (nI o)), (6, .int (nI sa)), (4, .int (nI (g * p))), (0, .ref bN), (1, .ref bR), (2, .ref bA), (3, .ref bG)]) hXX hBB dL_isLawful_142 hl (k := 2) rfl (nI_1 _) (by decide) rfl (fun ls hl => ?_)
                refine lv_goto (tgt := 12) hXX hBB dL_isLawful_145 (by decide) ?_
                have hi_t : (t + 1) ≤ g * p := by omega
                have hi_okt : ∀ z, z < (t + 1) → okT (g * p) rg bd ab ob (fun _ => -1) rw z = true := by
                  intro z hz
                  by_cases q : z = t
                  · rw [q]; exact okT_all hokp9 (by rw [hE] at hsa; omega)
                  · exact hokt z (by omega)
                have hmm : g * p - (t + 1) < N_12 := by omega
                exact ih_12 (t + 1) hi_t hi_okt hmm _ _ (hP.sub [0, 1, 2, 3] rfl) (hD.sub [0, 1, 2, 3] (by decide) rfl) hS ls (lv_sub hl [0, 3, 4, 5, 6, 7] rfl)
              · have c_137 : ¬ sa ≤ (bd (rg t)) := fun h9 => c_137 ((nI_leI (by omega) (by omega)).mpr h9)
                refine lv_iconst (v := nI 0) hXX hBB dL_isLawful_140 (by decide) ?_
                refine hret (r := nI 0) () ?_ (rfl) (hP.sub [0, 1, 2, 3] rfl) (hD.sub [0, 1, 2, 3] (by decide) rfl) hS (Nat.le_of_ble_eq_true rfl) (Nat.le_of_ble_eq_true rfl) dL_isLawful_141
                show nI 0 = bI (lawB (g * p) rg bd ab ob (fun _ => -1) rw)
                exact law_f (show t < g * p by omega) (okT_f2 (by rw [← hE, ← hsa]; omega))
            · have c_29 : ¬ (g * p) ≤ o := fun h9 => c_29 ((nI_leI (by omega) (by omega)).mpr h9)
              have hro := hrg o (by omega)
              have hwo := hrw o (by omega)
              refine lv_iload hXX hBB dL_isLawful_32 (lv_at hl 1 rfl) ?_
              have J_61 : ∀ (H : Heap) (locs : List Loc), va_P D vwCl [(bN, .inl (cI, 4, .inl (fun j => nI (nA g p dm fa j)))), (bR, .inl (cI, 15, .inl (fun j => nI (rA rg bd j)))), (bA, .inl (cI, 18, .inl (fun j => nI (rA ap od j)))), (bG, .inl (cI, 9, .inl (fun j => nI (rw j))))] H → va_D AA [(bN, .inl (cI, 4, .inl (fun j => nI (nA g p dm fa j)))), (bR, .inl (cI, 15, .inl (fun j => nI (rA rg bd j)))), (bA, .inl (cI, 18, .inl (fun j => nI (rA ap od j)))), (bG, .inl (cI, 9, .inl (fun j => nI (rw j))))] → va_S AA sT.heap H locs → ∀ (ls : Array Slot), lv_has ls 8 [(7, .int (nI o)), (6, .int (nI sa)), (5, .int (nI t)), (4, .int (nI (g * p))), (0, .ref bN), (1, .ref bR), (2, .ref bA), (3, .ref bG)] → W pR l eV rmL_isLawful sT mI args below meth cO H locs 0 0 QQ (F0 mI 61 ls [.int (nI ((smT rg rw t o).toNat)), .int (nI sa)]) := by
                intro H locs hP hD hS ls hl
                refine lv_iadd hXX hBB dL_isLawful_61 ?_
                refine m_top (y := nI (sa + ((smT rg rw t o).toNat))) (nI_add _ _) ?_
                refine lv_istore (lv' := [(6, .int (nI (sa + ((smT rg rw t o).toNat)))), (7, .int (nI o)), (5, .int (nI t)), (4, .int (nI (g * p))), (0, .ref bN), (1, .ref bR), (2, .ref bA), (3, .ref bG)]) hXX hBB dL_isLawful_62 hl (by decide) rfl (fun ls hl => ?_)
                refine lv_aload_n hXX hBB dL_isLawful_64 rfl (lv_at hl 6 rfl) ?_
                refine lv_iload hXX hBB dL_isLawful_65 (lv_at hl 2 rfl) ?_
                refine m_iald hXX hBB hK hP 2 0 rfl rfl (i := t) (by omega) (by decide) (x := nI (rA ap od t)) rfl dL_isLawful_67 ?_
                refine m_top (y := nI (ap t)) (by exact congrArg nI (rA_lo _ _ (by omega))) ?_
                refine lv_iload hXX hBB dL_isLawful_68 (lv_at hl 1 rfl) ?_
                refine lv_ishr hXX hBB dL_isLawful_70 ?_
                refine m_top (y := nI (ap t / 2 ^ o)) (by exact m_shrN (by omega) (by omega)) ?_
                refine lv_iconst (v := nI 1) hXX hBB dL_isLawful_71 (by decide) ?_
                refine lv_iand hXX hBB dL_isLawful_72 ?_
                refine m_top (y := nI (ap t / 2 ^ o % 2)) (by exact m_and1 _) ?_
                refine lv_iconst (v := nI 1) hXX hBB dL_isLawful_73 (by decide) ?_
                refine lv_icmp_ne (tgt := 88) hXX hBB dL_isLawful_74 (by decide) (fun c_74 => ?_) (fun c_74 => ?_)
                · have c_74 : ¬ (ap t / 2 ^ o % 2) = 1 := fun h9 => c_74 ((nI_eq (by omega) (by omega)).mpr h9)
                  refine lv_aload_n hXX hBB dL_isLawful_88 rfl (lv_at hl 6 rfl) ?_
                  refine lv_bipush (v := nI 9) hXX hBB dL_isLawful_89 (by decide) ?_
                  refine lv_iload hXX hBB dL_isLawful_91 (lv_at hl 2 rfl) ?_
                  refine lv_iadd hXX hBB dL_isLawful_93 ?_
                  refine m_top (y := nI (9 + t)) (nI_add _ _) ?_
                  refine m_iald hXX hBB hK hP 2 0 rfl rfl (i := 9 + t) (by omega) (by decide) (x := nI (rA ap od (9 + t))) rfl dL_isLawful_94 ?_
                  refine m_top (y := nI (od t)) (by exact congrArg nI (rA_hi _ _ _)) ?_
                  refine lv_iload hXX hBB dL_isLawful_95 (lv_at hl 1 rfl) ?_
                  refine lv_ishr hXX hBB dL_isLawful_97 ?_
                  refine m_top (y := nI (od t / 2 ^ o)) (by exact m_shrN (by omega) (by omega)) ?_
                  refine lv_iconst (v := nI 1) hXX hBB dL_isLawful_98 (by decide) ?_
                  refine lv_iand hXX hBB dL_isLawful_99 ?_
                  refine m_top (y := nI (od t / 2 ^ o % 2)) (by exact m_and1 _) ?_
                  refine lv_iconst (v := nI 1) hXX hBB dL_isLawful_100 (by decide) ?_
                  refine lv_icmp_ne (tgt := 120) hXX hBB dL_isLawful_101 (by decide) (fun c_101 => ?_) (fun c_101 => ?_)
                  · have c_101 : ¬ (od t / 2 ^ o % 2) = 1 := fun h9 => c_101 ((nI_eq (by omega) (by omega)).mpr h9)
                    have okp_9 : okP ab ob rw t o = true := by first | exact okP_t (Or.inl (rel_na hR (by omega) (by omega) c_74)) (Or.inl (rel_no hR (by omega) (by omega) c_101)) | exact okP_t (Or.inr c_85) (Or.inl (rel_no hR (by omega) (by omega) c_101))
                    refine lv_iinc (v := nI (o + 1)) (lv' := [(7, .int (nI (o + 1))), (6, .int (nI (sa + ((smT rg rw t o).toNat)))), (5, .int (nI t)), (4, .int (nI (g * p))), (0, .ref bN), (1, .ref bR), (2, .ref bA), (3, .ref bG)]) hXX hBB dL_isLawful_120 hl (k := 1) rfl (nI_1 _) (by decide) rfl (fun ls hl => ?_)
                    refine lv_goto (tgt := 25) hXX hBB dL_isLawful_123 (by decide) ?_
                    have hi_o : (o + 1) ≤ g * p := by omega
                    have hi_sa : (sa + ((smT rg rw t o).toNat)) = ct (smT rg rw t) (o + 1) := by rw [hsa]; rfl
                    have hi_okp : ∀ z, z < (o + 1) → okP ab ob rw t z = true := by
                      intro z hz
                      by_cases q : z = o
                      · rw [q]; exact okp_9
                      · exact hokp z (by omega)
                    have hmm : g * p - (o + 1) < N_25 := by omega
                    exact ih_25 (sa + ((smT rg rw t o).toNat)) (o + 1) hi_o hi_sa hi_okp hmm _ _ (hP.sub [0, 1, 2, 3] rfl) (hD.sub [0, 1, 2, 3] (by decide) rfl) hS ls (lv_sub hl [0, 1, 2, 3, 4, 5, 6, 7] rfl)
                  · have c_101 : (od t / 2 ^ o % 2) = 1 := (nI_eq (by omega) (by omega)).mp c_101
                    refine lv_aload_n hXX hBB dL_isLawful_104 rfl (lv_at hl 7 rfl) ?_
                    refine lv_iload hXX hBB dL_isLawful_105 (lv_at hl 2 rfl) ?_
                    refine m_iald hXX hBB hK hP 3 0 rfl rfl (i := t) (by omega) (by decide) (x := nI (rw t)) rfl dL_isLawful_107 ?_
                    refine lv_aload_n hXX hBB dL_isLawful_108 rfl (lv_at hl 7 rfl) ?_
                    refine lv_iload hXX hBB dL_isLawful_109 (lv_at hl 1 rfl) ?_
                    refine m_iald hXX hBB hK hP 3 0 rfl rfl (i := o) (by omega) (by decide) (x := nI (rw o)) rfl dL_isLawful_111 ?_
                    refine lv_iadd hXX hBB dL_isLawful_112 ?_
                    refine m_top (y := nI ((rw t) + (rw o))) (nI_add _ _) ?_
                    refine lv_iconst (v := nI 2) hXX hBB dL_isLawful_113 (by decide) ?_
                    refine lv_irem hXX hBB dL_isLawful_114 (nI_ne0 (by omega) (by omega)) ?_
                    refine m_top (y := nI ((rw t + rw o) % 2)) (by exact pk_rem (by omega) (by omega) (by omega)) ?_
                    refine lv_if_ne (tgt := 120) hXX hBB dL_isLawful_115 (by decide) (fun c_115 => ?_) (fun c_115 => ?_)
                    · have c_115 : ¬ ((rw t + rw o) % 2) = 0 := fun h9 => c_115 ((m_z (by omega)).mpr h9)
                      have okp_9 : okP ab ob rw t o = true := by first | exact okP_t (Or.inl (rel_na hR (by omega) (by omega) c_74)) (Or.inr c_115) | exact okP_t (Or.inr c_85) (Or.inr c_115)
                      refine lv_iinc (v := nI (o + 1)) (lv' := [(7, .int (nI (o + 1))), (6, .int (nI (sa + ((smT rg rw t o).toNat)))), (5, .int (nI t)), (4, .int (nI (g * p))), (0, .ref bN), (1, .ref bR), (2, .ref bA), (3, .ref bG)]) hXX hBB dL_isLawful_120 hl (k := 1) rfl (nI_1 _) (by decide) rfl (fun ls hl => ?_)
                      refine lv_goto (tgt := 25) hXX hBB dL_isLawful_123 (by decide) ?_
                      have hi_o : (o + 1) ≤ g * p := by omega
                      have hi_sa : (sa + ((smT rg rw t o).toNat)) = ct (smT rg rw t) (o + 1) := by rw [hsa]; rfl
                      have hi_okp : ∀ z, z < (o + 1) → okP ab ob rw t z = true := by
                        intro z hz
                        by_cases q : z = o
                        · rw [q]; exact okp_9
                        · exact hokp z (by omega)
                      have hmm : g * p - (o + 1) < N_25 := by omega
                      exact ih_25 (sa + ((smT rg rw t o).toNat)) (o + 1) hi_o hi_sa hi_okp hmm _ _ (hP.sub [0, 1, 2, 3] rfl) (hD.sub [0, 1, 2, 3] (by decide) rfl) hS ls (lv_sub hl [0, 1, 2, 3, 4, 5, 6, 7] rfl)
                    · have c_115 : ((rw t + rw o) % 2) = 0 := (m_z (by omega)).mp c_115
                      have okp_f : okP ab ob rw t o = false := okP_fo (rel_o hR (by omega) (by omega) c_101) c_115
                      refine lv_iconst (v := nI 0) hXX hBB dL_isLawful_118 (by decide) ?_
                      refine hret (r := nI 0) () ?_ (rfl) (hP.sub [0, 1, 2, 3] rfl) (hD.sub [0, 1, 2, 3] (by decide) rfl) hS (Nat.le_of_ble_eq_true rfl) (Nat.le_of_ble_eq_true rfl) dL_isLawful_119
                      show nI 0 = bI (lawB (g * p) rg bd ab ob (fun _ => -1) rw)
                      exact law_f (show t < g * p by omega) (okT_f1 (show o < g * p by omega) okp_f)
                · have c_74 : (ap t / 2 ^ o % 2) = 1 := (nI_eq (by omega) (by omega)).mp c_74
                  refine lv_aload_n hXX hBB dL_isLawful_77 rfl (lv_at hl 7 rfl) ?_
                  refine lv_iload hXX hBB dL_isLawful_78 (lv_at hl 2 rfl) ?_
                  refine m_iald hXX hBB hK hP 3 0 rfl rfl (i := t) (by omega) (by decide) (x := nI (rw t)) rfl dL_isLawful_80 ?_
                  refine lv_aload_n hXX hBB dL_isLawful_81 rfl (lv_at hl 7 rfl) ?_
                  refine lv_iload hXX hBB dL_isLawful_82 (lv_at hl 1 rfl) ?_
                  refine m_iald hXX hBB hK hP 3 0 rfl rfl (i := o) (by omega) (by decide) (x := nI (rw o)) rfl dL_isLawful_84 ?_
                  refine lv_icmp_eq (tgt := 118) hXX hBB dL_isLawful_85 (by decide) (fun c_85 => ?_) (fun c_85 => ?_)
                  · have c_85 : (rw t) = (rw o) := (nI_eq (by omega) (by omega)).mp c_85
                    have okp_f : okP ab ob rw t o = false := okP_fa (rel_a hR (by omega) (by omega) c_74) c_85
                    refine lv_iconst (v := nI 0) hXX hBB dL_isLawful_118 (by decide) ?_
                    refine hret (r := nI 0) () ?_ (rfl) (hP.sub [0, 1, 2, 3] rfl) (hD.sub [0, 1, 2, 3] (by decide) rfl) hS (Nat.le_of_ble_eq_true rfl) (Nat.le_of_ble_eq_true rfl) dL_isLawful_119
                    show nI 0 = bI (lawB (g * p) rg bd ab ob (fun _ => -1) rw)
                    exact law_f (show t < g * p by omega) (okT_f1 (show o < g * p by omega) okp_f)
                  · have c_85 : ¬ (rw t) = (rw o) := fun h9 => c_85 ((nI_eq (by omega) (by omega)).mpr h9)
                    refine lv_aload_n hXX hBB dL_isLawful_88 rfl (lv_at hl 6 rfl) ?_
                    refine lv_bipush (v := nI 9) hXX hBB dL_isLawful_89 (by decide) ?_
                    refine lv_iload hXX hBB dL_isLawful_91 (lv_at hl 2 rfl) ?_
                    refine lv_iadd hXX hBB dL_isLawful_93 ?_
                    refine m_top (y := nI (9 + t)) (nI_add _ _) ?_
                    refine m_iald hXX hBB hK hP 2 0 rfl rfl (i := 9 + t) (by omega) (by decide) (x := nI (rA ap od (9 + t))) rfl dL_isLawful_94 ?_
                    refine m_top (y := nI (od t)) (by exact congrArg nI (rA_hi _ _ _)) ?_
                    refine lv_iload hXX hBB dL_isLawful_95 (lv_at hl 1 rfl) ?_
                    refine lv_ishr hXX hBB dL_isLawful_97 ?_
                    refine m_top (y := nI (od t / 2 ^ o)) (by exact m_shrN (by omega) (by omega)) ?_
                    refine lv_iconst (v := nI 1) hXX hBB dL_isLawful_98 (by decide) ?_
                    refine lv_iand hXX hBB dL_isLawful_99 ?_
                    refine m_top (y := nI (od t / 2 ^ o % 2)) (by exact m_and1 _) ?_
                    refine lv_iconst (v := nI 1) hXX hBB dL_isLawful_100 (by decide) ?_
                    refine lv_icmp_ne (tgt := 120) hXX hBB dL_isLawful_101 (by decide) (fun c_101 => ?_) (fun c_101 => ?_)
                    · have c_101 : ¬ (od t / 2 ^ o % 2) = 1 := fun h9 => c_101 ((nI_eq (by omega) (by omega)).mpr h9)
                      have okp_9 : okP ab ob rw t o = true := by first | exact okP_t (Or.inl (rel_na hR (by omega) (by omega) c_74)) (Or.inl (rel_no hR (by omega) (by omega) c_101)) | exact okP_t (Or.inr c_85) (Or.inl (rel_no hR (by omega) (by omega) c_101))
                      refine lv_iinc (v := nI (o + 1)) (lv' := [(7, .int (nI (o + 1))), (6, .int (nI (sa + ((smT rg rw t o).toNat)))), (5, .int (nI t)), (4, .int (nI (g * p))), (0, .ref bN), (1, .ref bR), (2, .ref bA), (3, .ref bG)]) hXX hBB dL_isLawful_120 hl (k := 1) rfl (nI_1 _) (by decide) rfl (fun ls hl => ?_)
                      refine lv_goto (tgt := 25) hXX hBB dL_isLawful_123 (by decide) ?_
                      have hi_o : (o + 1) ≤ g * p := by omega
                      have hi_sa : (sa + ((smT rg rw t o).toNat)) = ct (smT rg rw t) (o + 1) := by rw [hsa]; rfl
                      have hi_okp : ∀ z, z < (o + 1) → okP ab ob rw t z = true := by
                        intro z hz
                        by_cases q : z = o
                        · rw [q]; exact okp_9
                        · exact hokp z (by omega)
                      have hmm : g * p - (o + 1) < N_25 := by omega
                      exact ih_25 (sa + ((smT rg rw t o).toNat)) (o + 1) hi_o hi_sa hi_okp hmm _ _ (hP.sub [0, 1, 2, 3] rfl) (hD.sub [0, 1, 2, 3] (by decide) rfl) hS ls (lv_sub hl [0, 1, 2, 3, 4, 5, 6, 7] rfl)
                    · have c_101 : (od t / 2 ^ o % 2) = 1 := (nI_eq (by omega) (by omega)).mp c_101
                      refine lv_aload_n hXX hBB dL_isLawful_104 rfl (lv_at hl 7 rfl) ?_
                      refine lv_iload hXX hBB dL_isLawful_105 (lv_at hl 2 rfl) ?_
                      refine m_iald hXX hBB hK hP 3 0 rfl rfl (i := t) (by omega) (by decide) (x := nI (rw t)) rfl dL_isLawful_107 ?_
                      refine lv_aload_n hXX hBB dL_isLawful_108 rfl (lv_at hl 7 rfl) ?_
                      refine lv_iload hXX hBB dL_isLawful_109 (lv_at hl 1 rfl) ?_
                      refine m_iald hXX hBB hK hP 3 0 rfl rfl (i := o) (by omega) (by decide) (x := nI (rw o)) rfl dL_isLawful_111 ?_
                      refine lv_iadd hXX hBB dL_isLawful_112 ?_
                      refine m_top (y := nI ((rw t) + (rw o))) (nI_add _ _) ?_
                      refine lv_iconst (v := nI 2) hXX hBB dL_isLawful_113 (by decide) ?_
                      refine lv_irem hXX hBB dL_isLawful_114 (nI_ne0 (by omega) (by omega)) ?_
                      refine m_top (y := nI ((rw t + rw o) % 2)) (by exact pk_rem (by omega) (by omega) (by omega)) ?_
                      refine lv_if_ne (tgt := 120) hXX hBB dL_isLawful_115 (by decide) (fun c_115 => ?_) (fun c_115 => ?_)
                      · have c_115 : ¬ ((rw t + rw o) % 2) = 0 := fun h9 => c_115 ((m_z (by omega)).mpr h9)
                        have okp_9 : okP ab ob rw t o = true := by first | exact okP_t (Or.inl (rel_na hR (by omega) (by omega) c_74)) (Or.inr c_115) | exact okP_t (Or.inr c_85) (Or.inr c_115)
                        refine lv_iinc (v := nI (o + 1)) (lv' := [(7, .int (nI (o + 1))), (6, .int (nI (sa + ((smT rg rw t o).toNat)))), (5, .int (nI t)), (4, .int (nI (g * p))), (0, .ref bN), (1, .ref bR), (2, .ref bA), (3, .ref bG)]) hXX hBB dL_isLawful_120 hl (k := 1) rfl (nI_1 _) (by decide) rfl (fun ls hl => ?_)
                        refine lv_goto (tgt := 25) hXX hBB dL_isLawful_123 (by decide) ?_
                        have hi_o : (o + 1) ≤ g * p := by omega
                        have hi_sa : (sa + ((smT rg rw t o).toNat)) = ct (smT rg rw t) (o + 1) := by rw [hsa]; rfl
                        have hi_okp : ∀ z, z < (o + 1) → okP ab ob rw t z = true := by
                          intro z hz
                          by_cases q : z = o
                          · rw [q]; exact okp_9
                          · exact hokp z (by omega)
                        have hmm : g * p - (o + 1) < N_25 := by omega
                        exact ih_25 (sa + ((smT rg rw t o).toNat)) (o + 1) hi_o hi_sa hi_okp hmm _ _ (hP.sub [0, 1, 2, 3] rfl) (hD.sub [0, 1, 2, 3] (by decide) rfl) hS ls (lv_sub hl [0, 1, 2, 3, 4, 5, 6, 7] rfl)
                      · have c_115 : ((rw t + rw o) % 2) = 0 := (m_z (by omega)).mp c_115
                        have okp_f : okP ab ob rw t o = false := okP_fo (rel_o hR (by omega) (by omega) c_101) c_115
                        refine lv_iconst (v := nI 0) hXX hBB dL_isLawful_118 (by decide) ?_
                        refine hret (r := nI 0) () ?_ (rfl) (hP.sub [0, 1, 2, 3] rfl) (hD.sub [0, 1, 2, 3] (by decide) rfl) hS (Nat.le_of_ble_eq_true rfl) (Nat.le_of_ble_eq_true rfl) dL_isLawful_119
                        show nI 0 = bI (lawB (g * p) rg bd ab ob (fun _ => -1) rw)
                        exact law_f (show t < g * p by omega) (okT_f1 (show o < g * p by omega) okp_f)
              refine lv_aload_n hXX hBB dL_isLawful_34 rfl (lv_at hl 7 rfl) ?_
              refine lv_iload hXX hBB dL_isLawful_35 (lv_at hl 2 rfl) ?_
              refine m_iald hXX hBB hK hP 3 0 rfl rfl (i := t) (by omega) (by decide) (x := nI (rw t)) rfl dL_isLawful_37 ?_
              refine lv_aload_n hXX hBB dL_isLawful_38 rfl (lv_at hl 7 rfl) ?_
              refine lv_iload hXX hBB dL_isLawful_39 (lv_at hl 0 rfl) ?_
              refine m_iald hXX hBB hK hP 3 0 rfl rfl (i := o) (by omega) (by decide) (x := nI (rw o)) rfl dL_isLawful_41 ?_
              refine lv_icmp_ne (tgt := 60) hXX hBB dL_isLawful_42 (by decide) (fun c_42 => ?_) (fun c_42 => ?_)
              · have c_42 : ¬ (rw t) = (rw o) := fun h9 => c_42 ((nI_eq (by omega) (by omega)).mpr h9)
                refine lv_iconst (v := nI 0) hXX hBB dL_isLawful_60 (by decide) ?_
                refine m_top (y := nI ((smT rg rw t o).toNat)) (by first | exact smT_1 c_42 c_53 | exact smT_0a c_42 | exact smT_0b c_53) ?_
                exact J_61 _ _ (hP.sub [0, 1, 2, 3] rfl) (hD.sub [0, 1, 2, 3] (by decide) rfl) hS ls (lv_sub hl [0, 1, 2, 3, 4, 5, 6, 7] rfl)
              · have c_42 : (rw t) = (rw o) := (nI_eq (by omega) (by omega)).mp c_42
                refine lv_aload_n hXX hBB dL_isLawful_45 rfl (lv_at hl 5 rfl) ?_
                refine lv_iload hXX hBB dL_isLawful_46 (lv_at hl 2 rfl) ?_
                refine m_iald hXX hBB hK hP 1 0 rfl rfl (i := t) (by omega) (by decide) (x := nI (rA rg bd t)) rfl dL_isLawful_48 ?_
                refine m_top (y := nI (rg t)) (by exact congrArg nI (rA_lo _ _ (by omega))) ?_
                refine lv_aload_n hXX hBB dL_isLawful_49 rfl (lv_at hl 5 rfl) ?_
                refine lv_iload hXX hBB dL_isLawful_50 (lv_at hl 0 rfl) ?_
                refine m_iald hXX hBB hK hP 1 0 rfl rfl (i := o) (by omega) (by decide) (x := nI (rA rg bd o)) rfl dL_isLawful_52 ?_
                refine m_top (y := nI (rg o)) (by exact congrArg nI (rA_lo _ _ (by omega))) ?_
                refine lv_icmp_ne (tgt := 60) hXX hBB dL_isLawful_53 (by decide) (fun c_53 => ?_) (fun c_53 => ?_)
                · have c_53 : ¬ (rg t) = (rg o) := fun h9 => c_53 ((nI_eq (by omega) (by omega)).mpr h9)
                  refine lv_iconst (v := nI 0) hXX hBB dL_isLawful_60 (by decide) ?_
                  refine m_top (y := nI ((smT rg rw t o).toNat)) (by first | exact smT_1 c_42 c_53 | exact smT_0a c_42 | exact smT_0b c_53) ?_
                  exact J_61 _ _ (hP.sub [0, 1, 2, 3] rfl) (hD.sub [0, 1, 2, 3] (by decide) rfl) hS ls (lv_sub hl [0, 1, 2, 3, 4, 5, 6, 7] rfl)
                · have c_53 : (rg t) = (rg o) := (nI_eq (by omega) (by omega)).mp c_53
                  refine lv_iconst (v := nI 1) hXX hBB dL_isLawful_56 (by decide) ?_
                  refine lv_goto (tgt := 61) hXX hBB dL_isLawful_57 (by decide) ?_
                  refine m_top (y := nI ((smT rg rw t o).toNat)) (by first | exact smT_1 c_42 c_53 | exact smT_0a c_42 | exact smT_0b c_53) ?_
                  exact J_61 _ _ (hP.sub [0, 1, 2, 3] rfl) (hD.sub [0, 1, 2, 3] (by decide) rfl) hS ls (lv_sub hl [0, 1, 2, 3, 4, 5, 6, 7] rfl)
        have hi_o : 0 ≤ g * p := by exact Nat.zero_le _
        have hi_sa : 0 = ct (smT rg rw t) 0 := by rfl
        have hi_okp : ∀ z, z < 0 → okP ab ob rw t z = true := by exact fun z hz => absurd hz (Nat.not_lt_zero z)
        exact L_25 _ 0 0 hi_o hi_sa hi_okp (Nat.lt_succ_self _) _ _ hP hD hS ls (lv_sub hl [0, 1, 2, 3, 4, 5, 6, 7] rfl)
  have hi_t : 0 ≤ g * p := by exact Nat.zero_le _
  have hi_okt : ∀ z, z < 0 → okT (g * p) rg bd ab ob (fun _ => -1) rw z = true := by exact fun z hz => absurd hz (Nat.not_lt_zero z)
  exact L_12 _ 0 hi_t hi_okt (Nat.lt_succ_self _) _ _ hP hD hS ls (lv_sub hl [0, 1, 2, 3, 4, 5] rfl)
