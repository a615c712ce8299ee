/-! own rows: the law's way to its draw -/
theorem qc_step {g o i : Nat} {qc : Nat → Nat} (hi : i < g) (ha : atN g o i < 4) (h : ∀ z, z < g → ∀ j, j < 4 → qc (4 * z + j) = mkN (fun x => decide (atN g x z = j)) (if z < i then o + 1 else o)) :
    ∀ z, z < g → ∀ j, j < 4 → updN qc (4 * i + atN g o i) (qc (4 * i + atN g o i) ||| 2 ^ o) (4 * z + j) = mkN (fun x => decide (atN g x z = j)) (if z < i + 1 then o + 1 else o) := by
  intro z hz j hj
  by_cases q : z = i
  · subst q
    rw [if_pos (Nat.lt_succ_self z)]
    by_cases r : j = atN g o z
    · subst r
      have h1 := h z hz (atN g o z) ha
      rw [if_neg (Nat.lt_irrefl z)] at h1
      rw [updN_s, h1, mkN_or]
      simp [mkN]
    · have h1 := h z hz j hj
      rw [if_neg (Nat.lt_irrefl z)] at h1
      rw [updN_n (by omega), h1]
      have e : ¬ atN g o z = j := fun e => r e.symm
      simp [mkN, e]
  · rw [updN_n (by omega), h z hz j hj]
    by_cases r : z < i
    · rw [if_pos r, if_pos (by omega)]
    · rw [if_neg r, if_neg (by omega)]
theorem re_step {g i a b : Nat} {re : Nat → Nat} {P Q : Nat → Nat} (hi : i < g) (h : ∀ z, z < i → re z = P z ∧ re (g + z) = Q z) (ha : a = P i := by rfl) (hb : b = Q i := by rfl) : ∀ z, z < i + 1 → updN (updN re i a) (g + i) b z = P z ∧ updN (updN re i a) (g + i) b (g + z) = Q z := by
  intro z hz
  by_cases q : z = i
  · subst q
    rw [updN_n (by omega), updN_s, updN_s]
    exact ⟨ha, hb⟩
  · rw [updN_n (by omega), updN_n (by omega), updN_n (by omega), updN_n (by omega)]
    exact h z (by omega)
theorem g_p1 {g p : Nat} (h : 2 ≤ p) : g * p = g * (p - 1) + g := by
  obtain ⟨d, rfl⟩ : ∃ d, p = d + 1 := ⟨p - 1, by omega⟩
  rw [Nat.add_sub_cancel, Nat.mul_succ]
theorem F_dv {g p k : Nat} (hp2 : 2 ≤ p) (hp3 : p ≤ 3) (hk : k < fac g ^ (p - 1)) : k / fac g < fac g := by
  by_cases q : p = 3
  · exact F_div q hk
  · obtain rfl : p = 2 := by omega
    rw [show (2 : Nat) - 1 = 1 from rfl, Nat.pow_one] at hk
    rw [Nat.div_eq_of_lt hk]
    exact fac_pos g
theorem rowK {g p k o : Nat} {rr : Nat → Nat} (hg0 : 0 < g) (hp2 : 2 ≤ p) (hp3 : p ≤ 3) (hk : k < fac g ^ (p - 1)) (ho : o < fac g) (h1 : ∀ z, z < g → rr z = atN g (k % fac g) z) (h2 : p = 3 → ∀ z, z < g → rr (g + z) = atN g (k / fac g) z)
    (h3 : ∀ z, z < g → rr (g * (p - 1) + z) = atN g o z) : ∀ t, t < g * p → rr t = rowA g (k + fac g ^ (p - 1) * o) t := by
  intro t ht
  have hf := fac_pos g
  have hi := Nat.mod_lt t hg0
  have hd := Nat.div_add_mod t g
  have hq := pot_lt hg0 ht
  unfold rowA
  by_cases q3 : p = 3
  · subst q3
    rw [show (3 : Nat) - 1 = 2 from rfl] at hk h3 ⊢
    have e0 : fac g ^ 2 = fac g * fac g := by rw [Nat.pow_succ, Nat.pow_one]
    rw [e0] at hk ⊢
    have e1 : (k + fac g * fac g * o) % fac g = k % fac g := by rw [Nat.mul_assoc, Nat.add_mul_mod_self_left]
    have e2 : (k + fac g * fac g * o) / fac g = k / fac g + fac g * o := by rw [Nat.mul_assoc, Nat.add_mul_div_left _ _ hf]
    have hk2 : k / fac g < fac g := Nat.div_lt_of_lt_mul hk
    have hz9 : 0 ≤ t / g := Nat.zero_le _
    rcases (show t / g = 0 ∨ t / g = 1 ∨ t / g = 2 by omega) with c | c | c
    · rw [c, Nat.pow_zero, Nat.div_one, e1, ← h1 _ hi]
      rw [c, Nat.mul_zero, Nat.zero_add] at hd
      rw [hd]
    · rw [c, Nat.pow_one, e2, Nat.add_mul_mod_self_left, Nat.mod_eq_of_lt hk2, ← h2 rfl _ hi]
      rw [c, Nat.mul_one] at hd
      rw [hd]
    · rw [c, e0, Nat.add_mul_div_left _ _ (Nat.mul_pos hf hf), Nat.div_eq_of_lt hk, Nat.zero_add, Nat.mod_eq_of_lt ho, ← h3 _ hi]
      rw [c] at hd
      rw [hd]
  · obtain rfl : p = 2 := by omega
    rw [show (2 : Nat) - 1 = 1 from rfl] at hk h3 ⊢
    rw [Nat.pow_one] at hk ⊢
    have hz9 : 0 ≤ t / g := Nat.zero_le _
    rcases (show t / g = 0 ∨ t / g = 1 by omega) with c | c
    · rw [c, Nat.pow_zero, Nat.div_one, Nat.add_mul_mod_self_left, ← h1 _ hi]
      rw [c, Nat.mul_zero, Nat.zero_add] at hd
      rw [hd]
    · rw [c, Nat.pow_one, Nat.add_mul_div_left _ _ hf, Nat.div_eq_of_lt hk, Nat.zero_add, Nat.mod_eq_of_lt ho, ← h3 _ hi]
      rw [c] at hd
      rw [hd]
theorem wk_1 {f : Nat → Nat} {k o : Nat} {P : Nat → Bool} (h : f k = mkN P o) (c : P o = true) : lN (f k) ||| lN (2 ^ o) = lN (mkN P (o + 1)) := by
  rw [l_or, h, mkN_or]
  simp [mkN, c]
theorem wk_0 {f : Nat → Nat} {k o : Nat} {P : Nat → Bool} (h : f k = mkN P o) (c : P o = false) : lN (f k) ||| lN 0 = lN (mkN P (o + 1)) := by
  rw [l_or, h]
  simp [mkN, c]
abbrev rmL_finds : Room := { frames := 1, cells := 1, slots := 9, locals := 28 }
set_option maxHeartbeats 4000000 in
set_option maxRecDepth 100000 in
theorem kL_finds (l : Launch) (D : va_G) (cI : ClassId) (cJ : ClassId) (bN : Nat) (g : Nat) (p : Nat) (dm : Nat) (fa : Nat) (bR : Nat) (rg : Nat → Nat) (bd : Nat → Nat) (bA : Nat) (ap : Nat → Nat) (od : Nat → Nat) (bW : Nat) (wm : Nat → Nat) (bQ : Nat) (qm : Nat → Nat) (ab : Nat → Bool) (ob : Nat → Bool) (hG : LG g p) (hrg : ∀ z, z < 9 → rg z ≤ 5) (hbd : ∀ z, z < 6 → bd z ≤ 3) (hR : RelR ap od ab ob) : Cv l yL_finds wsL_finds rmL_finds D [(cI, .int), (cJ, .long)] [.ref bN, .ref bR, .ref bA, .ref bW, .ref bQ] [(bN, .inl (cI, 4, .inl (fun j => nI (nA g p dm fa j)))), (bR, .inl (cI, 15, .inl (fun j => nI (rA rg bd j)))), (bA, .inl (cI, 18, .inl (fun j => nI (rA ap od j)))), (bW, .inl (cJ, 36, .inr (.inl (fun j => lN (wm j))))), (bQ, .inl (cJ, 16, .inr (.inl (fun j => lN (qm j)))))] (fun (u : (Nat → Nat) × (Nat → Nat)) => (WM g p rg bd ab ob u.1) ∧ (QM g u.2)) (fun (u : (Nat → Nat) × (Nat → Nat)) => [(bN, .inl (cI, 4, .inl (fun j => nI (nA g p dm (fac g) j)))), (bR, .inl (cI, 15, .inl (fun j => nI (rA rg bd j)))), (bA, .inl (cI, 18, .inl (fun j => nI (rA ap od j)))), (bW, .inl (cJ, 36, .inr (.inl (fun j => lN (u.1 j))))), (bQ, .inl (cJ, 16, .inr (.inl (fun j => lN (u.2 j)))))]) := by
  refine Cv_of (cc := cL_finds) (maxL := 11) (by decide) rfl (Nat.le_of_ble_eq_true rfl) ?_
  intro pR eV sT mI args below meth cO AA QQ ls hXX hBB hml hown hts hnm hN hK hP hD hS hAA hl hret
  have hl : lv_has ls 11 [(0, .ref bN), (1, .ref bR), (2, .ref bA), (3, .ref bW), (4, .ref bQ)] := hl
  obtain ⟨⟨hg2, hg4⟩, ⟨hp2, hp3⟩, hT⟩ := id hG
  have hg0 : 0 < g := by omega
  have hF24 := fac_24 g (by omega)
  have hF0 := fac_pos g
  have hF9 := F_36 hg2 hg4 hp2 hp3 hT
  have hgp : g * p = g * (p - 1) + g := g_p1 hp2
  have hgp2 : g ≤ g * (p - 1) := Nat.le_mul_of_pos_right g (by omega)
  have kw_1 := hts (.arrayClass .int) (List.mem_of_getElem? (i := 1) rfl)
  refine lv_bipush (v := nI 9) hXX hBB dL_finds_0 (by decide) ?_
  refine m_newi hXX hBB kw_1 hK hP hD hS hAA 0 rfl (N := 9) (by decide) (by decide) (Nat.le_of_ble_eq_true rfl) (Nat.le_of_ble_eq_true rfl) (k := 1) (n := 9) rfl rfl dL_finds_2 (fun aG H hP hD hS => ?_)
  have hP : va_P D vwCl [(bN, .inl (cI, 4, .inl (fun j => nI (nA g p dm fa j)))), (bR, .inl (cI, 15, .inl (fun j => nI (rA rg bd j)))), (bA, .inl (cI, 18, .inl (fun j => nI (rA ap od j)))), (bW, .inl (cJ, 36, .inr (.inl (fun j => lN (wm j))))), (bQ, .inl (cJ, 16, .inr (.inl (fun j => lN (qm j))))), (aG, .inl (cI, 9, .inl (fun _ => nI 0)))] H := hP
  have hD : va_D AA [(bN, .inl (cI, 4, .inl (fun j => nI (nA g p dm fa j)))), (bR, .inl (cI, 15, .inl (fun j => nI (rA rg bd j)))), (bA, .inl (cI, 18, .inl (fun j => nI (rA ap od j)))), (bW, .inl (cJ, 36, .inr (.inl (fun j => lN (wm j))))), (bQ, .inl (cJ, 16, .inr (.inl (fun j => lN (qm j))))), (aG, .inl (cI, 9, .inl (fun _ => nI 0)))] := hD
  refine lv_astore (lv' := [(5, .ref aG), (0, .ref bN), (1, .ref bR), (2, .ref bA), (3, .ref bW), (4, .ref bQ)]) hXX hBB dL_finds_4 hl (by decide) rfl (fun ls hl => ?_)
  have J_31 : ∀ (H : Heap) (locs : List Loc), va_P D vwCl [(bN, .inl (cI, 4, .inl (fun j => nI (nA g p dm fa j)))), (bR, .inl (cI, 15, .inl (fun j => nI (rA rg bd j)))), (bA, .inl (cI, 18, .inl (fun j => nI (rA ap od j)))), (bW, .inl (cJ, 36, .inr (.inl (fun j => lN (wm j))))), (bQ, .inl (cJ, 16, .inr (.inl (fun j => lN (qm j))))), (aG, .inl (cI, 9, .inl (fun _ => nI 0)))] H → va_D AA [(bN, .inl (cI, 4, .inl (fun j => nI (nA g p dm fa j)))), (bR, .inl (cI, 15, .inl (fun j => nI (rA rg bd j)))), (bA, .inl (cI, 18, .inl (fun j => nI (rA ap od j)))), (bW, .inl (cJ, 36, .inr (.inl (fun j => lN (wm j))))), (bQ, .inl (cJ, 16, .inr (.inl (fun j => lN (qm j))))), (aG, .inl (cI, 9, .inl (fun _ => nI 0)))] → va_S AA sT.heap H locs → ∀ (ls : Array Slot), lv_has ls 11 [(5, .ref aG), (0, .ref bN), (1, .ref bR), (2, .ref bA), (3, .ref bW), (4, .ref bQ)] → W pR l eV rmL_finds sT mI args below meth cO H locs 1 9 QQ (F0 mI 31 ls [.int (nI (fac g))]) := by
    intro H locs hP hD hS ls hl
    refine lv_istore (lv' := [(6, .int (nI (fac g))), (5, .ref aG), (0, .ref bN), (1, .ref bR), (2, .ref bA), (3, .ref bW), (4, .ref bQ)]) hXX hBB dL_finds_31 hl (by decide) rfl (fun ls hl => ?_)
    refine lv_aload_n hXX hBB dL_finds_33 rfl (lv_at hl 2 rfl) ?_
    refine lv_iconst (v := nI 3) hXX hBB dL_finds_34 (by decide) ?_
    refine lv_iload hXX hBB dL_finds_35 (lv_at hl 0 rfl) ?_
    refine m_iast hXX hBB hK hP hD hS 0 0 rfl rfl (i := 3) (by decide) (by decide) (g := fun j => nI (nA g p dm (fac g) j)) (nA_u3 _ _ _ _ _) dL_finds_37 (fun H locs hP hD hS => ?_)
    have hP : va_P D vwCl [(bN, .inl (cI, 4, .inl (fun j => nI (nA g p dm (fac g) j)))), (bR, .inl (cI, 15, .inl (fun j => nI (rA rg bd j)))), (bA, .inl (cI, 18, .inl (fun j => nI (rA ap od j)))), (bW, .inl (cJ, 36, .inr (.inl (fun j => lN (wm j))))), (bQ, .inl (cJ, 16, .inr (.inl (fun j => lN (qm j))))), (aG, .inl (cI, 9, .inl (fun _ => nI 0)))] H := hP
    have hD : va_D AA [(bN, .inl (cI, 4, .inl (fun j => nI (nA g p dm (fac g) j)))), (bR, .inl (cI, 15, .inl (fun j => nI (rA rg bd j)))), (bA, .inl (cI, 18, .inl (fun j => nI (rA ap od j)))), (bW, .inl (cJ, 36, .inr (.inl (fun j => lN (wm j))))), (bQ, .inl (cJ, 16, .inr (.inl (fun j => lN (qm j))))), (aG, .inl (cI, 9, .inl (fun _ => nI 0)))] := hD
    refine lv_iconst (v := nI 0) hXX hBB dL_finds_38 (by decide) ?_
    refine lv_istore (lv' := [(7, .int (nI 0)), (6, .int (nI (fac g))), (5, .ref aG), (0, .ref bN), (1, .ref bR), (2, .ref bA), (3, .ref bW), (4, .ref bQ)]) hXX hBB dL_finds_39 hl (by decide) rfl (fun ls hl => ?_)
    have L_41 : ∀ (N_41 : Nat) (k : Nat) (qa : Nat → Nat), (k ≤ 16) → (∀ z, z < k → qa z = 0) → 16 - k < N_41 → ∀ (H : Heap) (locs : List Loc), va_P D vwCl [(bN, .inl (cI, 4, .inl (fun j => nI (nA g p dm (fac g) j)))), (bR, .inl (cI, 15, .inl (fun j => nI (rA rg bd j)))), (bA, .inl (cI, 18, .inl (fun j => nI (rA ap od j)))), (bW, .inl (cJ, 36, .inr (.inl (fun j => lN (wm j))))), (bQ, .inl (cJ, 16, .inr (.inl (fun j => lN (qa j))))), (aG, .inl (cI, 9, .inl (fun _ => nI 0)))] H → va_D AA [(bN, .inl (cI, 4, .inl (fun j => nI (nA g p dm (fac g) j)))), (bR, .inl (cI, 15, .inl (fun j => nI (rA rg bd j)))), (bA, .inl (cI, 18, .inl (fun j => nI (rA ap od j)))), (bW, .inl (cJ, 36, .inr (.inl (fun j => lN (wm j))))), (bQ, .inl (cJ, 16, .inr (.inl (fun j => lN (qa j))))), (aG, .inl (cI, 9, .inl (fun _ => nI 0)))] → va_S AA sT.heap H locs → ∀ (ls : Array Slot), lv_has ls 11 [(7, .int (nI k)), (6, .int (nI (fac g))), (5, .ref aG), (0, .ref bN), (1, .ref bR), (2, .ref bA), (3, .ref bW), (4, .ref bQ)] → W pR l eV rmL_finds sT mI args below meth cO H locs 1 9 QQ (F0 mI 41 ls []) := by
      intro N_41
      induction N_41 with
      | zero =>
        intro k qa hk hZ hMM
        exact absurd hMM (Nat.not_lt_zero _)
      | succ N_41 ih_41 =>
        intro k qa hk hZ hMM H locs hP hD hS ls hl
        refine lv_iload hXX hBB dL_finds_41 (lv_at hl 0 rfl) ?_
        refine lv_bipush (v := nI 16) hXX hBB dL_finds_43 (by decide) ?_
        refine lv_icmp_ge (tgt := 60) hXX hBB dL_finds_45 (by decide) (fun c_45 => ?_) (fun c_45 => ?_)
        · have c_45 : 16 ≤ k := (nI_leI (by omega) (by omega)).mp c_45
          have hk16 : k = 16 := by omega
          refine lv_iconst (v := nI 0) hXX hBB dL_finds_60 (by decide) ?_
          refine lv_istore (lv' := [(7, .int (nI 0)), (6, .int (nI (fac g))), (5, .ref aG), (0, .ref bN), (1, .ref bR), (2, .ref bA), (3, .ref bW), (4, .ref bQ)]) hXX hBB dL_finds_61 hl (by decide) rfl (fun ls hl => ?_)
          have L_63 : ∀ (N_63 : Nat) (o : Nat) (qb : Nat → Nat), (o ≤ fac g) → (∀ z, z < g → ∀ j, j < 4 → qb (4 * z + j) = mkN (fun x => decide (atN g x z = j)) o) → fac g - o < N_63 → ∀ (H : Heap) (locs : List Loc), va_P D vwCl [(bN, .inl (cI, 4, .inl (fun j => nI (nA g p dm (fac g) j)))), (bR, .inl (cI, 15, .inl (fun j => nI (rA rg bd j)))), (bA, .inl (cI, 18, .inl (fun j => nI (rA ap od j)))), (bW, .inl (cJ, 36, .inr (.inl (fun j => lN (wm j))))), (bQ, .inl (cJ, 16, .inr (.inl (fun j => lN (qb j))))), (aG, .inl (cI, 9, .inl (fun _ => nI 0)))] H → va_D AA [(bN, .inl (cI, 4, .inl (fun j => nI (nA g p dm (fac g) j)))), (bR, .inl (cI, 15, .inl (fun j => nI (rA rg bd j)))), (bA, .inl (cI, 18, .inl (fun j => nI (rA ap od j)))), (bW, .inl (cJ, 36, .inr (.inl (fun j => lN (wm j))))), (bQ, .inl (cJ, 16, .inr (.inl (fun j => lN (qb j))))), (aG, .inl (cI, 9, .inl (fun _ => nI 0)))] → va_S AA sT.heap H locs → ∀ (ls : Array Slot), lv_has ls 11 [(7, .int (nI o)), (6, .int (nI (fac g))), (5, .ref aG), (0, .ref bN), (1, .ref bR), (2, .ref bA), (3, .ref bW), (4, .ref bQ)] → W pR l eV rmL_finds sT mI args below meth cO H locs 1 9 QQ (F0 mI 63 ls []) := by
            intro N_63
            induction N_63 with
            | zero =>
              intro o qb ho hQB hMM
              exact absurd hMM (Nat.not_lt_zero _)
            | succ N_63 ih_63 =>
              intro o qb ho hQB hMM H locs hP hD hS ls hl
              refine lv_iload hXX hBB dL_finds_63 (lv_at hl 0 rfl) ?_
              refine lv_iload hXX hBB dL_finds_65 (lv_at hl 1 rfl) ?_
              refine lv_icmp_ge (tgt := 118) hXX hBB dL_finds_67 (by decide) (fun c_67 => ?_) (fun c_67 => ?_)
              · have c_67 : (fac g) ≤ o := (nI_leI (by omega) (by omega)).mp c_67
                have hEo : o = fac g := by omega
                have hQM : QM g qb := fun z hz j hj => by
                  have h9 := hQB z hz j hj
                  rw [hEo] at h9
                  exact h9
                have J_135 : ∀ (H : Heap) (locs : List Loc), va_P D vwCl [(bN, .inl (cI, 4, .inl (fun j => nI (nA g p dm (fac g) j)))), (bR, .inl (cI, 15, .inl (fun j => nI (rA rg bd j)))), (bA, .inl (cI, 18, .inl (fun j => nI (rA ap od j)))), (bW, .inl (cJ, 36, .inr (.inl (fun j => lN (wm j))))), (bQ, .inl (cJ, 16, .inr (.inl (fun j => lN (qb j))))), (aG, .inl (cI, 9, .inl (fun _ => nI 0)))] H → va_D AA [(bN, .inl (cI, 4, .inl (fun j => nI (nA g p dm (fac g) j)))), (bR, .inl (cI, 15, .inl (fun j => nI (rA rg bd j)))), (bA, .inl (cI, 18, .inl (fun j => nI (rA ap od j)))), (bW, .inl (cJ, 36, .inr (.inl (fun j => lN (wm j))))), (bQ, .inl (cJ, 16, .inr (.inl (fun j => lN (qb j))))), (aG, .inl (cI, 9, .inl (fun _ => nI 0)))] → va_S AA sT.heap H locs → ∀ (ls : Array Slot), lv_has ls 11 [(7, .int (nI o)), (6, .int (nI (fac g))), (5, .ref aG), (0, .ref bN), (1, .ref bR), (2, .ref bA), (3, .ref bW), (4, .ref bQ)] → W pR l eV rmL_finds sT mI args below meth cO H locs 1 9 QQ (F0 mI 135 ls [.int (nI (fac g ^ (p - 1)))]) := by
                  intro H locs hP hD hS ls hl
                  refine lv_istore (lv' := [(7, .int (nI (fac g ^ (p - 1)))), (6, .int (nI (fac g))), (5, .ref aG), (0, .ref bN), (1, .ref bR), (2, .ref bA), (3, .ref bW), (4, .ref bQ)]) hXX hBB dL_finds_135 hl (by decide) rfl (fun ls hl => ?_)
                  refine lv_iconst (v := nI 0) hXX hBB dL_finds_137 (by decide) ?_
                  refine lv_istore (lv' := [(8, .int (nI 0)), (7, .int (nI (fac g ^ (p - 1)))), (6, .int (nI (fac g))), (5, .ref aG), (0, .ref bN), (1, .ref bR), (2, .ref bA), (3, .ref bW), (4, .ref bQ)]) hXX hBB dL_finds_138 hl (by decide) rfl (fun ls hl => ?_)
                  have L_140 : ∀ (N_140 : Nat) (k : Nat) (wd : Nat → Nat) (rd : Nat → Nat), (k ≤ fac g ^ (p - 1)) → (∀ z, z < k → wd z = mkN (fun x => LMb g p rg bd ab ob (z + fac g ^ (p - 1) * x)) (fac g)) → fac g ^ (p - 1) - k < N_140 → ∀ (H : Heap) (locs : List Loc), va_P D vwCl [(bN, .inl (cI, 4, .inl (fun j => nI (nA g p dm (fac g) j)))), (bR, .inl (cI, 15, .inl (fun j => nI (rA rg bd j)))), (bA, .inl (cI, 18, .inl (fun j => nI (rA ap od j)))), (bW, .inl (cJ, 36, .inr (.inl (fun j => lN (wd j))))), (bQ, .inl (cJ, 16, .inr (.inl (fun j => lN (qb j))))), (aG, .inl (cI, 9, .inl (fun j => nI (rd j))))] H → va_D AA [(bN, .inl (cI, 4, .inl (fun j => nI (nA g p dm (fac g) j)))), (bR, .inl (cI, 15, .inl (fun j => nI (rA rg bd j)))), (bA, .inl (cI, 18, .inl (fun j => nI (rA ap od j)))), (bW, .inl (cJ, 36, .inr (.inl (fun j => lN (wd j))))), (bQ, .inl (cJ, 16, .inr (.inl (fun j => lN (qb j))))), (aG, .inl (cI, 9, .inl (fun j => nI (rd j))))] → va_S AA sT.heap H locs → ∀ (ls : Array Slot), lv_has ls 11 [(8, .int (nI k)), (7, .int (nI (fac g ^ (p - 1)))), (6, .int (nI (fac g))), (5, .ref aG), (0, .ref bN), (1, .ref bR), (2, .ref bA), (3, .ref bW), (4, .ref bQ)] → W pR l eV rmL_finds sT mI args below meth cO H locs 1 9 QQ (F0 mI 140 ls []) := by
                    intro N_140
                    induction N_140 with
                    | zero =>
                      intro k wd rd hk hWD hMM
                      exact absurd hMM (Nat.not_lt_zero _)
                    | succ N_140 ih_140 =>
                      intro k wd rd hk hWD hMM H locs hP hD hS ls hl
                      refine lv_iload hXX hBB dL_finds_140 (lv_at hl 0 rfl) ?_
                      refine lv_iload hXX hBB dL_finds_142 (lv_at hl 1 rfl) ?_
                      refine lv_icmp_ge (tgt := 299) hXX hBB dL_finds_144 (by decide) (fun c_144 => ?_) (fun c_144 => ?_)
                      · have c_144 : (fac g ^ (p - 1)) ≤ k := (nI_leI (by omega) (by omega)).mp c_144
                        have hEk : k = fac g ^ (p - 1) := by omega
                        refine hret (wd, qb) ?_ (hP.sub [0, 1, 2, 3, 4] rfl) (hD.sub [0, 1, 2, 3, 4] (by decide) rfl) hS (Nat.le_of_ble_eq_true rfl) (Nat.le_of_ble_eq_true rfl) dL_finds_299
                        show (WM g p rg bd ab ob wd) ∧ (QM g qb)
                        refine ⟨fun z hz => ?_, hQM⟩
                        exact hWD z (by omega)
                      · have c_144 : ¬ (fac g ^ (p - 1)) ≤ k := fun h9 => c_144 ((nI_leI (by omega) (by omega)).mpr h9)
                        have hkd : k / fac g < fac g := F_dv hp2 hp3 (by omega)
                        have hkm : k % fac g < fac g := Nat.mod_lt k hF0
                        refine lv_aload_n hXX hBB dL_finds_147 rfl (lv_at hl 7 rfl) ?_
                        refine lv_iload hXX hBB dL_finds_148 (lv_at hl 0 rfl) ?_
                        refine lv_lconst (v := lN 0) hXX hBB dL_finds_150 rfl ?_
                        refine m_last hXX hBB hK hP hD hS 3 1 rfl rfl (i := k) (by omega) (by decide) (g := fun j => lN (updN wd k 0 j)) (m_updL _ _ _) dL_finds_151 (fun H locs hP hD hS => ?_)
                        have hP : va_P D vwCl [(bN, .inl (cI, 4, .inl (fun j => nI (nA g p dm (fac g) j)))), (bR, .inl (cI, 15, .inl (fun j => nI (rA rg bd j)))), (bA, .inl (cI, 18, .inl (fun j => nI (rA ap od j)))), (bW, .inl (cJ, 36, .inr (.inl (fun j => lN (updN wd k 0 j))))), (bQ, .inl (cJ, 16, .inr (.inl (fun j => lN (qb j))))), (aG, .inl (cI, 9, .inl (fun j => nI (rd j))))] H := hP
                        have hD : va_D AA [(bN, .inl (cI, 4, .inl (fun j => nI (nA g p dm (fac g) j)))), (bR, .inl (cI, 15, .inl (fun j => nI (rA rg bd j)))), (bA, .inl (cI, 18, .inl (fun j => nI (rA ap od j)))), (bW, .inl (cJ, 36, .inr (.inl (fun j => lN (updN wd k 0 j))))), (bQ, .inl (cJ, 16, .inr (.inl (fun j => lN (qb j))))), (aG, .inl (cI, 9, .inl (fun j => nI (rd j))))] := hD
                        refine lv_iconst (v := nI 0) hXX hBB dL_finds_152 (by decide) ?_
                        refine lv_istore (lv' := [(9, .int (nI 0)), (8, .int (nI k)), (7, .int (nI (fac g ^ (p - 1)))), (6, .int (nI (fac g))), (5, .ref aG), (0, .ref bN), (1, .ref bR), (2, .ref bA), (3, .ref bW), (4, .ref bQ)]) hXX hBB dL_finds_153 hl (by decide) rfl (fun ls hl => ?_)
                        have L_155 : ∀ (N_155 : Nat) (i : Nat) (re : Nat → Nat), (i ≤ g) → (∀ z, z < i → re z = atN g (k % fac g) z ∧ re (g + z) = atN g (k / fac g) z) → g - i < N_155 → ∀ (H : Heap) (locs : List Loc), va_P D vwCl [(bN, .inl (cI, 4, .inl (fun j => nI (nA g p dm (fac g) j)))), (bR, .inl (cI, 15, .inl (fun j => nI (rA rg bd j)))), (bA, .inl (cI, 18, .inl (fun j => nI (rA ap od j)))), (bW, .inl (cJ, 36, .inr (.inl (fun j => lN (updN wd k 0 j))))), (bQ, .inl (cJ, 16, .inr (.inl (fun j => lN (qb j))))), (aG, .inl (cI, 9, .inl (fun j => nI (re j))))] H → va_D AA [(bN, .inl (cI, 4, .inl (fun j => nI (nA g p dm (fac g) j)))), (bR, .inl (cI, 15, .inl (fun j => nI (rA rg bd j)))), (bA, .inl (cI, 18, .inl (fun j => nI (rA ap od j)))), (bW, .inl (cJ, 36, .inr (.inl (fun j => lN (updN wd k 0 j))))), (bQ, .inl (cJ, 16, .inr (.inl (fun j => lN (qb j))))), (aG, .inl (cI, 9, .inl (fun j => nI (re j))))] → va_S AA sT.heap H locs → ∀ (ls : Array Slot), lv_has ls 11 [(9, .int (nI i)), (8, .int (nI k)), (7, .int (nI (fac g ^ (p - 1)))), (6, .int (nI (fac g))), (5, .ref aG), (0, .ref bN), (1, .ref bR), (2, .ref bA), (3, .ref bW), (4, .ref bQ)] → W pR l eV rmL_finds sT mI args below meth cO H locs 1 9 QQ (F0 mI 155 ls []) := by
                          intro N_155
                          induction N_155 with
                          | zero =>
                            intro i re hi hRE hMM
                            exact absurd hMM (Nat.not_lt_zero _)
                          | succ N_155 ih_155 =>
                            intro i re hi hRE hMM H locs hP hD hS ls hl
                            refine lv_iload hXX hBB dL_finds_155 (lv_at hl 0 rfl) ?_
                            refine lv_aload_n hXX hBB dL_finds_157 rfl (lv_at hl 5 rfl) ?_
                            refine lv_iconst (v := nI 0) hXX hBB dL_finds_158 (by decide) ?_
                            refine m_iald hXX hBB hK hP 0 0 rfl rfl (i := 0) (by omega) (by decide) (x := nI g) rfl dL_finds_159 ?_
                            refine lv_icmp_ge (tgt := 209) hXX hBB dL_finds_160 (by decide) (fun c_160 => ?_) (fun c_160 => ?_)
                            · have c_160 : g ≤ i := (nI_leI (by omega) (by omega)).mp c_160
                              have hEe : i = g := by omega
                              refine lv_iconst (v := nI 0) hXX hBB dL_finds_209 (by decide) ?_
                              refine lv_istore (lv' := [(9, .int (nI 0)), (8, .int (nI k)), (7, .int (nI (fac g ^ (p - 1)))), (6, .int (nI (fac g))), (5, .ref aG), (0, .ref bN), (1, .ref bR), (2, .ref bA), (3, .ref bW), (4, .ref bQ)]) hXX hBB dL_finds_210 hl (by decide) rfl (fun ls hl => ?_)
                              have L_212 : ∀ (N_212 : Nat) (o : Nat) (wf : Nat → Nat) (rf : Nat → Nat), (o ≤ fac g) → (∀ z, z < k → wf z = mkN (fun x => LMb g p rg bd ab ob (z + fac g ^ (p - 1) * x)) (fac g)) → (wf k = mkN (fun x => LMb g p rg bd ab ob (k + fac g ^ (p - 1) * x)) o) → (∀ z, z < g → rf z = atN g (k % fac g) z) → (p = 3 → ∀ z, z < g → rf (g + z) = atN g (k / fac g) z) → fac g - o < N_212 → ∀ (H : Heap) (locs : List Loc), va_P D vwCl [(bN, .inl (cI, 4, .inl (fun j => nI (nA g p dm (fac g) j)))), (bR, .inl (cI, 15, .inl (fun j => nI (rA rg bd j)))), (bA, .inl (cI, 18, .inl (fun j => nI (rA ap od j)))), (bW, .inl (cJ, 36, .inr (.inl (fun j => lN (wf j))))), (bQ, .inl (cJ, 16, .inr (.inl (fun j => lN (qb j))))), (aG, .inl (cI, 9, .inl (fun j => nI (rf j))))] H → va_D AA [(bN, .inl (cI, 4, .inl (fun j => nI (nA g p dm (fac g) j)))), (bR, .inl (cI, 15, .inl (fun j => nI (rA rg bd j)))), (bA, .inl (cI, 18, .inl (fun j => nI (rA ap od j)))), (bW, .inl (cJ, 36, .inr (.inl (fun j => lN (wf j))))), (bQ, .inl (cJ, 16, .inr (.inl (fun j => lN (qb j))))), (aG, .inl (cI, 9, .inl (fun j => nI (rf j))))] → va_S AA sT.heap H locs → ∀ (ls : Array Slot), lv_has ls 11 [(9, .int (nI o)), (8, .int (nI k)), (7, .int (nI (fac g ^ (p - 1)))), (6, .int (nI (fac g))), (5, .ref aG), (0, .ref bN), (1, .ref bR), (2, .ref bA), (3, .ref bW), (4, .ref bQ)] → W pR l eV rmL_finds sT mI args below meth cO H locs 1 9 QQ (F0 mI 212 ls []) := by
                                intro N_212
                                induction N_212 with
                                | zero =>
                                  intro o wf rf ho hWF hWk hR1 hR2 hMM
                                  exact absurd hMM (Nat.not_lt_zero _)
                                | succ N_212 ih_212 =>
                                  intro o wf rf ho hWF hWk hR1 hR2 hMM H locs hP hD hS ls hl
                                  refine lv_iload hXX hBB dL_finds_212 (lv_at hl 0 rfl) ?_
                                  refine lv_iload hXX hBB dL_finds_214 (lv_at hl 3 rfl) ?_
                                  refine lv_icmp_ge (tgt := 293) hXX hBB dL_finds_216 (by decide) (fun c_216 => ?_) (fun c_216 => ?_)
                                  · have c_216 : (fac g) ≤ o := (nI_leI (by omega) (by omega)).mp c_216
                                    have hE9 : o = fac g := by omega
                                    refine lv_iinc (v := nI (k + 1)) (lv' := [(8, .int (nI (k + 1))), (9, .int (nI o)), (7, .int (nI (fac g ^ (p - 1)))), (6, .int (nI (fac g))), (5, .ref aG), (0, .ref bN), (1, .ref bR), (2, .ref bA), (3, .ref bW), (4, .ref bQ)]) hXX hBB dL_finds_293 hl (k := 1) rfl (nI_1 _) (by decide) rfl (fun ls hl => ?_)
                                    refine lv_goto (tgt := 140) hXX hBB dL_finds_296 (by decide) ?_
                                    have hi_k : (k + 1) ≤ fac g ^ (p - 1) := by omega
                                    have hi_WD : ∀ z, z < (k + 1) → wf z = mkN (fun x => LMb g p rg bd ab ob (z + fac g ^ (p - 1) * x)) (fac g) := by
                                      intro z hz
                                      by_cases q : z = k
                                      · rw [q, hWk, hE9]
                                      · exact hWF z (by omega)
                                    have hmm : fac g ^ (p - 1) - (k + 1) < N_140 := by omega
                                    exact ih_140 (k + 1) wf rf hi_k hi_WD hmm _ _ (hP.sub [0, 1, 2, 3, 4, 5] rfl) (hD.sub [0, 1, 2, 3, 4, 5] (by decide) rfl) hS ls (lv_sub hl [0, 2, 3, 4, 5, 6, 7, 8, 9] rfl)
                                  · have c_216 : ¬ (fac g) ≤ o := fun h9 => c_216 ((nI_leI (by omega) (by omega)).mpr h9)
                                    refine lv_iconst (v := nI 0) hXX hBB dL_finds_219 (by decide) ?_
                                    refine lv_istore (lv' := [(10, .int (nI 0)), (9, .int (nI o)), (8, .int (nI k)), (7, .int (nI (fac g ^ (p - 1)))), (6, .int (nI (fac g))), (5, .ref aG), (0, .ref bN), (1, .ref bR), (2, .ref bA), (3, .ref bW), (4, .ref bQ)]) hXX hBB dL_finds_220 hl (by decide) rfl (fun ls hl => ?_)
                                    have L_222 : ∀ (N_222 : Nat) (i : Nat) (rr : Nat → Nat), (i ≤ g) → (∀ z, z < i → rr (g * (p - 1) + z) = atN g o z) → (∀ z, z < g → rr z = atN g (k % fac g) z) → (p = 3 → ∀ z, z < g → rr (g + z) = atN g (k / fac g) z) → g - i < N_222 → ∀ (H : Heap) (locs : List Loc), va_P D vwCl [(bN, .inl (cI, 4, .inl (fun j => nI (nA g p dm (fac g) j)))), (bR, .inl (cI, 15, .inl (fun j => nI (rA rg bd j)))), (bA, .inl (cI, 18, .inl (fun j => nI (rA ap od j)))), (bW, .inl (cJ, 36, .inr (.inl (fun j => lN (wf j))))), (bQ, .inl (cJ, 16, .inr (.inl (fun j => lN (qb j))))), (aG, .inl (cI, 9, .inl (fun j => nI (rr j))))] H → va_D AA [(bN, .inl (cI, 4, .inl (fun j => nI (nA g p dm (fac g) j)))), (bR, .inl (cI, 15, .inl (fun j => nI (rA rg bd j)))), (bA, .inl (cI, 18, .inl (fun j => nI (rA ap od j)))), (bW, .inl (cJ, 36, .inr (.inl (fun j => lN (wf j))))), (bQ, .inl (cJ, 16, .inr (.inl (fun j => lN (qb j))))), (aG, .inl (cI, 9, .inl (fun j => nI (rr j))))] → va_S AA sT.heap H locs → ∀ (ls : Array Slot), lv_has ls 11 [(10, .int (nI i)), (9, .int (nI o)), (8, .int (nI k)), (7, .int (nI (fac g ^ (p - 1)))), (6, .int (nI (fac g))), (5, .ref aG), (0, .ref bN), (1, .ref bR), (2, .ref bA), (3, .ref bW), (4, .ref bQ)] → W pR l eV rmL_finds sT mI args below meth cO H locs 1 9 QQ (F0 mI 222 ls []) := by
                                      intro N_222
                                      induction N_222 with
                                      | zero =>
                                        intro i rr hi hG0 hG1 hG2 hMM
                                        exact absurd hMM (Nat.not_lt_zero _)
                                      | succ N_222 ih_222 =>
                                        intro i rr hi hG0 hG1 hG2 hMM H locs hP hD hS ls hl
                                        refine lv_iload hXX hBB dL_finds_222 (lv_at hl 0 rfl) ?_
                                        refine lv_aload_n hXX hBB dL_finds_224 rfl (lv_at hl 6 rfl) ?_
                                        refine lv_iconst (v := nI 0) hXX hBB dL_finds_225 (by decide) ?_
                                        refine m_iald hXX hBB hK hP 0 0 rfl rfl (i := 0) (by omega) (by decide) (x := nI g) rfl dL_finds_226 ?_
                                        refine lv_icmp_ge (tgt := 261) hXX hBB dL_finds_227 (by decide) (fun c_227 => ?_) (fun c_227 => ?_)
                                        · have c_227 : g ≤ i := (nI_leI (by omega) (by omega)).mp c_227
                                          have hEg : i = g := by omega
                                          have hrow := rowK hg0 hp2 hp3 (show k < fac g ^ (p - 1) by omega) (show o < fac g by omega) hG1 hG2 (fun z hz => hG0 z (by omega))
                                          refine lv_aload_n hXX hBB dL_finds_261 rfl (lv_at hl 9 rfl) ?_
                                          refine lv_iload hXX hBB dL_finds_262 (lv_at hl 2 rfl) ?_
                                          refine lv_dup2_11 hXX hBB dL_finds_264 rfl rfl ?_
                                          refine m_lald hXX hBB hK hP 3 1 rfl rfl (i := k) (by omega) (by decide) (x := lN (wf k)) rfl dL_finds_265 ?_
                                          refine lv_aload_n hXX hBB dL_finds_266 rfl (lv_at hl 6 rfl) ?_
                                          refine lv_aload_n hXX hBB dL_finds_267 rfl (lv_at hl 7 rfl) ?_
                                          refine lv_aload_n hXX hBB dL_finds_268 rfl (lv_at hl 8 rfl) ?_
                                          refine lv_aload hXX hBB dL_finds_269 (lv_at hl 5 rfl) ?_
                                          refine m_scalli (wr := [(bW, .inl (cJ, 36, .inr (.inl (fun j => lN (wf j))))), (bQ, .inl (cJ, 16, .inr (.inl (fun j => lN (qb j)))))]) ⟨hXX, hBB, hml, hown, hts⟩ hN (kL_isLawful l D cI bN g p dm (fac g) bR rg bd bA ap od aG rr ab ob (by assumption) (by exact fun z hz => by rw [hrow z hz]; exact Nat.lt_of_lt_of_le (rowA_lt hg0 hg4) hg4) (by assumption) (by assumption) (by assumption)) (va_cwS 4 hts gL_finds_L_isLawful rfl rfl rfl (by decide +kernel) ⟨Nat.le_of_ble_eq_true rfl, Nat.le_of_ble_eq_true rfl⟩) hK hP hD hS hAA [0, 1, 2, 5] [3, 4] [0] rfl rfl rfl (by decide) (by decide) (by decide) rfl hl.1 rfl (Nat.le_of_ble_eq_true rfl) dL_finds_271 ⟨Nat.le_of_ble_eq_true rfl, Nat.le_of_ble_eq_true rfl⟩ (k := 1) (n := 9) rfl rfl (fun r_1 u_ H locs hw hP hD hS => ?_)
                                          have hw : (r_1 = bI (lawB (g * p) rg bd ab ob (fun _ => -1) rr)) := hw
                                          have hr_r_1 := hw
                                          have hP : va_P D vwCl [(bW, .inl (cJ, 36, .inr (.inl (fun j => lN (wf j))))), (bQ, .inl (cJ, 16, .inr (.inl (fun j => lN (qb j))))), (bN, .inl (cI, 4, .inl (fun j => nI (nA g p dm (fac g) j)))), (bR, .inl (cI, 15, .inl (fun j => nI (rA rg bd j)))), (bA, .inl (cI, 18, .inl (fun j => nI (rA ap od j)))), (aG, .inl (cI, 9, .inl (fun j => nI (rr j))))] H := hP
                                          have hD : va_D AA [(bW, .inl (cJ, 36, .inr (.inl (fun j => lN (wf j))))), (bQ, .inl (cJ, 16, .inr (.inl (fun j => lN (qb j))))), (bN, .inl (cI, 4, .inl (fun j => nI (nA g p dm (fac g) j)))), (bR, .inl (cI, 15, .inl (fun j => nI (rA rg bd j)))), (bA, .inl (cI, 18, .inl (fun j => nI (rA ap od j)))), (aG, .inl (cI, 9, .inl (fun j => nI (rr j))))] := hD
                                          subst hr_r_1
                                          refine m_top (y := bI (LMb g p rg bd ab ob (k + fac g ^ (p - 1) * o))) (by rw [lawB_congr hrow]; rfl) ?_
                                          refine lv_if_eq (tgt := 284) hXX hBB dL_finds_274 (by decide) (fun c_274 => ?_) (fun c_274 => ?_)
                                          · have c_274 : (LMb g p rg bd ab ob (k + fac g ^ (p - 1) * o)) = false := m_bz0 c_274
                                            refine lv_lconst (v := lN 0) hXX hBB dL_finds_284 rfl ?_
                                            refine lv_lor hXX hBB dL_finds_285 ?_
                                            refine m_topl (y := lN (mkN (fun x => LMb g p rg bd ab ob (k + fac g ^ (p - 1) * x)) (o + 1))) (by first | exact wk_1 hWk c_274 | exact wk_0 hWk c_274) ?_
                                            refine m_last hXX hBB hK hP hD hS 0 1 rfl rfl (i := k) (by omega) (by decide) (g := fun j => lN (updN wf k (mkN (fun x => LMb g p rg bd ab ob (k + fac g ^ (p - 1) * x)) (o + 1)) j)) (m_updL _ _ _) dL_finds_286 (fun H locs hP hD hS => ?_)
                                            have hP : va_P D vwCl [(bW, .inl (cJ, 36, .inr (.inl (fun j => lN (updN wf k (mkN (fun x => LMb g p rg bd ab ob (k + fac g ^ (p - 1) * x)) (o + 1)) j))))), (bQ, .inl (cJ, 16, .inr (.inl (fun j => lN (qb j))))), (bN, .inl (cI, 4, .inl (fun j => nI (nA g p dm (fac g) j)))), (bR, .inl (cI, 15, .inl (fun j => nI (rA rg bd j)))), (bA, .inl (cI, 18, .inl (fun j => nI (rA ap od j)))), (aG, .inl (cI, 9, .inl (fun j => nI (rr j))))] H := hP
                                            have hD : va_D AA [(bW, .inl (cJ, 36, .inr (.inl (fun j => lN (updN wf k (mkN (fun x => LMb g p rg bd ab ob (k + fac g ^ (p - 1) * x)) (o + 1)) j))))), (bQ, .inl (cJ, 16, .inr (.inl (fun j => lN (qb j))))), (bN, .inl (cI, 4, .inl (fun j => nI (nA g p dm (fac g) j)))), (bR, .inl (cI, 15, .inl (fun j => nI (rA rg bd j)))), (bA, .inl (cI, 18, .inl (fun j => nI (rA ap od j)))), (aG, .inl (cI, 9, .inl (fun j => nI (rr j))))] := hD
                                            refine lv_iinc (v := nI (o + 1)) (lv' := [(9, .int (nI (o + 1))), (10, .int (nI i)), (8, .int (nI k)), (7, .int (nI (fac g ^ (p - 1)))), (6, .int (nI (fac g))), (5, .ref aG), (0, .ref bN), (1, .ref bR), (2, .ref bA), (3, .ref bW), (4, .ref bQ)]) hXX hBB dL_finds_287 hl (k := 1) rfl (nI_1 _) (by decide) rfl (fun ls hl => ?_)
                                            refine lv_goto (tgt := 212) hXX hBB dL_finds_290 (by decide) ?_
                                            have hi_o : (o + 1) ≤ fac g := by omega
                                            have hi_WF : ∀ z, z < k → (updN wf k (mkN (fun x => LMb g p rg bd ab ob (k + fac g ^ (p - 1) * x)) (o + 1))) z = mkN (fun x => LMb g p rg bd ab ob (z + fac g ^ (p - 1) * x)) (fac g) := by
                                              intro z hz
                                              rw [updN_n (by omega)]
                                              exact hWF z hz
                                            have hi_Wk : (updN wf k (mkN (fun x => LMb g p rg bd ab ob (k + fac g ^ (p - 1) * x)) (o + 1))) k = mkN (fun x => LMb g p rg bd ab ob (k + fac g ^ (p - 1) * x)) (o + 1) := by rw [updN_s]
                                            have hi_R1 : ∀ z, z < g → rr z = atN g (k % fac g) z := by exact hG1
                                            have hi_R2 : p = 3 → ∀ z, z < g → rr (g + z) = atN g (k / fac g) z := by exact hG2
                                            have hmm : fac g - (o + 1) < N_212 := by omega
                                            exact ih_212 (o + 1) (updN wf k (mkN (fun x => LMb g p rg bd ab ob (k + fac g ^ (p - 1) * x)) (o + 1))) rr hi_o hi_WF hi_Wk hi_R1 hi_R2 hmm _ _ (hP.sub [2, 3, 4, 0, 1, 5] rfl) (hD.sub [2, 3, 4, 0, 1, 5] (by decide) rfl) hS ls (lv_sub hl [0, 2, 3, 4, 5, 6, 7, 8, 9, 10] rfl)
                                          · have c_274 : (LMb g p rg bd ab ob (k + fac g ^ (p - 1) * o)) = true := m_bz1 c_274
                                            refine lv_lconst (v := lN 1) hXX hBB dL_finds_277 rfl ?_
                                            refine lv_iload hXX hBB dL_finds_278 (lv_at hl 1 rfl) ?_
                                            refine lv_lshl (v := lN (2 ^ o)) hXX hBB dL_finds_280 (by rw [l_shl 1 (by omega), Nat.one_mul]) ?_
                                            refine lv_goto (tgt := 285) hXX hBB dL_finds_281 (by decide) ?_
                                            refine lv_lor hXX hBB dL_finds_285 ?_
                                            refine m_topl (y := lN (mkN (fun x => LMb g p rg bd ab ob (k + fac g ^ (p - 1) * x)) (o + 1))) (by first | exact wk_1 hWk c_274 | exact wk_0 hWk c_274) ?_
                                            refine m_last hXX hBB hK hP hD hS 0 1 rfl rfl (i := k) (by omega) (by decide) (g := fun j => lN (updN wf k (mkN (fun x => LMb g p rg bd ab ob (k + fac g ^ (p - 1) * x)) (o + 1)) j)) (m_updL _ _ _) dL_finds_286 (fun H locs hP hD hS => ?_)
                                            have hP : va_P D vwCl [(bW, .inl (cJ, 36, .inr (.inl (fun j => lN (updN wf k (mkN (fun x => LMb g p rg bd ab ob (k + fac g ^ (p - 1) * x)) (o + 1)) j))))), (bQ, .inl (cJ, 16, .inr (.inl (fun j => lN (qb j))))), (bN, .inl (cI, 4, .inl (fun j => nI (nA g p dm (fac g) j)))), (bR, .inl (cI, 15, .inl (fun j => nI (rA rg bd j)))), (bA, .inl (cI, 18, .inl (fun j => nI (rA ap od j)))), (aG, .inl (cI, 9, .inl (fun j => nI (rr j))))] H := hP
                                            have hD : va_D AA [(bW, .inl (cJ, 36, .inr (.inl (fun j => lN (updN wf k (mkN (fun x => LMb g p rg bd ab ob (k + fac g ^ (p - 1) * x)) (o + 1)) j))))), (bQ, .inl (cJ, 16, .inr (.inl (fun j => lN (qb j))))), (bN, .inl (cI, 4, .inl (fun j => nI (nA g p dm (fac g) j)))), (bR, .inl (cI, 15, .inl (fun j => nI (rA rg bd j)))), (bA, .inl (cI, 18, .inl (fun j => nI (rA ap od j)))), (aG, .inl (cI, 9, .inl (fun j => nI (rr j))))] := hD
                                            refine lv_iinc (v := nI (o + 1)) (lv' := [(9, .int (nI (o + 1))), (10, .int (nI i)), (8, .int (nI k)), (7, .int (nI (fac g ^ (p - 1)))), (6, .int (nI (fac g))), (5, .ref aG), (0, .ref bN), (1, .ref bR), (2, .ref bA), (3, .ref bW), (4, .ref bQ)]) hXX hBB dL_finds_287 hl (k := 1) rfl (nI_1 _) (by decide) rfl (fun ls hl => ?_)
                                            refine lv_goto (tgt := 212) hXX hBB dL_finds_290 (by decide) ?_
                                            have hi_o : (o + 1) ≤ fac g := by omega
                                            have hi_WF : ∀ z, z < k → (updN wf k (mkN (fun x => LMb g p rg bd ab ob (k + fac g ^ (p - 1) * x)) (o + 1))) z = mkN (fun x => LMb g p rg bd ab ob (z + fac g ^ (p - 1) * x)) (fac g) := by
                                              intro z hz
                                              rw [updN_n (by omega)]
                                              exact hWF z hz
                                            have hi_Wk : (updN wf k (mkN (fun x => LMb g p rg bd ab ob (k + fac g ^ (p - 1) * x)) (o + 1))) k = mkN (fun x => LMb g p rg bd ab ob (k + fac g ^ (p - 1) * x)) (o + 1) := by rw [updN_s]
                                            have hi_R1 : ∀ z, z < g → rr z = atN g (k % fac g) z := by exact hG1
                                            have hi_R2 : p = 3 → ∀ z, z < g → rr (g + z) = atN g (k / fac g) z := by exact hG2
                                            have hmm : fac g - (o + 1) < N_212 := by omega
                                            exact ih_212 (o + 1) (updN wf k (mkN (fun x => LMb g p rg bd ab ob (k + fac g ^ (p - 1) * x)) (o + 1))) rr hi_o hi_WF hi_Wk hi_R1 hi_R2 hmm _ _ (hP.sub [2, 3, 4, 0, 1, 5] rfl) (hD.sub [2, 3, 4, 0, 1, 5] (by decide) rfl) hS ls (lv_sub hl [0, 2, 3, 4, 5, 6, 7, 8, 9, 10] rfl)
                                        · have c_227 : ¬ g ≤ i := fun h9 => c_227 ((nI_leI (by omega) (by omega)).mpr h9)
                                          refine lv_aload hXX hBB dL_finds_230 (lv_at hl 5 rfl) ?_
                                          refine lv_aload_n hXX hBB dL_finds_232 rfl (lv_at hl 6 rfl) ?_
                                          refine lv_iconst (v := nI 0) hXX hBB dL_finds_233 (by decide) ?_
                                          refine m_iald hXX hBB hK hP 0 0 rfl rfl (i := 0) (by omega) (by decide) (x := nI g) rfl dL_finds_234 ?_
                                          refine lv_aload_n hXX hBB dL_finds_235 rfl (lv_at hl 6 rfl) ?_
                                          refine lv_iconst (v := nI 1) hXX hBB dL_finds_236 (by decide) ?_
                                          refine m_iald hXX hBB hK hP 0 0 rfl rfl (i := 1) (by omega) (by decide) (x := nI p) rfl dL_finds_237 ?_
                                          refine lv_iconst (v := nI 1) hXX hBB dL_finds_238 (by decide) ?_
                                          refine lv_isub hXX hBB dL_finds_239 ?_
                                          refine m_top (y := nI (p - 1)) (pk_sub (by omega)) ?_
                                          refine lv_imul hXX hBB dL_finds_240 ?_
                                          refine m_top (y := nI (g * (p - 1))) (pk_mul _ _) ?_
                                          refine lv_iload hXX hBB dL_finds_241 (lv_at hl 0 rfl) ?_
                                          refine lv_iadd hXX hBB dL_finds_243 ?_
                                          refine m_top (y := nI ((g * (p - 1)) + i)) (nI_add _ _) ?_
                                          refine lv_aload_n hXX hBB dL_finds_244 rfl (lv_at hl 6 rfl) ?_
                                          refine lv_iconst (v := nI 0) hXX hBB dL_finds_245 (by decide) ?_
                                          refine m_iald hXX hBB hK hP 0 0 rfl rfl (i := 0) (by omega) (by decide) (x := nI g) rfl dL_finds_246 ?_
                                          refine lv_iload hXX hBB dL_finds_247 (lv_at hl 1 rfl) ?_
                                          refine lv_iload hXX hBB dL_finds_249 (lv_at hl 0 rfl) ?_
                                          refine m_scalli (wr := [(bN, .inl (cI, 4, .inl (fun j => nI (nA g p dm (fac g) j)))), (bR, .inl (cI, 15, .inl (fun j => nI (rA rg bd j)))), (bA, .inl (cI, 18, .inl (fun j => nI (rA ap od j)))), (bW, .inl (cJ, 36, .inr (.inl (fun j => lN (wf j))))), (bQ, .inl (cJ, 16, .inr (.inl (fun j => lN (qb j))))), (aG, .inl (cI, 9, .inl (fun j => nI (rr j))))]) ⟨hXX, hBB, hml, hown, hts⟩ hN (kL_at l D g o i (by omega) (by omega) (by omega) (by omega)) (va_cwS 3 hts gL_finds_L_at rfl rfl rfl (by decide +kernel) ⟨Nat.le_of_ble_eq_true rfl, Nat.le_of_ble_eq_true rfl⟩) hK hP hD hS hAA [] [0, 1, 2, 3, 4, 5] [] rfl rfl rfl (by decide) (by decide) (by decide) rfl hl.1 rfl (Nat.le_of_ble_eq_true rfl) dL_finds_251 ⟨Nat.le_of_ble_eq_true rfl, Nat.le_of_ble_eq_true rfl⟩ (k := 1) (n := 9) rfl rfl (fun r_2 u_ H locs hw hP hD hS => ?_)
                                          have hw : (r_2 = nI (atN g o i)) := hw
                                          have hr_r_2 := hw
                                          have hP : va_P D vwCl [(bN, .inl (cI, 4, .inl (fun j => nI (nA g p dm (fac g) j)))), (bR, .inl (cI, 15, .inl (fun j => nI (rA rg bd j)))), (bA, .inl (cI, 18, .inl (fun j => nI (rA ap od j)))), (bW, .inl (cJ, 36, .inr (.inl (fun j => lN (wf j))))), (bQ, .inl (cJ, 16, .inr (.inl (fun j => lN (qb j))))), (aG, .inl (cI, 9, .inl (fun j => nI (rr j))))] H := hP
                                          have hD : va_D AA [(bN, .inl (cI, 4, .inl (fun j => nI (nA g p dm (fac g) j)))), (bR, .inl (cI, 15, .inl (fun j => nI (rA rg bd j)))), (bA, .inl (cI, 18, .inl (fun j => nI (rA ap od j)))), (bW, .inl (cJ, 36, .inr (.inl (fun j => lN (wf j))))), (bQ, .inl (cJ, 16, .inr (.inl (fun j => lN (qb j))))), (aG, .inl (cI, 9, .inl (fun j => nI (rr j))))] := hD
                                          subst hr_r_2
                                          refine m_iast hXX hBB hK hP hD hS 5 0 rfl rfl (i := (g * (p - 1)) + i) (by omega) (by decide) (g := fun j => nI (updN rr ((g * (p - 1)) + i) (atN g o i) j)) (m_upd _ _ _) dL_finds_254 (fun H locs hP hD hS => ?_)
                                          have hP : va_P D vwCl [(bN, .inl (cI, 4, .inl (fun j => nI (nA g p dm (fac g) j)))), (bR, .inl (cI, 15, .inl (fun j => nI (rA rg bd j)))), (bA, .inl (cI, 18, .inl (fun j => nI (rA ap od j)))), (bW, .inl (cJ, 36, .inr (.inl (fun j => lN (wf j))))), (bQ, .inl (cJ, 16, .inr (.inl (fun j => lN (qb j))))), (aG, .inl (cI, 9, .inl (fun j => nI (updN rr ((g * (p - 1)) + i) (atN g o i) j))))] H := hP
                                          have hD : va_D AA [(bN, .inl (cI, 4, .inl (fun j => nI (nA g p dm (fac g) j)))), (bR, .inl (cI, 15, .inl (fun j => nI (rA rg bd j)))), (bA, .inl (cI, 18, .inl (fun j => nI (rA ap od j)))), (bW, .inl (cJ, 36, .inr (.inl (fun j => lN (wf j))))), (bQ, .inl (cJ, 16, .inr (.inl (fun j => lN (qb j))))), (aG, .inl (cI, 9, .inl (fun j => nI (updN rr ((g * (p - 1)) + i) (atN g o i) j))))] := hD
                                          refine lv_iinc (v := nI (i + 1)) (lv' := [(10, .int (nI (i + 1))), (9, .int (nI o)), (8, .int (nI k)), (7, .int (nI (fac g ^ (p - 1)))), (6, .int (nI (fac g))), (5, .ref aG), (0, .ref bN), (1, .ref bR), (2, .ref bA), (3, .ref bW), (4, .ref bQ)]) hXX hBB dL_finds_255 hl (k := 0) rfl (nI_1 _) (by decide) rfl (fun ls hl => ?_)
                                          refine lv_goto (tgt := 222) hXX hBB dL_finds_258 (by decide) ?_
                                          have hi_i : (i + 1) ≤ g := by omega
                                          have hi_G0 : ∀ z, z < (i + 1) → (updN rr ((g * (p - 1)) + i) (atN g o i)) (g * (p - 1) + z) = atN g o z := by
                                            intro z hz
                                            by_cases q : z = i
                                            · rw [q, updN_s]
                                            · rw [updN_n (by omega)]; exact hG0 z (by omega)
                                          have hi_G1 : ∀ z, z < g → (updN rr ((g * (p - 1)) + i) (atN g o i)) z = atN g (k % fac g) z := by
                                            intro z hz
                                            rw [updN_n (by omega)]
                                            exact hG1 z hz
                                          have hi_G2 : p = 3 → ∀ z, z < g → (updN rr ((g * (p - 1)) + i) (atN g o i)) (g + z) = atN g (k / fac g) z := by
                                            intro h3 z hz
                                            subst h3
                                            rw [updN_n (by omega)]
                                            exact hG2 rfl z hz
                                          have hmm : g - (i + 1) < N_222 := by omega
                                          exact ih_222 (i + 1) (updN rr ((g * (p - 1)) + i) (atN g o i)) hi_i hi_G0 hi_G1 hi_G2 hmm _ _ (hP.sub [0, 1, 2, 3, 4, 5] rfl) (hD.sub [0, 1, 2, 3, 4, 5] (by decide) rfl) hS ls (lv_sub hl [0, 1, 2, 3, 4, 5, 6, 7, 8, 9, 10] rfl)
                                    have hi_i : 0 ≤ g := by exact Nat.zero_le _
                                    have hi_G0 : ∀ z, z < 0 → rf (g * (p - 1) + z) = atN g o z := by exact fun z hz => absurd hz (Nat.not_lt_zero z)
                                    have hi_G1 : ∀ z, z < g → rf z = atN g (k % fac g) z := by exact hR1
                                    have hi_G2 : p = 3 → ∀ z, z < g → rf (g + z) = atN g (k / fac g) z := by exact hR2
                                    exact L_222 _ 0 rf hi_i hi_G0 hi_G1 hi_G2 (Nat.lt_succ_self _) _ _ hP hD hS ls (lv_sub hl [0, 1, 2, 3, 4, 5, 6, 7, 8, 9, 10] rfl)
                              have hi_o : 0 ≤ fac g := by exact Nat.zero_le _
                              have hi_WF : ∀ z, z < k → (updN wd k 0) z = mkN (fun x => LMb g p rg bd ab ob (z + fac g ^ (p - 1) * x)) (fac g) := by
                                intro z hz
                                rw [updN_n (by omega)]
                                exact hWD z hz
                              have hi_Wk : (updN wd k 0) k = mkN (fun x => LMb g p rg bd ab ob (k + fac g ^ (p - 1) * x)) 0 := by rw [updN_s]; rfl
                              have hi_R1 : ∀ z, z < g → re z = atN g (k % fac g) z := by exact fun z hz => (hRE z (by omega)).1
                              have hi_R2 : p = 3 → ∀ z, z < g → re (g + z) = atN g (k / fac g) z := by exact fun _ z hz => (hRE z (by omega)).2
                              exact L_212 _ 0 (updN wd k 0) re hi_o hi_WF hi_Wk hi_R1 hi_R2 (Nat.lt_succ_self _) _ _ hP hD hS ls (lv_sub hl [0, 1, 2, 3, 4, 5, 6, 7, 8, 9] rfl)
                            · have c_160 : ¬ g ≤ i := fun h9 => c_160 ((nI_leI (by omega) (by omega)).mpr h9)
                              refine lv_aload hXX hBB dL_finds_163 (lv_at hl 4 rfl) ?_
                              refine lv_iload hXX hBB dL_finds_165 (lv_at hl 0 rfl) ?_
                              refine lv_aload_n hXX hBB dL_finds_167 rfl (lv_at hl 5 rfl) ?_
                              refine lv_iconst (v := nI 0) hXX hBB dL_finds_168 (by decide) ?_
                              refine m_iald hXX hBB hK hP 0 0 rfl rfl (i := 0) (by omega) (by decide) (x := nI g) rfl dL_finds_169 ?_
                              refine lv_iload hXX hBB dL_finds_170 (lv_at hl 1 rfl) ?_
                              refine lv_iload hXX hBB dL_finds_172 (lv_at hl 3 rfl) ?_
                              refine lv_irem hXX hBB dL_finds_174 (nI_ne0 (by omega) (by omega)) ?_
                              refine m_top (y := nI (k % (fac g))) (pk_rem (by omega) (by omega) (by omega)) ?_
                              refine lv_iload hXX hBB dL_finds_175 (lv_at hl 0 rfl) ?_
                              refine m_scalli (wr := [(bN, .inl (cI, 4, .inl (fun j => nI (nA g p dm (fac g) j)))), (bR, .inl (cI, 15, .inl (fun j => nI (rA rg bd j)))), (bA, .inl (cI, 18, .inl (fun j => nI (rA ap od j)))), (bW, .inl (cJ, 36, .inr (.inl (fun j => lN (updN wd k 0 j))))), (bQ, .inl (cJ, 16, .inr (.inl (fun j => lN (qb j))))), (aG, .inl (cI, 9, .inl (fun j => nI (re j))))]) ⟨hXX, hBB, hml, hown, hts⟩ hN (kL_at l D g (k % (fac g)) i (by omega) (by omega) (by omega) (by omega)) (va_cwS 3 hts gL_finds_L_at rfl rfl rfl (by decide +kernel) ⟨Nat.le_of_ble_eq_true rfl, Nat.le_of_ble_eq_true rfl⟩) hK hP hD hS hAA [] [0, 1, 2, 3, 4, 5] [] rfl rfl rfl (by decide) (by decide) (by decide) rfl hl.1 rfl (Nat.le_of_ble_eq_true rfl) dL_finds_177 ⟨Nat.le_of_ble_eq_true rfl, Nat.le_of_ble_eq_true rfl⟩ (k := 1) (n := 9) rfl rfl (fun r_3 u_ H locs hw hP hD hS => ?_)
                              have hw : (r_3 = nI (atN g (k % (fac g)) i)) := hw
                              have hr_r_3 := hw
                              have hP : va_P D vwCl [(bN, .inl (cI, 4, .inl (fun j => nI (nA g p dm (fac g) j)))), (bR, .inl (cI, 15, .inl (fun j => nI (rA rg bd j)))), (bA, .inl (cI, 18, .inl (fun j => nI (rA ap od j)))), (bW, .inl (cJ, 36, .inr (.inl (fun j => lN (updN wd k 0 j))))), (bQ, .inl (cJ, 16, .inr (.inl (fun j => lN (qb j))))), (aG, .inl (cI, 9, .inl (fun j => nI (re j))))] H := hP
                              have hD : va_D AA [(bN, .inl (cI, 4, .inl (fun j => nI (nA g p dm (fac g) j)))), (bR, .inl (cI, 15, .inl (fun j => nI (rA rg bd j)))), (bA, .inl (cI, 18, .inl (fun j => nI (rA ap od j)))), (bW, .inl (cJ, 36, .inr (.inl (fun j => lN (updN wd k 0 j))))), (bQ, .inl (cJ, 16, .inr (.inl (fun j => lN (qb j))))), (aG, .inl (cI, 9, .inl (fun j => nI (re j))))] := hD
                              subst hr_r_3
                              refine m_iast hXX hBB hK hP hD hS 5 0 rfl rfl (i := i) (by omega) (by decide) (g := fun j => nI (updN re i (atN g (k % (fac g)) i) j)) (m_upd _ _ _) dL_finds_180 (fun H locs hP hD hS => ?_)
                              have hP : va_P D vwCl [(bN, .inl (cI, 4, .inl (fun j => nI (nA g p dm (fac g) j)))), (bR, .inl (cI, 15, .inl (fun j => nI (rA rg bd j)))), (bA, .inl (cI, 18, .inl (fun j => nI (rA ap od j)))), (bW, .inl (cJ, 36, .inr (.inl (fun j => lN (updN wd k 0 j))))), (bQ, .inl (cJ, 16, .inr (.inl (fun j => lN (qb j))))), (aG, .inl (cI, 9, .inl (fun j => nI (updN re i (atN g (k % (fac g)) i) j))))] H := hP
                              have hD : va_D AA [(bN, .inl (cI, 4, .inl (fun j => nI (nA g p dm (fac g) j)))), (bR, .inl (cI, 15, .inl (fun j => nI (rA rg bd j)))), (bA, .inl (cI, 18, .inl (fun j => nI (rA ap od j)))), (bW, .inl (cJ, 36, .inr (.inl (fun j => lN (updN wd k 0 j))))), (bQ, .inl (cJ, 16, .inr (.inl (fun j => lN (qb j))))), (aG, .inl (cI, 9, .inl (fun j => nI (updN re i (atN g (k % (fac g)) i) j))))] := hD
                              refine lv_aload hXX hBB dL_finds_181 (lv_at hl 4 rfl) ?_
                              refine lv_aload_n hXX hBB dL_finds_183 rfl (lv_at hl 5 rfl) ?_
                              refine lv_iconst (v := nI 0) hXX hBB dL_finds_184 (by decide) ?_
                              refine m_iald hXX hBB hK hP 0 0 rfl rfl (i := 0) (by omega) (by decide) (x := nI g) rfl dL_finds_185 ?_
                              refine lv_iload hXX hBB dL_finds_186 (lv_at hl 0 rfl) ?_
                              refine lv_iadd hXX hBB dL_finds_188 ?_
                              refine m_top (y := nI (g + i)) (nI_add _ _) ?_
                              refine lv_aload_n hXX hBB dL_finds_189 rfl (lv_at hl 5 rfl) ?_
                              refine lv_iconst (v := nI 0) hXX hBB dL_finds_190 (by decide) ?_
                              refine m_iald hXX hBB hK hP 0 0 rfl rfl (i := 0) (by omega) (by decide) (x := nI g) rfl dL_finds_191 ?_
                              refine lv_iload hXX hBB dL_finds_192 (lv_at hl 1 rfl) ?_
                              refine lv_iload hXX hBB dL_finds_194 (lv_at hl 3 rfl) ?_
                              refine lv_idiv hXX hBB dL_finds_196 (nI_ne0 (by omega) (by omega)) ?_
                              refine m_top (y := nI (k / (fac g))) (pk_div (by omega) (by omega) (by omega)) ?_
                              refine lv_iload hXX hBB dL_finds_197 (lv_at hl 0 rfl) ?_
                              refine m_scalli (wr := [(bN, .inl (cI, 4, .inl (fun j => nI (nA g p dm (fac g) j)))), (bR, .inl (cI, 15, .inl (fun j => nI (rA rg bd j)))), (bA, .inl (cI, 18, .inl (fun j => nI (rA ap od j)))), (bW, .inl (cJ, 36, .inr (.inl (fun j => lN (updN wd k 0 j))))), (bQ, .inl (cJ, 16, .inr (.inl (fun j => lN (qb j))))), (aG, .inl (cI, 9, .inl (fun j => nI (updN re i (atN g (k % (fac g)) i) j))))]) ⟨hXX, hBB, hml, hown, hts⟩ hN (kL_at l D g (k / (fac g)) i (by omega) (by omega) (by omega) (by omega)) (va_cwS 3 hts gL_finds_L_at rfl rfl rfl (by decide +kernel) ⟨Nat.le_of_ble_eq_true rfl, Nat.le_of_ble_eq_true rfl⟩) hK hP hD hS hAA [] [0, 1, 2, 3, 4, 5] [] rfl rfl rfl (by decide) (by decide) (by decide) rfl hl.1 rfl (Nat.le_of_ble_eq_true rfl) dL_finds_199 ⟨Nat.le_of_ble_eq_true rfl, Nat.le_of_ble_eq_true rfl⟩ (k := 1) (n := 9) rfl rfl (fun r_4 u_ H locs hw hP hD hS => ?_)
                              have hw : (r_4 = nI (atN g (k / (fac g)) i)) := hw
                              have hr_r_4 := hw
                              have hP : va_P D vwCl [(bN, .inl (cI, 4, .inl (fun j => nI (nA g p dm (fac g) j)))), (bR, .inl (cI, 15, .inl (fun j => nI (rA rg bd j)))), (bA, .inl (cI, 18, .inl (fun j => nI (rA ap od j)))), (bW, .inl (cJ, 36, .inr (.inl (fun j => lN (updN wd k 0 j))))), (bQ, .inl (cJ, 16, .inr (.inl (fun j => lN (qb j))))), (aG, .inl (cI, 9, .inl (fun j => nI (updN re i (atN g (k % (fac g)) i) j))))] H := hP
                              have hD : va_D AA [(bN, .inl (cI, 4, .inl (fun j => nI (nA g p dm (fac g) j)))), (bR, .inl (cI, 15, .inl (fun j => nI (rA rg bd j)))), (bA, .inl (cI, 18, .inl (fun j => nI (rA ap od j)))), (bW, .inl (cJ, 36, .inr (.inl (fun j => lN (updN wd k 0 j))))), (bQ, .inl (cJ, 16, .inr (.inl (fun j => lN (qb j))))), (aG, .inl (cI, 9, .inl (fun j => nI (updN re i (atN g (k % (fac g)) i) j))))] := hD
                              subst hr_r_4
                              refine m_iast hXX hBB hK hP hD hS 5 0 rfl rfl (i := g + i) (by omega) (by decide) (g := fun j => nI (updN (updN re i (atN g (k % (fac g)) i)) (g + i) (atN g (k / (fac g)) i) j)) (m_upd _ _ _) dL_finds_202 (fun H locs hP hD hS => ?_)
                              have hP : va_P D vwCl [(bN, .inl (cI, 4, .inl (fun j => nI (nA g p dm (fac g) j)))), (bR, .inl (cI, 15, .inl (fun j => nI (rA rg bd j)))), (bA, .inl (cI, 18, .inl (fun j => nI (rA ap od j)))), (bW, .inl (cJ, 36, .inr (.inl (fun j => lN (updN wd k 0 j))))), (bQ, .inl (cJ, 16, .inr (.inl (fun j => lN (qb j))))), (aG, .inl (cI, 9, .inl (fun j => nI (updN (updN re i (atN g (k % (fac g)) i)) (g + i) (atN g (k / (fac g)) i) j))))] H := hP
                              have hD : va_D AA [(bN, .inl (cI, 4, .inl (fun j => nI (nA g p dm (fac g) j)))), (bR, .inl (cI, 15, .inl (fun j => nI (rA rg bd j)))), (bA, .inl (cI, 18, .inl (fun j => nI (rA ap od j)))), (bW, .inl (cJ, 36, .inr (.inl (fun j => lN (updN wd k 0 j))))), (bQ, .inl (cJ, 16, .inr (.inl (fun j => lN (qb j))))), (aG, .inl (cI, 9, .inl (fun j => nI (updN (updN re i (atN g (k % (fac g)) i)) (g + i) (atN g (k / (fac g)) i) j))))] := hD
                              refine lv_iinc (v := nI (i + 1)) (lv' := [(9, .int (nI (i + 1))), (8, .int (nI k)), (7, .int (nI (fac g ^ (p - 1)))), (6, .int (nI (fac g))), (5, .ref aG), (0, .ref bN), (1, .ref bR), (2, .ref bA), (3, .ref bW), (4, .ref bQ)]) hXX hBB dL_finds_203 hl (k := 0) rfl (nI_1 _) (by decide) rfl (fun ls hl => ?_)
                              refine lv_goto (tgt := 155) hXX hBB dL_finds_206 (by decide) ?_
                              have hi_i : (i + 1) ≤ g := by omega
                              have hi_RE : ∀ z, z < (i + 1) → (updN (updN re i (atN g (k % (fac g)) i)) (g + i) (atN g (k / (fac g)) i)) z = atN g (k % fac g) z ∧ (updN (updN re i (atN g (k % (fac g)) i)) (g + i) (atN g (k / (fac g)) i)) (g + z) = atN g (k / fac g) z := by exact re_step (by omega) hRE
                              have hmm : g - (i + 1) < N_155 := by omega
                              exact ih_155 (i + 1) (updN (updN re i (atN g (k % (fac g)) i)) (g + i) (atN g (k / (fac g)) i)) hi_i hi_RE hmm _ _ (hP.sub [0, 1, 2, 3, 4, 5] rfl) (hD.sub [0, 1, 2, 3, 4, 5] (by decide) rfl) hS ls (lv_sub hl [0, 1, 2, 3, 4, 5, 6, 7, 8, 9] rfl)
                        have hi_i : 0 ≤ g := by exact Nat.zero_le _
                        have hi_RE : ∀ z, z < 0 → rd z = atN g (k % fac g) z ∧ rd (g + z) = atN g (k / fac g) z := by exact fun z hz => absurd hz (Nat.not_lt_zero z)
                        exact L_155 _ 0 rd hi_i hi_RE (Nat.lt_succ_self _) _ _ hP hD hS ls (lv_sub hl [0, 1, 2, 3, 4, 5, 6, 7, 8, 9] rfl)
                  have hi_k : 0 ≤ fac g ^ (p - 1) := by exact Nat.zero_le _
                  have hi_WD : ∀ z, z < 0 → wm z = mkN (fun x => LMb g p rg bd ab ob (z + fac g ^ (p - 1) * x)) (fac g) := by exact fun z hz => absurd hz (Nat.not_lt_zero z)
                  exact L_140 _ 0 wm (fun _ => 0) hi_k hi_WD (Nat.lt_succ_self _) _ _ hP hD hS ls (lv_sub hl [0, 1, 2, 3, 4, 5, 6, 7, 8] rfl)
                refine lv_aload_n hXX hBB dL_finds_118 rfl (lv_at hl 3 rfl) ?_
                refine lv_iconst (v := nI 1) hXX hBB dL_finds_119 (by decide) ?_
                refine m_iald hXX hBB hK hP 0 0 rfl rfl (i := 1) (by omega) (by decide) (x := nI p) rfl dL_finds_120 ?_
                refine lv_iconst (v := nI 2) hXX hBB dL_finds_121 (by decide) ?_
                refine lv_icmp_ne (tgt := 130) hXX hBB dL_finds_122 (by decide) (fun c_122 => ?_) (fun c_122 => ?_)
                · have c_122 : ¬ p = 2 := fun h9 => c_122 ((nI_eq (by omega) (by omega)).mpr h9)
                  refine lv_iload hXX hBB dL_finds_130 (lv_at hl 1 rfl) ?_
                  refine lv_iload hXX hBB dL_finds_132 (lv_at hl 1 rfl) ?_
                  refine lv_imul hXX hBB dL_finds_134 ?_
                  refine m_top (y := nI ((fac g) * (fac g))) (pk_mul _ _) ?_
                  refine m_top (y := nI (fac g ^ (p - 1))) (by first | exact F_2 c_122 | exact F_3 hp2 hp3 c_122) ?_
                  exact J_135 _ _ (hP.sub [0, 1, 2, 3, 4, 5] rfl) (hD.sub [0, 1, 2, 3, 4, 5] (by decide) rfl) hS ls (lv_sub hl [0, 1, 2, 3, 4, 5, 6, 7] rfl)
                · have c_122 : p = 2 := (nI_eq (by omega) (by omega)).mp c_122
                  refine lv_iload hXX hBB dL_finds_125 (lv_at hl 1 rfl) ?_
                  refine lv_goto (tgt := 135) hXX hBB dL_finds_127 (by decide) ?_
                  refine m_top (y := nI (fac g ^ (p - 1))) (by first | exact F_2 c_122 | exact F_3 hp2 hp3 c_122) ?_
                  exact J_135 _ _ (hP.sub [0, 1, 2, 3, 4, 5] rfl) (hD.sub [0, 1, 2, 3, 4, 5] (by decide) rfl) hS ls (lv_sub hl [0, 1, 2, 3, 4, 5, 6, 7] rfl)
              · have c_67 : ¬ (fac g) ≤ o := fun h9 => c_67 ((nI_leI (by omega) (by omega)).mpr h9)
                refine lv_iconst (v := nI 0) hXX hBB dL_finds_70 (by decide) ?_
                refine lv_istore (lv' := [(8, .int (nI 0)), (7, .int (nI o)), (6, .int (nI (fac g))), (5, .ref aG), (0, .ref bN), (1, .ref bR), (2, .ref bA), (3, .ref bW), (4, .ref bQ)]) hXX hBB dL_finds_71 hl (by decide) rfl (fun ls hl => ?_)
                have L_73 : ∀ (N_73 : Nat) (i : Nat) (qc : Nat → Nat), (i ≤ g) → (∀ z, z < g → ∀ j, j < 4 → qc (4 * z + j) = mkN (fun x => decide (atN g x z = j)) (if z < i then o + 1 else o)) → g - i < N_73 → ∀ (H : Heap) (locs : List Loc), va_P D vwCl [(bN, .inl (cI, 4, .inl (fun j => nI (nA g p dm (fac g) j)))), (bR, .inl (cI, 15, .inl (fun j => nI (rA rg bd j)))), (bA, .inl (cI, 18, .inl (fun j => nI (rA ap od j)))), (bW, .inl (cJ, 36, .inr (.inl (fun j => lN (wm j))))), (bQ, .inl (cJ, 16, .inr (.inl (fun j => lN (qc j))))), (aG, .inl (cI, 9, .inl (fun _ => nI 0)))] H → va_D AA [(bN, .inl (cI, 4, .inl (fun j => nI (nA g p dm (fac g) j)))), (bR, .inl (cI, 15, .inl (fun j => nI (rA rg bd j)))), (bA, .inl (cI, 18, .inl (fun j => nI (rA ap od j)))), (bW, .inl (cJ, 36, .inr (.inl (fun j => lN (wm j))))), (bQ, .inl (cJ, 16, .inr (.inl (fun j => lN (qc j))))), (aG, .inl (cI, 9, .inl (fun _ => nI 0)))] → va_S AA sT.heap H locs → ∀ (ls : Array Slot), lv_has ls 11 [(8, .int (nI i)), (7, .int (nI o)), (6, .int (nI (fac g))), (5, .ref aG), (0, .ref bN), (1, .ref bR), (2, .ref bA), (3, .ref bW), (4, .ref bQ)] → W pR l eV rmL_finds sT mI args below meth cO H locs 1 9 QQ (F0 mI 73 ls []) := by
                  intro N_73
                  induction N_73 with
                  | zero =>
                    intro i qc hi hQC hMM
                    exact absurd hMM (Nat.not_lt_zero _)
                  | succ N_73 ih_73 =>
                    intro i qc hi hQC hMM H locs hP hD hS ls hl
                    refine lv_iload hXX hBB dL_finds_73 (lv_at hl 0 rfl) ?_
                    refine lv_aload_n hXX hBB dL_finds_75 rfl (lv_at hl 4 rfl) ?_
                    refine lv_iconst (v := nI 0) hXX hBB dL_finds_76 (by decide) ?_
                    refine m_iald hXX hBB hK hP 0 0 rfl rfl (i := 0) (by omega) (by decide) (x := nI g) rfl dL_finds_77 ?_
                    refine lv_icmp_ge (tgt := 112) hXX hBB dL_finds_78 (by decide) (fun c_78 => ?_) (fun c_78 => ?_)
                    · have c_78 : g ≤ i := (nI_leI (by omega) (by omega)).mp c_78
                      have hEi : i = g := by omega
                      refine lv_iinc (v := nI (o + 1)) (lv' := [(7, .int (nI (o + 1))), (8, .int (nI i)), (6, .int (nI (fac g))), (5, .ref aG), (0, .ref bN), (1, .ref bR), (2, .ref bA), (3, .ref bW), (4, .ref bQ)]) hXX hBB dL_finds_112 hl (k := 1) rfl (nI_1 _) (by decide) rfl (fun ls hl => ?_)
                      refine lv_goto (tgt := 63) hXX hBB dL_finds_115 (by decide) ?_
                      have hi_o : (o + 1) ≤ fac g := by omega
                      have hi_QB : ∀ z, z < g → ∀ j, j < 4 → qc (4 * z + j) = mkN (fun x => decide (atN g x z = j)) (o + 1) := by
                        intro z hz j hj
                        have h9 := hQC z hz j hj
                        rw [if_pos (show z < i by omega)] at h9
                        exact h9
                      have hmm : fac g - (o + 1) < N_63 := by omega
                      exact ih_63 (o + 1) qc hi_o hi_QB hmm _ _ (hP.sub [0, 1, 2, 3, 4, 5] rfl) (hD.sub [0, 1, 2, 3, 4, 5] (by decide) rfl) hS ls (lv_sub hl [0, 2, 3, 4, 5, 6, 7, 8] rfl)
                    · have c_78 : ¬ g ≤ i := fun h9 => c_78 ((nI_leI (by omega) (by omega)).mpr h9)
                      refine lv_aload hXX hBB dL_finds_81 (lv_at hl 8 rfl) ?_
                      refine lv_iconst (v := nI 4) hXX hBB dL_finds_83 (by decide) ?_
                      refine lv_iload hXX hBB dL_finds_84 (lv_at hl 0 rfl) ?_
                      refine lv_imul hXX hBB dL_finds_86 ?_
                      refine m_top (y := nI (4 * i)) (pk_mul _ _) ?_
                      refine lv_aload_n hXX hBB dL_finds_87 rfl (lv_at hl 4 rfl) ?_
                      refine lv_iconst (v := nI 0) hXX hBB dL_finds_88 (by decide) ?_
                      refine m_iald hXX hBB hK hP 0 0 rfl rfl (i := 0) (by omega) (by decide) (x := nI g) rfl dL_finds_89 ?_
                      refine lv_iload hXX hBB dL_finds_90 (lv_at hl 1 rfl) ?_
                      refine lv_iload hXX hBB dL_finds_92 (lv_at hl 0 rfl) ?_
                      refine m_scalli (wr := [(bN, .inl (cI, 4, .inl (fun j => nI (nA g p dm (fac g) j)))), (bR, .inl (cI, 15, .inl (fun j => nI (rA rg bd j)))), (bA, .inl (cI, 18, .inl (fun j => nI (rA ap od j)))), (bW, .inl (cJ, 36, .inr (.inl (fun j => lN (wm j))))), (bQ, .inl (cJ, 16, .inr (.inl (fun j => lN (qc j))))), (aG, .inl (cI, 9, .inl (fun _ => nI 0)))]) ⟨hXX, hBB, hml, hown, hts⟩ hN (kL_at l D g o i (by omega) (by omega) (by omega) (by omega)) (va_cwS 3 hts gL_finds_L_at rfl rfl rfl (by decide +kernel) ⟨Nat.le_of_ble_eq_true rfl, Nat.le_of_ble_eq_true rfl⟩) hK hP hD hS hAA [] [0, 1, 2, 3, 4, 5] [] rfl rfl rfl (by decide) (by decide) (by decide) rfl hl.1 rfl (Nat.le_of_ble_eq_true rfl) dL_finds_94 ⟨Nat.le_of_ble_eq_true rfl, Nat.le_of_ble_eq_true rfl⟩ (k := 1) (n := 9) rfl rfl (fun r_5 u_ H locs hw hP hD hS => ?_)
                      have hw : (r_5 = nI (atN g o i)) := hw
                      have hr_r_5 := hw
                      have hP : va_P D vwCl [(bN, .inl (cI, 4, .inl (fun j => nI (nA g p dm (fac g) j)))), (bR, .inl (cI, 15, .inl (fun j => nI (rA rg bd j)))), (bA, .inl (cI, 18, .inl (fun j => nI (rA ap od j)))), (bW, .inl (cJ, 36, .inr (.inl (fun j => lN (wm j))))), (bQ, .inl (cJ, 16, .inr (.inl (fun j => lN (qc j))))), (aG, .inl (cI, 9, .inl (fun _ => nI 0)))] H := hP
                      have hD : va_D AA [(bN, .inl (cI, 4, .inl (fun j => nI (nA g p dm (fac g) j)))), (bR, .inl (cI, 15, .inl (fun j => nI (rA rg bd j)))), (bA, .inl (cI, 18, .inl (fun j => nI (rA ap od j)))), (bW, .inl (cJ, 36, .inr (.inl (fun j => lN (wm j))))), (bQ, .inl (cJ, 16, .inr (.inl (fun j => lN (qc j))))), (aG, .inl (cI, 9, .inl (fun _ => nI 0)))] := hD
                      subst hr_r_5
                      have hat : atN g o i < 4 := Nat.lt_of_lt_of_le (at_lt g (by omega) o (by omega) i (by omega)) hg4
                      refine lv_iadd hXX hBB dL_finds_97 ?_
                      refine m_top (y := nI ((4 * i) + (atN g o i))) (nI_add _ _) ?_
                      refine lv_dup2_11 hXX hBB dL_finds_98 rfl rfl ?_
                      refine m_lald hXX hBB hK hP 4 1 rfl rfl (i := (4 * i) + (atN g o i)) (by omega) (by decide) (x := lN (qc ((4 * i) + (atN g o i)))) rfl dL_finds_99 ?_
                      refine lv_lconst (v := lN 1) hXX hBB dL_finds_100 rfl ?_
                      refine lv_iload hXX hBB dL_finds_101 (lv_at hl 1 rfl) ?_
                      refine lv_lshl (v := lN (2 ^ o)) hXX hBB dL_finds_103 (by rw [l_shl 1 (by omega), Nat.one_mul]) ?_
                      refine lv_lor hXX hBB dL_finds_104 ?_
                      refine m_topl (y := lN (qc (4 * i + atN g o i) ||| 2 ^ o)) (by exact l_or _ _) ?_
                      refine m_last hXX hBB hK hP hD hS 4 1 rfl rfl (i := (4 * i) + (atN g o i)) (by omega) (by decide) (g := fun j => lN (updN qc ((4 * i) + (atN g o i)) (qc (4 * i + atN g o i) ||| 2 ^ o) j)) (m_updL _ _ _) dL_finds_105 (fun H locs hP hD hS => ?_)
                      have hP : va_P D vwCl [(bN, .inl (cI, 4, .inl (fun j => nI (nA g p dm (fac g) j)))), (bR, .inl (cI, 15, .inl (fun j => nI (rA rg bd j)))), (bA, .inl (cI, 18, .inl (fun j => nI (rA ap od j)))), (bW, .inl (cJ, 36, .inr (.inl (fun j => lN (wm j))))), (bQ, .inl (cJ, 16, .inr (.inl (fun j => lN (updN qc ((4 * i) + (atN g o i)) (qc (4 * i + atN g o i) ||| 2 ^ o) j))))), (aG, .inl (cI, 9, .inl (fun _ => nI 0)))] H := hP
                      have hD : va_D AA [(bN, .inl (cI, 4, .inl (fun j => nI (nA g p dm (fac g) j)))), (bR, .inl (cI, 15, .inl (fun j => nI (rA rg bd j)))), (bA, .inl (cI, 18, .inl (fun j => nI (rA ap od j)))), (bW, .inl (cJ, 36, .inr (.inl (fun j => lN (wm j))))), (bQ, .inl (cJ, 16, .inr (.inl (fun j => lN (updN qc ((4 * i) + (atN g o i)) (qc (4 * i + atN g o i) ||| 2 ^ o) j))))), (aG, .inl (cI, 9, .inl (fun _ => nI 0)))] := hD
                      refine lv_iinc (v := nI (i + 1)) (lv' := [(8, .int (nI (i + 1))), (7, .int (nI o)), (6, .int (nI (fac g))), (5, .ref aG), (0, .ref bN), (1, .ref bR), (2, .ref bA), (3, .ref bW), (4, .ref bQ)]) hXX hBB dL_finds_106 hl (k := 0) rfl (nI_1 _) (by decide) rfl (fun ls hl => ?_)
                      refine lv_goto (tgt := 73) hXX hBB dL_finds_109 (by decide) ?_
                      have hi_i : (i + 1) ≤ g := by omega
                      have hi_QC : ∀ z, z < g → ∀ j, j < 4 → (updN qc ((4 * i) + (atN g o i)) (qc (4 * i + atN g o i) ||| 2 ^ o)) (4 * z + j) = mkN (fun x => decide (atN g x z = j)) (if z < (i + 1) then o + 1 else o) := by exact qc_step (by omega) hat hQC
                      have hmm : g - (i + 1) < N_73 := by omega
                      exact ih_73 (i + 1) (updN qc ((4 * i) + (atN g o i)) (qc (4 * i + atN g o i) ||| 2 ^ o)) hi_i hi_QC hmm _ _ (hP.sub [0, 1, 2, 3, 4, 5] rfl) (hD.sub [0, 1, 2, 3, 4, 5] (by decide) rfl) hS ls (lv_sub hl [0, 1, 2, 3, 4, 5, 6, 7, 8] rfl)
                have hi_i : 0 ≤ g := by exact Nat.zero_le _
                have hi_QC : ∀ z, z < g → ∀ j, j < 4 → qb (4 * z + j) = mkN (fun x => decide (atN g x z = j)) (if z < 0 then o + 1 else o) := by exact fun z hz j hj => hQB z hz j hj
                exact L_73 _ 0 qb hi_i hi_QC (Nat.lt_succ_self _) _ _ hP hD hS ls (lv_sub hl [0, 1, 2, 3, 4, 5, 6, 7, 8] rfl)
          have hi_o : 0 ≤ fac g := by exact Nat.zero_le _
          have hi_QB : ∀ z, z < g → ∀ j, j < 4 → qa (4 * z + j) = mkN (fun x => decide (atN g x z = j)) 0 := by exact fun z hz j hj => hZ _ (by omega)
          exact L_63 _ 0 qa hi_o hi_QB (Nat.lt_succ_self _) _ _ hP hD hS ls (lv_sub hl [0, 1, 2, 3, 4, 5, 6, 7] rfl)
        · have c_45 : ¬ 16 ≤ k := fun h9 => c_45 ((nI_leI (by omega) (by omega)).mpr h9)
          refine lv_aload hXX hBB dL_finds_48 (lv_at hl 7 rfl) ?_
          refine lv_iload hXX hBB dL_finds_50 (lv_at hl 0 rfl) ?_
          refine lv_lconst (v := lN 0) hXX hBB dL_finds_52 rfl ?_
          refine m_last hXX hBB hK hP hD hS 4 1 rfl rfl (i := k) (by omega) (by decide) (g := fun j => lN (updN qa k 0 j)) (m_updL _ _ _) dL_finds_53 (fun H locs hP hD hS => ?_)
          have hP : va_P D vwCl [(bN, .inl (cI, 4, .inl (fun j => nI (nA g p dm (fac g) j)))), (bR, .inl (cI, 15, .inl (fun j => nI (rA rg bd j)))), (bA, .inl (cI, 18, .inl (fun j => nI (rA ap od j)))), (bW, .inl (cJ, 36, .inr (.inl (fun j => lN (wm j))))), (bQ, .inl (cJ, 16, .inr (.inl (fun j => lN (updN qa k 0 j))))), (aG, .inl (cI, 9, .inl (fun _ => nI 0)))] H := hP
          have hD : va_D AA [(bN, .inl (cI, 4, .inl (fun j => nI (nA g p dm (fac g) j)))), (bR, .inl (cI, 15, .inl (fun j => nI (rA rg bd j)))), (bA, .inl (cI, 18, .inl (fun j => nI (rA ap od j)))), (bW, .inl (cJ, 36, .inr (.inl (fun j => lN (wm j))))), (bQ, .inl (cJ, 16, .inr (.inl (fun j => lN (updN qa k 0 j))))), (aG, .inl (cI, 9, .inl (fun _ => nI 0)))] := hD
          refine lv_iinc (v := nI (k + 1)) (lv' := [(7, .int (nI (k + 1))), (6, .int (nI (fac g))), (5, .ref aG), (0, .ref bN), (1, .ref bR), (2, .ref bA), (3, .ref bW), (4, .ref bQ)]) hXX hBB dL_finds_54 hl (k := 0) rfl (nI_1 _) (by decide) rfl (fun ls hl => ?_)
          refine lv_goto (tgt := 41) hXX hBB dL_finds_57 (by decide) ?_
          have hi_k : (k + 1) ≤ 16 := by omega
          have hi_Z : ∀ z, z < (k + 1) → (updN qa k 0) z = 0 := by exact z_upd hZ
          have hmm : 16 - (k + 1) < N_41 := by omega
          exact ih_41 (k + 1) (updN qa k 0) hi_k hi_Z hmm _ _ (hP.sub [0, 1, 2, 3, 4, 5] rfl) (hD.sub [0, 1, 2, 3, 4, 5] (by decide) rfl) hS ls (lv_sub hl [0, 1, 2, 3, 4, 5, 6, 7] rfl)
    have hi_k : 0 ≤ 16 := by exact Nat.zero_le _
    have hi_Z : ∀ z, z < 0 → qm z = 0 := by exact fun z hz => absurd hz (Nat.not_lt_zero z)
    exact L_41 _ 0 qm hi_k hi_Z (Nat.lt_succ_self _) _ _ hP hD hS ls (lv_sub hl [0, 1, 2, 3, 4, 5, 6, 7] rfl)
  refine lv_aload_n hXX hBB dL_finds_6 rfl (lv_at hl 1 rfl) ?_
  refine lv_iconst (v := nI 0) hXX hBB dL_finds_7 (by decide) ?_
  refine m_iald hXX hBB hK hP 0 0 rfl rfl (i := 0) (by omega) (by decide) (x := nI g) rfl dL_finds_8 ?_
  refine lv_iconst (v := nI 4) hXX hBB dL_finds_9 (by decide) ?_
  refine lv_icmp_ne (tgt := 18) hXX hBB dL_finds_10 (by decide) (fun c_10 => ?_) (fun c_10 => ?_)
  · have c_10 : ¬ g = 4 := fun h9 => c_10 ((nI_eq (by omega) (by omega)).mpr h9)
    refine lv_aload_n hXX hBB dL_finds_18 rfl (lv_at hl 1 rfl) ?_
    refine lv_iconst (v := nI 0) hXX hBB dL_finds_19 (by decide) ?_
    refine m_iald hXX hBB hK hP 0 0 rfl rfl (i := 0) (by omega) (by decide) (x := nI g) rfl dL_finds_20 ?_
    refine lv_iconst (v := nI 3) hXX hBB dL_finds_21 (by decide) ?_
    refine lv_icmp_ne (tgt := 30) hXX hBB dL_finds_22 (by decide) (fun c_22 => ?_) (fun c_22 => ?_)
    · have c_22 : ¬ g = 3 := fun h9 => c_22 ((nI_eq (by omega) (by omega)).mpr h9)
      refine lv_iconst (v := nI 2) hXX hBB dL_finds_30 (by decide) ?_
      refine m_top (y := nI (fac g)) (by first | (rw [c_10]; rfl) | (rw [c_22]; rfl) | (rw [show g = 2 by omega]; rfl)) ?_
      exact J_31 _ _ (hP.sub [0, 1, 2, 3, 4, 5] rfl) (hD.sub [0, 1, 2, 3, 4, 5] (by decide) rfl) hS ls (lv_sub hl [0, 1, 2, 3, 4, 5] rfl)
    · have c_22 : g = 3 := (nI_eq (by omega) (by omega)).mp c_22
      refine lv_bipush (v := nI 6) hXX hBB dL_finds_25 (by decide) ?_
      refine lv_goto (tgt := 31) hXX hBB dL_finds_27 (by decide) ?_
      refine m_top (y := nI (fac g)) (by first | (rw [c_10]; rfl) | (rw [c_22]; rfl) | (rw [show g = 2 by omega]; rfl)) ?_
      exact J_31 _ _ (hP.sub [0, 1, 2, 3, 4, 5] rfl) (hD.sub [0, 1, 2, 3, 4, 5] (by decide) rfl) hS ls (lv_sub hl [0, 1, 2, 3, 4, 5] rfl)
  · have c_10 : g = 4 := (nI_eq (by omega) (by omega)).mp c_10
    refine lv_bipush (v := nI 24) hXX hBB dL_finds_13 (by decide) ?_
    refine lv_goto (tgt := 31) hXX hBB dL_finds_15 (by decide) ?_
    refine m_top (y := nI (fac g)) (by first | (rw [c_10]; rfl) | (rw [c_22]; rfl) | (rw [show g = 2 by omega]; rfl)) ?_
    exact J_31 _ _ (hP.sub [0, 1, 2, 3, 4, 5] rfl) (hD.sub [0, 1, 2, 3, 4, 5] (by decide) rfl) hS ls (lv_sub hl [0, 1, 2, 3, 4, 5] rfl)
