/-! own rows: the law follows an order -/
def FN (g p : Nat) (rg bd : Nat → Nat) (ab ob : Nat → Bool) (S : Nat → Int32) (dm num : Nat) : Nat → Int32 := finS g (lowC g p rg bd ab ob) (g * p - dm) dm S (RRn (clN S g) p 0 num)
theorem nth_bal {S : Nat → Int32} {g p q a : Nat} (hT : g * p ≤ 9) (hq : q < p) (ha : a < clN S g q) : nth S g (g * q) a = nI (balT S g q a) := by
  have hB := (FolB_bal (S := S) hT hq).2.1 a ha
  exact nth_rank g (g * q) a _ hB.1 hB.2.1 hB.2.2.1 hB.2.2.2
theorem nth_f {S : Nat → Int32} {n t l B : Nat} (h : nth S (n - t) t l = nI B) (ht : t ≤ n) (hB : B < 2 ^ 31 := by omega) : ∃ f, n - t = f + 1 := by
  by_cases q : n - t = 0
  · rw [q] at h
    exact absurd h.symm (nI_nm1 hB)
  · exact ⟨n - t - 1, by omega⟩
theorem nth_no {S : Nat → Int32} {f t l : Nat} {x : Int32} (h : nth S (f + 1) t l = x) (c : ¬ S t < 0) : nth S f (t + 1) l = x := by
  have h1 : ¬ S t = -1 := fun e => c (by rw [e]; decide)
  simp only [nth] at h
  rw [if_neg h1] at h
  exact h
theorem nth_yes {S : Nat → Int32} {f t l : Nat} {x : Int32} (h : nth S (f + 1) t l = x) (c : S t = -1) (hl : 0 < l) : nth S f (t + 1) (l - 1) = x := by
  simp only [nth] at h
  rw [if_pos c, if_neg (by omega)] at h
  exact h
theorem nth_at {S : Nat → Int32} {f t l B : Nat} (h : nth S (f + 1) t l = nI B) (c : S t = -1) (hl : l = 0) (ht : t < 2 ^ 31) (hB : B < 2 ^ 31) : t = B := by
  simp only [nth] at h
  rw [if_pos c, if_pos hl] at h
  exact (nI_eq ht hB).mp h
theorem and_pot {g p q t v : Nat} {S : Nat → Int32} {mm : Nat → Nat} (hg : 0 < g) (hg4 : g ≤ 4) (h : MM g p S mm) (hq : q < p) (hs : S t = -1) (hv : v < 4) (h1 : g * q ≤ t) (h2 : t < g * q + g) :
    lN (mm q) &&& lN (mkN (fun o => decide (atN g o (t % g) = v)) (fac g)) = lN (mkN (potA g (upd S t (nI v)) q) (fac g)) := by
  rw [h q hq, l_and, mkN_and]
  refine congrArg lN (mkN_congr (fun o ho => ?_))
  have h4 := at_lt g (by omega) o ho (t % g) (Nat.mod_lt t hg)
  exact (potA_upd hg hs (by omega) h1 h2 (by omega)).symm
theorem mm_upd {g p q t v : Nat} {S : Nat → Int32} {mm : Nat → Nat} (h : MM g p S mm) (h1 : g * q ≤ t) (h2 : t < g * q + g) : MM g p (upd S t (nI v)) (updN mm q (mkN (potA g (upd S t (nI v)) q) (fac g))) := by
  intro j hj
  by_cases e : j = q
  · subst e
    rw [updN_s]
  · rw [updN_n e, h j hj]
    refine mkN_congr (fun o _ => (potA_out ?_).symm)
    rcases Nat.lt_or_gt_of_ne e with c | c
    · have h9 : g * (j + 1) ≤ g * q := Nat.mul_le_mul_left g c
      rw [Nat.mul_succ] at h9
      exact Or.inr (by omega)
    · have h9 : g * (q + 1) ≤ g * j := Nat.mul_le_mul_left g c
      rw [Nat.mul_succ] at h9
      exact Or.inl (by omega)
theorem fl_lo1 {S E E4 W : Nat → Int32} {t : Nat} (h : ∀ z, z < t → E4 z = W z) (hf : (if S t = -1 then E t else S t) = W t) (c : ¬ S t = -1) : ∀ z, z < t + 1 → upd E4 t (S t) z = W z := by
  intro z hz
  by_cases e : z = t
  · rw [if_neg c] at hf
    simp [upd, e, hf]
  · simp only [upd, if_neg e]
    exact h z (by omega)
theorem fl_lo0 {S E E4 W : Nat → Int32} {t : Nat} (h : ∀ z, z < t → E4 z = W z) (he : E4 t = E t) (hf : (if S t = -1 then E t else S t) = W t) (c : S t = -1) : ∀ z, z < t + 1 → upd E4 t (E4 t) z = W z := by
  intro z hz
  by_cases e : z = t
  · rw [if_pos c] at hf
    simp [upd, e, he, hf]
  · simp only [upd, if_neg e]
    exact h z (by omega)
abbrev rmL_follows : Room := { frames := 4, cells := 1, slots := 3, locals := 108 }
set_option maxHeartbeats 4000000 in
set_option maxRecDepth 100000 in
theorem kL_follows (l : Launch) (D : va_G) (cI : ClassId) (cJ : ClassId) (bN : Nat) (g : Nat) (p : Nat) (dm : Nat) (bP : Nat) (S : Nat → Int32) (dt : Nat → Nat) (bW : Nat) (wm : Nat → Nat) (bQ : Nat) (qm : Nat → Nat) (num : Nat) (bG : Nat) (E0 : Nat → Int32) (rg : Nat → Nat) (bd : Nat → Nat) (ab : Nat → Bool) (ob : Nat → Bool) (hG : LG g p) (hs : SV g p S) (hW : WM g p rg bd ab ob wm) (hqm : QM g qm) (hC : FLC g p dm S) (hr0 : 0 < rsN g p rg bd ab ob S) (hnum : num < 2 ^ 31) : Cv l yL_follows wsL_follows rmL_follows D [(cI, .int), (cJ, .long)] [.ref bN, .ref bP, .ref bW, .ref bQ, .int (nI num), .ref bG] [(bN, .inl (cI, 4, .inl (fun j => nI (nA g p dm (fac g) j)))), (bP, .inl (cI, 18, .inl (fun j => pA S dt j))), (bW, .inl (cJ, 36, .inr (.inl (fun j => lN (wm j))))), (bQ, .inl (cJ, 16, .inr (.inl (fun j => lN (qm j))))), (bG, .inl (cI, 9, .inl E0))] (fun (u : (Nat → Int32)) => (∀ t, t < g * p → u t = FN g p rg bd ab ob S dm num t)) (fun (u : (Nat → Int32)) => [(bN, .inl (cI, 4, .inl (fun j => nI (nA g p dm (fac g) j)))), (bP, .inl (cI, 18, .inl (fun j => pA S dt j))), (bW, .inl (cJ, 36, .inr (.inl (fun j => lN (wm j))))), (bQ, .inl (cJ, 16, .inr (.inl (fun j => lN (qm j))))), (bG, .inl (cI, 9, .inl u))]) := by
  refine Cv_of (cc := cL_follows) (maxL := 14) (by decide) rfl (Nat.le_of_ble_eq_true rfl) ?_
  intro pR eV sT mI args below meth cO AA QQ ls hXX hBB hml hown hts hnm hN hK hP hD hS hAA hl hret
  have hl : lv_has ls 14 [(0, .ref bN), (1, .ref bP), (2, .ref bW), (3, .ref bQ), (4, .int (nI num)), (5, .ref bG)] := hl
  obtain ⟨⟨hg2, hg4⟩, ⟨hp2, hp3⟩, hT⟩ := id hG
  have hg0 : 0 < g := by omega
  have hF24 := fac_24 g (by omega)
  have hF0 := fac_pos g
  have kw_1 := hts (.arrayClass .long) (List.mem_of_getElem? (i := 1) rfl)
  refine lv_iconst (v := nI 3) hXX hBB dL_follows_0 (by decide) ?_
  refine m_newj hXX hBB kw_1 hK hP hD hS hAA 1 rfl (N := 3) (by decide) (by decide) (Nat.le_of_ble_eq_true rfl) (Nat.le_of_ble_eq_true rfl) (k := 1) (n := 3) rfl rfl dL_follows_1 (fun aM H hP hD hS => ?_)
  have hP : va_P D vwCl [(bN, .inl (cI, 4, .inl (fun j => nI (nA g p dm (fac g) j)))), (bP, .inl (cI, 18, .inl (fun j => pA S dt j))), (bW, .inl (cJ, 36, .inr (.inl (fun j => lN (wm j))))), (bQ, .inl (cJ, 16, .inr (.inl (fun j => lN (qm j))))), (bG, .inl (cI, 9, .inl E0)), (aM, .inl (cJ, 3, .inr (.inl (fun _ => lN 0))))] H := hP
  have hD : va_D AA [(bN, .inl (cI, 4, .inl (fun j => nI (nA g p dm (fac g) j)))), (bP, .inl (cI, 18, .inl (fun j => pA S dt j))), (bW, .inl (cJ, 36, .inr (.inl (fun j => lN (wm j))))), (bQ, .inl (cJ, 16, .inr (.inl (fun j => lN (qm j))))), (bG, .inl (cI, 9, .inl E0)), (aM, .inl (cJ, 3, .inr (.inl (fun _ => lN 0))))] := hD
  refine lv_astore (lv' := [(6, .ref aM), (0, .ref bN), (1, .ref bP), (2, .ref bW), (3, .ref bQ), (4, .int (nI num)), (5, .ref bG)]) hXX hBB dL_follows_3 hl (by decide) rfl (fun ls hl => ?_)
  refine lv_aload_n hXX hBB dL_follows_5 rfl (lv_at hl 1 rfl) ?_
  refine lv_aload_n hXX hBB dL_follows_6 rfl (lv_at hl 2 rfl) ?_
  refine lv_aload_n hXX hBB dL_follows_7 rfl (lv_at hl 4 rfl) ?_
  refine lv_aload hXX hBB dL_follows_8 (lv_at hl 0 rfl) ?_
  refine m_scallv (wr := [(bW, .inl (cJ, 36, .inr (.inl (fun j => lN (wm j))))), (bG, .inl (cI, 9, .inl E0))]) ⟨hXX, hBB, hml, hown, hts⟩ hN (kL_lays l D cI cJ bN g p dm bP S dt bQ qm aM (fun _ => 0) (by assumption) (by assumption) (by assumption)) (va_cwS 4 hts gL_follows_L_lays rfl rfl rfl (by decide +kernel) ⟨Nat.le_of_ble_eq_true rfl, Nat.le_of_ble_eq_true rfl⟩) hK hP hD hS hAA [0, 1, 3, 5] [2, 4] [0, 1] rfl rfl rfl (by decide) (by decide) (by decide) rfl hl.1 rfl (Nat.le_of_ble_eq_true rfl) dL_follows_10 ⟨Nat.le_of_ble_eq_true rfl, Nat.le_of_ble_eq_true rfl⟩ (k := 1) (n := 3) rfl rfl (fun  u_ H locs hw hP hD hS => ?_)
  have hP : va_P D vwCl [(bW, .inl (cJ, 36, .inr (.inl (fun j => lN (wm j))))), (bG, .inl (cI, 9, .inl E0)), (bN, .inl (cI, 4, .inl (fun j => nI (nA g p dm (fac g) j)))), (bP, .inl (cI, 18, .inl (fun j => pA S dt j))), (bQ, .inl (cJ, 16, .inr (.inl (fun j => lN (qm j))))), (aM, .inl (cJ, 3, .inr (.inl (fun j => lN ((layM g p S) j)))))] H := hP
  have hD : va_D AA [(bW, .inl (cJ, 36, .inr (.inl (fun j => lN (wm j))))), (bG, .inl (cI, 9, .inl E0)), (bN, .inl (cI, 4, .inl (fun j => nI (nA g p dm (fac g) j)))), (bP, .inl (cI, 18, .inl (fun j => pA S dt j))), (bQ, .inl (cJ, 16, .inr (.inl (fun j => lN (qm j))))), (aM, .inl (cJ, 3, .inr (.inl (fun j => lN ((layM g p S) j)))))] := hD
  refine lv_iload hXX hBB dL_follows_13 (lv_at hl 5 rfl) ?_
  refine lv_istore (lv' := [(7, .int (nI num)), (6, .ref aM), (0, .ref bN), (1, .ref bP), (2, .ref bW), (3, .ref bQ), (4, .int (nI num)), (5, .ref bG)]) hXX hBB dL_follows_15 hl (by decide) rfl (fun ls hl => ?_)
  refine lv_iconst (v := nI 0) hXX hBB dL_follows_17 (by decide) ?_
  refine lv_istore (lv' := [(8, .int (nI 0)), (7, .int (nI num)), (6, .ref aM), (0, .ref bN), (1, .ref bP), (2, .ref bW), (3, .ref bQ), (4, .int (nI num)), (5, .ref bG)]) hXX hBB dL_follows_18 hl (by decide) rfl (fun ls hl => ?_)
  have L_20 : ∀ (N_20 : Nat) (rest : Nat) (q : Nat) (d : Nat) (S2 : Nat → Int32) (E : Nat → Int32) (m2 : Nat → Nat), (FLP g p rg bd ab ob S dm num q S2 d rest E) → (MM g p S2 m2) → (rest < 2 ^ 31) → p - q < N_20 → ∀ (H : Heap) (locs : List Loc), va_P D vwCl [(bW, .inl (cJ, 36, .inr (.inl (fun j => lN (wm j))))), (bG, .inl (cI, 9, .inl E)), (bN, .inl (cI, 4, .inl (fun j => nI (nA g p dm (fac g) j)))), (bP, .inl (cI, 18, .inl (fun j => pA S dt j))), (bQ, .inl (cJ, 16, .inr (.inl (fun j => lN (qm j))))), (aM, .inl (cJ, 3, .inr (.inl (fun j => lN (m2 j)))))] H → va_D AA [(bW, .inl (cJ, 36, .inr (.inl (fun j => lN (wm j))))), (bG, .inl (cI, 9, .inl E)), (bN, .inl (cI, 4, .inl (fun j => nI (nA g p dm (fac g) j)))), (bP, .inl (cI, 18, .inl (fun j => pA S dt j))), (bQ, .inl (cJ, 16, .inr (.inl (fun j => lN (qm j))))), (aM, .inl (cJ, 3, .inr (.inl (fun j => lN (m2 j)))))] → va_S AA sT.heap H locs → ∀ (ls : Array Slot), lv_has ls 14 [(8, .int (nI q)), (7, .int (nI rest)), (6, .ref aM), (0, .ref bN), (1, .ref bP), (2, .ref bW), (3, .ref bQ), (4, .int (nI num)), (5, .ref bG)] → W pR l eV rmL_follows sT mI args below meth cO H locs 1 3 QQ (F0 mI 20 ls []) := by
    intro N_20
    induction N_20 with
    | zero =>
      intro rest q d S2 E m2 hQ9 hM hrl hMM
      exact absurd hMM (Nat.not_lt_zero _)
    | succ N_20 ih_20 =>
      intro rest q d S2 E m2 hQ9 hM hrl hMM H locs hP hD hS ls hl
      refine lv_iload hXX hBB dL_follows_20 (lv_at hl 0 rfl) ?_
      refine lv_aload_n hXX hBB dL_follows_22 rfl (lv_at hl 3 rfl) ?_
      refine lv_iconst (v := nI 1) hXX hBB dL_follows_23 (by decide) ?_
      refine m_iald hXX hBB hK hP 2 0 rfl rfl (i := 1) (by omega) (by decide) (x := nI p) rfl dL_follows_24 ?_
      refine lv_icmp_ge (tgt := 172) hXX hBB dL_follows_25 (by decide) (fun c_25 => ?_) (fun c_25 => ?_)
      · have c_25 : p ≤ q := (nI_leI (by first | omega | (have h9 := hQ9.1; omega)) (by first | omega | (have h9 := hQ9.1; omega))).mp c_25
        have hqp : q = p := by
          have h9 := hQ9.1
          omega
        have hQe := hQ9
        rw [hqp] at hQe
        have hPe : ∀ t, t < g * p → (if S t = -1 then E t else S t) = FN g p rg bd ab ob S dm num t := FLP_end hC hQe
        refine lv_iconst (v := nI 0) hXX hBB dL_follows_172 (by decide) ?_
        refine lv_istore (lv' := [(8, .int (nI 0)), (7, .int (nI rest)), (6, .ref aM), (0, .ref bN), (1, .ref bP), (2, .ref bW), (3, .ref bQ), (4, .int (nI num)), (5, .ref bG)]) hXX hBB dL_follows_173 hl (by decide) rfl (fun ls hl => ?_)
        have L_175 : ∀ (N_175 : Nat) (t : Nat) (E4 : Nat → Int32), (t ≤ g * p) → (∀ z, z < t → E4 z = FN g p rg bd ab ob S dm num z) → (∀ z, t ≤ z → E4 z = E z) → g * p - t < N_175 → ∀ (H : Heap) (locs : List Loc), va_P D vwCl [(bW, .inl (cJ, 36, .inr (.inl (fun j => lN (wm j))))), (bG, .inl (cI, 9, .inl E4)), (bN, .inl (cI, 4, .inl (fun j => nI (nA g p dm (fac g) j)))), (bP, .inl (cI, 18, .inl (fun j => pA S dt j))), (bQ, .inl (cJ, 16, .inr (.inl (fun j => lN (qm j))))), (aM, .inl (cJ, 3, .inr (.inl (fun j => lN (m2 j)))))] H → va_D AA [(bW, .inl (cJ, 36, .inr (.inl (fun j => lN (wm j))))), (bG, .inl (cI, 9, .inl E4)), (bN, .inl (cI, 4, .inl (fun j => nI (nA g p dm (fac g) j)))), (bP, .inl (cI, 18, .inl (fun j => pA S dt j))), (bQ, .inl (cJ, 16, .inr (.inl (fun j => lN (qm j))))), (aM, .inl (cJ, 3, .inr (.inl (fun j => lN (m2 j)))))] → va_S AA sT.heap H locs → ∀ (ls : Array Slot), lv_has ls 14 [(8, .int (nI t)), (7, .int (nI rest)), (6, .ref aM), (0, .ref bN), (1, .ref bP), (2, .ref bW), (3, .ref bQ), (4, .int (nI num)), (5, .ref bG)] → W pR l eV rmL_follows sT mI args below meth cO H locs 1 3 QQ (F0 mI 175 ls []) := by
          intro N_175
          induction N_175 with
          | zero =>
            intro t E4 ht hlo hhi hMM
            exact absurd hMM (Nat.not_lt_zero _)
          | succ N_175 ih_175 =>
            intro t E4 ht hlo hhi hMM H locs hP hD hS ls hl
            refine lv_iload hXX hBB dL_follows_175 (lv_at hl 0 rfl) ?_
            refine lv_aload_n hXX hBB dL_follows_177 rfl (lv_at hl 3 rfl) ?_
            refine lv_iconst (v := nI 0) hXX hBB dL_follows_178 (by decide) ?_
            refine m_iald hXX hBB hK hP 2 0 rfl rfl (i := 0) (by omega) (by decide) (x := nI g) rfl dL_follows_179 ?_
            refine lv_aload_n hXX hBB dL_follows_180 rfl (lv_at hl 3 rfl) ?_
            refine lv_iconst (v := nI 1) hXX hBB dL_follows_181 (by decide) ?_
            refine m_iald hXX hBB hK hP 2 0 rfl rfl (i := 1) (by omega) (by decide) (x := nI p) rfl dL_follows_182 ?_
            refine lv_imul hXX hBB dL_follows_183 ?_
            refine m_top (y := nI (g * p)) (pk_mul _ _) ?_
            refine lv_icmp_ge (tgt := 217) hXX hBB dL_follows_184 (by decide) (fun c_184 => ?_) (fun c_184 => ?_)
            · have c_184 : (g * p) ≤ t := (nI_leI (by omega) (by omega)).mp c_184
              have hE4 : t = g * p := by omega
              refine hret E4 ?_ (hP.sub [2, 3, 0, 4, 1] rfl) (hD.sub [2, 3, 0, 4, 1] (by decide) rfl) hS (Nat.le_of_ble_eq_true rfl) (Nat.le_of_ble_eq_true rfl) dL_follows_217
              show (∀ t, t < g * p → E4 t = FN g p rg bd ab ob S dm num t)
              exact fun z hz => hlo z (by omega)
            · have c_184 : ¬ (g * p) ≤ t := fun h9 => c_184 ((nI_leI (by omega) (by omega)).mpr h9)
              have hsv := hs.v hg4 (show t < g * p by omega)
              have hfe := hPe t (by omega)
              refine lv_aload hXX hBB dL_follows_187 (lv_at hl 8 rfl) ?_
              refine lv_iload hXX hBB dL_follows_189 (lv_at hl 0 rfl) ?_
              refine lv_aload_n hXX hBB dL_follows_191 rfl (lv_at hl 4 rfl) ?_
              refine lv_iload hXX hBB dL_follows_192 (lv_at hl 0 rfl) ?_
              refine m_iald hXX hBB hK hP 3 0 rfl rfl (i := t) (by omega) (by decide) (x := pA S dt t) rfl dL_follows_194 ?_
              refine m_top (y := S t) (by exact pA_lo _ _ (by omega)) ?_
              refine lv_if_lt (tgt := 205) hXX hBB dL_follows_195 (by decide) (fun c_195 => ?_) (fun c_195 => ?_)
              · have c_195 := c_195
                refine lv_aload hXX hBB dL_follows_205 (lv_at hl 8 rfl) ?_
                refine lv_iload hXX hBB dL_follows_207 (lv_at hl 0 rfl) ?_
                refine m_iald hXX hBB hK hP 1 0 rfl rfl (i := t) (by omega) (by decide) (x := E4 t) rfl dL_follows_209 ?_
                refine m_iast hXX hBB hK hP hD hS 1 0 rfl rfl (i := t) (by omega) (by decide) (g := upd E4 t (E4 t)) (rfl) dL_follows_210 (fun H locs hP hD hS => ?_)
                have hP : va_P D vwCl [(bW, .inl (cJ, 36, .inr (.inl (fun j => lN (wm j))))), (bG, .inl (cI, 9, .inl (upd E4 t (E4 t)))), (bN, .inl (cI, 4, .inl (fun j => nI (nA g p dm (fac g) j)))), (bP, .inl (cI, 18, .inl (fun j => pA S dt j))), (bQ, .inl (cJ, 16, .inr (.inl (fun j => lN (qm j))))), (aM, .inl (cJ, 3, .inr (.inl (fun j => lN (m2 j)))))] H := hP
                have hD : va_D AA [(bW, .inl (cJ, 36, .inr (.inl (fun j => lN (wm j))))), (bG, .inl (cI, 9, .inl (upd E4 t (E4 t)))), (bN, .inl (cI, 4, .inl (fun j => nI (nA g p dm (fac g) j)))), (bP, .inl (cI, 18, .inl (fun j => pA S dt j))), (bQ, .inl (cJ, 16, .inr (.inl (fun j => lN (qm j))))), (aM, .inl (cJ, 3, .inr (.inl (fun j => lN (m2 j)))))] := hD
                refine lv_iinc (v := nI (t + 1)) (lv' := [(8, .int (nI (t + 1))), (7, .int (nI rest)), (6, .ref aM), (0, .ref bN), (1, .ref bP), (2, .ref bW), (3, .ref bQ), (4, .int (nI num)), (5, .ref bG)]) hXX hBB dL_follows_211 hl (k := 0) rfl (nI_1 _) (by decide) rfl (fun ls hl => ?_)
                refine lv_goto (tgt := 175) hXX hBB dL_follows_214 (by decide) ?_
                have hi_t : (t + 1) ≤ g * p := by omega
                have hi_lo : ∀ z, z < (t + 1) → (upd E4 t (E4 t)) z = FN g p rg bd ab ob S dm num z := by first | exact fl_lo1 hlo hfe (sv_ge2 hsv c_195) | exact fl_lo0 hlo (hhi t (Nat.le_refl t)) hfe (sv_lt2 hsv c_195)
                have hi_hi : ∀ z, (t + 1) ≤ z → (upd E4 t (E4 t)) z = E z := by
                  intro z hz
                  simp only [upd, if_neg (show ¬ z = t by omega)]
                  exact hhi z (by omega)
                have hmm : g * p - (t + 1) < N_175 := by omega
                exact ih_175 (t + 1) (upd E4 t (E4 t)) hi_t hi_lo hi_hi hmm _ _ (hP.sub [0, 1, 2, 3, 4, 5] rfl) (hD.sub [0, 1, 2, 3, 4, 5] (by decide) rfl) hS ls (lv_sub hl [0, 1, 2, 3, 4, 5, 6, 7, 8] rfl)
              · have c_195 := c_195
                refine lv_aload_n hXX hBB dL_follows_198 rfl (lv_at hl 4 rfl) ?_
                refine lv_iload hXX hBB dL_follows_199 (lv_at hl 0 rfl) ?_
                refine m_iald hXX hBB hK hP 3 0 rfl rfl (i := t) (by omega) (by decide) (x := pA S dt t) rfl dL_follows_201 ?_
                refine m_top (y := S t) (by exact pA_lo _ _ (by omega)) ?_
                refine lv_goto (tgt := 210) hXX hBB dL_follows_202 (by decide) ?_
                refine m_iast hXX hBB hK hP hD hS 1 0 rfl rfl (i := t) (by omega) (by decide) (g := upd E4 t (S t)) (rfl) dL_follows_210 (fun H locs hP hD hS => ?_)
                have hP : va_P D vwCl [(bW, .inl (cJ, 36, .inr (.inl (fun j => lN (wm j))))), (bG, .inl (cI, 9, .inl (upd E4 t (S t)))), (bN, .inl (cI, 4, .inl (fun j => nI (nA g p dm (fac g) j)))), (bP, .inl (cI, 18, .inl (fun j => pA S dt j))), (bQ, .inl (cJ, 16, .inr (.inl (fun j => lN (qm j))))), (aM, .inl (cJ, 3, .inr (.inl (fun j => lN (m2 j)))))] H := hP
                have hD : va_D AA [(bW, .inl (cJ, 36, .inr (.inl (fun j => lN (wm j))))), (bG, .inl (cI, 9, .inl (upd E4 t (S t)))), (bN, .inl (cI, 4, .inl (fun j => nI (nA g p dm (fac g) j)))), (bP, .inl (cI, 18, .inl (fun j => pA S dt j))), (bQ, .inl (cJ, 16, .inr (.inl (fun j => lN (qm j))))), (aM, .inl (cJ, 3, .inr (.inl (fun j => lN (m2 j)))))] := hD
                refine lv_iinc (v := nI (t + 1)) (lv' := [(8, .int (nI (t + 1))), (7, .int (nI rest)), (6, .ref aM), (0, .ref bN), (1, .ref bP), (2, .ref bW), (3, .ref bQ), (4, .int (nI num)), (5, .ref bG)]) hXX hBB dL_follows_211 hl (k := 0) rfl (nI_1 _) (by decide) rfl (fun ls hl => ?_)
                refine lv_goto (tgt := 175) hXX hBB dL_follows_214 (by decide) ?_
                have hi_t : (t + 1) ≤ g * p := by omega
                have hi_lo : ∀ z, z < (t + 1) → (upd E4 t (S t)) z = FN g p rg bd ab ob S dm num z := by first | exact fl_lo1 hlo hfe (sv_ge2 hsv c_195) | exact fl_lo0 hlo (hhi t (Nat.le_refl t)) hfe (sv_lt2 hsv c_195)
                have hi_hi : ∀ z, (t + 1) ≤ z → (upd E4 t (S t)) z = E z := by
                  intro z hz
                  simp only [upd, if_neg (show ¬ z = t by omega)]
                  exact hhi z (by omega)
                have hmm : g * p - (t + 1) < N_175 := by omega
                exact ih_175 (t + 1) (upd E4 t (S t)) hi_t hi_lo hi_hi hmm _ _ (hP.sub [0, 1, 2, 3, 4, 5] rfl) (hD.sub [0, 1, 2, 3, 4, 5] (by decide) rfl) hS ls (lv_sub hl [0, 1, 2, 3, 4, 5, 6, 7, 8] rfl)
        have hi_t : 0 ≤ g * p := by exact Nat.zero_le _
        have hi_lo : ∀ z, z < 0 → E z = FN g p rg bd ab ob S dm num z := by exact fun z hz => absurd hz (Nat.not_lt_zero z)
        have hi_hi : ∀ z, 0 ≤ z → E z = E z := by exact fun _ _ => rfl
        exact L_175 _ 0 E hi_t hi_lo hi_hi (Nat.lt_succ_self _) _ _ hP hD hS ls (lv_sub hl [0, 1, 2, 3, 4, 5, 6, 7, 8] rfl)
      · have c_25 : ¬ p ≤ q := fun h9 => c_25 ((nI_leI (by first | omega | (have h9 := hQ9.1; omega)) (by first | omega | (have h9 := hQ9.1; omega))).mpr h9)
        have hq9 : q < p := by omega
        have hm9 : g * (q + 1) ≤ g * p := Nat.mul_le_mul_left g hq9
        rw [Nat.mul_succ] at hm9
        have hcl := clN_le S g q
        have hfc := fac_24 (clN S g q) (by omega)
        have hfp := fac_pos (clN S g q)
        refine lv_aload_n hXX hBB dL_follows_28 rfl (lv_at hl 3 rfl) ?_
        refine lv_aload_n hXX hBB dL_follows_29 rfl (lv_at hl 4 rfl) ?_
        refine lv_iload hXX hBB dL_follows_30 (lv_at hl 0 rfl) ?_
        refine m_scalli (wr := [(bW, .inl (cJ, 36, .inr (.inl (fun j => lN (wm j))))), (bG, .inl (cI, 9, .inl E)), (bQ, .inl (cJ, 16, .inr (.inl (fun j => lN (qm j))))), (aM, .inl (cJ, 3, .inr (.inl (fun j => lN (m2 j)))))]) ⟨hXX, hBB, hml, hown, hts⟩ hN (kL_left l D cI bN g p dm (fac g) bP S dt q (by omega) (by exact fun i hi => hs.v hg4 (by omega))) (va_cwS 3 hts gL_follows_L_left rfl rfl rfl (by decide +kernel) ⟨Nat.le_of_ble_eq_true rfl, Nat.le_of_ble_eq_true rfl⟩) hK hP hD hS hAA [2, 3] [0, 1, 4, 5] [0] rfl rfl rfl (by decide) (by decide) (by decide) rfl hl.1 rfl (Nat.le_of_ble_eq_true rfl) dL_follows_32 ⟨Nat.le_of_ble_eq_true rfl, Nat.le_of_ble_eq_true rfl⟩ (k := 1) (n := 3) rfl rfl (fun r_1 u_ H locs hw hP hD hS => ?_)
        have hw : (r_1 = nI (clN S g q)) := hw
        have hr_r_1 := hw
        have hP : va_P D vwCl [(bW, .inl (cJ, 36, .inr (.inl (fun j => lN (wm j))))), (bG, .inl (cI, 9, .inl E)), (bQ, .inl (cJ, 16, .inr (.inl (fun j => lN (qm j))))), (aM, .inl (cJ, 3, .inr (.inl (fun j => lN (m2 j))))), (bN, .inl (cI, 4, .inl (fun j => nI (nA g p dm (fac g) j)))), (bP, .inl (cI, 18, .inl (fun j => pA S dt j)))] H := hP
        have hD : va_D AA [(bW, .inl (cJ, 36, .inr (.inl (fun j => lN (wm j))))), (bG, .inl (cI, 9, .inl E)), (bQ, .inl (cJ, 16, .inr (.inl (fun j => lN (qm j))))), (aM, .inl (cJ, 3, .inr (.inl (fun j => lN (m2 j))))), (bN, .inl (cI, 4, .inl (fun j => nI (nA g p dm (fac g) j)))), (bP, .inl (cI, 18, .inl (fun j => pA S dt j)))] := hD
        subst hr_r_1
        refine lv_istore (lv' := [(9, .int (nI (clN S g q))), (8, .int (nI q)), (7, .int (nI rest)), (6, .ref aM), (0, .ref bN), (1, .ref bP), (2, .ref bW), (3, .ref bQ), (4, .int (nI num)), (5, .ref bG)]) hXX hBB dL_follows_35 hl (by decide) rfl (fun ls hl => ?_)
        refine lv_iload hXX hBB dL_follows_37 (lv_at hl 2 rfl) ?_
        refine lv_iload hXX hBB dL_follows_39 (lv_at hl 0 rfl) ?_
        refine m_scalli (wr := [(bW, .inl (cJ, 36, .inr (.inl (fun j => lN (wm j))))), (bG, .inl (cI, 9, .inl E)), (bQ, .inl (cJ, 16, .inr (.inl (fun j => lN (qm j))))), (aM, .inl (cJ, 3, .inr (.inl (fun j => lN (m2 j))))), (bN, .inl (cI, 4, .inl (fun j => nI (nA g p dm (fac g) j)))), (bP, .inl (cI, 18, .inl (fun j => pA S dt j)))]) ⟨hXX, hBB, hml, hown, hts⟩ hN (kL_product l D (clN S g q) (by omega)) (va_cwS 1 hts gL_follows_L_product rfl rfl rfl (by decide +kernel) ⟨Nat.le_of_ble_eq_true rfl, Nat.le_of_ble_eq_true rfl⟩) hK hP hD hS hAA [] [0, 1, 2, 3, 4, 5] [] rfl rfl rfl (by decide) (by decide) (by decide) rfl hl.1 rfl (Nat.le_of_ble_eq_true rfl) dL_follows_41 ⟨Nat.le_of_ble_eq_true rfl, Nat.le_of_ble_eq_true rfl⟩ (k := 1) (n := 3) rfl rfl (fun r_2 u_ H locs hw hP hD hS => ?_)
        have hw : (r_2 = nI (fac (clN S g q))) := hw
        have hr_r_2 := hw
        have hP : va_P D vwCl [(bW, .inl (cJ, 36, .inr (.inl (fun j => lN (wm j))))), (bG, .inl (cI, 9, .inl E)), (bQ, .inl (cJ, 16, .inr (.inl (fun j => lN (qm j))))), (aM, .inl (cJ, 3, .inr (.inl (fun j => lN (m2 j))))), (bN, .inl (cI, 4, .inl (fun j => nI (nA g p dm (fac g) j)))), (bP, .inl (cI, 18, .inl (fun j => pA S dt j)))] H := hP
        have hD : va_D AA [(bW, .inl (cJ, 36, .inr (.inl (fun j => lN (wm j))))), (bG, .inl (cI, 9, .inl E)), (bQ, .inl (cJ, 16, .inr (.inl (fun j => lN (qm j))))), (aM, .inl (cJ, 3, .inr (.inl (fun j => lN (m2 j))))), (bN, .inl (cI, 4, .inl (fun j => nI (nA g p dm (fac g) j)))), (bP, .inl (cI, 18, .inl (fun j => pA S dt j)))] := hD
        subst hr_r_2
        refine lv_irem hXX hBB dL_follows_44 (nI_ne0 (by omega) (by omega)) ?_
        refine m_top (y := nI (rest % fac (clN S g q))) (by exact pk_rem (by omega) (by omega) (by omega)) ?_
        refine lv_istore (lv' := [(10, .int (nI (rest % fac (clN S g q)))), (9, .int (nI (clN S g q))), (8, .int (nI q)), (7, .int (nI rest)), (6, .ref aM), (0, .ref bN), (1, .ref bP), (2, .ref bW), (3, .ref bQ), (4, .int (nI num)), (5, .ref bG)]) hXX hBB dL_follows_45 hl (by decide) rfl (fun ls hl => ?_)
        refine lv_iload hXX hBB dL_follows_47 (lv_at hl 3 rfl) ?_
        refine lv_iload hXX hBB dL_follows_49 (lv_at hl 1 rfl) ?_
        refine m_scalli (wr := [(bW, .inl (cJ, 36, .inr (.inl (fun j => lN (wm j))))), (bG, .inl (cI, 9, .inl E)), (bQ, .inl (cJ, 16, .inr (.inl (fun j => lN (qm j))))), (aM, .inl (cJ, 3, .inr (.inl (fun j => lN (m2 j))))), (bN, .inl (cI, 4, .inl (fun j => nI (nA g p dm (fac g) j)))), (bP, .inl (cI, 18, .inl (fun j => pA S dt j)))]) ⟨hXX, hBB, hml, hown, hts⟩ hN (kL_product l D (clN S g q) (by omega)) (va_cwS 1 hts gL_follows_L_product rfl rfl rfl (by decide +kernel) ⟨Nat.le_of_ble_eq_true rfl, Nat.le_of_ble_eq_true rfl⟩) hK hP hD hS hAA [] [0, 1, 2, 3, 4, 5] [] rfl rfl rfl (by decide) (by decide) (by decide) rfl hl.1 rfl (Nat.le_of_ble_eq_true rfl) dL_follows_51 ⟨Nat.le_of_ble_eq_true rfl, Nat.le_of_ble_eq_true rfl⟩ (k := 1) (n := 3) rfl rfl (fun r_3 u_ H locs hw hP hD hS => ?_)
        have hw : (r_3 = nI (fac (clN S g q))) := hw
        have hr_r_3 := hw
        have hP : va_P D vwCl [(bW, .inl (cJ, 36, .inr (.inl (fun j => lN (wm j))))), (bG, .inl (cI, 9, .inl E)), (bQ, .inl (cJ, 16, .inr (.inl (fun j => lN (qm j))))), (aM, .inl (cJ, 3, .inr (.inl (fun j => lN (m2 j))))), (bN, .inl (cI, 4, .inl (fun j => nI (nA g p dm (fac g) j)))), (bP, .inl (cI, 18, .inl (fun j => pA S dt j)))] H := hP
        have hD : va_D AA [(bW, .inl (cJ, 36, .inr (.inl (fun j => lN (wm j))))), (bG, .inl (cI, 9, .inl E)), (bQ, .inl (cJ, 16, .inr (.inl (fun j => lN (qm j))))), (aM, .inl (cJ, 3, .inr (.inl (fun j => lN (m2 j))))), (bN, .inl (cI, 4, .inl (fun j => nI (nA g p dm (fac g) j)))), (bP, .inl (cI, 18, .inl (fun j => pA S dt j)))] := hD
        subst hr_r_3
        refine lv_idiv hXX hBB dL_follows_54 (nI_ne0 (by omega) (by omega)) ?_
        refine m_top (y := nI (rest / fac (clN S g q))) (by exact pk_div (by omega) (by omega) (by omega)) ?_
        refine lv_istore (lv' := [(7, .int (nI (rest / fac (clN S g q)))), (10, .int (nI (rest % fac (clN S g q)))), (9, .int (nI (clN S g q))), (8, .int (nI q)), (6, .ref aM), (0, .ref bN), (1, .ref bP), (2, .ref bW), (3, .ref bQ), (4, .int (nI num)), (5, .ref bG)]) hXX hBB dL_follows_55 hl (by decide) rfl (fun ls hl => ?_)
        refine lv_iconst (v := nI 0) hXX hBB dL_follows_57 (by decide) ?_
        refine lv_istore (lv' := [(11, .int (nI 0)), (7, .int (nI (rest / fac (clN S g q)))), (10, .int (nI (rest % fac (clN S g q)))), (9, .int (nI (clN S g q))), (8, .int (nI q)), (6, .ref aM), (0, .ref bN), (1, .ref bP), (2, .ref bW), (3, .ref bQ), (4, .int (nI num)), (5, .ref bG)]) hXX hBB dL_follows_58 hl (by decide) rfl (fun ls hl => ?_)
        have L_60 : ∀ (N_60 : Nat) (k : Nat) (S3 : Nat → Int32) (E3 : Nat → Int32) (m3 : Nat → Nat), (FLK g p rg bd ab ob S dm num q d rest k S3 E3) → (MM g p S3 m3) → (clN S g q) - k < N_60 → ∀ (H : Heap) (locs : List Loc), va_P D vwCl [(bW, .inl (cJ, 36, .inr (.inl (fun j => lN (wm j))))), (bG, .inl (cI, 9, .inl E3)), (bQ, .inl (cJ, 16, .inr (.inl (fun j => lN (qm j))))), (aM, .inl (cJ, 3, .inr (.inl (fun j => lN (m3 j))))), (bN, .inl (cI, 4, .inl (fun j => nI (nA g p dm (fac g) j)))), (bP, .inl (cI, 18, .inl (fun j => pA S dt j)))] H → va_D AA [(bW, .inl (cJ, 36, .inr (.inl (fun j => lN (wm j))))), (bG, .inl (cI, 9, .inl E3)), (bQ, .inl (cJ, 16, .inr (.inl (fun j => lN (qm j))))), (aM, .inl (cJ, 3, .inr (.inl (fun j => lN (m3 j))))), (bN, .inl (cI, 4, .inl (fun j => nI (nA g p dm (fac g) j)))), (bP, .inl (cI, 18, .inl (fun j => pA S dt j)))] → va_S AA sT.heap H locs → ∀ (ls : Array Slot), lv_has ls 14 [(11, .int (nI k)), (7, .int (nI (rest / fac (clN S g q)))), (10, .int (nI (rest % fac (clN S g q)))), (9, .int (nI (clN S g q))), (8, .int (nI q)), (6, .ref aM), (0, .ref bN), (1, .ref bP), (2, .ref bW), (3, .ref bQ), (4, .int (nI num)), (5, .ref bG)] → W pR l eV rmL_follows sT mI args below meth cO H locs 1 3 QQ (F0 mI 60 ls []) := by
          intro N_60
          induction N_60 with
          | zero =>
            intro k S3 E3 m3 hK9 hM3 hMM
            exact absurd hMM (Nat.not_lt_zero _)
          | succ N_60 ih_60 =>
            intro k S3 E3 m3 hK9 hM3 hMM H locs hP hD hS ls hl
            refine lv_iload hXX hBB dL_follows_60 (lv_at hl 0 rfl) ?_
            refine lv_iload hXX hBB dL_follows_62 (lv_at hl 3 rfl) ?_
            refine lv_icmp_ge (tgt := 166) hXX hBB dL_follows_64 (by decide) (fun c_64 => ?_) (fun c_64 => ?_)
            · have c_64 : (clN S g q) ≤ k := (nI_leI (by first | omega | (have h9 := hK9.1; omega)) (by first | omega | (have h9 := hK9.1; omega))).mp c_64
              have hE9 : k = (clN S g q) := by
                have h9 := hK9.1
                omega
              refine lv_iinc (v := nI (q + 1)) (lv' := [(8, .int (nI (q + 1))), (11, .int (nI k)), (7, .int (nI (rest / fac (clN S g q)))), (10, .int (nI (rest % fac (clN S g q)))), (9, .int (nI (clN S g q))), (6, .ref aM), (0, .ref bN), (1, .ref bP), (2, .ref bW), (3, .ref bQ), (4, .int (nI num)), (5, .ref bG)]) hXX hBB dL_follows_166 hl (k := 4) rfl (nI_1 _) (by decide) rfl (fun ls hl => ?_)
              refine lv_goto (tgt := 20) hXX hBB dL_follows_169 (by decide) ?_
              have hi_Q9 : FLP g p rg bd ab ob S dm num (q + 1) S3 (d + clN S g q) (rest / fac (clN S g q)) E3 := by
                have h9 := hK9
                rw [hE9] at h9
                exact FLK_end hC hQ9 hq9 h9
              have hi_M : MM g p S3 m3 := by exact hM3
              have hi_rl : (rest / fac (clN S g q)) < 2 ^ 31 := by exact Nat.lt_of_le_of_lt (Nat.div_le_self _ _) hrl
              have hmm : p - (q + 1) < N_20 := by omega
              exact ih_20 (rest / fac (clN S g q)) (q + 1) (d + clN S g q) S3 E3 m3 hi_Q9 hi_M hi_rl hmm _ _ (hP.sub [0, 1, 4, 5, 2, 3] rfl) (hD.sub [0, 1, 4, 5, 2, 3] (by decide) rfl) hS ls (lv_sub hl [0, 2, 5, 6, 7, 8, 9, 10, 11] rfl)
            · have c_64 : ¬ (clN S g q) ≤ k := fun h9 => c_64 ((nI_leI (by first | omega | (have h9 := hK9.1; omega)) (by first | omega | (have h9 := hK9.1; omega))).mpr h9)
              have hkc : k < (clN S g q) := by omega
              have hsb := FLK_ball hC hq9 hK9 hkc
              have hro : rest % fac (clN S g q) < fac (clN S g q) := Nat.mod_lt rest hfp
              refine lv_iload hXX hBB dL_follows_67 (lv_at hl 3 rfl) ?_
              refine lv_iload hXX hBB dL_follows_69 (lv_at hl 2 rfl) ?_
              refine lv_iload hXX hBB dL_follows_71 (lv_at hl 0 rfl) ?_
              refine m_scalli (wr := [(bW, .inl (cJ, 36, .inr (.inl (fun j => lN (wm j))))), (bG, .inl (cI, 9, .inl E3)), (bQ, .inl (cJ, 16, .inr (.inl (fun j => lN (qm j))))), (aM, .inl (cJ, 3, .inr (.inl (fun j => lN (m3 j))))), (bN, .inl (cI, 4, .inl (fun j => nI (nA g p dm (fac g) j)))), (bP, .inl (cI, 18, .inl (fun j => pA S dt j)))]) ⟨hXX, hBB, hml, hown, hts⟩ hN (kL_at l D (clN S g q) (rest % fac (clN S g q)) k (by omega) (by omega) (by omega) (by omega)) (va_cwS 3 hts gL_follows_L_at rfl rfl rfl (by decide +kernel) ⟨Nat.le_of_ble_eq_true rfl, Nat.le_of_ble_eq_true rfl⟩) hK hP hD hS hAA [] [0, 1, 2, 3, 4, 5] [] rfl rfl rfl (by decide) (by decide) (by decide) rfl hl.1 rfl (Nat.le_of_ble_eq_true rfl) dL_follows_73 ⟨Nat.le_of_ble_eq_true rfl, Nat.le_of_ble_eq_true rfl⟩ (k := 1) (n := 3) rfl rfl (fun r_4 u_ H locs hw hP hD hS => ?_)
              have hw : (r_4 = nI (atN (clN S g q) (rest % fac (clN S g q)) k)) := hw
              have hr_r_4 := hw
              have hP : va_P D vwCl [(bW, .inl (cJ, 36, .inr (.inl (fun j => lN (wm j))))), (bG, .inl (cI, 9, .inl E3)), (bQ, .inl (cJ, 16, .inr (.inl (fun j => lN (qm j))))), (aM, .inl (cJ, 3, .inr (.inl (fun j => lN (m3 j))))), (bN, .inl (cI, 4, .inl (fun j => nI (nA g p dm (fac g) j)))), (bP, .inl (cI, 18, .inl (fun j => pA S dt j)))] H := hP
              have hD : va_D AA [(bW, .inl (cJ, 36, .inr (.inl (fun j => lN (wm j))))), (bG, .inl (cI, 9, .inl E3)), (bQ, .inl (cJ, 16, .inr (.inl (fun j => lN (qm j))))), (aM, .inl (cJ, 3, .inr (.inl (fun j => lN (m3 j))))), (bN, .inl (cI, 4, .inl (fun j => nI (nA g p dm (fac g) j)))), (bP, .inl (cI, 18, .inl (fun j => pA S dt j)))] := hD
              subst hr_r_4
              refine lv_istore (lv' := [(12, .int (nI (atN (clN S g q) (rest % fac (clN S g q)) k))), (11, .int (nI k)), (7, .int (nI (rest / fac (clN S g q)))), (10, .int (nI (rest % fac (clN S g q)))), (9, .int (nI (clN S g q))), (8, .int (nI q)), (6, .ref aM), (0, .ref bN), (1, .ref bP), (2, .ref bW), (3, .ref bQ), (4, .int (nI num)), (5, .ref bG)]) hXX hBB dL_follows_76 hl (by decide) rfl (fun ls hl => ?_)
              refine lv_aload_n hXX hBB dL_follows_78 rfl (lv_at hl 7 rfl) ?_
              refine lv_iconst (v := nI 0) hXX hBB dL_follows_79 (by decide) ?_
              refine m_iald hXX hBB hK hP 4 0 rfl rfl (i := 0) (by omega) (by decide) (x := nI g) rfl dL_follows_80 ?_
              refine lv_iload hXX hBB dL_follows_81 (lv_at hl 5 rfl) ?_
              refine lv_imul hXX hBB dL_follows_83 ?_
              refine m_top (y := nI (g * q)) (pk_mul _ _) ?_
              refine lv_istore (lv' := [(13, .int (nI (g * q))), (12, .int (nI (atN (clN S g q) (rest % fac (clN S g q)) k))), (11, .int (nI k)), (7, .int (nI (rest / fac (clN S g q)))), (10, .int (nI (rest % fac (clN S g q)))), (9, .int (nI (clN S g q))), (8, .int (nI q)), (6, .ref aM), (0, .ref bN), (1, .ref bP), (2, .ref bW), (3, .ref bQ), (4, .int (nI num)), (5, .ref bG)]) hXX hBB dL_follows_84 hl (by decide) rfl (fun ls hl => ?_)
              have L_86 : ∀ (N_86 : Nat) (lq : Nat) (t : Nat), (g * q ≤ t ∧ t ≤ g * q + g) → (lq < 5) → (nth S (g * q + g - t) t lq = nI (balT S g q (atN (clN S g q) (rest % fac (clN S g q)) k))) → g * q + g - t < N_86 → ∀ (H : Heap) (locs : List Loc), va_P D vwCl [(bW, .inl (cJ, 36, .inr (.inl (fun j => lN (wm j))))), (bG, .inl (cI, 9, .inl E3)), (bQ, .inl (cJ, 16, .inr (.inl (fun j => lN (qm j))))), (aM, .inl (cJ, 3, .inr (.inl (fun j => lN (m3 j))))), (bN, .inl (cI, 4, .inl (fun j => nI (nA g p dm (fac g) j)))), (bP, .inl (cI, 18, .inl (fun j => pA S dt j)))] H → va_D AA [(bW, .inl (cJ, 36, .inr (.inl (fun j => lN (wm j))))), (bG, .inl (cI, 9, .inl E3)), (bQ, .inl (cJ, 16, .inr (.inl (fun j => lN (qm j))))), (aM, .inl (cJ, 3, .inr (.inl (fun j => lN (m3 j))))), (bN, .inl (cI, 4, .inl (fun j => nI (nA g p dm (fac g) j)))), (bP, .inl (cI, 18, .inl (fun j => pA S dt j)))] → va_S AA sT.heap H locs → ∀ (ls : Array Slot), lv_has ls 14 [(13, .int (nI t)), (12, .int (nI lq)), (11, .int (nI k)), (7, .int (nI (rest / fac (clN S g q)))), (10, .int (nI (rest % fac (clN S g q)))), (9, .int (nI (clN S g q))), (8, .int (nI q)), (6, .ref aM), (0, .ref bN), (1, .ref bP), (2, .ref bW), (3, .ref bQ), (4, .int (nI num)), (5, .ref bG)] → W pR l eV rmL_follows sT mI args below meth cO H locs 1 3 QQ (F0 mI 86 ls []) := by
                intro N_86
                induction N_86 with
                | zero =>
                  intro lq t ht1 hl5 hhf hMM
                  exact absurd hMM (Nat.not_lt_zero _)
                | succ N_86 ih_86 =>
                  intro lq t ht1 hl5 hhf hMM H locs hP hD hS ls hl
                  refine lv_aload_n hXX hBB dL_follows_86 rfl (lv_at hl 9 rfl) ?_
                  obtain ⟨f, hf0⟩ : ∃ f, g * q + g - t = f + 1 := nth_f hhf ht1.2
                  have hf9 := hhf
                  rw [hf0] at hf9
                  have hf1 : g * q + g - (t + 1) = f := by omega
                  refine lv_iload hXX hBB dL_follows_87 (lv_at hl 0 rfl) ?_
                  refine m_iald hXX hBB hK hP 5 0 rfl rfl (i := t) (by omega) (by decide) (x := pA S dt t) rfl dL_follows_89 ?_
                  refine m_top (y := S t) (by exact pA_lo _ _ (by omega)) ?_
                  refine lv_if_ge (tgt := 98) hXX hBB dL_follows_90 (by decide) (fun c_90 => ?_) (fun c_90 => ?_)
                  · have c_90 := c_90
                    refine lv_iload hXX hBB dL_follows_98 (lv_at hl 1 rfl) ?_
                    refine lv_aload_n hXX hBB dL_follows_100 rfl (lv_at hl 9 rfl) ?_
                    refine lv_iload hXX hBB dL_follows_101 (lv_at hl 0 rfl) ?_
                    refine m_iald hXX hBB hK hP 5 0 rfl rfl (i := t) (by omega) (by decide) (x := pA S dt t) rfl dL_follows_103 ?_
                    refine m_top (y := S t) (by exact pA_lo _ _ (by omega)) ?_
                    refine lv_if_lt (tgt := 111) hXX hBB dL_follows_104 (by decide) (fun c_104 => ?_) (fun c_104 => ?_)
                    · have c_104 := c_104
                      refine lv_iconst (v := nI 1) hXX hBB dL_follows_111 (by decide) ?_
                      refine lv_isub hXX hBB dL_follows_112 ?_
                      refine m_top (y := nI (lq - 1)) (by first | exact pk_sub (by omega) | exact absurd (sv_lt2 (hs.v hg4 (show t < g * p by omega)) c_104) (sv_ge (hs.v hg4 (show t < g * p by omega)) c_90)) ?_
                      refine lv_istore (lv' := [(12, .int (nI (lq - 1))), (13, .int (nI t)), (11, .int (nI k)), (7, .int (nI (rest / fac (clN S g q)))), (10, .int (nI (rest % fac (clN S g q)))), (9, .int (nI (clN S g q))), (8, .int (nI q)), (6, .ref aM), (0, .ref bN), (1, .ref bP), (2, .ref bW), (3, .ref bQ), (4, .int (nI num)), (5, .ref bG)]) hXX hBB dL_follows_113 hl (by decide) rfl (fun ls hl => ?_)
                      refine lv_iinc (v := nI (t + 1)) (lv' := [(13, .int (nI (t + 1))), (12, .int (nI (lq - 1))), (11, .int (nI k)), (7, .int (nI (rest / fac (clN S g q)))), (10, .int (nI (rest % fac (clN S g q)))), (9, .int (nI (clN S g q))), (8, .int (nI q)), (6, .ref aM), (0, .ref bN), (1, .ref bP), (2, .ref bW), (3, .ref bQ), (4, .int (nI num)), (5, .ref bG)]) hXX hBB dL_follows_115 hl (k := 1) rfl (nI_1 _) (by decide) rfl (fun ls hl => ?_)
                      refine lv_goto (tgt := 86) hXX hBB dL_follows_118 (by decide) ?_
                      have hi_t1 : g * q ≤ (t + 1) ∧ (t + 1) ≤ g * q + g := by omega
                      have hi_l5 : (lq - 1) < 5 := by omega
                      have hi_hf : nth S (g * q + g - (t + 1)) (t + 1) (lq - 1) = nI (balT S g q (atN (clN S g q) (rest % fac (clN S g q)) k)) := by
                        rw [hf1]
                        first | exact nth_no hf9 c_104 | exact nth_yes hf9 (sv_lt2 (hs.v hg4 (show t < g * p by omega)) c_104) (by omega) | exact absurd (sv_lt2 (hs.v hg4 (show t < g * p by omega)) c_104) (sv_ge (hs.v hg4 (show t < g * p by omega)) c_90)
                      have hmm : g * q + g - (t + 1) < N_86 := by omega
                      exact ih_86 (lq - 1) (t + 1) hi_t1 hi_l5 hi_hf hmm _ _ (hP.sub [0, 1, 2, 3, 4, 5] rfl) (hD.sub [0, 1, 2, 3, 4, 5] (by decide) rfl) hS ls (lv_sub hl [0, 1, 2, 3, 4, 5, 6, 7, 8, 9, 10, 11, 12, 13] rfl)
                    · have c_104 := c_104
                      refine lv_iconst (v := nI 0) hXX hBB dL_follows_107 (by decide) ?_
                      refine lv_goto (tgt := 112) hXX hBB dL_follows_108 (by decide) ?_
                      refine lv_isub hXX hBB dL_follows_112 ?_
                      refine m_top (y := nI lq) (by exact m_sub0 _) ?_
                      refine lv_istore (lv' := [(12, .int (nI lq)), (13, .int (nI t)), (11, .int (nI k)), (7, .int (nI (rest / fac (clN S g q)))), (10, .int (nI (rest % fac (clN S g q)))), (9, .int (nI (clN S g q))), (8, .int (nI q)), (6, .ref aM), (0, .ref bN), (1, .ref bP), (2, .ref bW), (3, .ref bQ), (4, .int (nI num)), (5, .ref bG)]) hXX hBB dL_follows_113 hl (by decide) rfl (fun ls hl => ?_)
                      refine lv_iinc (v := nI (t + 1)) (lv' := [(13, .int (nI (t + 1))), (12, .int (nI lq)), (11, .int (nI k)), (7, .int (nI (rest / fac (clN S g q)))), (10, .int (nI (rest % fac (clN S g q)))), (9, .int (nI (clN S g q))), (8, .int (nI q)), (6, .ref aM), (0, .ref bN), (1, .ref bP), (2, .ref bW), (3, .ref bQ), (4, .int (nI num)), (5, .ref bG)]) hXX hBB dL_follows_115 hl (k := 1) rfl (nI_1 _) (by decide) rfl (fun ls hl => ?_)
                      refine lv_goto (tgt := 86) hXX hBB dL_follows_118 (by decide) ?_
                      have hi_t1 : g * q ≤ (t + 1) ∧ (t + 1) ≤ g * q + g := by omega
                      have hi_l5 : lq < 5 := by omega
                      have hi_hf : nth S (g * q + g - (t + 1)) (t + 1) lq = nI (balT S g q (atN (clN S g q) (rest % fac (clN S g q)) k)) := by
                        rw [hf1]
                        first | exact nth_no hf9 c_104 | exact nth_yes hf9 (sv_lt2 (hs.v hg4 (show t < g * p by omega)) c_104) (by omega) | exact absurd (sv_lt2 (hs.v hg4 (show t < g * p by omega)) c_104) (sv_ge (hs.v hg4 (show t < g * p by omega)) c_90)
                      have hmm : g * q + g - (t + 1) < N_86 := by omega
                      exact ih_86 lq (t + 1) hi_t1 hi_l5 hi_hf hmm _ _ (hP.sub [0, 1, 2, 3, 4, 5] rfl) (hD.sub [0, 1, 2, 3, 4, 5] (by decide) rfl) hS ls (lv_sub hl [0, 1, 2, 3, 4, 5, 6, 7, 8, 9, 10, 11, 12, 13] rfl)
                  · have c_90 := c_90
                    refine lv_iload hXX hBB dL_follows_93 (lv_at hl 1 rfl) ?_
                    refine lv_if_le (tgt := 121) hXX hBB dL_follows_95 (by decide) (fun c_95 => ?_) (fun c_95 => ?_)
                    · have c_95 : lq = 0 := m_nps_le_t (by omega) c_95
                      have hSt := sv_lt (hs.v hg4 (show t < g * p by omega)) c_90
                      have ht9 : t = balT S g q (atN (clN S g q) (rest % fac (clN S g q)) k) := nth_at hf9 hSt c_95 (by omega) (by omega)
                      have hb9 : g * q ≤ t ∧ t < g * q + g ∧ t < g * p ∧ S3 t = -1 := by
                        rw [ht9]
                        exact ⟨hsb.2.2.1, hsb.2.2.2.1, hsb.2.2.2.2.1, hsb.2.2.2.2.2.2⟩
                      have htg : t % g < g := Nat.mod_lt t hg0
                      have ht0 : t < g * p := by omega
                      have hst := FLK_step hC hq9 hK9 hkc ht9 rfl
                      have hlw := hst.2
                      have hq4 : q < 3 := by omega
                      refine lv_aload hXX hBB dL_follows_121 (lv_at hl 13 rfl) ?_
                      refine lv_iload hXX hBB dL_follows_123 (lv_at hl 0 rfl) ?_
                      refine lv_aload_n hXX hBB dL_follows_125 rfl (lv_at hl 8 rfl) ?_
                      refine lv_aload_n hXX hBB dL_follows_126 rfl (lv_at hl 10 rfl) ?_
                      refine lv_aload_n hXX hBB dL_follows_127 rfl (lv_at hl 11 rfl) ?_
                      refine lv_aload hXX hBB dL_follows_128 (lv_at hl 7 rfl) ?_
                      refine lv_iload hXX hBB dL_follows_130 (lv_at hl 0 rfl) ?_
                      refine m_scalli (wr := [(bG, .inl (cI, 9, .inl E3)), (bP, .inl (cI, 18, .inl (fun j => pA S dt j)))]) ⟨hXX, hBB, hml, hown, hts⟩ hN (kL_lowest l D cI cJ bN g p dm bW wm bQ qm aM m3 t rg bd ab ob S3 (by assumption) (by assumption) (by assumption) (by exact hM3) (by exact ht0)) (va_cwS 5 hts gL_follows_L_lowest rfl rfl rfl (by decide +kernel) ⟨Nat.le_of_ble_eq_true rfl, Nat.le_of_ble_eq_true rfl⟩) hK hP hD hS hAA [4, 0, 2, 3] [1, 5] [0, 1] rfl rfl rfl (by decide) (by decide) (by decide) rfl hl.1 rfl (Nat.le_of_ble_eq_true rfl) dL_follows_132 ⟨Nat.le_of_ble_eq_true rfl, Nat.le_of_ble_eq_true rfl⟩ (k := 1) (n := 3) rfl rfl (fun r_5 u_ H locs hw hP hD hS => ?_)
                      have hw : (r_5 = nI (lowC g p rg bd ab ob S3 t)) := hw
                      have hr_r_5 := hw
                      have hP : va_P D vwCl [(bG, .inl (cI, 9, .inl E3)), (bP, .inl (cI, 18, .inl (fun j => pA S dt j))), (bN, .inl (cI, 4, .inl (fun j => nI (nA g p dm (fac g) j)))), (bW, .inl (cJ, 36, .inr (.inl (fun j => lN (wm j))))), (bQ, .inl (cJ, 16, .inr (.inl (fun j => lN (qm j))))), (aM, .inl (cJ, 3, .inr (.inl (fun j => lN (m3 j)))))] H := hP
                      have hD : va_D AA [(bG, .inl (cI, 9, .inl E3)), (bP, .inl (cI, 18, .inl (fun j => pA S dt j))), (bN, .inl (cI, 4, .inl (fun j => nI (nA g p dm (fac g) j)))), (bW, .inl (cJ, 36, .inr (.inl (fun j => lN (wm j))))), (bQ, .inl (cJ, 16, .inr (.inl (fun j => lN (qm j))))), (aM, .inl (cJ, 3, .inr (.inl (fun j => lN (m3 j)))))] := hD
                      subst hr_r_5
                      refine m_iast hXX hBB hK hP hD hS 0 0 rfl rfl (i := t) (by omega) (by decide) (g := upd E3 t (nI (lowC g p rg bd ab ob S3 t))) (rfl) dL_follows_135 (fun H locs hP hD hS => ?_)
                      have hP : va_P D vwCl [(bG, .inl (cI, 9, .inl (upd E3 t (nI (lowC g p rg bd ab ob S3 t))))), (bP, .inl (cI, 18, .inl (fun j => pA S dt j))), (bN, .inl (cI, 4, .inl (fun j => nI (nA g p dm (fac g) j)))), (bW, .inl (cJ, 36, .inr (.inl (fun j => lN (wm j))))), (bQ, .inl (cJ, 16, .inr (.inl (fun j => lN (qm j))))), (aM, .inl (cJ, 3, .inr (.inl (fun j => lN (m3 j)))))] H := hP
                      have hD : va_D AA [(bG, .inl (cI, 9, .inl (upd E3 t (nI (lowC g p rg bd ab ob S3 t))))), (bP, .inl (cI, 18, .inl (fun j => pA S dt j))), (bN, .inl (cI, 4, .inl (fun j => nI (nA g p dm (fac g) j)))), (bW, .inl (cJ, 36, .inr (.inl (fun j => lN (wm j))))), (bQ, .inl (cJ, 16, .inr (.inl (fun j => lN (qm j))))), (aM, .inl (cJ, 3, .inr (.inl (fun j => lN (m3 j)))))] := hD
                      refine lv_aload hXX hBB dL_follows_136 (lv_at hl 7 rfl) ?_
                      refine lv_iload hXX hBB dL_follows_138 (lv_at hl 6 rfl) ?_
                      refine lv_dup2_11 hXX hBB dL_follows_140 rfl rfl ?_
                      refine m_lald hXX hBB hK hP 5 1 rfl rfl (i := q) (by omega) (by decide) (x := lN (m3 q)) rfl dL_follows_141 ?_
                      refine lv_aload_n hXX hBB dL_follows_142 rfl (lv_at hl 11 rfl) ?_
                      refine lv_iconst (v := nI 4) hXX hBB dL_follows_143 (by decide) ?_
                      refine lv_iload hXX hBB dL_follows_144 (lv_at hl 0 rfl) ?_
                      refine lv_aload_n hXX hBB dL_follows_146 rfl (lv_at hl 8 rfl) ?_
                      refine lv_iconst (v := nI 0) hXX hBB dL_follows_147 (by decide) ?_
                      refine m_iald hXX hBB hK hP 2 0 rfl rfl (i := 0) (by omega) (by decide) (x := nI g) rfl dL_follows_148 ?_
                      refine lv_irem hXX hBB dL_follows_149 (nI_ne0 (by omega) (by omega)) ?_
                      refine m_top (y := nI (t % g)) (by exact pk_rem (by omega) (by omega) (by omega)) ?_
                      refine lv_imul hXX hBB dL_follows_150 ?_
                      refine m_top (y := nI (4 * (t % g))) (pk_mul _ _) ?_
                      refine lv_aload hXX hBB dL_follows_151 (lv_at hl 13 rfl) ?_
                      refine lv_iload hXX hBB dL_follows_153 (lv_at hl 0 rfl) ?_
                      refine m_iald hXX hBB hK hP 0 0 rfl rfl (i := t) (by omega) (by decide) (x := (upd E3 t (nI (lowC g p rg bd ab ob S3 t))) t) rfl dL_follows_155 ?_
                      refine m_top (y := nI (lowC g p rg bd ab ob S3 t)) (by simp [upd]) ?_
                      refine lv_iadd hXX hBB dL_follows_156 ?_
                      refine m_top (y := nI ((4 * (t % g)) + (lowC g p rg bd ab ob S3 t))) (nI_add _ _) ?_
                      refine m_lald hXX hBB hK hP 4 1 rfl rfl (i := (4 * (t % g)) + (lowC g p rg bd ab ob S3 t)) (by omega) (by decide) (x := lN (qm ((4 * (t % g)) + (lowC g p rg bd ab ob S3 t)))) rfl dL_follows_157 ?_
                      refine m_topl (y := lN (mkN (fun o => decide (atN g o (t % g) = lowC g p rg bd ab ob S3 t)) (fac g))) (by rw [hqm (t % g) htg _ (by omega)]) ?_
                      refine lv_land hXX hBB dL_follows_158 ?_
                      refine m_topl (y := lN (mkN (potA g (upd S3 t (nI (lowC g p rg bd ab ob S3 t))) q) (fac g))) (by exact and_pot hg0 hg4 hM3 hq9 hb9.2.2.2 (by omega) hb9.1 hb9.2.1) ?_
                      refine m_last hXX hBB hK hP hD hS 5 1 rfl rfl (i := q) (by omega) (by decide) (g := fun j => lN (updN m3 q (mkN (potA g (upd S3 t (nI (lowC g p rg bd ab ob S3 t))) q) (fac g)) j)) (m_updL _ _ _) dL_follows_159 (fun H locs hP hD hS => ?_)
                      have hP : va_P D vwCl [(bG, .inl (cI, 9, .inl (upd E3 t (nI (lowC g p rg bd ab ob S3 t))))), (bP, .inl (cI, 18, .inl (fun j => pA S dt j))), (bN, .inl (cI, 4, .inl (fun j => nI (nA g p dm (fac g) j)))), (bW, .inl (cJ, 36, .inr (.inl (fun j => lN (wm j))))), (bQ, .inl (cJ, 16, .inr (.inl (fun j => lN (qm j))))), (aM, .inl (cJ, 3, .inr (.inl (fun j => lN (updN m3 q (mkN (potA g (upd S3 t (nI (lowC g p rg bd ab ob S3 t))) q) (fac g)) j)))))] H := hP
                      have hD : va_D AA [(bG, .inl (cI, 9, .inl (upd E3 t (nI (lowC g p rg bd ab ob S3 t))))), (bP, .inl (cI, 18, .inl (fun j => pA S dt j))), (bN, .inl (cI, 4, .inl (fun j => nI (nA g p dm (fac g) j)))), (bW, .inl (cJ, 36, .inr (.inl (fun j => lN (wm j))))), (bQ, .inl (cJ, 16, .inr (.inl (fun j => lN (qm j))))), (aM, .inl (cJ, 3, .inr (.inl (fun j => lN (updN m3 q (mkN (potA g (upd S3 t (nI (lowC g p rg bd ab ob S3 t))) q) (fac g)) j)))))] := hD
                      refine lv_iinc (v := nI (k + 1)) (lv' := [(11, .int (nI (k + 1))), (13, .int (nI t)), (12, .int (nI lq)), (7, .int (nI (rest / fac (clN S g q)))), (10, .int (nI (rest % fac (clN S g q)))), (9, .int (nI (clN S g q))), (8, .int (nI q)), (6, .ref aM), (0, .ref bN), (1, .ref bP), (2, .ref bW), (3, .ref bQ), (4, .int (nI num)), (5, .ref bG)]) hXX hBB dL_follows_160 hl (k := 2) rfl (nI_1 _) (by decide) rfl (fun ls hl => ?_)
                      refine lv_goto (tgt := 60) hXX hBB dL_follows_163 (by decide) ?_
                      have hi_K9 : FLK g p rg bd ab ob S dm num q d rest (k + 1) (upd S3 t (nI (lowC g p rg bd ab ob S3 t))) (upd E3 t (nI (lowC g p rg bd ab ob S3 t))) := by exact hst.1
                      have hi_M3 : MM g p (upd S3 t (nI (lowC g p rg bd ab ob S3 t))) (updN m3 q (mkN (potA g (upd S3 t (nI (lowC g p rg bd ab ob S3 t))) q) (fac g))) := by exact mm_upd hM3 hb9.1 hb9.2.1
                      have hmm : (clN S g q) - (k + 1) < N_60 := by omega
                      exact ih_60 (k + 1) (upd S3 t (nI (lowC g p rg bd ab ob S3 t))) (upd E3 t (nI (lowC g p rg bd ab ob S3 t))) (updN m3 q (mkN (potA g (upd S3 t (nI (lowC g p rg bd ab ob S3 t))) q) (fac g))) hi_K9 hi_M3 hmm _ _ (hP.sub [3, 0, 4, 5, 2, 1] rfl) (hD.sub [3, 0, 4, 5, 2, 1] (by decide) rfl) hS ls (lv_sub hl [0, 3, 4, 5, 6, 7, 8, 9, 10, 11, 12, 13] rfl)
                    · have c_95 : 0 < lq := m_pos_le_f (by omega) c_95
                      refine lv_iload hXX hBB dL_follows_98 (lv_at hl 1 rfl) ?_
                      refine lv_aload_n hXX hBB dL_follows_100 rfl (lv_at hl 9 rfl) ?_
                      refine lv_iload hXX hBB dL_follows_101 (lv_at hl 0 rfl) ?_
                      refine m_iald hXX hBB hK hP 5 0 rfl rfl (i := t) (by omega) (by decide) (x := pA S dt t) rfl dL_follows_103 ?_
                      refine m_top (y := S t) (by exact pA_lo _ _ (by omega)) ?_
                      refine lv_if_lt (tgt := 111) hXX hBB dL_follows_104 (by decide) (fun c_104 => ?_) (fun c_104 => ?_)
                      · have c_104 := c_104
                        refine lv_iconst (v := nI 1) hXX hBB dL_follows_111 (by decide) ?_
                        refine lv_isub hXX hBB dL_follows_112 ?_
                        refine m_top (y := nI (lq - 1)) (by first | exact pk_sub (by omega) | exact absurd (sv_lt2 (hs.v hg4 (show t < g * p by omega)) c_104) (sv_ge (hs.v hg4 (show t < g * p by omega)) c_90)) ?_
                        refine lv_istore (lv' := [(12, .int (nI (lq - 1))), (13, .int (nI t)), (11, .int (nI k)), (7, .int (nI (rest / fac (clN S g q)))), (10, .int (nI (rest % fac (clN S g q)))), (9, .int (nI (clN S g q))), (8, .int (nI q)), (6, .ref aM), (0, .ref bN), (1, .ref bP), (2, .ref bW), (3, .ref bQ), (4, .int (nI num)), (5, .ref bG)]) hXX hBB dL_follows_113 hl (by decide) rfl (fun ls hl => ?_)
                        refine lv_iinc (v := nI (t + 1)) (lv' := [(13, .int (nI (t + 1))), (12, .int (nI (lq - 1))), (11, .int (nI k)), (7, .int (nI (rest / fac (clN S g q)))), (10, .int (nI (rest % fac (clN S g q)))), (9, .int (nI (clN S g q))), (8, .int (nI q)), (6, .ref aM), (0, .ref bN), (1, .ref bP), (2, .ref bW), (3, .ref bQ), (4, .int (nI num)), (5, .ref bG)]) hXX hBB dL_follows_115 hl (k := 1) rfl (nI_1 _) (by decide) rfl (fun ls hl => ?_)
                        refine lv_goto (tgt := 86) hXX hBB dL_follows_118 (by decide) ?_
                        have hi_t1 : g * q ≤ (t + 1) ∧ (t + 1) ≤ g * q + g := by omega
                        have hi_l5 : (lq - 1) < 5 := by omega
                        have hi_hf : nth S (g * q + g - (t + 1)) (t + 1) (lq - 1) = nI (balT S g q (atN (clN S g q) (rest % fac (clN S g q)) k)) := by
                          rw [hf1]
                          first | exact nth_no hf9 c_104 | exact nth_yes hf9 (sv_lt2 (hs.v hg4 (show t < g * p by omega)) c_104) (by omega) | exact absurd (sv_lt2 (hs.v hg4 (show t < g * p by omega)) c_104) (sv_ge (hs.v hg4 (show t < g * p by omega)) c_90)
                        have hmm : g * q + g - (t + 1) < N_86 := by omega
                        exact ih_86 (lq - 1) (t + 1) hi_t1 hi_l5 hi_hf hmm _ _ (hP.sub [0, 1, 2, 3, 4, 5] rfl) (hD.sub [0, 1, 2, 3, 4, 5] (by decide) rfl) hS ls (lv_sub hl [0, 1, 2, 3, 4, 5, 6, 7, 8, 9, 10, 11, 12, 13] rfl)
                      · have c_104 := c_104
                        refine lv_iconst (v := nI 0) hXX hBB dL_follows_107 (by decide) ?_
                        refine lv_goto (tgt := 112) hXX hBB dL_follows_108 (by decide) ?_
                        refine lv_isub hXX hBB dL_follows_112 ?_
                        refine m_top (y := nI lq) (by exact m_sub0 _) ?_
                        refine lv_istore (lv' := [(12, .int (nI lq)), (13, .int (nI t)), (11, .int (nI k)), (7, .int (nI (rest / fac (clN S g q)))), (10, .int (nI (rest % fac (clN S g q)))), (9, .int (nI (clN S g q))), (8, .int (nI q)), (6, .ref aM), (0, .ref bN), (1, .ref bP), (2, .ref bW), (3, .ref bQ), (4, .int (nI num)), (5, .ref bG)]) hXX hBB dL_follows_113 hl (by decide) rfl (fun ls hl => ?_)
                        refine lv_iinc (v := nI (t + 1)) (lv' := [(13, .int (nI (t + 1))), (12, .int (nI lq)), (11, .int (nI k)), (7, .int (nI (rest / fac (clN S g q)))), (10, .int (nI (rest % fac (clN S g q)))), (9, .int (nI (clN S g q))), (8, .int (nI q)), (6, .ref aM), (0, .ref bN), (1, .ref bP), (2, .ref bW), (3, .ref bQ), (4, .int (nI num)), (5, .ref bG)]) hXX hBB dL_follows_115 hl (k := 1) rfl (nI_1 _) (by decide) rfl (fun ls hl => ?_)
                        refine lv_goto (tgt := 86) hXX hBB dL_follows_118 (by decide) ?_
                        have hi_t1 : g * q ≤ (t + 1) ∧ (t + 1) ≤ g * q + g := by omega
                        have hi_l5 : lq < 5 := by omega
                        have hi_hf : nth S (g * q + g - (t + 1)) (t + 1) lq = nI (balT S g q (atN (clN S g q) (rest % fac (clN S g q)) k)) := by
                          rw [hf1]
                          first | exact nth_no hf9 c_104 | exact nth_yes hf9 (sv_lt2 (hs.v hg4 (show t < g * p by omega)) c_104) (by omega) | exact absurd (sv_lt2 (hs.v hg4 (show t < g * p by omega)) c_104) (sv_ge (hs.v hg4 (show t < g * p by omega)) c_90)
                        have hmm : g * q + g - (t + 1) < N_86 := by omega
                        exact ih_86 lq (t + 1) hi_t1 hi_l5 hi_hf hmm _ _ (hP.sub [0, 1, 2, 3, 4, 5] rfl) (hD.sub [0, 1, 2, 3, 4, 5] (by decide) rfl) hS ls (lv_sub hl [0, 1, 2, 3, 4, 5, 6, 7, 8, 9, 10, 11, 12, 13] rfl)
              have hi_t1 : g * q ≤ (g * q) ∧ (g * q) ≤ g * q + g := by omega
              have hi_l5 : (atN (clN S g q) (rest % fac (clN S g q)) k) < 5 := by omega
              have hi_hf : nth S (g * q + g - (g * q)) (g * q) (atN (clN S g q) (rest % fac (clN S g q)) k) = nI (balT S g q (atN (clN S g q) (rest % fac (clN S g q)) k)) := by
                rw [show g * q + g - g * q = g by omega]
                exact nth_bal hT hq9 hsb.2.1
              exact L_86 _ (atN (clN S g q) (rest % fac (clN S g q)) k) (g * q) hi_t1 hi_l5 hi_hf (Nat.lt_succ_self _) _ _ hP hD hS ls (lv_sub hl [0, 1, 2, 3, 4, 5, 6, 7, 8, 9, 10, 11, 12, 13] rfl)
        have hi_K9 : FLK g p rg bd ab ob S dm num q d rest 0 S2 E := by exact FLK_0 hC hQ9 hq9
        have hi_M3 : MM g p S2 m2 := by exact hM
        exact L_60 _ 0 S2 E m2 hi_K9 hi_M3 (Nat.lt_succ_self _) _ _ hP hD hS ls (lv_sub hl [0, 1, 2, 3, 4, 5, 6, 7, 8, 9, 10, 11] rfl)
  have hi_Q9 : FLP g p rg bd ab ob S dm num 0 S dm num E0 := by exact FLP_0 hC hr0
  have hi_M : MM g p S (layM g p S) := by exact lay_MM g p S
  have hi_rl : num < 2 ^ 31 := by exact hnum
  exact L_20 _ num 0 dm S E0 (layM g p S) hi_Q9 hi_M hi_rl (Nat.lt_succ_self _) _ _ hP hD hS ls (lv_sub hl [0, 1, 2, 3, 4, 5, 6, 7, 8] rfl)
