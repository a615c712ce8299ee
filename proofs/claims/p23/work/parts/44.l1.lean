/-! own rows: the law's small methods -/
theorem nuG_1 {u z lf a : Nat} (h : nuG u (4 - z) z lf = a) (hz : z ≤ 4) (ha : a < 4) : z < 4 := by
  by_cases q : z = 4
  · subst q
    have : nuG u (4 - 4) 4 lf = 4 := rfl
    omega
  · omega
theorem nuG_u {u z lf a : Nat} (h : nuG u (4 - z) z lf = a) (hz : z < 4) : (if u.testBit z then nuG u (4 - (z + 1)) (z + 1) lf else if lf = 0 then z else nuG u (4 - (z + 1)) (z + 1) (lf - 1)) = a := by
  rw [show 4 - z = (4 - (z + 1)) + 1 by omega] at h
  exact h
theorem bit_t {u z : Nat} (h : u / 2 ^ z % 2 = 1) : u.testBit z = true := by rw [Nat.testBit_eq_decide_div_mod_eq]; exact decide_eq_true h
theorem bit_f {u z : Nat} (h : ¬ u / 2 ^ z % 2 = 1) : u.testBit z = false := by rw [Nat.testBit_eq_decide_div_mod_eq]; exact decide_eq_false h
theorem nuG_go1 {u z lf a : Nat} (h : nuG u (4 - z) z lf = a) (hz : z < 4) (hb : u / 2 ^ z % 2 = 1) : nuG u (4 - (z + 1)) (z + 1) lf = a := by
  have h1 := nuG_u h hz
  rw [bit_t hb] at h1
  exact h1
theorem nuG_go2 {u z lf a : Nat} (h : nuG u (4 - z) z lf = a) (hz : z < 4) (hb : ¬ u / 2 ^ z % 2 = 1) (hl : 0 < lf) : nuG u (4 - (z + 1)) (z + 1) (lf - 1) = a := by
  have h1 := nuG_u h hz
  rw [bit_f hb] at h1
  simp only [Bool.false_eq_true, if_false] at h1
  rw [if_neg (by omega)] at h1
  exact h1
theorem nuG_end {u z lf a : Nat} (h : nuG u (4 - z) z lf = a) (hz : z < 4) (hb : ¬ u / 2 ^ z % 2 = 1) (hl : lf = 0) : z = a := by
  have h1 := nuG_u h hz
  rw [bit_f hb] at h1
  simp only [Bool.false_eq_true, if_false] at h1
  rw [if_pos hl] at h1
  exact h1
abbrev rmL_at : Room := { frames := 0, cells := 0, slots := 0, locals := 0 }
set_option maxHeartbeats 4000000 in
set_option maxRecDepth 100000 in
theorem kL_at (l : Launch) (D : va_G) (n : Nat) (o : Nat) (i : Nat) (hn0 : 0 < n) (hn5 : n < 5) (ho : o < fac n) (hi : i < n) : Ci l yL_at wsL_at rmL_at D [] [.int (nI n), .int (nI o), .int (nI i)] [] (fun (r : Int32) (_ : Unit) => r = nI (atN n o i)) (fun (_ : Unit) => []) := by
  refine Ci_of (cc := cL_at) (maxL := 9) (by decide) rfl (Nat.le_of_ble_eq_true rfl) ?_
  intro pR eV sT mI args below meth cO AA QQ ls hXX hBB hml hown hts hnm hN hK hP hD hS hAA hl hret
  have hl : lv_has ls 9 [(0, .int (nI n)), (1, .int (nI o)), (2, .int (nI i))] := hl
  refine lv_iconst (v := nI 0) hXX hBB dL_at_0 (by decide) ?_
  refine lv_istore_n (lv' := [(3, .int (nI 0)), (0, .int (nI n)), (1, .int (nI o)), (2, .int (nI i))]) hXX hBB dL_at_1 rfl hl (by decide) rfl (fun ls hl => ?_)
  refine lv_iload_n hXX hBB dL_at_2 rfl (lv_at hl 2 rfl) ?_
  refine lv_istore (lv' := [(4, .int (nI o)), (3, .int (nI 0)), (0, .int (nI n)), (1, .int (nI o)), (2, .int (nI i))]) hXX hBB dL_at_3 hl (by decide) rfl (fun ls hl => ?_)
  refine lv_iconst (v := nI 0) hXX hBB dL_at_5 (by decide) ?_
  refine lv_istore (lv' := [(5, .int (nI 0)), (4, .int (nI o)), (3, .int (nI 0)), (0, .int (nI n)), (1, .int (nI o)), (2, .int (nI i))]) hXX hBB dL_at_6 hl (by decide) rfl (fun ls hl => ?_)
  have J_29 : ∀ (H : Heap) (locs : List Loc), va_P D vwCl [] H → va_D AA [] → va_S AA sT.heap H locs → ∀ (ls : Array Slot), lv_has ls 9 [(5, .int (nI 0)), (4, .int (nI o)), (3, .int (nI 0)), (0, .int (nI n)), (1, .int (nI o)), (2, .int (nI i))] → W pR l eV rmL_at sT mI args below meth cO H locs 0 0 QQ (F0 mI 29 ls [.int (nI (atP n 0))]) := by
    intro H locs hP hD hS ls hl
    refine lv_istore (lv' := [(6, .int (nI (atP n 0))), (5, .int (nI 0)), (4, .int (nI o)), (3, .int (nI 0)), (0, .int (nI n)), (1, .int (nI o)), (2, .int (nI i))]) hXX hBB dL_at_29 hl (by decide) rfl (fun ls hl => ?_)
    refine lv_iconst (v := nI 0) hXX hBB dL_at_31 (by decide) ?_
    refine lv_istore (lv' := [(7, .int (nI 0)), (6, .int (nI (atP n 0))), (5, .int (nI 0)), (4, .int (nI o)), (3, .int (nI 0)), (0, .int (nI n)), (1, .int (nI o)), (2, .int (nI i))]) hXX hBB dL_at_32 hl (by decide) rfl (fun ls hl => ?_)
    have L_34 : ∀ (N_34 : Nat) (k : Nat) (x : Nat), (k ≤ i + 1) → (0 < k → x = atN n o (k - 1)) → i + 1 - k < N_34 → ∀ (H : Heap) (locs : List Loc), va_P D vwCl [] H → va_D AA [] → va_S AA sT.heap H locs → ∀ (ls : Array Slot), lv_has ls 9 [(7, .int (nI k)), (6, .int (nI (atP n k))), (5, .int (nI x)), (4, .int (nI (atR n o k))), (3, .int (nI (atU n o k))), (0, .int (nI n)), (1, .int (nI o)), (2, .int (nI i))] → W pR l eV rmL_at sT mI args below meth cO H locs 0 0 QQ (F0 mI 34 ls []) := by
      intro N_34
      induction N_34 with
      | zero =>
        intro k x hk hx hMM
        exact absurd hMM (Nat.not_lt_zero _)
      | succ N_34 ih_34 =>
        intro k x hk hx hMM H locs hP hD hS ls hl
        refine lv_iload hXX hBB dL_at_34 (lv_at hl 0 rfl) ?_
        refine lv_iload_n hXX hBB dL_at_36 rfl (lv_at hl 7 rfl) ?_
        refine lv_icmp_gt (tgt := 120) hXX hBB dL_at_37 (by decide) (fun c_37 => ?_) (fun c_37 => ?_)
        · have c_37 : i < k := (nI_ltI (by omega) (by omega)).mp c_37
          refine lv_iload hXX hBB dL_at_120 (lv_at hl 2 rfl) ?_
          refine hret (r := nI x) () ?_ (rfl) (hP.sub [] rfl) (hD.sub [] (by decide) rfl) hS (Nat.le_of_ble_eq_true rfl) (Nat.le_of_ble_eq_true rfl) dL_at_122
          show nI x = nI (atN n o i)
          have h9 := hx (by omega)
          rw [h9, show k - 1 = i by omega]
        · have c_37 : ¬ i < k := fun h9 => c_37 ((nI_ltI (by omega) (by omega)).mpr h9)
          have hP9 := at_P n hn5 k (by omega)
          have hR9 := at_R n hn5 o ho k (by omega)
          have hU9 := at_U n hn5 o ho k (by omega)
          have hA9 := at_lt n hn5 o ho k (by omega)
          have hL9 : atL n o k < 25 := Nat.lt_of_le_of_lt (Nat.div_le_self _ _) hR9
          refine lv_iload hXX hBB dL_at_40 (lv_at hl 1 rfl) ?_
          refine lv_iload_n hXX hBB dL_at_42 rfl (lv_at hl 5 rfl) ?_
          refine lv_iload hXX hBB dL_at_43 (lv_at hl 0 rfl) ?_
          refine lv_isub hXX hBB dL_at_45 ?_
          refine m_top (y := nI (n - k)) (pk_sub (by omega)) ?_
          refine lv_idiv hXX hBB dL_at_46 (nI_ne0 (by omega) (by omega)) ?_
          refine m_top (y := nI (atP n (k + 1))) (by exact pk_div (by omega) (by omega) (by omega)) ?_
          refine lv_istore (lv' := [(6, .int (nI (atP n (k + 1)))), (7, .int (nI k)), (5, .int (nI x)), (4, .int (nI (atR n o k))), (3, .int (nI (atU n o k))), (0, .int (nI n)), (1, .int (nI o)), (2, .int (nI i))]) hXX hBB dL_at_47 hl (by decide) rfl (fun ls hl => ?_)
          refine lv_iload hXX hBB dL_at_49 (lv_at hl 3 rfl) ?_
          refine lv_iload hXX hBB dL_at_51 (lv_at hl 0 rfl) ?_
          refine lv_idiv hXX hBB dL_at_53 (nI_ne0 (by omega) (by omega)) ?_
          refine m_top (y := nI (atL n o k)) (by exact pk_div (by omega) (by omega) (by omega)) ?_
          refine lv_istore (lv' := [(8, .int (nI (atL n o k))), (6, .int (nI (atP n (k + 1)))), (7, .int (nI k)), (5, .int (nI x)), (4, .int (nI (atR n o k))), (3, .int (nI (atU n o k))), (0, .int (nI n)), (1, .int (nI o)), (2, .int (nI i))]) hXX hBB dL_at_54 hl (by decide) rfl (fun ls hl => ?_)
          refine lv_iload hXX hBB dL_at_56 (lv_at hl 4 rfl) ?_
          refine lv_iload hXX hBB dL_at_58 (lv_at hl 1 rfl) ?_
          refine lv_irem hXX hBB dL_at_60 (nI_ne0 (by omega) (by omega)) ?_
          refine m_top (y := nI (atR n o (k + 1))) (by exact pk_rem (by omega) (by omega) (by omega)) ?_
          refine lv_istore (lv' := [(4, .int (nI (atR n o (k + 1)))), (8, .int (nI (atL n o k))), (6, .int (nI (atP n (k + 1)))), (7, .int (nI k)), (5, .int (nI x)), (3, .int (nI (atU n o k))), (0, .int (nI n)), (1, .int (nI o)), (2, .int (nI i))]) hXX hBB dL_at_61 hl (by decide) rfl (fun ls hl => ?_)
          refine lv_iconst (v := nI 0) hXX hBB dL_at_63 (by decide) ?_
          refine lv_istore (lv' := [(5, .int (nI 0)), (4, .int (nI (atR n o (k + 1)))), (8, .int (nI (atL n o k))), (6, .int (nI (atP n (k + 1)))), (7, .int (nI k)), (3, .int (nI (atU n o k))), (0, .int (nI n)), (1, .int (nI o)), (2, .int (nI i))]) hXX hBB dL_at_64 hl (by decide) rfl (fun ls hl => ?_)
          have L_66 : ∀ (N_66 : Nat) (z : Nat) (lf : Nat), (z ≤ 4) → (lf < 25) → (nuG (atU n o k) (4 - z) z lf = atN n o k) → 4 - z < N_66 → ∀ (H : Heap) (locs : List Loc), va_P D vwCl [] H → va_D AA [] → va_S AA sT.heap H locs → ∀ (ls : Array Slot), lv_has ls 9 [(5, .int (nI z)), (4, .int (nI (atR n o (k + 1)))), (8, .int (nI lf)), (6, .int (nI (atP n (k + 1)))), (7, .int (nI k)), (3, .int (nI (atU n o k))), (0, .int (nI n)), (1, .int (nI o)), (2, .int (nI i))] → W pR l eV rmL_at sT mI args below meth cO H locs 0 0 QQ (F0 mI 66 ls []) := by
            intro N_66
            induction N_66 with
            | zero =>
              intro z lf hz hlf hG hMM
              exact absurd hMM (Nat.not_lt_zero _)
            | succ N_66 ih_66 =>
              intro z lf hz hlf hG hMM H locs hP hD hS ls hl
              refine lv_iload_n hXX hBB dL_at_66 rfl (lv_at hl 5 rfl) ?_
              refine lv_iload hXX hBB dL_at_67 (lv_at hl 0 rfl) ?_
              have hz4 : z < 4 := nuG_1 hG hz (by omega)
              refine lv_ishr hXX hBB dL_at_69 ?_
              refine m_top (y := nI (atU n o k / 2 ^ z)) (by exact m_shrN (by omega) (by omega)) ?_
              refine lv_iconst (v := nI 1) hXX hBB dL_at_70 (by decide) ?_
              refine lv_iand hXX hBB dL_at_71 ?_
              refine m_top (y := nI (atU n o k / 2 ^ z % 2)) (by exact m_and1 _) ?_
              refine lv_iconst (v := nI 1) hXX hBB dL_at_72 (by decide) ?_
              refine lv_icmp_eq (tgt := 81) hXX hBB dL_at_73 (by decide) (fun c_73 => ?_) (fun c_73 => ?_)
              · have c_73 : (atU n o k / 2 ^ z % 2) = 1 := (nI_eq (by omega) (by omega)).mp c_73
                refine lv_iload hXX hBB dL_at_81 (lv_at hl 2 rfl) ?_
                refine lv_iload_n hXX hBB dL_at_83 rfl (lv_at hl 5 rfl) ?_
                refine lv_iload hXX hBB dL_at_84 (lv_at hl 0 rfl) ?_
                refine lv_ishr hXX hBB dL_at_86 ?_
                refine m_top (y := nI (atU n o k / 2 ^ z)) (by exact m_shrN (by omega) (by omega)) ?_
                refine lv_iconst (v := nI 1) hXX hBB dL_at_87 (by decide) ?_
                refine lv_iand hXX hBB dL_at_88 ?_
                refine m_top (y := nI (atU n o k / 2 ^ z % 2)) (by exact m_and1 _) ?_
                refine lv_iconst (v := nI 1) hXX hBB dL_at_89 (by decide) ?_
                refine lv_icmp_ne (tgt := 97) hXX hBB dL_at_90 (by decide) (fun c_90 => ?_) (fun c_90 => ?_)
                · have c_90 : ¬ (atU n o k / 2 ^ z % 2) = 1 := fun h9 => c_90 ((nI_eq (by omega) (by omega)).mpr h9)
                  refine lv_iconst (v := nI 1) hXX hBB dL_at_97 (by decide) ?_
                  refine lv_isub hXX hBB dL_at_98 ?_
                  refine m_top (y := nI (lf - 1)) (by exact pk_sub (by omega)) ?_
                  refine lv_istore (lv' := [(8, .int (nI (lf - 1))), (5, .int (nI z)), (4, .int (nI (atR n o (k + 1)))), (6, .int (nI (atP n (k + 1)))), (7, .int (nI k)), (3, .int (nI (atU n o k))), (0, .int (nI n)), (1, .int (nI o)), (2, .int (nI i))]) hXX hBB dL_at_99 hl (by decide) rfl (fun ls hl => ?_)
                  refine lv_iinc (v := nI (z + 1)) (lv' := [(5, .int (nI (z + 1))), (8, .int (nI (lf - 1))), (4, .int (nI (atR n o (k + 1)))), (6, .int (nI (atP n (k + 1)))), (7, .int (nI k)), (3, .int (nI (atU n o k))), (0, .int (nI n)), (1, .int (nI o)), (2, .int (nI i))]) hXX hBB dL_at_101 hl (k := 1) rfl (nI_1 _) (by decide) rfl (fun ls hl => ?_)
                  refine lv_goto (tgt := 66) hXX hBB dL_at_104 (by decide) ?_
                  have hi_z : (z + 1) ≤ 4 := by omega
                  have hi_lf : (lf - 1) < 25 := by omega
                  have hi_G : nuG (atU n o k) (4 - (z + 1)) (z + 1) (lf - 1) = atN n o k := by first | exact nuG_go1 hG hz4 c_90 | exact nuG_go2 hG hz4 c_90 (by omega)
                  have hmm : 4 - (z + 1) < N_66 := by omega
                  exact ih_66 (z + 1) (lf - 1) hi_z hi_lf hi_G hmm _ _ (hP.sub [] rfl) (hD.sub [] (by decide) rfl) hS ls (lv_sub hl [0, 2, 1, 3, 4, 5, 6, 7, 8] rfl)
                · have c_90 : (atU n o k / 2 ^ z % 2) = 1 := (nI_eq (by omega) (by omega)).mp c_90
                  refine lv_iconst (v := nI 0) hXX hBB dL_at_93 (by decide) ?_
                  refine lv_goto (tgt := 98) hXX hBB dL_at_94 (by decide) ?_
                  refine lv_isub hXX hBB dL_at_98 ?_
                  refine m_top (y := nI lf) (by exact m_sub0 _) ?_
                  refine lv_istore (lv' := [(8, .int (nI lf)), (5, .int (nI z)), (4, .int (nI (atR n o (k + 1)))), (6, .int (nI (atP n (k + 1)))), (7, .int (nI k)), (3, .int (nI (atU n o k))), (0, .int (nI n)), (1, .int (nI o)), (2, .int (nI i))]) hXX hBB dL_at_99 hl (by decide) rfl (fun ls hl => ?_)
                  refine lv_iinc (v := nI (z + 1)) (lv' := [(5, .int (nI (z + 1))), (8, .int (nI lf)), (4, .int (nI (atR n o (k + 1)))), (6, .int (nI (atP n (k + 1)))), (7, .int (nI k)), (3, .int (nI (atU n o k))), (0, .int (nI n)), (1, .int (nI o)), (2, .int (nI i))]) hXX hBB dL_at_101 hl (k := 1) rfl (nI_1 _) (by decide) rfl (fun ls hl => ?_)
                  refine lv_goto (tgt := 66) hXX hBB dL_at_104 (by decide) ?_
                  have hi_z : (z + 1) ≤ 4 := by omega
                  have hi_lf : lf < 25 := by omega
                  have hi_G : nuG (atU n o k) (4 - (z + 1)) (z + 1) lf = atN n o k := by first | exact nuG_go1 hG hz4 c_90 | exact nuG_go2 hG hz4 c_90 (by omega)
                  have hmm : 4 - (z + 1) < N_66 := by omega
                  exact ih_66 (z + 1) lf hi_z hi_lf hi_G hmm _ _ (hP.sub [] rfl) (hD.sub [] (by decide) rfl) hS ls (lv_sub hl [0, 2, 1, 3, 4, 5, 6, 7, 8] rfl)
              · have c_73 : ¬ (atU n o k / 2 ^ z % 2) = 1 := fun h9 => c_73 ((nI_eq (by omega) (by omega)).mpr h9)
                refine lv_iload hXX hBB dL_at_76 (lv_at hl 2 rfl) ?_
                refine lv_if_le (tgt := 107) hXX hBB dL_at_78 (by decide) (fun c_78 => ?_) (fun c_78 => ?_)
                · have c_78 : lf = 0 := m_nps_le_t (by omega) c_78
                  have hz9 : z = atN n o k := nuG_end hG hz4 c_73 c_78
                  refine lv_iload_n hXX hBB dL_at_107 rfl (lv_at hl 5 rfl) ?_
                  refine lv_iconst (v := nI 1) hXX hBB dL_at_108 (by decide) ?_
                  refine lv_iload hXX hBB dL_at_109 (lv_at hl 0 rfl) ?_
                  refine lv_ishl hXX hBB dL_at_111 ?_
                  refine m_top (y := nI (2 ^ z)) (by exact m_bit (by omega)) ?_
                  refine lv_ior hXX hBB dL_at_112 ?_
                  refine m_top (y := nI (atU n o (k + 1))) (by rw [hz9]; exact q_or _ _) ?_
                  refine lv_istore_n (lv' := [(3, .int (nI (atU n o (k + 1)))), (5, .int (nI z)), (4, .int (nI (atR n o (k + 1)))), (8, .int (nI lf)), (6, .int (nI (atP n (k + 1)))), (7, .int (nI k)), (0, .int (nI n)), (1, .int (nI o)), (2, .int (nI i))]) hXX hBB dL_at_113 rfl hl (by decide) rfl (fun ls hl => ?_)
                  refine lv_iinc (v := nI (k + 1)) (lv' := [(7, .int (nI (k + 1))), (3, .int (nI (atU n o (k + 1)))), (5, .int (nI z)), (4, .int (nI (atR n o (k + 1)))), (8, .int (nI lf)), (6, .int (nI (atP n (k + 1)))), (0, .int (nI n)), (1, .int (nI o)), (2, .int (nI i))]) hXX hBB dL_at_114 hl (k := 5) rfl (nI_1 _) (by decide) rfl (fun ls hl => ?_)
                  refine lv_goto (tgt := 34) hXX hBB dL_at_117 (by decide) ?_
                  have hi_k : (k + 1) ≤ i + 1 := by omega
                  have hi_x : 0 < (k + 1) → z = atN n o ((k + 1) - 1) := by exact fun _ => hz9
                  have hmm : i + 1 - (k + 1) < N_34 := by omega
                  exact ih_34 (k + 1) z hi_k hi_x hmm _ _ (hP.sub [] rfl) (hD.sub [] (by decide) rfl) hS ls (lv_sub hl [0, 5, 2, 3, 1, 6, 7, 8] rfl)
                · have c_78 : 0 < lf := m_pos_le_f (by omega) c_78
                  refine lv_iload hXX hBB dL_at_81 (lv_at hl 2 rfl) ?_
                  refine lv_iload_n hXX hBB dL_at_83 rfl (lv_at hl 5 rfl) ?_
                  refine lv_iload hXX hBB dL_at_84 (lv_at hl 0 rfl) ?_
                  refine lv_ishr hXX hBB dL_at_86 ?_
                  refine m_top (y := nI (atU n o k / 2 ^ z)) (by exact m_shrN (by omega) (by omega)) ?_
                  refine lv_iconst (v := nI 1) hXX hBB dL_at_87 (by decide) ?_
                  refine lv_iand hXX hBB dL_at_88 ?_
                  refine m_top (y := nI (atU n o k / 2 ^ z % 2)) (by exact m_and1 _) ?_
                  refine lv_iconst (v := nI 1) hXX hBB dL_at_89 (by decide) ?_
                  refine lv_icmp_ne (tgt := 97) hXX hBB dL_at_90 (by decide) (fun c_90 => ?_) (fun c_90 => ?_)
                  · have c_90 : ¬ (atU n o k / 2 ^ z % 2) = 1 := fun h9 => c_90 ((nI_eq (by omega) (by omega)).mpr h9)
                    refine lv_iconst (v := nI 1) hXX hBB dL_at_97 (by decide) ?_
                    refine lv_isub hXX hBB dL_at_98 ?_
                    refine m_top (y := nI (lf - 1)) (by exact pk_sub (by omega)) ?_
                    refine lv_istore (lv' := [(8, .int (nI (lf - 1))), (5, .int (nI z)), (4, .int (nI (atR n o (k + 1)))), (6, .int (nI (atP n (k + 1)))), (7, .int (nI k)), (3, .int (nI (atU n o k))), (0, .int (nI n)), (1, .int (nI o)), (2, .int (nI i))]) hXX hBB dL_at_99 hl (by decide) rfl (fun ls hl => ?_)
                    refine lv_iinc (v := nI (z + 1)) (lv' := [(5, .int (nI (z + 1))), (8, .int (nI (lf - 1))), (4, .int (nI (atR n o (k + 1)))), (6, .int (nI (atP n (k + 1)))), (7, .int (nI k)), (3, .int (nI (atU n o k))), (0, .int (nI n)), (1, .int (nI o)), (2, .int (nI i))]) hXX hBB dL_at_101 hl (k := 1) rfl (nI_1 _) (by decide) rfl (fun ls hl => ?_)
                    refine lv_goto (tgt := 66) hXX hBB dL_at_104 (by decide) ?_
                    have hi_z : (z + 1) ≤ 4 := by omega
                    have hi_lf : (lf - 1) < 25 := by omega
                    have hi_G : nuG (atU n o k) (4 - (z + 1)) (z + 1) (lf - 1) = atN n o k := by first | exact nuG_go1 hG hz4 c_90 | exact nuG_go2 hG hz4 c_90 (by omega)
                    have hmm : 4 - (z + 1) < N_66 := by omega
                    exact ih_66 (z + 1) (lf - 1) hi_z hi_lf hi_G hmm _ _ (hP.sub [] rfl) (hD.sub [] (by decide) rfl) hS ls (lv_sub hl [0, 2, 1, 3, 4, 5, 6, 7, 8] rfl)
                  · have c_90 : (atU n o k / 2 ^ z % 2) = 1 := (nI_eq (by omega) (by omega)).mp c_90
                    refine lv_iconst (v := nI 0) hXX hBB dL_at_93 (by decide) ?_
                    refine lv_goto (tgt := 98) hXX hBB dL_at_94 (by decide) ?_
                    refine lv_isub hXX hBB dL_at_98 ?_
                    refine m_top (y := nI lf) (by exact m_sub0 _) ?_
                    refine lv_istore (lv' := [(8, .int (nI lf)), (5, .int (nI z)), (4, .int (nI (atR n o (k + 1)))), (6, .int (nI (atP n (k + 1)))), (7, .int (nI k)), (3, .int (nI (atU n o k))), (0, .int (nI n)), (1, .int (nI o)), (2, .int (nI i))]) hXX hBB dL_at_99 hl (by decide) rfl (fun ls hl => ?_)
                    refine lv_iinc (v := nI (z + 1)) (lv' := [(5, .int (nI (z + 1))), (8, .int (nI lf)), (4, .int (nI (atR n o (k + 1)))), (6, .int (nI (atP n (k + 1)))), (7, .int (nI k)), (3, .int (nI (atU n o k))), (0, .int (nI n)), (1, .int (nI o)), (2, .int (nI i))]) hXX hBB dL_at_101 hl (k := 1) rfl (nI_1 _) (by decide) rfl (fun ls hl => ?_)
                    refine lv_goto (tgt := 66) hXX hBB dL_at_104 (by decide) ?_
                    have hi_z : (z + 1) ≤ 4 := by omega
                    have hi_lf : lf < 25 := by omega
                    have hi_G : nuG (atU n o k) (4 - (z + 1)) (z + 1) lf = atN n o k := by first | exact nuG_go1 hG hz4 c_90 | exact nuG_go2 hG hz4 c_90 (by omega)
                    have hmm : 4 - (z + 1) < N_66 := by omega
                    exact ih_66 (z + 1) lf hi_z hi_lf hi_G hmm _ _ (hP.sub [] rfl) (hD.sub [] (by decide) rfl) hS ls (lv_sub hl [0, 2, 1, 3, 4, 5, 6, 7, 8] rfl)
          have hi_z : 0 ≤ 4 := by exact Nat.zero_le _
          have hi_lf : (atL n o k) < 25 := by exact hL9
          have hi_G : nuG (atU n o k) (4 - 0) 0 (atL n o k) = atN n o k := by rfl
          exact L_66 _ 0 (atL n o k) hi_z hi_lf hi_G (Nat.lt_succ_self _) _ _ hP hD hS ls (lv_sub hl [0, 1, 2, 3, 4, 5, 6, 7, 8] rfl)
    have hi_k : 0 ≤ i + 1 := by exact Nat.zero_le _
    have hi_x : 0 < 0 → 0 = atN n o (0 - 1) := by exact fun q => absurd q (Nat.lt_irrefl 0)
    exact L_34 _ 0 0 hi_k hi_x (Nat.lt_succ_self _) _ _ hP hD hS ls (lv_sub hl [0, 1, 2, 3, 4, 5, 6, 7] rfl)
  refine lv_iload_n hXX hBB dL_at_8 rfl (lv_at hl 3 rfl) ?_
  refine lv_iconst (v := nI 4) hXX hBB dL_at_9 (by decide) ?_
  refine lv_icmp_ne (tgt := 18) hXX hBB dL_at_10 (by decide) (fun c_10 => ?_) (fun c_10 => ?_)
  · have c_10 : ¬ n = 4 := fun h9 => c_10 ((nI_eq (by omega) (by omega)).mpr h9)
    refine lv_iload_n hXX hBB dL_at_18 rfl (lv_at hl 3 rfl) ?_
    refine lv_iconst (v := nI 3) hXX hBB dL_at_19 (by decide) ?_
    refine lv_icmp_ne (tgt := 28) hXX hBB dL_at_20 (by decide) (fun c_20 => ?_) (fun c_20 => ?_)
    · have c_20 : ¬ n = 3 := fun h9 => c_20 ((nI_eq (by omega) (by omega)).mpr h9)
      refine lv_iconst (v := nI 2) hXX hBB dL_at_28 (by decide) ?_
      refine m_top (y := nI (atP n 0)) (by first | (simp [atP, c_10, c_20]; done) | (simp [atP, c_10]; done)) ?_
      exact J_29 _ _ (hP.sub [] rfl) (hD.sub [] (by decide) rfl) hS ls (lv_sub hl [0, 1, 2, 3, 4, 5] rfl)
    · have c_20 : n = 3 := (nI_eq (by omega) (by omega)).mp c_20
      refine lv_bipush (v := nI 6) hXX hBB dL_at_23 (by decide) ?_
      refine lv_goto (tgt := 29) hXX hBB dL_at_25 (by decide) ?_
      refine m_top (y := nI (atP n 0)) (by first | (simp [atP, c_10, c_20]; done) | (simp [atP, c_10]; done)) ?_
      exact J_29 _ _ (hP.sub [] rfl) (hD.sub [] (by decide) rfl) hS ls (lv_sub hl [0, 1, 2, 3, 4, 5] rfl)
  · have c_10 : n = 4 := (nI_eq (by omega) (by omega)).mp c_10
    refine lv_bipush (v := nI 24) hXX hBB dL_at_13 (by decide) ?_
    refine lv_goto (tgt := 29) hXX hBB dL_at_15 (by decide) ?_
    refine m_top (y := nI (atP n 0)) (by first | (simp [atP, c_10, c_20]; done) | (simp [atP, c_10]; done)) ?_
    exact J_29 _ _ (hP.sub [] rfl) (hD.sub [] (by decide) rfl) hS ls (lv_sub hl [0, 1, 2, 3, 4, 5] rfl)
abbrev rmL_bits : Room := { frames := 0, cells := 0, slots := 0, locals := 0 }
set_option maxHeartbeats 4000000 in
set_option maxRecDepth 100000 in
theorem kL_bits (l : Launch) (D : va_G) (x : Nat) (hx : x < 2 ^ 24) : Ci l yL_bits wsL_bits rmL_bits D [] [.long (lN x)] [] (fun (r : Int32) (_ : Unit) => r = nI (pcN 24 x)) (fun (_ : Unit) => []) := by
  refine Ci_of (cc := cL_bits) (maxL := 5) (by decide) rfl (Nat.le_of_ble_eq_true rfl) ?_
  intro pR eV sT mI args below meth cO AA QQ ls hXX hBB hml hown hts hnm hN hK hP hD hS hAA hl hret
  have hl : lv_has ls 5 [(0, .long (lN x))] := hl
  refine lv_iconst (v := nI 0) hXX hBB dL_bits_0 (by decide) ?_
  refine lv_istore_n (lv' := [(2, .int (nI 0)), (0, .long (lN x))]) hXX hBB dL_bits_1 rfl hl (by decide) rfl (fun ls hl => ?_)
  refine lv_lload_n hXX hBB dL_bits_2 rfl (lv_at hl 1 rfl) ?_
  refine lv_lstore_n (lv' := [(3, .long (lN x)), (2, .int (nI 0)), (0, .long (lN x))]) hXX hBB dL_bits_3 rfl hl (by decide) rfl (fun ls hl => ?_)
  have L_4 : ∀ (N_4 : Nat) (acc : Nat) (y : Nat), (y < 2 ^ 24) → (acc + pcN 24 y = pcN 24 x) → y < N_4 → ∀ (H : Heap) (locs : List Loc), va_P D vwCl [] H → va_D AA [] → va_S AA sT.heap H locs → ∀ (ls : Array Slot), lv_has ls 5 [(3, .long (lN y)), (2, .int (nI acc)), (0, .long (lN x))] → W pR l eV rmL_bits sT mI args below meth cO H locs 0 0 QQ (F0 mI 4 ls []) := by
    intro N_4
    induction N_4 with
    | zero =>
      intro acc y hy hc hMM
      exact absurd hMM (Nat.not_lt_zero _)
    | succ N_4 ih_4 =>
      intro acc y hy hc hMM H locs hP hD hS ls hl
      refine lv_lload_n hXX hBB dL_bits_4 rfl (lv_at hl 0 rfl) ?_
      refine lv_lconst (v := lN 0) hXX hBB dL_bits_5 rfl ?_
      refine W.lcmp hXX hBB dL_bits_6 ?_
      refine lv_if_eq (tgt := 22) hXX hBB dL_bits_7 (by decide) (fun c_7 => ?_) (fun c_7 => ?_)
      · have c_7 : y = 0 := (lcmpE (by omega) (by omega)).mp c_7
        refine lv_iload_n hXX hBB dL_bits_22 rfl (lv_at hl 1 rfl) ?_
        refine hret (r := nI acc) () ?_ (rfl) (hP.sub [] rfl) (hD.sub [] (by decide) rfl) hS (Nat.le_of_ble_eq_true rfl) (Nat.le_of_ble_eq_true rfl) dL_bits_23
        show nI acc = nI (pcN 24 x)
        have h9 : pcN 24 0 = 0 := by decide
        rw [c_7, h9] at hc
        rw [← hc, Nat.add_zero]
      · have c_7 : ¬ y = 0 := fun h9 => c_7 ((lcmpE (by omega) (by omega)).mpr h9)
        refine lv_iinc (v := nI (acc + 1)) (lv' := [(2, .int (nI (acc + 1))), (3, .long (lN y)), (0, .long (lN x))]) hXX hBB dL_bits_10 hl (k := 1) rfl (nI_1 _) (by decide) rfl (fun ls hl => ?_)
        refine lv_lload_n hXX hBB dL_bits_13 rfl (lv_at hl 1 rfl) ?_
        refine lv_lload_n hXX hBB dL_bits_14 rfl (lv_at hl 1 rfl) ?_
        refine lv_lconst (v := lN 1) hXX hBB dL_bits_15 rfl ?_
        refine lv_lsub hXX hBB dL_bits_16 ?_
        refine m_topl (y := lN (y - 1)) (by exact lN_sub (by omega)) ?_
        refine lv_land hXX hBB dL_bits_17 ?_
        refine m_topl (y := lN (y &&& (y - 1))) (by exact l_and _ _) ?_
        refine lv_lstore_n (lv' := [(3, .long (lN (y &&& (y - 1)))), (2, .int (nI (acc + 1))), (0, .long (lN x))]) hXX hBB dL_bits_18 rfl hl (by decide) rfl (fun ls hl => ?_)
        refine lv_goto (tgt := 4) hXX hBB dL_bits_19 (by decide) ?_
        have hi_y : (y &&& (y - 1)) < 2 ^ 24 := by exact Nat.lt_trans (and_lt_self (by omega)) hy
        have hi_c : (acc + 1) + pcN 24 (y &&& (y - 1)) = pcN 24 x := by
          have h9 := pcN_step 24 y (by omega) hy
          omega
        have hmm : (y &&& (y - 1)) < N_4 := by exact Nat.lt_of_lt_of_le (and_lt_self (by omega)) (Nat.le_of_lt_succ hMM)
        exact ih_4 (acc + 1) (y &&& (y - 1)) hi_y hi_c hmm _ _ (hP.sub [] rfl) (hD.sub [] (by decide) rfl) hS ls (lv_sub hl [0, 1, 2] rfl)
  have hi_y : x < 2 ^ 24 := by exact hx
  have hi_c : 0 + pcN 24 x = pcN 24 x := by exact Nat.zero_add _
  exact L_4 _ 0 x hi_y hi_c (Nat.lt_succ_self _) _ _ hP hD hS ls (lv_sub hl [0, 1, 2] rfl)
abbrev rmL_product : Room := { frames := 0, cells := 0, slots := 0, locals := 0 }
set_option maxHeartbeats 4000000 in
set_option maxRecDepth 100000 in
theorem kL_product (l : Launch) (D : va_G) (k : Nat) (hk : k < 5) : Ci l yL_product wsL_product rmL_product D [] [.int (nI k)] [] (fun (r : Int32) (_ : Unit) => r = nI (fac k)) (fun (_ : Unit) => []) := by
  refine Ci_of (cc := cL_product) (maxL := 1) (by decide) rfl (Nat.le_of_ble_eq_true rfl) ?_
  intro pR eV sT mI args below meth cO AA QQ ls hXX hBB hml hown hts hnm hN hK hP hD hS hAA hl hret
  have hl : lv_has ls 1 [(0, .int (nI k))] := hl
  refine lv_iload_n hXX hBB dL_product_0 rfl (lv_at hl 0 rfl) ?_
  refine lv_iconst (v := nI 2) hXX hBB dL_product_1 (by decide) ?_
  refine lv_icmp_ge (tgt := 9) hXX hBB dL_product_2 (by decide) (fun c_2 => ?_) (fun c_2 => ?_)
  · have c_2 : 2 ≤ k := (nI_leI (by omega) (by omega)).mp c_2
    refine lv_iload_n hXX hBB dL_product_9 rfl (lv_at hl 0 rfl) ?_
    refine lv_iconst (v := nI 2) hXX hBB dL_product_10 (by decide) ?_
    refine lv_icmp_ne (tgt := 18) hXX hBB dL_product_11 (by decide) (fun c_11 => ?_) (fun c_11 => ?_)
    · have c_11 : ¬ k = 2 := fun h9 => c_11 ((nI_eq (by omega) (by omega)).mpr h9)
      refine lv_iload_n hXX hBB dL_product_18 rfl (lv_at hl 0 rfl) ?_
      refine lv_iconst (v := nI 3) hXX hBB dL_product_19 (by decide) ?_
      refine lv_icmp_ne (tgt := 28) hXX hBB dL_product_20 (by decide) (fun c_20 => ?_) (fun c_20 => ?_)
      · have c_20 : ¬ k = 3 := fun h9 => c_20 ((nI_eq (by omega) (by omega)).mpr h9)
        refine lv_bipush (v := nI 24) hXX hBB dL_product_28 (by decide) ?_
        refine hret (r := nI 24) () ?_ (rfl) (hP.sub [] rfl) (hD.sub [] (by decide) rfl) hS (Nat.le_of_ble_eq_true rfl) (Nat.le_of_ble_eq_true rfl) dL_product_30
        show nI 24 = nI (fac k)
        rcases (show k = 0 ∨ k = 1 ∨ k = 2 ∨ k = 3 ∨ k = 4 by omega) with rfl | rfl | rfl | rfl | rfl <;> first | rfl | omega
      · have c_20 : k = 3 := (nI_eq (by omega) (by omega)).mp c_20
        refine lv_bipush (v := nI 6) hXX hBB dL_product_23 (by decide) ?_
        refine lv_goto (tgt := 30) hXX hBB dL_product_25 (by decide) ?_
        refine hret (r := nI 6) () ?_ (rfl) (hP.sub [] rfl) (hD.sub [] (by decide) rfl) hS (Nat.le_of_ble_eq_true rfl) (Nat.le_of_ble_eq_true rfl) dL_product_30
        show nI 6 = nI (fac k)
        rcases (show k = 0 ∨ k = 1 ∨ k = 2 ∨ k = 3 ∨ k = 4 by omega) with rfl | rfl | rfl | rfl | rfl <;> first | rfl | omega
    · have c_11 : k = 2 := (nI_eq (by omega) (by omega)).mp c_11
      refine lv_iconst (v := nI 2) hXX hBB dL_product_14 (by decide) ?_
      refine lv_goto (tgt := 30) hXX hBB dL_product_15 (by decide) ?_
      refine hret (r := nI 2) () ?_ (rfl) (hP.sub [] rfl) (hD.sub [] (by decide) rfl) hS (Nat.le_of_ble_eq_true rfl) (Nat.le_of_ble_eq_true rfl) dL_product_30
      show nI 2 = nI (fac k)
      rcases (show k = 0 ∨ k = 1 ∨ k = 2 ∨ k = 3 ∨ k = 4 by omega) with rfl | rfl | rfl | rfl | rfl <;> first | rfl | omega
  · have c_2 : ¬ 2 ≤ k := fun h9 => c_2 ((nI_leI (by omega) (by omega)).mpr h9)
    refine lv_iconst (v := nI 1) hXX hBB dL_product_5 (by decide) ?_
    refine lv_goto (tgt := 30) hXX hBB dL_product_6 (by decide) ?_
    refine hret (r := nI 1) () ?_ (rfl) (hP.sub [] rfl) (hD.sub [] (by decide) rfl) hS (Nat.le_of_ble_eq_true rfl) (Nat.le_of_ble_eq_true rfl) dL_product_30
    show nI 1 = nI (fac k)
    rcases (show k = 0 ∨ k = 1 ∨ k = 2 ∨ k = 3 ∨ k = 4 by omega) with rfl | rfl | rfl | rfl | rfl <;> first | rfl | omega
abbrev rmL_left : Room := { frames := 0, cells := 0, slots := 0, locals := 0 }
set_option maxHeartbeats 4000000 in
set_option maxRecDepth 100000 in
theorem kL_left (l : Launch) (D : va_G) (cI : ClassId) (bN : Nat) (g : Nat) (p : Nat) (dm : Nat) (fa : Nat) (bP : Nat) (S : Nat → Int32) (dt : Nat → Nat) (q : Nat) (hq9 : g * q + g ≤ 9) (hs : ∀ i, i < g → S (g * q + i) = -1 ∨ ∃ k, k < 4 ∧ S (g * q + i) = nI k) : Ci l yL_left wsL_left rmL_left D [(cI, .int)] [.ref bN, .ref bP, .int (nI q)] [(bN, .inl (cI, 4, .inl (fun j => nI (nA g p dm fa j)))), (bP, .inl (cI, 18, .inl (fun j => pA S dt j)))] (fun (r : Int32) (_ : Unit) => r = nI (clN S g q)) (fun (_ : Unit) => [(bN, .inl (cI, 4, .inl (fun j => nI (nA g p dm fa j)))), (bP, .inl (cI, 18, .inl (fun j => pA S dt j)))]) := by
  refine Ci_of (cc := cL_left) (maxL := 5) (by decide) rfl (Nat.le_of_ble_eq_true rfl) ?_
  intro pR eV sT mI args below meth cO AA QQ ls hXX hBB hml hown hts hnm hN hK hP hD hS hAA hl hret
  have hl : lv_has ls 5 [(0, .ref bN), (1, .ref bP), (2, .int (nI q))] := hl
  refine lv_iconst (v := nI 0) hXX hBB dL_left_0 (by decide) ?_
  refine lv_istore_n (lv' := [(3, .int (nI 0)), (0, .ref bN), (1, .ref bP), (2, .int (nI q))]) hXX hBB dL_left_1 rfl hl (by decide) rfl (fun ls hl => ?_)
  refine lv_iconst (v := nI 0) hXX hBB dL_left_2 (by decide) ?_
  refine lv_istore (lv' := [(4, .int (nI 0)), (3, .int (nI 0)), (0, .ref bN), (1, .ref bP), (2, .int (nI q))]) hXX hBB dL_left_3 hl (by decide) rfl (fun ls hl => ?_)
  have L_5 : ∀ (N_5 : Nat) (i : Nat) (acc : Nat), (i ≤ g) → (acc = ct (unP S (g * q)) i) → g - i < N_5 → ∀ (H : Heap) (locs : List Loc), va_P D vwCl [(bN, .inl (cI, 4, .inl (fun j => nI (nA g p dm fa j)))), (bP, .inl (cI, 18, .inl (fun j => pA S dt j)))] H → va_D AA [(bN, .inl (cI, 4, .inl (fun j => nI (nA g p dm fa j)))), (bP, .inl (cI, 18, .inl (fun j => pA S dt j)))] → va_S AA sT.heap H locs → ∀ (ls : Array Slot), lv_has ls 5 [(4, .int (nI i)), (3, .int (nI acc)), (0, .ref bN), (1, .ref bP), (2, .int (nI q))] → W pR l eV rmL_left sT mI args below meth cO H locs 0 0 QQ (F0 mI 5 ls []) := by
    intro N_5
    induction N_5 with
    | zero =>
      intro i acc hi hacc hMM
      exact absurd hMM (Nat.not_lt_zero _)
    | succ N_5 ih_5 =>
      intro i acc hi hacc hMM H locs hP hD hS ls hl
      refine lv_iload hXX hBB dL_left_5 (lv_at hl 0 rfl) ?_
      refine lv_aload_n hXX hBB dL_left_7 rfl (lv_at hl 2 rfl) ?_
      refine lv_iconst (v := nI 0) hXX hBB dL_left_8 (by decide) ?_
      refine m_iald hXX hBB hK hP 0 0 rfl rfl (i := 0) (by omega) (by decide) (x := nI g) rfl dL_left_9 ?_
      refine lv_icmp_ge (tgt := 40) hXX hBB dL_left_10 (by decide) (fun c_10 => ?_) (fun c_10 => ?_)
      · have c_10 : g ≤ i := (nI_leI (by omega) (by omega)).mp c_10
        have hE : i = g := by omega
        refine lv_iload_n hXX hBB dL_left_40 rfl (lv_at hl 1 rfl) ?_
        refine hret (r := nI acc) () ?_ (rfl) (hP.sub [0, 1] rfl) (hD.sub [0, 1] (by decide) rfl) hS (Nat.le_of_ble_eq_true rfl) (Nat.le_of_ble_eq_true rfl) dL_left_41
        show nI acc = nI (clN S g q)
        rw [hacc, hE]; rfl
      · have c_10 : ¬ g ≤ i := fun h9 => c_10 ((nI_leI (by omega) (by omega)).mpr h9)
        refine lv_iload_n hXX hBB dL_left_13 rfl (lv_at hl 1 rfl) ?_
        refine lv_aload_n hXX hBB dL_left_14 rfl (lv_at hl 3 rfl) ?_
        refine lv_aload_n hXX hBB dL_left_15 rfl (lv_at hl 2 rfl) ?_
        refine lv_iconst (v := nI 0) hXX hBB dL_left_16 (by decide) ?_
        refine m_iald hXX hBB hK hP 0 0 rfl rfl (i := 0) (by omega) (by decide) (x := nI g) rfl dL_left_17 ?_
        refine lv_iload_n hXX hBB dL_left_18 rfl (lv_at hl 4 rfl) ?_
        refine lv_imul hXX hBB dL_left_19 ?_
        refine m_top (y := nI (g * q)) (pk_mul _ _) ?_
        refine lv_iload hXX hBB dL_left_20 (lv_at hl 0 rfl) ?_
        refine lv_iadd hXX hBB dL_left_22 ?_
        refine m_top (y := nI ((g * q) + i)) (nI_add _ _) ?_
        refine m_iald hXX hBB hK hP 1 0 rfl rfl (i := (g * q) + i) (by omega) (by decide) (x := pA S dt ((g * q) + i)) rfl dL_left_23 ?_
        refine m_top (y := S (g * q + i)) (by exact pA_lo _ _ (by omega)) ?_
        refine lv_if_ge (tgt := 31) hXX hBB dL_left_24 (by decide) (fun c_24 => ?_) (fun c_24 => ?_)
        · have c_24 := c_24
          refine lv_iconst (v := nI 0) hXX hBB dL_left_31 (by decide) ?_
          refine lv_iadd hXX hBB dL_left_32 ?_
          refine m_top (y := nI (acc + 0)) (nI_add _ _) ?_
          refine lv_istore_n (lv' := [(3, .int (nI (acc + 0))), (4, .int (nI i)), (0, .ref bN), (1, .ref bP), (2, .int (nI q))]) hXX hBB dL_left_33 rfl hl (by decide) rfl (fun ls hl => ?_)
          refine lv_iinc (v := nI (i + 1)) (lv' := [(4, .int (nI (i + 1))), (3, .int (nI (acc + 0))), (0, .ref bN), (1, .ref bP), (2, .int (nI q))]) hXX hBB dL_left_34 hl (k := 1) rfl (nI_1 _) (by decide) rfl (fun ls hl => ?_)
          refine lv_goto (tgt := 5) hXX hBB dL_left_37 (by decide) ?_
          have hi_i : (i + 1) ≤ g := by omega
          have hi_acc : (acc + 0) = ct (unP S (g * q)) (i + 1) := by first | (rw [ct_t (show unP S (g * q) i = true from decide_eq_true (sv_lt (hs i (by omega)) c_24))]; omega) | (rw [ct_f (show unP S (g * q) i = false from decide_eq_false (sv_ge (hs i (by omega)) c_24))]; omega)
          have hmm : g - (i + 1) < N_5 := by omega
          exact ih_5 (i + 1) (acc + 0) hi_i hi_acc hmm _ _ (hP.sub [0, 1] rfl) (hD.sub [0, 1] (by decide) rfl) hS ls (lv_sub hl [0, 1, 2, 3, 4] rfl)
        · have c_24 := c_24
          refine lv_iconst (v := nI 1) hXX hBB dL_left_27 (by decide) ?_
          refine lv_goto (tgt := 32) hXX hBB dL_left_28 (by decide) ?_
          refine lv_iadd hXX hBB dL_left_32 ?_
          refine m_top (y := nI (acc + 1)) (nI_add _ _) ?_
          refine lv_istore_n (lv' := [(3, .int (nI (acc + 1))), (4, .int (nI i)), (0, .ref bN), (1, .ref bP), (2, .int (nI q))]) hXX hBB dL_left_33 rfl hl (by decide) rfl (fun ls hl => ?_)
          refine lv_iinc (v := nI (i + 1)) (lv' := [(4, .int (nI (i + 1))), (3, .int (nI (acc + 1))), (0, .ref bN), (1, .ref bP), (2, .int (nI q))]) hXX hBB dL_left_34 hl (k := 1) rfl (nI_1 _) (by decide) rfl (fun ls hl => ?_)
          refine lv_goto (tgt := 5) hXX hBB dL_left_37 (by decide) ?_
          have hi_i : (i + 1) ≤ g := by omega
          have hi_acc : (acc + 1) = ct (unP S (g * q)) (i + 1) := by first | (rw [ct_t (show unP S (g * q) i = true from decide_eq_true (sv_lt (hs i (by omega)) c_24))]; omega) | (rw [ct_f (show unP S (g * q) i = false from decide_eq_false (sv_ge (hs i (by omega)) c_24))]; omega)
          have hmm : g - (i + 1) < N_5 := by omega
          exact ih_5 (i + 1) (acc + 1) hi_i hi_acc hmm _ _ (hP.sub [0, 1] rfl) (hD.sub [0, 1] (by decide) rfl) hS ls (lv_sub hl [0, 1, 2, 3, 4] rfl)
  have hi_i : 0 ≤ g := by exact Nat.zero_le _
  have hi_acc : 0 = ct (unP S (g * q)) 0 := by rfl
  exact L_5 _ 0 0 hi_i hi_acc (Nat.lt_succ_self _) _ _ hP hD hS ls (lv_sub hl [0, 1, 2, 3, 4] rfl)
abbrev rmL_all : Room := { frames := 1, cells := 0, slots := 0, locals := 24 }
set_option maxHeartbeats 4000000 in
set_option maxRecDepth 100000 in
theorem kL_all (l : Launch) (D : va_G) (cI : ClassId) (bN : Nat) (g : Nat) (p : Nat) (dm : Nat) (fa : Nat) (bP : Nat) (S : Nat → Int32) (dt : Nat → Nat) (hG : LG g p) (hs : SV g p S) : Ci l yL_all wsL_all rmL_all D [(cI, .int)] [.ref bN, .ref bP] [(bN, .inl (cI, 4, .inl (fun j => nI (nA g p dm fa j)))), (bP, .inl (cI, 18, .inl (fun j => pA S dt j)))] (fun (r : Int32) (_ : Unit) => r = nI (ordN S g p)) (fun (_ : Unit) => [(bN, .inl (cI, 4, .inl (fun j => nI (nA g p dm fa j)))), (bP, .inl (cI, 18, .inl (fun j => pA S dt j)))]) := by
  refine Ci_of (cc := cL_all) (maxL := 4) (by decide) rfl (Nat.le_of_ble_eq_true rfl) ?_
  intro pR eV sT mI args below meth cO AA QQ ls hXX hBB hml hown hts hnm hN hK hP hD hS hAA hl hret
  have hl : lv_has ls 4 [(0, .ref bN), (1, .ref bP)] := hl
  obtain ⟨⟨hg2, hg4⟩, ⟨hp2, hp3⟩, hT⟩ := hG
  have hg0 : 0 < g := by omega
  refine lv_iconst (v := nI 1) hXX hBB dL_all_0 (by decide) ?_
  refine lv_istore_n (lv' := [(2, .int (nI 1)), (0, .ref bN), (1, .ref bP)]) hXX hBB dL_all_1 rfl hl (by decide) rfl (fun ls hl => ?_)
  refine lv_iconst (v := nI 0) hXX hBB dL_all_2 (by decide) ?_
  refine lv_istore_n (lv' := [(3, .int (nI 0)), (2, .int (nI 1)), (0, .ref bN), (1, .ref bP)]) hXX hBB dL_all_3 rfl hl (by decide) rfl (fun ls hl => ?_)
  have L_4 : ∀ (N_4 : Nat) (q : Nat) (acc : Nat), (q ≤ p) → (acc = ordN S g q) → p - q < N_4 → ∀ (H : Heap) (locs : List Loc), va_P D vwCl [(bN, .inl (cI, 4, .inl (fun j => nI (nA g p dm fa j)))), (bP, .inl (cI, 18, .inl (fun j => pA S dt j)))] H → va_D AA [(bN, .inl (cI, 4, .inl (fun j => nI (nA g p dm fa j)))), (bP, .inl (cI, 18, .inl (fun j => pA S dt j)))] → va_S AA sT.heap H locs → ∀ (ls : Array Slot), lv_has ls 4 [(3, .int (nI q)), (2, .int (nI acc)), (0, .ref bN), (1, .ref bP)] → W pR l eV rmL_all sT mI args below meth cO H locs 0 0 QQ (F0 mI 4 ls []) := by
    intro N_4
    induction N_4 with
    | zero =>
      intro q acc hq hacc hMM
      exact absurd hMM (Nat.not_lt_zero _)
    | succ N_4 ih_4 =>
      intro q acc hq hacc hMM H locs hP hD hS ls hl
      refine lv_iload_n hXX hBB dL_all_4 rfl (lv_at hl 0 rfl) ?_
      refine lv_aload_n hXX hBB dL_all_5 rfl (lv_at hl 2 rfl) ?_
      refine lv_iconst (v := nI 1) hXX hBB dL_all_6 (by decide) ?_
      refine m_iald hXX hBB hK hP 0 0 rfl rfl (i := 1) (by omega) (by decide) (x := nI p) rfl dL_all_7 ?_
      refine lv_icmp_ge (tgt := 29) hXX hBB dL_all_8 (by decide) (fun c_8 => ?_) (fun c_8 => ?_)
      · have c_8 : p ≤ q := (nI_leI (by omega) (by omega)).mp c_8
        have hE : q = p := by omega
        refine lv_iload_n hXX hBB dL_all_29 rfl (lv_at hl 1 rfl) ?_
        refine hret (r := nI acc) () ?_ (rfl) (hP.sub [0, 1] rfl) (hD.sub [0, 1] (by decide) rfl) hS (Nat.le_of_ble_eq_true rfl) (Nat.le_of_ble_eq_true rfl) dL_all_30
        show nI acc = nI (ordN S g p)
        rw [hacc, hE]
      · have c_8 : ¬ p ≤ q := fun h9 => c_8 ((nI_leI (by omega) (by omega)).mpr h9)
        have hm9 : g * (q + 1) ≤ g * p := Nat.mul_le_mul_left g (by omega)
        rw [Nat.mul_succ] at hm9
        have hcl := clN_le S g q
        refine lv_iload_n hXX hBB dL_all_11 rfl (lv_at hl 1 rfl) ?_
        refine lv_aload_n hXX hBB dL_all_12 rfl (lv_at hl 2 rfl) ?_
        refine lv_aload_n hXX hBB dL_all_13 rfl (lv_at hl 3 rfl) ?_
        refine lv_iload_n hXX hBB dL_all_14 rfl (lv_at hl 0 rfl) ?_
        refine m_scalli (wr := []) ⟨hXX, hBB, hml, hown, hts⟩ hN (kL_left l D cI bN g p dm fa bP S dt q (by omega) (by exact fun i hi => hs.v hg4 (by omega))) (va_cwS 3 hts gL_all_L_left rfl rfl rfl (by decide +kernel) ⟨Nat.le_of_ble_eq_true rfl, Nat.le_of_ble_eq_true rfl⟩) hK hP hD hS hAA [0, 1] [] [0] rfl rfl rfl (by decide) (by decide) (by decide) rfl hl.1 rfl (Nat.le_of_ble_eq_true rfl) dL_all_15 ⟨Nat.le_of_ble_eq_true rfl, Nat.le_of_ble_eq_true rfl⟩ (k := 0) (n := 0) rfl rfl (fun r_1 u_ H locs hw hP hD hS => ?_)
        have hw : (r_1 = nI (clN S g q)) := hw
        have hr_r_1 := hw
        have hP : va_P D vwCl [(bN, .inl (cI, 4, .inl (fun j => nI (nA g p dm fa j)))), (bP, .inl (cI, 18, .inl (fun j => pA S dt j)))] H := hP
        have hD : va_D AA [(bN, .inl (cI, 4, .inl (fun j => nI (nA g p dm fa j)))), (bP, .inl (cI, 18, .inl (fun j => pA S dt j)))] := hD
        subst hr_r_1
        refine m_scalli (wr := [(bN, .inl (cI, 4, .inl (fun j => nI (nA g p dm fa j)))), (bP, .inl (cI, 18, .inl (fun j => pA S dt j)))]) ⟨hXX, hBB, hml, hown, hts⟩ hN (kL_product l D (clN S g q) (by omega)) (va_cwS 1 hts gL_all_L_product rfl rfl rfl (by decide +kernel) ⟨Nat.le_of_ble_eq_true rfl, Nat.le_of_ble_eq_true rfl⟩) hK hP hD hS hAA [] [0, 1] [] rfl rfl rfl (by decide) (by decide) (by decide) rfl hl.1 rfl (Nat.le_of_ble_eq_true rfl) dL_all_18 ⟨Nat.le_of_ble_eq_true rfl, Nat.le_of_ble_eq_true rfl⟩ (k := 0) (n := 0) rfl rfl (fun r_2 u_ H locs hw hP hD hS => ?_)
        have hw : (r_2 = nI (fac (clN S g q))) := hw
        have hr_r_2 := hw
        have hP : va_P D vwCl [(bN, .inl (cI, 4, .inl (fun j => nI (nA g p dm fa j)))), (bP, .inl (cI, 18, .inl (fun j => pA S dt j)))] H := hP
        have hD : va_D AA [(bN, .inl (cI, 4, .inl (fun j => nI (nA g p dm fa j)))), (bP, .inl (cI, 18, .inl (fun j => pA S dt j)))] := hD
        subst hr_r_2
        refine lv_imul hXX hBB dL_all_21 ?_
        refine m_top (y := nI (acc * (fac (clN S g q)))) (pk_mul _ _) ?_
        refine lv_istore_n (lv' := [(2, .int (nI (acc * (fac (clN S g q))))), (3, .int (nI q)), (0, .ref bN), (1, .ref bP)]) hXX hBB dL_all_22 rfl hl (by decide) rfl (fun ls hl => ?_)
        refine lv_iinc (v := nI (q + 1)) (lv' := [(3, .int (nI (q + 1))), (2, .int (nI (acc * (fac (clN S g q))))), (0, .ref bN), (1, .ref bP)]) hXX hBB dL_all_23 hl (k := 1) rfl (nI_1 _) (by decide) rfl (fun ls hl => ?_)
        refine lv_goto (tgt := 4) hXX hBB dL_all_26 (by decide) ?_
        have hi_q : (q + 1) ≤ p := by omega
        have hi_acc : (acc * (fac (clN S g q))) = ordN S g (q + 1) := by rw [hacc]; rfl
        have hmm : p - (q + 1) < N_4 := by omega
        exact ih_4 (q + 1) (acc * (fac (clN S g q))) hi_q hi_acc hmm _ _ (hP.sub [0, 1] rfl) (hD.sub [0, 1] (by decide) rfl) hS ls (lv_sub hl [0, 1, 2, 3] rfl)
  have hi_q : 0 ≤ p := by exact Nat.zero_le _
  have hi_acc : 1 = ordN S g 0 := by rfl
  exact L_4 _ 0 1 hi_q hi_acc (Nat.lt_succ_self _) _ _ hP hD hS ls (lv_sub hl [0, 1, 2, 3] rfl)
