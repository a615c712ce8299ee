theorem xW_tab : ∀ w ∈ xW, w.onTables = true := by decide +kernel
theorem xB_1 : ∀ w ∈ (vx_atS RX2 44 (xN 1) xUp).filter (fun w => !goodWord w), w ∈ xW := by decide +kernel
theorem xG_1 : ∀ w ∈ Cond.classLink RX2 40 (xN 1) :: Cond.initialized (xN 1) :: vx_atS RX2 44 (xN 1) xUp, vx_ot w = true := by decide +kernel
theorem xB_2 : ∀ w ∈ (vx_atS RX2 62 (xN 2) xUp).filter (fun w => !goodWord w), w ∈ xW := by decide +kernel
theorem xG_2 : ∀ w ∈ Cond.classLink RX2 58 (xN 2) :: Cond.initialized (xN 2) :: vx_atS RX2 62 (xN 2) xUp, vx_ot w = true := by decide +kernel
theorem xB_3 : ∀ w ∈ (vx_atS RX2 106 (xN 3) xUp).filter (fun w => !goodWord w), w ∈ xW := by decide +kernel
theorem xG_3 : ∀ w ∈ Cond.classLink RX2 102 (xN 3) :: Cond.initialized (xN 3) :: vx_atS RX2 106 (xN 3) xUp, vx_ot w = true := by decide +kernel
set_option maxRecDepth 20000 in
theorem tsX2_lay_30 {args : Array Value} {s : State} {A : Nat → Prop} (hts : ∀ w ∈ wsX2_lay, w.before args s = true) (hX : mX A s s.heap) : xTS cX2_lay RX2 1 30 args s := by
  obtain ⟨sa, hsa⟩ := hX.2.2.2.1 (42, "groups or pots out of range") (List.mem_of_getElem? (i := 0) rfl)
  exact ⟨40, 42, 44, sa, "groups or pots out of range", by decide +kernel, hts (.classLink RX2 40 "java/lang/IllegalArgumentException") (List.mem_of_getElem? (i := 1) rfl), hts (.initialized "java/lang/IllegalArgumentException") (List.mem_of_getElem? (i := 2) rfl), hsa, vx_hat (B := xW) (fun w h => hts w (have h9 : w ∈ (vx_atS RX2 44 "java/lang/IllegalArgumentException" ["java/lang/RuntimeException", "java/lang/Exception"]).filter goodWord := h; List.mem_cons_of_mem _ (List.mem_append_right _ h9))) xB_1 (fun w h => va_Nw.use (xW_tab w h) (hX.1 w h)), xG_1, dX2_lay_30, dX2_lay_33, dX2_lay_34, dX2_lay_36, dX2_lay_39⟩
set_option maxRecDepth 20000 in
theorem tsX2_setRegion_22 {args : Array Value} {s : State} {A : Nat → Prop} (hts : ∀ w ∈ wsX2_setRegion, w.before args s = true) (hX : mX A s s.heap) : xTS cX2_setRegion RX2 2 22 args s := by
  obtain ⟨sa, hsa⟩ := hX.2.2.2.1 (60, "no such team or region") (List.mem_of_getElem? (i := 1) rfl)
  exact ⟨58, 60, 62, sa, "no such team or region", by decide +kernel, hts (.classLink RX2 58 "java/lang/IndexOutOfBoundsException") (List.mem_of_getElem? (i := 1) rfl), hts (.initialized "java/lang/IndexOutOfBoundsException") (List.mem_of_getElem? (i := 2) rfl), hsa, vx_hat (B := xW) (fun w h => hts w (have h9 : w ∈ (vx_atS RX2 62 "java/lang/IndexOutOfBoundsException" ["java/lang/RuntimeException", "java/lang/Exception"]).filter goodWord := h; List.mem_cons_of_mem _ (List.mem_append_left _ (List.mem_append_right _ h9)))) xB_2 (fun w h => va_Nw.use (xW_tab w h) (hX.1 w h)), xG_2, dX2_setRegion_22, dX2_setRegion_25, dX2_setRegion_26, dX2_setRegion_28, dX2_setRegion_31⟩
set_option maxRecDepth 20000 in
theorem tsX2_setBound_11 {args : Array Value} {s : State} {A : Nat → Prop} (hts : ∀ w ∈ wsX2_setBound, w.before args s = true) (hX : mX A s s.heap) : xTS cX2_setBound RX2 2 11 args s := by
  obtain ⟨sa, hsa⟩ := hX.2.2.2.1 (72, "no such region") (List.mem_of_getElem? (i := 3) rfl)
  exact ⟨58, 72, 62, sa, "no such region", by decide +kernel, hts (.classLink RX2 58 "java/lang/IndexOutOfBoundsException") (List.mem_of_getElem? (i := 1) rfl), hts (.initialized "java/lang/IndexOutOfBoundsException") (List.mem_of_getElem? (i := 2) rfl), hsa, vx_hat (B := xW) (fun w h => hts w (have h9 : w ∈ (vx_atS RX2 62 "java/lang/IndexOutOfBoundsException" ["java/lang/RuntimeException", "java/lang/Exception"]).filter goodWord := h; List.mem_cons_of_mem _ (List.mem_append_left _ (List.mem_append_left _ (List.mem_append_right _ h9))))) xB_2 (fun w h => va_Nw.use (xW_tab w h) (hX.1 w h)), xG_2, dX2_setBound_11, dX2_setBound_14, dX2_setBound_15, dX2_setBound_17, dX2_setBound_20⟩
set_option maxRecDepth 20000 in
theorem tsX2_setBound_31 {args : Array Value} {s : State} {A : Nat → Prop} (hts : ∀ w ∈ wsX2_setBound, w.before args s = true) (hX : mX A s s.heap) : xTS cX2_setBound RX2 1 31 args s := by
  obtain ⟨sa, hsa⟩ := hX.2.2.2.1 (74, "bound out of range") (List.mem_of_getElem? (i := 4) rfl)
  exact ⟨40, 74, 44, sa, "bound out of range", by decide +kernel, hts (.classLink RX2 40 "java/lang/IllegalArgumentException") (List.mem_of_getElem? (i := 3) rfl), hts (.initialized "java/lang/IllegalArgumentException") (List.mem_of_getElem? (i := 4) rfl), hsa, vx_hat (B := xW) (fun w h => hts w (have h9 : w ∈ (vx_atS RX2 44 "java/lang/IllegalArgumentException" ["java/lang/RuntimeException", "java/lang/Exception"]).filter goodWord := h; List.mem_cons_of_mem _ (List.mem_append_left _ (List.mem_append_right _ h9)))) xB_1 (fun w h => va_Nw.use (xW_tab w h) (hX.1 w h)), xG_1, dX2_setBound_31, dX2_setBound_34, dX2_setBound_35, dX2_setBound_37, dX2_setBound_40⟩
set_option maxRecDepth 20000 in
theorem tsX2_draw_24 {args : Array Value} {s : State} {A : Nat → Prop} (hts : ∀ w ∈ wsX2_draw, w.before args s = true) (hX : mX A s s.heap) : xTS cX2_draw RX2 3 24 args s := by
  obtain ⟨sa, hsa⟩ := hX.2.2.2.1 (104, "all balls were drawn, or there is no open result") (List.mem_of_getElem? (i := 7) rfl)
  exact ⟨102, 104, 106, sa, "all balls were drawn, or there is no open result", by decide +kernel, hts (.classLink RX2 102 "java/lang/IllegalStateException") (List.mem_of_getElem? (i := 1) rfl), hts (.initialized "java/lang/IllegalStateException") (List.mem_of_getElem? (i := 2) rfl), hsa, vx_hat (B := xW) (fun w h => hts w (have h9 : w ∈ (vx_atS RX2 106 "java/lang/IllegalStateException" ["java/lang/RuntimeException", "java/lang/Exception"]).filter goodWord := h; List.mem_cons_of_mem _ (List.mem_append_left _ (List.mem_append_right _ h9)))) xB_3 (fun w h => va_Nw.use (xW_tab w h) (hX.1 w h)), xG_3, dX2_draw_24, dX2_draw_27, dX2_draw_28, dX2_draw_30, dX2_draw_33⟩
set_option maxRecDepth 20000 in
theorem tsX2_draw_45 {args : Array Value} {s : State} {A : Nat → Prop} (hts : ∀ w ∈ wsX2_draw, w.before args s = true) (hX : mX A s s.heap) : xTS cX2_draw RX2 2 45 args s := by
  obtain ⟨sa, hsa⟩ := hX.2.2.2.1 (111, "no such ball") (List.mem_of_getElem? (i := 8) rfl)
  exact ⟨58, 111, 62, sa, "no such ball", by decide +kernel, hts (.classLink RX2 58 "java/lang/IndexOutOfBoundsException") (List.mem_of_getElem? (i := 3) rfl), hts (.initialized "java/lang/IndexOutOfBoundsException") (List.mem_of_getElem? (i := 4) rfl), hsa, vx_hat (B := xW) (fun w h => hts w (have h9 : w ∈ (vx_atS RX2 62 "java/lang/IndexOutOfBoundsException" ["java/lang/RuntimeException", "java/lang/Exception"]).filter goodWord := h; List.mem_cons_of_mem _ (List.mem_append_right _ h9))) xB_2 (fun w h => va_Nw.use (xW_tab w h) (hX.1 w h)), xG_2, dX2_draw_45, dX2_draw_48, dX2_draw_49, dX2_draw_51, dX2_draw_54⟩
set_option maxRecDepth 20000 in
theorem tsX2_undo_7 {args : Array Value} {s : State} {A : Nat → Prop} (hts : ∀ w ∈ wsX2_undo, w.before args s = true) (hX : mX A s s.heap) : xTS cX2_undo RX2 3 7 args s := by
  obtain ⟨sa, hsa⟩ := hX.2.2.2.1 (121, "none was drawn") (List.mem_of_getElem? (i := 9) rfl)
  exact ⟨102, 121, 106, sa, "none was drawn", by decide +kernel, hts (.classLink RX2 102 "java/lang/IllegalStateException") (List.mem_of_getElem? (i := 1) rfl), hts (.initialized "java/lang/IllegalStateException") (List.mem_of_getElem? (i := 2) rfl), hsa, vx_hat (B := xW) (fun w h => hts w (have h9 : w ∈ (vx_atS RX2 106 "java/lang/IllegalStateException" ["java/lang/RuntimeException", "java/lang/Exception"]).filter goodWord := h; List.mem_cons_of_mem _ (List.mem_append_right _ h9))) xB_3 (fun w h => va_Nw.use (xW_tab w h) (hX.1 w h)), xG_3, dX2_undo_7, dX2_undo_10, dX2_undo_11, dX2_undo_13, dX2_undo_16⟩
set_option maxRecDepth 20000 in
theorem tsX2_ballAt_11 {args : Array Value} {s : State} {A : Nat → Prop} (hts : ∀ w ∈ wsX2_ballAt, w.before args s = true) (hX : mX A s s.heap) : xTS cX2_ballAt RX2 2 11 args s := by
  obtain ⟨sa, hsa⟩ := hX.2.2.2.1 (111, "no such ball") (List.mem_of_getElem? (i := 8) rfl)
  exact ⟨58, 111, 62, sa, "no such ball", by decide +kernel, hts (.classLink RX2 58 "java/lang/IndexOutOfBoundsException") (List.mem_of_getElem? (i := 1) rfl), hts (.initialized "java/lang/IndexOutOfBoundsException") (List.mem_of_getElem? (i := 2) rfl), hsa, vx_hat (B := xW) (fun w h => hts w (have h9 : w ∈ (vx_atS RX2 62 "java/lang/IndexOutOfBoundsException" ["java/lang/RuntimeException", "java/lang/Exception"]).filter goodWord := h; List.mem_cons_of_mem _ (List.mem_append_right _ h9))) xB_2 (fun w h => va_Nw.use (xW_tab w h) (hX.1 w h)), xG_2, dX2_ballAt_11, dX2_ballAt_14, dX2_ballAt_15, dX2_ballAt_17, dX2_ballAt_20⟩
set_option maxRecDepth 20000 in
theorem tsX2_teamAt_22 {args : Array Value} {s : State} {A : Nat → Prop} (hts : ∀ w ∈ wsX2_teamAt, w.before args s = true) (hX : mX A s s.heap) : xTS cX2_teamAt RX2 2 22 args s := by
  obtain ⟨sa, hsa⟩ := hX.2.2.2.1 (145, "no such group or pot") (List.mem_of_getElem? (i := 10) rfl)
  exact ⟨58, 145, 62, sa, "no such group or pot", by decide +kernel, hts (.classLink RX2 58 "java/lang/IndexOutOfBoundsException") (List.mem_of_getElem? (i := 1) rfl), hts (.initialized "java/lang/IndexOutOfBoundsException") (List.mem_of_getElem? (i := 2) rfl), hsa, vx_hat (B := xW) (fun w h => hts w (have h9 : w ∈ (vx_atS RX2 62 "java/lang/IndexOutOfBoundsException" ["java/lang/RuntimeException", "java/lang/Exception"]).filter goodWord := h; List.mem_cons_of_mem _ (List.mem_append_right _ h9))) xB_2 (fun w h => va_Nw.use (xW_tab w h) (hX.1 w h)), xG_2, dX2_teamAt_22, dX2_teamAt_25, dX2_teamAt_26, dX2_teamAt_28, dX2_teamAt_31⟩
set_option maxRecDepth 20000 in
theorem tsX2_requireTeam_11 {args : Array Value} {s : State} {A : Nat → Prop} (hts : ∀ w ∈ wsX2_requireTeam, w.before args s = true) (hX : mX A s s.heap) : xTS cX2_requireTeam RX2 2 11 args s := by
  obtain ⟨sa, hsa⟩ := hX.2.2.2.1 (169, "no such team") (List.mem_of_getElem? (i := 5) rfl)
  exact ⟨58, 169, 62, sa, "no such team", by decide +kernel, hts (.classLink RX2 58 "java/lang/IndexOutOfBoundsException") (List.mem_of_getElem? (i := 1) rfl), hts (.initialized "java/lang/IndexOutOfBoundsException") (List.mem_of_getElem? (i := 2) rfl), hsa, vx_hat (B := xW) (fun w h => hts w (have h9 : w ∈ (vx_atS RX2 62 "java/lang/IndexOutOfBoundsException" ["java/lang/RuntimeException", "java/lang/Exception"]).filter goodWord := h; List.mem_cons_of_mem _ (List.mem_append_right _ h9))) xB_2 (fun w h => va_Nw.use (xW_tab w h) (hX.1 w h)), xG_2, dX2_requireTeam_11, dX2_requireTeam_14, dX2_requireTeam_15, dX2_requireTeam_17, dX2_requireTeam_20⟩
set_option maxRecDepth 20000 in
theorem tsX2_requireTeamAndGroup_22 {args : Array Value} {s : State} {A : Nat → Prop} (hts : ∀ w ∈ wsX2_requireTeamAndGroup, w.before args s = true) (hX : mX A s s.heap) : xTS cX2_requireTeamAndGroup RX2 2 22 args s := by
  obtain ⟨sa, hsa⟩ := hX.2.2.2.1 (171, "no such team or group") (List.mem_of_getElem? (i := 11) rfl)
  exact ⟨58, 171, 62, sa, "no such team or group", by decide +kernel, hts (.classLink RX2 58 "java/lang/IndexOutOfBoundsException") (List.mem_of_getElem? (i := 1) rfl), hts (.initialized "java/lang/IndexOutOfBoundsException") (List.mem_of_getElem? (i := 2) rfl), hsa, vx_hat (B := xW) (fun w h => hts w (have h9 : w ∈ (vx_atS RX2 62 "java/lang/IndexOutOfBoundsException" ["java/lang/RuntimeException", "java/lang/Exception"]).filter goodWord := h; List.mem_cons_of_mem _ (List.mem_append_right _ h9))) xB_2 (fun w h => va_Nw.use (xW_tab w h) (hX.1 w h)), xG_2, dX2_requireTeamAndGroup_22, dX2_requireTeamAndGroup_25, dX2_requireTeamAndGroup_26, dX2_requireTeamAndGroup_28, dX2_requireTeamAndGroup_31⟩
set_option maxRecDepth 20000 in
theorem tsX2_requireTwoTeams_15 {args : Array Value} {s : State} {A : Nat → Prop} (hts : ∀ w ∈ wsX2_requireTwoTeams, w.before args s = true) (hX : mX A s s.heap) : xTS cX2_requireTwoTeams RX2 1 15 args s := by
  obtain ⟨sa, hsa⟩ := hX.2.2.2.1 (173, "both teams are the same") (List.mem_of_getElem? (i := 6) rfl)
  exact ⟨40, 173, 44, sa, "both teams are the same", by decide +kernel, hts (.classLink RX2 40 "java/lang/IllegalArgumentException") (List.mem_of_getElem? (i := 1) rfl), hts (.initialized "java/lang/IllegalArgumentException") (List.mem_of_getElem? (i := 2) rfl), hsa, vx_hat (B := xW) (fun w h => hts w (have h9 : w ∈ (vx_atS RX2 44 "java/lang/IllegalArgumentException" ["java/lang/RuntimeException", "java/lang/Exception"]).filter goodWord := h; List.mem_cons_of_mem _ (List.mem_append_left _ (List.mem_append_right _ h9)))) xB_1 (fun w h => va_Nw.use (xW_tab w h) (hX.1 w h)), xG_1, dX2_requireTwoTeams_15, dX2_requireTwoTeams_18, dX2_requireTwoTeams_19, dX2_requireTwoTeams_21, dX2_requireTwoTeams_24⟩
set_option maxRecDepth 20000 in
theorem tsX2_requireNothingDrawn_7 {args : Array Value} {s : State} {A : Nat → Prop} (hts : ∀ w ∈ wsX2_requireNothingDrawn, w.before args s = true) (hX : mX A s s.heap) : xTS cX2_requireNothingDrawn RX2 3 7 args s := by
  obtain ⟨sa, hsa⟩ := hX.2.2.2.1 (175, "a ball was drawn") (List.mem_of_getElem? (i := 2) rfl)
  exact ⟨102, 175, 106, sa, "a ball was drawn", by decide +kernel, hts (.classLink RX2 102 "java/lang/IllegalStateException") (List.mem_of_getElem? (i := 1) rfl), hts (.initialized "java/lang/IllegalStateException") (List.mem_of_getElem? (i := 2) rfl), hsa, vx_hat (B := xW) (fun w h => hts w (have h9 : w ∈ (vx_atS RX2 106 "java/lang/IllegalStateException" ["java/lang/RuntimeException", "java/lang/Exception"]).filter goodWord := h; List.mem_cons_of_mem _ (List.mem_append_right _ h9))) xB_3 (fun w h => va_Nw.use (xW_tab w h) (hX.1 w h)), xG_3, dX2_requireNothingDrawn_7, dX2_requireNothingDrawn_10, dX2_requireNothingDrawn_11, dX2_requireNothingDrawn_13, dX2_requireNothingDrawn_16⟩
theorem lay_in {x : Int32} {a b : Nat} (h1 : ¬ x < nI a) (h2 : ¬ nI b < x) : inB x (nI a) (nI b) = true := by
  have h3 : nI a ≤ x := Int32.not_lt.mp h1
  have h4 : x ≤ nI b := Int32.not_lt.mp h2
  simp [inB, h3, h4]
theorem lay_out1 {x : Int32} {a b : Nat} (h1 : x < nI a) : inB x (nI a) (nI b) = false := by
  have h3 : ¬ nI a ≤ x := Int32.not_le.mpr h1
  simp [inB, h3]
theorem lay_out2 {x : Int32} {a b : Nat} (h1 : nI b < x) : inB x (nI a) (nI b) = false := by
  have h3 : ¬ x ≤ nI b := Int32.not_le.mpr h1
  simp [inB, h3]
theorem lay_T {g p : Nat} (h1 : 2 ≤ g) (h2 : g ≤ 4) (h3 : 2 ≤ p) (h4 : p ≤ 3) (h : ¬ g = 4 ∨ ¬ p = 3) : g * p ≤ 9 := by
  rcases (show p = 2 ∨ p = 3 by omega) with rfl | rfl <;> omega
theorem nth_none {S : Nat → Int32} : ∀ (f t0 l : Nat), ct (unP S t0) f ≤ l → nth S f t0 l = -1 := by
  intro f
  induction f with
  | zero => intros; rfl
  | succ f ih =>
    intro t0 l h
    rw [ct_shift] at h
    have e2 : ct (fun z => unP S t0 (z + 1)) f = ct (unP S (t0 + 1)) f := ct_congr (fun z _ => by simp only [unP]; rw [show t0 + (z + 1) = t0 + 1 + z by omega])
    rw [e2] at h
    simp only [nth]
    by_cases d : S t0 = -1
    · have h6 : (unP S t0 0).toNat = 1 := by simp [unP, d]
      rw [if_pos d, if_neg (by omega)]
      exact ih (t0 + 1) (l - 1) (by omega)
    · rw [if_neg d]
      exact ih (t0 + 1) l (by omega)
theorem fb_cases {g p d : Nat} {S : Nat → Int32} (x : Int32) (hg : 0 < g) (hg4 : g ≤ 4) (hT : g * p ≤ 9) (hV : VS g p d S) (hd : d ≤ g * p) :
    (inB x (nI 0) (nI (leN d g p) - nI 1) = true ∧ ∃ k, k < leN d g p ∧ d < g * p ∧ x = nI k ∧ fbR S g p x = nth S g (g * (d / g)) k ∧ fbR S g p x = nI (balT S g (d / g) k)) ∨ (inB x (nI 0) (nI (leN d g p) - nI 1) = false ∧ fbR S g p x = -1) := by
  have hle := leN_le d g p
  cases hc : inB x (nI 0) (nI (leN d g p) - nI 1)
  · right
    refine ⟨rfl, ?_⟩
    rw [inB_Lt (by omega)] at hc
    unfold fbR
    by_cases q : fstN (clN S g) p 0 < p ∧ ¬ x < 0
    · rw [if_pos q]
      have hdT : d < g * p := by
        rcases Nat.lt_or_ge d (g * p) with z | z
        · exact z
        · rw [pot_full hg hV z] at q; exact absurd q.1 (Nat.lt_irrefl _)
      obtain ⟨k, hk, he⟩ := nI_of q.2
      have h0 : nI 0 ≤ x := Int32.not_lt.mp q.2
      have h1 : ¬ x < nI (leN d g p) := by
        intro z
        simp [h0, z] at hc
      rw [he] at h1
      have h2 : leN d g p ≤ k := by
        rcases Nat.lt_or_ge k (leN d g p) with z | z
        · exact absurd ((nI_ltI hk (by omega)).mpr z) h1
        · exact z
      have h3 := pot_fst hg hV hdT
      rw [h3.1, he, tnI_nI hk]
      refine nth_none g _ k ?_
      have e : ct (unP S (g * (d / g))) g = clN S g (d / g) := rfl
      rw [e, h3.2.2, ← leN_ok (p := p) (by omega)]
      exact h2
    · rw [if_neg q]
  · left
    obtain ⟨k, hk, he⟩ := inB_L (by omega) hc
    have hdT : d < g * p := by
      have := leN_pos (show 0 < leN d g p by omega)
      omega
    have hk2 : k < g - d % g := by rw [← leN_ok (p := p) (by omega)]; exact hk
    have h1 := fbR_eq hg hT hV hdT hk2
    have h2 := ball_ok hg hV hdT hT hk2
    refine ⟨rfl, k, hk, hdT, he, ?_, ?_⟩
    · rw [he, h1, h2.2.2.2.2]
    · rw [he, h1]
theorem bal_nm1 {g p d k : Nat} {S : Nat → Int32} (hg : 0 < g) (hT : g * p ≤ 9) (hV : VS g p d S) (hd : d < g * p) (hk : k < leN d g p) : nI (balT S g (d / g) k) ≠ -1 := by
  have hk2 : k < g - d % g := by rw [← leN_ok (p := p) (by omega)]; exact hk
  have h2 := ball_ok hg hV hd hT hk2
  exact nI_nm1 (by omega)
theorem fb_none {g p d : Nat} {S : Nat → Int32} {x : Int32} (hg : 0 < g) (hg4 : g ≤ 4) (hT : g * p ≤ 9) (hV : VS g p d S) (hd : d ≤ g * p) (h : fbR S g p x = -1) : inB x (nI 0) (nI (leN d g p) - nI 1) = false := by
  rcases fb_cases x hg hg4 hT hV hd with ⟨h1, k, h2, h3, h4, h5, h6⟩ | ⟨h1, -⟩
  · exact absurd (h6.symm.trans h) (bal_nm1 hg hT hV h3 h2)
  · exact h1
theorem fb_some {g p d : Nat} {S : Nat → Int32} {x : Int32} (hg : 0 < g) (hg4 : g ≤ 4) (hT : g * p ≤ 9) (hV : VS g p d S) (hd : d ≤ g * p) (h : ¬ fbR S g p x = -1) : inB x (nI 0) (nI (leN d g p) - nI 1) = true ∧ ∃ k, k < leN d g p ∧ x = nI k ∧ fbR S g p x = nth S g (g * (d / g)) k := by
  rcases fb_cases x hg hg4 hT hV hd with ⟨h1, k, h2, h3, h4, h5, h6⟩ | ⟨-, h1⟩
  · exact ⟨h1, k, h2, h4, h5⟩
  · exact absurd h1 h
abbrev rmX2_requireTeam : Room := { frames := 6, cells := 1, slots := 6, locals := 90 }
set_option maxHeartbeats 4000000 in
set_option maxRecDepth 100000 in
theorem kX2_requireTeam (l : Launch) (hstk : l.stackTraces = false) (D : va_G) (c : Nat) (b : Nat) (ol : Nat) (el : Nat) (aSe : Nat) (aDt : Nat) (aOb : Nat) (fo : Bool) (fe : Bool) (dm : Nat) (g : Nat) (p : Nat) (bR : Nat) (bB : Nat) (bA : Nat) (bO : Nat) (bP : Nat) (bM : Nat) (x : Int32) (h0 : 0 < g * p) (hT : g * p ≤ 9) : Xv l yX2_requireTeam wsX2_requireTeam rmX2_requireTeam D [] [.ref c, .int x] [(c, .inr (2, [.ref b, .ref ol, .int (bI fo), .ref el, .int (bI fe), .ref aSe, .ref aDt, .ref aOb, .int (nI dm)])), (b, .inr (0, [.int (nI g), .int (nI p), .int (nI (g * p)), .ref bR, .ref bB, .ref bA, .ref bO, .ref bP, .ref bM]))] (fun (_ : Unit) => (inB x (nI 0) (nI (g * p - 1)) = true)) (fun (_ : Unit) => [(c, .inr (2, [.ref b, .ref ol, .int (bI fo), .ref el, .int (bI fe), .ref aSe, .ref aDt, .ref aOb, .int (nI dm)])), (b, .inr (0, [.int (nI g), .int (nI p), .int (nI (g * p)), .ref bR, .ref bB, .ref bA, .ref bO, .ref bP, .ref bM]))]) (fun (i : Nat) (_ : Unit) => i = 2 ∧ inB x (nI 0) (nI (g * p - 1)) = false) (fun (_ : Unit) => [(c, .inr (2, [.ref b, .ref ol, .int (bI fo), .ref el, .int (bI fe), .ref aSe, .ref aDt, .ref aOb, .int (nI dm)])), (b, .inr (0, [.int (nI g), .int (nI p), .int (nI (g * p)), .ref bR, .ref bB, .ref bA, .ref bO, .ref bP, .ref bM]))]) := by
  refine Xv_of (cc := cX2_requireTeam) (maxL := 2) hstk (by decide) rfl (Nat.le_of_ble_eq_true rfl) ?_
  intro pR eV sT mI args below meth cO AA QQ ls hXX hBB hml hown hts hnm hN hK hP hD hS hAA hl hXs hret
  obtain ⟨hret, hthr, hpro⟩ := hret
  have hl : lv_has ls 2 [(0, .ref c), (1, .int x)] := hl
  have kw_3 := hts (.fieldLink RX2 10 "CupDraw" "bowl" "LCupDraw$Bowl;") (List.mem_of_getElem? (i := 3) rfl)
  have iw_X2 : ∀ w ∈ wsX20, w ∈ wsX2_requireTeam := by decide +kernel
  refine lv_aload_n hXX hBB dX2_requireTeam_0 rfl (lv_at hl 0 rfl) ?_
  refine va_get (D := D) (ci := 2) (v := .ref b) (C := RX2) (T := TX2) (N := 9) hXX hBB hts iw_X2 hown hK hP 0 rfl rfl 0 (by decide) kw_3 (fun _ h9 => h9) rfl dX2_requireTeam_1 ?_
  refine lv_iload_n hXX hBB dX2_requireTeam_4 rfl (lv_at hl 1 rfl) ?_
  refine m_calli (wr := [(c, .inr (2, [.ref b, .ref ol, .int (bI fo), .ref el, .int (bI fe), .ref aSe, .ref aDt, .ref aOb, .int (nI dm)]))]) ⟨hXX, hBB, hml, hown, hts⟩ hN (kX0_hasTeam l D b g p (g * p) bR bB bA bO bP bM x (by exact h0) (by exact hT)) (cwV 1 hts gX2_requireTeam_X0_hasTeam rfl rfl rfl (by decide +kernel) ⟨Nat.le_of_ble_eq_true rfl, Nat.le_of_ble_eq_true rfl⟩) hK hP hD hS hAA [1] [0] [] rfl rfl rfl (by decide) (by decide) (by decide) rfl 0 rfl rfl rfl rfl hl.1 rfl (Nat.le_of_ble_eq_true rfl) dX2_requireTeam_5 ⟨Nat.le_of_ble_eq_true rfl, Nat.le_of_ble_eq_true rfl⟩ (k := 0) (n := 0) rfl rfl (fun r_1 u_ H locs hw hP hD hS => ?_)
  have hw : (r_1 = bI (inB x (nI 0) (nI ((g * p) - 1)))) := hw
  have hr_r_1 := hw
  have hP : va_P D vwCl [(c, .inr (2, [.ref b, .ref ol, .int (bI fo), .ref el, .int (bI fe), .ref aSe, .ref aDt, .ref aOb, .int (nI dm)])), (b, .inr (0, [.int (nI g), .int (nI p), .int (nI (g * p)), .ref bR, .ref bB, .ref bA, .ref bO, .ref bP, .ref bM]))] H := hP
  have hD : va_D AA [(c, .inr (2, [.ref b, .ref ol, .int (bI fo), .ref el, .int (bI fe), .ref aSe, .ref aDt, .ref aOb, .int (nI dm)])), (b, .inr (0, [.int (nI g), .int (nI p), .int (nI (g * p)), .ref bR, .ref bB, .ref bA, .ref bO, .ref bP, .ref bM]))] := hD
  subst hr_r_1
  refine lv_if_ne (tgt := 21) hXX hBB dX2_requireTeam_8 (by decide) (fun c_8 => ?_) (fun c_8 => ?_)
  · have c_8 : (inB x (nI 0) (nI ((g * p) - 1))) = true := m_bz1 c_8
    refine hret () ?_ (hP.sub [0, 1] rfl) (hD.sub [0, 1] (by decide) rfl) hS (Nat.le_of_ble_eq_true rfl) (Nat.le_of_ble_eq_true rfl) dX2_requireTeam_21
    show (inB x (nI 0) (nI (g * p - 1)) = true)
    exact c_8
  · have c_8 : (inB x (nI 0) (nI ((g * p) - 1))) = false := m_bz0 c_8
    refine hthr 2 () ?_ (hP.sub [0, 1] rfl) (hD.sub [0, 1] (by decide) rfl) hS (tsX2_requireTeam_11 hts hXs) (Nat.le_of_ble_eq_true rfl) (Nat.le_of_ble_eq_true rfl) hl.1 (Nat.le_of_ble_eq_true rfl) (Nat.le_of_ble_eq_true rfl) (Nat.le_of_ble_eq_true rfl)
    exact ⟨rfl, c_8⟩
abbrev rmX2_requireTeamAndGroup : Room := { frames := 6, cells := 1, slots := 6, locals := 90 }
set_option maxHeartbeats 4000000 in
set_option maxRecDepth 100000 in
theorem kX2_requireTeamAndGroup (l : Launch) (hstk : l.stackTraces = false) (D : va_G) (c : Nat) (b : Nat) (ol : Nat) (el : Nat) (aSe : Nat) (aDt : Nat) (aOb : Nat) (fo : Bool) (fe : Bool) (dm : Nat) (g : Nat) (p : Nat) (bR : Nat) (bB : Nat) (bA : Nat) (bO : Nat) (bP : Nat) (bM : Nat) (x : Int32) (y : Int32) (h0 : 0 < g * p) (hT : g * p ≤ 9) (hg0 : 0 < g) (hg4 : g ≤ 4) : Xv l yX2_requireTeamAndGroup wsX2_requireTeamAndGroup rmX2_requireTeamAndGroup D [] [.ref c, .int x, .int y] [(c, .inr (2, [.ref b, .ref ol, .int (bI fo), .ref el, .int (bI fe), .ref aSe, .ref aDt, .ref aOb, .int (nI dm)])), (b, .inr (0, [.int (nI g), .int (nI p), .int (nI (g * p)), .ref bR, .ref bB, .ref bA, .ref bO, .ref bP, .ref bM]))] (fun (_ : Unit) => (inB x (nI 0) (nI (g * p - 1)) = true ∧ inB y (nI 0) (nI (g - 1)) = true)) (fun (_ : Unit) => [(c, .inr (2, [.ref b, .ref ol, .int (bI fo), .ref el, .int (bI fe), .ref aSe, .ref aDt, .ref aOb, .int (nI dm)])), (b, .inr (0, [.int (nI g), .int (nI p), .int (nI (g * p)), .ref bR, .ref bB, .ref bA, .ref bO, .ref bP, .ref bM]))]) (fun (i : Nat) (_ : Unit) => i = 2 ∧ (inB x (nI 0) (nI (g * p - 1)) && inB y (nI 0) (nI (g - 1))) = false) (fun (_ : Unit) => [(c, .inr (2, [.ref b, .ref ol, .int (bI fo), .ref el, .int (bI fe), .ref aSe, .ref aDt, .ref aOb, .int (nI dm)])), (b, .inr (0, [.int (nI g), .int (nI p), .int (nI (g * p)), .ref bR, .ref bB, .ref bA, .ref bO, .ref bP, .ref bM]))]) := by
  refine Xv_of (cc := cX2_requireTeamAndGroup) (maxL := 3) hstk (by decide) rfl (Nat.le_of_ble_eq_true rfl) ?_
  intro pR eV sT mI args below meth cO AA QQ ls hXX hBB hml hown hts hnm hN hK hP hD hS hAA hl hXs hret
  obtain ⟨hret, hthr, hpro⟩ := hret
  have hl : lv_has ls 3 [(0, .ref c), (1, .int x), (2, .int y)] := hl
  have kw_3 := hts (.fieldLink RX2 10 "CupDraw" "bowl" "LCupDraw$Bowl;") (List.mem_of_getElem? (i := 3) rfl)
  have iw_X2 : ∀ w ∈ wsX20, w ∈ wsX2_requireTeamAndGroup := by decide +kernel
  refine lv_aload_n hXX hBB dX2_requireTeamAndGroup_0 rfl (lv_at hl 0 rfl) ?_
  refine va_get (D := D) (ci := 2) (v := .ref b) (C := RX2) (T := TX2) (N := 9) hXX hBB hts iw_X2 hown hK hP 0 rfl rfl 0 (by decide) kw_3 (fun _ h9 => h9) rfl dX2_requireTeamAndGroup_1 ?_
  refine lv_iload_n hXX hBB dX2_requireTeamAndGroup_4 rfl (lv_at hl 1 rfl) ?_
  refine m_calli (wr := [(c, .inr (2, [.ref b, .ref ol, .int (bI fo), .ref el, .int (bI fe), .ref aSe, .ref aDt, .ref aOb, .int (nI dm)]))]) ⟨hXX, hBB, hml, hown, hts⟩ hN (kX0_hasTeam l D b g p (g * p) bR bB bA bO bP bM x (by exact h0) (by exact hT)) (cwV 1 hts gX2_requireTeamAndGroup_X0_hasTeam rfl rfl rfl (by decide +kernel) ⟨Nat.le_of_ble_eq_true rfl, Nat.le_of_ble_eq_true rfl⟩) hK hP hD hS hAA [1] [0] [] rfl rfl rfl (by decide) (by decide) (by decide) rfl 0 rfl rfl rfl rfl hl.1 rfl (Nat.le_of_ble_eq_true rfl) dX2_requireTeamAndGroup_5 ⟨Nat.le_of_ble_eq_true rfl, Nat.le_of_ble_eq_true rfl⟩ (k := 0) (n := 0) rfl rfl (fun r_1 u_ H locs hw hP hD hS => ?_)
  have hw : (r_1 = bI (inB x (nI 0) (nI ((g * p) - 1)))) := hw
  have hr_r_1 := hw
  have hP : va_P D vwCl [(c, .inr (2, [.ref b, .ref ol, .int (bI fo), .ref el, .int (bI fe), .ref aSe, .ref aDt, .ref aOb, .int (nI dm)])), (b, .inr (0, [.int (nI g), .int (nI p), .int (nI (g * p)), .ref bR, .ref bB, .ref bA, .ref bO, .ref bP, .ref bM]))] H := hP
  have hD : va_D AA [(c, .inr (2, [.ref b, .ref ol, .int (bI fo), .ref el, .int (bI fe), .ref aSe, .ref aDt, .ref aOb, .int (nI dm)])), (b, .inr (0, [.int (nI g), .int (nI p), .int (nI (g * p)), .ref bR, .ref bB, .ref bA, .ref bO, .ref bP, .ref bM]))] := hD
  subst hr_r_1
  refine lv_if_eq (tgt := 22) hXX hBB dX2_requireTeamAndGroup_8 (by decide) (fun c_8 => ?_) (fun c_8 => ?_)
  · have c_8 : (inB x (nI 0) (nI ((g * p) - 1))) = false := m_bz0 c_8
    refine hthr 2 () ?_ (hP.sub [0, 1] rfl) (hD.sub [0, 1] (by decide) rfl) hS (tsX2_requireTeamAndGroup_22 hts hXs) (Nat.le_of_ble_eq_true rfl) (Nat.le_of_ble_eq_true rfl) hl.1 (Nat.le_of_ble_eq_true rfl) (Nat.le_of_ble_eq_true rfl) (Nat.le_of_ble_eq_true rfl)
    refine ⟨rfl, ?_⟩
    first | (simp [c_8]; done) | (simp [c_19]; done)
  · have c_8 : (inB x (nI 0) (nI ((g * p) - 1))) = true := m_bz1 c_8
    refine lv_aload_n hXX hBB dX2_requireTeamAndGroup_11 rfl (lv_at hl 0 rfl) ?_
    refine va_get (D := D) (ci := 2) (v := .ref b) (C := RX2) (T := TX2) (N := 9) hXX hBB hts iw_X2 hown hK hP 0 rfl rfl 0 (by decide) kw_3 (fun _ h9 => h9) rfl dX2_requireTeamAndGroup_12 ?_
    refine lv_iload_n hXX hBB dX2_requireTeamAndGroup_15 rfl (lv_at hl 2 rfl) ?_
    refine m_calli (wr := [(c, .inr (2, [.ref b, .ref ol, .int (bI fo), .ref el, .int (bI fe), .ref aSe, .ref aDt, .ref aOb, .int (nI dm)]))]) ⟨hXX, hBB, hml, hown, hts⟩ hN (kX0_hasGroup l D b g p (g * p) bR bB bA bO bP bM y (by exact hg0) (by omega)) (cwV 1 hts gX2_requireTeamAndGroup_X0_hasGroup rfl rfl rfl (by decide +kernel) ⟨Nat.le_of_ble_eq_true rfl, Nat.le_of_ble_eq_true rfl⟩) hK hP hD hS hAA [1] [0] [] rfl rfl rfl (by decide) (by decide) (by decide) rfl 0 rfl rfl rfl rfl hl.1 rfl (Nat.le_of_ble_eq_true rfl) dX2_requireTeamAndGroup_16 ⟨Nat.le_of_ble_eq_true rfl, Nat.le_of_ble_eq_true rfl⟩ (k := 0) (n := 0) rfl rfl (fun r_2 u_ H locs hw hP hD hS => ?_)
    have hw : (r_2 = bI (inB y (nI 0) (nI (g - 1)))) := hw
    have hr_r_2 := hw
    have hP : va_P D vwCl [(c, .inr (2, [.ref b, .ref ol, .int (bI fo), .ref el, .int (bI fe), .ref aSe, .ref aDt, .ref aOb, .int (nI dm)])), (b, .inr (0, [.int (nI g), .int (nI p), .int (nI (g * p)), .ref bR, .ref bB, .ref bA, .ref bO, .ref bP, .ref bM]))] H := hP
    have hD : va_D AA [(c, .inr (2, [.ref b, .ref ol, .int (bI fo), .ref el, .int (bI fe), .ref aSe, .ref aDt, .ref aOb, .int (nI dm)])), (b, .inr (0, [.int (nI g), .int (nI p), .int (nI (g * p)), .ref bR, .ref bB, .ref bA, .ref bO, .ref bP, .ref bM]))] := hD
    subst hr_r_2
    refine lv_if_ne (tgt := 32) hXX hBB dX2_requireTeamAndGroup_19 (by decide) (fun c_19 => ?_) (fun c_19 => ?_)
    · have c_19 : (inB y (nI 0) (nI (g - 1))) = true := m_bz1 c_19
      refine hret () ?_ (hP.sub [0, 1] rfl) (hD.sub [0, 1] (by decide) rfl) hS (Nat.le_of_ble_eq_true rfl) (Nat.le_of_ble_eq_true rfl) dX2_requireTeamAndGroup_32
      show (inB x (nI 0) (nI (g * p - 1)) = true ∧ inB y (nI 0) (nI (g - 1)) = true)
      exact ⟨c_8, c_19⟩
    · have c_19 : (inB y (nI 0) (nI (g - 1))) = false := m_bz0 c_19
      refine hthr 2 () ?_ (hP.sub [0, 1] rfl) (hD.sub [0, 1] (by decide) rfl) hS (tsX2_requireTeamAndGroup_22 hts hXs) (Nat.le_of_ble_eq_true rfl) (Nat.le_of_ble_eq_true rfl) hl.1 (Nat.le_of_ble_eq_true rfl) (Nat.le_of_ble_eq_true rfl) (Nat.le_of_ble_eq_true rfl)
      refine ⟨rfl, ?_⟩
      first | (simp [c_8]; done) | (simp [c_19]; done)
abbrev rmX2_requireNothingDrawn : Room := { frames := 6, cells := 1, slots := 6, locals := 90 }
set_option maxHeartbeats 4000000 in
set_option maxRecDepth 100000 in
theorem kX2_requireNothingDrawn (l : Launch) (hstk : l.stackTraces = false) (D : va_G) (c : Nat) (b : Nat) (ol : Nat) (el : Nat) (aSe : Nat) (aDt : Nat) (aOb : Nat) (fo : Bool) (fe : Bool) (dm : Nat) (hdm : dm ≤ 9) : Xv l yX2_requireNothingDrawn wsX2_requireNothingDrawn rmX2_requireNothingDrawn D [] [.ref c] [(c, .inr (2, [.ref b, .ref ol, .int (bI fo), .ref el, .int (bI fe), .ref aSe, .ref aDt, .ref aOb, .int (nI dm)]))] (fun (_ : Unit) => (dm = 0)) (fun (_ : Unit) => [(c, .inr (2, [.ref b, .ref ol, .int (bI fo), .ref el, .int (bI fe), .ref aSe, .ref aDt, .ref aOb, .int (nI dm)]))]) (fun (i : Nat) (_ : Unit) => i = 3 ∧ 0 < dm) (fun (_ : Unit) => [(c, .inr (2, [.ref b, .ref ol, .int (bI fo), .ref el, .int (bI fe), .ref aSe, .ref aDt, .ref aOb, .int (nI dm)]))]) := by
  refine Xv_of (cc := cX2_requireNothingDrawn) (maxL := 1) hstk (by decide) rfl (Nat.le_of_ble_eq_true rfl) ?_
  intro pR eV sT mI args below meth cO AA QQ ls hXX hBB hml hown hts hnm hN hK hP hD hS hAA hl hXs hret
  obtain ⟨hret, hthr, hpro⟩ := hret
  have hl : lv_has ls 1 [(0, .ref c)] := hl
  have kw_3 := hts (.fieldLink RX2 92 "CupDraw" "drawnCount" "I") (List.mem_of_getElem? (i := 3) rfl)
  have iw_X2 : ∀ w ∈ wsX20, w ∈ wsX2_requireNothingDrawn := by decide +kernel
  refine lv_aload_n hXX hBB dX2_requireNothingDrawn_0 rfl (lv_at hl 0 rfl) ?_
  refine va_get (D := D) (ci := 2) (v := .int (nI dm)) (C := RX2) (T := TX2) (N := 9) hXX hBB hts iw_X2 hown hK hP 0 rfl rfl 8 (by decide) kw_3 (fun _ h9 => h9) rfl dX2_requireNothingDrawn_1 ?_
  refine lv_if_le (tgt := 17) hXX hBB dX2_requireNothingDrawn_4 (by decide) (fun c_4 => ?_) (fun c_4 => ?_)
  · have c_4 : dm = 0 := m_nps_le_t (by omega) c_4
    refine hret () ?_ (hP.sub [0] rfl) (hD.sub [0] (by decide) rfl) hS (Nat.le_of_ble_eq_true rfl) (Nat.le_of_ble_eq_true rfl) dX2_requireNothingDrawn_17
    show (dm = 0)
    exact c_4
  · have c_4 : 0 < dm := m_pos_le_f (by omega) c_4
    refine hthr 3 () ?_ (hP.sub [0] rfl) (hD.sub [0] (by decide) rfl) hS (tsX2_requireNothingDrawn_7 hts hXs) (Nat.le_of_ble_eq_true rfl) (Nat.le_of_ble_eq_true rfl) hl.1 (Nat.le_of_ble_eq_true rfl) (Nat.le_of_ble_eq_true rfl) (Nat.le_of_ble_eq_true rfl)
    exact ⟨rfl, c_4⟩
abbrev rmX2_requireTwoTeams : Room := { frames := 7, cells := 3, slots := 18, locals := 111 }
set_option maxHeartbeats 4000000 in
set_option maxRecDepth 100000 in
theorem kX2_requireTwoTeams (l : Launch) (hstk : l.stackTraces = false) (D : va_G) (c : Nat) (b : Nat) (ol : Nat) (el : Nat) (aSe : Nat) (aDt : Nat) (aOb : Nat) (fo : Bool) (fe : Bool) (dm : Nat) (g : Nat) (p : Nat) (bR : Nat) (bB : Nat) (bA : Nat) (bO : Nat) (bP : Nat) (bM : Nat) (x : Int32) (y : Int32) (h0 : 0 < g * p) (hT : g * p ≤ 9) : Xv l yX2_requireTwoTeams wsX2_requireTwoTeams rmX2_requireTwoTeams D [] [.ref c, .int x, .int y] [(c, .inr (2, [.ref b, .ref ol, .int (bI fo), .ref el, .int (bI fe), .ref aSe, .ref aDt, .ref aOb, .int (nI dm)])), (b, .inr (0, [.int (nI g), .int (nI p), .int (nI (g * p)), .ref bR, .ref bB, .ref bA, .ref bO, .ref bP, .ref bM]))] (fun (_ : Unit) => (inB x (nI 0) (nI (g * p - 1)) = true ∧ inB y (nI 0) (nI (g * p - 1)) = true ∧ ¬ x = y)) (fun (_ : Unit) => [(c, .inr (2, [.ref b, .ref ol, .int (bI fo), .ref el, .int (bI fe), .ref aSe, .ref aDt, .ref aOb, .int (nI dm)])), (b, .inr (0, [.int (nI g), .int (nI p), .int (nI (g * p)), .ref bR, .ref bB, .ref bA, .ref bO, .ref bP, .ref bM]))]) (fun (i : Nat) (_ : Unit) => (i = 2 ∧ (inB x (nI 0) (nI (g * p - 1)) && inB y (nI 0) (nI (g * p - 1))) = false) ∨ (i = 1 ∧ (inB x (nI 0) (nI (g * p - 1)) && inB y (nI 0) (nI (g * p - 1))) = true ∧ x = y)) (fun (_ : Unit) => [(c, .inr (2, [.ref b, .ref ol, .int (bI fo), .ref el, .int (bI fe), .ref aSe, .ref aDt, .ref aOb, .int (nI dm)])), (b, .inr (0, [.int (nI g), .int (nI p), .int (nI (g * p)), .ref bR, .ref bB, .ref bA, .ref bO, .ref bP, .ref bM]))]) := by
  refine Xv_of (cc := cX2_requireTwoTeams) (maxL := 3) hstk (by decide) rfl (Nat.le_of_ble_eq_true rfl) ?_
  intro pR eV sT mI args below meth cO AA QQ ls hXX hBB hml hown hts hnm hN hK hP hD hS hAA hl hXs hret
  obtain ⟨hret, hthr, hpro⟩ := hret
  have hl : lv_has ls 3 [(0, .ref c), (1, .int x), (2, .int y)] := hl
  refine lv_aload_n hXX hBB dX2_requireTwoTeams_0 rfl (lv_at hl 0 rfl) ?_
  refine lv_iload_n hXX hBB dX2_requireTwoTeams_1 rfl (lv_at hl 1 rfl) ?_
  refine x_callv (wr := []) ⟨hXX, hBB, hml, hown, hts⟩ hN hXs (kX2_requireTeam l hstk D c b ol el aSe aDt aOb fo fe dm g p bR bB bA bO bP bM x (by omega) (by omega)) (cwV 1 hts gX2_requireTwoTeams_X2_requireTeam rfl rfl rfl (by decide +kernel) ⟨Nat.le_of_ble_eq_true rfl, Nat.le_of_ble_eq_true rfl⟩) hK hP hD hS hAA [0, 1] [] [] rfl rfl rfl (by decide) (by decide) (by decide) rfl 2 rfl rfl rfl rfl hl.1 rfl (Nat.le_of_ble_eq_true rfl) dX2_requireTwoTeams_2 ⟨Nat.le_of_ble_eq_true rfl, Nat.le_of_ble_eq_true rfl⟩ (k := 1) (n := 6) rfl rfl (fun i_ u_ E_ ce_ q_ H locs hE_ hw hP hD hS hq_ hv_ hc_ => ?_) (fun  u_ H locs hw hP hD hS => ?_)
  · skip
    have hP : va_P D vwCl [(c, .inr (2, [.ref b, .ref ol, .int (bI fo), .ref el, .int (bI fe), .ref aSe, .ref aDt, .ref aOb, .int (nI dm)])), (b, .inr (0, [.int (nI g), .int (nI p), .int (nI (g * p)), .ref bR, .ref bB, .ref bA, .ref bO, .ref bP, .ref bM]))] H := hP
    have hD : va_D AA [(c, .inr (2, [.ref b, .ref ol, .int (bI fo), .ref el, .int (bI fe), .ref aSe, .ref aDt, .ref aOb, .int (nI dm)])), (b, .inr (0, [.int (nI g), .int (nI p), .int (nI (g * p)), .ref bR, .ref bB, .ref bA, .ref bO, .ref bP, .ref bM]))] := hD
    have hw : i_ = 2 ∧ inB x (nI 0) (nI (g * p - 1)) = false := hw
    refine hpro i_ () hE_ ?_ (hP.sub [0, 1] rfl) (hD.sub [0, 1] (by decide) rfl) hS hq_ hv_ hc_ (Nat.le_of_ble_eq_true rfl) (Nat.le_of_ble_eq_true rfl)
    exact Or.inl ⟨hw.1, by simp [hw.2]⟩
  have hw : (inB x (nI 0) (nI (g * p - 1)) = true) := hw
  have e_x := hw
  have hP : va_P D vwCl [(c, .inr (2, [.ref b, .ref ol, .int (bI fo), .ref el, .int (bI fe), .ref aSe, .ref aDt, .ref aOb, .int (nI dm)])), (b, .inr (0, [.int (nI g), .int (nI p), .int (nI (g * p)), .ref bR, .ref bB, .ref bA, .ref bO, .ref bP, .ref bM]))] H := hP
  have hD : va_D AA [(c, .inr (2, [.ref b, .ref ol, .int (bI fo), .ref el, .int (bI fe), .ref aSe, .ref aDt, .ref aOb, .int (nI dm)])), (b, .inr (0, [.int (nI g), .int (nI p), .int (nI (g * p)), .ref bR, .ref bB, .ref bA, .ref bO, .ref bP, .ref bM]))] := hD
  refine lv_aload_n hXX hBB dX2_requireTwoTeams_5 rfl (lv_at hl 0 rfl) ?_
  refine lv_iload_n hXX hBB dX2_requireTwoTeams_6 rfl (lv_at hl 2 rfl) ?_
  refine x_callv (wr := []) ⟨hXX, hBB, hml, hown, hts⟩ hN hXs (kX2_requireTeam l hstk D c b ol el aSe aDt aOb fo fe dm g p bR bB bA bO bP bM y (by omega) (by omega)) (cwV 1 hts gX2_requireTwoTeams_X2_requireTeam rfl rfl rfl (by decide +kernel) ⟨Nat.le_of_ble_eq_true rfl, Nat.le_of_ble_eq_true rfl⟩) hK hP hD hS hAA [0, 1] [] [] rfl rfl rfl (by decide) (by decide) (by decide) rfl 2 rfl rfl rfl rfl hl.1 rfl (Nat.le_of_ble_eq_true rfl) dX2_requireTwoTeams_7 ⟨Nat.le_of_ble_eq_true rfl, Nat.le_of_ble_eq_true rfl⟩ (k := 2) (n := 12) rfl rfl (fun i_ u_ E_ ce_ q_ H locs hE_ hw hP hD hS hq_ hv_ hc_ => ?_) (fun  u_ H locs hw hP hD hS => ?_)
  · skip
    have hP : va_P D vwCl [(c, .inr (2, [.ref b, .ref ol, .int (bI fo), .ref el, .int (bI fe), .ref aSe, .ref aDt, .ref aOb, .int (nI dm)])), (b, .inr (0, [.int (nI g), .int (nI p), .int (nI (g * p)), .ref bR, .ref bB, .ref bA, .ref bO, .ref bP, .ref bM]))] H := hP
    have hD : va_D AA [(c, .inr (2, [.ref b, .ref ol, .int (bI fo), .ref el, .int (bI fe), .ref aSe, .ref aDt, .ref aOb, .int (nI dm)])), (b, .inr (0, [.int (nI g), .int (nI p), .int (nI (g * p)), .ref bR, .ref bB, .ref bA, .ref bO, .ref bP, .ref bM]))] := hD
    have hw : i_ = 2 ∧ inB y (nI 0) (nI (g * p - 1)) = false := hw
    refine hpro i_ () hE_ ?_ (hP.sub [0, 1] rfl) (hD.sub [0, 1] (by decide) rfl) hS hq_ hv_ hc_ (Nat.le_of_ble_eq_true rfl) (Nat.le_of_ble_eq_true rfl)
    exact Or.inl ⟨hw.1, by simp [hw.2]⟩
  have hw : (inB y (nI 0) (nI (g * p - 1)) = true) := hw
  have e_y := hw
  have hP : va_P D vwCl [(c, .inr (2, [.ref b, .ref ol, .int (bI fo), .ref el, .int (bI fe), .ref aSe, .ref aDt, .ref aOb, .int (nI dm)])), (b, .inr (0, [.int (nI g), .int (nI p), .int (nI (g * p)), .ref bR, .ref bB, .ref bA, .ref bO, .ref bP, .ref bM]))] H := hP
  have hD : va_D AA [(c, .inr (2, [.ref b, .ref ol, .int (bI fo), .ref el, .int (bI fe), .ref aSe, .ref aDt, .ref aOb, .int (nI dm)])), (b, .inr (0, [.int (nI g), .int (nI p), .int (nI (g * p)), .ref bR, .ref bB, .ref bA, .ref bO, .ref bP, .ref bM]))] := hD
  refine lv_iload_n hXX hBB dX2_requireTwoTeams_10 rfl (lv_at hl 1 rfl) ?_
  refine lv_iload_n hXX hBB dX2_requireTwoTeams_11 rfl (lv_at hl 2 rfl) ?_
  refine lv_icmp_ne (tgt := 25) hXX hBB dX2_requireTwoTeams_12 (by decide) (fun c_12 => ?_) (fun c_12 => ?_)
  · have c_12 := c_12
    refine hret () ?_ (hP.sub [0, 1] rfl) (hD.sub [0, 1] (by decide) rfl) hS (Nat.le_of_ble_eq_true rfl) (Nat.le_of_ble_eq_true rfl) dX2_requireTwoTeams_25
    show (inB x (nI 0) (nI (g * p - 1)) = true ∧ inB y (nI 0) (nI (g * p - 1)) = true ∧ ¬ x = y)
    exact ⟨e_x, e_y, c_12⟩
  · have c_12 := c_12
    refine hthr 1 () ?_ (hP.sub [0, 1] rfl) (hD.sub [0, 1] (by decide) rfl) hS (tsX2_requireTwoTeams_15 hts hXs) (Nat.le_of_ble_eq_true rfl) (Nat.le_of_ble_eq_true rfl) hl.1 (Nat.le_of_ble_eq_true rfl) (Nat.le_of_ble_eq_true rfl) (Nat.le_of_ble_eq_true rfl)
    exact Or.inr ⟨rfl, by simp [e_x, e_y], c_12⟩
abbrev rmX2_lay : Room := { frames := 6, cells := 1, slots := 6, locals := 90 }
set_option maxHeartbeats 4000000 in
set_option maxRecDepth 100000 in
theorem kX2_lay (l : Launch) (hstk : l.stackTraces = false) (D : va_G) (cI : ClassId) (c : Nat) (b : Nat) (ol : Nat) (el : Nat) (aSe : Nat) (aDt : Nat) (aOb : Nat) (fo : Bool) (fe : Bool) (dm : Nat) (g : Nat) (p : Nat) (T : Nat) (bR : Nat) (bB : Nat) (bA : Nat) (bO : Nat) (bP : Nat) (bM : Nat) (rg : Nat → Nat) (bd : Nat → Nat) (ap : Nat → Nat) (od : Nat → Nat) (pm : Nat → Nat) (S : Nat → Int32) (x : Int32) (y : Int32) : Xi l yX2_lay wsX2_lay rmX2_lay D [(cI, .int)] [.ref c, .int x, .int y] [(c, .inr (2, [.ref b, .ref ol, .int (bI fo), .ref el, .int (bI fe), .ref aSe, .ref aDt, .ref aOb, .int (nI dm)])), (b, .inr (0, [.int (nI g), .int (nI p), .int (nI T), .ref bR, .ref bB, .ref bA, .ref bO, .ref bP, .ref bM])), (bR, .inl (cI, 9, .inl (fun j => nI (rg j)))), (bB, .inl (cI, 6, .inl (fun j => nI (bd j)))), (bA, .inl (cI, 9, .inl (fun j => nI (ap j)))), (bO, .inl (cI, 9, .inl (fun j => nI (od j)))), (bP, .inl (cI, 9, .inl (fun j => nI (pm j)))), (aSe, .inl (cI, 9, .inl S))] (fun (r : Int32) (u : Nat × Nat × (Nat → Nat)) => (tLay x y = 0) ∧ ((x = nI u.1 ∧ y = nI u.2.1) ∧ (2 ≤ u.1 ∧ u.1 ≤ 4) ∧ (2 ≤ u.2.1 ∧ u.2.1 ≤ 3) ∧ u.1 * u.2.1 ≤ 9) ∧ (r = nI (u.1 * u.2.1)) ∧ (∀ z, z < u.1 * u.2.1 → u.2.2 z = pmN u.1 z)) (fun (u : Nat × Nat × (Nat → Nat)) => [(c, .inr (2, [.ref b, .ref ol, .int (bI false), .ref el, .int (bI false), .ref aSe, .ref aDt, .ref aOb, .int (nI 0)])), (b, .inr (0, [.int (nI u.1), .int (nI u.2.1), .int (nI (u.1 * u.2.1)), .ref bR, .ref bB, .ref bA, .ref bO, .ref bP, .ref bM])), (bR, .inl (cI, 9, .inl (fun j => nI ((fun _ => 0) j)))), (bB, .inl (cI, 6, .inl (fun j => nI ((fun _ => 3) j)))), (bA, .inl (cI, 9, .inl (fun j => nI ((fun _ => 0) j)))), (bO, .inl (cI, 9, .inl (fun j => nI ((fun _ => 0) j)))), (bP, .inl (cI, 9, .inl (fun j => nI (u.2.2 j)))), (aSe, .inl (cI, 9, .inl (fun _ => -1)))]) (fun (i : Nat) (_ : Unit) => i = 1 ∧ tLay x y = 1) (fun (_ : Unit) => [(c, .inr (2, [.ref b, .ref ol, .int (bI fo), .ref el, .int (bI fe), .ref aSe, .ref aDt, .ref aOb, .int (nI dm)])), (b, .inr (0, [.int (nI g), .int (nI p), .int (nI T), .ref bR, .ref bB, .ref bA, .ref bO, .ref bP, .ref bM])), (bR, .inl (cI, 9, .inl (fun j => nI (rg j)))), (bB, .inl (cI, 6, .inl (fun j => nI (bd j)))), (bA, .inl (cI, 9, .inl (fun j => nI (ap j)))), (bO, .inl (cI, 9, .inl (fun j => nI (od j)))), (bP, .inl (cI, 9, .inl (fun j => nI (pm j)))), (aSe, .inl (cI, 9, .inl S))]) := by
  refine Xi_of (cc := cX2_lay) (maxL := 3) hstk (by decide) rfl (Nat.le_of_ble_eq_true rfl) ?_
  intro pR eV sT mI args below meth cO AA QQ ls hXX hBB hml hown hts hnm hN hK hP hD hS hAA hl hXs hret
  obtain ⟨hret, hthr, hpro⟩ := hret
  have hl : lv_has ls 3 [(0, .ref c), (1, .int x), (2, .int y)] := hl
  have kw_3 := hts (.fieldLink RX2 10 "CupDraw" "bowl" "LCupDraw$Bowl;") (List.mem_of_getElem? (i := 3) rfl)
  have iw_X2 : ∀ w ∈ wsX20, w ∈ wsX2_lay := by decide +kernel
  have kn_47 : (Cond.fieldLinkNest RX2 47 RX0 "teams" "I" RX2).before args sT = true := va_Nw.use rfl (hN _ (List.mem_of_getElem? (i := 4) rfl))
  have iw_X0 : ∀ w ∈ wsX00, w ∈ wsX2_lay := by decide +kernel
  refine lv_iload_n hXX hBB dX2_lay_0 rfl (lv_at hl 1 rfl) ?_
  refine lv_iconst (v := nI 2) hXX hBB dX2_lay_1 (by decide) ?_
  refine lv_icmp_lt (tgt := 30) hXX hBB dX2_lay_2 (by decide) (fun c_2 => ?_) (fun c_2 => ?_)
  · have c_2 := c_2
    refine hthr 1 () ?_ (hP.sub [0, 1, 2, 3, 4, 5, 6, 7] rfl) (hD.sub [0, 1, 2, 3, 4, 5, 6, 7] (by decide) rfl) hS (tsX2_lay_30 hts hXs) (Nat.le_of_ble_eq_true rfl) (Nat.le_of_ble_eq_true rfl) hl.1 (Nat.le_of_ble_eq_true rfl) (Nat.le_of_ble_eq_true rfl) (Nat.le_of_ble_eq_true rfl)
    first | exact ⟨rfl, tLay_1 (lay_out1 c_2)⟩ | exact ⟨rfl, tLay_1 (lay_out2 c_7)⟩ | exact ⟨rfl, tLay_2 (lay_out1 c_12)⟩ | exact ⟨rfl, tLay_2 (lay_out2 c_17)⟩ | exact ⟨rfl, tLay_3 c_22 c_27⟩
  · have c_2 := c_2
    refine lv_iload_n hXX hBB dX2_lay_5 rfl (lv_at hl 1 rfl) ?_
    refine lv_iconst (v := nI 4) hXX hBB dX2_lay_6 (by decide) ?_
    refine lv_icmp_gt (tgt := 30) hXX hBB dX2_lay_7 (by decide) (fun c_7 => ?_) (fun c_7 => ?_)
    · have c_7 := c_7
      refine hthr 1 () ?_ (hP.sub [0, 1, 2, 3, 4, 5, 6, 7] rfl) (hD.sub [0, 1, 2, 3, 4, 5, 6, 7] (by decide) rfl) hS (tsX2_lay_30 hts hXs) (Nat.le_of_ble_eq_true rfl) (Nat.le_of_ble_eq_true rfl) hl.1 (Nat.le_of_ble_eq_true rfl) (Nat.le_of_ble_eq_true rfl) (Nat.le_of_ble_eq_true rfl)
      first | exact ⟨rfl, tLay_1 (lay_out1 c_2)⟩ | exact ⟨rfl, tLay_1 (lay_out2 c_7)⟩ | exact ⟨rfl, tLay_2 (lay_out1 c_12)⟩ | exact ⟨rfl, tLay_2 (lay_out2 c_17)⟩ | exact ⟨rfl, tLay_3 c_22 c_27⟩
    · have c_7 := c_7
      refine lv_iload_n hXX hBB dX2_lay_10 rfl (lv_at hl 2 rfl) ?_
      refine lv_iconst (v := nI 2) hXX hBB dX2_lay_11 (by decide) ?_
      refine lv_icmp_lt (tgt := 30) hXX hBB dX2_lay_12 (by decide) (fun c_12 => ?_) (fun c_12 => ?_)
      · have c_12 := c_12
        refine hthr 1 () ?_ (hP.sub [0, 1, 2, 3, 4, 5, 6, 7] rfl) (hD.sub [0, 1, 2, 3, 4, 5, 6, 7] (by decide) rfl) hS (tsX2_lay_30 hts hXs) (Nat.le_of_ble_eq_true rfl) (Nat.le_of_ble_eq_true rfl) hl.1 (Nat.le_of_ble_eq_true rfl) (Nat.le_of_ble_eq_true rfl) (Nat.le_of_ble_eq_true rfl)
        first | exact ⟨rfl, tLay_1 (lay_out1 c_2)⟩ | exact ⟨rfl, tLay_1 (lay_out2 c_7)⟩ | exact ⟨rfl, tLay_2 (lay_out1 c_12)⟩ | exact ⟨rfl, tLay_2 (lay_out2 c_17)⟩ | exact ⟨rfl, tLay_3 c_22 c_27⟩
      · have c_12 := c_12
        refine lv_iload_n hXX hBB dX2_lay_15 rfl (lv_at hl 2 rfl) ?_
        refine lv_iconst (v := nI 3) hXX hBB dX2_lay_16 (by decide) ?_
        refine lv_icmp_gt (tgt := 30) hXX hBB dX2_lay_17 (by decide) (fun c_17 => ?_) (fun c_17 => ?_)
        · have c_17 := c_17
          refine hthr 1 () ?_ (hP.sub [0, 1, 2, 3, 4, 5, 6, 7] rfl) (hD.sub [0, 1, 2, 3, 4, 5, 6, 7] (by decide) rfl) hS (tsX2_lay_30 hts hXs) (Nat.le_of_ble_eq_true rfl) (Nat.le_of_ble_eq_true rfl) hl.1 (Nat.le_of_ble_eq_true rfl) (Nat.le_of_ble_eq_true rfl) (Nat.le_of_ble_eq_true rfl)
          first | exact ⟨rfl, tLay_1 (lay_out1 c_2)⟩ | exact ⟨rfl, tLay_1 (lay_out2 c_7)⟩ | exact ⟨rfl, tLay_2 (lay_out1 c_12)⟩ | exact ⟨rfl, tLay_2 (lay_out2 c_17)⟩ | exact ⟨rfl, tLay_3 c_22 c_27⟩
        · have c_17 := c_17
          have hc1 := lay_in c_2 c_7
          have hc2 := lay_in c_12 c_17
          refine lv_iload_n hXX hBB dX2_lay_20 rfl (lv_at hl 1 rfl) ?_
          refine lv_iconst (v := nI 4) hXX hBB dX2_lay_21 (by decide) ?_
          refine lv_icmp_ne (tgt := 40) hXX hBB dX2_lay_22 (by decide) (fun c_22 => ?_) (fun c_22 => ?_)
          · have c_22 := c_22
            have hth : tLay x y = 0 := tLay_0 hc1 hc2 (by first | exact Or.inl c_22 | exact Or.inr c_27)
            obtain ⟨gx, hlo_gx, hhi_gx, he_gx⟩ := inB_nat (lo := 2) (hi := 4) (by decide) hc1
            obtain ⟨py, hlo_py, hhi_py, he_py⟩ := inB_nat (lo := 2) (hi := 3) (by decide) hc2
            have hT9 : gx * py ≤ 9 := lay_T hlo_gx hhi_gx hlo_py hhi_py (by first | exact Or.inl (fun q => c_22 (by rw [he_gx, q])) | exact Or.inr (fun q => c_27 (by rw [he_py, q])))
            have hl : lv_has ls 3 [(0, .ref c), (1, .int (nI gx)), (2, .int (nI py))] := by rw [he_gx, he_py] at hl; exact hl
            refine lv_aload_n hXX hBB dX2_lay_40 rfl (lv_at hl 0 rfl) ?_
            refine lv_iload_n hXX hBB dX2_lay_41 rfl (lv_at hl 1 rfl) ?_
            refine lv_iload_n hXX hBB dX2_lay_42 rfl (lv_at hl 2 rfl) ?_
            refine m_callv (wr := []) ⟨hXX, hBB, hml, hown, hts⟩ hN (kX2_startWith l D cI c b ol el aSe aDt aOb fo fe dm g p T bR bB bA bO bP bM rg bd ap od pm S gx py (by omega) (by omega) (by omega) (by omega)) (cwV 2 hts gX2_lay_X2_startWith rfl rfl rfl (by decide +kernel) ⟨Nat.le_of_ble_eq_true rfl, Nat.le_of_ble_eq_true rfl⟩) hK hP hD hS hAA [0, 1, 2, 3, 4, 5, 6, 7] [] [0] rfl rfl rfl (by decide) (by decide) (by decide) rfl 2 rfl rfl rfl rfl hl.1 rfl (Nat.le_of_ble_eq_true rfl) dX2_lay_43 ⟨Nat.le_of_ble_eq_true rfl, Nat.le_of_ble_eq_true rfl⟩ (k := 0) (n := 0) rfl rfl (fun  u_ H locs hw hP hD hS => ?_)
            obtain ⟨po, rfl⟩ : ∃ z, z = u_ := ⟨_, rfl⟩
            have hw : (∀ z, z < gx * py → po z = pmN gx z) := hw
            have e_p := hw
            have hP : va_P D vwCl [(c, .inr (2, [.ref b, .ref ol, .int (bI false), .ref el, .int (bI false), .ref aSe, .ref aDt, .ref aOb, .int (nI 0)])), (b, .inr (0, [.int (nI gx), .int (nI py), .int (nI (gx * py)), .ref bR, .ref bB, .ref bA, .ref bO, .ref bP, .ref bM])), (bR, .inl (cI, 9, .inl (fun j => nI ((fun _ => 0) j)))), (bB, .inl (cI, 6, .inl (fun j => nI ((fun _ => 3) j)))), (bA, .inl (cI, 9, .inl (fun j => nI ((fun _ => 0) j)))), (bO, .inl (cI, 9, .inl (fun j => nI ((fun _ => 0) j)))), (bP, .inl (cI, 9, .inl (fun j => nI (po j)))), (aSe, .inl (cI, 9, .inl (fun _ => -1)))] H := hP
            have hD : va_D AA [(c, .inr (2, [.ref b, .ref ol, .int (bI false), .ref el, .int (bI false), .ref aSe, .ref aDt, .ref aOb, .int (nI 0)])), (b, .inr (0, [.int (nI gx), .int (nI py), .int (nI (gx * py)), .ref bR, .ref bB, .ref bA, .ref bO, .ref bP, .ref bM])), (bR, .inl (cI, 9, .inl (fun j => nI ((fun _ => 0) j)))), (bB, .inl (cI, 6, .inl (fun j => nI ((fun _ => 3) j)))), (bA, .inl (cI, 9, .inl (fun j => nI ((fun _ => 0) j)))), (bO, .inl (cI, 9, .inl (fun j => nI ((fun _ => 0) j)))), (bP, .inl (cI, 9, .inl (fun j => nI (po j)))), (aSe, .inl (cI, 9, .inl (fun _ => -1)))] := hD
            refine lv_aload_n hXX hBB dX2_lay_46 rfl (lv_at hl 0 rfl) ?_
            refine va_get (D := D) (ci := 2) (v := .ref b) (C := RX2) (T := TX2) (N := 9) hXX hBB hts iw_X2 hown hK hP 0 rfl rfl 0 (by decide) kw_3 (fun _ h9 => h9) rfl dX2_lay_47 ?_
            refine va_getN (D := D) (ci := 0) (v := .int (nI (gx * py))) (C := RX0) (T := TX0) (N := 9) hXX hBB hts iw_X0 hown hK hP 1 rfl rfl 2 (by decide) kn_47 (fun _ h9 => h9) rfl dX2_lay_50 ?_
            refine hret (r := nI (gx * py)) (gx, py, po) ?_ (rfl) (hP.sub [0, 1, 2, 3, 4, 5, 6, 7] rfl) (hD.sub [0, 1, 2, 3, 4, 5, 6, 7] (by decide) rfl) hS (Nat.le_of_ble_eq_true rfl) (Nat.le_of_ble_eq_true rfl) dX2_lay_53
            show (tLay x y = 0) ∧ ((x = nI gx ∧ y = nI py) ∧ (2 ≤ gx ∧ gx ≤ 4) ∧ (2 ≤ py ∧ py ≤ 3) ∧ gx * py ≤ 9) ∧ ((nI (gx * py)) = nI (gx * py)) ∧ (∀ z, z < gx * py → po z = pmN gx z)
            exact ⟨hth, ⟨⟨he_gx, he_py⟩, ⟨hlo_gx, hhi_gx⟩, ⟨hlo_py, hhi_py⟩, hT9⟩, rfl, e_p⟩
          · have c_22 := c_22
            refine lv_iload_n hXX hBB dX2_lay_25 rfl (lv_at hl 2 rfl) ?_
            refine lv_iconst (v := nI 3) hXX hBB dX2_lay_26 (by decide) ?_
            refine lv_icmp_ne (tgt := 40) hXX hBB dX2_lay_27 (by decide) (fun c_27 => ?_) (fun c_27 => ?_)
            · have c_27 := c_27
              have hth : tLay x y = 0 := tLay_0 hc1 hc2 (by first | exact Or.inl c_22 | exact Or.inr c_27)
              obtain ⟨gx, hlo_gx, hhi_gx, he_gx⟩ := inB_nat (lo := 2) (hi := 4) (by decide) hc1
              obtain ⟨py, hlo_py, hhi_py, he_py⟩ := inB_nat (lo := 2) (hi := 3) (by decide) hc2
              have hT9 : gx * py ≤ 9 := lay_T hlo_gx hhi_gx hlo_py hhi_py (by first | exact Or.inl (fun q => c_22 (by rw [he_gx, q])) | exact Or.inr (fun q => c_27 (by rw [he_py, q])))
              have hl : lv_has ls 3 [(0, .ref c), (1, .int (nI gx)), (2, .int (nI py))] := by rw [he_gx, he_py] at hl; exact hl
              refine lv_aload_n hXX hBB dX2_lay_40 rfl (lv_at hl 0 rfl) ?_
              refine lv_iload_n hXX hBB dX2_lay_41 rfl (lv_at hl 1 rfl) ?_
              refine lv_iload_n hXX hBB dX2_lay_42 rfl (lv_at hl 2 rfl) ?_
              refine m_callv (wr := []) ⟨hXX, hBB, hml, hown, hts⟩ hN (kX2_startWith l D cI c b ol el aSe aDt aOb fo fe dm g p T bR bB bA bO bP bM rg bd ap od pm S gx py (by omega) (by omega) (by omega) (by omega)) (cwV 2 hts gX2_lay_X2_startWith rfl rfl rfl (by decide +kernel) ⟨Nat.le_of_ble_eq_true rfl, Nat.le_of_ble_eq_true rfl⟩) hK hP hD hS hAA [0, 1, 2, 3, 4, 5, 6, 7] [] [0] rfl rfl rfl (by decide) (by decide) (by decide) rfl 2 rfl rfl rfl rfl hl.1 rfl (Nat.le_of_ble_eq_true rfl) dX2_lay_43 ⟨Nat.le_of_ble_eq_true rfl, Nat.le_of_ble_eq_true rfl⟩ (k := 0) (n := 0) rfl rfl (fun  u_ H locs hw hP hD hS => ?_)
              obtain ⟨po, rfl⟩ : ∃ z, z = u_ := ⟨_, rfl⟩
              have hw : (∀ z, z < gx * py → po z = pmN gx z) := hw
              have e_p := hw
              have hP : va_P D vwCl [(c, .inr (2, [.ref b, .ref ol, .int (bI false), .ref el, .int (bI false), .ref aSe, .ref aDt, .ref aOb, .int (nI 0)])), (b, .inr (0, [.int (nI gx), .int (nI py), .int (nI (gx * py)), .ref bR, .ref bB, .ref bA, .ref bO, .ref bP, .ref bM])), (bR, .inl (cI, 9, .inl (fun j => nI ((fun _ => 0) j)))), (bB, .inl (cI, 6, .inl (fun j => nI ((fun _ => 3) j)))), (bA, .inl (cI, 9, .inl (fun j => nI ((fun _ => 0) j)))), (bO, .inl (cI, 9, .inl (fun j => nI ((fun _ => 0) j)))), (bP, .inl (cI, 9, .inl (fun j => nI (po j)))), (aSe, .inl (cI, 9, .inl (fun _ => -1)))] H := hP
              have hD : va_D AA [(c, .inr (2, [.ref b, .ref ol, .int (bI false), .ref el, .int (bI false), .ref aSe, .ref aDt, .ref aOb, .int (nI 0)])), (b, .inr (0, [.int (nI gx), .int (nI py), .int (nI (gx * py)), .ref bR, .ref bB, .ref bA, .ref bO, .ref bP, .ref bM])), (bR, .inl (cI, 9, .inl (fun j => nI ((fun _ => 0) j)))), (bB, .inl (cI, 6, .inl (fun j => nI ((fun _ => 3) j)))), (bA, .inl (cI, 9, .inl (fun j => nI ((fun _ => 0) j)))), (bO, .inl (cI, 9, .inl (fun j => nI ((fun _ => 0) j)))), (bP, .inl (cI, 9, .inl (fun j => nI (po j)))), (aSe, .inl (cI, 9, .inl (fun _ => -1)))] := hD
              refine lv_aload_n hXX hBB dX2_lay_46 rfl (lv_at hl 0 rfl) ?_
              refine va_get (D := D) (ci := 2) (v := .ref b) (C := RX2) (T := TX2) (N := 9) hXX hBB hts iw_X2 hown hK hP 0 rfl rfl 0 (by decide) kw_3 (fun _ h9 => h9) rfl dX2_lay_47 ?_
              refine va_getN (D := D) (ci := 0) (v := .int (nI (gx * py))) (C := RX0) (T := TX0) (N := 9) hXX hBB hts iw_X0 hown hK hP 1 rfl rfl 2 (by decide) kn_47 (fun _ h9 => h9) rfl dX2_lay_50 ?_
              refine hret (r := nI (gx * py)) (gx, py, po) ?_ (rfl) (hP.sub [0, 1, 2, 3, 4, 5, 6, 7] rfl) (hD.sub [0, 1, 2, 3, 4, 5, 6, 7] (by decide) rfl) hS (Nat.le_of_ble_eq_true rfl) (Nat.le_of_ble_eq_true rfl) dX2_lay_53
              show (tLay x y = 0) ∧ ((x = nI gx ∧ y = nI py) ∧ (2 ≤ gx ∧ gx ≤ 4) ∧ (2 ≤ py ∧ py ≤ 3) ∧ gx * py ≤ 9) ∧ ((nI (gx * py)) = nI (gx * py)) ∧ (∀ z, z < gx * py → po z = pmN gx z)
              exact ⟨hth, ⟨⟨he_gx, he_py⟩, ⟨hlo_gx, hhi_gx⟩, ⟨hlo_py, hhi_py⟩, hT9⟩, rfl, e_p⟩
            · have c_27 := c_27
              refine hthr 1 () ?_ (hP.sub [0, 1, 2, 3, 4, 5, 6, 7] rfl) (hD.sub [0, 1, 2, 3, 4, 5, 6, 7] (by decide) rfl) hS (tsX2_lay_30 hts hXs) (Nat.le_of_ble_eq_true rfl) (Nat.le_of_ble_eq_true rfl) hl.1 (Nat.le_of_ble_eq_true rfl) (Nat.le_of_ble_eq_true rfl) (Nat.le_of_ble_eq_true rfl)
              first | exact ⟨rfl, tLay_1 (lay_out1 c_2)⟩ | exact ⟨rfl, tLay_1 (lay_out2 c_7)⟩ | exact ⟨rfl, tLay_2 (lay_out1 c_12)⟩ | exact ⟨rfl, tLay_2 (lay_out2 c_17)⟩ | exact ⟨rfl, tLay_3 c_22 c_27⟩
abbrev rmX2_setRegion : Room := { frames := 7, cells := 2, slots := 12, locals := 110 }
set_option maxHeartbeats 4000000 in
set_option maxRecDepth 100000 in
theorem kX2_setRegion (l : Launch) (hstk : l.stackTraces = false) (D : va_G) (cI : ClassId) (c : Nat) (b : Nat) (ol : Nat) (el : Nat) (aSe : Nat) (aDt : Nat) (aOb : Nat) (fo : Bool) (fe : Bool) (dm : Nat) (g : Nat) (p : Nat) (bR : Nat) (bB : Nat) (bA : Nat) (bO : Nat) (bP : Nat) (bM : Nat) (rg : Nat → Nat) (x : Int32) (y : Int32) (h0 : 0 < g * p) (hT : g * p ≤ 9) (hdm : dm ≤ 9) : Xi l yX2_setRegion wsX2_setRegion rmX2_setRegion D [(cI, .int)] [.ref c, .int x, .int y] [(c, .inr (2, [.ref b, .ref ol, .int (bI fo), .ref el, .int (bI fe), .ref aSe, .ref aDt, .ref aOb, .int (nI dm)])), (b, .inr (0, [.int (nI g), .int (nI p), .int (nI (g * p)), .ref bR, .ref bB, .ref bA, .ref bO, .ref bP, .ref bM])), (bR, .inl (cI, 9, .inl (fun j => nI (rg j))))] (fun (r : Int32) (u : (Nat → Nat)) => (tSR x y (g * p) dm = 0 ∧ srPost x y (g * p) dm 0 u rg r)) (fun (u : (Nat → Nat)) => [(c, .inr (2, [.ref b, .ref ol, .int (bI false), .ref el, .int (bI false), .ref aSe, .ref aDt, .ref aOb, .int (nI dm)])), (b, .inr (0, [.int (nI g), .int (nI p), .int (nI (g * p)), .ref bR, .ref bB, .ref bA, .ref bO, .ref bP, .ref bM])), (bR, .inl (cI, 9, .inl (fun j => nI (u j))))]) (fun (i : Nat) (_ : Unit) => (i = 2 ∧ tSR x y (g * p) dm = 1) ∨ (i = 3 ∧ tSR x y (g * p) dm = 2)) (fun (_ : Unit) => [(c, .inr (2, [.ref b, .ref ol, .int (bI fo), .ref el, .int (bI fe), .ref aSe, .ref aDt, .ref aOb, .int (nI dm)])), (b, .inr (0, [.int (nI g), .int (nI p), .int (nI (g * p)), .ref bR, .ref bB, .ref bA, .ref bO, .ref bP, .ref bM])), (bR, .inl (cI, 9, .inl (fun j => nI (rg j))))]) := by
  refine Xi_of (cc := cX2_setRegion) (maxL := 4) hstk (by decide) rfl (Nat.le_of_ble_eq_true rfl) ?_
  intro pR eV sT mI args below meth cO AA QQ ls hXX hBB hml hown hts hnm hN hK hP hD hS hAA hl hXs hret
  obtain ⟨hret, hthr, hpro⟩ := hret
  have hl : lv_has ls 4 [(0, .ref c), (1, .int x), (2, .int y)] := hl
  have kw_3 := hts (.fieldLink RX2 10 "CupDraw" "bowl" "LCupDraw$Bowl;") (List.mem_of_getElem? (i := 3) rfl)
  have iw_X2 : ∀ w ∈ wsX20, w ∈ wsX2_setRegion := by decide +kernel
  have kn_66 : (Cond.fieldLinkNest RX2 66 RX0 "regions" "[I" RX2).before args sT = true := va_Nw.use rfl (hN _ (List.mem_of_getElem? (i := 5) rfl))
  have iw_X0 : ∀ w ∈ wsX00, w ∈ wsX2_setRegion := by decide +kernel
  refine lv_aload_n hXX hBB dX2_setRegion_0 rfl (lv_at hl 0 rfl) ?_
  refine va_get (D := D) (ci := 2) (v := .ref b) (C := RX2) (T := TX2) (N := 9) hXX hBB hts iw_X2 hown hK hP 0 rfl rfl 0 (by decide) kw_3 (fun _ h9 => h9) rfl dX2_setRegion_1 ?_
  refine lv_iload_n hXX hBB dX2_setRegion_4 rfl (lv_at hl 1 rfl) ?_
  refine m_calli (wr := [(c, .inr (2, [.ref b, .ref ol, .int (bI fo), .ref el, .int (bI fe), .ref aSe, .ref aDt, .ref aOb, .int (nI dm)])), (bR, .inl (cI, 9, .inl (fun j => nI (rg j))))]) ⟨hXX, hBB, hml, hown, hts⟩ hN (kX0_hasTeam l D b g p (g * p) bR bB bA bO bP bM x (by exact h0) (by exact hT)) (cwV 1 hts gX2_setRegion_X0_hasTeam rfl rfl rfl (by decide +kernel) ⟨Nat.le_of_ble_eq_true rfl, Nat.le_of_ble_eq_true rfl⟩) hK hP hD hS hAA [1] [0, 2] [] rfl rfl rfl (by decide) (by decide) (by decide) rfl 0 rfl rfl rfl rfl hl.1 rfl (Nat.le_of_ble_eq_true rfl) dX2_setRegion_5 ⟨Nat.le_of_ble_eq_true rfl, Nat.le_of_ble_eq_true rfl⟩ (k := 0) (n := 0) rfl rfl (fun r_1 u_ H locs hw hP hD hS => ?_)
  have hw : (r_1 = bI (inB x (nI 0) (nI ((g * p) - 1)))) := hw
  have hr_r_1 := hw
  have hP : va_P D vwCl [(c, .inr (2, [.ref b, .ref ol, .int (bI fo), .ref el, .int (bI fe), .ref aSe, .ref aDt, .ref aOb, .int (nI dm)])), (bR, .inl (cI, 9, .inl (fun j => nI (rg j)))), (b, .inr (0, [.int (nI g), .int (nI p), .int (nI (g * p)), .ref bR, .ref bB, .ref bA, .ref bO, .ref bP, .ref bM]))] H := hP
  have hD : va_D AA [(c, .inr (2, [.ref b, .ref ol, .int (bI fo), .ref el, .int (bI fe), .ref aSe, .ref aDt, .ref aOb, .int (nI dm)])), (bR, .inl (cI, 9, .inl (fun j => nI (rg j)))), (b, .inr (0, [.int (nI g), .int (nI p), .int (nI (g * p)), .ref bR, .ref bB, .ref bA, .ref bO, .ref bP, .ref bM]))] := hD
  subst hr_r_1
  refine lv_if_eq (tgt := 22) hXX hBB dX2_setRegion_8 (by decide) (fun c_8 => ?_) (fun c_8 => ?_)
  · have c_8 : (inB x (nI 0) (nI ((g * p) - 1))) = false := m_bz0 c_8
    refine hthr 2 () ?_ (hP.sub [0, 2, 1] rfl) (hD.sub [0, 2, 1] (by decide) rfl) hS (tsX2_setRegion_22 hts hXs) (Nat.le_of_ble_eq_true rfl) (Nat.le_of_ble_eq_true rfl) hl.1 (Nat.le_of_ble_eq_true rfl) (Nat.le_of_ble_eq_true rfl) (Nat.le_of_ble_eq_true rfl)
    first | exact Or.inl ⟨rfl, (srPost_1 (rg := rg) (r := 0) (dm := dm) (Or.inl c_8)).1.symm⟩ | exact Or.inl ⟨rfl, (srPost_1 (rg := rg) (r := 0) (dm := dm) (Or.inr c_19)).1.symm⟩
  · have c_8 : (inB x (nI 0) (nI ((g * p) - 1))) = true := m_bz1 c_8
    refine lv_aload_n hXX hBB dX2_setRegion_11 rfl (lv_at hl 0 rfl) ?_
    refine va_get (D := D) (ci := 2) (v := .ref b) (C := RX2) (T := TX2) (N := 9) hXX hBB hts iw_X2 hown hK hP 0 rfl rfl 0 (by decide) kw_3 (fun _ h9 => h9) rfl dX2_setRegion_12 ?_
    refine lv_iload_n hXX hBB dX2_setRegion_15 rfl (lv_at hl 2 rfl) ?_
    refine m_calli (wr := [(c, .inr (2, [.ref b, .ref ol, .int (bI fo), .ref el, .int (bI fe), .ref aSe, .ref aDt, .ref aOb, .int (nI dm)])), (bR, .inl (cI, 9, .inl (fun j => nI (rg j))))]) ⟨hXX, hBB, hml, hown, hts⟩ hN (kX0_hasRegion l D b g p (g * p) bR bB bA bO bP bM y) (cwV 1 hts gX2_setRegion_X0_hasRegion rfl rfl rfl (by decide +kernel) ⟨Nat.le_of_ble_eq_true rfl, Nat.le_of_ble_eq_true rfl⟩) hK hP hD hS hAA [2] [0, 1] [] rfl rfl rfl (by decide) (by decide) (by decide) rfl 0 rfl rfl rfl rfl hl.1 rfl (Nat.le_of_ble_eq_true rfl) dX2_setRegion_16 ⟨Nat.le_of_ble_eq_true rfl, Nat.le_of_ble_eq_true rfl⟩ (k := 0) (n := 0) rfl rfl (fun r_2 u_ H locs hw hP hD hS => ?_)
    have hw : (r_2 = bI (inB y (nI 0) (nI 5))) := hw
    have hr_r_2 := hw
    have hP : va_P D vwCl [(c, .inr (2, [.ref b, .ref ol, .int (bI fo), .ref el, .int (bI fe), .ref aSe, .ref aDt, .ref aOb, .int (nI dm)])), (bR, .inl (cI, 9, .inl (fun j => nI (rg j)))), (b, .inr (0, [.int (nI g), .int (nI p), .int (nI (g * p)), .ref bR, .ref bB, .ref bA, .ref bO, .ref bP, .ref bM]))] H := hP
    have hD : va_D AA [(c, .inr (2, [.ref b, .ref ol, .int (bI fo), .ref el, .int (bI fe), .ref aSe, .ref aDt, .ref aOb, .int (nI dm)])), (bR, .inl (cI, 9, .inl (fun j => nI (rg j)))), (b, .inr (0, [.int (nI g), .int (nI p), .int (nI (g * p)), .ref bR, .ref bB, .ref bA, .ref bO, .ref bP, .ref bM]))] := hD
    subst hr_r_2
    refine lv_if_ne (tgt := 32) hXX hBB dX2_setRegion_19 (by decide) (fun c_19 => ?_) (fun c_19 => ?_)
    · have c_19 : (inB y (nI 0) (nI 5)) = true := m_bz1 c_19
      refine lv_aload_n hXX hBB dX2_setRegion_32 rfl (lv_at hl 0 rfl) ?_
      refine x_callv (wr := [(bR, .inl (cI, 9, .inl (fun j => nI (rg j)))), (b, .inr (0, [.int (nI g), .int (nI p), .int (nI (g * p)), .ref bR, .ref bB, .ref bA, .ref bO, .ref bP, .ref bM]))]) ⟨hXX, hBB, hml, hown, hts⟩ hN hXs (kX2_requireNothingDrawn l hstk D c b ol el aSe aDt aOb fo fe dm (by omega)) (cwV 0 hts gX2_setRegion_X2_requireNothingDrawn rfl rfl rfl (by decide +kernel) ⟨Nat.le_of_ble_eq_true rfl, Nat.le_of_ble_eq_true rfl⟩) hK hP hD hS hAA [0] [1, 2] [] rfl rfl rfl (by decide) (by decide) (by decide) rfl 2 rfl rfl rfl rfl hl.1 rfl (Nat.le_of_ble_eq_true rfl) dX2_setRegion_33 ⟨Nat.le_of_ble_eq_true rfl, Nat.le_of_ble_eq_true rfl⟩ (k := 1) (n := 6) rfl rfl (fun i_ u_ E_ ce_ q_ H locs hE_ hw hP hD hS hq_ hv_ hc_ => ?_) (fun  u_ H locs hw hP hD hS => ?_)
      · skip
        have hP : va_P D vwCl [(bR, .inl (cI, 9, .inl (fun j => nI (rg j)))), (b, .inr (0, [.int (nI g), .int (nI p), .int (nI (g * p)), .ref bR, .ref bB, .ref bA, .ref bO, .ref bP, .ref bM])), (c, .inr (2, [.ref b, .ref ol, .int (bI fo), .ref el, .int (bI fe), .ref aSe, .ref aDt, .ref aOb, .int (nI dm)]))] H := hP
        have hD : va_D AA [(bR, .inl (cI, 9, .inl (fun j => nI (rg j)))), (b, .inr (0, [.int (nI g), .int (nI p), .int (nI (g * p)), .ref bR, .ref bB, .ref bA, .ref bO, .ref bP, .ref bM])), (c, .inr (2, [.ref b, .ref ol, .int (bI fo), .ref el, .int (bI fe), .ref aSe, .ref aDt, .ref aOb, .int (nI dm)]))] := hD
        have hw : i_ = 3 ∧ 0 < dm := hw
        refine hpro i_ () hE_ ?_ (hP.sub [2, 1, 0] rfl) (hD.sub [2, 1, 0] (by decide) rfl) hS hq_ hv_ hc_ (Nat.le_of_ble_eq_true rfl) (Nat.le_of_ble_eq_true rfl)
        exact Or.inr ⟨hw.1, (srPost_2 (rg := rg) (r := 0) c_8 c_19 hw.2).1.symm⟩
      have hw : (dm = 0) := hw
      have e_d := hw
      have hP : va_P D vwCl [(bR, .inl (cI, 9, .inl (fun j => nI (rg j)))), (b, .inr (0, [.int (nI g), .int (nI p), .int (nI (g * p)), .ref bR, .ref bB, .ref bA, .ref bO, .ref bP, .ref bM])), (c, .inr (2, [.ref b, .ref ol, .int (bI fo), .ref el, .int (bI fe), .ref aSe, .ref aDt, .ref aOb, .int (nI dm)]))] H := hP
      have hD : va_D AA [(bR, .inl (cI, 9, .inl (fun j => nI (rg j)))), (b, .inr (0, [.int (nI g), .int (nI p), .int (nI (g * p)), .ref bR, .ref bB, .ref bA, .ref bO, .ref bP, .ref bM])), (c, .inr (2, [.ref b, .ref ol, .int (bI fo), .ref el, .int (bI fe), .ref aSe, .ref aDt, .ref aOb, .int (nI dm)]))] := hD
      obtain ⟨t, hlo_t, hhi_t, he_t⟩ := inB_nat (lo := 0) (hi := g * p - 1) (by omega) c_8
      obtain ⟨v, hlo_v, hhi_v, he_v⟩ := inB_nat (lo := 0) (hi := 5) (by decide) c_19
      have hl : lv_has ls 4 [(0, .ref c), (1, .int (nI t)), (2, .int (nI v))] := by rw [he_t, he_v] at hl; exact hl
      refine lv_aload_n hXX hBB dX2_setRegion_36 rfl (lv_at hl 0 rfl) ?_
      refine va_get (D := D) (ci := 2) (v := .ref b) (C := RX2) (T := TX2) (N := 9) hXX hBB hts iw_X2 hown hK hP 2 rfl rfl 0 (by decide) kw_3 (fun _ h9 => h9) rfl dX2_setRegion_37 ?_
      refine va_getN (D := D) (ci := 0) (v := .ref bR) (C := RX0) (T := TX0) (N := 9) hXX hBB hts iw_X0 hown hK hP 1 rfl rfl 3 (by decide) kn_66 (fun _ h9 => h9) rfl dX2_setRegion_40 ?_
      refine lv_iload_n hXX hBB dX2_setRegion_43 rfl (lv_at hl 1 rfl) ?_
      refine m_iald hXX hBB hK hP 0 0 rfl rfl (i := t) (by omega) (by decide) (x := nI (rg t)) rfl dX2_setRegion_44 ?_
      refine lv_istore_n (lv' := [(3, .int (nI (rg t))), (0, .ref c), (1, .int (nI t)), (2, .int (nI v))]) hXX hBB dX2_setRegion_45 rfl hl (by decide) rfl (fun ls hl => ?_)
      refine lv_aload_n hXX hBB dX2_setRegion_46 rfl (lv_at hl 1 rfl) ?_
      refine va_get (D := D) (ci := 2) (v := .ref b) (C := RX2) (T := TX2) (N := 9) hXX hBB hts iw_X2 hown hK hP 2 rfl rfl 0 (by decide) kw_3 (fun _ h9 => h9) rfl dX2_setRegion_47 ?_
      refine va_getN (D := D) (ci := 0) (v := .ref bR) (C := RX0) (T := TX0) (N := 9) hXX hBB hts iw_X0 hown hK hP 1 rfl rfl 3 (by decide) kn_66 (fun _ h9 => h9) rfl dX2_setRegion_50 ?_
      refine lv_iload_n hXX hBB dX2_setRegion_53 rfl (lv_at hl 2 rfl) ?_
      refine lv_iload_n hXX hBB dX2_setRegion_54 rfl (lv_at hl 3 rfl) ?_
      refine m_iast hXX hBB hK hP hD hS 0 0 rfl rfl (i := t) (by omega) (by decide) (g := fun j => nI (updN rg t v j)) (m_upd _ _ _) dX2_setRegion_55 (fun H locs hP hD hS => ?_)
      have hP : va_P D vwCl [(bR, .inl (cI, 9, .inl (fun j => nI (updN rg t v j)))), (b, .inr (0, [.int (nI g), .int (nI p), .int (nI (g * p)), .ref bR, .ref bB, .ref bA, .ref bO, .ref bP, .ref bM])), (c, .inr (2, [.ref b, .ref ol, .int (bI fo), .ref el, .int (bI fe), .ref aSe, .ref aDt, .ref aOb, .int (nI dm)]))] H := hP
      have hD : va_D AA [(bR, .inl (cI, 9, .inl (fun j => nI (updN rg t v j)))), (b, .inr (0, [.int (nI g), .int (nI p), .int (nI (g * p)), .ref bR, .ref bB, .ref bA, .ref bO, .ref bP, .ref bM])), (c, .inr (2, [.ref b, .ref ol, .int (bI fo), .ref el, .int (bI fe), .ref aSe, .ref aDt, .ref aOb, .int (nI dm)]))] := hD
      refine lv_aload_n hXX hBB dX2_setRegion_56 rfl (lv_at hl 1 rfl) ?_
      refine m_callv (wr := [(bR, .inl (cI, 9, .inl (fun j => nI (updN rg t v j)))), (b, .inr (0, [.int (nI g), .int (nI p), .int (nI (g * p)), .ref bR, .ref bB, .ref bA, .ref bO, .ref bP, .ref bM]))]) ⟨hXX, hBB, hml, hown, hts⟩ hN (kX2_forgetResults l D c b ol el aSe aDt aOb fo fe dm) (cwV 0 hts gX2_setRegion_X2_forgetResults rfl rfl rfl (by decide +kernel) ⟨Nat.le_of_ble_eq_true rfl, Nat.le_of_ble_eq_true rfl⟩) hK hP hD hS hAA [2] [0, 1] [] rfl rfl rfl (by decide) (by decide) (by decide) rfl 2 rfl rfl rfl rfl hl.1 rfl (Nat.le_of_ble_eq_true rfl) dX2_setRegion_57 ⟨Nat.le_of_ble_eq_true rfl, Nat.le_of_ble_eq_true rfl⟩ (k := 1) (n := 6) rfl rfl (fun  u_ H locs hw hP hD hS => ?_)
      have hP : va_P D vwCl [(bR, .inl (cI, 9, .inl (fun j => nI (updN rg t v j)))), (b, .inr (0, [.int (nI g), .int (nI p), .int (nI (g * p)), .ref bR, .ref bB, .ref bA, .ref bO, .ref bP, .ref bM])), (c, .inr (2, [.ref b, .ref ol, .int (bI false), .ref el, .int (bI false), .ref aSe, .ref aDt, .ref aOb, .int (nI dm)]))] H := hP
      have hD : va_D AA [(bR, .inl (cI, 9, .inl (fun j => nI (updN rg t v j)))), (b, .inr (0, [.int (nI g), .int (nI p), .int (nI (g * p)), .ref bR, .ref bB, .ref bA, .ref bO, .ref bP, .ref bM])), (c, .inr (2, [.ref b, .ref ol, .int (bI false), .ref el, .int (bI false), .ref aSe, .ref aDt, .ref aOb, .int (nI dm)]))] := hD
      refine lv_iload_n hXX hBB dX2_setRegion_60 rfl (lv_at hl 0 rfl) ?_
      refine hret (r := nI (rg t)) (updN rg t v) ?_ (rfl) (hP.sub [2, 1, 0] rfl) (hD.sub [2, 1, 0] (by decide) rfl) hS (Nat.le_of_ble_eq_true rfl) (Nat.le_of_ble_eq_true rfl) dX2_setRegion_61
      show (tSR x y (g * p) dm = 0 ∧ srPost x y (g * p) dm 0 (updN rg t v) rg (nI (rg t)))
      have hp9 := srPost_0 (rg := rg) c_8 c_19 e_d hhi_t h0 hhi_v he_t he_v
      exact ⟨hp9.1.symm, hp9⟩
    · have c_19 : (inB y (nI 0) (nI 5)) = false := m_bz0 c_19
      refine hthr 2 () ?_ (hP.sub [0, 2, 1] rfl) (hD.sub [0, 2, 1] (by decide) rfl) hS (tsX2_setRegion_22 hts hXs) (Nat.le_of_ble_eq_true rfl) (Nat.le_of_ble_eq_true rfl) hl.1 (Nat.le_of_ble_eq_true rfl) (Nat.le_of_ble_eq_true rfl) (Nat.le_of_ble_eq_true rfl)
      first | exact Or.inl ⟨rfl, (srPost_1 (rg := rg) (r := 0) (dm := dm) (Or.inl c_8)).1.symm⟩ | exact Or.inl ⟨rfl, (srPost_1 (rg := rg) (r := 0) (dm := dm) (Or.inr c_19)).1.symm⟩
abbrev rmX2_setBound : Room := { frames := 7, cells := 2, slots := 12, locals := 110 }
set_option maxHeartbeats 4000000 in
set_option maxRecDepth 100000 in
theorem kX2_setBound (l : Launch) (hstk : l.stackTraces = false) (D : va_G) (cI : ClassId) (c : Nat) (b : Nat) (ol : Nat) (el : Nat) (aSe : Nat) (aDt : Nat) (aOb : Nat) (fo : Bool) (fe : Bool) (dm : Nat) (g : Nat) (p : Nat) (bR : Nat) (bB : Nat) (bA : Nat) (bO : Nat) (bP : Nat) (bM : Nat) (bd : Nat → Nat) (x : Int32) (y : Int32) (hdm : dm ≤ 9) : Xi l yX2_setBound wsX2_setBound rmX2_setBound D [(cI, .int)] [.ref c, .int x, .int y] [(c, .inr (2, [.ref b, .ref ol, .int (bI fo), .ref el, .int (bI fe), .ref aSe, .ref aDt, .ref aOb, .int (nI dm)])), (b, .inr (0, [.int (nI g), .int (nI p), .int (nI (g * p)), .ref bR, .ref bB, .ref bA, .ref bO, .ref bP, .ref bM])), (bB, .inl (cI, 6, .inl (fun j => nI (bd j))))] (fun (r : Int32) (u : (Nat → Nat)) => (tSB x y dm = 0 ∧ sbPost x y dm 0 u bd r)) (fun (u : (Nat → Nat)) => [(c, .inr (2, [.ref b, .ref ol, .int (bI false), .ref el, .int (bI false), .ref aSe, .ref aDt, .ref aOb, .int (nI dm)])), (b, .inr (0, [.int (nI g), .int (nI p), .int (nI (g * p)), .ref bR, .ref bB, .ref bA, .ref bO, .ref bP, .ref bM])), (bB, .inl (cI, 6, .inl (fun j => nI (u j))))]) (fun (i : Nat) (_ : Unit) => (i = 2 ∧ tSB x y dm = 1) ∨ (i = 1 ∧ tSB x y dm = 2) ∨ (i = 3 ∧ tSB x y dm = 3)) (fun (_ : Unit) => [(c, .inr (2, [.ref b, .ref ol, .int (bI fo), .ref el, .int (bI fe), .ref aSe, .ref aDt, .ref aOb, .int (nI dm)])), (b, .inr (0, [.int (nI g), .int (nI p), .int (nI (g * p)), .ref bR, .ref bB, .ref bA, .ref bO, .ref bP, .ref bM])), (bB, .inl (cI, 6, .inl (fun j => nI (bd j))))]) := by
  refine Xi_of (cc := cX2_setBound) (maxL := 4) hstk (by decide) rfl (Nat.le_of_ble_eq_true rfl) ?_
  intro pR eV sT mI args below meth cO AA QQ ls hXX hBB hml hown hts hnm hN hK hP hD hS hAA hl hXs hret
  obtain ⟨hret, hthr, hpro⟩ := hret
  have hl : lv_has ls 4 [(0, .ref c), (1, .int x), (2, .int y)] := hl
  have kw_5 := hts (.fieldLink RX2 10 "CupDraw" "bowl" "LCupDraw$Bowl;") (List.mem_of_getElem? (i := 5) rfl)
  have iw_X2 : ∀ w ∈ wsX20, w ∈ wsX2_setBound := by decide +kernel
  have kn_76 : (Cond.fieldLinkNest RX2 76 RX0 "bounds" "[I" RX2).before args sT = true := va_Nw.use rfl (hN _ (List.mem_of_getElem? (i := 6) rfl))
  have iw_X0 : ∀ w ∈ wsX00, w ∈ wsX2_setBound := by decide +kernel
  refine lv_aload_n hXX hBB dX2_setBound_0 rfl (lv_at hl 0 rfl) ?_
  refine va_get (D := D) (ci := 2) (v := .ref b) (C := RX2) (T := TX2) (N := 9) hXX hBB hts iw_X2 hown hK hP 0 rfl rfl 0 (by decide) kw_5 (fun _ h9 => h9) rfl dX2_setBound_1 ?_
  refine lv_iload_n hXX hBB dX2_setBound_4 rfl (lv_at hl 1 rfl) ?_
  refine m_calli (wr := [(c, .inr (2, [.ref b, .ref ol, .int (bI fo), .ref el, .int (bI fe), .ref aSe, .ref aDt, .ref aOb, .int (nI dm)])), (bB, .inl (cI, 6, .inl (fun j => nI (bd j))))]) ⟨hXX, hBB, hml, hown, hts⟩ hN (kX0_hasRegion l D b g p (g * p) bR bB bA bO bP bM x) (cwV 1 hts gX2_setBound_X0_hasRegion rfl rfl rfl (by decide +kernel) ⟨Nat.le_of_ble_eq_true rfl, Nat.le_of_ble_eq_true rfl⟩) hK hP hD hS hAA [1] [0, 2] [] rfl rfl rfl (by decide) (by decide) (by decide) rfl 0 rfl rfl rfl rfl hl.1 rfl (Nat.le_of_ble_eq_true rfl) dX2_setBound_5 ⟨Nat.le_of_ble_eq_true rfl, Nat.le_of_ble_eq_true rfl⟩ (k := 0) (n := 0) rfl rfl (fun r_1 u_ H locs hw hP hD hS => ?_)
  have hw : (r_1 = bI (inB x (nI 0) (nI 5))) := hw
  have hr_r_1 := hw
  have hP : va_P D vwCl [(c, .inr (2, [.ref b, .ref ol, .int (bI fo), .ref el, .int (bI fe), .ref aSe, .ref aDt, .ref aOb, .int (nI dm)])), (bB, .inl (cI, 6, .inl (fun j => nI (bd j)))), (b, .inr (0, [.int (nI g), .int (nI p), .int (nI (g * p)), .ref bR, .ref bB, .ref bA, .ref bO, .ref bP, .ref bM]))] H := hP
  have hD : va_D AA [(c, .inr (2, [.ref b, .ref ol, .int (bI fo), .ref el, .int (bI fe), .ref aSe, .ref aDt, .ref aOb, .int (nI dm)])), (bB, .inl (cI, 6, .inl (fun j => nI (bd j)))), (b, .inr (0, [.int (nI g), .int (nI p), .int (nI (g * p)), .ref bR, .ref bB, .ref bA, .ref bO, .ref bP, .ref bM]))] := hD
  subst hr_r_1
  refine lv_if_ne (tgt := 21) hXX hBB dX2_setBound_8 (by decide) (fun c_8 => ?_) (fun c_8 => ?_)
  · have c_8 : (inB x (nI 0) (nI 5)) = true := m_bz1 c_8
    refine lv_iload_n hXX hBB dX2_setBound_21 rfl (lv_at hl 2 rfl) ?_
    refine lv_iconst (v := nI 1) hXX hBB dX2_setBound_22 (by decide) ?_
    refine lv_icmp_lt (tgt := 31) hXX hBB dX2_setBound_23 (by decide) (fun c_23 => ?_) (fun c_23 => ?_)
    · have c_23 := c_23
      have hc2 := lay_out1 (b := 3) c_23
      refine hthr 1 () ?_ (hP.sub [0, 2, 1] rfl) (hD.sub [0, 2, 1] (by decide) rfl) hS (tsX2_setBound_31 hts hXs) (Nat.le_of_ble_eq_true rfl) (Nat.le_of_ble_eq_true rfl) hl.1 (Nat.le_of_ble_eq_true rfl) (Nat.le_of_ble_eq_true rfl) (Nat.le_of_ble_eq_true rfl)
      exact Or.inr (Or.inl ⟨rfl, by simp [tSB, c_8, hc2]⟩)
    · have c_23 := c_23
      refine lv_iload_n hXX hBB dX2_setBound_26 rfl (lv_at hl 2 rfl) ?_
      refine lv_iconst (v := nI 3) hXX hBB dX2_setBound_27 (by decide) ?_
      refine lv_icmp_le (tgt := 41) hXX hBB dX2_setBound_28 (by decide) (fun c_28 => ?_) (fun c_28 => ?_)
      · have c_28 := c_28
        have hc2 := lay_in c_23 (Int32.not_lt.mpr c_28)
        refine lv_aload_n hXX hBB dX2_setBound_41 rfl (lv_at hl 0 rfl) ?_
        refine x_callv (wr := [(bB, .inl (cI, 6, .inl (fun j => nI (bd j)))), (b, .inr (0, [.int (nI g), .int (nI p), .int (nI (g * p)), .ref bR, .ref bB, .ref bA, .ref bO, .ref bP, .ref bM]))]) ⟨hXX, hBB, hml, hown, hts⟩ hN hXs (kX2_requireNothingDrawn l hstk D c b ol el aSe aDt aOb fo fe dm (by omega)) (cwV 0 hts gX2_setBound_X2_requireNothingDrawn rfl rfl rfl (by decide +kernel) ⟨Nat.le_of_ble_eq_true rfl, Nat.le_of_ble_eq_true rfl⟩) hK hP hD hS hAA [0] [1, 2] [] rfl rfl rfl (by decide) (by decide) (by decide) rfl 2 rfl rfl rfl rfl hl.1 rfl (Nat.le_of_ble_eq_true rfl) dX2_setBound_42 ⟨Nat.le_of_ble_eq_true rfl, Nat.le_of_ble_eq_true rfl⟩ (k := 1) (n := 6) rfl rfl (fun i_ u_ E_ ce_ q_ H locs hE_ hw hP hD hS hq_ hv_ hc_ => ?_) (fun  u_ H locs hw hP hD hS => ?_)
        · skip
          have hP : va_P D vwCl [(bB, .inl (cI, 6, .inl (fun j => nI (bd j)))), (b, .inr (0, [.int (nI g), .int (nI p), .int (nI (g * p)), .ref bR, .ref bB, .ref bA, .ref bO, .ref bP, .ref bM])), (c, .inr (2, [.ref b, .ref ol, .int (bI fo), .ref el, .int (bI fe), .ref aSe, .ref aDt, .ref aOb, .int (nI dm)]))] H := hP
          have hD : va_D AA [(bB, .inl (cI, 6, .inl (fun j => nI (bd j)))), (b, .inr (0, [.int (nI g), .int (nI p), .int (nI (g * p)), .ref bR, .ref bB, .ref bA, .ref bO, .ref bP, .ref bM])), (c, .inr (2, [.ref b, .ref ol, .int (bI fo), .ref el, .int (bI fe), .ref aSe, .ref aDt, .ref aOb, .int (nI dm)]))] := hD
          have hw : i_ = 3 ∧ 0 < dm := hw
          refine hpro i_ () hE_ ?_ (hP.sub [2, 1, 0] rfl) (hD.sub [2, 1, 0] (by decide) rfl) hS hq_ hv_ hc_ (Nat.le_of_ble_eq_true rfl) (Nat.le_of_ble_eq_true rfl)
          exact Or.inr (Or.inr ⟨hw.1, by simp [tSB, c_8, hc2, hw.2]⟩)
        have hw : (dm = 0) := hw
        have e_d := hw
        have hP : va_P D vwCl [(bB, .inl (cI, 6, .inl (fun j => nI (bd j)))), (b, .inr (0, [.int (nI g), .int (nI p), .int (nI (g * p)), .ref bR, .ref bB, .ref bA, .ref bO, .ref bP, .ref bM])), (c, .inr (2, [.ref b, .ref ol, .int (bI fo), .ref el, .int (bI fe), .ref aSe, .ref aDt, .ref aOb, .int (nI dm)]))] H := hP
        have hD : va_D AA [(bB, .inl (cI, 6, .inl (fun j => nI (bd j)))), (b, .inr (0, [.int (nI g), .int (nI p), .int (nI (g * p)), .ref bR, .ref bB, .ref bA, .ref bO, .ref bP, .ref bM])), (c, .inr (2, [.ref b, .ref ol, .int (bI fo), .ref el, .int (bI fe), .ref aSe, .ref aDt, .ref aOb, .int (nI dm)]))] := hD
        obtain ⟨t, hlo_t, hhi_t, he_t⟩ := inB_nat (lo := 0) (hi := 5) (by decide) c_8
        obtain ⟨v, hlo_v, hhi_v, he_v⟩ := inB_nat (lo := 1) (hi := 3) (by decide) hc2
        have hl : lv_has ls 4 [(0, .ref c), (1, .int (nI t)), (2, .int (nI v))] := by rw [he_t, he_v] at hl; exact hl
        refine lv_aload_n hXX hBB dX2_setBound_45 rfl (lv_at hl 0 rfl) ?_
        refine va_get (D := D) (ci := 2) (v := .ref b) (C := RX2) (T := TX2) (N := 9) hXX hBB hts iw_X2 hown hK hP 2 rfl rfl 0 (by decide) kw_5 (fun _ h9 => h9) rfl dX2_setBound_46 ?_
        refine va_getN (D := D) (ci := 0) (v := .ref bB) (C := RX0) (T := TX0) (N := 9) hXX hBB hts iw_X0 hown hK hP 1 rfl rfl 4 (by decide) kn_76 (fun _ h9 => h9) rfl dX2_setBound_49 ?_
        refine lv_iload_n hXX hBB dX2_setBound_52 rfl (lv_at hl 1 rfl) ?_
        refine m_iald hXX hBB hK hP 0 0 rfl rfl (i := t) (by omega) (by decide) (x := nI (bd t)) rfl dX2_setBound_53 ?_
        refine lv_istore_n (lv' := [(3, .int (nI (bd t))), (0, .ref c), (1, .int (nI t)), (2, .int (nI v))]) hXX hBB dX2_setBound_54 rfl hl (by decide) rfl (fun ls hl => ?_)
        refine lv_aload_n hXX hBB dX2_setBound_55 rfl (lv_at hl 1 rfl) ?_
        refine va_get (D := D) (ci := 2) (v := .ref b) (C := RX2) (T := TX2) (N := 9) hXX hBB hts iw_X2 hown hK hP 2 rfl rfl 0 (by decide) kw_5 (fun _ h9 => h9) rfl dX2_setBound_56 ?_
        refine va_getN (D := D) (ci := 0) (v := .ref bB) (C := RX0) (T := TX0) (N := 9) hXX hBB hts iw_X0 hown hK hP 1 rfl rfl 4 (by decide) kn_76 (fun _ h9 => h9) rfl dX2_setBound_59 ?_
        refine lv_iload_n hXX hBB dX2_setBound_62 rfl (lv_at hl 2 rfl) ?_
        refine lv_iload_n hXX hBB dX2_setBound_63 rfl (lv_at hl 3 rfl) ?_
        refine m_iast hXX hBB hK hP hD hS 0 0 rfl rfl (i := t) (by omega) (by decide) (g := fun j => nI (updN bd t v j)) (m_upd _ _ _) dX2_setBound_64 (fun H locs hP hD hS => ?_)
        have hP : va_P D vwCl [(bB, .inl (cI, 6, .inl (fun j => nI (updN bd t v j)))), (b, .inr (0, [.int (nI g), .int (nI p), .int (nI (g * p)), .ref bR, .ref bB, .ref bA, .ref bO, .ref bP, .ref bM])), (c, .inr (2, [.ref b, .ref ol, .int (bI fo), .ref el, .int (bI fe), .ref aSe, .ref aDt, .ref aOb, .int (nI dm)]))] H := hP
        have hD : va_D AA [(bB, .inl (cI, 6, .inl (fun j => nI (updN bd t v j)))), (b, .inr (0, [.int (nI g), .int (nI p), .int (nI (g * p)), .ref bR, .ref bB, .ref bA, .ref bO, .ref bP, .ref bM])), (c, .inr (2, [.ref b, .ref ol, .int (bI fo), .ref el, .int (bI fe), .ref aSe, .ref aDt, .ref aOb, .int (nI dm)]))] := hD
        refine lv_aload_n hXX hBB dX2_setBound_65 rfl (lv_at hl 1 rfl) ?_
        refine m_callv (wr := [(bB, .inl (cI, 6, .inl (fun j => nI (updN bd t v j)))), (b, .inr (0, [.int (nI g), .int (nI p), .int (nI (g * p)), .ref bR, .ref bB, .ref bA, .ref bO, .ref bP, .ref bM]))]) ⟨hXX, hBB, hml, hown, hts⟩ hN (kX2_forgetResults l D c b ol el aSe aDt aOb fo fe dm) (cwV 0 hts gX2_setBound_X2_forgetResults rfl rfl rfl (by decide +kernel) ⟨Nat.le_of_ble_eq_true rfl, Nat.le_of_ble_eq_true rfl⟩) hK hP hD hS hAA [2] [0, 1] [] rfl rfl rfl (by decide) (by decide) (by decide) rfl 2 rfl rfl rfl rfl hl.1 rfl (Nat.le_of_ble_eq_true rfl) dX2_setBound_66 ⟨Nat.le_of_ble_eq_true rfl, Nat.le_of_ble_eq_true rfl⟩ (k := 1) (n := 6) rfl rfl (fun  u_ H locs hw hP hD hS => ?_)
        have hP : va_P D vwCl [(bB, .inl (cI, 6, .inl (fun j => nI (updN bd t v j)))), (b, .inr (0, [.int (nI g), .int (nI p), .int (nI (g * p)), .ref bR, .ref bB, .ref bA, .ref bO, .ref bP, .ref bM])), (c, .inr (2, [.ref b, .ref ol, .int (bI false), .ref el, .int (bI false), .ref aSe, .ref aDt, .ref aOb, .int (nI dm)]))] H := hP
        have hD : va_D AA [(bB, .inl (cI, 6, .inl (fun j => nI (updN bd t v j)))), (b, .inr (0, [.int (nI g), .int (nI p), .int (nI (g * p)), .ref bR, .ref bB, .ref bA, .ref bO, .ref bP, .ref bM])), (c, .inr (2, [.ref b, .ref ol, .int (bI false), .ref el, .int (bI false), .ref aSe, .ref aDt, .ref aOb, .int (nI dm)]))] := hD
        refine lv_iload_n hXX hBB dX2_setBound_69 rfl (lv_at hl 0 rfl) ?_
        refine hret (r := nI (bd t)) (updN bd t v) ?_ (rfl) (hP.sub [2, 1, 0] rfl) (hD.sub [2, 1, 0] (by decide) rfl) hS (Nat.le_of_ble_eq_true rfl) (Nat.le_of_ble_eq_true rfl) dX2_setBound_70
        show (tSB x y dm = 0 ∧ sbPost x y dm 0 (updN bd t v) bd (nI (bd t)))
        have hp9 := sbPost_0 (bd := bd) c_8 hc2 e_d hhi_t hlo_v hhi_v he_t he_v
        exact ⟨hp9.1.symm, hp9⟩
      · have c_28 := c_28
        have hc2 := lay_out2 (a := 1) (Int32.not_le.mp c_28)
        refine hthr 1 () ?_ (hP.sub [0, 2, 1] rfl) (hD.sub [0, 2, 1] (by decide) rfl) hS (tsX2_setBound_31 hts hXs) (Nat.le_of_ble_eq_true rfl) (Nat.le_of_ble_eq_true rfl) hl.1 (Nat.le_of_ble_eq_true rfl) (Nat.le_of_ble_eq_true rfl) (Nat.le_of_ble_eq_true rfl)
        exact Or.inr (Or.inl ⟨rfl, by simp [tSB, c_8, hc2]⟩)
  · have c_8 : (inB x (nI 0) (nI 5)) = false := m_bz0 c_8
    refine hthr 2 () ?_ (hP.sub [0, 2, 1] rfl) (hD.sub [0, 2, 1] (by decide) rfl) hS (tsX2_setBound_11 hts hXs) (Nat.le_of_ble_eq_true rfl) (Nat.le_of_ble_eq_true rfl) hl.1 (Nat.le_of_ble_eq_true rfl) (Nat.le_of_ble_eq_true rfl) (Nat.le_of_ble_eq_true rfl)
    exact Or.inl ⟨rfl, by simp [tSB, c_8]⟩
abbrev rmX2_setApart : Room := { frames := 8, cells := 4, slots := 24, locals := 133 }
set_option maxHeartbeats 4000000 in
set_option maxRecDepth 100000 in
theorem kX2_setApart (l : Launch) (hstk : l.stackTraces = false) (D : va_G) (cI : ClassId) (c : Nat) (b : Nat) (ol : Nat) (el : Nat) (aSe : Nat) (aDt : Nat) (aOb : Nat) (fo : Bool) (fe : Bool) (dm : Nat) (g : Nat) (p : Nat) (bR : Nat) (bB : Nat) (bA : Nat) (bO : Nat) (bP : Nat) (bM : Nat) (ap : Nat → Nat) (x : Int32) (y : Int32) (bv : Bool) (h0 : 0 < g * p) (hT : g * p ≤ 9) (hdm : dm ≤ 9) (hap : ∀ z, ap z < 512) : Xi l yX2_setApart wsX2_setApart rmX2_setApart D [(cI, .int)] [.ref c, .int x, .int y, .int (bI bv)] [(c, .inr (2, [.ref b, .ref ol, .int (bI fo), .ref el, .int (bI fe), .ref aSe, .ref aDt, .ref aOb, .int (nI dm)])), (b, .inr (0, [.int (nI g), .int (nI p), .int (nI (g * p)), .ref bR, .ref bB, .ref bA, .ref bO, .ref bP, .ref bM])), (bA, .inl (cI, 9, .inl (fun j => nI (ap j))))] (fun (r : Int32) (u : Nat × Nat) => (tCP x y (g * p) dm = 0) ∧ (u.1 < g * p ∧ u.2 < g * p ∧ u.1 ≠ u.2 ∧ x = nI u.1 ∧ y = nI u.2) ∧ (r = bI ((ap u.1).testBit u.2))) (fun (u : Nat × Nat) => [(c, .inr (2, [.ref b, .ref ol, .int (bI false), .ref el, .int (bI false), .ref aSe, .ref aDt, .ref aOb, .int (nI dm)])), (b, .inr (0, [.int (nI g), .int (nI p), .int (nI (g * p)), .ref bR, .ref bB, .ref bA, .ref bO, .ref bP, .ref bM])), (bA, .inl (cI, 9, .inl (fun j => nI (spB bv ap u.1 u.2 j))))]) (fun (i : Nat) (_ : Unit) => (i = 2 ∧ tCP x y (g * p) dm = 1) ∨ (i = 1 ∧ tCP x y (g * p) dm = 2) ∨ (i = 3 ∧ tCP x y (g * p) dm = 3)) (fun (_ : Unit) => [(c, .inr (2, [.ref b, .ref ol, .int (bI fo), .ref el, .int (bI fe), .ref aSe, .ref aDt, .ref aOb, .int (nI dm)])), (b, .inr (0, [.int (nI g), .int (nI p), .int (nI (g * p)), .ref bR, .ref bB, .ref bA, .ref bO, .ref bP, .ref bM])), (bA, .inl (cI, 9, .inl (fun j => nI (ap j))))]) := by
  refine Xi_of (cc := cX2_setApart) (maxL := 4) hstk (by decide) rfl (Nat.le_of_ble_eq_true rfl) ?_
  intro pR eV sT mI args below meth cO AA QQ ls hXX hBB hml hown hts hnm hN hK hP hD hS hAA hl hXs hret
  obtain ⟨hret, hthr, hpro⟩ := hret
  have hl : lv_has ls 4 [(0, .ref c), (1, .int x), (2, .int y), (3, .int (bI bv))] := hl
  have kw_1 := hts (.fieldLink RX2 10 "CupDraw" "bowl" "LCupDraw$Bowl;") (List.mem_of_getElem? (i := 1) rfl)
  have iw_X2 : ∀ w ∈ wsX20, w ∈ wsX2_setApart := by decide +kernel
  have kn_82 : (Cond.fieldLinkNest RX2 82 RX0 "apart" "[I" RX2).before args sT = true := va_Nw.use rfl (hN _ (List.mem_of_getElem? (i := 7) rfl))
  have iw_X0 : ∀ w ∈ wsX00, w ∈ wsX2_setApart := by decide +kernel
  refine lv_aload_n hXX hBB dX2_setApart_0 rfl (lv_at hl 0 rfl) ?_
  refine lv_iload_n hXX hBB dX2_setApart_1 rfl (lv_at hl 1 rfl) ?_
  refine lv_iload_n hXX hBB dX2_setApart_2 rfl (lv_at hl 2 rfl) ?_
  refine x_callv (wr := [(bA, .inl (cI, 9, .inl (fun j => nI (ap j))))]) ⟨hXX, hBB, hml, hown, hts⟩ hN hXs (kX2_requireTwoTeams l hstk D c b ol el aSe aDt aOb fo fe dm g p bR bB bA bO bP bM x y (by omega) (by omega)) (cwV 2 hts gX2_setApart_X2_requireTwoTeams rfl rfl rfl (by decide +kernel) ⟨Nat.le_of_ble_eq_true rfl, Nat.le_of_ble_eq_true rfl⟩) hK hP hD hS hAA [0, 1] [2] [] rfl rfl rfl (by decide) (by decide) (by decide) rfl 2 rfl rfl rfl rfl hl.1 rfl (Nat.le_of_ble_eq_true rfl) dX2_setApart_3 ⟨Nat.le_of_ble_eq_true rfl, Nat.le_of_ble_eq_true rfl⟩ (k := 3) (n := 18) rfl rfl (fun i_ u_ E_ ce_ q_ H locs hE_ hw hP hD hS hq_ hv_ hc_ => ?_) (fun  u_ H locs hw hP hD hS => ?_)
  · skip
    have hP : va_P D vwCl [(bA, .inl (cI, 9, .inl (fun j => nI (ap j)))), (c, .inr (2, [.ref b, .ref ol, .int (bI fo), .ref el, .int (bI fe), .ref aSe, .ref aDt, .ref aOb, .int (nI dm)])), (b, .inr (0, [.int (nI g), .int (nI p), .int (nI (g * p)), .ref bR, .ref bB, .ref bA, .ref bO, .ref bP, .ref bM]))] H := hP
    have hD : va_D AA [(bA, .inl (cI, 9, .inl (fun j => nI (ap j)))), (c, .inr (2, [.ref b, .ref ol, .int (bI fo), .ref el, .int (bI fe), .ref aSe, .ref aDt, .ref aOb, .int (nI dm)])), (b, .inr (0, [.int (nI g), .int (nI p), .int (nI (g * p)), .ref bR, .ref bB, .ref bA, .ref bO, .ref bP, .ref bM]))] := hD
    have hw : (i_ = 2 ∧ (inB x (nI 0) (nI (g * p - 1)) && inB y (nI 0) (nI (g * p - 1))) = false) ∨ (i_ = 1 ∧ (inB x (nI 0) (nI (g * p - 1)) && inB y (nI 0) (nI (g * p - 1))) = true ∧ x = y) := hw
    refine hpro i_ () hE_ ?_ (hP.sub [1, 2, 0] rfl) (hD.sub [1, 2, 0] (by decide) rfl) hS hq_ hv_ hc_ (Nat.le_of_ble_eq_true rfl) (Nat.le_of_ble_eq_true rfl)
    rcases hw with ⟨q1, q2⟩ | ⟨q1, q2, q3⟩
    · exact Or.inl ⟨q1, by simp only [tCP]; rw [if_neg (by rw [q2]; decide)]⟩
    · exact Or.inr (Or.inl ⟨q1, by simp only [tCP]; rw [if_pos q2, if_pos q3]⟩)
  have hw : (inB x (nI 0) (nI (g * p - 1)) = true ∧ inB y (nI 0) (nI (g * p - 1)) = true ∧ ¬ x = y) := hw
  have e_2 := hw
  have hP : va_P D vwCl [(bA, .inl (cI, 9, .inl (fun j => nI (ap j)))), (c, .inr (2, [.ref b, .ref ol, .int (bI fo), .ref el, .int (bI fe), .ref aSe, .ref aDt, .ref aOb, .int (nI dm)])), (b, .inr (0, [.int (nI g), .int (nI p), .int (nI (g * p)), .ref bR, .ref bB, .ref bA, .ref bO, .ref bP, .ref bM]))] H := hP
  have hD : va_D AA [(bA, .inl (cI, 9, .inl (fun j => nI (ap j)))), (c, .inr (2, [.ref b, .ref ol, .int (bI fo), .ref el, .int (bI fe), .ref aSe, .ref aDt, .ref aOb, .int (nI dm)])), (b, .inr (0, [.int (nI g), .int (nI p), .int (nI (g * p)), .ref bR, .ref bB, .ref bA, .ref bO, .ref bP, .ref bM]))] := hD
  refine lv_aload_n hXX hBB dX2_setApart_6 rfl (lv_at hl 0 rfl) ?_
  refine x_callv (wr := [(bA, .inl (cI, 9, .inl (fun j => nI (ap j)))), (b, .inr (0, [.int (nI g), .int (nI p), .int (nI (g * p)), .ref bR, .ref bB, .ref bA, .ref bO, .ref bP, .ref bM]))]) ⟨hXX, hBB, hml, hown, hts⟩ hN hXs (kX2_requireNothingDrawn l hstk D c b ol el aSe aDt aOb fo fe dm (by omega)) (cwV 0 hts gX2_setApart_X2_requireNothingDrawn rfl rfl rfl (by decide +kernel) ⟨Nat.le_of_ble_eq_true rfl, Nat.le_of_ble_eq_true rfl⟩) hK hP hD hS hAA [1] [0, 2] [] rfl rfl rfl (by decide) (by decide) (by decide) rfl 2 rfl rfl rfl rfl hl.1 rfl (Nat.le_of_ble_eq_true rfl) dX2_setApart_7 ⟨Nat.le_of_ble_eq_true rfl, Nat.le_of_ble_eq_true rfl⟩ (k := 4) (n := 24) rfl rfl (fun i_ u_ E_ ce_ q_ H locs hE_ hw hP hD hS hq_ hv_ hc_ => ?_) (fun  u_ H locs hw hP hD hS => ?_)
  · skip
    have hP : va_P D vwCl [(bA, .inl (cI, 9, .inl (fun j => nI (ap j)))), (b, .inr (0, [.int (nI g), .int (nI p), .int (nI (g * p)), .ref bR, .ref bB, .ref bA, .ref bO, .ref bP, .ref bM])), (c, .inr (2, [.ref b, .ref ol, .int (bI fo), .ref el, .int (bI fe), .ref aSe, .ref aDt, .ref aOb, .int (nI dm)]))] H := hP
    have hD : va_D AA [(bA, .inl (cI, 9, .inl (fun j => nI (ap j)))), (b, .inr (0, [.int (nI g), .int (nI p), .int (nI (g * p)), .ref bR, .ref bB, .ref bA, .ref bO, .ref bP, .ref bM])), (c, .inr (2, [.ref b, .ref ol, .int (bI fo), .ref el, .int (bI fe), .ref aSe, .ref aDt, .ref aOb, .int (nI dm)]))] := hD
    have hw : i_ = 3 ∧ 0 < dm := hw
    refine hpro i_ () hE_ ?_ (hP.sub [2, 1, 0] rfl) (hD.sub [2, 1, 0] (by decide) rfl) hS hq_ hv_ hc_ (Nat.le_of_ble_eq_true rfl) (Nat.le_of_ble_eq_true rfl)
    exact Or.inr (Or.inr ⟨hw.1, by simp [tCP, e_2.1, e_2.2.1, e_2.2.2, hw.2]⟩)
  have hw : (dm = 0) := hw
  have e_d := hw
  have hP : va_P D vwCl [(bA, .inl (cI, 9, .inl (fun j => nI (ap j)))), (b, .inr (0, [.int (nI g), .int (nI p), .int (nI (g * p)), .ref bR, .ref bB, .ref bA, .ref bO, .ref bP, .ref bM])), (c, .inr (2, [.ref b, .ref ol, .int (bI fo), .ref el, .int (bI fe), .ref aSe, .ref aDt, .ref aOb, .int (nI dm)]))] H := hP
  have hD : va_D AA [(bA, .inl (cI, 9, .inl (fun j => nI (ap j)))), (b, .inr (0, [.int (nI g), .int (nI p), .int (nI (g * p)), .ref bR, .ref bB, .ref bA, .ref bO, .ref bP, .ref bM])), (c, .inr (2, [.ref b, .ref ol, .int (bI fo), .ref el, .int (bI fe), .ref aSe, .ref aDt, .ref aOb, .int (nI dm)]))] := hD
  refine lv_aload_n hXX hBB dX2_setApart_10 rfl (lv_at hl 0 rfl) ?_
  refine m_callv (wr := [(bA, .inl (cI, 9, .inl (fun j => nI (ap j)))), (b, .inr (0, [.int (nI g), .int (nI p), .int (nI (g * p)), .ref bR, .ref bB, .ref bA, .ref bO, .ref bP, .ref bM]))]) ⟨hXX, hBB, hml, hown, hts⟩ hN (kX2_forgetResults l D c b ol el aSe aDt aOb fo fe dm) (cwV 0 hts gX2_setApart_X2_forgetResults rfl rfl rfl (by decide +kernel) ⟨Nat.le_of_ble_eq_true rfl, Nat.le_of_ble_eq_true rfl⟩) hK hP hD hS hAA [2] [0, 1] [] rfl rfl rfl (by decide) (by decide) (by decide) rfl 2 rfl rfl rfl rfl hl.1 rfl (Nat.le_of_ble_eq_true rfl) dX2_setApart_11 ⟨Nat.le_of_ble_eq_true rfl, Nat.le_of_ble_eq_true rfl⟩ (k := 4) (n := 24) rfl rfl (fun  u_ H locs hw hP hD hS => ?_)
  have hP : va_P D vwCl [(bA, .inl (cI, 9, .inl (fun j => nI (ap j)))), (b, .inr (0, [.int (nI g), .int (nI p), .int (nI (g * p)), .ref bR, .ref bB, .ref bA, .ref bO, .ref bP, .ref bM])), (c, .inr (2, [.ref b, .ref ol, .int (bI false), .ref el, .int (bI false), .ref aSe, .ref aDt, .ref aOb, .int (nI dm)]))] H := hP
  have hD : va_D AA [(bA, .inl (cI, 9, .inl (fun j => nI (ap j)))), (b, .inr (0, [.int (nI g), .int (nI p), .int (nI (g * p)), .ref bR, .ref bB, .ref bA, .ref bO, .ref bP, .ref bM])), (c, .inr (2, [.ref b, .ref ol, .int (bI false), .ref el, .int (bI false), .ref aSe, .ref aDt, .ref aOb, .int (nI dm)]))] := hD
  have htc : tCP x y (g * p) dm = 0 := by simp [tCP, e_2.1, e_2.2.1, e_2.2.2, e_d]
  obtain ⟨t, o, hht, hho, hto, hd0, he_t, he_o⟩ := tCP_ok h0 hT htc
  have hl : lv_has ls 4 [(0, .ref c), (1, .int (nI t)), (2, .int (nI o)), (3, .int (bI bv))] := by rw [he_t, he_o] at hl; exact hl
  refine lv_aload_n hXX hBB dX2_setApart_14 rfl (lv_at hl 0 rfl) ?_
  refine va_get (D := D) (ci := 2) (v := .ref b) (C := RX2) (T := TX2) (N := 9) hXX hBB hts iw_X2 hown hK hP 2 rfl rfl 0 (by decide) kw_1 (fun _ h9 => h9) rfl dX2_setApart_15 ?_
  refine va_getN (D := D) (ci := 0) (v := .ref bA) (C := RX0) (T := TX0) (N := 9) hXX hBB hts iw_X0 hown hK hP 1 rfl rfl 5 (by decide) kn_82 (fun _ h9 => h9) rfl dX2_setApart_18 ?_
  refine lv_iload_n hXX hBB dX2_setApart_21 rfl (lv_at hl 1 rfl) ?_
  refine lv_iload_n hXX hBB dX2_setApart_22 rfl (lv_at hl 2 rfl) ?_
  refine lv_iload_n hXX hBB dX2_setApart_23 rfl (lv_at hl 3 rfl) ?_
  refine m_scalli (wr := [(b, .inr (0, [.int (nI g), .int (nI p), .int (nI (g * p)), .ref bR, .ref bB, .ref bA, .ref bO, .ref bP, .ref bM])), (c, .inr (2, [.ref b, .ref ol, .int (bI false), .ref el, .int (bI false), .ref aSe, .ref aDt, .ref aOb, .int (nI dm)]))]) ⟨hXX, hBB, hml, hown, hts⟩ hN (kX0_setPair l D cI bA ap t o bv (by exact hap) (by omega) (by omega) (by omega)) (va_cwS 4 hts gX2_setApart_X0_setPair rfl rfl rfl (by decide +kernel) ⟨Nat.le_of_ble_eq_true rfl, Nat.le_of_ble_eq_true rfl⟩) hK hP hD hS hAA [0] [1, 2] [0] rfl rfl rfl (by decide) (by decide) (by decide) rfl hl.1 rfl (Nat.le_of_ble_eq_true rfl) dX2_setApart_24 ⟨Nat.le_of_ble_eq_true rfl, Nat.le_of_ble_eq_true rfl⟩ (k := 4) (n := 24) rfl rfl (fun r_1 u_ H locs hw hP hD hS => ?_)
  have hw : (r_1 = bI ((ap t).testBit o)) := hw
  have hr_r_1 := hw
  have hP : va_P D vwCl [(b, .inr (0, [.int (nI g), .int (nI p), .int (nI (g * p)), .ref bR, .ref bB, .ref bA, .ref bO, .ref bP, .ref bM])), (c, .inr (2, [.ref b, .ref ol, .int (bI false), .ref el, .int (bI false), .ref aSe, .ref aDt, .ref aOb, .int (nI dm)])), (bA, .inl (cI, 9, .inl (fun j => nI (spB bv ap t o j))))] H := hP
  have hD : va_D AA [(b, .inr (0, [.int (nI g), .int (nI p), .int (nI (g * p)), .ref bR, .ref bB, .ref bA, .ref bO, .ref bP, .ref bM])), (c, .inr (2, [.ref b, .ref ol, .int (bI false), .ref el, .int (bI false), .ref aSe, .ref aDt, .ref aOb, .int (nI dm)])), (bA, .inl (cI, 9, .inl (fun j => nI (spB bv ap t o j))))] := hD
  subst hr_r_1
  refine hret (r := bI ((ap t).testBit o)) (t, o) ?_ (m_narb _) (hP.sub [1, 0, 2] rfl) (hD.sub [1, 0, 2] (by decide) rfl) hS (Nat.le_of_ble_eq_true rfl) (Nat.le_of_ble_eq_true rfl) dX2_setApart_27
  show (tCP x y (g * p) dm = 0) ∧ (t < g * p ∧ o < g * p ∧ t ≠ o ∧ x = nI t ∧ y = nI o) ∧ ((bI ((ap t).testBit o)) = bI ((ap t).testBit o))
  exact ⟨htc, ⟨by omega, by omega, hto, he_t, he_o⟩, rfl⟩
abbrev rmX2_setOtherDays : Room := { frames := 8, cells := 4, slots := 24, locals := 133 }
set_option maxHeartbeats 4000000 in
set_option maxRecDepth 100000 in
theorem kX2_setOtherDays (l : Launch) (hstk : l.stackTraces = false) (D : va_G) (cI : ClassId) (c : Nat) (b : Nat) (ol : Nat) (el : Nat) (aSe : Nat) (aDt : Nat) (aOb : Nat) (fo : Bool) (fe : Bool) (dm : Nat) (g : Nat) (p : Nat) (bR : Nat) (bB : Nat) (bA : Nat) (bO : Nat) (bP : Nat) (bM : Nat) (od : Nat → Nat) (x : Int32) (y : Int32) (bv : Bool) (h0 : 0 < g * p) (hT : g * p ≤ 9) (hdm : dm ≤ 9) (hap : ∀ z, od z < 512) : Xi l yX2_setOtherDays wsX2_setOtherDays rmX2_setOtherDays D [(cI, .int)] [.ref c, .int x, .int y, .int (bI bv)] [(c, .inr (2, [.ref b, .ref ol, .int (bI fo), .ref el, .int (bI fe), .ref aSe, .ref aDt, .ref aOb, .int (nI dm)])), (b, .inr (0, [.int (nI g), .int (nI p), .int (nI (g * p)), .ref bR, .ref bB, .ref bA, .ref bO, .ref bP, .ref bM])), (bO, .inl (cI, 9, .inl (fun j => nI (od j))))] (fun (r : Int32) (u : Nat × Nat) => (tCP x y (g * p) dm = 0) ∧ (u.1 < g * p ∧ u.2 < g * p ∧ u.1 ≠ u.2 ∧ x = nI u.1 ∧ y = nI u.2) ∧ (r = bI ((od u.1).testBit u.2))) (fun (u : Nat × Nat) => [(c, .inr (2, [.ref b, .ref ol, .int (bI false), .ref el, .int (bI false), .ref aSe, .ref aDt, .ref aOb, .int (nI dm)])), (b, .inr (0, [.int (nI g), .int (nI p), .int (nI (g * p)), .ref bR, .ref bB, .ref bA, .ref bO, .ref bP, .ref bM])), (bO, .inl (cI, 9, .inl (fun j => nI (spB bv od u.1 u.2 j))))]) (fun (i : Nat) (_ : Unit) => (i = 2 ∧ tCP x y (g * p) dm = 1) ∨ (i = 1 ∧ tCP x y (g * p) dm = 2) ∨ (i = 3 ∧ tCP x y (g * p) dm = 3)) (fun (_ : Unit) => [(c, .inr (2, [.ref b, .ref ol, .int (bI fo), .ref el, .int (bI fe), .ref aSe, .ref aDt, .ref aOb, .int (nI dm)])), (b, .inr (0, [.int (nI g), .int (nI p), .int (nI (g * p)), .ref bR, .ref bB, .ref bA, .ref bO, .ref bP, .ref bM])), (bO, .inl (cI, 9, .inl (fun j => nI (od j))))]) := by
  refine Xi_of (cc := cX2_setOtherDays) (maxL := 4) hstk (by decide) rfl (Nat.le_of_ble_eq_true rfl) ?_
  intro pR eV sT mI args below meth cO AA QQ ls hXX hBB hml hown hts hnm hN hK hP hD hS hAA hl hXs hret
  obtain ⟨hret, hthr, hpro⟩ := hret
  have hl : lv_has ls 4 [(0, .ref c), (1, .int x), (2, .int y), (3, .int (bI bv))] := hl
  have kw_1 := hts (.fieldLink RX2 10 "CupDraw" "bowl" "LCupDraw$Bowl;") (List.mem_of_getElem? (i := 1) rfl)
  have iw_X2 : ∀ w ∈ wsX20, w ∈ wsX2_setOtherDays := by decide +kernel
  have kn_89 : (Cond.fieldLinkNest RX2 89 RX0 "otherDays" "[I" RX2).before args sT = true := va_Nw.use rfl (hN _ (List.mem_of_getElem? (i := 8) rfl))
  have iw_X0 : ∀ w ∈ wsX00, w ∈ wsX2_setOtherDays := by decide +kernel
  refine lv_aload_n hXX hBB dX2_setOtherDays_0 rfl (lv_at hl 0 rfl) ?_
  refine lv_iload_n hXX hBB dX2_setOtherDays_1 rfl (lv_at hl 1 rfl) ?_
  refine lv_iload_n hXX hBB dX2_setOtherDays_2 rfl (lv_at hl 2 rfl) ?_
  refine x_callv (wr := [(bO, .inl (cI, 9, .inl (fun j => nI (od j))))]) ⟨hXX, hBB, hml, hown, hts⟩ hN hXs (kX2_requireTwoTeams l hstk D c b ol el aSe aDt aOb fo fe dm g p bR bB bA bO bP bM x y (by omega) (by omega)) (cwV 2 hts gX2_setOtherDays_X2_requireTwoTeams rfl rfl rfl (by decide +kernel) ⟨Nat.le_of_ble_eq_true rfl, Nat.le_of_ble_eq_true rfl⟩) hK hP hD hS hAA [0, 1] [2] [] rfl rfl rfl (by decide) (by decide) (by decide) rfl 2 rfl rfl rfl rfl hl.1 rfl (Nat.le_of_ble_eq_true rfl) dX2_setOtherDays_3 ⟨Nat.le_of_ble_eq_true rfl, Nat.le_of_ble_eq_true rfl⟩ (k := 3) (n := 18) rfl rfl (fun i_ u_ E_ ce_ q_ H locs hE_ hw hP hD hS hq_ hv_ hc_ => ?_) (fun  u_ H locs hw hP hD hS => ?_)
  · skip
    have hP : va_P D vwCl [(bO, .inl (cI, 9, .inl (fun j => nI (od j)))), (c, .inr (2, [.ref b, .ref ol, .int (bI fo), .ref el, .int (bI fe), .ref aSe, .ref aDt, .ref aOb, .int (nI dm)])), (b, .inr (0, [.int (nI g), .int (nI p), .int (nI (g * p)), .ref bR, .ref bB, .ref bA, .ref bO, .ref bP, .ref bM]))] H := hP
    have hD : va_D AA [(bO, .inl (cI, 9, .inl (fun j => nI (od j)))), (c, .inr (2, [.ref b, .ref ol, .int (bI fo), .ref el, .int (bI fe), .ref aSe, .ref aDt, .ref aOb, .int (nI dm)])), (b, .inr (0, [.int (nI g), .int (nI p), .int (nI (g * p)), .ref bR, .ref bB, .ref bA, .ref bO, .ref bP, .ref bM]))] := hD
    have hw : (i_ = 2 ∧ (inB x (nI 0) (nI (g * p - 1)) && inB y (nI 0) (nI (g * p - 1))) = false) ∨ (i_ = 1 ∧ (inB x (nI 0) (nI (g * p - 1)) && inB y (nI 0) (nI (g * p - 1))) = true ∧ x = y) := hw
    refine hpro i_ () hE_ ?_ (hP.sub [1, 2, 0] rfl) (hD.sub [1, 2, 0] (by decide) rfl) hS hq_ hv_ hc_ (Nat.le_of_ble_eq_true rfl) (Nat.le_of_ble_eq_true rfl)
    rcases hw with ⟨q1, q2⟩ | ⟨q1, q2, q3⟩
    · exact Or.inl ⟨q1, by simp only [tCP]; rw [if_neg (by rw [q2]; decide)]⟩
    · exact Or.inr (Or.inl ⟨q1, by simp only [tCP]; rw [if_pos q2, if_pos q3]⟩)
  have hw : (inB x (nI 0) (nI (g * p - 1)) = true ∧ inB y (nI 0) (nI (g * p - 1)) = true ∧ ¬ x = y) := hw
  have e_2 := hw
  have hP : va_P D vwCl [(bO, .inl (cI, 9, .inl (fun j => nI (od j)))), (c, .inr (2, [.ref b, .ref ol, .int (bI fo), .ref el, .int (bI fe), .ref aSe, .ref aDt, .ref aOb, .int (nI dm)])), (b, .inr (0, [.int (nI g), .int (nI p), .int (nI (g * p)), .ref bR, .ref bB, .ref bA, .ref bO, .ref bP, .ref bM]))] H := hP
  have hD : va_D AA [(bO, .inl (cI, 9, .inl (fun j => nI (od j)))), (c, .inr (2, [.ref b, .ref ol, .int (bI fo), .ref el, .int (bI fe), .ref aSe, .ref aDt, .ref aOb, .int (nI dm)])), (b, .inr (0, [.int (nI g), .int (nI p), .int (nI (g * p)), .ref bR, .ref bB, .ref bA, .ref bO, .ref bP, .ref bM]))] := hD
  refine lv_aload_n hXX hBB dX2_setOtherDays_6 rfl (lv_at hl 0 rfl) ?_
  refine x_callv (wr := [(bO, .inl (cI, 9, .inl (fun j => nI (od j)))), (b, .inr (0, [.int (nI g), .int (nI p), .int (nI (g * p)), .ref bR, .ref bB, .ref bA, .ref bO, .ref bP, .ref bM]))]) ⟨hXX, hBB, hml, hown, hts⟩ hN hXs (kX2_requireNothingDrawn l hstk D c b ol el aSe aDt aOb fo fe dm (by omega)) (cwV 0 hts gX2_setOtherDays_X2_requireNothingDrawn rfl rfl rfl (by decide +kernel) ⟨Nat.le_of_ble_eq_true rfl, Nat.le_of_ble_eq_true rfl⟩) hK hP hD hS hAA [1] [0, 2] [] rfl rfl rfl (by decide) (by decide) (by decide) rfl 2 rfl rfl rfl rfl hl.1 rfl (Nat.le_of_ble_eq_true rfl) dX2_setOtherDays_7 ⟨Nat.le_of_ble_eq_true rfl, Nat.le_of_ble_eq_true rfl⟩ (k := 4) (n := 24) rfl rfl (fun i_ u_ E_ ce_ q_ H locs hE_ hw hP hD hS hq_ hv_ hc_ => ?_) (fun  u_ H locs hw hP hD hS => ?_)
  · skip
    have hP : va_P D vwCl [(bO, .inl (cI, 9, .inl (fun j => nI (od j)))), (b, .inr (0, [.int (nI g), .int (nI p), .int (nI (g * p)), .ref bR, .ref bB, .ref bA, .ref bO, .ref bP, .ref bM])), (c, .inr (2, [.ref b, .ref ol, .int (bI fo), .ref el, .int (bI fe), .ref aSe, .ref aDt, .ref aOb, .int (nI dm)]))] H := hP
    have hD : va_D AA [(bO, .inl (cI, 9, .inl (fun j => nI (od j)))), (b, .inr (0, [.int (nI g), .int (nI p), .int (nI (g * p)), .ref bR, .ref bB, .ref bA, .ref bO, .ref bP, .ref bM])), (c, .inr (2, [.ref b, .ref ol, .int (bI fo), .ref el, .int (bI fe), .ref aSe, .ref aDt, .ref aOb, .int (nI dm)]))] := hD
    have hw : i_ = 3 ∧ 0 < dm := hw
    refine hpro i_ () hE_ ?_ (hP.sub [2, 1, 0] rfl) (hD.sub [2, 1, 0] (by decide) rfl) hS hq_ hv_ hc_ (Nat.le_of_ble_eq_true rfl) (Nat.le_of_ble_eq_true rfl)
    exact Or.inr (Or.inr ⟨hw.1, by simp [tCP, e_2.1, e_2.2.1, e_2.2.2, hw.2]⟩)
  have hw : (dm = 0) := hw
  have e_d := hw
  have hP : va_P D vwCl [(bO, .inl (cI, 9, .inl (fun j => nI (od j)))), (b, .inr (0, [.int (nI g), .int (nI p), .int (nI (g * p)), .ref bR, .ref bB, .ref bA, .ref bO, .ref bP, .ref bM])), (c, .inr (2, [.ref b, .ref ol, .int (bI fo), .ref el, .int (bI fe), .ref aSe, .ref aDt, .ref aOb, .int (nI dm)]))] H := hP
  have hD : va_D AA [(bO, .inl (cI, 9, .inl (fun j => nI (od j)))), (b, .inr (0, [.int (nI g), .int (nI p), .int (nI (g * p)), .ref bR, .ref bB, .ref bA, .ref bO, .ref bP, .ref bM])), (c, .inr (2, [.ref b, .ref ol, .int (bI fo), .ref el, .int (bI fe), .ref aSe, .ref aDt, .ref aOb, .int (nI dm)]))] := hD
  refine lv_aload_n hXX hBB dX2_setOtherDays_10 rfl (lv_at hl 0 rfl) ?_
  refine m_callv (wr := [(bO, .inl (cI, 9, .inl (fun j => nI (od j)))), (b, .inr (0, [.int (nI g), .int (nI p), .int (nI (g * p)), .ref bR, .ref bB, .ref bA, .ref bO, .ref bP, .ref bM]))]) ⟨hXX, hBB, hml, hown, hts⟩ hN (kX2_forgetResults l D c b ol el aSe aDt aOb fo fe dm) (cwV 0 hts gX2_setOtherDays_X2_forgetResults rfl rfl rfl (by decide +kernel) ⟨Nat.le_of_ble_eq_true rfl, Nat.le_of_ble_eq_true rfl⟩) hK hP hD hS hAA [2] [0, 1] [] rfl rfl rfl (by decide) (by decide) (by decide) rfl 2 rfl rfl rfl rfl hl.1 rfl (Nat.le_of_ble_eq_true rfl) dX2_setOtherDays_11 ⟨Nat.le_of_ble_eq_true rfl, Nat.le_of_ble_eq_true rfl⟩ (k := 4) (n := 24) rfl rfl (fun  u_ H locs hw hP hD hS => ?_)
  have hP : va_P D vwCl [(bO, .inl (cI, 9, .inl (fun j => nI (od j)))), (b, .inr (0, [.int (nI g), .int (nI p), .int (nI (g * p)), .ref bR, .ref bB, .ref bA, .ref bO, .ref bP, .ref bM])), (c, .inr (2, [.ref b, .ref ol, .int (bI false), .ref el, .int (bI false), .ref aSe, .ref aDt, .ref aOb, .int (nI dm)]))] H := hP
  have hD : va_D AA [(bO, .inl (cI, 9, .inl (fun j => nI (od j)))), (b, .inr (0, [.int (nI g), .int (nI p), .int (nI (g * p)), .ref bR, .ref bB, .ref bA, .ref bO, .ref bP, .ref bM])), (c, .inr (2, [.ref b, .ref ol, .int (bI false), .ref el, .int (bI false), .ref aSe, .ref aDt, .ref aOb, .int (nI dm)]))] := hD
  have htc : tCP x y (g * p) dm = 0 := by simp [tCP, e_2.1, e_2.2.1, e_2.2.2, e_d]
  obtain ⟨t, o, hht, hho, hto, hd0, he_t, he_o⟩ := tCP_ok h0 hT htc
  have hl : lv_has ls 4 [(0, .ref c), (1, .int (nI t)), (2, .int (nI o)), (3, .int (bI bv))] := by rw [he_t, he_o] at hl; exact hl
  refine lv_aload_n hXX hBB dX2_setOtherDays_14 rfl (lv_at hl 0 rfl) ?_
  refine va_get (D := D) (ci := 2) (v := .ref b) (C := RX2) (T := TX2) (N := 9) hXX hBB hts iw_X2 hown hK hP 2 rfl rfl 0 (by decide) kw_1 (fun _ h9 => h9) rfl dX2_setOtherDays_15 ?_
  refine va_getN (D := D) (ci := 0) (v := .ref bO) (C := RX0) (T := TX0) (N := 9) hXX hBB hts iw_X0 hown hK hP 1 rfl rfl 6 (by decide) kn_89 (fun _ h9 => h9) rfl dX2_setOtherDays_18 ?_
  refine lv_iload_n hXX hBB dX2_setOtherDays_21 rfl (lv_at hl 1 rfl) ?_
  refine lv_iload_n hXX hBB dX2_setOtherDays_22 rfl (lv_at hl 2 rfl) ?_
  refine lv_iload_n hXX hBB dX2_setOtherDays_23 rfl (lv_at hl 3 rfl) ?_
  refine m_scalli (wr := [(b, .inr (0, [.int (nI g), .int (nI p), .int (nI (g * p)), .ref bR, .ref bB, .ref bA, .ref bO, .ref bP, .ref bM])), (c, .inr (2, [.ref b, .ref ol, .int (bI false), .ref el, .int (bI false), .ref aSe, .ref aDt, .ref aOb, .int (nI dm)]))]) ⟨hXX, hBB, hml, hown, hts⟩ hN (kX0_setPair l D cI bO od t o bv (by exact hap) (by omega) (by omega) (by omega)) (va_cwS 4 hts gX2_setOtherDays_X0_setPair rfl rfl rfl (by decide +kernel) ⟨Nat.le_of_ble_eq_true rfl, Nat.le_of_ble_eq_true rfl⟩) hK hP hD hS hAA [0] [1, 2] [0] rfl rfl rfl (by decide) (by decide) (by decide) rfl hl.1 rfl (Nat.le_of_ble_eq_true rfl) dX2_setOtherDays_24 ⟨Nat.le_of_ble_eq_true rfl, Nat.le_of_ble_eq_true rfl⟩ (k := 4) (n := 24) rfl rfl (fun r_1 u_ H locs hw hP hD hS => ?_)
  have hw : (r_1 = bI ((od t).testBit o)) := hw
  have hr_r_1 := hw
  have hP : va_P D vwCl [(b, .inr (0, [.int (nI g), .int (nI p), .int (nI (g * p)), .ref bR, .ref bB, .ref bA, .ref bO, .ref bP, .ref bM])), (c, .inr (2, [.ref b, .ref ol, .int (bI false), .ref el, .int (bI false), .ref aSe, .ref aDt, .ref aOb, .int (nI dm)])), (bO, .inl (cI, 9, .inl (fun j => nI (spB bv od t o j))))] H := hP
  have hD : va_D AA [(b, .inr (0, [.int (nI g), .int (nI p), .int (nI (g * p)), .ref bR, .ref bB, .ref bA, .ref bO, .ref bP, .ref bM])), (c, .inr (2, [.ref b, .ref ol, .int (bI false), .ref el, .int (bI false), .ref aSe, .ref aDt, .ref aOb, .int (nI dm)])), (bO, .inl (cI, 9, .inl (fun j => nI (spB bv od t o j))))] := hD
  subst hr_r_1
  refine hret (r := bI ((od t).testBit o)) (t, o) ?_ (m_narb _) (hP.sub [1, 0, 2] rfl) (hD.sub [1, 0, 2] (by decide) rfl) hS (Nat.le_of_ble_eq_true rfl) (Nat.le_of_ble_eq_true rfl) dX2_setOtherDays_27
  show (tCP x y (g * p) dm = 0) ∧ (t < g * p ∧ o < g * p ∧ t ≠ o ∧ x = nI t ∧ y = nI o) ∧ ((bI ((od t).testBit o)) = bI ((od t).testBit o))
  exact ⟨htc, ⟨by omega, by omega, hto, he_t, he_o⟩, rfl⟩
abbrev rmX2_undo : Room := { frames := 6, cells := 1, slots := 6, locals := 90 }
set_option maxHeartbeats 4000000 in
set_option maxRecDepth 100000 in
theorem kX2_undo (l : Launch) (hstk : l.stackTraces = false) (D : va_G) (cI : ClassId) (c : Nat) (b : Nat) (ol : Nat) (el : Nat) (aSe : Nat) (aDt : Nat) (aOb : Nat) (fo : Bool) (fe : Bool) (dm : Nat) (oa : Nat) (n : Nat) (dt : Nat → Nat) (ob9 : Nat → Nat) (S : Nat → Int32) (hdm : dm ≤ 9) (hdt : 0 < dm → dt (dm - 1) < 9) : Xi l yX2_undo wsX2_undo rmX2_undo D [(cI, .int)] [.ref c] [(c, .inr (2, [.ref b, .ref ol, .int (bI fo), .ref el, .int (bI fe), .ref aSe, .ref aDt, .ref aOb, .int (nI dm)])), (ol, .inr (1, [.ref oa, .int (nI n)])), (aSe, .inl (cI, 9, .inl S)), (aDt, .inl (cI, 9, .inl (fun j => nI (dt j)))), (aOb, .inl (cI, 9, .inl (fun j => nI (ob9 j))))] (fun (r : Int32) (_ : Unit) => (0 < dm) ∧ (r = nI (dt (dm - 1)))) (fun (_ : Unit) => [(c, .inr (2, [.ref b, .ref ol, .int (bI fo), .ref el, .int (bI false), .ref aSe, .ref aDt, .ref aOb, .int (nI (dm - 1))])), (ol, .inr (1, [.ref oa, .int (nI (ob9 (dm - 1)))])), (aSe, .inl (cI, 9, .inl (upd S (dt (dm - 1)) (-1)))), (aDt, .inl (cI, 9, .inl (fun j => nI (dt j)))), (aOb, .inl (cI, 9, .inl (fun j => nI (ob9 j))))]) (fun (i : Nat) (_ : Unit) => i = 3 ∧ dm = 0) (fun (_ : Unit) => [(c, .inr (2, [.ref b, .ref ol, .int (bI fo), .ref el, .int (bI fe), .ref aSe, .ref aDt, .ref aOb, .int (nI dm)])), (ol, .inr (1, [.ref oa, .int (nI n)])), (aSe, .inl (cI, 9, .inl S)), (aDt, .inl (cI, 9, .inl (fun j => nI (dt j)))), (aOb, .inl (cI, 9, .inl (fun j => nI (ob9 j))))]) := by
  refine Xi_of (cc := cX2_undo) (maxL := 1) hstk (by decide) rfl (Nat.le_of_ble_eq_true rfl) ?_
  intro pR eV sT mI args below meth cO AA QQ ls hXX hBB hml hown hts hnm hN hK hP hD hS hAA hl hXs hret
  obtain ⟨hret, hthr, hpro⟩ := hret
  have hl : lv_has ls 1 [(0, .ref c)] := hl
  have kw_3 := hts (.fieldLink RX2 92 "CupDraw" "drawnCount" "I") (List.mem_of_getElem? (i := 3) rfl)
  have iw_X2 : ∀ w ∈ wsX20, w ∈ wsX2_undo := by decide +kernel
  have kw_4 := hts (.fieldLink RX2 113 "CupDraw" "isEndListFresh" "Z") (List.mem_of_getElem? (i := 4) rfl)
  refine lv_aload_n hXX hBB dX2_undo_0 rfl (lv_at hl 0 rfl) ?_
  refine va_get (D := D) (ci := 2) (v := .int (nI dm)) (C := RX2) (T := TX2) (N := 9) hXX hBB hts iw_X2 hown hK hP 0 rfl rfl 8 (by decide) kw_3 (fun _ h9 => h9) rfl dX2_undo_1 ?_
  refine lv_if_gt (tgt := 17) hXX hBB dX2_undo_4 (by decide) (fun c_4 => ?_) (fun c_4 => ?_)
  · have c_4 : 0 < dm := m_pos_gt_t (by omega) c_4
    refine lv_aload_n hXX hBB dX2_undo_17 rfl (lv_at hl 0 rfl) ?_
    refine lv_iconst (v := nI 0) hXX hBB dX2_undo_18 (by decide) ?_
    refine m_top (y := bI false) rfl ?_
    refine va_put (D := D) (ci := 2) (v := .int (bI false)) (ty := .boolean) (C := RX2) (T := TX2) (N := 9) hXX hBB hts iw_X2 tyX2 tyX2_ok nmX2 hown hK hP hD hS 0 rfl rfl 4 (by decide) kw_4 (fun _ h9 => h9) rfl (by decide +kernel) (m_narb _) (m_fitb _) (Nat.le_of_ble_eq_true rfl) dX2_undo_19 (fun H locs hP hD hS => ?_)
    have hP : va_P D vwCl [(c, .inr (2, [.ref b, .ref ol, .int (bI fo), .ref el, .int (bI false), .ref aSe, .ref aDt, .ref aOb, .int (nI dm)])), (ol, .inr (1, [.ref oa, .int (nI n)])), (aSe, .inl (cI, 9, .inl S)), (aDt, .inl (cI, 9, .inl (fun j => nI (dt j)))), (aOb, .inl (cI, 9, .inl (fun j => nI (ob9 j))))] H := hP
    have hD : va_D AA [(c, .inr (2, [.ref b, .ref ol, .int (bI fo), .ref el, .int (bI false), .ref aSe, .ref aDt, .ref aOb, .int (nI dm)])), (ol, .inr (1, [.ref oa, .int (nI n)])), (aSe, .inl (cI, 9, .inl S)), (aDt, .inl (cI, 9, .inl (fun j => nI (dt j)))), (aOb, .inl (cI, 9, .inl (fun j => nI (ob9 j))))] := hD
    refine lv_aload_n hXX hBB dX2_undo_22 rfl (lv_at hl 0 rfl) ?_
    refine m_calli (wr := []) ⟨hXX, hBB, hml, hown, hts⟩ hN (kX2_unseat l D cI c b ol el aSe aDt aOb fo false dm oa n dt ob9 S (by omega) (by omega) (by exact hdt c_4)) (cwV 0 hts gX2_undo_X2_unseat rfl rfl rfl (by decide +kernel) ⟨Nat.le_of_ble_eq_true rfl, Nat.le_of_ble_eq_true rfl⟩) hK hP hD hS hAA [0, 1, 2, 3, 4] [] [0] rfl rfl rfl (by decide) (by decide) (by decide) rfl 2 rfl rfl rfl rfl hl.1 rfl (Nat.le_of_ble_eq_true rfl) dX2_undo_23 ⟨Nat.le_of_ble_eq_true rfl, Nat.le_of_ble_eq_true rfl⟩ (k := 0) (n := 0) rfl rfl (fun r_1 u_ H locs hw hP hD hS => ?_)
    have hw : (r_1 = nI (dt (dm - 1))) := hw
    have hr_r_1 := hw
    have hP : va_P D vwCl [(c, .inr (2, [.ref b, .ref ol, .int (bI fo), .ref el, .int (bI false), .ref aSe, .ref aDt, .ref aOb, .int (nI (dm - 1))])), (ol, .inr (1, [.ref oa, .int (nI (ob9 (dm - 1)))])), (aSe, .inl (cI, 9, .inl (upd S (dt (dm - 1)) (-1)))), (aDt, .inl (cI, 9, .inl (fun j => nI (dt j)))), (aOb, .inl (cI, 9, .inl (fun j => nI (ob9 j))))] H := hP
    have hD : va_D AA [(c, .inr (2, [.ref b, .ref ol, .int (bI fo), .ref el, .int (bI false), .ref aSe, .ref aDt, .ref aOb, .int (nI (dm - 1))])), (ol, .inr (1, [.ref oa, .int (nI (ob9 (dm - 1)))])), (aSe, .inl (cI, 9, .inl (upd S (dt (dm - 1)) (-1)))), (aDt, .inl (cI, 9, .inl (fun j => nI (dt j)))), (aOb, .inl (cI, 9, .inl (fun j => nI (ob9 j))))] := hD
    subst hr_r_1
    refine hret (r := nI (dt (dm - 1))) () ?_ (rfl) (hP.sub [0, 1, 2, 3, 4] rfl) (hD.sub [0, 1, 2, 3, 4] (by decide) rfl) hS (Nat.le_of_ble_eq_true rfl) (Nat.le_of_ble_eq_true rfl) dX2_undo_26
    show (0 < dm) ∧ ((nI (dt (dm - 1))) = nI (dt (dm - 1)))
    exact ⟨c_4, rfl⟩
  · have c_4 : dm = 0 := m_nps_gt_f (by omega) c_4
    refine hthr 3 () ?_ (hP.sub [0, 1, 2, 3, 4] rfl) (hD.sub [0, 1, 2, 3, 4] (by decide) rfl) hS (tsX2_undo_7 hts hXs) (Nat.le_of_ble_eq_true rfl) (Nat.le_of_ble_eq_true rfl) hl.1 (Nat.le_of_ble_eq_true rfl) (Nat.le_of_ble_eq_true rfl) (Nat.le_of_ble_eq_true rfl)
    exact ⟨rfl, c_4⟩
abbrev rmX2_ballAt : Room := { frames := 6, cells := 1, slots := 6, locals := 90 }
set_option maxHeartbeats 4000000 in
set_option maxRecDepth 100000 in
theorem kX2_ballAt (l : Launch) (hstk : l.stackTraces = false) (D : va_G) (cI : ClassId) (c : Nat) (b : Nat) (ol : Nat) (el : Nat) (aSe : Nat) (aDt : Nat) (aOb : Nat) (fo : Bool) (fe : Bool) (dm : Nat) (g : Nat) (p : Nat) (bR : Nat) (bB : Nat) (bA : Nat) (bO : Nat) (bP : Nat) (bM : Nat) (S : Nat → Int32) (x : Int32) (hg0 : 0 < g) (hg4 : g ≤ 4) (hp3 : p ≤ 3) (hT : g * p ≤ 9) (hV : VS g p dm S) (hdm : dm ≤ g * p) : Xi l yX2_ballAt wsX2_ballAt rmX2_ballAt D [(cI, .int)] [.ref c, .int x] [(c, .inr (2, [.ref b, .ref ol, .int (bI fo), .ref el, .int (bI fe), .ref aSe, .ref aDt, .ref aOb, .int (nI dm)])), (b, .inr (0, [.int (nI g), .int (nI p), .int (nI (g * p)), .ref bR, .ref bB, .ref bA, .ref bO, .ref bP, .ref bM])), (aSe, .inl (cI, 9, .inl S))] (fun (r : Int32) (_ : Unit) => (inB x (nI 0) (nI (leN dm g p) - nI 1) = true ∧ ∃ zk, zk < leN dm g p ∧ x = nI zk ∧ r = nth S g (g * (dm / g)) zk)) (fun (_ : Unit) => [(c, .inr (2, [.ref b, .ref ol, .int (bI fo), .ref el, .int (bI fe), .ref aSe, .ref aDt, .ref aOb, .int (nI dm)])), (b, .inr (0, [.int (nI g), .int (nI p), .int (nI (g * p)), .ref bR, .ref bB, .ref bA, .ref bO, .ref bP, .ref bM])), (aSe, .inl (cI, 9, .inl S))]) (fun (i : Nat) (_ : Unit) => i = 2 ∧ inB x (nI 0) (nI (leN dm g p) - nI 1) = false) (fun (_ : Unit) => [(c, .inr (2, [.ref b, .ref ol, .int (bI fo), .ref el, .int (bI fe), .ref aSe, .ref aDt, .ref aOb, .int (nI dm)])), (b, .inr (0, [.int (nI g), .int (nI p), .int (nI (g * p)), .ref bR, .ref bB, .ref bA, .ref bO, .ref bP, .ref bM])), (aSe, .inl (cI, 9, .inl S))]) := by
  refine Xi_of (cc := cX2_ballAt) (maxL := 3) hstk (by decide) rfl (Nat.le_of_ble_eq_true rfl) ?_
  intro pR eV sT mI args below meth cO AA QQ ls hXX hBB hml hown hts hnm hN hK hP hD hS hAA hl hXs hret
  obtain ⟨hret, hthr, hpro⟩ := hret
  have hl : lv_has ls 3 [(0, .ref c), (1, .int x)] := hl
  refine lv_aload_n hXX hBB dX2_ballAt_0 rfl (lv_at hl 0 rfl) ?_
  refine lv_iload_n hXX hBB dX2_ballAt_1 rfl (lv_at hl 1 rfl) ?_
  refine m_calli (wr := []) ⟨hXX, hBB, hml, hown, hts⟩ hN (kX2_findBall l D cI c b ol el aSe aDt aOb fo fe dm g p bR bB bA bO bP bM S x (by omega) (by omega) (by omega) (by omega)) (cwV 1 hts gX2_ballAt_X2_findBall rfl rfl rfl (by decide +kernel) ⟨Nat.le_of_ble_eq_true rfl, Nat.le_of_ble_eq_true rfl⟩) hK hP hD hS hAA [0, 1, 2] [] [0] rfl rfl rfl (by decide) (by decide) (by decide) rfl 2 rfl rfl rfl rfl hl.1 rfl (Nat.le_of_ble_eq_true rfl) dX2_ballAt_2 ⟨Nat.le_of_ble_eq_true rfl, Nat.le_of_ble_eq_true rfl⟩ (k := 0) (n := 0) rfl rfl (fun r_1 u_ H locs hw hP hD hS => ?_)
  have hw : (r_1 = fbR S g p x) := hw
  have hr_r_1 := hw
  have hP : va_P D vwCl [(c, .inr (2, [.ref b, .ref ol, .int (bI fo), .ref el, .int (bI fe), .ref aSe, .ref aDt, .ref aOb, .int (nI dm)])), (b, .inr (0, [.int (nI g), .int (nI p), .int (nI (g * p)), .ref bR, .ref bB, .ref bA, .ref bO, .ref bP, .ref bM])), (aSe, .inl (cI, 9, .inl S))] H := hP
  have hD : va_D AA [(c, .inr (2, [.ref b, .ref ol, .int (bI fo), .ref el, .int (bI fe), .ref aSe, .ref aDt, .ref aOb, .int (nI dm)])), (b, .inr (0, [.int (nI g), .int (nI p), .int (nI (g * p)), .ref bR, .ref bB, .ref bA, .ref bO, .ref bP, .ref bM])), (aSe, .inl (cI, 9, .inl S))] := hD
  subst hr_r_1
  refine lv_istore_n (lv' := [(2, .int (fbR S g p x)), (0, .ref c), (1, .int x)]) hXX hBB dX2_ballAt_5 rfl hl (by decide) rfl (fun ls hl => ?_)
  refine lv_iload_n hXX hBB dX2_ballAt_6 rfl (lv_at hl 0 rfl) ?_
  refine lv_iconst (v := (-1)) hXX hBB dX2_ballAt_7 (by decide) ?_
  refine lv_icmp_ne (tgt := 21) hXX hBB dX2_ballAt_8 (by decide) (fun c_8 => ?_) (fun c_8 => ?_)
  · have c_8 := c_8
    refine lv_iload_n hXX hBB dX2_ballAt_21 rfl (lv_at hl 0 rfl) ?_
    refine hret (r := fbR S g p x) () ?_ (rfl) (hP.sub [0, 1, 2] rfl) (hD.sub [0, 1, 2] (by decide) rfl) hS (Nat.le_of_ble_eq_true rfl) (Nat.le_of_ble_eq_true rfl) dX2_ballAt_22
    show (inB x (nI 0) (nI (leN dm g p) - nI 1) = true ∧ ∃ zk, zk < leN dm g p ∧ x = nI zk ∧ (fbR S g p x) = nth S g (g * (dm / g)) zk)
    exact fb_some hg0 hg4 hT hV hdm c_8
  · have c_8 := c_8
    refine hthr 2 () ?_ (hP.sub [0, 1, 2] rfl) (hD.sub [0, 1, 2] (by decide) rfl) hS (tsX2_ballAt_11 hts hXs) (Nat.le_of_ble_eq_true rfl) (Nat.le_of_ble_eq_true rfl) hl.1 (Nat.le_of_ble_eq_true rfl) (Nat.le_of_ble_eq_true rfl) (Nat.le_of_ble_eq_true rfl)
    exact ⟨rfl, fb_none hg0 hg4 hT hV hdm c_8⟩
abbrev rmX2_groupOf : Room := { frames := 7, cells := 1, slots := 6, locals := 111 }
set_option maxHeartbeats 4000000 in
set_option maxRecDepth 100000 in
theorem kX2_groupOf (l : Launch) (hstk : l.stackTraces = false) (D : va_G) (cI : ClassId) (c : Nat) (b : Nat) (ol : Nat) (el : Nat) (aSe : Nat) (aDt : Nat) (aOb : Nat) (fo : Bool) (fe : Bool) (dm : Nat) (g : Nat) (p : Nat) (bR : Nat) (bB : Nat) (bA : Nat) (bO : Nat) (bP : Nat) (bM : Nat) (S : Nat → Int32) (x : Int32) (h0 : 0 < g * p) (hT : g * p ≤ 9) : Xi l yX2_groupOf wsX2_groupOf rmX2_groupOf D [(cI, .int)] [.ref c, .int x] [(c, .inr (2, [.ref b, .ref ol, .int (bI fo), .ref el, .int (bI fe), .ref aSe, .ref aDt, .ref aOb, .int (nI dm)])), (b, .inr (0, [.int (nI g), .int (nI p), .int (nI (g * p)), .ref bR, .ref bB, .ref bA, .ref bO, .ref bP, .ref bM])), (aSe, .inl (cI, 9, .inl S))] (fun (r : Int32) (_ : Unit) => (inB x (nI 0) (nI (g * p - 1)) = true ∧ ∃ zt, zt < g * p ∧ x = nI zt ∧ r = S zt)) (fun (_ : Unit) => [(c, .inr (2, [.ref b, .ref ol, .int (bI fo), .ref el, .int (bI fe), .ref aSe, .ref aDt, .ref aOb, .int (nI dm)])), (b, .inr (0, [.int (nI g), .int (nI p), .int (nI (g * p)), .ref bR, .ref bB, .ref bA, .ref bO, .ref bP, .ref bM])), (aSe, .inl (cI, 9, .inl S))]) (fun (i : Nat) (_ : Unit) => i = 2 ∧ inB x (nI 0) (nI (g * p - 1)) = false) (fun (_ : Unit) => [(c, .inr (2, [.ref b, .ref ol, .int (bI fo), .ref el, .int (bI fe), .ref aSe, .ref aDt, .ref aOb, .int (nI dm)])), (b, .inr (0, [.int (nI g), .int (nI p), .int (nI (g * p)), .ref bR, .ref bB, .ref bA, .ref bO, .ref bP, .ref bM])), (aSe, .inl (cI, 9, .inl S))]) := by
  refine Xi_of (cc := cX2_groupOf) (maxL := 2) hstk (by decide) rfl (Nat.le_of_ble_eq_true rfl) ?_
  intro pR eV sT mI args below meth cO AA QQ ls hXX hBB hml hown hts hnm hN hK hP hD hS hAA hl hXs hret
  obtain ⟨hret, hthr, hpro⟩ := hret
  have hl : lv_has ls 2 [(0, .ref c), (1, .int x)] := hl
  have kw_1 := hts (.fieldLink RX2 26 "CupDraw" "seats" "[I") (List.mem_of_getElem? (i := 1) rfl)
  have iw_X2 : ∀ w ∈ wsX20, w ∈ wsX2_groupOf := by decide +kernel
  refine lv_aload_n hXX hBB dX2_groupOf_0 rfl (lv_at hl 0 rfl) ?_
  refine lv_iload_n hXX hBB dX2_groupOf_1 rfl (lv_at hl 1 rfl) ?_
  refine x_callv (wr := [(aSe, .inl (cI, 9, .inl S))]) ⟨hXX, hBB, hml, hown, hts⟩ hN hXs (kX2_requireTeam l hstk D c b ol el aSe aDt aOb fo fe dm g p bR bB bA bO bP bM x (by omega) (by omega)) (cwV 1 hts gX2_groupOf_X2_requireTeam rfl rfl rfl (by decide +kernel) ⟨Nat.le_of_ble_eq_true rfl, Nat.le_of_ble_eq_true rfl⟩) hK hP hD hS hAA [0, 1] [2] [] rfl rfl rfl (by decide) (by decide) (by decide) rfl 2 rfl rfl rfl rfl hl.1 rfl (Nat.le_of_ble_eq_true rfl) dX2_groupOf_2 ⟨Nat.le_of_ble_eq_true rfl, Nat.le_of_ble_eq_true rfl⟩ (k := 1) (n := 6) rfl rfl (fun i_ u_ E_ ce_ q_ H locs hE_ hw hP hD hS hq_ hv_ hc_ => ?_) (fun  u_ H locs hw hP hD hS => ?_)
  · skip
    have hP : va_P D vwCl [(aSe, .inl (cI, 9, .inl S)), (c, .inr (2, [.ref b, .ref ol, .int (bI fo), .ref el, .int (bI fe), .ref aSe, .ref aDt, .ref aOb, .int (nI dm)])), (b, .inr (0, [.int (nI g), .int (nI p), .int (nI (g * p)), .ref bR, .ref bB, .ref bA, .ref bO, .ref bP, .ref bM]))] H := hP
    have hD : va_D AA [(aSe, .inl (cI, 9, .inl S)), (c, .inr (2, [.ref b, .ref ol, .int (bI fo), .ref el, .int (bI fe), .ref aSe, .ref aDt, .ref aOb, .int (nI dm)])), (b, .inr (0, [.int (nI g), .int (nI p), .int (nI (g * p)), .ref bR, .ref bB, .ref bA, .ref bO, .ref bP, .ref bM]))] := hD
    have hw : i_ = 2 ∧ inB x (nI 0) (nI (g * p - 1)) = false := hw
    refine hpro i_ () hE_ ?_ (hP.sub [1, 2, 0] rfl) (hD.sub [1, 2, 0] (by decide) rfl) hS hq_ hv_ hc_ (Nat.le_of_ble_eq_true rfl) (Nat.le_of_ble_eq_true rfl)
    exact hw
  have hw : (inB x (nI 0) (nI (g * p - 1)) = true) := hw
  have e_x := hw
  have hP : va_P D vwCl [(aSe, .inl (cI, 9, .inl S)), (c, .inr (2, [.ref b, .ref ol, .int (bI fo), .ref el, .int (bI fe), .ref aSe, .ref aDt, .ref aOb, .int (nI dm)])), (b, .inr (0, [.int (nI g), .int (nI p), .int (nI (g * p)), .ref bR, .ref bB, .ref bA, .ref bO, .ref bP, .ref bM]))] H := hP
  have hD : va_D AA [(aSe, .inl (cI, 9, .inl S)), (c, .inr (2, [.ref b, .ref ol, .int (bI fo), .ref el, .int (bI fe), .ref aSe, .ref aDt, .ref aOb, .int (nI dm)])), (b, .inr (0, [.int (nI g), .int (nI p), .int (nI (g * p)), .ref bR, .ref bB, .ref bA, .ref bO, .ref bP, .ref bM]))] := hD
  obtain ⟨t, hlo_t, hhi_t, he_t⟩ := inB_nat (lo := 0) (hi := g * p - 1) (by omega) e_x
  have hl : lv_has ls 2 [(0, .ref c), (1, .int (nI t))] := by rw [he_t] at hl; exact hl
  refine lv_aload_n hXX hBB dX2_groupOf_5 rfl (lv_at hl 0 rfl) ?_
  refine va_get (D := D) (ci := 2) (v := .ref aSe) (C := RX2) (T := TX2) (N := 9) hXX hBB hts iw_X2 hown hK hP 1 rfl rfl 5 (by decide) kw_1 (fun _ h9 => h9) rfl dX2_groupOf_6 ?_
  refine lv_iload_n hXX hBB dX2_groupOf_9 rfl (lv_at hl 1 rfl) ?_
  refine m_iald hXX hBB hK hP 0 0 rfl rfl (i := t) (by omega) (by decide) (x := S t) rfl dX2_groupOf_10 ?_
  refine hret (r := S t) () ?_ (rfl) (hP.sub [1, 2, 0] rfl) (hD.sub [1, 2, 0] (by decide) rfl) hS (Nat.le_of_ble_eq_true rfl) (Nat.le_of_ble_eq_true rfl) dX2_groupOf_11
  show (inB x (nI 0) (nI (g * p - 1)) = true ∧ ∃ zt, zt < g * p ∧ x = nI zt ∧ (S t) = S zt)
  exact ⟨e_x, t, by omega, he_t, rfl⟩
abbrev rmX2_teamAt : Room := { frames := 6, cells := 1, slots := 6, locals := 90 }
set_option maxHeartbeats 4000000 in
set_option maxRecDepth 100000 in
theorem kX2_teamAt (l : Launch) (hstk : l.stackTraces = false) (D : va_G) (cI : ClassId) (c : Nat) (b : Nat) (ol : Nat) (el : Nat) (aSe : Nat) (aDt : Nat) (aOb : Nat) (fo : Bool) (fe : Bool) (dm : Nat) (g : Nat) (p : Nat) (bR : Nat) (bB : Nat) (bA : Nat) (bO : Nat) (bP : Nat) (bM : Nat) (S : Nat → Int32) (x : Int32) (y : Int32) (hg0 : 0 < g) (hg4 : g ≤ 4) (hp3 : p ≤ 3) (hT : g * p ≤ 9) (hp0 : 0 < p) : Xi l yX2_teamAt wsX2_teamAt rmX2_teamAt D [(cI, .int)] [.ref c, .int x, .int y] [(c, .inr (2, [.ref b, .ref ol, .int (bI fo), .ref el, .int (bI fe), .ref aSe, .ref aDt, .ref aOb, .int (nI dm)])), (b, .inr (0, [.int (nI g), .int (nI p), .int (nI (g * p)), .ref bR, .ref bB, .ref bA, .ref bO, .ref bP, .ref bM])), (aSe, .inl (cI, 9, .inl S))] (fun (r : Int32) (_ : Unit) => ((inB x (nI 0) (nI (g - 1)) && inB y (nI 0) (nI (p - 1))) = true ∧ ∃ zq, zq < p ∧ y = nI zq ∧ r = fndR S x g (g * zq))) (fun (_ : Unit) => [(c, .inr (2, [.ref b, .ref ol, .int (bI fo), .ref el, .int (bI fe), .ref aSe, .ref aDt, .ref aOb, .int (nI dm)])), (b, .inr (0, [.int (nI g), .int (nI p), .int (nI (g * p)), .ref bR, .ref bB, .ref bA, .ref bO, .ref bP, .ref bM])), (aSe, .inl (cI, 9, .inl S))]) (fun (i : Nat) (_ : Unit) => i = 2 ∧ (inB x (nI 0) (nI (g - 1)) && inB y (nI 0) (nI (p - 1))) = false) (fun (_ : Unit) => [(c, .inr (2, [.ref b, .ref ol, .int (bI fo), .ref el, .int (bI fe), .ref aSe, .ref aDt, .ref aOb, .int (nI dm)])), (b, .inr (0, [.int (nI g), .int (nI p), .int (nI (g * p)), .ref bR, .ref bB, .ref bA, .ref bO, .ref bP, .ref bM])), (aSe, .inl (cI, 9, .inl S))]) := by
  refine Xi_of (cc := cX2_teamAt) (maxL := 5) hstk (by decide) rfl (Nat.le_of_ble_eq_true rfl) ?_
  intro pR eV sT mI args below meth cO AA QQ ls hXX hBB hml hown hts hnm hN hK hP hD hS hAA hl hXs hret
  obtain ⟨hret, hthr, hpro⟩ := hret
  have hl : lv_has ls 5 [(0, .ref c), (1, .int x), (2, .int y)] := hl
  have kw_3 := hts (.fieldLink RX2 10 "CupDraw" "bowl" "LCupDraw$Bowl;") (List.mem_of_getElem? (i := 3) rfl)
  have iw_X2 : ∀ w ∈ wsX20, w ∈ wsX2_teamAt := by decide +kernel
  have kn_147 : (Cond.fieldLinkNest RX2 147 RX0 "groups" "I" RX2).before args sT = true := va_Nw.use rfl (hN _ (List.mem_of_getElem? (i := 2) rfl))
  have iw_X0 : ∀ w ∈ wsX00, w ∈ wsX2_teamAt := by decide +kernel
  have kw_4 := hts (.fieldLink RX2 26 "CupDraw" "seats" "[I") (List.mem_of_getElem? (i := 4) rfl)
  refine lv_aload_n hXX hBB dX2_teamAt_0 rfl (lv_at hl 0 rfl) ?_
  refine va_get (D := D) (ci := 2) (v := .ref b) (C := RX2) (T := TX2) (N := 9) hXX hBB hts iw_X2 hown hK hP 0 rfl rfl 0 (by decide) kw_3 (fun _ h9 => h9) rfl dX2_teamAt_1 ?_
  refine lv_iload_n hXX hBB dX2_teamAt_4 rfl (lv_at hl 1 rfl) ?_
  refine m_calli (wr := [(c, .inr (2, [.ref b, .ref ol, .int (bI fo), .ref el, .int (bI fe), .ref aSe, .ref aDt, .ref aOb, .int (nI dm)])), (aSe, .inl (cI, 9, .inl S))]) ⟨hXX, hBB, hml, hown, hts⟩ hN (kX0_hasGroup l D b g p (g * p) bR bB bA bO bP bM x (by exact hg0) (by omega)) (cwV 1 hts gX2_teamAt_X0_hasGroup rfl rfl rfl (by decide +kernel) ⟨Nat.le_of_ble_eq_true rfl, Nat.le_of_ble_eq_true rfl⟩) hK hP hD hS hAA [1] [0, 2] [] rfl rfl rfl (by decide) (by decide) (by decide) rfl 0 rfl rfl rfl rfl hl.1 rfl (Nat.le_of_ble_eq_true rfl) dX2_teamAt_5 ⟨Nat.le_of_ble_eq_true rfl, Nat.le_of_ble_eq_true rfl⟩ (k := 0) (n := 0) rfl rfl (fun r_1 u_ H locs hw hP hD hS => ?_)
  have hw : (r_1 = bI (inB x (nI 0) (nI (g - 1)))) := hw
  have hr_r_1 := hw
  have hP : va_P D vwCl [(c, .inr (2, [.ref b, .ref ol, .int (bI fo), .ref el, .int (bI fe), .ref aSe, .ref aDt, .ref aOb, .int (nI dm)])), (aSe, .inl (cI, 9, .inl S)), (b, .inr (0, [.int (nI g), .int (nI p), .int (nI (g * p)), .ref bR, .ref bB, .ref bA, .ref bO, .ref bP, .ref bM]))] H := hP
  have hD : va_D AA [(c, .inr (2, [.ref b, .ref ol, .int (bI fo), .ref el, .int (bI fe), .ref aSe, .ref aDt, .ref aOb, .int (nI dm)])), (aSe, .inl (cI, 9, .inl S)), (b, .inr (0, [.int (nI g), .int (nI p), .int (nI (g * p)), .ref bR, .ref bB, .ref bA, .ref bO, .ref bP, .ref bM]))] := hD
  subst hr_r_1
  refine lv_if_eq (tgt := 22) hXX hBB dX2_teamAt_8 (by decide) (fun c_8 => ?_) (fun c_8 => ?_)
  · have c_8 : (inB x (nI 0) (nI (g - 1))) = false := m_bz0 c_8
    refine hthr 2 () ?_ (hP.sub [0, 2, 1] rfl) (hD.sub [0, 2, 1] (by decide) rfl) hS (tsX2_teamAt_22 hts hXs) (Nat.le_of_ble_eq_true rfl) (Nat.le_of_ble_eq_true rfl) hl.1 (Nat.le_of_ble_eq_true rfl) (Nat.le_of_ble_eq_true rfl) (Nat.le_of_ble_eq_true rfl)
    refine ⟨rfl, ?_⟩
    first | (simp [c_8]; done) | (simp [c_19]; done)
  · have c_8 : (inB x (nI 0) (nI (g - 1))) = true := m_bz1 c_8
    refine lv_aload_n hXX hBB dX2_teamAt_11 rfl (lv_at hl 0 rfl) ?_
    refine va_get (D := D) (ci := 2) (v := .ref b) (C := RX2) (T := TX2) (N := 9) hXX hBB hts iw_X2 hown hK hP 0 rfl rfl 0 (by decide) kw_3 (fun _ h9 => h9) rfl dX2_teamAt_12 ?_
    refine lv_iload_n hXX hBB dX2_teamAt_15 rfl (lv_at hl 2 rfl) ?_
    refine m_calli (wr := [(c, .inr (2, [.ref b, .ref ol, .int (bI fo), .ref el, .int (bI fe), .ref aSe, .ref aDt, .ref aOb, .int (nI dm)])), (aSe, .inl (cI, 9, .inl S))]) ⟨hXX, hBB, hml, hown, hts⟩ hN (kX0_hasPot l D b g p (g * p) bR bB bA bO bP bM y (by exact hp0) (by omega)) (cwV 1 hts gX2_teamAt_X0_hasPot rfl rfl rfl (by decide +kernel) ⟨Nat.le_of_ble_eq_true rfl, Nat.le_of_ble_eq_true rfl⟩) hK hP hD hS hAA [2] [0, 1] [] rfl rfl rfl (by decide) (by decide) (by decide) rfl 0 rfl rfl rfl rfl hl.1 rfl (Nat.le_of_ble_eq_true rfl) dX2_teamAt_16 ⟨Nat.le_of_ble_eq_true rfl, Nat.le_of_ble_eq_true rfl⟩ (k := 0) (n := 0) rfl rfl (fun r_2 u_ H locs hw hP hD hS => ?_)
    have hw : (r_2 = bI (inB y (nI 0) (nI (p - 1)))) := hw
    have hr_r_2 := hw
    have hP : va_P D vwCl [(c, .inr (2, [.ref b, .ref ol, .int (bI fo), .ref el, .int (bI fe), .ref aSe, .ref aDt, .ref aOb, .int (nI dm)])), (aSe, .inl (cI, 9, .inl S)), (b, .inr (0, [.int (nI g), .int (nI p), .int (nI (g * p)), .ref bR, .ref bB, .ref bA, .ref bO, .ref bP, .ref bM]))] H := hP
    have hD : va_D AA [(c, .inr (2, [.ref b, .ref ol, .int (bI fo), .ref el, .int (bI fe), .ref aSe, .ref aDt, .ref aOb, .int (nI dm)])), (aSe, .inl (cI, 9, .inl S)), (b, .inr (0, [.int (nI g), .int (nI p), .int (nI (g * p)), .ref bR, .ref bB, .ref bA, .ref bO, .ref bP, .ref bM]))] := hD
    subst hr_r_2
    refine lv_if_ne (tgt := 32) hXX hBB dX2_teamAt_19 (by decide) (fun c_19 => ?_) (fun c_19 => ?_)
    · have c_19 : (inB y (nI 0) (nI (p - 1))) = true := m_bz1 c_19
      obtain ⟨q, hlo_q, hhi_q, he_q⟩ := inB_nat (lo := 0) (hi := p - 1) (by omega) c_19
      have hl : lv_has ls 5 [(0, .ref c), (1, .int x), (2, .int (nI q))] := by rw [he_q] at hl; exact hl
      have hms : g * (q + 1) = g * q + g := Nat.mul_succ g q
      have hmq : g * (q + 1) ≤ g * p := Nat.mul_le_mul_left g (by omega)
      refine lv_iload_n hXX hBB dX2_teamAt_32 rfl (lv_at hl 2 rfl) ?_
      refine lv_aload_n hXX hBB dX2_teamAt_33 rfl (lv_at hl 0 rfl) ?_
      refine va_get (D := D) (ci := 2) (v := .ref b) (C := RX2) (T := TX2) (N := 9) hXX hBB hts iw_X2 hown hK hP 0 rfl rfl 0 (by decide) kw_3 (fun _ h9 => h9) rfl dX2_teamAt_34 ?_
      refine va_getN (D := D) (ci := 0) (v := .int (nI g)) (C := RX0) (T := TX0) (N := 9) hXX hBB hts iw_X0 hown hK hP 2 rfl rfl 0 (by decide) kn_147 (fun _ h9 => h9) rfl dX2_teamAt_37 ?_
      refine lv_imul hXX hBB dX2_teamAt_40 ?_
      refine m_top (y := nI (g * q)) (by rw [pk_mul, Nat.mul_comm]) ?_
      refine lv_istore_n (lv' := [(3, .int (nI (g * q))), (0, .ref c), (1, .int x), (2, .int (nI q))]) hXX hBB dX2_teamAt_41 rfl hl (by decide) rfl (fun ls hl => ?_)
      refine lv_iload_n hXX hBB dX2_teamAt_42 rfl (lv_at hl 0 rfl) ?_
      refine lv_istore (lv' := [(4, .int (nI (g * q))), (3, .int (nI (g * q))), (0, .ref c), (1, .int x), (2, .int (nI q))]) hXX hBB dX2_teamAt_43 hl (by decide) rfl (fun ls hl => ?_)
      have L_45 : ∀ (N_45 : Nat) (t : Nat), (g * q ≤ t ∧ t ≤ g * q + g) → (fndR S x (g * q + g - t) t = fndR S x g (g * q)) → g * q + g - t < N_45 → ∀ (H : Heap) (locs : List Loc), va_P D vwCl [(c, .inr (2, [.ref b, .ref ol, .int (bI fo), .ref el, .int (bI fe), .ref aSe, .ref aDt, .ref aOb, .int (nI dm)])), (aSe, .inl (cI, 9, .inl S)), (b, .inr (0, [.int (nI g), .int (nI p), .int (nI (g * p)), .ref bR, .ref bB, .ref bA, .ref bO, .ref bP, .ref bM]))] H → va_D AA [(c, .inr (2, [.ref b, .ref ol, .int (bI fo), .ref el, .int (bI fe), .ref aSe, .ref aDt, .ref aOb, .int (nI dm)])), (aSe, .inl (cI, 9, .inl S)), (b, .inr (0, [.int (nI g), .int (nI p), .int (nI (g * p)), .ref bR, .ref bB, .ref bA, .ref bO, .ref bP, .ref bM]))] → va_S AA sT.heap H locs → ∀ (ls : Array Slot), lv_has ls 5 [(4, .int (nI t)), (3, .int (nI (g * q))), (0, .ref c), (1, .int x), (2, .int (nI q))] → W pR l eV rmX2_teamAt sT mI args below meth cO H locs 0 0 QQ (F0 mI 45 ls []) := by
        intro N_45
        induction N_45 with
        | zero =>
          intro t ht hr hMM
          exact absurd hMM (Nat.not_lt_zero _)
        | succ N_45 ih_45 =>
          intro t ht hr hMM H locs hP hD hS ls hl
          refine lv_iload hXX hBB dX2_teamAt_45 (lv_at hl 0 rfl) ?_
          refine lv_iload_n hXX hBB dX2_teamAt_47 rfl (lv_at hl 1 rfl) ?_
          refine lv_aload_n hXX hBB dX2_teamAt_48 rfl (lv_at hl 2 rfl) ?_
          refine va_get (D := D) (ci := 2) (v := .ref b) (C := RX2) (T := TX2) (N := 9) hXX hBB hts iw_X2 hown hK hP 0 rfl rfl 0 (by decide) kw_3 (fun _ h9 => h9) rfl dX2_teamAt_49 ?_
          refine va_getN (D := D) (ci := 0) (v := .int (nI g)) (C := RX0) (T := TX0) (N := 9) hXX hBB hts iw_X0 hown hK hP 2 rfl rfl 0 (by decide) kn_147 (fun _ h9 => h9) rfl dX2_teamAt_52 ?_
          refine lv_iadd hXX hBB dX2_teamAt_55 ?_
          refine m_top (y := nI ((g * q) + g)) (nI_add _ _) ?_
          refine lv_icmp_ge (tgt := 79) hXX hBB dX2_teamAt_56 (by decide) (fun c_56 => ?_) (fun c_56 => ?_)
          · have c_56 : ((g * q) + g) ≤ t := (nI_leI (by omega) (by omega)).mp c_56
            rw [show g * q + g - t = 0 by omega] at hr
            refine lv_iconst (v := (-1)) hXX hBB dX2_teamAt_79 (by decide) ?_
            refine hret (r := (-1)) () ?_ (rfl) (hP.sub [0, 2, 1] rfl) (hD.sub [0, 2, 1] (by decide) rfl) hS (Nat.le_of_ble_eq_true rfl) (Nat.le_of_ble_eq_true rfl) dX2_teamAt_80
            show ((inB x (nI 0) (nI (g - 1)) && inB y (nI 0) (nI (p - 1))) = true ∧ ∃ zq, zq < p ∧ y = nI zq ∧ (-1) = fndR S x g (g * zq))
            exact ⟨by simp [c_8, c_19], q, by omega, he_q, hr⟩
          · have c_56 : ¬ ((g * q) + g) ≤ t := fun h9 => c_56 ((nI_leI (by omega) (by omega)).mpr h9)
            obtain ⟨z, hz⟩ : ∃ z, g * q + g - t = z + 1 := ⟨g * q + g - t - 1, by omega⟩
            rw [hz] at hr
            simp only [fndR] at hr
            refine lv_aload_n hXX hBB dX2_teamAt_59 rfl (lv_at hl 2 rfl) ?_
            refine va_get (D := D) (ci := 2) (v := .ref aSe) (C := RX2) (T := TX2) (N := 9) hXX hBB hts iw_X2 hown hK hP 0 rfl rfl 5 (by decide) kw_4 (fun _ h9 => h9) rfl dX2_teamAt_60 ?_
            refine lv_iload hXX hBB dX2_teamAt_63 (lv_at hl 0 rfl) ?_
            refine m_iald hXX hBB hK hP 1 0 rfl rfl (i := t) (by omega) (by decide) (x := S t) rfl dX2_teamAt_65 ?_
            refine lv_iload_n hXX hBB dX2_teamAt_66 rfl (lv_at hl 3 rfl) ?_
            refine lv_icmp_ne (tgt := 73) hXX hBB dX2_teamAt_67 (by decide) (fun c_67 => ?_) (fun c_67 => ?_)
            · have c_67 := c_67
              rw [if_neg c_67] at hr
              have hst : fndR S x (g * q + g - (t + 1)) (t + 1) = fndR S x g (g * q) := by rw [show g * q + g - (t + 1) = z by omega]; exact hr
              refine lv_iinc (v := nI (t + 1)) (lv' := [(4, .int (nI (t + 1))), (3, .int (nI (g * q))), (0, .ref c), (1, .int x), (2, .int (nI q))]) hXX hBB dX2_teamAt_73 hl (k := 0) rfl (nI_1 _) (by decide) rfl (fun ls hl => ?_)
              refine lv_goto (tgt := 45) hXX hBB dX2_teamAt_76 (by decide) ?_
              have hi_t : g * q ≤ (t + 1) ∧ (t + 1) ≤ g * q + g := by omega
              have hi_r : fndR S x (g * q + g - (t + 1)) (t + 1) = fndR S x g (g * q) := by exact hst
              have hmm : g * q + g - (t + 1) < N_45 := by omega
              exact ih_45 (t + 1) hi_t hi_r hmm _ _ (hP.sub [0, 1, 2] rfl) (hD.sub [0, 1, 2] (by decide) rfl) hS ls (lv_sub hl [0, 1, 2, 3, 4] rfl)
            · have c_67 := c_67
              rw [if_pos c_67] at hr
              refine lv_iload hXX hBB dX2_teamAt_70 (lv_at hl 0 rfl) ?_
              refine hret (r := nI t) () ?_ (rfl) (hP.sub [0, 2, 1] rfl) (hD.sub [0, 2, 1] (by decide) rfl) hS (Nat.le_of_ble_eq_true rfl) (Nat.le_of_ble_eq_true rfl) dX2_teamAt_72
              show ((inB x (nI 0) (nI (g - 1)) && inB y (nI 0) (nI (p - 1))) = true ∧ ∃ zq, zq < p ∧ y = nI zq ∧ (nI t) = fndR S x g (g * zq))
              exact ⟨by simp [c_8, c_19], q, by omega, he_q, hr⟩
      have hi_t : g * q ≤ (g * q) ∧ (g * q) ≤ g * q + g := by omega
      have hi_r : fndR S x (g * q + g - (g * q)) (g * q) = fndR S x g (g * q) := by rw [show g * q + g - g * q = g by omega]
      exact L_45 _ (g * q) hi_t hi_r (Nat.lt_succ_self _) _ _ hP hD hS ls (lv_sub hl [0, 1, 2, 3, 4] rfl)
    · have c_19 : (inB y (nI 0) (nI (p - 1))) = false := m_bz0 c_19
      refine hthr 2 () ?_ (hP.sub [0, 2, 1] rfl) (hD.sub [0, 2, 1] (by decide) rfl) hS (tsX2_teamAt_22 hts hXs) (Nat.le_of_ble_eq_true rfl) (Nat.le_of_ble_eq_true rfl) hl.1 (Nat.le_of_ble_eq_true rfl) (Nat.le_of_ble_eq_true rfl) (Nat.le_of_ble_eq_true rfl)
      refine ⟨rfl, ?_⟩
      first | (simp [c_8]; done) | (simp [c_19]; done)
