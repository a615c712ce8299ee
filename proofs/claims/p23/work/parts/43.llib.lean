/-! own rows: answers that are longs, rows of longs, and the law's rows of numbers -/
def Cl (l : Launch) (y : MethodName) (ws : List Cond) (rm : Room) (D : va_G) (tys : mTy) (av : List Value) (wc : va_W) {S : Type} (post : Int64 → S → Prop) (w1 : S → va_W) : Prop :=
  ∀ sz : Nat, Met l y ws rm (mPre D tys wc av sz) (va_Ql post (fun u t => mAt D tys (va_A wc sz) (w1 u) t) (va_A wc sz)) rm.cells rm.slots (va_A wc sz)
def mRl (l : Launch) (rm : Room) (D : va_G) (cc : ByteArray) {S : Type} (post : Int64 → S → Prop) (w1 : S → va_W) (p : Program) (e : Env) (s : State) (m : MethodId) (args : Array Value) (below : List Frame) (meth : Method) (c : Code) (A : Nat → Prop) (Q : State → Prop) : Prop :=
  ∀ {H : Heap} {locs : List Loc} {pc : Nat} {ls : Array Slot} {r : Int64} (u : S) {k n : Nat}, post r u → va_P D vwCl (w1 u) H → va_D A (w1 u) → va_S A s.heap H locs → k ≤ rm.cells → n ≤ rm.slots → decode cc pc = .ok (.lreturn, 1) →
    W p l e rm s m args below meth c H locs k n Q (F0 m pc ls [.long r])
theorem Cl_of {l : Launch} {y : MethodName} {ws ws' : List Cond} {rm : Room} {D : va_G} {tys : mTy} {av : List Value} {wc : va_W} {S : Type} {post : Int64 → S → Prop} {w1 : S → va_W} {cc : ByteArray} {maxL : Nat}
    (hy : plainName y.cls = true) (hw : ws = Cond.code y cc maxL (some .long) :: ws') (hm : (lg_sl av).length ≤ maxL)
    (body : mGo l y ws rm D tys av wc cc maxL (mRl l rm D cc post w1)) : Cl l y ws rm D tys av wc post w1 := by
  intro sz
  refine Met.ofW (cc := cc) (maxL := maxL) (ret := some .long) hy hw ?_
  intro p e s m args below meth c s₁ B hml hv
  obtain ⟨rfl, hsz, hP, hK, hD0, hN⟩ := hv
  subst hsz
  have hD := hD0.self (sz := s.heap.size)
  have hts := atoms_spec (ws := ws) B.pre
  have hl := lv_entry av (n := maxL) hm
  rw [lg_entry_eq]
  refine body p e s m av.toArray below meth c (va_A wc s.heap.size) _ _ B.exec B.bytes hml (findClass_of_methodNamed B.named) hts (name_of_methodNamed B.named B.method).1 hN hK hP hD va_S.rf (fun q h => Or.inr h) hl ?_
  intro H locs pc ls r u k n hp hP1 hD1 hS hk hn hdg
  refine W.widen (k := rm.cells) (n := rm.slots) hk hn ?_
  exact W.lret B.exec B.bytes B.returns (fun t ht hW => ⟨⟨r, u, rfl, hp, by rw [ht]; exact hP1, va_K.moved hW.alike hK, hD1⟩, hS.F ht⟩) hS.2.2 hdg B.notSynchronized
section MC2
variable {p : Program} {l : Launch} {e : Env} {R : Room} {s : State} {m : MethodId} {args : Array Value} {below : List Frame} {meth : Method} {c : Code} {H H0 : Heap} {locs : List Loc} {cells slots k n : Nat} {Q : State → Prop}
variable {cc bytes : ByteArray} {nL maxL index nn pc : Nat} {ret : Option FieldType} {own C : String} {Ts ws : List Cond} {rm : Room} {D : va_G} {tys tyc : mTy} {wc wr ws0 : va_W} {A : Nat → Prop} {y : MethodName} {av As rest st0 : List Value} {b : Nat} {S : Type} {ls : Array Slot} {w1 : S → va_W}
theorem m_scalll {post : Int64 → S → Prop} (F : CallFix p m c cc nL s args Ts own) (hN : mN s) (hM : Cl l y ws rm D tyc av wc post w1) (cw : CallB R s args own index y bytes maxL ret ws rm rm.cells rm.slots nn ∧ (Cond.static y).before args s = true)
    (hK : va_K D vwCl tys s) (hP : va_P D vwCl ws0 H) (hD : va_D A ws0) (hS : va_S A H0 H locs) (hA : ∀ q : Nat, H0.size ≤ q → A q)
    (isC isR tC : List Nat) (hC : isC.map (fun i => ws0[i]?) = wc.map some) (hR : isR.map (fun i => ws0[i]?) = wr.map some) (hty : tC.filterMap (fun i => tys[i]?) = tyc) (hnC : va_nd isC = true) (hnR : va_nd isR = true) (hdis : ∀ i ∈ isR, i ∉ isC)
    (hnn : av.length = nn) (hls : ls.size = nL) (hst : st0 = av.reverse ++ rest) (hro : (rest.map fun v => v.category).sum ≤ 8) (hdg : decode cc pc = .ok (.invokestatic index, 3)) (hf : cells + rm.cells ≤ R.cells ∧ slots + rm.slots ≤ R.slots) (hk : cells + rm.cells = k) (hn : slots + rm.slots = n)
    (kk : ∀ (r : Int64) (u : S) (H1 : Heap) (locs1 : List Loc), post r u → va_P D vwCl (wr ++ w1 u) H1 → va_D A (wr ++ w1 u) → va_S A H0 H1 locs1 → W p l e R s m args below meth c H1 locs1 k n Q (F0 m (pc + 3) ls (.long r :: rest))) :
    W p l e R s m args below meth c H locs cells slots Q (F0 m pc ls st0) := by
  subst hk hn
  have hFc := va_free (wc := wc) hD hS hA isC hC
  have hpc := mPreV (av := av) hN hK hP hD isC tC hC hnC hty
  refine va_calll (va_runS (As := av) (rest := rest) F (hM H.size) cw ⟨mPre.blind, hpc⟩ rfl hnn hls hst (lv_room hro) hdg hf) hS (fun q _ h => hFc q h) hFc (fun r u t H1 locs1 ht hvm hw hB hz1 hk1 hS1 => ?_)
  obtain ⟨hP1, hK1, hD1⟩ := hB
  rw [ht] at hP1
  obtain ⟨hP2, hD2⟩ := mJoin hP hD isC isR hC hR hnR hdis hk1 hFc hP1 hD1
  exact kk r u H1 locs1 hw hP2 hD2 hS1
/-- a static call that gives nothing back -/
theorem m_scallv {post : S → Prop} (F : CallFix p m c cc nL s args Ts own) (hN : mN s) (hM : Cv l y ws rm D tyc av wc post w1) (cw : CallB R s args own index y bytes maxL ret ws rm rm.cells rm.slots nn ∧ (Cond.static y).before args s = true)
    (hK : va_K D vwCl tys s) (hP : va_P D vwCl ws0 H) (hD : va_D A ws0) (hS : va_S A H0 H locs) (hA : ∀ q : Nat, H0.size ≤ q → A q)
    (isC isR tC : List Nat) (hC : isC.map (fun i => ws0[i]?) = wc.map some) (hR : isR.map (fun i => ws0[i]?) = wr.map some) (hty : tC.filterMap (fun i => tys[i]?) = tyc) (hnC : va_nd isC = true) (hnR : va_nd isR = true) (hdis : ∀ i ∈ isR, i ∉ isC)
    (hnn : av.length = nn) (hls : ls.size = nL) (hst : st0 = av.reverse ++ rest) (hro : (rest.map fun v => v.category).sum ≤ 8) (hdg : decode cc pc = .ok (.invokestatic index, 3)) (hf : cells + rm.cells ≤ R.cells ∧ slots + rm.slots ≤ R.slots) (hk : cells + rm.cells = k) (hn : slots + rm.slots = n)
    (kk : ∀ (u : S) (H1 : Heap) (locs1 : List Loc), post u → va_P D vwCl (wr ++ w1 u) H1 → va_D A (wr ++ w1 u) → va_S A H0 H1 locs1 → W p l e R s m args below meth c H1 locs1 k n Q (F0 m (pc + 3) ls rest)) :
    W p l e R s m args below meth c H locs cells slots Q (F0 m pc ls st0) := by
  subst hk hn
  have hFc := va_free (wc := wc) hD hS hA isC hC
  have hpc := mPreV (av := av) hN hK hP hD isC tC hC hnC hty
  refine va_callv (va_runS (As := av) (rest := rest) F (hM H.size) cw ⟨mPre.blind, hpc⟩ rfl hnn hls hst (lv_room hro) hdg hf) hS (fun q _ h => hFc q h) hFc (fun u t H1 locs1 ht hvm hw hB hz1 hk1 hS1 => ?_)
  obtain ⟨hP1, hK1, hD1⟩ := hB
  rw [ht] at hP1
  obtain ⟨hP2, hD2⟩ := mJoin hP hD isC isR hC hR hnR hdis hk1 hFc hP1 hD1
  exact kk u H1 locs1 hw hP2 hD2 hS1
theorem m_lald {a : Nat} (hexec : p.tables.exec = Jvm.exec) (hb : c.code = cc) (hK : va_K D vwCl tys s) (hP : va_P D vwCl ws0 H) (q0 t0 : Nat) {cA : ClassId} {N : Nat} {f : Nat → Int64} (ha : ws0[q0]? = some (a, .inl (cA, N, .inr (.inl f)))) (ht : tys[t0]? = some (cA, .long)) {i : Nat} (hi : i < N) (hN : N < 2 ^ 31) {x : Int64} (hx : f i = x) (hdg : decode cc pc = .ok (.laload, 1))
    (kk : W p l e R s m args below meth c H locs cells slots Q (F0 m (pc + 1) ls (.long x :: rest))) : W p l e R s m args below meth c H locs cells slots Q (F0 m pc ls (.int (nI i) :: .ref a :: rest)) := by
  refine va_lald hexec hb hK hP q0 t0 ha ht (vp_in_nI hi hN) hdg ?_
  rw [nI_clamp (by omega), hx]
  exact kk
theorem m_last {a : Nat} (hexec : p.tables.exec = Jvm.exec) (hb : c.code = cc) (hK : va_K D vwCl tys s) (hP : va_P D vwCl ws0 H) (hD : va_D A ws0) (hS : va_S A H0 H locs) (q0 t0 : Nat) {cA : ClassId} {N : Nat} {f : Nat → Int64} (ha : ws0[q0]? = some (a, .inl (cA, N, .inr (.inl f)))) (ht : tys[t0]? = some (cA, .long)) {i : Nat} {x : Int64} (hi : i < N) (hN : N < 2 ^ 31) {g : Nat → Int64} (hg : vp_updL f i x = g) (hdg : decode cc pc = .ok (.lastore, 1))
    (kk : ∀ (H1 : Heap) (locs1 : List Loc), va_P D vwCl (ws0.set q0 (a, .inl (cA, N, .inr (.inl g)))) H1 → va_D A (ws0.set q0 (a, .inl (cA, N, .inr (.inl g)))) → va_S A H0 H1 locs1 → W p l e R s m args below meth c H1 locs1 cells slots Q (F0 m (pc + 1) ls rest)) : W p l e R s m args below meth c H locs cells slots Q (F0 m pc ls (.long x :: .int (nI i) :: .ref a :: rest)) := by
  refine va_last hexec hb hK hP hD hS q0 t0 ha ht (vp_in_nI hi hN) hdg ?_
  rw [nI_clamp (by omega), hg]
  exact kk
theorem m_topl {x y : Int64} (h : x = y) (k9 : W p l e R s m args below meth c H locs cells slots Q (F0 m pc ls (.long y :: rest))) : W p l e R s m args below meth c H locs cells slots Q (F0 m pc ls (.long x :: rest)) := by
  rw [h]
  exact k9
theorem m_newj (hexec : p.tables.exec = Jvm.exec) (hb : c.code = cc) (harr : (Cond.arrayClass .long).before args s = true) (hK : va_K D vwCl tys s) (hP : va_P D vwCl ws0 H) (hD : va_D A ws0) (hS : va_S A H0 H locs) (hA : ∀ q : Nat, H0.size ≤ q → A q)
    (t0 : Nat) {cJ : ClassId} (ht : tys[t0]? = some (cJ, .long)) {N : Nat} (hN : N < 2 ^ 31) (hbytes : N * componentBytes .long ≤ 536870912) (hcells : cells + 1 ≤ R.cells) (hslots : slots + N ≤ R.slots) (hk : cells + 1 = k) (hn : slots + N = n) (hdg : decode cc pc = .ok (.newarray .long, 2))
    (kk : ∀ (q : Nat) (H1 : Heap), va_P D vwCl (ws0 ++ [(q, .inl (cJ, N, .inr (.inl (fun _ => lN 0))))]) H1 → va_D A (ws0 ++ [(q, .inl (cJ, N, .inr (.inl (fun _ => lN 0))))]) → va_S A H0 H1 locs → W p l e R s m args below meth c H1 locs k n Q (F0 m (pc + 2) ls (.ref q :: rest))) :
    W p l e R s m args below meth c H locs cells slots Q (F0 m pc ls (.int (nI N) :: rest)) := by
  subst hk hn
  refine va_newa (atype := .long) (ty := .long) hexec hb harr rfl hK hP hD hS hA (N' := N) (a0 := (N, .inr (.inl (fun _ => lN 0)))) (fun cA => rfl) (m_newn hN).1 (m_newn hN).2 hbytes hcells hslots hdg (fun q cA H1 hK1 hP1 hD1 hS1 => ?_)
  have e : cA = cJ := by
    have h1 := (hK1.2 tys.length (cA, .long) (by simp)).2
    have h2 := (hK.2 t0 _ ht).2
    exact Option.some.inj (h1.symm.trans h2)
  subst e
  exact kk q H1 hP1 hD1 hS1
/-- a row's longs past its end don't matter -/
theorem m_extl {a q0 : Nat} {cA : ClassId} {N : Nat} {f g : Nat → Int64} (hP : va_P D vwCl ws0 H) (ha : ws0[q0]? = some (a, .inl (cA, N, .inr (.inl f)))) (hfg : ∀ j, j < N → f j = g j) : va_P D vwCl (ws0.set q0 (a, .inl (cA, N, .inr (.inl g)))) H := by
  intro k q hk
  by_cases h : k = q0
  · subst h
    have hl : k < ws0.length := (List.getElem?_eq_some_iff.mp ha).1
    rw [List.getElem?_set_self hl] at hk
    cases hk
    have h1 := hP k _ ha
    have e : arrV cA N (fun j => Value.long (f j)) = arrV cA N (fun j => Value.long (g j)) := by
      unfold arrV
      have e2 : (fun j : Fin N => Value.long (f j.val)) = (fun j : Fin N => Value.long (g j.val)) := funext fun j => by rw [hfg j.val j.isLt]
      rw [e2]
    have h2 : H[a]? = some (arrV cA N (fun j => Value.long (f j))) := h1
    show H[a]? = some (arrV cA N (fun j => Value.long (g j)))
    rw [← e]
    exact h2
  · rw [List.getElem?_set_ne (fun q => h q.symm)] at hk
    exact hP k q hk
end MC2
theorem m_updL (f : Nat → Nat) (k x : Nat) : vp_updL (fun j => lN (f j)) k (lN x) = fun j => lN (updN f k x j) := by
  funext j
  by_cases h : j = k <;> simp [vp_updL, updN, h]
theorem lcmpE {a b : Nat} (ha : a < 2 ^ 63) (hb : b < 2 ^ 63) : lg_cmp (lN a) (lN b) = 0 ↔ a = b := (lg_cmp_eq (lN a) (lN b)).trans (pk_lEQ ha hb)
theorem l_bv (n : Nat) : (lN n).toBitVec = BitVec.ofNat 64 n := rfl
theorem l_and (a b : Nat) : lN a &&& lN b = lN (a &&& b) := by
  apply Int64.toBitVec_inj.1
  show BitVec.ofNat 64 a &&& BitVec.ofNat 64 b = BitVec.ofNat 64 (a &&& b)
  apply BitVec.eq_of_getLsbD_eq
  intro i hi
  simp [hi]
theorem l_or (a b : Nat) : lN a ||| lN b = lN (a ||| b) := by
  apply Int64.toBitVec_inj.1
  show BitVec.ofNat 64 a ||| BitVec.ofNat 64 b = BitVec.ofNat 64 (a ||| b)
  apply BitVec.eq_of_getLsbD_eq
  intro i hi
  simp [hi]
theorem l_am : ∀ k, k < 64 → ((nI k).toInt64 &&& 63) = lN k := by decide +kernel
theorem l_smod : ∀ k, k < 64 → ((lN k).toBitVec.smod 64) = BitVec.ofNat 64 k := by decide +kernel
theorem l_shl (n : Nat) {k : Nat} (hk : k < 64) : lN n <<< ((nI k).toInt64 &&& 63) = lN (n * 2 ^ k) := by
  rw [l_am k hk]
  apply Int64.toBitVec_inj.1
  show BitVec.ofNat 64 n <<< ((lN k).toBitVec.smod 64) = BitVec.ofNat 64 (n * 2 ^ k)
  rw [l_smod k hk]
  apply BitVec.eq_of_toNat_eq
  simp [Nat.shiftLeft_eq]
  have h2 : k % 18446744073709551616 = k := Nat.mod_eq_of_lt (by omega)
  rw [h2]
theorem l_shr {n k : Nat} (hn : n < 2 ^ 31) (hk : k < 64) : lN n >>> ((nI k).toInt64 &&& 63) = lN (n / 2 ^ k) := by
  rw [l_am k hk]
  apply Int64.toBitVec_inj.1
  show (BitVec.ofNat 64 n).sshiftRight' ((lN k).toBitVec.smod 64) = BitVec.ofNat 64 (n / 2 ^ k)
  rw [l_smod k hk]
  have hm : (BitVec.ofNat 64 n).msb = false := by
    rw [BitVec.msb_eq_decide]
    have h3 : (BitVec.ofNat 64 n).toNat = n := by
      rw [BitVec.toNat_ofNat]
      exact Nat.mod_eq_of_lt (by omega)
    rw [h3]
    exact decide_eq_false (by omega)
  rw [BitVec.sshiftRight', BitVec.sshiftRight_eq_of_msb_false hm]
  apply BitVec.eq_of_toNat_eq
  have h1 : n / 2 ^ k ≤ n := Nat.div_le_self _ _
  simp only [BitVec.toNat_ushiftRight, BitVec.toNat_ofNat]
  rw [Nat.mod_eq_of_lt (show k < 2 ^ 64 by omega), Nat.mod_eq_of_lt (show n < 2 ^ 64 by omega), Nat.mod_eq_of_lt (show n / 2 ^ k < 2 ^ 64 by omega), Nat.shiftRight_eq_div_pow]
theorem l_and1 (n : Nat) : lN n &&& lN 1 = lN (n % 2) := by
  rw [l_and]
  exact congrArg lN (Nat.and_two_pow_sub_one_eq_mod n 1)
theorem m_and1 (n : Nat) : nI n &&& nI 1 = nI (n % 2) := by
  rw [q_and]
  exact congrArg nI (Nat.and_two_pow_sub_one_eq_mod n 1)
theorem m_sub0 (x : Nat) : nI x - nI 0 = nI x := by
  rw [pk_sub (Nat.zero_le x)]
  exact congrArg nI (Nat.sub_zero x)
/-- the law's rows -/
def nA (g p dm f : Nat) : Nat → Nat
  | 0 => g
  | 1 => p
  | 2 => dm
  | 3 => f
  | _ => 0
theorem nA_u0 (g p dm f x : Nat) : upd (fun j => nI (nA g p dm f j)) 0 (nI x) = fun j => nI (nA x p dm f j) := by
  funext j
  rcases j with _ | _ | _ | _ | j <;> simp [upd, nA]
theorem nA_u1 (g p dm f x : Nat) : upd (fun j => nI (nA g p dm f j)) 1 (nI x) = fun j => nI (nA g x dm f j) := by
  funext j
  rcases j with _ | _ | _ | _ | j <;> simp [upd, nA]
theorem nA_u2 (g p dm f x : Nat) : upd (fun j => nI (nA g p dm f j)) 2 (nI x) = fun j => nI (nA g p x f j) := by
  funext j
  rcases j with _ | _ | _ | _ | j <;> simp [upd, nA]
theorem nA_u3 (g p dm f x : Nat) : upd (fun j => nI (nA g p dm f j)) 3 (nI x) = fun j => nI (nA g p dm x j) := by
  funext j
  rcases j with _ | _ | _ | _ | j <;> simp [upd, nA]
def rA (rg bd : Nat → Nat) : Nat → Nat := fun j => if j < 9 then rg j else bd (j - 9)
theorem rA_lo (rg bd : Nat → Nat) {t : Nat} (h : t < 9) : rA rg bd t = rg t := if_pos h
theorem rA_hi (rg bd : Nat → Nat) (t : Nat) : rA rg bd (9 + t) = bd t := by
  unfold rA
  rw [if_neg (by omega), show 9 + t - 9 = t by omega]
def pA (S : Nat → Int32) (dt : Nat → Nat) : Nat → Int32 := fun j => if j < 9 then S j else nI (dt (j - 9))
theorem pA_lo (S : Nat → Int32) (dt : Nat → Nat) {t : Nat} (h : t < 9) : pA S dt t = S t := if_pos h
theorem pA_hi (S : Nat → Int32) (dt : Nat → Nat) (t : Nat) : pA S dt (9 + t) = nI (dt t) := by
  unfold pA
  rw [if_neg (by omega), show 9 + t - 9 = t by omega]
theorem pA_ulo (S : Nat → Int32) (dt : Nat → Nat) {t : Nat} (h : t < 9) (v : Int32) : upd (fun j => pA S dt j) t v = fun j => pA (upd S t v) dt j := by
  funext j
  by_cases e : j = t
  · subst e; simp [upd, pA, h]
  · simp [upd, pA, e]
theorem pA_uhi (S : Nat → Int32) (dt : Nat → Nat) (t x : Nat) : upd (fun j => pA S dt j) (9 + t) (nI x) = fun j => pA S (updN dt t x) j := by
  funext j
  by_cases e : j = 9 + t
  · subst e
    have h : ¬ 9 + t < 9 := by omega
    have h2 : 9 + t - 9 = t := by omega
    simp [upd, pA, updN, h, h2]
  · by_cases h : j < 9
    · simp [upd, pA, e, h]
    · have h2 : ¬ j - 9 = t := by omega
      simp [upd, pA, updN, e, h, h2]
theorem rA_ulo (rg bd : Nat → Nat) {t : Nat} (h : t < 9) (x : Nat) : upd (fun j => nI (rA rg bd j)) t (nI x) = fun j => nI (rA (updN rg t x) bd j) := by
  funext j
  by_cases e : j = t
  · subst e; simp [upd, rA, updN, h]
  · simp [upd, rA, updN, e]
theorem rA_uhi (rg bd : Nat → Nat) (t x : Nat) : upd (fun j => nI (rA rg bd j)) (9 + t) (nI x) = fun j => nI (rA rg (updN bd t x) j) := by
  funext j
  by_cases e : j = 9 + t
  · subst e
    have h : ¬ 9 + t < 9 := by omega
    have h2 : 9 + t - 9 = t := by omega
    simp [upd, rA, updN, h, h2]
  · by_cases h : j < 9
    · simp [upd, rA, e, h]
    · have h2 : ¬ j - 9 = t := by omega
      simp [upd, rA, updN, e, h, h2]
theorem sv_ge {x : Int32} (h : x = -1 ∨ ∃ k, k < 4 ∧ x = nI k) (c : 0 ≤ x) : ¬ x = -1 := fun e => by
  rw [e] at c
  exact absurd c (by decide)
theorem sv_lt {x : Int32} (h : x = -1 ∨ ∃ k, k < 4 ∧ x = nI k) (c : ¬ 0 ≤ x) : x = -1 := by
  rcases h with h | ⟨k, hk, h⟩
  · exact h
  · rw [h] at c
    exact absurd ((nI_leI (a := 0) (by decide) (by omega)).mpr (Nat.zero_le k)) c
theorem sv_ge2 {x : Int32} (h : x = -1 ∨ ∃ k, k < 4 ∧ x = nI k) (c : ¬ x < 0) : ¬ x = -1 := fun e => by
  rw [e] at c
  exact c (by decide)
theorem sv_lt2 {x : Int32} (h : x = -1 ∨ ∃ k, k < 4 ∧ x = nI k) (c : x < 0) : x = -1 := by
  rcases h with h | ⟨k, hk, h⟩
  · exact h
  · rw [h] at c
    exact absurd ((nI_ltI (b := 0) (by omega) (by decide)).mp c) (Nat.not_lt_zero k)
/-- the seats of an array hold no more than groups -/
def SV (g p : Nat) (S : Nat → Int32) : Prop := ∀ t, t < g * p → S t = -1 ∨ ∃ k, k < g ∧ S t = nI k
theorem SV.v {g p : Nat} {S : Nat → Int32} (h : SV g p S) (hg4 : g ≤ 4) {t : Nat} (ht : t < g * p) : S t = -1 ∨ ∃ k, k < 4 ∧ S t = nI k := by
  rcases h t ht with e | ⟨k, h1, h2⟩
  · exact Or.inl e
  · exact Or.inr ⟨k, by omega, h2⟩
