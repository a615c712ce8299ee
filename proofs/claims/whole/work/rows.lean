section
-- ===== PART A: goes FIRST, ahead of the names: the tables' words, and 'selects' of the private methods out of them =====
/-- a private method of a class that the tables say can be made, by its rows of tables_1 -/
def lw_okq (q : MethodName × Nat) : Prop := (q.1.cls ≠ "java/lang/invoke/MethodHandle" ∧ q.1.cls ≠ "java/lang/invoke/VarHandle") ∧ Cond.instantiable q.1.cls q.2 ∈ tables_1 ∧ Cond.privateMethod q.1 ∈ tables_1 ∧ Cond.instanceMethod q.1 ∈ tables_1
theorem lw_p0 : lw_okq (⟨"CupDraw", "startWith", "(II)V"⟩, 9) := ⟨⟨by decide +kernel, by decide +kernel⟩, List.mem_of_getElem? (i := 12) (by decide +kernel), List.mem_of_getElem? (i := 76) (by decide +kernel), List.mem_of_getElem? (i := 77) (by decide +kernel)⟩
theorem lw_p1 : lw_okq (⟨"CupDraw$Bowl", "resetPot", "(I)V"⟩, 9) := ⟨⟨by decide +kernel, by decide +kernel⟩, List.mem_of_getElem? (i := 20) (by decide +kernel), List.mem_of_getElem? (i := 84) (by decide +kernel), List.mem_of_getElem? (i := 85) (by decide +kernel)⟩
theorem lw_p2 : lw_okq (⟨"CupDraw", "forgetResults", "()V"⟩, 9) := ⟨⟨by decide +kernel, by decide +kernel⟩, List.mem_of_getElem? (i := 12) (by decide +kernel), List.mem_of_getElem? (i := 88) (by decide +kernel), List.mem_of_getElem? (i := 89) (by decide +kernel)⟩
theorem lw_p3 : lw_okq (⟨"CupDraw", "countLeft", "(I)I"⟩, 9) := ⟨⟨by decide +kernel, by decide +kernel⟩, List.mem_of_getElem? (i := 12) (by decide +kernel), List.mem_of_getElem? (i := 128) (by decide +kernel), List.mem_of_getElem? (i := 129) (by decide +kernel)⟩
theorem lw_p4 : lw_okq (⟨"CupDraw", "openResults", "()LCupDraw$ResultList;"⟩, 9) := ⟨⟨by decide +kernel, by decide +kernel⟩, List.mem_of_getElem? (i := 12) (by decide +kernel), List.mem_of_getElem? (i := 141) (by decide +kernel), List.mem_of_getElem? (i := 142) (by decide +kernel)⟩
theorem lw_p5 : lw_okq (⟨"CupDraw$Bowl", "placeFrom", "(IILCupDraw$ResultList;)V"⟩, 9) := ⟨⟨by decide +kernel, by decide +kernel⟩, List.mem_of_getElem? (i := 20) (by decide +kernel), List.mem_of_getElem? (i := 153) (by decide +kernel), List.mem_of_getElem? (i := 154) (by decide +kernel)⟩
theorem lw_p6 : lw_okq (⟨"CupDraw$Bowl", "placeIn", "(IIILCupDraw$ResultList;)V"⟩, 9) := ⟨⟨by decide +kernel, by decide +kernel⟩, List.mem_of_getElem? (i := 20) (by decide +kernel), List.mem_of_getElem? (i := 161) (by decide +kernel), List.mem_of_getElem? (i := 162) (by decide +kernel)⟩
theorem lw_p7 : lw_okq (⟨"CupDraw$Bowl", "admits", "(II)Z"⟩, 9) := ⟨⟨by decide +kernel, by decide +kernel⟩, List.mem_of_getElem? (i := 20) (by decide +kernel), List.mem_of_getElem? (i := 165) (by decide +kernel), List.mem_of_getElem? (i := 166) (by decide +kernel)⟩
theorem lw_p8 : lw_okq (⟨"CupDraw$Bowl", "playersOnDay", "(I)I"⟩, 9) := ⟨⟨by decide +kernel, by decide +kernel⟩, List.mem_of_getElem? (i := 20) (by decide +kernel), List.mem_of_getElem? (i := 169) (by decide +kernel), List.mem_of_getElem? (i := 170) (by decide +kernel)⟩
theorem lw_p9 : lw_okq (⟨"CupDraw$Bowl", "countOfRegion", "(II)I"⟩, 9) := ⟨⟨by decide +kernel, by decide +kernel⟩, List.mem_of_getElem? (i := 20) (by decide +kernel), List.mem_of_getElem? (i := 173) (by decide +kernel), List.mem_of_getElem? (i := 174) (by decide +kernel)⟩
theorem lw_p10 : lw_okq (⟨"java/lang/Throwable", "fillInStackTrace", "(I)Ljava/lang/Throwable;"⟩, 6) := ⟨⟨by decide +kernel, by decide +kernel⟩, List.mem_of_getElem? (i := 233) (by decide +kernel), List.mem_of_getElem? (i := 231) (by decide +kernel), List.mem_of_getElem? (i := 232) (by decide +kernel)⟩
theorem lw_p11 : lw_okq (⟨"CupDraw", "requireNothingDrawn", "()V"⟩, 9) := ⟨⟨by decide +kernel, by decide +kernel⟩, List.mem_of_getElem? (i := 12) (by decide +kernel), List.mem_of_getElem? (i := 296) (by decide +kernel), List.mem_of_getElem? (i := 297) (by decide +kernel)⟩
theorem lw_p12 : lw_okq (⟨"CupDraw", "requireTwoTeams", "(II)V"⟩, 9) := ⟨⟨by decide +kernel, by decide +kernel⟩, List.mem_of_getElem? (i := 12) (by decide +kernel), List.mem_of_getElem? (i := 332) (by decide +kernel), List.mem_of_getElem? (i := 333) (by decide +kernel)⟩
theorem lw_p13 : lw_okq (⟨"CupDraw", "requireTeam", "(I)V"⟩, 9) := ⟨⟨by decide +kernel, by decide +kernel⟩, List.mem_of_getElem? (i := 12) (by decide +kernel), List.mem_of_getElem? (i := 336) (by decide +kernel), List.mem_of_getElem? (i := 337) (by decide +kernel)⟩
theorem lw_p14 : lw_okq (⟨"CupDraw", "findBall", "(I)I"⟩, 9) := ⟨⟨by decide +kernel, by decide +kernel⟩, List.mem_of_getElem? (i := 12) (by decide +kernel), List.mem_of_getElem? (i := 360) (by decide +kernel), List.mem_of_getElem? (i := 361) (by decide +kernel)⟩
theorem lw_p15 : lw_okq (⟨"CupDraw", "seat", "(I)V"⟩, 9) := ⟨⟨by decide +kernel, by decide +kernel⟩, List.mem_of_getElem? (i := 12) (by decide +kernel), List.mem_of_getElem? (i := 365) (by decide +kernel), List.mem_of_getElem? (i := 366) (by decide +kernel)⟩
def lw_privs_1 : List (MethodName × Nat) := [(⟨"CupDraw", "startWith", "(II)V"⟩, 9), (⟨"CupDraw$Bowl", "resetPot", "(I)V"⟩, 9), (⟨"CupDraw", "forgetResults", "()V"⟩, 9), (⟨"CupDraw", "countLeft", "(I)I"⟩, 9), (⟨"CupDraw", "openResults", "()LCupDraw$ResultList;"⟩, 9), (⟨"CupDraw$Bowl", "placeFrom", "(IILCupDraw$ResultList;)V"⟩, 9), (⟨"CupDraw$Bowl", "placeIn", "(IIILCupDraw$ResultList;)V"⟩, 9), (⟨"CupDraw$Bowl", "admits", "(II)Z"⟩, 9), (⟨"CupDraw$Bowl", "playersOnDay", "(I)I"⟩, 9), (⟨"CupDraw$Bowl", "countOfRegion", "(II)I"⟩, 9), (⟨"java/lang/Throwable", "fillInStackTrace", "(I)Ljava/lang/Throwable;"⟩, 6), (⟨"CupDraw", "requireNothingDrawn", "()V"⟩, 9), (⟨"CupDraw", "requireTwoTeams", "(II)V"⟩, 9), (⟨"CupDraw", "requireTeam", "(I)V"⟩, 9), (⟨"CupDraw", "findBall", "(I)I"⟩, 9), (⟨"CupDraw", "seat", "(I)V"⟩, 9)]
theorem lw_r1 : ∀ q ∈ lw_privs_1, lw_okq q := List.forall_mem_cons.mpr ⟨lw_p0, List.forall_mem_cons.mpr ⟨lw_p1, List.forall_mem_cons.mpr ⟨lw_p2, List.forall_mem_cons.mpr ⟨lw_p3, List.forall_mem_cons.mpr ⟨lw_p4, List.forall_mem_cons.mpr ⟨lw_p5, List.forall_mem_cons.mpr ⟨lw_p6, List.forall_mem_cons.mpr ⟨lw_p7, List.forall_mem_cons.mpr ⟨lw_p8, List.forall_mem_cons.mpr ⟨lw_p9, List.forall_mem_cons.mpr ⟨lw_p10, List.forall_mem_cons.mpr ⟨lw_p11, List.forall_mem_cons.mpr ⟨lw_p12, List.forall_mem_cons.mpr ⟨lw_p13, List.forall_mem_cons.mpr ⟨lw_p14, List.forall_mem_cons.mpr ⟨lw_p15, fun _ h => absurd h List.not_mem_nil⟩⟩⟩⟩⟩⟩⟩⟩⟩⟩⟩⟩⟩⟩⟩⟩
theorem lw_p16 : lw_okq (⟨"CupDraw", "unseat", "()I"⟩, 9) := ⟨⟨by decide +kernel, by decide +kernel⟩, List.mem_of_getElem? (i := 12) (by decide +kernel), List.mem_of_getElem? (i := 388) (by decide +kernel), List.mem_of_getElem? (i := 389) (by decide +kernel)⟩
theorem lw_p17 : lw_okq (⟨"CupDraw", "requireTeamAndGroup", "(II)V"⟩, 9) := ⟨⟨by decide +kernel, by decide +kernel⟩, List.mem_of_getElem? (i := 12) (by decide +kernel), List.mem_of_getElem? (i := 433) (by decide +kernel), List.mem_of_getElem? (i := 434) (by decide +kernel)⟩
theorem lw_p18 : lw_okq (⟨"CupDraw", "endResults", "()LCupDraw$ResultList;"⟩, 9) := ⟨⟨by decide +kernel, by decide +kernel⟩, List.mem_of_getElem? (i := 12) (by decide +kernel), List.mem_of_getElem? (i := 463) (by decide +kernel), List.mem_of_getElem? (i := 464) (by decide +kernel)⟩
theorem lw_p19 : lw_okq (⟨"CupDraw", "followOrders", "(I)V"⟩, 9) := ⟨⟨by decide +kernel, by decide +kernel⟩, List.mem_of_getElem? (i := 12) (by decide +kernel), List.mem_of_getElem? (i := 467) (by decide +kernel), List.mem_of_getElem? (i := 468) (by decide +kernel)⟩
theorem lw_p20 : lw_okq (⟨"CupDraw", "followBall", "(II)V"⟩, 9) := ⟨⟨by decide +kernel, by decide +kernel⟩, List.mem_of_getElem? (i := 12) (by decide +kernel), List.mem_of_getElem? (i := 477) (by decide +kernel), List.mem_of_getElem? (i := 478) (by decide +kernel)⟩
theorem lw_p21 : lw_okq (⟨"CupDrawModel", "begin", "(II)V"⟩, 17) := ⟨⟨by decide +kernel, by decide +kernel⟩, List.mem_of_getElem? (i := 492) (by decide +kernel), List.mem_of_getElem? (i := 498) (by decide +kernel), List.mem_of_getElem? (i := 499) (by decide +kernel)⟩
theorem lw_p22 : lw_okq (⟨"CupDrawModel", "teamMany", "()I"⟩, 17) := ⟨⟨by decide +kernel, by decide +kernel⟩, List.mem_of_getElem? (i := 492) (by decide +kernel), List.mem_of_getElem? (i := 566) (by decide +kernel), List.mem_of_getElem? (i := 567) (by decide +kernel)⟩
theorem lw_p23 : lw_okq (⟨"CupDrawModel", "isTeam", "(I)Z"⟩, 17) := ⟨⟨by decide +kernel, by decide +kernel⟩, List.mem_of_getElem? (i := 492) (by decide +kernel), List.mem_of_getElem? (i := 574) (by decide +kernel), List.mem_of_getElem? (i := 575) (by decide +kernel)⟩
theorem lw_p24 : lw_okq (⟨"CupDrawModel", "canPair", "(II)Z"⟩, 17) := ⟨⟨by decide +kernel, by decide +kernel⟩, List.mem_of_getElem? (i := 492) (by decide +kernel), List.mem_of_getElem? (i := 586) (by decide +kernel), List.mem_of_getElem? (i := 587) (by decide +kernel)⟩
theorem lw_p25 : lw_okq (⟨"CupDrawModel", "layResults", "()V"⟩, 17) := ⟨⟨by decide +kernel, by decide +kernel⟩, List.mem_of_getElem? (i := 492) (by decide +kernel), List.mem_of_getElem? (i := 598) (by decide +kernel), List.mem_of_getElem? (i := 599) (by decide +kernel)⟩
theorem lw_p26 : lw_okq (⟨"CupDrawModel", "layOrder", "(III)V"⟩, 17) := ⟨⟨by decide +kernel, by decide +kernel⟩, List.mem_of_getElem? (i := 492) (by decide +kernel), List.mem_of_getElem? (i := 605) (by decide +kernel), List.mem_of_getElem? (i := 606) (by decide +kernel)⟩
theorem lw_p27 : lw_okq (⟨"CupDrawModel", "isLawful", "()Z"⟩, 17) := ⟨⟨by decide +kernel, by decide +kernel⟩, List.mem_of_getElem? (i := 492) (by decide +kernel), List.mem_of_getElem? (i := 609) (by decide +kernel), List.mem_of_getElem? (i := 610) (by decide +kernel)⟩
theorem lw_p28 : lw_okq (⟨"CupDrawModel", "leftNow", "()I"⟩, 17) := ⟨⟨by decide +kernel, by decide +kernel⟩, List.mem_of_getElem? (i := 492) (by decide +kernel), List.mem_of_getElem? (i := 613) (by decide +kernel), List.mem_of_getElem? (i := 614) (by decide +kernel)⟩
theorem lw_p29 : lw_okq (⟨"CupDrawModel", "potNow", "()I"⟩, 17) := ⟨⟨by decide +kernel, by decide +kernel⟩, List.mem_of_getElem? (i := 492) (by decide +kernel), List.mem_of_getElem? (i := 617) (by decide +kernel), List.mem_of_getElem? (i := 618) (by decide +kernel)⟩
theorem lw_p30 : lw_okq (⟨"CupDrawModel", "ball", "(II)I"⟩, 17) := ⟨⟨by decide +kernel, by decide +kernel⟩, List.mem_of_getElem? (i := 492) (by decide +kernel), List.mem_of_getElem? (i := 621) (by decide +kernel), List.mem_of_getElem? (i := 622) (by decide +kernel)⟩
theorem lw_p31 : lw_okq (⟨"CupDrawModel", "lowestFor", "(I)I"⟩, 17) := ⟨⟨by decide +kernel, by decide +kernel⟩, List.mem_of_getElem? (i := 492) (by decide +kernel), List.mem_of_getElem? (i := 625) (by decide +kernel), List.mem_of_getElem? (i := 626) (by decide +kernel)⟩
def lw_privs_2 : List (MethodName × Nat) := [(⟨"CupDraw", "unseat", "()I"⟩, 9), (⟨"CupDraw", "requireTeamAndGroup", "(II)V"⟩, 9), (⟨"CupDraw", "endResults", "()LCupDraw$ResultList;"⟩, 9), (⟨"CupDraw", "followOrders", "(I)V"⟩, 9), (⟨"CupDraw", "followBall", "(II)V"⟩, 9), (⟨"CupDrawModel", "begin", "(II)V"⟩, 17), (⟨"CupDrawModel", "teamMany", "()I"⟩, 17), (⟨"CupDrawModel", "isTeam", "(I)Z"⟩, 17), (⟨"CupDrawModel", "canPair", "(II)Z"⟩, 17), (⟨"CupDrawModel", "layResults", "()V"⟩, 17), (⟨"CupDrawModel", "layOrder", "(III)V"⟩, 17), (⟨"CupDrawModel", "isLawful", "()Z"⟩, 17), (⟨"CupDrawModel", "leftNow", "()I"⟩, 17), (⟨"CupDrawModel", "potNow", "()I"⟩, 17), (⟨"CupDrawModel", "ball", "(II)I"⟩, 17), (⟨"CupDrawModel", "lowestFor", "(I)I"⟩, 17)]
theorem lw_r2 : ∀ q ∈ lw_privs_2, lw_okq q := List.forall_mem_cons.mpr ⟨lw_p16, List.forall_mem_cons.mpr ⟨lw_p17, List.forall_mem_cons.mpr ⟨lw_p18, List.forall_mem_cons.mpr ⟨lw_p19, List.forall_mem_cons.mpr ⟨lw_p20, List.forall_mem_cons.mpr ⟨lw_p21, List.forall_mem_cons.mpr ⟨lw_p22, List.forall_mem_cons.mpr ⟨lw_p23, List.forall_mem_cons.mpr ⟨lw_p24, List.forall_mem_cons.mpr ⟨lw_p25, List.forall_mem_cons.mpr ⟨lw_p26, List.forall_mem_cons.mpr ⟨lw_p27, List.forall_mem_cons.mpr ⟨lw_p28, List.forall_mem_cons.mpr ⟨lw_p29, List.forall_mem_cons.mpr ⟨lw_p30, List.forall_mem_cons.mpr ⟨lw_p31, fun _ h => absurd h List.not_mem_nil⟩⟩⟩⟩⟩⟩⟩⟩⟩⟩⟩⟩⟩⟩⟩⟩
theorem lw_p32 : lw_okq (⟨"CupDrawModel", "countIn", "(II)I"⟩, 17) := ⟨⟨by decide +kernel, by decide +kernel⟩, List.mem_of_getElem? (i := 492) (by decide +kernel), List.mem_of_getElem? (i := 629) (by decide +kernel), List.mem_of_getElem? (i := 630) (by decide +kernel)⟩
theorem lw_p33 : lw_okq (⟨"CupDrawModel", "isGroup", "(I)Z"⟩, 17) := ⟨⟨by decide +kernel, by decide +kernel⟩, List.mem_of_getElem? (i := 492) (by decide +kernel), List.mem_of_getElem? (i := 661) (by decide +kernel), List.mem_of_getElem? (i := 662) (by decide +kernel)⟩
theorem lw_p34 : lw_okq (⟨"CupDrawModel", "isPlace", "(II)Z"⟩, 17) := ⟨⟨by decide +kernel, by decide +kernel⟩, List.mem_of_getElem? (i := 492) (by decide +kernel), List.mem_of_getElem? (i := 677) (by decide +kernel), List.mem_of_getElem? (i := 678) (by decide +kernel)⟩
theorem lw_p35 : lw_okq (⟨"CupDrawModel", "orderMany", "()I"⟩, 17) := ⟨⟨by decide +kernel, by decide +kernel⟩, List.mem_of_getElem? (i := 492) (by decide +kernel), List.mem_of_getElem? (i := 690) (by decide +kernel), List.mem_of_getElem? (i := 691) (by decide +kernel)⟩
theorem lw_p36 : lw_okq (⟨"CupDrawModel", "follow", "(I)V"⟩, 17) := ⟨⟨by decide +kernel, by decide +kernel⟩, List.mem_of_getElem? (i := 492) (by decide +kernel), List.mem_of_getElem? (i := 698) (by decide +kernel), List.mem_of_getElem? (i := 699) (by decide +kernel)⟩
theorem lw_p37 : lw_okq (⟨"CupDrawModel", "lowestLeft", "(I)I"⟩, 17) := ⟨⟨by decide +kernel, by decide +kernel⟩, List.mem_of_getElem? (i := 492) (by decide +kernel), List.mem_of_getElem? (i := 702) (by decide +kernel), List.mem_of_getElem? (i := 703) (by decide +kernel)⟩
def lw_privs_3 : List (MethodName × Nat) := [(⟨"CupDrawModel", "countIn", "(II)I"⟩, 17), (⟨"CupDrawModel", "isGroup", "(I)Z"⟩, 17), (⟨"CupDrawModel", "isPlace", "(II)Z"⟩, 17), (⟨"CupDrawModel", "orderMany", "()I"⟩, 17), (⟨"CupDrawModel", "follow", "(I)V"⟩, 17), (⟨"CupDrawModel", "lowestLeft", "(I)I"⟩, 17)]
theorem lw_r3 : ∀ q ∈ lw_privs_3, lw_okq q := List.forall_mem_cons.mpr ⟨lw_p32, List.forall_mem_cons.mpr ⟨lw_p33, List.forall_mem_cons.mpr ⟨lw_p34, List.forall_mem_cons.mpr ⟨lw_p35, List.forall_mem_cons.mpr ⟨lw_p36, List.forall_mem_cons.mpr ⟨lw_p37, fun _ h => absurd h List.not_mem_nil⟩⟩⟩⟩⟩⟩
def lw_privs : List (MethodName × Nat) := lw_privs_1 ++ (lw_privs_2 ++ (lw_privs_3))
def lw_tbl : List Cond := k2_sels lw_privs ++ tables_1
theorem lw_privs_ok : ∀ q ∈ lw_privs, lw_okq q := by
  show ∀ q ∈ lw_privs_1 ++ (lw_privs_2 ++ (lw_privs_3)), lw_okq q
  exact List.forall_mem_append.mpr ⟨lw_r1, List.forall_mem_append.mpr ⟨lw_r2, lw_r3⟩⟩
end
section
/-! ===== BEGIN words of one list among another's, by their places ===== -/
theorem goodIn_r {big : List Cond} (ws : List Cond) (ps : List Nat) (hp : ws = ps.filterMap (fun i => big[i]?)) (h : ws.all goodWord = true) : GoodIn big ws := by
  intro w hw
  have h1 := List.all_eq_true.mp h w hw
  rw [hp] at hw
  obtain ⟨i, -, hi⟩ := List.mem_filterMap.mp hw
  have hm : w ∈ big := by first | exact List.mem_of_getElem? hi | exact List.getElem?_mem hi
  exact ⟨hm, good_of_word h1⟩
theorem goodIn_app {big a b : List Cond} (ha : GoodIn big a) (hb : GoodIn big b) : GoodIn big (a ++ b) := fun w h => (List.mem_append.mp h).elim (ha w) (hb w)
theorem goodIn_ca {big a b : List Cond} {c : Cond} (ha : GoodIn big (c :: a)) (hb : GoodIn big b) : GoodIn big (c :: (a ++ b)) := fun w h => (List.mem_cons.mp h).elim (fun e => ha w (List.mem_cons.mpr (Or.inl e))) (fun h => (List.mem_append.mp h).elim (fun h => ha w (List.mem_cons.mpr (Or.inr h))) (hb w))
theorem goodIn_sub {big ws : List Cond} (hm : ∀ w ∈ ws, w ∈ big) (h : ws.all goodWord = true) : GoodIn big ws := fun w hw => ⟨hm w hw, good_of_word (List.all_eq_true.mp h w hw)⟩
/-! ===== END ===== -/

/-! ===== BEGIN exceptions that leave a method, and their catching by the caller (launches without stack traces) ===== -/
section VXA
/-! The laws vx_back, vx_callV, vx_callS, vx_callSW, vx_throw0, vx_throwS follow proofs of the library, with one case more: JvmDerived/Free/Laws.lean (Back.of_free), Shelf42/LK1.lean (callV, callS), Shelf/KitTraced.lean (throwNew0V, throwNewS). -/
/-- where a method has thrown q: the class by its name, the cell, what was written, the world -/
def vx_T (XC : String → State → State → Prop) (st : State) (q : Addr) (t : State) (mc ms : Nat) (free : Addr → Prop) : Prop :=
  ∃ (E : String) (ce : Cell) (L : List Loc), XC E st t ∧ t.heap[q]? = some ce ∧ ce.vm = .none ∧ st.vm.findClass E = some ce.cls ∧ st.WarmedH t.vm ∧ st.sameButNew ({ t with vm := st.vm } : State) L mc ms ∧ ∀ z ∈ L, free z.base
def vx_Q (Qc : Array Value → State → Outcome → State → Prop) (XC : String → State → State → Prop) (mc ms : Nat) (free : Addr → Prop) : Array Value → State → Outcome → State → Prop := fun a st o t =>
  (Qc a st o t ∧ ∃ L, FrameEnd st o t L mc ms ∧ ∀ q ∈ L, free q.base) ∨ ∃ q, o = .threw q ∧ vx_T XC st q t mc ms free
/-- a callee that returns or throws -/
def vx_Met (l : Launch) (y : MethodName) (ws : List Cond) (rm : Room) (Pc : Array Value → State → Prop) (Qc : Array Value → State → Outcome → State → Prop) (XC : String → State → State → Prop) (mc ms : Nat) (free : Addr → Prop) : Prop :=
  MetFree l y (headSpec ws rm) Pc (fun _ _ _ _ _ => True) (vx_Q Qc XC mc ms free)
def vx_Post (XC : String → State → State → Prop) (mc ms : Nat) (free : Addr → Prop) : Pt → Array Value → Addr → Pt → Prop := fun A a q B =>
  ∃ (g : JFrame) (mk : MethodId) (t : State) (L : List Loc) (E : String) (ce : Cell), B.U.heap = t.heap ∧ B.U.vm = t.vm ∧ XC E (A.U.calling g mk a) t ∧ t.heap[q]? = some ce ∧ ce.vm = .none ∧ A.U.vm.findClass E = some ce.cls ∧ B.locs = A.locs ++ L ∧ (∀ z ∈ L, free z.base) ∧ B.cells = A.cells + mc ∧ B.slots = A.slots + ms
def vx_Back (l : Launch) (R : Room) (p : Program) (e : Env) (below : List Frame) (s : State) (sargs : Array Value) (y : MethodName) (len W9 : Nat)
    (Pre : Pt → Array Value → Prop) (Post : Pt → Array Value → Option Value → Pt → Prop) (PostX : Pt → Array Value → Addr → Pt → Prop) : Prop :=
  ∀ (m : MethodId) (meth : Method) (c : Code) (A : Pt) (g : JFrame) (ig : Instr) (mk : MethodId) (a : Array Value),
    Stand p l e R s m sargs below meth c A.U A.locs A.cells A.slots → g.method = m → g.locals.size = c.maxLocals → decode c.code g.pc = .ok (ig, len) →
    2 * g.monitorRoom + (g.stack.map fun v => v.category).sum ≤ W9 → A.U.methodNamed? y = some mk → Pre A a →
    (∃ (v : Option Value) (B : Pt), Stand p l e R s m sargs below meth c B.U B.locs B.cells B.slots ∧ Post A a v B ∧
      Steps p.tables e below (doInvoke e (A.U.setTop g) [] mk a).1 (B.U.setTop { g with pc := g.pc + len, stack := v.toList ++ g.stack })) ∨
    (∃ (q : Addr) (B : Pt), Stand p l e R s m sargs below meth c B.U B.locs B.cells B.slots ∧ PostX A a q B ∧
      Steps p.tables e below (doInvoke e (A.U.setTop g) [] mk a).1 ((B.U.setTop g).pushFrame (.throwing q)))
section Payer
variable {l : Launch} {R : Room} {p : Program} {e : Env} {below : List Frame} {s : State} {sargs : Array Value} {y : MethodName} {len W9 : Nat}
theorem vx_back {ws : List Cond} {rm : Room} {Pc : Array Value → State → Prop} {Qc : Array Value → State → Outcome → State → Prop} {XC : String → State → State → Prop} {mc ms : Nat} {free : Addr → Prop} {bytes : ByteArray} {maxL : Nat} {ret : Option FieldType}
    (hM : vx_Met l y ws rm Pc Qc XC mc ms free) (hblind : FrameBlind Pc) (hrc : rm.cells = mc) (hrs : rm.slots = ms)
    (hframes : rm.frames + 1 ≤ R.frames) (hlocals : W9 + (maxL + 11) + rm.locals ≤ R.locals)
    (hws : ∀ w ∈ ws, ∀ a' U, s.WarmedH U.vm → w.before a' U = true) (hcode : Cond.code y bytes maxL ret ∈ ws) (hinit : ∀ a' U, s.WarmedH U.vm → (Cond.initialized y.cls).before a' U = true) :
    vx_Back l R p e below s sargs y len W9 (PreOf R mc ms Pc) (PostOf Qc mc ms free) (vx_Post XC mc ms free) := by
  intro m meth c A g ig mk a X hg hsize hdg hW hn hp
  have h1 : (headSpec ws rm).pre.before a A.U = true := atoms_intro fun w hw => hws w hw _ _ X.warmed
  have h2 : (Cond.code y bytes maxL ret).before a A.U = true := hws _ hcode _ _ X.warmed
  have h3 : (Cond.initialized y.cls).before a A.U = true := hinit _ _ X.warmed
  have h4 : A.cells + (headSpec ws rm).room.cells ≤ R.cells := by rw [show (headSpec ws rm).room.cells = mc from hrc]; exact hp.1
  have h5 : A.slots + (headSpec ws rm).room.slots ≤ R.slots := by rw [show (headSpec ws rm).room.slots = ms from hrs]; exact hp.2.1
  have hPc : Pc a (A.U.calling g mk a) := hblind _ _ _ _ hp.2.2
  obtain ⟨U, Ls, c0, s0⟩ := A
  dsimp only [Pt.U, Pt.locs, Pt.cells, Pt.slots] at h1 h2 h3 h4 h5 X hn hPc ⊢
  obtain ⟨methY, cY, hmY, hcY, -, hlY, -, -, -, -⟩ := Cond.code_spec hn h2
  obtain ⟨kY, hkY, -⟩ := className_of_methodNamed hn
  have hinitY : kY.init = .initialized := Cond.initialized_spec (findClass_of_methodNamed hn) hkY h3
  have h : At U g.method c below := by rw [hg]; exact X.here
  have hlocals9 : W9 + (maxL + 11) + (headSpec ws rm).room.locals ≤ R.locals := hlocals
  have happ : (headSpec ws rm).appliesLoose y e.platform (U.calling g mk a) = true :=
    Spec.appliesLoose_calling (g := g) h hdg hn hkY hinitY
      (X.room_calling (g := g) (R' := (headSpec ws rm).room) hsize hmY hcY hframes (by rw [hlY]; omega) h4 h5) h1
  obtain ⟨mid, hmid⟩ := h.above
  have hfr : (U.setTop g).frames = (.java g :: mid) ++ below := by rw [State.frames_setTop' g h.top, hmid]; rfl
  obtain ⟨o, s₂, hsteps, -, hend, hq⟩ := Steps.callFree hM p X.admits X.cas X.clock (acts := []) hfr happ hPc trivial
  have hq' : vx_Q Qc XC mc ms free a (U.calling g mk a) o s₂ := hq
  rw [State.frames_setTop' g h.top] at hend
  obtain ⟨g₀, hg0⟩ := Option.isSome_iff_exists.mp h.top
  obtain ⟨r, hr⟩ := State.topJava?_eq_some.mp hg0
  have hr' : (({ U with heap := s₂.heap, slotsUsed := s₂.slotsUsed } : State).setVm s₂.vm).frames = .java g₀ :: r := hr
  rcases hq' with ⟨hqc, L, hfe, hL⟩ | ⟨q, rfl, E, ce, L, hx, hce, hcv, hcl, hW₂, hsm, hL⟩
  · obtain ⟨⟨v, rfl⟩, hW₂, e2, q2, q3, q4, q5, q6⟩ := id hfe
    have e3 : s₂ = ({ (U.calling g mk a).setFrames s₂.frames with heap := s₂.heap, slotsUsed := s₂.slotsUsed } : State).setVm s₂.vm := by
      have : s₂ = ({ s₂ with vm := (U.calling g mk a).vm } : State).setVm s₂.vm := rfl
      rw [e2] at this
      exact this
    obtain ⟨c₂, i₂, len₂, hc₂, hd₂, hf₂⟩ := hend
    have hW' : U.WarmedH s₂.vm := hW₂
    have hcc : c₂ = c := by
      have h1 : s₂.code? g.method = U.code? g.method := by
        rw [State.code?_eq, State.code?_eq, hW'.alike.method?]
      exact Option.some.inj (hc₂.symm.trans (h1.trans h.code))
    subst hcc
    have hlen : len₂ = len := by rw [hdg] at hd₂; cases hd₂; rfl
    subst hlen
    have hs₂ : s₂ = (({ U with heap := s₂.heap, slotsUsed := s₂.slotsUsed } : State).setVm s₂.vm).setTop { g with pc := g.pc + len₂, stack := v.toList ++ g.stack } := by
      refine e3.trans ?_
      rw [hf₂, State.calling_eq h.top, State.setFrames_setFrames, State.setTop_of_frames _ hr', hr]
      rfl
    have hsame : U.sameButNew ({ U with heap := s₂.heap, slotsUsed := s₂.slotsUsed } : State) L mc ms := by
      refine ⟨?_, q2, q3, q4, q5, q6⟩
      obtain ⟨t, ht, -⟩ := State.frames_cons hr
      show ({ U with heap := s₂.heap, slotsUsed := s₂.slotsUsed } : State) = { U.setFrames U.frames with heap := s₂.heap, slotsUsed := s₂.slotsUsed }
      rw [State.setFrames_self ht]
    subst hg
    refine Or.inl ⟨v, ⟨(({ U with heap := s₂.heap, slotsUsed := s₂.slotsUsed } : State).setVm s₂.vm), Ls ++ L, c0 + mc, s0 + ms⟩,
      ⟨X.admits, X.cas, X.clock, X.frames, X.room, X.hears, X.method, X.code, (X.here.setHeapUsed s₂.heap s₂.slotsUsed).setVm hW'.alike, X.tail, State.WarmedH.trans X.warmed hW', X.limits, X.bytes, X.same.trans (hsame.setVm s.vm)⟩,
      ⟨g, mk, s₂, L, rfl, rfl, hqc, rfl, hL, rfl, rfl⟩, ?_⟩
    show Steps p.tables e below _ ((({ U with heap := s₂.heap, slotsUsed := s₂.slotsUsed } : State).setVm s₂.vm).setTop { g with pc := g.pc + len₂, stack := v.toList ++ g.stack })
    rw [← hs₂]
    exact hsteps
  · obtain ⟨e2, q2, q3, q4, q5, q6⟩ := id hsm
    have e3 : s₂ = ({ (U.calling g mk a).setFrames s₂.frames with heap := s₂.heap, slotsUsed := s₂.slotsUsed } : State).setVm s₂.vm := by
      have : s₂ = ({ s₂ with vm := (U.calling g mk a).vm } : State).setVm s₂.vm := rfl
      rw [e2] at this
      exact this
    have hf₂ : s₂.frames = .throwing q :: .java g :: U.frames.tail := hend
    have hW' : U.WarmedH s₂.vm := hW₂
    have hs₂ : s₂ = ((({ U with heap := s₂.heap, slotsUsed := s₂.slotsUsed } : State).setVm s₂.vm).setTop g).pushFrame (.throwing q) := by
      refine e3.trans ?_
      rw [hf₂, State.calling_eq h.top, State.setFrames_setFrames, State.pushFrame, State.frames_setTop _ hr', State.setTop_of_frames _ hr', State.setFrames_setFrames, hr]
      rfl
    have hsame : U.sameButNew ({ U with heap := s₂.heap, slotsUsed := s₂.slotsUsed } : State) L mc ms := by
      refine ⟨?_, q2, q3, q4, q5, q6⟩
      obtain ⟨t, ht, -⟩ := State.frames_cons hr
      show ({ U with heap := s₂.heap, slotsUsed := s₂.slotsUsed } : State) = { U.setFrames U.frames with heap := s₂.heap, slotsUsed := s₂.slotsUsed }
      rw [State.setFrames_self ht]
    subst hg
    refine Or.inr ⟨q, ⟨(({ U with heap := s₂.heap, slotsUsed := s₂.slotsUsed } : State).setVm s₂.vm), Ls ++ L, c0 + mc, s0 + ms⟩,
      ⟨X.admits, X.cas, X.clock, X.frames, X.room, X.hears, X.method, X.code, (X.here.setHeapUsed s₂.heap s₂.slotsUsed).setVm hW'.alike, X.tail, State.WarmedH.trans X.warmed hW', X.limits, X.bytes, X.same.trans (hsame.setVm s.vm)⟩,
      ⟨g, mk, s₂, L, E, ce, rfl, rfl, hx, hce, hcv, hcl, rfl, hL, rfl, rfl⟩, ?_⟩
    show Steps p.tables e below _ (((({ U with heap := s₂.heap, slotsUsed := s₂.slotsUsed } : State).setVm s₂.vm).setTop g).pushFrame (.throwing q))
    rw [← hs₂]
    exact hsteps
end Payer
section Calls
variable {p : Program} {l : Launch} {e : Env} {R : Room} {s : State} {m : MethodId} {args : Array Value} {below : List Frame} {meth : Method} {c : Code} {T : State} {locs : List Loc} {cells slots : Nat}
theorem vx_callV (X : Stand p l e R s m args below meth c T locs cells slots) (hexec : p.tables.exec = Jvm.exec) {own C : String} {index : Nat} {y : MethodName} {bytes : ByteArray} {maxL : Nat} {ret : Option FieldType}
    (hown : s.vm.findClass own = some m.cls) (hlink : (Cond.methodLink own index y).before args s = true) (hinst : (Cond.instanceMethod y).before args s = true) (hsel : (Cond.selects C y y).before args s = true)
    (hcode : (Cond.code y bytes maxL ret).before args s = true) (hy : y.cls ≠ "java/lang/invoke/MethodHandle" ∧ y.cls ≠ "java/lang/invoke/VarHandle")
    {W9 : Nat} {Pre : Pt → Array Value → Prop} {Post : Pt → Array Value → Option Value → Pt → Prop} {PostX : Pt → Array Value → Addr → Pt → Prop} (hK : vx_Back l R p e below s args y 3 W9 Pre Post PostX)
    {b : Addr} {cellB : Cell} (hcell : T.heap[b]? = some cellB) (hobj : cellB.vm.isStatics = false) (hcls : s.vm.findClass C = some cellB.cls)
    {g : JFrame} (hg : g.method = m) (hsize : g.locals.size = c.maxLocals) {argsL rest : List Value} (hlen : ∀ sig, parseMethodDescriptor y.desc = some sig → argsL.length = sig.parameters.length)
    (hstack : g.stack = argsL.reverse ++ .ref b :: rest) (hW : 2 * g.monitorRoom + (rest.map fun v => v.category).sum ≤ W9) (hdg : decode c.code g.pc = .ok (.invokevirtual index, 3))
    (hpre : ∀ vm₁, s.WarmedH vm₁ → Pre ⟨T.setVm vm₁, locs, cells, slots⟩ (Value.ref b :: argsL).toArray) :
    (∃ (v : Option Value) (vm₁ : Vm) (B : Pt), s.WarmedH vm₁ ∧ Stand p l e R s m args below meth c B.U B.locs B.cells B.slots ∧ Post ⟨T.setVm vm₁, locs, cells, slots⟩ (Value.ref b :: argsL).toArray v B ∧
      ∀ target, Steps p.tables e below (B.U.setTop { g with pc := g.pc + 3, stack := v.toList ++ rest }) target → Steps p.tables e below (T.setTop g) target) ∨
    (∃ (q : Addr) (vm₁ : Vm) (B : Pt), s.WarmedH vm₁ ∧ Stand p l e R s m args below meth c B.U B.locs B.cells B.slots ∧ PostX ⟨T.setVm vm₁, locs, cells, slots⟩ (Value.ref b :: argsL).toArray q B ∧
      Steps p.tables e below (T.setTop g) ((B.U.setTop { g with stack := rest }).pushFrame (.throwing q))) := by
  obtain ⟨mk, methM, hnamed, hmethM, hstM, habM⟩ := Cond.instanceMethod_spec hinst
  obtain ⟨methM', cM, hmethM', -, -, -, -, -, -, hsigM⟩ := Cond.code_spec hnamed hcode
  cases hmethM.symm.trans hmethM'
  obtain ⟨c2, r2, m2, q1, q2, q3, q4, kP, hkP, hkPi⟩ := Cond.selects_spec hsel
  cases hcls.symm.trans q1
  cases (State.methodFound?_of_named hnamed hy).symm.trans q2
  cases hnamed.symm.trans q3
  have hselP : selectMethod e.platform s.vm cellB.cls mk = .method mk := by rw [Launch.admits_selectMethod X.admits]; exact q4
  obtain ⟨vm₁, X₁, hstep₁⟩ := X.invokevirtual hexec hown hlink hnamed hmethM hstM hkP hkPi hy (a := b) (cell := cellB) hcell
    (fun z h => by rw [h] at hobj; cases hobj) hselP hmethM habM hkP hkPi (g := g) hg (argsL := argsL) (rest := rest) (hlen _ hsigM) hstack hdg
  rcases hK m meth c ⟨T.setVm vm₁, locs, cells, slots⟩ { g with stack := rest } (.invokevirtual index) mk (Value.ref b :: argsL).toArray X₁ hg hsize hdg hW (X₁.named hnamed) (hpre vm₁ X₁.warmed) with ⟨v, B, X', hpost, hsteps⟩ | ⟨q, B, X', hpost, hsteps⟩
  · exact Or.inl ⟨v, vm₁, B, X₁.warmed, X', hpost, fun target h => hstep₁ _ fun acts => by rw [doInvoke_state]; exact hsteps.trans h⟩
  · exact Or.inr ⟨q, vm₁, B, X₁.warmed, X', hpost, hstep₁ _ fun acts => by rw [doInvoke_state]; exact hsteps⟩
theorem vx_callS (X : Stand p l e R s m args below meth c T locs cells slots) (hexec : p.tables.exec = Jvm.exec) {own : String} {index : Nat} {y : MethodName} {bytes : ByteArray} {maxL : Nat} {ret : Option FieldType}
    (hown : s.vm.findClass own = some m.cls) (hlink : (Cond.methodLink own index y).before args s = true) (hstat : (Cond.static y).before args s = true) (hinit : (Cond.initialized y.cls).before args s = true)
    (hcode : (Cond.code y bytes maxL ret).before args s = true) (hy : y.cls ≠ "java/lang/invoke/MethodHandle" ∧ y.cls ≠ "java/lang/invoke/VarHandle")
    {W9 : Nat} {Pre : Pt → Array Value → Prop} {Post : Pt → Array Value → Option Value → Pt → Prop} {PostX : Pt → Array Value → Addr → Pt → Prop} (hK : vx_Back l R p e below s args y 3 W9 Pre Post PostX)
    {g : JFrame} (hg : g.method = m) (hsize : g.locals.size = c.maxLocals) {argsL rest : List Value} (hlen : ∀ sig, parseMethodDescriptor y.desc = some sig → argsL.length = sig.parameters.length)
    (hstack : g.stack = argsL.reverse ++ rest) (hW : 2 * g.monitorRoom + (rest.map fun v => v.category).sum ≤ W9) (hdg : decode c.code g.pc = .ok (.invokestatic index, 3))
    (hpre : ∀ vm₁, s.WarmedH vm₁ → Pre ⟨T.setVm vm₁, locs, cells, slots⟩ argsL.toArray) :
    (∃ (v : Option Value) (vm₁ : Vm) (B : Pt), s.WarmedH vm₁ ∧ Stand p l e R s m args below meth c B.U B.locs B.cells B.slots ∧ Post ⟨T.setVm vm₁, locs, cells, slots⟩ argsL.toArray v B ∧
      ∀ target, Steps p.tables e below (B.U.setTop { g with pc := g.pc + 3, stack := v.toList ++ rest }) target → Steps p.tables e below (T.setTop g) target) ∨
    (∃ (q : Addr) (vm₁ : Vm) (B : Pt), s.WarmedH vm₁ ∧ Stand p l e R s m args below meth c B.U B.locs B.cells B.slots ∧ PostX ⟨T.setVm vm₁, locs, cells, slots⟩ argsL.toArray q B ∧
      Steps p.tables e below (T.setTop g) ((B.U.setTop { g with stack := rest }).pushFrame (.throwing q))) := by
  obtain ⟨mk, hnamed⟩ := Cond.code_named hcode
  obtain ⟨methM, cM, hmethM, -, -, -, -, -, -, hsigM⟩ := Cond.code_spec hnamed hcode
  have hstatic : methM.isStatic = true := Cond.static_spec hnamed hmethM hstat
  obtain ⟨kP, hkP, -⟩ := className_of_methodNamed hnamed
  have hinitP : kP.init = .initialized := Cond.initialized_spec (findClass_of_methodNamed hnamed) hkP hinit
  obtain ⟨vm₁, X₁, hstep₁⟩ := X.invokestatic hexec hown hlink hnamed hmethM hstatic hkP hinitP hy (g := g) hg (argsL := argsL) (rest := rest) (hlen _ hsigM) hstack hdg
  rcases hK m meth c ⟨T.setVm vm₁, locs, cells, slots⟩ { g with stack := rest } (.invokestatic index) mk argsL.toArray X₁ hg hsize hdg hW (X₁.named hnamed) (hpre vm₁ X₁.warmed) with ⟨v, B, X', hpost, hsteps⟩ | ⟨q, B, X', hpost, hsteps⟩
  · exact Or.inl ⟨v, vm₁, B, X₁.warmed, X', hpost, fun target h => hstep₁ _ fun acts => by rw [doInvoke_state]; exact hsteps.trans h⟩
  · exact Or.inr ⟨q, vm₁, B, X₁.warmed, X', hpost, hstep₁ _ fun acts => by rw [doInvoke_state]; exact hsteps⟩
end Calls
theorem vx_cls {s : State} {T : State} {vm₁ : Vm} {E : String} {k : ClassId} (hW : s.WarmedH vm₁) (h : (T.setVm vm₁).vm.findClass E = some k) : s.vm.findClass E = some k := by
  have h1 : vm₁.findClass E = some k := h
  rw [hW.alike.findClass] at h1
  exact h1
/-- the method's frame g, with q thrown over it -/
def vx_W (p : Program) (l : Launch) (e : Env) (R : Room) (s : State) (m : MethodId) (args : Array Value) (below : List Frame) (meth : Method) (c : Code) (H : Heap) (locs : List Loc) (cells slots : Nat) (Q : State → Prop) (g : JFrame) (q : Addr) : Prop :=
  ∀ T : State, T.heap = H → Stand p l e R s m args below meth c T locs cells slots → ∃ t, Steps p.tables e below ((T.setTop g).pushFrame (.throwing q)) t ∧ Q t
def vx_Run (p : Program) (l : Launch) (e : Env) (R : Room) (s : State) (m : MethodId) (args : Array Value) (below : List Frame) (meth : Method) (c : Code) (H : Heap) (locs : List Loc) (cells slots mc ms : Nat) (g : JFrame) (rest : List Value) (Qa : State → Outcome → State → Prop) (XC : String → State → State → Prop) (free : Addr → Prop) : Prop :=
  ∀ T : State, T.heap = H → Stand p l e R s m args below meth c T locs cells slots →
    (∃ (v : Option Value) (st₀ t T' : State) (L : List Loc), st₀.heap = H ∧ Stand p l e R s m args below meth c T' (locs ++ L) (cells + mc) (slots + ms) ∧ (∀ q ∈ L, free q.base) ∧ T'.heap = t.heap ∧ T'.vm = t.vm ∧ Qa st₀ (.returned v) t ∧
      Goes p e below T g T' { g with pc := g.pc + 3, stack := v.toList ++ rest }) ∨
    (∃ (q : Addr) (st₀ t T' : State) (L : List Loc) (E : String) (ce : Cell), st₀.heap = H ∧ Stand p l e R s m args below meth c T' (locs ++ L) (cells + mc) (slots + ms) ∧ (∀ z ∈ L, free z.base) ∧ T'.heap = t.heap ∧ T'.vm = t.vm ∧ XC E st₀ t ∧ t.heap[q]? = some ce ∧ ce.vm = .none ∧ s.vm.findClass E = some ce.cls ∧
      Steps p.tables e below (T.setTop g) ((T'.setTop { g with stack := rest }).pushFrame (.throwing q)))
def vx_X {S : Type} (px : S → Prop) (B : String → S → State → Prop) (A : Nat → Prop) : String → State → State → Prop := fun E st t => ∃ u : S, px u ∧ B E u t ∧ va_F A st t
section Runs
variable {p : Program} {l : Launch} {e : Env} {R : Room} {s : State} {m : MethodId} {args : Array Value} {below : List Frame} {meth : Method} {c : Code} {H : Heap} {locs : List Loc} {cells slots : Nat}
variable {y : MethodName} {bytes cc : ByteArray} {maxL nL mc ms n index : Nat} {ret : Option FieldType} {ws : List Cond} {rm : Room} {Pc : Array Value → State → Prop} {Qc : Array Value → State → Outcome → State → Prop} {XC : String → State → State → Prop} {free : Addr → Prop} {Ts : List Cond} {own C : String} {b : Addr} {As rest : List Value} {g : JFrame}
theorem vx_callBack (cb : CallB R s args own index y bytes maxL ret ws rm mc ms n) (hM : vx_Met l y ws rm Pc Qc XC mc ms free) (hbl : FrameBlind Pc) : vx_Back l R p e below s args y 3 8 (PreOf R mc ms Pc) (PostOf Qc mc ms free) (vx_Post XC mc ms free) := by
  obtain ⟨hrc, hrs, hfr, hlo, hws, hcw, -, hini, -⟩ := cb
  exact vx_back (bytes := bytes) (maxL := maxL) (ret := ret) hM hbl hrc hrs hfr hlo hws hcw (fun a' U hW => word_at hW (Or.inl (by first | rfl | simp [Cond.onTables, Cond.keeps, Cond.steady])) hini)
theorem vx_runV (S : CallFix p m c cc nL s args Ts own) (hM : vx_Met l y ws rm Pc Qc XC mc ms free) (cw : CallW R s args own C index y bytes maxL ret ws rm mc ms n) (hp : PreV s H C b Pc As)
    (hg : g.method = m) (hn : As.length = n) (hsize : g.locals.size = nL) (hstack : g.stack = As.reverse ++ .ref b :: rest) (hW : 2 * g.monitorRoom + (rest.map fun v => v.category).sum ≤ 8) (hdg : decode cc g.pc = .ok (.invokevirtual index, 3)) (hf : cells + mc ≤ R.cells ∧ slots + ms ≤ R.slots) :
    vx_Run p l e R s m args below meth c H locs cells slots mc ms g rest (Qc (Value.ref b :: As).toArray) XC free := by
  have hK : vx_Back l R p e below s args y 3 8 (PreOf R mc ms Pc) (PostOf Qc mc ms free) (vx_Post XC mc ms free) := vx_callBack cw.1 hM hp.1
  obtain ⟨⟨-, -, -, -, -, -, hcode, -, hy, hlen, hl⟩, hin, hse⟩ := cw
  obtain ⟨hx, hb, hml, ho, -⟩ := S
  obtain ⟨-, ⟨cellB, hcB, hoB, hclB⟩, hPc⟩ := hp
  intro T hT X
  rcases vx_callV X hx (C := C) (bytes := bytes) (maxL := maxL) (ret := ret) ho hl hin hse hcode hy hK (by rw [hT]; exact hcB) hoB hclB hg (hsize.trans hml.symm) (argsL := As) (rest := rest) (fun sig h => hn.trans (hlen sig h)) hstack hW (by rw [hb]; exact hdg)
    (fun vm₁ hW₁ => ⟨hf.1, hf.2, hPc (T.setVm vm₁) hT hW₁⟩) with ⟨v, vm₁, ⟨U', l2, c2, s2⟩, hW₁, X', ⟨g', mk, t, L, e1, e2, hq, h1, hL, h2, h3⟩, st⟩ | ⟨q, vm₁, ⟨U', l2, c2, s2⟩, hW₁, X', ⟨g', mk, t, L, E, ce, e1, e2, hq, hce, hcv, hcl, h1, hL, h2, h3⟩, st⟩
  · dsimp only [Pt.U, Pt.locs, Pt.cells, Pt.slots] at X' e1 e2 h1 h2 h3 st
    subst h1; subst h2; subst h3
    exact Or.inl ⟨v, (T.setVm vm₁).calling g' mk (Value.ref b :: As).toArray, t, U', L, hT, X', hL, e1, e2, hq, st⟩
  · dsimp only [Pt.U, Pt.locs, Pt.cells, Pt.slots] at X' e1 e2 h1 h2 h3 st hcl
    subst h1; subst h2; subst h3
    exact Or.inr ⟨q, (T.setVm vm₁).calling g' mk (Value.ref b :: As).toArray, t, U', L, E, ce, hT, X', hL, e1, e2, hq, hce, hcv, vx_cls hW₁ hcl, st⟩
theorem vx_runS (S : CallFix p m c cc nL s args Ts own) (hM : vx_Met l y ws rm Pc Qc XC mc ms free) (cw : CallB R s args own index y bytes maxL ret ws rm mc ms n ∧ (Cond.static y).before args s = true) (hp : PreS s H Pc As)
    (hg : g.method = m) (hn : As.length = n) (hsize : g.locals.size = nL) (hstack : g.stack = As.reverse ++ rest) (hW : 2 * g.monitorRoom + (rest.map fun v => v.category).sum ≤ 8) (hdg : decode cc g.pc = .ok (.invokestatic index, 3)) (hf : cells + mc ≤ R.cells ∧ slots + ms ≤ R.slots) :
    vx_Run p l e R s m args below meth c H locs cells slots mc ms g rest (Qc As.toArray) XC free := by
  have hK : vx_Back l R p e below s args y 3 8 (PreOf R mc ms Pc) (PostOf Qc mc ms free) (vx_Post XC mc ms free) := vx_callBack cw.1 hM hp.1
  obtain ⟨⟨-, -, -, -, -, -, hcode, hini, hy, hlen, hl⟩, hstt⟩ := cw
  obtain ⟨hx, hb, hml, ho, -⟩ := S
  intro T hT X
  rcases vx_callS X hx (bytes := bytes) (maxL := maxL) (ret := ret) ho hl hstt hini hcode hy hK hg (hsize.trans hml.symm) (argsL := As) (rest := rest) (fun sig h => hn.trans (hlen sig h)) hstack hW (by rw [hb]; exact hdg)
    (fun vm₁ hW₁ => ⟨hf.1, hf.2, hp.2 (T.setVm vm₁) hT hW₁⟩) with ⟨v, vm₁, ⟨U', l2, c2, s2⟩, hW₁, X', ⟨g', mk, t, L, e1, e2, hq, h1, hL, h2, h3⟩, st⟩ | ⟨q, vm₁, ⟨U', l2, c2, s2⟩, hW₁, X', ⟨g', mk, t, L, E, ce, e1, e2, hq, hce, hcv, hcl, h1, hL, h2, h3⟩, st⟩
  · dsimp only [Pt.U, Pt.locs, Pt.cells, Pt.slots] at X' e1 e2 h1 h2 h3 st
    subst h1; subst h2; subst h3
    exact Or.inl ⟨v, (T.setVm vm₁).calling g' mk As.toArray, t, U', L, hT, X', hL, e1, e2, hq, st⟩
  · dsimp only [Pt.U, Pt.locs, Pt.cells, Pt.slots] at X' e1 e2 h1 h2 h3 st hcl
    subst h1; subst h2; subst h3
    exact Or.inr ⟨q, (T.setVm vm₁).calling g' mk As.toArray, t, U', L, E, ce, hT, X', hL, e1, e2, hq, hce, hcv, vx_cls hW₁ hcl, st⟩
end Runs
section Rows
variable {p : Program} {l : Launch} {e : Env} {R : Room} {s : State} {m : MethodId} {args : Array Value} {below : List Frame} {meth : Method} {c : Code} {H : Heap} {locs : List Loc} {cells slots : Nat} {Q : State → Prop}
variable {mc ms : Nat} {free : Addr → Prop} {A0 A1 : Nat → Prop} {H0 : Heap} {a : Array Value} {pc : Nat} {ls : Array Slot} {st0 rest : List Value}
theorem vx_keep {st₀ t T' : State} {L : List Loc} (h0 : st₀.heap = H) (e1 : T'.heap = t.heap) (hS : va_S A0 H0 H locs) (hA : ∀ q, q < H.size → A1 q → A0 q) (hf : ∀ q, free q → A0 q) (hL : ∀ q ∈ L, free q.base) (hF : va_F A1 st₀ t) :
    H.size ≤ T'.heap.size ∧ (∀ q : Nat, q < H.size → ¬ A1 q → T'.heap[q]? = H[q]?) ∧ va_S A0 H0 T'.heap (locs ++ L) := by
  obtain ⟨hz, hk⟩ := hF
  rw [h0] at hz hk
  exact ⟨by rw [e1]; exact hz, fun q h1 h2 => by rw [e1]; exact hk q h1 h2,
    ⟨Nat.le_trans hS.1 (by rw [e1]; exact hz), fun q h1 h2 => by rw [e1, hk q (Nat.lt_of_lt_of_le h1 hS.1) (fun z => h2 (hA q (Nat.lt_of_lt_of_le h1 hS.1) z))]; exact hS.2.1 q h1 h2, fun q hq => by
      rcases List.mem_append.mp hq with h | h
      · exact hS.2.2 q h
      · exact hf _ (hL q h)⟩⟩
theorem vx_calli {S SX : Type} {post : Int32 → S → Prop} {px : SX → Prop} {B : S → State → Prop} {BX : String → SX → State → Prop} {AX : Nat → Prop} (hr : vx_Run p l e R s m args below meth c H locs cells slots mc ms (F0 m pc ls st0) rest (va_Qi post B A1 a) (vx_X px BX AX) free) (hS : va_S A0 H0 H locs) (hA : ∀ q, q < H.size → A1 q → A0 q) (hf : ∀ q, free q → A0 q) (hAX : ∀ q, q < H.size → AX q → A0 q)
    (kx : ∀ (E : String) (ce : Cell) (q9 : Addr) (u : SX) (t : State) (H1 : Heap) (locs1 : List Loc), t.heap = H1 → s.vm.Alike t.vm → px u → BX E u t → H.size ≤ H1.size → (∀ q : Nat, q < H.size → ¬ AX q → H1[q]? = H[q]?) → va_S A0 H0 H1 locs1 → H1[q9]? = some ce → ce.vm = .none → s.vm.findClass E = some ce.cls → vx_W p l e R s m args below meth c H1 locs1 (cells + mc) (slots + ms) Q (F0 m pc ls rest) q9)
    (kk : ∀ (r : Int32) (u : S) (t : State) (H1 : Heap) (locs1 : List Loc), t.heap = H1 → s.vm.Alike t.vm → post r u → B u t → H.size ≤ H1.size → (∀ q : Nat, q < H.size → ¬ A1 q → H1[q]? = H[q]?) → va_S A0 H0 H1 locs1 → W p l e R s m args below meth c H1 locs1 (cells + mc) (slots + ms) Q (F0 m (pc + 3) ls (.int r :: rest))) : W p l e R s m args below meth c H locs cells slots Q (F0 m pc ls st0) := by
  intro T hT X
  rcases hr T hT X with ⟨v, st₀, t, T', L, h0, X', hL, e1, e2, ⟨⟨r, u, hv, hp, hb⟩, hF⟩, st⟩ | ⟨q, st₀, t, T', L, E, ce, h0, X', hL, e1, e2, ⟨u, hp, hb, hF⟩, hce, hcv, hcl, st⟩
  · cases hv
    obtain ⟨k1, k2, k3⟩ := vx_keep h0 e1 hS hA hf hL hF
    obtain ⟨t2, a1, b1⟩ := kk r u t T'.heap (locs ++ L) e1.symm (by rw [← e2]; exact X'.warmed.alike) hp hb k1 k2 k3 T' rfl X'
    exact ⟨t2, st t2 a1, b1⟩
  · obtain ⟨k1, k2, k3⟩ := vx_keep h0 e1 hS hAX hf hL hF
    obtain ⟨t2, a1, b1⟩ := kx E ce q u t T'.heap (locs ++ L) e1.symm (by rw [← e2]; exact X'.warmed.alike) hp hb k1 k2 k3 (by rw [e1]; exact hce) hcv hcl T' rfl X'
    exact ⟨t2, st.trans a1, b1⟩
theorem vx_calll {S SX : Type} {post : Int64 → S → Prop} {px : SX → Prop} {B : S → State → Prop} {BX : String → SX → State → Prop} {AX : Nat → Prop} (hr : vx_Run p l e R s m args below meth c H locs cells slots mc ms (F0 m pc ls st0) rest (va_Ql post B A1 a) (vx_X px BX AX) free) (hS : va_S A0 H0 H locs) (hA : ∀ q, q < H.size → A1 q → A0 q) (hf : ∀ q, free q → A0 q) (hAX : ∀ q, q < H.size → AX q → A0 q)
    (kx : ∀ (E : String) (ce : Cell) (q9 : Addr) (u : SX) (t : State) (H1 : Heap) (locs1 : List Loc), t.heap = H1 → s.vm.Alike t.vm → px u → BX E u t → H.size ≤ H1.size → (∀ q : Nat, q < H.size → ¬ AX q → H1[q]? = H[q]?) → va_S A0 H0 H1 locs1 → H1[q9]? = some ce → ce.vm = .none → s.vm.findClass E = some ce.cls → vx_W p l e R s m args below meth c H1 locs1 (cells + mc) (slots + ms) Q (F0 m pc ls rest) q9)
    (kk : ∀ (r : Int64) (u : S) (t : State) (H1 : Heap) (locs1 : List Loc), t.heap = H1 → s.vm.Alike t.vm → post r u → B u t → H.size ≤ H1.size → (∀ q : Nat, q < H.size → ¬ A1 q → H1[q]? = H[q]?) → va_S A0 H0 H1 locs1 → W p l e R s m args below meth c H1 locs1 (cells + mc) (slots + ms) Q (F0 m (pc + 3) ls (.long r :: rest))) : W p l e R s m args below meth c H locs cells slots Q (F0 m pc ls st0) := by
  intro T hT X
  rcases hr T hT X with ⟨v, st₀, t, T', L, h0, X', hL, e1, e2, ⟨⟨r, u, hv, hp, hb⟩, hF⟩, st⟩ | ⟨q, st₀, t, T', L, E, ce, h0, X', hL, e1, e2, ⟨u, hp, hb, hF⟩, hce, hcv, hcl, st⟩
  · cases hv
    obtain ⟨k1, k2, k3⟩ := vx_keep h0 e1 hS hA hf hL hF
    obtain ⟨t2, a1, b1⟩ := kk r u t T'.heap (locs ++ L) e1.symm (by rw [← e2]; exact X'.warmed.alike) hp hb k1 k2 k3 T' rfl X'
    exact ⟨t2, st t2 a1, b1⟩
  · obtain ⟨k1, k2, k3⟩ := vx_keep h0 e1 hS hAX hf hL hF
    obtain ⟨t2, a1, b1⟩ := kx E ce q u t T'.heap (locs ++ L) e1.symm (by rw [← e2]; exact X'.warmed.alike) hp hb k1 k2 k3 (by rw [e1]; exact hce) hcv hcl T' rfl X'
    exact ⟨t2, st.trans a1, b1⟩
theorem vx_callf {S SX : Type} {post : UInt32 → S → Prop} {px : SX → Prop} {B : S → State → Prop} {BX : String → SX → State → Prop} {AX : Nat → Prop} (hr : vx_Run p l e R s m args below meth c H locs cells slots mc ms (F0 m pc ls st0) rest (va_Qf post B A1 a) (vx_X px BX AX) free) (hS : va_S A0 H0 H locs) (hA : ∀ q, q < H.size → A1 q → A0 q) (hf : ∀ q, free q → A0 q) (hAX : ∀ q, q < H.size → AX q → A0 q)
    (kx : ∀ (E : String) (ce : Cell) (q9 : Addr) (u : SX) (t : State) (H1 : Heap) (locs1 : List Loc), t.heap = H1 → s.vm.Alike t.vm → px u → BX E u t → H.size ≤ H1.size → (∀ q : Nat, q < H.size → ¬ AX q → H1[q]? = H[q]?) → va_S A0 H0 H1 locs1 → H1[q9]? = some ce → ce.vm = .none → s.vm.findClass E = some ce.cls → vx_W p l e R s m args below meth c H1 locs1 (cells + mc) (slots + ms) Q (F0 m pc ls rest) q9)
    (kk : ∀ (r : UInt32) (u : S) (t : State) (H1 : Heap) (locs1 : List Loc), t.heap = H1 → s.vm.Alike t.vm → post r u → B u t → H.size ≤ H1.size → (∀ q : Nat, q < H.size → ¬ A1 q → H1[q]? = H[q]?) → va_S A0 H0 H1 locs1 → W p l e R s m args below meth c H1 locs1 (cells + mc) (slots + ms) Q (F0 m (pc + 3) ls (.float r :: rest))) : W p l e R s m args below meth c H locs cells slots Q (F0 m pc ls st0) := by
  intro T hT X
  rcases hr T hT X with ⟨v, st₀, t, T', L, h0, X', hL, e1, e2, ⟨⟨r, u, hv, hp, hb⟩, hF⟩, st⟩ | ⟨q, st₀, t, T', L, E, ce, h0, X', hL, e1, e2, ⟨u, hp, hb, hF⟩, hce, hcv, hcl, st⟩
  · cases hv
    obtain ⟨k1, k2, k3⟩ := vx_keep h0 e1 hS hA hf hL hF
    obtain ⟨t2, a1, b1⟩ := kk r u t T'.heap (locs ++ L) e1.symm (by rw [← e2]; exact X'.warmed.alike) hp hb k1 k2 k3 T' rfl X'
    exact ⟨t2, st t2 a1, b1⟩
  · obtain ⟨k1, k2, k3⟩ := vx_keep h0 e1 hS hAX hf hL hF
    obtain ⟨t2, a1, b1⟩ := kx E ce q u t T'.heap (locs ++ L) e1.symm (by rw [← e2]; exact X'.warmed.alike) hp hb k1 k2 k3 (by rw [e1]; exact hce) hcv hcl T' rfl X'
    exact ⟨t2, st.trans a1, b1⟩
theorem vx_calld {S SX : Type} {post : UInt64 → S → Prop} {px : SX → Prop} {B : S → State → Prop} {BX : String → SX → State → Prop} {AX : Nat → Prop} (hr : vx_Run p l e R s m args below meth c H locs cells slots mc ms (F0 m pc ls st0) rest (va_Qd post B A1 a) (vx_X px BX AX) free) (hS : va_S A0 H0 H locs) (hA : ∀ q, q < H.size → A1 q → A0 q) (hf : ∀ q, free q → A0 q) (hAX : ∀ q, q < H.size → AX q → A0 q)
    (kx : ∀ (E : String) (ce : Cell) (q9 : Addr) (u : SX) (t : State) (H1 : Heap) (locs1 : List Loc), t.heap = H1 → s.vm.Alike t.vm → px u → BX E u t → H.size ≤ H1.size → (∀ q : Nat, q < H.size → ¬ AX q → H1[q]? = H[q]?) → va_S A0 H0 H1 locs1 → H1[q9]? = some ce → ce.vm = .none → s.vm.findClass E = some ce.cls → vx_W p l e R s m args below meth c H1 locs1 (cells + mc) (slots + ms) Q (F0 m pc ls rest) q9)
    (kk : ∀ (r : UInt64) (u : S) (t : State) (H1 : Heap) (locs1 : List Loc), t.heap = H1 → s.vm.Alike t.vm → post r u → B u t → H.size ≤ H1.size → (∀ q : Nat, q < H.size → ¬ A1 q → H1[q]? = H[q]?) → va_S A0 H0 H1 locs1 → W p l e R s m args below meth c H1 locs1 (cells + mc) (slots + ms) Q (F0 m (pc + 3) ls (.double r :: rest))) : W p l e R s m args below meth c H locs cells slots Q (F0 m pc ls st0) := by
  intro T hT X
  rcases hr T hT X with ⟨v, st₀, t, T', L, h0, X', hL, e1, e2, ⟨⟨r, u, hv, hp, hb⟩, hF⟩, st⟩ | ⟨q, st₀, t, T', L, E, ce, h0, X', hL, e1, e2, ⟨u, hp, hb, hF⟩, hce, hcv, hcl, st⟩
  · cases hv
    obtain ⟨k1, k2, k3⟩ := vx_keep h0 e1 hS hA hf hL hF
    obtain ⟨t2, a1, b1⟩ := kk r u t T'.heap (locs ++ L) e1.symm (by rw [← e2]; exact X'.warmed.alike) hp hb k1 k2 k3 T' rfl X'
    exact ⟨t2, st t2 a1, b1⟩
  · obtain ⟨k1, k2, k3⟩ := vx_keep h0 e1 hS hAX hf hL hF
    obtain ⟨t2, a1, b1⟩ := kx E ce q u t T'.heap (locs ++ L) e1.symm (by rw [← e2]; exact X'.warmed.alike) hp hb k1 k2 k3 (by rw [e1]; exact hce) hcv hcl T' rfl X'
    exact ⟨t2, st.trans a1, b1⟩
theorem vx_callv {S SX : Type} {post : S → Prop} {px : SX → Prop} {B : S → State → Prop} {BX : String → SX → State → Prop} {AX : Nat → Prop} (hr : vx_Run p l e R s m args below meth c H locs cells slots mc ms (F0 m pc ls st0) rest (va_Qv post B A1 a) (vx_X px BX AX) free) (hS : va_S A0 H0 H locs) (hA : ∀ q, q < H.size → A1 q → A0 q) (hf : ∀ q, free q → A0 q) (hAX : ∀ q, q < H.size → AX q → A0 q)
    (kx : ∀ (E : String) (ce : Cell) (q9 : Addr) (u : SX) (t : State) (H1 : Heap) (locs1 : List Loc), t.heap = H1 → s.vm.Alike t.vm → px u → BX E u t → H.size ≤ H1.size → (∀ q : Nat, q < H.size → ¬ AX q → H1[q]? = H[q]?) → va_S A0 H0 H1 locs1 → H1[q9]? = some ce → ce.vm = .none → s.vm.findClass E = some ce.cls → vx_W p l e R s m args below meth c H1 locs1 (cells + mc) (slots + ms) Q (F0 m pc ls rest) q9)
    (kk : ∀ (u : S) (t : State) (H1 : Heap) (locs1 : List Loc), t.heap = H1 → s.vm.Alike t.vm → post u → B u t → H.size ≤ H1.size → (∀ q : Nat, q < H.size → ¬ A1 q → H1[q]? = H[q]?) → va_S A0 H0 H1 locs1 → W p l e R s m args below meth c H1 locs1 (cells + mc) (slots + ms) Q (F0 m (pc + 3) ls (rest))) : W p l e R s m args below meth c H locs cells slots Q (F0 m pc ls st0) := by
  intro T hT X
  rcases hr T hT X with ⟨v, st₀, t, T', L, h0, X', hL, e1, e2, ⟨⟨u, hv, hp, hb⟩, hF⟩, st⟩ | ⟨q, st₀, t, T', L, E, ce, h0, X', hL, e1, e2, ⟨u, hp, hb, hF⟩, hce, hcv, hcl, st⟩
  · cases hv
    obtain ⟨k1, k2, k3⟩ := vx_keep h0 e1 hS hA hf hL hF
    obtain ⟨t2, a1, b1⟩ := kk u t T'.heap (locs ++ L) e1.symm (by rw [← e2]; exact X'.warmed.alike) hp hb k1 k2 k3 T' rfl X'
    exact ⟨t2, st t2 a1, b1⟩
  · obtain ⟨k1, k2, k3⟩ := vx_keep h0 e1 hS hAX hf hL hF
    obtain ⟨t2, a1, b1⟩ := kx E ce q u t T'.heap (locs ++ L) e1.symm (by rw [← e2]; exact X'.warmed.alike) hp hb k1 k2 k3 (by rw [e1]; exact hce) hcv hcl T' rfl X'
    exact ⟨t2, st.trans a1, b1⟩
/-- caught by the row x of this method's table; the rows ahead don't take it -/
theorem vx_catch {own name : String} {E : String} {ce : Cell} {q : Addr} (hown : s.vm.findClass own = some m.cls) (pre : List ExceptionTableEntry) (x : ExceptionTableEntry) (suf : List ExceptionTableEntry) (hsplit : c.exceptionTable.toList = pre ++ x :: suf)
    (hpass : ∀ z ∈ pre, covers z pc = false ∨ (z.catchType ≠ 0 ∧ ∃ nm : String, (Cond.classLink own z.catchType nm).before args s = true ∧ va_Nc E nm s)) (hx : covers x pc = true) (h0 : x.catchType ≠ 0)
    (hlink : (Cond.classLink own x.catchType name).before args s = true) (hcast : (Cond.castable E name).before args s = true) (hcell : H[q]? = some ce) (hv : ce.vm = .none) (hcl : s.vm.findClass E = some ce.cls)
    (kk : W p l e R s m args below meth c H locs cells slots Q (F0 m x.handlerPc ls [.ref q])) : vx_W p l e R s m args below meth c H locs cells slots Q (F0 m pc ls rest) q := by
  intro T hT X
  have hpl : e.platform.magicAccessors = ({} : Platform).magicAccessors := by rw [X.admits.platform]
  obtain ⟨c3, c4, hc3, hc4, hasg⟩ := Cond.castable_spec hcast
  cases Option.some.inj (hc3.symm.trans hcl)
  obtain ⟨c5, hc5, hcl5⟩ := Cond.classLink_spec hown hlink e.platform hpl
  cases Option.some.inj (hc4.symm.trans hc5)
  obtain ⟨vm', X', st⟩ := X.thenCaughtThrough q (g := F0 m pc ls rest) rfl (Steps.refl _) (by rw [hT]; exact hcell) (by rw [hv]; rfl) (by obtain ⟨k9, h9, -⟩ := Vm.findClass_spec hcl; exact ⟨k9, h9⟩) pre x suf hsplit
    (fun z hz => by
      rcases hpass z hz with h | ⟨hz0, nm, hl1, hn1⟩
      · exact Or.inl h
      · obtain ⟨c6, hc6, hcl6⟩ := Cond.classLink_spec hown hl1 e.platform hpl
        obtain ⟨a8, b8, h1, h2, h3⟩ := hn1
        cases Option.some.inj (h1.symm.trans hcl)
        cases Option.some.inj (h2.symm.trans hc6)
        exact Or.inr ⟨hz0, _, hcl6, h3⟩) hx (Or.inr ⟨h0, c4, hcl5, hasg⟩)
  obtain ⟨t, a1, b1⟩ := kk (T.setVm vm') hT X'
  exact ⟨t, st.trans a1, b1⟩
end Rows
section Ends
variable {p : Program} {l : Launch} {e : Env} {R : Room} {s : State} {m : MethodId} {args : Array Value} {below : List Frame} {meth : Method} {c : Code} {H : Heap} {locs : List Loc} {cells slots : Nat} {Q : State → Prop}
variable {mc ms : Nat} {free : Addr → Prop} {A0 A1 : Nat → Prop} {H0 : Heap} {a : Array Value} {ls : Array Slot} {st0 rest : List Value}
variable {Qc : Array Value → State → Outcome → State → Prop} {XC : String → State → State → Prop}
/-- what a body that may throw owes at its end -/
def vx_MQ (below : List Frame) (Qc : Array Value → State → Outcome → State → Prop) (XC : String → State → State → Prop) (a : Array Value) (s : State) (mc ms : Nat) (free : Addr → Prop) : State → Prop := fun t =>
  ∃ o, t.status = .running ∧ Ended t below o ∧ vx_Q Qc XC mc ms free a s o t
theorem vx_ret {g : JFrame} {mc ms : Nat} (k : W p l e R s m args below meth c H locs cells slots (MQ below Qc args s mc ms free) g) : W p l e R s m args below meth c H locs cells slots (vx_MQ below Qc XC args s mc ms free) g := by
  intro T hT X
  obtain ⟨t, a1, o, b1, b2, b3, b4⟩ := k T hT X
  exact ⟨t, a1, o, b1, b2, Or.inl ⟨b3, b4⟩⟩
/-- not caught here: it goes on to the caller -/
theorem vx_widen {g : JFrame} {q : Addr} {k n : Nat} (h1 : cells ≤ k) (h2 : slots ≤ n) (kk : vx_W p l e R s m args below meth c H locs k n Q g q) : vx_W p l e R s m args below meth c H locs cells slots Q g q := fun T hT X => kk T hT (stand_widen X h1 h2)
theorem vx_out {pc : Nat} {E : String} {ce : Cell} {q : Addr} {mc ms : Nat} (hout : ∀ x ∈ c.exceptionTable.toList, covers x pc = false) (hlocks : meth.locks = false) (hcell : H[q]? = some ce) (hv : ce.vm = .none) (hcl : s.vm.findClass E = some ce.cls)
    (hx : ∀ t : State, t.heap = H → s.vm.Alike t.vm → XC E s t) (hf : ∀ z ∈ locs, free z.base) (hc : cells ≤ mc) (hs : slots ≤ ms) :
    vx_W p l e R s m args below meth c H locs cells slots (vx_MQ below Qc XC args s mc ms free) (F0 m pc ls rest) q := by
  intro T hT X
  obtain ⟨st1, hrun, hend, hW, hsm⟩ := X.leaveThrown q (g := F0 m pc ls rest) rfl rfl rfl hout hlocks
  have hcell9 : (T.setFrames (.throwing q :: below)).heap[q]? = some ce := by
    show T.heap[q]? = some ce
    rw [hT]; exact hcell
  exact ⟨_, st1, .threw q, hrun, hend, Or.inr ⟨q, rfl, E, ce, locs, hx _ hT hW.alike, hcell9, hv, hcl, hW, hsm.mono hc hs, hf⟩⟩
theorem vx_frame {U : State} {k n : Nat} (h : s.sameButNew ({ U with vm := s.vm } : State) locs k n) : s.heap.size ≤ U.heap.size ∧ ∀ q : Nat, q < s.heap.size → (∀ z ∈ locs, z.base ≠ q) → U.heap[q]? = s.heap[q]? := by
  obtain ⟨-, h2, -, -, -, h6⟩ := h
  refine ⟨h2, fun q hq hz => ?_⟩
  obtain ⟨c9, e1, e2, e3, e4⟩ := h6 q _ (Array.getElem?_eq_getElem hq)
  have hs : c9.slots = (s.heap[q]).slots := Array.ext_getElem? fun i => e4 i fun hm => hz _ hm rfl
  have h9 : c9 = s.heap[q] := by
    rw [hs] at e2
    exact e2
  have e5 : U.heap[q]? = some c9 := e1
  rw [e5, h9, Array.getElem?_eq_getElem hq]
/-- the words of a throw but the four that speak of the heap -/
def vx_no (w : Cond) : Bool := decide (w ≠ .isRef (.static Bundle.tN "UNASSIGNED_STACK" Bundle.steD)) && decide (w ≠ .isRef (.static Bundle.tN "SUPPRESSED_SENTINEL" Bundle.listD)) && decide (w ≠ .laysStatic Bundle.tN "UNASSIGNED_STACK" Bundle.steD) && decide (w ≠ .laysStatic Bundle.tN "SUPPRESSED_SENTINEL" Bundle.listD)
def vx_at0 (own : String) (ic : Nat) (X : String) (names : List String) : List Cond := (Bundle.ownAtoms0 own ic X names).filter vx_no
def vx_atS (own : String) (ic : Nat) (X : String) (names : List String) : List Cond := (Bundle.ownAtoms own ic X names).filter vx_no
/-- a word that the tables alone decide, or a good one -/
def vx_ot (w : Cond) : Bool := w.onTables || goodWord w
theorem vx_ot_at {args a' : Array Value} {s U : State} {w : Cond} (hW : s.WarmedH U.vm) (hvm : s.vm = U.vm) (hg : vx_ot w = true) (h : w.before args s = true) : w.before a' U = true := by
  simp only [vx_ot, Bool.or_eq_true] at hg
  rcases hg with hg | hg
  · exact va_tabs hg hvm h
  · exact word_at hW (good_of_word hg) h
/-- a list's words: the good ones out of the method's own list, the others by premises of their own -/
theorem vx_hat {args : Array Value} {s : State} {L B : List Cond} (h1 : ∀ w ∈ L.filter goodWord, w.before args s = true) (h2 : ∀ w ∈ L.filter (fun w => !goodWord w), w ∈ B) (h3 : ∀ w ∈ B, w.before args s = true) : ∀ w ∈ L, w.before args s = true := by
  intro w hw
  by_cases g : goodWord w = true
  · exact h1 w (List.mem_filter.mpr ⟨hw, g⟩)
  · refine h3 w (h2 w (List.mem_filter.mpr ⟨hw, ?_⟩))
    show (!goodWord w) = true
    cases hgw : goodWord w
    · rfl
    · exact absurd hgw g
theorem vx_c {args : Array Value} {s : State} {w : Cond} {B : List Cond} (h : w.before args s = true) (t : ∀ w ∈ B, w.before args s = true) : ∀ w' ∈ w :: B, w'.before args s = true := fun w' h' => (List.mem_cons.mp h').elim (fun e => by rw [e]; exact h) (t w')
theorem vx_n {args : Array Value} {s : State} : ∀ w ∈ ([] : List Cond), w.before args s = true := fun _ h => nomatch h
theorem vx_own {args : Array Value} {s : State} {L : List Cond} (h1 : ∀ w ∈ L.filter vx_no, w.before args s = true)
    (hU : (Cond.isRef (.static Bundle.tN "UNASSIGNED_STACK" Bundle.steD)).before args s = true) (hN : (Cond.isRef (.static Bundle.tN "SUPPRESSED_SENTINEL" Bundle.listD)).before args s = true)
    (lU : (Cond.laysStatic Bundle.tN "UNASSIGNED_STACK" Bundle.steD).before args s = true) (lN : (Cond.laysStatic Bundle.tN "SUPPRESSED_SENTINEL" Bundle.listD).before args s = true) : ∀ w ∈ L, w.before args s = true := by
  intro w hw
  by_cases e1 : w = .isRef (.static Bundle.tN "UNASSIGNED_STACK" Bundle.steD)
  · rw [e1]; exact hU
  · by_cases e2 : w = .isRef (.static Bundle.tN "SUPPRESSED_SENTINEL" Bundle.listD)
    · rw [e2]; exact hN
    · by_cases e3 : w = .laysStatic Bundle.tN "UNASSIGNED_STACK" Bundle.steD
      · rw [e3]; exact lU
      · by_cases e4 : w = .laysStatic Bundle.tN "SUPPRESSED_SENTINEL" Bundle.listD
        · rw [e4]; exact lN
        · exact h1 w (List.mem_filter.mpr ⟨hw, by unfold vx_no; rw [decide_eq_true e1, decide_eq_true e2, decide_eq_true e3, decide_eq_true e4]; rfl⟩)
/-- where a static field lies, its class's statics cell in H -/
def vx_L (C n d : String) (A : Nat → Prop) (U : State) (H : Heap) : Prop := ∃ (c : ClassId) (k : Class) (i : Nat) (f : Field) (a : Nat) (cell : Cell), U.vm.findClass C = some c ∧ U.fieldFound? C n d = some (c, k, i, f) ∧ f.isStatic = true ∧ k.statics = some a ∧ H[a]? = some cell ∧ cell.vm.isStatics = true ∧ cell.cls = c ∧ f.slot < cell.slots.size ∧ k.staticTypes[f.slot]? = some f.type ∧ ¬ A a
theorem vx_L.moved {C n d : String} {A : Nat → Prop} {u U : State} {H : Heap} (hvm : u.vm.Alike U.vm) (h : vx_L C n d A u H) : vx_L C n d A U H := by
  obtain ⟨c, k, i, f, a, cell, h1, h2, h3, h4, h5, h6, h7, h8, h9, h10⟩ := h
  obtain ⟨k', hi', he⟩ := State.fieldFound?_setVm hvm h2
  exact ⟨c, k', i, f, a, cell, by rw [hvm.findClass]; exact h1, hi', h3, by rw [he]; exact h4, h5, h6, h7, h8, by rw [he]; exact h9, h10⟩
theorem vx_L.kept {C n d : String} {A : Nat → Prop} {U : State} {H H1 : Heap} (h : vx_L C n d A U H) (hq : ∀ a : Nat, a < H.size → ¬ A a → H1[a]? = H[a]?) : vx_L C n d A U H1 := by
  obtain ⟨c, k, i, f, a, cell, h1, h2, h3, h4, h5, h6, h7, h8, h9, h10⟩ := h
  exact ⟨c, k, i, f, a, cell, h1, h2, h3, h4, by rw [hq a (Array.getElem?_eq_some_iff.mp h5).1 h10]; exact h5, h6, h7, h8, h9, h10⟩
theorem vx_L.narrow {C n d : String} {A B : Nat → Prop} {U : State} {H : Heap} (h : vx_L C n d A U H) (hAB : ∀ q, B q → A q) : vx_L C n d B U H := by
  obtain ⟨c, k, i, f, a, cell, h1, h2, h3, h4, h5, h6, h7, h8, h9, h10⟩ := h
  exact ⟨c, k, i, f, a, cell, h1, h2, h3, h4, h5, h6, h7, h8, h9, fun z => h10 (hAB _ z)⟩
theorem vx_L.word {C n d : String} {A : Nat → Prop} {s : State} {args : Array Value} (h : vx_L C n d A s s.heap) : (Cond.laysStatic C n d).before args s = true := by
  obtain ⟨c, k, i, f, a, cell, h1, h2, h3, h4, h5, h6, h7, h8, h9, -⟩ := h
  show (Cond.laysStatic C n d).holds args s none s [] = true
  exact Cond.laysStatic_of h1 h2 h3 h4 h5 h6 h7 h8 h9
/-- .. and what it holds: null or some reference -/
def vx_Zq (C n d : String) (A : Nat → Prop) (U : State) (H : Heap) : Prop := va_Zq C n d A U H ∧ vx_L C n d A U H
theorem vx_Zq.moved {C n d : String} {A : Nat → Prop} {u U : State} {H : Heap} (hvm : u.vm.Alike U.vm) (h : vx_Zq C n d A u H) : vx_Zq C n d A U H := ⟨va_Zq.moved hvm h.1, vx_L.moved hvm h.2⟩
theorem vx_Zq.kept {C n d : String} {A : Nat → Prop} {U : State} {H H1 : Heap} (h : vx_Zq C n d A U H) (hq : ∀ a : Nat, a < H.size → ¬ A a → H1[a]? = H[a]?) : vx_Zq C n d A U H1 := ⟨va_Zq.kept h.1 hq, vx_L.kept h.2 hq⟩
theorem vx_Zq.narrow {C n d : String} {A B : Nat → Prop} {U : State} {H : Heap} (h : vx_Zq C n d A U H) (hAB : ∀ q, B q → A q) : vx_Zq C n d B U H := ⟨va_Zq.narrow h.1 hAB, vx_L.narrow h.2 hAB⟩
theorem vx_Zqof {args : Array Value} {s : State} {C n d : String} {A : Nat → Prop} (hl : (Cond.laysStatic C n d).before args s = true) (hini : (Cond.initialized C).before args s = true) (h : (Cond.isRef (.static C n d)).before args s = true) (hA : ∀ a : Nat, a < s.heap.size → ¬ A a) : vx_Zq C n d A s s.heap := by
  refine ⟨va_Zqof hl hini h hA, ?_⟩
  obtain ⟨c, k, i, f, a, cell, h1, h2, h3, h4, h5, h6, h7, h8, h9⟩ := Cond.laysStatic_spec hl
  exact ⟨c, k, i, f, a, cell, h1, h2, h3, h4, h5, h6, h7, h8, h9, hA a (Array.getElem?_eq_some_iff.mp h5).1⟩
theorem vx_isRef {C n d : String} {v : Value} {A : Nat → Prop} {s : State} {args : Array Value} (h : va_Z C n d v A s s.heap) (hv : v.isRef = true) : (Cond.isRef (.static C n d)).before args s = true := by
  obtain ⟨cf, kf, fi, f, a, cell, h1, h2, h3, h4, h5, h6, h7, -⟩ := h
  have he : (Term.static C n d).eval args s none [] s = some v := by
    simp [Term.eval, State.fieldNamed?, h1, h2, h4, h5, h6, h7]
  simp only [Cond.before, Cond.holds, Cond.value, he]
  cases v <;> simp_all [Value.isRef]
theorem vx_isRefq {C n d : String} {A : Nat → Prop} {s : State} {args : Array Value} (h : va_Zq C n d A s s.heap) : (Cond.isRef (.static C n d)).before args s = true := by
  rcases h with h | ⟨t, h⟩
  · exact vx_isRef h rfl
  · exact vx_isRef h rfl
/-- the same frame, seen from here: as if the method were called anew in this heap -/
theorem vx_rebase {T : State} (X : Stand p l e R s m args below meth c T locs cells slots) {R' : Room} (hf : R'.frames ≤ R.frames) (hl : R'.locals ≤ R.locals) (hc : cells + R'.cells ≤ R.cells) (hs : slots + R'.slots ≤ R.slots) :
    Stand p l e R' ((T.setVm s.vm).setFrames (.invoking m args :: below)) m args below meth c T [] 0 0 := by
  have htop : (T.setVm s.vm).topJava?.isSome := X.here.top
  have hF : ((T.setVm s.vm).setFrames (.invoking m args :: below)).frames = .invoking m args :: below := State.frames_setFrames _ (State.cur_lt_of_top htop)
  obtain ⟨g₀, hg0⟩ := Option.isSome_iff_exists.mp htop
  obtain ⟨r, hr⟩ := State.topJava?_eq_some.mp hg0
  have hl9 : e.platform.stackLimits (T.setVm s.vm).me = e.platform.stackLimits s.me := X.limits
  have hb9 : (T.setVm s.vm).me.stackBytes = s.me.stackBytes := X.bytes
  refine ⟨X.admits, X.cas, X.clock, hF, ?_, X.hears, X.method, X.code, X.here, X.tail, X.warmed, ?_, ?_, ?_⟩
  · have h := X.room
    have hU : ((T.setVm s.vm).setFrames (.invoking m args :: below)).localsInUse = s.localsInUse := by
      rw [State.localsInUse_invoking hF (meth := meth) (c := c) X.method X.code, State.localsInUse_invoking X.frames X.method X.code]
    simp only [State.hasRoom, Bool.and_eq_true, decide_eq_true_eq] at h ⊢
    obtain ⟨⟨⟨⟨h1, h2, h3, h4, h5, h6⟩, h7⟩, h8⟩, h9⟩ := h
    rw [X.frames, List.length_cons] at h2 h3
    have q1 := X.heapSize
    have q2 := X.used
    simp only [hF, hU, List.length_cons, State.stackLimits_setFrames, State.stackBytes_setFrames, hl9, hb9]
    refine ⟨⟨⟨⟨by omega, by omega, by omega, by omega, by omega, h6⟩, ?_⟩, ?_⟩, X.book⟩
    · show T.heap.size + R'.cells ≤ e.platform.maxCells
      omega
    · show T.slotsUsed + R'.slots ≤ e.platform.maxSlots
      omega
  · rw [State.stackLimits_setFrames]; rfl
  · rw [State.stackBytes_setFrames]; rfl
  · refine ⟨?_, Nat.le_refl _, Nat.le_refl _, ?_, ?_, fun a c9 h9 => ⟨c9, h9, rfl, rfl, fun _ _ => rfl⟩⟩
    · obtain ⟨t, ht, -⟩ := State.frames_cons hr
      show T.setVm s.vm = { ((T.setVm s.vm).setFrames (.invoking m args :: below)).setFrames (T.setVm s.vm).frames with heap := T.heap, slotsUsed := T.slotsUsed }
      rw [State.setFrames_setFrames, State.setFrames_self ht]
      rfl
    · show T.slotsUsed = T.slotsUsed + ((T.heap.toList.drop T.heap.size).map (·.slots.size)).sum
      rw [List.drop_eq_nil_of_le (Nat.le_of_eq Array.length_toList)]
      rfl
    · show ((T.heap.toList.drop T.heap.size).map (·.slots.size)).sum ≤ 0
      rw [List.drop_eq_nil_of_le (Nat.le_of_eq Array.length_toList)]
      exact Nat.le_refl _
/-- 'throw new E()': new; dup; invokespecial; athrow -/
theorem vx_throw0 {cc : ByteArray} {pc : Nat} (hexec : p.tables.exec = Jvm.exec) (hb : c.code = cc) (hl : l.stackTraces = false) {own cls : String} {names : List String} {ik ic mc ms : Nat} {A : Nat → Prop}
    (hown : s.vm.findClass own = some m.cls) (hcls : Bundle.fit cls = true) (hnames : ∀ n ∈ names, Bundle.fit n = true)
    (hk : (Cond.classLink own ik cls).before args s = true) (hini : (Cond.initialized cls).before args s = true) (hat : ∀ w ∈ vx_at0 own ic cls names, w.before args s = true)
    (hgood : ∀ w ∈ Cond.classLink own ik cls :: Cond.initialized cls :: vx_at0 own ic cls names, vx_ot w = true)
    (hU : vx_Zq Bundle.tN "UNASSIGNED_STACK" Bundle.steD A s s.heap) (hN : vx_Zq Bundle.tN "SUPPRESSED_SENTINEL" Bundle.listD A s s.heap) (hS : va_S A s.heap H locs) (hsize : ls.size = c.maxLocals)
    (d0 : decode cc pc = .ok (.new ik, 3)) (d3 : decode cc (pc + 3) = .ok (.dup, 1)) (d4 : decode cc (pc + 4) = .ok (.invokespecial ic, 3)) (d7 : decode cc (pc + 7) = .ok (.athrow, 1))
    (hout : ∀ x ∈ c.exceptionTable.toList, covers x (pc + 7) = false)
    (hRframes : names.length + 3 < R.frames) (hRlocals : (rest.map fun v => v.category).sum + (13 * (names.length + 1) + 42) ≤ R.locals) (hRcells : cells + 1 ≤ R.cells) (hRslots : slots + 6 ≤ R.slots) (hlocks : meth.locks = false)
    (hx : ∀ t : State, s.vm.Alike t.vm → H.size ≤ t.heap.size → (∀ q : Nat, q < H.size → t.heap[q]? = H[q]?) → XC cls s t)
    (hf : ∀ z ∈ locs, free z.base) (hc : cells + 1 ≤ mc) (hs : slots + 6 ≤ ms) :
    W p l e R s m args below meth c H locs cells slots (vx_MQ below Qc XC args s mc ms free) (F0 m pc ls rest) := by
  intro T hT X
  have htr : e.platform.stackTraces = false := (show e.platform.stackTraces = l.stackTraces by rw [X.admits.platform]).trans hl
  have Y := vx_rebase X (R' := { frames := R.frames, locals := R.locals, cells := 1, slots := 6 }) (Nat.le_refl _) (Nat.le_refl _) hRcells hRslots
  obtain ⟨s', hA⟩ : ∃ z, z = (T.setVm s.vm).setFrames (.invoking m args :: below) := ⟨_, rfl⟩
  rw [← hA] at Y
  have hvm : s'.vm = s.vm := by rw [hA]; rfl
  have hhp : s'.heap = H := by rw [hA]; exact hT
  have hW0 : s.WarmedH s'.vm := by rw [hvm]; exact State.WarmedH.refl s
  have hat' : ∀ w ∈ vx_at0 own ic cls names, w.before args s' = true := fun w hw => vx_ot_at hW0 hvm.symm (hgood w (List.mem_cons_of_mem _ (List.mem_cons_of_mem _ hw))) (hat w hw)
  have hk' : (Cond.classLink own ik cls).before args s' = true := vx_ot_at hW0 hvm.symm (hgood _ List.mem_cons_self) hk
  have hini' : (Cond.initialized cls).before args s' = true := vx_ot_at hW0 hvm.symm (hgood _ (List.mem_cons_of_mem _ List.mem_cons_self)) hini
  have hU' : vx_Zq Bundle.tN "UNASSIGNED_STACK" Bundle.steD A s' s'.heap := by rw [hhp]; exact vx_Zq.moved hW0.alike (hU.kept hS.2.1)
  have hN' : vx_Zq Bundle.tN "SUPPRESSED_SENTINEL" Bundle.listD A s' s'.heap := by rw [hhp]; exact vx_Zq.moved hW0.alike (hN.kept hS.2.1)
  have h : ∀ w ∈ Bundle.ownAtoms0 own ic cls names, w.before args s' = true := vx_own hat' (vx_isRefq hU'.1) (vx_isRefq hN'.1) hU'.2.word hN'.2.word
  have hown' : s'.vm.findClass own = some m.cls := by rw [hvm]; exact hown
  have hins : (Cond.instantiable cls 6).before args s' = true := h _ (by simp [Bundle.ownAtoms0])
  obtain ⟨vm₁, cX, kX, hfX, hkX, -, -, X₁, st1⟩ := Y.newCold hexec (own := own) (C := cls) (index := ik) (n := 6) hown' hk' hins hini'
    (g := F0 m pc ls rest) rfl (by rw [hb]; exact d0) (Nat.le_refl _) (Nat.le_refl _)
  generalize hT1 : (T.setVm vm₁).pushCell { cls := cX, slots := kX.instanceTypes.map defaultValue, vm := .none } = T1 at X₁ st1
  have hcat : (Value.ref T.heap.size).category = 1 := rfl
  have hcellA : T1.heap[T.heap.size]? = some (freshCell cX kX) := by rw [← hT1]; exact State.heap_pushCell_size _ _
  have d3' : decode c.code (pc + 3) = .ok (.dup, 1) := by rw [hb]; exact d3
  obtain ⟨U, hsteps, hrun, hend, hW, hsame, ce, hce, hO⟩ := X₁.ctorThrow0 hexec htr (own := own) (cls := cls) (names := names) (ic := ic) hown' hcls hnames h (fun x hx => nomatch hx) hfX hkX hcellA (by rw [hhp, hT]; exact Nat.le_refl _)
    (g := { method := m, pc := pc + 4, locals := ls, stack := .ref T.heap.size :: .ref T.heap.size :: rest, locked := none }) rfl hsize rfl rfl (rest := rest) rfl
    (by rw [hb]; exact d4) (by rw [hb]; exact d7) hout hRframes (by simp only [List.map_cons, List.sum_cons, hcat]; omega) hlocks
  obtain ⟨f1, f2⟩ := vx_frame hsame
  rw [hhp] at f1 f2
  have hWs : s.WarmedH U.vm := State.WarmedH.trans hW0 hW
  have hcl : s.vm.findClass cls = some ce.cls := by
    have h9 := hO.cls
    rw [hvm] at h9
    exact h9
  have hall : s.sameButNew ({ U with vm := s.vm } : State) locs mc ms := by
    subst hA
    obtain ⟨e1, e2⟩ := hsame
    rw [State.setFrames_setFrames] at e1
    have h2 : (T.setVm s.vm).sameButNew ({ U with vm := s.vm } : State) [] (0 + 1) (0 + 6) := ⟨e1, e2⟩
    have h3 := X.same.trans h2
    rw [List.append_nil] at h3
    exact h3.mono hc hs
  refine ⟨U, ?_, .threw T.heap.size, hrun, hend, Or.inr ⟨T.heap.size, rfl, cls, ce, locs, hx U hWs.alike f1 (fun q hq => f2 q hq (fun z hz => nomatch hz)), hce, hO.vm, hcl, hWs, hall, hf⟩⟩
  refine st1 _ ?_
  show Steps p.tables e below (T1.setTop { method := m, pc := pc + 3, locals := ls, stack := .ref T.heap.size :: rest, locked := none }) _
  jvm_step X₁.here [X₁.here.top, hexec, d3', Value.category]
  exact hsteps
/-- 'throw new E("text")': new; dup; ldc; invokespecial; athrow -/
theorem vx_throwS {cc : ByteArray} {pc : Nat} (hexec : p.tables.exec = Jvm.exec) (hb : c.code = cc) (hl : l.stackTraces = false) {own cls text : String} {names : List String} {ik is ic mc ms sa : Nat} {A : Nat → Prop}
    (hown : s.vm.findClass own = some m.cls) (hcls : Bundle.fit cls = true) (hnames : ∀ n ∈ names, Bundle.fit n = true)
    (hk : (Cond.classLink own ik cls).before args s = true) (hini : (Cond.initialized cls).before args s = true) (hstr : vk_R own is text sa s) (hat : ∀ w ∈ vx_atS own ic cls names, w.before args s = true)
    (hgood : ∀ w ∈ Cond.classLink own ik cls :: Cond.initialized cls :: vx_atS own ic cls names, vx_ot w = true)
    (hU : vx_Zq Bundle.tN "UNASSIGNED_STACK" Bundle.steD A s s.heap) (hN : vx_Zq Bundle.tN "SUPPRESSED_SENTINEL" Bundle.listD A s s.heap) (hS : va_S A s.heap H locs) (hsize : ls.size = c.maxLocals)
    (d0 : decode cc pc = .ok (.new ik, 3)) (d3 : decode cc (pc + 3) = .ok (.dup, 1)) (d4 : decode cc (pc + 4) = .ok (.ldc is, 2)) (d6 : decode cc (pc + 6) = .ok (.invokespecial ic, 3)) (d9 : decode cc (pc + 9) = .ok (.athrow, 1))
    (hout : ∀ x ∈ c.exceptionTable.toList, covers x (pc + 9) = false)
    (hRframes : names.length + 3 < R.frames) (hRlocals : (rest.map fun v => v.category).sum + (13 * (names.length + 1) + 43) ≤ R.locals) (hRcells : cells + 1 ≤ R.cells) (hRslots : slots + 6 ≤ R.slots) (hlocks : meth.locks = false)
    (hx : ∀ t : State, s.vm.Alike t.vm → H.size ≤ t.heap.size → (∀ q : Nat, q < H.size → t.heap[q]? = H[q]?) → XC cls s t)
    (hf : ∀ z ∈ locs, free z.base) (hc : cells + 1 ≤ mc) (hs : slots + 6 ≤ ms) :
    W p l e R s m args below meth c H locs cells slots (vx_MQ below Qc XC args s mc ms free) (F0 m pc ls rest) := by
  intro T hT X
  have htr : e.platform.stackTraces = false := (show e.platform.stackTraces = l.stackTraces by rw [X.admits.platform]).trans hl
  have Y := vx_rebase X (R' := { frames := R.frames, locals := R.locals, cells := 1, slots := 6 }) (Nat.le_refl _) (Nat.le_refl _) hRcells hRslots
  obtain ⟨s', hA⟩ : ∃ z, z = (T.setVm s.vm).setFrames (.invoking m args :: below) := ⟨_, rfl⟩
  rw [← hA] at Y
  have hvm : s'.vm = s.vm := by rw [hA]; rfl
  have hhp : s'.heap = H := by rw [hA]; exact hT
  have hW0 : s.WarmedH s'.vm := by rw [hvm]; exact State.WarmedH.refl s
  have hat' : ∀ w ∈ vx_atS own ic cls names, w.before args s' = true := fun w hw => vx_ot_at hW0 hvm.symm (hgood w (List.mem_cons_of_mem _ (List.mem_cons_of_mem _ hw))) (hat w hw)
  have hk' : (Cond.classLink own ik cls).before args s' = true := vx_ot_at hW0 hvm.symm (hgood _ List.mem_cons_self) hk
  have hini' : (Cond.initialized cls).before args s' = true := vx_ot_at hW0 hvm.symm (hgood _ (List.mem_cons_of_mem _ List.mem_cons_self)) hini
  have hU' : vx_Zq Bundle.tN "UNASSIGNED_STACK" Bundle.steD A s' s'.heap := by rw [hhp]; exact vx_Zq.moved hW0.alike (hU.kept hS.2.1)
  have hN' : vx_Zq Bundle.tN "SUPPRESSED_SENTINEL" Bundle.listD A s' s'.heap := by rw [hhp]; exact vx_Zq.moved hW0.alike (hN.kept hS.2.1)
  have h : ∀ w ∈ Bundle.ownAtoms own ic cls names, w.before args s' = true := vx_own hat' (vx_isRefq hU'.1) (vx_isRefq hN'.1) hU'.2.word hN'.2.word
  have hown' : s'.vm.findClass own = some m.cls := by rw [hvm]; exact hown
  have hins : (Cond.instantiable cls 6).before args s' = true := h _ (by simp [Bundle.ownAtoms])
  obtain ⟨vm₁, cX, kX, hfX, hkX, -, -, X₁, st1⟩ := Y.newCold hexec (own := own) (C := cls) (index := ik) (n := 6) hown' hk' hins hini'
    (g := F0 m pc ls rest) rfl (by rw [hb]; exact d0) (Nat.le_refl _) (Nat.le_refl _)
  generalize hT1 : (T.setVm vm₁).pushCell { cls := cX, slots := kX.instanceTypes.map defaultValue, vm := .none } = T1 at X₁ st1
  have hcat : (Value.ref T.heap.size).category = 1 := rfl
  have hcellA : T1.heap[T.heap.size]? = some (freshCell cX kX) := by rw [← hT1]; exact State.heap_pushCell_size _ _
  have d3' : decode c.code (pc + 3) = .ok (.dup, 1) := by rw [hb]; exact d3
  have d4' : decode c.code (pc + 4) = .ok (.ldc is, 2) := by rw [hb]; exact d4
  have hstr' : vk_R own is text sa s' := vk_R.warm hW0 hstr
  obtain ⟨U, hsteps, hrun, hend, hW, hsame, ce, hce, hO⟩ := X₁.ctorThrowS hexec htr (own := own) (cls := cls) (names := names) (ic := ic) hown' hcls hnames h (fun x hx => nomatch hx) hfX hkX hcellA (by rw [hhp, hT]; exact Nat.le_refl _) (msg := .ref sa) rfl
    (g := { method := m, pc := pc + 6, locals := ls, stack := .ref sa :: .ref T.heap.size :: .ref T.heap.size :: rest, locked := none }) rfl hsize rfl rfl (rest := rest) rfl
    (by rw [hb]; exact d6) (by rw [hb]; exact d9) hout hRframes (by simp only [List.map_cons, List.sum_cons, hcat]; omega) hlocks
  obtain ⟨f1, f2⟩ := vx_frame hsame
  rw [hhp] at f1 f2
  have hWs : s.WarmedH U.vm := State.WarmedH.trans hW0 hW
  have hcl : s.vm.findClass cls = some ce.cls := by
    have h9 := hO.cls
    rw [hvm] at h9
    exact h9
  have hall : s.sameButNew ({ U with vm := s.vm } : State) locs mc ms := by
    subst hA
    obtain ⟨e1, e2⟩ := hsame
    rw [State.setFrames_setFrames] at e1
    have h2 : (T.setVm s.vm).sameButNew ({ U with vm := s.vm } : State) [] (0 + 1) (0 + 6) := ⟨e1, e2⟩
    have h3 := X.same.trans h2
    rw [List.append_nil] at h3
    exact h3.mono hc hs
  refine ⟨U, ?_, .threw T.heap.size, hrun, hend, Or.inr ⟨T.heap.size, rfl, cls, ce, locs, hx U hWs.alike f1 (fun q hq => f2 q hq (fun z hz => nomatch hz)), hce, hO.vm, hcl, hWs, hall, hf⟩⟩
  refine st1 _ ?_
  show Steps p.tables e below (T1.setTop { method := m, pc := pc + 3, locals := ls, stack := .ref T.heap.size :: rest, locked := none }) _
  jvm_step X₁.here [X₁.here.top, hexec, d3', Value.category]
  exact X₁.ldcString hexec (own := own) (text := text) (index := is) (a := sa) hown' hstr'.1 hstr'.2
    (g := { method := m, pc := pc + 4, locals := ls, stack := .ref T.heap.size :: .ref T.heap.size :: rest, locked := none }) rfl d4' _ hsteps
/-- 'throw new E("text")', the text by a wide index -/
theorem vx_throwSW {cc : ByteArray} {pc : Nat} (hexec : p.tables.exec = Jvm.exec) (hb : c.code = cc) (hl : l.stackTraces = false) {own cls text : String} {names : List String} {ik is ic mc ms sa : Nat} {A : Nat → Prop}
    (hown : s.vm.findClass own = some m.cls) (hcls : Bundle.fit cls = true) (hnames : ∀ n ∈ names, Bundle.fit n = true)
    (hk : (Cond.classLink own ik cls).before args s = true) (hini : (Cond.initialized cls).before args s = true) (hstr : vk_R own is text sa s) (hat : ∀ w ∈ vx_atS own ic cls names, w.before args s = true)
    (hgood : ∀ w ∈ Cond.classLink own ik cls :: Cond.initialized cls :: vx_atS own ic cls names, vx_ot w = true)
    (hU : vx_Zq Bundle.tN "UNASSIGNED_STACK" Bundle.steD A s s.heap) (hN : vx_Zq Bundle.tN "SUPPRESSED_SENTINEL" Bundle.listD A s s.heap) (hS : va_S A s.heap H locs) (hsize : ls.size = c.maxLocals)
    (d0 : decode cc pc = .ok (.new ik, 3)) (d3 : decode cc (pc + 3) = .ok (.dup, 1)) (d4 : decode cc (pc + 4) = .ok (.ldc_w is, 3)) (d7 : decode cc (pc + 7) = .ok (.invokespecial ic, 3)) (d10 : decode cc (pc + 10) = .ok (.athrow, 1))
    (hout : ∀ x ∈ c.exceptionTable.toList, covers x (pc + 10) = false)
    (hRframes : names.length + 3 < R.frames) (hRlocals : (rest.map fun v => v.category).sum + (13 * (names.length + 1) + 43) ≤ R.locals) (hRcells : cells + 1 ≤ R.cells) (hRslots : slots + 6 ≤ R.slots) (hlocks : meth.locks = false)
    (hx : ∀ t : State, s.vm.Alike t.vm → H.size ≤ t.heap.size → (∀ q : Nat, q < H.size → t.heap[q]? = H[q]?) → XC cls s t)
    (hf : ∀ z ∈ locs, free z.base) (hc : cells + 1 ≤ mc) (hs : slots + 6 ≤ ms) :
    W p l e R s m args below meth c H locs cells slots (vx_MQ below Qc XC args s mc ms free) (F0 m pc ls rest) := by
  intro T hT X
  have htr : e.platform.stackTraces = false := (show e.platform.stackTraces = l.stackTraces by rw [X.admits.platform]).trans hl
  have Y := vx_rebase X (R' := { frames := R.frames, locals := R.locals, cells := 1, slots := 6 }) (Nat.le_refl _) (Nat.le_refl _) hRcells hRslots
  obtain ⟨s', hA⟩ : ∃ z, z = (T.setVm s.vm).setFrames (.invoking m args :: below) := ⟨_, rfl⟩
  rw [← hA] at Y
  have hvm : s'.vm = s.vm := by rw [hA]; rfl
  have hhp : s'.heap = H := by rw [hA]; exact hT
  have hW0 : s.WarmedH s'.vm := by rw [hvm]; exact State.WarmedH.refl s
  have hat' : ∀ w ∈ vx_atS own ic cls names, w.before args s' = true := fun w hw => vx_ot_at hW0 hvm.symm (hgood w (List.mem_cons_of_mem _ (List.mem_cons_of_mem _ hw))) (hat w hw)
  have hk' : (Cond.classLink own ik cls).before args s' = true := vx_ot_at hW0 hvm.symm (hgood _ List.mem_cons_self) hk
  have hini' : (Cond.initialized cls).before args s' = true := vx_ot_at hW0 hvm.symm (hgood _ (List.mem_cons_of_mem _ List.mem_cons_self)) hini
  have hU' : vx_Zq Bundle.tN "UNASSIGNED_STACK" Bundle.steD A s' s'.heap := by rw [hhp]; exact vx_Zq.moved hW0.alike (hU.kept hS.2.1)
  have hN' : vx_Zq Bundle.tN "SUPPRESSED_SENTINEL" Bundle.listD A s' s'.heap := by rw [hhp]; exact vx_Zq.moved hW0.alike (hN.kept hS.2.1)
  have h : ∀ w ∈ Bundle.ownAtoms own ic cls names, w.before args s' = true := vx_own hat' (vx_isRefq hU'.1) (vx_isRefq hN'.1) hU'.2.word hN'.2.word
  have hown' : s'.vm.findClass own = some m.cls := by rw [hvm]; exact hown
  have hins : (Cond.instantiable cls 6).before args s' = true := h _ (by simp [Bundle.ownAtoms])
  obtain ⟨vm₁, cX, kX, hfX, hkX, -, -, X₁, st1⟩ := Y.newCold hexec (own := own) (C := cls) (index := ik) (n := 6) hown' hk' hins hini'
    (g := F0 m pc ls rest) rfl (by rw [hb]; exact d0) (Nat.le_refl _) (Nat.le_refl _)
  generalize hT1 : (T.setVm vm₁).pushCell { cls := cX, slots := kX.instanceTypes.map defaultValue, vm := .none } = T1 at X₁ st1
  have hcat : (Value.ref T.heap.size).category = 1 := rfl
  have hcellA : T1.heap[T.heap.size]? = some (freshCell cX kX) := by rw [← hT1]; exact State.heap_pushCell_size _ _
  have d3' : decode c.code (pc + 3) = .ok (.dup, 1) := by rw [hb]; exact d3
  have d4' : decode c.code (pc + 4) = .ok (.ldc_w is, 3) := by rw [hb]; exact d4
  have hstr' : vk_R own is text sa s' := vk_R.warm hW0 hstr
  obtain ⟨U, hsteps, hrun, hend, hW, hsame, ce, hce, hO⟩ := X₁.ctorThrowS hexec htr (own := own) (cls := cls) (names := names) (ic := ic) hown' hcls hnames h (fun x hx => nomatch hx) hfX hkX hcellA (by rw [hhp, hT]; exact Nat.le_refl _) (msg := .ref sa) rfl
    (g := { method := m, pc := pc + 7, locals := ls, stack := .ref sa :: .ref T.heap.size :: .ref T.heap.size :: rest, locked := none }) rfl hsize rfl rfl (rest := rest) rfl
    (by rw [hb]; exact d7) (by rw [hb]; exact d10) hout hRframes (by simp only [List.map_cons, List.sum_cons, hcat]; omega) hlocks
  obtain ⟨f1, f2⟩ := vx_frame hsame
  rw [hhp] at f1 f2
  have hWs : s.WarmedH U.vm := State.WarmedH.trans hW0 hW
  have hcl : s.vm.findClass cls = some ce.cls := by
    have h9 := hO.cls
    rw [hvm] at h9
    exact h9
  have hall : s.sameButNew ({ U with vm := s.vm } : State) locs mc ms := by
    subst hA
    obtain ⟨e1, e2⟩ := hsame
    rw [State.setFrames_setFrames] at e1
    have h2 : (T.setVm s.vm).sameButNew ({ U with vm := s.vm } : State) [] (0 + 1) (0 + 6) := ⟨e1, e2⟩
    have h3 := X.same.trans h2
    rw [List.append_nil] at h3
    exact h3.mono hc hs
  refine ⟨U, ?_, .threw T.heap.size, hrun, hend, Or.inr ⟨T.heap.size, rfl, cls, ce, locs, hx U hWs.alike f1 (fun q hq => f2 q hq (fun z hz => nomatch hz)), hce, hO.vm, hcl, hWs, hall, hf⟩⟩
  refine st1 _ ?_
  show Steps p.tables e below (T1.setTop { method := m, pc := pc + 3, locals := ls, stack := .ref T.heap.size :: rest, locked := none }) _
  jvm_step X₁.here [X₁.here.top, hexec, d3', Value.category]
  exact X₁.ldcStringW hexec (own := own) (text := text) (index := is) (a := sa) hown' hstr'.1 hstr'.2
    (g := { method := m, pc := pc + 4, locals := ls, stack := .ref T.heap.size :: .ref T.heap.size :: rest, locked := none }) rfl d4' _ hsteps
end Ends
section Bodies
variable {l : Launch}
theorem vx_ofW {y : MethodName} {ws ws' : List Cond} {rm : Room} {Pc : Array Value → State → Prop} {Qc : Array Value → State → Outcome → State → Prop} {XC : String → State → State → Prop} {mc ms : Nat} {free : Addr → Prop} {cc : ByteArray} {maxL : Nat} {ret : Option FieldType}
    (hy : plainName y.cls = true) (hw : ws = Cond.code y cc maxL ret :: ws')
    (body : ∀ p e s m args below meth c s₁, BodyLoose p l y (headSpec ws rm) cc maxL ret e s m args below meth c s₁ → c.maxLocals = maxL → (∀ x ∈ c.exceptionTable.toList, False) → Pc args s →
      W p l e (headSpec ws rm).room s m args below meth c s.heap [] 0 0 (vx_MQ below Qc XC args s mc ms free) (entryFrame m args maxL)) : vx_Met l y ws rm Pc Qc XC mc ms free := by
  refine MetFree.of_bodyS (code := cc) (maxLocals := maxL) (ret := ret) hy ?_ ?_
  · intro args s m h hn
    obtain ⟨meth, c, h1, h2, h3, h4, h5, h6, -, -⟩ := Cond.code_spec hn (atoms_spec (ws := ws) h _ (by rw [hw]; exact List.mem_cons_self))
    exact ⟨meth, c, h1, h2, h3, h4, h5, h6⟩
  · intro p e s m args below meth c s₁ B hml hP _
    have hh0 : s₁.heap = s.heap := by rw [B.state]; rfl
    have ht : ∀ x ∈ c.exceptionTable.toList, False := by
      obtain ⟨meth9, c9, h1, h2, -, -, -, -, h7, -⟩ := Cond.code_spec B.named (atoms_spec (ws := ws) B.pre _ (by rw [hw]; exact List.mem_cons_self))
      cases Option.some.inj (h1.symm.trans B.method)
      cases Option.some.inj (h2.symm.trans (Stand.of_body B).code)
      intro x hx
      rw [Array.isEmpty_iff.mp h7] at hx
      cases hx
    obtain ⟨t, a1, o, b1, b2, b3⟩ := body p e s m args below meth c s₁ B hml ht hP s₁ hh0 (Stand.of_body B)
    exact ⟨t, o, a1, b1, b2, b3⟩
/-- the table of a body with handlers -/
theorem vx_table {p : Program} {x y : MethodName} {S : Spec} {cc bytes : ByteArray} {maxL maxL' : Nat} {ret ret' : Option FieldType} {e : Env} {s s₁ : State} {m : MethodId} {args : Array Value} {below : List Frame} {meth : Method} {c : Code} {hh : List (Nat × Nat × Nat × Nat)}
    (B : BodyLoose p l y S cc maxL ret e s m args below meth c s₁) (h : (Cond.codeWith y bytes maxL' ret' hh).before args s = true) : c.exceptionTable.toList = tableOf hh := by
  obtain ⟨m9, meth9, c9, hn9, h1, h2, -, -, h6, -⟩ := Cond.codeWith_spec h
  cases Option.some.inj (hn9.symm.trans B.named)
  cases Option.some.inj (h1.symm.trans B.method)
  cases Option.some.inj (h2.symm.trans (Stand.of_body B).code)
  rw [← h6, table_eq]
end Bodies
end VXA
/-! ===== END ===== -/
/-! ===== BEGIN a static call of a method with an exception table ===== -/
section VXS
variable {p : Program} {l : Launch} {e : Env} {R : Room} {s : State} {m : MethodId} {args : Array Value} {below : List Frame} {meth : Method} {c : Code} {T : State} {H : Heap} {locs : List Loc} {cells slots : Nat}
abbrev vx_CSW (R : Room) (s : State) (args : Array Value) (own : String) (index : Nat) (y : MethodName) (bytes : ByteArray) (maxL : Nat) (ret : Option FieldType) (hh : List (Nat × Nat × Nat × Nat)) (ws : List Cond) (rm : Room) (mc ms n : Nat) : Prop :=
  (rm.cells = mc ∧ rm.slots = ms ∧ rm.frames + 1 ≤ R.frames ∧ 8 + (maxL + 11) + rm.locals ≤ R.locals ∧ (∀ w ∈ ws, ∀ (a' : Array Value) (U : State), s.WarmedH U.vm → w.before a' U = true) ∧ Cond.codeWith y bytes maxL ret hh ∈ ws) ∧
  (Cond.codeWith y bytes maxL ret hh).before args s = true ∧ (Cond.initialized y.cls).before args s = true ∧ (y.cls ≠ "java/lang/invoke/MethodHandle" ∧ y.cls ≠ "java/lang/invoke/VarHandle") ∧
  (∀ sig, parseMethodDescriptor y.desc = some sig → n = sig.parameters.length) ∧ (Cond.methodLink own index y).before args s = true ∧ (Cond.static y).before args s = true
theorem vx_cwSW {own : String} {index maxL mc ms : Nat} {y : MethodName} {bytes : ByteArray} {ret : Option FieldType} {hh : List (Nat × Nat × Nat × Nat)} {Ts ws ws' : List Cond} {rm : Room} (n : Nat) (ht : ∀ w ∈ Ts, w.before args s = true) (hT : GoodIn Ts (va_wsS own index y ws)) (hw : ws = Cond.codeWith y bytes maxL ret hh :: ws') (hrc : rm.cells = mc) (hrs : rm.slots = ms)
    (hd : y.cls ≠ "java/lang/invoke/MethodHandle" ∧ y.cls ≠ "java/lang/invoke/VarHandle" ∧ (parseMethodDescriptor y.desc).map (fun d => d.parameters.length) = some n) (hR : rm.frames + 1 ≤ R.frames ∧ 8 + (maxL + 11) + rm.locals ≤ R.locals) :
    vx_CSW R s args own index y bytes maxL ret hh ws rm mc ms n := by
  have ok : ∀ w ∈ va_wsS own index y ws, w.before args s = true := fun w h => ht w (hT w h).1
  have hG : GoodIn Ts ws := fun w h => hT w (by unfold va_wsS; exact List.mem_append_right _ h)
  have hc : Cond.codeWith y bytes maxL ret hh ∈ ws := by rw [hw]; exact List.mem_cons_self
  refine ⟨⟨hrc, hrs, hR.1, hR.2, pay_in ht hG, hc⟩, ht _ (hG _ hc).1, ok _ (by simp [va_wsS]), ⟨hd.1, hd.2.1⟩, fun sig h => ?_, ok _ (by simp [va_wsS]), ok _ (by simp [va_wsS])⟩
  have h2 := hd.2.2
  rw [h] at h2
  exact (Option.some.inj h2).symm
theorem vx_callSW (X : Stand p l e R s m args below meth c T locs cells slots) (hexec : p.tables.exec = Jvm.exec) {own : String} {index : Nat} {y : MethodName} {bytes : ByteArray} {maxL : Nat} {ret : Option FieldType} {hh : List (Nat × Nat × Nat × Nat)}
    (hown : s.vm.findClass own = some m.cls) (hlink : (Cond.methodLink own index y).before args s = true) (hstat : (Cond.static y).before args s = true) (hinit : (Cond.initialized y.cls).before args s = true)
    (hcode : (Cond.codeWith y bytes maxL ret hh).before args s = true) (hy : y.cls ≠ "java/lang/invoke/MethodHandle" ∧ y.cls ≠ "java/lang/invoke/VarHandle")
    {W9 : Nat} {Pre : Pt → Array Value → Prop} {Post : Pt → Array Value → Option Value → Pt → Prop} (hK : Back l R p e below s args y 3 W9 Pre Post)
    {g : JFrame} (hg : g.method = m) (hsize : g.locals.size = c.maxLocals) {argsL rest : List Value} (hlen : ∀ sig, parseMethodDescriptor y.desc = some sig → argsL.length = sig.parameters.length)
    (hstack : g.stack = argsL.reverse ++ rest) (hW : 2 * g.monitorRoom + (rest.map fun v => v.category).sum ≤ W9) (hdg : decode c.code g.pc = .ok (.invokestatic index, 3))
    (hpre : ∀ vm₁, s.WarmedH vm₁ → Pre ⟨T.setVm vm₁, locs, cells, slots⟩ argsL.toArray) :
    ∃ (v : Option Value) (vm₁ : Vm) (B : Pt), s.WarmedH vm₁ ∧ Stand p l e R s m args below meth c B.U B.locs B.cells B.slots ∧ Post ⟨T.setVm vm₁, locs, cells, slots⟩ argsL.toArray v B ∧
      ∀ target, Steps p.tables e below (B.U.setTop { g with pc := g.pc + 3, stack := v.toList ++ rest }) target → Steps p.tables e below (T.setTop g) target := by
  obtain ⟨mk, methM, cM, hnamed, hmethM, -, -, -, -, -, -, hsigM⟩ := Cond.codeWith_spec hcode
  have hstatic : methM.isStatic = true := Cond.static_spec hnamed hmethM hstat
  obtain ⟨kP, hkP, -⟩ := className_of_methodNamed hnamed
  have hinitP : kP.init = .initialized := Cond.initialized_spec (findClass_of_methodNamed hnamed) hkP hinit
  obtain ⟨vm₁, X₁, hstep₁⟩ := X.invokestatic hexec hown hlink hnamed hmethM hstatic hkP hinitP hy (g := g) hg (argsL := argsL) (rest := rest) (hlen _ hsigM) hstack hdg
  obtain ⟨v, B, X', hpost, hsteps⟩ := hK m meth c ⟨T.setVm vm₁, locs, cells, slots⟩ { g with stack := rest } (.invokestatic index) mk argsL.toArray X₁ hg hsize hdg hW (X₁.named hnamed) (hpre vm₁ X₁.warmed)
  exact ⟨v, vm₁, B, X₁.warmed, X', hpost, fun target h => hstep₁ _ fun acts => by rw [doInvoke_state]; exact hsteps.trans h⟩
theorem vx_runSW {y : MethodName} {bytes cc : ByteArray} {maxL nL mc ms n index : Nat} {ret : Option FieldType} {hh : List (Nat × Nat × Nat × Nat)} {ws : List Cond} {rm : Room} {Pc : Array Value → State → Prop} {Qc : Array Value → State → Outcome → State → Prop} {free : Addr → Prop} {Ts : List Cond} {own : String} {As rest : List Value} {g : JFrame}
    (S : CallFix p m c cc nL s args Ts own) (hM : Met l y ws rm Pc Qc mc ms free) (cw : vx_CSW R s args own index y bytes maxL ret hh ws rm mc ms n) (hp : PreS s H Pc As)
    (hg : g.method = m) (hn : As.length = n) (hsize : g.locals.size = nL) (hstack : g.stack = As.reverse ++ rest) (hW : 2 * g.monitorRoom + (rest.map fun v => v.category).sum ≤ 8) (hdg : decode cc g.pc = .ok (.invokestatic index, 3)) (hf : cells + mc ≤ R.cells ∧ slots + ms ≤ R.slots) :
    va_Run p l e R s m args below meth c H locs cells slots mc ms g rest (Qc As.toArray) (free) := by
  obtain ⟨⟨hrc, hrs, hfr, hlo, hws, hcw⟩, hcode, hini, hy, hlen, hl, hstt⟩ := cw
  have hK : Back l R p e below s args y 3 8 (PreOf R mc ms Pc) (PostOf Qc mc ms free) := va_backW (hh := hh) (bytes := bytes) (maxL := maxL) (ret := ret) hM hp.1 hrc hrs hfr hlo hws hcw (fun a' U hW => word_at hW (Or.inl (by first | rfl | simp [Cond.onTables, Cond.keeps, Cond.steady])) hini)
  obtain ⟨hx, hb, hml, ho, -⟩ := S
  intro T hT X
  obtain ⟨v, vm₁, ⟨U', l2, c2, s2⟩, hW₁, X', ⟨g', mk, t, L, e1, e2, hq, h1, hL, h2, h3⟩, st⟩ := vx_callSW X hx (hh := hh) (bytes := bytes) (maxL := maxL) (ret := ret) ho hl hstt hini hcode hy hK hg (hsize.trans hml.symm) (argsL := As) (rest := rest) (fun sig h => hn.trans (hlen sig h)) hstack hW (by rw [hb]; exact hdg)
    (fun vm₁ hW₁ => ⟨hf.1, hf.2, hp.2 (T.setVm vm₁) hT hW₁⟩)
  dsimp only [Pt.U, Pt.locs, Pt.cells, Pt.slots] at X' e1 e2 h1 h2 h3 st
  subst h1; subst h2; subst h3
  exact ⟨v, (T.setVm vm₁).calling g' mk As.toArray, t, U', L, hT, X', hL, e1, e2, hq, st⟩
/-- not caught here, past rows that name other classes: it goes on to the caller -/
theorem vx_outP {p : Program} {l : Launch} {e : Env} {R : Room} {s : State} {m : MethodId} {args : Array Value} {below : List Frame} {meth : Method} {c : Code} {H : Heap} {locs : List Loc} {cells slots : Nat} {free : Addr → Prop} {ls : Array Slot} {rest : List Value} {Qc : Array Value → State → Outcome → State → Prop} {XC : String → State → State → Prop}
    {pc : Nat} {own E : String} {ce : Cell} {q : Addr} {mc ms : Nat} (hown : s.vm.findClass own = some m.cls) (hlocks : meth.locks = false)
    (hpass : ∀ z ∈ c.exceptionTable.toList, covers z pc = false ∨ (z.catchType ≠ 0 ∧ ∃ nm : String, (Cond.classLink own z.catchType nm).before args s = true ∧ va_Nc E nm s)) (hcell : H[q]? = some ce) (hv : ce.vm = .none) (hcl : s.vm.findClass E = some ce.cls)
    (hx : ∀ t : State, t.heap = H → s.vm.Alike t.vm → XC E s t) (hf : ∀ z ∈ locs, free z.base) (hc : cells ≤ mc) (hs : slots ≤ ms) :
    vx_W p l e R s m args below meth c H locs cells slots (vx_MQ below Qc XC args s mc ms free) (F0 m pc ls rest) q := by
  intro T hT X
  have hpl : e.platform.magicAccessors = ({} : Platform).magicAccessors := by rw [X.admits.platform]
  obtain ⟨vm', hW', X', st⟩ := X.outThrough hlocks q (g := F0 m pc ls rest) rfl rfl rfl (cell := ce) (by rw [hT]; exact hcell) (by rw [hv]; rfl)
    (by obtain ⟨k9, h9, -⟩ := Vm.findClass_spec hcl; exact ⟨k9, h9⟩) (fun z hz => by
      rcases hpass z hz with h | ⟨hz0, nm, hl1, hn1⟩
      · exact Or.inl h
      · obtain ⟨c6, hc6, hcl6⟩ := Cond.classLink_spec hown hl1 e.platform hpl
        obtain ⟨a8, b8, h1, h2, h3⟩ := hn1
        cases Option.some.inj (h1.symm.trans hcl)
        cases Option.some.inj (h2.symm.trans hc6)
        exact Or.inr ⟨hz0, _, hcl6, h3⟩)
  obtain ⟨g₀, hfr⟩ := X'.frames_eq
  have hcell9 : ((T.setVm vm').setFrames (.throwing q :: below)).heap[q]? = some ce := by
    show T.heap[q]? = some ce
    rw [hT]; exact hcell
  have hend : Ended ((T.setVm vm').setFrames (.throwing q :: below)) below (.threw q) := State.frames_setFrames _ (State.cur_lt_of_frames hfr)
  refine ⟨(T.setVm vm').setFrames (.throwing q :: below), ?_, .threw q, X'.here.running, hend, Or.inr ⟨q, rfl, E, ce, locs, hx _ hT (X'.ends _).1.alike, hcell9, hv, hcl, (X'.ends _).1, (X'.ends _).2.mono hc hs, hf⟩⟩
  rw [X.pushThrowing_eq]
  exact st
/-- a thing of a world lies in the heap -/
theorem vx_lt {D : va_G} {cl : List vw_C} {ws : va_W} {H1 : Heap} (h : va_P D cl ws H1) {k : Nat} {q : Nat × va_E} (hk : ws[k]? = some q) : q.1 < H1.size := (h k q hk).lt
end VXS
/-! ===== END ===== -/
/-! ===== BEGIN methods with a table of their own: called by a name, returning or throwing ===== -/
section VXH
/-! vx_backW, vx_callVX, vx_callSX, vx_callVW, vx_runVW, vx_runVX, vx_runSX, vx_ofWH follow the same proofs as their sisters above (Free/Laws.lean, Shelf42/LK1.lean); vx_outP calls Shelf42/NT130.lean (outThrough). -/
section
variable {l : Launch} {R : Room} {p : Program} {e : Env} {below : List Frame} {s : State} {sargs : Array Value} {y : MethodName} {len W9 : Nat}
theorem vx_backW {ws : List Cond} {rm : Room} {Pc : Array Value → State → Prop} {Qc : Array Value → State → Outcome → State → Prop} {XC : String → State → State → Prop} {mc ms : Nat} {free : Addr → Prop} {bytes : ByteArray} {maxL : Nat} {ret : Option FieldType} {hh : List (Nat × Nat × Nat × Nat)}
    (hM : vx_Met l y ws rm Pc Qc XC mc ms free) (hblind : FrameBlind Pc) (hrc : rm.cells = mc) (hrs : rm.slots = ms)
    (hframes : rm.frames + 1 ≤ R.frames) (hlocals : W9 + (maxL + 11) + rm.locals ≤ R.locals)
    (hws : ∀ w ∈ ws, ∀ a' U, s.WarmedH U.vm → w.before a' U = true) (hcode : Cond.codeWith y bytes maxL ret hh ∈ ws) (hinit : ∀ a' U, s.WarmedH U.vm → (Cond.initialized y.cls).before a' U = true) :
    vx_Back l R p e below s sargs y len W9 (PreOf R mc ms Pc) (PostOf Qc mc ms free) (vx_Post XC mc ms free) := by
  intro m meth c A g ig mk a X hg hsize hdg hW hn hp
  have h1 : (headSpec ws rm).pre.before a A.U = true := atoms_intro fun w hw => hws w hw _ _ X.warmed
  have h2 : (Cond.codeWith y bytes maxL ret hh).before a A.U = true := hws _ hcode _ _ X.warmed
  have h3 : (Cond.initialized y.cls).before a A.U = true := hinit _ _ X.warmed
  have h4 : A.cells + (headSpec ws rm).room.cells ≤ R.cells := by rw [show (headSpec ws rm).room.cells = mc from hrc]; exact hp.1
  have h5 : A.slots + (headSpec ws rm).room.slots ≤ R.slots := by rw [show (headSpec ws rm).room.slots = ms from hrs]; exact hp.2.1
  have hPc : Pc a (A.U.calling g mk a) := hblind _ _ _ _ hp.2.2
  obtain ⟨U, Ls, c0, s0⟩ := A
  dsimp only [Pt.U, Pt.locs, Pt.cells, Pt.slots] at h1 h2 h3 h4 h5 X hn hPc ⊢
  obtain ⟨m9, methY, cY, hn9, hmY, hcY, -, hlY, -⟩ := Cond.codeWith_spec h2
  cases Option.some.inj (hn9.symm.trans hn)
  obtain ⟨kY, hkY, -⟩ := className_of_methodNamed hn
  have hinitY : kY.init = .initialized := Cond.initialized_spec (findClass_of_methodNamed hn) hkY h3
  have h : At U g.method c below := by rw [hg]; exact X.here
  have hlocals9 : W9 + (maxL + 11) + (headSpec ws rm).room.locals ≤ R.locals := hlocals
  have happ : (headSpec ws rm).appliesLoose y e.platform (U.calling g mk a) = true :=
    Spec.appliesLoose_calling (g := g) h hdg hn hkY hinitY
      (X.room_calling (g := g) (R' := (headSpec ws rm).room) hsize hmY hcY hframes (by rw [hlY]; omega) h4 h5) h1
  obtain ⟨mid, hmid⟩ := h.above
  have hfr : (U.setTop g).frames = (.java g :: mid) ++ below := by rw [State.frames_setTop' g h.top, hmid]; rfl
  obtain ⟨o, s₂, hsteps, -, hend, hq⟩ := Steps.callFree hM p X.admits X.cas X.clock (acts := []) hfr happ hPc trivial
  have hq' : vx_Q Qc XC mc ms free a (U.calling g mk a) o s₂ := hq
  rw [State.frames_setTop' g h.top] at hend
  obtain ⟨g₀, hg0⟩ := Option.isSome_iff_exists.mp h.top
  obtain ⟨r, hr⟩ := State.topJava?_eq_some.mp hg0
  have hr' : (({ U with heap := s₂.heap, slotsUsed := s₂.slotsUsed } : State).setVm s₂.vm).frames = .java g₀ :: r := hr
  rcases hq' with ⟨hqc, L, hfe, hL⟩ | ⟨q, rfl, E, ce, L, hx, hce, hcv, hcl, hW₂, hsm, hL⟩
  · obtain ⟨⟨v, rfl⟩, hW₂, e2, q2, q3, q4, q5, q6⟩ := id hfe
    have e3 : s₂ = ({ (U.calling g mk a).setFrames s₂.frames with heap := s₂.heap, slotsUsed := s₂.slotsUsed } : State).setVm s₂.vm := by
      have : s₂ = ({ s₂ with vm := (U.calling g mk a).vm } : State).setVm s₂.vm := rfl
      rw [e2] at this
      exact this
    obtain ⟨c₂, i₂, len₂, hc₂, hd₂, hf₂⟩ := hend
    have hW' : U.WarmedH s₂.vm := hW₂
    have hcc : c₂ = c := by
      have h1 : s₂.code? g.method = U.code? g.method := by
        rw [State.code?_eq, State.code?_eq, hW'.alike.method?]
      exact Option.some.inj (hc₂.symm.trans (h1.trans h.code))
    subst hcc
    have hlen : len₂ = len := by rw [hdg] at hd₂; cases hd₂; rfl
    subst hlen
    have hs₂ : s₂ = (({ U with heap := s₂.heap, slotsUsed := s₂.slotsUsed } : State).setVm s₂.vm).setTop { g with pc := g.pc + len₂, stack := v.toList ++ g.stack } := by
      refine e3.trans ?_
      rw [hf₂, State.calling_eq h.top, State.setFrames_setFrames, State.setTop_of_frames _ hr', hr]
      rfl
    have hsame : U.sameButNew ({ U with heap := s₂.heap, slotsUsed := s₂.slotsUsed } : State) L mc ms := by
      refine ⟨?_, q2, q3, q4, q5, q6⟩
      obtain ⟨t, ht, -⟩ := State.frames_cons hr
      show ({ U with heap := s₂.heap, slotsUsed := s₂.slotsUsed } : State) = { U.setFrames U.frames with heap := s₂.heap, slotsUsed := s₂.slotsUsed }
      rw [State.setFrames_self ht]
    subst hg
    refine Or.inl ⟨v, ⟨(({ U with heap := s₂.heap, slotsUsed := s₂.slotsUsed } : State).setVm s₂.vm), Ls ++ L, c0 + mc, s0 + ms⟩,
      ⟨X.admits, X.cas, X.clock, X.frames, X.room, X.hears, X.method, X.code, (X.here.setHeapUsed s₂.heap s₂.slotsUsed).setVm hW'.alike, X.tail, State.WarmedH.trans X.warmed hW', X.limits, X.bytes, X.same.trans (hsame.setVm s.vm)⟩,
      ⟨g, mk, s₂, L, rfl, rfl, hqc, rfl, hL, rfl, rfl⟩, ?_⟩
    show Steps p.tables e below _ ((({ U with heap := s₂.heap, slotsUsed := s₂.slotsUsed } : State).setVm s₂.vm).setTop { g with pc := g.pc + len₂, stack := v.toList ++ g.stack })
    rw [← hs₂]
    exact hsteps
  · obtain ⟨e2, q2, q3, q4, q5, q6⟩ := id hsm
    have e3 : s₂ = ({ (U.calling g mk a).setFrames s₂.frames with heap := s₂.heap, slotsUsed := s₂.slotsUsed } : State).setVm s₂.vm := by
      have : s₂ = ({ s₂ with vm := (U.calling g mk a).vm } : State).setVm s₂.vm := rfl
      rw [e2] at this
      exact this
    have hf₂ : s₂.frames = .throwing q :: .java g :: U.frames.tail := hend
    have hW' : U.WarmedH s₂.vm := hW₂
    have hs₂ : s₂ = ((({ U with heap := s₂.heap, slotsUsed := s₂.slotsUsed } : State).setVm s₂.vm).setTop g).pushFrame (.throwing q) := by
      refine e3.trans ?_
      rw [hf₂, State.calling_eq h.top, State.setFrames_setFrames, State.pushFrame, State.frames_setTop _ hr', State.setTop_of_frames _ hr', State.setFrames_setFrames, hr]
      rfl
    have hsame : U.sameButNew ({ U with heap := s₂.heap, slotsUsed := s₂.slotsUsed } : State) L mc ms := by
      refine ⟨?_, q2, q3, q4, q5, q6⟩
      obtain ⟨t, ht, -⟩ := State.frames_cons hr
      show ({ U with heap := s₂.heap, slotsUsed := s₂.slotsUsed } : State) = { U.setFrames U.frames with heap := s₂.heap, slotsUsed := s₂.slotsUsed }
      rw [State.setFrames_self ht]
    subst hg
    refine Or.inr ⟨q, ⟨(({ U with heap := s₂.heap, slotsUsed := s₂.slotsUsed } : State).setVm s₂.vm), Ls ++ L, c0 + mc, s0 + ms⟩,
      ⟨X.admits, X.cas, X.clock, X.frames, X.room, X.hears, X.method, X.code, (X.here.setHeapUsed s₂.heap s₂.slotsUsed).setVm hW'.alike, X.tail, State.WarmedH.trans X.warmed hW', X.limits, X.bytes, X.same.trans (hsame.setVm s.vm)⟩,
      ⟨g, mk, s₂, L, E, ce, rfl, rfl, hx, hce, hcv, hcl, rfl, hL, rfl, rfl⟩, ?_⟩
    show Steps p.tables e below _ (((({ U with heap := s₂.heap, slotsUsed := s₂.slotsUsed } : State).setVm s₂.vm).setTop g).pushFrame (.throwing q))
    rw [← hs₂]
    exact hsteps
end
variable {p : Program} {l : Launch} {e : Env} {R : Room} {s : State} {m : MethodId} {args : Array Value} {below : List Frame} {meth : Method} {c : Code} {T : State} {H : Heap} {locs : List Loc} {cells slots : Nat}
theorem vx_callVX (X : Stand p l e R s m args below meth c T locs cells slots) (hexec : p.tables.exec = Jvm.exec) {own C : String} {index : Nat} {y : MethodName} {bytes : ByteArray} {maxL : Nat} {ret : Option FieldType} {hh : List (Nat × Nat × Nat × Nat)}
    (hown : s.vm.findClass own = some m.cls) (hlink : (Cond.methodLink own index y).before args s = true) (hinst : (Cond.instanceMethod y).before args s = true) (hsel : (Cond.selects C y y).before args s = true)
    (hcode : (Cond.codeWith y bytes maxL ret hh).before args s = true) (hy : y.cls ≠ "java/lang/invoke/MethodHandle" ∧ y.cls ≠ "java/lang/invoke/VarHandle")
    {W9 : Nat} {Pre : Pt → Array Value → Prop} {Post : Pt → Array Value → Option Value → Pt → Prop} {PostX : Pt → Array Value → Addr → Pt → Prop} (hK : vx_Back l R p e below s args y 3 W9 Pre Post PostX)
    {b : Addr} {cellB : Cell} (hcell : T.heap[b]? = some cellB) (hobj : cellB.vm.isStatics = false) (hcls : s.vm.findClass C = some cellB.cls)
    {g : JFrame} (hg : g.method = m) (hsize : g.locals.size = c.maxLocals) {argsL rest : List Value} (hlen : ∀ sig, parseMethodDescriptor y.desc = some sig → argsL.length = sig.parameters.length)
    (hstack : g.stack = argsL.reverse ++ .ref b :: rest) (hW : 2 * g.monitorRoom + (rest.map fun v => v.category).sum ≤ W9) (hdg : decode c.code g.pc = .ok (.invokevirtual index, 3))
    (hpre : ∀ vm₁, s.WarmedH vm₁ → Pre ⟨T.setVm vm₁, locs, cells, slots⟩ (Value.ref b :: argsL).toArray) :
    (∃ (v : Option Value) (vm₁ : Vm) (B : Pt), s.WarmedH vm₁ ∧ Stand p l e R s m args below meth c B.U B.locs B.cells B.slots ∧ Post ⟨T.setVm vm₁, locs, cells, slots⟩ (Value.ref b :: argsL).toArray v B ∧
      ∀ target, Steps p.tables e below (B.U.setTop { g with pc := g.pc + 3, stack := v.toList ++ rest }) target → Steps p.tables e below (T.setTop g) target) ∨
    (∃ (q : Addr) (vm₁ : Vm) (B : Pt), s.WarmedH vm₁ ∧ Stand p l e R s m args below meth c B.U B.locs B.cells B.slots ∧ PostX ⟨T.setVm vm₁, locs, cells, slots⟩ (Value.ref b :: argsL).toArray q B ∧
      Steps p.tables e below (T.setTop g) ((B.U.setTop { g with stack := rest }).pushFrame (.throwing q))) := by
  obtain ⟨mk, methM, hnamed, hmethM, hstM, habM⟩ := Cond.instanceMethod_spec hinst
  obtain ⟨m8, methM', cM, hn8, hmethM', -, -, -, -, -, -, hsigM⟩ := Cond.codeWith_spec hcode
  cases Option.some.inj (hn8.symm.trans hnamed)
  cases hmethM.symm.trans hmethM'
  obtain ⟨c2, r2, m2, q1, q2, q3, q4, kP, hkP, hkPi⟩ := Cond.selects_spec hsel
  cases hcls.symm.trans q1
  cases (State.methodFound?_of_named hnamed hy).symm.trans q2
  cases hnamed.symm.trans q3
  have hselP : selectMethod e.platform s.vm cellB.cls mk = .method mk := by rw [Launch.admits_selectMethod X.admits]; exact q4
  obtain ⟨vm₁, X₁, hstep₁⟩ := X.invokevirtual hexec hown hlink hnamed hmethM hstM hkP hkPi hy (a := b) (cell := cellB) hcell
    (fun z h => by rw [h] at hobj; cases hobj) hselP hmethM habM hkP hkPi (g := g) hg (argsL := argsL) (rest := rest) (hlen _ hsigM) hstack hdg
  rcases hK m meth c ⟨T.setVm vm₁, locs, cells, slots⟩ { g with stack := rest } (.invokevirtual index) mk (Value.ref b :: argsL).toArray X₁ hg hsize hdg hW (X₁.named hnamed) (hpre vm₁ X₁.warmed) with ⟨v, B, X', hpost, hsteps⟩ | ⟨q, B, X', hpost, hsteps⟩
  · exact Or.inl ⟨v, vm₁, B, X₁.warmed, X', hpost, fun target h => hstep₁ _ fun acts => by rw [doInvoke_state]; exact hsteps.trans h⟩
  · exact Or.inr ⟨q, vm₁, B, X₁.warmed, X', hpost, hstep₁ _ fun acts => by rw [doInvoke_state]; exact hsteps⟩
theorem vx_callSX (X : Stand p l e R s m args below meth c T locs cells slots) (hexec : p.tables.exec = Jvm.exec) {own : String} {index : Nat} {y : MethodName} {bytes : ByteArray} {maxL : Nat} {ret : Option FieldType} {hh : List (Nat × Nat × Nat × Nat)}
    (hown : s.vm.findClass own = some m.cls) (hlink : (Cond.methodLink own index y).before args s = true) (hstat : (Cond.static y).before args s = true) (hinit : (Cond.initialized y.cls).before args s = true)
    (hcode : (Cond.codeWith y bytes maxL ret hh).before args s = true) (hy : y.cls ≠ "java/lang/invoke/MethodHandle" ∧ y.cls ≠ "java/lang/invoke/VarHandle")
    {W9 : Nat} {Pre : Pt → Array Value → Prop} {Post : Pt → Array Value → Option Value → Pt → Prop} {PostX : Pt → Array Value → Addr → Pt → Prop} (hK : vx_Back l R p e below s args y 3 W9 Pre Post PostX)
    {g : JFrame} (hg : g.method = m) (hsize : g.locals.size = c.maxLocals) {argsL rest : List Value} (hlen : ∀ sig, parseMethodDescriptor y.desc = some sig → argsL.length = sig.parameters.length)
    (hstack : g.stack = argsL.reverse ++ rest) (hW : 2 * g.monitorRoom + (rest.map fun v => v.category).sum ≤ W9) (hdg : decode c.code g.pc = .ok (.invokestatic index, 3))
    (hpre : ∀ vm₁, s.WarmedH vm₁ → Pre ⟨T.setVm vm₁, locs, cells, slots⟩ argsL.toArray) :
    (∃ (v : Option Value) (vm₁ : Vm) (B : Pt), s.WarmedH vm₁ ∧ Stand p l e R s m args below meth c B.U B.locs B.cells B.slots ∧ Post ⟨T.setVm vm₁, locs, cells, slots⟩ argsL.toArray v B ∧
      ∀ target, Steps p.tables e below (B.U.setTop { g with pc := g.pc + 3, stack := v.toList ++ rest }) target → Steps p.tables e below (T.setTop g) target) ∨
    (∃ (q : Addr) (vm₁ : Vm) (B : Pt), s.WarmedH vm₁ ∧ Stand p l e R s m args below meth c B.U B.locs B.cells B.slots ∧ PostX ⟨T.setVm vm₁, locs, cells, slots⟩ argsL.toArray q B ∧
      Steps p.tables e below (T.setTop g) ((B.U.setTop { g with stack := rest }).pushFrame (.throwing q))) := by
  obtain ⟨mk, methM, cM, hnamed, hmethM, -, -, -, -, -, -, hsigM⟩ := Cond.codeWith_spec hcode
  have hstatic : methM.isStatic = true := Cond.static_spec hnamed hmethM hstat
  obtain ⟨kP, hkP, -⟩ := className_of_methodNamed hnamed
  have hinitP : kP.init = .initialized := Cond.initialized_spec (findClass_of_methodNamed hnamed) hkP hinit
  obtain ⟨vm₁, X₁, hstep₁⟩ := X.invokestatic hexec hown hlink hnamed hmethM hstatic hkP hinitP hy (g := g) hg (argsL := argsL) (rest := rest) (hlen _ hsigM) hstack hdg
  rcases hK m meth c ⟨T.setVm vm₁, locs, cells, slots⟩ { g with stack := rest } (.invokestatic index) mk argsL.toArray X₁ hg hsize hdg hW (X₁.named hnamed) (hpre vm₁ X₁.warmed) with ⟨v, B, X', hpost, hsteps⟩ | ⟨q, B, X', hpost, hsteps⟩
  · exact Or.inl ⟨v, vm₁, B, X₁.warmed, X', hpost, fun target h => hstep₁ _ fun acts => by rw [doInvoke_state]; exact hsteps.trans h⟩
  · exact Or.inr ⟨q, vm₁, B, X₁.warmed, X', hpost, hstep₁ _ fun acts => by rw [doInvoke_state]; exact hsteps⟩
theorem vx_callVW (X : Stand p l e R s m args below meth c T locs cells slots) (hexec : p.tables.exec = Jvm.exec) {own C : String} {index : Nat} {y : MethodName} {bytes : ByteArray} {maxL : Nat} {ret : Option FieldType} {hh : List (Nat × Nat × Nat × Nat)}
    (hown : s.vm.findClass own = some m.cls) (hlink : (Cond.methodLink own index y).before args s = true) (hinst : (Cond.instanceMethod y).before args s = true) (hsel : (Cond.selects C y y).before args s = true)
    (hcode : (Cond.codeWith y bytes maxL ret hh).before args s = true) (hy : y.cls ≠ "java/lang/invoke/MethodHandle" ∧ y.cls ≠ "java/lang/invoke/VarHandle")
    {W9 : Nat} {Pre : Pt → Array Value → Prop} {Post : Pt → Array Value → Option Value → Pt → Prop} (hK : Back l R p e below s args y 3 W9 Pre Post)
    {b : Addr} {cellB : Cell} (hcell : T.heap[b]? = some cellB) (hobj : cellB.vm.isStatics = false) (hcls : s.vm.findClass C = some cellB.cls)
    {g : JFrame} (hg : g.method = m) (hsize : g.locals.size = c.maxLocals) {argsL rest : List Value} (hlen : ∀ sig, parseMethodDescriptor y.desc = some sig → argsL.length = sig.parameters.length)
    (hstack : g.stack = argsL.reverse ++ .ref b :: rest) (hW : 2 * g.monitorRoom + (rest.map fun v => v.category).sum ≤ W9) (hdg : decode c.code g.pc = .ok (.invokevirtual index, 3))
    (hpre : ∀ vm₁, s.WarmedH vm₁ → Pre ⟨T.setVm vm₁, locs, cells, slots⟩ (Value.ref b :: argsL).toArray) :
    ∃ (v : Option Value) (vm₁ : Vm) (B : Pt), s.WarmedH vm₁ ∧ Stand p l e R s m args below meth c B.U B.locs B.cells B.slots ∧ Post ⟨T.setVm vm₁, locs, cells, slots⟩ (Value.ref b :: argsL).toArray v B ∧
      ∀ target, Steps p.tables e below (B.U.setTop { g with pc := g.pc + 3, stack := v.toList ++ rest }) target → Steps p.tables e below (T.setTop g) target := by
  obtain ⟨mk, methM, hnamed, hmethM, hstM, habM⟩ := Cond.instanceMethod_spec hinst
  obtain ⟨m8, methM', cM, hn8, hmethM', -, -, -, -, -, -, hsigM⟩ := Cond.codeWith_spec hcode
  cases Option.some.inj (hn8.symm.trans hnamed)
  cases hmethM.symm.trans hmethM'
  obtain ⟨c2, r2, m2, q1, q2, q3, q4, kP, hkP, hkPi⟩ := Cond.selects_spec hsel
  cases hcls.symm.trans q1
  cases (State.methodFound?_of_named hnamed hy).symm.trans q2
  cases hnamed.symm.trans q3
  have hselP : selectMethod e.platform s.vm cellB.cls mk = .method mk := by rw [Launch.admits_selectMethod X.admits]; exact q4
  obtain ⟨vm₁, X₁, hstep₁⟩ := X.invokevirtual hexec hown hlink hnamed hmethM hstM hkP hkPi hy (a := b) (cell := cellB) hcell
    (fun z h => by rw [h] at hobj; cases hobj) hselP hmethM habM hkP hkPi (g := g) hg (argsL := argsL) (rest := rest) (hlen _ hsigM) hstack hdg
  obtain ⟨v, B, X', hpost, hsteps⟩ := hK m meth c ⟨T.setVm vm₁, locs, cells, slots⟩ { g with stack := rest } (.invokevirtual index) mk (Value.ref b :: argsL).toArray X₁ hg hsize hdg hW (X₁.named hnamed) (hpre vm₁ X₁.warmed)
  exact ⟨v, vm₁, B, X₁.warmed, X', hpost, fun target h => hstep₁ _ fun acts => by rw [doInvoke_state]; exact hsteps.trans h⟩
abbrev vx_CVW (R : Room) (s : State) (args : Array Value) (own C : String) (index : Nat) (y : MethodName) (bytes : ByteArray) (maxL : Nat) (ret : Option FieldType) (hh : List (Nat × Nat × Nat × Nat)) (ws : List Cond) (rm : Room) (mc ms n : Nat) : Prop :=
  (rm.cells = mc ∧ rm.slots = ms ∧ rm.frames + 1 ≤ R.frames ∧ 8 + (maxL + 11) + rm.locals ≤ R.locals ∧ (∀ w ∈ ws, ∀ (a' : Array Value) (U : State), s.WarmedH U.vm → w.before a' U = true) ∧ Cond.codeWith y bytes maxL ret hh ∈ ws) ∧
  (Cond.codeWith y bytes maxL ret hh).before args s = true ∧ (Cond.initialized y.cls).before args s = true ∧ (y.cls ≠ "java/lang/invoke/MethodHandle" ∧ y.cls ≠ "java/lang/invoke/VarHandle") ∧
  (∀ sig, parseMethodDescriptor y.desc = some sig → n = sig.parameters.length) ∧ (Cond.methodLink own index y).before args s = true ∧ (Cond.instanceMethod y).before args s = true ∧ (Cond.selects C y y).before args s = true
theorem vx_cwVW {own C : String} {index maxL mc ms : Nat} {y : MethodName} {bytes : ByteArray} {ret : Option FieldType} {hh : List (Nat × Nat × Nat × Nat)} {Ts ws ws' : List Cond} {rm : Room} (n : Nat) (ht : ∀ w ∈ Ts, w.before args s = true) (hT : GoodIn Ts (wsV own index C y ws)) (hw : ws = Cond.codeWith y bytes maxL ret hh :: ws') (hrc : rm.cells = mc) (hrs : rm.slots = ms)
    (hd : y.cls = C ∧ y.cls ≠ "java/lang/invoke/MethodHandle" ∧ y.cls ≠ "java/lang/invoke/VarHandle" ∧ (parseMethodDescriptor y.desc).map (fun d => d.parameters.length) = some n) (hR : rm.frames + 1 ≤ R.frames ∧ 8 + (maxL + 11) + rm.locals ≤ R.locals) :
    vx_CVW R s args own C index y bytes maxL ret hh ws rm mc ms n := by
  obtain ⟨hC, hd⟩ := hd
  subst hC
  have ok : ∀ w ∈ wsV own index y.cls y ws, w.before args s = true := fun w h => ht w (hT w h).1
  have hG : GoodIn Ts ws := fun w h => hT w (by unfold wsV; exact List.mem_append_right _ h)
  have hc : Cond.codeWith y bytes maxL ret hh ∈ ws := by rw [hw]; exact List.mem_cons_self
  refine ⟨⟨hrc, hrs, hR.1, hR.2, pay_in ht hG, hc⟩, ht _ (hG _ hc).1, ok _ (by simp [wsV]), ⟨hd.1, hd.2.1⟩, fun sig h => ?_, ok _ (by simp [wsV]), ok _ (by simp [wsV]), ok _ (by simp [wsV])⟩
  have h2 := hd.2.2
  rw [h] at h2
  exact (Option.some.inj h2).symm
theorem vx_runVW {y : MethodName} {bytes cc : ByteArray} {maxL nL mc ms n index : Nat} {ret : Option FieldType} {hh : List (Nat × Nat × Nat × Nat)} {ws : List Cond} {rm : Room} {Pc : Array Value → State → Prop} {Qc : Array Value → State → Outcome → State → Prop} {free : Addr → Prop} {Ts : List Cond} {own C : String} {b : Addr} {As rest : List Value} {g : JFrame}
    (S : CallFix p m c cc nL s args Ts own) (hM : Met l y ws rm Pc Qc mc ms free) (cw : vx_CVW R s args own C index y bytes maxL ret hh ws rm mc ms n) (hp : PreV s H C b Pc As)
    (hg : g.method = m) (hn : As.length = n) (hsize : g.locals.size = nL) (hstack : g.stack = As.reverse ++ .ref b :: rest) (hW : 2 * g.monitorRoom + (rest.map fun v => v.category).sum ≤ 8) (hdg : decode cc g.pc = .ok (.invokevirtual index, 3)) (hf : cells + mc ≤ R.cells ∧ slots + ms ≤ R.slots) :
    va_Run p l e R s m args below meth c H locs cells slots mc ms g rest (Qc (Value.ref b :: As).toArray) free := by
  obtain ⟨⟨hrc, hrs, hfr, hlo, hws, hcw⟩, hcode, hini, hy, hlen, hl, hin, hse⟩ := cw
  have hK : Back l R p e below s args y 3 8 (PreOf R mc ms Pc) (PostOf Qc mc ms free) := va_backW (hh := hh) (bytes := bytes) (maxL := maxL) (ret := ret) hM hp.1 hrc hrs hfr hlo hws hcw (fun a' U hW => word_at hW (Or.inl (by first | rfl | simp [Cond.onTables, Cond.keeps, Cond.steady])) hini)
  obtain ⟨hx, hb, hml, ho, -⟩ := S
  obtain ⟨-, ⟨cellB, hcB, hoB, hclB⟩, hPc⟩ := hp
  intro T hT X
  obtain ⟨v, vm₁, ⟨U', l2, c2, s2⟩, hW₁, X', ⟨g', mk, t, L, e1, e2, hq, h1, hL, h2, h3⟩, st⟩ := vx_callVW X hx (C := C) (hh := hh) (bytes := bytes) (maxL := maxL) (ret := ret) ho hl hin hse hcode hy hK (by rw [hT]; exact hcB) hoB hclB hg (hsize.trans hml.symm) (argsL := As) (rest := rest) (fun sig h => hn.trans (hlen sig h)) hstack hW (by rw [hb]; exact hdg)
    (fun vm₁ hW₁ => ⟨hf.1, hf.2, hPc (T.setVm vm₁) hT hW₁⟩)
  dsimp only [Pt.U, Pt.locs, Pt.cells, Pt.slots] at X' e1 e2 h1 h2 h3 st
  subst h1; subst h2; subst h3
  exact ⟨v, (T.setVm vm₁).calling g' mk (Value.ref b :: As).toArray, t, U', L, hT, X', hL, e1, e2, hq, st⟩
section
variable {y : MethodName} {bytes cc : ByteArray} {maxL nL mc ms n index : Nat} {ret : Option FieldType} {ws : List Cond} {rm : Room} {Pc : Array Value → State → Prop} {Qc : Array Value → State → Outcome → State → Prop} {XC : String → State → State → Prop} {free : Addr → Prop} {Ts : List Cond} {own C : String} {b : Addr} {As rest : List Value} {g : JFrame}
theorem vx_runVX {hh : List (Nat × Nat × Nat × Nat)} (S : CallFix p m c cc nL s args Ts own) (hM : vx_Met l y ws rm Pc Qc XC mc ms free) (cw : vx_CVW R s args own C index y bytes maxL ret hh ws rm mc ms n) (hp : PreV s H C b Pc As)
    (hg : g.method = m) (hn : As.length = n) (hsize : g.locals.size = nL) (hstack : g.stack = As.reverse ++ .ref b :: rest) (hW : 2 * g.monitorRoom + (rest.map fun v => v.category).sum ≤ 8) (hdg : decode cc g.pc = .ok (.invokevirtual index, 3)) (hf : cells + mc ≤ R.cells ∧ slots + ms ≤ R.slots) :
    vx_Run p l e R s m args below meth c H locs cells slots mc ms g rest (Qc (Value.ref b :: As).toArray) XC free := by
  obtain ⟨⟨hrc, hrs, hfr, hlo, hws, hcw⟩, hcode, hini, hy, hlen, hl, hin, hse⟩ := cw
  have hK : vx_Back l R p e below s args y 3 8 (PreOf R mc ms Pc) (PostOf Qc mc ms free) (vx_Post XC mc ms free) := vx_backW (hh := hh) (bytes := bytes) (maxL := maxL) (ret := ret) hM hp.1 hrc hrs hfr hlo hws hcw (fun a' U hW => word_at hW (Or.inl (by first | rfl | simp [Cond.onTables, Cond.keeps, Cond.steady])) hini)
  obtain ⟨hx, hb, hml, ho, -⟩ := S
  obtain ⟨-, ⟨cellB, hcB, hoB, hclB⟩, hPc⟩ := hp
  intro T hT X
  rcases vx_callVX X hx (C := C) (hh := hh) (bytes := bytes) (maxL := maxL) (ret := ret) ho hl hin hse hcode hy hK (by rw [hT]; exact hcB) hoB hclB hg (hsize.trans hml.symm) (argsL := As) (rest := rest) (fun sig h => hn.trans (hlen sig h)) hstack hW (by rw [hb]; exact hdg)
    (fun vm₁ hW₁ => ⟨hf.1, hf.2, hPc (T.setVm vm₁) hT hW₁⟩) with ⟨v, vm₁, ⟨U', l2, c2, s2⟩, hW₁, X', ⟨g', mk, t, L, e1, e2, hq, h1, hL, h2, h3⟩, st⟩ | ⟨q, vm₁, ⟨U', l2, c2, s2⟩, hW₁, X', ⟨g', mk, t, L, E, ce, e1, e2, hq, hce, hcv, hcl, h1, hL, h2, h3⟩, st⟩
  · dsimp only [Pt.U, Pt.locs, Pt.cells, Pt.slots] at X' e1 e2 h1 h2 h3 st
    subst h1; subst h2; subst h3
    exact Or.inl ⟨v, (T.setVm vm₁).calling g' mk (Value.ref b :: As).toArray, t, U', L, hT, X', hL, e1, e2, hq, st⟩
  · dsimp only [Pt.U, Pt.locs, Pt.cells, Pt.slots] at X' e1 e2 h1 h2 h3 st hcl
    subst h1; subst h2; subst h3
    exact Or.inr ⟨q, (T.setVm vm₁).calling g' mk (Value.ref b :: As).toArray, t, U', L, E, ce, hT, X', hL, e1, e2, hq, hce, hcv, vx_cls hW₁ hcl, st⟩
theorem vx_runSX {hh : List (Nat × Nat × Nat × Nat)} (S : CallFix p m c cc nL s args Ts own) (hM : vx_Met l y ws rm Pc Qc XC mc ms free) (cw : vx_CSW R s args own index y bytes maxL ret hh ws rm mc ms n) (hp : PreS s H Pc As)
    (hg : g.method = m) (hn : As.length = n) (hsize : g.locals.size = nL) (hstack : g.stack = As.reverse ++ rest) (hW : 2 * g.monitorRoom + (rest.map fun v => v.category).sum ≤ 8) (hdg : decode cc g.pc = .ok (.invokestatic index, 3)) (hf : cells + mc ≤ R.cells ∧ slots + ms ≤ R.slots) :
    vx_Run p l e R s m args below meth c H locs cells slots mc ms g rest (Qc As.toArray) XC free := by
  obtain ⟨⟨hrc, hrs, hfr, hlo, hws, hcw⟩, hcode, hini, hy, hlen, hl, hstt⟩ := cw
  have hK : vx_Back l R p e below s args y 3 8 (PreOf R mc ms Pc) (PostOf Qc mc ms free) (vx_Post XC mc ms free) := vx_backW (hh := hh) (bytes := bytes) (maxL := maxL) (ret := ret) hM hp.1 hrc hrs hfr hlo hws hcw (fun a' U hW => word_at hW (Or.inl (by first | rfl | simp [Cond.onTables, Cond.keeps, Cond.steady])) hini)
  obtain ⟨hx, hb, hml, ho, -⟩ := S
  intro T hT X
  rcases vx_callSX X hx (hh := hh) (bytes := bytes) (maxL := maxL) (ret := ret) ho hl hstt hini hcode hy hK hg (hsize.trans hml.symm) (argsL := As) (rest := rest) (fun sig h => hn.trans (hlen sig h)) hstack hW (by rw [hb]; exact hdg)
    (fun vm₁ hW₁ => ⟨hf.1, hf.2, hp.2 (T.setVm vm₁) hT hW₁⟩) with ⟨v, vm₁, ⟨U', l2, c2, s2⟩, hW₁, X', ⟨g', mk, t, L, e1, e2, hq, h1, hL, h2, h3⟩, st⟩ | ⟨q, vm₁, ⟨U', l2, c2, s2⟩, hW₁, X', ⟨g', mk, t, L, E, ce, e1, e2, hq, hce, hcv, hcl, h1, hL, h2, h3⟩, st⟩
  · dsimp only [Pt.U, Pt.locs, Pt.cells, Pt.slots] at X' e1 e2 h1 h2 h3 st
    subst h1; subst h2; subst h3
    exact Or.inl ⟨v, (T.setVm vm₁).calling g' mk As.toArray, t, U', L, hT, X', hL, e1, e2, hq, st⟩
  · dsimp only [Pt.U, Pt.locs, Pt.cells, Pt.slots] at X' e1 e2 h1 h2 h3 st hcl
    subst h1; subst h2; subst h3
    exact Or.inr ⟨q, (T.setVm vm₁).calling g' mk As.toArray, t, U', L, E, ce, hT, X', hL, e1, e2, hq, hce, hcv, vx_cls hW₁ hcl, st⟩
end
end VXH
theorem vx_ofWH {l : Launch} {y : MethodName} {ws ws' : List Cond} {rm : Room} {Pc : Array Value → State → Prop} {Qc : Array Value → State → Outcome → State → Prop} {XC : String → State → State → Prop} {mc ms : Nat} {free : Addr → Prop} {cc : ByteArray} {maxL : Nat} {ret : Option FieldType} {hh : List (Nat × Nat × Nat × Nat)}
    (hy : plainName y.cls = true) (hw : ws = Cond.codeWith y cc maxL ret hh :: ws')
    (body : ∀ p e s m args below meth c s₁, BodyLoose p l y (headSpec ws rm) cc maxL ret e s m args below meth c s₁ → c.maxLocals = maxL → Pc args s →
      W p l e (headSpec ws rm).room s m args below meth c s.heap [] 0 0 (vx_MQ below Qc XC args s mc ms free) (entryFrame m args maxL)) : vx_Met l y ws rm Pc Qc XC mc ms free := by
  refine MetFree.of_bodyS (code := cc) (maxLocals := maxL) (ret := ret) hy ?_ ?_
  · intro args s m h hn
    obtain ⟨m9, meth, c, hn9, h1, h2, h3, h4, -, h5, h6, -⟩ := Cond.codeWith_spec (atoms_spec (ws := ws) h _ (by rw [hw]; exact List.mem_cons_self))
    cases hn.symm.trans hn9
    exact ⟨meth, c, h1, h2, h3, h4, h5, h6⟩
  · intro p e s m args below meth c s₁ B hml hP _
    have hh0 : s₁.heap = s.heap := by rw [B.state]; rfl
    obtain ⟨t, a1, o, b1, b2, b3⟩ := body p e s m args below meth c s₁ B hml hP s₁ hh0 (Stand.of_body B)
    exact ⟨t, o, a1, b1, b2, b3⟩
/-! ===== END ===== -/
end
section
/-! ===== BEGIN printed: names, fields, word lists, decode rows ===== -/
def RX0 : String := "CupDraw$Bowl"
def TX0 : u_T := fun k => match k with
  | 0 => ("CupDraw$Bowl", "groups", "I", false)
  | 1 => ("CupDraw$Bowl", "pots", "I", false)
  | 2 => ("CupDraw$Bowl", "teams", "I", false)
  | 3 => ("CupDraw$Bowl", "regions", "[I", true)
  | 4 => ("CupDraw$Bowl", "bounds", "[I", true)
  | 5 => ("CupDraw$Bowl", "apart", "[I", true)
  | 6 => ("CupDraw$Bowl", "otherDays", "[I", true)
  | 7 => ("CupDraw$Bowl", "potMates", "[I", true)
  | _ => ("CupDraw$Bowl", "members", "[I", true)
def tyX0 : Nat → FieldType := fun k => match k with
  | 0 => .int
  | 1 => .int
  | 2 => .int
  | 3 => .array .int
  | 4 => .array .int
  | 5 => .array .int
  | 6 => .array .int
  | 7 => .array .int
  | _ => .array .int
abbrev wsX00 : List Cond := u_ws RX0 TX0 9
theorem nmX0 : ∀ a, a < 9 → ∀ b, b < 9 → a ≠ b → (TX0 a).2.1 ≠ (TX0 b).2.1 := by decide +kernel
theorem tyX0_ok : ∀ k, k < 9 → parseFieldDescriptor (TX0 k).2.2.1 = some (tyX0 k) := by decide +kernel
abbrev cX0_init : ByteArray := prog_2_method_1_code
def yX0_init : MethodName := ⟨RX0, "<init>", "()V"⟩
abbrev cX0_reset : ByteArray := prog_2_method_2_code
def yX0_reset : MethodName := ⟨RX0, "reset", "(II)V"⟩
abbrev cX0_resetPot : ByteArray := prog_2_method_3_code
def yX0_resetPot : MethodName := ⟨RX0, "resetPot", "(I)V"⟩
abbrev cX0_hasTeam : ByteArray := prog_2_method_4_code
def yX0_hasTeam : MethodName := ⟨RX0, "hasTeam", "(I)Z"⟩
abbrev cX0_hasRegion : ByteArray := prog_2_method_5_code
def yX0_hasRegion : MethodName := ⟨RX0, "hasRegion", "(I)Z"⟩
abbrev cX0_hasGroup : ByteArray := prog_2_method_6_code
def yX0_hasGroup : MethodName := ⟨RX0, "hasGroup", "(I)Z"⟩
abbrev cX0_hasPot : ByteArray := prog_2_method_7_code
def yX0_hasPot : MethodName := ⟨RX0, "hasPot", "(I)Z"⟩
abbrev cX0_setPair : ByteArray := prog_2_method_8_code
def yX0_setPair : MethodName := ⟨RX0, "setPair", "([IIIZ)Z"⟩
abbrev cX0_addLawful : ByteArray := prog_2_method_9_code
def yX0_addLawful : MethodName := ⟨RX0, "addLawful", "(LCupDraw$ResultList;)V"⟩
abbrev cX0_placeFrom : ByteArray := prog_2_method_10_code
def yX0_placeFrom : MethodName := ⟨RX0, "placeFrom", "(IILCupDraw$ResultList;)V"⟩
abbrev cX0_placeIn : ByteArray := prog_2_method_11_code
def yX0_placeIn : MethodName := ⟨RX0, "placeIn", "(IIILCupDraw$ResultList;)V"⟩
abbrev cX0_admits : ByteArray := prog_2_method_12_code
def yX0_admits : MethodName := ⟨RX0, "admits", "(II)Z"⟩
abbrev cX0_playersOnDay : ByteArray := prog_2_method_13_code
def yX0_playersOnDay : MethodName := ⟨RX0, "playersOnDay", "(I)I"⟩
abbrev cX0_countOfRegion : ByteArray := prog_2_method_14_code
def yX0_countOfRegion : MethodName := ⟨RX0, "countOfRegion", "(II)I"⟩
def RX1 : String := "CupDraw$ResultList"
def TX1 : u_T := fun k => match k with
  | 0 => ("CupDraw$ResultList", "items", "[I", true)
  | _ => ("CupDraw$ResultList", "size", "I", false)
def tyX1 : Nat → FieldType := fun k => match k with
  | 0 => .array .int
  | _ => .int
abbrev wsX10 : List Cond := u_ws RX1 TX1 2
theorem nmX1 : ∀ a, a < 2 → ∀ b, b < 2 → a ≠ b → (TX1 a).2.1 ≠ (TX1 b).2.1 := by decide +kernel
theorem tyX1_ok : ∀ k, k < 2 → parseFieldDescriptor (TX1 k).2.2.1 = some (tyX1 k) := by decide +kernel
abbrev cX1_init : ByteArray := prog_3_method_1_code
def yX1_init : MethodName := ⟨RX1, "<init>", "()V"⟩
abbrev cX1_with : ByteArray := prog_3_method_2_code
def yX1_with : MethodName := ⟨RX1, "with", "(III)I"⟩
abbrev cX1_groupIn : ByteArray := prog_3_method_3_code
def yX1_groupIn : MethodName := ⟨RX1, "groupIn", "(II)I"⟩
abbrev cX1_clear : ByteArray := prog_3_method_4_code
def yX1_clear : MethodName := ⟨RX1, "clear", "()V"⟩
abbrev cX1_add : ByteArray := prog_3_method_5_code
def yX1_add : MethodName := ⟨RX1, "add", "(I)V"⟩
abbrev cX1_first : ByteArray := prog_3_method_6_code
def yX1_first : MethodName := ⟨RX1, "first", "()I"⟩
abbrev cX1_countInGroup : ByteArray := prog_3_method_7_code
def yX1_countInGroup : MethodName := ⟨RX1, "countInGroup", "(II)I"⟩
abbrev cX1_countTogether : ByteArray := prog_3_method_8_code
def yX1_countTogether : MethodName := ⟨RX1, "countTogether", "(II)I"⟩
abbrev cX1_lowestGroup : ByteArray := prog_3_method_9_code
def yX1_lowestGroup : MethodName := ⟨RX1, "lowestGroup", "(I)I"⟩
abbrev cX1_narrow : ByteArray := prog_3_method_10_code
def yX1_narrow : MethodName := ⟨RX1, "narrow", "(II)V"⟩
abbrev cX1_widen : ByteArray := prog_3_method_11_code
def yX1_widen : MethodName := ⟨RX1, "widen", "(I)V"⟩
def RX2 : String := "CupDraw"
def TX2 : u_T := fun k => match k with
  | 0 => ("CupDraw", "bowl", "LCupDraw$Bowl;", true)
  | 1 => ("CupDraw", "openList", "LCupDraw$ResultList;", true)
  | 2 => ("CupDraw", "isOpenListFresh", "Z", false)
  | 3 => ("CupDraw", "endList", "LCupDraw$ResultList;", true)
  | 4 => ("CupDraw", "isEndListFresh", "Z", false)
  | 5 => ("CupDraw", "seats", "[I", true)
  | 6 => ("CupDraw", "drawnTeams", "[I", true)
  | 7 => ("CupDraw", "openBefore", "[I", true)
  | _ => ("CupDraw", "drawnCount", "I", false)
def tyX2 : Nat → FieldType := fun k => match k with
  | 0 => .object "CupDraw$Bowl"
  | 1 => .object "CupDraw$ResultList"
  | 2 => .boolean
  | 3 => .object "CupDraw$ResultList"
  | 4 => .boolean
  | 5 => .array .int
  | 6 => .array .int
  | 7 => .array .int
  | _ => .int
abbrev wsX20 : List Cond := u_ws RX2 TX2 9
theorem nmX2 : ∀ a, a < 9 → ∀ b, b < 9 → a ≠ b → (TX2 a).2.1 ≠ (TX2 b).2.1 := by decide +kernel
theorem tyX2_ok : ∀ k, k < 9 → parseFieldDescriptor (TX2 k).2.2.1 = some (tyX2 k) := by decide +kernel
abbrev cX2_init : ByteArray := prog_1_method_1_code
def yX2_init : MethodName := ⟨RX2, "<init>", "()V"⟩
abbrev cX2_lay : ByteArray := prog_1_method_2_code
def yX2_lay : MethodName := ⟨RX2, "lay", "(II)I"⟩
abbrev cX2_setRegion : ByteArray := prog_1_method_3_code
def yX2_setRegion : MethodName := ⟨RX2, "setRegion", "(II)I"⟩
abbrev cX2_setBound : ByteArray := prog_1_method_4_code
def yX2_setBound : MethodName := ⟨RX2, "setBound", "(II)I"⟩
abbrev cX2_setApart : ByteArray := prog_1_method_5_code
def yX2_setApart : MethodName := ⟨RX2, "setApart", "(IIZ)Z"⟩
abbrev cX2_setOtherDays : ByteArray := prog_1_method_6_code
def yX2_setOtherDays : MethodName := ⟨RX2, "setOtherDays", "(IIZ)Z"⟩
abbrev cX2_draw : ByteArray := prog_1_method_7_code
def yX2_draw : MethodName := ⟨RX2, "draw", "(I)I"⟩
abbrev cX2_undo : ByteArray := prog_1_method_8_code
def yX2_undo : MethodName := ⟨RX2, "undo", "()I"⟩
abbrev cX2_drawn : ByteArray := prog_1_method_9_code
def yX2_drawn : MethodName := ⟨RX2, "drawn", "()I"⟩
abbrev cX2_pot : ByteArray := prog_1_method_10_code
def yX2_pot : MethodName := ⟨RX2, "pot", "()I"⟩
abbrev cX2_left : ByteArray := prog_1_method_11_code
def yX2_left : MethodName := ⟨RX2, "left", "()I"⟩
abbrev cX2_ballAt : ByteArray := prog_1_method_12_code
def yX2_ballAt : MethodName := ⟨RX2, "ballAt", "(I)I"⟩
abbrev cX2_groupOf : ByteArray := prog_1_method_13_code
def yX2_groupOf : MethodName := ⟨RX2, "groupOf", "(I)I"⟩
abbrev cX2_teamAt : ByteArray := prog_1_method_14_code
def yX2_teamAt : MethodName := ⟨RX2, "teamAt", "(II)I"⟩
abbrev cX2_results : ByteArray := prog_1_method_15_code
def yX2_results : MethodName := ⟨RX2, "results", "()I"⟩
abbrev cX2_fits : ByteArray := prog_1_method_16_code
def yX2_fits : MethodName := ⟨RX2, "fits", "(II)Z"⟩
abbrev cX2_forced : ByteArray := prog_1_method_17_code
def yX2_forced : MethodName := ⟨RX2, "forced", "(I)I"⟩
abbrev cX2_evenly : ByteArray := prog_1_method_18_code
def yX2_evenly : MethodName := ⟨RX2, "evenly", "(II)I"⟩
abbrev cX2_orders : ByteArray := prog_1_method_19_code
def yX2_orders : MethodName := ⟨RX2, "orders", "()I"⟩
abbrev cX2_chances : ByteArray := prog_1_method_20_code
def yX2_chances : MethodName := ⟨RX2, "chances", "(II)I"⟩
abbrev cX2_pairings : ByteArray := prog_1_method_21_code
def yX2_pairings : MethodName := ⟨RX2, "pairings", "(II)I"⟩
abbrev cX2_requireTeam : ByteArray := prog_1_method_22_code
def yX2_requireTeam : MethodName := ⟨RX2, "requireTeam", "(I)V"⟩
abbrev cX2_requireTeamAndGroup : ByteArray := prog_1_method_23_code
def yX2_requireTeamAndGroup : MethodName := ⟨RX2, "requireTeamAndGroup", "(II)V"⟩
abbrev cX2_requireTwoTeams : ByteArray := prog_1_method_24_code
def yX2_requireTwoTeams : MethodName := ⟨RX2, "requireTwoTeams", "(II)V"⟩
abbrev cX2_requireNothingDrawn : ByteArray := prog_1_method_25_code
def yX2_requireNothingDrawn : MethodName := ⟨RX2, "requireNothingDrawn", "()V"⟩
abbrev cX2_startWith : ByteArray := prog_1_method_26_code
def yX2_startWith : MethodName := ⟨RX2, "startWith", "(II)V"⟩
abbrev cX2_countLeft : ByteArray := prog_1_method_27_code
def yX2_countLeft : MethodName := ⟨RX2, "countLeft", "(I)I"⟩
abbrev cX2_findBall : ByteArray := prog_1_method_28_code
def yX2_findBall : MethodName := ⟨RX2, "findBall", "(I)I"⟩
abbrev cX2_seat : ByteArray := prog_1_method_29_code
def yX2_seat : MethodName := ⟨RX2, "seat", "(I)V"⟩
abbrev cX2_unseat : ByteArray := prog_1_method_30_code
def yX2_unseat : MethodName := ⟨RX2, "unseat", "()I"⟩
abbrev cX2_factorial : ByteArray := prog_1_method_31_code
def yX2_factorial : MethodName := ⟨RX2, "factorial", "(I)I"⟩
abbrev cX2_forgetResults : ByteArray := prog_1_method_32_code
def yX2_forgetResults : MethodName := ⟨RX2, "forgetResults", "()V"⟩
abbrev cX2_openResults : ByteArray := prog_1_method_33_code
def yX2_openResults : MethodName := ⟨RX2, "openResults", "()LCupDraw$ResultList;"⟩
abbrev cX2_endResults : ByteArray := prog_1_method_34_code
def yX2_endResults : MethodName := ⟨RX2, "endResults", "()LCupDraw$ResultList;"⟩
abbrev cX2_followOrders : ByteArray := prog_1_method_35_code
def yX2_followOrders : MethodName := ⟨RX2, "followOrders", "(I)V"⟩
abbrev cX2_followBall : ByteArray := prog_1_method_36_code
def yX2_followBall : MethodName := ⟨RX2, "followBall", "(II)V"⟩
def RX3 : String := "CupDrawModel"
def TX3 : u_T := fun k => match k with
  | 0 => ("CupDrawModel", "groupMany", "I", false)
  | 1 => ("CupDrawModel", "potMany", "I", false)
  | 2 => ("CupDrawModel", "regions", "[I", true)
  | 3 => ("CupDrawModel", "bounds", "[I", true)
  | 4 => ("CupDrawModel", "isApart", "[Z", true)
  | 5 => ("CupDrawModel", "isOther", "[Z", true)
  | 6 => ("CupDrawModel", "drawnMany", "I", false)
  | 7 => ("CupDrawModel", "drawnTeams", "[I", true)
  | 8 => ("CupDrawModel", "places", "[I", true)
  | 9 => ("CupDrawModel", "thrown", "I", false)
  | 10 => ("CupDrawModel", "resultMany", "I", false)
  | 11 => ("CupDrawModel", "results", "[I", true)
  | 12 => ("CupDrawModel", "row", "[I", true)
  | 13 => ("CupDrawModel", "isUsed", "[Z", true)
  | 14 => ("CupDrawModel", "isLeft", "[Z", true)
  | 15 => ("CupDrawModel", "ends", "[I", true)
  | _ => ("CupDrawModel", "balls", "[I", true)
def tyX3 : Nat → FieldType := fun k => match k with
  | 0 => .int
  | 1 => .int
  | 2 => .array .int
  | 3 => .array .int
  | 4 => .array .boolean
  | 5 => .array .boolean
  | 6 => .int
  | 7 => .array .int
  | 8 => .array .int
  | 9 => .int
  | 10 => .int
  | 11 => .array .int
  | 12 => .array .int
  | 13 => .array .boolean
  | 14 => .array .boolean
  | 15 => .array .int
  | _ => .array .int
abbrev wsX30 : List Cond := u_ws RX3 TX3 17
theorem nmX3 : ∀ a, a < 17 → ∀ b, b < 17 → a ≠ b → (TX3 a).2.1 ≠ (TX3 b).2.1 := by decide +kernel
theorem tyX3_ok : ∀ k, k < 17 → parseFieldDescriptor (TX3 k).2.2.1 = some (tyX3 k) := by decide +kernel
abbrev cX3_init : ByteArray := prog_5_method_1_code
def yX3_init : MethodName := ⟨RX3, "<init>", "()V"⟩
abbrev cX3_thrown : ByteArray := prog_5_method_2_code
def yX3_thrown : MethodName := ⟨RX3, "thrown", "()I"⟩
abbrev cX3_in : ByteArray := prog_5_method_3_code
def yX3_in : MethodName := ⟨RX3, "in", "(III)Z"⟩
abbrev cX3_begin : ByteArray := prog_5_method_4_code
def yX3_begin : MethodName := ⟨RX3, "begin", "(II)V"⟩
abbrev cX3_teamMany : ByteArray := prog_5_method_5_code
def yX3_teamMany : MethodName := ⟨RX3, "teamMany", "()I"⟩
abbrev cX3_isTeam : ByteArray := prog_5_method_6_code
def yX3_isTeam : MethodName := ⟨RX3, "isTeam", "(I)Z"⟩
abbrev cX3_isGroup : ByteArray := prog_5_method_7_code
def yX3_isGroup : MethodName := ⟨RX3, "isGroup", "(I)Z"⟩
abbrev cX3_factorial : ByteArray := prog_5_method_8_code
def yX3_factorial : MethodName := ⟨RX3, "factorial", "(I)I"⟩
abbrev cX3_lay : ByteArray := prog_5_method_9_code
def yX3_lay : MethodName := ⟨RX3, "lay", "(II)I"⟩
abbrev cX3_setRegion : ByteArray := prog_5_method_10_code
def yX3_setRegion : MethodName := ⟨RX3, "setRegion", "(II)I"⟩
abbrev cX3_setBound : ByteArray := prog_5_method_11_code
def yX3_setBound : MethodName := ⟨RX3, "setBound", "(II)I"⟩
abbrev cX3_canPair : ByteArray := prog_5_method_12_code
def yX3_canPair : MethodName := ⟨RX3, "canPair", "(II)Z"⟩
abbrev cX3_setApart : ByteArray := prog_5_method_13_code
def yX3_setApart : MethodName := ⟨RX3, "setApart", "(IIZ)Z"⟩
abbrev cX3_setOtherDays : ByteArray := prog_5_method_14_code
def yX3_setOtherDays : MethodName := ⟨RX3, "setOtherDays", "(IIZ)Z"⟩
abbrev cX3_layOrder : ByteArray := prog_5_method_15_code
def yX3_layOrder : MethodName := ⟨RX3, "layOrder", "(III)V"⟩
abbrev cX3_isLawful : ByteArray := prog_5_method_16_code
def yX3_isLawful : MethodName := ⟨RX3, "isLawful", "()Z"⟩
abbrev cX3_layResults : ByteArray := prog_5_method_17_code
def yX3_layResults : MethodName := ⟨RX3, "layResults", "()V"⟩
abbrev cX3_countIn : ByteArray := prog_5_method_18_code
def yX3_countIn : MethodName := ⟨RX3, "countIn", "(II)I"⟩
abbrev cX3_lowestFor : ByteArray := prog_5_method_19_code
def yX3_lowestFor : MethodName := ⟨RX3, "lowestFor", "(I)I"⟩
abbrev cX3_potNow : ByteArray := prog_5_method_20_code
def yX3_potNow : MethodName := ⟨RX3, "potNow", "()I"⟩
abbrev cX3_leftNow : ByteArray := prog_5_method_21_code
def yX3_leftNow : MethodName := ⟨RX3, "leftNow", "()I"⟩
abbrev cX3_ball : ByteArray := prog_5_method_22_code
def yX3_ball : MethodName := ⟨RX3, "ball", "(II)I"⟩
abbrev cX3_draw : ByteArray := prog_5_method_23_code
def yX3_draw : MethodName := ⟨RX3, "draw", "(I)I"⟩
abbrev cX3_undo : ByteArray := prog_5_method_24_code
def yX3_undo : MethodName := ⟨RX3, "undo", "()I"⟩
abbrev cX3_drawn : ByteArray := prog_5_method_25_code
def yX3_drawn : MethodName := ⟨RX3, "drawn", "()I"⟩
abbrev cX3_pot : ByteArray := prog_5_method_26_code
def yX3_pot : MethodName := ⟨RX3, "pot", "()I"⟩
abbrev cX3_left : ByteArray := prog_5_method_27_code
def yX3_left : MethodName := ⟨RX3, "left", "()I"⟩
abbrev cX3_ballAt : ByteArray := prog_5_method_28_code
def yX3_ballAt : MethodName := ⟨RX3, "ballAt", "(I)I"⟩
abbrev cX3_groupOf : ByteArray := prog_5_method_29_code
def yX3_groupOf : MethodName := ⟨RX3, "groupOf", "(I)I"⟩
abbrev cX3_teamAt : ByteArray := prog_5_method_30_code
def yX3_teamAt : MethodName := ⟨RX3, "teamAt", "(II)I"⟩
abbrev cX3_results : ByteArray := prog_5_method_31_code
def yX3_results : MethodName := ⟨RX3, "results", "()I"⟩
abbrev cX3_isPlace : ByteArray := prog_5_method_32_code
def yX3_isPlace : MethodName := ⟨RX3, "isPlace", "(II)Z"⟩
abbrev cX3_fits : ByteArray := prog_5_method_33_code
def yX3_fits : MethodName := ⟨RX3, "fits", "(II)Z"⟩
abbrev cX3_forced : ByteArray := prog_5_method_34_code
def yX3_forced : MethodName := ⟨RX3, "forced", "(I)I"⟩
abbrev cX3_evenly : ByteArray := prog_5_method_35_code
def yX3_evenly : MethodName := ⟨RX3, "evenly", "(II)I"⟩
abbrev cX3_orderMany : ByteArray := prog_5_method_36_code
def yX3_orderMany : MethodName := ⟨RX3, "orderMany", "()I"⟩
abbrev cX3_orders : ByteArray := prog_5_method_37_code
def yX3_orders : MethodName := ⟨RX3, "orders", "()I"⟩
abbrev cX3_lowestLeft : ByteArray := prog_5_method_38_code
def yX3_lowestLeft : MethodName := ⟨RX3, "lowestLeft", "(I)I"⟩
abbrev cX3_follow : ByteArray := prog_5_method_39_code
def yX3_follow : MethodName := ⟨RX3, "follow", "(I)V"⟩
abbrev cX3_chances : ByteArray := prog_5_method_40_code
def yX3_chances : MethodName := ⟨RX3, "chances", "(II)I"⟩
abbrev cX3_pairings : ByteArray := prog_5_method_41_code
def yX3_pairings : MethodName := ⟨RX3, "pairings", "(II)I"⟩
def RJ0 : String := "java/lang/String"
def TJ0 : u_T := fun k => match k with
  | _ => ("", "", "", false)
def tyJ0 : Nat → FieldType := fun k => match k with
  | _ => .int
abbrev wsJ00 : List Cond := u_ws RJ0 TJ0 0
theorem nmJ0 : ∀ a, a < 0 → ∀ b, b < 0 → a ≠ b → (TJ0 a).2.1 ≠ (TJ0 b).2.1 := by decide +kernel
theorem tyJ0_ok : ∀ k, k < 0 → parseFieldDescriptor (TJ0 k).2.2.1 = some (tyJ0 k) := by decide +kernel
def RL : String := "CupDrawLaw"
abbrev cL_lay : ByteArray := method_3_code
def yL_lay : MethodName := ⟨RL, "lay", "(LCupDraw;II[J)I"⟩
abbrev cL_setRegion : ByteArray := method_4_code
def yL_setRegion : MethodName := ⟨RL, "setRegion", "(LCupDraw;II[J)I"⟩
abbrev cL_setBound : ByteArray := method_5_code
def yL_setBound : MethodName := ⟨RL, "setBound", "(LCupDraw;II[J)I"⟩
abbrev cL_setApart : ByteArray := method_6_code
def yL_setApart : MethodName := ⟨RL, "setApart", "(LCupDraw;IIZ[J)I"⟩
abbrev cL_setOtherDays : ByteArray := method_7_code
def yL_setOtherDays : MethodName := ⟨RL, "setOtherDays", "(LCupDraw;IIZ[J)I"⟩
abbrev cL_draw : ByteArray := method_8_code
def yL_draw : MethodName := ⟨RL, "draw", "(LCupDraw;I[J)I"⟩
abbrev cL_undo : ByteArray := method_9_code
def yL_undo : MethodName := ⟨RL, "undo", "(LCupDraw;[J)I"⟩
abbrev cL_ballAt : ByteArray := method_10_code
def yL_ballAt : MethodName := ⟨RL, "ballAt", "(LCupDraw;I[J)I"⟩
abbrev cL_groupOf : ByteArray := method_11_code
def yL_groupOf : MethodName := ⟨RL, "groupOf", "(LCupDraw;I[J)I"⟩
abbrev cL_teamAt : ByteArray := method_12_code
def yL_teamAt : MethodName := ⟨RL, "teamAt", "(LCupDraw;II[J)I"⟩
abbrev cL_fits : ByteArray := method_13_code
def yL_fits : MethodName := ⟨RL, "fits", "(LCupDraw;II[J)I"⟩
abbrev cL_forced : ByteArray := method_14_code
def yL_forced : MethodName := ⟨RL, "forced", "(LCupDraw;I[J)I"⟩
abbrev cL_evenly : ByteArray := method_15_code
def yL_evenly : MethodName := ⟨RL, "evenly", "(LCupDraw;II[J)I"⟩
abbrev cL_chances : ByteArray := method_16_code
def yL_chances : MethodName := ⟨RL, "chances", "(LCupDraw;II[J)I"⟩
abbrev cL_pairings : ByteArray := method_17_code
def yL_pairings : MethodName := ⟨RL, "pairings", "(LCupDraw;II[J)I"⟩
abbrev cL_law : ByteArray := code
def yL_law : MethodName := ⟨RL, "law", "([I)Z"⟩
def wsX0_init : List Cond := .code yX0_init cX0_init 1 none :: ([.methodLink RX0 3 objectInit, .instanceMethod objectInit, .code objectInit ⟨#[0xb1]⟩ 1 none, .arrayClass .int, .fieldLink RX0 9 "CupDraw$Bowl" "regions" "[I", .fieldLink RX0 15 "CupDraw$Bowl" "bounds" "[I", .fieldLink RX0 18 "CupDraw$Bowl" "apart" "[I", .fieldLink RX0 21 "CupDraw$Bowl" "otherDays" "[I", .fieldLink RX0 24 "CupDraw$Bowl" "potMates" "[I", .fieldLink RX0 27 "CupDraw$Bowl" "members" "[I"] ++ wsX00)
def wsX0_resetPot : List Cond := .code yX0_resetPot cX0_resetPot 4 none :: ([.fieldLink RX0 30 "CupDraw$Bowl" "groups" "I", .fieldLink RX0 24 "CupDraw$Bowl" "potMates" "[I"] ++ wsX00)
def wsX0_reset : List Cond := .code yX0_reset cX0_reset 4 none :: ([.fieldLink RX0 30 "CupDraw$Bowl" "groups" "I", .fieldLink RX0 34 "CupDraw$Bowl" "pots" "I", .fieldLink RX0 37 "CupDraw$Bowl" "teams" "I", .fieldLink RX0 15 "CupDraw$Bowl" "bounds" "[I", .fieldLink RX0 9 "CupDraw$Bowl" "regions" "[I", .fieldLink RX0 18 "CupDraw$Bowl" "apart" "[I", .fieldLink RX0 21 "CupDraw$Bowl" "otherDays" "[I", .methodLink RX0 40 yX0_resetPot, .instanceMethod yX0_resetPot, .selects RX0 yX0_resetPot yX0_resetPot, .initialized RX0, .code yX0_resetPot cX0_resetPot 4 none, .fieldLink RX0 24 "CupDraw$Bowl" "potMates" "[I"] ++ wsX00)
def wsX0_hasTeam : List Cond := .code yX0_hasTeam cX0_hasTeam 2 (some .boolean) :: ([.fieldLink RX0 37 "CupDraw$Bowl" "teams" "I"] ++ wsX00)
def wsX0_hasRegion : List Cond := .code yX0_hasRegion cX0_hasRegion 2 (some .boolean) :: ([])
def wsX0_hasGroup : List Cond := .code yX0_hasGroup cX0_hasGroup 2 (some .boolean) :: ([.fieldLink RX0 30 "CupDraw$Bowl" "groups" "I"] ++ wsX00)
def wsX0_hasPot : List Cond := .code yX0_hasPot cX0_hasPot 2 (some .boolean) :: ([.fieldLink RX0 34 "CupDraw$Bowl" "pots" "I"] ++ wsX00)
def wsX0_setPair : List Cond := .code yX0_setPair cX0_setPair 5 (some .boolean) :: ([])
def wsX1_add : List Cond := .code yX1_add cX1_add 2 none :: ([.fieldLink RX1 15 "CupDraw$ResultList" "size" "I", .fieldLink RX1 9 "CupDraw$ResultList" "items" "[I"] ++ wsX10)
def wsX0_playersOnDay : List Cond := .code yX0_playersOnDay cX0_playersOnDay 4 (some .int) :: ([.fieldLink RX0 30 "CupDraw$Bowl" "groups" "I", .fieldLink RX0 27 "CupDraw$Bowl" "members" "[I"] ++ wsX00)
def wsX0_countOfRegion : List Cond := .code yX0_countOfRegion cX0_countOfRegion 5 (some .int) :: ([.fieldLink RX0 37 "CupDraw$Bowl" "teams" "I", .fieldLink RX0 27 "CupDraw$Bowl" "members" "[I", .fieldLink RX0 9 "CupDraw$Bowl" "regions" "[I"] ++ wsX00)
def wsX0_admits : List Cond := .code yX0_admits cX0_admits 3 (some .boolean) :: ([.fieldLink RX0 27 "CupDraw$Bowl" "members" "[I", .fieldLink RX0 24 "CupDraw$Bowl" "potMates" "[I", .fieldLink RX0 18 "CupDraw$Bowl" "apart" "[I", .fieldLink RX0 21 "CupDraw$Bowl" "otherDays" "[I", .fieldLink RX0 9 "CupDraw$Bowl" "regions" "[I", .fieldLink RX0 15 "CupDraw$Bowl" "bounds" "[I", .methodLink RX0 65 yX0_playersOnDay, .instanceMethod yX0_playersOnDay, .selects RX0 yX0_playersOnDay yX0_playersOnDay, .initialized RX0, .code yX0_playersOnDay cX0_playersOnDay 4 (some .int), .fieldLink RX0 30 "CupDraw$Bowl" "groups" "I", .methodLink RX0 69 yX0_countOfRegion, .instanceMethod yX0_countOfRegion, .selects RX0 yX0_countOfRegion yX0_countOfRegion, .code yX0_countOfRegion cX0_countOfRegion 5 (some .int), .fieldLink RX0 37 "CupDraw$Bowl" "teams" "I"] ++ wsX00)
def wsX1_with : List Cond := .code yX1_with cX1_with 3 (some .int) :: ([])
def wsX0_placeFrom_r1 : List Cond := [Cond.fieldLink RX0 37 "CupDraw$Bowl" "teams" "I", Cond.fieldLink RX0 30 "CupDraw$Bowl" "groups" "I", Cond.methodLink RX0 48 yX1_add, Cond.instanceMethod yX1_add, Cond.selects RX1 yX1_add yX1_add, Cond.initialized RX1, Cond.code yX1_add cX1_add 2 none, Cond.fieldLink RX1 15 "CupDraw$ResultList" "size" "I", Cond.fieldLink RX1 9 "CupDraw$ResultList" "items" "[I", Cond.methodLink RX0 53 yX0_placeIn, Cond.instanceMethod yX0_placeIn, Cond.selects RX0 yX0_placeIn yX0_placeIn, Cond.initialized RX0, Cond.code yX0_placeIn cX0_placeIn 5 none, Cond.fieldLink RX0 27 "CupDraw$Bowl" "members" "[I", Cond.methodLink RX0 57 yX0_admits, Cond.instanceMethod yX0_admits, Cond.selects RX0 yX0_admits yX0_admits, Cond.code yX0_admits cX0_admits 3 (some .boolean), Cond.fieldLink RX0 24 "CupDraw$Bowl" "potMates" "[I", Cond.fieldLink RX0 18 "CupDraw$Bowl" "apart" "[I", Cond.fieldLink RX0 21 "CupDraw$Bowl" "otherDays" "[I", Cond.fieldLink RX0 9 "CupDraw$Bowl" "regions" "[I", Cond.fieldLink RX0 15 "CupDraw$Bowl" "bounds" "[I"]
def wsX0_placeFrom_r2 : List Cond := [Cond.methodLink RX0 65 yX0_playersOnDay, Cond.instanceMethod yX0_playersOnDay, Cond.selects RX0 yX0_playersOnDay yX0_playersOnDay, Cond.code yX0_playersOnDay cX0_playersOnDay 4 (some .int), Cond.methodLink RX0 69 yX0_countOfRegion, Cond.instanceMethod yX0_countOfRegion, Cond.selects RX0 yX0_countOfRegion yX0_countOfRegion, Cond.code yX0_countOfRegion cX0_countOfRegion 5 (some .int), Cond.methodLink RX0 61 yX1_with, Cond.static yX1_with, Cond.code yX1_with cX1_with 3 (some .int), Cond.methodLink RX0 44 yX0_placeFrom, Cond.instanceMethod yX0_placeFrom, Cond.selects RX0 yX0_placeFrom yX0_placeFrom]
def wsX0_placeFrom : List Cond := .code yX0_placeFrom cX0_placeFrom 5 none :: ((wsX0_placeFrom_r1 ++ wsX0_placeFrom_r2) ++ wsX00 ++ wsX10)
def wsX0_placeIn_r1 : List Cond := [Cond.fieldLink RX0 27 "CupDraw$Bowl" "members" "[I", Cond.methodLink RX0 57 yX0_admits, Cond.instanceMethod yX0_admits, Cond.selects RX0 yX0_admits yX0_admits, Cond.initialized RX0, Cond.code yX0_admits cX0_admits 3 (some .boolean), Cond.fieldLink RX0 24 "CupDraw$Bowl" "potMates" "[I", Cond.fieldLink RX0 18 "CupDraw$Bowl" "apart" "[I", Cond.fieldLink RX0 21 "CupDraw$Bowl" "otherDays" "[I", Cond.fieldLink RX0 9 "CupDraw$Bowl" "regions" "[I", Cond.fieldLink RX0 15 "CupDraw$Bowl" "bounds" "[I", Cond.methodLink RX0 65 yX0_playersOnDay, Cond.instanceMethod yX0_playersOnDay, Cond.selects RX0 yX0_playersOnDay yX0_playersOnDay, Cond.code yX0_playersOnDay cX0_playersOnDay 4 (some .int), Cond.fieldLink RX0 30 "CupDraw$Bowl" "groups" "I", Cond.methodLink RX0 69 yX0_countOfRegion, Cond.instanceMethod yX0_countOfRegion, Cond.selects RX0 yX0_countOfRegion yX0_countOfRegion, Cond.code yX0_countOfRegion cX0_countOfRegion 5 (some .int), Cond.fieldLink RX0 37 "CupDraw$Bowl" "teams" "I", Cond.methodLink RX0 61 yX1_with, Cond.static yX1_with, Cond.initialized RX1]
def wsX0_placeIn_r2 : List Cond := [Cond.code yX1_with cX1_with 3 (some .int), Cond.methodLink RX0 44 yX0_placeFrom, Cond.instanceMethod yX0_placeFrom, Cond.selects RX0 yX0_placeFrom yX0_placeFrom, Cond.code yX0_placeFrom cX0_placeFrom 5 none, Cond.methodLink RX0 48 yX1_add, Cond.instanceMethod yX1_add, Cond.selects RX1 yX1_add yX1_add, Cond.code yX1_add cX1_add 2 none, Cond.fieldLink RX1 15 "CupDraw$ResultList" "size" "I", Cond.fieldLink RX1 9 "CupDraw$ResultList" "items" "[I", Cond.methodLink RX0 53 yX0_placeIn, Cond.instanceMethod yX0_placeIn, Cond.selects RX0 yX0_placeIn yX0_placeIn]
def wsX0_placeIn : List Cond := .code yX0_placeIn cX0_placeIn 5 none :: ((wsX0_placeIn_r1 ++ wsX0_placeIn_r2) ++ wsX00 ++ wsX10)
def wsX0_addLawful_r1 : List Cond := [Cond.methodLink RX0 44 yX0_placeFrom, Cond.instanceMethod yX0_placeFrom, Cond.selects RX0 yX0_placeFrom yX0_placeFrom, Cond.initialized RX0, Cond.code yX0_placeFrom cX0_placeFrom 5 none, Cond.fieldLink RX0 37 "CupDraw$Bowl" "teams" "I", Cond.fieldLink RX0 30 "CupDraw$Bowl" "groups" "I", Cond.methodLink RX0 48 yX1_add, Cond.instanceMethod yX1_add, Cond.selects RX1 yX1_add yX1_add, Cond.initialized RX1, Cond.code yX1_add cX1_add 2 none, Cond.fieldLink RX1 15 "CupDraw$ResultList" "size" "I", Cond.fieldLink RX1 9 "CupDraw$ResultList" "items" "[I", Cond.methodLink RX0 53 yX0_placeIn, Cond.instanceMethod yX0_placeIn, Cond.selects RX0 yX0_placeIn yX0_placeIn, Cond.code yX0_placeIn cX0_placeIn 5 none, Cond.fieldLink RX0 27 "CupDraw$Bowl" "members" "[I", Cond.methodLink RX0 57 yX0_admits, Cond.instanceMethod yX0_admits, Cond.selects RX0 yX0_admits yX0_admits, Cond.code yX0_admits cX0_admits 3 (some .boolean), Cond.fieldLink RX0 24 "CupDraw$Bowl" "potMates" "[I"]
def wsX0_addLawful_r2 : List Cond := [Cond.fieldLink RX0 18 "CupDraw$Bowl" "apart" "[I", Cond.fieldLink RX0 21 "CupDraw$Bowl" "otherDays" "[I", Cond.fieldLink RX0 9 "CupDraw$Bowl" "regions" "[I", Cond.fieldLink RX0 15 "CupDraw$Bowl" "bounds" "[I", Cond.methodLink RX0 65 yX0_playersOnDay, Cond.instanceMethod yX0_playersOnDay, Cond.selects RX0 yX0_playersOnDay yX0_playersOnDay, Cond.code yX0_playersOnDay cX0_playersOnDay 4 (some .int), Cond.methodLink RX0 69 yX0_countOfRegion, Cond.instanceMethod yX0_countOfRegion, Cond.selects RX0 yX0_countOfRegion yX0_countOfRegion, Cond.code yX0_countOfRegion cX0_countOfRegion 5 (some .int), Cond.methodLink RX0 61 yX1_with, Cond.static yX1_with, Cond.code yX1_with cX1_with 3 (some .int)]
def wsX0_addLawful : List Cond := .code yX0_addLawful cX0_addLawful 2 none :: ((wsX0_addLawful_r1 ++ wsX0_addLawful_r2) ++ wsX00 ++ wsX10)
def wsX1_init : List Cond := .code yX1_init cX1_init 1 none :: ([.methodLink RX1 3 objectInit, .instanceMethod objectInit, .code objectInit ⟨#[0xb1]⟩ 1 none, .arrayClass .int, .fieldLink RX1 9 "CupDraw$ResultList" "items" "[I"] ++ wsX10)
def wsX1_groupIn : List Cond := .code yX1_groupIn cX1_groupIn 2 (some .int) :: ([])
def wsX1_clear : List Cond := .code yX1_clear cX1_clear 1 none :: ([.fieldLink RX1 15 "CupDraw$ResultList" "size" "I"] ++ wsX10)
def wsX1_first : List Cond := .code yX1_first cX1_first 1 (some .int) :: ([.fieldLink RX1 9 "CupDraw$ResultList" "items" "[I"] ++ wsX10)
def wsX1_countInGroup : List Cond := .code yX1_countInGroup cX1_countInGroup 5 (some .int) :: ([.fieldLink RX1 15 "CupDraw$ResultList" "size" "I", .fieldLink RX1 9 "CupDraw$ResultList" "items" "[I", .methodLink RX1 19 yX1_groupIn, .static yX1_groupIn, .initialized RX1, .code yX1_groupIn cX1_groupIn 2 (some .int)] ++ wsX10)
def wsX1_countTogether : List Cond := .code yX1_countTogether cX1_countTogether 5 (some .int) :: ([.fieldLink RX1 15 "CupDraw$ResultList" "size" "I", .fieldLink RX1 9 "CupDraw$ResultList" "items" "[I", .methodLink RX1 19 yX1_groupIn, .static yX1_groupIn, .initialized RX1, .code yX1_groupIn cX1_groupIn 2 (some .int)] ++ wsX10)
def wsX1_lowestGroup : List Cond := .code yX1_lowestGroup cX1_lowestGroup 5 (some .int) :: ([.fieldLink RX1 15 "CupDraw$ResultList" "size" "I", .fieldLink RX1 9 "CupDraw$ResultList" "items" "[I", .methodLink RX1 19 yX1_groupIn, .static yX1_groupIn, .initialized RX1, .code yX1_groupIn cX1_groupIn 2 (some .int)] ++ wsX10)
def wsX1_narrow : List Cond := .code yX1_narrow cX1_narrow 6 none :: ([.fieldLink RX1 15 "CupDraw$ResultList" "size" "I", .fieldLink RX1 9 "CupDraw$ResultList" "items" "[I", .methodLink RX1 19 yX1_groupIn, .static yX1_groupIn, .initialized RX1, .code yX1_groupIn cX1_groupIn 2 (some .int)] ++ wsX10)
def wsX1_widen : List Cond := .code yX1_widen cX1_widen 2 none :: ([.fieldLink RX1 15 "CupDraw$ResultList" "size" "I"] ++ wsX10)
def wsX2_forgetResults : List Cond := .code yX2_forgetResults cX2_forgetResults 1 none :: ([.fieldLink RX2 186 "CupDraw" "isOpenListFresh" "Z", .fieldLink RX2 113 "CupDraw" "isEndListFresh" "Z"] ++ wsX20)
def wsX2_startWith_r1 : List Cond := [Cond.fieldLink RX2 10 "CupDraw" "bowl" "LCupDraw$Bowl;", Cond.fieldLink RX2 26 "CupDraw" "seats" "[I", Cond.fieldLink RX2 92 "CupDraw" "drawnCount" "I", Cond.methodLink RX2 177 yX0_reset, Cond.instanceMethod yX0_reset, Cond.selects RX0 yX0_reset yX0_reset, Cond.initialized RX0, Cond.code yX0_reset cX0_reset 4 none, Cond.fieldLink RX0 30 "CupDraw$Bowl" "groups" "I", Cond.fieldLink RX0 34 "CupDraw$Bowl" "pots" "I", Cond.fieldLink RX0 37 "CupDraw$Bowl" "teams" "I", Cond.fieldLink RX0 15 "CupDraw$Bowl" "bounds" "[I", Cond.fieldLink RX0 9 "CupDraw$Bowl" "regions" "[I", Cond.fieldLink RX0 18 "CupDraw$Bowl" "apart" "[I", Cond.fieldLink RX0 21 "CupDraw$Bowl" "otherDays" "[I", Cond.methodLink RX0 40 yX0_resetPot, Cond.instanceMethod yX0_resetPot, Cond.selects RX0 yX0_resetPot yX0_resetPot, Cond.code yX0_resetPot cX0_resetPot 4 none, Cond.fieldLink RX0 24 "CupDraw$Bowl" "potMates" "[I", Cond.methodLink RX2 69 yX2_forgetResults, Cond.instanceMethod yX2_forgetResults, Cond.selects RX2 yX2_forgetResults yX2_forgetResults, Cond.initialized RX2]
def wsX2_startWith_r2 : List Cond := [Cond.code yX2_forgetResults cX2_forgetResults 1 none, Cond.fieldLink RX2 186 "CupDraw" "isOpenListFresh" "Z", Cond.fieldLink RX2 113 "CupDraw" "isEndListFresh" "Z"]
def wsX2_startWith : List Cond := .code yX2_startWith cX2_startWith 4 none :: ((wsX2_startWith_r1 ++ wsX2_startWith_r2) ++ wsX20 ++ wsX00)
def wsX2_init_r1 : List Cond := [Cond.methodLink RX2 1 objectInit, Cond.instanceMethod objectInit, Cond.code objectInit ⟨#[0xb1]⟩ 1 none, Cond.classLink RX2 7 RX0, Cond.instantiable RX0 9, Cond.initialized RX0, Cond.fieldLink RX2 10 "CupDraw" "bowl" "LCupDraw$Bowl;", Cond.classLink RX2 16 RX1, Cond.instantiable RX1 2, Cond.initialized RX1, Cond.fieldLink RX2 19 "CupDraw" "openList" "LCupDraw$ResultList;", Cond.fieldLink RX2 23 "CupDraw" "endList" "LCupDraw$ResultList;", Cond.arrayClass .int, Cond.fieldLink RX2 26 "CupDraw" "seats" "[I", Cond.fieldLink RX2 30 "CupDraw" "drawnTeams" "[I", Cond.fieldLink RX2 33 "CupDraw" "openBefore" "[I", Cond.instanceMethod yX0_init, Cond.code yX0_init cX0_init 1 none, Cond.methodLink RX0 3 objectInit, Cond.fieldLink RX0 9 "CupDraw$Bowl" "regions" "[I", Cond.fieldLink RX0 15 "CupDraw$Bowl" "bounds" "[I", Cond.fieldLink RX0 18 "CupDraw$Bowl" "apart" "[I", Cond.fieldLink RX0 21 "CupDraw$Bowl" "otherDays" "[I", Cond.fieldLink RX0 24 "CupDraw$Bowl" "potMates" "[I"]
def wsX2_init_r2 : List Cond := [Cond.fieldLink RX0 27 "CupDraw$Bowl" "members" "[I", Cond.instanceMethod yX1_init, Cond.code yX1_init cX1_init 1 none, Cond.methodLink RX1 3 objectInit, Cond.fieldLink RX1 9 "CupDraw$ResultList" "items" "[I", Cond.methodLink RX2 36 yX2_startWith, Cond.instanceMethod yX2_startWith, Cond.selects RX2 yX2_startWith yX2_startWith, Cond.initialized RX2, Cond.code yX2_startWith cX2_startWith 4 none, Cond.fieldLink RX2 92 "CupDraw" "drawnCount" "I", Cond.methodLink RX2 177 yX0_reset, Cond.instanceMethod yX0_reset, Cond.selects RX0 yX0_reset yX0_reset, Cond.code yX0_reset cX0_reset 4 none, Cond.fieldLink RX0 30 "CupDraw$Bowl" "groups" "I", Cond.fieldLink RX0 34 "CupDraw$Bowl" "pots" "I", Cond.fieldLink RX0 37 "CupDraw$Bowl" "teams" "I", Cond.methodLink RX0 40 yX0_resetPot, Cond.instanceMethod yX0_resetPot, Cond.selects RX0 yX0_resetPot yX0_resetPot, Cond.code yX0_resetPot cX0_resetPot 4 none, Cond.methodLink RX2 69 yX2_forgetResults, Cond.instanceMethod yX2_forgetResults]
def wsX2_init_r3 : List Cond := [Cond.selects RX2 yX2_forgetResults yX2_forgetResults, Cond.code yX2_forgetResults cX2_forgetResults 1 none, Cond.fieldLink RX2 186 "CupDraw" "isOpenListFresh" "Z", Cond.fieldLink RX2 113 "CupDraw" "isEndListFresh" "Z"]
def wsX2_init : List Cond := .code yX2_init cX2_init 1 none :: ((wsX2_init_r1 ++ (wsX2_init_r2 ++ wsX2_init_r3)) ++ wsX00 ++ wsX20 ++ wsX10)
def wsX2_lay_r1 : List Cond := [Cond.classLink RX2 40 "java/lang/IllegalArgumentException", Cond.initialized "java/lang/IllegalArgumentException", Cond.fieldLink RX2 10 "CupDraw" "bowl" "LCupDraw$Bowl;", Cond.methodLink RX2 36 yX2_startWith, Cond.instanceMethod yX2_startWith, Cond.selects RX2 yX2_startWith yX2_startWith, Cond.initialized RX2, Cond.code yX2_startWith cX2_startWith 4 none, Cond.fieldLink RX2 26 "CupDraw" "seats" "[I", Cond.fieldLink RX2 92 "CupDraw" "drawnCount" "I", Cond.methodLink RX2 177 yX0_reset, Cond.instanceMethod yX0_reset, Cond.selects RX0 yX0_reset yX0_reset, Cond.initialized RX0, Cond.code yX0_reset cX0_reset 4 none, Cond.fieldLink RX0 30 "CupDraw$Bowl" "groups" "I", Cond.fieldLink RX0 34 "CupDraw$Bowl" "pots" "I", Cond.fieldLink RX0 37 "CupDraw$Bowl" "teams" "I", Cond.fieldLink RX0 15 "CupDraw$Bowl" "bounds" "[I", Cond.fieldLink RX0 9 "CupDraw$Bowl" "regions" "[I", Cond.fieldLink RX0 18 "CupDraw$Bowl" "apart" "[I", Cond.fieldLink RX0 21 "CupDraw$Bowl" "otherDays" "[I", Cond.methodLink RX0 40 yX0_resetPot, Cond.instanceMethod yX0_resetPot]
def wsX2_lay_r2 : List Cond := [Cond.selects RX0 yX0_resetPot yX0_resetPot, Cond.code yX0_resetPot cX0_resetPot 4 none, Cond.fieldLink RX0 24 "CupDraw$Bowl" "potMates" "[I", Cond.methodLink RX2 69 yX2_forgetResults, Cond.instanceMethod yX2_forgetResults, Cond.selects RX2 yX2_forgetResults yX2_forgetResults, Cond.code yX2_forgetResults cX2_forgetResults 1 none, Cond.fieldLink RX2 186 "CupDraw" "isOpenListFresh" "Z", Cond.fieldLink RX2 113 "CupDraw" "isEndListFresh" "Z"]
def wsX2_lay : List Cond := .code yX2_lay cX2_lay 3 (some .int) :: ((wsX2_lay_r1 ++ wsX2_lay_r2) ++ wsX20 ++ wsX00 ++ (vx_atS RX2 44 "java/lang/IllegalArgumentException" ["java/lang/RuntimeException", "java/lang/Exception"]).filter goodWord)
def wsX2_requireNothingDrawn : List Cond := .code yX2_requireNothingDrawn cX2_requireNothingDrawn 1 none :: ([.classLink RX2 102 "java/lang/IllegalStateException", .initialized "java/lang/IllegalStateException", .fieldLink RX2 92 "CupDraw" "drawnCount" "I"] ++ wsX20 ++ (vx_atS RX2 106 "java/lang/IllegalStateException" ["java/lang/RuntimeException", "java/lang/Exception"]).filter goodWord)
def wsX2_setRegion_r1 : List Cond := [Cond.classLink RX2 58 "java/lang/IndexOutOfBoundsException", Cond.initialized "java/lang/IndexOutOfBoundsException", Cond.fieldLink RX2 10 "CupDraw" "bowl" "LCupDraw$Bowl;", Cond.methodLink RX2 51 yX0_hasTeam, Cond.instanceMethod yX0_hasTeam, Cond.selects RX0 yX0_hasTeam yX0_hasTeam, Cond.initialized RX0, Cond.code yX0_hasTeam cX0_hasTeam 2 (some .boolean), Cond.fieldLink RX0 37 "CupDraw$Bowl" "teams" "I", Cond.methodLink RX2 55 yX0_hasRegion, Cond.instanceMethod yX0_hasRegion, Cond.selects RX0 yX0_hasRegion yX0_hasRegion, Cond.code yX0_hasRegion cX0_hasRegion 2 (some .boolean), Cond.methodLink RX2 63 yX2_requireNothingDrawn, Cond.instanceMethod yX2_requireNothingDrawn, Cond.selects RX2 yX2_requireNothingDrawn yX2_requireNothingDrawn, Cond.initialized RX2, Cond.code yX2_requireNothingDrawn cX2_requireNothingDrawn 1 none, Cond.classLink RX2 102 "java/lang/IllegalStateException", Cond.initialized "java/lang/IllegalStateException", Cond.fieldLink RX2 92 "CupDraw" "drawnCount" "I", Cond.methodLink RX2 69 yX2_forgetResults, Cond.instanceMethod yX2_forgetResults, Cond.selects RX2 yX2_forgetResults yX2_forgetResults]
def wsX2_setRegion_r2 : List Cond := [Cond.code yX2_forgetResults cX2_forgetResults 1 none, Cond.fieldLink RX2 186 "CupDraw" "isOpenListFresh" "Z", Cond.fieldLink RX2 113 "CupDraw" "isEndListFresh" "Z"]
def wsX2_setRegion : List Cond := .code yX2_setRegion cX2_setRegion 4 (some .int) :: ((wsX2_setRegion_r1 ++ wsX2_setRegion_r2) ++ wsX20 ++ wsX00 ++ (vx_atS RX2 62 "java/lang/IndexOutOfBoundsException" ["java/lang/RuntimeException", "java/lang/Exception"]).filter goodWord ++ (vx_atS RX2 106 "java/lang/IllegalStateException" ["java/lang/RuntimeException", "java/lang/Exception"]).filter goodWord)
def wsX2_setBound : List Cond := .code yX2_setBound cX2_setBound 4 (some .int) :: ([.classLink RX2 58 "java/lang/IndexOutOfBoundsException", .initialized "java/lang/IndexOutOfBoundsException", .classLink RX2 40 "java/lang/IllegalArgumentException", .initialized "java/lang/IllegalArgumentException", .fieldLink RX2 10 "CupDraw" "bowl" "LCupDraw$Bowl;", .methodLink RX2 55 yX0_hasRegion, .instanceMethod yX0_hasRegion, .selects RX0 yX0_hasRegion yX0_hasRegion, .initialized RX0, .code yX0_hasRegion cX0_hasRegion 2 (some .boolean), .methodLink RX2 63 yX2_requireNothingDrawn, .instanceMethod yX2_requireNothingDrawn, .selects RX2 yX2_requireNothingDrawn yX2_requireNothingDrawn, .initialized RX2, .code yX2_requireNothingDrawn cX2_requireNothingDrawn 1 none, .classLink RX2 102 "java/lang/IllegalStateException", .initialized "java/lang/IllegalStateException", .fieldLink RX2 92 "CupDraw" "drawnCount" "I", .methodLink RX2 69 yX2_forgetResults, .instanceMethod yX2_forgetResults, .selects RX2 yX2_forgetResults yX2_forgetResults, .code yX2_forgetResults cX2_forgetResults 1 none, .fieldLink RX2 186 "CupDraw" "isOpenListFresh" "Z", .fieldLink RX2 113 "CupDraw" "isEndListFresh" "Z"] ++ wsX20 ++ wsX00 ++ (vx_atS RX2 62 "java/lang/IndexOutOfBoundsException" ["java/lang/RuntimeException", "java/lang/Exception"]).filter goodWord ++ (vx_atS RX2 44 "java/lang/IllegalArgumentException" ["java/lang/RuntimeException", "java/lang/Exception"]).filter goodWord ++ (vx_atS RX2 106 "java/lang/IllegalStateException" ["java/lang/RuntimeException", "java/lang/Exception"]).filter goodWord)
def wsX2_requireTeam : List Cond := .code yX2_requireTeam cX2_requireTeam 2 none :: ([.classLink RX2 58 "java/lang/IndexOutOfBoundsException", .initialized "java/lang/IndexOutOfBoundsException", .fieldLink RX2 10 "CupDraw" "bowl" "LCupDraw$Bowl;", .methodLink RX2 51 yX0_hasTeam, .instanceMethod yX0_hasTeam, .selects RX0 yX0_hasTeam yX0_hasTeam, .initialized RX0, .code yX0_hasTeam cX0_hasTeam 2 (some .boolean), .fieldLink RX0 37 "CupDraw$Bowl" "teams" "I"] ++ wsX20 ++ wsX00 ++ (vx_atS RX2 62 "java/lang/IndexOutOfBoundsException" ["java/lang/RuntimeException", "java/lang/Exception"]).filter goodWord)
def wsX2_requireTwoTeams : List Cond := .code yX2_requireTwoTeams cX2_requireTwoTeams 3 none :: ([.classLink RX2 40 "java/lang/IllegalArgumentException", .initialized "java/lang/IllegalArgumentException", .methodLink RX2 136 yX2_requireTeam, .instanceMethod yX2_requireTeam, .selects RX2 yX2_requireTeam yX2_requireTeam, .initialized RX2, .code yX2_requireTeam cX2_requireTeam 2 none, .classLink RX2 58 "java/lang/IndexOutOfBoundsException", .initialized "java/lang/IndexOutOfBoundsException", .fieldLink RX2 10 "CupDraw" "bowl" "LCupDraw$Bowl;", .methodLink RX2 51 yX0_hasTeam, .instanceMethod yX0_hasTeam, .selects RX0 yX0_hasTeam yX0_hasTeam, .initialized RX0, .code yX0_hasTeam cX0_hasTeam 2 (some .boolean), .fieldLink RX0 37 "CupDraw$Bowl" "teams" "I"] ++ wsX20 ++ wsX00 ++ (vx_atS RX2 44 "java/lang/IllegalArgumentException" ["java/lang/RuntimeException", "java/lang/Exception"]).filter goodWord ++ (vx_atS RX2 62 "java/lang/IndexOutOfBoundsException" ["java/lang/RuntimeException", "java/lang/Exception"]).filter goodWord)
def wsX2_setApart_r1 : List Cond := [Cond.fieldLink RX2 10 "CupDraw" "bowl" "LCupDraw$Bowl;", Cond.methodLink RX2 79 yX2_requireTwoTeams, Cond.instanceMethod yX2_requireTwoTeams, Cond.selects RX2 yX2_requireTwoTeams yX2_requireTwoTeams, Cond.initialized RX2, Cond.code yX2_requireTwoTeams cX2_requireTwoTeams 3 none, Cond.classLink RX2 40 "java/lang/IllegalArgumentException", Cond.initialized "java/lang/IllegalArgumentException", Cond.methodLink RX2 136 yX2_requireTeam, Cond.instanceMethod yX2_requireTeam, Cond.selects RX2 yX2_requireTeam yX2_requireTeam, Cond.code yX2_requireTeam cX2_requireTeam 2 none, Cond.classLink RX2 58 "java/lang/IndexOutOfBoundsException", Cond.initialized "java/lang/IndexOutOfBoundsException", Cond.methodLink RX2 51 yX0_hasTeam, Cond.instanceMethod yX0_hasTeam, Cond.selects RX0 yX0_hasTeam yX0_hasTeam, Cond.initialized RX0, Cond.code yX0_hasTeam cX0_hasTeam 2 (some .boolean), Cond.fieldLink RX0 37 "CupDraw$Bowl" "teams" "I", Cond.methodLink RX2 63 yX2_requireNothingDrawn, Cond.instanceMethod yX2_requireNothingDrawn, Cond.selects RX2 yX2_requireNothingDrawn yX2_requireNothingDrawn, Cond.code yX2_requireNothingDrawn cX2_requireNothingDrawn 1 none]
def wsX2_setApart_r2 : List Cond := [Cond.classLink RX2 102 "java/lang/IllegalStateException", Cond.initialized "java/lang/IllegalStateException", Cond.fieldLink RX2 92 "CupDraw" "drawnCount" "I", Cond.methodLink RX2 69 yX2_forgetResults, Cond.instanceMethod yX2_forgetResults, Cond.selects RX2 yX2_forgetResults yX2_forgetResults, Cond.code yX2_forgetResults cX2_forgetResults 1 none, Cond.fieldLink RX2 186 "CupDraw" "isOpenListFresh" "Z", Cond.fieldLink RX2 113 "CupDraw" "isEndListFresh" "Z", Cond.methodLink RX2 85 yX0_setPair, Cond.static yX0_setPair, Cond.code yX0_setPair cX0_setPair 5 (some .boolean)]
def wsX2_setApart : List Cond := .code yX2_setApart cX2_setApart 4 (some .boolean) :: ((wsX2_setApart_r1 ++ wsX2_setApart_r2) ++ wsX20 ++ wsX00 ++ (vx_atS RX2 44 "java/lang/IllegalArgumentException" ["java/lang/RuntimeException", "java/lang/Exception"]).filter goodWord ++ (vx_atS RX2 62 "java/lang/IndexOutOfBoundsException" ["java/lang/RuntimeException", "java/lang/Exception"]).filter goodWord ++ (vx_atS RX2 106 "java/lang/IllegalStateException" ["java/lang/RuntimeException", "java/lang/Exception"]).filter goodWord)
def wsX2_setOtherDays_r1 : List Cond := [Cond.fieldLink RX2 10 "CupDraw" "bowl" "LCupDraw$Bowl;", Cond.methodLink RX2 79 yX2_requireTwoTeams, Cond.instanceMethod yX2_requireTwoTeams, Cond.selects RX2 yX2_requireTwoTeams yX2_requireTwoTeams, Cond.initialized RX2, Cond.code yX2_requireTwoTeams cX2_requireTwoTeams 3 none, Cond.classLink RX2 40 "java/lang/IllegalArgumentException", Cond.initialized "java/lang/IllegalArgumentException", Cond.methodLink RX2 136 yX2_requireTeam, Cond.instanceMethod yX2_requireTeam, Cond.selects RX2 yX2_requireTeam yX2_requireTeam, Cond.code yX2_requireTeam cX2_requireTeam 2 none, Cond.classLink RX2 58 "java/lang/IndexOutOfBoundsException", Cond.initialized "java/lang/IndexOutOfBoundsException", Cond.methodLink RX2 51 yX0_hasTeam, Cond.instanceMethod yX0_hasTeam, Cond.selects RX0 yX0_hasTeam yX0_hasTeam, Cond.initialized RX0, Cond.code yX0_hasTeam cX0_hasTeam 2 (some .boolean), Cond.fieldLink RX0 37 "CupDraw$Bowl" "teams" "I", Cond.methodLink RX2 63 yX2_requireNothingDrawn, Cond.instanceMethod yX2_requireNothingDrawn, Cond.selects RX2 yX2_requireNothingDrawn yX2_requireNothingDrawn, Cond.code yX2_requireNothingDrawn cX2_requireNothingDrawn 1 none]
def wsX2_setOtherDays_r2 : List Cond := [Cond.classLink RX2 102 "java/lang/IllegalStateException", Cond.initialized "java/lang/IllegalStateException", Cond.fieldLink RX2 92 "CupDraw" "drawnCount" "I", Cond.methodLink RX2 69 yX2_forgetResults, Cond.instanceMethod yX2_forgetResults, Cond.selects RX2 yX2_forgetResults yX2_forgetResults, Cond.code yX2_forgetResults cX2_forgetResults 1 none, Cond.fieldLink RX2 186 "CupDraw" "isOpenListFresh" "Z", Cond.fieldLink RX2 113 "CupDraw" "isEndListFresh" "Z", Cond.methodLink RX2 85 yX0_setPair, Cond.static yX0_setPair, Cond.code yX0_setPair cX0_setPair 5 (some .boolean)]
def wsX2_setOtherDays : List Cond := .code yX2_setOtherDays cX2_setOtherDays 4 (some .boolean) :: ((wsX2_setOtherDays_r1 ++ wsX2_setOtherDays_r2) ++ wsX20 ++ wsX00 ++ (vx_atS RX2 44 "java/lang/IllegalArgumentException" ["java/lang/RuntimeException", "java/lang/Exception"]).filter goodWord ++ (vx_atS RX2 62 "java/lang/IndexOutOfBoundsException" ["java/lang/RuntimeException", "java/lang/Exception"]).filter goodWord ++ (vx_atS RX2 106 "java/lang/IllegalStateException" ["java/lang/RuntimeException", "java/lang/Exception"]).filter goodWord)
def wsX2_openResults_r1 : List Cond := [Cond.fieldLink RX2 186 "CupDraw" "isOpenListFresh" "Z", Cond.fieldLink RX2 19 "CupDraw" "openList" "LCupDraw$ResultList;", Cond.fieldLink RX2 10 "CupDraw" "bowl" "LCupDraw$Bowl;", Cond.methodLink RX2 189 yX1_clear, Cond.instanceMethod yX1_clear, Cond.selects RX1 yX1_clear yX1_clear, Cond.initialized RX1, Cond.code yX1_clear cX1_clear 1 none, Cond.fieldLink RX1 15 "CupDraw$ResultList" "size" "I", Cond.methodLink RX2 192 yX0_addLawful, Cond.instanceMethod yX0_addLawful, Cond.selects RX0 yX0_addLawful yX0_addLawful, Cond.initialized RX0, Cond.code yX0_addLawful cX0_addLawful 2 none, Cond.methodLink RX0 44 yX0_placeFrom, Cond.instanceMethod yX0_placeFrom, Cond.selects RX0 yX0_placeFrom yX0_placeFrom, Cond.code yX0_placeFrom cX0_placeFrom 5 none, Cond.fieldLink RX0 37 "CupDraw$Bowl" "teams" "I", Cond.fieldLink RX0 30 "CupDraw$Bowl" "groups" "I", Cond.methodLink RX0 48 yX1_add, Cond.instanceMethod yX1_add, Cond.selects RX1 yX1_add yX1_add, Cond.code yX1_add cX1_add 2 none]
def wsX2_openResults_r2 : List Cond := [Cond.fieldLink RX1 9 "CupDraw$ResultList" "items" "[I", Cond.methodLink RX0 53 yX0_placeIn, Cond.instanceMethod yX0_placeIn, Cond.selects RX0 yX0_placeIn yX0_placeIn, Cond.code yX0_placeIn cX0_placeIn 5 none, Cond.fieldLink RX0 27 "CupDraw$Bowl" "members" "[I", Cond.methodLink RX0 57 yX0_admits, Cond.instanceMethod yX0_admits, Cond.selects RX0 yX0_admits yX0_admits, Cond.code yX0_admits cX0_admits 3 (some .boolean), Cond.fieldLink RX0 24 "CupDraw$Bowl" "potMates" "[I", Cond.fieldLink RX0 18 "CupDraw$Bowl" "apart" "[I", Cond.fieldLink RX0 21 "CupDraw$Bowl" "otherDays" "[I", Cond.fieldLink RX0 9 "CupDraw$Bowl" "regions" "[I", Cond.fieldLink RX0 15 "CupDraw$Bowl" "bounds" "[I", Cond.methodLink RX0 65 yX0_playersOnDay, Cond.instanceMethod yX0_playersOnDay, Cond.selects RX0 yX0_playersOnDay yX0_playersOnDay, Cond.code yX0_playersOnDay cX0_playersOnDay 4 (some .int), Cond.methodLink RX0 69 yX0_countOfRegion, Cond.instanceMethod yX0_countOfRegion, Cond.selects RX0 yX0_countOfRegion yX0_countOfRegion, Cond.code yX0_countOfRegion cX0_countOfRegion 5 (some .int), Cond.methodLink RX0 61 yX1_with]
def wsX2_openResults_r3 : List Cond := [Cond.static yX1_with, Cond.code yX1_with cX1_with 3 (some .int)]
def wsX2_openResults : List Cond := .code yX2_openResults cX2_openResults 1 (some (.object "CupDraw$ResultList")) :: ((wsX2_openResults_r1 ++ (wsX2_openResults_r2 ++ wsX2_openResults_r3)) ++ wsX20 ++ wsX10 ++ wsX00)
def wsX2_countLeft : List Cond := .code yX2_countLeft cX2_countLeft 5 (some .int) :: ([.fieldLink RX2 10 "CupDraw" "bowl" "LCupDraw$Bowl;", .fieldLink RX2 26 "CupDraw" "seats" "[I"] ++ wsX20 ++ wsX00)
def wsX2_pot : List Cond := .code yX2_pot cX2_pot 2 (some .int) :: ([.fieldLink RX2 10 "CupDraw" "bowl" "LCupDraw$Bowl;", .methodLink RX2 130 yX2_countLeft, .instanceMethod yX2_countLeft, .selects RX2 yX2_countLeft yX2_countLeft, .initialized RX2, .code yX2_countLeft cX2_countLeft 5 (some .int), .fieldLink RX2 26 "CupDraw" "seats" "[I"] ++ wsX20 ++ wsX00)
def wsX2_findBall : List Cond := .code yX2_findBall cX2_findBall 6 (some .int) :: ([.fieldLink RX2 10 "CupDraw" "bowl" "LCupDraw$Bowl;", .fieldLink RX2 26 "CupDraw" "seats" "[I", .methodLink RX2 133 yX2_pot, .instanceMethod yX2_pot, .selects RX2 yX2_pot yX2_pot, .initialized RX2, .code yX2_pot cX2_pot 2 (some .int), .methodLink RX2 130 yX2_countLeft, .instanceMethod yX2_countLeft, .selects RX2 yX2_countLeft yX2_countLeft, .code yX2_countLeft cX2_countLeft 5 (some .int)] ++ wsX20 ++ wsX00)
def wsX2_seat : List Cond := .code yX2_seat cX2_seat 3 none :: ([.fieldLink RX2 19 "CupDraw" "openList" "LCupDraw$ResultList;", .fieldLink RX2 33 "CupDraw" "openBefore" "[I", .fieldLink RX2 92 "CupDraw" "drawnCount" "I", .fieldLink RX2 26 "CupDraw" "seats" "[I", .fieldLink RX2 30 "CupDraw" "drawnTeams" "[I", .methodLink RX2 157 yX1_lowestGroup, .instanceMethod yX1_lowestGroup, .selects RX1 yX1_lowestGroup yX1_lowestGroup, .initialized RX1, .code yX1_lowestGroup cX1_lowestGroup 5 (some .int), .fieldLink RX1 15 "CupDraw$ResultList" "size" "I", .fieldLink RX1 9 "CupDraw$ResultList" "items" "[I", .methodLink RX1 19 yX1_groupIn, .static yX1_groupIn, .code yX1_groupIn cX1_groupIn 2 (some .int), .methodLink RX2 180 yX1_narrow, .instanceMethod yX1_narrow, .selects RX1 yX1_narrow yX1_narrow, .code yX1_narrow cX1_narrow 6 none] ++ wsX20 ++ wsX10)
def wsX2_draw_r1 : List Cond := [Cond.classLink RX2 102 "java/lang/IllegalStateException", Cond.initialized "java/lang/IllegalStateException", Cond.classLink RX2 58 "java/lang/IndexOutOfBoundsException", Cond.initialized "java/lang/IndexOutOfBoundsException", Cond.fieldLink RX2 92 "CupDraw" "drawnCount" "I", Cond.fieldLink RX2 10 "CupDraw" "bowl" "LCupDraw$Bowl;", Cond.fieldLink RX2 113 "CupDraw" "isEndListFresh" "Z", Cond.fieldLink RX2 26 "CupDraw" "seats" "[I", Cond.methodLink RX2 95 yX2_openResults, Cond.instanceMethod yX2_openResults, Cond.selects RX2 yX2_openResults yX2_openResults, Cond.initialized RX2, Cond.code yX2_openResults cX2_openResults 1 (some (.object "CupDraw$ResultList")), Cond.fieldLink RX2 186 "CupDraw" "isOpenListFresh" "Z", Cond.fieldLink RX2 19 "CupDraw" "openList" "LCupDraw$ResultList;", Cond.methodLink RX2 189 yX1_clear, Cond.instanceMethod yX1_clear, Cond.selects RX1 yX1_clear yX1_clear, Cond.initialized RX1, Cond.code yX1_clear cX1_clear 1 none, Cond.fieldLink RX1 15 "CupDraw$ResultList" "size" "I", Cond.methodLink RX2 192 yX0_addLawful, Cond.instanceMethod yX0_addLawful, Cond.selects RX0 yX0_addLawful yX0_addLawful]
def wsX2_draw_r2 : List Cond := [Cond.initialized RX0, Cond.code yX0_addLawful cX0_addLawful 2 none, Cond.methodLink RX0 44 yX0_placeFrom, Cond.instanceMethod yX0_placeFrom, Cond.selects RX0 yX0_placeFrom yX0_placeFrom, Cond.code yX0_placeFrom cX0_placeFrom 5 none, Cond.fieldLink RX0 37 "CupDraw$Bowl" "teams" "I", Cond.fieldLink RX0 30 "CupDraw$Bowl" "groups" "I", Cond.methodLink RX0 48 yX1_add, Cond.instanceMethod yX1_add, Cond.selects RX1 yX1_add yX1_add, Cond.code yX1_add cX1_add 2 none, Cond.fieldLink RX1 9 "CupDraw$ResultList" "items" "[I", Cond.methodLink RX0 53 yX0_placeIn, Cond.instanceMethod yX0_placeIn, Cond.selects RX0 yX0_placeIn yX0_placeIn, Cond.code yX0_placeIn cX0_placeIn 5 none, Cond.fieldLink RX0 27 "CupDraw$Bowl" "members" "[I", Cond.methodLink RX0 57 yX0_admits, Cond.instanceMethod yX0_admits, Cond.selects RX0 yX0_admits yX0_admits, Cond.code yX0_admits cX0_admits 3 (some .boolean), Cond.fieldLink RX0 24 "CupDraw$Bowl" "potMates" "[I", Cond.fieldLink RX0 18 "CupDraw$Bowl" "apart" "[I"]
def wsX2_draw_r3 : List Cond := [Cond.fieldLink RX0 21 "CupDraw$Bowl" "otherDays" "[I", Cond.fieldLink RX0 9 "CupDraw$Bowl" "regions" "[I", Cond.fieldLink RX0 15 "CupDraw$Bowl" "bounds" "[I", Cond.methodLink RX0 65 yX0_playersOnDay, Cond.instanceMethod yX0_playersOnDay, Cond.selects RX0 yX0_playersOnDay yX0_playersOnDay, Cond.code yX0_playersOnDay cX0_playersOnDay 4 (some .int), Cond.methodLink RX0 69 yX0_countOfRegion, Cond.instanceMethod yX0_countOfRegion, Cond.selects RX0 yX0_countOfRegion yX0_countOfRegion, Cond.code yX0_countOfRegion cX0_countOfRegion 5 (some .int), Cond.methodLink RX0 61 yX1_with, Cond.static yX1_with, Cond.code yX1_with cX1_with 3 (some .int), Cond.methodLink RX2 107 yX2_findBall, Cond.instanceMethod yX2_findBall, Cond.selects RX2 yX2_findBall yX2_findBall, Cond.code yX2_findBall cX2_findBall 6 (some .int), Cond.methodLink RX2 133 yX2_pot, Cond.instanceMethod yX2_pot, Cond.selects RX2 yX2_pot yX2_pot, Cond.code yX2_pot cX2_pot 2 (some .int), Cond.methodLink RX2 130 yX2_countLeft, Cond.instanceMethod yX2_countLeft]
def wsX2_draw_r4 : List Cond := [Cond.selects RX2 yX2_countLeft yX2_countLeft, Cond.code yX2_countLeft cX2_countLeft 5 (some .int), Cond.methodLink RX2 117 yX2_seat, Cond.instanceMethod yX2_seat, Cond.selects RX2 yX2_seat yX2_seat, Cond.code yX2_seat cX2_seat 3 none, Cond.fieldLink RX2 33 "CupDraw" "openBefore" "[I", Cond.fieldLink RX2 30 "CupDraw" "drawnTeams" "[I", Cond.methodLink RX2 157 yX1_lowestGroup, Cond.instanceMethod yX1_lowestGroup, Cond.selects RX1 yX1_lowestGroup yX1_lowestGroup, Cond.code yX1_lowestGroup cX1_lowestGroup 5 (some .int), Cond.methodLink RX1 19 yX1_groupIn, Cond.static yX1_groupIn, Cond.code yX1_groupIn cX1_groupIn 2 (some .int), Cond.methodLink RX2 180 yX1_narrow, Cond.instanceMethod yX1_narrow, Cond.selects RX1 yX1_narrow yX1_narrow, Cond.code yX1_narrow cX1_narrow 6 none]
def wsX2_draw : List Cond := .code yX2_draw cX2_draw 3 (some .int) :: ((wsX2_draw_r1 ++ (wsX2_draw_r2 ++ (wsX2_draw_r3 ++ wsX2_draw_r4))) ++ wsX20 ++ wsX00 ++ wsX10 ++ (vx_atS RX2 106 "java/lang/IllegalStateException" ["java/lang/RuntimeException", "java/lang/Exception"]).filter goodWord ++ (vx_atS RX2 62 "java/lang/IndexOutOfBoundsException" ["java/lang/RuntimeException", "java/lang/Exception"]).filter goodWord)
def wsX2_unseat : List Cond := .code yX2_unseat cX2_unseat 2 (some .int) :: ([.fieldLink RX2 92 "CupDraw" "drawnCount" "I", .fieldLink RX2 30 "CupDraw" "drawnTeams" "[I", .fieldLink RX2 26 "CupDraw" "seats" "[I", .fieldLink RX2 19 "CupDraw" "openList" "LCupDraw$ResultList;", .fieldLink RX2 33 "CupDraw" "openBefore" "[I", .methodLink RX2 183 yX1_widen, .instanceMethod yX1_widen, .selects RX1 yX1_widen yX1_widen, .initialized RX1, .code yX1_widen cX1_widen 2 none, .fieldLink RX1 15 "CupDraw$ResultList" "size" "I"] ++ wsX20 ++ wsX10)
def wsX2_undo : List Cond := .code yX2_undo cX2_undo 1 (some .int) :: ([.classLink RX2 102 "java/lang/IllegalStateException", .initialized "java/lang/IllegalStateException", .fieldLink RX2 92 "CupDraw" "drawnCount" "I", .fieldLink RX2 113 "CupDraw" "isEndListFresh" "Z", .methodLink RX2 123 yX2_unseat, .instanceMethod yX2_unseat, .selects RX2 yX2_unseat yX2_unseat, .initialized RX2, .code yX2_unseat cX2_unseat 2 (some .int), .fieldLink RX2 30 "CupDraw" "drawnTeams" "[I", .fieldLink RX2 26 "CupDraw" "seats" "[I", .fieldLink RX2 19 "CupDraw" "openList" "LCupDraw$ResultList;", .fieldLink RX2 33 "CupDraw" "openBefore" "[I", .methodLink RX2 183 yX1_widen, .instanceMethod yX1_widen, .selects RX1 yX1_widen yX1_widen, .initialized RX1, .code yX1_widen cX1_widen 2 none, .fieldLink RX1 15 "CupDraw$ResultList" "size" "I"] ++ wsX20 ++ wsX10 ++ (vx_atS RX2 106 "java/lang/IllegalStateException" ["java/lang/RuntimeException", "java/lang/Exception"]).filter goodWord)
def wsX2_drawn : List Cond := .code yX2_drawn cX2_drawn 1 (some .int) :: ([.fieldLink RX2 92 "CupDraw" "drawnCount" "I"] ++ wsX20)
def wsX2_left : List Cond := .code yX2_left cX2_left 2 (some .int) :: ([.methodLink RX2 133 yX2_pot, .instanceMethod yX2_pot, .selects RX2 yX2_pot yX2_pot, .initialized RX2, .code yX2_pot cX2_pot 2 (some .int), .fieldLink RX2 10 "CupDraw" "bowl" "LCupDraw$Bowl;", .methodLink RX2 130 yX2_countLeft, .instanceMethod yX2_countLeft, .selects RX2 yX2_countLeft yX2_countLeft, .code yX2_countLeft cX2_countLeft 5 (some .int), .fieldLink RX2 26 "CupDraw" "seats" "[I"] ++ wsX20 ++ wsX00)
def wsX2_ballAt : List Cond := .code yX2_ballAt cX2_ballAt 3 (some .int) :: ([.classLink RX2 58 "java/lang/IndexOutOfBoundsException", .initialized "java/lang/IndexOutOfBoundsException", .methodLink RX2 107 yX2_findBall, .instanceMethod yX2_findBall, .selects RX2 yX2_findBall yX2_findBall, .initialized RX2, .code yX2_findBall cX2_findBall 6 (some .int), .fieldLink RX2 10 "CupDraw" "bowl" "LCupDraw$Bowl;", .fieldLink RX2 26 "CupDraw" "seats" "[I", .methodLink RX2 133 yX2_pot, .instanceMethod yX2_pot, .selects RX2 yX2_pot yX2_pot, .code yX2_pot cX2_pot 2 (some .int), .methodLink RX2 130 yX2_countLeft, .instanceMethod yX2_countLeft, .selects RX2 yX2_countLeft yX2_countLeft, .code yX2_countLeft cX2_countLeft 5 (some .int)] ++ wsX20 ++ wsX00 ++ (vx_atS RX2 62 "java/lang/IndexOutOfBoundsException" ["java/lang/RuntimeException", "java/lang/Exception"]).filter goodWord)
def wsX2_groupOf : List Cond := .code yX2_groupOf cX2_groupOf 2 (some .int) :: ([.fieldLink RX2 26 "CupDraw" "seats" "[I", .methodLink RX2 136 yX2_requireTeam, .instanceMethod yX2_requireTeam, .selects RX2 yX2_requireTeam yX2_requireTeam, .initialized RX2, .code yX2_requireTeam cX2_requireTeam 2 none, .classLink RX2 58 "java/lang/IndexOutOfBoundsException", .initialized "java/lang/IndexOutOfBoundsException", .fieldLink RX2 10 "CupDraw" "bowl" "LCupDraw$Bowl;", .methodLink RX2 51 yX0_hasTeam, .instanceMethod yX0_hasTeam, .selects RX0 yX0_hasTeam yX0_hasTeam, .initialized RX0, .code yX0_hasTeam cX0_hasTeam 2 (some .boolean), .fieldLink RX0 37 "CupDraw$Bowl" "teams" "I"] ++ wsX20 ++ wsX00 ++ (vx_atS RX2 62 "java/lang/IndexOutOfBoundsException" ["java/lang/RuntimeException", "java/lang/Exception"]).filter goodWord)
def wsX2_teamAt : List Cond := .code yX2_teamAt cX2_teamAt 5 (some .int) :: ([.classLink RX2 58 "java/lang/IndexOutOfBoundsException", .initialized "java/lang/IndexOutOfBoundsException", .fieldLink RX2 10 "CupDraw" "bowl" "LCupDraw$Bowl;", .fieldLink RX2 26 "CupDraw" "seats" "[I", .methodLink RX2 139 yX0_hasGroup, .instanceMethod yX0_hasGroup, .selects RX0 yX0_hasGroup yX0_hasGroup, .initialized RX0, .code yX0_hasGroup cX0_hasGroup 2 (some .boolean), .fieldLink RX0 30 "CupDraw$Bowl" "groups" "I", .methodLink RX2 142 yX0_hasPot, .instanceMethod yX0_hasPot, .selects RX0 yX0_hasPot yX0_hasPot, .code yX0_hasPot cX0_hasPot 2 (some .boolean), .fieldLink RX0 34 "CupDraw$Bowl" "pots" "I"] ++ wsX20 ++ wsX00 ++ (vx_atS RX2 62 "java/lang/IndexOutOfBoundsException" ["java/lang/RuntimeException", "java/lang/Exception"]).filter goodWord)
def wsX2_results_r1 : List Cond := [Cond.methodLink RX2 95 yX2_openResults, Cond.instanceMethod yX2_openResults, Cond.selects RX2 yX2_openResults yX2_openResults, Cond.initialized RX2, Cond.code yX2_openResults cX2_openResults 1 (some (.object "CupDraw$ResultList")), Cond.fieldLink RX2 186 "CupDraw" "isOpenListFresh" "Z", Cond.fieldLink RX2 19 "CupDraw" "openList" "LCupDraw$ResultList;", Cond.fieldLink RX2 10 "CupDraw" "bowl" "LCupDraw$Bowl;", Cond.methodLink RX2 189 yX1_clear, Cond.instanceMethod yX1_clear, Cond.selects RX1 yX1_clear yX1_clear, Cond.initialized RX1, Cond.code yX1_clear cX1_clear 1 none, Cond.fieldLink RX1 15 "CupDraw$ResultList" "size" "I", Cond.methodLink RX2 192 yX0_addLawful, Cond.instanceMethod yX0_addLawful, Cond.selects RX0 yX0_addLawful yX0_addLawful, Cond.initialized RX0, Cond.code yX0_addLawful cX0_addLawful 2 none, Cond.methodLink RX0 44 yX0_placeFrom, Cond.instanceMethod yX0_placeFrom, Cond.selects RX0 yX0_placeFrom yX0_placeFrom, Cond.code yX0_placeFrom cX0_placeFrom 5 none, Cond.fieldLink RX0 37 "CupDraw$Bowl" "teams" "I"]
def wsX2_results_r2 : List Cond := [Cond.fieldLink RX0 30 "CupDraw$Bowl" "groups" "I", Cond.methodLink RX0 48 yX1_add, Cond.instanceMethod yX1_add, Cond.selects RX1 yX1_add yX1_add, Cond.code yX1_add cX1_add 2 none, Cond.fieldLink RX1 9 "CupDraw$ResultList" "items" "[I", Cond.methodLink RX0 53 yX0_placeIn, Cond.instanceMethod yX0_placeIn, Cond.selects RX0 yX0_placeIn yX0_placeIn, Cond.code yX0_placeIn cX0_placeIn 5 none, Cond.fieldLink RX0 27 "CupDraw$Bowl" "members" "[I", Cond.methodLink RX0 57 yX0_admits, Cond.instanceMethod yX0_admits, Cond.selects RX0 yX0_admits yX0_admits, Cond.code yX0_admits cX0_admits 3 (some .boolean), Cond.fieldLink RX0 24 "CupDraw$Bowl" "potMates" "[I", Cond.fieldLink RX0 18 "CupDraw$Bowl" "apart" "[I", Cond.fieldLink RX0 21 "CupDraw$Bowl" "otherDays" "[I", Cond.fieldLink RX0 9 "CupDraw$Bowl" "regions" "[I", Cond.fieldLink RX0 15 "CupDraw$Bowl" "bounds" "[I", Cond.methodLink RX0 65 yX0_playersOnDay, Cond.instanceMethod yX0_playersOnDay, Cond.selects RX0 yX0_playersOnDay yX0_playersOnDay, Cond.code yX0_playersOnDay cX0_playersOnDay 4 (some .int)]
def wsX2_results_r3 : List Cond := [Cond.methodLink RX0 69 yX0_countOfRegion, Cond.instanceMethod yX0_countOfRegion, Cond.selects RX0 yX0_countOfRegion yX0_countOfRegion, Cond.code yX0_countOfRegion cX0_countOfRegion 5 (some .int), Cond.methodLink RX0 61 yX1_with, Cond.static yX1_with, Cond.code yX1_with cX1_with 3 (some .int)]
def wsX2_results : List Cond := .code yX2_results cX2_results 1 (some .int) :: ((wsX2_results_r1 ++ (wsX2_results_r2 ++ wsX2_results_r3)) ++ wsX10 ++ wsX20 ++ wsX00)
def wsX2_requireTeamAndGroup : List Cond := .code yX2_requireTeamAndGroup cX2_requireTeamAndGroup 3 none :: ([.classLink RX2 58 "java/lang/IndexOutOfBoundsException", .initialized "java/lang/IndexOutOfBoundsException", .fieldLink RX2 10 "CupDraw" "bowl" "LCupDraw$Bowl;", .methodLink RX2 51 yX0_hasTeam, .instanceMethod yX0_hasTeam, .selects RX0 yX0_hasTeam yX0_hasTeam, .initialized RX0, .code yX0_hasTeam cX0_hasTeam 2 (some .boolean), .fieldLink RX0 37 "CupDraw$Bowl" "teams" "I", .methodLink RX2 139 yX0_hasGroup, .instanceMethod yX0_hasGroup, .selects RX0 yX0_hasGroup yX0_hasGroup, .code yX0_hasGroup cX0_hasGroup 2 (some .boolean), .fieldLink RX0 30 "CupDraw$Bowl" "groups" "I"] ++ wsX20 ++ wsX00 ++ (vx_atS RX2 62 "java/lang/IndexOutOfBoundsException" ["java/lang/RuntimeException", "java/lang/Exception"]).filter goodWord)
def wsX2_fits_r1 : List Cond := [Cond.methodLink RX2 150 yX2_requireTeamAndGroup, Cond.instanceMethod yX2_requireTeamAndGroup, Cond.selects RX2 yX2_requireTeamAndGroup yX2_requireTeamAndGroup, Cond.initialized RX2, Cond.code yX2_requireTeamAndGroup cX2_requireTeamAndGroup 3 none, Cond.classLink RX2 58 "java/lang/IndexOutOfBoundsException", Cond.initialized "java/lang/IndexOutOfBoundsException", Cond.fieldLink RX2 10 "CupDraw" "bowl" "LCupDraw$Bowl;", Cond.methodLink RX2 51 yX0_hasTeam, Cond.instanceMethod yX0_hasTeam, Cond.selects RX0 yX0_hasTeam yX0_hasTeam, Cond.initialized RX0, Cond.code yX0_hasTeam cX0_hasTeam 2 (some .boolean), Cond.fieldLink RX0 37 "CupDraw$Bowl" "teams" "I", Cond.methodLink RX2 139 yX0_hasGroup, Cond.instanceMethod yX0_hasGroup, Cond.selects RX0 yX0_hasGroup yX0_hasGroup, Cond.code yX0_hasGroup cX0_hasGroup 2 (some .boolean), Cond.fieldLink RX0 30 "CupDraw$Bowl" "groups" "I", Cond.methodLink RX2 95 yX2_openResults, Cond.instanceMethod yX2_openResults, Cond.selects RX2 yX2_openResults yX2_openResults, Cond.code yX2_openResults cX2_openResults 1 (some (.object "CupDraw$ResultList")), Cond.fieldLink RX2 186 "CupDraw" "isOpenListFresh" "Z"]
def wsX2_fits_r2 : List Cond := [Cond.fieldLink RX2 19 "CupDraw" "openList" "LCupDraw$ResultList;", Cond.methodLink RX2 189 yX1_clear, Cond.instanceMethod yX1_clear, Cond.selects RX1 yX1_clear yX1_clear, Cond.initialized RX1, Cond.code yX1_clear cX1_clear 1 none, Cond.fieldLink RX1 15 "CupDraw$ResultList" "size" "I", Cond.methodLink RX2 192 yX0_addLawful, Cond.instanceMethod yX0_addLawful, Cond.selects RX0 yX0_addLawful yX0_addLawful, Cond.code yX0_addLawful cX0_addLawful 2 none, Cond.methodLink RX0 44 yX0_placeFrom, Cond.instanceMethod yX0_placeFrom, Cond.selects RX0 yX0_placeFrom yX0_placeFrom, Cond.code yX0_placeFrom cX0_placeFrom 5 none, Cond.methodLink RX0 48 yX1_add, Cond.instanceMethod yX1_add, Cond.selects RX1 yX1_add yX1_add, Cond.code yX1_add cX1_add 2 none, Cond.fieldLink RX1 9 "CupDraw$ResultList" "items" "[I", Cond.methodLink RX0 53 yX0_placeIn, Cond.instanceMethod yX0_placeIn, Cond.selects RX0 yX0_placeIn yX0_placeIn, Cond.code yX0_placeIn cX0_placeIn 5 none]
def wsX2_fits_r3 : List Cond := [Cond.fieldLink RX0 27 "CupDraw$Bowl" "members" "[I", Cond.methodLink RX0 57 yX0_admits, Cond.instanceMethod yX0_admits, Cond.selects RX0 yX0_admits yX0_admits, Cond.code yX0_admits cX0_admits 3 (some .boolean), Cond.fieldLink RX0 24 "CupDraw$Bowl" "potMates" "[I", Cond.fieldLink RX0 18 "CupDraw$Bowl" "apart" "[I", Cond.fieldLink RX0 21 "CupDraw$Bowl" "otherDays" "[I", Cond.fieldLink RX0 9 "CupDraw$Bowl" "regions" "[I", Cond.fieldLink RX0 15 "CupDraw$Bowl" "bounds" "[I", Cond.methodLink RX0 65 yX0_playersOnDay, Cond.instanceMethod yX0_playersOnDay, Cond.selects RX0 yX0_playersOnDay yX0_playersOnDay, Cond.code yX0_playersOnDay cX0_playersOnDay 4 (some .int), Cond.methodLink RX0 69 yX0_countOfRegion, Cond.instanceMethod yX0_countOfRegion, Cond.selects RX0 yX0_countOfRegion yX0_countOfRegion, Cond.code yX0_countOfRegion cX0_countOfRegion 5 (some .int), Cond.methodLink RX0 61 yX1_with, Cond.static yX1_with, Cond.code yX1_with cX1_with 3 (some .int), Cond.methodLink RX2 153 yX1_countInGroup, Cond.instanceMethod yX1_countInGroup, Cond.selects RX1 yX1_countInGroup yX1_countInGroup]
def wsX2_fits_r4 : List Cond := [Cond.code yX1_countInGroup cX1_countInGroup 5 (some .int), Cond.methodLink RX1 19 yX1_groupIn, Cond.static yX1_groupIn, Cond.code yX1_groupIn cX1_groupIn 2 (some .int)]
def wsX2_fits : List Cond := .code yX2_fits cX2_fits 3 (some .boolean) :: ((wsX2_fits_r1 ++ (wsX2_fits_r2 ++ (wsX2_fits_r3 ++ wsX2_fits_r4))) ++ wsX20 ++ wsX00 ++ wsX10 ++ (vx_atS RX2 62 "java/lang/IndexOutOfBoundsException" ["java/lang/RuntimeException", "java/lang/Exception"]).filter goodWord)
def wsX2_forced_r1 : List Cond := [Cond.methodLink RX2 136 yX2_requireTeam, Cond.instanceMethod yX2_requireTeam, Cond.selects RX2 yX2_requireTeam yX2_requireTeam, Cond.initialized RX2, Cond.code yX2_requireTeam cX2_requireTeam 2 none, Cond.classLink RX2 58 "java/lang/IndexOutOfBoundsException", Cond.initialized "java/lang/IndexOutOfBoundsException", Cond.fieldLink RX2 10 "CupDraw" "bowl" "LCupDraw$Bowl;", Cond.methodLink RX2 51 yX0_hasTeam, Cond.instanceMethod yX0_hasTeam, Cond.selects RX0 yX0_hasTeam yX0_hasTeam, Cond.initialized RX0, Cond.code yX0_hasTeam cX0_hasTeam 2 (some .boolean), Cond.fieldLink RX0 37 "CupDraw$Bowl" "teams" "I", Cond.methodLink RX2 95 yX2_openResults, Cond.instanceMethod yX2_openResults, Cond.selects RX2 yX2_openResults yX2_openResults, Cond.code yX2_openResults cX2_openResults 1 (some (.object "CupDraw$ResultList")), Cond.fieldLink RX2 186 "CupDraw" "isOpenListFresh" "Z", Cond.fieldLink RX2 19 "CupDraw" "openList" "LCupDraw$ResultList;", Cond.methodLink RX2 189 yX1_clear, Cond.instanceMethod yX1_clear, Cond.selects RX1 yX1_clear yX1_clear, Cond.initialized RX1]
def wsX2_forced_r2 : List Cond := [Cond.code yX1_clear cX1_clear 1 none, Cond.fieldLink RX1 15 "CupDraw$ResultList" "size" "I", Cond.methodLink RX2 192 yX0_addLawful, Cond.instanceMethod yX0_addLawful, Cond.selects RX0 yX0_addLawful yX0_addLawful, Cond.code yX0_addLawful cX0_addLawful 2 none, Cond.methodLink RX0 44 yX0_placeFrom, Cond.instanceMethod yX0_placeFrom, Cond.selects RX0 yX0_placeFrom yX0_placeFrom, Cond.code yX0_placeFrom cX0_placeFrom 5 none, Cond.fieldLink RX0 30 "CupDraw$Bowl" "groups" "I", Cond.methodLink RX0 48 yX1_add, Cond.instanceMethod yX1_add, Cond.selects RX1 yX1_add yX1_add, Cond.code yX1_add cX1_add 2 none, Cond.fieldLink RX1 9 "CupDraw$ResultList" "items" "[I", Cond.methodLink RX0 53 yX0_placeIn, Cond.instanceMethod yX0_placeIn, Cond.selects RX0 yX0_placeIn yX0_placeIn, Cond.code yX0_placeIn cX0_placeIn 5 none, Cond.fieldLink RX0 27 "CupDraw$Bowl" "members" "[I", Cond.methodLink RX0 57 yX0_admits, Cond.instanceMethod yX0_admits, Cond.selects RX0 yX0_admits yX0_admits]
def wsX2_forced_r3 : List Cond := [Cond.code yX0_admits cX0_admits 3 (some .boolean), Cond.fieldLink RX0 24 "CupDraw$Bowl" "potMates" "[I", Cond.fieldLink RX0 18 "CupDraw$Bowl" "apart" "[I", Cond.fieldLink RX0 21 "CupDraw$Bowl" "otherDays" "[I", Cond.fieldLink RX0 9 "CupDraw$Bowl" "regions" "[I", Cond.fieldLink RX0 15 "CupDraw$Bowl" "bounds" "[I", Cond.methodLink RX0 65 yX0_playersOnDay, Cond.instanceMethod yX0_playersOnDay, Cond.selects RX0 yX0_playersOnDay yX0_playersOnDay, Cond.code yX0_playersOnDay cX0_playersOnDay 4 (some .int), Cond.methodLink RX0 69 yX0_countOfRegion, Cond.instanceMethod yX0_countOfRegion, Cond.selects RX0 yX0_countOfRegion yX0_countOfRegion, Cond.code yX0_countOfRegion cX0_countOfRegion 5 (some .int), Cond.methodLink RX0 61 yX1_with, Cond.static yX1_with, Cond.code yX1_with cX1_with 3 (some .int), Cond.methodLink RX2 157 yX1_lowestGroup, Cond.instanceMethod yX1_lowestGroup, Cond.selects RX1 yX1_lowestGroup yX1_lowestGroup, Cond.code yX1_lowestGroup cX1_lowestGroup 5 (some .int), Cond.methodLink RX1 19 yX1_groupIn, Cond.static yX1_groupIn, Cond.code yX1_groupIn cX1_groupIn 2 (some .int)]
def wsX2_forced_r4 : List Cond := [Cond.methodLink RX2 153 yX1_countInGroup, Cond.instanceMethod yX1_countInGroup, Cond.selects RX1 yX1_countInGroup yX1_countInGroup, Cond.code yX1_countInGroup cX1_countInGroup 5 (some .int)]
def wsX2_forced : List Cond := .code yX2_forced cX2_forced 5 (some .int) :: ((wsX2_forced_r1 ++ (wsX2_forced_r2 ++ (wsX2_forced_r3 ++ wsX2_forced_r4))) ++ wsX10 ++ wsX20 ++ wsX00 ++ (vx_atS RX2 62 "java/lang/IndexOutOfBoundsException" ["java/lang/RuntimeException", "java/lang/Exception"]).filter goodWord)
def wsX2_evenly_r1 : List Cond := [Cond.methodLink RX2 150 yX2_requireTeamAndGroup, Cond.instanceMethod yX2_requireTeamAndGroup, Cond.selects RX2 yX2_requireTeamAndGroup yX2_requireTeamAndGroup, Cond.initialized RX2, Cond.code yX2_requireTeamAndGroup cX2_requireTeamAndGroup 3 none, Cond.classLink RX2 58 "java/lang/IndexOutOfBoundsException", Cond.initialized "java/lang/IndexOutOfBoundsException", Cond.fieldLink RX2 10 "CupDraw" "bowl" "LCupDraw$Bowl;", Cond.methodLink RX2 51 yX0_hasTeam, Cond.instanceMethod yX0_hasTeam, Cond.selects RX0 yX0_hasTeam yX0_hasTeam, Cond.initialized RX0, Cond.code yX0_hasTeam cX0_hasTeam 2 (some .boolean), Cond.fieldLink RX0 37 "CupDraw$Bowl" "teams" "I", Cond.methodLink RX2 139 yX0_hasGroup, Cond.instanceMethod yX0_hasGroup, Cond.selects RX0 yX0_hasGroup yX0_hasGroup, Cond.code yX0_hasGroup cX0_hasGroup 2 (some .boolean), Cond.fieldLink RX0 30 "CupDraw$Bowl" "groups" "I", Cond.methodLink RX2 95 yX2_openResults, Cond.instanceMethod yX2_openResults, Cond.selects RX2 yX2_openResults yX2_openResults, Cond.code yX2_openResults cX2_openResults 1 (some (.object "CupDraw$ResultList")), Cond.fieldLink RX2 186 "CupDraw" "isOpenListFresh" "Z"]
def wsX2_evenly_r2 : List Cond := [Cond.fieldLink RX2 19 "CupDraw" "openList" "LCupDraw$ResultList;", Cond.methodLink RX2 189 yX1_clear, Cond.instanceMethod yX1_clear, Cond.selects RX1 yX1_clear yX1_clear, Cond.initialized RX1, Cond.code yX1_clear cX1_clear 1 none, Cond.fieldLink RX1 15 "CupDraw$ResultList" "size" "I", Cond.methodLink RX2 192 yX0_addLawful, Cond.instanceMethod yX0_addLawful, Cond.selects RX0 yX0_addLawful yX0_addLawful, Cond.code yX0_addLawful cX0_addLawful 2 none, Cond.methodLink RX0 44 yX0_placeFrom, Cond.instanceMethod yX0_placeFrom, Cond.selects RX0 yX0_placeFrom yX0_placeFrom, Cond.code yX0_placeFrom cX0_placeFrom 5 none, Cond.methodLink RX0 48 yX1_add, Cond.instanceMethod yX1_add, Cond.selects RX1 yX1_add yX1_add, Cond.code yX1_add cX1_add 2 none, Cond.fieldLink RX1 9 "CupDraw$ResultList" "items" "[I", Cond.methodLink RX0 53 yX0_placeIn, Cond.instanceMethod yX0_placeIn, Cond.selects RX0 yX0_placeIn yX0_placeIn, Cond.code yX0_placeIn cX0_placeIn 5 none]
def wsX2_evenly_r3 : List Cond := [Cond.fieldLink RX0 27 "CupDraw$Bowl" "members" "[I", Cond.methodLink RX0 57 yX0_admits, Cond.instanceMethod yX0_admits, Cond.selects RX0 yX0_admits yX0_admits, Cond.code yX0_admits cX0_admits 3 (some .boolean), Cond.fieldLink RX0 24 "CupDraw$Bowl" "potMates" "[I", Cond.fieldLink RX0 18 "CupDraw$Bowl" "apart" "[I", Cond.fieldLink RX0 21 "CupDraw$Bowl" "otherDays" "[I", Cond.fieldLink RX0 9 "CupDraw$Bowl" "regions" "[I", Cond.fieldLink RX0 15 "CupDraw$Bowl" "bounds" "[I", Cond.methodLink RX0 65 yX0_playersOnDay, Cond.instanceMethod yX0_playersOnDay, Cond.selects RX0 yX0_playersOnDay yX0_playersOnDay, Cond.code yX0_playersOnDay cX0_playersOnDay 4 (some .int), Cond.methodLink RX0 69 yX0_countOfRegion, Cond.instanceMethod yX0_countOfRegion, Cond.selects RX0 yX0_countOfRegion yX0_countOfRegion, Cond.code yX0_countOfRegion cX0_countOfRegion 5 (some .int), Cond.methodLink RX0 61 yX1_with, Cond.static yX1_with, Cond.code yX1_with cX1_with 3 (some .int), Cond.methodLink RX2 153 yX1_countInGroup, Cond.instanceMethod yX1_countInGroup, Cond.selects RX1 yX1_countInGroup yX1_countInGroup]
def wsX2_evenly_r4 : List Cond := [Cond.code yX1_countInGroup cX1_countInGroup 5 (some .int), Cond.methodLink RX1 19 yX1_groupIn, Cond.static yX1_groupIn, Cond.code yX1_groupIn cX1_groupIn 2 (some .int)]
def wsX2_evenly : List Cond := .code yX2_evenly cX2_evenly 3 (some .int) :: ((wsX2_evenly_r1 ++ (wsX2_evenly_r2 ++ (wsX2_evenly_r3 ++ wsX2_evenly_r4))) ++ wsX20 ++ wsX00 ++ wsX10 ++ (vx_atS RX2 62 "java/lang/IndexOutOfBoundsException" ["java/lang/RuntimeException", "java/lang/Exception"]).filter goodWord)
def wsX2_factorial : List Cond := .code yX2_factorial cX2_factorial 3 (some .int) :: ([])
def wsX2_orders : List Cond := .code yX2_orders cX2_orders 3 (some .int) :: ([.fieldLink RX2 10 "CupDraw" "bowl" "LCupDraw$Bowl;", .methodLink RX2 130 yX2_countLeft, .instanceMethod yX2_countLeft, .selects RX2 yX2_countLeft yX2_countLeft, .initialized RX2, .code yX2_countLeft cX2_countLeft 5 (some .int), .fieldLink RX2 26 "CupDraw" "seats" "[I", .methodLink RX2 160 yX2_factorial, .static yX2_factorial, .code yX2_factorial cX2_factorial 3 (some .int)] ++ wsX20 ++ wsX00)
def wsX2_followBall_r1 : List Cond := [Cond.methodLink RX2 117 yX2_seat, Cond.instanceMethod yX2_seat, Cond.selects RX2 yX2_seat yX2_seat, Cond.initialized RX2, Cond.code yX2_seat cX2_seat 3 none, Cond.fieldLink RX2 19 "CupDraw" "openList" "LCupDraw$ResultList;", Cond.fieldLink RX2 33 "CupDraw" "openBefore" "[I", Cond.fieldLink RX2 92 "CupDraw" "drawnCount" "I", Cond.fieldLink RX2 26 "CupDraw" "seats" "[I", Cond.fieldLink RX2 30 "CupDraw" "drawnTeams" "[I", Cond.methodLink RX2 157 yX1_lowestGroup, Cond.instanceMethod yX1_lowestGroup, Cond.selects RX1 yX1_lowestGroup yX1_lowestGroup, Cond.initialized RX1, Cond.code yX1_lowestGroup cX1_lowestGroup 5 (some .int), Cond.fieldLink RX1 15 "CupDraw$ResultList" "size" "I", Cond.fieldLink RX1 9 "CupDraw$ResultList" "items" "[I", Cond.methodLink RX1 19 yX1_groupIn, Cond.static yX1_groupIn, Cond.code yX1_groupIn cX1_groupIn 2 (some .int), Cond.methodLink RX2 180 yX1_narrow, Cond.instanceMethod yX1_narrow, Cond.selects RX1 yX1_narrow yX1_narrow, Cond.code yX1_narrow cX1_narrow 6 none]
def wsX2_followBall_r2 : List Cond := [Cond.methodLink RX2 196 yX2_followOrders, Cond.instanceMethod yX2_followOrders, Cond.selects RX2 yX2_followOrders yX2_followOrders, Cond.methodLink RX2 123 yX2_unseat, Cond.instanceMethod yX2_unseat, Cond.selects RX2 yX2_unseat yX2_unseat, Cond.code yX2_unseat cX2_unseat 2 (some .int), Cond.methodLink RX2 183 yX1_widen, Cond.instanceMethod yX1_widen, Cond.selects RX1 yX1_widen yX1_widen, Cond.code yX1_widen cX1_widen 2 none, Cond.code yX2_followOrders cX2_followOrders 4 none, Cond.fieldLink RX2 10 "CupDraw" "bowl" "LCupDraw$Bowl;", Cond.fieldLink RX2 23 "CupDraw" "endList" "LCupDraw$ResultList;", Cond.methodLink RX2 199 yX1_first, Cond.instanceMethod yX1_first, Cond.selects RX1 yX1_first yX1_first, Cond.code yX1_first cX1_first 1 (some .int), Cond.methodLink RX2 202 yX1_add, Cond.instanceMethod yX1_add, Cond.selects RX1 yX1_add yX1_add, Cond.code yX1_add cX1_add 2 none, Cond.methodLink RX2 205 yX2_left, Cond.instanceMethod yX2_left]
def wsX2_followBall_r3 : List Cond := [Cond.selects RX2 yX2_left yX2_left, Cond.code yX2_left cX2_left 2 (some .int), Cond.methodLink RX2 133 yX2_pot, Cond.instanceMethod yX2_pot, Cond.selects RX2 yX2_pot yX2_pot, Cond.code yX2_pot cX2_pot 2 (some .int), Cond.methodLink RX2 130 yX2_countLeft, Cond.instanceMethod yX2_countLeft, Cond.selects RX2 yX2_countLeft yX2_countLeft, Cond.code yX2_countLeft cX2_countLeft 5 (some .int), Cond.methodLink RX2 107 yX2_findBall, Cond.instanceMethod yX2_findBall, Cond.selects RX2 yX2_findBall yX2_findBall, Cond.code yX2_findBall cX2_findBall 6 (some .int), Cond.methodLink RX2 208 yX2_followBall, Cond.instanceMethod yX2_followBall, Cond.selects RX2 yX2_followBall yX2_followBall]
def wsX2_followBall : List Cond := .code yX2_followBall cX2_followBall 3 none :: ((wsX2_followBall_r1 ++ (wsX2_followBall_r2 ++ wsX2_followBall_r3)) ++ wsX20 ++ wsX10 ++ wsX00)
def wsX2_followOrders_r1 : List Cond := [Cond.fieldLink RX2 10 "CupDraw" "bowl" "LCupDraw$Bowl;", Cond.fieldLink RX2 23 "CupDraw" "endList" "LCupDraw$ResultList;", Cond.fieldLink RX2 19 "CupDraw" "openList" "LCupDraw$ResultList;", Cond.methodLink RX2 199 yX1_first, Cond.instanceMethod yX1_first, Cond.selects RX1 yX1_first yX1_first, Cond.initialized RX1, Cond.code yX1_first cX1_first 1 (some .int), Cond.fieldLink RX1 9 "CupDraw$ResultList" "items" "[I", Cond.methodLink RX2 202 yX1_add, Cond.instanceMethod yX1_add, Cond.selects RX1 yX1_add yX1_add, Cond.code yX1_add cX1_add 2 none, Cond.fieldLink RX1 15 "CupDraw$ResultList" "size" "I", Cond.methodLink RX2 205 yX2_left, Cond.instanceMethod yX2_left, Cond.selects RX2 yX2_left yX2_left, Cond.initialized RX2, Cond.code yX2_left cX2_left 2 (some .int), Cond.methodLink RX2 133 yX2_pot, Cond.instanceMethod yX2_pot, Cond.selects RX2 yX2_pot yX2_pot, Cond.code yX2_pot cX2_pot 2 (some .int), Cond.methodLink RX2 130 yX2_countLeft]
def wsX2_followOrders_r2 : List Cond := [Cond.instanceMethod yX2_countLeft, Cond.selects RX2 yX2_countLeft yX2_countLeft, Cond.code yX2_countLeft cX2_countLeft 5 (some .int), Cond.fieldLink RX2 26 "CupDraw" "seats" "[I", Cond.methodLink RX2 107 yX2_findBall, Cond.instanceMethod yX2_findBall, Cond.selects RX2 yX2_findBall yX2_findBall, Cond.code yX2_findBall cX2_findBall 6 (some .int), Cond.methodLink RX2 208 yX2_followBall, Cond.instanceMethod yX2_followBall, Cond.selects RX2 yX2_followBall yX2_followBall, Cond.code yX2_followBall cX2_followBall 3 none, Cond.methodLink RX2 117 yX2_seat, Cond.instanceMethod yX2_seat, Cond.selects RX2 yX2_seat yX2_seat, Cond.code yX2_seat cX2_seat 3 none, Cond.fieldLink RX2 33 "CupDraw" "openBefore" "[I", Cond.fieldLink RX2 92 "CupDraw" "drawnCount" "I", Cond.fieldLink RX2 30 "CupDraw" "drawnTeams" "[I", Cond.methodLink RX2 157 yX1_lowestGroup, Cond.instanceMethod yX1_lowestGroup, Cond.selects RX1 yX1_lowestGroup yX1_lowestGroup, Cond.code yX1_lowestGroup cX1_lowestGroup 5 (some .int), Cond.methodLink RX1 19 yX1_groupIn]
def wsX2_followOrders_r3 : List Cond := [Cond.static yX1_groupIn, Cond.code yX1_groupIn cX1_groupIn 2 (some .int), Cond.methodLink RX2 180 yX1_narrow, Cond.instanceMethod yX1_narrow, Cond.selects RX1 yX1_narrow yX1_narrow, Cond.code yX1_narrow cX1_narrow 6 none, Cond.methodLink RX2 196 yX2_followOrders, Cond.instanceMethod yX2_followOrders, Cond.selects RX2 yX2_followOrders yX2_followOrders, Cond.methodLink RX2 123 yX2_unseat, Cond.instanceMethod yX2_unseat, Cond.selects RX2 yX2_unseat yX2_unseat, Cond.code yX2_unseat cX2_unseat 2 (some .int), Cond.methodLink RX2 183 yX1_widen, Cond.instanceMethod yX1_widen, Cond.selects RX1 yX1_widen yX1_widen, Cond.code yX1_widen cX1_widen 2 none]
def wsX2_followOrders : List Cond := .code yX2_followOrders cX2_followOrders 4 none :: ((wsX2_followOrders_r1 ++ (wsX2_followOrders_r2 ++ wsX2_followOrders_r3)) ++ wsX20 ++ wsX10 ++ wsX00)
def wsX2_endResults_r1 : List Cond := [Cond.fieldLink RX2 113 "CupDraw" "isEndListFresh" "Z", Cond.fieldLink RX2 23 "CupDraw" "endList" "LCupDraw$ResultList;", Cond.fieldLink RX2 92 "CupDraw" "drawnCount" "I", Cond.methodLink RX2 189 yX1_clear, Cond.instanceMethod yX1_clear, Cond.selects RX1 yX1_clear yX1_clear, Cond.initialized RX1, Cond.code yX1_clear cX1_clear 1 none, Cond.fieldLink RX1 15 "CupDraw$ResultList" "size" "I", Cond.methodLink RX2 95 yX2_openResults, Cond.instanceMethod yX2_openResults, Cond.selects RX2 yX2_openResults yX2_openResults, Cond.initialized RX2, Cond.code yX2_openResults cX2_openResults 1 (some (.object "CupDraw$ResultList")), Cond.fieldLink RX2 186 "CupDraw" "isOpenListFresh" "Z", Cond.fieldLink RX2 19 "CupDraw" "openList" "LCupDraw$ResultList;", Cond.fieldLink RX2 10 "CupDraw" "bowl" "LCupDraw$Bowl;", Cond.methodLink RX2 192 yX0_addLawful, Cond.instanceMethod yX0_addLawful, Cond.selects RX0 yX0_addLawful yX0_addLawful, Cond.initialized RX0, Cond.code yX0_addLawful cX0_addLawful 2 none, Cond.methodLink RX0 44 yX0_placeFrom, Cond.instanceMethod yX0_placeFrom]
def wsX2_endResults_r2 : List Cond := [Cond.selects RX0 yX0_placeFrom yX0_placeFrom, Cond.code yX0_placeFrom cX0_placeFrom 5 none, Cond.fieldLink RX0 37 "CupDraw$Bowl" "teams" "I", Cond.fieldLink RX0 30 "CupDraw$Bowl" "groups" "I", Cond.methodLink RX0 48 yX1_add, Cond.instanceMethod yX1_add, Cond.selects RX1 yX1_add yX1_add, Cond.code yX1_add cX1_add 2 none, Cond.fieldLink RX1 9 "CupDraw$ResultList" "items" "[I", Cond.methodLink RX0 53 yX0_placeIn, Cond.instanceMethod yX0_placeIn, Cond.selects RX0 yX0_placeIn yX0_placeIn, Cond.code yX0_placeIn cX0_placeIn 5 none, Cond.fieldLink RX0 27 "CupDraw$Bowl" "members" "[I", Cond.methodLink RX0 57 yX0_admits, Cond.instanceMethod yX0_admits, Cond.selects RX0 yX0_admits yX0_admits, Cond.code yX0_admits cX0_admits 3 (some .boolean), Cond.fieldLink RX0 24 "CupDraw$Bowl" "potMates" "[I", Cond.fieldLink RX0 18 "CupDraw$Bowl" "apart" "[I", Cond.fieldLink RX0 21 "CupDraw$Bowl" "otherDays" "[I", Cond.fieldLink RX0 9 "CupDraw$Bowl" "regions" "[I", Cond.fieldLink RX0 15 "CupDraw$Bowl" "bounds" "[I", Cond.methodLink RX0 65 yX0_playersOnDay]
def wsX2_endResults_r3 : List Cond := [Cond.instanceMethod yX0_playersOnDay, Cond.selects RX0 yX0_playersOnDay yX0_playersOnDay, Cond.code yX0_playersOnDay cX0_playersOnDay 4 (some .int), Cond.methodLink RX0 69 yX0_countOfRegion, Cond.instanceMethod yX0_countOfRegion, Cond.selects RX0 yX0_countOfRegion yX0_countOfRegion, Cond.code yX0_countOfRegion cX0_countOfRegion 5 (some .int), Cond.methodLink RX0 61 yX1_with, Cond.static yX1_with, Cond.code yX1_with cX1_with 3 (some .int), Cond.methodLink RX2 196 yX2_followOrders, Cond.instanceMethod yX2_followOrders, Cond.selects RX2 yX2_followOrders yX2_followOrders, Cond.code yX2_followOrders cX2_followOrders 4 none, Cond.methodLink RX2 199 yX1_first, Cond.instanceMethod yX1_first, Cond.selects RX1 yX1_first yX1_first, Cond.code yX1_first cX1_first 1 (some .int), Cond.methodLink RX2 202 yX1_add, Cond.methodLink RX2 205 yX2_left, Cond.instanceMethod yX2_left, Cond.selects RX2 yX2_left yX2_left, Cond.code yX2_left cX2_left 2 (some .int), Cond.methodLink RX2 133 yX2_pot]
def wsX2_endResults_r4 : List Cond := [Cond.instanceMethod yX2_pot, Cond.selects RX2 yX2_pot yX2_pot, Cond.code yX2_pot cX2_pot 2 (some .int), Cond.methodLink RX2 130 yX2_countLeft, Cond.instanceMethod yX2_countLeft, Cond.selects RX2 yX2_countLeft yX2_countLeft, Cond.code yX2_countLeft cX2_countLeft 5 (some .int), Cond.fieldLink RX2 26 "CupDraw" "seats" "[I", Cond.methodLink RX2 107 yX2_findBall, Cond.instanceMethod yX2_findBall, Cond.selects RX2 yX2_findBall yX2_findBall, Cond.code yX2_findBall cX2_findBall 6 (some .int), Cond.methodLink RX2 208 yX2_followBall, Cond.instanceMethod yX2_followBall, Cond.selects RX2 yX2_followBall yX2_followBall, Cond.code yX2_followBall cX2_followBall 3 none, Cond.methodLink RX2 117 yX2_seat, Cond.instanceMethod yX2_seat, Cond.selects RX2 yX2_seat yX2_seat, Cond.code yX2_seat cX2_seat 3 none, Cond.fieldLink RX2 33 "CupDraw" "openBefore" "[I", Cond.fieldLink RX2 30 "CupDraw" "drawnTeams" "[I", Cond.methodLink RX2 157 yX1_lowestGroup, Cond.instanceMethod yX1_lowestGroup]
def wsX2_endResults_r5 : List Cond := [Cond.selects RX1 yX1_lowestGroup yX1_lowestGroup, Cond.code yX1_lowestGroup cX1_lowestGroup 5 (some .int), Cond.methodLink RX1 19 yX1_groupIn, Cond.static yX1_groupIn, Cond.code yX1_groupIn cX1_groupIn 2 (some .int), Cond.methodLink RX2 180 yX1_narrow, Cond.instanceMethod yX1_narrow, Cond.selects RX1 yX1_narrow yX1_narrow, Cond.code yX1_narrow cX1_narrow 6 none, Cond.methodLink RX2 123 yX2_unseat, Cond.instanceMethod yX2_unseat, Cond.selects RX2 yX2_unseat yX2_unseat, Cond.code yX2_unseat cX2_unseat 2 (some .int), Cond.methodLink RX2 183 yX1_widen, Cond.instanceMethod yX1_widen, Cond.selects RX1 yX1_widen yX1_widen, Cond.code yX1_widen cX1_widen 2 none]
def wsX2_endResults : List Cond := .code yX2_endResults cX2_endResults 1 (some (.object "CupDraw$ResultList")) :: ((wsX2_endResults_r1 ++ (wsX2_endResults_r2 ++ (wsX2_endResults_r3 ++ (wsX2_endResults_r4 ++ wsX2_endResults_r5)))) ++ wsX20 ++ wsX10 ++ wsX00)
def wsX2_chances_r1 : List Cond := [Cond.methodLink RX2 150 yX2_requireTeamAndGroup, Cond.instanceMethod yX2_requireTeamAndGroup, Cond.selects RX2 yX2_requireTeamAndGroup yX2_requireTeamAndGroup, Cond.initialized RX2, Cond.code yX2_requireTeamAndGroup cX2_requireTeamAndGroup 3 none, Cond.classLink RX2 58 "java/lang/IndexOutOfBoundsException", Cond.initialized "java/lang/IndexOutOfBoundsException", Cond.fieldLink RX2 10 "CupDraw" "bowl" "LCupDraw$Bowl;", Cond.methodLink RX2 51 yX0_hasTeam, Cond.instanceMethod yX0_hasTeam, Cond.selects RX0 yX0_hasTeam yX0_hasTeam, Cond.initialized RX0, Cond.code yX0_hasTeam cX0_hasTeam 2 (some .boolean), Cond.fieldLink RX0 37 "CupDraw$Bowl" "teams" "I", Cond.methodLink RX2 139 yX0_hasGroup, Cond.instanceMethod yX0_hasGroup, Cond.selects RX0 yX0_hasGroup yX0_hasGroup, Cond.code yX0_hasGroup cX0_hasGroup 2 (some .boolean), Cond.fieldLink RX0 30 "CupDraw$Bowl" "groups" "I", Cond.methodLink RX2 163 yX2_endResults, Cond.instanceMethod yX2_endResults, Cond.selects RX2 yX2_endResults yX2_endResults, Cond.code yX2_endResults cX2_endResults 1 (some (.object "CupDraw$ResultList")), Cond.fieldLink RX2 113 "CupDraw" "isEndListFresh" "Z"]
def wsX2_chances_r2 : List Cond := [Cond.fieldLink RX2 23 "CupDraw" "endList" "LCupDraw$ResultList;", Cond.fieldLink RX2 92 "CupDraw" "drawnCount" "I", Cond.methodLink RX2 189 yX1_clear, Cond.instanceMethod yX1_clear, Cond.selects RX1 yX1_clear yX1_clear, Cond.initialized RX1, Cond.code yX1_clear cX1_clear 1 none, Cond.fieldLink RX1 15 "CupDraw$ResultList" "size" "I", Cond.methodLink RX2 95 yX2_openResults, Cond.instanceMethod yX2_openResults, Cond.selects RX2 yX2_openResults yX2_openResults, Cond.code yX2_openResults cX2_openResults 1 (some (.object "CupDraw$ResultList")), Cond.fieldLink RX2 186 "CupDraw" "isOpenListFresh" "Z", Cond.fieldLink RX2 19 "CupDraw" "openList" "LCupDraw$ResultList;", Cond.methodLink RX2 192 yX0_addLawful, Cond.instanceMethod yX0_addLawful, Cond.selects RX0 yX0_addLawful yX0_addLawful, Cond.code yX0_addLawful cX0_addLawful 2 none, Cond.methodLink RX0 44 yX0_placeFrom, Cond.instanceMethod yX0_placeFrom, Cond.selects RX0 yX0_placeFrom yX0_placeFrom, Cond.code yX0_placeFrom cX0_placeFrom 5 none, Cond.methodLink RX0 48 yX1_add, Cond.instanceMethod yX1_add]
def wsX2_chances_r3 : List Cond := [Cond.selects RX1 yX1_add yX1_add, Cond.code yX1_add cX1_add 2 none, Cond.fieldLink RX1 9 "CupDraw$ResultList" "items" "[I", Cond.methodLink RX0 53 yX0_placeIn, Cond.instanceMethod yX0_placeIn, Cond.selects RX0 yX0_placeIn yX0_placeIn, Cond.code yX0_placeIn cX0_placeIn 5 none, Cond.fieldLink RX0 27 "CupDraw$Bowl" "members" "[I", Cond.methodLink RX0 57 yX0_admits, Cond.instanceMethod yX0_admits, Cond.selects RX0 yX0_admits yX0_admits, Cond.code yX0_admits cX0_admits 3 (some .boolean), Cond.fieldLink RX0 24 "CupDraw$Bowl" "potMates" "[I", Cond.fieldLink RX0 18 "CupDraw$Bowl" "apart" "[I", Cond.fieldLink RX0 21 "CupDraw$Bowl" "otherDays" "[I", Cond.fieldLink RX0 9 "CupDraw$Bowl" "regions" "[I", Cond.fieldLink RX0 15 "CupDraw$Bowl" "bounds" "[I", Cond.methodLink RX0 65 yX0_playersOnDay, Cond.instanceMethod yX0_playersOnDay, Cond.selects RX0 yX0_playersOnDay yX0_playersOnDay, Cond.code yX0_playersOnDay cX0_playersOnDay 4 (some .int), Cond.methodLink RX0 69 yX0_countOfRegion, Cond.instanceMethod yX0_countOfRegion, Cond.selects RX0 yX0_countOfRegion yX0_countOfRegion]
def wsX2_chances_r4 : List Cond := [Cond.code yX0_countOfRegion cX0_countOfRegion 5 (some .int), Cond.methodLink RX0 61 yX1_with, Cond.static yX1_with, Cond.code yX1_with cX1_with 3 (some .int), Cond.methodLink RX2 196 yX2_followOrders, Cond.instanceMethod yX2_followOrders, Cond.selects RX2 yX2_followOrders yX2_followOrders, Cond.code yX2_followOrders cX2_followOrders 4 none, Cond.methodLink RX2 199 yX1_first, Cond.instanceMethod yX1_first, Cond.selects RX1 yX1_first yX1_first, Cond.code yX1_first cX1_first 1 (some .int), Cond.methodLink RX2 202 yX1_add, Cond.methodLink RX2 205 yX2_left, Cond.instanceMethod yX2_left, Cond.selects RX2 yX2_left yX2_left, Cond.code yX2_left cX2_left 2 (some .int), Cond.methodLink RX2 133 yX2_pot, Cond.instanceMethod yX2_pot, Cond.selects RX2 yX2_pot yX2_pot, Cond.code yX2_pot cX2_pot 2 (some .int), Cond.methodLink RX2 130 yX2_countLeft, Cond.instanceMethod yX2_countLeft, Cond.selects RX2 yX2_countLeft yX2_countLeft]
def wsX2_chances_r5 : List Cond := [Cond.code yX2_countLeft cX2_countLeft 5 (some .int), Cond.fieldLink RX2 26 "CupDraw" "seats" "[I", Cond.methodLink RX2 107 yX2_findBall, Cond.instanceMethod yX2_findBall, Cond.selects RX2 yX2_findBall yX2_findBall, Cond.code yX2_findBall cX2_findBall 6 (some .int), Cond.methodLink RX2 208 yX2_followBall, Cond.instanceMethod yX2_followBall, Cond.selects RX2 yX2_followBall yX2_followBall, Cond.code yX2_followBall cX2_followBall 3 none, Cond.methodLink RX2 117 yX2_seat, Cond.instanceMethod yX2_seat, Cond.selects RX2 yX2_seat yX2_seat, Cond.code yX2_seat cX2_seat 3 none, Cond.fieldLink RX2 33 "CupDraw" "openBefore" "[I", Cond.fieldLink RX2 30 "CupDraw" "drawnTeams" "[I", Cond.methodLink RX2 157 yX1_lowestGroup, Cond.instanceMethod yX1_lowestGroup, Cond.selects RX1 yX1_lowestGroup yX1_lowestGroup, Cond.code yX1_lowestGroup cX1_lowestGroup 5 (some .int), Cond.methodLink RX1 19 yX1_groupIn, Cond.static yX1_groupIn, Cond.code yX1_groupIn cX1_groupIn 2 (some .int), Cond.methodLink RX2 180 yX1_narrow]
def wsX2_chances_r6 : List Cond := [Cond.instanceMethod yX1_narrow, Cond.selects RX1 yX1_narrow yX1_narrow, Cond.code yX1_narrow cX1_narrow 6 none, Cond.methodLink RX2 123 yX2_unseat, Cond.instanceMethod yX2_unseat, Cond.selects RX2 yX2_unseat yX2_unseat, Cond.code yX2_unseat cX2_unseat 2 (some .int), Cond.methodLink RX2 183 yX1_widen, Cond.instanceMethod yX1_widen, Cond.selects RX1 yX1_widen yX1_widen, Cond.code yX1_widen cX1_widen 2 none, Cond.methodLink RX2 153 yX1_countInGroup, Cond.instanceMethod yX1_countInGroup, Cond.selects RX1 yX1_countInGroup yX1_countInGroup, Cond.code yX1_countInGroup cX1_countInGroup 5 (some .int)]
def wsX2_chances : List Cond := .code yX2_chances cX2_chances 3 (some .int) :: ((wsX2_chances_r1 ++ (wsX2_chances_r2 ++ (wsX2_chances_r3 ++ (wsX2_chances_r4 ++ (wsX2_chances_r5 ++ wsX2_chances_r6))))) ++ wsX20 ++ wsX00 ++ wsX10 ++ (vx_atS RX2 62 "java/lang/IndexOutOfBoundsException" ["java/lang/RuntimeException", "java/lang/Exception"]).filter goodWord)
def wsX2_pairings_r1 : List Cond := [Cond.methodLink RX2 136 yX2_requireTeam, Cond.instanceMethod yX2_requireTeam, Cond.selects RX2 yX2_requireTeam yX2_requireTeam, Cond.initialized RX2, Cond.code yX2_requireTeam cX2_requireTeam 2 none, Cond.classLink RX2 58 "java/lang/IndexOutOfBoundsException", Cond.initialized "java/lang/IndexOutOfBoundsException", Cond.fieldLink RX2 10 "CupDraw" "bowl" "LCupDraw$Bowl;", Cond.methodLink RX2 51 yX0_hasTeam, Cond.instanceMethod yX0_hasTeam, Cond.selects RX0 yX0_hasTeam yX0_hasTeam, Cond.initialized RX0, Cond.code yX0_hasTeam cX0_hasTeam 2 (some .boolean), Cond.fieldLink RX0 37 "CupDraw$Bowl" "teams" "I", Cond.methodLink RX2 163 yX2_endResults, Cond.instanceMethod yX2_endResults, Cond.selects RX2 yX2_endResults yX2_endResults, Cond.code yX2_endResults cX2_endResults 1 (some (.object "CupDraw$ResultList")), Cond.fieldLink RX2 113 "CupDraw" "isEndListFresh" "Z", Cond.fieldLink RX2 23 "CupDraw" "endList" "LCupDraw$ResultList;", Cond.fieldLink RX2 92 "CupDraw" "drawnCount" "I", Cond.methodLink RX2 189 yX1_clear, Cond.instanceMethod yX1_clear, Cond.selects RX1 yX1_clear yX1_clear]
def wsX2_pairings_r2 : List Cond := [Cond.initialized RX1, Cond.code yX1_clear cX1_clear 1 none, Cond.fieldLink RX1 15 "CupDraw$ResultList" "size" "I", Cond.methodLink RX2 95 yX2_openResults, Cond.instanceMethod yX2_openResults, Cond.selects RX2 yX2_openResults yX2_openResults, Cond.code yX2_openResults cX2_openResults 1 (some (.object "CupDraw$ResultList")), Cond.fieldLink RX2 186 "CupDraw" "isOpenListFresh" "Z", Cond.fieldLink RX2 19 "CupDraw" "openList" "LCupDraw$ResultList;", Cond.methodLink RX2 192 yX0_addLawful, Cond.instanceMethod yX0_addLawful, Cond.selects RX0 yX0_addLawful yX0_addLawful, Cond.code yX0_addLawful cX0_addLawful 2 none, Cond.methodLink RX0 44 yX0_placeFrom, Cond.instanceMethod yX0_placeFrom, Cond.selects RX0 yX0_placeFrom yX0_placeFrom, Cond.code yX0_placeFrom cX0_placeFrom 5 none, Cond.fieldLink RX0 30 "CupDraw$Bowl" "groups" "I", Cond.methodLink RX0 48 yX1_add, Cond.instanceMethod yX1_add, Cond.selects RX1 yX1_add yX1_add, Cond.code yX1_add cX1_add 2 none, Cond.fieldLink RX1 9 "CupDraw$ResultList" "items" "[I", Cond.methodLink RX0 53 yX0_placeIn]
def wsX2_pairings_r3 : List Cond := [Cond.instanceMethod yX0_placeIn, Cond.selects RX0 yX0_placeIn yX0_placeIn, Cond.code yX0_placeIn cX0_placeIn 5 none, Cond.fieldLink RX0 27 "CupDraw$Bowl" "members" "[I", Cond.methodLink RX0 57 yX0_admits, Cond.instanceMethod yX0_admits, Cond.selects RX0 yX0_admits yX0_admits, Cond.code yX0_admits cX0_admits 3 (some .boolean), Cond.fieldLink RX0 24 "CupDraw$Bowl" "potMates" "[I", Cond.fieldLink RX0 18 "CupDraw$Bowl" "apart" "[I", Cond.fieldLink RX0 21 "CupDraw$Bowl" "otherDays" "[I", Cond.fieldLink RX0 9 "CupDraw$Bowl" "regions" "[I", Cond.fieldLink RX0 15 "CupDraw$Bowl" "bounds" "[I", Cond.methodLink RX0 65 yX0_playersOnDay, Cond.instanceMethod yX0_playersOnDay, Cond.selects RX0 yX0_playersOnDay yX0_playersOnDay, Cond.code yX0_playersOnDay cX0_playersOnDay 4 (some .int), Cond.methodLink RX0 69 yX0_countOfRegion, Cond.instanceMethod yX0_countOfRegion, Cond.selects RX0 yX0_countOfRegion yX0_countOfRegion, Cond.code yX0_countOfRegion cX0_countOfRegion 5 (some .int), Cond.methodLink RX0 61 yX1_with, Cond.static yX1_with, Cond.code yX1_with cX1_with 3 (some .int)]
def wsX2_pairings_r4 : List Cond := [Cond.methodLink RX2 196 yX2_followOrders, Cond.instanceMethod yX2_followOrders, Cond.selects RX2 yX2_followOrders yX2_followOrders, Cond.code yX2_followOrders cX2_followOrders 4 none, Cond.methodLink RX2 199 yX1_first, Cond.instanceMethod yX1_first, Cond.selects RX1 yX1_first yX1_first, Cond.code yX1_first cX1_first 1 (some .int), Cond.methodLink RX2 202 yX1_add, Cond.methodLink RX2 205 yX2_left, Cond.instanceMethod yX2_left, Cond.selects RX2 yX2_left yX2_left, Cond.code yX2_left cX2_left 2 (some .int), Cond.methodLink RX2 133 yX2_pot, Cond.instanceMethod yX2_pot, Cond.selects RX2 yX2_pot yX2_pot, Cond.code yX2_pot cX2_pot 2 (some .int), Cond.methodLink RX2 130 yX2_countLeft, Cond.instanceMethod yX2_countLeft, Cond.selects RX2 yX2_countLeft yX2_countLeft, Cond.code yX2_countLeft cX2_countLeft 5 (some .int), Cond.fieldLink RX2 26 "CupDraw" "seats" "[I", Cond.methodLink RX2 107 yX2_findBall, Cond.instanceMethod yX2_findBall]
def wsX2_pairings_r5 : List Cond := [Cond.selects RX2 yX2_findBall yX2_findBall, Cond.code yX2_findBall cX2_findBall 6 (some .int), Cond.methodLink RX2 208 yX2_followBall, Cond.instanceMethod yX2_followBall, Cond.selects RX2 yX2_followBall yX2_followBall, Cond.code yX2_followBall cX2_followBall 3 none, Cond.methodLink RX2 117 yX2_seat, Cond.instanceMethod yX2_seat, Cond.selects RX2 yX2_seat yX2_seat, Cond.code yX2_seat cX2_seat 3 none, Cond.fieldLink RX2 33 "CupDraw" "openBefore" "[I", Cond.fieldLink RX2 30 "CupDraw" "drawnTeams" "[I", Cond.methodLink RX2 157 yX1_lowestGroup, Cond.instanceMethod yX1_lowestGroup, Cond.selects RX1 yX1_lowestGroup yX1_lowestGroup, Cond.code yX1_lowestGroup cX1_lowestGroup 5 (some .int), Cond.methodLink RX1 19 yX1_groupIn, Cond.static yX1_groupIn, Cond.code yX1_groupIn cX1_groupIn 2 (some .int), Cond.methodLink RX2 180 yX1_narrow, Cond.instanceMethod yX1_narrow, Cond.selects RX1 yX1_narrow yX1_narrow, Cond.code yX1_narrow cX1_narrow 6 none, Cond.methodLink RX2 123 yX2_unseat]
def wsX2_pairings_r6 : List Cond := [Cond.instanceMethod yX2_unseat, Cond.selects RX2 yX2_unseat yX2_unseat, Cond.code yX2_unseat cX2_unseat 2 (some .int), Cond.methodLink RX2 183 yX1_widen, Cond.instanceMethod yX1_widen, Cond.selects RX1 yX1_widen yX1_widen, Cond.code yX1_widen cX1_widen 2 none, Cond.methodLink RX2 166 yX1_countTogether, Cond.instanceMethod yX1_countTogether, Cond.selects RX1 yX1_countTogether yX1_countTogether, Cond.code yX1_countTogether cX1_countTogether 5 (some .int)]
def wsX2_pairings : List Cond := .code yX2_pairings cX2_pairings 3 (some .int) :: ((wsX2_pairings_r1 ++ (wsX2_pairings_r2 ++ (wsX2_pairings_r3 ++ (wsX2_pairings_r4 ++ (wsX2_pairings_r5 ++ wsX2_pairings_r6))))) ++ wsX20 ++ wsX00 ++ wsX10 ++ (vx_atS RX2 62 "java/lang/IndexOutOfBoundsException" ["java/lang/RuntimeException", "java/lang/Exception"]).filter goodWord)
def wsX3_begin : List Cond := .code yX3_begin cX3_begin 4 none :: ([.fieldLink RX3 55 "CupDrawModel" "groupMany" "I", .fieldLink RX3 58 "CupDrawModel" "potMany" "I", .fieldLink RX3 61 "CupDrawModel" "drawnMany" "I", .fieldLink RX3 7 "CupDrawModel" "regions" "[I", .fieldLink RX3 26 "CupDrawModel" "places" "[I", .fieldLink RX3 13 "CupDrawModel" "bounds" "[I", .fieldLink RX3 16 "CupDrawModel" "isApart" "[Z", .fieldLink RX3 20 "CupDrawModel" "isOther" "[Z"] ++ wsX30)
def wsX3_init_r1 : List Cond := [Cond.methodLink RX3 1 objectInit, Cond.instanceMethod objectInit, Cond.code objectInit ⟨#[0xb1]⟩ 1 none, Cond.arrayClass .int, Cond.fieldLink RX3 7 "CupDrawModel" "regions" "[I", Cond.fieldLink RX3 13 "CupDrawModel" "bounds" "[I", Cond.arrayClass .boolean, Cond.fieldLink RX3 16 "CupDrawModel" "isApart" "[Z", Cond.fieldLink RX3 20 "CupDrawModel" "isOther" "[Z", Cond.fieldLink RX3 23 "CupDrawModel" "drawnTeams" "[I", Cond.fieldLink RX3 26 "CupDrawModel" "places" "[I", Cond.fieldLink RX3 29 "CupDrawModel" "results" "[I", Cond.fieldLink RX3 32 "CupDrawModel" "row" "[I", Cond.fieldLink RX3 35 "CupDrawModel" "isUsed" "[Z", Cond.fieldLink RX3 38 "CupDrawModel" "isLeft" "[Z", Cond.fieldLink RX3 41 "CupDrawModel" "ends" "[I", Cond.fieldLink RX3 44 "CupDrawModel" "balls" "[I", Cond.methodLink RX3 47 yX3_begin, Cond.instanceMethod yX3_begin, Cond.selects RX3 yX3_begin yX3_begin, Cond.initialized RX3, Cond.code yX3_begin cX3_begin 4 none, Cond.fieldLink RX3 55 "CupDrawModel" "groupMany" "I", Cond.fieldLink RX3 58 "CupDrawModel" "potMany" "I"]
def wsX3_init_r2 : List Cond := [Cond.fieldLink RX3 61 "CupDrawModel" "drawnMany" "I"]
def wsX3_init : List Cond := .code yX3_init cX3_init 1 none :: ((wsX3_init_r1 ++ wsX3_init_r2) ++ wsX30)
def wsX3_thrown : List Cond := .code yX3_thrown cX3_thrown 1 (some .int) :: ([.fieldLink RX3 51 "CupDrawModel" "thrown" "I"] ++ wsX30)
def wsX3_in : List Cond := .code yX3_in cX3_in 3 (some .boolean) :: ([])
def wsX3_teamMany : List Cond := .code yX3_teamMany cX3_teamMany 1 (some .int) :: ([.fieldLink RX3 55 "CupDrawModel" "groupMany" "I", .fieldLink RX3 58 "CupDrawModel" "potMany" "I"] ++ wsX30)
def wsX3_isTeam : List Cond := .code yX3_isTeam cX3_isTeam 2 (some .boolean) :: ([.methodLink RX3 64 yX3_teamMany, .instanceMethod yX3_teamMany, .selects RX3 yX3_teamMany yX3_teamMany, .initialized RX3, .code yX3_teamMany cX3_teamMany 1 (some .int), .fieldLink RX3 55 "CupDrawModel" "groupMany" "I", .fieldLink RX3 58 "CupDrawModel" "potMany" "I", .methodLink RX3 68 yX3_in, .static yX3_in, .code yX3_in cX3_in 3 (some .boolean)] ++ wsX30)
def wsX3_isGroup : List Cond := .code yX3_isGroup cX3_isGroup 2 (some .boolean) :: ([.fieldLink RX3 55 "CupDrawModel" "groupMany" "I", .methodLink RX3 68 yX3_in, .static yX3_in, .initialized RX3, .code yX3_in cX3_in 3 (some .boolean)] ++ wsX30)
def wsX3_factorial : List Cond := .code yX3_factorial cX3_factorial 3 (some .int) :: ([])
def wsX3_lay : List Cond := .code yX3_lay cX3_lay 3 (some .int) :: ([.fieldLink RX3 51 "CupDrawModel" "thrown" "I", .methodLink RX3 68 yX3_in, .static yX3_in, .initialized RX3, .code yX3_in cX3_in 3 (some .boolean), .methodLink RX3 47 yX3_begin, .instanceMethod yX3_begin, .selects RX3 yX3_begin yX3_begin, .code yX3_begin cX3_begin 4 none, .fieldLink RX3 55 "CupDrawModel" "groupMany" "I", .fieldLink RX3 58 "CupDrawModel" "potMany" "I", .fieldLink RX3 61 "CupDrawModel" "drawnMany" "I", .fieldLink RX3 7 "CupDrawModel" "regions" "[I", .fieldLink RX3 26 "CupDrawModel" "places" "[I", .fieldLink RX3 13 "CupDrawModel" "bounds" "[I", .fieldLink RX3 16 "CupDrawModel" "isApart" "[Z", .fieldLink RX3 20 "CupDrawModel" "isOther" "[Z", .methodLink RX3 64 yX3_teamMany, .instanceMethod yX3_teamMany, .selects RX3 yX3_teamMany yX3_teamMany, .code yX3_teamMany cX3_teamMany 1 (some .int)] ++ wsX30)
def wsX3_setRegion : List Cond := .code yX3_setRegion cX3_setRegion 4 (some .int) :: ([.fieldLink RX3 61 "CupDrawModel" "drawnMany" "I", .fieldLink RX3 51 "CupDrawModel" "thrown" "I", .fieldLink RX3 7 "CupDrawModel" "regions" "[I", .methodLink RX3 72 yX3_isTeam, .instanceMethod yX3_isTeam, .selects RX3 yX3_isTeam yX3_isTeam, .initialized RX3, .code yX3_isTeam cX3_isTeam 2 (some .boolean), .methodLink RX3 64 yX3_teamMany, .instanceMethod yX3_teamMany, .selects RX3 yX3_teamMany yX3_teamMany, .code yX3_teamMany cX3_teamMany 1 (some .int), .fieldLink RX3 55 "CupDrawModel" "groupMany" "I", .fieldLink RX3 58 "CupDrawModel" "potMany" "I", .methodLink RX3 68 yX3_in, .static yX3_in, .code yX3_in cX3_in 3 (some .boolean)] ++ wsX30)
def wsX3_setBound : List Cond := .code yX3_setBound cX3_setBound 4 (some .int) :: ([.fieldLink RX3 61 "CupDrawModel" "drawnMany" "I", .fieldLink RX3 51 "CupDrawModel" "thrown" "I", .fieldLink RX3 13 "CupDrawModel" "bounds" "[I", .methodLink RX3 68 yX3_in, .static yX3_in, .initialized RX3, .code yX3_in cX3_in 3 (some .boolean)] ++ wsX30)
def wsX3_canPair : List Cond := .code yX3_canPair cX3_canPair 3 (some .boolean) :: ([.fieldLink RX3 61 "CupDrawModel" "drawnMany" "I", .fieldLink RX3 51 "CupDrawModel" "thrown" "I", .methodLink RX3 72 yX3_isTeam, .instanceMethod yX3_isTeam, .selects RX3 yX3_isTeam yX3_isTeam, .initialized RX3, .code yX3_isTeam cX3_isTeam 2 (some .boolean), .methodLink RX3 64 yX3_teamMany, .instanceMethod yX3_teamMany, .selects RX3 yX3_teamMany yX3_teamMany, .code yX3_teamMany cX3_teamMany 1 (some .int), .fieldLink RX3 55 "CupDrawModel" "groupMany" "I", .fieldLink RX3 58 "CupDrawModel" "potMany" "I", .methodLink RX3 68 yX3_in, .static yX3_in, .code yX3_in cX3_in 3 (some .boolean)] ++ wsX30)
def wsX3_setApart : List Cond := .code yX3_setApart cX3_setApart 5 (some .boolean) :: ([.fieldLink RX3 16 "CupDrawModel" "isApart" "[Z", .methodLink RX3 76 yX3_canPair, .instanceMethod yX3_canPair, .selects RX3 yX3_canPair yX3_canPair, .initialized RX3, .code yX3_canPair cX3_canPair 3 (some .boolean), .fieldLink RX3 61 "CupDrawModel" "drawnMany" "I", .fieldLink RX3 51 "CupDrawModel" "thrown" "I", .methodLink RX3 72 yX3_isTeam, .instanceMethod yX3_isTeam, .selects RX3 yX3_isTeam yX3_isTeam, .code yX3_isTeam cX3_isTeam 2 (some .boolean), .methodLink RX3 64 yX3_teamMany, .instanceMethod yX3_teamMany, .selects RX3 yX3_teamMany yX3_teamMany, .code yX3_teamMany cX3_teamMany 1 (some .int), .fieldLink RX3 55 "CupDrawModel" "groupMany" "I", .fieldLink RX3 58 "CupDrawModel" "potMany" "I", .methodLink RX3 68 yX3_in, .static yX3_in, .code yX3_in cX3_in 3 (some .boolean)] ++ wsX30)
def wsX3_setOtherDays : List Cond := .code yX3_setOtherDays cX3_setOtherDays 5 (some .boolean) :: ([.fieldLink RX3 20 "CupDrawModel" "isOther" "[Z", .methodLink RX3 76 yX3_canPair, .instanceMethod yX3_canPair, .selects RX3 yX3_canPair yX3_canPair, .initialized RX3, .code yX3_canPair cX3_canPair 3 (some .boolean), .fieldLink RX3 61 "CupDrawModel" "drawnMany" "I", .fieldLink RX3 51 "CupDrawModel" "thrown" "I", .methodLink RX3 72 yX3_isTeam, .instanceMethod yX3_isTeam, .selects RX3 yX3_isTeam yX3_isTeam, .code yX3_isTeam cX3_isTeam 2 (some .boolean), .methodLink RX3 64 yX3_teamMany, .instanceMethod yX3_teamMany, .selects RX3 yX3_teamMany yX3_teamMany, .code yX3_teamMany cX3_teamMany 1 (some .int), .fieldLink RX3 55 "CupDrawModel" "groupMany" "I", .fieldLink RX3 58 "CupDrawModel" "potMany" "I", .methodLink RX3 68 yX3_in, .static yX3_in, .code yX3_in cX3_in 3 (some .boolean)] ++ wsX30)
def wsX3_layOrder : List Cond := .code yX3_layOrder cX3_layOrder 8 none :: ([.fieldLink RX3 35 "CupDrawModel" "isUsed" "[Z", .fieldLink RX3 32 "CupDrawModel" "row" "[I"] ++ wsX30)
def wsX3_isLawful : List Cond := .code yX3_isLawful cX3_isLawful 5 (some .boolean) :: ([.fieldLink RX3 32 "CupDrawModel" "row" "[I", .fieldLink RX3 7 "CupDrawModel" "regions" "[I", .fieldLink RX3 16 "CupDrawModel" "isApart" "[Z", .fieldLink RX3 20 "CupDrawModel" "isOther" "[Z", .fieldLink RX3 13 "CupDrawModel" "bounds" "[I", .fieldLink RX3 26 "CupDrawModel" "places" "[I", .methodLink RX3 64 yX3_teamMany, .instanceMethod yX3_teamMany, .selects RX3 yX3_teamMany yX3_teamMany, .initialized RX3, .code yX3_teamMany cX3_teamMany 1 (some .int), .fieldLink RX3 55 "CupDrawModel" "groupMany" "I", .fieldLink RX3 58 "CupDrawModel" "potMany" "I"] ++ wsX30)
def wsX3_layResults_r1 : List Cond := [Cond.fieldLink RX3 55 "CupDrawModel" "groupMany" "I", Cond.fieldLink RX3 58 "CupDrawModel" "potMany" "I", Cond.fieldLink RX3 84 "CupDrawModel" "resultMany" "I", Cond.fieldLink RX3 29 "CupDrawModel" "results" "[I", Cond.fieldLink RX3 32 "CupDrawModel" "row" "[I", Cond.methodLink RX3 80 yX3_factorial, Cond.static yX3_factorial, Cond.initialized RX3, Cond.code yX3_factorial cX3_factorial 3 (some .int), Cond.methodLink RX3 87 yX3_layOrder, Cond.instanceMethod yX3_layOrder, Cond.selects RX3 yX3_layOrder yX3_layOrder, Cond.code yX3_layOrder cX3_layOrder 8 none, Cond.fieldLink RX3 35 "CupDrawModel" "isUsed" "[Z", Cond.methodLink RX3 91 yX3_isLawful, Cond.instanceMethod yX3_isLawful, Cond.selects RX3 yX3_isLawful yX3_isLawful, Cond.code yX3_isLawful cX3_isLawful 5 (some .boolean), Cond.fieldLink RX3 7 "CupDrawModel" "regions" "[I", Cond.fieldLink RX3 16 "CupDrawModel" "isApart" "[Z", Cond.fieldLink RX3 20 "CupDrawModel" "isOther" "[Z", Cond.fieldLink RX3 13 "CupDrawModel" "bounds" "[I", Cond.fieldLink RX3 26 "CupDrawModel" "places" "[I", Cond.methodLink RX3 64 yX3_teamMany]
def wsX3_layResults_r2 : List Cond := [Cond.instanceMethod yX3_teamMany, Cond.selects RX3 yX3_teamMany yX3_teamMany, Cond.code yX3_teamMany cX3_teamMany 1 (some .int)]
def wsX3_layResults : List Cond := .code yX3_layResults cX3_layResults 6 none :: ((wsX3_layResults_r1 ++ wsX3_layResults_r2) ++ wsX30)
def wsX3_countIn : List Cond := .code yX3_countIn cX3_countIn 5 (some .int) :: ([.fieldLink RX3 84 "CupDrawModel" "resultMany" "I", .fieldLink RX3 29 "CupDrawModel" "results" "[I"] ++ wsX30)
def wsX3_lowestFor : List Cond := .code yX3_lowestFor cX3_lowestFor 3 (some .int) :: ([.fieldLink RX3 55 "CupDrawModel" "groupMany" "I", .methodLink RX3 95 yX3_countIn, .instanceMethod yX3_countIn, .selects RX3 yX3_countIn yX3_countIn, .initialized RX3, .code yX3_countIn cX3_countIn 5 (some .int), .fieldLink RX3 84 "CupDrawModel" "resultMany" "I", .fieldLink RX3 29 "CupDrawModel" "results" "[I"] ++ wsX30)
def wsX3_potNow : List Cond := .code yX3_potNow cX3_potNow 1 (some .int) :: ([.fieldLink RX3 61 "CupDrawModel" "drawnMany" "I", .fieldLink RX3 55 "CupDrawModel" "groupMany" "I", .methodLink RX3 64 yX3_teamMany, .instanceMethod yX3_teamMany, .selects RX3 yX3_teamMany yX3_teamMany, .initialized RX3, .code yX3_teamMany cX3_teamMany 1 (some .int), .fieldLink RX3 58 "CupDrawModel" "potMany" "I"] ++ wsX30)
def wsX3_leftNow : List Cond := .code yX3_leftNow cX3_leftNow 1 (some .int) :: ([.fieldLink RX3 61 "CupDrawModel" "drawnMany" "I", .fieldLink RX3 55 "CupDrawModel" "groupMany" "I", .methodLink RX3 64 yX3_teamMany, .instanceMethod yX3_teamMany, .selects RX3 yX3_teamMany yX3_teamMany, .initialized RX3, .code yX3_teamMany cX3_teamMany 1 (some .int), .fieldLink RX3 58 "CupDrawModel" "potMany" "I"] ++ wsX30)
def wsX3_ball : List Cond := .code yX3_ball cX3_ball 5 (some .int) :: ([.fieldLink RX3 55 "CupDrawModel" "groupMany" "I", .fieldLink RX3 26 "CupDrawModel" "places" "[I"] ++ wsX30)
def wsX3_draw_r1 : List Cond := [Cond.fieldLink RX3 61 "CupDrawModel" "drawnMany" "I", Cond.fieldLink RX3 84 "CupDrawModel" "resultMany" "I", Cond.fieldLink RX3 51 "CupDrawModel" "thrown" "I", Cond.fieldLink RX3 26 "CupDrawModel" "places" "[I", Cond.fieldLink RX3 23 "CupDrawModel" "drawnTeams" "[I", Cond.methodLink RX3 99 yX3_layResults, Cond.instanceMethod yX3_layResults, Cond.selects RX3 yX3_layResults yX3_layResults, Cond.initialized RX3, Cond.code yX3_layResults cX3_layResults 6 none, Cond.fieldLink RX3 55 "CupDrawModel" "groupMany" "I", Cond.fieldLink RX3 58 "CupDrawModel" "potMany" "I", Cond.fieldLink RX3 29 "CupDrawModel" "results" "[I", Cond.fieldLink RX3 32 "CupDrawModel" "row" "[I", Cond.methodLink RX3 80 yX3_factorial, Cond.static yX3_factorial, Cond.code yX3_factorial cX3_factorial 3 (some .int), Cond.methodLink RX3 87 yX3_layOrder, Cond.instanceMethod yX3_layOrder, Cond.selects RX3 yX3_layOrder yX3_layOrder, Cond.code yX3_layOrder cX3_layOrder 8 none, Cond.fieldLink RX3 35 "CupDrawModel" "isUsed" "[Z", Cond.methodLink RX3 91 yX3_isLawful, Cond.instanceMethod yX3_isLawful]
def wsX3_draw_r2 : List Cond := [Cond.selects RX3 yX3_isLawful yX3_isLawful, Cond.code yX3_isLawful cX3_isLawful 5 (some .boolean), Cond.fieldLink RX3 7 "CupDrawModel" "regions" "[I", Cond.fieldLink RX3 16 "CupDrawModel" "isApart" "[Z", Cond.fieldLink RX3 20 "CupDrawModel" "isOther" "[Z", Cond.fieldLink RX3 13 "CupDrawModel" "bounds" "[I", Cond.methodLink RX3 64 yX3_teamMany, Cond.instanceMethod yX3_teamMany, Cond.selects RX3 yX3_teamMany yX3_teamMany, Cond.code yX3_teamMany cX3_teamMany 1 (some .int), Cond.methodLink RX3 102 yX3_leftNow, Cond.instanceMethod yX3_leftNow, Cond.selects RX3 yX3_leftNow yX3_leftNow, Cond.code yX3_leftNow cX3_leftNow 1 (some .int), Cond.methodLink RX3 68 yX3_in, Cond.static yX3_in, Cond.code yX3_in cX3_in 3 (some .boolean), Cond.methodLink RX3 105 yX3_potNow, Cond.instanceMethod yX3_potNow, Cond.selects RX3 yX3_potNow yX3_potNow, Cond.code yX3_potNow cX3_potNow 1 (some .int), Cond.methodLink RX3 108 yX3_ball, Cond.instanceMethod yX3_ball, Cond.selects RX3 yX3_ball yX3_ball]
def wsX3_draw_r3 : List Cond := [Cond.code yX3_ball cX3_ball 5 (some .int), Cond.methodLink RX3 111 yX3_lowestFor, Cond.instanceMethod yX3_lowestFor, Cond.selects RX3 yX3_lowestFor yX3_lowestFor, Cond.code yX3_lowestFor cX3_lowestFor 3 (some .int), Cond.methodLink RX3 95 yX3_countIn, Cond.instanceMethod yX3_countIn, Cond.selects RX3 yX3_countIn yX3_countIn, Cond.code yX3_countIn cX3_countIn 5 (some .int)]
def wsX3_draw : List Cond := .code yX3_draw cX3_draw 3 (some .int) :: ((wsX3_draw_r1 ++ (wsX3_draw_r2 ++ wsX3_draw_r3)) ++ wsX30)
def wsX3_undo : List Cond := .code yX3_undo cX3_undo 1 (some .int) :: ([.fieldLink RX3 61 "CupDrawModel" "drawnMany" "I", .fieldLink RX3 51 "CupDrawModel" "thrown" "I", .fieldLink RX3 26 "CupDrawModel" "places" "[I", .fieldLink RX3 23 "CupDrawModel" "drawnTeams" "[I"] ++ wsX30)
def wsX3_drawn : List Cond := .code yX3_drawn cX3_drawn 1 (some .int) :: ([.fieldLink RX3 51 "CupDrawModel" "thrown" "I", .fieldLink RX3 61 "CupDrawModel" "drawnMany" "I"] ++ wsX30)
def wsX3_pot : List Cond := .code yX3_pot cX3_pot 1 (some .int) :: ([.fieldLink RX3 51 "CupDrawModel" "thrown" "I", .methodLink RX3 105 yX3_potNow, .instanceMethod yX3_potNow, .selects RX3 yX3_potNow yX3_potNow, .initialized RX3, .code yX3_potNow cX3_potNow 1 (some .int), .fieldLink RX3 61 "CupDrawModel" "drawnMany" "I", .fieldLink RX3 55 "CupDrawModel" "groupMany" "I", .methodLink RX3 64 yX3_teamMany, .instanceMethod yX3_teamMany, .selects RX3 yX3_teamMany yX3_teamMany, .code yX3_teamMany cX3_teamMany 1 (some .int), .fieldLink RX3 58 "CupDrawModel" "potMany" "I"] ++ wsX30)
def wsX3_left : List Cond := .code yX3_left cX3_left 1 (some .int) :: ([.fieldLink RX3 51 "CupDrawModel" "thrown" "I", .methodLink RX3 102 yX3_leftNow, .instanceMethod yX3_leftNow, .selects RX3 yX3_leftNow yX3_leftNow, .initialized RX3, .code yX3_leftNow cX3_leftNow 1 (some .int), .fieldLink RX3 61 "CupDrawModel" "drawnMany" "I", .fieldLink RX3 55 "CupDrawModel" "groupMany" "I", .methodLink RX3 64 yX3_teamMany, .instanceMethod yX3_teamMany, .selects RX3 yX3_teamMany yX3_teamMany, .code yX3_teamMany cX3_teamMany 1 (some .int), .fieldLink RX3 58 "CupDrawModel" "potMany" "I"] ++ wsX30)
def wsX3_ballAt_r1 : List Cond := [Cond.fieldLink RX3 51 "CupDrawModel" "thrown" "I", Cond.methodLink RX3 102 yX3_leftNow, Cond.instanceMethod yX3_leftNow, Cond.selects RX3 yX3_leftNow yX3_leftNow, Cond.initialized RX3, Cond.code yX3_leftNow cX3_leftNow 1 (some .int), Cond.fieldLink RX3 61 "CupDrawModel" "drawnMany" "I", Cond.fieldLink RX3 55 "CupDrawModel" "groupMany" "I", Cond.methodLink RX3 64 yX3_teamMany, Cond.instanceMethod yX3_teamMany, Cond.selects RX3 yX3_teamMany yX3_teamMany, Cond.code yX3_teamMany cX3_teamMany 1 (some .int), Cond.fieldLink RX3 58 "CupDrawModel" "potMany" "I", Cond.methodLink RX3 68 yX3_in, Cond.static yX3_in, Cond.code yX3_in cX3_in 3 (some .boolean), Cond.methodLink RX3 105 yX3_potNow, Cond.instanceMethod yX3_potNow, Cond.selects RX3 yX3_potNow yX3_potNow, Cond.code yX3_potNow cX3_potNow 1 (some .int), Cond.methodLink RX3 108 yX3_ball, Cond.instanceMethod yX3_ball, Cond.selects RX3 yX3_ball yX3_ball, Cond.code yX3_ball cX3_ball 5 (some .int)]
def wsX3_ballAt_r2 : List Cond := [Cond.fieldLink RX3 26 "CupDrawModel" "places" "[I"]
def wsX3_ballAt : List Cond := .code yX3_ballAt cX3_ballAt 2 (some .int) :: ((wsX3_ballAt_r1 ++ wsX3_ballAt_r2) ++ wsX30)
def wsX3_groupOf : List Cond := .code yX3_groupOf cX3_groupOf 2 (some .int) :: ([.fieldLink RX3 51 "CupDrawModel" "thrown" "I", .fieldLink RX3 26 "CupDrawModel" "places" "[I", .methodLink RX3 72 yX3_isTeam, .instanceMethod yX3_isTeam, .selects RX3 yX3_isTeam yX3_isTeam, .initialized RX3, .code yX3_isTeam cX3_isTeam 2 (some .boolean), .methodLink RX3 64 yX3_teamMany, .instanceMethod yX3_teamMany, .selects RX3 yX3_teamMany yX3_teamMany, .code yX3_teamMany cX3_teamMany 1 (some .int), .fieldLink RX3 55 "CupDrawModel" "groupMany" "I", .fieldLink RX3 58 "CupDrawModel" "potMany" "I", .methodLink RX3 68 yX3_in, .static yX3_in, .code yX3_in cX3_in 3 (some .boolean)] ++ wsX30)
def wsX3_teamAt : List Cond := .code yX3_teamAt cX3_teamAt 4 (some .int) :: ([.fieldLink RX3 58 "CupDrawModel" "potMany" "I", .fieldLink RX3 51 "CupDrawModel" "thrown" "I", .fieldLink RX3 55 "CupDrawModel" "groupMany" "I", .fieldLink RX3 26 "CupDrawModel" "places" "[I", .methodLink RX3 114 yX3_isGroup, .instanceMethod yX3_isGroup, .selects RX3 yX3_isGroup yX3_isGroup, .initialized RX3, .code yX3_isGroup cX3_isGroup 2 (some .boolean), .methodLink RX3 68 yX3_in, .static yX3_in, .code yX3_in cX3_in 3 (some .boolean)] ++ wsX30)
def wsX3_results_r1 : List Cond := [Cond.fieldLink RX3 51 "CupDrawModel" "thrown" "I", Cond.fieldLink RX3 84 "CupDrawModel" "resultMany" "I", Cond.methodLink RX3 99 yX3_layResults, Cond.instanceMethod yX3_layResults, Cond.selects RX3 yX3_layResults yX3_layResults, Cond.initialized RX3, Cond.code yX3_layResults cX3_layResults 6 none, Cond.fieldLink RX3 55 "CupDrawModel" "groupMany" "I", Cond.fieldLink RX3 58 "CupDrawModel" "potMany" "I", Cond.fieldLink RX3 29 "CupDrawModel" "results" "[I", Cond.fieldLink RX3 32 "CupDrawModel" "row" "[I", Cond.methodLink RX3 80 yX3_factorial, Cond.static yX3_factorial, Cond.code yX3_factorial cX3_factorial 3 (some .int), Cond.methodLink RX3 87 yX3_layOrder, Cond.instanceMethod yX3_layOrder, Cond.selects RX3 yX3_layOrder yX3_layOrder, Cond.code yX3_layOrder cX3_layOrder 8 none, Cond.fieldLink RX3 35 "CupDrawModel" "isUsed" "[Z", Cond.methodLink RX3 91 yX3_isLawful, Cond.instanceMethod yX3_isLawful, Cond.selects RX3 yX3_isLawful yX3_isLawful, Cond.code yX3_isLawful cX3_isLawful 5 (some .boolean), Cond.fieldLink RX3 7 "CupDrawModel" "regions" "[I"]
def wsX3_results_r2 : List Cond := [Cond.fieldLink RX3 16 "CupDrawModel" "isApart" "[Z", Cond.fieldLink RX3 20 "CupDrawModel" "isOther" "[Z", Cond.fieldLink RX3 13 "CupDrawModel" "bounds" "[I", Cond.fieldLink RX3 26 "CupDrawModel" "places" "[I", Cond.methodLink RX3 64 yX3_teamMany, Cond.instanceMethod yX3_teamMany, Cond.selects RX3 yX3_teamMany yX3_teamMany, Cond.code yX3_teamMany cX3_teamMany 1 (some .int)]
def wsX3_results : List Cond := .code yX3_results cX3_results 1 (some .int) :: ((wsX3_results_r1 ++ wsX3_results_r2) ++ wsX30)
def wsX3_isPlace : List Cond := .code yX3_isPlace cX3_isPlace 3 (some .boolean) :: ([.fieldLink RX3 51 "CupDrawModel" "thrown" "I", .methodLink RX3 72 yX3_isTeam, .instanceMethod yX3_isTeam, .selects RX3 yX3_isTeam yX3_isTeam, .initialized RX3, .code yX3_isTeam cX3_isTeam 2 (some .boolean), .methodLink RX3 64 yX3_teamMany, .instanceMethod yX3_teamMany, .selects RX3 yX3_teamMany yX3_teamMany, .code yX3_teamMany cX3_teamMany 1 (some .int), .fieldLink RX3 55 "CupDrawModel" "groupMany" "I", .fieldLink RX3 58 "CupDrawModel" "potMany" "I", .methodLink RX3 68 yX3_in, .static yX3_in, .code yX3_in cX3_in 3 (some .boolean), .methodLink RX3 114 yX3_isGroup, .instanceMethod yX3_isGroup, .selects RX3 yX3_isGroup yX3_isGroup, .code yX3_isGroup cX3_isGroup 2 (some .boolean)] ++ wsX30)
def wsX3_evenly_r1 : List Cond := [Cond.methodLink RX3 120 yX3_isPlace, Cond.instanceMethod yX3_isPlace, Cond.selects RX3 yX3_isPlace yX3_isPlace, Cond.initialized RX3, Cond.code yX3_isPlace cX3_isPlace 3 (some .boolean), Cond.fieldLink RX3 51 "CupDrawModel" "thrown" "I", Cond.methodLink RX3 72 yX3_isTeam, Cond.instanceMethod yX3_isTeam, Cond.selects RX3 yX3_isTeam yX3_isTeam, Cond.code yX3_isTeam cX3_isTeam 2 (some .boolean), Cond.methodLink RX3 64 yX3_teamMany, Cond.instanceMethod yX3_teamMany, Cond.selects RX3 yX3_teamMany yX3_teamMany, Cond.code yX3_teamMany cX3_teamMany 1 (some .int), Cond.fieldLink RX3 55 "CupDrawModel" "groupMany" "I", Cond.fieldLink RX3 58 "CupDrawModel" "potMany" "I", Cond.methodLink RX3 68 yX3_in, Cond.static yX3_in, Cond.code yX3_in cX3_in 3 (some .boolean), Cond.methodLink RX3 114 yX3_isGroup, Cond.instanceMethod yX3_isGroup, Cond.selects RX3 yX3_isGroup yX3_isGroup, Cond.code yX3_isGroup cX3_isGroup 2 (some .boolean), Cond.methodLink RX3 99 yX3_layResults]
def wsX3_evenly_r2 : List Cond := [Cond.instanceMethod yX3_layResults, Cond.selects RX3 yX3_layResults yX3_layResults, Cond.code yX3_layResults cX3_layResults 6 none, Cond.fieldLink RX3 84 "CupDrawModel" "resultMany" "I", Cond.fieldLink RX3 29 "CupDrawModel" "results" "[I", Cond.fieldLink RX3 32 "CupDrawModel" "row" "[I", Cond.methodLink RX3 80 yX3_factorial, Cond.static yX3_factorial, Cond.code yX3_factorial cX3_factorial 3 (some .int), Cond.methodLink RX3 87 yX3_layOrder, Cond.instanceMethod yX3_layOrder, Cond.selects RX3 yX3_layOrder yX3_layOrder, Cond.code yX3_layOrder cX3_layOrder 8 none, Cond.fieldLink RX3 35 "CupDrawModel" "isUsed" "[Z", Cond.methodLink RX3 91 yX3_isLawful, Cond.instanceMethod yX3_isLawful, Cond.selects RX3 yX3_isLawful yX3_isLawful, Cond.code yX3_isLawful cX3_isLawful 5 (some .boolean), Cond.fieldLink RX3 7 "CupDrawModel" "regions" "[I", Cond.fieldLink RX3 16 "CupDrawModel" "isApart" "[Z", Cond.fieldLink RX3 20 "CupDrawModel" "isOther" "[Z", Cond.fieldLink RX3 13 "CupDrawModel" "bounds" "[I", Cond.fieldLink RX3 26 "CupDrawModel" "places" "[I", Cond.methodLink RX3 95 yX3_countIn]
def wsX3_evenly_r3 : List Cond := [Cond.instanceMethod yX3_countIn, Cond.selects RX3 yX3_countIn yX3_countIn, Cond.code yX3_countIn cX3_countIn 5 (some .int)]
def wsX3_evenly : List Cond := .code yX3_evenly cX3_evenly 3 (some .int) :: ((wsX3_evenly_r1 ++ (wsX3_evenly_r2 ++ wsX3_evenly_r3)) ++ wsX30)
def wsX3_fits_r1 : List Cond := [Cond.methodLink RX3 117 yX3_evenly, Cond.instanceMethod yX3_evenly, Cond.selects RX3 yX3_evenly yX3_evenly, Cond.initialized RX3, Cond.code yX3_evenly cX3_evenly 3 (some .int), Cond.methodLink RX3 120 yX3_isPlace, Cond.instanceMethod yX3_isPlace, Cond.selects RX3 yX3_isPlace yX3_isPlace, Cond.code yX3_isPlace cX3_isPlace 3 (some .boolean), Cond.fieldLink RX3 51 "CupDrawModel" "thrown" "I", Cond.methodLink RX3 72 yX3_isTeam, Cond.instanceMethod yX3_isTeam, Cond.selects RX3 yX3_isTeam yX3_isTeam, Cond.code yX3_isTeam cX3_isTeam 2 (some .boolean), Cond.methodLink RX3 64 yX3_teamMany, Cond.instanceMethod yX3_teamMany, Cond.selects RX3 yX3_teamMany yX3_teamMany, Cond.code yX3_teamMany cX3_teamMany 1 (some .int), Cond.fieldLink RX3 55 "CupDrawModel" "groupMany" "I", Cond.fieldLink RX3 58 "CupDrawModel" "potMany" "I", Cond.methodLink RX3 68 yX3_in, Cond.static yX3_in, Cond.code yX3_in cX3_in 3 (some .boolean), Cond.methodLink RX3 114 yX3_isGroup]
def wsX3_fits_r2 : List Cond := [Cond.instanceMethod yX3_isGroup, Cond.selects RX3 yX3_isGroup yX3_isGroup, Cond.code yX3_isGroup cX3_isGroup 2 (some .boolean), Cond.methodLink RX3 99 yX3_layResults, Cond.instanceMethod yX3_layResults, Cond.selects RX3 yX3_layResults yX3_layResults, Cond.code yX3_layResults cX3_layResults 6 none, Cond.fieldLink RX3 84 "CupDrawModel" "resultMany" "I", Cond.fieldLink RX3 29 "CupDrawModel" "results" "[I", Cond.fieldLink RX3 32 "CupDrawModel" "row" "[I", Cond.methodLink RX3 80 yX3_factorial, Cond.static yX3_factorial, Cond.code yX3_factorial cX3_factorial 3 (some .int), Cond.methodLink RX3 87 yX3_layOrder, Cond.instanceMethod yX3_layOrder, Cond.selects RX3 yX3_layOrder yX3_layOrder, Cond.code yX3_layOrder cX3_layOrder 8 none, Cond.fieldLink RX3 35 "CupDrawModel" "isUsed" "[Z", Cond.methodLink RX3 91 yX3_isLawful, Cond.instanceMethod yX3_isLawful, Cond.selects RX3 yX3_isLawful yX3_isLawful, Cond.code yX3_isLawful cX3_isLawful 5 (some .boolean), Cond.fieldLink RX3 7 "CupDrawModel" "regions" "[I", Cond.fieldLink RX3 16 "CupDrawModel" "isApart" "[Z"]
def wsX3_fits_r3 : List Cond := [Cond.fieldLink RX3 20 "CupDrawModel" "isOther" "[Z", Cond.fieldLink RX3 13 "CupDrawModel" "bounds" "[I", Cond.fieldLink RX3 26 "CupDrawModel" "places" "[I", Cond.methodLink RX3 95 yX3_countIn, Cond.instanceMethod yX3_countIn, Cond.selects RX3 yX3_countIn yX3_countIn, Cond.code yX3_countIn cX3_countIn 5 (some .int)]
def wsX3_fits : List Cond := .code yX3_fits cX3_fits 3 (some .boolean) :: ((wsX3_fits_r1 ++ (wsX3_fits_r2 ++ wsX3_fits_r3)) ++ wsX30)
def wsX3_forced_r1 : List Cond := [Cond.fieldLink RX3 51 "CupDrawModel" "thrown" "I", Cond.fieldLink RX3 84 "CupDrawModel" "resultMany" "I", Cond.methodLink RX3 72 yX3_isTeam, Cond.instanceMethod yX3_isTeam, Cond.selects RX3 yX3_isTeam yX3_isTeam, Cond.initialized RX3, Cond.code yX3_isTeam cX3_isTeam 2 (some .boolean), Cond.methodLink RX3 64 yX3_teamMany, Cond.instanceMethod yX3_teamMany, Cond.selects RX3 yX3_teamMany yX3_teamMany, Cond.code yX3_teamMany cX3_teamMany 1 (some .int), Cond.fieldLink RX3 55 "CupDrawModel" "groupMany" "I", Cond.fieldLink RX3 58 "CupDrawModel" "potMany" "I", Cond.methodLink RX3 68 yX3_in, Cond.static yX3_in, Cond.code yX3_in cX3_in 3 (some .boolean), Cond.methodLink RX3 99 yX3_layResults, Cond.instanceMethod yX3_layResults, Cond.selects RX3 yX3_layResults yX3_layResults, Cond.code yX3_layResults cX3_layResults 6 none, Cond.fieldLink RX3 29 "CupDrawModel" "results" "[I", Cond.fieldLink RX3 32 "CupDrawModel" "row" "[I", Cond.methodLink RX3 80 yX3_factorial, Cond.static yX3_factorial]
def wsX3_forced_r2 : List Cond := [Cond.code yX3_factorial cX3_factorial 3 (some .int), Cond.methodLink RX3 87 yX3_layOrder, Cond.instanceMethod yX3_layOrder, Cond.selects RX3 yX3_layOrder yX3_layOrder, Cond.code yX3_layOrder cX3_layOrder 8 none, Cond.fieldLink RX3 35 "CupDrawModel" "isUsed" "[Z", Cond.methodLink RX3 91 yX3_isLawful, Cond.instanceMethod yX3_isLawful, Cond.selects RX3 yX3_isLawful yX3_isLawful, Cond.code yX3_isLawful cX3_isLawful 5 (some .boolean), Cond.fieldLink RX3 7 "CupDrawModel" "regions" "[I", Cond.fieldLink RX3 16 "CupDrawModel" "isApart" "[Z", Cond.fieldLink RX3 20 "CupDrawModel" "isOther" "[Z", Cond.fieldLink RX3 13 "CupDrawModel" "bounds" "[I", Cond.fieldLink RX3 26 "CupDrawModel" "places" "[I", Cond.methodLink RX3 111 yX3_lowestFor, Cond.instanceMethod yX3_lowestFor, Cond.selects RX3 yX3_lowestFor yX3_lowestFor, Cond.code yX3_lowestFor cX3_lowestFor 3 (some .int), Cond.methodLink RX3 95 yX3_countIn, Cond.instanceMethod yX3_countIn, Cond.selects RX3 yX3_countIn yX3_countIn, Cond.code yX3_countIn cX3_countIn 5 (some .int)]
def wsX3_forced : List Cond := .code yX3_forced cX3_forced 3 (some .int) :: ((wsX3_forced_r1 ++ wsX3_forced_r2) ++ wsX30)
def wsX3_orderMany : List Cond := .code yX3_orderMany cX3_orderMany 5 (some .int) :: ([.fieldLink RX3 58 "CupDrawModel" "potMany" "I", .fieldLink RX3 55 "CupDrawModel" "groupMany" "I", .fieldLink RX3 26 "CupDrawModel" "places" "[I", .methodLink RX3 80 yX3_factorial, .static yX3_factorial, .initialized RX3, .code yX3_factorial cX3_factorial 3 (some .int)] ++ wsX30)
def wsX3_orders : List Cond := .code yX3_orders cX3_orders 1 (some .int) :: ([.fieldLink RX3 51 "CupDrawModel" "thrown" "I", .methodLink RX3 123 yX3_orderMany, .instanceMethod yX3_orderMany, .selects RX3 yX3_orderMany yX3_orderMany, .initialized RX3, .code yX3_orderMany cX3_orderMany 5 (some .int), .fieldLink RX3 58 "CupDrawModel" "potMany" "I", .fieldLink RX3 55 "CupDrawModel" "groupMany" "I", .fieldLink RX3 26 "CupDrawModel" "places" "[I", .methodLink RX3 80 yX3_factorial, .static yX3_factorial, .code yX3_factorial cX3_factorial 3 (some .int)] ++ wsX30)
def wsX3_lowestLeft : List Cond := .code yX3_lowestLeft cX3_lowestLeft 5 (some .int) :: ([.fieldLink RX3 55 "CupDrawModel" "groupMany" "I", .fieldLink RX3 84 "CupDrawModel" "resultMany" "I", .fieldLink RX3 29 "CupDrawModel" "results" "[I", .fieldLink RX3 38 "CupDrawModel" "isLeft" "[Z"] ++ wsX30)
def wsX3_follow : List Cond := .code yX3_follow cX3_follow 8 none :: ([.fieldLink RX3 84 "CupDrawModel" "resultMany" "I", .fieldLink RX3 38 "CupDrawModel" "isLeft" "[Z", .fieldLink RX3 58 "CupDrawModel" "potMany" "I", .fieldLink RX3 55 "CupDrawModel" "groupMany" "I", .fieldLink RX3 41 "CupDrawModel" "ends" "[I", .fieldLink RX3 26 "CupDrawModel" "places" "[I", .fieldLink RX3 44 "CupDrawModel" "balls" "[I", .fieldLink RX3 32 "CupDrawModel" "row" "[I", .fieldLink RX3 29 "CupDrawModel" "results" "[I", .methodLink RX3 80 yX3_factorial, .static yX3_factorial, .initialized RX3, .code yX3_factorial cX3_factorial 3 (some .int), .methodLink RX3 87 yX3_layOrder, .instanceMethod yX3_layOrder, .selects RX3 yX3_layOrder yX3_layOrder, .code yX3_layOrder cX3_layOrder 8 none, .fieldLink RX3 35 "CupDrawModel" "isUsed" "[Z", .methodLink RX3 126 yX3_lowestLeft, .instanceMethod yX3_lowestLeft, .selects RX3 yX3_lowestLeft yX3_lowestLeft, .code yX3_lowestLeft cX3_lowestLeft 5 (some .int)] ++ wsX30)
def wsX3_chances_r1 : List Cond := [Cond.fieldLink RX3 84 "CupDrawModel" "resultMany" "I", Cond.fieldLink RX3 41 "CupDrawModel" "ends" "[I", Cond.methodLink RX3 120 yX3_isPlace, Cond.instanceMethod yX3_isPlace, Cond.selects RX3 yX3_isPlace yX3_isPlace, Cond.initialized RX3, Cond.code yX3_isPlace cX3_isPlace 3 (some .boolean), Cond.fieldLink RX3 51 "CupDrawModel" "thrown" "I", Cond.methodLink RX3 72 yX3_isTeam, Cond.instanceMethod yX3_isTeam, Cond.selects RX3 yX3_isTeam yX3_isTeam, Cond.code yX3_isTeam cX3_isTeam 2 (some .boolean), Cond.methodLink RX3 64 yX3_teamMany, Cond.instanceMethod yX3_teamMany, Cond.selects RX3 yX3_teamMany yX3_teamMany, Cond.code yX3_teamMany cX3_teamMany 1 (some .int), Cond.fieldLink RX3 55 "CupDrawModel" "groupMany" "I", Cond.fieldLink RX3 58 "CupDrawModel" "potMany" "I", Cond.methodLink RX3 68 yX3_in, Cond.static yX3_in, Cond.code yX3_in cX3_in 3 (some .boolean), Cond.methodLink RX3 114 yX3_isGroup, Cond.instanceMethod yX3_isGroup, Cond.selects RX3 yX3_isGroup yX3_isGroup]
def wsX3_chances_r2 : List Cond := [Cond.code yX3_isGroup cX3_isGroup 2 (some .boolean), Cond.methodLink RX3 99 yX3_layResults, Cond.instanceMethod yX3_layResults, Cond.selects RX3 yX3_layResults yX3_layResults, Cond.code yX3_layResults cX3_layResults 6 none, Cond.fieldLink RX3 29 "CupDrawModel" "results" "[I", Cond.fieldLink RX3 32 "CupDrawModel" "row" "[I", Cond.methodLink RX3 80 yX3_factorial, Cond.static yX3_factorial, Cond.code yX3_factorial cX3_factorial 3 (some .int), Cond.methodLink RX3 87 yX3_layOrder, Cond.instanceMethod yX3_layOrder, Cond.selects RX3 yX3_layOrder yX3_layOrder, Cond.code yX3_layOrder cX3_layOrder 8 none, Cond.fieldLink RX3 35 "CupDrawModel" "isUsed" "[Z", Cond.methodLink RX3 91 yX3_isLawful, Cond.instanceMethod yX3_isLawful, Cond.selects RX3 yX3_isLawful yX3_isLawful, Cond.code yX3_isLawful cX3_isLawful 5 (some .boolean), Cond.fieldLink RX3 7 "CupDrawModel" "regions" "[I", Cond.fieldLink RX3 16 "CupDrawModel" "isApart" "[Z", Cond.fieldLink RX3 20 "CupDrawModel" "isOther" "[Z", Cond.fieldLink RX3 13 "CupDrawModel" "bounds" "[I", Cond.fieldLink RX3 26 "CupDrawModel" "places" "[I"]
def wsX3_chances_r3 : List Cond := [Cond.methodLink RX3 123 yX3_orderMany, Cond.instanceMethod yX3_orderMany, Cond.selects RX3 yX3_orderMany yX3_orderMany, Cond.code yX3_orderMany cX3_orderMany 5 (some .int), Cond.methodLink RX3 129 yX3_follow, Cond.instanceMethod yX3_follow, Cond.selects RX3 yX3_follow yX3_follow, Cond.code yX3_follow cX3_follow 8 none, Cond.fieldLink RX3 38 "CupDrawModel" "isLeft" "[Z", Cond.fieldLink RX3 44 "CupDrawModel" "balls" "[I", Cond.methodLink RX3 126 yX3_lowestLeft, Cond.instanceMethod yX3_lowestLeft, Cond.selects RX3 yX3_lowestLeft yX3_lowestLeft, Cond.code yX3_lowestLeft cX3_lowestLeft 5 (some .int)]
def wsX3_chances : List Cond := .code yX3_chances cX3_chances 6 (some .int) :: ((wsX3_chances_r1 ++ (wsX3_chances_r2 ++ wsX3_chances_r3)) ++ wsX30)
def wsX3_pairings_r1 : List Cond := [Cond.fieldLink RX3 51 "CupDrawModel" "thrown" "I", Cond.fieldLink RX3 84 "CupDrawModel" "resultMany" "I", Cond.fieldLink RX3 41 "CupDrawModel" "ends" "[I", Cond.methodLink RX3 72 yX3_isTeam, Cond.instanceMethod yX3_isTeam, Cond.selects RX3 yX3_isTeam yX3_isTeam, Cond.initialized RX3, Cond.code yX3_isTeam cX3_isTeam 2 (some .boolean), Cond.methodLink RX3 64 yX3_teamMany, Cond.instanceMethod yX3_teamMany, Cond.selects RX3 yX3_teamMany yX3_teamMany, Cond.code yX3_teamMany cX3_teamMany 1 (some .int), Cond.fieldLink RX3 55 "CupDrawModel" "groupMany" "I", Cond.fieldLink RX3 58 "CupDrawModel" "potMany" "I", Cond.methodLink RX3 68 yX3_in, Cond.static yX3_in, Cond.code yX3_in cX3_in 3 (some .boolean), Cond.methodLink RX3 99 yX3_layResults, Cond.instanceMethod yX3_layResults, Cond.selects RX3 yX3_layResults yX3_layResults, Cond.code yX3_layResults cX3_layResults 6 none, Cond.fieldLink RX3 29 "CupDrawModel" "results" "[I", Cond.fieldLink RX3 32 "CupDrawModel" "row" "[I", Cond.methodLink RX3 80 yX3_factorial]
def wsX3_pairings_r2 : List Cond := [Cond.static yX3_factorial, Cond.code yX3_factorial cX3_factorial 3 (some .int), Cond.methodLink RX3 87 yX3_layOrder, Cond.instanceMethod yX3_layOrder, Cond.selects RX3 yX3_layOrder yX3_layOrder, Cond.code yX3_layOrder cX3_layOrder 8 none, Cond.fieldLink RX3 35 "CupDrawModel" "isUsed" "[Z", Cond.methodLink RX3 91 yX3_isLawful, Cond.instanceMethod yX3_isLawful, Cond.selects RX3 yX3_isLawful yX3_isLawful, Cond.code yX3_isLawful cX3_isLawful 5 (some .boolean), Cond.fieldLink RX3 7 "CupDrawModel" "regions" "[I", Cond.fieldLink RX3 16 "CupDrawModel" "isApart" "[Z", Cond.fieldLink RX3 20 "CupDrawModel" "isOther" "[Z", Cond.fieldLink RX3 13 "CupDrawModel" "bounds" "[I", Cond.fieldLink RX3 26 "CupDrawModel" "places" "[I", Cond.methodLink RX3 123 yX3_orderMany, Cond.instanceMethod yX3_orderMany, Cond.selects RX3 yX3_orderMany yX3_orderMany, Cond.code yX3_orderMany cX3_orderMany 5 (some .int), Cond.methodLink RX3 129 yX3_follow, Cond.instanceMethod yX3_follow, Cond.selects RX3 yX3_follow yX3_follow, Cond.code yX3_follow cX3_follow 8 none]
def wsX3_pairings_r3 : List Cond := [Cond.fieldLink RX3 38 "CupDrawModel" "isLeft" "[Z", Cond.fieldLink RX3 44 "CupDrawModel" "balls" "[I", Cond.methodLink RX3 126 yX3_lowestLeft, Cond.instanceMethod yX3_lowestLeft, Cond.selects RX3 yX3_lowestLeft yX3_lowestLeft, Cond.code yX3_lowestLeft cX3_lowestLeft 5 (some .int)]
def wsX3_pairings : List Cond := .code yX3_pairings cX3_pairings 6 (some .int) :: ((wsX3_pairings_r1 ++ (wsX3_pairings_r2 ++ wsX3_pairings_r3)) ++ wsX30)
def wsL_lay_r1 : List Cond := [Cond.classLink RL 13 "java/lang/IllegalArgumentException", Cond.methodLink RL 7 yX2_lay, Cond.instanceMethod yX2_lay, Cond.selects RX2 yX2_lay yX2_lay, Cond.initialized RX2, Cond.code yX2_lay cX2_lay 3 (some .int), Cond.classLink RX2 40 "java/lang/IllegalArgumentException", Cond.initialized "java/lang/IllegalArgumentException", Cond.fieldLink RX2 10 "CupDraw" "bowl" "LCupDraw$Bowl;", Cond.methodLink RX2 36 yX2_startWith, Cond.instanceMethod yX2_startWith, Cond.selects RX2 yX2_startWith yX2_startWith, Cond.code yX2_startWith cX2_startWith 4 none, Cond.fieldLink RX2 26 "CupDraw" "seats" "[I", Cond.fieldLink RX2 92 "CupDraw" "drawnCount" "I", Cond.methodLink RX2 177 yX0_reset, Cond.instanceMethod yX0_reset, Cond.selects RX0 yX0_reset yX0_reset, Cond.initialized RX0, Cond.code yX0_reset cX0_reset 4 none, Cond.fieldLink RX0 30 "CupDraw$Bowl" "groups" "I", Cond.fieldLink RX0 34 "CupDraw$Bowl" "pots" "I", Cond.fieldLink RX0 37 "CupDraw$Bowl" "teams" "I", Cond.fieldLink RX0 15 "CupDraw$Bowl" "bounds" "[I"]
def wsL_lay_r2 : List Cond := [Cond.fieldLink RX0 9 "CupDraw$Bowl" "regions" "[I", Cond.fieldLink RX0 18 "CupDraw$Bowl" "apart" "[I", Cond.fieldLink RX0 21 "CupDraw$Bowl" "otherDays" "[I", Cond.methodLink RX0 40 yX0_resetPot, Cond.instanceMethod yX0_resetPot, Cond.selects RX0 yX0_resetPot yX0_resetPot, Cond.code yX0_resetPot cX0_resetPot 4 none, Cond.fieldLink RX0 24 "CupDraw$Bowl" "potMates" "[I", Cond.methodLink RX2 69 yX2_forgetResults, Cond.instanceMethod yX2_forgetResults, Cond.selects RX2 yX2_forgetResults yX2_forgetResults, Cond.code yX2_forgetResults cX2_forgetResults 1 none, Cond.fieldLink RX2 186 "CupDraw" "isOpenListFresh" "Z", Cond.fieldLink RX2 113 "CupDraw" "isEndListFresh" "Z"]
def wsL_lay : List Cond := .codeWith yL_lay cL_lay 5 (some .int) [(0, 10, 13, 13)] :: ((wsL_lay_r1 ++ wsL_lay_r2) ++ wsX20 ++ wsX00 ++ (vx_atS RX2 44 "java/lang/IllegalArgumentException" ["java/lang/RuntimeException", "java/lang/Exception"]).filter goodWord)
def wsL_setRegion_r1 : List Cond := [Cond.classLink RL 18 "java/lang/IndexOutOfBoundsException", Cond.classLink RL 20 "java/lang/IllegalStateException", Cond.methodLink RL 15 yX2_setRegion, Cond.instanceMethod yX2_setRegion, Cond.selects RX2 yX2_setRegion yX2_setRegion, Cond.initialized RX2, Cond.code yX2_setRegion cX2_setRegion 4 (some .int), Cond.classLink RX2 58 "java/lang/IndexOutOfBoundsException", Cond.initialized "java/lang/IndexOutOfBoundsException", Cond.fieldLink RX2 10 "CupDraw" "bowl" "LCupDraw$Bowl;", Cond.methodLink RX2 51 yX0_hasTeam, Cond.instanceMethod yX0_hasTeam, Cond.selects RX0 yX0_hasTeam yX0_hasTeam, Cond.initialized RX0, Cond.code yX0_hasTeam cX0_hasTeam 2 (some .boolean), Cond.fieldLink RX0 37 "CupDraw$Bowl" "teams" "I", Cond.methodLink RX2 55 yX0_hasRegion, Cond.instanceMethod yX0_hasRegion, Cond.selects RX0 yX0_hasRegion yX0_hasRegion, Cond.code yX0_hasRegion cX0_hasRegion 2 (some .boolean), Cond.methodLink RX2 63 yX2_requireNothingDrawn, Cond.instanceMethod yX2_requireNothingDrawn, Cond.selects RX2 yX2_requireNothingDrawn yX2_requireNothingDrawn, Cond.code yX2_requireNothingDrawn cX2_requireNothingDrawn 1 none]
def wsL_setRegion_r2 : List Cond := [Cond.classLink RX2 102 "java/lang/IllegalStateException", Cond.initialized "java/lang/IllegalStateException", Cond.fieldLink RX2 92 "CupDraw" "drawnCount" "I", Cond.methodLink RX2 69 yX2_forgetResults, Cond.instanceMethod yX2_forgetResults, Cond.selects RX2 yX2_forgetResults yX2_forgetResults, Cond.code yX2_forgetResults cX2_forgetResults 1 none, Cond.fieldLink RX2 186 "CupDraw" "isOpenListFresh" "Z", Cond.fieldLink RX2 113 "CupDraw" "isEndListFresh" "Z"]
def wsL_setRegion : List Cond := .codeWith yL_setRegion cL_setRegion 5 (some .int) [(0, 10, 13, 18), (0, 10, 17, 20)] :: ((wsL_setRegion_r1 ++ wsL_setRegion_r2) ++ wsX20 ++ wsX00 ++ (vx_atS RX2 62 "java/lang/IndexOutOfBoundsException" ["java/lang/RuntimeException", "java/lang/Exception"]).filter goodWord ++ (vx_atS RX2 106 "java/lang/IllegalStateException" ["java/lang/RuntimeException", "java/lang/Exception"]).filter goodWord)
def wsL_setBound_r1 : List Cond := [Cond.classLink RL 18 "java/lang/IndexOutOfBoundsException", Cond.classLink RL 13 "java/lang/IllegalArgumentException", Cond.classLink RL 20 "java/lang/IllegalStateException", Cond.methodLink RL 22 yX2_setBound, Cond.instanceMethod yX2_setBound, Cond.selects RX2 yX2_setBound yX2_setBound, Cond.initialized RX2, Cond.code yX2_setBound cX2_setBound 4 (some .int), Cond.classLink RX2 58 "java/lang/IndexOutOfBoundsException", Cond.initialized "java/lang/IndexOutOfBoundsException", Cond.classLink RX2 40 "java/lang/IllegalArgumentException", Cond.initialized "java/lang/IllegalArgumentException", Cond.fieldLink RX2 10 "CupDraw" "bowl" "LCupDraw$Bowl;", Cond.methodLink RX2 55 yX0_hasRegion, Cond.instanceMethod yX0_hasRegion, Cond.selects RX0 yX0_hasRegion yX0_hasRegion, Cond.initialized RX0, Cond.code yX0_hasRegion cX0_hasRegion 2 (some .boolean), Cond.methodLink RX2 63 yX2_requireNothingDrawn, Cond.instanceMethod yX2_requireNothingDrawn, Cond.selects RX2 yX2_requireNothingDrawn yX2_requireNothingDrawn, Cond.code yX2_requireNothingDrawn cX2_requireNothingDrawn 1 none, Cond.classLink RX2 102 "java/lang/IllegalStateException", Cond.initialized "java/lang/IllegalStateException"]
def wsL_setBound_r2 : List Cond := [Cond.fieldLink RX2 92 "CupDraw" "drawnCount" "I", Cond.methodLink RX2 69 yX2_forgetResults, Cond.instanceMethod yX2_forgetResults, Cond.selects RX2 yX2_forgetResults yX2_forgetResults, Cond.code yX2_forgetResults cX2_forgetResults 1 none, Cond.fieldLink RX2 186 "CupDraw" "isOpenListFresh" "Z", Cond.fieldLink RX2 113 "CupDraw" "isEndListFresh" "Z"]
def wsL_setBound : List Cond := .codeWith yL_setBound cL_setBound 5 (some .int) [(0, 10, 13, 18), (0, 10, 17, 13), (0, 10, 21, 20)] :: ((wsL_setBound_r1 ++ wsL_setBound_r2) ++ wsX20 ++ wsX00 ++ (vx_atS RX2 62 "java/lang/IndexOutOfBoundsException" ["java/lang/RuntimeException", "java/lang/Exception"]).filter goodWord ++ (vx_atS RX2 44 "java/lang/IllegalArgumentException" ["java/lang/RuntimeException", "java/lang/Exception"]).filter goodWord ++ (vx_atS RX2 106 "java/lang/IllegalStateException" ["java/lang/RuntimeException", "java/lang/Exception"]).filter goodWord)
def wsL_setApart_r1 : List Cond := [Cond.classLink RL 18 "java/lang/IndexOutOfBoundsException", Cond.classLink RL 13 "java/lang/IllegalArgumentException", Cond.classLink RL 20 "java/lang/IllegalStateException", Cond.methodLink RL 25 yX2_setApart, Cond.instanceMethod yX2_setApart, Cond.selects RX2 yX2_setApart yX2_setApart, Cond.initialized RX2, Cond.code yX2_setApart cX2_setApart 4 (some .boolean), Cond.fieldLink RX2 10 "CupDraw" "bowl" "LCupDraw$Bowl;", Cond.methodLink RX2 79 yX2_requireTwoTeams, Cond.instanceMethod yX2_requireTwoTeams, Cond.selects RX2 yX2_requireTwoTeams yX2_requireTwoTeams, Cond.code yX2_requireTwoTeams cX2_requireTwoTeams 3 none, Cond.classLink RX2 40 "java/lang/IllegalArgumentException", Cond.initialized "java/lang/IllegalArgumentException", Cond.methodLink RX2 136 yX2_requireTeam, Cond.instanceMethod yX2_requireTeam, Cond.selects RX2 yX2_requireTeam yX2_requireTeam, Cond.code yX2_requireTeam cX2_requireTeam 2 none, Cond.classLink RX2 58 "java/lang/IndexOutOfBoundsException", Cond.initialized "java/lang/IndexOutOfBoundsException", Cond.methodLink RX2 51 yX0_hasTeam, Cond.instanceMethod yX0_hasTeam, Cond.selects RX0 yX0_hasTeam yX0_hasTeam]
def wsL_setApart_r2 : List Cond := [Cond.initialized RX0, Cond.code yX0_hasTeam cX0_hasTeam 2 (some .boolean), Cond.fieldLink RX0 37 "CupDraw$Bowl" "teams" "I", Cond.methodLink RX2 63 yX2_requireNothingDrawn, Cond.instanceMethod yX2_requireNothingDrawn, Cond.selects RX2 yX2_requireNothingDrawn yX2_requireNothingDrawn, Cond.code yX2_requireNothingDrawn cX2_requireNothingDrawn 1 none, Cond.classLink RX2 102 "java/lang/IllegalStateException", Cond.initialized "java/lang/IllegalStateException", Cond.fieldLink RX2 92 "CupDraw" "drawnCount" "I", Cond.methodLink RX2 69 yX2_forgetResults, Cond.instanceMethod yX2_forgetResults, Cond.selects RX2 yX2_forgetResults yX2_forgetResults, Cond.code yX2_forgetResults cX2_forgetResults 1 none, Cond.fieldLink RX2 186 "CupDraw" "isOpenListFresh" "Z", Cond.fieldLink RX2 113 "CupDraw" "isEndListFresh" "Z", Cond.methodLink RX2 85 yX0_setPair, Cond.static yX0_setPair, Cond.code yX0_setPair cX0_setPair 5 (some .boolean)]
def wsL_setApart : List Cond := .codeWith yL_setApart cL_setApart 6 (some .int) [(0, 19, 22, 18), (0, 19, 26, 13), (0, 19, 30, 20)] :: ((wsL_setApart_r1 ++ wsL_setApart_r2) ++ wsX20 ++ wsX00 ++ (vx_atS RX2 44 "java/lang/IllegalArgumentException" ["java/lang/RuntimeException", "java/lang/Exception"]).filter goodWord ++ (vx_atS RX2 62 "java/lang/IndexOutOfBoundsException" ["java/lang/RuntimeException", "java/lang/Exception"]).filter goodWord ++ (vx_atS RX2 106 "java/lang/IllegalStateException" ["java/lang/RuntimeException", "java/lang/Exception"]).filter goodWord)
def wsL_setOtherDays_r1 : List Cond := [Cond.classLink RL 18 "java/lang/IndexOutOfBoundsException", Cond.classLink RL 13 "java/lang/IllegalArgumentException", Cond.classLink RL 20 "java/lang/IllegalStateException", Cond.methodLink RL 29 yX2_setOtherDays, Cond.instanceMethod yX2_setOtherDays, Cond.selects RX2 yX2_setOtherDays yX2_setOtherDays, Cond.initialized RX2, Cond.code yX2_setOtherDays cX2_setOtherDays 4 (some .boolean), Cond.fieldLink RX2 10 "CupDraw" "bowl" "LCupDraw$Bowl;", Cond.methodLink RX2 79 yX2_requireTwoTeams, Cond.instanceMethod yX2_requireTwoTeams, Cond.selects RX2 yX2_requireTwoTeams yX2_requireTwoTeams, Cond.code yX2_requireTwoTeams cX2_requireTwoTeams 3 none, Cond.classLink RX2 40 "java/lang/IllegalArgumentException", Cond.initialized "java/lang/IllegalArgumentException", Cond.methodLink RX2 136 yX2_requireTeam, Cond.instanceMethod yX2_requireTeam, Cond.selects RX2 yX2_requireTeam yX2_requireTeam, Cond.code yX2_requireTeam cX2_requireTeam 2 none, Cond.classLink RX2 58 "java/lang/IndexOutOfBoundsException", Cond.initialized "java/lang/IndexOutOfBoundsException", Cond.methodLink RX2 51 yX0_hasTeam, Cond.instanceMethod yX0_hasTeam, Cond.selects RX0 yX0_hasTeam yX0_hasTeam]
def wsL_setOtherDays_r2 : List Cond := [Cond.initialized RX0, Cond.code yX0_hasTeam cX0_hasTeam 2 (some .boolean), Cond.fieldLink RX0 37 "CupDraw$Bowl" "teams" "I", Cond.methodLink RX2 63 yX2_requireNothingDrawn, Cond.instanceMethod yX2_requireNothingDrawn, Cond.selects RX2 yX2_requireNothingDrawn yX2_requireNothingDrawn, Cond.code yX2_requireNothingDrawn cX2_requireNothingDrawn 1 none, Cond.classLink RX2 102 "java/lang/IllegalStateException", Cond.initialized "java/lang/IllegalStateException", Cond.fieldLink RX2 92 "CupDraw" "drawnCount" "I", Cond.methodLink RX2 69 yX2_forgetResults, Cond.instanceMethod yX2_forgetResults, Cond.selects RX2 yX2_forgetResults yX2_forgetResults, Cond.code yX2_forgetResults cX2_forgetResults 1 none, Cond.fieldLink RX2 186 "CupDraw" "isOpenListFresh" "Z", Cond.fieldLink RX2 113 "CupDraw" "isEndListFresh" "Z", Cond.methodLink RX2 85 yX0_setPair, Cond.static yX0_setPair, Cond.code yX0_setPair cX0_setPair 5 (some .boolean)]
def wsL_setOtherDays : List Cond := .codeWith yL_setOtherDays cL_setOtherDays 6 (some .int) [(0, 19, 22, 18), (0, 19, 26, 13), (0, 19, 30, 20)] :: ((wsL_setOtherDays_r1 ++ wsL_setOtherDays_r2) ++ wsX20 ++ wsX00 ++ (vx_atS RX2 44 "java/lang/IllegalArgumentException" ["java/lang/RuntimeException", "java/lang/Exception"]).filter goodWord ++ (vx_atS RX2 62 "java/lang/IndexOutOfBoundsException" ["java/lang/RuntimeException", "java/lang/Exception"]).filter goodWord ++ (vx_atS RX2 106 "java/lang/IllegalStateException" ["java/lang/RuntimeException", "java/lang/Exception"]).filter goodWord)
def wsL_draw_r1 : List Cond := [Cond.classLink RL 20 "java/lang/IllegalStateException", Cond.classLink RL 18 "java/lang/IndexOutOfBoundsException", Cond.methodLink RL 32 yX2_draw, Cond.instanceMethod yX2_draw, Cond.selects RX2 yX2_draw yX2_draw, Cond.initialized RX2, Cond.code yX2_draw cX2_draw 3 (some .int), Cond.classLink RX2 102 "java/lang/IllegalStateException", Cond.initialized "java/lang/IllegalStateException", Cond.classLink RX2 58 "java/lang/IndexOutOfBoundsException", Cond.initialized "java/lang/IndexOutOfBoundsException", Cond.fieldLink RX2 92 "CupDraw" "drawnCount" "I", Cond.fieldLink RX2 10 "CupDraw" "bowl" "LCupDraw$Bowl;", Cond.fieldLink RX2 113 "CupDraw" "isEndListFresh" "Z", Cond.fieldLink RX2 26 "CupDraw" "seats" "[I", Cond.methodLink RX2 95 yX2_openResults, Cond.instanceMethod yX2_openResults, Cond.selects RX2 yX2_openResults yX2_openResults, Cond.code yX2_openResults cX2_openResults 1 (some (.object "CupDraw$ResultList")), Cond.fieldLink RX2 186 "CupDraw" "isOpenListFresh" "Z", Cond.fieldLink RX2 19 "CupDraw" "openList" "LCupDraw$ResultList;", Cond.methodLink RX2 189 yX1_clear, Cond.instanceMethod yX1_clear, Cond.selects RX1 yX1_clear yX1_clear]
def wsL_draw_r2 : List Cond := [Cond.initialized RX1, Cond.code yX1_clear cX1_clear 1 none, Cond.fieldLink RX1 15 "CupDraw$ResultList" "size" "I", Cond.methodLink RX2 192 yX0_addLawful, Cond.instanceMethod yX0_addLawful, Cond.selects RX0 yX0_addLawful yX0_addLawful, Cond.initialized RX0, Cond.code yX0_addLawful cX0_addLawful 2 none, Cond.methodLink RX0 44 yX0_placeFrom, Cond.instanceMethod yX0_placeFrom, Cond.selects RX0 yX0_placeFrom yX0_placeFrom, Cond.code yX0_placeFrom cX0_placeFrom 5 none, Cond.fieldLink RX0 37 "CupDraw$Bowl" "teams" "I", Cond.fieldLink RX0 30 "CupDraw$Bowl" "groups" "I", Cond.methodLink RX0 48 yX1_add, Cond.instanceMethod yX1_add, Cond.selects RX1 yX1_add yX1_add, Cond.code yX1_add cX1_add 2 none, Cond.fieldLink RX1 9 "CupDraw$ResultList" "items" "[I", Cond.methodLink RX0 53 yX0_placeIn, Cond.instanceMethod yX0_placeIn, Cond.selects RX0 yX0_placeIn yX0_placeIn, Cond.code yX0_placeIn cX0_placeIn 5 none, Cond.fieldLink RX0 27 "CupDraw$Bowl" "members" "[I"]
def wsL_draw_r3 : List Cond := [Cond.methodLink RX0 57 yX0_admits, Cond.instanceMethod yX0_admits, Cond.selects RX0 yX0_admits yX0_admits, Cond.code yX0_admits cX0_admits 3 (some .boolean), Cond.fieldLink RX0 24 "CupDraw$Bowl" "potMates" "[I", Cond.fieldLink RX0 18 "CupDraw$Bowl" "apart" "[I", Cond.fieldLink RX0 21 "CupDraw$Bowl" "otherDays" "[I", Cond.fieldLink RX0 9 "CupDraw$Bowl" "regions" "[I", Cond.fieldLink RX0 15 "CupDraw$Bowl" "bounds" "[I", Cond.methodLink RX0 65 yX0_playersOnDay, Cond.instanceMethod yX0_playersOnDay, Cond.selects RX0 yX0_playersOnDay yX0_playersOnDay, Cond.code yX0_playersOnDay cX0_playersOnDay 4 (some .int), Cond.methodLink RX0 69 yX0_countOfRegion, Cond.instanceMethod yX0_countOfRegion, Cond.selects RX0 yX0_countOfRegion yX0_countOfRegion, Cond.code yX0_countOfRegion cX0_countOfRegion 5 (some .int), Cond.methodLink RX0 61 yX1_with, Cond.static yX1_with, Cond.code yX1_with cX1_with 3 (some .int), Cond.methodLink RX2 107 yX2_findBall, Cond.instanceMethod yX2_findBall, Cond.selects RX2 yX2_findBall yX2_findBall, Cond.code yX2_findBall cX2_findBall 6 (some .int)]
def wsL_draw_r4 : List Cond := [Cond.methodLink RX2 133 yX2_pot, Cond.instanceMethod yX2_pot, Cond.selects RX2 yX2_pot yX2_pot, Cond.code yX2_pot cX2_pot 2 (some .int), Cond.methodLink RX2 130 yX2_countLeft, Cond.instanceMethod yX2_countLeft, Cond.selects RX2 yX2_countLeft yX2_countLeft, Cond.code yX2_countLeft cX2_countLeft 5 (some .int), Cond.methodLink RX2 117 yX2_seat, Cond.instanceMethod yX2_seat, Cond.selects RX2 yX2_seat yX2_seat, Cond.code yX2_seat cX2_seat 3 none, Cond.fieldLink RX2 33 "CupDraw" "openBefore" "[I", Cond.fieldLink RX2 30 "CupDraw" "drawnTeams" "[I", Cond.methodLink RX2 157 yX1_lowestGroup, Cond.instanceMethod yX1_lowestGroup, Cond.selects RX1 yX1_lowestGroup yX1_lowestGroup, Cond.code yX1_lowestGroup cX1_lowestGroup 5 (some .int), Cond.methodLink RX1 19 yX1_groupIn, Cond.static yX1_groupIn, Cond.code yX1_groupIn cX1_groupIn 2 (some .int), Cond.methodLink RX2 180 yX1_narrow, Cond.instanceMethod yX1_narrow, Cond.selects RX1 yX1_narrow yX1_narrow]
def wsL_draw_r5 : List Cond := [Cond.code yX1_narrow cX1_narrow 6 none]
def wsL_draw : List Cond := .codeWith yL_draw cL_draw 4 (some .int) [(0, 9, 12, 20), (0, 9, 15, 18)] :: ((wsL_draw_r1 ++ (wsL_draw_r2 ++ (wsL_draw_r3 ++ (wsL_draw_r4 ++ wsL_draw_r5)))) ++ wsX20 ++ wsX00 ++ wsX10 ++ (vx_atS RX2 106 "java/lang/IllegalStateException" ["java/lang/RuntimeException", "java/lang/Exception"]).filter goodWord ++ (vx_atS RX2 62 "java/lang/IndexOutOfBoundsException" ["java/lang/RuntimeException", "java/lang/Exception"]).filter goodWord)
def wsL_undo : List Cond := .codeWith yL_undo cL_undo 3 (some .int) [(0, 8, 11, 20)] :: ([.classLink RL 20 "java/lang/IllegalStateException", .methodLink RL 36 yX2_undo, .instanceMethod yX2_undo, .selects RX2 yX2_undo yX2_undo, .initialized RX2, .code yX2_undo cX2_undo 1 (some .int), .classLink RX2 102 "java/lang/IllegalStateException", .initialized "java/lang/IllegalStateException", .fieldLink RX2 92 "CupDraw" "drawnCount" "I", .fieldLink RX2 113 "CupDraw" "isEndListFresh" "Z", .methodLink RX2 123 yX2_unseat, .instanceMethod yX2_unseat, .selects RX2 yX2_unseat yX2_unseat, .code yX2_unseat cX2_unseat 2 (some .int), .fieldLink RX2 30 "CupDraw" "drawnTeams" "[I", .fieldLink RX2 26 "CupDraw" "seats" "[I", .fieldLink RX2 19 "CupDraw" "openList" "LCupDraw$ResultList;", .fieldLink RX2 33 "CupDraw" "openBefore" "[I", .methodLink RX2 183 yX1_widen, .instanceMethod yX1_widen, .selects RX1 yX1_widen yX1_widen, .initialized RX1, .code yX1_widen cX1_widen 2 none, .fieldLink RX1 15 "CupDraw$ResultList" "size" "I"] ++ wsX20 ++ wsX10 ++ (vx_atS RX2 106 "java/lang/IllegalStateException" ["java/lang/RuntimeException", "java/lang/Exception"]).filter goodWord)
def wsL_ballAt : List Cond := .codeWith yL_ballAt cL_ballAt 4 (some .int) [(0, 9, 12, 18)] :: ([.classLink RL 18 "java/lang/IndexOutOfBoundsException", .methodLink RL 40 yX2_ballAt, .instanceMethod yX2_ballAt, .selects RX2 yX2_ballAt yX2_ballAt, .initialized RX2, .code yX2_ballAt cX2_ballAt 3 (some .int), .classLink RX2 58 "java/lang/IndexOutOfBoundsException", .initialized "java/lang/IndexOutOfBoundsException", .methodLink RX2 107 yX2_findBall, .instanceMethod yX2_findBall, .selects RX2 yX2_findBall yX2_findBall, .code yX2_findBall cX2_findBall 6 (some .int), .fieldLink RX2 10 "CupDraw" "bowl" "LCupDraw$Bowl;", .fieldLink RX2 26 "CupDraw" "seats" "[I", .methodLink RX2 133 yX2_pot, .instanceMethod yX2_pot, .selects RX2 yX2_pot yX2_pot, .code yX2_pot cX2_pot 2 (some .int), .methodLink RX2 130 yX2_countLeft, .instanceMethod yX2_countLeft, .selects RX2 yX2_countLeft yX2_countLeft, .code yX2_countLeft cX2_countLeft 5 (some .int)] ++ wsX20 ++ wsX00 ++ (vx_atS RX2 62 "java/lang/IndexOutOfBoundsException" ["java/lang/RuntimeException", "java/lang/Exception"]).filter goodWord)
def wsL_groupOf : List Cond := .codeWith yL_groupOf cL_groupOf 4 (some .int) [(0, 9, 12, 18)] :: ([.classLink RL 18 "java/lang/IndexOutOfBoundsException", .methodLink RL 43 yX2_groupOf, .instanceMethod yX2_groupOf, .selects RX2 yX2_groupOf yX2_groupOf, .initialized RX2, .code yX2_groupOf cX2_groupOf 2 (some .int), .fieldLink RX2 26 "CupDraw" "seats" "[I", .methodLink RX2 136 yX2_requireTeam, .instanceMethod yX2_requireTeam, .selects RX2 yX2_requireTeam yX2_requireTeam, .code yX2_requireTeam cX2_requireTeam 2 none, .classLink RX2 58 "java/lang/IndexOutOfBoundsException", .initialized "java/lang/IndexOutOfBoundsException", .fieldLink RX2 10 "CupDraw" "bowl" "LCupDraw$Bowl;", .methodLink RX2 51 yX0_hasTeam, .instanceMethod yX0_hasTeam, .selects RX0 yX0_hasTeam yX0_hasTeam, .initialized RX0, .code yX0_hasTeam cX0_hasTeam 2 (some .boolean), .fieldLink RX0 37 "CupDraw$Bowl" "teams" "I"] ++ wsX20 ++ wsX00 ++ (vx_atS RX2 62 "java/lang/IndexOutOfBoundsException" ["java/lang/RuntimeException", "java/lang/Exception"]).filter goodWord)
def wsL_teamAt : List Cond := .codeWith yL_teamAt cL_teamAt 5 (some .int) [(0, 10, 13, 18)] :: ([.classLink RL 18 "java/lang/IndexOutOfBoundsException", .methodLink RL 46 yX2_teamAt, .instanceMethod yX2_teamAt, .selects RX2 yX2_teamAt yX2_teamAt, .initialized RX2, .code yX2_teamAt cX2_teamAt 5 (some .int), .classLink RX2 58 "java/lang/IndexOutOfBoundsException", .initialized "java/lang/IndexOutOfBoundsException", .fieldLink RX2 10 "CupDraw" "bowl" "LCupDraw$Bowl;", .fieldLink RX2 26 "CupDraw" "seats" "[I", .methodLink RX2 139 yX0_hasGroup, .instanceMethod yX0_hasGroup, .selects RX0 yX0_hasGroup yX0_hasGroup, .initialized RX0, .code yX0_hasGroup cX0_hasGroup 2 (some .boolean), .fieldLink RX0 30 "CupDraw$Bowl" "groups" "I", .methodLink RX2 142 yX0_hasPot, .instanceMethod yX0_hasPot, .selects RX0 yX0_hasPot yX0_hasPot, .code yX0_hasPot cX0_hasPot 2 (some .boolean), .fieldLink RX0 34 "CupDraw$Bowl" "pots" "I"] ++ wsX20 ++ wsX00 ++ (vx_atS RX2 62 "java/lang/IndexOutOfBoundsException" ["java/lang/RuntimeException", "java/lang/Exception"]).filter goodWord)
def wsL_fits_r1 : List Cond := [Cond.classLink RL 18 "java/lang/IndexOutOfBoundsException", Cond.methodLink RL 49 yX2_fits, Cond.instanceMethod yX2_fits, Cond.selects RX2 yX2_fits yX2_fits, Cond.initialized RX2, Cond.code yX2_fits cX2_fits 3 (some .boolean), Cond.methodLink RX2 150 yX2_requireTeamAndGroup, Cond.instanceMethod yX2_requireTeamAndGroup, Cond.selects RX2 yX2_requireTeamAndGroup yX2_requireTeamAndGroup, Cond.code yX2_requireTeamAndGroup cX2_requireTeamAndGroup 3 none, Cond.classLink RX2 58 "java/lang/IndexOutOfBoundsException", Cond.initialized "java/lang/IndexOutOfBoundsException", Cond.fieldLink RX2 10 "CupDraw" "bowl" "LCupDraw$Bowl;", Cond.methodLink RX2 51 yX0_hasTeam, Cond.instanceMethod yX0_hasTeam, Cond.selects RX0 yX0_hasTeam yX0_hasTeam, Cond.initialized RX0, Cond.code yX0_hasTeam cX0_hasTeam 2 (some .boolean), Cond.fieldLink RX0 37 "CupDraw$Bowl" "teams" "I", Cond.methodLink RX2 139 yX0_hasGroup, Cond.instanceMethod yX0_hasGroup, Cond.selects RX0 yX0_hasGroup yX0_hasGroup, Cond.code yX0_hasGroup cX0_hasGroup 2 (some .boolean), Cond.fieldLink RX0 30 "CupDraw$Bowl" "groups" "I"]
def wsL_fits_r2 : List Cond := [Cond.methodLink RX2 95 yX2_openResults, Cond.instanceMethod yX2_openResults, Cond.selects RX2 yX2_openResults yX2_openResults, Cond.code yX2_openResults cX2_openResults 1 (some (.object "CupDraw$ResultList")), Cond.fieldLink RX2 186 "CupDraw" "isOpenListFresh" "Z", Cond.fieldLink RX2 19 "CupDraw" "openList" "LCupDraw$ResultList;", Cond.methodLink RX2 189 yX1_clear, Cond.instanceMethod yX1_clear, Cond.selects RX1 yX1_clear yX1_clear, Cond.initialized RX1, Cond.code yX1_clear cX1_clear 1 none, Cond.fieldLink RX1 15 "CupDraw$ResultList" "size" "I", Cond.methodLink RX2 192 yX0_addLawful, Cond.instanceMethod yX0_addLawful, Cond.selects RX0 yX0_addLawful yX0_addLawful, Cond.code yX0_addLawful cX0_addLawful 2 none, Cond.methodLink RX0 44 yX0_placeFrom, Cond.instanceMethod yX0_placeFrom, Cond.selects RX0 yX0_placeFrom yX0_placeFrom, Cond.code yX0_placeFrom cX0_placeFrom 5 none, Cond.methodLink RX0 48 yX1_add, Cond.instanceMethod yX1_add, Cond.selects RX1 yX1_add yX1_add, Cond.code yX1_add cX1_add 2 none]
def wsL_fits_r3 : List Cond := [Cond.fieldLink RX1 9 "CupDraw$ResultList" "items" "[I", Cond.methodLink RX0 53 yX0_placeIn, Cond.instanceMethod yX0_placeIn, Cond.selects RX0 yX0_placeIn yX0_placeIn, Cond.code yX0_placeIn cX0_placeIn 5 none, Cond.fieldLink RX0 27 "CupDraw$Bowl" "members" "[I", Cond.methodLink RX0 57 yX0_admits, Cond.instanceMethod yX0_admits, Cond.selects RX0 yX0_admits yX0_admits, Cond.code yX0_admits cX0_admits 3 (some .boolean), Cond.fieldLink RX0 24 "CupDraw$Bowl" "potMates" "[I", Cond.fieldLink RX0 18 "CupDraw$Bowl" "apart" "[I", Cond.fieldLink RX0 21 "CupDraw$Bowl" "otherDays" "[I", Cond.fieldLink RX0 9 "CupDraw$Bowl" "regions" "[I", Cond.fieldLink RX0 15 "CupDraw$Bowl" "bounds" "[I", Cond.methodLink RX0 65 yX0_playersOnDay, Cond.instanceMethod yX0_playersOnDay, Cond.selects RX0 yX0_playersOnDay yX0_playersOnDay, Cond.code yX0_playersOnDay cX0_playersOnDay 4 (some .int), Cond.methodLink RX0 69 yX0_countOfRegion, Cond.instanceMethod yX0_countOfRegion, Cond.selects RX0 yX0_countOfRegion yX0_countOfRegion, Cond.code yX0_countOfRegion cX0_countOfRegion 5 (some .int), Cond.methodLink RX0 61 yX1_with]
def wsL_fits_r4 : List Cond := [Cond.static yX1_with, Cond.code yX1_with cX1_with 3 (some .int), Cond.methodLink RX2 153 yX1_countInGroup, Cond.instanceMethod yX1_countInGroup, Cond.selects RX1 yX1_countInGroup yX1_countInGroup, Cond.code yX1_countInGroup cX1_countInGroup 5 (some .int), Cond.methodLink RX1 19 yX1_groupIn, Cond.static yX1_groupIn, Cond.code yX1_groupIn cX1_groupIn 2 (some .int)]
def wsL_fits : List Cond := .codeWith yL_fits cL_fits 5 (some .int) [(0, 17, 20, 18)] :: ((wsL_fits_r1 ++ (wsL_fits_r2 ++ (wsL_fits_r3 ++ wsL_fits_r4))) ++ wsX20 ++ wsX00 ++ wsX10 ++ (vx_atS RX2 62 "java/lang/IndexOutOfBoundsException" ["java/lang/RuntimeException", "java/lang/Exception"]).filter goodWord)
def wsL_forced_r1 : List Cond := [Cond.classLink RL 18 "java/lang/IndexOutOfBoundsException", Cond.methodLink RL 53 yX2_forced, Cond.instanceMethod yX2_forced, Cond.selects RX2 yX2_forced yX2_forced, Cond.initialized RX2, Cond.code yX2_forced cX2_forced 5 (some .int), Cond.methodLink RX2 136 yX2_requireTeam, Cond.instanceMethod yX2_requireTeam, Cond.selects RX2 yX2_requireTeam yX2_requireTeam, Cond.code yX2_requireTeam cX2_requireTeam 2 none, Cond.classLink RX2 58 "java/lang/IndexOutOfBoundsException", Cond.initialized "java/lang/IndexOutOfBoundsException", Cond.fieldLink RX2 10 "CupDraw" "bowl" "LCupDraw$Bowl;", Cond.methodLink RX2 51 yX0_hasTeam, Cond.instanceMethod yX0_hasTeam, Cond.selects RX0 yX0_hasTeam yX0_hasTeam, Cond.initialized RX0, Cond.code yX0_hasTeam cX0_hasTeam 2 (some .boolean), Cond.fieldLink RX0 37 "CupDraw$Bowl" "teams" "I", Cond.methodLink RX2 95 yX2_openResults, Cond.instanceMethod yX2_openResults, Cond.selects RX2 yX2_openResults yX2_openResults, Cond.code yX2_openResults cX2_openResults 1 (some (.object "CupDraw$ResultList")), Cond.fieldLink RX2 186 "CupDraw" "isOpenListFresh" "Z"]
def wsL_forced_r2 : List Cond := [Cond.fieldLink RX2 19 "CupDraw" "openList" "LCupDraw$ResultList;", Cond.methodLink RX2 189 yX1_clear, Cond.instanceMethod yX1_clear, Cond.selects RX1 yX1_clear yX1_clear, Cond.initialized RX1, Cond.code yX1_clear cX1_clear 1 none, Cond.fieldLink RX1 15 "CupDraw$ResultList" "size" "I", Cond.methodLink RX2 192 yX0_addLawful, Cond.instanceMethod yX0_addLawful, Cond.selects RX0 yX0_addLawful yX0_addLawful, Cond.code yX0_addLawful cX0_addLawful 2 none, Cond.methodLink RX0 44 yX0_placeFrom, Cond.instanceMethod yX0_placeFrom, Cond.selects RX0 yX0_placeFrom yX0_placeFrom, Cond.code yX0_placeFrom cX0_placeFrom 5 none, Cond.fieldLink RX0 30 "CupDraw$Bowl" "groups" "I", Cond.methodLink RX0 48 yX1_add, Cond.instanceMethod yX1_add, Cond.selects RX1 yX1_add yX1_add, Cond.code yX1_add cX1_add 2 none, Cond.fieldLink RX1 9 "CupDraw$ResultList" "items" "[I", Cond.methodLink RX0 53 yX0_placeIn, Cond.instanceMethod yX0_placeIn, Cond.selects RX0 yX0_placeIn yX0_placeIn]
def wsL_forced_r3 : List Cond := [Cond.code yX0_placeIn cX0_placeIn 5 none, Cond.fieldLink RX0 27 "CupDraw$Bowl" "members" "[I", Cond.methodLink RX0 57 yX0_admits, Cond.instanceMethod yX0_admits, Cond.selects RX0 yX0_admits yX0_admits, Cond.code yX0_admits cX0_admits 3 (some .boolean), Cond.fieldLink RX0 24 "CupDraw$Bowl" "potMates" "[I", Cond.fieldLink RX0 18 "CupDraw$Bowl" "apart" "[I", Cond.fieldLink RX0 21 "CupDraw$Bowl" "otherDays" "[I", Cond.fieldLink RX0 9 "CupDraw$Bowl" "regions" "[I", Cond.fieldLink RX0 15 "CupDraw$Bowl" "bounds" "[I", Cond.methodLink RX0 65 yX0_playersOnDay, Cond.instanceMethod yX0_playersOnDay, Cond.selects RX0 yX0_playersOnDay yX0_playersOnDay, Cond.code yX0_playersOnDay cX0_playersOnDay 4 (some .int), Cond.methodLink RX0 69 yX0_countOfRegion, Cond.instanceMethod yX0_countOfRegion, Cond.selects RX0 yX0_countOfRegion yX0_countOfRegion, Cond.code yX0_countOfRegion cX0_countOfRegion 5 (some .int), Cond.methodLink RX0 61 yX1_with, Cond.static yX1_with, Cond.code yX1_with cX1_with 3 (some .int), Cond.methodLink RX2 157 yX1_lowestGroup, Cond.instanceMethod yX1_lowestGroup]
def wsL_forced_r4 : List Cond := [Cond.selects RX1 yX1_lowestGroup yX1_lowestGroup, Cond.code yX1_lowestGroup cX1_lowestGroup 5 (some .int), Cond.methodLink RX1 19 yX1_groupIn, Cond.static yX1_groupIn, Cond.code yX1_groupIn cX1_groupIn 2 (some .int), Cond.methodLink RX2 153 yX1_countInGroup, Cond.instanceMethod yX1_countInGroup, Cond.selects RX1 yX1_countInGroup yX1_countInGroup, Cond.code yX1_countInGroup cX1_countInGroup 5 (some .int)]
def wsL_forced : List Cond := .codeWith yL_forced cL_forced 4 (some .int) [(0, 9, 12, 18)] :: ((wsL_forced_r1 ++ (wsL_forced_r2 ++ (wsL_forced_r3 ++ wsL_forced_r4))) ++ wsX10 ++ wsX20 ++ wsX00 ++ (vx_atS RX2 62 "java/lang/IndexOutOfBoundsException" ["java/lang/RuntimeException", "java/lang/Exception"]).filter goodWord)
def wsL_evenly_r1 : List Cond := [Cond.classLink RL 18 "java/lang/IndexOutOfBoundsException", Cond.methodLink RL 56 yX2_evenly, Cond.instanceMethod yX2_evenly, Cond.selects RX2 yX2_evenly yX2_evenly, Cond.initialized RX2, Cond.code yX2_evenly cX2_evenly 3 (some .int), Cond.methodLink RX2 150 yX2_requireTeamAndGroup, Cond.instanceMethod yX2_requireTeamAndGroup, Cond.selects RX2 yX2_requireTeamAndGroup yX2_requireTeamAndGroup, Cond.code yX2_requireTeamAndGroup cX2_requireTeamAndGroup 3 none, Cond.classLink RX2 58 "java/lang/IndexOutOfBoundsException", Cond.initialized "java/lang/IndexOutOfBoundsException", Cond.fieldLink RX2 10 "CupDraw" "bowl" "LCupDraw$Bowl;", Cond.methodLink RX2 51 yX0_hasTeam, Cond.instanceMethod yX0_hasTeam, Cond.selects RX0 yX0_hasTeam yX0_hasTeam, Cond.initialized RX0, Cond.code yX0_hasTeam cX0_hasTeam 2 (some .boolean), Cond.fieldLink RX0 37 "CupDraw$Bowl" "teams" "I", Cond.methodLink RX2 139 yX0_hasGroup, Cond.instanceMethod yX0_hasGroup, Cond.selects RX0 yX0_hasGroup yX0_hasGroup, Cond.code yX0_hasGroup cX0_hasGroup 2 (some .boolean), Cond.fieldLink RX0 30 "CupDraw$Bowl" "groups" "I"]
def wsL_evenly_r2 : List Cond := [Cond.methodLink RX2 95 yX2_openResults, Cond.instanceMethod yX2_openResults, Cond.selects RX2 yX2_openResults yX2_openResults, Cond.code yX2_openResults cX2_openResults 1 (some (.object "CupDraw$ResultList")), Cond.fieldLink RX2 186 "CupDraw" "isOpenListFresh" "Z", Cond.fieldLink RX2 19 "CupDraw" "openList" "LCupDraw$ResultList;", Cond.methodLink RX2 189 yX1_clear, Cond.instanceMethod yX1_clear, Cond.selects RX1 yX1_clear yX1_clear, Cond.initialized RX1, Cond.code yX1_clear cX1_clear 1 none, Cond.fieldLink RX1 15 "CupDraw$ResultList" "size" "I", Cond.methodLink RX2 192 yX0_addLawful, Cond.instanceMethod yX0_addLawful, Cond.selects RX0 yX0_addLawful yX0_addLawful, Cond.code yX0_addLawful cX0_addLawful 2 none, Cond.methodLink RX0 44 yX0_placeFrom, Cond.instanceMethod yX0_placeFrom, Cond.selects RX0 yX0_placeFrom yX0_placeFrom, Cond.code yX0_placeFrom cX0_placeFrom 5 none, Cond.methodLink RX0 48 yX1_add, Cond.instanceMethod yX1_add, Cond.selects RX1 yX1_add yX1_add, Cond.code yX1_add cX1_add 2 none]
def wsL_evenly_r3 : List Cond := [Cond.fieldLink RX1 9 "CupDraw$ResultList" "items" "[I", Cond.methodLink RX0 53 yX0_placeIn, Cond.instanceMethod yX0_placeIn, Cond.selects RX0 yX0_placeIn yX0_placeIn, Cond.code yX0_placeIn cX0_placeIn 5 none, Cond.fieldLink RX0 27 "CupDraw$Bowl" "members" "[I", Cond.methodLink RX0 57 yX0_admits, Cond.instanceMethod yX0_admits, Cond.selects RX0 yX0_admits yX0_admits, Cond.code yX0_admits cX0_admits 3 (some .boolean), Cond.fieldLink RX0 24 "CupDraw$Bowl" "potMates" "[I", Cond.fieldLink RX0 18 "CupDraw$Bowl" "apart" "[I", Cond.fieldLink RX0 21 "CupDraw$Bowl" "otherDays" "[I", Cond.fieldLink RX0 9 "CupDraw$Bowl" "regions" "[I", Cond.fieldLink RX0 15 "CupDraw$Bowl" "bounds" "[I", Cond.methodLink RX0 65 yX0_playersOnDay, Cond.instanceMethod yX0_playersOnDay, Cond.selects RX0 yX0_playersOnDay yX0_playersOnDay, Cond.code yX0_playersOnDay cX0_playersOnDay 4 (some .int), Cond.methodLink RX0 69 yX0_countOfRegion, Cond.instanceMethod yX0_countOfRegion, Cond.selects RX0 yX0_countOfRegion yX0_countOfRegion, Cond.code yX0_countOfRegion cX0_countOfRegion 5 (some .int), Cond.methodLink RX0 61 yX1_with]
def wsL_evenly_r4 : List Cond := [Cond.static yX1_with, Cond.code yX1_with cX1_with 3 (some .int), Cond.methodLink RX2 153 yX1_countInGroup, Cond.instanceMethod yX1_countInGroup, Cond.selects RX1 yX1_countInGroup yX1_countInGroup, Cond.code yX1_countInGroup cX1_countInGroup 5 (some .int), Cond.methodLink RX1 19 yX1_groupIn, Cond.static yX1_groupIn, Cond.code yX1_groupIn cX1_groupIn 2 (some .int)]
def wsL_evenly : List Cond := .codeWith yL_evenly cL_evenly 5 (some .int) [(0, 10, 13, 18)] :: ((wsL_evenly_r1 ++ (wsL_evenly_r2 ++ (wsL_evenly_r3 ++ wsL_evenly_r4))) ++ wsX20 ++ wsX00 ++ wsX10 ++ (vx_atS RX2 62 "java/lang/IndexOutOfBoundsException" ["java/lang/RuntimeException", "java/lang/Exception"]).filter goodWord)
def wsL_chances_r1 : List Cond := [Cond.classLink RL 18 "java/lang/IndexOutOfBoundsException", Cond.methodLink RL 59 yX2_chances, Cond.instanceMethod yX2_chances, Cond.selects RX2 yX2_chances yX2_chances, Cond.initialized RX2, Cond.code yX2_chances cX2_chances 3 (some .int), Cond.methodLink RX2 150 yX2_requireTeamAndGroup, Cond.instanceMethod yX2_requireTeamAndGroup, Cond.selects RX2 yX2_requireTeamAndGroup yX2_requireTeamAndGroup, Cond.code yX2_requireTeamAndGroup cX2_requireTeamAndGroup 3 none, Cond.classLink RX2 58 "java/lang/IndexOutOfBoundsException", Cond.initialized "java/lang/IndexOutOfBoundsException", Cond.fieldLink RX2 10 "CupDraw" "bowl" "LCupDraw$Bowl;", Cond.methodLink RX2 51 yX0_hasTeam, Cond.instanceMethod yX0_hasTeam, Cond.selects RX0 yX0_hasTeam yX0_hasTeam, Cond.initialized RX0, Cond.code yX0_hasTeam cX0_hasTeam 2 (some .boolean), Cond.fieldLink RX0 37 "CupDraw$Bowl" "teams" "I", Cond.methodLink RX2 139 yX0_hasGroup, Cond.instanceMethod yX0_hasGroup, Cond.selects RX0 yX0_hasGroup yX0_hasGroup, Cond.code yX0_hasGroup cX0_hasGroup 2 (some .boolean), Cond.fieldLink RX0 30 "CupDraw$Bowl" "groups" "I"]
def wsL_chances_r2 : List Cond := [Cond.methodLink RX2 163 yX2_endResults, Cond.instanceMethod yX2_endResults, Cond.selects RX2 yX2_endResults yX2_endResults, Cond.code yX2_endResults cX2_endResults 1 (some (.object "CupDraw$ResultList")), Cond.fieldLink RX2 113 "CupDraw" "isEndListFresh" "Z", Cond.fieldLink RX2 23 "CupDraw" "endList" "LCupDraw$ResultList;", Cond.fieldLink RX2 92 "CupDraw" "drawnCount" "I", Cond.methodLink RX2 189 yX1_clear, Cond.instanceMethod yX1_clear, Cond.selects RX1 yX1_clear yX1_clear, Cond.initialized RX1, Cond.code yX1_clear cX1_clear 1 none, Cond.fieldLink RX1 15 "CupDraw$ResultList" "size" "I", Cond.methodLink RX2 95 yX2_openResults, Cond.instanceMethod yX2_openResults, Cond.selects RX2 yX2_openResults yX2_openResults, Cond.code yX2_openResults cX2_openResults 1 (some (.object "CupDraw$ResultList")), Cond.fieldLink RX2 186 "CupDraw" "isOpenListFresh" "Z", Cond.fieldLink RX2 19 "CupDraw" "openList" "LCupDraw$ResultList;", Cond.methodLink RX2 192 yX0_addLawful, Cond.instanceMethod yX0_addLawful, Cond.selects RX0 yX0_addLawful yX0_addLawful, Cond.code yX0_addLawful cX0_addLawful 2 none, Cond.methodLink RX0 44 yX0_placeFrom]
def wsL_chances_r3 : List Cond := [Cond.instanceMethod yX0_placeFrom, Cond.selects RX0 yX0_placeFrom yX0_placeFrom, Cond.code yX0_placeFrom cX0_placeFrom 5 none, Cond.methodLink RX0 48 yX1_add, Cond.instanceMethod yX1_add, Cond.selects RX1 yX1_add yX1_add, Cond.code yX1_add cX1_add 2 none, Cond.fieldLink RX1 9 "CupDraw$ResultList" "items" "[I", Cond.methodLink RX0 53 yX0_placeIn, Cond.instanceMethod yX0_placeIn, Cond.selects RX0 yX0_placeIn yX0_placeIn, Cond.code yX0_placeIn cX0_placeIn 5 none, Cond.fieldLink RX0 27 "CupDraw$Bowl" "members" "[I", Cond.methodLink RX0 57 yX0_admits, Cond.instanceMethod yX0_admits, Cond.selects RX0 yX0_admits yX0_admits, Cond.code yX0_admits cX0_admits 3 (some .boolean), Cond.fieldLink RX0 24 "CupDraw$Bowl" "potMates" "[I", Cond.fieldLink RX0 18 "CupDraw$Bowl" "apart" "[I", Cond.fieldLink RX0 21 "CupDraw$Bowl" "otherDays" "[I", Cond.fieldLink RX0 9 "CupDraw$Bowl" "regions" "[I", Cond.fieldLink RX0 15 "CupDraw$Bowl" "bounds" "[I", Cond.methodLink RX0 65 yX0_playersOnDay, Cond.instanceMethod yX0_playersOnDay]
def wsL_chances_r4 : List Cond := [Cond.selects RX0 yX0_playersOnDay yX0_playersOnDay, Cond.code yX0_playersOnDay cX0_playersOnDay 4 (some .int), Cond.methodLink RX0 69 yX0_countOfRegion, Cond.instanceMethod yX0_countOfRegion, Cond.selects RX0 yX0_countOfRegion yX0_countOfRegion, Cond.code yX0_countOfRegion cX0_countOfRegion 5 (some .int), Cond.methodLink RX0 61 yX1_with, Cond.static yX1_with, Cond.code yX1_with cX1_with 3 (some .int), Cond.methodLink RX2 196 yX2_followOrders, Cond.instanceMethod yX2_followOrders, Cond.selects RX2 yX2_followOrders yX2_followOrders, Cond.code yX2_followOrders cX2_followOrders 4 none, Cond.methodLink RX2 199 yX1_first, Cond.instanceMethod yX1_first, Cond.selects RX1 yX1_first yX1_first, Cond.code yX1_first cX1_first 1 (some .int), Cond.methodLink RX2 202 yX1_add, Cond.methodLink RX2 205 yX2_left, Cond.instanceMethod yX2_left, Cond.selects RX2 yX2_left yX2_left, Cond.code yX2_left cX2_left 2 (some .int), Cond.methodLink RX2 133 yX2_pot, Cond.instanceMethod yX2_pot]
def wsL_chances_r5 : List Cond := [Cond.selects RX2 yX2_pot yX2_pot, Cond.code yX2_pot cX2_pot 2 (some .int), Cond.methodLink RX2 130 yX2_countLeft, Cond.instanceMethod yX2_countLeft, Cond.selects RX2 yX2_countLeft yX2_countLeft, Cond.code yX2_countLeft cX2_countLeft 5 (some .int), Cond.fieldLink RX2 26 "CupDraw" "seats" "[I", Cond.methodLink RX2 107 yX2_findBall, Cond.instanceMethod yX2_findBall, Cond.selects RX2 yX2_findBall yX2_findBall, Cond.code yX2_findBall cX2_findBall 6 (some .int), Cond.methodLink RX2 208 yX2_followBall, Cond.instanceMethod yX2_followBall, Cond.selects RX2 yX2_followBall yX2_followBall, Cond.code yX2_followBall cX2_followBall 3 none, Cond.methodLink RX2 117 yX2_seat, Cond.instanceMethod yX2_seat, Cond.selects RX2 yX2_seat yX2_seat, Cond.code yX2_seat cX2_seat 3 none, Cond.fieldLink RX2 33 "CupDraw" "openBefore" "[I", Cond.fieldLink RX2 30 "CupDraw" "drawnTeams" "[I", Cond.methodLink RX2 157 yX1_lowestGroup, Cond.instanceMethod yX1_lowestGroup, Cond.selects RX1 yX1_lowestGroup yX1_lowestGroup]
def wsL_chances_r6 : List Cond := [Cond.code yX1_lowestGroup cX1_lowestGroup 5 (some .int), Cond.methodLink RX1 19 yX1_groupIn, Cond.static yX1_groupIn, Cond.code yX1_groupIn cX1_groupIn 2 (some .int), Cond.methodLink RX2 180 yX1_narrow, Cond.instanceMethod yX1_narrow, Cond.selects RX1 yX1_narrow yX1_narrow, Cond.code yX1_narrow cX1_narrow 6 none, Cond.methodLink RX2 123 yX2_unseat, Cond.instanceMethod yX2_unseat, Cond.selects RX2 yX2_unseat yX2_unseat, Cond.code yX2_unseat cX2_unseat 2 (some .int), Cond.methodLink RX2 183 yX1_widen, Cond.instanceMethod yX1_widen, Cond.selects RX1 yX1_widen yX1_widen, Cond.code yX1_widen cX1_widen 2 none, Cond.methodLink RX2 153 yX1_countInGroup, Cond.instanceMethod yX1_countInGroup, Cond.selects RX1 yX1_countInGroup yX1_countInGroup, Cond.code yX1_countInGroup cX1_countInGroup 5 (some .int)]
def wsL_chances : List Cond := .codeWith yL_chances cL_chances 5 (some .int) [(0, 10, 13, 18)] :: ((wsL_chances_r1 ++ (wsL_chances_r2 ++ (wsL_chances_r3 ++ (wsL_chances_r4 ++ (wsL_chances_r5 ++ wsL_chances_r6))))) ++ wsX20 ++ wsX00 ++ wsX10 ++ (vx_atS RX2 62 "java/lang/IndexOutOfBoundsException" ["java/lang/RuntimeException", "java/lang/Exception"]).filter goodWord)
def wsL_pairings_r1 : List Cond := [Cond.classLink RL 18 "java/lang/IndexOutOfBoundsException", Cond.methodLink RL 62 yX2_pairings, Cond.instanceMethod yX2_pairings, Cond.selects RX2 yX2_pairings yX2_pairings, Cond.initialized RX2, Cond.code yX2_pairings cX2_pairings 3 (some .int), Cond.methodLink RX2 136 yX2_requireTeam, Cond.instanceMethod yX2_requireTeam, Cond.selects RX2 yX2_requireTeam yX2_requireTeam, Cond.code yX2_requireTeam cX2_requireTeam 2 none, Cond.classLink RX2 58 "java/lang/IndexOutOfBoundsException", Cond.initialized "java/lang/IndexOutOfBoundsException", Cond.fieldLink RX2 10 "CupDraw" "bowl" "LCupDraw$Bowl;", Cond.methodLink RX2 51 yX0_hasTeam, Cond.instanceMethod yX0_hasTeam, Cond.selects RX0 yX0_hasTeam yX0_hasTeam, Cond.initialized RX0, Cond.code yX0_hasTeam cX0_hasTeam 2 (some .boolean), Cond.fieldLink RX0 37 "CupDraw$Bowl" "teams" "I", Cond.methodLink RX2 163 yX2_endResults, Cond.instanceMethod yX2_endResults, Cond.selects RX2 yX2_endResults yX2_endResults, Cond.code yX2_endResults cX2_endResults 1 (some (.object "CupDraw$ResultList")), Cond.fieldLink RX2 113 "CupDraw" "isEndListFresh" "Z"]
def wsL_pairings_r2 : List Cond := [Cond.fieldLink RX2 23 "CupDraw" "endList" "LCupDraw$ResultList;", Cond.fieldLink RX2 92 "CupDraw" "drawnCount" "I", Cond.methodLink RX2 189 yX1_clear, Cond.instanceMethod yX1_clear, Cond.selects RX1 yX1_clear yX1_clear, Cond.initialized RX1, Cond.code yX1_clear cX1_clear 1 none, Cond.fieldLink RX1 15 "CupDraw$ResultList" "size" "I", Cond.methodLink RX2 95 yX2_openResults, Cond.instanceMethod yX2_openResults, Cond.selects RX2 yX2_openResults yX2_openResults, Cond.code yX2_openResults cX2_openResults 1 (some (.object "CupDraw$ResultList")), Cond.fieldLink RX2 186 "CupDraw" "isOpenListFresh" "Z", Cond.fieldLink RX2 19 "CupDraw" "openList" "LCupDraw$ResultList;", Cond.methodLink RX2 192 yX0_addLawful, Cond.instanceMethod yX0_addLawful, Cond.selects RX0 yX0_addLawful yX0_addLawful, Cond.code yX0_addLawful cX0_addLawful 2 none, Cond.methodLink RX0 44 yX0_placeFrom, Cond.instanceMethod yX0_placeFrom, Cond.selects RX0 yX0_placeFrom yX0_placeFrom, Cond.code yX0_placeFrom cX0_placeFrom 5 none, Cond.fieldLink RX0 30 "CupDraw$Bowl" "groups" "I", Cond.methodLink RX0 48 yX1_add]
def wsL_pairings_r3 : List Cond := [Cond.instanceMethod yX1_add, Cond.selects RX1 yX1_add yX1_add, Cond.code yX1_add cX1_add 2 none, Cond.fieldLink RX1 9 "CupDraw$ResultList" "items" "[I", Cond.methodLink RX0 53 yX0_placeIn, Cond.instanceMethod yX0_placeIn, Cond.selects RX0 yX0_placeIn yX0_placeIn, Cond.code yX0_placeIn cX0_placeIn 5 none, Cond.fieldLink RX0 27 "CupDraw$Bowl" "members" "[I", Cond.methodLink RX0 57 yX0_admits, Cond.instanceMethod yX0_admits, Cond.selects RX0 yX0_admits yX0_admits, Cond.code yX0_admits cX0_admits 3 (some .boolean), Cond.fieldLink RX0 24 "CupDraw$Bowl" "potMates" "[I", Cond.fieldLink RX0 18 "CupDraw$Bowl" "apart" "[I", Cond.fieldLink RX0 21 "CupDraw$Bowl" "otherDays" "[I", Cond.fieldLink RX0 9 "CupDraw$Bowl" "regions" "[I", Cond.fieldLink RX0 15 "CupDraw$Bowl" "bounds" "[I", Cond.methodLink RX0 65 yX0_playersOnDay, Cond.instanceMethod yX0_playersOnDay, Cond.selects RX0 yX0_playersOnDay yX0_playersOnDay, Cond.code yX0_playersOnDay cX0_playersOnDay 4 (some .int), Cond.methodLink RX0 69 yX0_countOfRegion, Cond.instanceMethod yX0_countOfRegion]
def wsL_pairings_r4 : List Cond := [Cond.selects RX0 yX0_countOfRegion yX0_countOfRegion, Cond.code yX0_countOfRegion cX0_countOfRegion 5 (some .int), Cond.methodLink RX0 61 yX1_with, Cond.static yX1_with, Cond.code yX1_with cX1_with 3 (some .int), Cond.methodLink RX2 196 yX2_followOrders, Cond.instanceMethod yX2_followOrders, Cond.selects RX2 yX2_followOrders yX2_followOrders, Cond.code yX2_followOrders cX2_followOrders 4 none, Cond.methodLink RX2 199 yX1_first, Cond.instanceMethod yX1_first, Cond.selects RX1 yX1_first yX1_first, Cond.code yX1_first cX1_first 1 (some .int), Cond.methodLink RX2 202 yX1_add, Cond.methodLink RX2 205 yX2_left, Cond.instanceMethod yX2_left, Cond.selects RX2 yX2_left yX2_left, Cond.code yX2_left cX2_left 2 (some .int), Cond.methodLink RX2 133 yX2_pot, Cond.instanceMethod yX2_pot, Cond.selects RX2 yX2_pot yX2_pot, Cond.code yX2_pot cX2_pot 2 (some .int), Cond.methodLink RX2 130 yX2_countLeft, Cond.instanceMethod yX2_countLeft]
def wsL_pairings_r5 : List Cond := [Cond.selects RX2 yX2_countLeft yX2_countLeft, Cond.code yX2_countLeft cX2_countLeft 5 (some .int), Cond.fieldLink RX2 26 "CupDraw" "seats" "[I", Cond.methodLink RX2 107 yX2_findBall, Cond.instanceMethod yX2_findBall, Cond.selects RX2 yX2_findBall yX2_findBall, Cond.code yX2_findBall cX2_findBall 6 (some .int), Cond.methodLink RX2 208 yX2_followBall, Cond.instanceMethod yX2_followBall, Cond.selects RX2 yX2_followBall yX2_followBall, Cond.code yX2_followBall cX2_followBall 3 none, Cond.methodLink RX2 117 yX2_seat, Cond.instanceMethod yX2_seat, Cond.selects RX2 yX2_seat yX2_seat, Cond.code yX2_seat cX2_seat 3 none, Cond.fieldLink RX2 33 "CupDraw" "openBefore" "[I", Cond.fieldLink RX2 30 "CupDraw" "drawnTeams" "[I", Cond.methodLink RX2 157 yX1_lowestGroup, Cond.instanceMethod yX1_lowestGroup, Cond.selects RX1 yX1_lowestGroup yX1_lowestGroup, Cond.code yX1_lowestGroup cX1_lowestGroup 5 (some .int), Cond.methodLink RX1 19 yX1_groupIn, Cond.static yX1_groupIn, Cond.code yX1_groupIn cX1_groupIn 2 (some .int)]
def wsL_pairings_r6 : List Cond := [Cond.methodLink RX2 180 yX1_narrow, Cond.instanceMethod yX1_narrow, Cond.selects RX1 yX1_narrow yX1_narrow, Cond.code yX1_narrow cX1_narrow 6 none, Cond.methodLink RX2 123 yX2_unseat, Cond.instanceMethod yX2_unseat, Cond.selects RX2 yX2_unseat yX2_unseat, Cond.code yX2_unseat cX2_unseat 2 (some .int), Cond.methodLink RX2 183 yX1_widen, Cond.instanceMethod yX1_widen, Cond.selects RX1 yX1_widen yX1_widen, Cond.code yX1_widen cX1_widen 2 none, Cond.methodLink RX2 166 yX1_countTogether, Cond.instanceMethod yX1_countTogether, Cond.selects RX1 yX1_countTogether yX1_countTogether, Cond.code yX1_countTogether cX1_countTogether 5 (some .int)]
def wsL_pairings : List Cond := .codeWith yL_pairings cL_pairings 5 (some .int) [(0, 10, 13, 18)] :: ((wsL_pairings_r1 ++ (wsL_pairings_r2 ++ (wsL_pairings_r3 ++ (wsL_pairings_r4 ++ (wsL_pairings_r5 ++ wsL_pairings_r6))))) ++ wsX20 ++ wsX00 ++ wsX10 ++ (vx_atS RX2 62 "java/lang/IndexOutOfBoundsException" ["java/lang/RuntimeException", "java/lang/Exception"]).filter goodWord)
def wsL_law0_r1 : List Cond := [Cond.classLink RL 8 RX2, Cond.instantiable RX2 9, Cond.initialized RX2, Cond.classLink RL 66 RX3, Cond.instantiable RX3 17, Cond.initialized RX3, Cond.arrayClass .long, Cond.methodLink RL 65 yX2_init, Cond.instanceMethod yX2_init, Cond.code yX2_init cX2_init 1 none, Cond.methodLink RX2 1 objectInit, Cond.instanceMethod objectInit, Cond.code objectInit ⟨#[0xb1]⟩ 1 none, Cond.classLink RX2 7 RX0, Cond.instantiable RX0 9, Cond.initialized RX0, Cond.fieldLink RX2 10 "CupDraw" "bowl" "LCupDraw$Bowl;", Cond.classLink RX2 16 RX1, Cond.instantiable RX1 2, Cond.initialized RX1, Cond.fieldLink RX2 19 "CupDraw" "openList" "LCupDraw$ResultList;", Cond.fieldLink RX2 23 "CupDraw" "endList" "LCupDraw$ResultList;", Cond.arrayClass .int, Cond.fieldLink RX2 26 "CupDraw" "seats" "[I"]
def wsL_law0_r2 : List Cond := [Cond.fieldLink RX2 30 "CupDraw" "drawnTeams" "[I", Cond.fieldLink RX2 33 "CupDraw" "openBefore" "[I", Cond.instanceMethod yX0_init, Cond.code yX0_init cX0_init 1 none, Cond.methodLink RX0 3 objectInit, Cond.fieldLink RX0 9 "CupDraw$Bowl" "regions" "[I", Cond.fieldLink RX0 15 "CupDraw$Bowl" "bounds" "[I", Cond.fieldLink RX0 18 "CupDraw$Bowl" "apart" "[I", Cond.fieldLink RX0 21 "CupDraw$Bowl" "otherDays" "[I", Cond.fieldLink RX0 24 "CupDraw$Bowl" "potMates" "[I", Cond.fieldLink RX0 27 "CupDraw$Bowl" "members" "[I", Cond.instanceMethod yX1_init, Cond.code yX1_init cX1_init 1 none, Cond.methodLink RX1 3 objectInit, Cond.fieldLink RX1 9 "CupDraw$ResultList" "items" "[I", Cond.methodLink RX2 36 yX2_startWith, Cond.instanceMethod yX2_startWith, Cond.selects RX2 yX2_startWith yX2_startWith, Cond.code yX2_startWith cX2_startWith 4 none, Cond.fieldLink RX2 92 "CupDraw" "drawnCount" "I", Cond.methodLink RX2 177 yX0_reset, Cond.instanceMethod yX0_reset, Cond.selects RX0 yX0_reset yX0_reset, Cond.code yX0_reset cX0_reset 4 none]
def wsL_law0_r3 : List Cond := [Cond.fieldLink RX0 30 "CupDraw$Bowl" "groups" "I", Cond.fieldLink RX0 34 "CupDraw$Bowl" "pots" "I", Cond.fieldLink RX0 37 "CupDraw$Bowl" "teams" "I", Cond.methodLink RX0 40 yX0_resetPot, Cond.instanceMethod yX0_resetPot, Cond.selects RX0 yX0_resetPot yX0_resetPot, Cond.code yX0_resetPot cX0_resetPot 4 none, Cond.methodLink RX2 69 yX2_forgetResults, Cond.instanceMethod yX2_forgetResults, Cond.selects RX2 yX2_forgetResults yX2_forgetResults, Cond.code yX2_forgetResults cX2_forgetResults 1 none, Cond.fieldLink RX2 186 "CupDraw" "isOpenListFresh" "Z", Cond.fieldLink RX2 113 "CupDraw" "isEndListFresh" "Z", Cond.methodLink RL 68 yX3_init, Cond.instanceMethod yX3_init, Cond.code yX3_init cX3_init 1 none, Cond.methodLink RX3 1 objectInit, Cond.fieldLink RX3 7 "CupDrawModel" "regions" "[I", Cond.fieldLink RX3 13 "CupDrawModel" "bounds" "[I", Cond.arrayClass .boolean, Cond.fieldLink RX3 16 "CupDrawModel" "isApart" "[Z", Cond.fieldLink RX3 20 "CupDrawModel" "isOther" "[Z", Cond.fieldLink RX3 23 "CupDrawModel" "drawnTeams" "[I", Cond.fieldLink RX3 26 "CupDrawModel" "places" "[I"]
def wsL_law0_r4 : List Cond := [Cond.fieldLink RX3 29 "CupDrawModel" "results" "[I", Cond.fieldLink RX3 32 "CupDrawModel" "row" "[I", Cond.fieldLink RX3 35 "CupDrawModel" "isUsed" "[Z", Cond.fieldLink RX3 38 "CupDrawModel" "isLeft" "[Z", Cond.fieldLink RX3 41 "CupDrawModel" "ends" "[I", Cond.fieldLink RX3 44 "CupDrawModel" "balls" "[I", Cond.methodLink RX3 47 yX3_begin, Cond.instanceMethod yX3_begin, Cond.selects RX3 yX3_begin yX3_begin, Cond.code yX3_begin cX3_begin 4 none, Cond.fieldLink RX3 55 "CupDrawModel" "groupMany" "I", Cond.fieldLink RX3 58 "CupDrawModel" "potMany" "I", Cond.fieldLink RX3 61 "CupDrawModel" "drawnMany" "I", Cond.methodLink RL 69 yL_lay, Cond.static yL_lay, Cond.initialized RL, Cond.codeWith yL_lay cL_lay 5 (some .int) [(0, 10, 13, 13)], Cond.classLink RL 13 "java/lang/IllegalArgumentException", Cond.methodLink RL 7 yX2_lay, Cond.instanceMethod yX2_lay, Cond.selects RX2 yX2_lay yX2_lay, Cond.code yX2_lay cX2_lay 3 (some .int), Cond.classLink RX2 40 "java/lang/IllegalArgumentException", Cond.initialized "java/lang/IllegalArgumentException"]
def wsL_law0_r5 : List Cond := [Cond.methodLink RL 74 yX3_lay, Cond.instanceMethod yX3_lay, Cond.selects RX3 yX3_lay yX3_lay, Cond.code yX3_lay cX3_lay 3 (some .int), Cond.fieldLink RX3 51 "CupDrawModel" "thrown" "I", Cond.methodLink RX3 68 yX3_in, Cond.static yX3_in, Cond.code yX3_in cX3_in 3 (some .boolean), Cond.methodLink RX3 64 yX3_teamMany, Cond.instanceMethod yX3_teamMany, Cond.selects RX3 yX3_teamMany yX3_teamMany, Cond.code yX3_teamMany cX3_teamMany 1 (some .int), Cond.methodLink RL 75 yX3_thrown, Cond.instanceMethod yX3_thrown, Cond.selects RX3 yX3_thrown yX3_thrown, Cond.code yX3_thrown cX3_thrown 1 (some .int), Cond.methodLink RL 78 yL_setRegion, Cond.static yL_setRegion, Cond.codeWith yL_setRegion cL_setRegion 5 (some .int) [(0, 10, 13, 18), (0, 10, 17, 20)], Cond.classLink RL 18 "java/lang/IndexOutOfBoundsException", Cond.classLink RL 20 "java/lang/IllegalStateException", Cond.methodLink RL 15 yX2_setRegion, Cond.instanceMethod yX2_setRegion, Cond.selects RX2 yX2_setRegion yX2_setRegion]
def wsL_law0_r6 : List Cond := [Cond.code yX2_setRegion cX2_setRegion 4 (some .int), Cond.classLink RX2 58 "java/lang/IndexOutOfBoundsException", Cond.initialized "java/lang/IndexOutOfBoundsException", Cond.methodLink RX2 51 yX0_hasTeam, Cond.instanceMethod yX0_hasTeam, Cond.selects RX0 yX0_hasTeam yX0_hasTeam, Cond.code yX0_hasTeam cX0_hasTeam 2 (some .boolean), Cond.methodLink RX2 55 yX0_hasRegion, Cond.instanceMethod yX0_hasRegion, Cond.selects RX0 yX0_hasRegion yX0_hasRegion, Cond.code yX0_hasRegion cX0_hasRegion 2 (some .boolean), Cond.methodLink RX2 63 yX2_requireNothingDrawn, Cond.instanceMethod yX2_requireNothingDrawn, Cond.selects RX2 yX2_requireNothingDrawn yX2_requireNothingDrawn, Cond.code yX2_requireNothingDrawn cX2_requireNothingDrawn 1 none, Cond.classLink RX2 102 "java/lang/IllegalStateException", Cond.initialized "java/lang/IllegalStateException", Cond.methodLink RL 80 yX3_setRegion, Cond.instanceMethod yX3_setRegion, Cond.selects RX3 yX3_setRegion yX3_setRegion, Cond.code yX3_setRegion cX3_setRegion 4 (some .int), Cond.methodLink RX3 72 yX3_isTeam, Cond.instanceMethod yX3_isTeam, Cond.selects RX3 yX3_isTeam yX3_isTeam]
def wsL_law0_r7 : List Cond := [Cond.code yX3_isTeam cX3_isTeam 2 (some .boolean), Cond.methodLink RL 81 yL_setBound, Cond.static yL_setBound, Cond.codeWith yL_setBound cL_setBound 5 (some .int) [(0, 10, 13, 18), (0, 10, 17, 13), (0, 10, 21, 20)], Cond.methodLink RL 22 yX2_setBound, Cond.instanceMethod yX2_setBound, Cond.selects RX2 yX2_setBound yX2_setBound, Cond.code yX2_setBound cX2_setBound 4 (some .int), Cond.methodLink RL 83 yX3_setBound, Cond.instanceMethod yX3_setBound, Cond.selects RX3 yX3_setBound yX3_setBound, Cond.code yX3_setBound cX3_setBound 4 (some .int), Cond.methodLink RL 84 yL_setApart, Cond.static yL_setApart, Cond.codeWith yL_setApart cL_setApart 6 (some .int) [(0, 19, 22, 18), (0, 19, 26, 13), (0, 19, 30, 20)], Cond.methodLink RL 25 yX2_setApart, Cond.instanceMethod yX2_setApart, Cond.selects RX2 yX2_setApart yX2_setApart, Cond.code yX2_setApart cX2_setApart 4 (some .boolean), Cond.methodLink RX2 79 yX2_requireTwoTeams, Cond.instanceMethod yX2_requireTwoTeams, Cond.selects RX2 yX2_requireTwoTeams yX2_requireTwoTeams, Cond.code yX2_requireTwoTeams cX2_requireTwoTeams 3 none, Cond.methodLink RX2 136 yX2_requireTeam]
def wsL_law0_r8 : List Cond := [Cond.instanceMethod yX2_requireTeam, Cond.selects RX2 yX2_requireTeam yX2_requireTeam, Cond.code yX2_requireTeam cX2_requireTeam 2 none, Cond.methodLink RX2 85 yX0_setPair, Cond.static yX0_setPair, Cond.code yX0_setPair cX0_setPair 5 (some .boolean), Cond.methodLink RL 87 yX3_setApart, Cond.instanceMethod yX3_setApart, Cond.selects RX3 yX3_setApart yX3_setApart, Cond.code yX3_setApart cX3_setApart 5 (some .boolean), Cond.methodLink RX3 76 yX3_canPair, Cond.instanceMethod yX3_canPair, Cond.selects RX3 yX3_canPair yX3_canPair, Cond.code yX3_canPair cX3_canPair 3 (some .boolean), Cond.methodLink RL 88 yL_setOtherDays, Cond.static yL_setOtherDays, Cond.codeWith yL_setOtherDays cL_setOtherDays 6 (some .int) [(0, 19, 22, 18), (0, 19, 26, 13), (0, 19, 30, 20)], Cond.methodLink RL 29 yX2_setOtherDays, Cond.instanceMethod yX2_setOtherDays, Cond.selects RX2 yX2_setOtherDays yX2_setOtherDays, Cond.code yX2_setOtherDays cX2_setOtherDays 4 (some .boolean), Cond.methodLink RL 90 yX3_setOtherDays, Cond.instanceMethod yX3_setOtherDays, Cond.selects RX3 yX3_setOtherDays yX3_setOtherDays]
def wsL_law0_r9 : List Cond := [Cond.code yX3_setOtherDays cX3_setOtherDays 5 (some .boolean), Cond.methodLink RL 91 yL_draw, Cond.static yL_draw, Cond.codeWith yL_draw cL_draw 4 (some .int) [(0, 9, 12, 20), (0, 9, 15, 18)], Cond.methodLink RL 32 yX2_draw, Cond.instanceMethod yX2_draw, Cond.selects RX2 yX2_draw yX2_draw, Cond.code yX2_draw cX2_draw 3 (some .int), Cond.methodLink RX2 95 yX2_openResults, Cond.instanceMethod yX2_openResults, Cond.selects RX2 yX2_openResults yX2_openResults, Cond.code yX2_openResults cX2_openResults 1 (some (.object "CupDraw$ResultList")), Cond.methodLink RX2 189 yX1_clear, Cond.instanceMethod yX1_clear, Cond.selects RX1 yX1_clear yX1_clear, Cond.code yX1_clear cX1_clear 1 none, Cond.fieldLink RX1 15 "CupDraw$ResultList" "size" "I", Cond.methodLink RX2 192 yX0_addLawful, Cond.instanceMethod yX0_addLawful, Cond.selects RX0 yX0_addLawful yX0_addLawful, Cond.code yX0_addLawful cX0_addLawful 2 none, Cond.methodLink RX0 44 yX0_placeFrom, Cond.instanceMethod yX0_placeFrom, Cond.selects RX0 yX0_placeFrom yX0_placeFrom]
def wsL_law0_r10 : List Cond := [Cond.code yX0_placeFrom cX0_placeFrom 5 none, Cond.methodLink RX0 48 yX1_add, Cond.instanceMethod yX1_add, Cond.selects RX1 yX1_add yX1_add, Cond.code yX1_add cX1_add 2 none, Cond.methodLink RX0 53 yX0_placeIn, Cond.instanceMethod yX0_placeIn, Cond.selects RX0 yX0_placeIn yX0_placeIn, Cond.code yX0_placeIn cX0_placeIn 5 none, Cond.methodLink RX0 57 yX0_admits, Cond.instanceMethod yX0_admits, Cond.selects RX0 yX0_admits yX0_admits, Cond.code yX0_admits cX0_admits 3 (some .boolean), Cond.methodLink RX0 65 yX0_playersOnDay, Cond.instanceMethod yX0_playersOnDay, Cond.selects RX0 yX0_playersOnDay yX0_playersOnDay, Cond.code yX0_playersOnDay cX0_playersOnDay 4 (some .int), Cond.methodLink RX0 69 yX0_countOfRegion, Cond.instanceMethod yX0_countOfRegion, Cond.selects RX0 yX0_countOfRegion yX0_countOfRegion, Cond.code yX0_countOfRegion cX0_countOfRegion 5 (some .int), Cond.methodLink RX0 61 yX1_with, Cond.static yX1_with, Cond.code yX1_with cX1_with 3 (some .int)]
def wsL_law0_r11 : List Cond := [Cond.methodLink RX2 107 yX2_findBall, Cond.instanceMethod yX2_findBall, Cond.selects RX2 yX2_findBall yX2_findBall, Cond.code yX2_findBall cX2_findBall 6 (some .int), Cond.methodLink RX2 133 yX2_pot, Cond.instanceMethod yX2_pot, Cond.selects RX2 yX2_pot yX2_pot, Cond.code yX2_pot cX2_pot 2 (some .int), Cond.methodLink RX2 130 yX2_countLeft, Cond.instanceMethod yX2_countLeft, Cond.selects RX2 yX2_countLeft yX2_countLeft, Cond.code yX2_countLeft cX2_countLeft 5 (some .int), Cond.methodLink RX2 117 yX2_seat, Cond.instanceMethod yX2_seat, Cond.selects RX2 yX2_seat yX2_seat, Cond.code yX2_seat cX2_seat 3 none, Cond.methodLink RX2 157 yX1_lowestGroup, Cond.instanceMethod yX1_lowestGroup, Cond.selects RX1 yX1_lowestGroup yX1_lowestGroup, Cond.code yX1_lowestGroup cX1_lowestGroup 5 (some .int), Cond.methodLink RX1 19 yX1_groupIn, Cond.static yX1_groupIn, Cond.code yX1_groupIn cX1_groupIn 2 (some .int), Cond.methodLink RX2 180 yX1_narrow]
def wsL_law0_r12 : List Cond := [Cond.instanceMethod yX1_narrow, Cond.selects RX1 yX1_narrow yX1_narrow, Cond.code yX1_narrow cX1_narrow 6 none, Cond.methodLink RL 94 yX3_draw, Cond.instanceMethod yX3_draw, Cond.selects RX3 yX3_draw yX3_draw, Cond.code yX3_draw cX3_draw 3 (some .int), Cond.fieldLink RX3 84 "CupDrawModel" "resultMany" "I", Cond.methodLink RX3 99 yX3_layResults, Cond.instanceMethod yX3_layResults, Cond.selects RX3 yX3_layResults yX3_layResults, Cond.code yX3_layResults cX3_layResults 6 none, Cond.methodLink RX3 80 yX3_factorial, Cond.static yX3_factorial, Cond.code yX3_factorial cX3_factorial 3 (some .int), Cond.methodLink RX3 87 yX3_layOrder, Cond.instanceMethod yX3_layOrder, Cond.selects RX3 yX3_layOrder yX3_layOrder, Cond.code yX3_layOrder cX3_layOrder 8 none, Cond.methodLink RX3 91 yX3_isLawful, Cond.instanceMethod yX3_isLawful, Cond.selects RX3 yX3_isLawful yX3_isLawful, Cond.code yX3_isLawful cX3_isLawful 5 (some .boolean), Cond.methodLink RX3 102 yX3_leftNow]
def wsL_law0_r13 : List Cond := [Cond.instanceMethod yX3_leftNow, Cond.selects RX3 yX3_leftNow yX3_leftNow, Cond.code yX3_leftNow cX3_leftNow 1 (some .int), Cond.methodLink RX3 105 yX3_potNow, Cond.instanceMethod yX3_potNow, Cond.selects RX3 yX3_potNow yX3_potNow, Cond.code yX3_potNow cX3_potNow 1 (some .int), Cond.methodLink RX3 108 yX3_ball, Cond.instanceMethod yX3_ball, Cond.selects RX3 yX3_ball yX3_ball, Cond.code yX3_ball cX3_ball 5 (some .int), Cond.methodLink RX3 111 yX3_lowestFor, Cond.instanceMethod yX3_lowestFor, Cond.selects RX3 yX3_lowestFor yX3_lowestFor, Cond.code yX3_lowestFor cX3_lowestFor 3 (some .int), Cond.methodLink RX3 95 yX3_countIn, Cond.instanceMethod yX3_countIn, Cond.selects RX3 yX3_countIn yX3_countIn, Cond.code yX3_countIn cX3_countIn 5 (some .int), Cond.methodLink RL 95 yL_undo, Cond.static yL_undo, Cond.codeWith yL_undo cL_undo 3 (some .int) [(0, 8, 11, 20)], Cond.methodLink RL 36 yX2_undo, Cond.instanceMethod yX2_undo]
def wsL_law0_r14 : List Cond := [Cond.selects RX2 yX2_undo yX2_undo, Cond.code yX2_undo cX2_undo 1 (some .int), Cond.methodLink RX2 123 yX2_unseat, Cond.instanceMethod yX2_unseat, Cond.selects RX2 yX2_unseat yX2_unseat, Cond.code yX2_unseat cX2_unseat 2 (some .int), Cond.methodLink RX2 183 yX1_widen, Cond.instanceMethod yX1_widen, Cond.selects RX1 yX1_widen yX1_widen, Cond.code yX1_widen cX1_widen 2 none, Cond.methodLink RL 98 yX3_undo, Cond.instanceMethod yX3_undo, Cond.selects RX3 yX3_undo yX3_undo, Cond.code yX3_undo cX3_undo 1 (some .int), Cond.methodLink RL 99 yX2_drawn, Cond.instanceMethod yX2_drawn, Cond.selects RX2 yX2_drawn yX2_drawn, Cond.code yX2_drawn cX2_drawn 1 (some .int), Cond.methodLink RL 102 yX3_drawn, Cond.instanceMethod yX3_drawn, Cond.selects RX3 yX3_drawn yX3_drawn, Cond.code yX3_drawn cX3_drawn 1 (some .int), Cond.methodLink RL 103 yX2_pot, Cond.methodLink RL 106 yX3_pot]
def wsL_law0_r15 : List Cond := [Cond.instanceMethod yX3_pot, Cond.selects RX3 yX3_pot yX3_pot, Cond.code yX3_pot cX3_pot 1 (some .int), Cond.methodLink RL 107 yX2_left, Cond.instanceMethod yX2_left, Cond.selects RX2 yX2_left yX2_left, Cond.code yX2_left cX2_left 2 (some .int), Cond.methodLink RL 110 yX3_left, Cond.instanceMethod yX3_left, Cond.selects RX3 yX3_left yX3_left, Cond.code yX3_left cX3_left 1 (some .int), Cond.methodLink RL 111 yL_ballAt, Cond.static yL_ballAt, Cond.codeWith yL_ballAt cL_ballAt 4 (some .int) [(0, 9, 12, 18)], Cond.methodLink RL 40 yX2_ballAt, Cond.instanceMethod yX2_ballAt, Cond.selects RX2 yX2_ballAt yX2_ballAt, Cond.code yX2_ballAt cX2_ballAt 3 (some .int), Cond.methodLink RL 113 yX3_ballAt, Cond.instanceMethod yX3_ballAt, Cond.selects RX3 yX3_ballAt yX3_ballAt, Cond.code yX3_ballAt cX3_ballAt 2 (some .int), Cond.methodLink RL 114 yL_groupOf, Cond.static yL_groupOf]
def wsL_law0_r16 : List Cond := [Cond.codeWith yL_groupOf cL_groupOf 4 (some .int) [(0, 9, 12, 18)], Cond.methodLink RL 43 yX2_groupOf, Cond.instanceMethod yX2_groupOf, Cond.selects RX2 yX2_groupOf yX2_groupOf, Cond.code yX2_groupOf cX2_groupOf 2 (some .int), Cond.methodLink RL 116 yX3_groupOf, Cond.instanceMethod yX3_groupOf, Cond.selects RX3 yX3_groupOf yX3_groupOf, Cond.code yX3_groupOf cX3_groupOf 2 (some .int), Cond.methodLink RL 117 yL_teamAt, Cond.static yL_teamAt, Cond.codeWith yL_teamAt cL_teamAt 5 (some .int) [(0, 10, 13, 18)], Cond.methodLink RL 46 yX2_teamAt, Cond.instanceMethod yX2_teamAt, Cond.selects RX2 yX2_teamAt yX2_teamAt, Cond.code yX2_teamAt cX2_teamAt 5 (some .int), Cond.methodLink RX2 139 yX0_hasGroup, Cond.instanceMethod yX0_hasGroup, Cond.selects RX0 yX0_hasGroup yX0_hasGroup, Cond.code yX0_hasGroup cX0_hasGroup 2 (some .boolean), Cond.methodLink RX2 142 yX0_hasPot, Cond.instanceMethod yX0_hasPot, Cond.selects RX0 yX0_hasPot yX0_hasPot, Cond.code yX0_hasPot cX0_hasPot 2 (some .boolean)]
def wsL_law0_r17 : List Cond := [Cond.methodLink RL 119 yX3_teamAt, Cond.instanceMethod yX3_teamAt, Cond.selects RX3 yX3_teamAt yX3_teamAt, Cond.code yX3_teamAt cX3_teamAt 4 (some .int), Cond.methodLink RX3 114 yX3_isGroup, Cond.instanceMethod yX3_isGroup, Cond.selects RX3 yX3_isGroup yX3_isGroup, Cond.code yX3_isGroup cX3_isGroup 2 (some .boolean), Cond.methodLink RL 120 yX2_results, Cond.instanceMethod yX2_results, Cond.selects RX2 yX2_results yX2_results, Cond.code yX2_results cX2_results 1 (some .int), Cond.methodLink RL 123 yX3_results, Cond.instanceMethod yX3_results, Cond.selects RX3 yX3_results yX3_results, Cond.code yX3_results cX3_results 1 (some .int), Cond.methodLink RL 124 yL_fits, Cond.static yL_fits, Cond.codeWith yL_fits cL_fits 5 (some .int) [(0, 17, 20, 18)], Cond.methodLink RL 49 yX2_fits, Cond.instanceMethod yX2_fits, Cond.selects RX2 yX2_fits yX2_fits, Cond.code yX2_fits cX2_fits 3 (some .boolean), Cond.methodLink RX2 150 yX2_requireTeamAndGroup]
def wsL_law0_r18 : List Cond := [Cond.instanceMethod yX2_requireTeamAndGroup, Cond.selects RX2 yX2_requireTeamAndGroup yX2_requireTeamAndGroup, Cond.code yX2_requireTeamAndGroup cX2_requireTeamAndGroup 3 none, Cond.methodLink RX2 153 yX1_countInGroup, Cond.instanceMethod yX1_countInGroup, Cond.selects RX1 yX1_countInGroup yX1_countInGroup, Cond.code yX1_countInGroup cX1_countInGroup 5 (some .int), Cond.methodLink RL 126 yX3_fits, Cond.instanceMethod yX3_fits, Cond.selects RX3 yX3_fits yX3_fits, Cond.code yX3_fits cX3_fits 3 (some .boolean), Cond.methodLink RX3 117 yX3_evenly, Cond.instanceMethod yX3_evenly, Cond.selects RX3 yX3_evenly yX3_evenly, Cond.code yX3_evenly cX3_evenly 3 (some .int), Cond.methodLink RX3 120 yX3_isPlace, Cond.instanceMethod yX3_isPlace, Cond.selects RX3 yX3_isPlace yX3_isPlace, Cond.code yX3_isPlace cX3_isPlace 3 (some .boolean), Cond.methodLink RL 127 yL_forced, Cond.static yL_forced, Cond.codeWith yL_forced cL_forced 4 (some .int) [(0, 9, 12, 18)], Cond.methodLink RL 53 yX2_forced, Cond.instanceMethod yX2_forced]
def wsL_law0_r19 : List Cond := [Cond.selects RX2 yX2_forced yX2_forced, Cond.code yX2_forced cX2_forced 5 (some .int), Cond.methodLink RL 129 yX3_forced, Cond.instanceMethod yX3_forced, Cond.selects RX3 yX3_forced yX3_forced, Cond.code yX3_forced cX3_forced 3 (some .int), Cond.methodLink RL 130 yL_evenly, Cond.static yL_evenly, Cond.codeWith yL_evenly cL_evenly 5 (some .int) [(0, 10, 13, 18)], Cond.methodLink RL 56 yX2_evenly, Cond.instanceMethod yX2_evenly, Cond.selects RX2 yX2_evenly yX2_evenly, Cond.code yX2_evenly cX2_evenly 3 (some .int), Cond.methodLink RL 132 yX3_evenly, Cond.methodLink RL 133 yX2_orders, Cond.instanceMethod yX2_orders, Cond.selects RX2 yX2_orders yX2_orders, Cond.code yX2_orders cX2_orders 3 (some .int), Cond.methodLink RX2 160 yX2_factorial, Cond.static yX2_factorial, Cond.code yX2_factorial cX2_factorial 3 (some .int), Cond.methodLink RL 136 yX3_orders, Cond.instanceMethod yX3_orders, Cond.selects RX3 yX3_orders yX3_orders]
def wsL_law0_r20 : List Cond := [Cond.code yX3_orders cX3_orders 1 (some .int), Cond.methodLink RX3 123 yX3_orderMany, Cond.instanceMethod yX3_orderMany, Cond.selects RX3 yX3_orderMany yX3_orderMany, Cond.code yX3_orderMany cX3_orderMany 5 (some .int), Cond.methodLink RL 137 yL_chances, Cond.static yL_chances, Cond.codeWith yL_chances cL_chances 5 (some .int) [(0, 10, 13, 18)], Cond.methodLink RL 59 yX2_chances, Cond.instanceMethod yX2_chances, Cond.selects RX2 yX2_chances yX2_chances, Cond.code yX2_chances cX2_chances 3 (some .int), Cond.methodLink RX2 163 yX2_endResults, Cond.instanceMethod yX2_endResults, Cond.selects RX2 yX2_endResults yX2_endResults, Cond.code yX2_endResults cX2_endResults 1 (some (.object "CupDraw$ResultList")), Cond.methodLink RX2 196 yX2_followOrders, Cond.instanceMethod yX2_followOrders, Cond.selects RX2 yX2_followOrders yX2_followOrders, Cond.code yX2_followOrders cX2_followOrders 4 none, Cond.methodLink RX2 199 yX1_first, Cond.instanceMethod yX1_first, Cond.selects RX1 yX1_first yX1_first, Cond.code yX1_first cX1_first 1 (some .int)]
def wsL_law0_r21 : List Cond := [Cond.methodLink RX2 202 yX1_add, Cond.methodLink RX2 205 yX2_left, Cond.methodLink RX2 208 yX2_followBall, Cond.instanceMethod yX2_followBall, Cond.selects RX2 yX2_followBall yX2_followBall, Cond.code yX2_followBall cX2_followBall 3 none, Cond.methodLink RL 139 yX3_chances, Cond.instanceMethod yX3_chances, Cond.selects RX3 yX3_chances yX3_chances, Cond.code yX3_chances cX3_chances 6 (some .int), Cond.methodLink RX3 129 yX3_follow, Cond.instanceMethod yX3_follow, Cond.selects RX3 yX3_follow yX3_follow, Cond.code yX3_follow cX3_follow 8 none, Cond.methodLink RX3 126 yX3_lowestLeft, Cond.instanceMethod yX3_lowestLeft, Cond.selects RX3 yX3_lowestLeft yX3_lowestLeft, Cond.code yX3_lowestLeft cX3_lowestLeft 5 (some .int), Cond.methodLink RL 140 yL_pairings, Cond.static yL_pairings, Cond.codeWith yL_pairings cL_pairings 5 (some .int) [(0, 10, 13, 18)], Cond.methodLink RL 62 yX2_pairings, Cond.instanceMethod yX2_pairings, Cond.selects RX2 yX2_pairings yX2_pairings]
def wsL_law0_r22 : List Cond := [Cond.code yX2_pairings cX2_pairings 3 (some .int), Cond.methodLink RX2 166 yX1_countTogether, Cond.instanceMethod yX1_countTogether, Cond.selects RX1 yX1_countTogether yX1_countTogether, Cond.code yX1_countTogether cX1_countTogether 5 (some .int), Cond.methodLink RL 142 yX3_pairings, Cond.instanceMethod yX3_pairings, Cond.selects RX3 yX3_pairings yX3_pairings, Cond.code yX3_pairings cX3_pairings 6 (some .int)]
def wsL_law0 : List Cond := (wsL_law0_r1 ++ (wsL_law0_r2 ++ (wsL_law0_r3 ++ (wsL_law0_r4 ++ (wsL_law0_r5 ++ (wsL_law0_r6 ++ (wsL_law0_r7 ++ (wsL_law0_r8 ++ (wsL_law0_r9 ++ (wsL_law0_r10 ++ (wsL_law0_r11 ++ (wsL_law0_r12 ++ (wsL_law0_r13 ++ (wsL_law0_r14 ++ (wsL_law0_r15 ++ (wsL_law0_r16 ++ (wsL_law0_r17 ++ (wsL_law0_r18 ++ (wsL_law0_r19 ++ (wsL_law0_r20 ++ (wsL_law0_r21 ++ wsL_law0_r22))))))))))))))))))))) ++ wsX20 ++ wsX30 ++ wsX00 ++ wsX10 ++ ([] : List Cond)
def wsL_law : List Cond := wsL_law0 ++ (vx_atS RX2 44 "java/lang/IllegalArgumentException" ["java/lang/RuntimeException", "java/lang/Exception"]).filter goodWord ++ (vx_atS RX2 62 "java/lang/IndexOutOfBoundsException" ["java/lang/RuntimeException", "java/lang/Exception"]).filter goodWord ++ (vx_atS RX2 106 "java/lang/IllegalStateException" ["java/lang/RuntimeException", "java/lang/Exception"]).filter goodWord
def wsL_law0_r1_c0 : List Cond := [Cond.classLink RL 8 RX2, Cond.instantiable RX2 9, Cond.initialized RX2, Cond.classLink RL 66 RX3, Cond.instantiable RX3 17, Cond.initialized RX3, Cond.arrayClass .long]
set_option maxRecDepth 20000 in
theorem wsL_law0_r1_c0_in : ∀ w ∈ wsL_law0_r1_c0, w ∈ lw_tbl := by decide +kernel
def wsL_law0_r1_c1 : List Cond := [Cond.methodLink RL 65 yX2_init, Cond.instanceMethod yX2_init, Cond.code yX2_init cX2_init 1 none, Cond.methodLink RX2 1 objectInit, Cond.instanceMethod objectInit, Cond.code objectInit ⟨#[0xb1]⟩ 1 none, Cond.classLink RX2 7 RX0]
set_option maxRecDepth 20000 in
theorem wsL_law0_r1_c1_in : ∀ w ∈ wsL_law0_r1_c1, w ∈ lw_tbl := by decide +kernel
def wsL_law0_r1_c2 : List Cond := [Cond.instantiable RX0 9, Cond.initialized RX0, Cond.fieldLink RX2 10 "CupDraw" "bowl" "LCupDraw$Bowl;", Cond.classLink RX2 16 RX1, Cond.instantiable RX1 2, Cond.initialized RX1, Cond.fieldLink RX2 19 "CupDraw" "openList" "LCupDraw$ResultList;"]
set_option maxRecDepth 20000 in
theorem wsL_law0_r1_c2_in : ∀ w ∈ wsL_law0_r1_c2, w ∈ lw_tbl := by decide +kernel
def wsL_law0_r1_c3 : List Cond := [Cond.fieldLink RX2 23 "CupDraw" "endList" "LCupDraw$ResultList;", Cond.arrayClass .int, Cond.fieldLink RX2 26 "CupDraw" "seats" "[I"]
set_option maxRecDepth 20000 in
theorem wsL_law0_r1_c3_in : ∀ w ∈ wsL_law0_r1_c3, w ∈ lw_tbl := by decide +kernel
theorem wsL_law0_r1_in : ∀ w ∈ wsL_law0_r1, w ∈ lw_tbl := fun w h => (fun h => (List.mem_append.mp h).elim (fun h => wsL_law0_r1_c0_in w h) (fun h => (List.mem_append.mp h).elim (fun h => wsL_law0_r1_c1_in w h) (fun h => (List.mem_append.mp h).elim (fun h => wsL_law0_r1_c2_in w h) (fun h => wsL_law0_r1_c3_in w h)))) (show w ∈ wsL_law0_r1_c0 ++ (wsL_law0_r1_c1 ++ (wsL_law0_r1_c2 ++ (wsL_law0_r1_c3))) from h)
def wsL_law0_r2_c0 : List Cond := [Cond.fieldLink RX2 30 "CupDraw" "drawnTeams" "[I", Cond.fieldLink RX2 33 "CupDraw" "openBefore" "[I", Cond.instanceMethod yX0_init, Cond.code yX0_init cX0_init 1 none, Cond.methodLink RX0 3 objectInit, Cond.fieldLink RX0 9 "CupDraw$Bowl" "regions" "[I", Cond.fieldLink RX0 15 "CupDraw$Bowl" "bounds" "[I"]
set_option maxRecDepth 20000 in
theorem wsL_law0_r2_c0_in : ∀ w ∈ wsL_law0_r2_c0, w ∈ lw_tbl := by decide +kernel
def wsL_law0_r2_c1 : List Cond := [Cond.fieldLink RX0 18 "CupDraw$Bowl" "apart" "[I", Cond.fieldLink RX0 21 "CupDraw$Bowl" "otherDays" "[I", Cond.fieldLink RX0 24 "CupDraw$Bowl" "potMates" "[I", Cond.fieldLink RX0 27 "CupDraw$Bowl" "members" "[I", Cond.instanceMethod yX1_init, Cond.code yX1_init cX1_init 1 none, Cond.methodLink RX1 3 objectInit]
set_option maxRecDepth 20000 in
theorem wsL_law0_r2_c1_in : ∀ w ∈ wsL_law0_r2_c1, w ∈ lw_tbl := by decide +kernel
def wsL_law0_r2_c2 : List Cond := [Cond.fieldLink RX1 9 "CupDraw$ResultList" "items" "[I", Cond.methodLink RX2 36 yX2_startWith, Cond.instanceMethod yX2_startWith, Cond.selects RX2 yX2_startWith yX2_startWith, Cond.code yX2_startWith cX2_startWith 4 none, Cond.fieldLink RX2 92 "CupDraw" "drawnCount" "I", Cond.methodLink RX2 177 yX0_reset]
set_option maxRecDepth 20000 in
theorem wsL_law0_r2_c2_in : ∀ w ∈ wsL_law0_r2_c2, w ∈ lw_tbl := by decide +kernel
def wsL_law0_r2_c3 : List Cond := [Cond.instanceMethod yX0_reset, Cond.selects RX0 yX0_reset yX0_reset, Cond.code yX0_reset cX0_reset 4 none]
set_option maxRecDepth 20000 in
theorem wsL_law0_r2_c3_in : ∀ w ∈ wsL_law0_r2_c3, w ∈ lw_tbl := by decide +kernel
theorem wsL_law0_r2_in : ∀ w ∈ wsL_law0_r2, w ∈ lw_tbl := fun w h => (fun h => (List.mem_append.mp h).elim (fun h => wsL_law0_r2_c0_in w h) (fun h => (List.mem_append.mp h).elim (fun h => wsL_law0_r2_c1_in w h) (fun h => (List.mem_append.mp h).elim (fun h => wsL_law0_r2_c2_in w h) (fun h => wsL_law0_r2_c3_in w h)))) (show w ∈ wsL_law0_r2_c0 ++ (wsL_law0_r2_c1 ++ (wsL_law0_r2_c2 ++ (wsL_law0_r2_c3))) from h)
def wsL_law0_r3_c0 : List Cond := [Cond.fieldLink RX0 30 "CupDraw$Bowl" "groups" "I", Cond.fieldLink RX0 34 "CupDraw$Bowl" "pots" "I", Cond.fieldLink RX0 37 "CupDraw$Bowl" "teams" "I", Cond.methodLink RX0 40 yX0_resetPot, Cond.instanceMethod yX0_resetPot, Cond.selects RX0 yX0_resetPot yX0_resetPot, Cond.code yX0_resetPot cX0_resetPot 4 none]
set_option maxRecDepth 20000 in
theorem wsL_law0_r3_c0_in : ∀ w ∈ wsL_law0_r3_c0, w ∈ lw_tbl := by decide +kernel
def wsL_law0_r3_c1 : List Cond := [Cond.methodLink RX2 69 yX2_forgetResults, Cond.instanceMethod yX2_forgetResults, Cond.selects RX2 yX2_forgetResults yX2_forgetResults, Cond.code yX2_forgetResults cX2_forgetResults 1 none, Cond.fieldLink RX2 186 "CupDraw" "isOpenListFresh" "Z", Cond.fieldLink RX2 113 "CupDraw" "isEndListFresh" "Z", Cond.methodLink RL 68 yX3_init]
set_option maxRecDepth 20000 in
theorem wsL_law0_r3_c1_in : ∀ w ∈ wsL_law0_r3_c1, w ∈ lw_tbl := by decide +kernel
def wsL_law0_r3_c2 : List Cond := [Cond.instanceMethod yX3_init, Cond.code yX3_init cX3_init 1 none, Cond.methodLink RX3 1 objectInit, Cond.fieldLink RX3 7 "CupDrawModel" "regions" "[I", Cond.fieldLink RX3 13 "CupDrawModel" "bounds" "[I", Cond.arrayClass .boolean, Cond.fieldLink RX3 16 "CupDrawModel" "isApart" "[Z"]
set_option maxRecDepth 20000 in
theorem wsL_law0_r3_c2_in : ∀ w ∈ wsL_law0_r3_c2, w ∈ lw_tbl := by decide +kernel
def wsL_law0_r3_c3 : List Cond := [Cond.fieldLink RX3 20 "CupDrawModel" "isOther" "[Z", Cond.fieldLink RX3 23 "CupDrawModel" "drawnTeams" "[I", Cond.fieldLink RX3 26 "CupDrawModel" "places" "[I"]
set_option maxRecDepth 20000 in
theorem wsL_law0_r3_c3_in : ∀ w ∈ wsL_law0_r3_c3, w ∈ lw_tbl := by decide +kernel
theorem wsL_law0_r3_in : ∀ w ∈ wsL_law0_r3, w ∈ lw_tbl := fun w h => (fun h => (List.mem_append.mp h).elim (fun h => wsL_law0_r3_c0_in w h) (fun h => (List.mem_append.mp h).elim (fun h => wsL_law0_r3_c1_in w h) (fun h => (List.mem_append.mp h).elim (fun h => wsL_law0_r3_c2_in w h) (fun h => wsL_law0_r3_c3_in w h)))) (show w ∈ wsL_law0_r3_c0 ++ (wsL_law0_r3_c1 ++ (wsL_law0_r3_c2 ++ (wsL_law0_r3_c3))) from h)
def wsL_law0_r4_c0 : List Cond := [Cond.fieldLink RX3 29 "CupDrawModel" "results" "[I", Cond.fieldLink RX3 32 "CupDrawModel" "row" "[I", Cond.fieldLink RX3 35 "CupDrawModel" "isUsed" "[Z", Cond.fieldLink RX3 38 "CupDrawModel" "isLeft" "[Z", Cond.fieldLink RX3 41 "CupDrawModel" "ends" "[I", Cond.fieldLink RX3 44 "CupDrawModel" "balls" "[I", Cond.methodLink RX3 47 yX3_begin]
set_option maxRecDepth 20000 in
theorem wsL_law0_r4_c0_in : ∀ w ∈ wsL_law0_r4_c0, w ∈ lw_tbl := by decide +kernel
def wsL_law0_r4_c1 : List Cond := [Cond.instanceMethod yX3_begin, Cond.selects RX3 yX3_begin yX3_begin, Cond.code yX3_begin cX3_begin 4 none, Cond.fieldLink RX3 55 "CupDrawModel" "groupMany" "I", Cond.fieldLink RX3 58 "CupDrawModel" "potMany" "I", Cond.fieldLink RX3 61 "CupDrawModel" "drawnMany" "I", Cond.methodLink RL 69 yL_lay]
set_option maxRecDepth 20000 in
theorem wsL_law0_r4_c1_in : ∀ w ∈ wsL_law0_r4_c1, w ∈ lw_tbl := by decide +kernel
def wsL_law0_r4_c2 : List Cond := [Cond.static yL_lay, Cond.initialized RL, Cond.codeWith yL_lay cL_lay 5 (some .int) [(0, 10, 13, 13)], Cond.classLink RL 13 "java/lang/IllegalArgumentException", Cond.methodLink RL 7 yX2_lay, Cond.instanceMethod yX2_lay, Cond.selects RX2 yX2_lay yX2_lay]
set_option maxRecDepth 20000 in
theorem wsL_law0_r4_c2_in : ∀ w ∈ wsL_law0_r4_c2, w ∈ lw_tbl := by decide +kernel
def wsL_law0_r4_c3 : List Cond := [Cond.code yX2_lay cX2_lay 3 (some .int), Cond.classLink RX2 40 "java/lang/IllegalArgumentException", Cond.initialized "java/lang/IllegalArgumentException"]
set_option maxRecDepth 20000 in
theorem wsL_law0_r4_c3_in : ∀ w ∈ wsL_law0_r4_c3, w ∈ lw_tbl := by decide +kernel
theorem wsL_law0_r4_in : ∀ w ∈ wsL_law0_r4, w ∈ lw_tbl := fun w h => (fun h => (List.mem_append.mp h).elim (fun h => wsL_law0_r4_c0_in w h) (fun h => (List.mem_append.mp h).elim (fun h => wsL_law0_r4_c1_in w h) (fun h => (List.mem_append.mp h).elim (fun h => wsL_law0_r4_c2_in w h) (fun h => wsL_law0_r4_c3_in w h)))) (show w ∈ wsL_law0_r4_c0 ++ (wsL_law0_r4_c1 ++ (wsL_law0_r4_c2 ++ (wsL_law0_r4_c3))) from h)
def wsL_law0_r5_c0 : List Cond := [Cond.methodLink RL 74 yX3_lay, Cond.instanceMethod yX3_lay, Cond.selects RX3 yX3_lay yX3_lay, Cond.code yX3_lay cX3_lay 3 (some .int), Cond.fieldLink RX3 51 "CupDrawModel" "thrown" "I", Cond.methodLink RX3 68 yX3_in, Cond.static yX3_in]
set_option maxRecDepth 20000 in
theorem wsL_law0_r5_c0_in : ∀ w ∈ wsL_law0_r5_c0, w ∈ lw_tbl := by decide +kernel
def wsL_law0_r5_c1 : List Cond := [Cond.code yX3_in cX3_in 3 (some .boolean), Cond.methodLink RX3 64 yX3_teamMany, Cond.instanceMethod yX3_teamMany, Cond.selects RX3 yX3_teamMany yX3_teamMany, Cond.code yX3_teamMany cX3_teamMany 1 (some .int), Cond.methodLink RL 75 yX3_thrown, Cond.instanceMethod yX3_thrown]
set_option maxRecDepth 20000 in
theorem wsL_law0_r5_c1_in : ∀ w ∈ wsL_law0_r5_c1, w ∈ lw_tbl := by decide +kernel
def wsL_law0_r5_c2 : List Cond := [Cond.selects RX3 yX3_thrown yX3_thrown, Cond.code yX3_thrown cX3_thrown 1 (some .int), Cond.methodLink RL 78 yL_setRegion, Cond.static yL_setRegion, Cond.codeWith yL_setRegion cL_setRegion 5 (some .int) [(0, 10, 13, 18), (0, 10, 17, 20)], Cond.classLink RL 18 "java/lang/IndexOutOfBoundsException", Cond.classLink RL 20 "java/lang/IllegalStateException"]
set_option maxRecDepth 20000 in
theorem wsL_law0_r5_c2_in : ∀ w ∈ wsL_law0_r5_c2, w ∈ lw_tbl := by decide +kernel
def wsL_law0_r5_c3 : List Cond := [Cond.methodLink RL 15 yX2_setRegion, Cond.instanceMethod yX2_setRegion, Cond.selects RX2 yX2_setRegion yX2_setRegion]
set_option maxRecDepth 20000 in
theorem wsL_law0_r5_c3_in : ∀ w ∈ wsL_law0_r5_c3, w ∈ lw_tbl := by decide +kernel
theorem wsL_law0_r5_in : ∀ w ∈ wsL_law0_r5, w ∈ lw_tbl := fun w h => (fun h => (List.mem_append.mp h).elim (fun h => wsL_law0_r5_c0_in w h) (fun h => (List.mem_append.mp h).elim (fun h => wsL_law0_r5_c1_in w h) (fun h => (List.mem_append.mp h).elim (fun h => wsL_law0_r5_c2_in w h) (fun h => wsL_law0_r5_c3_in w h)))) (show w ∈ wsL_law0_r5_c0 ++ (wsL_law0_r5_c1 ++ (wsL_law0_r5_c2 ++ (wsL_law0_r5_c3))) from h)
def wsL_law0_r6_c0 : List Cond := [Cond.code yX2_setRegion cX2_setRegion 4 (some .int), Cond.classLink RX2 58 "java/lang/IndexOutOfBoundsException", Cond.initialized "java/lang/IndexOutOfBoundsException", Cond.methodLink RX2 51 yX0_hasTeam, Cond.instanceMethod yX0_hasTeam, Cond.selects RX0 yX0_hasTeam yX0_hasTeam, Cond.code yX0_hasTeam cX0_hasTeam 2 (some .boolean)]
set_option maxRecDepth 20000 in
theorem wsL_law0_r6_c0_in : ∀ w ∈ wsL_law0_r6_c0, w ∈ lw_tbl := by decide +kernel
def wsL_law0_r6_c1 : List Cond := [Cond.methodLink RX2 55 yX0_hasRegion, Cond.instanceMethod yX0_hasRegion, Cond.selects RX0 yX0_hasRegion yX0_hasRegion, Cond.code yX0_hasRegion cX0_hasRegion 2 (some .boolean), Cond.methodLink RX2 63 yX2_requireNothingDrawn, Cond.instanceMethod yX2_requireNothingDrawn, Cond.selects RX2 yX2_requireNothingDrawn yX2_requireNothingDrawn]
set_option maxRecDepth 20000 in
theorem wsL_law0_r6_c1_in : ∀ w ∈ wsL_law0_r6_c1, w ∈ lw_tbl := by decide +kernel
def wsL_law0_r6_c2 : List Cond := [Cond.code yX2_requireNothingDrawn cX2_requireNothingDrawn 1 none, Cond.classLink RX2 102 "java/lang/IllegalStateException", Cond.initialized "java/lang/IllegalStateException", Cond.methodLink RL 80 yX3_setRegion, Cond.instanceMethod yX3_setRegion, Cond.selects RX3 yX3_setRegion yX3_setRegion, Cond.code yX3_setRegion cX3_setRegion 4 (some .int)]
set_option maxRecDepth 20000 in
theorem wsL_law0_r6_c2_in : ∀ w ∈ wsL_law0_r6_c2, w ∈ lw_tbl := by decide +kernel
def wsL_law0_r6_c3 : List Cond := [Cond.methodLink RX3 72 yX3_isTeam, Cond.instanceMethod yX3_isTeam, Cond.selects RX3 yX3_isTeam yX3_isTeam]
set_option maxRecDepth 20000 in
theorem wsL_law0_r6_c3_in : ∀ w ∈ wsL_law0_r6_c3, w ∈ lw_tbl := by decide +kernel
theorem wsL_law0_r6_in : ∀ w ∈ wsL_law0_r6, w ∈ lw_tbl := fun w h => (fun h => (List.mem_append.mp h).elim (fun h => wsL_law0_r6_c0_in w h) (fun h => (List.mem_append.mp h).elim (fun h => wsL_law0_r6_c1_in w h) (fun h => (List.mem_append.mp h).elim (fun h => wsL_law0_r6_c2_in w h) (fun h => wsL_law0_r6_c3_in w h)))) (show w ∈ wsL_law0_r6_c0 ++ (wsL_law0_r6_c1 ++ (wsL_law0_r6_c2 ++ (wsL_law0_r6_c3))) from h)
def wsL_law0_r7_c0 : List Cond := [Cond.code yX3_isTeam cX3_isTeam 2 (some .boolean), Cond.methodLink RL 81 yL_setBound, Cond.static yL_setBound, Cond.codeWith yL_setBound cL_setBound 5 (some .int) [(0, 10, 13, 18), (0, 10, 17, 13), (0, 10, 21, 20)], Cond.methodLink RL 22 yX2_setBound, Cond.instanceMethod yX2_setBound, Cond.selects RX2 yX2_setBound yX2_setBound]
set_option maxRecDepth 20000 in
theorem wsL_law0_r7_c0_in : ∀ w ∈ wsL_law0_r7_c0, w ∈ lw_tbl := by decide +kernel
def wsL_law0_r7_c1 : List Cond := [Cond.code yX2_setBound cX2_setBound 4 (some .int), Cond.methodLink RL 83 yX3_setBound, Cond.instanceMethod yX3_setBound, Cond.selects RX3 yX3_setBound yX3_setBound, Cond.code yX3_setBound cX3_setBound 4 (some .int), Cond.methodLink RL 84 yL_setApart, Cond.static yL_setApart]
set_option maxRecDepth 20000 in
theorem wsL_law0_r7_c1_in : ∀ w ∈ wsL_law0_r7_c1, w ∈ lw_tbl := by decide +kernel
def wsL_law0_r7_c2 : List Cond := [Cond.codeWith yL_setApart cL_setApart 6 (some .int) [(0, 19, 22, 18), (0, 19, 26, 13), (0, 19, 30, 20)], Cond.methodLink RL 25 yX2_setApart, Cond.instanceMethod yX2_setApart, Cond.selects RX2 yX2_setApart yX2_setApart, Cond.code yX2_setApart cX2_setApart 4 (some .boolean), Cond.methodLink RX2 79 yX2_requireTwoTeams, Cond.instanceMethod yX2_requireTwoTeams]
set_option maxRecDepth 20000 in
theorem wsL_law0_r7_c2_in : ∀ w ∈ wsL_law0_r7_c2, w ∈ lw_tbl := by decide +kernel
def wsL_law0_r7_c3 : List Cond := [Cond.selects RX2 yX2_requireTwoTeams yX2_requireTwoTeams, Cond.code yX2_requireTwoTeams cX2_requireTwoTeams 3 none, Cond.methodLink RX2 136 yX2_requireTeam]
set_option maxRecDepth 20000 in
theorem wsL_law0_r7_c3_in : ∀ w ∈ wsL_law0_r7_c3, w ∈ lw_tbl := by decide +kernel
theorem wsL_law0_r7_in : ∀ w ∈ wsL_law0_r7, w ∈ lw_tbl := fun w h => (fun h => (List.mem_append.mp h).elim (fun h => wsL_law0_r7_c0_in w h) (fun h => (List.mem_append.mp h).elim (fun h => wsL_law0_r7_c1_in w h) (fun h => (List.mem_append.mp h).elim (fun h => wsL_law0_r7_c2_in w h) (fun h => wsL_law0_r7_c3_in w h)))) (show w ∈ wsL_law0_r7_c0 ++ (wsL_law0_r7_c1 ++ (wsL_law0_r7_c2 ++ (wsL_law0_r7_c3))) from h)
def wsL_law0_r8_c0 : List Cond := [Cond.instanceMethod yX2_requireTeam, Cond.selects RX2 yX2_requireTeam yX2_requireTeam, Cond.code yX2_requireTeam cX2_requireTeam 2 none, Cond.methodLink RX2 85 yX0_setPair, Cond.static yX0_setPair, Cond.code yX0_setPair cX0_setPair 5 (some .boolean), Cond.methodLink RL 87 yX3_setApart]
set_option maxRecDepth 20000 in
theorem wsL_law0_r8_c0_in : ∀ w ∈ wsL_law0_r8_c0, w ∈ lw_tbl := by decide +kernel
def wsL_law0_r8_c1 : List Cond := [Cond.instanceMethod yX3_setApart, Cond.selects RX3 yX3_setApart yX3_setApart, Cond.code yX3_setApart cX3_setApart 5 (some .boolean), Cond.methodLink RX3 76 yX3_canPair, Cond.instanceMethod yX3_canPair, Cond.selects RX3 yX3_canPair yX3_canPair, Cond.code yX3_canPair cX3_canPair 3 (some .boolean)]
set_option maxRecDepth 20000 in
theorem wsL_law0_r8_c1_in : ∀ w ∈ wsL_law0_r8_c1, w ∈ lw_tbl := by decide +kernel
def wsL_law0_r8_c2 : List Cond := [Cond.methodLink RL 88 yL_setOtherDays, Cond.static yL_setOtherDays, Cond.codeWith yL_setOtherDays cL_setOtherDays 6 (some .int) [(0, 19, 22, 18), (0, 19, 26, 13), (0, 19, 30, 20)], Cond.methodLink RL 29 yX2_setOtherDays, Cond.instanceMethod yX2_setOtherDays, Cond.selects RX2 yX2_setOtherDays yX2_setOtherDays, Cond.code yX2_setOtherDays cX2_setOtherDays 4 (some .boolean)]
set_option maxRecDepth 20000 in
theorem wsL_law0_r8_c2_in : ∀ w ∈ wsL_law0_r8_c2, w ∈ lw_tbl := by decide +kernel
def wsL_law0_r8_c3 : List Cond := [Cond.methodLink RL 90 yX3_setOtherDays, Cond.instanceMethod yX3_setOtherDays, Cond.selects RX3 yX3_setOtherDays yX3_setOtherDays]
set_option maxRecDepth 20000 in
theorem wsL_law0_r8_c3_in : ∀ w ∈ wsL_law0_r8_c3, w ∈ lw_tbl := by decide +kernel
theorem wsL_law0_r8_in : ∀ w ∈ wsL_law0_r8, w ∈ lw_tbl := fun w h => (fun h => (List.mem_append.mp h).elim (fun h => wsL_law0_r8_c0_in w h) (fun h => (List.mem_append.mp h).elim (fun h => wsL_law0_r8_c1_in w h) (fun h => (List.mem_append.mp h).elim (fun h => wsL_law0_r8_c2_in w h) (fun h => wsL_law0_r8_c3_in w h)))) (show w ∈ wsL_law0_r8_c0 ++ (wsL_law0_r8_c1 ++ (wsL_law0_r8_c2 ++ (wsL_law0_r8_c3))) from h)
def wsL_law0_r9_c0 : List Cond := [Cond.code yX3_setOtherDays cX3_setOtherDays 5 (some .boolean), Cond.methodLink RL 91 yL_draw, Cond.static yL_draw, Cond.codeWith yL_draw cL_draw 4 (some .int) [(0, 9, 12, 20), (0, 9, 15, 18)], Cond.methodLink RL 32 yX2_draw, Cond.instanceMethod yX2_draw, Cond.selects RX2 yX2_draw yX2_draw]
set_option maxRecDepth 20000 in
theorem wsL_law0_r9_c0_in : ∀ w ∈ wsL_law0_r9_c0, w ∈ lw_tbl := by decide +kernel
def wsL_law0_r9_c1 : List Cond := [Cond.code yX2_draw cX2_draw 3 (some .int), Cond.methodLink RX2 95 yX2_openResults, Cond.instanceMethod yX2_openResults, Cond.selects RX2 yX2_openResults yX2_openResults, Cond.code yX2_openResults cX2_openResults 1 (some (.object "CupDraw$ResultList")), Cond.methodLink RX2 189 yX1_clear, Cond.instanceMethod yX1_clear]
set_option maxRecDepth 20000 in
theorem wsL_law0_r9_c1_in : ∀ w ∈ wsL_law0_r9_c1, w ∈ lw_tbl := by decide +kernel
def wsL_law0_r9_c2 : List Cond := [Cond.selects RX1 yX1_clear yX1_clear, Cond.code yX1_clear cX1_clear 1 none, Cond.fieldLink RX1 15 "CupDraw$ResultList" "size" "I", Cond.methodLink RX2 192 yX0_addLawful, Cond.instanceMethod yX0_addLawful, Cond.selects RX0 yX0_addLawful yX0_addLawful, Cond.code yX0_addLawful cX0_addLawful 2 none]
set_option maxRecDepth 20000 in
theorem wsL_law0_r9_c2_in : ∀ w ∈ wsL_law0_r9_c2, w ∈ lw_tbl := by decide +kernel
def wsL_law0_r9_c3 : List Cond := [Cond.methodLink RX0 44 yX0_placeFrom, Cond.instanceMethod yX0_placeFrom, Cond.selects RX0 yX0_placeFrom yX0_placeFrom]
set_option maxRecDepth 20000 in
theorem wsL_law0_r9_c3_in : ∀ w ∈ wsL_law0_r9_c3, w ∈ lw_tbl := by decide +kernel
theorem wsL_law0_r9_in : ∀ w ∈ wsL_law0_r9, w ∈ lw_tbl := fun w h => (fun h => (List.mem_append.mp h).elim (fun h => wsL_law0_r9_c0_in w h) (fun h => (List.mem_append.mp h).elim (fun h => wsL_law0_r9_c1_in w h) (fun h => (List.mem_append.mp h).elim (fun h => wsL_law0_r9_c2_in w h) (fun h => wsL_law0_r9_c3_in w h)))) (show w ∈ wsL_law0_r9_c0 ++ (wsL_law0_r9_c1 ++ (wsL_law0_r9_c2 ++ (wsL_law0_r9_c3))) from h)
def wsL_law0_r10_c0 : List Cond := [Cond.code yX0_placeFrom cX0_placeFrom 5 none, Cond.methodLink RX0 48 yX1_add, Cond.instanceMethod yX1_add, Cond.selects RX1 yX1_add yX1_add, Cond.code yX1_add cX1_add 2 none, Cond.methodLink RX0 53 yX0_placeIn, Cond.instanceMethod yX0_placeIn]
set_option maxRecDepth 20000 in
theorem wsL_law0_r10_c0_in : ∀ w ∈ wsL_law0_r10_c0, w ∈ lw_tbl := by decide +kernel
def wsL_law0_r10_c1 : List Cond := [Cond.selects RX0 yX0_placeIn yX0_placeIn, Cond.code yX0_placeIn cX0_placeIn 5 none, Cond.methodLink RX0 57 yX0_admits, Cond.instanceMethod yX0_admits, Cond.selects RX0 yX0_admits yX0_admits, Cond.code yX0_admits cX0_admits 3 (some .boolean), Cond.methodLink RX0 65 yX0_playersOnDay]
set_option maxRecDepth 20000 in
theorem wsL_law0_r10_c1_in : ∀ w ∈ wsL_law0_r10_c1, w ∈ lw_tbl := by decide +kernel
def wsL_law0_r10_c2 : List Cond := [Cond.instanceMethod yX0_playersOnDay, Cond.selects RX0 yX0_playersOnDay yX0_playersOnDay, Cond.code yX0_playersOnDay cX0_playersOnDay 4 (some .int), Cond.methodLink RX0 69 yX0_countOfRegion, Cond.instanceMethod yX0_countOfRegion, Cond.selects RX0 yX0_countOfRegion yX0_countOfRegion, Cond.code yX0_countOfRegion cX0_countOfRegion 5 (some .int)]
set_option maxRecDepth 20000 in
theorem wsL_law0_r10_c2_in : ∀ w ∈ wsL_law0_r10_c2, w ∈ lw_tbl := by decide +kernel
def wsL_law0_r10_c3 : List Cond := [Cond.methodLink RX0 61 yX1_with, Cond.static yX1_with, Cond.code yX1_with cX1_with 3 (some .int)]
set_option maxRecDepth 20000 in
theorem wsL_law0_r10_c3_in : ∀ w ∈ wsL_law0_r10_c3, w ∈ lw_tbl := by decide +kernel
theorem wsL_law0_r10_in : ∀ w ∈ wsL_law0_r10, w ∈ lw_tbl := fun w h => (fun h => (List.mem_append.mp h).elim (fun h => wsL_law0_r10_c0_in w h) (fun h => (List.mem_append.mp h).elim (fun h => wsL_law0_r10_c1_in w h) (fun h => (List.mem_append.mp h).elim (fun h => wsL_law0_r10_c2_in w h) (fun h => wsL_law0_r10_c3_in w h)))) (show w ∈ wsL_law0_r10_c0 ++ (wsL_law0_r10_c1 ++ (wsL_law0_r10_c2 ++ (wsL_law0_r10_c3))) from h)
def wsL_law0_r11_c0 : List Cond := [Cond.methodLink RX2 107 yX2_findBall, Cond.instanceMethod yX2_findBall, Cond.selects RX2 yX2_findBall yX2_findBall, Cond.code yX2_findBall cX2_findBall 6 (some .int), Cond.methodLink RX2 133 yX2_pot, Cond.instanceMethod yX2_pot, Cond.selects RX2 yX2_pot yX2_pot]
set_option maxRecDepth 20000 in
theorem wsL_law0_r11_c0_in : ∀ w ∈ wsL_law0_r11_c0, w ∈ lw_tbl := by decide +kernel
def wsL_law0_r11_c1 : List Cond := [Cond.code yX2_pot cX2_pot 2 (some .int), Cond.methodLink RX2 130 yX2_countLeft, Cond.instanceMethod yX2_countLeft, Cond.selects RX2 yX2_countLeft yX2_countLeft, Cond.code yX2_countLeft cX2_countLeft 5 (some .int), Cond.methodLink RX2 117 yX2_seat, Cond.instanceMethod yX2_seat]
set_option maxRecDepth 20000 in
theorem wsL_law0_r11_c1_in : ∀ w ∈ wsL_law0_r11_c1, w ∈ lw_tbl := by decide +kernel
def wsL_law0_r11_c2 : List Cond := [Cond.selects RX2 yX2_seat yX2_seat, Cond.code yX2_seat cX2_seat 3 none, Cond.methodLink RX2 157 yX1_lowestGroup, Cond.instanceMethod yX1_lowestGroup, Cond.selects RX1 yX1_lowestGroup yX1_lowestGroup, Cond.code yX1_lowestGroup cX1_lowestGroup 5 (some .int), Cond.methodLink RX1 19 yX1_groupIn]
set_option maxRecDepth 20000 in
theorem wsL_law0_r11_c2_in : ∀ w ∈ wsL_law0_r11_c2, w ∈ lw_tbl := by decide +kernel
def wsL_law0_r11_c3 : List Cond := [Cond.static yX1_groupIn, Cond.code yX1_groupIn cX1_groupIn 2 (some .int), Cond.methodLink RX2 180 yX1_narrow]
set_option maxRecDepth 20000 in
theorem wsL_law0_r11_c3_in : ∀ w ∈ wsL_law0_r11_c3, w ∈ lw_tbl := by decide +kernel
theorem wsL_law0_r11_in : ∀ w ∈ wsL_law0_r11, w ∈ lw_tbl := fun w h => (fun h => (List.mem_append.mp h).elim (fun h => wsL_law0_r11_c0_in w h) (fun h => (List.mem_append.mp h).elim (fun h => wsL_law0_r11_c1_in w h) (fun h => (List.mem_append.mp h).elim (fun h => wsL_law0_r11_c2_in w h) (fun h => wsL_law0_r11_c3_in w h)))) (show w ∈ wsL_law0_r11_c0 ++ (wsL_law0_r11_c1 ++ (wsL_law0_r11_c2 ++ (wsL_law0_r11_c3))) from h)
def wsL_law0_r12_c0 : List Cond := [Cond.instanceMethod yX1_narrow, Cond.selects RX1 yX1_narrow yX1_narrow, Cond.code yX1_narrow cX1_narrow 6 none, Cond.methodLink RL 94 yX3_draw, Cond.instanceMethod yX3_draw, Cond.selects RX3 yX3_draw yX3_draw, Cond.code yX3_draw cX3_draw 3 (some .int)]
set_option maxRecDepth 20000 in
theorem wsL_law0_r12_c0_in : ∀ w ∈ wsL_law0_r12_c0, w ∈ lw_tbl := by decide +kernel
def wsL_law0_r12_c1 : List Cond := [Cond.fieldLink RX3 84 "CupDrawModel" "resultMany" "I", Cond.methodLink RX3 99 yX3_layResults, Cond.instanceMethod yX3_layResults, Cond.selects RX3 yX3_layResults yX3_layResults, Cond.code yX3_layResults cX3_layResults 6 none, Cond.methodLink RX3 80 yX3_factorial, Cond.static yX3_factorial]
set_option maxRecDepth 20000 in
theorem wsL_law0_r12_c1_in : ∀ w ∈ wsL_law0_r12_c1, w ∈ lw_tbl := by decide +kernel
def wsL_law0_r12_c2 : List Cond := [Cond.code yX3_factorial cX3_factorial 3 (some .int), Cond.methodLink RX3 87 yX3_layOrder, Cond.instanceMethod yX3_layOrder, Cond.selects RX3 yX3_layOrder yX3_layOrder, Cond.code yX3_layOrder cX3_layOrder 8 none, Cond.methodLink RX3 91 yX3_isLawful, Cond.instanceMethod yX3_isLawful]
set_option maxRecDepth 20000 in
theorem wsL_law0_r12_c2_in : ∀ w ∈ wsL_law0_r12_c2, w ∈ lw_tbl := by decide +kernel
def wsL_law0_r12_c3 : List Cond := [Cond.selects RX3 yX3_isLawful yX3_isLawful, Cond.code yX3_isLawful cX3_isLawful 5 (some .boolean), Cond.methodLink RX3 102 yX3_leftNow]
set_option maxRecDepth 20000 in
theorem wsL_law0_r12_c3_in : ∀ w ∈ wsL_law0_r12_c3, w ∈ lw_tbl := by decide +kernel
theorem wsL_law0_r12_in : ∀ w ∈ wsL_law0_r12, w ∈ lw_tbl := fun w h => (fun h => (List.mem_append.mp h).elim (fun h => wsL_law0_r12_c0_in w h) (fun h => (List.mem_append.mp h).elim (fun h => wsL_law0_r12_c1_in w h) (fun h => (List.mem_append.mp h).elim (fun h => wsL_law0_r12_c2_in w h) (fun h => wsL_law0_r12_c3_in w h)))) (show w ∈ wsL_law0_r12_c0 ++ (wsL_law0_r12_c1 ++ (wsL_law0_r12_c2 ++ (wsL_law0_r12_c3))) from h)
def wsL_law0_r13_c0 : List Cond := [Cond.instanceMethod yX3_leftNow, Cond.selects RX3 yX3_leftNow yX3_leftNow, Cond.code yX3_leftNow cX3_leftNow 1 (some .int), Cond.methodLink RX3 105 yX3_potNow, Cond.instanceMethod yX3_potNow, Cond.selects RX3 yX3_potNow yX3_potNow, Cond.code yX3_potNow cX3_potNow 1 (some .int)]
set_option maxRecDepth 20000 in
theorem wsL_law0_r13_c0_in : ∀ w ∈ wsL_law0_r13_c0, w ∈ lw_tbl := by decide +kernel
def wsL_law0_r13_c1 : List Cond := [Cond.methodLink RX3 108 yX3_ball, Cond.instanceMethod yX3_ball, Cond.selects RX3 yX3_ball yX3_ball, Cond.code yX3_ball cX3_ball 5 (some .int), Cond.methodLink RX3 111 yX3_lowestFor, Cond.instanceMethod yX3_lowestFor, Cond.selects RX3 yX3_lowestFor yX3_lowestFor]
set_option maxRecDepth 20000 in
theorem wsL_law0_r13_c1_in : ∀ w ∈ wsL_law0_r13_c1, w ∈ lw_tbl := by decide +kernel
def wsL_law0_r13_c2 : List Cond := [Cond.code yX3_lowestFor cX3_lowestFor 3 (some .int), Cond.methodLink RX3 95 yX3_countIn, Cond.instanceMethod yX3_countIn, Cond.selects RX3 yX3_countIn yX3_countIn, Cond.code yX3_countIn cX3_countIn 5 (some .int), Cond.methodLink RL 95 yL_undo, Cond.static yL_undo]
set_option maxRecDepth 20000 in
theorem wsL_law0_r13_c2_in : ∀ w ∈ wsL_law0_r13_c2, w ∈ lw_tbl := by decide +kernel
def wsL_law0_r13_c3 : List Cond := [Cond.codeWith yL_undo cL_undo 3 (some .int) [(0, 8, 11, 20)], Cond.methodLink RL 36 yX2_undo, Cond.instanceMethod yX2_undo]
set_option maxRecDepth 20000 in
theorem wsL_law0_r13_c3_in : ∀ w ∈ wsL_law0_r13_c3, w ∈ lw_tbl := by decide +kernel
theorem wsL_law0_r13_in : ∀ w ∈ wsL_law0_r13, w ∈ lw_tbl := fun w h => (fun h => (List.mem_append.mp h).elim (fun h => wsL_law0_r13_c0_in w h) (fun h => (List.mem_append.mp h).elim (fun h => wsL_law0_r13_c1_in w h) (fun h => (List.mem_append.mp h).elim (fun h => wsL_law0_r13_c2_in w h) (fun h => wsL_law0_r13_c3_in w h)))) (show w ∈ wsL_law0_r13_c0 ++ (wsL_law0_r13_c1 ++ (wsL_law0_r13_c2 ++ (wsL_law0_r13_c3))) from h)
def wsL_law0_r14_c0 : List Cond := [Cond.selects RX2 yX2_undo yX2_undo, Cond.code yX2_undo cX2_undo 1 (some .int), Cond.methodLink RX2 123 yX2_unseat, Cond.instanceMethod yX2_unseat, Cond.selects RX2 yX2_unseat yX2_unseat, Cond.code yX2_unseat cX2_unseat 2 (some .int), Cond.methodLink RX2 183 yX1_widen]
set_option maxRecDepth 20000 in
theorem wsL_law0_r14_c0_in : ∀ w ∈ wsL_law0_r14_c0, w ∈ lw_tbl := by decide +kernel
def wsL_law0_r14_c1 : List Cond := [Cond.instanceMethod yX1_widen, Cond.selects RX1 yX1_widen yX1_widen, Cond.code yX1_widen cX1_widen 2 none, Cond.methodLink RL 98 yX3_undo, Cond.instanceMethod yX3_undo, Cond.selects RX3 yX3_undo yX3_undo, Cond.code yX3_undo cX3_undo 1 (some .int)]
set_option maxRecDepth 20000 in
theorem wsL_law0_r14_c1_in : ∀ w ∈ wsL_law0_r14_c1, w ∈ lw_tbl := by decide +kernel
def wsL_law0_r14_c2 : List Cond := [Cond.methodLink RL 99 yX2_drawn, Cond.instanceMethod yX2_drawn, Cond.selects RX2 yX2_drawn yX2_drawn, Cond.code yX2_drawn cX2_drawn 1 (some .int), Cond.methodLink RL 102 yX3_drawn, Cond.instanceMethod yX3_drawn, Cond.selects RX3 yX3_drawn yX3_drawn]
set_option maxRecDepth 20000 in
theorem wsL_law0_r14_c2_in : ∀ w ∈ wsL_law0_r14_c2, w ∈ lw_tbl := by decide +kernel
def wsL_law0_r14_c3 : List Cond := [Cond.code yX3_drawn cX3_drawn 1 (some .int), Cond.methodLink RL 103 yX2_pot, Cond.methodLink RL 106 yX3_pot]
set_option maxRecDepth 20000 in
theorem wsL_law0_r14_c3_in : ∀ w ∈ wsL_law0_r14_c3, w ∈ lw_tbl := by decide +kernel
theorem wsL_law0_r14_in : ∀ w ∈ wsL_law0_r14, w ∈ lw_tbl := fun w h => (fun h => (List.mem_append.mp h).elim (fun h => wsL_law0_r14_c0_in w h) (fun h => (List.mem_append.mp h).elim (fun h => wsL_law0_r14_c1_in w h) (fun h => (List.mem_append.mp h).elim (fun h => wsL_law0_r14_c2_in w h) (fun h => wsL_law0_r14_c3_in w h)))) (show w ∈ wsL_law0_r14_c0 ++ (wsL_law0_r14_c1 ++ (wsL_law0_r14_c2 ++ (wsL_law0_r14_c3))) from h)
def wsL_law0_r15_c0 : List Cond := [Cond.instanceMethod yX3_pot, Cond.selects RX3 yX3_pot yX3_pot, Cond.code yX3_pot cX3_pot 1 (some .int), Cond.methodLink RL 107 yX2_left, Cond.instanceMethod yX2_left, Cond.selects RX2 yX2_left yX2_left, Cond.code yX2_left cX2_left 2 (some .int)]
set_option maxRecDepth 20000 in
theorem wsL_law0_r15_c0_in : ∀ w ∈ wsL_law0_r15_c0, w ∈ lw_tbl := by decide +kernel
def wsL_law0_r15_c1 : List Cond := [Cond.methodLink RL 110 yX3_left, Cond.instanceMethod yX3_left, Cond.selects RX3 yX3_left yX3_left, Cond.code yX3_left cX3_left 1 (some .int), Cond.methodLink RL 111 yL_ballAt, Cond.static yL_ballAt, Cond.codeWith yL_ballAt cL_ballAt 4 (some .int) [(0, 9, 12, 18)]]
set_option maxRecDepth 20000 in
theorem wsL_law0_r15_c1_in : ∀ w ∈ wsL_law0_r15_c1, w ∈ lw_tbl := by decide +kernel
def wsL_law0_r15_c2 : List Cond := [Cond.methodLink RL 40 yX2_ballAt, Cond.instanceMethod yX2_ballAt, Cond.selects RX2 yX2_ballAt yX2_ballAt, Cond.code yX2_ballAt cX2_ballAt 3 (some .int), Cond.methodLink RL 113 yX3_ballAt, Cond.instanceMethod yX3_ballAt, Cond.selects RX3 yX3_ballAt yX3_ballAt]
set_option maxRecDepth 20000 in
theorem wsL_law0_r15_c2_in : ∀ w ∈ wsL_law0_r15_c2, w ∈ lw_tbl := by decide +kernel
def wsL_law0_r15_c3 : List Cond := [Cond.code yX3_ballAt cX3_ballAt 2 (some .int), Cond.methodLink RL 114 yL_groupOf, Cond.static yL_groupOf]
set_option maxRecDepth 20000 in
theorem wsL_law0_r15_c3_in : ∀ w ∈ wsL_law0_r15_c3, w ∈ lw_tbl := by decide +kernel
theorem wsL_law0_r15_in : ∀ w ∈ wsL_law0_r15, w ∈ lw_tbl := fun w h => (fun h => (List.mem_append.mp h).elim (fun h => wsL_law0_r15_c0_in w h) (fun h => (List.mem_append.mp h).elim (fun h => wsL_law0_r15_c1_in w h) (fun h => (List.mem_append.mp h).elim (fun h => wsL_law0_r15_c2_in w h) (fun h => wsL_law0_r15_c3_in w h)))) (show w ∈ wsL_law0_r15_c0 ++ (wsL_law0_r15_c1 ++ (wsL_law0_r15_c2 ++ (wsL_law0_r15_c3))) from h)
def wsL_law0_r16_c0 : List Cond := [Cond.codeWith yL_groupOf cL_groupOf 4 (some .int) [(0, 9, 12, 18)], Cond.methodLink RL 43 yX2_groupOf, Cond.instanceMethod yX2_groupOf, Cond.selects RX2 yX2_groupOf yX2_groupOf, Cond.code yX2_groupOf cX2_groupOf 2 (some .int), Cond.methodLink RL 116 yX3_groupOf, Cond.instanceMethod yX3_groupOf]
set_option maxRecDepth 20000 in
theorem wsL_law0_r16_c0_in : ∀ w ∈ wsL_law0_r16_c0, w ∈ lw_tbl := by decide +kernel
def wsL_law0_r16_c1 : List Cond := [Cond.selects RX3 yX3_groupOf yX3_groupOf, Cond.code yX3_groupOf cX3_groupOf 2 (some .int), Cond.methodLink RL 117 yL_teamAt, Cond.static yL_teamAt, Cond.codeWith yL_teamAt cL_teamAt 5 (some .int) [(0, 10, 13, 18)], Cond.methodLink RL 46 yX2_teamAt, Cond.instanceMethod yX2_teamAt]
set_option maxRecDepth 20000 in
theorem wsL_law0_r16_c1_in : ∀ w ∈ wsL_law0_r16_c1, w ∈ lw_tbl := by decide +kernel
def wsL_law0_r16_c2 : List Cond := [Cond.selects RX2 yX2_teamAt yX2_teamAt, Cond.code yX2_teamAt cX2_teamAt 5 (some .int), Cond.methodLink RX2 139 yX0_hasGroup, Cond.instanceMethod yX0_hasGroup, Cond.selects RX0 yX0_hasGroup yX0_hasGroup, Cond.code yX0_hasGroup cX0_hasGroup 2 (some .boolean), Cond.methodLink RX2 142 yX0_hasPot]
set_option maxRecDepth 20000 in
theorem wsL_law0_r16_c2_in : ∀ w ∈ wsL_law0_r16_c2, w ∈ lw_tbl := by decide +kernel
def wsL_law0_r16_c3 : List Cond := [Cond.instanceMethod yX0_hasPot, Cond.selects RX0 yX0_hasPot yX0_hasPot, Cond.code yX0_hasPot cX0_hasPot 2 (some .boolean)]
set_option maxRecDepth 20000 in
theorem wsL_law0_r16_c3_in : ∀ w ∈ wsL_law0_r16_c3, w ∈ lw_tbl := by decide +kernel
theorem wsL_law0_r16_in : ∀ w ∈ wsL_law0_r16, w ∈ lw_tbl := fun w h => (fun h => (List.mem_append.mp h).elim (fun h => wsL_law0_r16_c0_in w h) (fun h => (List.mem_append.mp h).elim (fun h => wsL_law0_r16_c1_in w h) (fun h => (List.mem_append.mp h).elim (fun h => wsL_law0_r16_c2_in w h) (fun h => wsL_law0_r16_c3_in w h)))) (show w ∈ wsL_law0_r16_c0 ++ (wsL_law0_r16_c1 ++ (wsL_law0_r16_c2 ++ (wsL_law0_r16_c3))) from h)
def wsL_law0_r17_c0 : List Cond := [Cond.methodLink RL 119 yX3_teamAt, Cond.instanceMethod yX3_teamAt, Cond.selects RX3 yX3_teamAt yX3_teamAt, Cond.code yX3_teamAt cX3_teamAt 4 (some .int), Cond.methodLink RX3 114 yX3_isGroup, Cond.instanceMethod yX3_isGroup, Cond.selects RX3 yX3_isGroup yX3_isGroup]
set_option maxRecDepth 20000 in
theorem wsL_law0_r17_c0_in : ∀ w ∈ wsL_law0_r17_c0, w ∈ lw_tbl := by decide +kernel
def wsL_law0_r17_c1 : List Cond := [Cond.code yX3_isGroup cX3_isGroup 2 (some .boolean), Cond.methodLink RL 120 yX2_results, Cond.instanceMethod yX2_results, Cond.selects RX2 yX2_results yX2_results, Cond.code yX2_results cX2_results 1 (some .int), Cond.methodLink RL 123 yX3_results, Cond.instanceMethod yX3_results]
set_option maxRecDepth 20000 in
theorem wsL_law0_r17_c1_in : ∀ w ∈ wsL_law0_r17_c1, w ∈ lw_tbl := by decide +kernel
def wsL_law0_r17_c2 : List Cond := [Cond.selects RX3 yX3_results yX3_results, Cond.code yX3_results cX3_results 1 (some .int), Cond.methodLink RL 124 yL_fits, Cond.static yL_fits, Cond.codeWith yL_fits cL_fits 5 (some .int) [(0, 17, 20, 18)], Cond.methodLink RL 49 yX2_fits, Cond.instanceMethod yX2_fits]
set_option maxRecDepth 20000 in
theorem wsL_law0_r17_c2_in : ∀ w ∈ wsL_law0_r17_c2, w ∈ lw_tbl := by decide +kernel
def wsL_law0_r17_c3 : List Cond := [Cond.selects RX2 yX2_fits yX2_fits, Cond.code yX2_fits cX2_fits 3 (some .boolean), Cond.methodLink RX2 150 yX2_requireTeamAndGroup]
set_option maxRecDepth 20000 in
theorem wsL_law0_r17_c3_in : ∀ w ∈ wsL_law0_r17_c3, w ∈ lw_tbl := by decide +kernel
theorem wsL_law0_r17_in : ∀ w ∈ wsL_law0_r17, w ∈ lw_tbl := fun w h => (fun h => (List.mem_append.mp h).elim (fun h => wsL_law0_r17_c0_in w h) (fun h => (List.mem_append.mp h).elim (fun h => wsL_law0_r17_c1_in w h) (fun h => (List.mem_append.mp h).elim (fun h => wsL_law0_r17_c2_in w h) (fun h => wsL_law0_r17_c3_in w h)))) (show w ∈ wsL_law0_r17_c0 ++ (wsL_law0_r17_c1 ++ (wsL_law0_r17_c2 ++ (wsL_law0_r17_c3))) from h)
def wsL_law0_r18_c0 : List Cond := [Cond.instanceMethod yX2_requireTeamAndGroup, Cond.selects RX2 yX2_requireTeamAndGroup yX2_requireTeamAndGroup, Cond.code yX2_requireTeamAndGroup cX2_requireTeamAndGroup 3 none, Cond.methodLink RX2 153 yX1_countInGroup, Cond.instanceMethod yX1_countInGroup, Cond.selects RX1 yX1_countInGroup yX1_countInGroup, Cond.code yX1_countInGroup cX1_countInGroup 5 (some .int)]
set_option maxRecDepth 20000 in
theorem wsL_law0_r18_c0_in : ∀ w ∈ wsL_law0_r18_c0, w ∈ lw_tbl := by decide +kernel
def wsL_law0_r18_c1 : List Cond := [Cond.methodLink RL 126 yX3_fits, Cond.instanceMethod yX3_fits, Cond.selects RX3 yX3_fits yX3_fits, Cond.code yX3_fits cX3_fits 3 (some .boolean), Cond.methodLink RX3 117 yX3_evenly, Cond.instanceMethod yX3_evenly, Cond.selects RX3 yX3_evenly yX3_evenly]
set_option maxRecDepth 20000 in
theorem wsL_law0_r18_c1_in : ∀ w ∈ wsL_law0_r18_c1, w ∈ lw_tbl := by decide +kernel
def wsL_law0_r18_c2 : List Cond := [Cond.code yX3_evenly cX3_evenly 3 (some .int), Cond.methodLink RX3 120 yX3_isPlace, Cond.instanceMethod yX3_isPlace, Cond.selects RX3 yX3_isPlace yX3_isPlace, Cond.code yX3_isPlace cX3_isPlace 3 (some .boolean), Cond.methodLink RL 127 yL_forced, Cond.static yL_forced]
set_option maxRecDepth 20000 in
theorem wsL_law0_r18_c2_in : ∀ w ∈ wsL_law0_r18_c2, w ∈ lw_tbl := by decide +kernel
def wsL_law0_r18_c3 : List Cond := [Cond.codeWith yL_forced cL_forced 4 (some .int) [(0, 9, 12, 18)], Cond.methodLink RL 53 yX2_forced, Cond.instanceMethod yX2_forced]
set_option maxRecDepth 20000 in
theorem wsL_law0_r18_c3_in : ∀ w ∈ wsL_law0_r18_c3, w ∈ lw_tbl := by decide +kernel
theorem wsL_law0_r18_in : ∀ w ∈ wsL_law0_r18, w ∈ lw_tbl := fun w h => (fun h => (List.mem_append.mp h).elim (fun h => wsL_law0_r18_c0_in w h) (fun h => (List.mem_append.mp h).elim (fun h => wsL_law0_r18_c1_in w h) (fun h => (List.mem_append.mp h).elim (fun h => wsL_law0_r18_c2_in w h) (fun h => wsL_law0_r18_c3_in w h)))) (show w ∈ wsL_law0_r18_c0 ++ (wsL_law0_r18_c1 ++ (wsL_law0_r18_c2 ++ (wsL_law0_r18_c3))) from h)
def wsL_law0_r19_c0 : List Cond := [Cond.selects RX2 yX2_forced yX2_forced, Cond.code yX2_forced cX2_forced 5 (some .int), Cond.methodLink RL 129 yX3_forced, Cond.instanceMethod yX3_forced, Cond.selects RX3 yX3_forced yX3_forced, Cond.code yX3_forced cX3_forced 3 (some .int), Cond.methodLink RL 130 yL_evenly]
set_option maxRecDepth 20000 in
theorem wsL_law0_r19_c0_in : ∀ w ∈ wsL_law0_r19_c0, w ∈ lw_tbl := by decide +kernel
def wsL_law0_r19_c1 : List Cond := [Cond.static yL_evenly, Cond.codeWith yL_evenly cL_evenly 5 (some .int) [(0, 10, 13, 18)], Cond.methodLink RL 56 yX2_evenly, Cond.instanceMethod yX2_evenly, Cond.selects RX2 yX2_evenly yX2_evenly, Cond.code yX2_evenly cX2_evenly 3 (some .int), Cond.methodLink RL 132 yX3_evenly]
set_option maxRecDepth 20000 in
theorem wsL_law0_r19_c1_in : ∀ w ∈ wsL_law0_r19_c1, w ∈ lw_tbl := by decide +kernel
def wsL_law0_r19_c2 : List Cond := [Cond.methodLink RL 133 yX2_orders, Cond.instanceMethod yX2_orders, Cond.selects RX2 yX2_orders yX2_orders, Cond.code yX2_orders cX2_orders 3 (some .int), Cond.methodLink RX2 160 yX2_factorial, Cond.static yX2_factorial, Cond.code yX2_factorial cX2_factorial 3 (some .int)]
set_option maxRecDepth 20000 in
theorem wsL_law0_r19_c2_in : ∀ w ∈ wsL_law0_r19_c2, w ∈ lw_tbl := by decide +kernel
def wsL_law0_r19_c3 : List Cond := [Cond.methodLink RL 136 yX3_orders, Cond.instanceMethod yX3_orders, Cond.selects RX3 yX3_orders yX3_orders]
set_option maxRecDepth 20000 in
theorem wsL_law0_r19_c3_in : ∀ w ∈ wsL_law0_r19_c3, w ∈ lw_tbl := by decide +kernel
theorem wsL_law0_r19_in : ∀ w ∈ wsL_law0_r19, w ∈ lw_tbl := fun w h => (fun h => (List.mem_append.mp h).elim (fun h => wsL_law0_r19_c0_in w h) (fun h => (List.mem_append.mp h).elim (fun h => wsL_law0_r19_c1_in w h) (fun h => (List.mem_append.mp h).elim (fun h => wsL_law0_r19_c2_in w h) (fun h => wsL_law0_r19_c3_in w h)))) (show w ∈ wsL_law0_r19_c0 ++ (wsL_law0_r19_c1 ++ (wsL_law0_r19_c2 ++ (wsL_law0_r19_c3))) from h)
def wsL_law0_r20_c0 : List Cond := [Cond.code yX3_orders cX3_orders 1 (some .int), Cond.methodLink RX3 123 yX3_orderMany, Cond.instanceMethod yX3_orderMany, Cond.selects RX3 yX3_orderMany yX3_orderMany, Cond.code yX3_orderMany cX3_orderMany 5 (some .int), Cond.methodLink RL 137 yL_chances, Cond.static yL_chances]
set_option maxRecDepth 20000 in
theorem wsL_law0_r20_c0_in : ∀ w ∈ wsL_law0_r20_c0, w ∈ lw_tbl := by decide +kernel
def wsL_law0_r20_c1 : List Cond := [Cond.codeWith yL_chances cL_chances 5 (some .int) [(0, 10, 13, 18)], Cond.methodLink RL 59 yX2_chances, Cond.instanceMethod yX2_chances, Cond.selects RX2 yX2_chances yX2_chances, Cond.code yX2_chances cX2_chances 3 (some .int), Cond.methodLink RX2 163 yX2_endResults, Cond.instanceMethod yX2_endResults]
set_option maxRecDepth 20000 in
theorem wsL_law0_r20_c1_in : ∀ w ∈ wsL_law0_r20_c1, w ∈ lw_tbl := by decide +kernel
def wsL_law0_r20_c2 : List Cond := [Cond.selects RX2 yX2_endResults yX2_endResults, Cond.code yX2_endResults cX2_endResults 1 (some (.object "CupDraw$ResultList")), Cond.methodLink RX2 196 yX2_followOrders, Cond.instanceMethod yX2_followOrders, Cond.selects RX2 yX2_followOrders yX2_followOrders, Cond.code yX2_followOrders cX2_followOrders 4 none, Cond.methodLink RX2 199 yX1_first]
set_option maxRecDepth 20000 in
theorem wsL_law0_r20_c2_in : ∀ w ∈ wsL_law0_r20_c2, w ∈ lw_tbl := by decide +kernel
def wsL_law0_r20_c3 : List Cond := [Cond.instanceMethod yX1_first, Cond.selects RX1 yX1_first yX1_first, Cond.code yX1_first cX1_first 1 (some .int)]
set_option maxRecDepth 20000 in
theorem wsL_law0_r20_c3_in : ∀ w ∈ wsL_law0_r20_c3, w ∈ lw_tbl := by decide +kernel
theorem wsL_law0_r20_in : ∀ w ∈ wsL_law0_r20, w ∈ lw_tbl := fun w h => (fun h => (List.mem_append.mp h).elim (fun h => wsL_law0_r20_c0_in w h) (fun h => (List.mem_append.mp h).elim (fun h => wsL_law0_r20_c1_in w h) (fun h => (List.mem_append.mp h).elim (fun h => wsL_law0_r20_c2_in w h) (fun h => wsL_law0_r20_c3_in w h)))) (show w ∈ wsL_law0_r20_c0 ++ (wsL_law0_r20_c1 ++ (wsL_law0_r20_c2 ++ (wsL_law0_r20_c3))) from h)
def wsL_law0_r21_c0 : List Cond := [Cond.methodLink RX2 202 yX1_add, Cond.methodLink RX2 205 yX2_left, Cond.methodLink RX2 208 yX2_followBall, Cond.instanceMethod yX2_followBall, Cond.selects RX2 yX2_followBall yX2_followBall, Cond.code yX2_followBall cX2_followBall 3 none, Cond.methodLink RL 139 yX3_chances]
set_option maxRecDepth 20000 in
theorem wsL_law0_r21_c0_in : ∀ w ∈ wsL_law0_r21_c0, w ∈ lw_tbl := by decide +kernel
def wsL_law0_r21_c1 : List Cond := [Cond.instanceMethod yX3_chances, Cond.selects RX3 yX3_chances yX3_chances, Cond.code yX3_chances cX3_chances 6 (some .int), Cond.methodLink RX3 129 yX3_follow, Cond.instanceMethod yX3_follow, Cond.selects RX3 yX3_follow yX3_follow, Cond.code yX3_follow cX3_follow 8 none]
set_option maxRecDepth 20000 in
theorem wsL_law0_r21_c1_in : ∀ w ∈ wsL_law0_r21_c1, w ∈ lw_tbl := by decide +kernel
def wsL_law0_r21_c2 : List Cond := [Cond.methodLink RX3 126 yX3_lowestLeft, Cond.instanceMethod yX3_lowestLeft, Cond.selects RX3 yX3_lowestLeft yX3_lowestLeft, Cond.code yX3_lowestLeft cX3_lowestLeft 5 (some .int), Cond.methodLink RL 140 yL_pairings, Cond.static yL_pairings, Cond.codeWith yL_pairings cL_pairings 5 (some .int) [(0, 10, 13, 18)]]
set_option maxRecDepth 20000 in
theorem wsL_law0_r21_c2_in : ∀ w ∈ wsL_law0_r21_c2, w ∈ lw_tbl := by decide +kernel
def wsL_law0_r21_c3 : List Cond := [Cond.methodLink RL 62 yX2_pairings, Cond.instanceMethod yX2_pairings, Cond.selects RX2 yX2_pairings yX2_pairings]
set_option maxRecDepth 20000 in
theorem wsL_law0_r21_c3_in : ∀ w ∈ wsL_law0_r21_c3, w ∈ lw_tbl := by decide +kernel
theorem wsL_law0_r21_in : ∀ w ∈ wsL_law0_r21, w ∈ lw_tbl := fun w h => (fun h => (List.mem_append.mp h).elim (fun h => wsL_law0_r21_c0_in w h) (fun h => (List.mem_append.mp h).elim (fun h => wsL_law0_r21_c1_in w h) (fun h => (List.mem_append.mp h).elim (fun h => wsL_law0_r21_c2_in w h) (fun h => wsL_law0_r21_c3_in w h)))) (show w ∈ wsL_law0_r21_c0 ++ (wsL_law0_r21_c1 ++ (wsL_law0_r21_c2 ++ (wsL_law0_r21_c3))) from h)
def wsL_law0_r22_c0 : List Cond := [Cond.code yX2_pairings cX2_pairings 3 (some .int), Cond.methodLink RX2 166 yX1_countTogether, Cond.instanceMethod yX1_countTogether, Cond.selects RX1 yX1_countTogether yX1_countTogether, Cond.code yX1_countTogether cX1_countTogether 5 (some .int), Cond.methodLink RL 142 yX3_pairings, Cond.instanceMethod yX3_pairings]
set_option maxRecDepth 20000 in
theorem wsL_law0_r22_c0_in : ∀ w ∈ wsL_law0_r22_c0, w ∈ lw_tbl := by decide +kernel
def wsL_law0_r22_c1 : List Cond := [Cond.selects RX3 yX3_pairings yX3_pairings, Cond.code yX3_pairings cX3_pairings 6 (some .int)]
set_option maxRecDepth 20000 in
theorem wsL_law0_r22_c1_in : ∀ w ∈ wsL_law0_r22_c1, w ∈ lw_tbl := by decide +kernel
theorem wsL_law0_r22_in : ∀ w ∈ wsL_law0_r22, w ∈ lw_tbl := fun w h => (fun h => (List.mem_append.mp h).elim (fun h => wsL_law0_r22_c0_in w h) (fun h => wsL_law0_r22_c1_in w h)) (show w ∈ wsL_law0_r22_c0 ++ (wsL_law0_r22_c1) from h)
theorem wsL_law_in0 : ∀ w ∈ wsL_law0, w ∈ lw_tbl := fun w h => (fun h => (List.mem_append.mp h).elim (fun h => wsL_law0_r1_in w h) (fun h => (List.mem_append.mp h).elim (fun h => wsL_law0_r2_in w h) (fun h => (List.mem_append.mp h).elim (fun h => wsL_law0_r3_in w h) (fun h => (List.mem_append.mp h).elim (fun h => wsL_law0_r4_in w h) (fun h => (List.mem_append.mp h).elim (fun h => wsL_law0_r5_in w h) (fun h => (List.mem_append.mp h).elim (fun h => wsL_law0_r6_in w h) (fun h => (List.mem_append.mp h).elim (fun h => wsL_law0_r7_in w h) (fun h => (List.mem_append.mp h).elim (fun h => wsL_law0_r8_in w h) (fun h => (List.mem_append.mp h).elim (fun h => wsL_law0_r9_in w h) (fun h => (List.mem_append.mp h).elim (fun h => wsL_law0_r10_in w h) (fun h => (List.mem_append.mp h).elim (fun h => wsL_law0_r11_in w h) (fun h => (List.mem_append.mp h).elim (fun h => wsL_law0_r12_in w h) (fun h => (List.mem_append.mp h).elim (fun h => wsL_law0_r13_in w h) (fun h => (List.mem_append.mp h).elim (fun h => wsL_law0_r14_in w h) (fun h => (List.mem_append.mp h).elim (fun h => wsL_law0_r15_in w h) (fun h => (List.mem_append.mp h).elim (fun h => wsL_law0_r16_in w h) (fun h => (List.mem_append.mp h).elim (fun h => wsL_law0_r17_in w h) (fun h => (List.mem_append.mp h).elim (fun h => wsL_law0_r18_in w h) (fun h => (List.mem_append.mp h).elim (fun h => wsL_law0_r19_in w h) (fun h => (List.mem_append.mp h).elim (fun h => wsL_law0_r20_in w h) (fun h => (List.mem_append.mp h).elim (fun h => wsL_law0_r21_in w h) (fun h => wsL_law0_r22_in w h)))))))))))))))))))))) h
theorem wsL_law_x0 : ∀ w ∈ (vx_atS RX2 44 "java/lang/IllegalArgumentException" ["java/lang/RuntimeException", "java/lang/Exception"]).filter goodWord, w ∈ lw_tbl := by decide +kernel
theorem wsL_law_x1 : ∀ w ∈ (vx_atS RX2 62 "java/lang/IndexOutOfBoundsException" ["java/lang/RuntimeException", "java/lang/Exception"]).filter goodWord, w ∈ lw_tbl := by decide +kernel
theorem wsL_law_x2 : ∀ w ∈ (vx_atS RX2 106 "java/lang/IllegalStateException" ["java/lang/RuntimeException", "java/lang/Exception"]).filter goodWord, w ∈ lw_tbl := by decide +kernel
theorem wsL_law_in : ∀ w ∈ wsL_law, w ∈ lw_tbl := fun w h => (List.mem_append.mp h).elim (fun h => (List.mem_append.mp h).elim (fun h => (List.mem_append.mp h).elim (fun h => wsL_law_in0 w h) (fun h => wsL_law_x0 w h)) (fun h => wsL_law_x1 w h)) (fun h => wsL_law_x2 w h)
theorem inlX0 : ∀ w ∈ wsX00, w ∈ wsL_law := fun _ h => List.mem_append_left _ (List.mem_append_left _ (List.mem_append_left _ (List.mem_append_left _ (List.mem_append_left _ (List.mem_append_right _ h)))))
theorem inX0 : ∀ w ∈ wsX00, w ∈ lw_tbl := fun w h => wsL_law_in w (inlX0 w h)
theorem inlX1 : ∀ w ∈ wsX10, w ∈ wsL_law := fun _ h => List.mem_append_left _ (List.mem_append_left _ (List.mem_append_left _ (List.mem_append_left _ (List.mem_append_right _ h))))
theorem inX1 : ∀ w ∈ wsX10, w ∈ lw_tbl := fun w h => wsL_law_in w (inlX1 w h)
theorem inlX2 : ∀ w ∈ wsX20, w ∈ wsL_law := fun _ h => List.mem_append_left _ (List.mem_append_left _ (List.mem_append_left _ (List.mem_append_left _ (List.mem_append_left _ (List.mem_append_left _ (List.mem_append_left _ (List.mem_append_right _ h)))))))
theorem inX2 : ∀ w ∈ wsX20, w ∈ lw_tbl := fun w h => wsL_law_in w (inlX2 w h)
theorem inlX3 : ∀ w ∈ wsX30, w ∈ wsL_law := fun _ h => List.mem_append_left _ (List.mem_append_left _ (List.mem_append_left _ (List.mem_append_left _ (List.mem_append_left _ (List.mem_append_left _ (List.mem_append_right _ h))))))
theorem inX3 : ∀ w ∈ wsX30, w ∈ lw_tbl := fun w h => wsL_law_in w (inlX3 w h)
theorem inJ0 : ∀ w ∈ wsJ00, w ∈ lw_tbl := by decide +kernel
end
section
theorem dX0_init_0 : decode cX0_init 0 = .ok (.aload_n 0, 1) := by decide +kernel
theorem dX0_init_1 : decode cX0_init 1 = .ok (.invokespecial 3, 3) := by decide +kernel
theorem dX0_init_4 : decode cX0_init 4 = .ok (.aload_n 0, 1) := by decide +kernel
theorem dX0_init_5 : decode cX0_init 5 = .ok (.bipush 9, 2) := by decide +kernel
theorem dX0_init_7 : decode cX0_init 7 = .ok (.newarray .int, 2) := by decide +kernel
theorem dX0_init_9 : decode cX0_init 9 = .ok (.putfield 9, 3) := by decide +kernel
theorem dX0_init_12 : decode cX0_init 12 = .ok (.aload_n 0, 1) := by decide +kernel
theorem dX0_init_13 : decode cX0_init 13 = .ok (.bipush 6, 2) := by decide +kernel
theorem dX0_init_15 : decode cX0_init 15 = .ok (.newarray .int, 2) := by decide +kernel
theorem dX0_init_17 : decode cX0_init 17 = .ok (.putfield 15, 3) := by decide +kernel
theorem dX0_init_20 : decode cX0_init 20 = .ok (.aload_n 0, 1) := by decide +kernel
theorem dX0_init_21 : decode cX0_init 21 = .ok (.bipush 9, 2) := by decide +kernel
theorem dX0_init_23 : decode cX0_init 23 = .ok (.newarray .int, 2) := by decide +kernel
theorem dX0_init_25 : decode cX0_init 25 = .ok (.putfield 18, 3) := by decide +kernel
theorem dX0_init_28 : decode cX0_init 28 = .ok (.aload_n 0, 1) := by decide +kernel
theorem dX0_init_29 : decode cX0_init 29 = .ok (.bipush 9, 2) := by decide +kernel
theorem dX0_init_31 : decode cX0_init 31 = .ok (.newarray .int, 2) := by decide +kernel
theorem dX0_init_33 : decode cX0_init 33 = .ok (.putfield 21, 3) := by decide +kernel
theorem dX0_init_36 : decode cX0_init 36 = .ok (.aload_n 0, 1) := by decide +kernel
theorem dX0_init_37 : decode cX0_init 37 = .ok (.bipush 9, 2) := by decide +kernel
theorem dX0_init_39 : decode cX0_init 39 = .ok (.newarray .int, 2) := by decide +kernel
theorem dX0_init_41 : decode cX0_init 41 = .ok (.putfield 24, 3) := by decide +kernel
theorem dX0_init_44 : decode cX0_init 44 = .ok (.aload_n 0, 1) := by decide +kernel
theorem dX0_init_45 : decode cX0_init 45 = .ok (.iconst 4, 1) := by decide +kernel
theorem dX0_init_46 : decode cX0_init 46 = .ok (.newarray .int, 2) := by decide +kernel
theorem dX0_init_48 : decode cX0_init 48 = .ok (.putfield 27, 3) := by decide +kernel
theorem dX0_init_51 : decode cX0_init 51 = .ok (.return_, 1) := by decide +kernel
set_option maxRecDepth 20000 in
theorem ggX0_reset_X0_resetPot : GoodIn wsX0_reset wsX0_resetPot := goodIn_r _ [12, 1, 13, 14, 15, 16, 17, 18, 19, 20, 21, 22] (by decide +kernel) (by decide +kernel)
set_option maxRecDepth 20000 in
theorem gX0_reset_X0_resetPot : GoodIn wsX0_reset (wsV RX0 40 RX0 yX0_resetPot wsX0_resetPot) := goodIn_app (goodIn_of _ (by decide +kernel)) ggX0_reset_X0_resetPot
theorem dX0_reset_0 : decode cX0_reset 0 = .ok (.aload_n 0, 1) := by decide +kernel
theorem dX0_reset_1 : decode cX0_reset 1 = .ok (.iload_n 1, 1) := by decide +kernel
theorem dX0_reset_2 : decode cX0_reset 2 = .ok (.putfield 30, 3) := by decide +kernel
theorem dX0_reset_5 : decode cX0_reset 5 = .ok (.aload_n 0, 1) := by decide +kernel
theorem dX0_reset_6 : decode cX0_reset 6 = .ok (.iload_n 2, 1) := by decide +kernel
theorem dX0_reset_7 : decode cX0_reset 7 = .ok (.putfield 34, 3) := by decide +kernel
theorem dX0_reset_10 : decode cX0_reset 10 = .ok (.aload_n 0, 1) := by decide +kernel
theorem dX0_reset_11 : decode cX0_reset 11 = .ok (.iload_n 1, 1) := by decide +kernel
theorem dX0_reset_12 : decode cX0_reset 12 = .ok (.iload_n 2, 1) := by decide +kernel
theorem dX0_reset_13 : decode cX0_reset 13 = .ok (.imul, 1) := by decide +kernel
theorem dX0_reset_14 : decode cX0_reset 14 = .ok (.putfield 37, 3) := by decide +kernel
theorem dX0_reset_17 : decode cX0_reset 17 = .ok (.iconst 0, 1) := by decide +kernel
theorem dX0_reset_18 : decode cX0_reset 18 = .ok (.istore_n 3, 1) := by decide +kernel
theorem dX0_reset_19 : decode cX0_reset 19 = .ok (.iload_n 3, 1) := by decide +kernel
theorem dX0_reset_20 : decode cX0_reset 20 = .ok (.bipush 6, 2) := by decide +kernel
theorem dX0_reset_22 : decode cX0_reset 22 = .ok (.if_icmp .ge 16, 3) := by decide +kernel
theorem dX0_reset_25 : decode cX0_reset 25 = .ok (.aload_n 0, 1) := by decide +kernel
theorem dX0_reset_26 : decode cX0_reset 26 = .ok (.getfield 15, 3) := by decide +kernel
theorem dX0_reset_29 : decode cX0_reset 29 = .ok (.iload_n 3, 1) := by decide +kernel
theorem dX0_reset_30 : decode cX0_reset 30 = .ok (.iconst 3, 1) := by decide +kernel
theorem dX0_reset_31 : decode cX0_reset 31 = .ok (.iastore, 1) := by decide +kernel
theorem dX0_reset_32 : decode cX0_reset 32 = .ok (.iinc 3 1, 3) := by decide +kernel
theorem dX0_reset_35 : decode cX0_reset 35 = .ok (.goto (-16), 3) := by decide +kernel
theorem dX0_reset_38 : decode cX0_reset 38 = .ok (.iconst 0, 1) := by decide +kernel
theorem dX0_reset_39 : decode cX0_reset 39 = .ok (.istore_n 3, 1) := by decide +kernel
theorem dX0_reset_40 : decode cX0_reset 40 = .ok (.iload_n 3, 1) := by decide +kernel
theorem dX0_reset_41 : decode cX0_reset 41 = .ok (.bipush 9, 2) := by decide +kernel
theorem dX0_reset_43 : decode cX0_reset 43 = .ok (.if_icmp .ge 30, 3) := by decide +kernel
theorem dX0_reset_46 : decode cX0_reset 46 = .ok (.aload_n 0, 1) := by decide +kernel
theorem dX0_reset_47 : decode cX0_reset 47 = .ok (.getfield 9, 3) := by decide +kernel
theorem dX0_reset_50 : decode cX0_reset 50 = .ok (.iload_n 3, 1) := by decide +kernel
theorem dX0_reset_51 : decode cX0_reset 51 = .ok (.iconst 0, 1) := by decide +kernel
theorem dX0_reset_52 : decode cX0_reset 52 = .ok (.iastore, 1) := by decide +kernel
theorem dX0_reset_53 : decode cX0_reset 53 = .ok (.aload_n 0, 1) := by decide +kernel
theorem dX0_reset_54 : decode cX0_reset 54 = .ok (.getfield 18, 3) := by decide +kernel
theorem dX0_reset_57 : decode cX0_reset 57 = .ok (.iload_n 3, 1) := by decide +kernel
theorem dX0_reset_58 : decode cX0_reset 58 = .ok (.iconst 0, 1) := by decide +kernel
theorem dX0_reset_59 : decode cX0_reset 59 = .ok (.iastore, 1) := by decide +kernel
theorem dX0_reset_60 : decode cX0_reset 60 = .ok (.aload_n 0, 1) := by decide +kernel
theorem dX0_reset_61 : decode cX0_reset 61 = .ok (.getfield 21, 3) := by decide +kernel
theorem dX0_reset_64 : decode cX0_reset 64 = .ok (.iload_n 3, 1) := by decide +kernel
theorem dX0_reset_65 : decode cX0_reset 65 = .ok (.iconst 0, 1) := by decide +kernel
theorem dX0_reset_66 : decode cX0_reset 66 = .ok (.iastore, 1) := by decide +kernel
theorem dX0_reset_67 : decode cX0_reset 67 = .ok (.iinc 3 1, 3) := by decide +kernel
theorem dX0_reset_70 : decode cX0_reset 70 = .ok (.goto (-30), 3) := by decide +kernel
theorem dX0_reset_73 : decode cX0_reset 73 = .ok (.iconst 0, 1) := by decide +kernel
theorem dX0_reset_74 : decode cX0_reset 74 = .ok (.istore_n 3, 1) := by decide +kernel
theorem dX0_reset_75 : decode cX0_reset 75 = .ok (.iload_n 3, 1) := by decide +kernel
theorem dX0_reset_76 : decode cX0_reset 76 = .ok (.aload_n 0, 1) := by decide +kernel
theorem dX0_reset_77 : decode cX0_reset 77 = .ok (.getfield 34, 3) := by decide +kernel
theorem dX0_reset_80 : decode cX0_reset 80 = .ok (.if_icmp .ge 19, 3) := by decide +kernel
theorem dX0_reset_83 : decode cX0_reset 83 = .ok (.aload_n 0, 1) := by decide +kernel
theorem dX0_reset_84 : decode cX0_reset 84 = .ok (.iload_n 3, 1) := by decide +kernel
theorem dX0_reset_85 : decode cX0_reset 85 = .ok (.aload_n 0, 1) := by decide +kernel
theorem dX0_reset_86 : decode cX0_reset 86 = .ok (.getfield 30, 3) := by decide +kernel
theorem dX0_reset_89 : decode cX0_reset 89 = .ok (.imul, 1) := by decide +kernel
theorem dX0_reset_90 : decode cX0_reset 90 = .ok (.invokevirtual 40, 3) := by decide +kernel
theorem dX0_reset_93 : decode cX0_reset 93 = .ok (.iinc 3 1, 3) := by decide +kernel
theorem dX0_reset_96 : decode cX0_reset 96 = .ok (.goto (-21), 3) := by decide +kernel
theorem dX0_reset_99 : decode cX0_reset 99 = .ok (.return_, 1) := by decide +kernel
theorem dX0_resetPot_0 : decode cX0_resetPot 0 = .ok (.iconst 1, 1) := by decide +kernel
theorem dX0_resetPot_1 : decode cX0_resetPot 1 = .ok (.aload_n 0, 1) := by decide +kernel
theorem dX0_resetPot_2 : decode cX0_resetPot 2 = .ok (.getfield 30, 3) := by decide +kernel
theorem dX0_resetPot_5 : decode cX0_resetPot 5 = .ok (.ishl, 1) := by decide +kernel
theorem dX0_resetPot_6 : decode cX0_resetPot 6 = .ok (.iconst 1, 1) := by decide +kernel
theorem dX0_resetPot_7 : decode cX0_resetPot 7 = .ok (.isub, 1) := by decide +kernel
theorem dX0_resetPot_8 : decode cX0_resetPot 8 = .ok (.iload_n 1, 1) := by decide +kernel
theorem dX0_resetPot_9 : decode cX0_resetPot 9 = .ok (.ishl, 1) := by decide +kernel
theorem dX0_resetPot_10 : decode cX0_resetPot 10 = .ok (.istore_n 2, 1) := by decide +kernel
theorem dX0_resetPot_11 : decode cX0_resetPot 11 = .ok (.iload_n 1, 1) := by decide +kernel
theorem dX0_resetPot_12 : decode cX0_resetPot 12 = .ok (.istore_n 3, 1) := by decide +kernel
theorem dX0_resetPot_13 : decode cX0_resetPot 13 = .ok (.iload_n 3, 1) := by decide +kernel
theorem dX0_resetPot_14 : decode cX0_resetPot 14 = .ok (.iload_n 1, 1) := by decide +kernel
theorem dX0_resetPot_15 : decode cX0_resetPot 15 = .ok (.aload_n 0, 1) := by decide +kernel
theorem dX0_resetPot_16 : decode cX0_resetPot 16 = .ok (.getfield 30, 3) := by decide +kernel
theorem dX0_resetPot_19 : decode cX0_resetPot 19 = .ok (.iadd, 1) := by decide +kernel
theorem dX0_resetPot_20 : decode cX0_resetPot 20 = .ok (.if_icmp .ge 16, 3) := by decide +kernel
theorem dX0_resetPot_23 : decode cX0_resetPot 23 = .ok (.aload_n 0, 1) := by decide +kernel
theorem dX0_resetPot_24 : decode cX0_resetPot 24 = .ok (.getfield 24, 3) := by decide +kernel
theorem dX0_resetPot_27 : decode cX0_resetPot 27 = .ok (.iload_n 3, 1) := by decide +kernel
theorem dX0_resetPot_28 : decode cX0_resetPot 28 = .ok (.iload_n 2, 1) := by decide +kernel
theorem dX0_resetPot_29 : decode cX0_resetPot 29 = .ok (.iastore, 1) := by decide +kernel
theorem dX0_resetPot_30 : decode cX0_resetPot 30 = .ok (.iinc 3 1, 3) := by decide +kernel
theorem dX0_resetPot_33 : decode cX0_resetPot 33 = .ok (.goto (-20), 3) := by decide +kernel
theorem dX0_resetPot_36 : decode cX0_resetPot 36 = .ok (.return_, 1) := by decide +kernel
theorem dX0_hasTeam_0 : decode cX0_hasTeam 0 = .ok (.iload_n 1, 1) := by decide +kernel
theorem dX0_hasTeam_1 : decode cX0_hasTeam 1 = .ok (.ifCond .lt 15, 3) := by decide +kernel
theorem dX0_hasTeam_4 : decode cX0_hasTeam 4 = .ok (.iload_n 1, 1) := by decide +kernel
theorem dX0_hasTeam_5 : decode cX0_hasTeam 5 = .ok (.aload_n 0, 1) := by decide +kernel
theorem dX0_hasTeam_6 : decode cX0_hasTeam 6 = .ok (.getfield 37, 3) := by decide +kernel
theorem dX0_hasTeam_9 : decode cX0_hasTeam 9 = .ok (.if_icmp .ge 7, 3) := by decide +kernel
theorem dX0_hasTeam_12 : decode cX0_hasTeam 12 = .ok (.iconst 1, 1) := by decide +kernel
theorem dX0_hasTeam_13 : decode cX0_hasTeam 13 = .ok (.goto 4, 3) := by decide +kernel
theorem dX0_hasTeam_16 : decode cX0_hasTeam 16 = .ok (.iconst 0, 1) := by decide +kernel
theorem dX0_hasTeam_17 : decode cX0_hasTeam 17 = .ok (.ireturn, 1) := by decide +kernel
theorem dX0_hasRegion_0 : decode cX0_hasRegion 0 = .ok (.iload_n 1, 1) := by decide +kernel
theorem dX0_hasRegion_1 : decode cX0_hasRegion 1 = .ok (.ifCond .lt 13, 3) := by decide +kernel
theorem dX0_hasRegion_4 : decode cX0_hasRegion 4 = .ok (.iload_n 1, 1) := by decide +kernel
theorem dX0_hasRegion_5 : decode cX0_hasRegion 5 = .ok (.bipush 6, 2) := by decide +kernel
theorem dX0_hasRegion_7 : decode cX0_hasRegion 7 = .ok (.if_icmp .ge 7, 3) := by decide +kernel
theorem dX0_hasRegion_10 : decode cX0_hasRegion 10 = .ok (.iconst 1, 1) := by decide +kernel
theorem dX0_hasRegion_11 : decode cX0_hasRegion 11 = .ok (.goto 4, 3) := by decide +kernel
theorem dX0_hasRegion_14 : decode cX0_hasRegion 14 = .ok (.iconst 0, 1) := by decide +kernel
theorem dX0_hasRegion_15 : decode cX0_hasRegion 15 = .ok (.ireturn, 1) := by decide +kernel
theorem dX0_hasGroup_0 : decode cX0_hasGroup 0 = .ok (.iload_n 1, 1) := by decide +kernel
theorem dX0_hasGroup_1 : decode cX0_hasGroup 1 = .ok (.ifCond .lt 15, 3) := by decide +kernel
theorem dX0_hasGroup_4 : decode cX0_hasGroup 4 = .ok (.iload_n 1, 1) := by decide +kernel
theorem dX0_hasGroup_5 : decode cX0_hasGroup 5 = .ok (.aload_n 0, 1) := by decide +kernel
theorem dX0_hasGroup_6 : decode cX0_hasGroup 6 = .ok (.getfield 30, 3) := by decide +kernel
theorem dX0_hasGroup_9 : decode cX0_hasGroup 9 = .ok (.if_icmp .ge 7, 3) := by decide +kernel
theorem dX0_hasGroup_12 : decode cX0_hasGroup 12 = .ok (.iconst 1, 1) := by decide +kernel
theorem dX0_hasGroup_13 : decode cX0_hasGroup 13 = .ok (.goto 4, 3) := by decide +kernel
theorem dX0_hasGroup_16 : decode cX0_hasGroup 16 = .ok (.iconst 0, 1) := by decide +kernel
theorem dX0_hasGroup_17 : decode cX0_hasGroup 17 = .ok (.ireturn, 1) := by decide +kernel
theorem dX0_hasPot_0 : decode cX0_hasPot 0 = .ok (.iload_n 1, 1) := by decide +kernel
theorem dX0_hasPot_1 : decode cX0_hasPot 1 = .ok (.ifCond .lt 15, 3) := by decide +kernel
theorem dX0_hasPot_4 : decode cX0_hasPot 4 = .ok (.iload_n 1, 1) := by decide +kernel
theorem dX0_hasPot_5 : decode cX0_hasPot 5 = .ok (.aload_n 0, 1) := by decide +kernel
theorem dX0_hasPot_6 : decode cX0_hasPot 6 = .ok (.getfield 34, 3) := by decide +kernel
theorem dX0_hasPot_9 : decode cX0_hasPot 9 = .ok (.if_icmp .ge 7, 3) := by decide +kernel
theorem dX0_hasPot_12 : decode cX0_hasPot 12 = .ok (.iconst 1, 1) := by decide +kernel
theorem dX0_hasPot_13 : decode cX0_hasPot 13 = .ok (.goto 4, 3) := by decide +kernel
theorem dX0_hasPot_16 : decode cX0_hasPot 16 = .ok (.iconst 0, 1) := by decide +kernel
theorem dX0_hasPot_17 : decode cX0_hasPot 17 = .ok (.ireturn, 1) := by decide +kernel
theorem dX0_setPair_0 : decode cX0_setPair 0 = .ok (.aload_n 0, 1) := by decide +kernel
theorem dX0_setPair_1 : decode cX0_setPair 1 = .ok (.iload_n 1, 1) := by decide +kernel
theorem dX0_setPair_2 : decode cX0_setPair 2 = .ok (.iaload, 1) := by decide +kernel
theorem dX0_setPair_3 : decode cX0_setPair 3 = .ok (.iload_n 2, 1) := by decide +kernel
theorem dX0_setPair_4 : decode cX0_setPair 4 = .ok (.ishr, 1) := by decide +kernel
theorem dX0_setPair_5 : decode cX0_setPair 5 = .ok (.iconst 1, 1) := by decide +kernel
theorem dX0_setPair_6 : decode cX0_setPair 6 = .ok (.iand, 1) := by decide +kernel
theorem dX0_setPair_7 : decode cX0_setPair 7 = .ok (.ifCond .eq 7, 3) := by decide +kernel
theorem dX0_setPair_10 : decode cX0_setPair 10 = .ok (.iconst 1, 1) := by decide +kernel
theorem dX0_setPair_11 : decode cX0_setPair 11 = .ok (.goto 4, 3) := by decide +kernel
theorem dX0_setPair_14 : decode cX0_setPair 14 = .ok (.iconst 0, 1) := by decide +kernel
theorem dX0_setPair_15 : decode cX0_setPair 15 = .ok (.istore 4, 2) := by decide +kernel
theorem dX0_setPair_17 : decode cX0_setPair 17 = .ok (.iload_n 3, 1) := by decide +kernel
theorem dX0_setPair_18 : decode cX0_setPair 18 = .ok (.ifCond .eq 24, 3) := by decide +kernel
theorem dX0_setPair_21 : decode cX0_setPair 21 = .ok (.aload_n 0, 1) := by decide +kernel
theorem dX0_setPair_22 : decode cX0_setPair 22 = .ok (.iload_n 1, 1) := by decide +kernel
theorem dX0_setPair_23 : decode cX0_setPair 23 = .ok (.dup2, 1) := by decide +kernel
theorem dX0_setPair_24 : decode cX0_setPair 24 = .ok (.iaload, 1) := by decide +kernel
theorem dX0_setPair_25 : decode cX0_setPair 25 = .ok (.iconst 1, 1) := by decide +kernel
theorem dX0_setPair_26 : decode cX0_setPair 26 = .ok (.iload_n 2, 1) := by decide +kernel
theorem dX0_setPair_27 : decode cX0_setPair 27 = .ok (.ishl, 1) := by decide +kernel
theorem dX0_setPair_28 : decode cX0_setPair 28 = .ok (.ior, 1) := by decide +kernel
theorem dX0_setPair_29 : decode cX0_setPair 29 = .ok (.iastore, 1) := by decide +kernel
theorem dX0_setPair_30 : decode cX0_setPair 30 = .ok (.aload_n 0, 1) := by decide +kernel
theorem dX0_setPair_31 : decode cX0_setPair 31 = .ok (.iload_n 2, 1) := by decide +kernel
theorem dX0_setPair_32 : decode cX0_setPair 32 = .ok (.dup2, 1) := by decide +kernel
theorem dX0_setPair_33 : decode cX0_setPair 33 = .ok (.iaload, 1) := by decide +kernel
theorem dX0_setPair_34 : decode cX0_setPair 34 = .ok (.iconst 1, 1) := by decide +kernel
theorem dX0_setPair_35 : decode cX0_setPair 35 = .ok (.iload_n 1, 1) := by decide +kernel
theorem dX0_setPair_36 : decode cX0_setPair 36 = .ok (.ishl, 1) := by decide +kernel
theorem dX0_setPair_37 : decode cX0_setPair 37 = .ok (.ior, 1) := by decide +kernel
theorem dX0_setPair_38 : decode cX0_setPair 38 = .ok (.iastore, 1) := by decide +kernel
theorem dX0_setPair_39 : decode cX0_setPair 39 = .ok (.goto 25, 3) := by decide +kernel
theorem dX0_setPair_42 : decode cX0_setPair 42 = .ok (.aload_n 0, 1) := by decide +kernel
theorem dX0_setPair_43 : decode cX0_setPair 43 = .ok (.iload_n 1, 1) := by decide +kernel
theorem dX0_setPair_44 : decode cX0_setPair 44 = .ok (.dup2, 1) := by decide +kernel
theorem dX0_setPair_45 : decode cX0_setPair 45 = .ok (.iaload, 1) := by decide +kernel
theorem dX0_setPair_46 : decode cX0_setPair 46 = .ok (.iconst 1, 1) := by decide +kernel
theorem dX0_setPair_47 : decode cX0_setPair 47 = .ok (.iload_n 2, 1) := by decide +kernel
theorem dX0_setPair_48 : decode cX0_setPair 48 = .ok (.ishl, 1) := by decide +kernel
theorem dX0_setPair_49 : decode cX0_setPair 49 = .ok (.iconst (-1), 1) := by decide +kernel
theorem dX0_setPair_50 : decode cX0_setPair 50 = .ok (.ixor, 1) := by decide +kernel
theorem dX0_setPair_51 : decode cX0_setPair 51 = .ok (.iand, 1) := by decide +kernel
theorem dX0_setPair_52 : decode cX0_setPair 52 = .ok (.iastore, 1) := by decide +kernel
theorem dX0_setPair_53 : decode cX0_setPair 53 = .ok (.aload_n 0, 1) := by decide +kernel
theorem dX0_setPair_54 : decode cX0_setPair 54 = .ok (.iload_n 2, 1) := by decide +kernel
theorem dX0_setPair_55 : decode cX0_setPair 55 = .ok (.dup2, 1) := by decide +kernel
theorem dX0_setPair_56 : decode cX0_setPair 56 = .ok (.iaload, 1) := by decide +kernel
theorem dX0_setPair_57 : decode cX0_setPair 57 = .ok (.iconst 1, 1) := by decide +kernel
theorem dX0_setPair_58 : decode cX0_setPair 58 = .ok (.iload_n 1, 1) := by decide +kernel
theorem dX0_setPair_59 : decode cX0_setPair 59 = .ok (.ishl, 1) := by decide +kernel
theorem dX0_setPair_60 : decode cX0_setPair 60 = .ok (.iconst (-1), 1) := by decide +kernel
theorem dX0_setPair_61 : decode cX0_setPair 61 = .ok (.ixor, 1) := by decide +kernel
theorem dX0_setPair_62 : decode cX0_setPair 62 = .ok (.iand, 1) := by decide +kernel
theorem dX0_setPair_63 : decode cX0_setPair 63 = .ok (.iastore, 1) := by decide +kernel
theorem dX0_setPair_64 : decode cX0_setPair 64 = .ok (.iload 4, 2) := by decide +kernel
theorem dX0_setPair_66 : decode cX0_setPair 66 = .ok (.ireturn, 1) := by decide +kernel
set_option maxRecDepth 20000 in
theorem ggX0_addLawful_X0_placeFrom : GoodIn wsX0_addLawful wsX0_placeFrom := goodIn_r _ [5, 6, 7, 8, 9, 10, 11, 12, 13, 14, 15, 16, 17, 4, 18, 19, 20, 21, 22, 23, 24, 25, 26, 27, 28, 29, 30, 31, 32, 33, 34, 35, 36, 37, 38, 39, 1, 2, 3, 40, 41, 42, 43, 44, 45, 46, 47, 48, 49, 50] (by decide +kernel) (by decide +kernel)
set_option maxRecDepth 20000 in
theorem gX0_addLawful_X0_placeFrom : GoodIn wsX0_addLawful (wsV RX0 44 RX0 yX0_placeFrom wsX0_placeFrom) := goodIn_app (goodIn_of _ (by decide +kernel)) ggX0_addLawful_X0_placeFrom
theorem dX0_addLawful_0 : decode cX0_addLawful 0 = .ok (.aload_n 0, 1) := by decide +kernel
theorem dX0_addLawful_1 : decode cX0_addLawful 1 = .ok (.iconst 0, 1) := by decide +kernel
theorem dX0_addLawful_2 : decode cX0_addLawful 2 = .ok (.iconst 0, 1) := by decide +kernel
theorem dX0_addLawful_3 : decode cX0_addLawful 3 = .ok (.aload_n 1, 1) := by decide +kernel
theorem dX0_addLawful_4 : decode cX0_addLawful 4 = .ok (.invokevirtual 44, 3) := by decide +kernel
theorem dX0_addLawful_7 : decode cX0_addLawful 7 = .ok (.return_, 1) := by decide +kernel
set_option maxRecDepth 20000 in
theorem ggX0_placeFrom_X1_add : GoodIn wsX0_placeFrom wsX1_add := goodIn_r _ [7, 8, 9, 48, 49] (by decide +kernel) (by decide +kernel)
set_option maxRecDepth 20000 in
theorem gX0_placeFrom_X1_add : GoodIn wsX0_placeFrom (wsV RX0 48 RX1 yX1_add wsX1_add) := goodIn_app (goodIn_of _ (by decide +kernel)) ggX0_placeFrom_X1_add
set_option maxRecDepth 20000 in
theorem ggX0_placeFrom_X0_placeIn : GoodIn wsX0_placeFrom wsX0_placeIn := goodIn_r _ [14, 15, 16, 17, 18, 13, 19, 20, 21, 22, 23, 24, 25, 26, 27, 28, 2, 29, 30, 31, 32, 1, 33, 34, 6, 35, 36, 37, 38, 0, 3, 4, 5, 7, 8, 9, 10, 11, 12, 39, 40, 41, 42, 43, 44, 45, 46, 47, 48, 49] (by decide +kernel) (by decide +kernel)
set_option maxRecDepth 20000 in
theorem gX0_placeFrom_X0_placeIn : GoodIn wsX0_placeFrom (wsV RX0 53 RX0 yX0_placeIn wsX0_placeIn) := goodIn_app (goodIn_of _ (by decide +kernel)) ggX0_placeFrom_X0_placeIn
theorem dX0_placeFrom_0 : decode cX0_placeFrom 0 = .ok (.iload_n 1, 1) := by decide +kernel
theorem dX0_placeFrom_1 : decode cX0_placeFrom 1 = .ok (.aload_n 0, 1) := by decide +kernel
theorem dX0_placeFrom_2 : decode cX0_placeFrom 2 = .ok (.getfield 37, 3) := by decide +kernel
theorem dX0_placeFrom_5 : decode cX0_placeFrom 5 = .ok (.if_icmp .lt 9, 3) := by decide +kernel
theorem dX0_placeFrom_8 : decode cX0_placeFrom 8 = .ok (.aload_n 3, 1) := by decide +kernel
theorem dX0_placeFrom_9 : decode cX0_placeFrom 9 = .ok (.iload_n 2, 1) := by decide +kernel
theorem dX0_placeFrom_10 : decode cX0_placeFrom 10 = .ok (.invokevirtual 48, 3) := by decide +kernel
theorem dX0_placeFrom_13 : decode cX0_placeFrom 13 = .ok (.return_, 1) := by decide +kernel
theorem dX0_placeFrom_14 : decode cX0_placeFrom 14 = .ok (.iconst 0, 1) := by decide +kernel
theorem dX0_placeFrom_15 : decode cX0_placeFrom 15 = .ok (.istore 4, 2) := by decide +kernel
theorem dX0_placeFrom_17 : decode cX0_placeFrom 17 = .ok (.iload 4, 2) := by decide +kernel
theorem dX0_placeFrom_19 : decode cX0_placeFrom 19 = .ok (.aload_n 0, 1) := by decide +kernel
theorem dX0_placeFrom_20 : decode cX0_placeFrom 20 = .ok (.getfield 30, 3) := by decide +kernel
theorem dX0_placeFrom_23 : decode cX0_placeFrom 23 = .ok (.if_icmp .ge 18, 3) := by decide +kernel
theorem dX0_placeFrom_26 : decode cX0_placeFrom 26 = .ok (.aload_n 0, 1) := by decide +kernel
theorem dX0_placeFrom_27 : decode cX0_placeFrom 27 = .ok (.iload 4, 2) := by decide +kernel
theorem dX0_placeFrom_29 : decode cX0_placeFrom 29 = .ok (.iload_n 1, 1) := by decide +kernel
theorem dX0_placeFrom_30 : decode cX0_placeFrom 30 = .ok (.iload_n 2, 1) := by decide +kernel
theorem dX0_placeFrom_31 : decode cX0_placeFrom 31 = .ok (.aload_n 3, 1) := by decide +kernel
theorem dX0_placeFrom_32 : decode cX0_placeFrom 32 = .ok (.invokevirtual 53, 3) := by decide +kernel
theorem dX0_placeFrom_35 : decode cX0_placeFrom 35 = .ok (.iinc 4 1, 3) := by decide +kernel
theorem dX0_placeFrom_38 : decode cX0_placeFrom 38 = .ok (.goto (-21), 3) := by decide +kernel
theorem dX0_placeFrom_41 : decode cX0_placeFrom 41 = .ok (.return_, 1) := by decide +kernel
set_option maxRecDepth 20000 in
theorem ggX0_placeIn_X0_admits : GoodIn wsX0_placeIn wsX0_admits := goodIn_r _ [6, 1, 7, 8, 9, 10, 11, 12, 13, 14, 5, 15, 16, 17, 18, 19, 20, 21, 39, 40, 41, 42, 43, 44, 45, 46, 47] (by decide +kernel) (by decide +kernel)
set_option maxRecDepth 20000 in
theorem gX0_placeIn_X0_admits : GoodIn wsX0_placeIn (wsV RX0 57 RX0 yX0_admits wsX0_admits) := goodIn_app (goodIn_of _ (by decide +kernel)) ggX0_placeIn_X0_admits
set_option maxRecDepth 20000 in
theorem ggX0_placeIn_X1_with : GoodIn wsX0_placeIn wsX1_with := goodIn_r _ [25] (by decide +kernel) (by decide +kernel)
set_option maxRecDepth 20000 in
theorem gX0_placeIn_X1_with : GoodIn wsX0_placeIn (va_wsS RX0 61 yX1_with wsX1_with) := goodIn_app (goodIn_of _ (by decide +kernel)) ggX0_placeIn_X1_with
set_option maxRecDepth 20000 in
theorem ggX0_placeIn_X0_placeFrom : GoodIn wsX0_placeIn wsX0_placeFrom := goodIn_r _ [29, 21, 16, 30, 31, 32, 24, 33, 34, 35, 36, 37, 38, 5, 0, 1, 2, 3, 4, 6, 7, 8, 9, 10, 11, 12, 13, 14, 15, 17, 18, 19, 20, 22, 23, 25, 26, 27, 28, 39, 40, 41, 42, 43, 44, 45, 46, 47, 48, 49] (by decide +kernel) (by decide +kernel)
set_option maxRecDepth 20000 in
theorem gX0_placeIn_X0_placeFrom : GoodIn wsX0_placeIn (wsV RX0 44 RX0 yX0_placeFrom wsX0_placeFrom) := goodIn_app (goodIn_of _ (by decide +kernel)) ggX0_placeIn_X0_placeFrom
theorem dX0_placeIn_0 : decode cX0_placeIn 0 = .ok (.aload_n 0, 1) := by decide +kernel
theorem dX0_placeIn_1 : decode cX0_placeIn 1 = .ok (.iload_n 1, 1) := by decide +kernel
theorem dX0_placeIn_2 : decode cX0_placeIn 2 = .ok (.iload_n 2, 1) := by decide +kernel
theorem dX0_placeIn_3 : decode cX0_placeIn 3 = .ok (.invokevirtual 57, 3) := by decide +kernel
theorem dX0_placeIn_6 : decode cX0_placeIn 6 = .ok (.ifCond .eq 44, 3) := by decide +kernel
theorem dX0_placeIn_9 : decode cX0_placeIn 9 = .ok (.aload_n 0, 1) := by decide +kernel
theorem dX0_placeIn_10 : decode cX0_placeIn 10 = .ok (.getfield 27, 3) := by decide +kernel
theorem dX0_placeIn_13 : decode cX0_placeIn 13 = .ok (.iload_n 1, 1) := by decide +kernel
theorem dX0_placeIn_14 : decode cX0_placeIn 14 = .ok (.dup2, 1) := by decide +kernel
theorem dX0_placeIn_15 : decode cX0_placeIn 15 = .ok (.iaload, 1) := by decide +kernel
theorem dX0_placeIn_16 : decode cX0_placeIn 16 = .ok (.iconst 1, 1) := by decide +kernel
theorem dX0_placeIn_17 : decode cX0_placeIn 17 = .ok (.iload_n 2, 1) := by decide +kernel
theorem dX0_placeIn_18 : decode cX0_placeIn 18 = .ok (.ishl, 1) := by decide +kernel
theorem dX0_placeIn_19 : decode cX0_placeIn 19 = .ok (.ior, 1) := by decide +kernel
theorem dX0_placeIn_20 : decode cX0_placeIn 20 = .ok (.iastore, 1) := by decide +kernel
theorem dX0_placeIn_21 : decode cX0_placeIn 21 = .ok (.aload_n 0, 1) := by decide +kernel
theorem dX0_placeIn_22 : decode cX0_placeIn 22 = .ok (.iload_n 2, 1) := by decide +kernel
theorem dX0_placeIn_23 : decode cX0_placeIn 23 = .ok (.iconst 1, 1) := by decide +kernel
theorem dX0_placeIn_24 : decode cX0_placeIn 24 = .ok (.iadd, 1) := by decide +kernel
theorem dX0_placeIn_25 : decode cX0_placeIn 25 = .ok (.iload_n 3, 1) := by decide +kernel
theorem dX0_placeIn_26 : decode cX0_placeIn 26 = .ok (.iload_n 2, 1) := by decide +kernel
theorem dX0_placeIn_27 : decode cX0_placeIn 27 = .ok (.iload_n 1, 1) := by decide +kernel
theorem dX0_placeIn_28 : decode cX0_placeIn 28 = .ok (.invokestatic 61, 3) := by decide +kernel
theorem dX0_placeIn_31 : decode cX0_placeIn 31 = .ok (.aload 4, 2) := by decide +kernel
theorem dX0_placeIn_33 : decode cX0_placeIn 33 = .ok (.invokevirtual 44, 3) := by decide +kernel
theorem dX0_placeIn_36 : decode cX0_placeIn 36 = .ok (.aload_n 0, 1) := by decide +kernel
theorem dX0_placeIn_37 : decode cX0_placeIn 37 = .ok (.getfield 27, 3) := by decide +kernel
theorem dX0_placeIn_40 : decode cX0_placeIn 40 = .ok (.iload_n 1, 1) := by decide +kernel
theorem dX0_placeIn_41 : decode cX0_placeIn 41 = .ok (.dup2, 1) := by decide +kernel
theorem dX0_placeIn_42 : decode cX0_placeIn 42 = .ok (.iaload, 1) := by decide +kernel
theorem dX0_placeIn_43 : decode cX0_placeIn 43 = .ok (.iconst 1, 1) := by decide +kernel
theorem dX0_placeIn_44 : decode cX0_placeIn 44 = .ok (.iload_n 2, 1) := by decide +kernel
theorem dX0_placeIn_45 : decode cX0_placeIn 45 = .ok (.ishl, 1) := by decide +kernel
theorem dX0_placeIn_46 : decode cX0_placeIn 46 = .ok (.iconst (-1), 1) := by decide +kernel
theorem dX0_placeIn_47 : decode cX0_placeIn 47 = .ok (.ixor, 1) := by decide +kernel
theorem dX0_placeIn_48 : decode cX0_placeIn 48 = .ok (.iand, 1) := by decide +kernel
theorem dX0_placeIn_49 : decode cX0_placeIn 49 = .ok (.iastore, 1) := by decide +kernel
theorem dX0_placeIn_50 : decode cX0_placeIn 50 = .ok (.return_, 1) := by decide +kernel
set_option maxRecDepth 20000 in
theorem ggX0_admits_X0_playersOnDay : GoodIn wsX0_admits wsX0_playersOnDay := goodIn_r _ [11, 12, 1, 18, 19, 20, 21, 22, 23, 24, 25, 26] (by decide +kernel) (by decide +kernel)
set_option maxRecDepth 20000 in
theorem gX0_admits_X0_playersOnDay : GoodIn wsX0_admits (wsV RX0 65 RX0 yX0_playersOnDay wsX0_playersOnDay) := goodIn_app (goodIn_of _ (by decide +kernel)) ggX0_admits_X0_playersOnDay
set_option maxRecDepth 20000 in
theorem ggX0_admits_X0_countOfRegion : GoodIn wsX0_admits wsX0_countOfRegion := goodIn_r _ [16, 17, 1, 5, 18, 19, 20, 21, 22, 23, 24, 25, 26] (by decide +kernel) (by decide +kernel)
set_option maxRecDepth 20000 in
theorem gX0_admits_X0_countOfRegion : GoodIn wsX0_admits (wsV RX0 69 RX0 yX0_countOfRegion wsX0_countOfRegion) := goodIn_app (goodIn_of _ (by decide +kernel)) ggX0_admits_X0_countOfRegion
theorem dX0_admits_0 : decode cX0_admits 0 = .ok (.aload_n 0, 1) := by decide +kernel
theorem dX0_admits_1 : decode cX0_admits 1 = .ok (.getfield 27, 3) := by decide +kernel
theorem dX0_admits_4 : decode cX0_admits 4 = .ok (.iload_n 1, 1) := by decide +kernel
theorem dX0_admits_5 : decode cX0_admits 5 = .ok (.iaload, 1) := by decide +kernel
theorem dX0_admits_6 : decode cX0_admits 6 = .ok (.aload_n 0, 1) := by decide +kernel
theorem dX0_admits_7 : decode cX0_admits 7 = .ok (.getfield 24, 3) := by decide +kernel
theorem dX0_admits_10 : decode cX0_admits 10 = .ok (.iload_n 2, 1) := by decide +kernel
theorem dX0_admits_11 : decode cX0_admits 11 = .ok (.iaload, 1) := by decide +kernel
theorem dX0_admits_12 : decode cX0_admits 12 = .ok (.aload_n 0, 1) := by decide +kernel
theorem dX0_admits_13 : decode cX0_admits 13 = .ok (.getfield 18, 3) := by decide +kernel
theorem dX0_admits_16 : decode cX0_admits 16 = .ok (.iload_n 2, 1) := by decide +kernel
theorem dX0_admits_17 : decode cX0_admits 17 = .ok (.iaload, 1) := by decide +kernel
theorem dX0_admits_18 : decode cX0_admits 18 = .ok (.ior, 1) := by decide +kernel
theorem dX0_admits_19 : decode cX0_admits 19 = .ok (.iand, 1) := by decide +kernel
theorem dX0_admits_20 : decode cX0_admits 20 = .ok (.ifCond .ne 47, 3) := by decide +kernel
theorem dX0_admits_23 : decode cX0_admits 23 = .ok (.aload_n 0, 1) := by decide +kernel
theorem dX0_admits_24 : decode cX0_admits 24 = .ok (.iload_n 1, 1) := by decide +kernel
theorem dX0_admits_25 : decode cX0_admits 25 = .ok (.invokevirtual 65, 3) := by decide +kernel
theorem dX0_admits_28 : decode cX0_admits 28 = .ok (.aload_n 0, 1) := by decide +kernel
theorem dX0_admits_29 : decode cX0_admits 29 = .ok (.getfield 21, 3) := by decide +kernel
theorem dX0_admits_32 : decode cX0_admits 32 = .ok (.iload_n 2, 1) := by decide +kernel
theorem dX0_admits_33 : decode cX0_admits 33 = .ok (.iaload, 1) := by decide +kernel
theorem dX0_admits_34 : decode cX0_admits 34 = .ok (.iand, 1) := by decide +kernel
theorem dX0_admits_35 : decode cX0_admits 35 = .ok (.ifCond .ne 32, 3) := by decide +kernel
theorem dX0_admits_38 : decode cX0_admits 38 = .ok (.aload_n 0, 1) := by decide +kernel
theorem dX0_admits_39 : decode cX0_admits 39 = .ok (.iload_n 1, 1) := by decide +kernel
theorem dX0_admits_40 : decode cX0_admits 40 = .ok (.aload_n 0, 1) := by decide +kernel
theorem dX0_admits_41 : decode cX0_admits 41 = .ok (.getfield 9, 3) := by decide +kernel
theorem dX0_admits_44 : decode cX0_admits 44 = .ok (.iload_n 2, 1) := by decide +kernel
theorem dX0_admits_45 : decode cX0_admits 45 = .ok (.iaload, 1) := by decide +kernel
theorem dX0_admits_46 : decode cX0_admits 46 = .ok (.invokevirtual 69, 3) := by decide +kernel
theorem dX0_admits_49 : decode cX0_admits 49 = .ok (.aload_n 0, 1) := by decide +kernel
theorem dX0_admits_50 : decode cX0_admits 50 = .ok (.getfield 15, 3) := by decide +kernel
theorem dX0_admits_53 : decode cX0_admits 53 = .ok (.aload_n 0, 1) := by decide +kernel
theorem dX0_admits_54 : decode cX0_admits 54 = .ok (.getfield 9, 3) := by decide +kernel
theorem dX0_admits_57 : decode cX0_admits 57 = .ok (.iload_n 2, 1) := by decide +kernel
theorem dX0_admits_58 : decode cX0_admits 58 = .ok (.iaload, 1) := by decide +kernel
theorem dX0_admits_59 : decode cX0_admits 59 = .ok (.iaload, 1) := by decide +kernel
theorem dX0_admits_60 : decode cX0_admits 60 = .ok (.if_icmp .ge 7, 3) := by decide +kernel
theorem dX0_admits_63 : decode cX0_admits 63 = .ok (.iconst 1, 1) := by decide +kernel
theorem dX0_admits_64 : decode cX0_admits 64 = .ok (.goto 4, 3) := by decide +kernel
theorem dX0_admits_67 : decode cX0_admits 67 = .ok (.iconst 0, 1) := by decide +kernel
theorem dX0_admits_68 : decode cX0_admits 68 = .ok (.ireturn, 1) := by decide +kernel
theorem dX0_playersOnDay_0 : decode cX0_playersOnDay 0 = .ok (.iconst 0, 1) := by decide +kernel
theorem dX0_playersOnDay_1 : decode cX0_playersOnDay 1 = .ok (.istore_n 2, 1) := by decide +kernel
theorem dX0_playersOnDay_2 : decode cX0_playersOnDay 2 = .ok (.iload_n 1, 1) := by decide +kernel
theorem dX0_playersOnDay_3 : decode cX0_playersOnDay 3 = .ok (.iconst 1, 1) := by decide +kernel
theorem dX0_playersOnDay_4 : decode cX0_playersOnDay 4 = .ok (.iand, 1) := by decide +kernel
theorem dX0_playersOnDay_5 : decode cX0_playersOnDay 5 = .ok (.istore_n 3, 1) := by decide +kernel
theorem dX0_playersOnDay_6 : decode cX0_playersOnDay 6 = .ok (.iload_n 3, 1) := by decide +kernel
theorem dX0_playersOnDay_7 : decode cX0_playersOnDay 7 = .ok (.aload_n 0, 1) := by decide +kernel
theorem dX0_playersOnDay_8 : decode cX0_playersOnDay 8 = .ok (.getfield 30, 3) := by decide +kernel
theorem dX0_playersOnDay_11 : decode cX0_playersOnDay 11 = .ok (.if_icmp .ge 18, 3) := by decide +kernel
theorem dX0_playersOnDay_14 : decode cX0_playersOnDay 14 = .ok (.iload_n 2, 1) := by decide +kernel
theorem dX0_playersOnDay_15 : decode cX0_playersOnDay 15 = .ok (.aload_n 0, 1) := by decide +kernel
theorem dX0_playersOnDay_16 : decode cX0_playersOnDay 16 = .ok (.getfield 27, 3) := by decide +kernel
theorem dX0_playersOnDay_19 : decode cX0_playersOnDay 19 = .ok (.iload_n 3, 1) := by decide +kernel
theorem dX0_playersOnDay_20 : decode cX0_playersOnDay 20 = .ok (.iaload, 1) := by decide +kernel
theorem dX0_playersOnDay_21 : decode cX0_playersOnDay 21 = .ok (.ior, 1) := by decide +kernel
theorem dX0_playersOnDay_22 : decode cX0_playersOnDay 22 = .ok (.istore_n 2, 1) := by decide +kernel
theorem dX0_playersOnDay_23 : decode cX0_playersOnDay 23 = .ok (.iinc 3 2, 3) := by decide +kernel
theorem dX0_playersOnDay_26 : decode cX0_playersOnDay 26 = .ok (.goto (-20), 3) := by decide +kernel
theorem dX0_playersOnDay_29 : decode cX0_playersOnDay 29 = .ok (.iload_n 2, 1) := by decide +kernel
theorem dX0_playersOnDay_30 : decode cX0_playersOnDay 30 = .ok (.ireturn, 1) := by decide +kernel
theorem dX0_countOfRegion_0 : decode cX0_countOfRegion 0 = .ok (.iconst 0, 1) := by decide +kernel
theorem dX0_countOfRegion_1 : decode cX0_countOfRegion 1 = .ok (.istore_n 3, 1) := by decide +kernel
theorem dX0_countOfRegion_2 : decode cX0_countOfRegion 2 = .ok (.iconst 0, 1) := by decide +kernel
theorem dX0_countOfRegion_3 : decode cX0_countOfRegion 3 = .ok (.istore 4, 2) := by decide +kernel
theorem dX0_countOfRegion_5 : decode cX0_countOfRegion 5 = .ok (.iload 4, 2) := by decide +kernel
theorem dX0_countOfRegion_7 : decode cX0_countOfRegion 7 = .ok (.aload_n 0, 1) := by decide +kernel
theorem dX0_countOfRegion_8 : decode cX0_countOfRegion 8 = .ok (.getfield 37, 3) := by decide +kernel
theorem dX0_countOfRegion_11 : decode cX0_countOfRegion 11 = .ok (.if_icmp .ge 37, 3) := by decide +kernel
theorem dX0_countOfRegion_14 : decode cX0_countOfRegion 14 = .ok (.aload_n 0, 1) := by decide +kernel
theorem dX0_countOfRegion_15 : decode cX0_countOfRegion 15 = .ok (.getfield 27, 3) := by decide +kernel
theorem dX0_countOfRegion_18 : decode cX0_countOfRegion 18 = .ok (.iload_n 1, 1) := by decide +kernel
theorem dX0_countOfRegion_19 : decode cX0_countOfRegion 19 = .ok (.iaload, 1) := by decide +kernel
theorem dX0_countOfRegion_20 : decode cX0_countOfRegion 20 = .ok (.iload 4, 2) := by decide +kernel
theorem dX0_countOfRegion_22 : decode cX0_countOfRegion 22 = .ok (.ishr, 1) := by decide +kernel
theorem dX0_countOfRegion_23 : decode cX0_countOfRegion 23 = .ok (.iconst 1, 1) := by decide +kernel
theorem dX0_countOfRegion_24 : decode cX0_countOfRegion 24 = .ok (.iand, 1) := by decide +kernel
theorem dX0_countOfRegion_25 : decode cX0_countOfRegion 25 = .ok (.ifCond .eq 17, 3) := by decide +kernel
theorem dX0_countOfRegion_28 : decode cX0_countOfRegion 28 = .ok (.aload_n 0, 1) := by decide +kernel
theorem dX0_countOfRegion_29 : decode cX0_countOfRegion 29 = .ok (.getfield 9, 3) := by decide +kernel
theorem dX0_countOfRegion_32 : decode cX0_countOfRegion 32 = .ok (.iload 4, 2) := by decide +kernel
theorem dX0_countOfRegion_34 : decode cX0_countOfRegion 34 = .ok (.iaload, 1) := by decide +kernel
theorem dX0_countOfRegion_35 : decode cX0_countOfRegion 35 = .ok (.iload_n 2, 1) := by decide +kernel
theorem dX0_countOfRegion_36 : decode cX0_countOfRegion 36 = .ok (.if_icmp .ne 6, 3) := by decide +kernel
theorem dX0_countOfRegion_39 : decode cX0_countOfRegion 39 = .ok (.iinc 3 1, 3) := by decide +kernel
theorem dX0_countOfRegion_42 : decode cX0_countOfRegion 42 = .ok (.iinc 4 1, 3) := by decide +kernel
theorem dX0_countOfRegion_45 : decode cX0_countOfRegion 45 = .ok (.goto (-40), 3) := by decide +kernel
theorem dX0_countOfRegion_48 : decode cX0_countOfRegion 48 = .ok (.iload_n 3, 1) := by decide +kernel
theorem dX0_countOfRegion_49 : decode cX0_countOfRegion 49 = .ok (.ireturn, 1) := by decide +kernel
theorem dX1_init_0 : decode cX1_init 0 = .ok (.aload_n 0, 1) := by decide +kernel
theorem dX1_init_1 : decode cX1_init 1 = .ok (.invokespecial 3, 3) := by decide +kernel
theorem dX1_init_4 : decode cX1_init 4 = .ok (.aload_n 0, 1) := by decide +kernel
theorem dX1_init_5 : decode cX1_init 5 = .ok (.sipush 576, 3) := by decide +kernel
theorem dX1_init_8 : decode cX1_init 8 = .ok (.newarray .int, 2) := by decide +kernel
theorem dX1_init_10 : decode cX1_init 10 = .ok (.putfield 9, 3) := by decide +kernel
theorem dX1_init_13 : decode cX1_init 13 = .ok (.return_, 1) := by decide +kernel
theorem dX1_with_0 : decode cX1_with 0 = .ok (.iload_n 0, 1) := by decide +kernel
theorem dX1_with_1 : decode cX1_with 1 = .ok (.iload_n 2, 1) := by decide +kernel
theorem dX1_with_2 : decode cX1_with 2 = .ok (.iconst 2, 1) := by decide +kernel
theorem dX1_with_3 : decode cX1_with 3 = .ok (.iload_n 1, 1) := by decide +kernel
theorem dX1_with_4 : decode cX1_with 4 = .ok (.imul, 1) := by decide +kernel
theorem dX1_with_5 : decode cX1_with 5 = .ok (.ishl, 1) := by decide +kernel
theorem dX1_with_6 : decode cX1_with 6 = .ok (.ior, 1) := by decide +kernel
theorem dX1_with_7 : decode cX1_with 7 = .ok (.ireturn, 1) := by decide +kernel
theorem dX1_groupIn_0 : decode cX1_groupIn 0 = .ok (.iload_n 0, 1) := by decide +kernel
theorem dX1_groupIn_1 : decode cX1_groupIn 1 = .ok (.iconst 2, 1) := by decide +kernel
theorem dX1_groupIn_2 : decode cX1_groupIn 2 = .ok (.iload_n 1, 1) := by decide +kernel
theorem dX1_groupIn_3 : decode cX1_groupIn 3 = .ok (.imul, 1) := by decide +kernel
theorem dX1_groupIn_4 : decode cX1_groupIn 4 = .ok (.ishr, 1) := by decide +kernel
theorem dX1_groupIn_5 : decode cX1_groupIn 5 = .ok (.iconst 3, 1) := by decide +kernel
theorem dX1_groupIn_6 : decode cX1_groupIn 6 = .ok (.iand, 1) := by decide +kernel
theorem dX1_groupIn_7 : decode cX1_groupIn 7 = .ok (.ireturn, 1) := by decide +kernel
theorem dX1_clear_0 : decode cX1_clear 0 = .ok (.aload_n 0, 1) := by decide +kernel
theorem dX1_clear_1 : decode cX1_clear 1 = .ok (.iconst 0, 1) := by decide +kernel
theorem dX1_clear_2 : decode cX1_clear 2 = .ok (.putfield 15, 3) := by decide +kernel
theorem dX1_clear_5 : decode cX1_clear 5 = .ok (.return_, 1) := by decide +kernel
theorem dX1_add_0 : decode cX1_add 0 = .ok (.aload_n 0, 1) := by decide +kernel
theorem dX1_add_1 : decode cX1_add 1 = .ok (.getfield 15, 3) := by decide +kernel
theorem dX1_add_4 : decode cX1_add 4 = .ok (.aload_n 0, 1) := by decide +kernel
theorem dX1_add_5 : decode cX1_add 5 = .ok (.getfield 9, 3) := by decide +kernel
theorem dX1_add_8 : decode cX1_add 8 = .ok (.arraylength, 1) := by decide +kernel
theorem dX1_add_9 : decode cX1_add 9 = .ok (.if_icmp .ge 23, 3) := by decide +kernel
theorem dX1_add_12 : decode cX1_add 12 = .ok (.aload_n 0, 1) := by decide +kernel
theorem dX1_add_13 : decode cX1_add 13 = .ok (.getfield 9, 3) := by decide +kernel
theorem dX1_add_16 : decode cX1_add 16 = .ok (.aload_n 0, 1) := by decide +kernel
theorem dX1_add_17 : decode cX1_add 17 = .ok (.getfield 15, 3) := by decide +kernel
theorem dX1_add_20 : decode cX1_add 20 = .ok (.iload_n 1, 1) := by decide +kernel
theorem dX1_add_21 : decode cX1_add 21 = .ok (.iastore, 1) := by decide +kernel
theorem dX1_add_22 : decode cX1_add 22 = .ok (.aload_n 0, 1) := by decide +kernel
theorem dX1_add_23 : decode cX1_add 23 = .ok (.dup, 1) := by decide +kernel
theorem dX1_add_24 : decode cX1_add 24 = .ok (.getfield 15, 3) := by decide +kernel
theorem dX1_add_27 : decode cX1_add 27 = .ok (.iconst 1, 1) := by decide +kernel
theorem dX1_add_28 : decode cX1_add 28 = .ok (.iadd, 1) := by decide +kernel
theorem dX1_add_29 : decode cX1_add 29 = .ok (.putfield 15, 3) := by decide +kernel
theorem dX1_add_32 : decode cX1_add 32 = .ok (.return_, 1) := by decide +kernel
theorem dX1_first_0 : decode cX1_first 0 = .ok (.aload_n 0, 1) := by decide +kernel
theorem dX1_first_1 : decode cX1_first 1 = .ok (.getfield 9, 3) := by decide +kernel
theorem dX1_first_4 : decode cX1_first 4 = .ok (.iconst 0, 1) := by decide +kernel
theorem dX1_first_5 : decode cX1_first 5 = .ok (.iaload, 1) := by decide +kernel
theorem dX1_first_6 : decode cX1_first 6 = .ok (.ireturn, 1) := by decide +kernel
set_option maxRecDepth 20000 in
theorem ggX1_countInGroup_X1_groupIn : GoodIn wsX1_countInGroup wsX1_groupIn := goodIn_r _ [6] (by decide +kernel) (by decide +kernel)
set_option maxRecDepth 20000 in
theorem gX1_countInGroup_X1_groupIn : GoodIn wsX1_countInGroup (va_wsS RX1 19 yX1_groupIn wsX1_groupIn) := goodIn_app (goodIn_of _ (by decide +kernel)) ggX1_countInGroup_X1_groupIn
theorem dX1_countInGroup_0 : decode cX1_countInGroup 0 = .ok (.iconst 0, 1) := by decide +kernel
theorem dX1_countInGroup_1 : decode cX1_countInGroup 1 = .ok (.istore_n 3, 1) := by decide +kernel
theorem dX1_countInGroup_2 : decode cX1_countInGroup 2 = .ok (.iconst 0, 1) := by decide +kernel
theorem dX1_countInGroup_3 : decode cX1_countInGroup 3 = .ok (.istore 4, 2) := by decide +kernel
theorem dX1_countInGroup_5 : decode cX1_countInGroup 5 = .ok (.iload 4, 2) := by decide +kernel
theorem dX1_countInGroup_7 : decode cX1_countInGroup 7 = .ok (.aload_n 0, 1) := by decide +kernel
theorem dX1_countInGroup_8 : decode cX1_countInGroup 8 = .ok (.getfield 15, 3) := by decide +kernel
theorem dX1_countInGroup_11 : decode cX1_countInGroup 11 = .ok (.if_icmp .ge 27, 3) := by decide +kernel
theorem dX1_countInGroup_14 : decode cX1_countInGroup 14 = .ok (.aload_n 0, 1) := by decide +kernel
theorem dX1_countInGroup_15 : decode cX1_countInGroup 15 = .ok (.getfield 9, 3) := by decide +kernel
theorem dX1_countInGroup_18 : decode cX1_countInGroup 18 = .ok (.iload 4, 2) := by decide +kernel
theorem dX1_countInGroup_20 : decode cX1_countInGroup 20 = .ok (.iaload, 1) := by decide +kernel
theorem dX1_countInGroup_21 : decode cX1_countInGroup 21 = .ok (.iload_n 1, 1) := by decide +kernel
theorem dX1_countInGroup_22 : decode cX1_countInGroup 22 = .ok (.invokestatic 19, 3) := by decide +kernel
theorem dX1_countInGroup_25 : decode cX1_countInGroup 25 = .ok (.iload_n 2, 1) := by decide +kernel
theorem dX1_countInGroup_26 : decode cX1_countInGroup 26 = .ok (.if_icmp .ne 6, 3) := by decide +kernel
theorem dX1_countInGroup_29 : decode cX1_countInGroup 29 = .ok (.iinc 3 1, 3) := by decide +kernel
theorem dX1_countInGroup_32 : decode cX1_countInGroup 32 = .ok (.iinc 4 1, 3) := by decide +kernel
theorem dX1_countInGroup_35 : decode cX1_countInGroup 35 = .ok (.goto (-30), 3) := by decide +kernel
theorem dX1_countInGroup_38 : decode cX1_countInGroup 38 = .ok (.iload_n 3, 1) := by decide +kernel
theorem dX1_countInGroup_39 : decode cX1_countInGroup 39 = .ok (.ireturn, 1) := by decide +kernel
set_option maxRecDepth 20000 in
theorem ggX1_countTogether_X1_groupIn : GoodIn wsX1_countTogether wsX1_groupIn := goodIn_r _ [6] (by decide +kernel) (by decide +kernel)
set_option maxRecDepth 20000 in
theorem gX1_countTogether_X1_groupIn : GoodIn wsX1_countTogether (va_wsS RX1 19 yX1_groupIn wsX1_groupIn) := goodIn_app (goodIn_of _ (by decide +kernel)) ggX1_countTogether_X1_groupIn
theorem dX1_countTogether_0 : decode cX1_countTogether 0 = .ok (.iconst 0, 1) := by decide +kernel
theorem dX1_countTogether_1 : decode cX1_countTogether 1 = .ok (.istore_n 3, 1) := by decide +kernel
theorem dX1_countTogether_2 : decode cX1_countTogether 2 = .ok (.iconst 0, 1) := by decide +kernel
theorem dX1_countTogether_3 : decode cX1_countTogether 3 = .ok (.istore 4, 2) := by decide +kernel
theorem dX1_countTogether_5 : decode cX1_countTogether 5 = .ok (.iload 4, 2) := by decide +kernel
theorem dX1_countTogether_7 : decode cX1_countTogether 7 = .ok (.aload_n 0, 1) := by decide +kernel
theorem dX1_countTogether_8 : decode cX1_countTogether 8 = .ok (.getfield 15, 3) := by decide +kernel
theorem dX1_countTogether_11 : decode cX1_countTogether 11 = .ok (.if_icmp .ge 37, 3) := by decide +kernel
theorem dX1_countTogether_14 : decode cX1_countTogether 14 = .ok (.aload_n 0, 1) := by decide +kernel
theorem dX1_countTogether_15 : decode cX1_countTogether 15 = .ok (.getfield 9, 3) := by decide +kernel
theorem dX1_countTogether_18 : decode cX1_countTogether 18 = .ok (.iload 4, 2) := by decide +kernel
theorem dX1_countTogether_20 : decode cX1_countTogether 20 = .ok (.iaload, 1) := by decide +kernel
theorem dX1_countTogether_21 : decode cX1_countTogether 21 = .ok (.iload_n 1, 1) := by decide +kernel
theorem dX1_countTogether_22 : decode cX1_countTogether 22 = .ok (.invokestatic 19, 3) := by decide +kernel
theorem dX1_countTogether_25 : decode cX1_countTogether 25 = .ok (.aload_n 0, 1) := by decide +kernel
theorem dX1_countTogether_26 : decode cX1_countTogether 26 = .ok (.getfield 9, 3) := by decide +kernel
theorem dX1_countTogether_29 : decode cX1_countTogether 29 = .ok (.iload 4, 2) := by decide +kernel
theorem dX1_countTogether_31 : decode cX1_countTogether 31 = .ok (.iaload, 1) := by decide +kernel
theorem dX1_countTogether_32 : decode cX1_countTogether 32 = .ok (.iload_n 2, 1) := by decide +kernel
theorem dX1_countTogether_33 : decode cX1_countTogether 33 = .ok (.invokestatic 19, 3) := by decide +kernel
theorem dX1_countTogether_36 : decode cX1_countTogether 36 = .ok (.if_icmp .ne 6, 3) := by decide +kernel
theorem dX1_countTogether_39 : decode cX1_countTogether 39 = .ok (.iinc 3 1, 3) := by decide +kernel
theorem dX1_countTogether_42 : decode cX1_countTogether 42 = .ok (.iinc 4 1, 3) := by decide +kernel
theorem dX1_countTogether_45 : decode cX1_countTogether 45 = .ok (.goto (-40), 3) := by decide +kernel
theorem dX1_countTogether_48 : decode cX1_countTogether 48 = .ok (.iload_n 3, 1) := by decide +kernel
theorem dX1_countTogether_49 : decode cX1_countTogether 49 = .ok (.ireturn, 1) := by decide +kernel
set_option maxRecDepth 20000 in
theorem ggX1_lowestGroup_X1_groupIn : GoodIn wsX1_lowestGroup wsX1_groupIn := goodIn_r _ [6] (by decide +kernel) (by decide +kernel)
set_option maxRecDepth 20000 in
theorem gX1_lowestGroup_X1_groupIn : GoodIn wsX1_lowestGroup (va_wsS RX1 19 yX1_groupIn wsX1_groupIn) := goodIn_app (goodIn_of _ (by decide +kernel)) ggX1_lowestGroup_X1_groupIn
theorem dX1_lowestGroup_0 : decode cX1_lowestGroup 0 = .ok (.iconst (-1), 1) := by decide +kernel
theorem dX1_lowestGroup_1 : decode cX1_lowestGroup 1 = .ok (.istore_n 2, 1) := by decide +kernel
theorem dX1_lowestGroup_2 : decode cX1_lowestGroup 2 = .ok (.iconst 0, 1) := by decide +kernel
theorem dX1_lowestGroup_3 : decode cX1_lowestGroup 3 = .ok (.istore_n 3, 1) := by decide +kernel
theorem dX1_lowestGroup_4 : decode cX1_lowestGroup 4 = .ok (.iload_n 3, 1) := by decide +kernel
theorem dX1_lowestGroup_5 : decode cX1_lowestGroup 5 = .ok (.aload_n 0, 1) := by decide +kernel
theorem dX1_lowestGroup_6 : decode cX1_lowestGroup 6 = .ok (.getfield 15, 3) := by decide +kernel
theorem dX1_lowestGroup_9 : decode cX1_lowestGroup 9 = .ok (.if_icmp .ge 35, 3) := by decide +kernel
theorem dX1_lowestGroup_12 : decode cX1_lowestGroup 12 = .ok (.aload_n 0, 1) := by decide +kernel
theorem dX1_lowestGroup_13 : decode cX1_lowestGroup 13 = .ok (.getfield 9, 3) := by decide +kernel
theorem dX1_lowestGroup_16 : decode cX1_lowestGroup 16 = .ok (.iload_n 3, 1) := by decide +kernel
theorem dX1_lowestGroup_17 : decode cX1_lowestGroup 17 = .ok (.iaload, 1) := by decide +kernel
theorem dX1_lowestGroup_18 : decode cX1_lowestGroup 18 = .ok (.iload_n 1, 1) := by decide +kernel
theorem dX1_lowestGroup_19 : decode cX1_lowestGroup 19 = .ok (.invokestatic 19, 3) := by decide +kernel
theorem dX1_lowestGroup_22 : decode cX1_lowestGroup 22 = .ok (.istore 4, 2) := by decide +kernel
theorem dX1_lowestGroup_24 : decode cX1_lowestGroup 24 = .ok (.iload_n 2, 1) := by decide +kernel
theorem dX1_lowestGroup_25 : decode cX1_lowestGroup 25 = .ok (.iconst (-1), 1) := by decide +kernel
theorem dX1_lowestGroup_26 : decode cX1_lowestGroup 26 = .ok (.if_icmp .eq 9, 3) := by decide +kernel
theorem dX1_lowestGroup_29 : decode cX1_lowestGroup 29 = .ok (.iload 4, 2) := by decide +kernel
theorem dX1_lowestGroup_31 : decode cX1_lowestGroup 31 = .ok (.iload_n 2, 1) := by decide +kernel
theorem dX1_lowestGroup_32 : decode cX1_lowestGroup 32 = .ok (.if_icmp .ge 6, 3) := by decide +kernel
theorem dX1_lowestGroup_35 : decode cX1_lowestGroup 35 = .ok (.iload 4, 2) := by decide +kernel
theorem dX1_lowestGroup_37 : decode cX1_lowestGroup 37 = .ok (.istore_n 2, 1) := by decide +kernel
theorem dX1_lowestGroup_38 : decode cX1_lowestGroup 38 = .ok (.iinc 3 1, 3) := by decide +kernel
theorem dX1_lowestGroup_41 : decode cX1_lowestGroup 41 = .ok (.goto (-37), 3) := by decide +kernel
theorem dX1_lowestGroup_44 : decode cX1_lowestGroup 44 = .ok (.iload_n 2, 1) := by decide +kernel
theorem dX1_lowestGroup_45 : decode cX1_lowestGroup 45 = .ok (.ireturn, 1) := by decide +kernel
set_option maxRecDepth 20000 in
theorem ggX1_narrow_X1_groupIn : GoodIn wsX1_narrow wsX1_groupIn := goodIn_r _ [6] (by decide +kernel) (by decide +kernel)
set_option maxRecDepth 20000 in
theorem gX1_narrow_X1_groupIn : GoodIn wsX1_narrow (va_wsS RX1 19 yX1_groupIn wsX1_groupIn) := goodIn_app (goodIn_of _ (by decide +kernel)) ggX1_narrow_X1_groupIn
theorem dX1_narrow_0 : decode cX1_narrow 0 = .ok (.iconst 0, 1) := by decide +kernel
theorem dX1_narrow_1 : decode cX1_narrow 1 = .ok (.istore_n 3, 1) := by decide +kernel
theorem dX1_narrow_2 : decode cX1_narrow 2 = .ok (.iconst 0, 1) := by decide +kernel
theorem dX1_narrow_3 : decode cX1_narrow 3 = .ok (.istore 4, 2) := by decide +kernel
theorem dX1_narrow_5 : decode cX1_narrow 5 = .ok (.iload 4, 2) := by decide +kernel
theorem dX1_narrow_7 : decode cX1_narrow 7 = .ok (.aload_n 0, 1) := by decide +kernel
theorem dX1_narrow_8 : decode cX1_narrow 8 = .ok (.getfield 15, 3) := by decide +kernel
theorem dX1_narrow_11 : decode cX1_narrow 11 = .ok (.if_icmp .ge 52, 3) := by decide +kernel
theorem dX1_narrow_14 : decode cX1_narrow 14 = .ok (.aload_n 0, 1) := by decide +kernel
theorem dX1_narrow_15 : decode cX1_narrow 15 = .ok (.getfield 9, 3) := by decide +kernel
theorem dX1_narrow_18 : decode cX1_narrow 18 = .ok (.iload 4, 2) := by decide +kernel
theorem dX1_narrow_20 : decode cX1_narrow 20 = .ok (.iaload, 1) := by decide +kernel
theorem dX1_narrow_21 : decode cX1_narrow 21 = .ok (.istore 5, 2) := by decide +kernel
theorem dX1_narrow_23 : decode cX1_narrow 23 = .ok (.iload 5, 2) := by decide +kernel
theorem dX1_narrow_25 : decode cX1_narrow 25 = .ok (.iload_n 1, 1) := by decide +kernel
theorem dX1_narrow_26 : decode cX1_narrow 26 = .ok (.invokestatic 19, 3) := by decide +kernel
theorem dX1_narrow_29 : decode cX1_narrow 29 = .ok (.iload_n 2, 1) := by decide +kernel
theorem dX1_narrow_30 : decode cX1_narrow 30 = .ok (.if_icmp .ne 27, 3) := by decide +kernel
theorem dX1_narrow_33 : decode cX1_narrow 33 = .ok (.aload_n 0, 1) := by decide +kernel
theorem dX1_narrow_34 : decode cX1_narrow 34 = .ok (.getfield 9, 3) := by decide +kernel
theorem dX1_narrow_37 : decode cX1_narrow 37 = .ok (.iload 4, 2) := by decide +kernel
theorem dX1_narrow_39 : decode cX1_narrow 39 = .ok (.aload_n 0, 1) := by decide +kernel
theorem dX1_narrow_40 : decode cX1_narrow 40 = .ok (.getfield 9, 3) := by decide +kernel
theorem dX1_narrow_43 : decode cX1_narrow 43 = .ok (.iload_n 3, 1) := by decide +kernel
theorem dX1_narrow_44 : decode cX1_narrow 44 = .ok (.iaload, 1) := by decide +kernel
theorem dX1_narrow_45 : decode cX1_narrow 45 = .ok (.iastore, 1) := by decide +kernel
theorem dX1_narrow_46 : decode cX1_narrow 46 = .ok (.aload_n 0, 1) := by decide +kernel
theorem dX1_narrow_47 : decode cX1_narrow 47 = .ok (.getfield 9, 3) := by decide +kernel
theorem dX1_narrow_50 : decode cX1_narrow 50 = .ok (.iload_n 3, 1) := by decide +kernel
theorem dX1_narrow_51 : decode cX1_narrow 51 = .ok (.iload 5, 2) := by decide +kernel
theorem dX1_narrow_53 : decode cX1_narrow 53 = .ok (.iastore, 1) := by decide +kernel
theorem dX1_narrow_54 : decode cX1_narrow 54 = .ok (.iinc 3 1, 3) := by decide +kernel
theorem dX1_narrow_57 : decode cX1_narrow 57 = .ok (.iinc 4 1, 3) := by decide +kernel
theorem dX1_narrow_60 : decode cX1_narrow 60 = .ok (.goto (-55), 3) := by decide +kernel
theorem dX1_narrow_63 : decode cX1_narrow 63 = .ok (.aload_n 0, 1) := by decide +kernel
theorem dX1_narrow_64 : decode cX1_narrow 64 = .ok (.iload_n 3, 1) := by decide +kernel
theorem dX1_narrow_65 : decode cX1_narrow 65 = .ok (.putfield 15, 3) := by decide +kernel
theorem dX1_narrow_68 : decode cX1_narrow 68 = .ok (.return_, 1) := by decide +kernel
theorem dX1_widen_0 : decode cX1_widen 0 = .ok (.aload_n 0, 1) := by decide +kernel
theorem dX1_widen_1 : decode cX1_widen 1 = .ok (.iload_n 1, 1) := by decide +kernel
theorem dX1_widen_2 : decode cX1_widen 2 = .ok (.putfield 15, 3) := by decide +kernel
theorem dX1_widen_5 : decode cX1_widen 5 = .ok (.return_, 1) := by decide +kernel
set_option maxRecDepth 20000 in
theorem ggX2_init_X0_init : GoodIn wsX2_init wsX0_init := goodIn_r _ [18, 19, 2, 3, 13, 20, 21, 22, 23, 24, 25, 53, 54, 55, 56, 57, 58, 59, 60, 61] (by decide +kernel) (by decide +kernel)
set_option maxRecDepth 20000 in
theorem gX2_init_X0_init_n9 : GoodIn wsX2_init (wsX0_init) := ggX2_init_X0_init
set_option maxRecDepth 20000 in
theorem ggX2_init_X1_init : GoodIn wsX2_init wsX1_init := goodIn_r _ [27, 28, 2, 3, 13, 29, 71, 72] (by decide +kernel) (by decide +kernel)
set_option maxRecDepth 20000 in
theorem gX2_init_X1_init_n18 : GoodIn wsX2_init (wsX1_init) := ggX2_init_X1_init
set_option maxRecDepth 20000 in
theorem ggX2_init_X2_startWith : GoodIn wsX2_init wsX2_startWith := goodIn_r _ [34, 7, 14, 35, 36, 37, 38, 6, 39, 40, 41, 42, 21, 20, 22, 23, 43, 44, 45, 46, 24, 47, 48, 49, 33, 50, 51, 52, 62, 63, 64, 65, 66, 67, 68, 69, 70, 53, 54, 55, 56, 57, 58, 59, 60, 61] (by decide +kernel) (by decide +kernel)
set_option maxRecDepth 20000 in
theorem gX2_init_X2_startWith : GoodIn wsX2_init (wsV RX2 36 RX2 yX2_startWith wsX2_startWith) := goodIn_app (goodIn_of _ (by decide +kernel)) ggX2_init_X2_startWith
end
section
theorem dX2_init_0 : decode cX2_init 0 = .ok (.aload_n 0, 1) := by decide +kernel
theorem dX2_init_1 : decode cX2_init 1 = .ok (.invokespecial 1, 3) := by decide +kernel
theorem dX2_init_4 : decode cX2_init 4 = .ok (.aload_n 0, 1) := by decide +kernel
theorem dX2_init_5 : decode cX2_init 5 = .ok (.new 7, 3) := by decide +kernel
theorem dX2_init_8 : decode cX2_init 8 = .ok (.dup, 1) := by decide +kernel
theorem dX2_init_9 : decode cX2_init 9 = .ok (.invokespecial 9, 3) := by decide +kernel
theorem dX2_init_12 : decode cX2_init 12 = .ok (.putfield 10, 3) := by decide +kernel
theorem dX2_init_15 : decode cX2_init 15 = .ok (.aload_n 0, 1) := by decide +kernel
theorem dX2_init_16 : decode cX2_init 16 = .ok (.new 16, 3) := by decide +kernel
theorem dX2_init_19 : decode cX2_init 19 = .ok (.dup, 1) := by decide +kernel
theorem dX2_init_20 : decode cX2_init 20 = .ok (.invokespecial 18, 3) := by decide +kernel
theorem dX2_init_23 : decode cX2_init 23 = .ok (.putfield 19, 3) := by decide +kernel
theorem dX2_init_26 : decode cX2_init 26 = .ok (.aload_n 0, 1) := by decide +kernel
theorem dX2_init_27 : decode cX2_init 27 = .ok (.new 16, 3) := by decide +kernel
theorem dX2_init_30 : decode cX2_init 30 = .ok (.dup, 1) := by decide +kernel
theorem dX2_init_31 : decode cX2_init 31 = .ok (.invokespecial 18, 3) := by decide +kernel
theorem dX2_init_34 : decode cX2_init 34 = .ok (.putfield 23, 3) := by decide +kernel
theorem dX2_init_37 : decode cX2_init 37 = .ok (.aload_n 0, 1) := by decide +kernel
theorem dX2_init_38 : decode cX2_init 38 = .ok (.bipush 9, 2) := by decide +kernel
theorem dX2_init_40 : decode cX2_init 40 = .ok (.newarray .int, 2) := by decide +kernel
theorem dX2_init_42 : decode cX2_init 42 = .ok (.putfield 26, 3) := by decide +kernel
theorem dX2_init_45 : decode cX2_init 45 = .ok (.aload_n 0, 1) := by decide +kernel
theorem dX2_init_46 : decode cX2_init 46 = .ok (.bipush 9, 2) := by decide +kernel
theorem dX2_init_48 : decode cX2_init 48 = .ok (.newarray .int, 2) := by decide +kernel
theorem dX2_init_50 : decode cX2_init 50 = .ok (.putfield 30, 3) := by decide +kernel
theorem dX2_init_53 : decode cX2_init 53 = .ok (.aload_n 0, 1) := by decide +kernel
theorem dX2_init_54 : decode cX2_init 54 = .ok (.bipush 9, 2) := by decide +kernel
theorem dX2_init_56 : decode cX2_init 56 = .ok (.newarray .int, 2) := by decide +kernel
theorem dX2_init_58 : decode cX2_init 58 = .ok (.putfield 33, 3) := by decide +kernel
theorem dX2_init_61 : decode cX2_init 61 = .ok (.aload_n 0, 1) := by decide +kernel
theorem dX2_init_62 : decode cX2_init 62 = .ok (.iconst 2, 1) := by decide +kernel
theorem dX2_init_63 : decode cX2_init 63 = .ok (.iconst 2, 1) := by decide +kernel
theorem dX2_init_64 : decode cX2_init 64 = .ok (.invokevirtual 36, 3) := by decide +kernel
theorem dX2_init_67 : decode cX2_init 67 = .ok (.return_, 1) := by decide +kernel
set_option maxRecDepth 20000 in
theorem ggX2_lay_X2_startWith : GoodIn wsX2_lay wsX2_startWith := goodIn_r _ [8, 3, 9, 10, 11, 12, 13, 14, 15, 16, 17, 18, 19, 20, 21, 22, 23, 24, 25, 26, 27, 28, 29, 30, 7, 31, 32, 33, 34, 35, 36, 37, 38, 39, 40, 41, 42, 43, 44, 45, 46, 47, 48, 49, 50, 51] (by decide +kernel) (by decide +kernel)
set_option maxRecDepth 20000 in
theorem gX2_lay_X2_startWith : GoodIn wsX2_lay (wsV RX2 36 RX2 yX2_startWith wsX2_startWith) := goodIn_app (goodIn_of _ (by decide +kernel)) ggX2_lay_X2_startWith
theorem dX2_lay_0 : decode cX2_lay 0 = .ok (.iload_n 1, 1) := by decide +kernel
theorem dX2_lay_1 : decode cX2_lay 1 = .ok (.iconst 2, 1) := by decide +kernel
theorem dX2_lay_2 : decode cX2_lay 2 = .ok (.if_icmp .lt 28, 3) := by decide +kernel
theorem dX2_lay_5 : decode cX2_lay 5 = .ok (.iload_n 1, 1) := by decide +kernel
theorem dX2_lay_6 : decode cX2_lay 6 = .ok (.iconst 4, 1) := by decide +kernel
theorem dX2_lay_7 : decode cX2_lay 7 = .ok (.if_icmp .gt 23, 3) := by decide +kernel
theorem dX2_lay_10 : decode cX2_lay 10 = .ok (.iload_n 2, 1) := by decide +kernel
theorem dX2_lay_11 : decode cX2_lay 11 = .ok (.iconst 2, 1) := by decide +kernel
theorem dX2_lay_12 : decode cX2_lay 12 = .ok (.if_icmp .lt 18, 3) := by decide +kernel
theorem dX2_lay_15 : decode cX2_lay 15 = .ok (.iload_n 2, 1) := by decide +kernel
theorem dX2_lay_16 : decode cX2_lay 16 = .ok (.iconst 3, 1) := by decide +kernel
theorem dX2_lay_17 : decode cX2_lay 17 = .ok (.if_icmp .gt 13, 3) := by decide +kernel
theorem dX2_lay_20 : decode cX2_lay 20 = .ok (.iload_n 1, 1) := by decide +kernel
theorem dX2_lay_21 : decode cX2_lay 21 = .ok (.iconst 4, 1) := by decide +kernel
theorem dX2_lay_22 : decode cX2_lay 22 = .ok (.if_icmp .ne 18, 3) := by decide +kernel
theorem dX2_lay_25 : decode cX2_lay 25 = .ok (.iload_n 2, 1) := by decide +kernel
theorem dX2_lay_26 : decode cX2_lay 26 = .ok (.iconst 3, 1) := by decide +kernel
theorem dX2_lay_27 : decode cX2_lay 27 = .ok (.if_icmp .ne 13, 3) := by decide +kernel
theorem dX2_lay_30 : decode cX2_lay 30 = .ok (.new 40, 3) := by decide +kernel
theorem dX2_lay_33 : decode cX2_lay 33 = .ok (.dup, 1) := by decide +kernel
theorem dX2_lay_34 : decode cX2_lay 34 = .ok (.ldc 42, 2) := by decide +kernel
theorem dX2_lay_36 : decode cX2_lay 36 = .ok (.invokespecial 44, 3) := by decide +kernel
theorem dX2_lay_39 : decode cX2_lay 39 = .ok (.athrow, 1) := by decide +kernel
theorem dX2_lay_40 : decode cX2_lay 40 = .ok (.aload_n 0, 1) := by decide +kernel
theorem dX2_lay_41 : decode cX2_lay 41 = .ok (.iload_n 1, 1) := by decide +kernel
theorem dX2_lay_42 : decode cX2_lay 42 = .ok (.iload_n 2, 1) := by decide +kernel
theorem dX2_lay_43 : decode cX2_lay 43 = .ok (.invokevirtual 36, 3) := by decide +kernel
theorem dX2_lay_46 : decode cX2_lay 46 = .ok (.aload_n 0, 1) := by decide +kernel
theorem dX2_lay_47 : decode cX2_lay 47 = .ok (.getfield 10, 3) := by decide +kernel
theorem dX2_lay_50 : decode cX2_lay 50 = .ok (.getfield 47, 3) := by decide +kernel
theorem dX2_lay_53 : decode cX2_lay 53 = .ok (.ireturn, 1) := by decide +kernel
set_option maxRecDepth 20000 in
theorem ggX2_setRegion_X0_hasTeam : GoodIn wsX2_setRegion wsX0_hasTeam := goodIn_r _ [8, 9, 37, 38, 39, 40, 41, 42, 43, 44, 45] (by decide +kernel) (by decide +kernel)
set_option maxRecDepth 20000 in
theorem gX2_setRegion_X0_hasTeam : GoodIn wsX2_setRegion (wsV RX2 51 RX0 yX0_hasTeam wsX0_hasTeam) := goodIn_app (goodIn_of _ (by decide +kernel)) ggX2_setRegion_X0_hasTeam
set_option maxRecDepth 20000 in
theorem ggX2_setRegion_X0_hasRegion : GoodIn wsX2_setRegion wsX0_hasRegion := goodIn_r _ [13] (by decide +kernel) (by decide +kernel)
set_option maxRecDepth 20000 in
theorem gX2_setRegion_X0_hasRegion : GoodIn wsX2_setRegion (wsV RX2 55 RX0 yX0_hasRegion wsX0_hasRegion) := goodIn_app (goodIn_of _ (by decide +kernel)) ggX2_setRegion_X0_hasRegion
set_option maxRecDepth 20000 in
theorem ggX2_setRegion_X2_requireNothingDrawn : GoodIn wsX2_setRegion wsX2_requireNothingDrawn := goodIn_ca (goodIn_r _ [18, 19, 20, 21, 28, 29, 30, 31, 32, 33, 34, 35, 36] (by decide +kernel) (by decide +kernel)) (goodIn_sub (fun _ h => List.mem_cons_of_mem _ (List.mem_append_right _ h)) (by decide +kernel))
set_option maxRecDepth 20000 in
theorem gX2_setRegion_X2_requireNothingDrawn : GoodIn wsX2_setRegion (wsV RX2 63 RX2 yX2_requireNothingDrawn wsX2_requireNothingDrawn) := goodIn_app (goodIn_of _ (by decide +kernel)) ggX2_setRegion_X2_requireNothingDrawn
set_option maxRecDepth 20000 in
theorem ggX2_setRegion_X2_forgetResults : GoodIn wsX2_setRegion wsX2_forgetResults := goodIn_r _ [25, 26, 27, 28, 29, 30, 31, 32, 33, 34, 35, 36] (by decide +kernel) (by decide +kernel)
set_option maxRecDepth 20000 in
theorem gX2_setRegion_X2_forgetResults : GoodIn wsX2_setRegion (wsV RX2 69 RX2 yX2_forgetResults wsX2_forgetResults) := goodIn_app (goodIn_of _ (by decide +kernel)) ggX2_setRegion_X2_forgetResults
theorem dX2_setRegion_0 : decode cX2_setRegion 0 = .ok (.aload_n 0, 1) := by decide +kernel
theorem dX2_setRegion_1 : decode cX2_setRegion 1 = .ok (.getfield 10, 3) := by decide +kernel
theorem dX2_setRegion_4 : decode cX2_setRegion 4 = .ok (.iload_n 1, 1) := by decide +kernel
theorem dX2_setRegion_5 : decode cX2_setRegion 5 = .ok (.invokevirtual 51, 3) := by decide +kernel
theorem dX2_setRegion_8 : decode cX2_setRegion 8 = .ok (.ifCond .eq 14, 3) := by decide +kernel
theorem dX2_setRegion_11 : decode cX2_setRegion 11 = .ok (.aload_n 0, 1) := by decide +kernel
theorem dX2_setRegion_12 : decode cX2_setRegion 12 = .ok (.getfield 10, 3) := by decide +kernel
theorem dX2_setRegion_15 : decode cX2_setRegion 15 = .ok (.iload_n 2, 1) := by decide +kernel
theorem dX2_setRegion_16 : decode cX2_setRegion 16 = .ok (.invokevirtual 55, 3) := by decide +kernel
theorem dX2_setRegion_19 : decode cX2_setRegion 19 = .ok (.ifCond .ne 13, 3) := by decide +kernel
theorem dX2_setRegion_22 : decode cX2_setRegion 22 = .ok (.new 58, 3) := by decide +kernel
theorem dX2_setRegion_25 : decode cX2_setRegion 25 = .ok (.dup, 1) := by decide +kernel
theorem dX2_setRegion_26 : decode cX2_setRegion 26 = .ok (.ldc 60, 2) := by decide +kernel
theorem dX2_setRegion_28 : decode cX2_setRegion 28 = .ok (.invokespecial 62, 3) := by decide +kernel
theorem dX2_setRegion_31 : decode cX2_setRegion 31 = .ok (.athrow, 1) := by decide +kernel
theorem dX2_setRegion_32 : decode cX2_setRegion 32 = .ok (.aload_n 0, 1) := by decide +kernel
theorem dX2_setRegion_33 : decode cX2_setRegion 33 = .ok (.invokevirtual 63, 3) := by decide +kernel
theorem dX2_setRegion_36 : decode cX2_setRegion 36 = .ok (.aload_n 0, 1) := by decide +kernel
theorem dX2_setRegion_37 : decode cX2_setRegion 37 = .ok (.getfield 10, 3) := by decide +kernel
theorem dX2_setRegion_40 : decode cX2_setRegion 40 = .ok (.getfield 66, 3) := by decide +kernel
theorem dX2_setRegion_43 : decode cX2_setRegion 43 = .ok (.iload_n 1, 1) := by decide +kernel
theorem dX2_setRegion_44 : decode cX2_setRegion 44 = .ok (.iaload, 1) := by decide +kernel
theorem dX2_setRegion_45 : decode cX2_setRegion 45 = .ok (.istore_n 3, 1) := by decide +kernel
theorem dX2_setRegion_46 : decode cX2_setRegion 46 = .ok (.aload_n 0, 1) := by decide +kernel
theorem dX2_setRegion_47 : decode cX2_setRegion 47 = .ok (.getfield 10, 3) := by decide +kernel
theorem dX2_setRegion_50 : decode cX2_setRegion 50 = .ok (.getfield 66, 3) := by decide +kernel
theorem dX2_setRegion_53 : decode cX2_setRegion 53 = .ok (.iload_n 1, 1) := by decide +kernel
theorem dX2_setRegion_54 : decode cX2_setRegion 54 = .ok (.iload_n 2, 1) := by decide +kernel
theorem dX2_setRegion_55 : decode cX2_setRegion 55 = .ok (.iastore, 1) := by decide +kernel
theorem dX2_setRegion_56 : decode cX2_setRegion 56 = .ok (.aload_n 0, 1) := by decide +kernel
theorem dX2_setRegion_57 : decode cX2_setRegion 57 = .ok (.invokevirtual 69, 3) := by decide +kernel
theorem dX2_setRegion_60 : decode cX2_setRegion 60 = .ok (.iload_n 3, 1) := by decide +kernel
theorem dX2_setRegion_61 : decode cX2_setRegion 61 = .ok (.ireturn, 1) := by decide +kernel
set_option maxRecDepth 20000 in
theorem ggX2_setBound_X0_hasRegion : GoodIn wsX2_setBound wsX0_hasRegion := goodIn_r _ [10] (by decide +kernel) (by decide +kernel)
set_option maxRecDepth 20000 in
theorem gX2_setBound_X0_hasRegion : GoodIn wsX2_setBound (wsV RX2 55 RX0 yX0_hasRegion wsX0_hasRegion) := goodIn_app (goodIn_of _ (by decide +kernel)) ggX2_setBound_X0_hasRegion
set_option maxRecDepth 20000 in
theorem ggX2_setBound_X2_requireNothingDrawn : GoodIn wsX2_setBound wsX2_requireNothingDrawn := goodIn_ca (goodIn_r _ [15, 16, 17, 18, 25, 26, 27, 28, 29, 30, 31, 32, 33] (by decide +kernel) (by decide +kernel)) (goodIn_sub (fun _ h => List.mem_cons_of_mem _ (List.mem_append_right _ h)) (by decide +kernel))
set_option maxRecDepth 20000 in
theorem gX2_setBound_X2_requireNothingDrawn : GoodIn wsX2_setBound (wsV RX2 63 RX2 yX2_requireNothingDrawn wsX2_requireNothingDrawn) := goodIn_app (goodIn_of _ (by decide +kernel)) ggX2_setBound_X2_requireNothingDrawn
set_option maxRecDepth 20000 in
theorem ggX2_setBound_X2_forgetResults : GoodIn wsX2_setBound wsX2_forgetResults := goodIn_r _ [22, 23, 24, 25, 26, 27, 28, 29, 30, 31, 32, 33] (by decide +kernel) (by decide +kernel)
set_option maxRecDepth 20000 in
theorem gX2_setBound_X2_forgetResults : GoodIn wsX2_setBound (wsV RX2 69 RX2 yX2_forgetResults wsX2_forgetResults) := goodIn_app (goodIn_of _ (by decide +kernel)) ggX2_setBound_X2_forgetResults
theorem dX2_setBound_0 : decode cX2_setBound 0 = .ok (.aload_n 0, 1) := by decide +kernel
theorem dX2_setBound_1 : decode cX2_setBound 1 = .ok (.getfield 10, 3) := by decide +kernel
theorem dX2_setBound_4 : decode cX2_setBound 4 = .ok (.iload_n 1, 1) := by decide +kernel
theorem dX2_setBound_5 : decode cX2_setBound 5 = .ok (.invokevirtual 55, 3) := by decide +kernel
theorem dX2_setBound_8 : decode cX2_setBound 8 = .ok (.ifCond .ne 13, 3) := by decide +kernel
theorem dX2_setBound_11 : decode cX2_setBound 11 = .ok (.new 58, 3) := by decide +kernel
theorem dX2_setBound_14 : decode cX2_setBound 14 = .ok (.dup, 1) := by decide +kernel
theorem dX2_setBound_15 : decode cX2_setBound 15 = .ok (.ldc 72, 2) := by decide +kernel
theorem dX2_setBound_17 : decode cX2_setBound 17 = .ok (.invokespecial 62, 3) := by decide +kernel
theorem dX2_setBound_20 : decode cX2_setBound 20 = .ok (.athrow, 1) := by decide +kernel
theorem dX2_setBound_21 : decode cX2_setBound 21 = .ok (.iload_n 2, 1) := by decide +kernel
theorem dX2_setBound_22 : decode cX2_setBound 22 = .ok (.iconst 1, 1) := by decide +kernel
theorem dX2_setBound_23 : decode cX2_setBound 23 = .ok (.if_icmp .lt 8, 3) := by decide +kernel
theorem dX2_setBound_26 : decode cX2_setBound 26 = .ok (.iload_n 2, 1) := by decide +kernel
theorem dX2_setBound_27 : decode cX2_setBound 27 = .ok (.iconst 3, 1) := by decide +kernel
theorem dX2_setBound_28 : decode cX2_setBound 28 = .ok (.if_icmp .le 13, 3) := by decide +kernel
theorem dX2_setBound_31 : decode cX2_setBound 31 = .ok (.new 40, 3) := by decide +kernel
theorem dX2_setBound_34 : decode cX2_setBound 34 = .ok (.dup, 1) := by decide +kernel
theorem dX2_setBound_35 : decode cX2_setBound 35 = .ok (.ldc 74, 2) := by decide +kernel
theorem dX2_setBound_37 : decode cX2_setBound 37 = .ok (.invokespecial 44, 3) := by decide +kernel
theorem dX2_setBound_40 : decode cX2_setBound 40 = .ok (.athrow, 1) := by decide +kernel
theorem dX2_setBound_41 : decode cX2_setBound 41 = .ok (.aload_n 0, 1) := by decide +kernel
theorem dX2_setBound_42 : decode cX2_setBound 42 = .ok (.invokevirtual 63, 3) := by decide +kernel
theorem dX2_setBound_45 : decode cX2_setBound 45 = .ok (.aload_n 0, 1) := by decide +kernel
theorem dX2_setBound_46 : decode cX2_setBound 46 = .ok (.getfield 10, 3) := by decide +kernel
theorem dX2_setBound_49 : decode cX2_setBound 49 = .ok (.getfield 76, 3) := by decide +kernel
theorem dX2_setBound_52 : decode cX2_setBound 52 = .ok (.iload_n 1, 1) := by decide +kernel
theorem dX2_setBound_53 : decode cX2_setBound 53 = .ok (.iaload, 1) := by decide +kernel
theorem dX2_setBound_54 : decode cX2_setBound 54 = .ok (.istore_n 3, 1) := by decide +kernel
theorem dX2_setBound_55 : decode cX2_setBound 55 = .ok (.aload_n 0, 1) := by decide +kernel
theorem dX2_setBound_56 : decode cX2_setBound 56 = .ok (.getfield 10, 3) := by decide +kernel
theorem dX2_setBound_59 : decode cX2_setBound 59 = .ok (.getfield 76, 3) := by decide +kernel
theorem dX2_setBound_62 : decode cX2_setBound 62 = .ok (.iload_n 1, 1) := by decide +kernel
theorem dX2_setBound_63 : decode cX2_setBound 63 = .ok (.iload_n 2, 1) := by decide +kernel
theorem dX2_setBound_64 : decode cX2_setBound 64 = .ok (.iastore, 1) := by decide +kernel
theorem dX2_setBound_65 : decode cX2_setBound 65 = .ok (.aload_n 0, 1) := by decide +kernel
theorem dX2_setBound_66 : decode cX2_setBound 66 = .ok (.invokevirtual 69, 3) := by decide +kernel
theorem dX2_setBound_69 : decode cX2_setBound 69 = .ok (.iload_n 3, 1) := by decide +kernel
theorem dX2_setBound_70 : decode cX2_setBound 70 = .ok (.ireturn, 1) := by decide +kernel
set_option maxRecDepth 20000 in
theorem ggX2_setApart_X2_requireTwoTeams : GoodIn wsX2_setApart wsX2_requireTwoTeams := goodIn_ca (goodIn_ca (goodIn_r _ [6, 7, 8, 9, 10, 11, 5, 12, 13, 14, 1, 15, 16, 17, 18, 19, 20, 37, 38, 39, 40, 41, 42, 43, 44, 45, 46, 47, 48, 49, 50, 51, 52, 53, 54] (by decide +kernel) (by decide +kernel)) (goodIn_sub (fun _ h => List.mem_cons_of_mem _ (List.mem_append_left _ (List.mem_append_left _ (List.mem_append_right _ h)))) (by decide +kernel))) (goodIn_sub (fun _ h => List.mem_cons_of_mem _ (List.mem_append_left _ (List.mem_append_right _ h))) (by decide +kernel))
set_option maxRecDepth 20000 in
theorem gX2_setApart_X2_requireTwoTeams : GoodIn wsX2_setApart (wsV RX2 79 RX2 yX2_requireTwoTeams wsX2_requireTwoTeams) := goodIn_app (goodIn_of _ (by decide +kernel)) ggX2_setApart_X2_requireTwoTeams
set_option maxRecDepth 20000 in
theorem ggX2_setApart_X2_requireNothingDrawn : GoodIn wsX2_setApart wsX2_requireNothingDrawn := goodIn_ca (goodIn_r _ [24, 25, 26, 27, 37, 38, 39, 40, 41, 42, 43, 44, 45] (by decide +kernel) (by decide +kernel)) (goodIn_sub (fun _ h => List.mem_cons_of_mem _ (List.mem_append_right _ h)) (by decide +kernel))
set_option maxRecDepth 20000 in
theorem gX2_setApart_X2_requireNothingDrawn : GoodIn wsX2_setApart (wsV RX2 63 RX2 yX2_requireNothingDrawn wsX2_requireNothingDrawn) := goodIn_app (goodIn_of _ (by decide +kernel)) ggX2_setApart_X2_requireNothingDrawn
set_option maxRecDepth 20000 in
theorem ggX2_setApart_X2_forgetResults : GoodIn wsX2_setApart wsX2_forgetResults := goodIn_r _ [31, 32, 33, 37, 38, 39, 40, 41, 42, 43, 44, 45] (by decide +kernel) (by decide +kernel)
set_option maxRecDepth 20000 in
theorem gX2_setApart_X2_forgetResults : GoodIn wsX2_setApart (wsV RX2 69 RX2 yX2_forgetResults wsX2_forgetResults) := goodIn_app (goodIn_of _ (by decide +kernel)) ggX2_setApart_X2_forgetResults
set_option maxRecDepth 20000 in
theorem ggX2_setApart_X0_setPair : GoodIn wsX2_setApart wsX0_setPair := goodIn_r _ [36] (by decide +kernel) (by decide +kernel)
set_option maxRecDepth 20000 in
theorem gX2_setApart_X0_setPair : GoodIn wsX2_setApart (va_wsS RX2 85 yX0_setPair wsX0_setPair) := goodIn_app (goodIn_of _ (by decide +kernel)) ggX2_setApart_X0_setPair
theorem dX2_setApart_0 : decode cX2_setApart 0 = .ok (.aload_n 0, 1) := by decide +kernel
theorem dX2_setApart_1 : decode cX2_setApart 1 = .ok (.iload_n 1, 1) := by decide +kernel
theorem dX2_setApart_2 : decode cX2_setApart 2 = .ok (.iload_n 2, 1) := by decide +kernel
theorem dX2_setApart_3 : decode cX2_setApart 3 = .ok (.invokevirtual 79, 3) := by decide +kernel
theorem dX2_setApart_6 : decode cX2_setApart 6 = .ok (.aload_n 0, 1) := by decide +kernel
theorem dX2_setApart_7 : decode cX2_setApart 7 = .ok (.invokevirtual 63, 3) := by decide +kernel
theorem dX2_setApart_10 : decode cX2_setApart 10 = .ok (.aload_n 0, 1) := by decide +kernel
theorem dX2_setApart_11 : decode cX2_setApart 11 = .ok (.invokevirtual 69, 3) := by decide +kernel
theorem dX2_setApart_14 : decode cX2_setApart 14 = .ok (.aload_n 0, 1) := by decide +kernel
theorem dX2_setApart_15 : decode cX2_setApart 15 = .ok (.getfield 10, 3) := by decide +kernel
theorem dX2_setApart_18 : decode cX2_setApart 18 = .ok (.getfield 82, 3) := by decide +kernel
theorem dX2_setApart_21 : decode cX2_setApart 21 = .ok (.iload_n 1, 1) := by decide +kernel
theorem dX2_setApart_22 : decode cX2_setApart 22 = .ok (.iload_n 2, 1) := by decide +kernel
theorem dX2_setApart_23 : decode cX2_setApart 23 = .ok (.iload_n 3, 1) := by decide +kernel
theorem dX2_setApart_24 : decode cX2_setApart 24 = .ok (.invokestatic 85, 3) := by decide +kernel
theorem dX2_setApart_27 : decode cX2_setApart 27 = .ok (.ireturn, 1) := by decide +kernel
set_option maxRecDepth 20000 in
theorem ggX2_setOtherDays_X2_requireTwoTeams : GoodIn wsX2_setOtherDays wsX2_requireTwoTeams := goodIn_ca (goodIn_ca (goodIn_r _ [6, 7, 8, 9, 10, 11, 5, 12, 13, 14, 1, 15, 16, 17, 18, 19, 20, 37, 38, 39, 40, 41, 42, 43, 44, 45, 46, 47, 48, 49, 50, 51, 52, 53, 54] (by decide +kernel) (by decide +kernel)) (goodIn_sub (fun _ h => List.mem_cons_of_mem _ (List.mem_append_left _ (List.mem_append_left _ (List.mem_append_right _ h)))) (by decide +kernel))) (goodIn_sub (fun _ h => List.mem_cons_of_mem _ (List.mem_append_left _ (List.mem_append_right _ h))) (by decide +kernel))
set_option maxRecDepth 20000 in
theorem gX2_setOtherDays_X2_requireTwoTeams : GoodIn wsX2_setOtherDays (wsV RX2 79 RX2 yX2_requireTwoTeams wsX2_requireTwoTeams) := goodIn_app (goodIn_of _ (by decide +kernel)) ggX2_setOtherDays_X2_requireTwoTeams
set_option maxRecDepth 20000 in
theorem ggX2_setOtherDays_X2_requireNothingDrawn : GoodIn wsX2_setOtherDays wsX2_requireNothingDrawn := goodIn_ca (goodIn_r _ [24, 25, 26, 27, 37, 38, 39, 40, 41, 42, 43, 44, 45] (by decide +kernel) (by decide +kernel)) (goodIn_sub (fun _ h => List.mem_cons_of_mem _ (List.mem_append_right _ h)) (by decide +kernel))
set_option maxRecDepth 20000 in
theorem gX2_setOtherDays_X2_requireNothingDrawn : GoodIn wsX2_setOtherDays (wsV RX2 63 RX2 yX2_requireNothingDrawn wsX2_requireNothingDrawn) := goodIn_app (goodIn_of _ (by decide +kernel)) ggX2_setOtherDays_X2_requireNothingDrawn
set_option maxRecDepth 20000 in
theorem ggX2_setOtherDays_X2_forgetResults : GoodIn wsX2_setOtherDays wsX2_forgetResults := goodIn_r _ [31, 32, 33, 37, 38, 39, 40, 41, 42, 43, 44, 45] (by decide +kernel) (by decide +kernel)
set_option maxRecDepth 20000 in
theorem gX2_setOtherDays_X2_forgetResults : GoodIn wsX2_setOtherDays (wsV RX2 69 RX2 yX2_forgetResults wsX2_forgetResults) := goodIn_app (goodIn_of _ (by decide +kernel)) ggX2_setOtherDays_X2_forgetResults
set_option maxRecDepth 20000 in
theorem ggX2_setOtherDays_X0_setPair : GoodIn wsX2_setOtherDays wsX0_setPair := goodIn_r _ [36] (by decide +kernel) (by decide +kernel)
set_option maxRecDepth 20000 in
theorem gX2_setOtherDays_X0_setPair : GoodIn wsX2_setOtherDays (va_wsS RX2 85 yX0_setPair wsX0_setPair) := goodIn_app (goodIn_of _ (by decide +kernel)) ggX2_setOtherDays_X0_setPair
theorem dX2_setOtherDays_0 : decode cX2_setOtherDays 0 = .ok (.aload_n 0, 1) := by decide +kernel
theorem dX2_setOtherDays_1 : decode cX2_setOtherDays 1 = .ok (.iload_n 1, 1) := by decide +kernel
theorem dX2_setOtherDays_2 : decode cX2_setOtherDays 2 = .ok (.iload_n 2, 1) := by decide +kernel
theorem dX2_setOtherDays_3 : decode cX2_setOtherDays 3 = .ok (.invokevirtual 79, 3) := by decide +kernel
theorem dX2_setOtherDays_6 : decode cX2_setOtherDays 6 = .ok (.aload_n 0, 1) := by decide +kernel
theorem dX2_setOtherDays_7 : decode cX2_setOtherDays 7 = .ok (.invokevirtual 63, 3) := by decide +kernel
theorem dX2_setOtherDays_10 : decode cX2_setOtherDays 10 = .ok (.aload_n 0, 1) := by decide +kernel
theorem dX2_setOtherDays_11 : decode cX2_setOtherDays 11 = .ok (.invokevirtual 69, 3) := by decide +kernel
theorem dX2_setOtherDays_14 : decode cX2_setOtherDays 14 = .ok (.aload_n 0, 1) := by decide +kernel
theorem dX2_setOtherDays_15 : decode cX2_setOtherDays 15 = .ok (.getfield 10, 3) := by decide +kernel
theorem dX2_setOtherDays_18 : decode cX2_setOtherDays 18 = .ok (.getfield 89, 3) := by decide +kernel
theorem dX2_setOtherDays_21 : decode cX2_setOtherDays 21 = .ok (.iload_n 1, 1) := by decide +kernel
theorem dX2_setOtherDays_22 : decode cX2_setOtherDays 22 = .ok (.iload_n 2, 1) := by decide +kernel
theorem dX2_setOtherDays_23 : decode cX2_setOtherDays 23 = .ok (.iload_n 3, 1) := by decide +kernel
theorem dX2_setOtherDays_24 : decode cX2_setOtherDays 24 = .ok (.invokestatic 85, 3) := by decide +kernel
theorem dX2_setOtherDays_27 : decode cX2_setOtherDays 27 = .ok (.ireturn, 1) := by decide +kernel
set_option maxRecDepth 20000 in
theorem ggX2_draw_X2_openResults : GoodIn wsX2_draw wsX2_openResults := goodIn_r _ [13, 14, 15, 6, 16, 17, 18, 19, 20, 21, 22, 23, 24, 25, 26, 27, 28, 29, 30, 31, 32, 33, 34, 35, 36, 37, 38, 39, 40, 41, 42, 43, 44, 45, 46, 47, 48, 49, 50, 51, 52, 53, 54, 55, 56, 57, 58, 59, 60, 61, 62, 92, 93, 94, 95, 96, 97, 98, 99, 100, 110, 111, 101, 102, 103, 104, 105, 106, 107, 108, 109] (by decide +kernel) (by decide +kernel)
set_option maxRecDepth 20000 in
theorem gX2_draw_X2_openResults : GoodIn wsX2_draw (wsV RX2 95 RX2 yX2_openResults wsX2_openResults) := goodIn_app (goodIn_of _ (by decide +kernel)) ggX2_draw_X2_openResults
set_option maxRecDepth 20000 in
theorem ggX2_draw_X2_findBall : GoodIn wsX2_draw wsX2_findBall := goodIn_r _ [66, 6, 8, 67, 68, 69, 12, 70, 71, 72, 73, 74, 92, 93, 94, 95, 96, 97, 98, 99, 100, 101, 102, 103, 104, 105, 106, 107, 108, 109] (by decide +kernel) (by decide +kernel)
set_option maxRecDepth 20000 in
theorem gX2_draw_X2_findBall : GoodIn wsX2_draw (wsV RX2 107 RX2 yX2_findBall wsX2_findBall) := goodIn_app (goodIn_of _ (by decide +kernel)) ggX2_draw_X2_findBall
set_option maxRecDepth 20000 in
theorem ggX2_draw_X2_seat : GoodIn wsX2_draw wsX2_seat := goodIn_r _ [78, 15, 79, 5, 8, 80, 81, 82, 83, 19, 84, 21, 37, 85, 86, 87, 88, 89, 90, 91, 92, 93, 94, 95, 96, 97, 98, 99, 100, 110, 111] (by decide +kernel) (by decide +kernel)
set_option maxRecDepth 20000 in
theorem gX2_draw_X2_seat : GoodIn wsX2_draw (wsV RX2 117 RX2 yX2_seat wsX2_seat) := goodIn_app (goodIn_of _ (by decide +kernel)) ggX2_draw_X2_seat
theorem dX2_draw_0 : decode cX2_draw 0 = .ok (.aload_n 0, 1) := by decide +kernel
theorem dX2_draw_1 : decode cX2_draw 1 = .ok (.getfield 92, 3) := by decide +kernel
theorem dX2_draw_4 : decode cX2_draw 4 = .ok (.aload_n 0, 1) := by decide +kernel
theorem dX2_draw_5 : decode cX2_draw 5 = .ok (.getfield 10, 3) := by decide +kernel
theorem dX2_draw_8 : decode cX2_draw 8 = .ok (.getfield 47, 3) := by decide +kernel
theorem dX2_draw_11 : decode cX2_draw 11 = .ok (.if_icmp .ge 13, 3) := by decide +kernel
theorem dX2_draw_14 : decode cX2_draw 14 = .ok (.aload_n 0, 1) := by decide +kernel
theorem dX2_draw_15 : decode cX2_draw 15 = .ok (.invokevirtual 95, 3) := by decide +kernel
theorem dX2_draw_18 : decode cX2_draw 18 = .ok (.getfield 99, 3) := by decide +kernel
theorem dX2_draw_21 : decode cX2_draw 21 = .ok (.ifCond .ne 13, 3) := by decide +kernel
theorem dX2_draw_24 : decode cX2_draw 24 = .ok (.new 102, 3) := by decide +kernel
theorem dX2_draw_27 : decode cX2_draw 27 = .ok (.dup, 1) := by decide +kernel
theorem dX2_draw_28 : decode cX2_draw 28 = .ok (.ldc 104, 2) := by decide +kernel
theorem dX2_draw_30 : decode cX2_draw 30 = .ok (.invokespecial 106, 3) := by decide +kernel
theorem dX2_draw_33 : decode cX2_draw 33 = .ok (.athrow, 1) := by decide +kernel
theorem dX2_draw_34 : decode cX2_draw 34 = .ok (.aload_n 0, 1) := by decide +kernel
theorem dX2_draw_35 : decode cX2_draw 35 = .ok (.iload_n 1, 1) := by decide +kernel
theorem dX2_draw_36 : decode cX2_draw 36 = .ok (.invokevirtual 107, 3) := by decide +kernel
theorem dX2_draw_39 : decode cX2_draw 39 = .ok (.istore_n 2, 1) := by decide +kernel
theorem dX2_draw_40 : decode cX2_draw 40 = .ok (.iload_n 2, 1) := by decide +kernel
theorem dX2_draw_41 : decode cX2_draw 41 = .ok (.iconst (-1), 1) := by decide +kernel
theorem dX2_draw_42 : decode cX2_draw 42 = .ok (.if_icmp .ne 13, 3) := by decide +kernel
theorem dX2_draw_45 : decode cX2_draw 45 = .ok (.new 58, 3) := by decide +kernel
theorem dX2_draw_48 : decode cX2_draw 48 = .ok (.dup, 1) := by decide +kernel
theorem dX2_draw_49 : decode cX2_draw 49 = .ok (.ldc 111, 2) := by decide +kernel
theorem dX2_draw_51 : decode cX2_draw 51 = .ok (.invokespecial 62, 3) := by decide +kernel
theorem dX2_draw_54 : decode cX2_draw 54 = .ok (.athrow, 1) := by decide +kernel
theorem dX2_draw_55 : decode cX2_draw 55 = .ok (.aload_n 0, 1) := by decide +kernel
theorem dX2_draw_56 : decode cX2_draw 56 = .ok (.iconst 0, 1) := by decide +kernel
theorem dX2_draw_57 : decode cX2_draw 57 = .ok (.putfield 113, 3) := by decide +kernel
theorem dX2_draw_60 : decode cX2_draw 60 = .ok (.aload_n 0, 1) := by decide +kernel
theorem dX2_draw_61 : decode cX2_draw 61 = .ok (.iload_n 2, 1) := by decide +kernel
theorem dX2_draw_62 : decode cX2_draw 62 = .ok (.invokevirtual 117, 3) := by decide +kernel
theorem dX2_draw_65 : decode cX2_draw 65 = .ok (.aload_n 0, 1) := by decide +kernel
theorem dX2_draw_66 : decode cX2_draw 66 = .ok (.getfield 26, 3) := by decide +kernel
theorem dX2_draw_69 : decode cX2_draw 69 = .ok (.iload_n 2, 1) := by decide +kernel
theorem dX2_draw_70 : decode cX2_draw 70 = .ok (.iaload, 1) := by decide +kernel
theorem dX2_draw_71 : decode cX2_draw 71 = .ok (.ireturn, 1) := by decide +kernel
set_option maxRecDepth 20000 in
theorem ggX2_undo_X2_unseat : GoodIn wsX2_undo wsX2_unseat := goodIn_r _ [9, 3, 10, 11, 12, 13, 14, 15, 16, 17, 18, 19, 20, 21, 22, 23, 24, 25, 26, 27, 28, 29, 30] (by decide +kernel) (by decide +kernel)
set_option maxRecDepth 20000 in
theorem gX2_undo_X2_unseat : GoodIn wsX2_undo (wsV RX2 123 RX2 yX2_unseat wsX2_unseat) := goodIn_app (goodIn_of _ (by decide +kernel)) ggX2_undo_X2_unseat
theorem dX2_undo_0 : decode cX2_undo 0 = .ok (.aload_n 0, 1) := by decide +kernel
theorem dX2_undo_1 : decode cX2_undo 1 = .ok (.getfield 92, 3) := by decide +kernel
theorem dX2_undo_4 : decode cX2_undo 4 = .ok (.ifCond .gt 13, 3) := by decide +kernel
theorem dX2_undo_7 : decode cX2_undo 7 = .ok (.new 102, 3) := by decide +kernel
theorem dX2_undo_10 : decode cX2_undo 10 = .ok (.dup, 1) := by decide +kernel
theorem dX2_undo_11 : decode cX2_undo 11 = .ok (.ldc 121, 2) := by decide +kernel
theorem dX2_undo_13 : decode cX2_undo 13 = .ok (.invokespecial 106, 3) := by decide +kernel
theorem dX2_undo_16 : decode cX2_undo 16 = .ok (.athrow, 1) := by decide +kernel
theorem dX2_undo_17 : decode cX2_undo 17 = .ok (.aload_n 0, 1) := by decide +kernel
theorem dX2_undo_18 : decode cX2_undo 18 = .ok (.iconst 0, 1) := by decide +kernel
theorem dX2_undo_19 : decode cX2_undo 19 = .ok (.putfield 113, 3) := by decide +kernel
theorem dX2_undo_22 : decode cX2_undo 22 = .ok (.aload_n 0, 1) := by decide +kernel
theorem dX2_undo_23 : decode cX2_undo 23 = .ok (.invokevirtual 123, 3) := by decide +kernel
theorem dX2_undo_26 : decode cX2_undo 26 = .ok (.ireturn, 1) := by decide +kernel
theorem dX2_drawn_0 : decode cX2_drawn 0 = .ok (.aload_n 0, 1) := by decide +kernel
theorem dX2_drawn_1 : decode cX2_drawn 1 = .ok (.getfield 92, 3) := by decide +kernel
theorem dX2_drawn_4 : decode cX2_drawn 4 = .ok (.ireturn, 1) := by decide +kernel
set_option maxRecDepth 20000 in
theorem ggX2_pot_X2_countLeft : GoodIn wsX2_pot wsX2_countLeft := goodIn_r _ [6, 1, 7, 8, 9, 10, 11, 12, 13, 14, 15, 16, 17, 18, 19, 20, 21, 22, 23, 24, 25] (by decide +kernel) (by decide +kernel)
set_option maxRecDepth 20000 in
theorem gX2_pot_X2_countLeft : GoodIn wsX2_pot (wsV RX2 130 RX2 yX2_countLeft wsX2_countLeft) := goodIn_app (goodIn_of _ (by decide +kernel)) ggX2_pot_X2_countLeft
theorem dX2_pot_0 : decode cX2_pot 0 = .ok (.iconst 0, 1) := by decide +kernel
theorem dX2_pot_1 : decode cX2_pot 1 = .ok (.istore_n 1, 1) := by decide +kernel
theorem dX2_pot_2 : decode cX2_pot 2 = .ok (.iload_n 1, 1) := by decide +kernel
theorem dX2_pot_3 : decode cX2_pot 3 = .ok (.aload_n 0, 1) := by decide +kernel
theorem dX2_pot_4 : decode cX2_pot 4 = .ok (.getfield 10, 3) := by decide +kernel
theorem dX2_pot_7 : decode cX2_pot 7 = .ok (.getfield 127, 3) := by decide +kernel
theorem dX2_pot_10 : decode cX2_pot 10 = .ok (.if_icmp .ge 19, 3) := by decide +kernel
theorem dX2_pot_13 : decode cX2_pot 13 = .ok (.aload_n 0, 1) := by decide +kernel
theorem dX2_pot_14 : decode cX2_pot 14 = .ok (.iload_n 1, 1) := by decide +kernel
theorem dX2_pot_15 : decode cX2_pot 15 = .ok (.invokevirtual 130, 3) := by decide +kernel
theorem dX2_pot_18 : decode cX2_pot 18 = .ok (.ifCond .le 5, 3) := by decide +kernel
theorem dX2_pot_21 : decode cX2_pot 21 = .ok (.iload_n 1, 1) := by decide +kernel
theorem dX2_pot_22 : decode cX2_pot 22 = .ok (.ireturn, 1) := by decide +kernel
theorem dX2_pot_23 : decode cX2_pot 23 = .ok (.iinc 1 1, 3) := by decide +kernel
theorem dX2_pot_26 : decode cX2_pot 26 = .ok (.goto (-24), 3) := by decide +kernel
theorem dX2_pot_29 : decode cX2_pot 29 = .ok (.iconst (-1), 1) := by decide +kernel
theorem dX2_pot_30 : decode cX2_pot 30 = .ok (.ireturn, 1) := by decide +kernel
set_option maxRecDepth 20000 in
theorem ggX2_left_X2_pot : GoodIn wsX2_left wsX2_pot := goodIn_r _ [5, 6, 7, 8, 9, 4, 10, 11, 12, 13, 14, 15, 16, 17, 18, 19, 20, 21, 22, 23, 24, 25, 26, 27, 28, 29] (by decide +kernel) (by decide +kernel)
set_option maxRecDepth 20000 in
theorem gX2_left_X2_pot : GoodIn wsX2_left (wsV RX2 133 RX2 yX2_pot wsX2_pot) := goodIn_app (goodIn_of _ (by decide +kernel)) ggX2_left_X2_pot
set_option maxRecDepth 20000 in
theorem ggX2_left_X2_countLeft : GoodIn wsX2_left wsX2_countLeft := goodIn_r _ [10, 6, 11, 12, 13, 14, 15, 16, 17, 18, 19, 20, 21, 22, 23, 24, 25, 26, 27, 28, 29] (by decide +kernel) (by decide +kernel)
set_option maxRecDepth 20000 in
theorem gX2_left_X2_countLeft : GoodIn wsX2_left (wsV RX2 130 RX2 yX2_countLeft wsX2_countLeft) := goodIn_app (goodIn_of _ (by decide +kernel)) ggX2_left_X2_countLeft
theorem dX2_left_0 : decode cX2_left 0 = .ok (.aload_n 0, 1) := by decide +kernel
theorem dX2_left_1 : decode cX2_left 1 = .ok (.invokevirtual 133, 3) := by decide +kernel
theorem dX2_left_4 : decode cX2_left 4 = .ok (.istore_n 1, 1) := by decide +kernel
theorem dX2_left_5 : decode cX2_left 5 = .ok (.iload_n 1, 1) := by decide +kernel
theorem dX2_left_6 : decode cX2_left 6 = .ok (.iconst (-1), 1) := by decide +kernel
theorem dX2_left_7 : decode cX2_left 7 = .ok (.if_icmp .ne 7, 3) := by decide +kernel
theorem dX2_left_10 : decode cX2_left 10 = .ok (.iconst 0, 1) := by decide +kernel
theorem dX2_left_11 : decode cX2_left 11 = .ok (.goto 8, 3) := by decide +kernel
theorem dX2_left_14 : decode cX2_left 14 = .ok (.aload_n 0, 1) := by decide +kernel
theorem dX2_left_15 : decode cX2_left 15 = .ok (.iload_n 1, 1) := by decide +kernel
theorem dX2_left_16 : decode cX2_left 16 = .ok (.invokevirtual 130, 3) := by decide +kernel
theorem dX2_left_19 : decode cX2_left 19 = .ok (.ireturn, 1) := by decide +kernel
set_option maxRecDepth 20000 in
theorem ggX2_ballAt_X2_findBall : GoodIn wsX2_ballAt wsX2_findBall := goodIn_r _ [7, 8, 9, 10, 11, 12, 6, 13, 14, 15, 16, 17, 18, 19, 20, 21, 22, 23, 24, 25, 26, 27, 28, 29, 30, 31, 32, 33, 34, 35] (by decide +kernel) (by decide +kernel)
set_option maxRecDepth 20000 in
theorem gX2_ballAt_X2_findBall : GoodIn wsX2_ballAt (wsV RX2 107 RX2 yX2_findBall wsX2_findBall) := goodIn_app (goodIn_of _ (by decide +kernel)) ggX2_ballAt_X2_findBall
theorem dX2_ballAt_0 : decode cX2_ballAt 0 = .ok (.aload_n 0, 1) := by decide +kernel
theorem dX2_ballAt_1 : decode cX2_ballAt 1 = .ok (.iload_n 1, 1) := by decide +kernel
theorem dX2_ballAt_2 : decode cX2_ballAt 2 = .ok (.invokevirtual 107, 3) := by decide +kernel
theorem dX2_ballAt_5 : decode cX2_ballAt 5 = .ok (.istore_n 2, 1) := by decide +kernel
theorem dX2_ballAt_6 : decode cX2_ballAt 6 = .ok (.iload_n 2, 1) := by decide +kernel
theorem dX2_ballAt_7 : decode cX2_ballAt 7 = .ok (.iconst (-1), 1) := by decide +kernel
theorem dX2_ballAt_8 : decode cX2_ballAt 8 = .ok (.if_icmp .ne 13, 3) := by decide +kernel
theorem dX2_ballAt_11 : decode cX2_ballAt 11 = .ok (.new 58, 3) := by decide +kernel
theorem dX2_ballAt_14 : decode cX2_ballAt 14 = .ok (.dup, 1) := by decide +kernel
theorem dX2_ballAt_15 : decode cX2_ballAt 15 = .ok (.ldc 111, 2) := by decide +kernel
theorem dX2_ballAt_17 : decode cX2_ballAt 17 = .ok (.invokespecial 62, 3) := by decide +kernel
theorem dX2_ballAt_20 : decode cX2_ballAt 20 = .ok (.athrow, 1) := by decide +kernel
theorem dX2_ballAt_21 : decode cX2_ballAt 21 = .ok (.iload_n 2, 1) := by decide +kernel
theorem dX2_ballAt_22 : decode cX2_ballAt 22 = .ok (.ireturn, 1) := by decide +kernel
set_option maxRecDepth 20000 in
theorem ggX2_groupOf_X2_requireTeam : GoodIn wsX2_groupOf wsX2_requireTeam := goodIn_ca (goodIn_r _ [6, 7, 8, 9, 10, 11, 12, 13, 14, 15, 16, 17, 18, 19, 20, 21, 22, 23, 24, 25, 26, 27, 28, 29, 30, 31, 32, 33] (by decide +kernel) (by decide +kernel)) (goodIn_sub (fun _ h => List.mem_cons_of_mem _ (List.mem_append_right _ h)) (by decide +kernel))
set_option maxRecDepth 20000 in
theorem gX2_groupOf_X2_requireTeam : GoodIn wsX2_groupOf (wsV RX2 136 RX2 yX2_requireTeam wsX2_requireTeam) := goodIn_app (goodIn_of _ (by decide +kernel)) ggX2_groupOf_X2_requireTeam
theorem dX2_groupOf_0 : decode cX2_groupOf 0 = .ok (.aload_n 0, 1) := by decide +kernel
theorem dX2_groupOf_1 : decode cX2_groupOf 1 = .ok (.iload_n 1, 1) := by decide +kernel
theorem dX2_groupOf_2 : decode cX2_groupOf 2 = .ok (.invokevirtual 136, 3) := by decide +kernel
theorem dX2_groupOf_5 : decode cX2_groupOf 5 = .ok (.aload_n 0, 1) := by decide +kernel
theorem dX2_groupOf_6 : decode cX2_groupOf 6 = .ok (.getfield 26, 3) := by decide +kernel
theorem dX2_groupOf_9 : decode cX2_groupOf 9 = .ok (.iload_n 1, 1) := by decide +kernel
theorem dX2_groupOf_10 : decode cX2_groupOf 10 = .ok (.iaload, 1) := by decide +kernel
theorem dX2_groupOf_11 : decode cX2_groupOf 11 = .ok (.ireturn, 1) := by decide +kernel
set_option maxRecDepth 20000 in
theorem ggX2_teamAt_X0_hasGroup : GoodIn wsX2_teamAt wsX0_hasGroup := goodIn_r _ [9, 10, 25, 26, 27, 28, 29, 30, 31, 32, 33] (by decide +kernel) (by decide +kernel)
set_option maxRecDepth 20000 in
theorem gX2_teamAt_X0_hasGroup : GoodIn wsX2_teamAt (wsV RX2 139 RX0 yX0_hasGroup wsX0_hasGroup) := goodIn_app (goodIn_of _ (by decide +kernel)) ggX2_teamAt_X0_hasGroup
set_option maxRecDepth 20000 in
theorem ggX2_teamAt_X0_hasPot : GoodIn wsX2_teamAt wsX0_hasPot := goodIn_r _ [14, 15, 25, 26, 27, 28, 29, 30, 31, 32, 33] (by decide +kernel) (by decide +kernel)
set_option maxRecDepth 20000 in
theorem gX2_teamAt_X0_hasPot : GoodIn wsX2_teamAt (wsV RX2 142 RX0 yX0_hasPot wsX0_hasPot) := goodIn_app (goodIn_of _ (by decide +kernel)) ggX2_teamAt_X0_hasPot
theorem dX2_teamAt_0 : decode cX2_teamAt 0 = .ok (.aload_n 0, 1) := by decide +kernel
theorem dX2_teamAt_1 : decode cX2_teamAt 1 = .ok (.getfield 10, 3) := by decide +kernel
theorem dX2_teamAt_4 : decode cX2_teamAt 4 = .ok (.iload_n 1, 1) := by decide +kernel
theorem dX2_teamAt_5 : decode cX2_teamAt 5 = .ok (.invokevirtual 139, 3) := by decide +kernel
theorem dX2_teamAt_8 : decode cX2_teamAt 8 = .ok (.ifCond .eq 14, 3) := by decide +kernel
theorem dX2_teamAt_11 : decode cX2_teamAt 11 = .ok (.aload_n 0, 1) := by decide +kernel
theorem dX2_teamAt_12 : decode cX2_teamAt 12 = .ok (.getfield 10, 3) := by decide +kernel
theorem dX2_teamAt_15 : decode cX2_teamAt 15 = .ok (.iload_n 2, 1) := by decide +kernel
theorem dX2_teamAt_16 : decode cX2_teamAt 16 = .ok (.invokevirtual 142, 3) := by decide +kernel
theorem dX2_teamAt_19 : decode cX2_teamAt 19 = .ok (.ifCond .ne 13, 3) := by decide +kernel
theorem dX2_teamAt_22 : decode cX2_teamAt 22 = .ok (.new 58, 3) := by decide +kernel
theorem dX2_teamAt_25 : decode cX2_teamAt 25 = .ok (.dup, 1) := by decide +kernel
theorem dX2_teamAt_26 : decode cX2_teamAt 26 = .ok (.ldc 145, 2) := by decide +kernel
theorem dX2_teamAt_28 : decode cX2_teamAt 28 = .ok (.invokespecial 62, 3) := by decide +kernel
theorem dX2_teamAt_31 : decode cX2_teamAt 31 = .ok (.athrow, 1) := by decide +kernel
theorem dX2_teamAt_32 : decode cX2_teamAt 32 = .ok (.iload_n 2, 1) := by decide +kernel
theorem dX2_teamAt_33 : decode cX2_teamAt 33 = .ok (.aload_n 0, 1) := by decide +kernel
theorem dX2_teamAt_34 : decode cX2_teamAt 34 = .ok (.getfield 10, 3) := by decide +kernel
theorem dX2_teamAt_37 : decode cX2_teamAt 37 = .ok (.getfield 147, 3) := by decide +kernel
theorem dX2_teamAt_40 : decode cX2_teamAt 40 = .ok (.imul, 1) := by decide +kernel
theorem dX2_teamAt_41 : decode cX2_teamAt 41 = .ok (.istore_n 3, 1) := by decide +kernel
theorem dX2_teamAt_42 : decode cX2_teamAt 42 = .ok (.iload_n 3, 1) := by decide +kernel
theorem dX2_teamAt_43 : decode cX2_teamAt 43 = .ok (.istore 4, 2) := by decide +kernel
theorem dX2_teamAt_45 : decode cX2_teamAt 45 = .ok (.iload 4, 2) := by decide +kernel
theorem dX2_teamAt_47 : decode cX2_teamAt 47 = .ok (.iload_n 3, 1) := by decide +kernel
theorem dX2_teamAt_48 : decode cX2_teamAt 48 = .ok (.aload_n 0, 1) := by decide +kernel
theorem dX2_teamAt_49 : decode cX2_teamAt 49 = .ok (.getfield 10, 3) := by decide +kernel
theorem dX2_teamAt_52 : decode cX2_teamAt 52 = .ok (.getfield 147, 3) := by decide +kernel
theorem dX2_teamAt_55 : decode cX2_teamAt 55 = .ok (.iadd, 1) := by decide +kernel
theorem dX2_teamAt_56 : decode cX2_teamAt 56 = .ok (.if_icmp .ge 23, 3) := by decide +kernel
theorem dX2_teamAt_59 : decode cX2_teamAt 59 = .ok (.aload_n 0, 1) := by decide +kernel
theorem dX2_teamAt_60 : decode cX2_teamAt 60 = .ok (.getfield 26, 3) := by decide +kernel
theorem dX2_teamAt_63 : decode cX2_teamAt 63 = .ok (.iload 4, 2) := by decide +kernel
theorem dX2_teamAt_65 : decode cX2_teamAt 65 = .ok (.iaload, 1) := by decide +kernel
theorem dX2_teamAt_66 : decode cX2_teamAt 66 = .ok (.iload_n 1, 1) := by decide +kernel
theorem dX2_teamAt_67 : decode cX2_teamAt 67 = .ok (.if_icmp .ne 6, 3) := by decide +kernel
theorem dX2_teamAt_70 : decode cX2_teamAt 70 = .ok (.iload 4, 2) := by decide +kernel
theorem dX2_teamAt_72 : decode cX2_teamAt 72 = .ok (.ireturn, 1) := by decide +kernel
theorem dX2_teamAt_73 : decode cX2_teamAt 73 = .ok (.iinc 4 1, 3) := by decide +kernel
theorem dX2_teamAt_76 : decode cX2_teamAt 76 = .ok (.goto (-31), 3) := by decide +kernel
theorem dX2_teamAt_79 : decode cX2_teamAt 79 = .ok (.iconst (-1), 1) := by decide +kernel
theorem dX2_teamAt_80 : decode cX2_teamAt 80 = .ok (.ireturn, 1) := by decide +kernel
set_option maxRecDepth 20000 in
theorem ggX2_results_X2_openResults : GoodIn wsX2_results wsX2_openResults := goodIn_r _ [5, 6, 7, 8, 9, 10, 11, 12, 13, 14, 15, 16, 17, 18, 19, 20, 21, 22, 23, 24, 25, 26, 27, 28, 29, 30, 31, 32, 33, 34, 35, 36, 37, 38, 39, 40, 41, 42, 43, 44, 45, 46, 47, 48, 49, 50, 51, 52, 53, 54, 55, 58, 59, 60, 61, 62, 63, 64, 65, 66, 56, 57, 67, 68, 69, 70, 71, 72, 73, 74, 75] (by decide +kernel) (by decide +kernel)
set_option maxRecDepth 20000 in
theorem gX2_results_X2_openResults : GoodIn wsX2_results (wsV RX2 95 RX2 yX2_openResults wsX2_openResults) := goodIn_app (goodIn_of _ (by decide +kernel)) ggX2_results_X2_openResults
theorem dX2_results_0 : decode cX2_results 0 = .ok (.aload_n 0, 1) := by decide +kernel
theorem dX2_results_1 : decode cX2_results 1 = .ok (.invokevirtual 95, 3) := by decide +kernel
theorem dX2_results_4 : decode cX2_results 4 = .ok (.getfield 99, 3) := by decide +kernel
theorem dX2_results_7 : decode cX2_results 7 = .ok (.ireturn, 1) := by decide +kernel
set_option maxRecDepth 20000 in
theorem ggX2_fits_X2_requireTeamAndGroup : GoodIn wsX2_fits wsX2_requireTeamAndGroup := goodIn_ca (goodIn_r _ [5, 6, 7, 8, 9, 10, 11, 12, 13, 14, 15, 16, 17, 18, 19, 77, 78, 79, 80, 81, 82, 83, 84, 85, 86, 87, 88, 89, 90, 91, 92, 93, 94] (by decide +kernel) (by decide +kernel)) (goodIn_sub (fun _ h => List.mem_cons_of_mem _ (List.mem_append_right _ h)) (by decide +kernel))
set_option maxRecDepth 20000 in
theorem gX2_fits_X2_requireTeamAndGroup : GoodIn wsX2_fits (wsV RX2 150 RX2 yX2_requireTeamAndGroup wsX2_requireTeamAndGroup) := goodIn_app (goodIn_of _ (by decide +kernel)) ggX2_fits_X2_requireTeamAndGroup
set_option maxRecDepth 20000 in
theorem ggX2_fits_X2_openResults : GoodIn wsX2_fits wsX2_openResults := goodIn_r _ [23, 24, 25, 8, 26, 27, 28, 29, 30, 31, 32, 33, 34, 12, 35, 36, 37, 38, 39, 14, 19, 40, 41, 42, 43, 44, 45, 46, 47, 48, 49, 50, 51, 52, 53, 54, 55, 56, 57, 58, 59, 60, 61, 62, 63, 64, 65, 66, 67, 68, 69, 77, 78, 79, 80, 81, 82, 83, 84, 85, 95, 96, 86, 87, 88, 89, 90, 91, 92, 93, 94] (by decide +kernel) (by decide +kernel)
set_option maxRecDepth 20000 in
theorem gX2_fits_X2_openResults : GoodIn wsX2_fits (wsV RX2 95 RX2 yX2_openResults wsX2_openResults) := goodIn_app (goodIn_of _ (by decide +kernel)) ggX2_fits_X2_openResults
set_option maxRecDepth 20000 in
theorem ggX2_fits_X1_countInGroup : GoodIn wsX2_fits wsX1_countInGroup := goodIn_r _ [73, 31, 44, 74, 75, 29, 76, 95, 96] (by decide +kernel) (by decide +kernel)
set_option maxRecDepth 20000 in
theorem gX2_fits_X1_countInGroup : GoodIn wsX2_fits (wsV RX2 153 RX1 yX1_countInGroup wsX1_countInGroup) := goodIn_app (goodIn_of _ (by decide +kernel)) ggX2_fits_X1_countInGroup
theorem dX2_fits_0 : decode cX2_fits 0 = .ok (.aload_n 0, 1) := by decide +kernel
theorem dX2_fits_1 : decode cX2_fits 1 = .ok (.iload_n 1, 1) := by decide +kernel
theorem dX2_fits_2 : decode cX2_fits 2 = .ok (.iload_n 2, 1) := by decide +kernel
theorem dX2_fits_3 : decode cX2_fits 3 = .ok (.invokevirtual 150, 3) := by decide +kernel
theorem dX2_fits_6 : decode cX2_fits 6 = .ok (.aload_n 0, 1) := by decide +kernel
theorem dX2_fits_7 : decode cX2_fits 7 = .ok (.invokevirtual 95, 3) := by decide +kernel
theorem dX2_fits_10 : decode cX2_fits 10 = .ok (.iload_n 1, 1) := by decide +kernel
theorem dX2_fits_11 : decode cX2_fits 11 = .ok (.iload_n 2, 1) := by decide +kernel
theorem dX2_fits_12 : decode cX2_fits 12 = .ok (.invokevirtual 153, 3) := by decide +kernel
theorem dX2_fits_15 : decode cX2_fits 15 = .ok (.ifCond .le 7, 3) := by decide +kernel
theorem dX2_fits_18 : decode cX2_fits 18 = .ok (.iconst 1, 1) := by decide +kernel
theorem dX2_fits_19 : decode cX2_fits 19 = .ok (.goto 4, 3) := by decide +kernel
theorem dX2_fits_22 : decode cX2_fits 22 = .ok (.iconst 0, 1) := by decide +kernel
theorem dX2_fits_23 : decode cX2_fits 23 = .ok (.ireturn, 1) := by decide +kernel
set_option maxRecDepth 20000 in
theorem ggX2_forced_X2_requireTeam : GoodIn wsX2_forced wsX2_requireTeam := goodIn_ca (goodIn_r _ [5, 6, 7, 8, 9, 10, 11, 12, 13, 14, 79, 80, 81, 82, 83, 84, 85, 86, 87, 88, 89, 90, 91, 92, 93, 94, 95, 96] (by decide +kernel) (by decide +kernel)) (goodIn_sub (fun _ h => List.mem_cons_of_mem _ (List.mem_append_right _ h)) (by decide +kernel))
set_option maxRecDepth 20000 in
theorem gX2_forced_X2_requireTeam : GoodIn wsX2_forced (wsV RX2 136 RX2 yX2_requireTeam wsX2_requireTeam) := goodIn_app (goodIn_of _ (by decide +kernel)) ggX2_forced_X2_requireTeam
set_option maxRecDepth 20000 in
theorem ggX2_forced_X2_openResults : GoodIn wsX2_forced wsX2_openResults := goodIn_r _ [18, 19, 20, 8, 21, 22, 23, 24, 25, 26, 27, 28, 29, 12, 30, 31, 32, 33, 34, 14, 35, 36, 37, 38, 39, 40, 41, 42, 43, 44, 45, 46, 47, 48, 49, 50, 51, 52, 53, 54, 55, 56, 57, 58, 59, 60, 61, 62, 63, 64, 65, 79, 80, 81, 82, 83, 84, 85, 86, 87, 77, 78, 88, 89, 90, 91, 92, 93, 94, 95, 96] (by decide +kernel) (by decide +kernel)
set_option maxRecDepth 20000 in
theorem gX2_forced_X2_openResults : GoodIn wsX2_forced (wsV RX2 95 RX2 yX2_openResults wsX2_openResults) := goodIn_app (goodIn_of _ (by decide +kernel)) ggX2_forced_X2_openResults
set_option maxRecDepth 20000 in
theorem ggX2_forced_X1_lowestGroup : GoodIn wsX2_forced wsX1_lowestGroup := goodIn_r _ [69, 26, 40, 70, 71, 24, 72, 77, 78] (by decide +kernel) (by decide +kernel)
set_option maxRecDepth 20000 in
theorem gX2_forced_X1_lowestGroup : GoodIn wsX2_forced (wsV RX2 157 RX1 yX1_lowestGroup wsX1_lowestGroup) := goodIn_app (goodIn_of _ (by decide +kernel)) ggX2_forced_X1_lowestGroup
set_option maxRecDepth 20000 in
theorem ggX2_forced_X1_countInGroup : GoodIn wsX2_forced wsX1_countInGroup := goodIn_r _ [76, 26, 40, 70, 71, 24, 72, 77, 78] (by decide +kernel) (by decide +kernel)
set_option maxRecDepth 20000 in
theorem gX2_forced_X1_countInGroup : GoodIn wsX2_forced (wsV RX2 153 RX1 yX1_countInGroup wsX1_countInGroup) := goodIn_app (goodIn_of _ (by decide +kernel)) ggX2_forced_X1_countInGroup
theorem dX2_forced_0 : decode cX2_forced 0 = .ok (.aload_n 0, 1) := by decide +kernel
theorem dX2_forced_1 : decode cX2_forced 1 = .ok (.iload_n 1, 1) := by decide +kernel
theorem dX2_forced_2 : decode cX2_forced 2 = .ok (.invokevirtual 136, 3) := by decide +kernel
theorem dX2_forced_5 : decode cX2_forced 5 = .ok (.aload_n 0, 1) := by decide +kernel
theorem dX2_forced_6 : decode cX2_forced 6 = .ok (.invokevirtual 95, 3) := by decide +kernel
theorem dX2_forced_9 : decode cX2_forced 9 = .ok (.astore_n 2, 1) := by decide +kernel
theorem dX2_forced_10 : decode cX2_forced 10 = .ok (.aload_n 2, 1) := by decide +kernel
theorem dX2_forced_11 : decode cX2_forced 11 = .ok (.iload_n 1, 1) := by decide +kernel
theorem dX2_forced_12 : decode cX2_forced 12 = .ok (.invokevirtual 157, 3) := by decide +kernel
theorem dX2_forced_15 : decode cX2_forced 15 = .ok (.istore_n 3, 1) := by decide +kernel
theorem dX2_forced_16 : decode cX2_forced 16 = .ok (.iload_n 3, 1) := by decide +kernel
theorem dX2_forced_17 : decode cX2_forced 17 = .ok (.iconst (-1), 1) := by decide +kernel
theorem dX2_forced_18 : decode cX2_forced 18 = .ok (.if_icmp .eq 20, 3) := by decide +kernel
theorem dX2_forced_21 : decode cX2_forced 21 = .ok (.aload_n 2, 1) := by decide +kernel
theorem dX2_forced_22 : decode cX2_forced 22 = .ok (.iload_n 1, 1) := by decide +kernel
theorem dX2_forced_23 : decode cX2_forced 23 = .ok (.iload_n 3, 1) := by decide +kernel
theorem dX2_forced_24 : decode cX2_forced 24 = .ok (.invokevirtual 153, 3) := by decide +kernel
theorem dX2_forced_27 : decode cX2_forced 27 = .ok (.aload_n 2, 1) := by decide +kernel
theorem dX2_forced_28 : decode cX2_forced 28 = .ok (.getfield 99, 3) := by decide +kernel
theorem dX2_forced_31 : decode cX2_forced 31 = .ok (.if_icmp .ne 7, 3) := by decide +kernel
theorem dX2_forced_34 : decode cX2_forced 34 = .ok (.iconst 1, 1) := by decide +kernel
theorem dX2_forced_35 : decode cX2_forced 35 = .ok (.goto 4, 3) := by decide +kernel
theorem dX2_forced_38 : decode cX2_forced 38 = .ok (.iconst 0, 1) := by decide +kernel
theorem dX2_forced_39 : decode cX2_forced 39 = .ok (.istore 4, 2) := by decide +kernel
theorem dX2_forced_41 : decode cX2_forced 41 = .ok (.iload 4, 2) := by decide +kernel
theorem dX2_forced_43 : decode cX2_forced 43 = .ok (.ifCond .eq 7, 3) := by decide +kernel
theorem dX2_forced_46 : decode cX2_forced 46 = .ok (.iload_n 3, 1) := by decide +kernel
theorem dX2_forced_47 : decode cX2_forced 47 = .ok (.goto 4, 3) := by decide +kernel
theorem dX2_forced_50 : decode cX2_forced 50 = .ok (.iconst (-1), 1) := by decide +kernel
theorem dX2_forced_51 : decode cX2_forced 51 = .ok (.ireturn, 1) := by decide +kernel
set_option maxRecDepth 20000 in
theorem ggX2_evenly_X2_requireTeamAndGroup : GoodIn wsX2_evenly wsX2_requireTeamAndGroup := goodIn_ca (goodIn_r _ [5, 6, 7, 8, 9, 10, 11, 12, 13, 14, 15, 16, 17, 18, 19, 77, 78, 79, 80, 81, 82, 83, 84, 85, 86, 87, 88, 89, 90, 91, 92, 93, 94] (by decide +kernel) (by decide +kernel)) (goodIn_sub (fun _ h => List.mem_cons_of_mem _ (List.mem_append_right _ h)) (by decide +kernel))
set_option maxRecDepth 20000 in
theorem gX2_evenly_X2_requireTeamAndGroup : GoodIn wsX2_evenly (wsV RX2 150 RX2 yX2_requireTeamAndGroup wsX2_requireTeamAndGroup) := goodIn_app (goodIn_of _ (by decide +kernel)) ggX2_evenly_X2_requireTeamAndGroup
set_option maxRecDepth 20000 in
theorem ggX2_evenly_X2_openResults : GoodIn wsX2_evenly wsX2_openResults := goodIn_r _ [23, 24, 25, 8, 26, 27, 28, 29, 30, 31, 32, 33, 34, 12, 35, 36, 37, 38, 39, 14, 19, 40, 41, 42, 43, 44, 45, 46, 47, 48, 49, 50, 51, 52, 53, 54, 55, 56, 57, 58, 59, 60, 61, 62, 63, 64, 65, 66, 67, 68, 69, 77, 78, 79, 80, 81, 82, 83, 84, 85, 95, 96, 86, 87, 88, 89, 90, 91, 92, 93, 94] (by decide +kernel) (by decide +kernel)
set_option maxRecDepth 20000 in
theorem gX2_evenly_X2_openResults : GoodIn wsX2_evenly (wsV RX2 95 RX2 yX2_openResults wsX2_openResults) := goodIn_app (goodIn_of _ (by decide +kernel)) ggX2_evenly_X2_openResults
set_option maxRecDepth 20000 in
theorem ggX2_evenly_X1_countInGroup : GoodIn wsX2_evenly wsX1_countInGroup := goodIn_r _ [73, 31, 44, 74, 75, 29, 76, 95, 96] (by decide +kernel) (by decide +kernel)
set_option maxRecDepth 20000 in
theorem gX2_evenly_X1_countInGroup : GoodIn wsX2_evenly (wsV RX2 153 RX1 yX1_countInGroup wsX1_countInGroup) := goodIn_app (goodIn_of _ (by decide +kernel)) ggX2_evenly_X1_countInGroup
theorem dX2_evenly_0 : decode cX2_evenly 0 = .ok (.aload_n 0, 1) := by decide +kernel
theorem dX2_evenly_1 : decode cX2_evenly 1 = .ok (.iload_n 1, 1) := by decide +kernel
theorem dX2_evenly_2 : decode cX2_evenly 2 = .ok (.iload_n 2, 1) := by decide +kernel
theorem dX2_evenly_3 : decode cX2_evenly 3 = .ok (.invokevirtual 150, 3) := by decide +kernel
theorem dX2_evenly_6 : decode cX2_evenly 6 = .ok (.aload_n 0, 1) := by decide +kernel
theorem dX2_evenly_7 : decode cX2_evenly 7 = .ok (.invokevirtual 95, 3) := by decide +kernel
theorem dX2_evenly_10 : decode cX2_evenly 10 = .ok (.iload_n 1, 1) := by decide +kernel
theorem dX2_evenly_11 : decode cX2_evenly 11 = .ok (.iload_n 2, 1) := by decide +kernel
theorem dX2_evenly_12 : decode cX2_evenly 12 = .ok (.invokevirtual 153, 3) := by decide +kernel
theorem dX2_evenly_15 : decode cX2_evenly 15 = .ok (.ireturn, 1) := by decide +kernel
set_option maxRecDepth 20000 in
theorem ggX2_orders_X2_countLeft : GoodIn wsX2_orders wsX2_countLeft := goodIn_r _ [6, 1, 7, 11, 12, 13, 14, 15, 16, 17, 18, 19, 20, 21, 22, 23, 24, 25, 26, 27, 28] (by decide +kernel) (by decide +kernel)
set_option maxRecDepth 20000 in
theorem gX2_orders_X2_countLeft : GoodIn wsX2_orders (wsV RX2 130 RX2 yX2_countLeft wsX2_countLeft) := goodIn_app (goodIn_of _ (by decide +kernel)) ggX2_orders_X2_countLeft
set_option maxRecDepth 20000 in
theorem ggX2_orders_X2_factorial : GoodIn wsX2_orders wsX2_factorial := goodIn_r _ [10] (by decide +kernel) (by decide +kernel)
set_option maxRecDepth 20000 in
theorem gX2_orders_X2_factorial : GoodIn wsX2_orders (va_wsS RX2 160 yX2_factorial wsX2_factorial) := goodIn_app (goodIn_of _ (by decide +kernel)) ggX2_orders_X2_factorial
theorem dX2_orders_0 : decode cX2_orders 0 = .ok (.iconst 1, 1) := by decide +kernel
theorem dX2_orders_1 : decode cX2_orders 1 = .ok (.istore_n 1, 1) := by decide +kernel
theorem dX2_orders_2 : decode cX2_orders 2 = .ok (.iconst 0, 1) := by decide +kernel
theorem dX2_orders_3 : decode cX2_orders 3 = .ok (.istore_n 2, 1) := by decide +kernel
theorem dX2_orders_4 : decode cX2_orders 4 = .ok (.iload_n 2, 1) := by decide +kernel
theorem dX2_orders_5 : decode cX2_orders 5 = .ok (.aload_n 0, 1) := by decide +kernel
theorem dX2_orders_6 : decode cX2_orders 6 = .ok (.getfield 10, 3) := by decide +kernel
theorem dX2_orders_9 : decode cX2_orders 9 = .ok (.getfield 127, 3) := by decide +kernel
theorem dX2_orders_12 : decode cX2_orders 12 = .ok (.if_icmp .ge 20, 3) := by decide +kernel
theorem dX2_orders_15 : decode cX2_orders 15 = .ok (.iload_n 1, 1) := by decide +kernel
theorem dX2_orders_16 : decode cX2_orders 16 = .ok (.aload_n 0, 1) := by decide +kernel
theorem dX2_orders_17 : decode cX2_orders 17 = .ok (.iload_n 2, 1) := by decide +kernel
theorem dX2_orders_18 : decode cX2_orders 18 = .ok (.invokevirtual 130, 3) := by decide +kernel
theorem dX2_orders_21 : decode cX2_orders 21 = .ok (.invokestatic 160, 3) := by decide +kernel
theorem dX2_orders_24 : decode cX2_orders 24 = .ok (.imul, 1) := by decide +kernel
theorem dX2_orders_25 : decode cX2_orders 25 = .ok (.istore_n 1, 1) := by decide +kernel
theorem dX2_orders_26 : decode cX2_orders 26 = .ok (.iinc 2 1, 3) := by decide +kernel
theorem dX2_orders_29 : decode cX2_orders 29 = .ok (.goto (-25), 3) := by decide +kernel
theorem dX2_orders_32 : decode cX2_orders 32 = .ok (.iload_n 1, 1) := by decide +kernel
theorem dX2_orders_33 : decode cX2_orders 33 = .ok (.ireturn, 1) := by decide +kernel
set_option maxRecDepth 20000 in
theorem ggX2_chances_X2_requireTeamAndGroup : GoodIn wsX2_chances wsX2_requireTeamAndGroup := goodIn_ca (goodIn_r _ [5, 6, 7, 8, 9, 10, 11, 12, 13, 14, 15, 16, 17, 18, 19, 136, 137, 138, 139, 140, 141, 142, 143, 144, 145, 146, 147, 148, 149, 150, 151, 152, 153] (by decide +kernel) (by decide +kernel)) (goodIn_sub (fun _ h => List.mem_cons_of_mem _ (List.mem_append_right _ h)) (by decide +kernel))
set_option maxRecDepth 20000 in
theorem gX2_chances_X2_requireTeamAndGroup : GoodIn wsX2_chances (wsV RX2 150 RX2 yX2_requireTeamAndGroup wsX2_requireTeamAndGroup) := goodIn_app (goodIn_of _ (by decide +kernel)) ggX2_chances_X2_requireTeamAndGroup
set_option maxRecDepth 20000 in
theorem ggX2_chances_X2_endResults : GoodIn wsX2_chances wsX2_endResults := goodIn_r _ [23, 24, 25, 26, 27, 28, 29, 30, 31, 32, 33, 34, 35, 4, 36, 37, 38, 8, 39, 40, 41, 12, 42, 43, 44, 45, 46, 14, 19, 47, 48, 49, 50, 51, 52, 53, 54, 55, 56, 57, 58, 59, 60, 61, 62, 63, 64, 65, 66, 67, 68, 69, 70, 71, 72, 73, 74, 75, 76, 77, 78, 79, 80, 81, 82, 83, 84, 85, 86, 87, 88, 89, 90, 91, 92, 93, 94, 95, 96, 97, 98, 99, 100, 101, 102, 103, 104, 105, 106, 107, 108, 109, 110, 111, 112, 113, 114, 115, 116, 117, 118, 119, 120, 121, 122, 123, 124, 125, 126, 127, 128, 129, 130, 131, 136, 137, 138, 139, 140, 141, 142, 143, 144, 154, 155, 145, 146, 147, 148, 149, 150, 151, 152, 153] (by decide +kernel) (by decide +kernel)
set_option maxRecDepth 20000 in
theorem gX2_chances_X2_endResults : GoodIn wsX2_chances (wsV RX2 163 RX2 yX2_endResults wsX2_endResults) := goodIn_app (goodIn_of _ (by decide +kernel)) ggX2_chances_X2_endResults
set_option maxRecDepth 20000 in
theorem ggX2_chances_X1_countInGroup : GoodIn wsX2_chances wsX1_countInGroup := goodIn_r _ [135, 32, 51, 117, 118, 30, 119, 154, 155] (by decide +kernel) (by decide +kernel)
set_option maxRecDepth 20000 in
theorem gX2_chances_X1_countInGroup : GoodIn wsX2_chances (wsV RX2 153 RX1 yX1_countInGroup wsX1_countInGroup) := goodIn_app (goodIn_of _ (by decide +kernel)) ggX2_chances_X1_countInGroup
theorem dX2_chances_0 : decode cX2_chances 0 = .ok (.aload_n 0, 1) := by decide +kernel
theorem dX2_chances_1 : decode cX2_chances 1 = .ok (.iload_n 1, 1) := by decide +kernel
theorem dX2_chances_2 : decode cX2_chances 2 = .ok (.iload_n 2, 1) := by decide +kernel
theorem dX2_chances_3 : decode cX2_chances 3 = .ok (.invokevirtual 150, 3) := by decide +kernel
theorem dX2_chances_6 : decode cX2_chances 6 = .ok (.aload_n 0, 1) := by decide +kernel
theorem dX2_chances_7 : decode cX2_chances 7 = .ok (.invokevirtual 163, 3) := by decide +kernel
theorem dX2_chances_10 : decode cX2_chances 10 = .ok (.iload_n 1, 1) := by decide +kernel
theorem dX2_chances_11 : decode cX2_chances 11 = .ok (.iload_n 2, 1) := by decide +kernel
theorem dX2_chances_12 : decode cX2_chances 12 = .ok (.invokevirtual 153, 3) := by decide +kernel
theorem dX2_chances_15 : decode cX2_chances 15 = .ok (.ireturn, 1) := by decide +kernel
set_option maxRecDepth 20000 in
theorem ggX2_pairings_X2_requireTeam : GoodIn wsX2_pairings wsX2_requireTeam := goodIn_ca (goodIn_r _ [5, 6, 7, 8, 9, 10, 11, 12, 13, 14, 132, 133, 134, 135, 136, 137, 138, 139, 140, 141, 142, 143, 144, 145, 146, 147, 148, 149] (by decide +kernel) (by decide +kernel)) (goodIn_sub (fun _ h => List.mem_cons_of_mem _ (List.mem_append_right _ h)) (by decide +kernel))
set_option maxRecDepth 20000 in
theorem gX2_pairings_X2_requireTeam : GoodIn wsX2_pairings (wsV RX2 136 RX2 yX2_requireTeam wsX2_requireTeam) := goodIn_app (goodIn_of _ (by decide +kernel)) ggX2_pairings_X2_requireTeam
set_option maxRecDepth 20000 in
theorem ggX2_pairings_X2_endResults : GoodIn wsX2_pairings wsX2_endResults := goodIn_r _ [18, 19, 20, 21, 22, 23, 24, 25, 26, 27, 28, 29, 30, 4, 31, 32, 33, 8, 34, 35, 36, 12, 37, 38, 39, 40, 41, 14, 42, 43, 44, 45, 46, 47, 48, 49, 50, 51, 52, 53, 54, 55, 56, 57, 58, 59, 60, 61, 62, 63, 64, 65, 66, 67, 68, 69, 70, 71, 72, 73, 74, 75, 76, 77, 78, 79, 80, 81, 82, 83, 84, 85, 86, 87, 88, 89, 90, 91, 92, 93, 94, 95, 96, 97, 98, 99, 100, 101, 102, 103, 104, 105, 106, 107, 108, 109, 110, 111, 112, 113, 114, 115, 116, 117, 118, 119, 120, 121, 122, 123, 124, 125, 126, 127, 132, 133, 134, 135, 136, 137, 138, 139, 140, 150, 151, 141, 142, 143, 144, 145, 146, 147, 148, 149] (by decide +kernel) (by decide +kernel)
set_option maxRecDepth 20000 in
theorem gX2_pairings_X2_endResults : GoodIn wsX2_pairings (wsV RX2 163 RX2 yX2_endResults wsX2_endResults) := goodIn_app (goodIn_of _ (by decide +kernel)) ggX2_pairings_X2_endResults
set_option maxRecDepth 20000 in
theorem ggX2_pairings_X1_countTogether : GoodIn wsX2_pairings wsX1_countTogether := goodIn_r _ [131, 27, 47, 113, 114, 25, 115, 150, 151] (by decide +kernel) (by decide +kernel)
set_option maxRecDepth 20000 in
theorem gX2_pairings_X1_countTogether : GoodIn wsX2_pairings (wsV RX2 166 RX1 yX1_countTogether wsX1_countTogether) := goodIn_app (goodIn_of _ (by decide +kernel)) ggX2_pairings_X1_countTogether
theorem dX2_pairings_0 : decode cX2_pairings 0 = .ok (.aload_n 0, 1) := by decide +kernel
theorem dX2_pairings_1 : decode cX2_pairings 1 = .ok (.iload_n 1, 1) := by decide +kernel
theorem dX2_pairings_2 : decode cX2_pairings 2 = .ok (.invokevirtual 136, 3) := by decide +kernel
theorem dX2_pairings_5 : decode cX2_pairings 5 = .ok (.aload_n 0, 1) := by decide +kernel
theorem dX2_pairings_6 : decode cX2_pairings 6 = .ok (.iload_n 2, 1) := by decide +kernel
theorem dX2_pairings_7 : decode cX2_pairings 7 = .ok (.invokevirtual 136, 3) := by decide +kernel
theorem dX2_pairings_10 : decode cX2_pairings 10 = .ok (.aload_n 0, 1) := by decide +kernel
theorem dX2_pairings_11 : decode cX2_pairings 11 = .ok (.invokevirtual 163, 3) := by decide +kernel
theorem dX2_pairings_14 : decode cX2_pairings 14 = .ok (.iload_n 1, 1) := by decide +kernel
theorem dX2_pairings_15 : decode cX2_pairings 15 = .ok (.iload_n 2, 1) := by decide +kernel
theorem dX2_pairings_16 : decode cX2_pairings 16 = .ok (.invokevirtual 166, 3) := by decide +kernel
theorem dX2_pairings_19 : decode cX2_pairings 19 = .ok (.ireturn, 1) := by decide +kernel
set_option maxRecDepth 20000 in
theorem ggX2_requireTeam_X0_hasTeam : GoodIn wsX2_requireTeam wsX0_hasTeam := goodIn_r _ [8, 9, 19, 20, 21, 22, 23, 24, 25, 26, 27] (by decide +kernel) (by decide +kernel)
set_option maxRecDepth 20000 in
theorem gX2_requireTeam_X0_hasTeam : GoodIn wsX2_requireTeam (wsV RX2 51 RX0 yX0_hasTeam wsX0_hasTeam) := goodIn_app (goodIn_of _ (by decide +kernel)) ggX2_requireTeam_X0_hasTeam
theorem dX2_requireTeam_0 : decode cX2_requireTeam 0 = .ok (.aload_n 0, 1) := by decide +kernel
theorem dX2_requireTeam_1 : decode cX2_requireTeam 1 = .ok (.getfield 10, 3) := by decide +kernel
theorem dX2_requireTeam_4 : decode cX2_requireTeam 4 = .ok (.iload_n 1, 1) := by decide +kernel
theorem dX2_requireTeam_5 : decode cX2_requireTeam 5 = .ok (.invokevirtual 51, 3) := by decide +kernel
theorem dX2_requireTeam_8 : decode cX2_requireTeam 8 = .ok (.ifCond .ne 13, 3) := by decide +kernel
theorem dX2_requireTeam_11 : decode cX2_requireTeam 11 = .ok (.new 58, 3) := by decide +kernel
theorem dX2_requireTeam_14 : decode cX2_requireTeam 14 = .ok (.dup, 1) := by decide +kernel
theorem dX2_requireTeam_15 : decode cX2_requireTeam 15 = .ok (.ldc 169, 2) := by decide +kernel
theorem dX2_requireTeam_17 : decode cX2_requireTeam 17 = .ok (.invokespecial 62, 3) := by decide +kernel
theorem dX2_requireTeam_20 : decode cX2_requireTeam 20 = .ok (.athrow, 1) := by decide +kernel
theorem dX2_requireTeam_21 : decode cX2_requireTeam 21 = .ok (.return_, 1) := by decide +kernel
set_option maxRecDepth 20000 in
theorem ggX2_requireTeamAndGroup_X0_hasTeam : GoodIn wsX2_requireTeamAndGroup wsX0_hasTeam := goodIn_r _ [8, 9, 24, 25, 26, 27, 28, 29, 30, 31, 32] (by decide +kernel) (by decide +kernel)
set_option maxRecDepth 20000 in
theorem gX2_requireTeamAndGroup_X0_hasTeam : GoodIn wsX2_requireTeamAndGroup (wsV RX2 51 RX0 yX0_hasTeam wsX0_hasTeam) := goodIn_app (goodIn_of _ (by decide +kernel)) ggX2_requireTeamAndGroup_X0_hasTeam
set_option maxRecDepth 20000 in
theorem ggX2_requireTeamAndGroup_X0_hasGroup : GoodIn wsX2_requireTeamAndGroup wsX0_hasGroup := goodIn_r _ [13, 14, 24, 25, 26, 27, 28, 29, 30, 31, 32] (by decide +kernel) (by decide +kernel)
set_option maxRecDepth 20000 in
theorem gX2_requireTeamAndGroup_X0_hasGroup : GoodIn wsX2_requireTeamAndGroup (wsV RX2 139 RX0 yX0_hasGroup wsX0_hasGroup) := goodIn_app (goodIn_of _ (by decide +kernel)) ggX2_requireTeamAndGroup_X0_hasGroup
theorem dX2_requireTeamAndGroup_0 : decode cX2_requireTeamAndGroup 0 = .ok (.aload_n 0, 1) := by decide +kernel
theorem dX2_requireTeamAndGroup_1 : decode cX2_requireTeamAndGroup 1 = .ok (.getfield 10, 3) := by decide +kernel
theorem dX2_requireTeamAndGroup_4 : decode cX2_requireTeamAndGroup 4 = .ok (.iload_n 1, 1) := by decide +kernel
theorem dX2_requireTeamAndGroup_5 : decode cX2_requireTeamAndGroup 5 = .ok (.invokevirtual 51, 3) := by decide +kernel
theorem dX2_requireTeamAndGroup_8 : decode cX2_requireTeamAndGroup 8 = .ok (.ifCond .eq 14, 3) := by decide +kernel
theorem dX2_requireTeamAndGroup_11 : decode cX2_requireTeamAndGroup 11 = .ok (.aload_n 0, 1) := by decide +kernel
theorem dX2_requireTeamAndGroup_12 : decode cX2_requireTeamAndGroup 12 = .ok (.getfield 10, 3) := by decide +kernel
theorem dX2_requireTeamAndGroup_15 : decode cX2_requireTeamAndGroup 15 = .ok (.iload_n 2, 1) := by decide +kernel
theorem dX2_requireTeamAndGroup_16 : decode cX2_requireTeamAndGroup 16 = .ok (.invokevirtual 139, 3) := by decide +kernel
theorem dX2_requireTeamAndGroup_19 : decode cX2_requireTeamAndGroup 19 = .ok (.ifCond .ne 13, 3) := by decide +kernel
theorem dX2_requireTeamAndGroup_22 : decode cX2_requireTeamAndGroup 22 = .ok (.new 58, 3) := by decide +kernel
theorem dX2_requireTeamAndGroup_25 : decode cX2_requireTeamAndGroup 25 = .ok (.dup, 1) := by decide +kernel
theorem dX2_requireTeamAndGroup_26 : decode cX2_requireTeamAndGroup 26 = .ok (.ldc 171, 2) := by decide +kernel
theorem dX2_requireTeamAndGroup_28 : decode cX2_requireTeamAndGroup 28 = .ok (.invokespecial 62, 3) := by decide +kernel
theorem dX2_requireTeamAndGroup_31 : decode cX2_requireTeamAndGroup 31 = .ok (.athrow, 1) := by decide +kernel
theorem dX2_requireTeamAndGroup_32 : decode cX2_requireTeamAndGroup 32 = .ok (.return_, 1) := by decide +kernel
set_option maxRecDepth 20000 in
theorem ggX2_requireTwoTeams_X2_requireTeam : GoodIn wsX2_requireTwoTeams wsX2_requireTeam := goodIn_ca (goodIn_r _ [7, 8, 9, 10, 11, 12, 13, 14, 15, 16, 17, 18, 19, 20, 21, 22, 23, 24, 25, 26, 27, 28, 29, 30, 31, 32, 33, 34] (by decide +kernel) (by decide +kernel)) (goodIn_sub (fun _ h => List.mem_cons_of_mem _ (List.mem_append_right _ h)) (by decide +kernel))
set_option maxRecDepth 20000 in
theorem gX2_requireTwoTeams_X2_requireTeam : GoodIn wsX2_requireTwoTeams (wsV RX2 136 RX2 yX2_requireTeam wsX2_requireTeam) := goodIn_app (goodIn_of _ (by decide +kernel)) ggX2_requireTwoTeams_X2_requireTeam
theorem dX2_requireTwoTeams_0 : decode cX2_requireTwoTeams 0 = .ok (.aload_n 0, 1) := by decide +kernel
theorem dX2_requireTwoTeams_1 : decode cX2_requireTwoTeams 1 = .ok (.iload_n 1, 1) := by decide +kernel
theorem dX2_requireTwoTeams_2 : decode cX2_requireTwoTeams 2 = .ok (.invokevirtual 136, 3) := by decide +kernel
theorem dX2_requireTwoTeams_5 : decode cX2_requireTwoTeams 5 = .ok (.aload_n 0, 1) := by decide +kernel
theorem dX2_requireTwoTeams_6 : decode cX2_requireTwoTeams 6 = .ok (.iload_n 2, 1) := by decide +kernel
theorem dX2_requireTwoTeams_7 : decode cX2_requireTwoTeams 7 = .ok (.invokevirtual 136, 3) := by decide +kernel
theorem dX2_requireTwoTeams_10 : decode cX2_requireTwoTeams 10 = .ok (.iload_n 1, 1) := by decide +kernel
theorem dX2_requireTwoTeams_11 : decode cX2_requireTwoTeams 11 = .ok (.iload_n 2, 1) := by decide +kernel
theorem dX2_requireTwoTeams_12 : decode cX2_requireTwoTeams 12 = .ok (.if_icmp .ne 13, 3) := by decide +kernel
theorem dX2_requireTwoTeams_15 : decode cX2_requireTwoTeams 15 = .ok (.new 40, 3) := by decide +kernel
theorem dX2_requireTwoTeams_18 : decode cX2_requireTwoTeams 18 = .ok (.dup, 1) := by decide +kernel
theorem dX2_requireTwoTeams_19 : decode cX2_requireTwoTeams 19 = .ok (.ldc 173, 2) := by decide +kernel
theorem dX2_requireTwoTeams_21 : decode cX2_requireTwoTeams 21 = .ok (.invokespecial 44, 3) := by decide +kernel
theorem dX2_requireTwoTeams_24 : decode cX2_requireTwoTeams 24 = .ok (.athrow, 1) := by decide +kernel
theorem dX2_requireTwoTeams_25 : decode cX2_requireTwoTeams 25 = .ok (.return_, 1) := by decide +kernel
theorem dX2_requireNothingDrawn_0 : decode cX2_requireNothingDrawn 0 = .ok (.aload_n 0, 1) := by decide +kernel
theorem dX2_requireNothingDrawn_1 : decode cX2_requireNothingDrawn 1 = .ok (.getfield 92, 3) := by decide +kernel
theorem dX2_requireNothingDrawn_4 : decode cX2_requireNothingDrawn 4 = .ok (.ifCond .le 13, 3) := by decide +kernel
theorem dX2_requireNothingDrawn_7 : decode cX2_requireNothingDrawn 7 = .ok (.new 102, 3) := by decide +kernel
theorem dX2_requireNothingDrawn_10 : decode cX2_requireNothingDrawn 10 = .ok (.dup, 1) := by decide +kernel
theorem dX2_requireNothingDrawn_11 : decode cX2_requireNothingDrawn 11 = .ok (.ldc 175, 2) := by decide +kernel
theorem dX2_requireNothingDrawn_13 : decode cX2_requireNothingDrawn 13 = .ok (.invokespecial 106, 3) := by decide +kernel
theorem dX2_requireNothingDrawn_16 : decode cX2_requireNothingDrawn 16 = .ok (.athrow, 1) := by decide +kernel
theorem dX2_requireNothingDrawn_17 : decode cX2_requireNothingDrawn 17 = .ok (.return_, 1) := by decide +kernel
set_option maxRecDepth 20000 in
theorem ggX2_startWith_X0_reset : GoodIn wsX2_startWith wsX0_reset := goodIn_r _ [8, 9, 10, 11, 12, 13, 14, 15, 16, 17, 18, 7, 19, 20, 37, 38, 39, 40, 41, 42, 43, 44, 45] (by decide +kernel) (by decide +kernel)
set_option maxRecDepth 20000 in
theorem gX2_startWith_X0_reset : GoodIn wsX2_startWith (wsV RX2 177 RX0 yX0_reset wsX0_reset) := goodIn_app (goodIn_of _ (by decide +kernel)) ggX2_startWith_X0_reset
set_option maxRecDepth 20000 in
theorem ggX2_startWith_X2_forgetResults : GoodIn wsX2_startWith wsX2_forgetResults := goodIn_r _ [25, 26, 27, 28, 29, 30, 31, 32, 33, 34, 35, 36] (by decide +kernel) (by decide +kernel)
set_option maxRecDepth 20000 in
theorem gX2_startWith_X2_forgetResults : GoodIn wsX2_startWith (wsV RX2 69 RX2 yX2_forgetResults wsX2_forgetResults) := goodIn_app (goodIn_of _ (by decide +kernel)) ggX2_startWith_X2_forgetResults
theorem dX2_startWith_0 : decode cX2_startWith 0 = .ok (.aload_n 0, 1) := by decide +kernel
theorem dX2_startWith_1 : decode cX2_startWith 1 = .ok (.getfield 10, 3) := by decide +kernel
theorem dX2_startWith_4 : decode cX2_startWith 4 = .ok (.iload_n 1, 1) := by decide +kernel
theorem dX2_startWith_5 : decode cX2_startWith 5 = .ok (.iload_n 2, 1) := by decide +kernel
theorem dX2_startWith_6 : decode cX2_startWith 6 = .ok (.invokevirtual 177, 3) := by decide +kernel
theorem dX2_startWith_9 : decode cX2_startWith 9 = .ok (.iconst 0, 1) := by decide +kernel
theorem dX2_startWith_10 : decode cX2_startWith 10 = .ok (.istore_n 3, 1) := by decide +kernel
theorem dX2_startWith_11 : decode cX2_startWith 11 = .ok (.iload_n 3, 1) := by decide +kernel
theorem dX2_startWith_12 : decode cX2_startWith 12 = .ok (.aload_n 0, 1) := by decide +kernel
theorem dX2_startWith_13 : decode cX2_startWith 13 = .ok (.getfield 26, 3) := by decide +kernel
theorem dX2_startWith_16 : decode cX2_startWith 16 = .ok (.arraylength, 1) := by decide +kernel
theorem dX2_startWith_17 : decode cX2_startWith 17 = .ok (.if_icmp .ge 16, 3) := by decide +kernel
theorem dX2_startWith_20 : decode cX2_startWith 20 = .ok (.aload_n 0, 1) := by decide +kernel
theorem dX2_startWith_21 : decode cX2_startWith 21 = .ok (.getfield 26, 3) := by decide +kernel
theorem dX2_startWith_24 : decode cX2_startWith 24 = .ok (.iload_n 3, 1) := by decide +kernel
theorem dX2_startWith_25 : decode cX2_startWith 25 = .ok (.iconst (-1), 1) := by decide +kernel
theorem dX2_startWith_26 : decode cX2_startWith 26 = .ok (.iastore, 1) := by decide +kernel
theorem dX2_startWith_27 : decode cX2_startWith 27 = .ok (.iinc 3 1, 3) := by decide +kernel
theorem dX2_startWith_30 : decode cX2_startWith 30 = .ok (.goto (-19), 3) := by decide +kernel
theorem dX2_startWith_33 : decode cX2_startWith 33 = .ok (.aload_n 0, 1) := by decide +kernel
theorem dX2_startWith_34 : decode cX2_startWith 34 = .ok (.iconst 0, 1) := by decide +kernel
theorem dX2_startWith_35 : decode cX2_startWith 35 = .ok (.putfield 92, 3) := by decide +kernel
theorem dX2_startWith_38 : decode cX2_startWith 38 = .ok (.aload_n 0, 1) := by decide +kernel
theorem dX2_startWith_39 : decode cX2_startWith 39 = .ok (.invokevirtual 69, 3) := by decide +kernel
theorem dX2_startWith_42 : decode cX2_startWith 42 = .ok (.return_, 1) := by decide +kernel
theorem dX2_countLeft_0 : decode cX2_countLeft 0 = .ok (.iload_n 1, 1) := by decide +kernel
theorem dX2_countLeft_1 : decode cX2_countLeft 1 = .ok (.aload_n 0, 1) := by decide +kernel
theorem dX2_countLeft_2 : decode cX2_countLeft 2 = .ok (.getfield 10, 3) := by decide +kernel
theorem dX2_countLeft_5 : decode cX2_countLeft 5 = .ok (.getfield 147, 3) := by decide +kernel
theorem dX2_countLeft_8 : decode cX2_countLeft 8 = .ok (.imul, 1) := by decide +kernel
theorem dX2_countLeft_9 : decode cX2_countLeft 9 = .ok (.istore_n 2, 1) := by decide +kernel
theorem dX2_countLeft_10 : decode cX2_countLeft 10 = .ok (.iconst 0, 1) := by decide +kernel
theorem dX2_countLeft_11 : decode cX2_countLeft 11 = .ok (.istore_n 3, 1) := by decide +kernel
theorem dX2_countLeft_12 : decode cX2_countLeft 12 = .ok (.iload_n 2, 1) := by decide +kernel
theorem dX2_countLeft_13 : decode cX2_countLeft 13 = .ok (.istore 4, 2) := by decide +kernel
theorem dX2_countLeft_15 : decode cX2_countLeft 15 = .ok (.iload 4, 2) := by decide +kernel
theorem dX2_countLeft_17 : decode cX2_countLeft 17 = .ok (.iload_n 2, 1) := by decide +kernel
theorem dX2_countLeft_18 : decode cX2_countLeft 18 = .ok (.aload_n 0, 1) := by decide +kernel
theorem dX2_countLeft_19 : decode cX2_countLeft 19 = .ok (.getfield 10, 3) := by decide +kernel
theorem dX2_countLeft_22 : decode cX2_countLeft 22 = .ok (.getfield 147, 3) := by decide +kernel
theorem dX2_countLeft_25 : decode cX2_countLeft 25 = .ok (.iadd, 1) := by decide +kernel
theorem dX2_countLeft_26 : decode cX2_countLeft 26 = .ok (.if_icmp .ge 23, 3) := by decide +kernel
theorem dX2_countLeft_29 : decode cX2_countLeft 29 = .ok (.aload_n 0, 1) := by decide +kernel
theorem dX2_countLeft_30 : decode cX2_countLeft 30 = .ok (.getfield 26, 3) := by decide +kernel
theorem dX2_countLeft_33 : decode cX2_countLeft 33 = .ok (.iload 4, 2) := by decide +kernel
theorem dX2_countLeft_35 : decode cX2_countLeft 35 = .ok (.iaload, 1) := by decide +kernel
theorem dX2_countLeft_36 : decode cX2_countLeft 36 = .ok (.iconst (-1), 1) := by decide +kernel
theorem dX2_countLeft_37 : decode cX2_countLeft 37 = .ok (.if_icmp .ne 6, 3) := by decide +kernel
theorem dX2_countLeft_40 : decode cX2_countLeft 40 = .ok (.iinc 3 1, 3) := by decide +kernel
theorem dX2_countLeft_43 : decode cX2_countLeft 43 = .ok (.iinc 4 1, 3) := by decide +kernel
theorem dX2_countLeft_46 : decode cX2_countLeft 46 = .ok (.goto (-31), 3) := by decide +kernel
theorem dX2_countLeft_49 : decode cX2_countLeft 49 = .ok (.iload_n 3, 1) := by decide +kernel
theorem dX2_countLeft_50 : decode cX2_countLeft 50 = .ok (.ireturn, 1) := by decide +kernel
set_option maxRecDepth 20000 in
theorem ggX2_findBall_X2_pot : GoodIn wsX2_findBall wsX2_pot := goodIn_r _ [7, 1, 8, 9, 10, 6, 11, 2, 12, 13, 14, 15, 16, 17, 18, 19, 20, 21, 22, 23, 24, 25, 26, 27, 28, 29] (by decide +kernel) (by decide +kernel)
set_option maxRecDepth 20000 in
theorem gX2_findBall_X2_pot : GoodIn wsX2_findBall (wsV RX2 133 RX2 yX2_pot wsX2_pot) := goodIn_app (goodIn_of _ (by decide +kernel)) ggX2_findBall_X2_pot
theorem dX2_findBall_0 : decode cX2_findBall 0 = .ok (.aload_n 0, 1) := by decide +kernel
theorem dX2_findBall_1 : decode cX2_findBall 1 = .ok (.invokevirtual 133, 3) := by decide +kernel
theorem dX2_findBall_4 : decode cX2_findBall 4 = .ok (.istore_n 2, 1) := by decide +kernel
theorem dX2_findBall_5 : decode cX2_findBall 5 = .ok (.iload_n 2, 1) := by decide +kernel
theorem dX2_findBall_6 : decode cX2_findBall 6 = .ok (.iconst (-1), 1) := by decide +kernel
theorem dX2_findBall_7 : decode cX2_findBall 7 = .ok (.if_icmp .eq 7, 3) := by decide +kernel
theorem dX2_findBall_10 : decode cX2_findBall 10 = .ok (.iload_n 1, 1) := by decide +kernel
theorem dX2_findBall_11 : decode cX2_findBall 11 = .ok (.ifCond .ge 5, 3) := by decide +kernel
theorem dX2_findBall_14 : decode cX2_findBall 14 = .ok (.iconst (-1), 1) := by decide +kernel
theorem dX2_findBall_15 : decode cX2_findBall 15 = .ok (.ireturn, 1) := by decide +kernel
theorem dX2_findBall_16 : decode cX2_findBall 16 = .ok (.iload_n 2, 1) := by decide +kernel
theorem dX2_findBall_17 : decode cX2_findBall 17 = .ok (.aload_n 0, 1) := by decide +kernel
theorem dX2_findBall_18 : decode cX2_findBall 18 = .ok (.getfield 10, 3) := by decide +kernel
theorem dX2_findBall_21 : decode cX2_findBall 21 = .ok (.getfield 147, 3) := by decide +kernel
theorem dX2_findBall_24 : decode cX2_findBall 24 = .ok (.imul, 1) := by decide +kernel
theorem dX2_findBall_25 : decode cX2_findBall 25 = .ok (.istore_n 3, 1) := by decide +kernel
theorem dX2_findBall_26 : decode cX2_findBall 26 = .ok (.iload_n 1, 1) := by decide +kernel
theorem dX2_findBall_27 : decode cX2_findBall 27 = .ok (.istore 4, 2) := by decide +kernel
theorem dX2_findBall_29 : decode cX2_findBall 29 = .ok (.iload_n 3, 1) := by decide +kernel
theorem dX2_findBall_30 : decode cX2_findBall 30 = .ok (.istore 5, 2) := by decide +kernel
theorem dX2_findBall_32 : decode cX2_findBall 32 = .ok (.iload 5, 2) := by decide +kernel
theorem dX2_findBall_34 : decode cX2_findBall 34 = .ok (.iload_n 3, 1) := by decide +kernel
theorem dX2_findBall_35 : decode cX2_findBall 35 = .ok (.aload_n 0, 1) := by decide +kernel
theorem dX2_findBall_36 : decode cX2_findBall 36 = .ok (.getfield 10, 3) := by decide +kernel
theorem dX2_findBall_39 : decode cX2_findBall 39 = .ok (.getfield 147, 3) := by decide +kernel
theorem dX2_findBall_42 : decode cX2_findBall 42 = .ok (.iadd, 1) := by decide +kernel
theorem dX2_findBall_43 : decode cX2_findBall 43 = .ok (.if_icmp .ge 31, 3) := by decide +kernel
theorem dX2_findBall_46 : decode cX2_findBall 46 = .ok (.aload_n 0, 1) := by decide +kernel
theorem dX2_findBall_47 : decode cX2_findBall 47 = .ok (.getfield 26, 3) := by decide +kernel
theorem dX2_findBall_50 : decode cX2_findBall 50 = .ok (.iload 5, 2) := by decide +kernel
theorem dX2_findBall_52 : decode cX2_findBall 52 = .ok (.iaload, 1) := by decide +kernel
theorem dX2_findBall_53 : decode cX2_findBall 53 = .ok (.iconst (-1), 1) := by decide +kernel
theorem dX2_findBall_54 : decode cX2_findBall 54 = .ok (.if_icmp .ne 14, 3) := by decide +kernel
theorem dX2_findBall_57 : decode cX2_findBall 57 = .ok (.iload 4, 2) := by decide +kernel
theorem dX2_findBall_59 : decode cX2_findBall 59 = .ok (.ifCond .ne 6, 3) := by decide +kernel
theorem dX2_findBall_62 : decode cX2_findBall 62 = .ok (.iload 5, 2) := by decide +kernel
theorem dX2_findBall_64 : decode cX2_findBall 64 = .ok (.ireturn, 1) := by decide +kernel
theorem dX2_findBall_65 : decode cX2_findBall 65 = .ok (.iinc 4 (-1), 3) := by decide +kernel
theorem dX2_findBall_68 : decode cX2_findBall 68 = .ok (.iinc 5 1, 3) := by decide +kernel
theorem dX2_findBall_71 : decode cX2_findBall 71 = .ok (.goto (-39), 3) := by decide +kernel
theorem dX2_findBall_74 : decode cX2_findBall 74 = .ok (.iconst (-1), 1) := by decide +kernel
theorem dX2_findBall_75 : decode cX2_findBall 75 = .ok (.ireturn, 1) := by decide +kernel
set_option maxRecDepth 20000 in
theorem ggX2_seat_X1_lowestGroup : GoodIn wsX2_seat wsX1_lowestGroup := goodIn_r _ [10, 11, 12, 13, 14, 9, 15, 29, 30] (by decide +kernel) (by decide +kernel)
set_option maxRecDepth 20000 in
theorem gX2_seat_X1_lowestGroup : GoodIn wsX2_seat (wsV RX2 157 RX1 yX1_lowestGroup wsX1_lowestGroup) := goodIn_app (goodIn_of _ (by decide +kernel)) ggX2_seat_X1_lowestGroup
set_option maxRecDepth 20000 in
theorem ggX2_seat_X1_narrow : GoodIn wsX2_seat wsX1_narrow := goodIn_r _ [19, 11, 12, 13, 14, 9, 15, 29, 30] (by decide +kernel) (by decide +kernel)
set_option maxRecDepth 20000 in
theorem gX2_seat_X1_narrow : GoodIn wsX2_seat (wsV RX2 180 RX1 yX1_narrow wsX1_narrow) := goodIn_app (goodIn_of _ (by decide +kernel)) ggX2_seat_X1_narrow
theorem dX2_seat_0 : decode cX2_seat 0 = .ok (.aload_n 0, 1) := by decide +kernel
theorem dX2_seat_1 : decode cX2_seat 1 = .ok (.getfield 19, 3) := by decide +kernel
theorem dX2_seat_4 : decode cX2_seat 4 = .ok (.iload_n 1, 1) := by decide +kernel
theorem dX2_seat_5 : decode cX2_seat 5 = .ok (.invokevirtual 157, 3) := by decide +kernel
theorem dX2_seat_8 : decode cX2_seat 8 = .ok (.istore_n 2, 1) := by decide +kernel
theorem dX2_seat_9 : decode cX2_seat 9 = .ok (.aload_n 0, 1) := by decide +kernel
theorem dX2_seat_10 : decode cX2_seat 10 = .ok (.getfield 33, 3) := by decide +kernel
theorem dX2_seat_13 : decode cX2_seat 13 = .ok (.aload_n 0, 1) := by decide +kernel
theorem dX2_seat_14 : decode cX2_seat 14 = .ok (.getfield 92, 3) := by decide +kernel
theorem dX2_seat_17 : decode cX2_seat 17 = .ok (.aload_n 0, 1) := by decide +kernel
theorem dX2_seat_18 : decode cX2_seat 18 = .ok (.getfield 19, 3) := by decide +kernel
theorem dX2_seat_21 : decode cX2_seat 21 = .ok (.getfield 99, 3) := by decide +kernel
theorem dX2_seat_24 : decode cX2_seat 24 = .ok (.iastore, 1) := by decide +kernel
theorem dX2_seat_25 : decode cX2_seat 25 = .ok (.aload_n 0, 1) := by decide +kernel
theorem dX2_seat_26 : decode cX2_seat 26 = .ok (.getfield 19, 3) := by decide +kernel
theorem dX2_seat_29 : decode cX2_seat 29 = .ok (.iload_n 1, 1) := by decide +kernel
theorem dX2_seat_30 : decode cX2_seat 30 = .ok (.iload_n 2, 1) := by decide +kernel
theorem dX2_seat_31 : decode cX2_seat 31 = .ok (.invokevirtual 180, 3) := by decide +kernel
theorem dX2_seat_34 : decode cX2_seat 34 = .ok (.aload_n 0, 1) := by decide +kernel
theorem dX2_seat_35 : decode cX2_seat 35 = .ok (.getfield 26, 3) := by decide +kernel
theorem dX2_seat_38 : decode cX2_seat 38 = .ok (.iload_n 1, 1) := by decide +kernel
theorem dX2_seat_39 : decode cX2_seat 39 = .ok (.iload_n 2, 1) := by decide +kernel
theorem dX2_seat_40 : decode cX2_seat 40 = .ok (.iastore, 1) := by decide +kernel
theorem dX2_seat_41 : decode cX2_seat 41 = .ok (.aload_n 0, 1) := by decide +kernel
theorem dX2_seat_42 : decode cX2_seat 42 = .ok (.getfield 30, 3) := by decide +kernel
theorem dX2_seat_45 : decode cX2_seat 45 = .ok (.aload_n 0, 1) := by decide +kernel
theorem dX2_seat_46 : decode cX2_seat 46 = .ok (.getfield 92, 3) := by decide +kernel
theorem dX2_seat_49 : decode cX2_seat 49 = .ok (.iload_n 1, 1) := by decide +kernel
theorem dX2_seat_50 : decode cX2_seat 50 = .ok (.iastore, 1) := by decide +kernel
theorem dX2_seat_51 : decode cX2_seat 51 = .ok (.aload_n 0, 1) := by decide +kernel
theorem dX2_seat_52 : decode cX2_seat 52 = .ok (.dup, 1) := by decide +kernel
theorem dX2_seat_53 : decode cX2_seat 53 = .ok (.getfield 92, 3) := by decide +kernel
theorem dX2_seat_56 : decode cX2_seat 56 = .ok (.iconst 1, 1) := by decide +kernel
theorem dX2_seat_57 : decode cX2_seat 57 = .ok (.iadd, 1) := by decide +kernel
theorem dX2_seat_58 : decode cX2_seat 58 = .ok (.putfield 92, 3) := by decide +kernel
theorem dX2_seat_61 : decode cX2_seat 61 = .ok (.return_, 1) := by decide +kernel
set_option maxRecDepth 20000 in
theorem ggX2_unseat_X1_widen : GoodIn wsX2_unseat wsX1_widen := goodIn_r _ [10, 11, 21, 22] (by decide +kernel) (by decide +kernel)
set_option maxRecDepth 20000 in
theorem gX2_unseat_X1_widen : GoodIn wsX2_unseat (wsV RX2 183 RX1 yX1_widen wsX1_widen) := goodIn_app (goodIn_of _ (by decide +kernel)) ggX2_unseat_X1_widen
theorem dX2_unseat_0 : decode cX2_unseat 0 = .ok (.aload_n 0, 1) := by decide +kernel
theorem dX2_unseat_1 : decode cX2_unseat 1 = .ok (.dup, 1) := by decide +kernel
theorem dX2_unseat_2 : decode cX2_unseat 2 = .ok (.getfield 92, 3) := by decide +kernel
theorem dX2_unseat_5 : decode cX2_unseat 5 = .ok (.iconst 1, 1) := by decide +kernel
theorem dX2_unseat_6 : decode cX2_unseat 6 = .ok (.isub, 1) := by decide +kernel
theorem dX2_unseat_7 : decode cX2_unseat 7 = .ok (.putfield 92, 3) := by decide +kernel
theorem dX2_unseat_10 : decode cX2_unseat 10 = .ok (.aload_n 0, 1) := by decide +kernel
theorem dX2_unseat_11 : decode cX2_unseat 11 = .ok (.getfield 30, 3) := by decide +kernel
theorem dX2_unseat_14 : decode cX2_unseat 14 = .ok (.aload_n 0, 1) := by decide +kernel
theorem dX2_unseat_15 : decode cX2_unseat 15 = .ok (.getfield 92, 3) := by decide +kernel
theorem dX2_unseat_18 : decode cX2_unseat 18 = .ok (.iaload, 1) := by decide +kernel
theorem dX2_unseat_19 : decode cX2_unseat 19 = .ok (.istore_n 1, 1) := by decide +kernel
theorem dX2_unseat_20 : decode cX2_unseat 20 = .ok (.aload_n 0, 1) := by decide +kernel
theorem dX2_unseat_21 : decode cX2_unseat 21 = .ok (.getfield 26, 3) := by decide +kernel
theorem dX2_unseat_24 : decode cX2_unseat 24 = .ok (.iload_n 1, 1) := by decide +kernel
theorem dX2_unseat_25 : decode cX2_unseat 25 = .ok (.iconst (-1), 1) := by decide +kernel
theorem dX2_unseat_26 : decode cX2_unseat 26 = .ok (.iastore, 1) := by decide +kernel
theorem dX2_unseat_27 : decode cX2_unseat 27 = .ok (.aload_n 0, 1) := by decide +kernel
theorem dX2_unseat_28 : decode cX2_unseat 28 = .ok (.getfield 19, 3) := by decide +kernel
theorem dX2_unseat_31 : decode cX2_unseat 31 = .ok (.aload_n 0, 1) := by decide +kernel
theorem dX2_unseat_32 : decode cX2_unseat 32 = .ok (.getfield 33, 3) := by decide +kernel
theorem dX2_unseat_35 : decode cX2_unseat 35 = .ok (.aload_n 0, 1) := by decide +kernel
theorem dX2_unseat_36 : decode cX2_unseat 36 = .ok (.getfield 92, 3) := by decide +kernel
theorem dX2_unseat_39 : decode cX2_unseat 39 = .ok (.iaload, 1) := by decide +kernel
theorem dX2_unseat_40 : decode cX2_unseat 40 = .ok (.invokevirtual 183, 3) := by decide +kernel
theorem dX2_unseat_43 : decode cX2_unseat 43 = .ok (.iload_n 1, 1) := by decide +kernel
theorem dX2_unseat_44 : decode cX2_unseat 44 = .ok (.ireturn, 1) := by decide +kernel
theorem dX2_factorial_0 : decode cX2_factorial 0 = .ok (.iconst 1, 1) := by decide +kernel
theorem dX2_factorial_1 : decode cX2_factorial 1 = .ok (.istore_n 1, 1) := by decide +kernel
theorem dX2_factorial_2 : decode cX2_factorial 2 = .ok (.iconst 2, 1) := by decide +kernel
theorem dX2_factorial_3 : decode cX2_factorial 3 = .ok (.istore_n 2, 1) := by decide +kernel
theorem dX2_factorial_4 : decode cX2_factorial 4 = .ok (.iload_n 2, 1) := by decide +kernel
theorem dX2_factorial_5 : decode cX2_factorial 5 = .ok (.iload_n 0, 1) := by decide +kernel
theorem dX2_factorial_6 : decode cX2_factorial 6 = .ok (.if_icmp .gt 13, 3) := by decide +kernel
theorem dX2_factorial_9 : decode cX2_factorial 9 = .ok (.iload_n 1, 1) := by decide +kernel
theorem dX2_factorial_10 : decode cX2_factorial 10 = .ok (.iload_n 2, 1) := by decide +kernel
theorem dX2_factorial_11 : decode cX2_factorial 11 = .ok (.imul, 1) := by decide +kernel
theorem dX2_factorial_12 : decode cX2_factorial 12 = .ok (.istore_n 1, 1) := by decide +kernel
theorem dX2_factorial_13 : decode cX2_factorial 13 = .ok (.iinc 2 1, 3) := by decide +kernel
theorem dX2_factorial_16 : decode cX2_factorial 16 = .ok (.goto (-12), 3) := by decide +kernel
theorem dX2_factorial_19 : decode cX2_factorial 19 = .ok (.iload_n 1, 1) := by decide +kernel
theorem dX2_factorial_20 : decode cX2_factorial 20 = .ok (.ireturn, 1) := by decide +kernel
theorem dX2_forgetResults_0 : decode cX2_forgetResults 0 = .ok (.aload_n 0, 1) := by decide +kernel
theorem dX2_forgetResults_1 : decode cX2_forgetResults 1 = .ok (.iconst 0, 1) := by decide +kernel
theorem dX2_forgetResults_2 : decode cX2_forgetResults 2 = .ok (.putfield 186, 3) := by decide +kernel
theorem dX2_forgetResults_5 : decode cX2_forgetResults 5 = .ok (.aload_n 0, 1) := by decide +kernel
theorem dX2_forgetResults_6 : decode cX2_forgetResults 6 = .ok (.iconst 0, 1) := by decide +kernel
theorem dX2_forgetResults_7 : decode cX2_forgetResults 7 = .ok (.putfield 113, 3) := by decide +kernel
theorem dX2_forgetResults_10 : decode cX2_forgetResults 10 = .ok (.return_, 1) := by decide +kernel
set_option maxRecDepth 20000 in
theorem ggX2_openResults_X1_clear : GoodIn wsX2_openResults wsX1_clear := goodIn_r _ [8, 9, 60, 61] (by decide +kernel) (by decide +kernel)
set_option maxRecDepth 20000 in
theorem gX2_openResults_X1_clear : GoodIn wsX2_openResults (wsV RX2 189 RX1 yX1_clear wsX1_clear) := goodIn_app (goodIn_of _ (by decide +kernel)) ggX2_openResults_X1_clear
set_option maxRecDepth 20000 in
theorem ggX2_openResults_X0_addLawful : GoodIn wsX2_openResults wsX0_addLawful := goodIn_r _ [14, 15, 16, 17, 13, 18, 19, 20, 21, 22, 23, 7, 24, 9, 25, 26, 27, 28, 29, 30, 31, 32, 33, 34, 35, 36, 37, 38, 39, 40, 41, 42, 43, 44, 45, 46, 47, 48, 49, 50, 62, 63, 64, 65, 66, 67, 68, 69, 70, 60, 61] (by decide +kernel) (by decide +kernel)
set_option maxRecDepth 20000 in
theorem gX2_openResults_X0_addLawful : GoodIn wsX2_openResults (wsV RX2 192 RX0 yX0_addLawful wsX0_addLawful) := goodIn_app (goodIn_of _ (by decide +kernel)) ggX2_openResults_X0_addLawful
theorem dX2_openResults_0 : decode cX2_openResults 0 = .ok (.aload_n 0, 1) := by decide +kernel
theorem dX2_openResults_1 : decode cX2_openResults 1 = .ok (.getfield 186, 3) := by decide +kernel
theorem dX2_openResults_4 : decode cX2_openResults 4 = .ok (.ifCond .ne 26, 3) := by decide +kernel
theorem dX2_openResults_7 : decode cX2_openResults 7 = .ok (.aload_n 0, 1) := by decide +kernel
theorem dX2_openResults_8 : decode cX2_openResults 8 = .ok (.getfield 19, 3) := by decide +kernel
theorem dX2_openResults_11 : decode cX2_openResults 11 = .ok (.invokevirtual 189, 3) := by decide +kernel
theorem dX2_openResults_14 : decode cX2_openResults 14 = .ok (.aload_n 0, 1) := by decide +kernel
theorem dX2_openResults_15 : decode cX2_openResults 15 = .ok (.getfield 10, 3) := by decide +kernel
theorem dX2_openResults_18 : decode cX2_openResults 18 = .ok (.aload_n 0, 1) := by decide +kernel
theorem dX2_openResults_19 : decode cX2_openResults 19 = .ok (.getfield 19, 3) := by decide +kernel
theorem dX2_openResults_22 : decode cX2_openResults 22 = .ok (.invokevirtual 192, 3) := by decide +kernel
theorem dX2_openResults_25 : decode cX2_openResults 25 = .ok (.aload_n 0, 1) := by decide +kernel
theorem dX2_openResults_26 : decode cX2_openResults 26 = .ok (.iconst 1, 1) := by decide +kernel
theorem dX2_openResults_27 : decode cX2_openResults 27 = .ok (.putfield 186, 3) := by decide +kernel
theorem dX2_openResults_30 : decode cX2_openResults 30 = .ok (.aload_n 0, 1) := by decide +kernel
theorem dX2_openResults_31 : decode cX2_openResults 31 = .ok (.getfield 19, 3) := by decide +kernel
theorem dX2_openResults_34 : decode cX2_openResults 34 = .ok (.areturn, 1) := by decide +kernel
set_option maxRecDepth 20000 in
theorem ggX2_endResults_X1_clear : GoodIn wsX2_endResults wsX1_clear := goodIn_r _ [8, 9, 123, 124] (by decide +kernel) (by decide +kernel)
set_option maxRecDepth 20000 in
theorem gX2_endResults_X1_clear : GoodIn wsX2_endResults (wsV RX2 189 RX1 yX1_clear wsX1_clear) := goodIn_app (goodIn_of _ (by decide +kernel)) ggX2_endResults_X1_clear
set_option maxRecDepth 20000 in
theorem ggX2_endResults_X2_openResults : GoodIn wsX2_endResults wsX2_openResults := goodIn_r _ [14, 15, 16, 17, 4, 5, 6, 7, 8, 9, 18, 19, 20, 21, 22, 23, 24, 25, 26, 27, 28, 29, 30, 31, 32, 33, 34, 35, 36, 37, 38, 39, 40, 41, 42, 43, 44, 45, 46, 47, 48, 49, 50, 51, 52, 53, 54, 55, 56, 57, 58, 114, 115, 116, 117, 118, 119, 120, 121, 122, 123, 124, 125, 126, 127, 128, 129, 130, 131, 132, 133] (by decide +kernel) (by decide +kernel)
set_option maxRecDepth 20000 in
theorem gX2_endResults_X2_openResults : GoodIn wsX2_endResults (wsV RX2 95 RX2 yX2_openResults wsX2_openResults) := goodIn_app (goodIn_of _ (by decide +kernel)) ggX2_endResults_X2_openResults
set_option maxRecDepth 20000 in
theorem ggX2_endResults_X2_followOrders : GoodIn wsX2_endResults wsX2_followOrders := goodIn_r _ [62, 17, 2, 16, 63, 64, 65, 7, 66, 33, 67, 30, 31, 32, 9, 68, 69, 70, 13, 71, 72, 73, 74, 75, 76, 77, 78, 79, 80, 81, 82, 83, 84, 85, 86, 87, 88, 89, 90, 91, 92, 93, 3, 94, 95, 96, 97, 98, 99, 100, 101, 102, 103, 104, 105, 59, 60, 61, 106, 107, 108, 109, 110, 111, 112, 113, 114, 115, 116, 117, 118, 119, 120, 121, 122, 123, 124, 125, 126, 127, 128, 129, 130, 131, 132, 133] (by decide +kernel) (by decide +kernel)
set_option maxRecDepth 20000 in
theorem gX2_endResults_X2_followOrders : GoodIn wsX2_endResults (wsV RX2 196 RX2 yX2_followOrders wsX2_followOrders) := goodIn_app (goodIn_of _ (by decide +kernel)) ggX2_endResults_X2_followOrders
theorem dX2_endResults_0 : decode cX2_endResults 0 = .ok (.aload_n 0, 1) := by decide +kernel
theorem dX2_endResults_1 : decode cX2_endResults 1 = .ok (.getfield 113, 3) := by decide +kernel
theorem dX2_endResults_4 : decode cX2_endResults 4 = .ok (.ifCond .ne 33, 3) := by decide +kernel
theorem dX2_endResults_7 : decode cX2_endResults 7 = .ok (.aload_n 0, 1) := by decide +kernel
theorem dX2_endResults_8 : decode cX2_endResults 8 = .ok (.getfield 23, 3) := by decide +kernel
theorem dX2_endResults_11 : decode cX2_endResults 11 = .ok (.invokevirtual 189, 3) := by decide +kernel
theorem dX2_endResults_14 : decode cX2_endResults 14 = .ok (.aload_n 0, 1) := by decide +kernel
theorem dX2_endResults_15 : decode cX2_endResults 15 = .ok (.invokevirtual 95, 3) := by decide +kernel
theorem dX2_endResults_18 : decode cX2_endResults 18 = .ok (.getfield 99, 3) := by decide +kernel
theorem dX2_endResults_21 : decode cX2_endResults 21 = .ok (.ifCond .le 11, 3) := by decide +kernel
theorem dX2_endResults_24 : decode cX2_endResults 24 = .ok (.aload_n 0, 1) := by decide +kernel
theorem dX2_endResults_25 : decode cX2_endResults 25 = .ok (.aload_n 0, 1) := by decide +kernel
theorem dX2_endResults_26 : decode cX2_endResults 26 = .ok (.getfield 92, 3) := by decide +kernel
theorem dX2_endResults_29 : decode cX2_endResults 29 = .ok (.invokevirtual 196, 3) := by decide +kernel
theorem dX2_endResults_32 : decode cX2_endResults 32 = .ok (.aload_n 0, 1) := by decide +kernel
theorem dX2_endResults_33 : decode cX2_endResults 33 = .ok (.iconst 1, 1) := by decide +kernel
theorem dX2_endResults_34 : decode cX2_endResults 34 = .ok (.putfield 113, 3) := by decide +kernel
theorem dX2_endResults_37 : decode cX2_endResults 37 = .ok (.aload_n 0, 1) := by decide +kernel
theorem dX2_endResults_38 : decode cX2_endResults 38 = .ok (.getfield 23, 3) := by decide +kernel
theorem dX2_endResults_41 : decode cX2_endResults 41 = .ok (.areturn, 1) := by decide +kernel
set_option maxRecDepth 20000 in
theorem ggX2_followOrders_X1_first : GoodIn wsX2_followOrders wsX1_first := goodIn_r _ [8, 9, 75, 76] (by decide +kernel) (by decide +kernel)
set_option maxRecDepth 20000 in
theorem gX2_followOrders_X1_first : GoodIn wsX2_followOrders (wsV RX2 199 RX1 yX1_first wsX1_first) := goodIn_app (goodIn_of _ (by decide +kernel)) ggX2_followOrders_X1_first
set_option maxRecDepth 20000 in
theorem ggX2_followOrders_X1_add : GoodIn wsX2_followOrders wsX1_add := goodIn_r _ [13, 14, 9, 75, 76] (by decide +kernel) (by decide +kernel)
set_option maxRecDepth 20000 in
theorem gX2_followOrders_X1_add : GoodIn wsX2_followOrders (wsV RX2 202 RX1 yX1_add wsX1_add) := goodIn_app (goodIn_of _ (by decide +kernel)) ggX2_followOrders_X1_add
set_option maxRecDepth 20000 in
theorem ggX2_followOrders_X2_left : GoodIn wsX2_followOrders wsX2_left := goodIn_r _ [19, 20, 21, 22, 18, 23, 1, 24, 25, 26, 27, 28, 66, 67, 68, 69, 70, 71, 72, 73, 74, 77, 78, 79, 80, 81, 82, 83, 84, 85] (by decide +kernel) (by decide +kernel)
set_option maxRecDepth 20000 in
theorem gX2_followOrders_X2_left : GoodIn wsX2_followOrders (wsV RX2 205 RX2 yX2_left wsX2_left) := goodIn_app (goodIn_of _ (by decide +kernel)) ggX2_followOrders_X2_left
set_option maxRecDepth 20000 in
theorem ggX2_followOrders_X2_findBall : GoodIn wsX2_followOrders wsX2_findBall := goodIn_r _ [32, 1, 28, 20, 21, 22, 18, 23, 24, 25, 26, 27, 66, 67, 68, 69, 70, 71, 72, 73, 74, 77, 78, 79, 80, 81, 82, 83, 84, 85] (by decide +kernel) (by decide +kernel)
set_option maxRecDepth 20000 in
theorem gX2_followOrders_X2_findBall : GoodIn wsX2_followOrders (wsV RX2 107 RX2 yX2_findBall wsX2_findBall) := goodIn_app (goodIn_of _ (by decide +kernel)) ggX2_followOrders_X2_findBall
set_option maxRecDepth 20000 in
theorem ggX2_followOrders_X2_followBall : GoodIn wsX2_followOrders wsX2_followBall := goodIn_r _ [36, 37, 38, 39, 18, 40, 3, 41, 42, 28, 43, 44, 45, 46, 7, 47, 14, 9, 48, 49, 50, 51, 52, 53, 54, 55, 56, 57, 58, 59, 60, 61, 62, 63, 64, 65, 0, 1, 2, 4, 5, 6, 8, 10, 11, 12, 13, 15, 16, 17, 19, 20, 21, 22, 23, 24, 25, 26, 27, 29, 30, 31, 32, 33, 34, 35, 66, 67, 68, 69, 70, 71, 72, 73, 74, 75, 76, 77, 78, 79, 80, 81, 82, 83, 84, 85] (by decide +kernel) (by decide +kernel)
set_option maxRecDepth 20000 in
theorem gX2_followOrders_X2_followBall : GoodIn wsX2_followOrders (wsV RX2 208 RX2 yX2_followBall wsX2_followBall) := goodIn_app (goodIn_of _ (by decide +kernel)) ggX2_followOrders_X2_followBall
theorem dX2_followOrders_0 : decode cX2_followOrders 0 = .ok (.iload_n 1, 1) := by decide +kernel
theorem dX2_followOrders_1 : decode cX2_followOrders 1 = .ok (.aload_n 0, 1) := by decide +kernel
theorem dX2_followOrders_2 : decode cX2_followOrders 2 = .ok (.getfield 10, 3) := by decide +kernel
theorem dX2_followOrders_5 : decode cX2_followOrders 5 = .ok (.getfield 47, 3) := by decide +kernel
theorem dX2_followOrders_8 : decode cX2_followOrders 8 = .ok (.if_icmp .lt 18, 3) := by decide +kernel
theorem dX2_followOrders_11 : decode cX2_followOrders 11 = .ok (.aload_n 0, 1) := by decide +kernel
theorem dX2_followOrders_12 : decode cX2_followOrders 12 = .ok (.getfield 23, 3) := by decide +kernel
theorem dX2_followOrders_15 : decode cX2_followOrders 15 = .ok (.aload_n 0, 1) := by decide +kernel
theorem dX2_followOrders_16 : decode cX2_followOrders 16 = .ok (.getfield 19, 3) := by decide +kernel
theorem dX2_followOrders_19 : decode cX2_followOrders 19 = .ok (.invokevirtual 199, 3) := by decide +kernel
theorem dX2_followOrders_22 : decode cX2_followOrders 22 = .ok (.invokevirtual 202, 3) := by decide +kernel
theorem dX2_followOrders_25 : decode cX2_followOrders 25 = .ok (.return_, 1) := by decide +kernel
theorem dX2_followOrders_26 : decode cX2_followOrders 26 = .ok (.aload_n 0, 1) := by decide +kernel
theorem dX2_followOrders_27 : decode cX2_followOrders 27 = .ok (.invokevirtual 205, 3) := by decide +kernel
theorem dX2_followOrders_30 : decode cX2_followOrders 30 = .ok (.istore_n 2, 1) := by decide +kernel
theorem dX2_followOrders_31 : decode cX2_followOrders 31 = .ok (.iconst 0, 1) := by decide +kernel
theorem dX2_followOrders_32 : decode cX2_followOrders 32 = .ok (.istore_n 3, 1) := by decide +kernel
theorem dX2_followOrders_33 : decode cX2_followOrders 33 = .ok (.iload_n 3, 1) := by decide +kernel
theorem dX2_followOrders_34 : decode cX2_followOrders 34 = .ok (.iload_n 2, 1) := by decide +kernel
theorem dX2_followOrders_35 : decode cX2_followOrders 35 = .ok (.if_icmp .ge 19, 3) := by decide +kernel
theorem dX2_followOrders_38 : decode cX2_followOrders 38 = .ok (.aload_n 0, 1) := by decide +kernel
theorem dX2_followOrders_39 : decode cX2_followOrders 39 = .ok (.aload_n 0, 1) := by decide +kernel
theorem dX2_followOrders_40 : decode cX2_followOrders 40 = .ok (.iload_n 3, 1) := by decide +kernel
theorem dX2_followOrders_41 : decode cX2_followOrders 41 = .ok (.invokevirtual 107, 3) := by decide +kernel
theorem dX2_followOrders_44 : decode cX2_followOrders 44 = .ok (.iload_n 1, 1) := by decide +kernel
theorem dX2_followOrders_45 : decode cX2_followOrders 45 = .ok (.invokevirtual 208, 3) := by decide +kernel
theorem dX2_followOrders_48 : decode cX2_followOrders 48 = .ok (.iinc 3 1, 3) := by decide +kernel
theorem dX2_followOrders_51 : decode cX2_followOrders 51 = .ok (.goto (-18), 3) := by decide +kernel
theorem dX2_followOrders_54 : decode cX2_followOrders 54 = .ok (.return_, 1) := by decide +kernel
set_option maxRecDepth 20000 in
theorem ggX2_followBall_X2_seat : GoodIn wsX2_followBall wsX2_seat := goodIn_r _ [5, 6, 7, 8, 9, 10, 11, 12, 13, 14, 15, 16, 17, 18, 19, 20, 21, 22, 23, 24, 66, 67, 68, 69, 70, 71, 72, 73, 74, 75, 76] (by decide +kernel) (by decide +kernel)
set_option maxRecDepth 20000 in
theorem gX2_followBall_X2_seat : GoodIn wsX2_followBall (wsV RX2 117 RX2 yX2_seat wsX2_seat) := goodIn_app (goodIn_of _ (by decide +kernel)) ggX2_followBall_X2_seat
set_option maxRecDepth 20000 in
theorem ggX2_followBall_X2_followOrders : GoodIn wsX2_followBall wsX2_followOrders := goodIn_r _ [36, 37, 38, 6, 39, 40, 41, 14, 42, 17, 43, 44, 45, 46, 16, 47, 48, 49, 4, 50, 51, 52, 53, 54, 55, 56, 57, 58, 9, 59, 60, 61, 62, 63, 64, 65, 0, 1, 2, 3, 5, 7, 8, 10, 11, 12, 13, 15, 18, 19, 20, 21, 22, 23, 24, 25, 26, 27, 28, 29, 30, 31, 32, 33, 34, 35, 66, 67, 68, 69, 70, 71, 72, 73, 74, 75, 76, 77, 78, 79, 80, 81, 82, 83, 84, 85] (by decide +kernel) (by decide +kernel)
set_option maxRecDepth 20000 in
theorem gX2_followBall_X2_followOrders : GoodIn wsX2_followBall (wsV RX2 196 RX2 yX2_followOrders wsX2_followOrders) := goodIn_app (goodIn_of _ (by decide +kernel)) ggX2_followBall_X2_followOrders
set_option maxRecDepth 20000 in
theorem ggX2_followBall_X2_unseat : GoodIn wsX2_followBall wsX2_unseat := goodIn_r _ [31, 8, 10, 9, 6, 7, 32, 33, 34, 14, 35, 16, 66, 67, 68, 69, 70, 71, 72, 73, 74, 75, 76] (by decide +kernel) (by decide +kernel)
set_option maxRecDepth 20000 in
theorem gX2_followBall_X2_unseat : GoodIn wsX2_followBall (wsV RX2 123 RX2 yX2_unseat wsX2_unseat) := goodIn_app (goodIn_of _ (by decide +kernel)) ggX2_followBall_X2_unseat
theorem dX2_followBall_0 : decode cX2_followBall 0 = .ok (.iload_n 1, 1) := by decide +kernel
theorem dX2_followBall_1 : decode cX2_followBall 1 = .ok (.iconst (-1), 1) := by decide +kernel
theorem dX2_followBall_2 : decode cX2_followBall 2 = .ok (.if_icmp .eq 20, 3) := by decide +kernel
theorem dX2_followBall_5 : decode cX2_followBall 5 = .ok (.aload_n 0, 1) := by decide +kernel
theorem dX2_followBall_6 : decode cX2_followBall 6 = .ok (.iload_n 1, 1) := by decide +kernel
theorem dX2_followBall_7 : decode cX2_followBall 7 = .ok (.invokevirtual 117, 3) := by decide +kernel
theorem dX2_followBall_10 : decode cX2_followBall 10 = .ok (.aload_n 0, 1) := by decide +kernel
theorem dX2_followBall_11 : decode cX2_followBall 11 = .ok (.iload_n 2, 1) := by decide +kernel
theorem dX2_followBall_12 : decode cX2_followBall 12 = .ok (.iconst 1, 1) := by decide +kernel
theorem dX2_followBall_13 : decode cX2_followBall 13 = .ok (.iadd, 1) := by decide +kernel
theorem dX2_followBall_14 : decode cX2_followBall 14 = .ok (.invokevirtual 196, 3) := by decide +kernel
theorem dX2_followBall_17 : decode cX2_followBall 17 = .ok (.aload_n 0, 1) := by decide +kernel
theorem dX2_followBall_18 : decode cX2_followBall 18 = .ok (.invokevirtual 123, 3) := by decide +kernel
theorem dX2_followBall_21 : decode cX2_followBall 21 = .ok (.pop, 1) := by decide +kernel
theorem dX2_followBall_22 : decode cX2_followBall 22 = .ok (.return_, 1) := by decide +kernel
set_option maxRecDepth 20000 in
theorem ggX3_init_X3_begin : GoodIn wsX3_init wsX3_begin := goodIn_r _ [22, 23, 24, 25, 5, 11, 6, 8, 9, 26, 27, 28, 29, 30, 31, 32, 33, 34, 35, 36, 37, 38, 39, 40, 41, 42] (by decide +kernel) (by decide +kernel)
set_option maxRecDepth 20000 in
theorem gX3_init_X3_begin : GoodIn wsX3_init (wsV RX3 47 RX3 yX3_begin wsX3_begin) := goodIn_app (goodIn_of _ (by decide +kernel)) ggX3_init_X3_begin
end
section
theorem dX3_init_0 : decode cX3_init 0 = .ok (.aload_n 0, 1) := by decide +kernel
theorem dX3_init_1 : decode cX3_init 1 = .ok (.invokespecial 1, 3) := by decide +kernel
theorem dX3_init_4 : decode cX3_init 4 = .ok (.aload_n 0, 1) := by decide +kernel
theorem dX3_init_5 : decode cX3_init 5 = .ok (.bipush 9, 2) := by decide +kernel
theorem dX3_init_7 : decode cX3_init 7 = .ok (.newarray .int, 2) := by decide +kernel
theorem dX3_init_9 : decode cX3_init 9 = .ok (.putfield 7, 3) := by decide +kernel
theorem dX3_init_12 : decode cX3_init 12 = .ok (.aload_n 0, 1) := by decide +kernel
theorem dX3_init_13 : decode cX3_init 13 = .ok (.bipush 6, 2) := by decide +kernel
theorem dX3_init_15 : decode cX3_init 15 = .ok (.newarray .int, 2) := by decide +kernel
theorem dX3_init_17 : decode cX3_init 17 = .ok (.putfield 13, 3) := by decide +kernel
theorem dX3_init_20 : decode cX3_init 20 = .ok (.aload_n 0, 1) := by decide +kernel
theorem dX3_init_21 : decode cX3_init 21 = .ok (.bipush 81, 2) := by decide +kernel
theorem dX3_init_23 : decode cX3_init 23 = .ok (.newarray .boolean, 2) := by decide +kernel
theorem dX3_init_25 : decode cX3_init 25 = .ok (.putfield 16, 3) := by decide +kernel
theorem dX3_init_28 : decode cX3_init 28 = .ok (.aload_n 0, 1) := by decide +kernel
theorem dX3_init_29 : decode cX3_init 29 = .ok (.bipush 81, 2) := by decide +kernel
theorem dX3_init_31 : decode cX3_init 31 = .ok (.newarray .boolean, 2) := by decide +kernel
theorem dX3_init_33 : decode cX3_init 33 = .ok (.putfield 20, 3) := by decide +kernel
theorem dX3_init_36 : decode cX3_init 36 = .ok (.aload_n 0, 1) := by decide +kernel
theorem dX3_init_37 : decode cX3_init 37 = .ok (.bipush 9, 2) := by decide +kernel
theorem dX3_init_39 : decode cX3_init 39 = .ok (.newarray .int, 2) := by decide +kernel
theorem dX3_init_41 : decode cX3_init 41 = .ok (.putfield 23, 3) := by decide +kernel
theorem dX3_init_44 : decode cX3_init 44 = .ok (.aload_n 0, 1) := by decide +kernel
theorem dX3_init_45 : decode cX3_init 45 = .ok (.bipush 9, 2) := by decide +kernel
theorem dX3_init_47 : decode cX3_init 47 = .ok (.newarray .int, 2) := by decide +kernel
theorem dX3_init_49 : decode cX3_init 49 = .ok (.putfield 26, 3) := by decide +kernel
theorem dX3_init_52 : decode cX3_init 52 = .ok (.aload_n 0, 1) := by decide +kernel
theorem dX3_init_53 : decode cX3_init 53 = .ok (.sipush 5184, 3) := by decide +kernel
theorem dX3_init_56 : decode cX3_init 56 = .ok (.newarray .int, 2) := by decide +kernel
theorem dX3_init_58 : decode cX3_init 58 = .ok (.putfield 29, 3) := by decide +kernel
theorem dX3_init_61 : decode cX3_init 61 = .ok (.aload_n 0, 1) := by decide +kernel
theorem dX3_init_62 : decode cX3_init 62 = .ok (.bipush 9, 2) := by decide +kernel
theorem dX3_init_64 : decode cX3_init 64 = .ok (.newarray .int, 2) := by decide +kernel
theorem dX3_init_66 : decode cX3_init 66 = .ok (.putfield 32, 3) := by decide +kernel
theorem dX3_init_69 : decode cX3_init 69 = .ok (.aload_n 0, 1) := by decide +kernel
theorem dX3_init_70 : decode cX3_init 70 = .ok (.bipush 9, 2) := by decide +kernel
theorem dX3_init_72 : decode cX3_init 72 = .ok (.newarray .boolean, 2) := by decide +kernel
theorem dX3_init_74 : decode cX3_init 74 = .ok (.putfield 35, 3) := by decide +kernel
theorem dX3_init_77 : decode cX3_init 77 = .ok (.aload_n 0, 1) := by decide +kernel
theorem dX3_init_78 : decode cX3_init 78 = .ok (.sipush 576, 3) := by decide +kernel
theorem dX3_init_81 : decode cX3_init 81 = .ok (.newarray .boolean, 2) := by decide +kernel
theorem dX3_init_83 : decode cX3_init 83 = .ok (.putfield 38, 3) := by decide +kernel
theorem dX3_init_86 : decode cX3_init 86 = .ok (.aload_n 0, 1) := by decide +kernel
theorem dX3_init_87 : decode cX3_init 87 = .ok (.bipush 9, 2) := by decide +kernel
theorem dX3_init_89 : decode cX3_init 89 = .ok (.newarray .int, 2) := by decide +kernel
theorem dX3_init_91 : decode cX3_init 91 = .ok (.putfield 41, 3) := by decide +kernel
theorem dX3_init_94 : decode cX3_init 94 = .ok (.aload_n 0, 1) := by decide +kernel
theorem dX3_init_95 : decode cX3_init 95 = .ok (.bipush 9, 2) := by decide +kernel
theorem dX3_init_97 : decode cX3_init 97 = .ok (.newarray .int, 2) := by decide +kernel
theorem dX3_init_99 : decode cX3_init 99 = .ok (.putfield 44, 3) := by decide +kernel
theorem dX3_init_102 : decode cX3_init 102 = .ok (.aload_n 0, 1) := by decide +kernel
theorem dX3_init_103 : decode cX3_init 103 = .ok (.iconst 2, 1) := by decide +kernel
theorem dX3_init_104 : decode cX3_init 104 = .ok (.iconst 2, 1) := by decide +kernel
theorem dX3_init_105 : decode cX3_init 105 = .ok (.invokevirtual 47, 3) := by decide +kernel
theorem dX3_init_108 : decode cX3_init 108 = .ok (.return_, 1) := by decide +kernel
theorem dX3_thrown_0 : decode cX3_thrown 0 = .ok (.aload_n 0, 1) := by decide +kernel
theorem dX3_thrown_1 : decode cX3_thrown 1 = .ok (.getfield 51, 3) := by decide +kernel
theorem dX3_thrown_4 : decode cX3_thrown 4 = .ok (.ireturn, 1) := by decide +kernel
theorem dX3_in_0 : decode cX3_in 0 = .ok (.iload_n 0, 1) := by decide +kernel
theorem dX3_in_1 : decode cX3_in 1 = .ok (.iload_n 1, 1) := by decide +kernel
theorem dX3_in_2 : decode cX3_in 2 = .ok (.if_icmp .lt 12, 3) := by decide +kernel
theorem dX3_in_5 : decode cX3_in 5 = .ok (.iload_n 0, 1) := by decide +kernel
theorem dX3_in_6 : decode cX3_in 6 = .ok (.iload_n 2, 1) := by decide +kernel
theorem dX3_in_7 : decode cX3_in 7 = .ok (.if_icmp .gt 7, 3) := by decide +kernel
theorem dX3_in_10 : decode cX3_in 10 = .ok (.iconst 1, 1) := by decide +kernel
theorem dX3_in_11 : decode cX3_in 11 = .ok (.goto 4, 3) := by decide +kernel
theorem dX3_in_14 : decode cX3_in 14 = .ok (.iconst 0, 1) := by decide +kernel
theorem dX3_in_15 : decode cX3_in 15 = .ok (.ireturn, 1) := by decide +kernel
theorem dX3_begin_0 : decode cX3_begin 0 = .ok (.aload_n 0, 1) := by decide +kernel
theorem dX3_begin_1 : decode cX3_begin 1 = .ok (.iload_n 1, 1) := by decide +kernel
theorem dX3_begin_2 : decode cX3_begin 2 = .ok (.putfield 55, 3) := by decide +kernel
theorem dX3_begin_5 : decode cX3_begin 5 = .ok (.aload_n 0, 1) := by decide +kernel
theorem dX3_begin_6 : decode cX3_begin 6 = .ok (.iload_n 2, 1) := by decide +kernel
theorem dX3_begin_7 : decode cX3_begin 7 = .ok (.putfield 58, 3) := by decide +kernel
theorem dX3_begin_10 : decode cX3_begin 10 = .ok (.aload_n 0, 1) := by decide +kernel
theorem dX3_begin_11 : decode cX3_begin 11 = .ok (.iconst 0, 1) := by decide +kernel
theorem dX3_begin_12 : decode cX3_begin 12 = .ok (.putfield 61, 3) := by decide +kernel
theorem dX3_begin_15 : decode cX3_begin 15 = .ok (.iconst 0, 1) := by decide +kernel
theorem dX3_begin_16 : decode cX3_begin 16 = .ok (.istore_n 3, 1) := by decide +kernel
theorem dX3_begin_17 : decode cX3_begin 17 = .ok (.iload_n 3, 1) := by decide +kernel
theorem dX3_begin_18 : decode cX3_begin 18 = .ok (.bipush 9, 2) := by decide +kernel
theorem dX3_begin_20 : decode cX3_begin 20 = .ok (.if_icmp .ge 23, 3) := by decide +kernel
theorem dX3_begin_23 : decode cX3_begin 23 = .ok (.aload_n 0, 1) := by decide +kernel
theorem dX3_begin_24 : decode cX3_begin 24 = .ok (.getfield 7, 3) := by decide +kernel
theorem dX3_begin_27 : decode cX3_begin 27 = .ok (.iload_n 3, 1) := by decide +kernel
theorem dX3_begin_28 : decode cX3_begin 28 = .ok (.iconst 0, 1) := by decide +kernel
theorem dX3_begin_29 : decode cX3_begin 29 = .ok (.iastore, 1) := by decide +kernel
theorem dX3_begin_30 : decode cX3_begin 30 = .ok (.aload_n 0, 1) := by decide +kernel
theorem dX3_begin_31 : decode cX3_begin 31 = .ok (.getfield 26, 3) := by decide +kernel
theorem dX3_begin_34 : decode cX3_begin 34 = .ok (.iload_n 3, 1) := by decide +kernel
theorem dX3_begin_35 : decode cX3_begin 35 = .ok (.iconst (-1), 1) := by decide +kernel
theorem dX3_begin_36 : decode cX3_begin 36 = .ok (.iastore, 1) := by decide +kernel
theorem dX3_begin_37 : decode cX3_begin 37 = .ok (.iinc 3 1, 3) := by decide +kernel
theorem dX3_begin_40 : decode cX3_begin 40 = .ok (.goto (-23), 3) := by decide +kernel
theorem dX3_begin_43 : decode cX3_begin 43 = .ok (.iconst 0, 1) := by decide +kernel
theorem dX3_begin_44 : decode cX3_begin 44 = .ok (.istore_n 3, 1) := by decide +kernel
theorem dX3_begin_45 : decode cX3_begin 45 = .ok (.iload_n 3, 1) := by decide +kernel
theorem dX3_begin_46 : decode cX3_begin 46 = .ok (.bipush 6, 2) := by decide +kernel
theorem dX3_begin_48 : decode cX3_begin 48 = .ok (.if_icmp .ge 16, 3) := by decide +kernel
theorem dX3_begin_51 : decode cX3_begin 51 = .ok (.aload_n 0, 1) := by decide +kernel
theorem dX3_begin_52 : decode cX3_begin 52 = .ok (.getfield 13, 3) := by decide +kernel
theorem dX3_begin_55 : decode cX3_begin 55 = .ok (.iload_n 3, 1) := by decide +kernel
theorem dX3_begin_56 : decode cX3_begin 56 = .ok (.iconst 3, 1) := by decide +kernel
theorem dX3_begin_57 : decode cX3_begin 57 = .ok (.iastore, 1) := by decide +kernel
theorem dX3_begin_58 : decode cX3_begin 58 = .ok (.iinc 3 1, 3) := by decide +kernel
theorem dX3_begin_61 : decode cX3_begin 61 = .ok (.goto (-16), 3) := by decide +kernel
theorem dX3_begin_64 : decode cX3_begin 64 = .ok (.iconst 0, 1) := by decide +kernel
theorem dX3_begin_65 : decode cX3_begin 65 = .ok (.istore_n 3, 1) := by decide +kernel
theorem dX3_begin_66 : decode cX3_begin 66 = .ok (.iload_n 3, 1) := by decide +kernel
theorem dX3_begin_67 : decode cX3_begin 67 = .ok (.bipush 81, 2) := by decide +kernel
theorem dX3_begin_69 : decode cX3_begin 69 = .ok (.if_icmp .ge 23, 3) := by decide +kernel
theorem dX3_begin_72 : decode cX3_begin 72 = .ok (.aload_n 0, 1) := by decide +kernel
theorem dX3_begin_73 : decode cX3_begin 73 = .ok (.getfield 16, 3) := by decide +kernel
theorem dX3_begin_76 : decode cX3_begin 76 = .ok (.iload_n 3, 1) := by decide +kernel
theorem dX3_begin_77 : decode cX3_begin 77 = .ok (.iconst 0, 1) := by decide +kernel
theorem dX3_begin_78 : decode cX3_begin 78 = .ok (.bastore, 1) := by decide +kernel
theorem dX3_begin_79 : decode cX3_begin 79 = .ok (.aload_n 0, 1) := by decide +kernel
theorem dX3_begin_80 : decode cX3_begin 80 = .ok (.getfield 20, 3) := by decide +kernel
theorem dX3_begin_83 : decode cX3_begin 83 = .ok (.iload_n 3, 1) := by decide +kernel
theorem dX3_begin_84 : decode cX3_begin 84 = .ok (.iconst 0, 1) := by decide +kernel
theorem dX3_begin_85 : decode cX3_begin 85 = .ok (.bastore, 1) := by decide +kernel
theorem dX3_begin_86 : decode cX3_begin 86 = .ok (.iinc 3 1, 3) := by decide +kernel
theorem dX3_begin_89 : decode cX3_begin 89 = .ok (.goto (-23), 3) := by decide +kernel
theorem dX3_begin_92 : decode cX3_begin 92 = .ok (.return_, 1) := by decide +kernel
theorem dX3_teamMany_0 : decode cX3_teamMany 0 = .ok (.aload_n 0, 1) := by decide +kernel
theorem dX3_teamMany_1 : decode cX3_teamMany 1 = .ok (.getfield 55, 3) := by decide +kernel
theorem dX3_teamMany_4 : decode cX3_teamMany 4 = .ok (.aload_n 0, 1) := by decide +kernel
theorem dX3_teamMany_5 : decode cX3_teamMany 5 = .ok (.getfield 58, 3) := by decide +kernel
theorem dX3_teamMany_8 : decode cX3_teamMany 8 = .ok (.imul, 1) := by decide +kernel
theorem dX3_teamMany_9 : decode cX3_teamMany 9 = .ok (.ireturn, 1) := by decide +kernel
set_option maxRecDepth 20000 in
theorem ggX3_isTeam_X3_teamMany : GoodIn wsX3_isTeam wsX3_teamMany := goodIn_r _ [5, 6, 7, 11, 12, 13, 14, 15, 16, 17, 18, 19, 20, 21, 22, 23, 24, 25, 26, 27] (by decide +kernel) (by decide +kernel)
set_option maxRecDepth 20000 in
theorem gX3_isTeam_X3_teamMany : GoodIn wsX3_isTeam (wsV RX3 64 RX3 yX3_teamMany wsX3_teamMany) := goodIn_app (goodIn_of _ (by decide +kernel)) ggX3_isTeam_X3_teamMany
set_option maxRecDepth 20000 in
theorem ggX3_isTeam_X3_in : GoodIn wsX3_isTeam wsX3_in := goodIn_r _ [10] (by decide +kernel) (by decide +kernel)
set_option maxRecDepth 20000 in
theorem gX3_isTeam_X3_in : GoodIn wsX3_isTeam (va_wsS RX3 68 yX3_in wsX3_in) := goodIn_app (goodIn_of _ (by decide +kernel)) ggX3_isTeam_X3_in
theorem dX3_isTeam_0 : decode cX3_isTeam 0 = .ok (.iload_n 1, 1) := by decide +kernel
theorem dX3_isTeam_1 : decode cX3_isTeam 1 = .ok (.iconst 0, 1) := by decide +kernel
theorem dX3_isTeam_2 : decode cX3_isTeam 2 = .ok (.aload_n 0, 1) := by decide +kernel
theorem dX3_isTeam_3 : decode cX3_isTeam 3 = .ok (.invokevirtual 64, 3) := by decide +kernel
theorem dX3_isTeam_6 : decode cX3_isTeam 6 = .ok (.iconst 1, 1) := by decide +kernel
theorem dX3_isTeam_7 : decode cX3_isTeam 7 = .ok (.isub, 1) := by decide +kernel
theorem dX3_isTeam_8 : decode cX3_isTeam 8 = .ok (.invokestatic 68, 3) := by decide +kernel
theorem dX3_isTeam_11 : decode cX3_isTeam 11 = .ok (.ireturn, 1) := by decide +kernel
set_option maxRecDepth 20000 in
theorem ggX3_isGroup_X3_in : GoodIn wsX3_isGroup wsX3_in := goodIn_r _ [5] (by decide +kernel) (by decide +kernel)
set_option maxRecDepth 20000 in
theorem gX3_isGroup_X3_in : GoodIn wsX3_isGroup (va_wsS RX3 68 yX3_in wsX3_in) := goodIn_app (goodIn_of _ (by decide +kernel)) ggX3_isGroup_X3_in
theorem dX3_isGroup_0 : decode cX3_isGroup 0 = .ok (.iload_n 1, 1) := by decide +kernel
theorem dX3_isGroup_1 : decode cX3_isGroup 1 = .ok (.iconst 0, 1) := by decide +kernel
theorem dX3_isGroup_2 : decode cX3_isGroup 2 = .ok (.aload_n 0, 1) := by decide +kernel
theorem dX3_isGroup_3 : decode cX3_isGroup 3 = .ok (.getfield 55, 3) := by decide +kernel
theorem dX3_isGroup_6 : decode cX3_isGroup 6 = .ok (.iconst 1, 1) := by decide +kernel
theorem dX3_isGroup_7 : decode cX3_isGroup 7 = .ok (.isub, 1) := by decide +kernel
theorem dX3_isGroup_8 : decode cX3_isGroup 8 = .ok (.invokestatic 68, 3) := by decide +kernel
theorem dX3_isGroup_11 : decode cX3_isGroup 11 = .ok (.ireturn, 1) := by decide +kernel
theorem dX3_factorial_0 : decode cX3_factorial 0 = .ok (.iconst 1, 1) := by decide +kernel
theorem dX3_factorial_1 : decode cX3_factorial 1 = .ok (.istore_n 1, 1) := by decide +kernel
theorem dX3_factorial_2 : decode cX3_factorial 2 = .ok (.iconst 2, 1) := by decide +kernel
theorem dX3_factorial_3 : decode cX3_factorial 3 = .ok (.istore_n 2, 1) := by decide +kernel
theorem dX3_factorial_4 : decode cX3_factorial 4 = .ok (.iload_n 2, 1) := by decide +kernel
theorem dX3_factorial_5 : decode cX3_factorial 5 = .ok (.iload_n 0, 1) := by decide +kernel
theorem dX3_factorial_6 : decode cX3_factorial 6 = .ok (.if_icmp .gt 13, 3) := by decide +kernel
theorem dX3_factorial_9 : decode cX3_factorial 9 = .ok (.iload_n 1, 1) := by decide +kernel
theorem dX3_factorial_10 : decode cX3_factorial 10 = .ok (.iload_n 2, 1) := by decide +kernel
theorem dX3_factorial_11 : decode cX3_factorial 11 = .ok (.imul, 1) := by decide +kernel
theorem dX3_factorial_12 : decode cX3_factorial 12 = .ok (.istore_n 1, 1) := by decide +kernel
theorem dX3_factorial_13 : decode cX3_factorial 13 = .ok (.iinc 2 1, 3) := by decide +kernel
theorem dX3_factorial_16 : decode cX3_factorial 16 = .ok (.goto (-12), 3) := by decide +kernel
theorem dX3_factorial_19 : decode cX3_factorial 19 = .ok (.iload_n 1, 1) := by decide +kernel
theorem dX3_factorial_20 : decode cX3_factorial 20 = .ok (.ireturn, 1) := by decide +kernel
set_option maxRecDepth 20000 in
theorem ggX3_lay_X3_in : GoodIn wsX3_lay wsX3_in := goodIn_r _ [5] (by decide +kernel) (by decide +kernel)
set_option maxRecDepth 20000 in
theorem gX3_lay_X3_in : GoodIn wsX3_lay (va_wsS RX3 68 yX3_in wsX3_in) := goodIn_app (goodIn_of _ (by decide +kernel)) ggX3_lay_X3_in
set_option maxRecDepth 20000 in
theorem ggX3_lay_X3_begin : GoodIn wsX3_lay wsX3_begin := goodIn_r _ [9, 10, 11, 12, 13, 14, 15, 16, 17, 22, 23, 24, 25, 26, 27, 28, 29, 30, 31, 32, 33, 34, 35, 36, 37, 38] (by decide +kernel) (by decide +kernel)
set_option maxRecDepth 20000 in
theorem gX3_lay_X3_begin : GoodIn wsX3_lay (wsV RX3 47 RX3 yX3_begin wsX3_begin) := goodIn_app (goodIn_of _ (by decide +kernel)) ggX3_lay_X3_begin
set_option maxRecDepth 20000 in
theorem ggX3_lay_X3_teamMany : GoodIn wsX3_lay wsX3_teamMany := goodIn_r _ [21, 10, 11, 22, 23, 24, 25, 26, 27, 28, 29, 30, 31, 32, 33, 34, 35, 36, 37, 38] (by decide +kernel) (by decide +kernel)
set_option maxRecDepth 20000 in
theorem gX3_lay_X3_teamMany : GoodIn wsX3_lay (wsV RX3 64 RX3 yX3_teamMany wsX3_teamMany) := goodIn_app (goodIn_of _ (by decide +kernel)) ggX3_lay_X3_teamMany
theorem dX3_lay_0 : decode cX3_lay 0 = .ok (.aload_n 0, 1) := by decide +kernel
theorem dX3_lay_1 : decode cX3_lay 1 = .ok (.iload_n 1, 1) := by decide +kernel
theorem dX3_lay_2 : decode cX3_lay 2 = .ok (.iconst 2, 1) := by decide +kernel
theorem dX3_lay_3 : decode cX3_lay 3 = .ok (.iconst 4, 1) := by decide +kernel
theorem dX3_lay_4 : decode cX3_lay 4 = .ok (.invokestatic 68, 3) := by decide +kernel
theorem dX3_lay_7 : decode cX3_lay 7 = .ok (.ifCond .eq 22, 3) := by decide +kernel
theorem dX3_lay_10 : decode cX3_lay 10 = .ok (.iload_n 2, 1) := by decide +kernel
theorem dX3_lay_11 : decode cX3_lay 11 = .ok (.iconst 2, 1) := by decide +kernel
theorem dX3_lay_12 : decode cX3_lay 12 = .ok (.iconst 3, 1) := by decide +kernel
theorem dX3_lay_13 : decode cX3_lay 13 = .ok (.invokestatic 68, 3) := by decide +kernel
theorem dX3_lay_16 : decode cX3_lay 16 = .ok (.ifCond .eq 13, 3) := by decide +kernel
theorem dX3_lay_19 : decode cX3_lay 19 = .ok (.iload_n 1, 1) := by decide +kernel
theorem dX3_lay_20 : decode cX3_lay 20 = .ok (.iconst 4, 1) := by decide +kernel
theorem dX3_lay_21 : decode cX3_lay 21 = .ok (.if_icmp .ne 12, 3) := by decide +kernel
theorem dX3_lay_24 : decode cX3_lay 24 = .ok (.iload_n 2, 1) := by decide +kernel
theorem dX3_lay_25 : decode cX3_lay 25 = .ok (.iconst 3, 1) := by decide +kernel
theorem dX3_lay_26 : decode cX3_lay 26 = .ok (.if_icmp .ne 7, 3) := by decide +kernel
theorem dX3_lay_29 : decode cX3_lay 29 = .ok (.iconst 1, 1) := by decide +kernel
theorem dX3_lay_30 : decode cX3_lay 30 = .ok (.goto 4, 3) := by decide +kernel
theorem dX3_lay_33 : decode cX3_lay 33 = .ok (.iconst 0, 1) := by decide +kernel
theorem dX3_lay_34 : decode cX3_lay 34 = .ok (.putfield 51, 3) := by decide +kernel
theorem dX3_lay_37 : decode cX3_lay 37 = .ok (.aload_n 0, 1) := by decide +kernel
theorem dX3_lay_38 : decode cX3_lay 38 = .ok (.getfield 51, 3) := by decide +kernel
theorem dX3_lay_41 : decode cX3_lay 41 = .ok (.ifCond .le 5, 3) := by decide +kernel
theorem dX3_lay_44 : decode cX3_lay 44 = .ok (.iconst 0, 1) := by decide +kernel
theorem dX3_lay_45 : decode cX3_lay 45 = .ok (.ireturn, 1) := by decide +kernel
theorem dX3_lay_46 : decode cX3_lay 46 = .ok (.aload_n 0, 1) := by decide +kernel
theorem dX3_lay_47 : decode cX3_lay 47 = .ok (.iload_n 1, 1) := by decide +kernel
theorem dX3_lay_48 : decode cX3_lay 48 = .ok (.iload_n 2, 1) := by decide +kernel
theorem dX3_lay_49 : decode cX3_lay 49 = .ok (.invokevirtual 47, 3) := by decide +kernel
theorem dX3_lay_52 : decode cX3_lay 52 = .ok (.aload_n 0, 1) := by decide +kernel
theorem dX3_lay_53 : decode cX3_lay 53 = .ok (.invokevirtual 64, 3) := by decide +kernel
theorem dX3_lay_56 : decode cX3_lay 56 = .ok (.ireturn, 1) := by decide +kernel
set_option maxRecDepth 20000 in
theorem ggX3_setRegion_X3_isTeam : GoodIn wsX3_setRegion wsX3_isTeam := goodIn_r _ [8, 9, 10, 11, 7, 12, 13, 14, 15, 16, 17, 18, 19, 20, 21, 22, 23, 24, 25, 26, 27, 28, 29, 30, 31, 32, 33, 34] (by decide +kernel) (by decide +kernel)
set_option maxRecDepth 20000 in
theorem gX3_setRegion_X3_isTeam : GoodIn wsX3_setRegion (wsV RX3 72 RX3 yX3_isTeam wsX3_isTeam) := goodIn_app (goodIn_of _ (by decide +kernel)) ggX3_setRegion_X3_isTeam
set_option maxRecDepth 20000 in
theorem ggX3_setRegion_X3_in : GoodIn wsX3_setRegion wsX3_in := goodIn_r _ [17] (by decide +kernel) (by decide +kernel)
set_option maxRecDepth 20000 in
theorem gX3_setRegion_X3_in : GoodIn wsX3_setRegion (va_wsS RX3 68 yX3_in wsX3_in) := goodIn_app (goodIn_of _ (by decide +kernel)) ggX3_setRegion_X3_in
theorem dX3_setRegion_0 : decode cX3_setRegion 0 = .ok (.aload_n 0, 1) := by decide +kernel
theorem dX3_setRegion_1 : decode cX3_setRegion 1 = .ok (.aload_n 0, 1) := by decide +kernel
theorem dX3_setRegion_2 : decode cX3_setRegion 2 = .ok (.iload_n 1, 1) := by decide +kernel
theorem dX3_setRegion_3 : decode cX3_setRegion 3 = .ok (.invokevirtual 72, 3) := by decide +kernel
theorem dX3_setRegion_6 : decode cX3_setRegion 6 = .ok (.ifCond .eq 12, 3) := by decide +kernel
theorem dX3_setRegion_9 : decode cX3_setRegion 9 = .ok (.iload_n 2, 1) := by decide +kernel
theorem dX3_setRegion_10 : decode cX3_setRegion 10 = .ok (.iconst 0, 1) := by decide +kernel
theorem dX3_setRegion_11 : decode cX3_setRegion 11 = .ok (.iconst 5, 1) := by decide +kernel
theorem dX3_setRegion_12 : decode cX3_setRegion 12 = .ok (.invokestatic 68, 3) := by decide +kernel
theorem dX3_setRegion_15 : decode cX3_setRegion 15 = .ok (.ifCond .ne 7, 3) := by decide +kernel
theorem dX3_setRegion_18 : decode cX3_setRegion 18 = .ok (.iconst 1, 1) := by decide +kernel
theorem dX3_setRegion_19 : decode cX3_setRegion 19 = .ok (.goto 15, 3) := by decide +kernel
theorem dX3_setRegion_22 : decode cX3_setRegion 22 = .ok (.aload_n 0, 1) := by decide +kernel
theorem dX3_setRegion_23 : decode cX3_setRegion 23 = .ok (.getfield 61, 3) := by decide +kernel
theorem dX3_setRegion_26 : decode cX3_setRegion 26 = .ok (.ifCond .le 7, 3) := by decide +kernel
theorem dX3_setRegion_29 : decode cX3_setRegion 29 = .ok (.iconst 2, 1) := by decide +kernel
theorem dX3_setRegion_30 : decode cX3_setRegion 30 = .ok (.goto 4, 3) := by decide +kernel
theorem dX3_setRegion_33 : decode cX3_setRegion 33 = .ok (.iconst 0, 1) := by decide +kernel
theorem dX3_setRegion_34 : decode cX3_setRegion 34 = .ok (.putfield 51, 3) := by decide +kernel
theorem dX3_setRegion_37 : decode cX3_setRegion 37 = .ok (.aload_n 0, 1) := by decide +kernel
theorem dX3_setRegion_38 : decode cX3_setRegion 38 = .ok (.getfield 51, 3) := by decide +kernel
theorem dX3_setRegion_41 : decode cX3_setRegion 41 = .ok (.ifCond .le 5, 3) := by decide +kernel
theorem dX3_setRegion_44 : decode cX3_setRegion 44 = .ok (.iconst 0, 1) := by decide +kernel
theorem dX3_setRegion_45 : decode cX3_setRegion 45 = .ok (.ireturn, 1) := by decide +kernel
theorem dX3_setRegion_46 : decode cX3_setRegion 46 = .ok (.aload_n 0, 1) := by decide +kernel
theorem dX3_setRegion_47 : decode cX3_setRegion 47 = .ok (.getfield 7, 3) := by decide +kernel
theorem dX3_setRegion_50 : decode cX3_setRegion 50 = .ok (.iload_n 1, 1) := by decide +kernel
theorem dX3_setRegion_51 : decode cX3_setRegion 51 = .ok (.iaload, 1) := by decide +kernel
theorem dX3_setRegion_52 : decode cX3_setRegion 52 = .ok (.istore_n 3, 1) := by decide +kernel
theorem dX3_setRegion_53 : decode cX3_setRegion 53 = .ok (.aload_n 0, 1) := by decide +kernel
theorem dX3_setRegion_54 : decode cX3_setRegion 54 = .ok (.getfield 7, 3) := by decide +kernel
theorem dX3_setRegion_57 : decode cX3_setRegion 57 = .ok (.iload_n 1, 1) := by decide +kernel
theorem dX3_setRegion_58 : decode cX3_setRegion 58 = .ok (.iload_n 2, 1) := by decide +kernel
theorem dX3_setRegion_59 : decode cX3_setRegion 59 = .ok (.iastore, 1) := by decide +kernel
theorem dX3_setRegion_60 : decode cX3_setRegion 60 = .ok (.iload_n 3, 1) := by decide +kernel
theorem dX3_setRegion_61 : decode cX3_setRegion 61 = .ok (.ireturn, 1) := by decide +kernel
set_option maxRecDepth 20000 in
theorem ggX3_setBound_X3_in : GoodIn wsX3_setBound wsX3_in := goodIn_r _ [7] (by decide +kernel) (by decide +kernel)
set_option maxRecDepth 20000 in
theorem gX3_setBound_X3_in : GoodIn wsX3_setBound (va_wsS RX3 68 yX3_in wsX3_in) := goodIn_app (goodIn_of _ (by decide +kernel)) ggX3_setBound_X3_in
theorem dX3_setBound_0 : decode cX3_setBound 0 = .ok (.aload_n 0, 1) := by decide +kernel
theorem dX3_setBound_1 : decode cX3_setBound 1 = .ok (.iload_n 1, 1) := by decide +kernel
theorem dX3_setBound_2 : decode cX3_setBound 2 = .ok (.iconst 0, 1) := by decide +kernel
theorem dX3_setBound_3 : decode cX3_setBound 3 = .ok (.iconst 5, 1) := by decide +kernel
theorem dX3_setBound_4 : decode cX3_setBound 4 = .ok (.invokestatic 68, 3) := by decide +kernel
theorem dX3_setBound_7 : decode cX3_setBound 7 = .ok (.ifCond .ne 7, 3) := by decide +kernel
theorem dX3_setBound_10 : decode cX3_setBound 10 = .ok (.iconst 1, 1) := by decide +kernel
theorem dX3_setBound_11 : decode cX3_setBound 11 = .ok (.goto 28, 3) := by decide +kernel
theorem dX3_setBound_14 : decode cX3_setBound 14 = .ok (.iload_n 2, 1) := by decide +kernel
theorem dX3_setBound_15 : decode cX3_setBound 15 = .ok (.iconst 1, 1) := by decide +kernel
theorem dX3_setBound_16 : decode cX3_setBound 16 = .ok (.iconst 3, 1) := by decide +kernel
theorem dX3_setBound_17 : decode cX3_setBound 17 = .ok (.invokestatic 68, 3) := by decide +kernel
theorem dX3_setBound_20 : decode cX3_setBound 20 = .ok (.ifCond .ne 7, 3) := by decide +kernel
theorem dX3_setBound_23 : decode cX3_setBound 23 = .ok (.iconst 2, 1) := by decide +kernel
theorem dX3_setBound_24 : decode cX3_setBound 24 = .ok (.goto 15, 3) := by decide +kernel
theorem dX3_setBound_27 : decode cX3_setBound 27 = .ok (.aload_n 0, 1) := by decide +kernel
theorem dX3_setBound_28 : decode cX3_setBound 28 = .ok (.getfield 61, 3) := by decide +kernel
theorem dX3_setBound_31 : decode cX3_setBound 31 = .ok (.ifCond .le 7, 3) := by decide +kernel
theorem dX3_setBound_34 : decode cX3_setBound 34 = .ok (.iconst 3, 1) := by decide +kernel
theorem dX3_setBound_35 : decode cX3_setBound 35 = .ok (.goto 4, 3) := by decide +kernel
theorem dX3_setBound_38 : decode cX3_setBound 38 = .ok (.iconst 0, 1) := by decide +kernel
theorem dX3_setBound_39 : decode cX3_setBound 39 = .ok (.putfield 51, 3) := by decide +kernel
theorem dX3_setBound_42 : decode cX3_setBound 42 = .ok (.aload_n 0, 1) := by decide +kernel
theorem dX3_setBound_43 : decode cX3_setBound 43 = .ok (.getfield 51, 3) := by decide +kernel
theorem dX3_setBound_46 : decode cX3_setBound 46 = .ok (.ifCond .le 5, 3) := by decide +kernel
theorem dX3_setBound_49 : decode cX3_setBound 49 = .ok (.iconst 0, 1) := by decide +kernel
theorem dX3_setBound_50 : decode cX3_setBound 50 = .ok (.ireturn, 1) := by decide +kernel
theorem dX3_setBound_51 : decode cX3_setBound 51 = .ok (.aload_n 0, 1) := by decide +kernel
theorem dX3_setBound_52 : decode cX3_setBound 52 = .ok (.getfield 13, 3) := by decide +kernel
theorem dX3_setBound_55 : decode cX3_setBound 55 = .ok (.iload_n 1, 1) := by decide +kernel
theorem dX3_setBound_56 : decode cX3_setBound 56 = .ok (.iaload, 1) := by decide +kernel
theorem dX3_setBound_57 : decode cX3_setBound 57 = .ok (.istore_n 3, 1) := by decide +kernel
theorem dX3_setBound_58 : decode cX3_setBound 58 = .ok (.aload_n 0, 1) := by decide +kernel
theorem dX3_setBound_59 : decode cX3_setBound 59 = .ok (.getfield 13, 3) := by decide +kernel
theorem dX3_setBound_62 : decode cX3_setBound 62 = .ok (.iload_n 1, 1) := by decide +kernel
theorem dX3_setBound_63 : decode cX3_setBound 63 = .ok (.iload_n 2, 1) := by decide +kernel
theorem dX3_setBound_64 : decode cX3_setBound 64 = .ok (.iastore, 1) := by decide +kernel
theorem dX3_setBound_65 : decode cX3_setBound 65 = .ok (.iload_n 3, 1) := by decide +kernel
theorem dX3_setBound_66 : decode cX3_setBound 66 = .ok (.ireturn, 1) := by decide +kernel
set_option maxRecDepth 20000 in
theorem ggX3_canPair_X3_isTeam : GoodIn wsX3_canPair wsX3_isTeam := goodIn_r _ [7, 8, 9, 10, 6, 11, 12, 13, 14, 15, 16, 17, 18, 19, 20, 21, 22, 23, 24, 25, 26, 27, 28, 29, 30, 31, 32, 33] (by decide +kernel) (by decide +kernel)
set_option maxRecDepth 20000 in
theorem gX3_canPair_X3_isTeam : GoodIn wsX3_canPair (wsV RX3 72 RX3 yX3_isTeam wsX3_isTeam) := goodIn_app (goodIn_of _ (by decide +kernel)) ggX3_canPair_X3_isTeam
theorem dX3_canPair_0 : decode cX3_canPair 0 = .ok (.aload_n 0, 1) := by decide +kernel
theorem dX3_canPair_1 : decode cX3_canPair 1 = .ok (.aload_n 0, 1) := by decide +kernel
theorem dX3_canPair_2 : decode cX3_canPair 2 = .ok (.iload_n 1, 1) := by decide +kernel
theorem dX3_canPair_3 : decode cX3_canPair 3 = .ok (.invokevirtual 72, 3) := by decide +kernel
theorem dX3_canPair_6 : decode cX3_canPair 6 = .ok (.ifCond .eq 11, 3) := by decide +kernel
theorem dX3_canPair_9 : decode cX3_canPair 9 = .ok (.aload_n 0, 1) := by decide +kernel
theorem dX3_canPair_10 : decode cX3_canPair 10 = .ok (.iload_n 2, 1) := by decide +kernel
theorem dX3_canPair_11 : decode cX3_canPair 11 = .ok (.invokevirtual 72, 3) := by decide +kernel
theorem dX3_canPair_14 : decode cX3_canPair 14 = .ok (.ifCond .ne 7, 3) := by decide +kernel
theorem dX3_canPair_17 : decode cX3_canPair 17 = .ok (.iconst 1, 1) := by decide +kernel
theorem dX3_canPair_18 : decode cX3_canPair 18 = .ok (.goto 24, 3) := by decide +kernel
theorem dX3_canPair_21 : decode cX3_canPair 21 = .ok (.iload_n 1, 1) := by decide +kernel
theorem dX3_canPair_22 : decode cX3_canPair 22 = .ok (.iload_n 2, 1) := by decide +kernel
theorem dX3_canPair_23 : decode cX3_canPair 23 = .ok (.if_icmp .ne 7, 3) := by decide +kernel
theorem dX3_canPair_26 : decode cX3_canPair 26 = .ok (.iconst 2, 1) := by decide +kernel
theorem dX3_canPair_27 : decode cX3_canPair 27 = .ok (.goto 15, 3) := by decide +kernel
theorem dX3_canPair_30 : decode cX3_canPair 30 = .ok (.aload_n 0, 1) := by decide +kernel
theorem dX3_canPair_31 : decode cX3_canPair 31 = .ok (.getfield 61, 3) := by decide +kernel
theorem dX3_canPair_34 : decode cX3_canPair 34 = .ok (.ifCond .le 7, 3) := by decide +kernel
theorem dX3_canPair_37 : decode cX3_canPair 37 = .ok (.iconst 3, 1) := by decide +kernel
theorem dX3_canPair_38 : decode cX3_canPair 38 = .ok (.goto 4, 3) := by decide +kernel
theorem dX3_canPair_41 : decode cX3_canPair 41 = .ok (.iconst 0, 1) := by decide +kernel
theorem dX3_canPair_42 : decode cX3_canPair 42 = .ok (.putfield 51, 3) := by decide +kernel
theorem dX3_canPair_45 : decode cX3_canPair 45 = .ok (.aload_n 0, 1) := by decide +kernel
theorem dX3_canPair_46 : decode cX3_canPair 46 = .ok (.getfield 51, 3) := by decide +kernel
theorem dX3_canPair_49 : decode cX3_canPair 49 = .ok (.ifCond .ne 7, 3) := by decide +kernel
theorem dX3_canPair_52 : decode cX3_canPair 52 = .ok (.iconst 1, 1) := by decide +kernel
theorem dX3_canPair_53 : decode cX3_canPair 53 = .ok (.goto 4, 3) := by decide +kernel
theorem dX3_canPair_56 : decode cX3_canPair 56 = .ok (.iconst 0, 1) := by decide +kernel
theorem dX3_canPair_57 : decode cX3_canPair 57 = .ok (.ireturn, 1) := by decide +kernel
set_option maxRecDepth 20000 in
theorem ggX3_setApart_X3_canPair : GoodIn wsX3_setApart wsX3_canPair := goodIn_r _ [6, 7, 8, 9, 10, 11, 5, 12, 13, 14, 15, 16, 17, 18, 19, 20, 21, 22, 23, 24, 25, 26, 27, 28, 29, 30, 31, 32, 33, 34, 35, 36, 37, 38] (by decide +kernel) (by decide +kernel)
set_option maxRecDepth 20000 in
theorem gX3_setApart_X3_canPair : GoodIn wsX3_setApart (wsV RX3 76 RX3 yX3_canPair wsX3_canPair) := goodIn_app (goodIn_of _ (by decide +kernel)) ggX3_setApart_X3_canPair
theorem dX3_setApart_0 : decode cX3_setApart 0 = .ok (.aload_n 0, 1) := by decide +kernel
theorem dX3_setApart_1 : decode cX3_setApart 1 = .ok (.iload_n 1, 1) := by decide +kernel
theorem dX3_setApart_2 : decode cX3_setApart 2 = .ok (.iload_n 2, 1) := by decide +kernel
theorem dX3_setApart_3 : decode cX3_setApart 3 = .ok (.invokevirtual 76, 3) := by decide +kernel
theorem dX3_setApart_6 : decode cX3_setApart 6 = .ok (.ifCond .ne 5, 3) := by decide +kernel
theorem dX3_setApart_9 : decode cX3_setApart 9 = .ok (.iconst 0, 1) := by decide +kernel
theorem dX3_setApart_10 : decode cX3_setApart 10 = .ok (.ireturn, 1) := by decide +kernel
theorem dX3_setApart_11 : decode cX3_setApart 11 = .ok (.aload_n 0, 1) := by decide +kernel
theorem dX3_setApart_12 : decode cX3_setApart 12 = .ok (.getfield 16, 3) := by decide +kernel
theorem dX3_setApart_15 : decode cX3_setApart 15 = .ok (.bipush 9, 2) := by decide +kernel
theorem dX3_setApart_17 : decode cX3_setApart 17 = .ok (.iload_n 1, 1) := by decide +kernel
theorem dX3_setApart_18 : decode cX3_setApart 18 = .ok (.imul, 1) := by decide +kernel
theorem dX3_setApart_19 : decode cX3_setApart 19 = .ok (.iload_n 2, 1) := by decide +kernel
theorem dX3_setApart_20 : decode cX3_setApart 20 = .ok (.iadd, 1) := by decide +kernel
theorem dX3_setApart_21 : decode cX3_setApart 21 = .ok (.baload, 1) := by decide +kernel
theorem dX3_setApart_22 : decode cX3_setApart 22 = .ok (.istore 4, 2) := by decide +kernel
theorem dX3_setApart_24 : decode cX3_setApart 24 = .ok (.aload_n 0, 1) := by decide +kernel
theorem dX3_setApart_25 : decode cX3_setApart 25 = .ok (.getfield 16, 3) := by decide +kernel
theorem dX3_setApart_28 : decode cX3_setApart 28 = .ok (.bipush 9, 2) := by decide +kernel
theorem dX3_setApart_30 : decode cX3_setApart 30 = .ok (.iload_n 1, 1) := by decide +kernel
theorem dX3_setApart_31 : decode cX3_setApart 31 = .ok (.imul, 1) := by decide +kernel
theorem dX3_setApart_32 : decode cX3_setApart 32 = .ok (.iload_n 2, 1) := by decide +kernel
theorem dX3_setApart_33 : decode cX3_setApart 33 = .ok (.iadd, 1) := by decide +kernel
theorem dX3_setApart_34 : decode cX3_setApart 34 = .ok (.iload_n 3, 1) := by decide +kernel
theorem dX3_setApart_35 : decode cX3_setApart 35 = .ok (.bastore, 1) := by decide +kernel
theorem dX3_setApart_36 : decode cX3_setApart 36 = .ok (.aload_n 0, 1) := by decide +kernel
theorem dX3_setApart_37 : decode cX3_setApart 37 = .ok (.getfield 16, 3) := by decide +kernel
theorem dX3_setApart_40 : decode cX3_setApart 40 = .ok (.bipush 9, 2) := by decide +kernel
theorem dX3_setApart_42 : decode cX3_setApart 42 = .ok (.iload_n 2, 1) := by decide +kernel
theorem dX3_setApart_43 : decode cX3_setApart 43 = .ok (.imul, 1) := by decide +kernel
theorem dX3_setApart_44 : decode cX3_setApart 44 = .ok (.iload_n 1, 1) := by decide +kernel
theorem dX3_setApart_45 : decode cX3_setApart 45 = .ok (.iadd, 1) := by decide +kernel
theorem dX3_setApart_46 : decode cX3_setApart 46 = .ok (.iload_n 3, 1) := by decide +kernel
theorem dX3_setApart_47 : decode cX3_setApart 47 = .ok (.bastore, 1) := by decide +kernel
theorem dX3_setApart_48 : decode cX3_setApart 48 = .ok (.iload 4, 2) := by decide +kernel
theorem dX3_setApart_50 : decode cX3_setApart 50 = .ok (.ireturn, 1) := by decide +kernel
set_option maxRecDepth 20000 in
theorem ggX3_setOtherDays_X3_canPair : GoodIn wsX3_setOtherDays wsX3_canPair := goodIn_r _ [6, 7, 8, 9, 10, 11, 5, 12, 13, 14, 15, 16, 17, 18, 19, 20, 21, 22, 23, 24, 25, 26, 27, 28, 29, 30, 31, 32, 33, 34, 35, 36, 37, 38] (by decide +kernel) (by decide +kernel)
set_option maxRecDepth 20000 in
theorem gX3_setOtherDays_X3_canPair : GoodIn wsX3_setOtherDays (wsV RX3 76 RX3 yX3_canPair wsX3_canPair) := goodIn_app (goodIn_of _ (by decide +kernel)) ggX3_setOtherDays_X3_canPair
theorem dX3_setOtherDays_0 : decode cX3_setOtherDays 0 = .ok (.aload_n 0, 1) := by decide +kernel
theorem dX3_setOtherDays_1 : decode cX3_setOtherDays 1 = .ok (.iload_n 1, 1) := by decide +kernel
theorem dX3_setOtherDays_2 : decode cX3_setOtherDays 2 = .ok (.iload_n 2, 1) := by decide +kernel
theorem dX3_setOtherDays_3 : decode cX3_setOtherDays 3 = .ok (.invokevirtual 76, 3) := by decide +kernel
theorem dX3_setOtherDays_6 : decode cX3_setOtherDays 6 = .ok (.ifCond .ne 5, 3) := by decide +kernel
theorem dX3_setOtherDays_9 : decode cX3_setOtherDays 9 = .ok (.iconst 0, 1) := by decide +kernel
theorem dX3_setOtherDays_10 : decode cX3_setOtherDays 10 = .ok (.ireturn, 1) := by decide +kernel
theorem dX3_setOtherDays_11 : decode cX3_setOtherDays 11 = .ok (.aload_n 0, 1) := by decide +kernel
theorem dX3_setOtherDays_12 : decode cX3_setOtherDays 12 = .ok (.getfield 20, 3) := by decide +kernel
theorem dX3_setOtherDays_15 : decode cX3_setOtherDays 15 = .ok (.bipush 9, 2) := by decide +kernel
theorem dX3_setOtherDays_17 : decode cX3_setOtherDays 17 = .ok (.iload_n 1, 1) := by decide +kernel
theorem dX3_setOtherDays_18 : decode cX3_setOtherDays 18 = .ok (.imul, 1) := by decide +kernel
theorem dX3_setOtherDays_19 : decode cX3_setOtherDays 19 = .ok (.iload_n 2, 1) := by decide +kernel
theorem dX3_setOtherDays_20 : decode cX3_setOtherDays 20 = .ok (.iadd, 1) := by decide +kernel
theorem dX3_setOtherDays_21 : decode cX3_setOtherDays 21 = .ok (.baload, 1) := by decide +kernel
theorem dX3_setOtherDays_22 : decode cX3_setOtherDays 22 = .ok (.istore 4, 2) := by decide +kernel
theorem dX3_setOtherDays_24 : decode cX3_setOtherDays 24 = .ok (.aload_n 0, 1) := by decide +kernel
theorem dX3_setOtherDays_25 : decode cX3_setOtherDays 25 = .ok (.getfield 20, 3) := by decide +kernel
theorem dX3_setOtherDays_28 : decode cX3_setOtherDays 28 = .ok (.bipush 9, 2) := by decide +kernel
theorem dX3_setOtherDays_30 : decode cX3_setOtherDays 30 = .ok (.iload_n 1, 1) := by decide +kernel
theorem dX3_setOtherDays_31 : decode cX3_setOtherDays 31 = .ok (.imul, 1) := by decide +kernel
theorem dX3_setOtherDays_32 : decode cX3_setOtherDays 32 = .ok (.iload_n 2, 1) := by decide +kernel
theorem dX3_setOtherDays_33 : decode cX3_setOtherDays 33 = .ok (.iadd, 1) := by decide +kernel
theorem dX3_setOtherDays_34 : decode cX3_setOtherDays 34 = .ok (.iload_n 3, 1) := by decide +kernel
theorem dX3_setOtherDays_35 : decode cX3_setOtherDays 35 = .ok (.bastore, 1) := by decide +kernel
theorem dX3_setOtherDays_36 : decode cX3_setOtherDays 36 = .ok (.aload_n 0, 1) := by decide +kernel
theorem dX3_setOtherDays_37 : decode cX3_setOtherDays 37 = .ok (.getfield 20, 3) := by decide +kernel
theorem dX3_setOtherDays_40 : decode cX3_setOtherDays 40 = .ok (.bipush 9, 2) := by decide +kernel
theorem dX3_setOtherDays_42 : decode cX3_setOtherDays 42 = .ok (.iload_n 2, 1) := by decide +kernel
theorem dX3_setOtherDays_43 : decode cX3_setOtherDays 43 = .ok (.imul, 1) := by decide +kernel
theorem dX3_setOtherDays_44 : decode cX3_setOtherDays 44 = .ok (.iload_n 1, 1) := by decide +kernel
theorem dX3_setOtherDays_45 : decode cX3_setOtherDays 45 = .ok (.iadd, 1) := by decide +kernel
theorem dX3_setOtherDays_46 : decode cX3_setOtherDays 46 = .ok (.iload_n 3, 1) := by decide +kernel
theorem dX3_setOtherDays_47 : decode cX3_setOtherDays 47 = .ok (.bastore, 1) := by decide +kernel
theorem dX3_setOtherDays_48 : decode cX3_setOtherDays 48 = .ok (.iload 4, 2) := by decide +kernel
theorem dX3_setOtherDays_50 : decode cX3_setOtherDays 50 = .ok (.ireturn, 1) := by decide +kernel
theorem dX3_layOrder_0 : decode cX3_layOrder 0 = .ok (.iload_n 1, 1) := by decide +kernel
theorem dX3_layOrder_1 : decode cX3_layOrder 1 = .ok (.istore 4, 2) := by decide +kernel
theorem dX3_layOrder_3 : decode cX3_layOrder 3 = .ok (.iconst 0, 1) := by decide +kernel
theorem dX3_layOrder_4 : decode cX3_layOrder 4 = .ok (.istore 5, 2) := by decide +kernel
theorem dX3_layOrder_6 : decode cX3_layOrder 6 = .ok (.iload 5, 2) := by decide +kernel
theorem dX3_layOrder_8 : decode cX3_layOrder 8 = .ok (.iload_n 2, 1) := by decide +kernel
theorem dX3_layOrder_9 : decode cX3_layOrder 9 = .ok (.if_icmp .ge 17, 3) := by decide +kernel
theorem dX3_layOrder_12 : decode cX3_layOrder 12 = .ok (.aload_n 0, 1) := by decide +kernel
theorem dX3_layOrder_13 : decode cX3_layOrder 13 = .ok (.getfield 35, 3) := by decide +kernel
theorem dX3_layOrder_16 : decode cX3_layOrder 16 = .ok (.iload 5, 2) := by decide +kernel
theorem dX3_layOrder_18 : decode cX3_layOrder 18 = .ok (.iconst 0, 1) := by decide +kernel
theorem dX3_layOrder_19 : decode cX3_layOrder 19 = .ok (.bastore, 1) := by decide +kernel
theorem dX3_layOrder_20 : decode cX3_layOrder 20 = .ok (.iinc 5 1, 3) := by decide +kernel
theorem dX3_layOrder_23 : decode cX3_layOrder 23 = .ok (.goto (-17), 3) := by decide +kernel
theorem dX3_layOrder_26 : decode cX3_layOrder 26 = .ok (.iconst 0, 1) := by decide +kernel
theorem dX3_layOrder_27 : decode cX3_layOrder 27 = .ok (.istore 5, 2) := by decide +kernel
theorem dX3_layOrder_29 : decode cX3_layOrder 29 = .ok (.iload 5, 2) := by decide +kernel
theorem dX3_layOrder_31 : decode cX3_layOrder 31 = .ok (.iload_n 2, 1) := by decide +kernel
theorem dX3_layOrder_32 : decode cX3_layOrder 32 = .ok (.if_icmp .ge 90, 3) := by decide +kernel
theorem dX3_layOrder_35 : decode cX3_layOrder 35 = .ok (.iload 4, 2) := by decide +kernel
theorem dX3_layOrder_37 : decode cX3_layOrder 37 = .ok (.iload_n 2, 1) := by decide +kernel
theorem dX3_layOrder_38 : decode cX3_layOrder 38 = .ok (.iload 5, 2) := by decide +kernel
theorem dX3_layOrder_40 : decode cX3_layOrder 40 = .ok (.isub, 1) := by decide +kernel
theorem dX3_layOrder_41 : decode cX3_layOrder 41 = .ok (.irem, 1) := by decide +kernel
theorem dX3_layOrder_42 : decode cX3_layOrder 42 = .ok (.istore 6, 2) := by decide +kernel
theorem dX3_layOrder_44 : decode cX3_layOrder 44 = .ok (.iload 4, 2) := by decide +kernel
theorem dX3_layOrder_46 : decode cX3_layOrder 46 = .ok (.iload_n 2, 1) := by decide +kernel
theorem dX3_layOrder_47 : decode cX3_layOrder 47 = .ok (.iload 5, 2) := by decide +kernel
theorem dX3_layOrder_49 : decode cX3_layOrder 49 = .ok (.isub, 1) := by decide +kernel
theorem dX3_layOrder_50 : decode cX3_layOrder 50 = .ok (.idiv, 1) := by decide +kernel
theorem dX3_layOrder_51 : decode cX3_layOrder 51 = .ok (.istore 4, 2) := by decide +kernel
theorem dX3_layOrder_53 : decode cX3_layOrder 53 = .ok (.iconst 0, 1) := by decide +kernel
theorem dX3_layOrder_54 : decode cX3_layOrder 54 = .ok (.istore 7, 2) := by decide +kernel
theorem dX3_layOrder_56 : decode cX3_layOrder 56 = .ok (.aload_n 0, 1) := by decide +kernel
theorem dX3_layOrder_57 : decode cX3_layOrder 57 = .ok (.getfield 35, 3) := by decide +kernel
theorem dX3_layOrder_60 : decode cX3_layOrder 60 = .ok (.iload 7, 2) := by decide +kernel
theorem dX3_layOrder_62 : decode cX3_layOrder 62 = .ok (.baload, 1) := by decide +kernel
theorem dX3_layOrder_63 : decode cX3_layOrder 63 = .ok (.ifCond .ne 8, 3) := by decide +kernel
theorem dX3_layOrder_66 : decode cX3_layOrder 66 = .ok (.iload 6, 2) := by decide +kernel
theorem dX3_layOrder_68 : decode cX3_layOrder 68 = .ok (.ifCond .le 29, 3) := by decide +kernel
theorem dX3_layOrder_71 : decode cX3_layOrder 71 = .ok (.iload 6, 2) := by decide +kernel
theorem dX3_layOrder_73 : decode cX3_layOrder 73 = .ok (.aload_n 0, 1) := by decide +kernel
theorem dX3_layOrder_74 : decode cX3_layOrder 74 = .ok (.getfield 35, 3) := by decide +kernel
theorem dX3_layOrder_77 : decode cX3_layOrder 77 = .ok (.iload 7, 2) := by decide +kernel
theorem dX3_layOrder_79 : decode cX3_layOrder 79 = .ok (.baload, 1) := by decide +kernel
theorem dX3_layOrder_80 : decode cX3_layOrder 80 = .ok (.ifCond .eq 7, 3) := by decide +kernel
theorem dX3_layOrder_83 : decode cX3_layOrder 83 = .ok (.iconst 0, 1) := by decide +kernel
theorem dX3_layOrder_84 : decode cX3_layOrder 84 = .ok (.goto 4, 3) := by decide +kernel
theorem dX3_layOrder_87 : decode cX3_layOrder 87 = .ok (.iconst 1, 1) := by decide +kernel
theorem dX3_layOrder_88 : decode cX3_layOrder 88 = .ok (.isub, 1) := by decide +kernel
theorem dX3_layOrder_89 : decode cX3_layOrder 89 = .ok (.istore 6, 2) := by decide +kernel
theorem dX3_layOrder_91 : decode cX3_layOrder 91 = .ok (.iinc 7 1, 3) := by decide +kernel
theorem dX3_layOrder_94 : decode cX3_layOrder 94 = .ok (.goto (-38), 3) := by decide +kernel
theorem dX3_layOrder_97 : decode cX3_layOrder 97 = .ok (.aload_n 0, 1) := by decide +kernel
theorem dX3_layOrder_98 : decode cX3_layOrder 98 = .ok (.getfield 35, 3) := by decide +kernel
theorem dX3_layOrder_101 : decode cX3_layOrder 101 = .ok (.iload 7, 2) := by decide +kernel
theorem dX3_layOrder_103 : decode cX3_layOrder 103 = .ok (.iconst 1, 1) := by decide +kernel
theorem dX3_layOrder_104 : decode cX3_layOrder 104 = .ok (.bastore, 1) := by decide +kernel
theorem dX3_layOrder_105 : decode cX3_layOrder 105 = .ok (.aload_n 0, 1) := by decide +kernel
theorem dX3_layOrder_106 : decode cX3_layOrder 106 = .ok (.getfield 32, 3) := by decide +kernel
theorem dX3_layOrder_109 : decode cX3_layOrder 109 = .ok (.iload_n 3, 1) := by decide +kernel
theorem dX3_layOrder_110 : decode cX3_layOrder 110 = .ok (.iload 5, 2) := by decide +kernel
theorem dX3_layOrder_112 : decode cX3_layOrder 112 = .ok (.iadd, 1) := by decide +kernel
theorem dX3_layOrder_113 : decode cX3_layOrder 113 = .ok (.iload 7, 2) := by decide +kernel
theorem dX3_layOrder_115 : decode cX3_layOrder 115 = .ok (.iastore, 1) := by decide +kernel
theorem dX3_layOrder_116 : decode cX3_layOrder 116 = .ok (.iinc 5 1, 3) := by decide +kernel
theorem dX3_layOrder_119 : decode cX3_layOrder 119 = .ok (.goto (-90), 3) := by decide +kernel
theorem dX3_layOrder_122 : decode cX3_layOrder 122 = .ok (.return_, 1) := by decide +kernel
set_option maxRecDepth 20000 in
theorem ggX3_isLawful_X3_teamMany : GoodIn wsX3_isLawful wsX3_teamMany := goodIn_r _ [11, 12, 13, 14, 15, 16, 17, 18, 19, 20, 21, 22, 23, 24, 25, 26, 27, 28, 29, 30] (by decide +kernel) (by decide +kernel)
set_option maxRecDepth 20000 in
theorem gX3_isLawful_X3_teamMany : GoodIn wsX3_isLawful (wsV RX3 64 RX3 yX3_teamMany wsX3_teamMany) := goodIn_app (goodIn_of _ (by decide +kernel)) ggX3_isLawful_X3_teamMany
theorem dX3_isLawful_0 : decode cX3_isLawful 0 = .ok (.iconst 0, 1) := by decide +kernel
theorem dX3_isLawful_1 : decode cX3_isLawful 1 = .ok (.istore_n 1, 1) := by decide +kernel
theorem dX3_isLawful_2 : decode cX3_isLawful 2 = .ok (.iload_n 1, 1) := by decide +kernel
theorem dX3_isLawful_3 : decode cX3_isLawful 3 = .ok (.aload_n 0, 1) := by decide +kernel
theorem dX3_isLawful_4 : decode cX3_isLawful 4 = .ok (.invokevirtual 64, 3) := by decide +kernel
theorem dX3_isLawful_7 : decode cX3_isLawful 7 = .ok (.if_icmp .ge 173, 3) := by decide +kernel
theorem dX3_isLawful_10 : decode cX3_isLawful 10 = .ok (.iconst 0, 1) := by decide +kernel
theorem dX3_isLawful_11 : decode cX3_isLawful 11 = .ok (.istore_n 2, 1) := by decide +kernel
theorem dX3_isLawful_12 : decode cX3_isLawful 12 = .ok (.iconst 0, 1) := by decide +kernel
theorem dX3_isLawful_13 : decode cX3_isLawful 13 = .ok (.istore_n 3, 1) := by decide +kernel
theorem dX3_isLawful_14 : decode cX3_isLawful 14 = .ok (.iload_n 3, 1) := by decide +kernel
theorem dX3_isLawful_15 : decode cX3_isLawful 15 = .ok (.aload_n 0, 1) := by decide +kernel
theorem dX3_isLawful_16 : decode cX3_isLawful 16 = .ok (.invokevirtual 64, 3) := by decide +kernel
theorem dX3_isLawful_19 : decode cX3_isLawful 19 = .ok (.if_icmp .ge 113, 3) := by decide +kernel
theorem dX3_isLawful_22 : decode cX3_isLawful 22 = .ok (.aload_n 0, 1) := by decide +kernel
theorem dX3_isLawful_23 : decode cX3_isLawful 23 = .ok (.getfield 32, 3) := by decide +kernel
theorem dX3_isLawful_26 : decode cX3_isLawful 26 = .ok (.iload_n 1, 1) := by decide +kernel
theorem dX3_isLawful_27 : decode cX3_isLawful 27 = .ok (.iaload, 1) := by decide +kernel
theorem dX3_isLawful_28 : decode cX3_isLawful 28 = .ok (.aload_n 0, 1) := by decide +kernel
theorem dX3_isLawful_29 : decode cX3_isLawful 29 = .ok (.getfield 32, 3) := by decide +kernel
theorem dX3_isLawful_32 : decode cX3_isLawful 32 = .ok (.iload_n 3, 1) := by decide +kernel
theorem dX3_isLawful_33 : decode cX3_isLawful 33 = .ok (.iaload, 1) := by decide +kernel
theorem dX3_isLawful_34 : decode cX3_isLawful 34 = .ok (.if_icmp .ne 7, 3) := by decide +kernel
theorem dX3_isLawful_37 : decode cX3_isLawful 37 = .ok (.iconst 1, 1) := by decide +kernel
theorem dX3_isLawful_38 : decode cX3_isLawful 38 = .ok (.goto 4, 3) := by decide +kernel
theorem dX3_isLawful_41 : decode cX3_isLawful 41 = .ok (.iconst 0, 1) := by decide +kernel
theorem dX3_isLawful_42 : decode cX3_isLawful 42 = .ok (.istore 4, 2) := by decide +kernel
theorem dX3_isLawful_44 : decode cX3_isLawful 44 = .ok (.iload_n 2, 1) := by decide +kernel
theorem dX3_isLawful_45 : decode cX3_isLawful 45 = .ok (.iload 4, 2) := by decide +kernel
theorem dX3_isLawful_47 : decode cX3_isLawful 47 = .ok (.ifCond .eq 22, 3) := by decide +kernel
theorem dX3_isLawful_50 : decode cX3_isLawful 50 = .ok (.aload_n 0, 1) := by decide +kernel
theorem dX3_isLawful_51 : decode cX3_isLawful 51 = .ok (.getfield 7, 3) := by decide +kernel
theorem dX3_isLawful_54 : decode cX3_isLawful 54 = .ok (.iload_n 1, 1) := by decide +kernel
theorem dX3_isLawful_55 : decode cX3_isLawful 55 = .ok (.iaload, 1) := by decide +kernel
theorem dX3_isLawful_56 : decode cX3_isLawful 56 = .ok (.aload_n 0, 1) := by decide +kernel
theorem dX3_isLawful_57 : decode cX3_isLawful 57 = .ok (.getfield 7, 3) := by decide +kernel
theorem dX3_isLawful_60 : decode cX3_isLawful 60 = .ok (.iload_n 3, 1) := by decide +kernel
theorem dX3_isLawful_61 : decode cX3_isLawful 61 = .ok (.iaload, 1) := by decide +kernel
theorem dX3_isLawful_62 : decode cX3_isLawful 62 = .ok (.if_icmp .ne 7, 3) := by decide +kernel
theorem dX3_isLawful_65 : decode cX3_isLawful 65 = .ok (.iconst 1, 1) := by decide +kernel
theorem dX3_isLawful_66 : decode cX3_isLawful 66 = .ok (.goto 4, 3) := by decide +kernel
theorem dX3_isLawful_69 : decode cX3_isLawful 69 = .ok (.iconst 0, 1) := by decide +kernel
theorem dX3_isLawful_70 : decode cX3_isLawful 70 = .ok (.iadd, 1) := by decide +kernel
theorem dX3_isLawful_71 : decode cX3_isLawful 71 = .ok (.istore_n 2, 1) := by decide +kernel
theorem dX3_isLawful_72 : decode cX3_isLawful 72 = .ok (.aload_n 0, 1) := by decide +kernel
theorem dX3_isLawful_73 : decode cX3_isLawful 73 = .ok (.getfield 16, 3) := by decide +kernel
theorem dX3_isLawful_76 : decode cX3_isLawful 76 = .ok (.bipush 9, 2) := by decide +kernel
theorem dX3_isLawful_78 : decode cX3_isLawful 78 = .ok (.iload_n 1, 1) := by decide +kernel
theorem dX3_isLawful_79 : decode cX3_isLawful 79 = .ok (.imul, 1) := by decide +kernel
theorem dX3_isLawful_80 : decode cX3_isLawful 80 = .ok (.iload_n 3, 1) := by decide +kernel
theorem dX3_isLawful_81 : decode cX3_isLawful 81 = .ok (.iadd, 1) := by decide +kernel
theorem dX3_isLawful_82 : decode cX3_isLawful 82 = .ok (.baload, 1) := by decide +kernel
theorem dX3_isLawful_83 : decode cX3_isLawful 83 = .ok (.ifCond .eq 8, 3) := by decide +kernel
theorem dX3_isLawful_86 : decode cX3_isLawful 86 = .ok (.iload 4, 2) := by decide +kernel
theorem dX3_isLawful_88 : decode cX3_isLawful 88 = .ok (.ifCond .ne 36, 3) := by decide +kernel
theorem dX3_isLawful_91 : decode cX3_isLawful 91 = .ok (.aload_n 0, 1) := by decide +kernel
theorem dX3_isLawful_92 : decode cX3_isLawful 92 = .ok (.getfield 20, 3) := by decide +kernel
theorem dX3_isLawful_95 : decode cX3_isLawful 95 = .ok (.bipush 9, 2) := by decide +kernel
theorem dX3_isLawful_97 : decode cX3_isLawful 97 = .ok (.iload_n 1, 1) := by decide +kernel
theorem dX3_isLawful_98 : decode cX3_isLawful 98 = .ok (.imul, 1) := by decide +kernel
theorem dX3_isLawful_99 : decode cX3_isLawful 99 = .ok (.iload_n 3, 1) := by decide +kernel
theorem dX3_isLawful_100 : decode cX3_isLawful 100 = .ok (.iadd, 1) := by decide +kernel
theorem dX3_isLawful_101 : decode cX3_isLawful 101 = .ok (.baload, 1) := by decide +kernel
theorem dX3_isLawful_102 : decode cX3_isLawful 102 = .ok (.ifCond .eq 24, 3) := by decide +kernel
theorem dX3_isLawful_105 : decode cX3_isLawful 105 = .ok (.aload_n 0, 1) := by decide +kernel
theorem dX3_isLawful_106 : decode cX3_isLawful 106 = .ok (.getfield 32, 3) := by decide +kernel
theorem dX3_isLawful_109 : decode cX3_isLawful 109 = .ok (.iload_n 1, 1) := by decide +kernel
theorem dX3_isLawful_110 : decode cX3_isLawful 110 = .ok (.iaload, 1) := by decide +kernel
theorem dX3_isLawful_111 : decode cX3_isLawful 111 = .ok (.iconst 2, 1) := by decide +kernel
theorem dX3_isLawful_112 : decode cX3_isLawful 112 = .ok (.irem, 1) := by decide +kernel
theorem dX3_isLawful_113 : decode cX3_isLawful 113 = .ok (.aload_n 0, 1) := by decide +kernel
theorem dX3_isLawful_114 : decode cX3_isLawful 114 = .ok (.getfield 32, 3) := by decide +kernel
theorem dX3_isLawful_117 : decode cX3_isLawful 117 = .ok (.iload_n 3, 1) := by decide +kernel
theorem dX3_isLawful_118 : decode cX3_isLawful 118 = .ok (.iaload, 1) := by decide +kernel
theorem dX3_isLawful_119 : decode cX3_isLawful 119 = .ok (.iconst 2, 1) := by decide +kernel
theorem dX3_isLawful_120 : decode cX3_isLawful 120 = .ok (.irem, 1) := by decide +kernel
theorem dX3_isLawful_121 : decode cX3_isLawful 121 = .ok (.if_icmp .ne 5, 3) := by decide +kernel
theorem dX3_isLawful_124 : decode cX3_isLawful 124 = .ok (.iconst 0, 1) := by decide +kernel
theorem dX3_isLawful_125 : decode cX3_isLawful 125 = .ok (.ireturn, 1) := by decide +kernel
theorem dX3_isLawful_126 : decode cX3_isLawful 126 = .ok (.iinc 3 1, 3) := by decide +kernel
theorem dX3_isLawful_129 : decode cX3_isLawful 129 = .ok (.goto (-115), 3) := by decide +kernel
theorem dX3_isLawful_132 : decode cX3_isLawful 132 = .ok (.iload_n 2, 1) := by decide +kernel
theorem dX3_isLawful_133 : decode cX3_isLawful 133 = .ok (.aload_n 0, 1) := by decide +kernel
theorem dX3_isLawful_134 : decode cX3_isLawful 134 = .ok (.getfield 13, 3) := by decide +kernel
theorem dX3_isLawful_137 : decode cX3_isLawful 137 = .ok (.aload_n 0, 1) := by decide +kernel
theorem dX3_isLawful_138 : decode cX3_isLawful 138 = .ok (.getfield 7, 3) := by decide +kernel
theorem dX3_isLawful_141 : decode cX3_isLawful 141 = .ok (.iload_n 1, 1) := by decide +kernel
theorem dX3_isLawful_142 : decode cX3_isLawful 142 = .ok (.iaload, 1) := by decide +kernel
theorem dX3_isLawful_143 : decode cX3_isLawful 143 = .ok (.iaload, 1) := by decide +kernel
theorem dX3_isLawful_144 : decode cX3_isLawful 144 = .ok (.if_icmp .gt 28, 3) := by decide +kernel
theorem dX3_isLawful_147 : decode cX3_isLawful 147 = .ok (.aload_n 0, 1) := by decide +kernel
theorem dX3_isLawful_148 : decode cX3_isLawful 148 = .ok (.getfield 26, 3) := by decide +kernel
theorem dX3_isLawful_151 : decode cX3_isLawful 151 = .ok (.iload_n 1, 1) := by decide +kernel
theorem dX3_isLawful_152 : decode cX3_isLawful 152 = .ok (.iaload, 1) := by decide +kernel
theorem dX3_isLawful_153 : decode cX3_isLawful 153 = .ok (.iconst (-1), 1) := by decide +kernel
theorem dX3_isLawful_154 : decode cX3_isLawful 154 = .ok (.if_icmp .eq 20, 3) := by decide +kernel
theorem dX3_isLawful_157 : decode cX3_isLawful 157 = .ok (.aload_n 0, 1) := by decide +kernel
theorem dX3_isLawful_158 : decode cX3_isLawful 158 = .ok (.getfield 26, 3) := by decide +kernel
theorem dX3_isLawful_161 : decode cX3_isLawful 161 = .ok (.iload_n 1, 1) := by decide +kernel
theorem dX3_isLawful_162 : decode cX3_isLawful 162 = .ok (.iaload, 1) := by decide +kernel
theorem dX3_isLawful_163 : decode cX3_isLawful 163 = .ok (.aload_n 0, 1) := by decide +kernel
theorem dX3_isLawful_164 : decode cX3_isLawful 164 = .ok (.getfield 32, 3) := by decide +kernel
theorem dX3_isLawful_167 : decode cX3_isLawful 167 = .ok (.iload_n 1, 1) := by decide +kernel
theorem dX3_isLawful_168 : decode cX3_isLawful 168 = .ok (.iaload, 1) := by decide +kernel
theorem dX3_isLawful_169 : decode cX3_isLawful 169 = .ok (.if_icmp .eq 5, 3) := by decide +kernel
theorem dX3_isLawful_172 : decode cX3_isLawful 172 = .ok (.iconst 0, 1) := by decide +kernel
theorem dX3_isLawful_173 : decode cX3_isLawful 173 = .ok (.ireturn, 1) := by decide +kernel
theorem dX3_isLawful_174 : decode cX3_isLawful 174 = .ok (.iinc 1 1, 3) := by decide +kernel
theorem dX3_isLawful_177 : decode cX3_isLawful 177 = .ok (.goto (-175), 3) := by decide +kernel
theorem dX3_isLawful_180 : decode cX3_isLawful 180 = .ok (.iconst 1, 1) := by decide +kernel
theorem dX3_isLawful_181 : decode cX3_isLawful 181 = .ok (.ireturn, 1) := by decide +kernel
set_option maxRecDepth 20000 in
theorem ggX3_layResults_X3_factorial : GoodIn wsX3_layResults wsX3_factorial := goodIn_r _ [9] (by decide +kernel) (by decide +kernel)
set_option maxRecDepth 20000 in
theorem gX3_layResults_X3_factorial : GoodIn wsX3_layResults (va_wsS RX3 80 yX3_factorial wsX3_factorial) := goodIn_app (goodIn_of _ (by decide +kernel)) ggX3_layResults_X3_factorial
set_option maxRecDepth 20000 in
theorem ggX3_layResults_X3_layOrder : GoodIn wsX3_layResults wsX3_layOrder := goodIn_r _ [13, 14, 5, 28, 29, 30, 31, 32, 33, 34, 35, 36, 37, 38, 39, 40, 41, 42, 43, 44] (by decide +kernel) (by decide +kernel)
set_option maxRecDepth 20000 in
theorem gX3_layResults_X3_layOrder : GoodIn wsX3_layResults (wsV RX3 87 RX3 yX3_layOrder wsX3_layOrder) := goodIn_app (goodIn_of _ (by decide +kernel)) ggX3_layResults_X3_layOrder
set_option maxRecDepth 20000 in
theorem ggX3_layResults_X3_isLawful : GoodIn wsX3_layResults wsX3_isLawful := goodIn_r _ [18, 5, 19, 20, 21, 22, 23, 24, 25, 26, 8, 27, 1, 2, 28, 29, 30, 31, 32, 33, 34, 35, 36, 37, 38, 39, 40, 41, 42, 43, 44] (by decide +kernel) (by decide +kernel)
set_option maxRecDepth 20000 in
theorem gX3_layResults_X3_isLawful : GoodIn wsX3_layResults (wsV RX3 91 RX3 yX3_isLawful wsX3_isLawful) := goodIn_app (goodIn_of _ (by decide +kernel)) ggX3_layResults_X3_isLawful
set_option maxRecDepth 20000 in
theorem ggX3_layResults_X3_teamMany : GoodIn wsX3_layResults wsX3_teamMany := goodIn_r _ [27, 1, 2, 28, 29, 30, 31, 32, 33, 34, 35, 36, 37, 38, 39, 40, 41, 42, 43, 44] (by decide +kernel) (by decide +kernel)
set_option maxRecDepth 20000 in
theorem gX3_layResults_X3_teamMany : GoodIn wsX3_layResults (wsV RX3 64 RX3 yX3_teamMany wsX3_teamMany) := goodIn_app (goodIn_of _ (by decide +kernel)) ggX3_layResults_X3_teamMany
theorem dX3_layResults_0 : decode cX3_layResults 0 = .ok (.aload_n 0, 1) := by decide +kernel
theorem dX3_layResults_1 : decode cX3_layResults 1 = .ok (.getfield 55, 3) := by decide +kernel
theorem dX3_layResults_4 : decode cX3_layResults 4 = .ok (.invokestatic 80, 3) := by decide +kernel
theorem dX3_layResults_7 : decode cX3_layResults 7 = .ok (.istore_n 1, 1) := by decide +kernel
theorem dX3_layResults_8 : decode cX3_layResults 8 = .ok (.aload_n 0, 1) := by decide +kernel
theorem dX3_layResults_9 : decode cX3_layResults 9 = .ok (.getfield 58, 3) := by decide +kernel
theorem dX3_layResults_12 : decode cX3_layResults 12 = .ok (.iconst 2, 1) := by decide +kernel
theorem dX3_layResults_13 : decode cX3_layResults 13 = .ok (.if_icmp .ne 9, 3) := by decide +kernel
theorem dX3_layResults_16 : decode cX3_layResults 16 = .ok (.iload_n 1, 1) := by decide +kernel
theorem dX3_layResults_17 : decode cX3_layResults 17 = .ok (.iload_n 1, 1) := by decide +kernel
theorem dX3_layResults_18 : decode cX3_layResults 18 = .ok (.imul, 1) := by decide +kernel
theorem dX3_layResults_19 : decode cX3_layResults 19 = .ok (.goto 8, 3) := by decide +kernel
theorem dX3_layResults_22 : decode cX3_layResults 22 = .ok (.iload_n 1, 1) := by decide +kernel
theorem dX3_layResults_23 : decode cX3_layResults 23 = .ok (.iload_n 1, 1) := by decide +kernel
theorem dX3_layResults_24 : decode cX3_layResults 24 = .ok (.imul, 1) := by decide +kernel
theorem dX3_layResults_25 : decode cX3_layResults 25 = .ok (.iload_n 1, 1) := by decide +kernel
theorem dX3_layResults_26 : decode cX3_layResults 26 = .ok (.imul, 1) := by decide +kernel
theorem dX3_layResults_27 : decode cX3_layResults 27 = .ok (.istore_n 2, 1) := by decide +kernel
theorem dX3_layResults_28 : decode cX3_layResults 28 = .ok (.aload_n 0, 1) := by decide +kernel
theorem dX3_layResults_29 : decode cX3_layResults 29 = .ok (.iconst 0, 1) := by decide +kernel
theorem dX3_layResults_30 : decode cX3_layResults 30 = .ok (.putfield 84, 3) := by decide +kernel
theorem dX3_layResults_33 : decode cX3_layResults 33 = .ok (.iconst 0, 1) := by decide +kernel
theorem dX3_layResults_34 : decode cX3_layResults 34 = .ok (.istore_n 3, 1) := by decide +kernel
theorem dX3_layResults_35 : decode cX3_layResults 35 = .ok (.iload_n 3, 1) := by decide +kernel
theorem dX3_layResults_36 : decode cX3_layResults 36 = .ok (.iload_n 2, 1) := by decide +kernel
theorem dX3_layResults_37 : decode cX3_layResults 37 = .ok (.if_icmp .ge 112, 3) := by decide +kernel
theorem dX3_layResults_40 : decode cX3_layResults 40 = .ok (.iload_n 3, 1) := by decide +kernel
theorem dX3_layResults_41 : decode cX3_layResults 41 = .ok (.istore 4, 2) := by decide +kernel
theorem dX3_layResults_43 : decode cX3_layResults 43 = .ok (.iconst 0, 1) := by decide +kernel
theorem dX3_layResults_44 : decode cX3_layResults 44 = .ok (.istore 5, 2) := by decide +kernel
theorem dX3_layResults_46 : decode cX3_layResults 46 = .ok (.iload 5, 2) := by decide +kernel
theorem dX3_layResults_48 : decode cX3_layResults 48 = .ok (.aload_n 0, 1) := by decide +kernel
theorem dX3_layResults_49 : decode cX3_layResults 49 = .ok (.getfield 58, 3) := by decide +kernel
theorem dX3_layResults_52 : decode cX3_layResults 52 = .ok (.if_icmp .ge 34, 3) := by decide +kernel
theorem dX3_layResults_55 : decode cX3_layResults 55 = .ok (.aload_n 0, 1) := by decide +kernel
theorem dX3_layResults_56 : decode cX3_layResults 56 = .ok (.iload 4, 2) := by decide +kernel
theorem dX3_layResults_58 : decode cX3_layResults 58 = .ok (.iload_n 1, 1) := by decide +kernel
theorem dX3_layResults_59 : decode cX3_layResults 59 = .ok (.irem, 1) := by decide +kernel
theorem dX3_layResults_60 : decode cX3_layResults 60 = .ok (.aload_n 0, 1) := by decide +kernel
theorem dX3_layResults_61 : decode cX3_layResults 61 = .ok (.getfield 55, 3) := by decide +kernel
theorem dX3_layResults_64 : decode cX3_layResults 64 = .ok (.aload_n 0, 1) := by decide +kernel
theorem dX3_layResults_65 : decode cX3_layResults 65 = .ok (.getfield 55, 3) := by decide +kernel
theorem dX3_layResults_68 : decode cX3_layResults 68 = .ok (.iload 5, 2) := by decide +kernel
theorem dX3_layResults_70 : decode cX3_layResults 70 = .ok (.imul, 1) := by decide +kernel
theorem dX3_layResults_71 : decode cX3_layResults 71 = .ok (.invokevirtual 87, 3) := by decide +kernel
theorem dX3_layResults_74 : decode cX3_layResults 74 = .ok (.iload 4, 2) := by decide +kernel
theorem dX3_layResults_76 : decode cX3_layResults 76 = .ok (.iload_n 1, 1) := by decide +kernel
theorem dX3_layResults_77 : decode cX3_layResults 77 = .ok (.idiv, 1) := by decide +kernel
theorem dX3_layResults_78 : decode cX3_layResults 78 = .ok (.istore 4, 2) := by decide +kernel
theorem dX3_layResults_80 : decode cX3_layResults 80 = .ok (.iinc 5 1, 3) := by decide +kernel
theorem dX3_layResults_83 : decode cX3_layResults 83 = .ok (.goto (-37), 3) := by decide +kernel
theorem dX3_layResults_86 : decode cX3_layResults 86 = .ok (.aload_n 0, 1) := by decide +kernel
theorem dX3_layResults_87 : decode cX3_layResults 87 = .ok (.invokevirtual 91, 3) := by decide +kernel
theorem dX3_layResults_90 : decode cX3_layResults 90 = .ok (.ifCond .eq 53, 3) := by decide +kernel
theorem dX3_layResults_93 : decode cX3_layResults 93 = .ok (.iconst 0, 1) := by decide +kernel
theorem dX3_layResults_94 : decode cX3_layResults 94 = .ok (.istore 5, 2) := by decide +kernel
theorem dX3_layResults_96 : decode cX3_layResults 96 = .ok (.iload 5, 2) := by decide +kernel
theorem dX3_layResults_98 : decode cX3_layResults 98 = .ok (.aload_n 0, 1) := by decide +kernel
theorem dX3_layResults_99 : decode cX3_layResults 99 = .ok (.invokevirtual 64, 3) := by decide +kernel
theorem dX3_layResults_102 : decode cX3_layResults 102 = .ok (.if_icmp .ge 31, 3) := by decide +kernel
theorem dX3_layResults_105 : decode cX3_layResults 105 = .ok (.aload_n 0, 1) := by decide +kernel
theorem dX3_layResults_106 : decode cX3_layResults 106 = .ok (.getfield 29, 3) := by decide +kernel
theorem dX3_layResults_109 : decode cX3_layResults 109 = .ok (.bipush 9, 2) := by decide +kernel
theorem dX3_layResults_111 : decode cX3_layResults 111 = .ok (.aload_n 0, 1) := by decide +kernel
theorem dX3_layResults_112 : decode cX3_layResults 112 = .ok (.getfield 84, 3) := by decide +kernel
theorem dX3_layResults_115 : decode cX3_layResults 115 = .ok (.imul, 1) := by decide +kernel
theorem dX3_layResults_116 : decode cX3_layResults 116 = .ok (.iload 5, 2) := by decide +kernel
theorem dX3_layResults_118 : decode cX3_layResults 118 = .ok (.iadd, 1) := by decide +kernel
theorem dX3_layResults_119 : decode cX3_layResults 119 = .ok (.aload_n 0, 1) := by decide +kernel
theorem dX3_layResults_120 : decode cX3_layResults 120 = .ok (.getfield 32, 3) := by decide +kernel
theorem dX3_layResults_123 : decode cX3_layResults 123 = .ok (.iload 5, 2) := by decide +kernel
theorem dX3_layResults_125 : decode cX3_layResults 125 = .ok (.iaload, 1) := by decide +kernel
theorem dX3_layResults_126 : decode cX3_layResults 126 = .ok (.iastore, 1) := by decide +kernel
theorem dX3_layResults_127 : decode cX3_layResults 127 = .ok (.iinc 5 1, 3) := by decide +kernel
theorem dX3_layResults_130 : decode cX3_layResults 130 = .ok (.goto (-34), 3) := by decide +kernel
theorem dX3_layResults_133 : decode cX3_layResults 133 = .ok (.aload_n 0, 1) := by decide +kernel
theorem dX3_layResults_134 : decode cX3_layResults 134 = .ok (.dup, 1) := by decide +kernel
theorem dX3_layResults_135 : decode cX3_layResults 135 = .ok (.getfield 84, 3) := by decide +kernel
theorem dX3_layResults_138 : decode cX3_layResults 138 = .ok (.iconst 1, 1) := by decide +kernel
theorem dX3_layResults_139 : decode cX3_layResults 139 = .ok (.iadd, 1) := by decide +kernel
theorem dX3_layResults_140 : decode cX3_layResults 140 = .ok (.putfield 84, 3) := by decide +kernel
theorem dX3_layResults_143 : decode cX3_layResults 143 = .ok (.iinc 3 1, 3) := by decide +kernel
theorem dX3_layResults_146 : decode cX3_layResults 146 = .ok (.goto (-111), 3) := by decide +kernel
theorem dX3_layResults_149 : decode cX3_layResults 149 = .ok (.return_, 1) := by decide +kernel
theorem dX3_countIn_0 : decode cX3_countIn 0 = .ok (.iconst 0, 1) := by decide +kernel
theorem dX3_countIn_1 : decode cX3_countIn 1 = .ok (.istore_n 3, 1) := by decide +kernel
theorem dX3_countIn_2 : decode cX3_countIn 2 = .ok (.iconst 0, 1) := by decide +kernel
theorem dX3_countIn_3 : decode cX3_countIn 3 = .ok (.istore 4, 2) := by decide +kernel
theorem dX3_countIn_5 : decode cX3_countIn 5 = .ok (.iload 4, 2) := by decide +kernel
theorem dX3_countIn_7 : decode cX3_countIn 7 = .ok (.aload_n 0, 1) := by decide +kernel
theorem dX3_countIn_8 : decode cX3_countIn 8 = .ok (.getfield 84, 3) := by decide +kernel
theorem dX3_countIn_11 : decode cX3_countIn 11 = .ok (.if_icmp .ge 33, 3) := by decide +kernel
theorem dX3_countIn_14 : decode cX3_countIn 14 = .ok (.iload_n 3, 1) := by decide +kernel
theorem dX3_countIn_15 : decode cX3_countIn 15 = .ok (.aload_n 0, 1) := by decide +kernel
theorem dX3_countIn_16 : decode cX3_countIn 16 = .ok (.getfield 29, 3) := by decide +kernel
theorem dX3_countIn_19 : decode cX3_countIn 19 = .ok (.bipush 9, 2) := by decide +kernel
theorem dX3_countIn_21 : decode cX3_countIn 21 = .ok (.iload 4, 2) := by decide +kernel
theorem dX3_countIn_23 : decode cX3_countIn 23 = .ok (.imul, 1) := by decide +kernel
theorem dX3_countIn_24 : decode cX3_countIn 24 = .ok (.iload_n 1, 1) := by decide +kernel
theorem dX3_countIn_25 : decode cX3_countIn 25 = .ok (.iadd, 1) := by decide +kernel
theorem dX3_countIn_26 : decode cX3_countIn 26 = .ok (.iaload, 1) := by decide +kernel
theorem dX3_countIn_27 : decode cX3_countIn 27 = .ok (.iload_n 2, 1) := by decide +kernel
theorem dX3_countIn_28 : decode cX3_countIn 28 = .ok (.if_icmp .ne 7, 3) := by decide +kernel
theorem dX3_countIn_31 : decode cX3_countIn 31 = .ok (.iconst 1, 1) := by decide +kernel
theorem dX3_countIn_32 : decode cX3_countIn 32 = .ok (.goto 4, 3) := by decide +kernel
theorem dX3_countIn_35 : decode cX3_countIn 35 = .ok (.iconst 0, 1) := by decide +kernel
theorem dX3_countIn_36 : decode cX3_countIn 36 = .ok (.iadd, 1) := by decide +kernel
theorem dX3_countIn_37 : decode cX3_countIn 37 = .ok (.istore_n 3, 1) := by decide +kernel
theorem dX3_countIn_38 : decode cX3_countIn 38 = .ok (.iinc 4 1, 3) := by decide +kernel
theorem dX3_countIn_41 : decode cX3_countIn 41 = .ok (.goto (-36), 3) := by decide +kernel
theorem dX3_countIn_44 : decode cX3_countIn 44 = .ok (.iload_n 3, 1) := by decide +kernel
theorem dX3_countIn_45 : decode cX3_countIn 45 = .ok (.ireturn, 1) := by decide +kernel
set_option maxRecDepth 20000 in
theorem ggX3_lowestFor_X3_countIn : GoodIn wsX3_lowestFor wsX3_countIn := goodIn_r _ [6, 7, 8, 9, 10, 11, 12, 13, 14, 15, 16, 17, 18, 19, 20, 21, 22, 23, 24, 25] (by decide +kernel) (by decide +kernel)
set_option maxRecDepth 20000 in
theorem gX3_lowestFor_X3_countIn : GoodIn wsX3_lowestFor (wsV RX3 95 RX3 yX3_countIn wsX3_countIn) := goodIn_app (goodIn_of _ (by decide +kernel)) ggX3_lowestFor_X3_countIn
theorem dX3_lowestFor_0 : decode cX3_lowestFor 0 = .ok (.iconst 0, 1) := by decide +kernel
theorem dX3_lowestFor_1 : decode cX3_lowestFor 1 = .ok (.istore_n 2, 1) := by decide +kernel
theorem dX3_lowestFor_2 : decode cX3_lowestFor 2 = .ok (.iload_n 2, 1) := by decide +kernel
theorem dX3_lowestFor_3 : decode cX3_lowestFor 3 = .ok (.aload_n 0, 1) := by decide +kernel
theorem dX3_lowestFor_4 : decode cX3_lowestFor 4 = .ok (.getfield 55, 3) := by decide +kernel
theorem dX3_lowestFor_7 : decode cX3_lowestFor 7 = .ok (.if_icmp .ge 20, 3) := by decide +kernel
theorem dX3_lowestFor_10 : decode cX3_lowestFor 10 = .ok (.aload_n 0, 1) := by decide +kernel
theorem dX3_lowestFor_11 : decode cX3_lowestFor 11 = .ok (.iload_n 1, 1) := by decide +kernel
theorem dX3_lowestFor_12 : decode cX3_lowestFor 12 = .ok (.iload_n 2, 1) := by decide +kernel
theorem dX3_lowestFor_13 : decode cX3_lowestFor 13 = .ok (.invokevirtual 95, 3) := by decide +kernel
theorem dX3_lowestFor_16 : decode cX3_lowestFor 16 = .ok (.ifCond .le 5, 3) := by decide +kernel
theorem dX3_lowestFor_19 : decode cX3_lowestFor 19 = .ok (.iload_n 2, 1) := by decide +kernel
theorem dX3_lowestFor_20 : decode cX3_lowestFor 20 = .ok (.ireturn, 1) := by decide +kernel
theorem dX3_lowestFor_21 : decode cX3_lowestFor 21 = .ok (.iinc 2 1, 3) := by decide +kernel
theorem dX3_lowestFor_24 : decode cX3_lowestFor 24 = .ok (.goto (-22), 3) := by decide +kernel
theorem dX3_lowestFor_27 : decode cX3_lowestFor 27 = .ok (.iconst (-1), 1) := by decide +kernel
theorem dX3_lowestFor_28 : decode cX3_lowestFor 28 = .ok (.ireturn, 1) := by decide +kernel
set_option maxRecDepth 20000 in
theorem ggX3_potNow_X3_teamMany : GoodIn wsX3_potNow wsX3_teamMany := goodIn_r _ [7, 2, 8, 9, 10, 11, 12, 13, 14, 15, 16, 17, 18, 19, 20, 21, 22, 23, 24, 25] (by decide +kernel) (by decide +kernel)
set_option maxRecDepth 20000 in
theorem gX3_potNow_X3_teamMany : GoodIn wsX3_potNow (wsV RX3 64 RX3 yX3_teamMany wsX3_teamMany) := goodIn_app (goodIn_of _ (by decide +kernel)) ggX3_potNow_X3_teamMany
theorem dX3_potNow_0 : decode cX3_potNow 0 = .ok (.aload_n 0, 1) := by decide +kernel
theorem dX3_potNow_1 : decode cX3_potNow 1 = .ok (.getfield 61, 3) := by decide +kernel
theorem dX3_potNow_4 : decode cX3_potNow 4 = .ok (.aload_n 0, 1) := by decide +kernel
theorem dX3_potNow_5 : decode cX3_potNow 5 = .ok (.invokevirtual 64, 3) := by decide +kernel
theorem dX3_potNow_8 : decode cX3_potNow 8 = .ok (.if_icmp .ne 7, 3) := by decide +kernel
theorem dX3_potNow_11 : decode cX3_potNow 11 = .ok (.iconst (-1), 1) := by decide +kernel
theorem dX3_potNow_12 : decode cX3_potNow 12 = .ok (.goto 12, 3) := by decide +kernel
theorem dX3_potNow_15 : decode cX3_potNow 15 = .ok (.aload_n 0, 1) := by decide +kernel
theorem dX3_potNow_16 : decode cX3_potNow 16 = .ok (.getfield 61, 3) := by decide +kernel
theorem dX3_potNow_19 : decode cX3_potNow 19 = .ok (.aload_n 0, 1) := by decide +kernel
theorem dX3_potNow_20 : decode cX3_potNow 20 = .ok (.getfield 55, 3) := by decide +kernel
theorem dX3_potNow_23 : decode cX3_potNow 23 = .ok (.idiv, 1) := by decide +kernel
theorem dX3_potNow_24 : decode cX3_potNow 24 = .ok (.ireturn, 1) := by decide +kernel
set_option maxRecDepth 20000 in
theorem ggX3_leftNow_X3_teamMany : GoodIn wsX3_leftNow wsX3_teamMany := goodIn_r _ [7, 2, 8, 9, 10, 11, 12, 13, 14, 15, 16, 17, 18, 19, 20, 21, 22, 23, 24, 25] (by decide +kernel) (by decide +kernel)
set_option maxRecDepth 20000 in
theorem gX3_leftNow_X3_teamMany : GoodIn wsX3_leftNow (wsV RX3 64 RX3 yX3_teamMany wsX3_teamMany) := goodIn_app (goodIn_of _ (by decide +kernel)) ggX3_leftNow_X3_teamMany
theorem dX3_leftNow_0 : decode cX3_leftNow 0 = .ok (.aload_n 0, 1) := by decide +kernel
theorem dX3_leftNow_1 : decode cX3_leftNow 1 = .ok (.getfield 61, 3) := by decide +kernel
theorem dX3_leftNow_4 : decode cX3_leftNow 4 = .ok (.aload_n 0, 1) := by decide +kernel
theorem dX3_leftNow_5 : decode cX3_leftNow 5 = .ok (.invokevirtual 64, 3) := by decide +kernel
theorem dX3_leftNow_8 : decode cX3_leftNow 8 = .ok (.if_icmp .ne 7, 3) := by decide +kernel
theorem dX3_leftNow_11 : decode cX3_leftNow 11 = .ok (.iconst 0, 1) := by decide +kernel
theorem dX3_leftNow_12 : decode cX3_leftNow 12 = .ok (.goto 17, 3) := by decide +kernel
theorem dX3_leftNow_15 : decode cX3_leftNow 15 = .ok (.aload_n 0, 1) := by decide +kernel
theorem dX3_leftNow_16 : decode cX3_leftNow 16 = .ok (.getfield 55, 3) := by decide +kernel
theorem dX3_leftNow_19 : decode cX3_leftNow 19 = .ok (.aload_n 0, 1) := by decide +kernel
theorem dX3_leftNow_20 : decode cX3_leftNow 20 = .ok (.getfield 61, 3) := by decide +kernel
theorem dX3_leftNow_23 : decode cX3_leftNow 23 = .ok (.aload_n 0, 1) := by decide +kernel
theorem dX3_leftNow_24 : decode cX3_leftNow 24 = .ok (.getfield 55, 3) := by decide +kernel
theorem dX3_leftNow_27 : decode cX3_leftNow 27 = .ok (.irem, 1) := by decide +kernel
theorem dX3_leftNow_28 : decode cX3_leftNow 28 = .ok (.isub, 1) := by decide +kernel
theorem dX3_leftNow_29 : decode cX3_leftNow 29 = .ok (.ireturn, 1) := by decide +kernel
theorem dX3_ball_0 : decode cX3_ball 0 = .ok (.iload_n 2, 1) := by decide +kernel
theorem dX3_ball_1 : decode cX3_ball 1 = .ok (.istore_n 3, 1) := by decide +kernel
theorem dX3_ball_2 : decode cX3_ball 2 = .ok (.aload_n 0, 1) := by decide +kernel
theorem dX3_ball_3 : decode cX3_ball 3 = .ok (.getfield 55, 3) := by decide +kernel
theorem dX3_ball_6 : decode cX3_ball 6 = .ok (.iload_n 1, 1) := by decide +kernel
theorem dX3_ball_7 : decode cX3_ball 7 = .ok (.imul, 1) := by decide +kernel
theorem dX3_ball_8 : decode cX3_ball 8 = .ok (.istore 4, 2) := by decide +kernel
theorem dX3_ball_10 : decode cX3_ball 10 = .ok (.iload 4, 2) := by decide +kernel
theorem dX3_ball_12 : decode cX3_ball 12 = .ok (.aload_n 0, 1) := by decide +kernel
theorem dX3_ball_13 : decode cX3_ball 13 = .ok (.getfield 55, 3) := by decide +kernel
theorem dX3_ball_16 : decode cX3_ball 16 = .ok (.iload_n 1, 1) := by decide +kernel
theorem dX3_ball_17 : decode cX3_ball 17 = .ok (.iconst 1, 1) := by decide +kernel
theorem dX3_ball_18 : decode cX3_ball 18 = .ok (.iadd, 1) := by decide +kernel
theorem dX3_ball_19 : decode cX3_ball 19 = .ok (.imul, 1) := by decide +kernel
theorem dX3_ball_20 : decode cX3_ball 20 = .ok (.if_icmp .ge 34, 3) := by decide +kernel
theorem dX3_ball_23 : decode cX3_ball 23 = .ok (.iload_n 2, 1) := by decide +kernel
theorem dX3_ball_24 : decode cX3_ball 24 = .ok (.ifCond .lt 30, 3) := by decide +kernel
theorem dX3_ball_27 : decode cX3_ball 27 = .ok (.aload_n 0, 1) := by decide +kernel
theorem dX3_ball_28 : decode cX3_ball 28 = .ok (.getfield 26, 3) := by decide +kernel
theorem dX3_ball_31 : decode cX3_ball 31 = .ok (.iload 4, 2) := by decide +kernel
theorem dX3_ball_33 : decode cX3_ball 33 = .ok (.iaload, 1) := by decide +kernel
theorem dX3_ball_34 : decode cX3_ball 34 = .ok (.iconst (-1), 1) := by decide +kernel
theorem dX3_ball_35 : decode cX3_ball 35 = .ok (.if_icmp .ne 13, 3) := by decide +kernel
theorem dX3_ball_38 : decode cX3_ball 38 = .ok (.iload_n 3, 1) := by decide +kernel
theorem dX3_ball_39 : decode cX3_ball 39 = .ok (.ifCond .ne 6, 3) := by decide +kernel
theorem dX3_ball_42 : decode cX3_ball 42 = .ok (.iload 4, 2) := by decide +kernel
theorem dX3_ball_44 : decode cX3_ball 44 = .ok (.ireturn, 1) := by decide +kernel
theorem dX3_ball_45 : decode cX3_ball 45 = .ok (.iinc 3 (-1), 3) := by decide +kernel
theorem dX3_ball_48 : decode cX3_ball 48 = .ok (.iinc 4 1, 3) := by decide +kernel
theorem dX3_ball_51 : decode cX3_ball 51 = .ok (.goto (-41), 3) := by decide +kernel
theorem dX3_ball_54 : decode cX3_ball 54 = .ok (.iconst (-1), 1) := by decide +kernel
theorem dX3_ball_55 : decode cX3_ball 55 = .ok (.ireturn, 1) := by decide +kernel
set_option maxRecDepth 20000 in
theorem ggX3_draw_X3_layResults : GoodIn wsX3_draw wsX3_layResults := goodIn_r _ [10, 11, 12, 2, 13, 14, 15, 16, 9, 17, 18, 19, 20, 21, 22, 23, 24, 25, 26, 27, 28, 29, 30, 4, 31, 32, 33, 34, 58, 59, 60, 61, 62, 63, 64, 65, 66, 67, 68, 69, 70, 71, 72, 73, 74] (by decide +kernel) (by decide +kernel)
set_option maxRecDepth 20000 in
theorem gX3_draw_X3_layResults : GoodIn wsX3_draw (wsV RX3 99 RX3 yX3_layResults wsX3_layResults) := goodIn_app (goodIn_of _ (by decide +kernel)) ggX3_draw_X3_layResults
set_option maxRecDepth 20000 in
theorem ggX3_draw_X3_teamMany : GoodIn wsX3_draw wsX3_teamMany := goodIn_r _ [34, 11, 12, 58, 59, 60, 61, 62, 63, 64, 65, 66, 67, 68, 69, 70, 71, 72, 73, 74] (by decide +kernel) (by decide +kernel)
set_option maxRecDepth 20000 in
theorem gX3_draw_X3_teamMany : GoodIn wsX3_draw (wsV RX3 64 RX3 yX3_teamMany wsX3_teamMany) := goodIn_app (goodIn_of _ (by decide +kernel)) ggX3_draw_X3_teamMany
set_option maxRecDepth 20000 in
theorem ggX3_draw_X3_leftNow : GoodIn wsX3_draw wsX3_leftNow := goodIn_r _ [38, 1, 11, 31, 32, 33, 9, 34, 12, 58, 59, 60, 61, 62, 63, 64, 65, 66, 67, 68, 69, 70, 71, 72, 73, 74] (by decide +kernel) (by decide +kernel)
set_option maxRecDepth 20000 in
theorem gX3_draw_X3_leftNow : GoodIn wsX3_draw (wsV RX3 102 RX3 yX3_leftNow wsX3_leftNow) := goodIn_app (goodIn_of _ (by decide +kernel)) ggX3_draw_X3_leftNow
set_option maxRecDepth 20000 in
theorem ggX3_draw_X3_in : GoodIn wsX3_draw wsX3_in := goodIn_r _ [41] (by decide +kernel) (by decide +kernel)
set_option maxRecDepth 20000 in
theorem gX3_draw_X3_in : GoodIn wsX3_draw (va_wsS RX3 68 yX3_in wsX3_in) := goodIn_app (goodIn_of _ (by decide +kernel)) ggX3_draw_X3_in
set_option maxRecDepth 20000 in
theorem ggX3_draw_X3_potNow : GoodIn wsX3_draw wsX3_potNow := goodIn_r _ [45, 1, 11, 31, 32, 33, 9, 34, 12, 58, 59, 60, 61, 62, 63, 64, 65, 66, 67, 68, 69, 70, 71, 72, 73, 74] (by decide +kernel) (by decide +kernel)
set_option maxRecDepth 20000 in
theorem gX3_draw_X3_potNow : GoodIn wsX3_draw (wsV RX3 105 RX3 yX3_potNow wsX3_potNow) := goodIn_app (goodIn_of _ (by decide +kernel)) ggX3_draw_X3_potNow
set_option maxRecDepth 20000 in
theorem ggX3_draw_X3_ball : GoodIn wsX3_draw wsX3_ball := goodIn_r _ [49, 11, 4, 58, 59, 60, 61, 62, 63, 64, 65, 66, 67, 68, 69, 70, 71, 72, 73, 74] (by decide +kernel) (by decide +kernel)
set_option maxRecDepth 20000 in
theorem gX3_draw_X3_ball : GoodIn wsX3_draw (wsV RX3 108 RX3 yX3_ball wsX3_ball) := goodIn_app (goodIn_of _ (by decide +kernel)) ggX3_draw_X3_ball
set_option maxRecDepth 20000 in
theorem ggX3_draw_X3_lowestFor : GoodIn wsX3_draw wsX3_lowestFor := goodIn_r _ [53, 11, 54, 55, 56, 9, 57, 2, 13, 58, 59, 60, 61, 62, 63, 64, 65, 66, 67, 68, 69, 70, 71, 72, 73, 74] (by decide +kernel) (by decide +kernel)
set_option maxRecDepth 20000 in
theorem gX3_draw_X3_lowestFor : GoodIn wsX3_draw (wsV RX3 111 RX3 yX3_lowestFor wsX3_lowestFor) := goodIn_app (goodIn_of _ (by decide +kernel)) ggX3_draw_X3_lowestFor
theorem dX3_draw_0 : decode cX3_draw 0 = .ok (.aload_n 0, 1) := by decide +kernel
theorem dX3_draw_1 : decode cX3_draw 1 = .ok (.invokevirtual 99, 3) := by decide +kernel
theorem dX3_draw_4 : decode cX3_draw 4 = .ok (.aload_n 0, 1) := by decide +kernel
theorem dX3_draw_5 : decode cX3_draw 5 = .ok (.aload_n 0, 1) := by decide +kernel
theorem dX3_draw_6 : decode cX3_draw 6 = .ok (.getfield 61, 3) := by decide +kernel
theorem dX3_draw_9 : decode cX3_draw 9 = .ok (.aload_n 0, 1) := by decide +kernel
theorem dX3_draw_10 : decode cX3_draw 10 = .ok (.invokevirtual 64, 3) := by decide +kernel
theorem dX3_draw_13 : decode cX3_draw 13 = .ok (.if_icmp .eq 10, 3) := by decide +kernel
theorem dX3_draw_16 : decode cX3_draw 16 = .ok (.aload_n 0, 1) := by decide +kernel
theorem dX3_draw_17 : decode cX3_draw 17 = .ok (.getfield 84, 3) := by decide +kernel
theorem dX3_draw_20 : decode cX3_draw 20 = .ok (.ifCond .ne 7, 3) := by decide +kernel
theorem dX3_draw_23 : decode cX3_draw 23 = .ok (.iconst 1, 1) := by decide +kernel
theorem dX3_draw_24 : decode cX3_draw 24 = .ok (.goto 22, 3) := by decide +kernel
theorem dX3_draw_27 : decode cX3_draw 27 = .ok (.iload_n 1, 1) := by decide +kernel
theorem dX3_draw_28 : decode cX3_draw 28 = .ok (.iconst 0, 1) := by decide +kernel
theorem dX3_draw_29 : decode cX3_draw 29 = .ok (.aload_n 0, 1) := by decide +kernel
theorem dX3_draw_30 : decode cX3_draw 30 = .ok (.invokevirtual 102, 3) := by decide +kernel
theorem dX3_draw_33 : decode cX3_draw 33 = .ok (.iconst 1, 1) := by decide +kernel
theorem dX3_draw_34 : decode cX3_draw 34 = .ok (.isub, 1) := by decide +kernel
theorem dX3_draw_35 : decode cX3_draw 35 = .ok (.invokestatic 68, 3) := by decide +kernel
theorem dX3_draw_38 : decode cX3_draw 38 = .ok (.ifCond .ne 7, 3) := by decide +kernel
theorem dX3_draw_41 : decode cX3_draw 41 = .ok (.iconst 2, 1) := by decide +kernel
theorem dX3_draw_42 : decode cX3_draw 42 = .ok (.goto 4, 3) := by decide +kernel
theorem dX3_draw_45 : decode cX3_draw 45 = .ok (.iconst 0, 1) := by decide +kernel
theorem dX3_draw_46 : decode cX3_draw 46 = .ok (.putfield 51, 3) := by decide +kernel
theorem dX3_draw_49 : decode cX3_draw 49 = .ok (.aload_n 0, 1) := by decide +kernel
theorem dX3_draw_50 : decode cX3_draw 50 = .ok (.getfield 51, 3) := by decide +kernel
theorem dX3_draw_53 : decode cX3_draw 53 = .ok (.ifCond .le 5, 3) := by decide +kernel
theorem dX3_draw_56 : decode cX3_draw 56 = .ok (.iconst 0, 1) := by decide +kernel
theorem dX3_draw_57 : decode cX3_draw 57 = .ok (.ireturn, 1) := by decide +kernel
theorem dX3_draw_58 : decode cX3_draw 58 = .ok (.aload_n 0, 1) := by decide +kernel
theorem dX3_draw_59 : decode cX3_draw 59 = .ok (.aload_n 0, 1) := by decide +kernel
theorem dX3_draw_60 : decode cX3_draw 60 = .ok (.invokevirtual 105, 3) := by decide +kernel
theorem dX3_draw_63 : decode cX3_draw 63 = .ok (.iload_n 1, 1) := by decide +kernel
theorem dX3_draw_64 : decode cX3_draw 64 = .ok (.invokevirtual 108, 3) := by decide +kernel
theorem dX3_draw_67 : decode cX3_draw 67 = .ok (.istore_n 2, 1) := by decide +kernel
theorem dX3_draw_68 : decode cX3_draw 68 = .ok (.aload_n 0, 1) := by decide +kernel
theorem dX3_draw_69 : decode cX3_draw 69 = .ok (.getfield 26, 3) := by decide +kernel
theorem dX3_draw_72 : decode cX3_draw 72 = .ok (.iload_n 2, 1) := by decide +kernel
theorem dX3_draw_73 : decode cX3_draw 73 = .ok (.aload_n 0, 1) := by decide +kernel
theorem dX3_draw_74 : decode cX3_draw 74 = .ok (.iload_n 2, 1) := by decide +kernel
theorem dX3_draw_75 : decode cX3_draw 75 = .ok (.invokevirtual 111, 3) := by decide +kernel
theorem dX3_draw_78 : decode cX3_draw 78 = .ok (.iastore, 1) := by decide +kernel
theorem dX3_draw_79 : decode cX3_draw 79 = .ok (.aload_n 0, 1) := by decide +kernel
theorem dX3_draw_80 : decode cX3_draw 80 = .ok (.getfield 23, 3) := by decide +kernel
theorem dX3_draw_83 : decode cX3_draw 83 = .ok (.aload_n 0, 1) := by decide +kernel
theorem dX3_draw_84 : decode cX3_draw 84 = .ok (.getfield 61, 3) := by decide +kernel
theorem dX3_draw_87 : decode cX3_draw 87 = .ok (.iload_n 2, 1) := by decide +kernel
theorem dX3_draw_88 : decode cX3_draw 88 = .ok (.iastore, 1) := by decide +kernel
theorem dX3_draw_89 : decode cX3_draw 89 = .ok (.aload_n 0, 1) := by decide +kernel
theorem dX3_draw_90 : decode cX3_draw 90 = .ok (.dup, 1) := by decide +kernel
theorem dX3_draw_91 : decode cX3_draw 91 = .ok (.getfield 61, 3) := by decide +kernel
theorem dX3_draw_94 : decode cX3_draw 94 = .ok (.iconst 1, 1) := by decide +kernel
theorem dX3_draw_95 : decode cX3_draw 95 = .ok (.iadd, 1) := by decide +kernel
theorem dX3_draw_96 : decode cX3_draw 96 = .ok (.putfield 61, 3) := by decide +kernel
theorem dX3_draw_99 : decode cX3_draw 99 = .ok (.aload_n 0, 1) := by decide +kernel
theorem dX3_draw_100 : decode cX3_draw 100 = .ok (.getfield 26, 3) := by decide +kernel
theorem dX3_draw_103 : decode cX3_draw 103 = .ok (.iload_n 2, 1) := by decide +kernel
theorem dX3_draw_104 : decode cX3_draw 104 = .ok (.iaload, 1) := by decide +kernel
theorem dX3_draw_105 : decode cX3_draw 105 = .ok (.ireturn, 1) := by decide +kernel
theorem dX3_undo_0 : decode cX3_undo 0 = .ok (.aload_n 0, 1) := by decide +kernel
theorem dX3_undo_1 : decode cX3_undo 1 = .ok (.aload_n 0, 1) := by decide +kernel
theorem dX3_undo_2 : decode cX3_undo 2 = .ok (.getfield 61, 3) := by decide +kernel
theorem dX3_undo_5 : decode cX3_undo 5 = .ok (.ifCond .ne 7, 3) := by decide +kernel
theorem dX3_undo_8 : decode cX3_undo 8 = .ok (.iconst 1, 1) := by decide +kernel
theorem dX3_undo_9 : decode cX3_undo 9 = .ok (.goto 4, 3) := by decide +kernel
theorem dX3_undo_12 : decode cX3_undo 12 = .ok (.iconst 0, 1) := by decide +kernel
theorem dX3_undo_13 : decode cX3_undo 13 = .ok (.putfield 51, 3) := by decide +kernel
theorem dX3_undo_16 : decode cX3_undo 16 = .ok (.aload_n 0, 1) := by decide +kernel
theorem dX3_undo_17 : decode cX3_undo 17 = .ok (.getfield 51, 3) := by decide +kernel
theorem dX3_undo_20 : decode cX3_undo 20 = .ok (.ifCond .le 5, 3) := by decide +kernel
theorem dX3_undo_23 : decode cX3_undo 23 = .ok (.iconst 0, 1) := by decide +kernel
theorem dX3_undo_24 : decode cX3_undo 24 = .ok (.ireturn, 1) := by decide +kernel
theorem dX3_undo_25 : decode cX3_undo 25 = .ok (.aload_n 0, 1) := by decide +kernel
theorem dX3_undo_26 : decode cX3_undo 26 = .ok (.dup, 1) := by decide +kernel
theorem dX3_undo_27 : decode cX3_undo 27 = .ok (.getfield 61, 3) := by decide +kernel
theorem dX3_undo_30 : decode cX3_undo 30 = .ok (.iconst 1, 1) := by decide +kernel
theorem dX3_undo_31 : decode cX3_undo 31 = .ok (.isub, 1) := by decide +kernel
theorem dX3_undo_32 : decode cX3_undo 32 = .ok (.putfield 61, 3) := by decide +kernel
theorem dX3_undo_35 : decode cX3_undo 35 = .ok (.aload_n 0, 1) := by decide +kernel
theorem dX3_undo_36 : decode cX3_undo 36 = .ok (.getfield 26, 3) := by decide +kernel
theorem dX3_undo_39 : decode cX3_undo 39 = .ok (.aload_n 0, 1) := by decide +kernel
theorem dX3_undo_40 : decode cX3_undo 40 = .ok (.getfield 23, 3) := by decide +kernel
theorem dX3_undo_43 : decode cX3_undo 43 = .ok (.aload_n 0, 1) := by decide +kernel
theorem dX3_undo_44 : decode cX3_undo 44 = .ok (.getfield 61, 3) := by decide +kernel
theorem dX3_undo_47 : decode cX3_undo 47 = .ok (.iaload, 1) := by decide +kernel
theorem dX3_undo_48 : decode cX3_undo 48 = .ok (.iconst (-1), 1) := by decide +kernel
theorem dX3_undo_49 : decode cX3_undo 49 = .ok (.iastore, 1) := by decide +kernel
theorem dX3_undo_50 : decode cX3_undo 50 = .ok (.aload_n 0, 1) := by decide +kernel
theorem dX3_undo_51 : decode cX3_undo 51 = .ok (.getfield 23, 3) := by decide +kernel
theorem dX3_undo_54 : decode cX3_undo 54 = .ok (.aload_n 0, 1) := by decide +kernel
theorem dX3_undo_55 : decode cX3_undo 55 = .ok (.getfield 61, 3) := by decide +kernel
theorem dX3_undo_58 : decode cX3_undo 58 = .ok (.iaload, 1) := by decide +kernel
theorem dX3_undo_59 : decode cX3_undo 59 = .ok (.ireturn, 1) := by decide +kernel
theorem dX3_drawn_0 : decode cX3_drawn 0 = .ok (.aload_n 0, 1) := by decide +kernel
theorem dX3_drawn_1 : decode cX3_drawn 1 = .ok (.iconst 0, 1) := by decide +kernel
theorem dX3_drawn_2 : decode cX3_drawn 2 = .ok (.putfield 51, 3) := by decide +kernel
theorem dX3_drawn_5 : decode cX3_drawn 5 = .ok (.aload_n 0, 1) := by decide +kernel
theorem dX3_drawn_6 : decode cX3_drawn 6 = .ok (.getfield 61, 3) := by decide +kernel
theorem dX3_drawn_9 : decode cX3_drawn 9 = .ok (.ireturn, 1) := by decide +kernel
set_option maxRecDepth 20000 in
theorem ggX3_pot_X3_potNow : GoodIn wsX3_pot wsX3_potNow := goodIn_r _ [6, 7, 8, 9, 10, 11, 5, 12, 13, 14, 15, 16, 17, 18, 19, 20, 21, 22, 23, 24, 25, 26, 27, 28, 29, 30] (by decide +kernel) (by decide +kernel)
set_option maxRecDepth 20000 in
theorem gX3_pot_X3_potNow : GoodIn wsX3_pot (wsV RX3 105 RX3 yX3_potNow wsX3_potNow) := goodIn_app (goodIn_of _ (by decide +kernel)) ggX3_pot_X3_potNow
theorem dX3_pot_0 : decode cX3_pot 0 = .ok (.aload_n 0, 1) := by decide +kernel
theorem dX3_pot_1 : decode cX3_pot 1 = .ok (.iconst 0, 1) := by decide +kernel
theorem dX3_pot_2 : decode cX3_pot 2 = .ok (.putfield 51, 3) := by decide +kernel
theorem dX3_pot_5 : decode cX3_pot 5 = .ok (.aload_n 0, 1) := by decide +kernel
theorem dX3_pot_6 : decode cX3_pot 6 = .ok (.invokevirtual 105, 3) := by decide +kernel
theorem dX3_pot_9 : decode cX3_pot 9 = .ok (.ireturn, 1) := by decide +kernel
set_option maxRecDepth 20000 in
theorem ggX3_left_X3_leftNow : GoodIn wsX3_left wsX3_leftNow := goodIn_r _ [6, 7, 8, 9, 10, 11, 5, 12, 13, 14, 15, 16, 17, 18, 19, 20, 21, 22, 23, 24, 25, 26, 27, 28, 29, 30] (by decide +kernel) (by decide +kernel)
set_option maxRecDepth 20000 in
theorem gX3_left_X3_leftNow : GoodIn wsX3_left (wsV RX3 102 RX3 yX3_leftNow wsX3_leftNow) := goodIn_app (goodIn_of _ (by decide +kernel)) ggX3_left_X3_leftNow
theorem dX3_left_0 : decode cX3_left 0 = .ok (.aload_n 0, 1) := by decide +kernel
theorem dX3_left_1 : decode cX3_left 1 = .ok (.iconst 0, 1) := by decide +kernel
theorem dX3_left_2 : decode cX3_left 2 = .ok (.putfield 51, 3) := by decide +kernel
theorem dX3_left_5 : decode cX3_left 5 = .ok (.aload_n 0, 1) := by decide +kernel
theorem dX3_left_6 : decode cX3_left 6 = .ok (.invokevirtual 102, 3) := by decide +kernel
theorem dX3_left_9 : decode cX3_left 9 = .ok (.ireturn, 1) := by decide +kernel
set_option maxRecDepth 20000 in
theorem ggX3_ballAt_X3_leftNow : GoodIn wsX3_ballAt wsX3_leftNow := goodIn_r _ [6, 7, 8, 9, 10, 11, 5, 12, 13, 26, 27, 28, 29, 30, 31, 32, 33, 34, 35, 36, 37, 38, 39, 40, 41, 42] (by decide +kernel) (by decide +kernel)
set_option maxRecDepth 20000 in
theorem gX3_ballAt_X3_leftNow : GoodIn wsX3_ballAt (wsV RX3 102 RX3 yX3_leftNow wsX3_leftNow) := goodIn_app (goodIn_of _ (by decide +kernel)) ggX3_ballAt_X3_leftNow
set_option maxRecDepth 20000 in
theorem ggX3_ballAt_X3_in : GoodIn wsX3_ballAt wsX3_in := goodIn_r _ [16] (by decide +kernel) (by decide +kernel)
set_option maxRecDepth 20000 in
theorem gX3_ballAt_X3_in : GoodIn wsX3_ballAt (va_wsS RX3 68 yX3_in wsX3_in) := goodIn_app (goodIn_of _ (by decide +kernel)) ggX3_ballAt_X3_in
set_option maxRecDepth 20000 in
theorem ggX3_ballAt_X3_potNow : GoodIn wsX3_ballAt wsX3_potNow := goodIn_r _ [20, 7, 8, 9, 10, 11, 5, 12, 13, 26, 27, 28, 29, 30, 31, 32, 33, 34, 35, 36, 37, 38, 39, 40, 41, 42] (by decide +kernel) (by decide +kernel)
set_option maxRecDepth 20000 in
theorem gX3_ballAt_X3_potNow : GoodIn wsX3_ballAt (wsV RX3 105 RX3 yX3_potNow wsX3_potNow) := goodIn_app (goodIn_of _ (by decide +kernel)) ggX3_ballAt_X3_potNow
set_option maxRecDepth 20000 in
theorem ggX3_ballAt_X3_ball : GoodIn wsX3_ballAt wsX3_ball := goodIn_r _ [24, 8, 25, 26, 27, 28, 29, 30, 31, 32, 33, 34, 35, 36, 37, 38, 39, 40, 41, 42] (by decide +kernel) (by decide +kernel)
set_option maxRecDepth 20000 in
theorem gX3_ballAt_X3_ball : GoodIn wsX3_ballAt (wsV RX3 108 RX3 yX3_ball wsX3_ball) := goodIn_app (goodIn_of _ (by decide +kernel)) ggX3_ballAt_X3_ball
theorem dX3_ballAt_0 : decode cX3_ballAt 0 = .ok (.aload_n 0, 1) := by decide +kernel
theorem dX3_ballAt_1 : decode cX3_ballAt 1 = .ok (.iload_n 1, 1) := by decide +kernel
theorem dX3_ballAt_2 : decode cX3_ballAt 2 = .ok (.iconst 0, 1) := by decide +kernel
theorem dX3_ballAt_3 : decode cX3_ballAt 3 = .ok (.aload_n 0, 1) := by decide +kernel
theorem dX3_ballAt_4 : decode cX3_ballAt 4 = .ok (.invokevirtual 102, 3) := by decide +kernel
theorem dX3_ballAt_7 : decode cX3_ballAt 7 = .ok (.iconst 1, 1) := by decide +kernel
theorem dX3_ballAt_8 : decode cX3_ballAt 8 = .ok (.isub, 1) := by decide +kernel
theorem dX3_ballAt_9 : decode cX3_ballAt 9 = .ok (.invokestatic 68, 3) := by decide +kernel
theorem dX3_ballAt_12 : decode cX3_ballAt 12 = .ok (.ifCond .eq 7, 3) := by decide +kernel
theorem dX3_ballAt_15 : decode cX3_ballAt 15 = .ok (.iconst 0, 1) := by decide +kernel
theorem dX3_ballAt_16 : decode cX3_ballAt 16 = .ok (.goto 4, 3) := by decide +kernel
theorem dX3_ballAt_19 : decode cX3_ballAt 19 = .ok (.iconst 1, 1) := by decide +kernel
theorem dX3_ballAt_20 : decode cX3_ballAt 20 = .ok (.putfield 51, 3) := by decide +kernel
theorem dX3_ballAt_23 : decode cX3_ballAt 23 = .ok (.aload_n 0, 1) := by decide +kernel
theorem dX3_ballAt_24 : decode cX3_ballAt 24 = .ok (.getfield 51, 3) := by decide +kernel
theorem dX3_ballAt_27 : decode cX3_ballAt 27 = .ok (.ifCond .ne 15, 3) := by decide +kernel
theorem dX3_ballAt_30 : decode cX3_ballAt 30 = .ok (.aload_n 0, 1) := by decide +kernel
theorem dX3_ballAt_31 : decode cX3_ballAt 31 = .ok (.aload_n 0, 1) := by decide +kernel
theorem dX3_ballAt_32 : decode cX3_ballAt 32 = .ok (.invokevirtual 105, 3) := by decide +kernel
theorem dX3_ballAt_35 : decode cX3_ballAt 35 = .ok (.iload_n 1, 1) := by decide +kernel
theorem dX3_ballAt_36 : decode cX3_ballAt 36 = .ok (.invokevirtual 108, 3) := by decide +kernel
theorem dX3_ballAt_39 : decode cX3_ballAt 39 = .ok (.goto 4, 3) := by decide +kernel
theorem dX3_ballAt_42 : decode cX3_ballAt 42 = .ok (.iconst 0, 1) := by decide +kernel
theorem dX3_ballAt_43 : decode cX3_ballAt 43 = .ok (.ireturn, 1) := by decide +kernel
set_option maxRecDepth 20000 in
theorem ggX3_groupOf_X3_isTeam : GoodIn wsX3_groupOf wsX3_isTeam := goodIn_r _ [7, 8, 9, 10, 6, 11, 12, 13, 14, 15, 16, 17, 18, 19, 20, 21, 22, 23, 24, 25, 26, 27, 28, 29, 30, 31, 32, 33] (by decide +kernel) (by decide +kernel)
set_option maxRecDepth 20000 in
theorem gX3_groupOf_X3_isTeam : GoodIn wsX3_groupOf (wsV RX3 72 RX3 yX3_isTeam wsX3_isTeam) := goodIn_app (goodIn_of _ (by decide +kernel)) ggX3_groupOf_X3_isTeam
theorem dX3_groupOf_0 : decode cX3_groupOf 0 = .ok (.aload_n 0, 1) := by decide +kernel
theorem dX3_groupOf_1 : decode cX3_groupOf 1 = .ok (.aload_n 0, 1) := by decide +kernel
theorem dX3_groupOf_2 : decode cX3_groupOf 2 = .ok (.iload_n 1, 1) := by decide +kernel
theorem dX3_groupOf_3 : decode cX3_groupOf 3 = .ok (.invokevirtual 72, 3) := by decide +kernel
theorem dX3_groupOf_6 : decode cX3_groupOf 6 = .ok (.ifCond .eq 7, 3) := by decide +kernel
theorem dX3_groupOf_9 : decode cX3_groupOf 9 = .ok (.iconst 0, 1) := by decide +kernel
theorem dX3_groupOf_10 : decode cX3_groupOf 10 = .ok (.goto 4, 3) := by decide +kernel
theorem dX3_groupOf_13 : decode cX3_groupOf 13 = .ok (.iconst 1, 1) := by decide +kernel
theorem dX3_groupOf_14 : decode cX3_groupOf 14 = .ok (.putfield 51, 3) := by decide +kernel
theorem dX3_groupOf_17 : decode cX3_groupOf 17 = .ok (.aload_n 0, 1) := by decide +kernel
theorem dX3_groupOf_18 : decode cX3_groupOf 18 = .ok (.getfield 51, 3) := by decide +kernel
theorem dX3_groupOf_21 : decode cX3_groupOf 21 = .ok (.ifCond .ne 12, 3) := by decide +kernel
theorem dX3_groupOf_24 : decode cX3_groupOf 24 = .ok (.aload_n 0, 1) := by decide +kernel
theorem dX3_groupOf_25 : decode cX3_groupOf 25 = .ok (.getfield 26, 3) := by decide +kernel
theorem dX3_groupOf_28 : decode cX3_groupOf 28 = .ok (.iload_n 1, 1) := by decide +kernel
theorem dX3_groupOf_29 : decode cX3_groupOf 29 = .ok (.iaload, 1) := by decide +kernel
theorem dX3_groupOf_30 : decode cX3_groupOf 30 = .ok (.goto 4, 3) := by decide +kernel
theorem dX3_groupOf_33 : decode cX3_groupOf 33 = .ok (.iconst 0, 1) := by decide +kernel
theorem dX3_groupOf_34 : decode cX3_groupOf 34 = .ok (.ireturn, 1) := by decide +kernel
set_option maxRecDepth 20000 in
theorem ggX3_teamAt_X3_isGroup : GoodIn wsX3_teamAt wsX3_isGroup := goodIn_r _ [9, 3, 10, 11, 8, 12, 13, 14, 15, 16, 17, 18, 19, 20, 21, 22, 23, 24, 25, 26, 27, 28, 29] (by decide +kernel) (by decide +kernel)
set_option maxRecDepth 20000 in
theorem gX3_teamAt_X3_isGroup : GoodIn wsX3_teamAt (wsV RX3 114 RX3 yX3_isGroup wsX3_isGroup) := goodIn_app (goodIn_of _ (by decide +kernel)) ggX3_teamAt_X3_isGroup
set_option maxRecDepth 20000 in
theorem ggX3_teamAt_X3_in : GoodIn wsX3_teamAt wsX3_in := goodIn_r _ [12] (by decide +kernel) (by decide +kernel)
set_option maxRecDepth 20000 in
theorem gX3_teamAt_X3_in : GoodIn wsX3_teamAt (va_wsS RX3 68 yX3_in wsX3_in) := goodIn_app (goodIn_of _ (by decide +kernel)) ggX3_teamAt_X3_in
theorem dX3_teamAt_0 : decode cX3_teamAt 0 = .ok (.aload_n 0, 1) := by decide +kernel
theorem dX3_teamAt_1 : decode cX3_teamAt 1 = .ok (.aload_n 0, 1) := by decide +kernel
theorem dX3_teamAt_2 : decode cX3_teamAt 2 = .ok (.iload_n 1, 1) := by decide +kernel
theorem dX3_teamAt_3 : decode cX3_teamAt 3 = .ok (.invokevirtual 114, 3) := by decide +kernel
theorem dX3_teamAt_6 : decode cX3_teamAt 6 = .ok (.ifCond .eq 21, 3) := by decide +kernel
theorem dX3_teamAt_9 : decode cX3_teamAt 9 = .ok (.iload_n 2, 1) := by decide +kernel
theorem dX3_teamAt_10 : decode cX3_teamAt 10 = .ok (.iconst 0, 1) := by decide +kernel
theorem dX3_teamAt_11 : decode cX3_teamAt 11 = .ok (.aload_n 0, 1) := by decide +kernel
theorem dX3_teamAt_12 : decode cX3_teamAt 12 = .ok (.getfield 58, 3) := by decide +kernel
theorem dX3_teamAt_15 : decode cX3_teamAt 15 = .ok (.iconst 1, 1) := by decide +kernel
theorem dX3_teamAt_16 : decode cX3_teamAt 16 = .ok (.isub, 1) := by decide +kernel
theorem dX3_teamAt_17 : decode cX3_teamAt 17 = .ok (.invokestatic 68, 3) := by decide +kernel
theorem dX3_teamAt_20 : decode cX3_teamAt 20 = .ok (.ifCond .eq 7, 3) := by decide +kernel
theorem dX3_teamAt_23 : decode cX3_teamAt 23 = .ok (.iconst 0, 1) := by decide +kernel
theorem dX3_teamAt_24 : decode cX3_teamAt 24 = .ok (.goto 4, 3) := by decide +kernel
theorem dX3_teamAt_27 : decode cX3_teamAt 27 = .ok (.iconst 1, 1) := by decide +kernel
theorem dX3_teamAt_28 : decode cX3_teamAt 28 = .ok (.putfield 51, 3) := by decide +kernel
theorem dX3_teamAt_31 : decode cX3_teamAt 31 = .ok (.aload_n 0, 1) := by decide +kernel
theorem dX3_teamAt_32 : decode cX3_teamAt 32 = .ok (.getfield 55, 3) := by decide +kernel
theorem dX3_teamAt_35 : decode cX3_teamAt 35 = .ok (.iload_n 2, 1) := by decide +kernel
theorem dX3_teamAt_36 : decode cX3_teamAt 36 = .ok (.imul, 1) := by decide +kernel
theorem dX3_teamAt_37 : decode cX3_teamAt 37 = .ok (.istore_n 3, 1) := by decide +kernel
theorem dX3_teamAt_38 : decode cX3_teamAt 38 = .ok (.iload_n 3, 1) := by decide +kernel
theorem dX3_teamAt_39 : decode cX3_teamAt 39 = .ok (.aload_n 0, 1) := by decide +kernel
theorem dX3_teamAt_40 : decode cX3_teamAt 40 = .ok (.getfield 55, 3) := by decide +kernel
theorem dX3_teamAt_43 : decode cX3_teamAt 43 = .ok (.iload_n 2, 1) := by decide +kernel
theorem dX3_teamAt_44 : decode cX3_teamAt 44 = .ok (.iconst 1, 1) := by decide +kernel
theorem dX3_teamAt_45 : decode cX3_teamAt 45 = .ok (.iadd, 1) := by decide +kernel
theorem dX3_teamAt_46 : decode cX3_teamAt 46 = .ok (.imul, 1) := by decide +kernel
theorem dX3_teamAt_47 : decode cX3_teamAt 47 = .ok (.if_icmp .ge 28, 3) := by decide +kernel
theorem dX3_teamAt_50 : decode cX3_teamAt 50 = .ok (.aload_n 0, 1) := by decide +kernel
theorem dX3_teamAt_51 : decode cX3_teamAt 51 = .ok (.getfield 51, 3) := by decide +kernel
theorem dX3_teamAt_54 : decode cX3_teamAt 54 = .ok (.ifCond .ne 21, 3) := by decide +kernel
theorem dX3_teamAt_57 : decode cX3_teamAt 57 = .ok (.aload_n 0, 1) := by decide +kernel
theorem dX3_teamAt_58 : decode cX3_teamAt 58 = .ok (.getfield 26, 3) := by decide +kernel
theorem dX3_teamAt_61 : decode cX3_teamAt 61 = .ok (.iload_n 3, 1) := by decide +kernel
theorem dX3_teamAt_62 : decode cX3_teamAt 62 = .ok (.iaload, 1) := by decide +kernel
theorem dX3_teamAt_63 : decode cX3_teamAt 63 = .ok (.iload_n 1, 1) := by decide +kernel
theorem dX3_teamAt_64 : decode cX3_teamAt 64 = .ok (.if_icmp .ne 5, 3) := by decide +kernel
theorem dX3_teamAt_67 : decode cX3_teamAt 67 = .ok (.iload_n 3, 1) := by decide +kernel
theorem dX3_teamAt_68 : decode cX3_teamAt 68 = .ok (.ireturn, 1) := by decide +kernel
theorem dX3_teamAt_69 : decode cX3_teamAt 69 = .ok (.iinc 3 1, 3) := by decide +kernel
theorem dX3_teamAt_72 : decode cX3_teamAt 72 = .ok (.goto (-34), 3) := by decide +kernel
theorem dX3_teamAt_75 : decode cX3_teamAt 75 = .ok (.aload_n 0, 1) := by decide +kernel
theorem dX3_teamAt_76 : decode cX3_teamAt 76 = .ok (.getfield 51, 3) := by decide +kernel
theorem dX3_teamAt_79 : decode cX3_teamAt 79 = .ok (.ifCond .ne 7, 3) := by decide +kernel
theorem dX3_teamAt_82 : decode cX3_teamAt 82 = .ok (.iconst (-1), 1) := by decide +kernel
theorem dX3_teamAt_83 : decode cX3_teamAt 83 = .ok (.goto 4, 3) := by decide +kernel
theorem dX3_teamAt_86 : decode cX3_teamAt 86 = .ok (.iconst 0, 1) := by decide +kernel
theorem dX3_teamAt_87 : decode cX3_teamAt 87 = .ok (.ireturn, 1) := by decide +kernel
set_option maxRecDepth 20000 in
theorem ggX3_results_X3_layResults : GoodIn wsX3_results wsX3_layResults := goodIn_r _ [7, 8, 9, 2, 10, 11, 12, 13, 6, 14, 15, 16, 17, 18, 19, 20, 21, 22, 23, 24, 25, 26, 27, 28, 29, 30, 31, 32, 33, 34, 35, 36, 37, 38, 39, 40, 41, 42, 43, 44, 45, 46, 47, 48, 49] (by decide +kernel) (by decide +kernel)
set_option maxRecDepth 20000 in
theorem gX3_results_X3_layResults : GoodIn wsX3_results (wsV RX3 99 RX3 yX3_layResults wsX3_layResults) := goodIn_app (goodIn_of _ (by decide +kernel)) ggX3_results_X3_layResults
theorem dX3_results_0 : decode cX3_results 0 = .ok (.aload_n 0, 1) := by decide +kernel
theorem dX3_results_1 : decode cX3_results 1 = .ok (.iconst 0, 1) := by decide +kernel
theorem dX3_results_2 : decode cX3_results 2 = .ok (.putfield 51, 3) := by decide +kernel
theorem dX3_results_5 : decode cX3_results 5 = .ok (.aload_n 0, 1) := by decide +kernel
theorem dX3_results_6 : decode cX3_results 6 = .ok (.invokevirtual 99, 3) := by decide +kernel
theorem dX3_results_9 : decode cX3_results 9 = .ok (.aload_n 0, 1) := by decide +kernel
theorem dX3_results_10 : decode cX3_results 10 = .ok (.getfield 84, 3) := by decide +kernel
theorem dX3_results_13 : decode cX3_results 13 = .ok (.ireturn, 1) := by decide +kernel
set_option maxRecDepth 20000 in
theorem ggX3_isPlace_X3_isTeam : GoodIn wsX3_isPlace wsX3_isTeam := goodIn_r _ [6, 7, 8, 9, 5, 10, 11, 12, 13, 14, 15, 20, 21, 22, 23, 24, 25, 26, 27, 28, 29, 30, 31, 32, 33, 34, 35, 36] (by decide +kernel) (by decide +kernel)
set_option maxRecDepth 20000 in
theorem gX3_isPlace_X3_isTeam : GoodIn wsX3_isPlace (wsV RX3 72 RX3 yX3_isTeam wsX3_isTeam) := goodIn_app (goodIn_of _ (by decide +kernel)) ggX3_isPlace_X3_isTeam
set_option maxRecDepth 20000 in
theorem ggX3_isPlace_X3_isGroup : GoodIn wsX3_isPlace wsX3_isGroup := goodIn_r _ [19, 11, 13, 14, 5, 15, 20, 21, 22, 23, 24, 25, 26, 27, 28, 29, 30, 31, 32, 33, 34, 35, 36] (by decide +kernel) (by decide +kernel)
set_option maxRecDepth 20000 in
theorem gX3_isPlace_X3_isGroup : GoodIn wsX3_isPlace (wsV RX3 114 RX3 yX3_isGroup wsX3_isGroup) := goodIn_app (goodIn_of _ (by decide +kernel)) ggX3_isPlace_X3_isGroup
theorem dX3_isPlace_0 : decode cX3_isPlace 0 = .ok (.aload_n 0, 1) := by decide +kernel
theorem dX3_isPlace_1 : decode cX3_isPlace 1 = .ok (.aload_n 0, 1) := by decide +kernel
theorem dX3_isPlace_2 : decode cX3_isPlace 2 = .ok (.iload_n 1, 1) := by decide +kernel
theorem dX3_isPlace_3 : decode cX3_isPlace 3 = .ok (.invokevirtual 72, 3) := by decide +kernel
theorem dX3_isPlace_6 : decode cX3_isPlace 6 = .ok (.ifCond .eq 15, 3) := by decide +kernel
theorem dX3_isPlace_9 : decode cX3_isPlace 9 = .ok (.aload_n 0, 1) := by decide +kernel
theorem dX3_isPlace_10 : decode cX3_isPlace 10 = .ok (.iload_n 2, 1) := by decide +kernel
theorem dX3_isPlace_11 : decode cX3_isPlace 11 = .ok (.invokevirtual 114, 3) := by decide +kernel
theorem dX3_isPlace_14 : decode cX3_isPlace 14 = .ok (.ifCond .eq 7, 3) := by decide +kernel
theorem dX3_isPlace_17 : decode cX3_isPlace 17 = .ok (.iconst 0, 1) := by decide +kernel
theorem dX3_isPlace_18 : decode cX3_isPlace 18 = .ok (.goto 4, 3) := by decide +kernel
theorem dX3_isPlace_21 : decode cX3_isPlace 21 = .ok (.iconst 1, 1) := by decide +kernel
theorem dX3_isPlace_22 : decode cX3_isPlace 22 = .ok (.putfield 51, 3) := by decide +kernel
theorem dX3_isPlace_25 : decode cX3_isPlace 25 = .ok (.aload_n 0, 1) := by decide +kernel
theorem dX3_isPlace_26 : decode cX3_isPlace 26 = .ok (.getfield 51, 3) := by decide +kernel
theorem dX3_isPlace_29 : decode cX3_isPlace 29 = .ok (.ifCond .ne 7, 3) := by decide +kernel
theorem dX3_isPlace_32 : decode cX3_isPlace 32 = .ok (.iconst 1, 1) := by decide +kernel
theorem dX3_isPlace_33 : decode cX3_isPlace 33 = .ok (.goto 4, 3) := by decide +kernel
theorem dX3_isPlace_36 : decode cX3_isPlace 36 = .ok (.iconst 0, 1) := by decide +kernel
theorem dX3_isPlace_37 : decode cX3_isPlace 37 = .ok (.ireturn, 1) := by decide +kernel
set_option maxRecDepth 20000 in
theorem ggX3_fits_X3_evenly : GoodIn wsX3_fits wsX3_evenly := goodIn_r _ [5, 6, 7, 8, 4, 9, 10, 11, 12, 13, 14, 15, 16, 17, 18, 19, 20, 21, 22, 23, 24, 25, 26, 27, 28, 29, 30, 31, 32, 33, 34, 35, 36, 37, 38, 39, 40, 41, 42, 43, 44, 45, 46, 47, 48, 49, 50, 51, 52, 53, 54, 55, 56, 57, 58, 59, 60, 61, 62, 63, 64, 65, 66, 67, 68, 69, 70, 71, 72] (by decide +kernel) (by decide +kernel)
set_option maxRecDepth 20000 in
theorem gX3_fits_X3_evenly : GoodIn wsX3_fits (wsV RX3 117 RX3 yX3_evenly wsX3_evenly) := goodIn_app (goodIn_of _ (by decide +kernel)) ggX3_fits_X3_evenly
theorem dX3_fits_0 : decode cX3_fits 0 = .ok (.aload_n 0, 1) := by decide +kernel
theorem dX3_fits_1 : decode cX3_fits 1 = .ok (.iload_n 1, 1) := by decide +kernel
theorem dX3_fits_2 : decode cX3_fits 2 = .ok (.iload_n 2, 1) := by decide +kernel
theorem dX3_fits_3 : decode cX3_fits 3 = .ok (.invokevirtual 117, 3) := by decide +kernel
theorem dX3_fits_6 : decode cX3_fits 6 = .ok (.ifCond .le 7, 3) := by decide +kernel
theorem dX3_fits_9 : decode cX3_fits 9 = .ok (.iconst 1, 1) := by decide +kernel
theorem dX3_fits_10 : decode cX3_fits 10 = .ok (.goto 4, 3) := by decide +kernel
theorem dX3_fits_13 : decode cX3_fits 13 = .ok (.iconst 0, 1) := by decide +kernel
theorem dX3_fits_14 : decode cX3_fits 14 = .ok (.ireturn, 1) := by decide +kernel
set_option maxRecDepth 20000 in
theorem ggX3_forced_X3_isTeam : GoodIn wsX3_forced wsX3_isTeam := goodIn_r _ [7, 8, 9, 10, 6, 11, 12, 13, 14, 15, 16, 48, 49, 50, 51, 52, 53, 54, 55, 56, 57, 58, 59, 60, 61, 62, 63, 64] (by decide +kernel) (by decide +kernel)
set_option maxRecDepth 20000 in
theorem gX3_forced_X3_isTeam : GoodIn wsX3_forced (wsV RX3 72 RX3 yX3_isTeam wsX3_isTeam) := goodIn_app (goodIn_of _ (by decide +kernel)) ggX3_forced_X3_isTeam
set_option maxRecDepth 20000 in
theorem ggX3_forced_X3_layResults : GoodIn wsX3_forced wsX3_layResults := goodIn_r _ [20, 12, 13, 2, 21, 22, 23, 24, 6, 25, 26, 27, 28, 29, 30, 31, 32, 33, 34, 35, 36, 37, 38, 39, 8, 9, 10, 11, 48, 49, 50, 51, 52, 53, 54, 55, 56, 57, 58, 59, 60, 61, 62, 63, 64] (by decide +kernel) (by decide +kernel)
set_option maxRecDepth 20000 in
theorem gX3_forced_X3_layResults : GoodIn wsX3_forced (wsV RX3 99 RX3 yX3_layResults wsX3_layResults) := goodIn_app (goodIn_of _ (by decide +kernel)) ggX3_forced_X3_layResults
set_option maxRecDepth 20000 in
theorem ggX3_forced_X3_lowestFor : GoodIn wsX3_forced wsX3_lowestFor := goodIn_r _ [43, 12, 44, 45, 46, 6, 47, 2, 21, 48, 49, 50, 51, 52, 53, 54, 55, 56, 57, 58, 59, 60, 61, 62, 63, 64] (by decide +kernel) (by decide +kernel)
set_option maxRecDepth 20000 in
theorem gX3_forced_X3_lowestFor : GoodIn wsX3_forced (wsV RX3 111 RX3 yX3_lowestFor wsX3_lowestFor) := goodIn_app (goodIn_of _ (by decide +kernel)) ggX3_forced_X3_lowestFor
set_option maxRecDepth 20000 in
theorem ggX3_forced_X3_countIn : GoodIn wsX3_forced wsX3_countIn := goodIn_r _ [47, 2, 21, 48, 49, 50, 51, 52, 53, 54, 55, 56, 57, 58, 59, 60, 61, 62, 63, 64] (by decide +kernel) (by decide +kernel)
set_option maxRecDepth 20000 in
theorem gX3_forced_X3_countIn : GoodIn wsX3_forced (wsV RX3 95 RX3 yX3_countIn wsX3_countIn) := goodIn_app (goodIn_of _ (by decide +kernel)) ggX3_forced_X3_countIn
theorem dX3_forced_0 : decode cX3_forced 0 = .ok (.aload_n 0, 1) := by decide +kernel
theorem dX3_forced_1 : decode cX3_forced 1 = .ok (.aload_n 0, 1) := by decide +kernel
theorem dX3_forced_2 : decode cX3_forced 2 = .ok (.iload_n 1, 1) := by decide +kernel
theorem dX3_forced_3 : decode cX3_forced 3 = .ok (.invokevirtual 72, 3) := by decide +kernel
theorem dX3_forced_6 : decode cX3_forced 6 = .ok (.ifCond .eq 7, 3) := by decide +kernel
theorem dX3_forced_9 : decode cX3_forced 9 = .ok (.iconst 0, 1) := by decide +kernel
theorem dX3_forced_10 : decode cX3_forced 10 = .ok (.goto 4, 3) := by decide +kernel
theorem dX3_forced_13 : decode cX3_forced 13 = .ok (.iconst 1, 1) := by decide +kernel
theorem dX3_forced_14 : decode cX3_forced 14 = .ok (.putfield 51, 3) := by decide +kernel
theorem dX3_forced_17 : decode cX3_forced 17 = .ok (.aload_n 0, 1) := by decide +kernel
theorem dX3_forced_18 : decode cX3_forced 18 = .ok (.getfield 51, 3) := by decide +kernel
theorem dX3_forced_21 : decode cX3_forced 21 = .ok (.ifCond .le 5, 3) := by decide +kernel
theorem dX3_forced_24 : decode cX3_forced 24 = .ok (.iconst 0, 1) := by decide +kernel
theorem dX3_forced_25 : decode cX3_forced 25 = .ok (.ireturn, 1) := by decide +kernel
theorem dX3_forced_26 : decode cX3_forced 26 = .ok (.aload_n 0, 1) := by decide +kernel
theorem dX3_forced_27 : decode cX3_forced 27 = .ok (.invokevirtual 99, 3) := by decide +kernel
theorem dX3_forced_30 : decode cX3_forced 30 = .ok (.aload_n 0, 1) := by decide +kernel
theorem dX3_forced_31 : decode cX3_forced 31 = .ok (.iload_n 1, 1) := by decide +kernel
theorem dX3_forced_32 : decode cX3_forced 32 = .ok (.invokevirtual 111, 3) := by decide +kernel
theorem dX3_forced_35 : decode cX3_forced 35 = .ok (.istore_n 2, 1) := by decide +kernel
theorem dX3_forced_36 : decode cX3_forced 36 = .ok (.iload_n 2, 1) := by decide +kernel
theorem dX3_forced_37 : decode cX3_forced 37 = .ok (.iconst (-1), 1) := by decide +kernel
theorem dX3_forced_38 : decode cX3_forced 38 = .ok (.if_icmp .eq 20, 3) := by decide +kernel
theorem dX3_forced_41 : decode cX3_forced 41 = .ok (.aload_n 0, 1) := by decide +kernel
theorem dX3_forced_42 : decode cX3_forced 42 = .ok (.iload_n 1, 1) := by decide +kernel
theorem dX3_forced_43 : decode cX3_forced 43 = .ok (.iload_n 2, 1) := by decide +kernel
theorem dX3_forced_44 : decode cX3_forced 44 = .ok (.invokevirtual 95, 3) := by decide +kernel
theorem dX3_forced_47 : decode cX3_forced 47 = .ok (.aload_n 0, 1) := by decide +kernel
theorem dX3_forced_48 : decode cX3_forced 48 = .ok (.getfield 84, 3) := by decide +kernel
theorem dX3_forced_51 : decode cX3_forced 51 = .ok (.if_icmp .ne 7, 3) := by decide +kernel
theorem dX3_forced_54 : decode cX3_forced 54 = .ok (.iload_n 2, 1) := by decide +kernel
theorem dX3_forced_55 : decode cX3_forced 55 = .ok (.goto 4, 3) := by decide +kernel
theorem dX3_forced_58 : decode cX3_forced 58 = .ok (.iconst (-1), 1) := by decide +kernel
theorem dX3_forced_59 : decode cX3_forced 59 = .ok (.ireturn, 1) := by decide +kernel
set_option maxRecDepth 20000 in
theorem ggX3_evenly_X3_isPlace : GoodIn wsX3_evenly wsX3_isPlace := goodIn_r _ [5, 6, 7, 8, 9, 4, 10, 11, 12, 13, 14, 15, 16, 17, 18, 19, 20, 21, 22, 23, 52, 53, 54, 55, 56, 57, 58, 59, 60, 61, 62, 63, 64, 65, 66, 67, 68] (by decide +kernel) (by decide +kernel)
set_option maxRecDepth 20000 in
theorem gX3_evenly_X3_isPlace : GoodIn wsX3_evenly (wsV RX3 120 RX3 yX3_isPlace wsX3_isPlace) := goodIn_app (goodIn_of _ (by decide +kernel)) ggX3_evenly_X3_isPlace
set_option maxRecDepth 20000 in
theorem ggX3_evenly_X3_layResults : GoodIn wsX3_evenly wsX3_layResults := goodIn_r _ [27, 15, 16, 28, 29, 30, 31, 32, 4, 33, 34, 35, 36, 37, 38, 39, 40, 41, 42, 43, 44, 45, 46, 47, 11, 12, 13, 14, 52, 53, 54, 55, 56, 57, 58, 59, 60, 61, 62, 63, 64, 65, 66, 67, 68] (by decide +kernel) (by decide +kernel)
set_option maxRecDepth 20000 in
theorem gX3_evenly_X3_layResults : GoodIn wsX3_evenly (wsV RX3 99 RX3 yX3_layResults wsX3_layResults) := goodIn_app (goodIn_of _ (by decide +kernel)) ggX3_evenly_X3_layResults
set_option maxRecDepth 20000 in
theorem ggX3_evenly_X3_countIn : GoodIn wsX3_evenly wsX3_countIn := goodIn_r _ [51, 28, 29, 52, 53, 54, 55, 56, 57, 58, 59, 60, 61, 62, 63, 64, 65, 66, 67, 68] (by decide +kernel) (by decide +kernel)
set_option maxRecDepth 20000 in
theorem gX3_evenly_X3_countIn : GoodIn wsX3_evenly (wsV RX3 95 RX3 yX3_countIn wsX3_countIn) := goodIn_app (goodIn_of _ (by decide +kernel)) ggX3_evenly_X3_countIn
theorem dX3_evenly_0 : decode cX3_evenly 0 = .ok (.aload_n 0, 1) := by decide +kernel
theorem dX3_evenly_1 : decode cX3_evenly 1 = .ok (.iload_n 1, 1) := by decide +kernel
theorem dX3_evenly_2 : decode cX3_evenly 2 = .ok (.iload_n 2, 1) := by decide +kernel
theorem dX3_evenly_3 : decode cX3_evenly 3 = .ok (.invokevirtual 120, 3) := by decide +kernel
theorem dX3_evenly_6 : decode cX3_evenly 6 = .ok (.ifCond .ne 5, 3) := by decide +kernel
theorem dX3_evenly_9 : decode cX3_evenly 9 = .ok (.iconst 0, 1) := by decide +kernel
theorem dX3_evenly_10 : decode cX3_evenly 10 = .ok (.ireturn, 1) := by decide +kernel
theorem dX3_evenly_11 : decode cX3_evenly 11 = .ok (.aload_n 0, 1) := by decide +kernel
theorem dX3_evenly_12 : decode cX3_evenly 12 = .ok (.invokevirtual 99, 3) := by decide +kernel
theorem dX3_evenly_15 : decode cX3_evenly 15 = .ok (.aload_n 0, 1) := by decide +kernel
theorem dX3_evenly_16 : decode cX3_evenly 16 = .ok (.iload_n 1, 1) := by decide +kernel
theorem dX3_evenly_17 : decode cX3_evenly 17 = .ok (.iload_n 2, 1) := by decide +kernel
theorem dX3_evenly_18 : decode cX3_evenly 18 = .ok (.invokevirtual 95, 3) := by decide +kernel
theorem dX3_evenly_21 : decode cX3_evenly 21 = .ok (.ireturn, 1) := by decide +kernel
set_option maxRecDepth 20000 in
theorem ggX3_orderMany_X3_factorial : GoodIn wsX3_orderMany wsX3_factorial := goodIn_r _ [7] (by decide +kernel) (by decide +kernel)
set_option maxRecDepth 20000 in
theorem gX3_orderMany_X3_factorial : GoodIn wsX3_orderMany (va_wsS RX3 80 yX3_factorial wsX3_factorial) := goodIn_app (goodIn_of _ (by decide +kernel)) ggX3_orderMany_X3_factorial
theorem dX3_orderMany_0 : decode cX3_orderMany 0 = .ok (.iconst 1, 1) := by decide +kernel
theorem dX3_orderMany_1 : decode cX3_orderMany 1 = .ok (.istore_n 1, 1) := by decide +kernel
theorem dX3_orderMany_2 : decode cX3_orderMany 2 = .ok (.iconst 0, 1) := by decide +kernel
theorem dX3_orderMany_3 : decode cX3_orderMany 3 = .ok (.istore_n 2, 1) := by decide +kernel
theorem dX3_orderMany_4 : decode cX3_orderMany 4 = .ok (.iload_n 2, 1) := by decide +kernel
theorem dX3_orderMany_5 : decode cX3_orderMany 5 = .ok (.aload_n 0, 1) := by decide +kernel
theorem dX3_orderMany_6 : decode cX3_orderMany 6 = .ok (.getfield 58, 3) := by decide +kernel
theorem dX3_orderMany_9 : decode cX3_orderMany 9 = .ok (.if_icmp .ge 64, 3) := by decide +kernel
theorem dX3_orderMany_12 : decode cX3_orderMany 12 = .ok (.iconst 0, 1) := by decide +kernel
theorem dX3_orderMany_13 : decode cX3_orderMany 13 = .ok (.istore_n 3, 1) := by decide +kernel
theorem dX3_orderMany_14 : decode cX3_orderMany 14 = .ok (.aload_n 0, 1) := by decide +kernel
theorem dX3_orderMany_15 : decode cX3_orderMany 15 = .ok (.getfield 55, 3) := by decide +kernel
theorem dX3_orderMany_18 : decode cX3_orderMany 18 = .ok (.iload_n 2, 1) := by decide +kernel
theorem dX3_orderMany_19 : decode cX3_orderMany 19 = .ok (.imul, 1) := by decide +kernel
theorem dX3_orderMany_20 : decode cX3_orderMany 20 = .ok (.istore 4, 2) := by decide +kernel
theorem dX3_orderMany_22 : decode cX3_orderMany 22 = .ok (.iload 4, 2) := by decide +kernel
theorem dX3_orderMany_24 : decode cX3_orderMany 24 = .ok (.aload_n 0, 1) := by decide +kernel
theorem dX3_orderMany_25 : decode cX3_orderMany 25 = .ok (.getfield 55, 3) := by decide +kernel
theorem dX3_orderMany_28 : decode cX3_orderMany 28 = .ok (.iload_n 2, 1) := by decide +kernel
theorem dX3_orderMany_29 : decode cX3_orderMany 29 = .ok (.iconst 1, 1) := by decide +kernel
theorem dX3_orderMany_30 : decode cX3_orderMany 30 = .ok (.iadd, 1) := by decide +kernel
theorem dX3_orderMany_31 : decode cX3_orderMany 31 = .ok (.imul, 1) := by decide +kernel
theorem dX3_orderMany_32 : decode cX3_orderMany 32 = .ok (.if_icmp .ge 28, 3) := by decide +kernel
theorem dX3_orderMany_35 : decode cX3_orderMany 35 = .ok (.iload_n 3, 1) := by decide +kernel
theorem dX3_orderMany_36 : decode cX3_orderMany 36 = .ok (.aload_n 0, 1) := by decide +kernel
theorem dX3_orderMany_37 : decode cX3_orderMany 37 = .ok (.getfield 26, 3) := by decide +kernel
theorem dX3_orderMany_40 : decode cX3_orderMany 40 = .ok (.iload 4, 2) := by decide +kernel
theorem dX3_orderMany_42 : decode cX3_orderMany 42 = .ok (.iaload, 1) := by decide +kernel
theorem dX3_orderMany_43 : decode cX3_orderMany 43 = .ok (.iconst (-1), 1) := by decide +kernel
theorem dX3_orderMany_44 : decode cX3_orderMany 44 = .ok (.if_icmp .ne 7, 3) := by decide +kernel
theorem dX3_orderMany_47 : decode cX3_orderMany 47 = .ok (.iconst 1, 1) := by decide +kernel
theorem dX3_orderMany_48 : decode cX3_orderMany 48 = .ok (.goto 4, 3) := by decide +kernel
theorem dX3_orderMany_51 : decode cX3_orderMany 51 = .ok (.iconst 0, 1) := by decide +kernel
theorem dX3_orderMany_52 : decode cX3_orderMany 52 = .ok (.iadd, 1) := by decide +kernel
theorem dX3_orderMany_53 : decode cX3_orderMany 53 = .ok (.istore_n 3, 1) := by decide +kernel
theorem dX3_orderMany_54 : decode cX3_orderMany 54 = .ok (.iinc 4 1, 3) := by decide +kernel
theorem dX3_orderMany_57 : decode cX3_orderMany 57 = .ok (.goto (-35), 3) := by decide +kernel
theorem dX3_orderMany_60 : decode cX3_orderMany 60 = .ok (.iload_n 1, 1) := by decide +kernel
theorem dX3_orderMany_61 : decode cX3_orderMany 61 = .ok (.iload_n 3, 1) := by decide +kernel
theorem dX3_orderMany_62 : decode cX3_orderMany 62 = .ok (.invokestatic 80, 3) := by decide +kernel
theorem dX3_orderMany_65 : decode cX3_orderMany 65 = .ok (.imul, 1) := by decide +kernel
theorem dX3_orderMany_66 : decode cX3_orderMany 66 = .ok (.istore_n 1, 1) := by decide +kernel
theorem dX3_orderMany_67 : decode cX3_orderMany 67 = .ok (.iinc 2 1, 3) := by decide +kernel
theorem dX3_orderMany_70 : decode cX3_orderMany 70 = .ok (.goto (-66), 3) := by decide +kernel
theorem dX3_orderMany_73 : decode cX3_orderMany 73 = .ok (.iload_n 1, 1) := by decide +kernel
theorem dX3_orderMany_74 : decode cX3_orderMany 74 = .ok (.ireturn, 1) := by decide +kernel
set_option maxRecDepth 20000 in
theorem ggX3_orders_X3_orderMany : GoodIn wsX3_orders wsX3_orderMany := goodIn_r _ [6, 7, 8, 9, 10, 11, 5, 12, 13, 14, 15, 16, 17, 18, 19, 20, 21, 22, 23, 24, 25, 26, 27, 28, 29] (by decide +kernel) (by decide +kernel)
set_option maxRecDepth 20000 in
theorem gX3_orders_X3_orderMany : GoodIn wsX3_orders (wsV RX3 123 RX3 yX3_orderMany wsX3_orderMany) := goodIn_app (goodIn_of _ (by decide +kernel)) ggX3_orders_X3_orderMany
theorem dX3_orders_0 : decode cX3_orders 0 = .ok (.aload_n 0, 1) := by decide +kernel
theorem dX3_orders_1 : decode cX3_orders 1 = .ok (.iconst 0, 1) := by decide +kernel
theorem dX3_orders_2 : decode cX3_orders 2 = .ok (.putfield 51, 3) := by decide +kernel
theorem dX3_orders_5 : decode cX3_orders 5 = .ok (.aload_n 0, 1) := by decide +kernel
theorem dX3_orders_6 : decode cX3_orders 6 = .ok (.invokevirtual 123, 3) := by decide +kernel
theorem dX3_orders_9 : decode cX3_orders 9 = .ok (.ireturn, 1) := by decide +kernel
theorem dX3_lowestLeft_0 : decode cX3_lowestLeft 0 = .ok (.aload_n 0, 1) := by decide +kernel
theorem dX3_lowestLeft_1 : decode cX3_lowestLeft 1 = .ok (.getfield 55, 3) := by decide +kernel
theorem dX3_lowestLeft_4 : decode cX3_lowestLeft 4 = .ok (.istore_n 2, 1) := by decide +kernel
theorem dX3_lowestLeft_5 : decode cX3_lowestLeft 5 = .ok (.iconst 0, 1) := by decide +kernel
theorem dX3_lowestLeft_6 : decode cX3_lowestLeft 6 = .ok (.istore_n 3, 1) := by decide +kernel
theorem dX3_lowestLeft_7 : decode cX3_lowestLeft 7 = .ok (.iload_n 3, 1) := by decide +kernel
theorem dX3_lowestLeft_8 : decode cX3_lowestLeft 8 = .ok (.aload_n 0, 1) := by decide +kernel
theorem dX3_lowestLeft_9 : decode cX3_lowestLeft 9 = .ok (.getfield 84, 3) := by decide +kernel
theorem dX3_lowestLeft_12 : decode cX3_lowestLeft 12 = .ok (.if_icmp .ge 44, 3) := by decide +kernel
theorem dX3_lowestLeft_15 : decode cX3_lowestLeft 15 = .ok (.aload_n 0, 1) := by decide +kernel
theorem dX3_lowestLeft_16 : decode cX3_lowestLeft 16 = .ok (.getfield 29, 3) := by decide +kernel
theorem dX3_lowestLeft_19 : decode cX3_lowestLeft 19 = .ok (.bipush 9, 2) := by decide +kernel
theorem dX3_lowestLeft_21 : decode cX3_lowestLeft 21 = .ok (.iload_n 3, 1) := by decide +kernel
theorem dX3_lowestLeft_22 : decode cX3_lowestLeft 22 = .ok (.imul, 1) := by decide +kernel
theorem dX3_lowestLeft_23 : decode cX3_lowestLeft 23 = .ok (.iload_n 1, 1) := by decide +kernel
theorem dX3_lowestLeft_24 : decode cX3_lowestLeft 24 = .ok (.iadd, 1) := by decide +kernel
theorem dX3_lowestLeft_25 : decode cX3_lowestLeft 25 = .ok (.iaload, 1) := by decide +kernel
theorem dX3_lowestLeft_26 : decode cX3_lowestLeft 26 = .ok (.istore 4, 2) := by decide +kernel
theorem dX3_lowestLeft_28 : decode cX3_lowestLeft 28 = .ok (.aload_n 0, 1) := by decide +kernel
theorem dX3_lowestLeft_29 : decode cX3_lowestLeft 29 = .ok (.getfield 38, 3) := by decide +kernel
theorem dX3_lowestLeft_32 : decode cX3_lowestLeft 32 = .ok (.iload_n 3, 1) := by decide +kernel
theorem dX3_lowestLeft_33 : decode cX3_lowestLeft 33 = .ok (.baload, 1) := by decide +kernel
theorem dX3_lowestLeft_34 : decode cX3_lowestLeft 34 = .ok (.ifCond .eq 14, 3) := by decide +kernel
theorem dX3_lowestLeft_37 : decode cX3_lowestLeft 37 = .ok (.iload 4, 2) := by decide +kernel
theorem dX3_lowestLeft_39 : decode cX3_lowestLeft 39 = .ok (.iload_n 2, 1) := by decide +kernel
theorem dX3_lowestLeft_40 : decode cX3_lowestLeft 40 = .ok (.if_icmp .ge 8, 3) := by decide +kernel
theorem dX3_lowestLeft_43 : decode cX3_lowestLeft 43 = .ok (.iload 4, 2) := by decide +kernel
theorem dX3_lowestLeft_45 : decode cX3_lowestLeft 45 = .ok (.goto 4, 3) := by decide +kernel
theorem dX3_lowestLeft_48 : decode cX3_lowestLeft 48 = .ok (.iload_n 2, 1) := by decide +kernel
theorem dX3_lowestLeft_49 : decode cX3_lowestLeft 49 = .ok (.istore_n 2, 1) := by decide +kernel
theorem dX3_lowestLeft_50 : decode cX3_lowestLeft 50 = .ok (.iinc 3 1, 3) := by decide +kernel
theorem dX3_lowestLeft_53 : decode cX3_lowestLeft 53 = .ok (.goto (-46), 3) := by decide +kernel
theorem dX3_lowestLeft_56 : decode cX3_lowestLeft 56 = .ok (.iload_n 2, 1) := by decide +kernel
theorem dX3_lowestLeft_57 : decode cX3_lowestLeft 57 = .ok (.ireturn, 1) := by decide +kernel
set_option maxRecDepth 20000 in
theorem ggX3_follow_X3_factorial : GoodIn wsX3_follow wsX3_factorial := goodIn_r _ [13] (by decide +kernel) (by decide +kernel)
set_option maxRecDepth 20000 in
theorem gX3_follow_X3_factorial : GoodIn wsX3_follow (va_wsS RX3 80 yX3_factorial wsX3_factorial) := goodIn_app (goodIn_of _ (by decide +kernel)) ggX3_follow_X3_factorial
set_option maxRecDepth 20000 in
theorem ggX3_follow_X3_layOrder : GoodIn wsX3_follow wsX3_layOrder := goodIn_r _ [17, 18, 8, 23, 24, 25, 26, 27, 28, 29, 30, 31, 32, 33, 34, 35, 36, 37, 38, 39] (by decide +kernel) (by decide +kernel)
set_option maxRecDepth 20000 in
theorem gX3_follow_X3_layOrder : GoodIn wsX3_follow (wsV RX3 87 RX3 yX3_layOrder wsX3_layOrder) := goodIn_app (goodIn_of _ (by decide +kernel)) ggX3_follow_X3_layOrder
set_option maxRecDepth 20000 in
theorem ggX3_follow_X3_lowestLeft : GoodIn wsX3_follow wsX3_lowestLeft := goodIn_r _ [22, 4, 1, 9, 2, 23, 24, 25, 26, 27, 28, 29, 30, 31, 32, 33, 34, 35, 36, 37, 38, 39] (by decide +kernel) (by decide +kernel)
set_option maxRecDepth 20000 in
theorem gX3_follow_X3_lowestLeft : GoodIn wsX3_follow (wsV RX3 126 RX3 yX3_lowestLeft wsX3_lowestLeft) := goodIn_app (goodIn_of _ (by decide +kernel)) ggX3_follow_X3_lowestLeft
theorem dX3_follow_0 : decode cX3_follow 0 = .ok (.iload_n 1, 1) := by decide +kernel
theorem dX3_follow_1 : decode cX3_follow 1 = .ok (.istore_n 2, 1) := by decide +kernel
theorem dX3_follow_2 : decode cX3_follow 2 = .ok (.iconst 0, 1) := by decide +kernel
theorem dX3_follow_3 : decode cX3_follow 3 = .ok (.istore_n 3, 1) := by decide +kernel
theorem dX3_follow_4 : decode cX3_follow 4 = .ok (.iload_n 3, 1) := by decide +kernel
theorem dX3_follow_5 : decode cX3_follow 5 = .ok (.aload_n 0, 1) := by decide +kernel
theorem dX3_follow_6 : decode cX3_follow 6 = .ok (.getfield 84, 3) := by decide +kernel
theorem dX3_follow_9 : decode cX3_follow 9 = .ok (.if_icmp .ge 16, 3) := by decide +kernel
theorem dX3_follow_12 : decode cX3_follow 12 = .ok (.aload_n 0, 1) := by decide +kernel
theorem dX3_follow_13 : decode cX3_follow 13 = .ok (.getfield 38, 3) := by decide +kernel
theorem dX3_follow_16 : decode cX3_follow 16 = .ok (.iload_n 3, 1) := by decide +kernel
theorem dX3_follow_17 : decode cX3_follow 17 = .ok (.iconst 1, 1) := by decide +kernel
theorem dX3_follow_18 : decode cX3_follow 18 = .ok (.bastore, 1) := by decide +kernel
theorem dX3_follow_19 : decode cX3_follow 19 = .ok (.iinc 3 1, 3) := by decide +kernel
theorem dX3_follow_22 : decode cX3_follow 22 = .ok (.goto (-18), 3) := by decide +kernel
theorem dX3_follow_25 : decode cX3_follow 25 = .ok (.iconst 0, 1) := by decide +kernel
theorem dX3_follow_26 : decode cX3_follow 26 = .ok (.istore_n 3, 1) := by decide +kernel
theorem dX3_follow_27 : decode cX3_follow 27 = .ok (.iload_n 3, 1) := by decide +kernel
theorem dX3_follow_28 : decode cX3_follow 28 = .ok (.aload_n 0, 1) := by decide +kernel
theorem dX3_follow_29 : decode cX3_follow 29 = .ok (.getfield 58, 3) := by decide +kernel
theorem dX3_follow_32 : decode cX3_follow 32 = .ok (.if_icmp .ge 204, 3) := by decide +kernel
theorem dX3_follow_35 : decode cX3_follow 35 = .ok (.iconst 0, 1) := by decide +kernel
theorem dX3_follow_36 : decode cX3_follow 36 = .ok (.istore 4, 2) := by decide +kernel
theorem dX3_follow_38 : decode cX3_follow 38 = .ok (.aload_n 0, 1) := by decide +kernel
theorem dX3_follow_39 : decode cX3_follow 39 = .ok (.getfield 55, 3) := by decide +kernel
theorem dX3_follow_42 : decode cX3_follow 42 = .ok (.iload_n 3, 1) := by decide +kernel
theorem dX3_follow_43 : decode cX3_follow 43 = .ok (.imul, 1) := by decide +kernel
theorem dX3_follow_44 : decode cX3_follow 44 = .ok (.istore 5, 2) := by decide +kernel
theorem dX3_follow_46 : decode cX3_follow 46 = .ok (.iload 5, 2) := by decide +kernel
theorem dX3_follow_48 : decode cX3_follow 48 = .ok (.aload_n 0, 1) := by decide +kernel
theorem dX3_follow_49 : decode cX3_follow 49 = .ok (.getfield 55, 3) := by decide +kernel
theorem dX3_follow_52 : decode cX3_follow 52 = .ok (.iload_n 3, 1) := by decide +kernel
theorem dX3_follow_53 : decode cX3_follow 53 = .ok (.iconst 1, 1) := by decide +kernel
theorem dX3_follow_54 : decode cX3_follow 54 = .ok (.iadd, 1) := by decide +kernel
theorem dX3_follow_55 : decode cX3_follow 55 = .ok (.imul, 1) := by decide +kernel
theorem dX3_follow_56 : decode cX3_follow 56 = .ok (.if_icmp .ge 46, 3) := by decide +kernel
theorem dX3_follow_59 : decode cX3_follow 59 = .ok (.aload_n 0, 1) := by decide +kernel
theorem dX3_follow_60 : decode cX3_follow 60 = .ok (.getfield 41, 3) := by decide +kernel
theorem dX3_follow_63 : decode cX3_follow 63 = .ok (.iload 5, 2) := by decide +kernel
theorem dX3_follow_65 : decode cX3_follow 65 = .ok (.aload_n 0, 1) := by decide +kernel
theorem dX3_follow_66 : decode cX3_follow 66 = .ok (.getfield 26, 3) := by decide +kernel
theorem dX3_follow_69 : decode cX3_follow 69 = .ok (.iload 5, 2) := by decide +kernel
theorem dX3_follow_71 : decode cX3_follow 71 = .ok (.iaload, 1) := by decide +kernel
theorem dX3_follow_72 : decode cX3_follow 72 = .ok (.iastore, 1) := by decide +kernel
theorem dX3_follow_73 : decode cX3_follow 73 = .ok (.aload_n 0, 1) := by decide +kernel
theorem dX3_follow_74 : decode cX3_follow 74 = .ok (.getfield 26, 3) := by decide +kernel
theorem dX3_follow_77 : decode cX3_follow 77 = .ok (.iload 5, 2) := by decide +kernel
theorem dX3_follow_79 : decode cX3_follow 79 = .ok (.iaload, 1) := by decide +kernel
theorem dX3_follow_80 : decode cX3_follow 80 = .ok (.iconst (-1), 1) := by decide +kernel
theorem dX3_follow_81 : decode cX3_follow 81 = .ok (.if_icmp .ne 15, 3) := by decide +kernel
theorem dX3_follow_84 : decode cX3_follow 84 = .ok (.aload_n 0, 1) := by decide +kernel
theorem dX3_follow_85 : decode cX3_follow 85 = .ok (.getfield 44, 3) := by decide +kernel
theorem dX3_follow_88 : decode cX3_follow 88 = .ok (.iload 4, 2) := by decide +kernel
theorem dX3_follow_90 : decode cX3_follow 90 = .ok (.iload 5, 2) := by decide +kernel
theorem dX3_follow_92 : decode cX3_follow 92 = .ok (.iastore, 1) := by decide +kernel
theorem dX3_follow_93 : decode cX3_follow 93 = .ok (.iinc 4 1, 3) := by decide +kernel
theorem dX3_follow_96 : decode cX3_follow 96 = .ok (.iinc 5 1, 3) := by decide +kernel
theorem dX3_follow_99 : decode cX3_follow 99 = .ok (.goto (-53), 3) := by decide +kernel
theorem dX3_follow_102 : decode cX3_follow 102 = .ok (.aload_n 0, 1) := by decide +kernel
theorem dX3_follow_103 : decode cX3_follow 103 = .ok (.iload_n 2, 1) := by decide +kernel
theorem dX3_follow_104 : decode cX3_follow 104 = .ok (.iload 4, 2) := by decide +kernel
theorem dX3_follow_106 : decode cX3_follow 106 = .ok (.invokestatic 80, 3) := by decide +kernel
theorem dX3_follow_109 : decode cX3_follow 109 = .ok (.irem, 1) := by decide +kernel
theorem dX3_follow_110 : decode cX3_follow 110 = .ok (.iload 4, 2) := by decide +kernel
theorem dX3_follow_112 : decode cX3_follow 112 = .ok (.iconst 0, 1) := by decide +kernel
theorem dX3_follow_113 : decode cX3_follow 113 = .ok (.invokevirtual 87, 3) := by decide +kernel
theorem dX3_follow_116 : decode cX3_follow 116 = .ok (.iload_n 2, 1) := by decide +kernel
theorem dX3_follow_117 : decode cX3_follow 117 = .ok (.iload 4, 2) := by decide +kernel
theorem dX3_follow_119 : decode cX3_follow 119 = .ok (.invokestatic 80, 3) := by decide +kernel
theorem dX3_follow_122 : decode cX3_follow 122 = .ok (.idiv, 1) := by decide +kernel
theorem dX3_follow_123 : decode cX3_follow 123 = .ok (.istore_n 2, 1) := by decide +kernel
theorem dX3_follow_124 : decode cX3_follow 124 = .ok (.iconst 0, 1) := by decide +kernel
theorem dX3_follow_125 : decode cX3_follow 125 = .ok (.istore 5, 2) := by decide +kernel
theorem dX3_follow_127 : decode cX3_follow 127 = .ok (.iload 5, 2) := by decide +kernel
theorem dX3_follow_129 : decode cX3_follow 129 = .ok (.iload 4, 2) := by decide +kernel
theorem dX3_follow_131 : decode cX3_follow 131 = .ok (.if_icmp .ge 99, 3) := by decide +kernel
theorem dX3_follow_134 : decode cX3_follow 134 = .ok (.aload_n 0, 1) := by decide +kernel
theorem dX3_follow_135 : decode cX3_follow 135 = .ok (.getfield 44, 3) := by decide +kernel
theorem dX3_follow_138 : decode cX3_follow 138 = .ok (.aload_n 0, 1) := by decide +kernel
theorem dX3_follow_139 : decode cX3_follow 139 = .ok (.getfield 32, 3) := by decide +kernel
theorem dX3_follow_142 : decode cX3_follow 142 = .ok (.iload 5, 2) := by decide +kernel
theorem dX3_follow_144 : decode cX3_follow 144 = .ok (.iaload, 1) := by decide +kernel
theorem dX3_follow_145 : decode cX3_follow 145 = .ok (.iaload, 1) := by decide +kernel
theorem dX3_follow_146 : decode cX3_follow 146 = .ok (.istore 6, 2) := by decide +kernel
theorem dX3_follow_148 : decode cX3_follow 148 = .ok (.aload_n 0, 1) := by decide +kernel
theorem dX3_follow_149 : decode cX3_follow 149 = .ok (.getfield 41, 3) := by decide +kernel
theorem dX3_follow_152 : decode cX3_follow 152 = .ok (.iload 6, 2) := by decide +kernel
theorem dX3_follow_154 : decode cX3_follow 154 = .ok (.aload_n 0, 1) := by decide +kernel
theorem dX3_follow_155 : decode cX3_follow 155 = .ok (.iload 6, 2) := by decide +kernel
theorem dX3_follow_157 : decode cX3_follow 157 = .ok (.invokevirtual 126, 3) := by decide +kernel
theorem dX3_follow_160 : decode cX3_follow 160 = .ok (.iastore, 1) := by decide +kernel
theorem dX3_follow_161 : decode cX3_follow 161 = .ok (.iconst 0, 1) := by decide +kernel
theorem dX3_follow_162 : decode cX3_follow 162 = .ok (.istore 7, 2) := by decide +kernel
theorem dX3_follow_164 : decode cX3_follow 164 = .ok (.iload 7, 2) := by decide +kernel
theorem dX3_follow_166 : decode cX3_follow 166 = .ok (.aload_n 0, 1) := by decide +kernel
theorem dX3_follow_167 : decode cX3_follow 167 = .ok (.getfield 84, 3) := by decide +kernel
theorem dX3_follow_170 : decode cX3_follow 170 = .ok (.if_icmp .ge 54, 3) := by decide +kernel
theorem dX3_follow_173 : decode cX3_follow 173 = .ok (.aload_n 0, 1) := by decide +kernel
theorem dX3_follow_174 : decode cX3_follow 174 = .ok (.getfield 38, 3) := by decide +kernel
theorem dX3_follow_177 : decode cX3_follow 177 = .ok (.iload 7, 2) := by decide +kernel
theorem dX3_follow_179 : decode cX3_follow 179 = .ok (.aload_n 0, 1) := by decide +kernel
theorem dX3_follow_180 : decode cX3_follow 180 = .ok (.getfield 38, 3) := by decide +kernel
theorem dX3_follow_183 : decode cX3_follow 183 = .ok (.iload 7, 2) := by decide +kernel
theorem dX3_follow_185 : decode cX3_follow 185 = .ok (.baload, 1) := by decide +kernel
theorem dX3_follow_186 : decode cX3_follow 186 = .ok (.ifCond .eq 30, 3) := by decide +kernel
theorem dX3_follow_189 : decode cX3_follow 189 = .ok (.aload_n 0, 1) := by decide +kernel
theorem dX3_follow_190 : decode cX3_follow 190 = .ok (.getfield 29, 3) := by decide +kernel
theorem dX3_follow_193 : decode cX3_follow 193 = .ok (.bipush 9, 2) := by decide +kernel
theorem dX3_follow_195 : decode cX3_follow 195 = .ok (.iload 7, 2) := by decide +kernel
theorem dX3_follow_197 : decode cX3_follow 197 = .ok (.imul, 1) := by decide +kernel
theorem dX3_follow_198 : decode cX3_follow 198 = .ok (.iload 6, 2) := by decide +kernel
theorem dX3_follow_200 : decode cX3_follow 200 = .ok (.iadd, 1) := by decide +kernel
theorem dX3_follow_201 : decode cX3_follow 201 = .ok (.iaload, 1) := by decide +kernel
theorem dX3_follow_202 : decode cX3_follow 202 = .ok (.aload_n 0, 1) := by decide +kernel
theorem dX3_follow_203 : decode cX3_follow 203 = .ok (.getfield 41, 3) := by decide +kernel
theorem dX3_follow_206 : decode cX3_follow 206 = .ok (.iload 6, 2) := by decide +kernel
theorem dX3_follow_208 : decode cX3_follow 208 = .ok (.iaload, 1) := by decide +kernel
theorem dX3_follow_209 : decode cX3_follow 209 = .ok (.if_icmp .ne 7, 3) := by decide +kernel
theorem dX3_follow_212 : decode cX3_follow 212 = .ok (.iconst 1, 1) := by decide +kernel
theorem dX3_follow_213 : decode cX3_follow 213 = .ok (.goto 4, 3) := by decide +kernel
theorem dX3_follow_216 : decode cX3_follow 216 = .ok (.iconst 0, 1) := by decide +kernel
theorem dX3_follow_217 : decode cX3_follow 217 = .ok (.bastore, 1) := by decide +kernel
theorem dX3_follow_218 : decode cX3_follow 218 = .ok (.iinc 7 1, 3) := by decide +kernel
theorem dX3_follow_221 : decode cX3_follow 221 = .ok (.goto (-57), 3) := by decide +kernel
theorem dX3_follow_224 : decode cX3_follow 224 = .ok (.iinc 5 1, 3) := by decide +kernel
theorem dX3_follow_227 : decode cX3_follow 227 = .ok (.goto (-100), 3) := by decide +kernel
theorem dX3_follow_230 : decode cX3_follow 230 = .ok (.iinc 3 1, 3) := by decide +kernel
theorem dX3_follow_233 : decode cX3_follow 233 = .ok (.goto (-206), 3) := by decide +kernel
theorem dX3_follow_236 : decode cX3_follow 236 = .ok (.return_, 1) := by decide +kernel
set_option maxRecDepth 20000 in
theorem ggX3_chances_X3_isPlace : GoodIn wsX3_chances wsX3_isPlace := goodIn_r _ [7, 8, 9, 10, 11, 6, 12, 13, 14, 15, 16, 17, 18, 19, 20, 21, 22, 23, 24, 25, 63, 64, 65, 66, 67, 68, 69, 70, 71, 72, 73, 74, 75, 76, 77, 78, 79] (by decide +kernel) (by decide +kernel)
set_option maxRecDepth 20000 in
theorem gX3_chances_X3_isPlace : GoodIn wsX3_chances (wsV RX3 120 RX3 yX3_isPlace wsX3_isPlace) := goodIn_app (goodIn_of _ (by decide +kernel)) ggX3_chances_X3_isPlace
set_option maxRecDepth 20000 in
theorem ggX3_chances_X3_layResults : GoodIn wsX3_chances wsX3_layResults := goodIn_r _ [29, 17, 18, 1, 30, 31, 32, 33, 6, 34, 35, 36, 37, 38, 39, 40, 41, 42, 43, 44, 45, 46, 47, 48, 13, 14, 15, 16, 63, 64, 65, 66, 67, 68, 69, 70, 71, 72, 73, 74, 75, 76, 77, 78, 79] (by decide +kernel) (by decide +kernel)
set_option maxRecDepth 20000 in
theorem gX3_chances_X3_layResults : GoodIn wsX3_chances (wsV RX3 99 RX3 yX3_layResults wsX3_layResults) := goodIn_app (goodIn_of _ (by decide +kernel)) ggX3_chances_X3_layResults
set_option maxRecDepth 20000 in
theorem ggX3_chances_X3_orderMany : GoodIn wsX3_chances wsX3_orderMany := goodIn_r _ [52, 18, 17, 48, 32, 33, 6, 34, 63, 64, 65, 66, 67, 68, 69, 70, 71, 72, 73, 74, 75, 76, 77, 78, 79] (by decide +kernel) (by decide +kernel)
set_option maxRecDepth 20000 in
theorem gX3_chances_X3_orderMany : GoodIn wsX3_chances (wsV RX3 123 RX3 yX3_orderMany wsX3_orderMany) := goodIn_app (goodIn_of _ (by decide +kernel)) ggX3_chances_X3_orderMany
set_option maxRecDepth 20000 in
theorem ggX3_chances_X3_follow : GoodIn wsX3_chances wsX3_follow := goodIn_r _ [56, 1, 57, 18, 17, 2, 48, 58, 31, 30, 32, 33, 6, 34, 35, 36, 37, 38, 39, 59, 60, 61, 62, 63, 64, 65, 66, 67, 68, 69, 70, 71, 72, 73, 74, 75, 76, 77, 78, 79] (by decide +kernel) (by decide +kernel)
set_option maxRecDepth 20000 in
theorem gX3_chances_X3_follow : GoodIn wsX3_chances (wsV RX3 129 RX3 yX3_follow wsX3_follow) := goodIn_app (goodIn_of _ (by decide +kernel)) ggX3_chances_X3_follow
theorem dX3_chances_0 : decode cX3_chances 0 = .ok (.aload_n 0, 1) := by decide +kernel
theorem dX3_chances_1 : decode cX3_chances 1 = .ok (.iload_n 1, 1) := by decide +kernel
theorem dX3_chances_2 : decode cX3_chances 2 = .ok (.iload_n 2, 1) := by decide +kernel
theorem dX3_chances_3 : decode cX3_chances 3 = .ok (.invokevirtual 120, 3) := by decide +kernel
theorem dX3_chances_6 : decode cX3_chances 6 = .ok (.ifCond .ne 5, 3) := by decide +kernel
theorem dX3_chances_9 : decode cX3_chances 9 = .ok (.iconst 0, 1) := by decide +kernel
theorem dX3_chances_10 : decode cX3_chances 10 = .ok (.ireturn, 1) := by decide +kernel
theorem dX3_chances_11 : decode cX3_chances 11 = .ok (.aload_n 0, 1) := by decide +kernel
theorem dX3_chances_12 : decode cX3_chances 12 = .ok (.invokevirtual 99, 3) := by decide +kernel
theorem dX3_chances_15 : decode cX3_chances 15 = .ok (.aload_n 0, 1) := by decide +kernel
theorem dX3_chances_16 : decode cX3_chances 16 = .ok (.getfield 84, 3) := by decide +kernel
theorem dX3_chances_19 : decode cX3_chances 19 = .ok (.ifCond .ne 7, 3) := by decide +kernel
theorem dX3_chances_22 : decode cX3_chances 22 = .ok (.iconst 0, 1) := by decide +kernel
theorem dX3_chances_23 : decode cX3_chances 23 = .ok (.goto 7, 3) := by decide +kernel
theorem dX3_chances_26 : decode cX3_chances 26 = .ok (.aload_n 0, 1) := by decide +kernel
theorem dX3_chances_27 : decode cX3_chances 27 = .ok (.invokevirtual 123, 3) := by decide +kernel
theorem dX3_chances_30 : decode cX3_chances 30 = .ok (.istore_n 3, 1) := by decide +kernel
theorem dX3_chances_31 : decode cX3_chances 31 = .ok (.iconst 0, 1) := by decide +kernel
theorem dX3_chances_32 : decode cX3_chances 32 = .ok (.istore 4, 2) := by decide +kernel
theorem dX3_chances_34 : decode cX3_chances 34 = .ok (.iconst 0, 1) := by decide +kernel
theorem dX3_chances_35 : decode cX3_chances 35 = .ok (.istore 5, 2) := by decide +kernel
theorem dX3_chances_37 : decode cX3_chances 37 = .ok (.iload 5, 2) := by decide +kernel
theorem dX3_chances_39 : decode cX3_chances 39 = .ok (.iload_n 3, 1) := by decide +kernel
theorem dX3_chances_40 : decode cX3_chances 40 = .ok (.if_icmp .ge 35, 3) := by decide +kernel
theorem dX3_chances_43 : decode cX3_chances 43 = .ok (.aload_n 0, 1) := by decide +kernel
theorem dX3_chances_44 : decode cX3_chances 44 = .ok (.iload 5, 2) := by decide +kernel
theorem dX3_chances_46 : decode cX3_chances 46 = .ok (.invokevirtual 129, 3) := by decide +kernel
theorem dX3_chances_49 : decode cX3_chances 49 = .ok (.iload 4, 2) := by decide +kernel
theorem dX3_chances_51 : decode cX3_chances 51 = .ok (.aload_n 0, 1) := by decide +kernel
theorem dX3_chances_52 : decode cX3_chances 52 = .ok (.getfield 41, 3) := by decide +kernel
theorem dX3_chances_55 : decode cX3_chances 55 = .ok (.iload_n 1, 1) := by decide +kernel
theorem dX3_chances_56 : decode cX3_chances 56 = .ok (.iaload, 1) := by decide +kernel
theorem dX3_chances_57 : decode cX3_chances 57 = .ok (.iload_n 2, 1) := by decide +kernel
theorem dX3_chances_58 : decode cX3_chances 58 = .ok (.if_icmp .ne 7, 3) := by decide +kernel
theorem dX3_chances_61 : decode cX3_chances 61 = .ok (.iconst 1, 1) := by decide +kernel
theorem dX3_chances_62 : decode cX3_chances 62 = .ok (.goto 4, 3) := by decide +kernel
theorem dX3_chances_65 : decode cX3_chances 65 = .ok (.iconst 0, 1) := by decide +kernel
theorem dX3_chances_66 : decode cX3_chances 66 = .ok (.iadd, 1) := by decide +kernel
theorem dX3_chances_67 : decode cX3_chances 67 = .ok (.istore 4, 2) := by decide +kernel
theorem dX3_chances_69 : decode cX3_chances 69 = .ok (.iinc 5 1, 3) := by decide +kernel
theorem dX3_chances_72 : decode cX3_chances 72 = .ok (.goto (-35), 3) := by decide +kernel
theorem dX3_chances_75 : decode cX3_chances 75 = .ok (.iload 4, 2) := by decide +kernel
theorem dX3_chances_77 : decode cX3_chances 77 = .ok (.ireturn, 1) := by decide +kernel
set_option maxRecDepth 20000 in
theorem ggX3_pairings_X3_isTeam : GoodIn wsX3_pairings wsX3_isTeam := goodIn_r _ [8, 9, 10, 11, 7, 12, 13, 14, 15, 16, 17, 55, 56, 57, 58, 59, 60, 61, 62, 63, 64, 65, 66, 67, 68, 69, 70, 71] (by decide +kernel) (by decide +kernel)
set_option maxRecDepth 20000 in
theorem gX3_pairings_X3_isTeam : GoodIn wsX3_pairings (wsV RX3 72 RX3 yX3_isTeam wsX3_isTeam) := goodIn_app (goodIn_of _ (by decide +kernel)) ggX3_pairings_X3_isTeam
set_option maxRecDepth 20000 in
theorem ggX3_pairings_X3_layResults : GoodIn wsX3_pairings wsX3_layResults := goodIn_r _ [21, 13, 14, 2, 22, 23, 24, 25, 7, 26, 27, 28, 29, 30, 31, 32, 33, 34, 35, 36, 37, 38, 39, 40, 9, 10, 11, 12, 55, 56, 57, 58, 59, 60, 61, 62, 63, 64, 65, 66, 67, 68, 69, 70, 71] (by decide +kernel) (by decide +kernel)
set_option maxRecDepth 20000 in
theorem gX3_pairings_X3_layResults : GoodIn wsX3_pairings (wsV RX3 99 RX3 yX3_layResults wsX3_layResults) := goodIn_app (goodIn_of _ (by decide +kernel)) ggX3_pairings_X3_layResults
set_option maxRecDepth 20000 in
theorem ggX3_pairings_X3_orderMany : GoodIn wsX3_pairings wsX3_orderMany := goodIn_r _ [44, 14, 13, 40, 24, 25, 7, 26, 55, 56, 57, 58, 59, 60, 61, 62, 63, 64, 65, 66, 67, 68, 69, 70, 71] (by decide +kernel) (by decide +kernel)
set_option maxRecDepth 20000 in
theorem gX3_pairings_X3_orderMany : GoodIn wsX3_pairings (wsV RX3 123 RX3 yX3_orderMany wsX3_orderMany) := goodIn_app (goodIn_of _ (by decide +kernel)) ggX3_pairings_X3_orderMany
set_option maxRecDepth 20000 in
theorem ggX3_pairings_X3_follow : GoodIn wsX3_pairings wsX3_follow := goodIn_r _ [48, 2, 49, 14, 13, 3, 40, 50, 23, 22, 24, 25, 7, 26, 27, 28, 29, 30, 31, 51, 52, 53, 54, 55, 56, 57, 58, 59, 60, 61, 62, 63, 64, 65, 66, 67, 68, 69, 70, 71] (by decide +kernel) (by decide +kernel)
set_option maxRecDepth 20000 in
theorem gX3_pairings_X3_follow : GoodIn wsX3_pairings (wsV RX3 129 RX3 yX3_follow wsX3_follow) := goodIn_app (goodIn_of _ (by decide +kernel)) ggX3_pairings_X3_follow
theorem dX3_pairings_0 : decode cX3_pairings 0 = .ok (.aload_n 0, 1) := by decide +kernel
theorem dX3_pairings_1 : decode cX3_pairings 1 = .ok (.aload_n 0, 1) := by decide +kernel
theorem dX3_pairings_2 : decode cX3_pairings 2 = .ok (.iload_n 1, 1) := by decide +kernel
theorem dX3_pairings_3 : decode cX3_pairings 3 = .ok (.invokevirtual 72, 3) := by decide +kernel
theorem dX3_pairings_6 : decode cX3_pairings 6 = .ok (.ifCond .eq 15, 3) := by decide +kernel
theorem dX3_pairings_9 : decode cX3_pairings 9 = .ok (.aload_n 0, 1) := by decide +kernel
theorem dX3_pairings_10 : decode cX3_pairings 10 = .ok (.iload_n 2, 1) := by decide +kernel
theorem dX3_pairings_11 : decode cX3_pairings 11 = .ok (.invokevirtual 72, 3) := by decide +kernel
theorem dX3_pairings_14 : decode cX3_pairings 14 = .ok (.ifCond .eq 7, 3) := by decide +kernel
theorem dX3_pairings_17 : decode cX3_pairings 17 = .ok (.iconst 0, 1) := by decide +kernel
theorem dX3_pairings_18 : decode cX3_pairings 18 = .ok (.goto 4, 3) := by decide +kernel
theorem dX3_pairings_21 : decode cX3_pairings 21 = .ok (.iconst 1, 1) := by decide +kernel
theorem dX3_pairings_22 : decode cX3_pairings 22 = .ok (.putfield 51, 3) := by decide +kernel
theorem dX3_pairings_25 : decode cX3_pairings 25 = .ok (.aload_n 0, 1) := by decide +kernel
theorem dX3_pairings_26 : decode cX3_pairings 26 = .ok (.getfield 51, 3) := by decide +kernel
theorem dX3_pairings_29 : decode cX3_pairings 29 = .ok (.ifCond .le 5, 3) := by decide +kernel
theorem dX3_pairings_32 : decode cX3_pairings 32 = .ok (.iconst 0, 1) := by decide +kernel
theorem dX3_pairings_33 : decode cX3_pairings 33 = .ok (.ireturn, 1) := by decide +kernel
theorem dX3_pairings_34 : decode cX3_pairings 34 = .ok (.aload_n 0, 1) := by decide +kernel
theorem dX3_pairings_35 : decode cX3_pairings 35 = .ok (.invokevirtual 99, 3) := by decide +kernel
theorem dX3_pairings_38 : decode cX3_pairings 38 = .ok (.aload_n 0, 1) := by decide +kernel
theorem dX3_pairings_39 : decode cX3_pairings 39 = .ok (.getfield 84, 3) := by decide +kernel
theorem dX3_pairings_42 : decode cX3_pairings 42 = .ok (.ifCond .ne 7, 3) := by decide +kernel
theorem dX3_pairings_45 : decode cX3_pairings 45 = .ok (.iconst 0, 1) := by decide +kernel
theorem dX3_pairings_46 : decode cX3_pairings 46 = .ok (.goto 7, 3) := by decide +kernel
theorem dX3_pairings_49 : decode cX3_pairings 49 = .ok (.aload_n 0, 1) := by decide +kernel
theorem dX3_pairings_50 : decode cX3_pairings 50 = .ok (.invokevirtual 123, 3) := by decide +kernel
theorem dX3_pairings_53 : decode cX3_pairings 53 = .ok (.istore_n 3, 1) := by decide +kernel
theorem dX3_pairings_54 : decode cX3_pairings 54 = .ok (.iconst 0, 1) := by decide +kernel
theorem dX3_pairings_55 : decode cX3_pairings 55 = .ok (.istore 4, 2) := by decide +kernel
theorem dX3_pairings_57 : decode cX3_pairings 57 = .ok (.iconst 0, 1) := by decide +kernel
theorem dX3_pairings_58 : decode cX3_pairings 58 = .ok (.istore 5, 2) := by decide +kernel
theorem dX3_pairings_60 : decode cX3_pairings 60 = .ok (.iload 5, 2) := by decide +kernel
theorem dX3_pairings_62 : decode cX3_pairings 62 = .ok (.iload_n 3, 1) := by decide +kernel
theorem dX3_pairings_63 : decode cX3_pairings 63 = .ok (.if_icmp .ge 40, 3) := by decide +kernel
theorem dX3_pairings_66 : decode cX3_pairings 66 = .ok (.aload_n 0, 1) := by decide +kernel
theorem dX3_pairings_67 : decode cX3_pairings 67 = .ok (.iload 5, 2) := by decide +kernel
theorem dX3_pairings_69 : decode cX3_pairings 69 = .ok (.invokevirtual 129, 3) := by decide +kernel
theorem dX3_pairings_72 : decode cX3_pairings 72 = .ok (.iload 4, 2) := by decide +kernel
theorem dX3_pairings_74 : decode cX3_pairings 74 = .ok (.aload_n 0, 1) := by decide +kernel
theorem dX3_pairings_75 : decode cX3_pairings 75 = .ok (.getfield 41, 3) := by decide +kernel
theorem dX3_pairings_78 : decode cX3_pairings 78 = .ok (.iload_n 1, 1) := by decide +kernel
theorem dX3_pairings_79 : decode cX3_pairings 79 = .ok (.iaload, 1) := by decide +kernel
theorem dX3_pairings_80 : decode cX3_pairings 80 = .ok (.aload_n 0, 1) := by decide +kernel
theorem dX3_pairings_81 : decode cX3_pairings 81 = .ok (.getfield 41, 3) := by decide +kernel
theorem dX3_pairings_84 : decode cX3_pairings 84 = .ok (.iload_n 2, 1) := by decide +kernel
theorem dX3_pairings_85 : decode cX3_pairings 85 = .ok (.iaload, 1) := by decide +kernel
theorem dX3_pairings_86 : decode cX3_pairings 86 = .ok (.if_icmp .ne 7, 3) := by decide +kernel
theorem dX3_pairings_89 : decode cX3_pairings 89 = .ok (.iconst 1, 1) := by decide +kernel
theorem dX3_pairings_90 : decode cX3_pairings 90 = .ok (.goto 4, 3) := by decide +kernel
theorem dX3_pairings_93 : decode cX3_pairings 93 = .ok (.iconst 0, 1) := by decide +kernel
theorem dX3_pairings_94 : decode cX3_pairings 94 = .ok (.iadd, 1) := by decide +kernel
theorem dX3_pairings_95 : decode cX3_pairings 95 = .ok (.istore 4, 2) := by decide +kernel
theorem dX3_pairings_97 : decode cX3_pairings 97 = .ok (.iinc 5 1, 3) := by decide +kernel
theorem dX3_pairings_100 : decode cX3_pairings 100 = .ok (.goto (-40), 3) := by decide +kernel
theorem dX3_pairings_103 : decode cX3_pairings 103 = .ok (.iload 4, 2) := by decide +kernel
theorem dX3_pairings_105 : decode cX3_pairings 105 = .ok (.ireturn, 1) := by decide +kernel
set_option maxRecDepth 20000 in
theorem ggL_lay_X2_lay : GoodIn wsL_lay wsX2_lay := goodIn_ca (goodIn_r _ [6, 7, 8, 9, 10, 11, 12, 5, 13, 14, 15, 16, 17, 18, 19, 20, 21, 22, 23, 24, 25, 26, 27, 28, 29, 30, 31, 32, 33, 34, 35, 36, 37, 38, 39, 40, 41, 42, 43, 44, 45, 46, 47, 48, 49, 50, 51, 52, 53, 54, 55, 56] (by decide +kernel) (by decide +kernel)) (goodIn_sub (fun _ h => List.mem_cons_of_mem _ (List.mem_append_right _ h)) (by decide +kernel))
set_option maxRecDepth 20000 in
theorem gL_lay_X2_lay : GoodIn wsL_lay (wsV RL 7 RX2 yX2_lay wsX2_lay) := goodIn_app (goodIn_of _ (by decide +kernel)) ggL_lay_X2_lay
end
section
theorem dL_lay_0 : decode cL_lay 0 = .ok (.aload_n 3, 1) := by decide +kernel
theorem dL_lay_1 : decode cL_lay 1 = .ok (.iconst 0, 1) := by decide +kernel
theorem dL_lay_2 : decode cL_lay 2 = .ok (.aload_n 0, 1) := by decide +kernel
theorem dL_lay_3 : decode cL_lay 3 = .ok (.iload_n 1, 1) := by decide +kernel
theorem dL_lay_4 : decode cL_lay 4 = .ok (.iload_n 2, 1) := by decide +kernel
theorem dL_lay_5 : decode cL_lay 5 = .ok (.invokevirtual 7, 3) := by decide +kernel
theorem dL_lay_8 : decode cL_lay 8 = .ok (.i2l, 1) := by decide +kernel
theorem dL_lay_9 : decode cL_lay 9 = .ok (.lastore, 1) := by decide +kernel
theorem dL_lay_10 : decode cL_lay 10 = .ok (.goto 7, 3) := by decide +kernel
theorem dL_lay_13 : decode cL_lay 13 = .ok (.astore 4, 2) := by decide +kernel
theorem dL_lay_15 : decode cL_lay 15 = .ok (.iconst 1, 1) := by decide +kernel
theorem dL_lay_16 : decode cL_lay 16 = .ok (.ireturn, 1) := by decide +kernel
theorem dL_lay_17 : decode cL_lay 17 = .ok (.iconst 0, 1) := by decide +kernel
theorem dL_lay_18 : decode cL_lay 18 = .ok (.ireturn, 1) := by decide +kernel
set_option maxRecDepth 20000 in
theorem ggL_setRegion_X2_setRegion : GoodIn wsL_setRegion wsX2_setRegion := goodIn_ca (goodIn_ca (goodIn_r _ [7, 8, 9, 10, 11, 12, 13, 14, 15, 16, 17, 18, 19, 20, 21, 22, 23, 6, 24, 25, 26, 27, 28, 29, 30, 31, 32, 33, 34, 35, 36, 37, 38, 39, 40, 41, 42, 43, 44, 45, 46, 47, 48, 49, 50, 51] (by decide +kernel) (by decide +kernel)) (goodIn_sub (fun _ h => List.mem_cons_of_mem _ (List.mem_append_left _ (List.mem_append_right _ h))) (by decide +kernel))) (goodIn_sub (fun _ h => List.mem_cons_of_mem _ (List.mem_append_right _ h)) (by decide +kernel))
set_option maxRecDepth 20000 in
theorem gL_setRegion_X2_setRegion : GoodIn wsL_setRegion (wsV RL 15 RX2 yX2_setRegion wsX2_setRegion) := goodIn_app (goodIn_of _ (by decide +kernel)) ggL_setRegion_X2_setRegion
theorem dL_setRegion_0 : decode cL_setRegion 0 = .ok (.aload_n 3, 1) := by decide +kernel
theorem dL_setRegion_1 : decode cL_setRegion 1 = .ok (.iconst 0, 1) := by decide +kernel
theorem dL_setRegion_2 : decode cL_setRegion 2 = .ok (.aload_n 0, 1) := by decide +kernel
theorem dL_setRegion_3 : decode cL_setRegion 3 = .ok (.iload_n 1, 1) := by decide +kernel
theorem dL_setRegion_4 : decode cL_setRegion 4 = .ok (.iload_n 2, 1) := by decide +kernel
theorem dL_setRegion_5 : decode cL_setRegion 5 = .ok (.invokevirtual 15, 3) := by decide +kernel
theorem dL_setRegion_8 : decode cL_setRegion 8 = .ok (.i2l, 1) := by decide +kernel
theorem dL_setRegion_9 : decode cL_setRegion 9 = .ok (.lastore, 1) := by decide +kernel
theorem dL_setRegion_10 : decode cL_setRegion 10 = .ok (.goto 11, 3) := by decide +kernel
theorem dL_setRegion_13 : decode cL_setRegion 13 = .ok (.astore 4, 2) := by decide +kernel
theorem dL_setRegion_15 : decode cL_setRegion 15 = .ok (.iconst 1, 1) := by decide +kernel
theorem dL_setRegion_16 : decode cL_setRegion 16 = .ok (.ireturn, 1) := by decide +kernel
theorem dL_setRegion_17 : decode cL_setRegion 17 = .ok (.astore 4, 2) := by decide +kernel
theorem dL_setRegion_19 : decode cL_setRegion 19 = .ok (.iconst 2, 1) := by decide +kernel
theorem dL_setRegion_20 : decode cL_setRegion 20 = .ok (.ireturn, 1) := by decide +kernel
theorem dL_setRegion_21 : decode cL_setRegion 21 = .ok (.iconst 0, 1) := by decide +kernel
theorem dL_setRegion_22 : decode cL_setRegion 22 = .ok (.ireturn, 1) := by decide +kernel
set_option maxRecDepth 20000 in
theorem ggL_setBound_X2_setBound : GoodIn wsL_setBound wsX2_setBound := goodIn_ca (goodIn_ca (goodIn_ca (goodIn_r _ [8, 9, 10, 11, 12, 13, 14, 15, 16, 17, 18, 19, 20, 21, 7, 22, 23, 24, 25, 26, 27, 28, 29, 30, 31, 32, 33, 34, 35, 36, 37, 38, 39, 40, 41, 42, 43, 44, 45, 46, 47, 48, 49] (by decide +kernel) (by decide +kernel)) (goodIn_sub (fun _ h => List.mem_cons_of_mem _ (List.mem_append_left _ (List.mem_append_left _ (List.mem_append_right _ h)))) (by decide +kernel))) (goodIn_sub (fun _ h => List.mem_cons_of_mem _ (List.mem_append_left _ (List.mem_append_right _ h))) (by decide +kernel))) (goodIn_sub (fun _ h => List.mem_cons_of_mem _ (List.mem_append_right _ h)) (by decide +kernel))
set_option maxRecDepth 20000 in
theorem gL_setBound_X2_setBound : GoodIn wsL_setBound (wsV RL 22 RX2 yX2_setBound wsX2_setBound) := goodIn_app (goodIn_of _ (by decide +kernel)) ggL_setBound_X2_setBound
theorem dL_setBound_0 : decode cL_setBound 0 = .ok (.aload_n 3, 1) := by decide +kernel
theorem dL_setBound_1 : decode cL_setBound 1 = .ok (.iconst 0, 1) := by decide +kernel
theorem dL_setBound_2 : decode cL_setBound 2 = .ok (.aload_n 0, 1) := by decide +kernel
theorem dL_setBound_3 : decode cL_setBound 3 = .ok (.iload_n 1, 1) := by decide +kernel
theorem dL_setBound_4 : decode cL_setBound 4 = .ok (.iload_n 2, 1) := by decide +kernel
theorem dL_setBound_5 : decode cL_setBound 5 = .ok (.invokevirtual 22, 3) := by decide +kernel
theorem dL_setBound_8 : decode cL_setBound 8 = .ok (.i2l, 1) := by decide +kernel
theorem dL_setBound_9 : decode cL_setBound 9 = .ok (.lastore, 1) := by decide +kernel
theorem dL_setBound_10 : decode cL_setBound 10 = .ok (.goto 15, 3) := by decide +kernel
theorem dL_setBound_13 : decode cL_setBound 13 = .ok (.astore 4, 2) := by decide +kernel
theorem dL_setBound_15 : decode cL_setBound 15 = .ok (.iconst 1, 1) := by decide +kernel
theorem dL_setBound_16 : decode cL_setBound 16 = .ok (.ireturn, 1) := by decide +kernel
theorem dL_setBound_17 : decode cL_setBound 17 = .ok (.astore 4, 2) := by decide +kernel
theorem dL_setBound_19 : decode cL_setBound 19 = .ok (.iconst 2, 1) := by decide +kernel
theorem dL_setBound_20 : decode cL_setBound 20 = .ok (.ireturn, 1) := by decide +kernel
theorem dL_setBound_21 : decode cL_setBound 21 = .ok (.astore 4, 2) := by decide +kernel
theorem dL_setBound_23 : decode cL_setBound 23 = .ok (.iconst 3, 1) := by decide +kernel
theorem dL_setBound_24 : decode cL_setBound 24 = .ok (.ireturn, 1) := by decide +kernel
theorem dL_setBound_25 : decode cL_setBound 25 = .ok (.iconst 0, 1) := by decide +kernel
theorem dL_setBound_26 : decode cL_setBound 26 = .ok (.ireturn, 1) := by decide +kernel
set_option maxRecDepth 20000 in
theorem ggL_setApart_X2_setApart : GoodIn wsL_setApart wsX2_setApart := goodIn_ca (goodIn_ca (goodIn_ca (goodIn_r _ [8, 9, 10, 11, 12, 7, 13, 14, 15, 16, 17, 18, 19, 20, 21, 22, 23, 24, 25, 26, 27, 28, 29, 30, 31, 32, 33, 34, 35, 36, 37, 38, 39, 40, 41, 42, 43, 44, 45, 46, 47, 48, 49, 50, 51, 52, 53, 54, 55, 56, 57, 58, 59, 60, 61] (by decide +kernel) (by decide +kernel)) (goodIn_sub (fun _ h => List.mem_cons_of_mem _ (List.mem_append_left _ (List.mem_append_left _ (List.mem_append_right _ h)))) (by decide +kernel))) (goodIn_sub (fun _ h => List.mem_cons_of_mem _ (List.mem_append_left _ (List.mem_append_right _ h))) (by decide +kernel))) (goodIn_sub (fun _ h => List.mem_cons_of_mem _ (List.mem_append_right _ h)) (by decide +kernel))
set_option maxRecDepth 20000 in
theorem gL_setApart_X2_setApart : GoodIn wsL_setApart (wsV RL 25 RX2 yX2_setApart wsX2_setApart) := goodIn_app (goodIn_of _ (by decide +kernel)) ggL_setApart_X2_setApart
theorem dL_setApart_0 : decode cL_setApart 0 = .ok (.aload 4, 2) := by decide +kernel
theorem dL_setApart_2 : decode cL_setApart 2 = .ok (.iconst 0, 1) := by decide +kernel
theorem dL_setApart_3 : decode cL_setApart 3 = .ok (.aload_n 0, 1) := by decide +kernel
theorem dL_setApart_4 : decode cL_setApart 4 = .ok (.iload_n 1, 1) := by decide +kernel
theorem dL_setApart_5 : decode cL_setApart 5 = .ok (.iload_n 2, 1) := by decide +kernel
theorem dL_setApart_6 : decode cL_setApart 6 = .ok (.iload_n 3, 1) := by decide +kernel
theorem dL_setApart_7 : decode cL_setApart 7 = .ok (.invokevirtual 25, 3) := by decide +kernel
theorem dL_setApart_10 : decode cL_setApart 10 = .ok (.ifCond .eq 7, 3) := by decide +kernel
theorem dL_setApart_13 : decode cL_setApart 13 = .ok (.lconst 1, 1) := by decide +kernel
theorem dL_setApart_14 : decode cL_setApart 14 = .ok (.goto 4, 3) := by decide +kernel
theorem dL_setApart_17 : decode cL_setApart 17 = .ok (.lconst 0, 1) := by decide +kernel
theorem dL_setApart_18 : decode cL_setApart 18 = .ok (.lastore, 1) := by decide +kernel
theorem dL_setApart_19 : decode cL_setApart 19 = .ok (.goto 15, 3) := by decide +kernel
theorem dL_setApart_22 : decode cL_setApart 22 = .ok (.astore 5, 2) := by decide +kernel
theorem dL_setApart_24 : decode cL_setApart 24 = .ok (.iconst 1, 1) := by decide +kernel
theorem dL_setApart_25 : decode cL_setApart 25 = .ok (.ireturn, 1) := by decide +kernel
theorem dL_setApart_26 : decode cL_setApart 26 = .ok (.astore 5, 2) := by decide +kernel
theorem dL_setApart_28 : decode cL_setApart 28 = .ok (.iconst 2, 1) := by decide +kernel
theorem dL_setApart_29 : decode cL_setApart 29 = .ok (.ireturn, 1) := by decide +kernel
theorem dL_setApart_30 : decode cL_setApart 30 = .ok (.astore 5, 2) := by decide +kernel
theorem dL_setApart_32 : decode cL_setApart 32 = .ok (.iconst 3, 1) := by decide +kernel
theorem dL_setApart_33 : decode cL_setApart 33 = .ok (.ireturn, 1) := by decide +kernel
theorem dL_setApart_34 : decode cL_setApart 34 = .ok (.iconst 0, 1) := by decide +kernel
theorem dL_setApart_35 : decode cL_setApart 35 = .ok (.ireturn, 1) := by decide +kernel
set_option maxRecDepth 20000 in
theorem ggL_setOtherDays_X2_setOtherDays : GoodIn wsL_setOtherDays wsX2_setOtherDays := goodIn_ca (goodIn_ca (goodIn_ca (goodIn_r _ [8, 9, 10, 11, 12, 7, 13, 14, 15, 16, 17, 18, 19, 20, 21, 22, 23, 24, 25, 26, 27, 28, 29, 30, 31, 32, 33, 34, 35, 36, 37, 38, 39, 40, 41, 42, 43, 44, 45, 46, 47, 48, 49, 50, 51, 52, 53, 54, 55, 56, 57, 58, 59, 60, 61] (by decide +kernel) (by decide +kernel)) (goodIn_sub (fun _ h => List.mem_cons_of_mem _ (List.mem_append_left _ (List.mem_append_left _ (List.mem_append_right _ h)))) (by decide +kernel))) (goodIn_sub (fun _ h => List.mem_cons_of_mem _ (List.mem_append_left _ (List.mem_append_right _ h))) (by decide +kernel))) (goodIn_sub (fun _ h => List.mem_cons_of_mem _ (List.mem_append_right _ h)) (by decide +kernel))
set_option maxRecDepth 20000 in
theorem gL_setOtherDays_X2_setOtherDays : GoodIn wsL_setOtherDays (wsV RL 29 RX2 yX2_setOtherDays wsX2_setOtherDays) := goodIn_app (goodIn_of _ (by decide +kernel)) ggL_setOtherDays_X2_setOtherDays
theorem dL_setOtherDays_0 : decode cL_setOtherDays 0 = .ok (.aload 4, 2) := by decide +kernel
theorem dL_setOtherDays_2 : decode cL_setOtherDays 2 = .ok (.iconst 0, 1) := by decide +kernel
theorem dL_setOtherDays_3 : decode cL_setOtherDays 3 = .ok (.aload_n 0, 1) := by decide +kernel
theorem dL_setOtherDays_4 : decode cL_setOtherDays 4 = .ok (.iload_n 1, 1) := by decide +kernel
theorem dL_setOtherDays_5 : decode cL_setOtherDays 5 = .ok (.iload_n 2, 1) := by decide +kernel
theorem dL_setOtherDays_6 : decode cL_setOtherDays 6 = .ok (.iload_n 3, 1) := by decide +kernel
theorem dL_setOtherDays_7 : decode cL_setOtherDays 7 = .ok (.invokevirtual 29, 3) := by decide +kernel
theorem dL_setOtherDays_10 : decode cL_setOtherDays 10 = .ok (.ifCond .eq 7, 3) := by decide +kernel
theorem dL_setOtherDays_13 : decode cL_setOtherDays 13 = .ok (.lconst 1, 1) := by decide +kernel
theorem dL_setOtherDays_14 : decode cL_setOtherDays 14 = .ok (.goto 4, 3) := by decide +kernel
theorem dL_setOtherDays_17 : decode cL_setOtherDays 17 = .ok (.lconst 0, 1) := by decide +kernel
theorem dL_setOtherDays_18 : decode cL_setOtherDays 18 = .ok (.lastore, 1) := by decide +kernel
theorem dL_setOtherDays_19 : decode cL_setOtherDays 19 = .ok (.goto 15, 3) := by decide +kernel
theorem dL_setOtherDays_22 : decode cL_setOtherDays 22 = .ok (.astore 5, 2) := by decide +kernel
theorem dL_setOtherDays_24 : decode cL_setOtherDays 24 = .ok (.iconst 1, 1) := by decide +kernel
theorem dL_setOtherDays_25 : decode cL_setOtherDays 25 = .ok (.ireturn, 1) := by decide +kernel
theorem dL_setOtherDays_26 : decode cL_setOtherDays 26 = .ok (.astore 5, 2) := by decide +kernel
theorem dL_setOtherDays_28 : decode cL_setOtherDays 28 = .ok (.iconst 2, 1) := by decide +kernel
theorem dL_setOtherDays_29 : decode cL_setOtherDays 29 = .ok (.ireturn, 1) := by decide +kernel
theorem dL_setOtherDays_30 : decode cL_setOtherDays 30 = .ok (.astore 5, 2) := by decide +kernel
theorem dL_setOtherDays_32 : decode cL_setOtherDays 32 = .ok (.iconst 3, 1) := by decide +kernel
theorem dL_setOtherDays_33 : decode cL_setOtherDays 33 = .ok (.ireturn, 1) := by decide +kernel
theorem dL_setOtherDays_34 : decode cL_setOtherDays 34 = .ok (.iconst 0, 1) := by decide +kernel
theorem dL_setOtherDays_35 : decode cL_setOtherDays 35 = .ok (.ireturn, 1) := by decide +kernel
set_option maxRecDepth 20000 in
theorem ggL_draw_X2_draw : GoodIn wsL_draw wsX2_draw := goodIn_ca (goodIn_ca (goodIn_r _ [7, 8, 9, 10, 11, 12, 13, 14, 15, 16, 17, 18, 6, 19, 20, 21, 22, 23, 24, 25, 26, 27, 28, 29, 30, 31, 32, 33, 34, 35, 36, 37, 38, 39, 40, 41, 42, 43, 44, 45, 46, 47, 48, 49, 50, 51, 52, 53, 54, 55, 56, 57, 58, 59, 60, 61, 62, 63, 64, 65, 66, 67, 68, 69, 70, 71, 72, 73, 74, 75, 76, 77, 78, 79, 80, 81, 82, 83, 84, 85, 86, 87, 88, 89, 90, 91, 92, 93, 94, 95, 96, 97, 98, 99, 100, 101, 102, 103, 104, 105, 106, 107, 108, 109, 110, 111, 112, 113, 114, 115, 116, 117] (by decide +kernel) (by decide +kernel)) (goodIn_sub (fun _ h => List.mem_cons_of_mem _ (List.mem_append_left _ (List.mem_append_right _ h))) (by decide +kernel))) (goodIn_sub (fun _ h => List.mem_cons_of_mem _ (List.mem_append_right _ h)) (by decide +kernel))
set_option maxRecDepth 20000 in
theorem gL_draw_X2_draw : GoodIn wsL_draw (wsV RL 32 RX2 yX2_draw wsX2_draw) := goodIn_app (goodIn_of _ (by decide +kernel)) ggL_draw_X2_draw
theorem dL_draw_0 : decode cL_draw 0 = .ok (.aload_n 2, 1) := by decide +kernel
theorem dL_draw_1 : decode cL_draw 1 = .ok (.iconst 0, 1) := by decide +kernel
theorem dL_draw_2 : decode cL_draw 2 = .ok (.aload_n 0, 1) := by decide +kernel
theorem dL_draw_3 : decode cL_draw 3 = .ok (.iload_n 1, 1) := by decide +kernel
theorem dL_draw_4 : decode cL_draw 4 = .ok (.invokevirtual 32, 3) := by decide +kernel
theorem dL_draw_7 : decode cL_draw 7 = .ok (.i2l, 1) := by decide +kernel
theorem dL_draw_8 : decode cL_draw 8 = .ok (.lastore, 1) := by decide +kernel
theorem dL_draw_9 : decode cL_draw 9 = .ok (.goto 9, 3) := by decide +kernel
theorem dL_draw_12 : decode cL_draw 12 = .ok (.astore_n 3, 1) := by decide +kernel
theorem dL_draw_13 : decode cL_draw 13 = .ok (.iconst 1, 1) := by decide +kernel
theorem dL_draw_14 : decode cL_draw 14 = .ok (.ireturn, 1) := by decide +kernel
theorem dL_draw_15 : decode cL_draw 15 = .ok (.astore_n 3, 1) := by decide +kernel
theorem dL_draw_16 : decode cL_draw 16 = .ok (.iconst 2, 1) := by decide +kernel
theorem dL_draw_17 : decode cL_draw 17 = .ok (.ireturn, 1) := by decide +kernel
theorem dL_draw_18 : decode cL_draw 18 = .ok (.iconst 0, 1) := by decide +kernel
theorem dL_draw_19 : decode cL_draw 19 = .ok (.ireturn, 1) := by decide +kernel
set_option maxRecDepth 20000 in
theorem ggL_undo_X2_undo : GoodIn wsL_undo wsX2_undo := goodIn_ca (goodIn_r _ [6, 7, 8, 9, 10, 11, 12, 13, 5, 14, 15, 16, 17, 18, 19, 20, 21, 22, 23, 24, 25, 26, 27, 28, 29, 30, 31, 32, 33, 34, 35] (by decide +kernel) (by decide +kernel)) (goodIn_sub (fun _ h => List.mem_cons_of_mem _ (List.mem_append_right _ h)) (by decide +kernel))
set_option maxRecDepth 20000 in
theorem gL_undo_X2_undo : GoodIn wsL_undo (wsV RL 36 RX2 yX2_undo wsX2_undo) := goodIn_app (goodIn_of _ (by decide +kernel)) ggL_undo_X2_undo
theorem dL_undo_0 : decode cL_undo 0 = .ok (.aload_n 1, 1) := by decide +kernel
theorem dL_undo_1 : decode cL_undo 1 = .ok (.iconst 0, 1) := by decide +kernel
theorem dL_undo_2 : decode cL_undo 2 = .ok (.aload_n 0, 1) := by decide +kernel
theorem dL_undo_3 : decode cL_undo 3 = .ok (.invokevirtual 36, 3) := by decide +kernel
theorem dL_undo_6 : decode cL_undo 6 = .ok (.i2l, 1) := by decide +kernel
theorem dL_undo_7 : decode cL_undo 7 = .ok (.lastore, 1) := by decide +kernel
theorem dL_undo_8 : decode cL_undo 8 = .ok (.goto 6, 3) := by decide +kernel
theorem dL_undo_11 : decode cL_undo 11 = .ok (.astore_n 2, 1) := by decide +kernel
theorem dL_undo_12 : decode cL_undo 12 = .ok (.iconst 1, 1) := by decide +kernel
theorem dL_undo_13 : decode cL_undo 13 = .ok (.ireturn, 1) := by decide +kernel
theorem dL_undo_14 : decode cL_undo 14 = .ok (.iconst 0, 1) := by decide +kernel
theorem dL_undo_15 : decode cL_undo 15 = .ok (.ireturn, 1) := by decide +kernel
set_option maxRecDepth 20000 in
theorem ggL_ballAt_X2_ballAt : GoodIn wsL_ballAt wsX2_ballAt := goodIn_ca (goodIn_r _ [6, 7, 8, 9, 10, 11, 5, 12, 13, 14, 15, 16, 17, 18, 19, 20, 21, 22, 23, 24, 25, 26, 27, 28, 29, 30, 31, 32, 33, 34, 35, 36, 37, 38, 39, 40] (by decide +kernel) (by decide +kernel)) (goodIn_sub (fun _ h => List.mem_cons_of_mem _ (List.mem_append_right _ h)) (by decide +kernel))
set_option maxRecDepth 20000 in
theorem gL_ballAt_X2_ballAt : GoodIn wsL_ballAt (wsV RL 40 RX2 yX2_ballAt wsX2_ballAt) := goodIn_app (goodIn_of _ (by decide +kernel)) ggL_ballAt_X2_ballAt
theorem dL_ballAt_0 : decode cL_ballAt 0 = .ok (.aload_n 2, 1) := by decide +kernel
theorem dL_ballAt_1 : decode cL_ballAt 1 = .ok (.iconst 0, 1) := by decide +kernel
theorem dL_ballAt_2 : decode cL_ballAt 2 = .ok (.aload_n 0, 1) := by decide +kernel
theorem dL_ballAt_3 : decode cL_ballAt 3 = .ok (.iload_n 1, 1) := by decide +kernel
theorem dL_ballAt_4 : decode cL_ballAt 4 = .ok (.invokevirtual 40, 3) := by decide +kernel
theorem dL_ballAt_7 : decode cL_ballAt 7 = .ok (.i2l, 1) := by decide +kernel
theorem dL_ballAt_8 : decode cL_ballAt 8 = .ok (.lastore, 1) := by decide +kernel
theorem dL_ballAt_9 : decode cL_ballAt 9 = .ok (.goto 6, 3) := by decide +kernel
theorem dL_ballAt_12 : decode cL_ballAt 12 = .ok (.astore_n 3, 1) := by decide +kernel
theorem dL_ballAt_13 : decode cL_ballAt 13 = .ok (.iconst 1, 1) := by decide +kernel
theorem dL_ballAt_14 : decode cL_ballAt 14 = .ok (.ireturn, 1) := by decide +kernel
theorem dL_ballAt_15 : decode cL_ballAt 15 = .ok (.iconst 0, 1) := by decide +kernel
theorem dL_ballAt_16 : decode cL_ballAt 16 = .ok (.ireturn, 1) := by decide +kernel
set_option maxRecDepth 20000 in
theorem ggL_groupOf_X2_groupOf : GoodIn wsL_groupOf wsX2_groupOf := goodIn_ca (goodIn_r _ [6, 7, 8, 9, 10, 5, 11, 12, 13, 14, 15, 16, 17, 18, 19, 20, 21, 22, 23, 24, 25, 26, 27, 28, 29, 30, 31, 32, 33, 34, 35, 36, 37, 38] (by decide +kernel) (by decide +kernel)) (goodIn_sub (fun _ h => List.mem_cons_of_mem _ (List.mem_append_right _ h)) (by decide +kernel))
set_option maxRecDepth 20000 in
theorem gL_groupOf_X2_groupOf : GoodIn wsL_groupOf (wsV RL 43 RX2 yX2_groupOf wsX2_groupOf) := goodIn_app (goodIn_of _ (by decide +kernel)) ggL_groupOf_X2_groupOf
theorem dL_groupOf_0 : decode cL_groupOf 0 = .ok (.aload_n 2, 1) := by decide +kernel
theorem dL_groupOf_1 : decode cL_groupOf 1 = .ok (.iconst 0, 1) := by decide +kernel
theorem dL_groupOf_2 : decode cL_groupOf 2 = .ok (.aload_n 0, 1) := by decide +kernel
theorem dL_groupOf_3 : decode cL_groupOf 3 = .ok (.iload_n 1, 1) := by decide +kernel
theorem dL_groupOf_4 : decode cL_groupOf 4 = .ok (.invokevirtual 43, 3) := by decide +kernel
theorem dL_groupOf_7 : decode cL_groupOf 7 = .ok (.i2l, 1) := by decide +kernel
theorem dL_groupOf_8 : decode cL_groupOf 8 = .ok (.lastore, 1) := by decide +kernel
theorem dL_groupOf_9 : decode cL_groupOf 9 = .ok (.goto 6, 3) := by decide +kernel
theorem dL_groupOf_12 : decode cL_groupOf 12 = .ok (.astore_n 3, 1) := by decide +kernel
theorem dL_groupOf_13 : decode cL_groupOf 13 = .ok (.iconst 1, 1) := by decide +kernel
theorem dL_groupOf_14 : decode cL_groupOf 14 = .ok (.ireturn, 1) := by decide +kernel
theorem dL_groupOf_15 : decode cL_groupOf 15 = .ok (.iconst 0, 1) := by decide +kernel
theorem dL_groupOf_16 : decode cL_groupOf 16 = .ok (.ireturn, 1) := by decide +kernel
set_option maxRecDepth 20000 in
theorem ggL_teamAt_X2_teamAt : GoodIn wsL_teamAt wsX2_teamAt := goodIn_ca (goodIn_r _ [6, 7, 8, 9, 10, 11, 12, 13, 14, 15, 16, 17, 18, 19, 20, 21, 22, 23, 24, 25, 26, 27, 28, 29, 30, 31, 32, 33, 34, 35, 36, 37, 38, 39] (by decide +kernel) (by decide +kernel)) (goodIn_sub (fun _ h => List.mem_cons_of_mem _ (List.mem_append_right _ h)) (by decide +kernel))
set_option maxRecDepth 20000 in
theorem gL_teamAt_X2_teamAt : GoodIn wsL_teamAt (wsV RL 46 RX2 yX2_teamAt wsX2_teamAt) := goodIn_app (goodIn_of _ (by decide +kernel)) ggL_teamAt_X2_teamAt
theorem dL_teamAt_0 : decode cL_teamAt 0 = .ok (.aload_n 3, 1) := by decide +kernel
theorem dL_teamAt_1 : decode cL_teamAt 1 = .ok (.iconst 0, 1) := by decide +kernel
theorem dL_teamAt_2 : decode cL_teamAt 2 = .ok (.aload_n 0, 1) := by decide +kernel
theorem dL_teamAt_3 : decode cL_teamAt 3 = .ok (.iload_n 1, 1) := by decide +kernel
theorem dL_teamAt_4 : decode cL_teamAt 4 = .ok (.iload_n 2, 1) := by decide +kernel
theorem dL_teamAt_5 : decode cL_teamAt 5 = .ok (.invokevirtual 46, 3) := by decide +kernel
theorem dL_teamAt_8 : decode cL_teamAt 8 = .ok (.i2l, 1) := by decide +kernel
theorem dL_teamAt_9 : decode cL_teamAt 9 = .ok (.lastore, 1) := by decide +kernel
theorem dL_teamAt_10 : decode cL_teamAt 10 = .ok (.goto 7, 3) := by decide +kernel
theorem dL_teamAt_13 : decode cL_teamAt 13 = .ok (.astore 4, 2) := by decide +kernel
theorem dL_teamAt_15 : decode cL_teamAt 15 = .ok (.iconst 1, 1) := by decide +kernel
theorem dL_teamAt_16 : decode cL_teamAt 16 = .ok (.ireturn, 1) := by decide +kernel
theorem dL_teamAt_17 : decode cL_teamAt 17 = .ok (.iconst 0, 1) := by decide +kernel
theorem dL_teamAt_18 : decode cL_teamAt 18 = .ok (.ireturn, 1) := by decide +kernel
set_option maxRecDepth 20000 in
theorem ggL_fits_X2_fits : GoodIn wsL_fits wsX2_fits := goodIn_ca (goodIn_r _ [6, 7, 8, 9, 5, 10, 11, 12, 13, 14, 15, 16, 17, 18, 19, 20, 21, 22, 23, 24, 25, 26, 27, 28, 29, 30, 31, 32, 33, 34, 35, 36, 37, 38, 39, 40, 41, 42, 43, 44, 45, 46, 47, 48, 49, 50, 51, 52, 53, 54, 55, 56, 57, 58, 59, 60, 61, 62, 63, 64, 65, 66, 67, 68, 69, 70, 71, 72, 73, 74, 75, 76, 77, 78, 79, 80, 81, 82, 83, 84, 85, 86, 87, 88, 89, 90, 91, 92, 93, 94, 95, 96, 97, 98, 99, 100, 101] (by decide +kernel) (by decide +kernel)) (goodIn_sub (fun _ h => List.mem_cons_of_mem _ (List.mem_append_right _ h)) (by decide +kernel))
set_option maxRecDepth 20000 in
theorem gL_fits_X2_fits : GoodIn wsL_fits (wsV RL 49 RX2 yX2_fits wsX2_fits) := goodIn_app (goodIn_of _ (by decide +kernel)) ggL_fits_X2_fits
theorem dL_fits_0 : decode cL_fits 0 = .ok (.aload_n 3, 1) := by decide +kernel
theorem dL_fits_1 : decode cL_fits 1 = .ok (.iconst 0, 1) := by decide +kernel
theorem dL_fits_2 : decode cL_fits 2 = .ok (.aload_n 0, 1) := by decide +kernel
theorem dL_fits_3 : decode cL_fits 3 = .ok (.iload_n 1, 1) := by decide +kernel
theorem dL_fits_4 : decode cL_fits 4 = .ok (.iload_n 2, 1) := by decide +kernel
theorem dL_fits_5 : decode cL_fits 5 = .ok (.invokevirtual 49, 3) := by decide +kernel
theorem dL_fits_8 : decode cL_fits 8 = .ok (.ifCond .eq 7, 3) := by decide +kernel
theorem dL_fits_11 : decode cL_fits 11 = .ok (.lconst 1, 1) := by decide +kernel
theorem dL_fits_12 : decode cL_fits 12 = .ok (.goto 4, 3) := by decide +kernel
theorem dL_fits_15 : decode cL_fits 15 = .ok (.lconst 0, 1) := by decide +kernel
theorem dL_fits_16 : decode cL_fits 16 = .ok (.lastore, 1) := by decide +kernel
theorem dL_fits_17 : decode cL_fits 17 = .ok (.goto 7, 3) := by decide +kernel
theorem dL_fits_20 : decode cL_fits 20 = .ok (.astore 4, 2) := by decide +kernel
theorem dL_fits_22 : decode cL_fits 22 = .ok (.iconst 1, 1) := by decide +kernel
theorem dL_fits_23 : decode cL_fits 23 = .ok (.ireturn, 1) := by decide +kernel
theorem dL_fits_24 : decode cL_fits 24 = .ok (.iconst 0, 1) := by decide +kernel
theorem dL_fits_25 : decode cL_fits 25 = .ok (.ireturn, 1) := by decide +kernel
set_option maxRecDepth 20000 in
theorem ggL_forced_X2_forced : GoodIn wsL_forced wsX2_forced := goodIn_ca (goodIn_r _ [6, 7, 8, 9, 5, 10, 11, 12, 13, 14, 15, 16, 17, 18, 19, 20, 21, 22, 23, 24, 25, 26, 27, 28, 29, 30, 31, 32, 33, 34, 35, 36, 37, 38, 39, 40, 41, 42, 43, 44, 45, 46, 47, 48, 49, 50, 51, 52, 53, 54, 55, 56, 57, 58, 59, 60, 61, 62, 63, 64, 65, 66, 67, 68, 69, 70, 71, 72, 73, 74, 75, 76, 77, 78, 79, 80, 81, 82, 83, 84, 85, 86, 87, 88, 89, 90, 91, 92, 93, 94, 95, 96, 97, 98, 99, 100, 101] (by decide +kernel) (by decide +kernel)) (goodIn_sub (fun _ h => List.mem_cons_of_mem _ (List.mem_append_right _ h)) (by decide +kernel))
set_option maxRecDepth 20000 in
theorem gL_forced_X2_forced : GoodIn wsL_forced (wsV RL 53 RX2 yX2_forced wsX2_forced) := goodIn_app (goodIn_of _ (by decide +kernel)) ggL_forced_X2_forced
theorem dL_forced_0 : decode cL_forced 0 = .ok (.aload_n 2, 1) := by decide +kernel
theorem dL_forced_1 : decode cL_forced 1 = .ok (.iconst 0, 1) := by decide +kernel
theorem dL_forced_2 : decode cL_forced 2 = .ok (.aload_n 0, 1) := by decide +kernel
theorem dL_forced_3 : decode cL_forced 3 = .ok (.iload_n 1, 1) := by decide +kernel
theorem dL_forced_4 : decode cL_forced 4 = .ok (.invokevirtual 53, 3) := by decide +kernel
theorem dL_forced_7 : decode cL_forced 7 = .ok (.i2l, 1) := by decide +kernel
theorem dL_forced_8 : decode cL_forced 8 = .ok (.lastore, 1) := by decide +kernel
theorem dL_forced_9 : decode cL_forced 9 = .ok (.goto 6, 3) := by decide +kernel
theorem dL_forced_12 : decode cL_forced 12 = .ok (.astore_n 3, 1) := by decide +kernel
theorem dL_forced_13 : decode cL_forced 13 = .ok (.iconst 1, 1) := by decide +kernel
theorem dL_forced_14 : decode cL_forced 14 = .ok (.ireturn, 1) := by decide +kernel
theorem dL_forced_15 : decode cL_forced 15 = .ok (.iconst 0, 1) := by decide +kernel
theorem dL_forced_16 : decode cL_forced 16 = .ok (.ireturn, 1) := by decide +kernel
set_option maxRecDepth 20000 in
theorem ggL_evenly_X2_evenly : GoodIn wsL_evenly wsX2_evenly := goodIn_ca (goodIn_r _ [6, 7, 8, 9, 5, 10, 11, 12, 13, 14, 15, 16, 17, 18, 19, 20, 21, 22, 23, 24, 25, 26, 27, 28, 29, 30, 31, 32, 33, 34, 35, 36, 37, 38, 39, 40, 41, 42, 43, 44, 45, 46, 47, 48, 49, 50, 51, 52, 53, 54, 55, 56, 57, 58, 59, 60, 61, 62, 63, 64, 65, 66, 67, 68, 69, 70, 71, 72, 73, 74, 75, 76, 77, 78, 79, 80, 81, 82, 83, 84, 85, 86, 87, 88, 89, 90, 91, 92, 93, 94, 95, 96, 97, 98, 99, 100, 101] (by decide +kernel) (by decide +kernel)) (goodIn_sub (fun _ h => List.mem_cons_of_mem _ (List.mem_append_right _ h)) (by decide +kernel))
set_option maxRecDepth 20000 in
theorem gL_evenly_X2_evenly : GoodIn wsL_evenly (wsV RL 56 RX2 yX2_evenly wsX2_evenly) := goodIn_app (goodIn_of _ (by decide +kernel)) ggL_evenly_X2_evenly
theorem dL_evenly_0 : decode cL_evenly 0 = .ok (.aload_n 3, 1) := by decide +kernel
theorem dL_evenly_1 : decode cL_evenly 1 = .ok (.iconst 0, 1) := by decide +kernel
theorem dL_evenly_2 : decode cL_evenly 2 = .ok (.aload_n 0, 1) := by decide +kernel
theorem dL_evenly_3 : decode cL_evenly 3 = .ok (.iload_n 1, 1) := by decide +kernel
theorem dL_evenly_4 : decode cL_evenly 4 = .ok (.iload_n 2, 1) := by decide +kernel
theorem dL_evenly_5 : decode cL_evenly 5 = .ok (.invokevirtual 56, 3) := by decide +kernel
theorem dL_evenly_8 : decode cL_evenly 8 = .ok (.i2l, 1) := by decide +kernel
theorem dL_evenly_9 : decode cL_evenly 9 = .ok (.lastore, 1) := by decide +kernel
theorem dL_evenly_10 : decode cL_evenly 10 = .ok (.goto 7, 3) := by decide +kernel
theorem dL_evenly_13 : decode cL_evenly 13 = .ok (.astore 4, 2) := by decide +kernel
theorem dL_evenly_15 : decode cL_evenly 15 = .ok (.iconst 1, 1) := by decide +kernel
theorem dL_evenly_16 : decode cL_evenly 16 = .ok (.ireturn, 1) := by decide +kernel
theorem dL_evenly_17 : decode cL_evenly 17 = .ok (.iconst 0, 1) := by decide +kernel
theorem dL_evenly_18 : decode cL_evenly 18 = .ok (.ireturn, 1) := by decide +kernel
set_option maxRecDepth 20000 in
theorem ggL_chances_X2_chances : GoodIn wsL_chances wsX2_chances := goodIn_ca (goodIn_r _ [6, 7, 8, 9, 5, 10, 11, 12, 13, 14, 15, 16, 17, 18, 19, 20, 21, 22, 23, 24, 25, 26, 27, 28, 29, 30, 31, 32, 33, 34, 35, 36, 37, 38, 39, 40, 41, 42, 43, 44, 45, 46, 47, 48, 49, 50, 51, 52, 53, 54, 55, 56, 57, 58, 59, 60, 61, 62, 63, 64, 65, 66, 67, 68, 69, 70, 71, 72, 73, 74, 75, 76, 77, 78, 79, 80, 81, 82, 83, 84, 85, 86, 87, 88, 89, 90, 91, 92, 93, 94, 95, 96, 97, 98, 99, 100, 101, 102, 103, 104, 105, 106, 107, 108, 109, 110, 111, 112, 113, 114, 115, 116, 117, 118, 119, 120, 121, 122, 123, 124, 125, 126, 127, 128, 129, 130, 131, 132, 133, 134, 135, 136, 137, 138, 139, 140, 141, 142, 143, 144, 145, 146, 147, 148, 149, 150, 151, 152, 153, 154, 155, 156, 157, 158, 159, 160] (by decide +kernel) (by decide +kernel)) (goodIn_sub (fun _ h => List.mem_cons_of_mem _ (List.mem_append_right _ h)) (by decide +kernel))
set_option maxRecDepth 20000 in
theorem gL_chances_X2_chances : GoodIn wsL_chances (wsV RL 59 RX2 yX2_chances wsX2_chances) := goodIn_app (goodIn_of _ (by decide +kernel)) ggL_chances_X2_chances
theorem dL_chances_0 : decode cL_chances 0 = .ok (.aload_n 3, 1) := by decide +kernel
theorem dL_chances_1 : decode cL_chances 1 = .ok (.iconst 0, 1) := by decide +kernel
theorem dL_chances_2 : decode cL_chances 2 = .ok (.aload_n 0, 1) := by decide +kernel
theorem dL_chances_3 : decode cL_chances 3 = .ok (.iload_n 1, 1) := by decide +kernel
theorem dL_chances_4 : decode cL_chances 4 = .ok (.iload_n 2, 1) := by decide +kernel
theorem dL_chances_5 : decode cL_chances 5 = .ok (.invokevirtual 59, 3) := by decide +kernel
theorem dL_chances_8 : decode cL_chances 8 = .ok (.i2l, 1) := by decide +kernel
theorem dL_chances_9 : decode cL_chances 9 = .ok (.lastore, 1) := by decide +kernel
theorem dL_chances_10 : decode cL_chances 10 = .ok (.goto 7, 3) := by decide +kernel
theorem dL_chances_13 : decode cL_chances 13 = .ok (.astore 4, 2) := by decide +kernel
theorem dL_chances_15 : decode cL_chances 15 = .ok (.iconst 1, 1) := by decide +kernel
theorem dL_chances_16 : decode cL_chances 16 = .ok (.ireturn, 1) := by decide +kernel
theorem dL_chances_17 : decode cL_chances 17 = .ok (.iconst 0, 1) := by decide +kernel
theorem dL_chances_18 : decode cL_chances 18 = .ok (.ireturn, 1) := by decide +kernel
set_option maxRecDepth 20000 in
theorem ggL_pairings_X2_pairings : GoodIn wsL_pairings wsX2_pairings := goodIn_ca (goodIn_r _ [6, 7, 8, 9, 5, 10, 11, 12, 13, 14, 15, 16, 17, 18, 19, 20, 21, 22, 23, 24, 25, 26, 27, 28, 29, 30, 31, 32, 33, 34, 35, 36, 37, 38, 39, 40, 41, 42, 43, 44, 45, 46, 47, 48, 49, 50, 51, 52, 53, 54, 55, 56, 57, 58, 59, 60, 61, 62, 63, 64, 65, 66, 67, 68, 69, 70, 71, 72, 73, 74, 75, 76, 77, 78, 79, 80, 81, 82, 83, 84, 85, 86, 87, 88, 89, 90, 91, 92, 93, 94, 95, 96, 97, 98, 99, 100, 101, 102, 103, 104, 105, 106, 107, 108, 109, 110, 111, 112, 113, 114, 115, 116, 117, 118, 119, 120, 121, 122, 123, 124, 125, 126, 127, 128, 129, 130, 131, 132, 133, 134, 135, 136, 137, 138, 139, 140, 141, 142, 143, 144, 145, 146, 147, 148, 149, 150, 151, 152, 153, 154, 155, 156] (by decide +kernel) (by decide +kernel)) (goodIn_sub (fun _ h => List.mem_cons_of_mem _ (List.mem_append_right _ h)) (by decide +kernel))
set_option maxRecDepth 20000 in
theorem gL_pairings_X2_pairings : GoodIn wsL_pairings (wsV RL 62 RX2 yX2_pairings wsX2_pairings) := goodIn_app (goodIn_of _ (by decide +kernel)) ggL_pairings_X2_pairings
theorem dL_pairings_0 : decode cL_pairings 0 = .ok (.aload_n 3, 1) := by decide +kernel
theorem dL_pairings_1 : decode cL_pairings 1 = .ok (.iconst 0, 1) := by decide +kernel
theorem dL_pairings_2 : decode cL_pairings 2 = .ok (.aload_n 0, 1) := by decide +kernel
theorem dL_pairings_3 : decode cL_pairings 3 = .ok (.iload_n 1, 1) := by decide +kernel
theorem dL_pairings_4 : decode cL_pairings 4 = .ok (.iload_n 2, 1) := by decide +kernel
theorem dL_pairings_5 : decode cL_pairings 5 = .ok (.invokevirtual 62, 3) := by decide +kernel
theorem dL_pairings_8 : decode cL_pairings 8 = .ok (.i2l, 1) := by decide +kernel
theorem dL_pairings_9 : decode cL_pairings 9 = .ok (.lastore, 1) := by decide +kernel
theorem dL_pairings_10 : decode cL_pairings 10 = .ok (.goto 7, 3) := by decide +kernel
theorem dL_pairings_13 : decode cL_pairings 13 = .ok (.astore 4, 2) := by decide +kernel
theorem dL_pairings_15 : decode cL_pairings 15 = .ok (.iconst 1, 1) := by decide +kernel
theorem dL_pairings_16 : decode cL_pairings 16 = .ok (.ireturn, 1) := by decide +kernel
theorem dL_pairings_17 : decode cL_pairings 17 = .ok (.iconst 0, 1) := by decide +kernel
theorem dL_pairings_18 : decode cL_pairings 18 = .ok (.ireturn, 1) := by decide +kernel
set_option maxRecDepth 20000 in
theorem ggL_law_X2_init : GoodIn wsL_law wsX2_init := goodIn_r _ [9, 10, 11, 12, 13, 14, 15, 16, 17, 18, 19, 20, 21, 22, 23, 24, 25, 26, 27, 28, 29, 30, 31, 32, 33, 34, 35, 36, 37, 38, 39, 40, 41, 2, 42, 43, 44, 45, 46, 47, 48, 49, 50, 51, 52, 53, 54, 55, 56, 57, 58, 59, 60, 539, 540, 541, 542, 543, 544, 545, 546, 547, 513, 514, 515, 516, 517, 518, 519, 520, 521, 548, 549] (by decide +kernel) (by decide +kernel)
set_option maxRecDepth 20000 in
theorem gL_law_X2_init : GoodIn wsL_law (wsX2_init) := ggL_law_X2_init
set_option maxRecDepth 20000 in
theorem ggL_law_X3_init : GoodIn wsL_law wsX3_init := goodIn_r _ [63, 64, 11, 12, 22, 65, 66, 67, 68, 69, 70, 71, 72, 73, 74, 75, 76, 77, 78, 79, 80, 5, 81, 82, 83, 84, 522, 523, 524, 525, 526, 527, 528, 529, 530, 531, 532, 533, 534, 535, 536, 537, 538] (by decide +kernel) (by decide +kernel)
set_option maxRecDepth 20000 in
theorem gL_law_X3_init : GoodIn wsL_law (wsX3_init) := ggL_law_X3_init
set_option maxRecDepth 20000 in
theorem ggL_law_L_lay : GoodIn wsL_law wsL_lay := goodIn_ca (goodIn_r _ [88, 89, 90, 91, 92, 2, 93, 94, 95, 16, 39, 40, 41, 42, 23, 43, 44, 45, 46, 15, 47, 48, 49, 50, 30, 29, 31, 32, 51, 52, 53, 54, 33, 55, 56, 57, 58, 59, 60, 513, 514, 515, 516, 517, 518, 519, 520, 521, 539, 540, 541, 542, 543, 544, 545, 546, 547] (by decide +kernel) (by decide +kernel)) (goodIn_sub (fun _ h => List.mem_append_left _ (List.mem_append_left _ (List.mem_append_right _ h))) (by decide +kernel))
set_option maxRecDepth 20000 in
theorem gL_law_L_lay : GoodIn wsL_law (va_wsS RL 69 yL_lay wsL_lay) := goodIn_app (goodIn_of _ (by decide +kernel)) ggL_law_L_lay
set_option maxRecDepth 20000 in
theorem ggL_law_X3_lay : GoodIn wsL_law wsX3_lay := goodIn_r _ [99, 100, 101, 102, 5, 103, 78, 79, 80, 81, 82, 83, 84, 65, 71, 66, 68, 69, 104, 105, 106, 107, 522, 523, 524, 525, 526, 527, 528, 529, 530, 531, 532, 533, 534, 535, 536, 537, 538] (by decide +kernel) (by decide +kernel)
set_option maxRecDepth 20000 in
theorem gL_law_X3_lay : GoodIn wsL_law (wsV RL 74 RX3 yX3_lay wsX3_lay) := goodIn_app (goodIn_of _ (by decide +kernel)) ggL_law_X3_lay
set_option maxRecDepth 20000 in
theorem ggL_law_X3_thrown : GoodIn wsL_law wsX3_thrown := goodIn_r _ [111, 100, 522, 523, 524, 525, 526, 527, 528, 529, 530, 531, 532, 533, 534, 535, 536, 537, 538] (by decide +kernel) (by decide +kernel)
set_option maxRecDepth 20000 in
theorem gL_law_X3_thrown : GoodIn wsL_law (wsV RL 75 RX3 yX3_thrown wsX3_thrown) := goodIn_app (goodIn_of _ (by decide +kernel)) ggL_law_X3_thrown
set_option maxRecDepth 20000 in
theorem ggL_law_L_setRegion : GoodIn wsL_law wsL_setRegion := goodIn_ca (goodIn_ca (goodIn_r _ [114, 115, 116, 117, 118, 119, 2, 120, 121, 122, 16, 123, 124, 125, 15, 126, 50, 127, 128, 129, 130, 131, 132, 133, 134, 135, 136, 43, 55, 56, 57, 58, 59, 60, 513, 514, 515, 516, 517, 518, 519, 520, 521, 539, 540, 541, 542, 543, 544, 545, 546, 547] (by decide +kernel) (by decide +kernel)) (goodIn_sub (fun _ h => List.mem_append_left _ (List.mem_append_right _ h)) (by decide +kernel))) (goodIn_sub (fun _ h => List.mem_append_right _ h) (by decide +kernel))
set_option maxRecDepth 20000 in
theorem gL_law_L_setRegion : GoodIn wsL_law (va_wsS RL 78 yL_setRegion wsL_setRegion) := goodIn_app (goodIn_of _ (by decide +kernel)) ggL_law_L_setRegion
set_option maxRecDepth 20000 in
theorem ggL_law_X3_setRegion : GoodIn wsL_law wsX3_setRegion := goodIn_r _ [140, 84, 100, 65, 141, 142, 143, 5, 144, 104, 105, 106, 107, 82, 83, 101, 102, 103, 522, 523, 524, 525, 526, 527, 528, 529, 530, 531, 532, 533, 534, 535, 536, 537, 538] (by decide +kernel) (by decide +kernel)
set_option maxRecDepth 20000 in
theorem gL_law_X3_setRegion : GoodIn wsL_law (wsV RL 80 RX3 yX3_setRegion wsX3_setRegion) := goodIn_app (goodIn_of _ (by decide +kernel)) ggL_law_X3_setRegion
set_option maxRecDepth 20000 in
theorem ggL_law_L_setBound : GoodIn wsL_law wsL_setBound := goodIn_ca (goodIn_ca (goodIn_ca (goodIn_r _ [147, 115, 89, 116, 148, 149, 150, 2, 151, 121, 122, 94, 95, 16, 127, 128, 129, 15, 130, 131, 132, 133, 134, 135, 136, 43, 55, 56, 57, 58, 59, 60, 513, 514, 515, 516, 517, 518, 519, 520, 521, 539, 540, 541, 542, 543, 544, 545, 546, 547] (by decide +kernel) (by decide +kernel)) (goodIn_sub (fun _ h => List.mem_append_left _ (List.mem_append_right _ h)) (by decide +kernel))) (goodIn_sub (fun _ h => List.mem_append_left _ (List.mem_append_left _ (List.mem_append_right _ h))) (by decide +kernel))) (goodIn_sub (fun _ h => List.mem_append_right _ h) (by decide +kernel))
set_option maxRecDepth 20000 in
theorem gL_law_L_setBound : GoodIn wsL_law (va_wsS RL 81 yL_setBound wsL_setBound) := goodIn_app (goodIn_of _ (by decide +kernel)) ggL_law_L_setBound
set_option maxRecDepth 20000 in
theorem ggL_law_X3_setBound : GoodIn wsL_law wsX3_setBound := goodIn_r _ [155, 84, 100, 66, 101, 102, 5, 103, 522, 523, 524, 525, 526, 527, 528, 529, 530, 531, 532, 533, 534, 535, 536, 537, 538] (by decide +kernel) (by decide +kernel)
set_option maxRecDepth 20000 in
theorem gL_law_X3_setBound : GoodIn wsL_law (wsV RL 83 RX3 yX3_setBound wsX3_setBound) := goodIn_app (goodIn_of _ (by decide +kernel)) ggL_law_X3_setBound
set_option maxRecDepth 20000 in
theorem ggL_law_L_setApart : GoodIn wsL_law wsL_setApart := goodIn_ca (goodIn_ca (goodIn_ca (goodIn_r _ [158, 115, 89, 116, 159, 160, 161, 2, 162, 16, 163, 164, 165, 166, 94, 95, 167, 168, 169, 170, 121, 122, 123, 124, 125, 15, 126, 50, 131, 132, 133, 134, 135, 136, 43, 55, 56, 57, 58, 59, 60, 171, 172, 173, 513, 514, 515, 516, 517, 518, 519, 520, 521, 539, 540, 541, 542, 543, 544, 545, 546, 547] (by decide +kernel) (by decide +kernel)) (goodIn_sub (fun _ h => List.mem_append_left _ (List.mem_append_left _ (List.mem_append_right _ h))) (by decide +kernel))) (goodIn_sub (fun _ h => List.mem_append_left _ (List.mem_append_right _ h)) (by decide +kernel))) (goodIn_sub (fun _ h => List.mem_append_right _ h) (by decide +kernel))
set_option maxRecDepth 20000 in
theorem gL_law_L_setApart : GoodIn wsL_law (va_wsS RL 84 yL_setApart wsL_setApart) := goodIn_app (goodIn_of _ (by decide +kernel)) ggL_law_L_setApart
set_option maxRecDepth 20000 in
theorem ggL_law_X3_setApart : GoodIn wsL_law wsX3_setApart := goodIn_r _ [177, 68, 178, 179, 180, 5, 181, 84, 100, 141, 142, 143, 144, 104, 105, 106, 107, 82, 83, 101, 102, 103, 522, 523, 524, 525, 526, 527, 528, 529, 530, 531, 532, 533, 534, 535, 536, 537, 538] (by decide +kernel) (by decide +kernel)
set_option maxRecDepth 20000 in
theorem gL_law_X3_setApart : GoodIn wsL_law (wsV RL 87 RX3 yX3_setApart wsX3_setApart) := goodIn_app (goodIn_of _ (by decide +kernel)) ggL_law_X3_setApart
set_option maxRecDepth 20000 in
theorem ggL_law_L_setOtherDays : GoodIn wsL_law wsL_setOtherDays := goodIn_ca (goodIn_ca (goodIn_ca (goodIn_r _ [184, 115, 89, 116, 185, 186, 187, 2, 188, 16, 163, 164, 165, 166, 94, 95, 167, 168, 169, 170, 121, 122, 123, 124, 125, 15, 126, 50, 131, 132, 133, 134, 135, 136, 43, 55, 56, 57, 58, 59, 60, 171, 172, 173, 513, 514, 515, 516, 517, 518, 519, 520, 521, 539, 540, 541, 542, 543, 544, 545, 546, 547] (by decide +kernel) (by decide +kernel)) (goodIn_sub (fun _ h => List.mem_append_left _ (List.mem_append_left _ (List.mem_append_right _ h))) (by decide +kernel))) (goodIn_sub (fun _ h => List.mem_append_left _ (List.mem_append_right _ h)) (by decide +kernel))) (goodIn_sub (fun _ h => List.mem_append_right _ h) (by decide +kernel))
set_option maxRecDepth 20000 in
theorem gL_law_L_setOtherDays : GoodIn wsL_law (va_wsS RL 88 yL_setOtherDays wsL_setOtherDays) := goodIn_app (goodIn_of _ (by decide +kernel)) ggL_law_L_setOtherDays
set_option maxRecDepth 20000 in
theorem ggL_law_X3_setOtherDays : GoodIn wsL_law wsX3_setOtherDays := goodIn_r _ [192, 69, 178, 179, 180, 5, 181, 84, 100, 141, 142, 143, 144, 104, 105, 106, 107, 82, 83, 101, 102, 103, 522, 523, 524, 525, 526, 527, 528, 529, 530, 531, 532, 533, 534, 535, 536, 537, 538] (by decide +kernel) (by decide +kernel)
set_option maxRecDepth 20000 in
theorem gL_law_X3_setOtherDays : GoodIn wsL_law (wsV RL 90 RX3 yX3_setOtherDays wsX3_setOtherDays) := goodIn_app (goodIn_of _ (by decide +kernel)) ggL_law_X3_setOtherDays
set_option maxRecDepth 20000 in
theorem ggL_law_L_draw : GoodIn wsL_law wsL_draw := goodIn_ca (goodIn_ca (goodIn_r _ [195, 116, 115, 196, 197, 198, 2, 199, 135, 136, 121, 122, 43, 16, 60, 23, 200, 201, 202, 203, 59, 20, 204, 205, 206, 19, 207, 208, 209, 210, 211, 15, 212, 213, 214, 215, 216, 50, 48, 217, 218, 219, 220, 38, 221, 222, 223, 224, 34, 225, 226, 227, 228, 33, 31, 32, 29, 30, 229, 230, 231, 232, 233, 234, 235, 236, 237, 238, 239, 240, 241, 242, 243, 244, 245, 246, 247, 248, 249, 250, 251, 252, 253, 254, 255, 25, 24, 256, 257, 258, 259, 260, 261, 262, 263, 264, 265, 266, 513, 514, 515, 516, 517, 518, 519, 520, 521, 539, 540, 541, 542, 543, 544, 545, 546, 547, 548, 549] (by decide +kernel) (by decide +kernel)) (goodIn_sub (fun _ h => List.mem_append_right _ h) (by decide +kernel))) (goodIn_sub (fun _ h => List.mem_append_left _ (List.mem_append_right _ h)) (by decide +kernel))
set_option maxRecDepth 20000 in
theorem gL_law_L_draw : GoodIn wsL_law (va_wsS RL 91 yL_draw wsL_draw) := goodIn_app (goodIn_of _ (by decide +kernel)) ggL_law_L_draw
set_option maxRecDepth 20000 in
theorem ggL_law_X3_draw : GoodIn wsL_law wsX3_draw := goodIn_r _ [270, 84, 271, 100, 71, 70, 272, 273, 274, 5, 275, 82, 83, 72, 73, 276, 277, 278, 279, 280, 281, 282, 74, 283, 284, 285, 286, 65, 68, 69, 66, 104, 105, 106, 107, 287, 288, 289, 290, 101, 102, 103, 291, 292, 293, 294, 295, 296, 297, 298, 299, 300, 301, 302, 303, 304, 305, 306, 522, 523, 524, 525, 526, 527, 528, 529, 530, 531, 532, 533, 534, 535, 536, 537, 538] (by decide +kernel) (by decide +kernel)
set_option maxRecDepth 20000 in
theorem gL_law_X3_draw : GoodIn wsL_law (wsV RL 94 RX3 yX3_draw wsX3_draw) := goodIn_app (goodIn_of _ (by decide +kernel)) ggL_law_X3_draw
set_option maxRecDepth 20000 in
theorem ggL_law_L_undo : GoodIn wsL_law wsL_undo := goodIn_ca (goodIn_r _ [309, 116, 310, 311, 312, 2, 313, 135, 136, 43, 60, 314, 315, 316, 317, 24, 23, 20, 25, 318, 319, 320, 19, 321, 208, 513, 514, 515, 516, 517, 518, 519, 520, 521, 548, 549] (by decide +kernel) (by decide +kernel)) (goodIn_sub (fun _ h => List.mem_append_right _ h) (by decide +kernel))
set_option maxRecDepth 20000 in
theorem gL_law_L_undo : GoodIn wsL_law (va_wsS RL 95 yL_undo wsL_undo) := goodIn_app (goodIn_of _ (by decide +kernel)) ggL_law_L_undo
set_option maxRecDepth 20000 in
theorem ggL_law_X3_undo : GoodIn wsL_law wsX3_undo := goodIn_r _ [325, 84, 100, 71, 70, 522, 523, 524, 525, 526, 527, 528, 529, 530, 531, 532, 533, 534, 535, 536, 537, 538] (by decide +kernel) (by decide +kernel)
set_option maxRecDepth 20000 in
theorem gL_law_X3_undo : GoodIn wsL_law (wsV RL 98 RX3 yX3_undo wsX3_undo) := goodIn_app (goodIn_of _ (by decide +kernel)) ggL_law_X3_undo
set_option maxRecDepth 20000 in
theorem ggL_law_X2_drawn : GoodIn wsL_law wsX2_drawn := goodIn_r _ [329, 43, 513, 514, 515, 516, 517, 518, 519, 520, 521] (by decide +kernel) (by decide +kernel)
set_option maxRecDepth 20000 in
theorem gL_law_X2_drawn : GoodIn wsL_law (wsV RL 99 RX2 yX2_drawn wsX2_drawn) := goodIn_app (goodIn_of _ (by decide +kernel)) ggL_law_X2_drawn
set_option maxRecDepth 20000 in
theorem ggL_law_X3_drawn : GoodIn wsL_law wsX3_drawn := goodIn_r _ [333, 100, 84, 522, 523, 524, 525, 526, 527, 528, 529, 530, 531, 532, 533, 534, 535, 536, 537, 538] (by decide +kernel) (by decide +kernel)
set_option maxRecDepth 20000 in
theorem gL_law_X3_drawn : GoodIn wsL_law (wsV RL 102 RX3 yX3_drawn wsX3_drawn) := goodIn_app (goodIn_of _ (by decide +kernel)) ggL_law_X3_drawn
set_option maxRecDepth 20000 in
theorem ggL_law_X2_pot : GoodIn wsL_law wsX2_pot := goodIn_r _ [247, 16, 248, 249, 250, 2, 251, 23, 513, 514, 515, 516, 517, 518, 519, 520, 521, 539, 540, 541, 542, 543, 544, 545, 546, 547] (by decide +kernel) (by decide +kernel)
set_option maxRecDepth 20000 in
theorem gL_law_X2_pot : GoodIn wsL_law (wsV RL 103 RX2 yX2_pot wsX2_pot) := goodIn_app (goodIn_of _ (by decide +kernel)) ggL_law_X2_pot
set_option maxRecDepth 20000 in
theorem ggL_law_X3_pot : GoodIn wsL_law wsX3_pot := goodIn_r _ [338, 100, 291, 292, 293, 5, 294, 84, 82, 104, 105, 106, 107, 83, 522, 523, 524, 525, 526, 527, 528, 529, 530, 531, 532, 533, 534, 535, 536, 537, 538] (by decide +kernel) (by decide +kernel)
set_option maxRecDepth 20000 in
theorem gL_law_X3_pot : GoodIn wsL_law (wsV RL 106 RX3 yX3_pot wsX3_pot) := goodIn_app (goodIn_of _ (by decide +kernel)) ggL_law_X3_pot
set_option maxRecDepth 20000 in
theorem ggL_law_X2_left : GoodIn wsL_law wsX2_left := goodIn_r _ [342, 244, 245, 246, 2, 247, 16, 248, 249, 250, 251, 23, 513, 514, 515, 516, 517, 518, 519, 520, 521, 539, 540, 541, 542, 543, 544, 545, 546, 547] (by decide +kernel) (by decide +kernel)
set_option maxRecDepth 20000 in
theorem gL_law_X2_left : GoodIn wsL_law (wsV RL 107 RX2 yX2_left wsX2_left) := goodIn_app (goodIn_of _ (by decide +kernel)) ggL_law_X2_left
set_option maxRecDepth 20000 in
theorem ggL_law_X3_left : GoodIn wsL_law wsX3_left := goodIn_r _ [346, 100, 287, 288, 289, 5, 290, 84, 82, 104, 105, 106, 107, 83, 522, 523, 524, 525, 526, 527, 528, 529, 530, 531, 532, 533, 534, 535, 536, 537, 538] (by decide +kernel) (by decide +kernel)
set_option maxRecDepth 20000 in
theorem gL_law_X3_left : GoodIn wsL_law (wsV RL 110 RX3 yX3_left wsX3_left) := goodIn_app (goodIn_of _ (by decide +kernel)) ggL_law_X3_left
set_option maxRecDepth 20000 in
theorem ggL_law_L_ballAt : GoodIn wsL_law wsL_ballAt := goodIn_ca (goodIn_r _ [349, 115, 350, 351, 352, 2, 353, 121, 122, 240, 241, 242, 243, 16, 23, 244, 245, 246, 247, 248, 249, 250, 251, 513, 514, 515, 516, 517, 518, 519, 520, 521, 539, 540, 541, 542, 543, 544, 545, 546, 547] (by decide +kernel) (by decide +kernel)) (goodIn_sub (fun _ h => List.mem_append_left _ (List.mem_append_right _ h)) (by decide +kernel))
set_option maxRecDepth 20000 in
theorem gL_law_L_ballAt : GoodIn wsL_law (va_wsS RL 111 yL_ballAt wsL_ballAt) := goodIn_app (goodIn_of _ (by decide +kernel)) ggL_law_L_ballAt
set_option maxRecDepth 20000 in
theorem ggL_law_X3_ballAt : GoodIn wsL_law wsX3_ballAt := goodIn_r _ [357, 100, 287, 288, 289, 5, 290, 84, 82, 104, 105, 106, 107, 83, 101, 102, 103, 291, 292, 293, 294, 295, 296, 297, 298, 71, 522, 523, 524, 525, 526, 527, 528, 529, 530, 531, 532, 533, 534, 535, 536, 537, 538] (by decide +kernel) (by decide +kernel)
set_option maxRecDepth 20000 in
theorem gL_law_X3_ballAt : GoodIn wsL_law (wsV RL 113 RX3 yX3_ballAt wsX3_ballAt) := goodIn_app (goodIn_of _ (by decide +kernel)) ggL_law_X3_ballAt
set_option maxRecDepth 20000 in
theorem ggL_law_L_groupOf : GoodIn wsL_law wsL_groupOf := goodIn_ca (goodIn_r _ [360, 115, 361, 362, 363, 2, 364, 23, 167, 168, 169, 170, 121, 122, 16, 123, 124, 125, 15, 126, 50, 513, 514, 515, 516, 517, 518, 519, 520, 521, 539, 540, 541, 542, 543, 544, 545, 546, 547] (by decide +kernel) (by decide +kernel)) (goodIn_sub (fun _ h => List.mem_append_left _ (List.mem_append_right _ h)) (by decide +kernel))
set_option maxRecDepth 20000 in
theorem gL_law_L_groupOf : GoodIn wsL_law (va_wsS RL 114 yL_groupOf wsL_groupOf) := goodIn_app (goodIn_of _ (by decide +kernel)) ggL_law_L_groupOf
set_option maxRecDepth 20000 in
theorem ggL_law_X3_groupOf : GoodIn wsL_law wsX3_groupOf := goodIn_r _ [368, 100, 71, 141, 142, 143, 5, 144, 104, 105, 106, 107, 82, 83, 101, 102, 103, 522, 523, 524, 525, 526, 527, 528, 529, 530, 531, 532, 533, 534, 535, 536, 537, 538] (by decide +kernel) (by decide +kernel)
set_option maxRecDepth 20000 in
theorem gL_law_X3_groupOf : GoodIn wsL_law (wsV RL 116 RX3 yX3_groupOf wsX3_groupOf) := goodIn_app (goodIn_of _ (by decide +kernel)) ggL_law_X3_groupOf
set_option maxRecDepth 20000 in
theorem ggL_law_L_teamAt : GoodIn wsL_law wsL_teamAt := goodIn_ca (goodIn_r _ [371, 115, 372, 373, 374, 2, 375, 121, 122, 16, 23, 376, 377, 378, 15, 379, 48, 380, 381, 382, 383, 49, 513, 514, 515, 516, 517, 518, 519, 520, 521, 539, 540, 541, 542, 543, 544, 545, 546, 547] (by decide +kernel) (by decide +kernel)) (goodIn_sub (fun _ h => List.mem_append_left _ (List.mem_append_right _ h)) (by decide +kernel))
set_option maxRecDepth 20000 in
theorem gL_law_L_teamAt : GoodIn wsL_law (va_wsS RL 117 yL_teamAt wsL_teamAt) := goodIn_app (goodIn_of _ (by decide +kernel)) ggL_law_L_teamAt
set_option maxRecDepth 20000 in
theorem ggL_law_X3_teamAt : GoodIn wsL_law wsX3_teamAt := goodIn_r _ [387, 83, 100, 82, 71, 388, 389, 390, 5, 391, 101, 102, 103, 522, 523, 524, 525, 526, 527, 528, 529, 530, 531, 532, 533, 534, 535, 536, 537, 538] (by decide +kernel) (by decide +kernel)
set_option maxRecDepth 20000 in
theorem gL_law_X3_teamAt : GoodIn wsL_law (wsV RL 119 RX3 yX3_teamAt wsX3_teamAt) := goodIn_app (goodIn_of _ (by decide +kernel)) ggL_law_X3_teamAt
set_option maxRecDepth 20000 in
theorem ggL_law_X2_results : GoodIn wsL_law wsX2_results := goodIn_r _ [395, 200, 201, 202, 2, 203, 59, 20, 16, 204, 205, 206, 19, 207, 208, 209, 210, 211, 15, 212, 213, 214, 215, 216, 50, 48, 217, 218, 219, 220, 38, 221, 222, 223, 224, 34, 225, 226, 227, 228, 33, 31, 32, 29, 30, 229, 230, 231, 232, 233, 234, 235, 236, 237, 238, 239, 548, 549, 513, 514, 515, 516, 517, 518, 519, 520, 521, 539, 540, 541, 542, 543, 544, 545, 546, 547] (by decide +kernel) (by decide +kernel)
set_option maxRecDepth 20000 in
theorem gL_law_X2_results : GoodIn wsL_law (wsV RL 120 RX2 yX2_results wsX2_results) := goodIn_app (goodIn_of _ (by decide +kernel)) ggL_law_X2_results
set_option maxRecDepth 20000 in
theorem ggL_law_X3_results : GoodIn wsL_law wsX3_results := goodIn_r _ [399, 100, 271, 272, 273, 274, 5, 275, 82, 83, 72, 73, 276, 277, 278, 279, 280, 281, 282, 74, 283, 284, 285, 286, 65, 68, 69, 66, 71, 104, 105, 106, 107, 522, 523, 524, 525, 526, 527, 528, 529, 530, 531, 532, 533, 534, 535, 536, 537, 538] (by decide +kernel) (by decide +kernel)
set_option maxRecDepth 20000 in
theorem gL_law_X3_results : GoodIn wsL_law (wsV RL 123 RX3 yX3_results wsX3_results) := goodIn_app (goodIn_of _ (by decide +kernel)) ggL_law_X3_results
set_option maxRecDepth 20000 in
theorem ggL_law_L_fits : GoodIn wsL_law wsL_fits := goodIn_ca (goodIn_r _ [402, 115, 403, 404, 405, 2, 406, 407, 408, 409, 410, 121, 122, 16, 123, 124, 125, 15, 126, 50, 376, 377, 378, 379, 48, 200, 201, 202, 203, 59, 20, 204, 205, 206, 19, 207, 208, 209, 210, 211, 212, 213, 214, 215, 216, 217, 218, 219, 220, 38, 221, 222, 223, 224, 34, 225, 226, 227, 228, 33, 31, 32, 29, 30, 229, 230, 231, 232, 233, 234, 235, 236, 237, 238, 239, 411, 412, 413, 414, 260, 261, 262, 513, 514, 515, 516, 517, 518, 519, 520, 521, 539, 540, 541, 542, 543, 544, 545, 546, 547, 548, 549] (by decide +kernel) (by decide +kernel)) (goodIn_sub (fun _ h => List.mem_append_left _ (List.mem_append_right _ h)) (by decide +kernel))
set_option maxRecDepth 20000 in
theorem gL_law_L_fits : GoodIn wsL_law (va_wsS RL 124 yL_fits wsL_fits) := goodIn_app (goodIn_of _ (by decide +kernel)) ggL_law_L_fits
set_option maxRecDepth 20000 in
theorem ggL_law_X3_fits : GoodIn wsL_law wsX3_fits := goodIn_r _ [418, 419, 420, 421, 5, 422, 423, 424, 425, 426, 100, 141, 142, 143, 144, 104, 105, 106, 107, 82, 83, 101, 102, 103, 388, 389, 390, 391, 272, 273, 274, 275, 271, 72, 73, 276, 277, 278, 279, 280, 281, 282, 74, 283, 284, 285, 286, 65, 68, 69, 66, 71, 303, 304, 305, 306, 522, 523, 524, 525, 526, 527, 528, 529, 530, 531, 532, 533, 534, 535, 536, 537, 538] (by decide +kernel) (by decide +kernel)
set_option maxRecDepth 20000 in
theorem gL_law_X3_fits : GoodIn wsL_law (wsV RL 126 RX3 yX3_fits wsX3_fits) := goodIn_app (goodIn_of _ (by decide +kernel)) ggL_law_X3_fits
set_option maxRecDepth 20000 in
theorem ggL_law_L_forced : GoodIn wsL_law wsL_forced := goodIn_ca (goodIn_r _ [429, 115, 430, 431, 432, 2, 433, 167, 168, 169, 170, 121, 122, 16, 123, 124, 125, 15, 126, 50, 200, 201, 202, 203, 59, 20, 204, 205, 206, 19, 207, 208, 209, 210, 211, 212, 213, 214, 215, 216, 48, 217, 218, 219, 220, 38, 221, 222, 223, 224, 34, 225, 226, 227, 228, 33, 31, 32, 29, 30, 229, 230, 231, 232, 233, 234, 235, 236, 237, 238, 239, 256, 257, 258, 259, 260, 261, 262, 411, 412, 413, 414, 548, 549, 513, 514, 515, 516, 517, 518, 519, 520, 521, 539, 540, 541, 542, 543, 544, 545, 546, 547] (by decide +kernel) (by decide +kernel)) (goodIn_sub (fun _ h => List.mem_append_left _ (List.mem_append_right _ h)) (by decide +kernel))
set_option maxRecDepth 20000 in
theorem gL_law_L_forced : GoodIn wsL_law (va_wsS RL 127 yL_forced wsL_forced) := goodIn_app (goodIn_of _ (by decide +kernel)) ggL_law_L_forced
set_option maxRecDepth 20000 in
theorem ggL_law_X3_forced : GoodIn wsL_law wsX3_forced := goodIn_r _ [437, 100, 271, 141, 142, 143, 5, 144, 104, 105, 106, 107, 82, 83, 101, 102, 103, 272, 273, 274, 275, 72, 73, 276, 277, 278, 279, 280, 281, 282, 74, 283, 284, 285, 286, 65, 68, 69, 66, 71, 299, 300, 301, 302, 303, 304, 305, 306, 522, 523, 524, 525, 526, 527, 528, 529, 530, 531, 532, 533, 534, 535, 536, 537, 538] (by decide +kernel) (by decide +kernel)
set_option maxRecDepth 20000 in
theorem gL_law_X3_forced : GoodIn wsL_law (wsV RL 129 RX3 yX3_forced wsX3_forced) := goodIn_app (goodIn_of _ (by decide +kernel)) ggL_law_X3_forced
set_option maxRecDepth 20000 in
theorem ggL_law_L_evenly : GoodIn wsL_law wsL_evenly := goodIn_ca (goodIn_r _ [440, 115, 441, 442, 443, 2, 444, 407, 408, 409, 410, 121, 122, 16, 123, 124, 125, 15, 126, 50, 376, 377, 378, 379, 48, 200, 201, 202, 203, 59, 20, 204, 205, 206, 19, 207, 208, 209, 210, 211, 212, 213, 214, 215, 216, 217, 218, 219, 220, 38, 221, 222, 223, 224, 34, 225, 226, 227, 228, 33, 31, 32, 29, 30, 229, 230, 231, 232, 233, 234, 235, 236, 237, 238, 239, 411, 412, 413, 414, 260, 261, 262, 513, 514, 515, 516, 517, 518, 519, 520, 521, 539, 540, 541, 542, 543, 544, 545, 546, 547, 548, 549] (by decide +kernel) (by decide +kernel)) (goodIn_sub (fun _ h => List.mem_append_left _ (List.mem_append_right _ h)) (by decide +kernel))
set_option maxRecDepth 20000 in
theorem gL_law_L_evenly : GoodIn wsL_law (va_wsS RL 130 yL_evenly wsL_evenly) := goodIn_app (goodIn_of _ (by decide +kernel)) ggL_law_L_evenly
set_option maxRecDepth 20000 in
theorem ggL_law_X3_evenly : GoodIn wsL_law wsX3_evenly := goodIn_r _ [422, 423, 424, 425, 5, 426, 100, 141, 142, 143, 144, 104, 105, 106, 107, 82, 83, 101, 102, 103, 388, 389, 390, 391, 272, 273, 274, 275, 271, 72, 73, 276, 277, 278, 279, 280, 281, 282, 74, 283, 284, 285, 286, 65, 68, 69, 66, 71, 303, 304, 305, 306, 522, 523, 524, 525, 526, 527, 528, 529, 530, 531, 532, 533, 534, 535, 536, 537, 538] (by decide +kernel) (by decide +kernel)
set_option maxRecDepth 20000 in
theorem gL_law_X3_evenly : GoodIn wsL_law (wsV RL 132 RX3 yX3_evenly wsX3_evenly) := goodIn_app (goodIn_of _ (by decide +kernel)) ggL_law_X3_evenly
set_option maxRecDepth 20000 in
theorem ggL_law_X2_orders : GoodIn wsL_law wsX2_orders := goodIn_r _ [449, 16, 248, 249, 250, 2, 251, 23, 450, 451, 452, 513, 514, 515, 516, 517, 518, 519, 520, 521, 539, 540, 541, 542, 543, 544, 545, 546, 547] (by decide +kernel) (by decide +kernel)
set_option maxRecDepth 20000 in
theorem gL_law_X2_orders : GoodIn wsL_law (wsV RL 133 RX2 yX2_orders wsX2_orders) := goodIn_app (goodIn_of _ (by decide +kernel)) ggL_law_X2_orders
set_option maxRecDepth 20000 in
theorem ggL_law_X3_orders : GoodIn wsL_law wsX3_orders := goodIn_r _ [456, 100, 457, 458, 459, 5, 460, 83, 82, 71, 276, 277, 278, 522, 523, 524, 525, 526, 527, 528, 529, 530, 531, 532, 533, 534, 535, 536, 537, 538] (by decide +kernel) (by decide +kernel)
set_option maxRecDepth 20000 in
theorem gL_law_X3_orders : GoodIn wsL_law (wsV RL 136 RX3 yX3_orders wsX3_orders) := goodIn_app (goodIn_of _ (by decide +kernel)) ggL_law_X3_orders
set_option maxRecDepth 20000 in
theorem ggL_law_L_chances : GoodIn wsL_law wsL_chances := goodIn_ca (goodIn_r _ [463, 115, 464, 465, 466, 2, 467, 407, 408, 409, 410, 121, 122, 16, 123, 124, 125, 15, 126, 50, 376, 377, 378, 379, 48, 468, 469, 470, 471, 60, 21, 43, 204, 205, 206, 19, 207, 208, 200, 201, 202, 203, 59, 20, 209, 210, 211, 212, 213, 214, 215, 216, 217, 218, 219, 220, 38, 221, 222, 223, 224, 34, 225, 226, 227, 228, 33, 31, 32, 29, 30, 229, 230, 231, 232, 233, 234, 235, 236, 237, 238, 239, 472, 473, 474, 475, 476, 477, 478, 479, 480, 481, 340, 341, 342, 244, 245, 246, 247, 248, 249, 250, 251, 23, 240, 241, 242, 243, 482, 483, 484, 485, 252, 253, 254, 255, 25, 24, 256, 257, 258, 259, 260, 261, 262, 263, 264, 265, 266, 314, 315, 316, 317, 318, 319, 320, 321, 411, 412, 413, 414, 513, 514, 515, 516, 517, 518, 519, 520, 521, 539, 540, 541, 542, 543, 544, 545, 546, 547, 548, 549] (by decide +kernel) (by decide +kernel)) (goodIn_sub (fun _ h => List.mem_append_left _ (List.mem_append_right _ h)) (by decide +kernel))
set_option maxRecDepth 20000 in
theorem gL_law_L_chances : GoodIn wsL_law (va_wsS RL 137 yL_chances wsL_chances) := goodIn_app (goodIn_of _ (by decide +kernel)) ggL_law_L_chances
set_option maxRecDepth 20000 in
theorem ggL_law_X3_chances : GoodIn wsL_law wsX3_chances := goodIn_r _ [489, 271, 76, 423, 424, 425, 5, 426, 100, 141, 142, 143, 144, 104, 105, 106, 107, 82, 83, 101, 102, 103, 388, 389, 390, 391, 272, 273, 274, 275, 72, 73, 276, 277, 278, 279, 280, 281, 282, 74, 283, 284, 285, 286, 65, 68, 69, 66, 71, 457, 458, 459, 460, 490, 491, 492, 493, 75, 77, 494, 495, 496, 497, 522, 523, 524, 525, 526, 527, 528, 529, 530, 531, 532, 533, 534, 535, 536, 537, 538] (by decide +kernel) (by decide +kernel)
set_option maxRecDepth 20000 in
theorem gL_law_X3_chances : GoodIn wsL_law (wsV RL 139 RX3 yX3_chances wsX3_chances) := goodIn_app (goodIn_of _ (by decide +kernel)) ggL_law_X3_chances
set_option maxRecDepth 20000 in
theorem ggL_law_L_pairings : GoodIn wsL_law wsL_pairings := goodIn_ca (goodIn_r _ [500, 115, 501, 502, 503, 2, 504, 167, 168, 169, 170, 121, 122, 16, 123, 124, 125, 15, 126, 50, 468, 469, 470, 471, 60, 21, 43, 204, 205, 206, 19, 207, 208, 200, 201, 202, 203, 59, 20, 209, 210, 211, 212, 213, 214, 215, 216, 48, 217, 218, 219, 220, 38, 221, 222, 223, 224, 34, 225, 226, 227, 228, 33, 31, 32, 29, 30, 229, 230, 231, 232, 233, 234, 235, 236, 237, 238, 239, 472, 473, 474, 475, 476, 477, 478, 479, 480, 481, 340, 341, 342, 244, 245, 246, 247, 248, 249, 250, 251, 23, 240, 241, 242, 243, 482, 483, 484, 485, 252, 253, 254, 255, 25, 24, 256, 257, 258, 259, 260, 261, 262, 263, 264, 265, 266, 314, 315, 316, 317, 318, 319, 320, 321, 505, 506, 507, 508, 513, 514, 515, 516, 517, 518, 519, 520, 521, 539, 540, 541, 542, 543, 544, 545, 546, 547, 548, 549] (by decide +kernel) (by decide +kernel)) (goodIn_sub (fun _ h => List.mem_append_left _ (List.mem_append_right _ h)) (by decide +kernel))
set_option maxRecDepth 20000 in
theorem gL_law_L_pairings : GoodIn wsL_law (va_wsS RL 140 yL_pairings wsL_pairings) := goodIn_app (goodIn_of _ (by decide +kernel)) ggL_law_L_pairings
set_option maxRecDepth 20000 in
theorem ggL_law_X3_pairings : GoodIn wsL_law wsX3_pairings := goodIn_r _ [512, 100, 271, 76, 141, 142, 143, 5, 144, 104, 105, 106, 107, 82, 83, 101, 102, 103, 272, 273, 274, 275, 72, 73, 276, 277, 278, 279, 280, 281, 282, 74, 283, 284, 285, 286, 65, 68, 69, 66, 71, 457, 458, 459, 460, 490, 491, 492, 493, 75, 77, 494, 495, 496, 497, 522, 523, 524, 525, 526, 527, 528, 529, 530, 531, 532, 533, 534, 535, 536, 537, 538] (by decide +kernel) (by decide +kernel)
set_option maxRecDepth 20000 in
theorem gL_law_X3_pairings : GoodIn wsL_law (wsV RL 142 RX3 yX3_pairings wsX3_pairings) := goodIn_app (goodIn_of _ (by decide +kernel)) ggL_law_X3_pairings
end
section
theorem dL_law_0 : decode cL_law 0 = .ok (.new 8, 3) := by decide +kernel
theorem dL_law_3 : decode cL_law 3 = .ok (.dup, 1) := by decide +kernel
theorem dL_law_4 : decode cL_law 4 = .ok (.invokespecial 65, 3) := by decide +kernel
theorem dL_law_7 : decode cL_law 7 = .ok (.astore_n 1, 1) := by decide +kernel
theorem dL_law_8 : decode cL_law 8 = .ok (.new 66, 3) := by decide +kernel
theorem dL_law_11 : decode cL_law 11 = .ok (.dup, 1) := by decide +kernel
theorem dL_law_12 : decode cL_law 12 = .ok (.invokespecial 68, 3) := by decide +kernel
theorem dL_law_15 : decode cL_law 15 = .ok (.astore_n 2, 1) := by decide +kernel
theorem dL_law_16 : decode cL_law 16 = .ok (.iconst 1, 1) := by decide +kernel
theorem dL_law_17 : decode cL_law 17 = .ok (.newarray .long, 2) := by decide +kernel
theorem dL_law_19 : decode cL_law 19 = .ok (.astore_n 3, 1) := by decide +kernel
theorem dL_law_20 : decode cL_law 20 = .ok (.iconst 0, 1) := by decide +kernel
theorem dL_law_21 : decode cL_law 21 = .ok (.istore 4, 2) := by decide +kernel
theorem dL_law_23 : decode cL_law 23 = .ok (.iload 4, 2) := by decide +kernel
theorem dL_law_25 : decode cL_law 25 = .ok (.aload_n 0, 1) := by decide +kernel
theorem dL_law_26 : decode cL_law 26 = .ok (.arraylength, 1) := by decide +kernel
theorem dL_law_27 : decode cL_law 27 = .ok (.iconst 4, 1) := by decide +kernel
theorem dL_law_28 : decode cL_law 28 = .ok (.isub, 1) := by decide +kernel
theorem dL_law_29 : decode cL_law 29 = .ok (.if_icmp .gt 1199, 3) := by decide +kernel
theorem dL_law_32 : decode cL_law 32 = .ok (.aload_n 0, 1) := by decide +kernel
theorem dL_law_33 : decode cL_law 33 = .ok (.iload 4, 2) := by decide +kernel
theorem dL_law_35 : decode cL_law 35 = .ok (.iaload, 1) := by decide +kernel
theorem dL_law_36 : decode cL_law 36 = .ok (.bipush 31, 2) := by decide +kernel
theorem dL_law_38 : decode cL_law 38 = .ok (.iand, 1) := by decide +kernel
theorem dL_law_39 : decode cL_law 39 = .ok (.tableswitch 1183 0 19 #[93, 161, 229, 297, 400, 503, 559, 603, 616, 629, 642, 698, 754, 822, 835, 910, 966, 1034, 1047, 1115], 93) := by decide +kernel
theorem dL_law_132 : decode cL_law 132 = .ok (.aload_n 1, 1) := by decide +kernel
theorem dL_law_133 : decode cL_law 133 = .ok (.aload_n 0, 1) := by decide +kernel
theorem dL_law_134 : decode cL_law 134 = .ok (.iload 4, 2) := by decide +kernel
theorem dL_law_136 : decode cL_law 136 = .ok (.iconst 1, 1) := by decide +kernel
theorem dL_law_137 : decode cL_law 137 = .ok (.iadd, 1) := by decide +kernel
theorem dL_law_138 : decode cL_law 138 = .ok (.iaload, 1) := by decide +kernel
theorem dL_law_139 : decode cL_law 139 = .ok (.aload_n 0, 1) := by decide +kernel
theorem dL_law_140 : decode cL_law 140 = .ok (.iload 4, 2) := by decide +kernel
theorem dL_law_142 : decode cL_law 142 = .ok (.iconst 2, 1) := by decide +kernel
theorem dL_law_143 : decode cL_law 143 = .ok (.iadd, 1) := by decide +kernel
theorem dL_law_144 : decode cL_law 144 = .ok (.iaload, 1) := by decide +kernel
theorem dL_law_145 : decode cL_law 145 = .ok (.aload_n 3, 1) := by decide +kernel
theorem dL_law_146 : decode cL_law 146 = .ok (.invokestatic 69, 3) := by decide +kernel
theorem dL_law_149 : decode cL_law 149 = .ok (.istore 5, 2) := by decide +kernel
theorem dL_law_151 : decode cL_law 151 = .ok (.aload_n 2, 1) := by decide +kernel
theorem dL_law_152 : decode cL_law 152 = .ok (.aload_n 0, 1) := by decide +kernel
theorem dL_law_153 : decode cL_law 153 = .ok (.iload 4, 2) := by decide +kernel
theorem dL_law_155 : decode cL_law 155 = .ok (.iconst 1, 1) := by decide +kernel
theorem dL_law_156 : decode cL_law 156 = .ok (.iadd, 1) := by decide +kernel
theorem dL_law_157 : decode cL_law 157 = .ok (.iaload, 1) := by decide +kernel
theorem dL_law_158 : decode cL_law 158 = .ok (.aload_n 0, 1) := by decide +kernel
theorem dL_law_159 : decode cL_law 159 = .ok (.iload 4, 2) := by decide +kernel
theorem dL_law_161 : decode cL_law 161 = .ok (.iconst 2, 1) := by decide +kernel
theorem dL_law_162 : decode cL_law 162 = .ok (.iadd, 1) := by decide +kernel
theorem dL_law_163 : decode cL_law 163 = .ok (.iaload, 1) := by decide +kernel
theorem dL_law_164 : decode cL_law 164 = .ok (.invokevirtual 74, 3) := by decide +kernel
theorem dL_law_167 : decode cL_law 167 = .ok (.istore 6, 2) := by decide +kernel
theorem dL_law_169 : decode cL_law 169 = .ok (.aload_n 2, 1) := by decide +kernel
theorem dL_law_170 : decode cL_law 170 = .ok (.invokevirtual 75, 3) := by decide +kernel
theorem dL_law_173 : decode cL_law 173 = .ok (.iload 5, 2) := by decide +kernel
theorem dL_law_175 : decode cL_law 175 = .ok (.if_icmp .eq 5, 3) := by decide +kernel
theorem dL_law_178 : decode cL_law 178 = .ok (.iconst 0, 1) := by decide +kernel
theorem dL_law_179 : decode cL_law 179 = .ok (.ireturn, 1) := by decide +kernel
theorem dL_law_180 : decode cL_law 180 = .ok (.iload 5, 2) := by decide +kernel
theorem dL_law_182 : decode cL_law 182 = .ok (.ifCond .ne 15, 3) := by decide +kernel
theorem dL_law_185 : decode cL_law 185 = .ok (.aload_n 3, 1) := by decide +kernel
theorem dL_law_186 : decode cL_law 186 = .ok (.iconst 0, 1) := by decide +kernel
theorem dL_law_187 : decode cL_law 187 = .ok (.laload, 1) := by decide +kernel
theorem dL_law_188 : decode cL_law 188 = .ok (.iload 6, 2) := by decide +kernel
theorem dL_law_190 : decode cL_law 190 = .ok (.i2l, 1) := by decide +kernel
theorem dL_law_191 : decode cL_law 191 = .ok (.lcmp, 1) := by decide +kernel
theorem dL_law_192 : decode cL_law 192 = .ok (.ifCond .eq 5, 3) := by decide +kernel
theorem dL_law_195 : decode cL_law 195 = .ok (.iconst 0, 1) := by decide +kernel
theorem dL_law_196 : decode cL_law 196 = .ok (.ireturn, 1) := by decide +kernel
theorem dL_law_197 : decode cL_law 197 = .ok (.goto 1025, 3) := by decide +kernel
theorem dL_law_200 : decode cL_law 200 = .ok (.aload_n 1, 1) := by decide +kernel
theorem dL_law_201 : decode cL_law 201 = .ok (.aload_n 0, 1) := by decide +kernel
theorem dL_law_202 : decode cL_law 202 = .ok (.iload 4, 2) := by decide +kernel
theorem dL_law_204 : decode cL_law 204 = .ok (.iconst 1, 1) := by decide +kernel
theorem dL_law_205 : decode cL_law 205 = .ok (.iadd, 1) := by decide +kernel
theorem dL_law_206 : decode cL_law 206 = .ok (.iaload, 1) := by decide +kernel
theorem dL_law_207 : decode cL_law 207 = .ok (.aload_n 0, 1) := by decide +kernel
theorem dL_law_208 : decode cL_law 208 = .ok (.iload 4, 2) := by decide +kernel
theorem dL_law_210 : decode cL_law 210 = .ok (.iconst 2, 1) := by decide +kernel
theorem dL_law_211 : decode cL_law 211 = .ok (.iadd, 1) := by decide +kernel
theorem dL_law_212 : decode cL_law 212 = .ok (.iaload, 1) := by decide +kernel
theorem dL_law_213 : decode cL_law 213 = .ok (.aload_n 3, 1) := by decide +kernel
theorem dL_law_214 : decode cL_law 214 = .ok (.invokestatic 78, 3) := by decide +kernel
theorem dL_law_217 : decode cL_law 217 = .ok (.istore 5, 2) := by decide +kernel
theorem dL_law_219 : decode cL_law 219 = .ok (.aload_n 2, 1) := by decide +kernel
theorem dL_law_220 : decode cL_law 220 = .ok (.aload_n 0, 1) := by decide +kernel
theorem dL_law_221 : decode cL_law 221 = .ok (.iload 4, 2) := by decide +kernel
theorem dL_law_223 : decode cL_law 223 = .ok (.iconst 1, 1) := by decide +kernel
theorem dL_law_224 : decode cL_law 224 = .ok (.iadd, 1) := by decide +kernel
theorem dL_law_225 : decode cL_law 225 = .ok (.iaload, 1) := by decide +kernel
theorem dL_law_226 : decode cL_law 226 = .ok (.aload_n 0, 1) := by decide +kernel
theorem dL_law_227 : decode cL_law 227 = .ok (.iload 4, 2) := by decide +kernel
theorem dL_law_229 : decode cL_law 229 = .ok (.iconst 2, 1) := by decide +kernel
theorem dL_law_230 : decode cL_law 230 = .ok (.iadd, 1) := by decide +kernel
theorem dL_law_231 : decode cL_law 231 = .ok (.iaload, 1) := by decide +kernel
theorem dL_law_232 : decode cL_law 232 = .ok (.invokevirtual 80, 3) := by decide +kernel
theorem dL_law_235 : decode cL_law 235 = .ok (.istore 6, 2) := by decide +kernel
theorem dL_law_237 : decode cL_law 237 = .ok (.aload_n 2, 1) := by decide +kernel
theorem dL_law_238 : decode cL_law 238 = .ok (.invokevirtual 75, 3) := by decide +kernel
theorem dL_law_241 : decode cL_law 241 = .ok (.iload 5, 2) := by decide +kernel
theorem dL_law_243 : decode cL_law 243 = .ok (.if_icmp .eq 5, 3) := by decide +kernel
theorem dL_law_246 : decode cL_law 246 = .ok (.iconst 0, 1) := by decide +kernel
theorem dL_law_247 : decode cL_law 247 = .ok (.ireturn, 1) := by decide +kernel
theorem dL_law_248 : decode cL_law 248 = .ok (.iload 5, 2) := by decide +kernel
theorem dL_law_250 : decode cL_law 250 = .ok (.ifCond .ne 15, 3) := by decide +kernel
theorem dL_law_253 : decode cL_law 253 = .ok (.aload_n 3, 1) := by decide +kernel
theorem dL_law_254 : decode cL_law 254 = .ok (.iconst 0, 1) := by decide +kernel
theorem dL_law_255 : decode cL_law 255 = .ok (.laload, 1) := by decide +kernel
theorem dL_law_256 : decode cL_law 256 = .ok (.iload 6, 2) := by decide +kernel
theorem dL_law_258 : decode cL_law 258 = .ok (.i2l, 1) := by decide +kernel
theorem dL_law_259 : decode cL_law 259 = .ok (.lcmp, 1) := by decide +kernel
theorem dL_law_260 : decode cL_law 260 = .ok (.ifCond .eq 5, 3) := by decide +kernel
theorem dL_law_263 : decode cL_law 263 = .ok (.iconst 0, 1) := by decide +kernel
theorem dL_law_264 : decode cL_law 264 = .ok (.ireturn, 1) := by decide +kernel
theorem dL_law_265 : decode cL_law 265 = .ok (.goto 957, 3) := by decide +kernel
theorem dL_law_268 : decode cL_law 268 = .ok (.aload_n 1, 1) := by decide +kernel
theorem dL_law_269 : decode cL_law 269 = .ok (.aload_n 0, 1) := by decide +kernel
theorem dL_law_270 : decode cL_law 270 = .ok (.iload 4, 2) := by decide +kernel
theorem dL_law_272 : decode cL_law 272 = .ok (.iconst 1, 1) := by decide +kernel
theorem dL_law_273 : decode cL_law 273 = .ok (.iadd, 1) := by decide +kernel
theorem dL_law_274 : decode cL_law 274 = .ok (.iaload, 1) := by decide +kernel
theorem dL_law_275 : decode cL_law 275 = .ok (.aload_n 0, 1) := by decide +kernel
theorem dL_law_276 : decode cL_law 276 = .ok (.iload 4, 2) := by decide +kernel
theorem dL_law_278 : decode cL_law 278 = .ok (.iconst 2, 1) := by decide +kernel
theorem dL_law_279 : decode cL_law 279 = .ok (.iadd, 1) := by decide +kernel
theorem dL_law_280 : decode cL_law 280 = .ok (.iaload, 1) := by decide +kernel
theorem dL_law_281 : decode cL_law 281 = .ok (.aload_n 3, 1) := by decide +kernel
theorem dL_law_282 : decode cL_law 282 = .ok (.invokestatic 81, 3) := by decide +kernel
theorem dL_law_285 : decode cL_law 285 = .ok (.istore 5, 2) := by decide +kernel
theorem dL_law_287 : decode cL_law 287 = .ok (.aload_n 2, 1) := by decide +kernel
theorem dL_law_288 : decode cL_law 288 = .ok (.aload_n 0, 1) := by decide +kernel
theorem dL_law_289 : decode cL_law 289 = .ok (.iload 4, 2) := by decide +kernel
theorem dL_law_291 : decode cL_law 291 = .ok (.iconst 1, 1) := by decide +kernel
theorem dL_law_292 : decode cL_law 292 = .ok (.iadd, 1) := by decide +kernel
theorem dL_law_293 : decode cL_law 293 = .ok (.iaload, 1) := by decide +kernel
theorem dL_law_294 : decode cL_law 294 = .ok (.aload_n 0, 1) := by decide +kernel
theorem dL_law_295 : decode cL_law 295 = .ok (.iload 4, 2) := by decide +kernel
theorem dL_law_297 : decode cL_law 297 = .ok (.iconst 2, 1) := by decide +kernel
theorem dL_law_298 : decode cL_law 298 = .ok (.iadd, 1) := by decide +kernel
theorem dL_law_299 : decode cL_law 299 = .ok (.iaload, 1) := by decide +kernel
theorem dL_law_300 : decode cL_law 300 = .ok (.invokevirtual 83, 3) := by decide +kernel
theorem dL_law_303 : decode cL_law 303 = .ok (.istore 6, 2) := by decide +kernel
theorem dL_law_305 : decode cL_law 305 = .ok (.aload_n 2, 1) := by decide +kernel
theorem dL_law_306 : decode cL_law 306 = .ok (.invokevirtual 75, 3) := by decide +kernel
theorem dL_law_309 : decode cL_law 309 = .ok (.iload 5, 2) := by decide +kernel
theorem dL_law_311 : decode cL_law 311 = .ok (.if_icmp .eq 5, 3) := by decide +kernel
theorem dL_law_314 : decode cL_law 314 = .ok (.iconst 0, 1) := by decide +kernel
theorem dL_law_315 : decode cL_law 315 = .ok (.ireturn, 1) := by decide +kernel
theorem dL_law_316 : decode cL_law 316 = .ok (.iload 5, 2) := by decide +kernel
theorem dL_law_318 : decode cL_law 318 = .ok (.ifCond .ne 15, 3) := by decide +kernel
theorem dL_law_321 : decode cL_law 321 = .ok (.aload_n 3, 1) := by decide +kernel
theorem dL_law_322 : decode cL_law 322 = .ok (.iconst 0, 1) := by decide +kernel
theorem dL_law_323 : decode cL_law 323 = .ok (.laload, 1) := by decide +kernel
theorem dL_law_324 : decode cL_law 324 = .ok (.iload 6, 2) := by decide +kernel
theorem dL_law_326 : decode cL_law 326 = .ok (.i2l, 1) := by decide +kernel
theorem dL_law_327 : decode cL_law 327 = .ok (.lcmp, 1) := by decide +kernel
theorem dL_law_328 : decode cL_law 328 = .ok (.ifCond .eq 5, 3) := by decide +kernel
theorem dL_law_331 : decode cL_law 331 = .ok (.iconst 0, 1) := by decide +kernel
theorem dL_law_332 : decode cL_law 332 = .ok (.ireturn, 1) := by decide +kernel
theorem dL_law_333 : decode cL_law 333 = .ok (.goto 889, 3) := by decide +kernel
theorem dL_law_336 : decode cL_law 336 = .ok (.aload_n 1, 1) := by decide +kernel
theorem dL_law_337 : decode cL_law 337 = .ok (.aload_n 0, 1) := by decide +kernel
theorem dL_law_338 : decode cL_law 338 = .ok (.iload 4, 2) := by decide +kernel
theorem dL_law_340 : decode cL_law 340 = .ok (.iconst 1, 1) := by decide +kernel
theorem dL_law_341 : decode cL_law 341 = .ok (.iadd, 1) := by decide +kernel
theorem dL_law_342 : decode cL_law 342 = .ok (.iaload, 1) := by decide +kernel
theorem dL_law_343 : decode cL_law 343 = .ok (.aload_n 0, 1) := by decide +kernel
theorem dL_law_344 : decode cL_law 344 = .ok (.iload 4, 2) := by decide +kernel
theorem dL_law_346 : decode cL_law 346 = .ok (.iconst 2, 1) := by decide +kernel
theorem dL_law_347 : decode cL_law 347 = .ok (.iadd, 1) := by decide +kernel
theorem dL_law_348 : decode cL_law 348 = .ok (.iaload, 1) := by decide +kernel
theorem dL_law_349 : decode cL_law 349 = .ok (.aload_n 0, 1) := by decide +kernel
theorem dL_law_350 : decode cL_law 350 = .ok (.iload 4, 2) := by decide +kernel
theorem dL_law_352 : decode cL_law 352 = .ok (.iconst 3, 1) := by decide +kernel
theorem dL_law_353 : decode cL_law 353 = .ok (.iadd, 1) := by decide +kernel
theorem dL_law_354 : decode cL_law 354 = .ok (.iaload, 1) := by decide +kernel
theorem dL_law_355 : decode cL_law 355 = .ok (.ifCond .eq 7, 3) := by decide +kernel
theorem dL_law_358 : decode cL_law 358 = .ok (.iconst 1, 1) := by decide +kernel
theorem dL_law_359 : decode cL_law 359 = .ok (.goto 4, 3) := by decide +kernel
theorem dL_law_362 : decode cL_law 362 = .ok (.iconst 0, 1) := by decide +kernel
theorem dL_law_363 : decode cL_law 363 = .ok (.aload_n 3, 1) := by decide +kernel
theorem dL_law_364 : decode cL_law 364 = .ok (.invokestatic 84, 3) := by decide +kernel
theorem dL_law_367 : decode cL_law 367 = .ok (.istore 5, 2) := by decide +kernel
theorem dL_law_369 : decode cL_law 369 = .ok (.aload_n 2, 1) := by decide +kernel
theorem dL_law_370 : decode cL_law 370 = .ok (.aload_n 0, 1) := by decide +kernel
theorem dL_law_371 : decode cL_law 371 = .ok (.iload 4, 2) := by decide +kernel
theorem dL_law_373 : decode cL_law 373 = .ok (.iconst 1, 1) := by decide +kernel
theorem dL_law_374 : decode cL_law 374 = .ok (.iadd, 1) := by decide +kernel
theorem dL_law_375 : decode cL_law 375 = .ok (.iaload, 1) := by decide +kernel
theorem dL_law_376 : decode cL_law 376 = .ok (.aload_n 0, 1) := by decide +kernel
theorem dL_law_377 : decode cL_law 377 = .ok (.iload 4, 2) := by decide +kernel
theorem dL_law_379 : decode cL_law 379 = .ok (.iconst 2, 1) := by decide +kernel
theorem dL_law_380 : decode cL_law 380 = .ok (.iadd, 1) := by decide +kernel
theorem dL_law_381 : decode cL_law 381 = .ok (.iaload, 1) := by decide +kernel
theorem dL_law_382 : decode cL_law 382 = .ok (.aload_n 0, 1) := by decide +kernel
theorem dL_law_383 : decode cL_law 383 = .ok (.iload 4, 2) := by decide +kernel
theorem dL_law_385 : decode cL_law 385 = .ok (.iconst 3, 1) := by decide +kernel
theorem dL_law_386 : decode cL_law 386 = .ok (.iadd, 1) := by decide +kernel
theorem dL_law_387 : decode cL_law 387 = .ok (.iaload, 1) := by decide +kernel
theorem dL_law_388 : decode cL_law 388 = .ok (.ifCond .eq 7, 3) := by decide +kernel
theorem dL_law_391 : decode cL_law 391 = .ok (.iconst 1, 1) := by decide +kernel
theorem dL_law_392 : decode cL_law 392 = .ok (.goto 4, 3) := by decide +kernel
theorem dL_law_395 : decode cL_law 395 = .ok (.iconst 0, 1) := by decide +kernel
theorem dL_law_396 : decode cL_law 396 = .ok (.invokevirtual 87, 3) := by decide +kernel
theorem dL_law_399 : decode cL_law 399 = .ok (.istore 6, 2) := by decide +kernel
theorem dL_law_401 : decode cL_law 401 = .ok (.aload_n 2, 1) := by decide +kernel
theorem dL_law_402 : decode cL_law 402 = .ok (.invokevirtual 75, 3) := by decide +kernel
theorem dL_law_405 : decode cL_law 405 = .ok (.iload 5, 2) := by decide +kernel
theorem dL_law_407 : decode cL_law 407 = .ok (.if_icmp .eq 5, 3) := by decide +kernel
theorem dL_law_410 : decode cL_law 410 = .ok (.iconst 0, 1) := by decide +kernel
theorem dL_law_411 : decode cL_law 411 = .ok (.ireturn, 1) := by decide +kernel
theorem dL_law_412 : decode cL_law 412 = .ok (.iload 5, 2) := by decide +kernel
theorem dL_law_414 : decode cL_law 414 = .ok (.ifCond .ne 22, 3) := by decide +kernel
theorem dL_law_417 : decode cL_law 417 = .ok (.aload_n 3, 1) := by decide +kernel
theorem dL_law_418 : decode cL_law 418 = .ok (.iconst 0, 1) := by decide +kernel
theorem dL_law_419 : decode cL_law 419 = .ok (.laload, 1) := by decide +kernel
theorem dL_law_420 : decode cL_law 420 = .ok (.iload 6, 2) := by decide +kernel
theorem dL_law_422 : decode cL_law 422 = .ok (.ifCond .eq 7, 3) := by decide +kernel
theorem dL_law_425 : decode cL_law 425 = .ok (.lconst 1, 1) := by decide +kernel
theorem dL_law_426 : decode cL_law 426 = .ok (.goto 4, 3) := by decide +kernel
theorem dL_law_429 : decode cL_law 429 = .ok (.lconst 0, 1) := by decide +kernel
theorem dL_law_430 : decode cL_law 430 = .ok (.lcmp, 1) := by decide +kernel
theorem dL_law_431 : decode cL_law 431 = .ok (.ifCond .eq 5, 3) := by decide +kernel
theorem dL_law_434 : decode cL_law 434 = .ok (.iconst 0, 1) := by decide +kernel
theorem dL_law_435 : decode cL_law 435 = .ok (.ireturn, 1) := by decide +kernel
theorem dL_law_436 : decode cL_law 436 = .ok (.goto 786, 3) := by decide +kernel
theorem dL_law_439 : decode cL_law 439 = .ok (.aload_n 1, 1) := by decide +kernel
theorem dL_law_440 : decode cL_law 440 = .ok (.aload_n 0, 1) := by decide +kernel
theorem dL_law_441 : decode cL_law 441 = .ok (.iload 4, 2) := by decide +kernel
theorem dL_law_443 : decode cL_law 443 = .ok (.iconst 1, 1) := by decide +kernel
theorem dL_law_444 : decode cL_law 444 = .ok (.iadd, 1) := by decide +kernel
theorem dL_law_445 : decode cL_law 445 = .ok (.iaload, 1) := by decide +kernel
theorem dL_law_446 : decode cL_law 446 = .ok (.aload_n 0, 1) := by decide +kernel
theorem dL_law_447 : decode cL_law 447 = .ok (.iload 4, 2) := by decide +kernel
theorem dL_law_449 : decode cL_law 449 = .ok (.iconst 2, 1) := by decide +kernel
theorem dL_law_450 : decode cL_law 450 = .ok (.iadd, 1) := by decide +kernel
theorem dL_law_451 : decode cL_law 451 = .ok (.iaload, 1) := by decide +kernel
theorem dL_law_452 : decode cL_law 452 = .ok (.aload_n 0, 1) := by decide +kernel
theorem dL_law_453 : decode cL_law 453 = .ok (.iload 4, 2) := by decide +kernel
theorem dL_law_455 : decode cL_law 455 = .ok (.iconst 3, 1) := by decide +kernel
theorem dL_law_456 : decode cL_law 456 = .ok (.iadd, 1) := by decide +kernel
theorem dL_law_457 : decode cL_law 457 = .ok (.iaload, 1) := by decide +kernel
theorem dL_law_458 : decode cL_law 458 = .ok (.ifCond .eq 7, 3) := by decide +kernel
theorem dL_law_461 : decode cL_law 461 = .ok (.iconst 1, 1) := by decide +kernel
theorem dL_law_462 : decode cL_law 462 = .ok (.goto 4, 3) := by decide +kernel
theorem dL_law_465 : decode cL_law 465 = .ok (.iconst 0, 1) := by decide +kernel
theorem dL_law_466 : decode cL_law 466 = .ok (.aload_n 3, 1) := by decide +kernel
theorem dL_law_467 : decode cL_law 467 = .ok (.invokestatic 88, 3) := by decide +kernel
theorem dL_law_470 : decode cL_law 470 = .ok (.istore 5, 2) := by decide +kernel
theorem dL_law_472 : decode cL_law 472 = .ok (.aload_n 2, 1) := by decide +kernel
theorem dL_law_473 : decode cL_law 473 = .ok (.aload_n 0, 1) := by decide +kernel
theorem dL_law_474 : decode cL_law 474 = .ok (.iload 4, 2) := by decide +kernel
theorem dL_law_476 : decode cL_law 476 = .ok (.iconst 1, 1) := by decide +kernel
theorem dL_law_477 : decode cL_law 477 = .ok (.iadd, 1) := by decide +kernel
theorem dL_law_478 : decode cL_law 478 = .ok (.iaload, 1) := by decide +kernel
theorem dL_law_479 : decode cL_law 479 = .ok (.aload_n 0, 1) := by decide +kernel
theorem dL_law_480 : decode cL_law 480 = .ok (.iload 4, 2) := by decide +kernel
theorem dL_law_482 : decode cL_law 482 = .ok (.iconst 2, 1) := by decide +kernel
theorem dL_law_483 : decode cL_law 483 = .ok (.iadd, 1) := by decide +kernel
theorem dL_law_484 : decode cL_law 484 = .ok (.iaload, 1) := by decide +kernel
theorem dL_law_485 : decode cL_law 485 = .ok (.aload_n 0, 1) := by decide +kernel
theorem dL_law_486 : decode cL_law 486 = .ok (.iload 4, 2) := by decide +kernel
theorem dL_law_488 : decode cL_law 488 = .ok (.iconst 3, 1) := by decide +kernel
theorem dL_law_489 : decode cL_law 489 = .ok (.iadd, 1) := by decide +kernel
theorem dL_law_490 : decode cL_law 490 = .ok (.iaload, 1) := by decide +kernel
theorem dL_law_491 : decode cL_law 491 = .ok (.ifCond .eq 7, 3) := by decide +kernel
theorem dL_law_494 : decode cL_law 494 = .ok (.iconst 1, 1) := by decide +kernel
theorem dL_law_495 : decode cL_law 495 = .ok (.goto 4, 3) := by decide +kernel
theorem dL_law_498 : decode cL_law 498 = .ok (.iconst 0, 1) := by decide +kernel
theorem dL_law_499 : decode cL_law 499 = .ok (.invokevirtual 90, 3) := by decide +kernel
theorem dL_law_502 : decode cL_law 502 = .ok (.istore 6, 2) := by decide +kernel
theorem dL_law_504 : decode cL_law 504 = .ok (.aload_n 2, 1) := by decide +kernel
theorem dL_law_505 : decode cL_law 505 = .ok (.invokevirtual 75, 3) := by decide +kernel
theorem dL_law_508 : decode cL_law 508 = .ok (.iload 5, 2) := by decide +kernel
theorem dL_law_510 : decode cL_law 510 = .ok (.if_icmp .eq 5, 3) := by decide +kernel
theorem dL_law_513 : decode cL_law 513 = .ok (.iconst 0, 1) := by decide +kernel
theorem dL_law_514 : decode cL_law 514 = .ok (.ireturn, 1) := by decide +kernel
theorem dL_law_515 : decode cL_law 515 = .ok (.iload 5, 2) := by decide +kernel
theorem dL_law_517 : decode cL_law 517 = .ok (.ifCond .ne 22, 3) := by decide +kernel
theorem dL_law_520 : decode cL_law 520 = .ok (.aload_n 3, 1) := by decide +kernel
theorem dL_law_521 : decode cL_law 521 = .ok (.iconst 0, 1) := by decide +kernel
theorem dL_law_522 : decode cL_law 522 = .ok (.laload, 1) := by decide +kernel
theorem dL_law_523 : decode cL_law 523 = .ok (.iload 6, 2) := by decide +kernel
theorem dL_law_525 : decode cL_law 525 = .ok (.ifCond .eq 7, 3) := by decide +kernel
theorem dL_law_528 : decode cL_law 528 = .ok (.lconst 1, 1) := by decide +kernel
theorem dL_law_529 : decode cL_law 529 = .ok (.goto 4, 3) := by decide +kernel
theorem dL_law_532 : decode cL_law 532 = .ok (.lconst 0, 1) := by decide +kernel
theorem dL_law_533 : decode cL_law 533 = .ok (.lcmp, 1) := by decide +kernel
theorem dL_law_534 : decode cL_law 534 = .ok (.ifCond .eq 5, 3) := by decide +kernel
theorem dL_law_537 : decode cL_law 537 = .ok (.iconst 0, 1) := by decide +kernel
theorem dL_law_538 : decode cL_law 538 = .ok (.ireturn, 1) := by decide +kernel
theorem dL_law_539 : decode cL_law 539 = .ok (.goto 683, 3) := by decide +kernel
theorem dL_law_542 : decode cL_law 542 = .ok (.aload_n 1, 1) := by decide +kernel
theorem dL_law_543 : decode cL_law 543 = .ok (.aload_n 0, 1) := by decide +kernel
theorem dL_law_544 : decode cL_law 544 = .ok (.iload 4, 2) := by decide +kernel
theorem dL_law_546 : decode cL_law 546 = .ok (.iconst 1, 1) := by decide +kernel
theorem dL_law_547 : decode cL_law 547 = .ok (.iadd, 1) := by decide +kernel
theorem dL_law_548 : decode cL_law 548 = .ok (.iaload, 1) := by decide +kernel
theorem dL_law_549 : decode cL_law 549 = .ok (.aload_n 3, 1) := by decide +kernel
theorem dL_law_550 : decode cL_law 550 = .ok (.invokestatic 91, 3) := by decide +kernel
theorem dL_law_553 : decode cL_law 553 = .ok (.istore 5, 2) := by decide +kernel
theorem dL_law_555 : decode cL_law 555 = .ok (.aload_n 2, 1) := by decide +kernel
theorem dL_law_556 : decode cL_law 556 = .ok (.aload_n 0, 1) := by decide +kernel
theorem dL_law_557 : decode cL_law 557 = .ok (.iload 4, 2) := by decide +kernel
theorem dL_law_559 : decode cL_law 559 = .ok (.iconst 1, 1) := by decide +kernel
theorem dL_law_560 : decode cL_law 560 = .ok (.iadd, 1) := by decide +kernel
theorem dL_law_561 : decode cL_law 561 = .ok (.iaload, 1) := by decide +kernel
theorem dL_law_562 : decode cL_law 562 = .ok (.invokevirtual 94, 3) := by decide +kernel
theorem dL_law_565 : decode cL_law 565 = .ok (.istore 6, 2) := by decide +kernel
theorem dL_law_567 : decode cL_law 567 = .ok (.aload_n 2, 1) := by decide +kernel
theorem dL_law_568 : decode cL_law 568 = .ok (.invokevirtual 75, 3) := by decide +kernel
theorem dL_law_571 : decode cL_law 571 = .ok (.iload 5, 2) := by decide +kernel
theorem dL_law_573 : decode cL_law 573 = .ok (.if_icmp .eq 5, 3) := by decide +kernel
theorem dL_law_576 : decode cL_law 576 = .ok (.iconst 0, 1) := by decide +kernel
theorem dL_law_577 : decode cL_law 577 = .ok (.ireturn, 1) := by decide +kernel
theorem dL_law_578 : decode cL_law 578 = .ok (.iload 5, 2) := by decide +kernel
theorem dL_law_580 : decode cL_law 580 = .ok (.ifCond .ne 15, 3) := by decide +kernel
theorem dL_law_583 : decode cL_law 583 = .ok (.aload_n 3, 1) := by decide +kernel
theorem dL_law_584 : decode cL_law 584 = .ok (.iconst 0, 1) := by decide +kernel
theorem dL_law_585 : decode cL_law 585 = .ok (.laload, 1) := by decide +kernel
theorem dL_law_586 : decode cL_law 586 = .ok (.iload 6, 2) := by decide +kernel
theorem dL_law_588 : decode cL_law 588 = .ok (.i2l, 1) := by decide +kernel
theorem dL_law_589 : decode cL_law 589 = .ok (.lcmp, 1) := by decide +kernel
theorem dL_law_590 : decode cL_law 590 = .ok (.ifCond .eq 5, 3) := by decide +kernel
theorem dL_law_593 : decode cL_law 593 = .ok (.iconst 0, 1) := by decide +kernel
theorem dL_law_594 : decode cL_law 594 = .ok (.ireturn, 1) := by decide +kernel
theorem dL_law_595 : decode cL_law 595 = .ok (.goto 627, 3) := by decide +kernel
theorem dL_law_598 : decode cL_law 598 = .ok (.aload_n 1, 1) := by decide +kernel
theorem dL_law_599 : decode cL_law 599 = .ok (.aload_n 3, 1) := by decide +kernel
theorem dL_law_600 : decode cL_law 600 = .ok (.invokestatic 95, 3) := by decide +kernel
theorem dL_law_603 : decode cL_law 603 = .ok (.istore 5, 2) := by decide +kernel
theorem dL_law_605 : decode cL_law 605 = .ok (.aload_n 2, 1) := by decide +kernel
theorem dL_law_606 : decode cL_law 606 = .ok (.invokevirtual 98, 3) := by decide +kernel
theorem dL_law_609 : decode cL_law 609 = .ok (.istore 6, 2) := by decide +kernel
theorem dL_law_611 : decode cL_law 611 = .ok (.aload_n 2, 1) := by decide +kernel
theorem dL_law_612 : decode cL_law 612 = .ok (.invokevirtual 75, 3) := by decide +kernel
theorem dL_law_615 : decode cL_law 615 = .ok (.iload 5, 2) := by decide +kernel
theorem dL_law_617 : decode cL_law 617 = .ok (.if_icmp .eq 5, 3) := by decide +kernel
theorem dL_law_620 : decode cL_law 620 = .ok (.iconst 0, 1) := by decide +kernel
theorem dL_law_621 : decode cL_law 621 = .ok (.ireturn, 1) := by decide +kernel
theorem dL_law_622 : decode cL_law 622 = .ok (.iload 5, 2) := by decide +kernel
theorem dL_law_624 : decode cL_law 624 = .ok (.ifCond .ne 15, 3) := by decide +kernel
theorem dL_law_627 : decode cL_law 627 = .ok (.aload_n 3, 1) := by decide +kernel
theorem dL_law_628 : decode cL_law 628 = .ok (.iconst 0, 1) := by decide +kernel
theorem dL_law_629 : decode cL_law 629 = .ok (.laload, 1) := by decide +kernel
theorem dL_law_630 : decode cL_law 630 = .ok (.iload 6, 2) := by decide +kernel
theorem dL_law_632 : decode cL_law 632 = .ok (.i2l, 1) := by decide +kernel
theorem dL_law_633 : decode cL_law 633 = .ok (.lcmp, 1) := by decide +kernel
theorem dL_law_634 : decode cL_law 634 = .ok (.ifCond .eq 5, 3) := by decide +kernel
theorem dL_law_637 : decode cL_law 637 = .ok (.iconst 0, 1) := by decide +kernel
theorem dL_law_638 : decode cL_law 638 = .ok (.ireturn, 1) := by decide +kernel
theorem dL_law_639 : decode cL_law 639 = .ok (.goto 583, 3) := by decide +kernel
theorem dL_law_642 : decode cL_law 642 = .ok (.aload_n 1, 1) := by decide +kernel
theorem dL_law_643 : decode cL_law 643 = .ok (.invokevirtual 99, 3) := by decide +kernel
theorem dL_law_646 : decode cL_law 646 = .ok (.aload_n 2, 1) := by decide +kernel
theorem dL_law_647 : decode cL_law 647 = .ok (.invokevirtual 102, 3) := by decide +kernel
theorem dL_law_650 : decode cL_law 650 = .ok (.if_icmp .eq 572, 3) := by decide +kernel
theorem dL_law_653 : decode cL_law 653 = .ok (.iconst 0, 1) := by decide +kernel
theorem dL_law_654 : decode cL_law 654 = .ok (.ireturn, 1) := by decide +kernel
theorem dL_law_655 : decode cL_law 655 = .ok (.aload_n 1, 1) := by decide +kernel
theorem dL_law_656 : decode cL_law 656 = .ok (.invokevirtual 103, 3) := by decide +kernel
theorem dL_law_659 : decode cL_law 659 = .ok (.aload_n 2, 1) := by decide +kernel
theorem dL_law_660 : decode cL_law 660 = .ok (.invokevirtual 106, 3) := by decide +kernel
theorem dL_law_663 : decode cL_law 663 = .ok (.if_icmp .eq 559, 3) := by decide +kernel
theorem dL_law_666 : decode cL_law 666 = .ok (.iconst 0, 1) := by decide +kernel
theorem dL_law_667 : decode cL_law 667 = .ok (.ireturn, 1) := by decide +kernel
theorem dL_law_668 : decode cL_law 668 = .ok (.aload_n 1, 1) := by decide +kernel
theorem dL_law_669 : decode cL_law 669 = .ok (.invokevirtual 107, 3) := by decide +kernel
theorem dL_law_672 : decode cL_law 672 = .ok (.aload_n 2, 1) := by decide +kernel
theorem dL_law_673 : decode cL_law 673 = .ok (.invokevirtual 110, 3) := by decide +kernel
theorem dL_law_676 : decode cL_law 676 = .ok (.if_icmp .eq 546, 3) := by decide +kernel
theorem dL_law_679 : decode cL_law 679 = .ok (.iconst 0, 1) := by decide +kernel
theorem dL_law_680 : decode cL_law 680 = .ok (.ireturn, 1) := by decide +kernel
theorem dL_law_681 : decode cL_law 681 = .ok (.aload_n 1, 1) := by decide +kernel
theorem dL_law_682 : decode cL_law 682 = .ok (.aload_n 0, 1) := by decide +kernel
theorem dL_law_683 : decode cL_law 683 = .ok (.iload 4, 2) := by decide +kernel
theorem dL_law_685 : decode cL_law 685 = .ok (.iconst 1, 1) := by decide +kernel
theorem dL_law_686 : decode cL_law 686 = .ok (.iadd, 1) := by decide +kernel
theorem dL_law_687 : decode cL_law 687 = .ok (.iaload, 1) := by decide +kernel
theorem dL_law_688 : decode cL_law 688 = .ok (.aload_n 3, 1) := by decide +kernel
theorem dL_law_689 : decode cL_law 689 = .ok (.invokestatic 111, 3) := by decide +kernel
theorem dL_law_692 : decode cL_law 692 = .ok (.istore 5, 2) := by decide +kernel
theorem dL_law_694 : decode cL_law 694 = .ok (.aload_n 2, 1) := by decide +kernel
theorem dL_law_695 : decode cL_law 695 = .ok (.aload_n 0, 1) := by decide +kernel
theorem dL_law_696 : decode cL_law 696 = .ok (.iload 4, 2) := by decide +kernel
theorem dL_law_698 : decode cL_law 698 = .ok (.iconst 1, 1) := by decide +kernel
theorem dL_law_699 : decode cL_law 699 = .ok (.iadd, 1) := by decide +kernel
theorem dL_law_700 : decode cL_law 700 = .ok (.iaload, 1) := by decide +kernel
theorem dL_law_701 : decode cL_law 701 = .ok (.invokevirtual 113, 3) := by decide +kernel
theorem dL_law_704 : decode cL_law 704 = .ok (.istore 6, 2) := by decide +kernel
theorem dL_law_706 : decode cL_law 706 = .ok (.aload_n 2, 1) := by decide +kernel
theorem dL_law_707 : decode cL_law 707 = .ok (.invokevirtual 75, 3) := by decide +kernel
theorem dL_law_710 : decode cL_law 710 = .ok (.iload 5, 2) := by decide +kernel
theorem dL_law_712 : decode cL_law 712 = .ok (.if_icmp .eq 5, 3) := by decide +kernel
theorem dL_law_715 : decode cL_law 715 = .ok (.iconst 0, 1) := by decide +kernel
theorem dL_law_716 : decode cL_law 716 = .ok (.ireturn, 1) := by decide +kernel
theorem dL_law_717 : decode cL_law 717 = .ok (.iload 5, 2) := by decide +kernel
theorem dL_law_719 : decode cL_law 719 = .ok (.ifCond .ne 15, 3) := by decide +kernel
theorem dL_law_722 : decode cL_law 722 = .ok (.aload_n 3, 1) := by decide +kernel
theorem dL_law_723 : decode cL_law 723 = .ok (.iconst 0, 1) := by decide +kernel
theorem dL_law_724 : decode cL_law 724 = .ok (.laload, 1) := by decide +kernel
theorem dL_law_725 : decode cL_law 725 = .ok (.iload 6, 2) := by decide +kernel
theorem dL_law_727 : decode cL_law 727 = .ok (.i2l, 1) := by decide +kernel
theorem dL_law_728 : decode cL_law 728 = .ok (.lcmp, 1) := by decide +kernel
theorem dL_law_729 : decode cL_law 729 = .ok (.ifCond .eq 5, 3) := by decide +kernel
theorem dL_law_732 : decode cL_law 732 = .ok (.iconst 0, 1) := by decide +kernel
theorem dL_law_733 : decode cL_law 733 = .ok (.ireturn, 1) := by decide +kernel
theorem dL_law_734 : decode cL_law 734 = .ok (.goto 488, 3) := by decide +kernel
theorem dL_law_737 : decode cL_law 737 = .ok (.aload_n 1, 1) := by decide +kernel
theorem dL_law_738 : decode cL_law 738 = .ok (.aload_n 0, 1) := by decide +kernel
theorem dL_law_739 : decode cL_law 739 = .ok (.iload 4, 2) := by decide +kernel
theorem dL_law_741 : decode cL_law 741 = .ok (.iconst 1, 1) := by decide +kernel
theorem dL_law_742 : decode cL_law 742 = .ok (.iadd, 1) := by decide +kernel
theorem dL_law_743 : decode cL_law 743 = .ok (.iaload, 1) := by decide +kernel
theorem dL_law_744 : decode cL_law 744 = .ok (.aload_n 3, 1) := by decide +kernel
theorem dL_law_745 : decode cL_law 745 = .ok (.invokestatic 114, 3) := by decide +kernel
theorem dL_law_748 : decode cL_law 748 = .ok (.istore 5, 2) := by decide +kernel
theorem dL_law_750 : decode cL_law 750 = .ok (.aload_n 2, 1) := by decide +kernel
theorem dL_law_751 : decode cL_law 751 = .ok (.aload_n 0, 1) := by decide +kernel
theorem dL_law_752 : decode cL_law 752 = .ok (.iload 4, 2) := by decide +kernel
theorem dL_law_754 : decode cL_law 754 = .ok (.iconst 1, 1) := by decide +kernel
theorem dL_law_755 : decode cL_law 755 = .ok (.iadd, 1) := by decide +kernel
theorem dL_law_756 : decode cL_law 756 = .ok (.iaload, 1) := by decide +kernel
theorem dL_law_757 : decode cL_law 757 = .ok (.invokevirtual 116, 3) := by decide +kernel
theorem dL_law_760 : decode cL_law 760 = .ok (.istore 6, 2) := by decide +kernel
theorem dL_law_762 : decode cL_law 762 = .ok (.aload_n 2, 1) := by decide +kernel
theorem dL_law_763 : decode cL_law 763 = .ok (.invokevirtual 75, 3) := by decide +kernel
theorem dL_law_766 : decode cL_law 766 = .ok (.iload 5, 2) := by decide +kernel
theorem dL_law_768 : decode cL_law 768 = .ok (.if_icmp .eq 5, 3) := by decide +kernel
theorem dL_law_771 : decode cL_law 771 = .ok (.iconst 0, 1) := by decide +kernel
theorem dL_law_772 : decode cL_law 772 = .ok (.ireturn, 1) := by decide +kernel
theorem dL_law_773 : decode cL_law 773 = .ok (.iload 5, 2) := by decide +kernel
theorem dL_law_775 : decode cL_law 775 = .ok (.ifCond .ne 15, 3) := by decide +kernel
theorem dL_law_778 : decode cL_law 778 = .ok (.aload_n 3, 1) := by decide +kernel
theorem dL_law_779 : decode cL_law 779 = .ok (.iconst 0, 1) := by decide +kernel
theorem dL_law_780 : decode cL_law 780 = .ok (.laload, 1) := by decide +kernel
theorem dL_law_781 : decode cL_law 781 = .ok (.iload 6, 2) := by decide +kernel
theorem dL_law_783 : decode cL_law 783 = .ok (.i2l, 1) := by decide +kernel
theorem dL_law_784 : decode cL_law 784 = .ok (.lcmp, 1) := by decide +kernel
theorem dL_law_785 : decode cL_law 785 = .ok (.ifCond .eq 5, 3) := by decide +kernel
theorem dL_law_788 : decode cL_law 788 = .ok (.iconst 0, 1) := by decide +kernel
theorem dL_law_789 : decode cL_law 789 = .ok (.ireturn, 1) := by decide +kernel
theorem dL_law_790 : decode cL_law 790 = .ok (.goto 432, 3) := by decide +kernel
theorem dL_law_793 : decode cL_law 793 = .ok (.aload_n 1, 1) := by decide +kernel
theorem dL_law_794 : decode cL_law 794 = .ok (.aload_n 0, 1) := by decide +kernel
theorem dL_law_795 : decode cL_law 795 = .ok (.iload 4, 2) := by decide +kernel
theorem dL_law_797 : decode cL_law 797 = .ok (.iconst 1, 1) := by decide +kernel
theorem dL_law_798 : decode cL_law 798 = .ok (.iadd, 1) := by decide +kernel
theorem dL_law_799 : decode cL_law 799 = .ok (.iaload, 1) := by decide +kernel
theorem dL_law_800 : decode cL_law 800 = .ok (.aload_n 0, 1) := by decide +kernel
theorem dL_law_801 : decode cL_law 801 = .ok (.iload 4, 2) := by decide +kernel
theorem dL_law_803 : decode cL_law 803 = .ok (.iconst 2, 1) := by decide +kernel
theorem dL_law_804 : decode cL_law 804 = .ok (.iadd, 1) := by decide +kernel
theorem dL_law_805 : decode cL_law 805 = .ok (.iaload, 1) := by decide +kernel
theorem dL_law_806 : decode cL_law 806 = .ok (.aload_n 3, 1) := by decide +kernel
theorem dL_law_807 : decode cL_law 807 = .ok (.invokestatic 117, 3) := by decide +kernel
theorem dL_law_810 : decode cL_law 810 = .ok (.istore 5, 2) := by decide +kernel
theorem dL_law_812 : decode cL_law 812 = .ok (.aload_n 2, 1) := by decide +kernel
theorem dL_law_813 : decode cL_law 813 = .ok (.aload_n 0, 1) := by decide +kernel
theorem dL_law_814 : decode cL_law 814 = .ok (.iload 4, 2) := by decide +kernel
theorem dL_law_816 : decode cL_law 816 = .ok (.iconst 1, 1) := by decide +kernel
theorem dL_law_817 : decode cL_law 817 = .ok (.iadd, 1) := by decide +kernel
theorem dL_law_818 : decode cL_law 818 = .ok (.iaload, 1) := by decide +kernel
theorem dL_law_819 : decode cL_law 819 = .ok (.aload_n 0, 1) := by decide +kernel
theorem dL_law_820 : decode cL_law 820 = .ok (.iload 4, 2) := by decide +kernel
theorem dL_law_822 : decode cL_law 822 = .ok (.iconst 2, 1) := by decide +kernel
theorem dL_law_823 : decode cL_law 823 = .ok (.iadd, 1) := by decide +kernel
theorem dL_law_824 : decode cL_law 824 = .ok (.iaload, 1) := by decide +kernel
theorem dL_law_825 : decode cL_law 825 = .ok (.invokevirtual 119, 3) := by decide +kernel
theorem dL_law_828 : decode cL_law 828 = .ok (.istore 6, 2) := by decide +kernel
theorem dL_law_830 : decode cL_law 830 = .ok (.aload_n 2, 1) := by decide +kernel
theorem dL_law_831 : decode cL_law 831 = .ok (.invokevirtual 75, 3) := by decide +kernel
theorem dL_law_834 : decode cL_law 834 = .ok (.iload 5, 2) := by decide +kernel
theorem dL_law_836 : decode cL_law 836 = .ok (.if_icmp .eq 5, 3) := by decide +kernel
theorem dL_law_839 : decode cL_law 839 = .ok (.iconst 0, 1) := by decide +kernel
theorem dL_law_840 : decode cL_law 840 = .ok (.ireturn, 1) := by decide +kernel
theorem dL_law_841 : decode cL_law 841 = .ok (.iload 5, 2) := by decide +kernel
theorem dL_law_843 : decode cL_law 843 = .ok (.ifCond .ne 15, 3) := by decide +kernel
theorem dL_law_846 : decode cL_law 846 = .ok (.aload_n 3, 1) := by decide +kernel
theorem dL_law_847 : decode cL_law 847 = .ok (.iconst 0, 1) := by decide +kernel
theorem dL_law_848 : decode cL_law 848 = .ok (.laload, 1) := by decide +kernel
theorem dL_law_849 : decode cL_law 849 = .ok (.iload 6, 2) := by decide +kernel
theorem dL_law_851 : decode cL_law 851 = .ok (.i2l, 1) := by decide +kernel
theorem dL_law_852 : decode cL_law 852 = .ok (.lcmp, 1) := by decide +kernel
theorem dL_law_853 : decode cL_law 853 = .ok (.ifCond .eq 5, 3) := by decide +kernel
theorem dL_law_856 : decode cL_law 856 = .ok (.iconst 0, 1) := by decide +kernel
theorem dL_law_857 : decode cL_law 857 = .ok (.ireturn, 1) := by decide +kernel
theorem dL_law_858 : decode cL_law 858 = .ok (.goto 364, 3) := by decide +kernel
theorem dL_law_861 : decode cL_law 861 = .ok (.aload_n 1, 1) := by decide +kernel
theorem dL_law_862 : decode cL_law 862 = .ok (.invokevirtual 120, 3) := by decide +kernel
theorem dL_law_865 : decode cL_law 865 = .ok (.aload_n 2, 1) := by decide +kernel
theorem dL_law_866 : decode cL_law 866 = .ok (.invokevirtual 123, 3) := by decide +kernel
theorem dL_law_869 : decode cL_law 869 = .ok (.if_icmp .eq 353, 3) := by decide +kernel
theorem dL_law_872 : decode cL_law 872 = .ok (.iconst 0, 1) := by decide +kernel
theorem dL_law_873 : decode cL_law 873 = .ok (.ireturn, 1) := by decide +kernel
theorem dL_law_874 : decode cL_law 874 = .ok (.aload_n 1, 1) := by decide +kernel
theorem dL_law_875 : decode cL_law 875 = .ok (.aload_n 0, 1) := by decide +kernel
theorem dL_law_876 : decode cL_law 876 = .ok (.iload 4, 2) := by decide +kernel
theorem dL_law_878 : decode cL_law 878 = .ok (.iconst 1, 1) := by decide +kernel
theorem dL_law_879 : decode cL_law 879 = .ok (.iadd, 1) := by decide +kernel
theorem dL_law_880 : decode cL_law 880 = .ok (.iaload, 1) := by decide +kernel
theorem dL_law_881 : decode cL_law 881 = .ok (.aload_n 0, 1) := by decide +kernel
theorem dL_law_882 : decode cL_law 882 = .ok (.iload 4, 2) := by decide +kernel
theorem dL_law_884 : decode cL_law 884 = .ok (.iconst 2, 1) := by decide +kernel
theorem dL_law_885 : decode cL_law 885 = .ok (.iadd, 1) := by decide +kernel
theorem dL_law_886 : decode cL_law 886 = .ok (.iaload, 1) := by decide +kernel
theorem dL_law_887 : decode cL_law 887 = .ok (.aload_n 3, 1) := by decide +kernel
theorem dL_law_888 : decode cL_law 888 = .ok (.invokestatic 124, 3) := by decide +kernel
theorem dL_law_891 : decode cL_law 891 = .ok (.istore 5, 2) := by decide +kernel
theorem dL_law_893 : decode cL_law 893 = .ok (.aload_n 2, 1) := by decide +kernel
theorem dL_law_894 : decode cL_law 894 = .ok (.aload_n 0, 1) := by decide +kernel
theorem dL_law_895 : decode cL_law 895 = .ok (.iload 4, 2) := by decide +kernel
theorem dL_law_897 : decode cL_law 897 = .ok (.iconst 1, 1) := by decide +kernel
theorem dL_law_898 : decode cL_law 898 = .ok (.iadd, 1) := by decide +kernel
theorem dL_law_899 : decode cL_law 899 = .ok (.iaload, 1) := by decide +kernel
theorem dL_law_900 : decode cL_law 900 = .ok (.aload_n 0, 1) := by decide +kernel
theorem dL_law_901 : decode cL_law 901 = .ok (.iload 4, 2) := by decide +kernel
theorem dL_law_903 : decode cL_law 903 = .ok (.iconst 2, 1) := by decide +kernel
theorem dL_law_904 : decode cL_law 904 = .ok (.iadd, 1) := by decide +kernel
theorem dL_law_905 : decode cL_law 905 = .ok (.iaload, 1) := by decide +kernel
theorem dL_law_906 : decode cL_law 906 = .ok (.invokevirtual 126, 3) := by decide +kernel
theorem dL_law_909 : decode cL_law 909 = .ok (.istore 6, 2) := by decide +kernel
theorem dL_law_911 : decode cL_law 911 = .ok (.aload_n 2, 1) := by decide +kernel
theorem dL_law_912 : decode cL_law 912 = .ok (.invokevirtual 75, 3) := by decide +kernel
theorem dL_law_915 : decode cL_law 915 = .ok (.iload 5, 2) := by decide +kernel
theorem dL_law_917 : decode cL_law 917 = .ok (.if_icmp .eq 5, 3) := by decide +kernel
theorem dL_law_920 : decode cL_law 920 = .ok (.iconst 0, 1) := by decide +kernel
theorem dL_law_921 : decode cL_law 921 = .ok (.ireturn, 1) := by decide +kernel
theorem dL_law_922 : decode cL_law 922 = .ok (.iload 5, 2) := by decide +kernel
theorem dL_law_924 : decode cL_law 924 = .ok (.ifCond .ne 22, 3) := by decide +kernel
theorem dL_law_927 : decode cL_law 927 = .ok (.aload_n 3, 1) := by decide +kernel
theorem dL_law_928 : decode cL_law 928 = .ok (.iconst 0, 1) := by decide +kernel
theorem dL_law_929 : decode cL_law 929 = .ok (.laload, 1) := by decide +kernel
theorem dL_law_930 : decode cL_law 930 = .ok (.iload 6, 2) := by decide +kernel
theorem dL_law_932 : decode cL_law 932 = .ok (.ifCond .eq 7, 3) := by decide +kernel
theorem dL_law_935 : decode cL_law 935 = .ok (.lconst 1, 1) := by decide +kernel
theorem dL_law_936 : decode cL_law 936 = .ok (.goto 4, 3) := by decide +kernel
theorem dL_law_939 : decode cL_law 939 = .ok (.lconst 0, 1) := by decide +kernel
theorem dL_law_940 : decode cL_law 940 = .ok (.lcmp, 1) := by decide +kernel
theorem dL_law_941 : decode cL_law 941 = .ok (.ifCond .eq 5, 3) := by decide +kernel
theorem dL_law_944 : decode cL_law 944 = .ok (.iconst 0, 1) := by decide +kernel
theorem dL_law_945 : decode cL_law 945 = .ok (.ireturn, 1) := by decide +kernel
theorem dL_law_946 : decode cL_law 946 = .ok (.goto 276, 3) := by decide +kernel
theorem dL_law_949 : decode cL_law 949 = .ok (.aload_n 1, 1) := by decide +kernel
theorem dL_law_950 : decode cL_law 950 = .ok (.aload_n 0, 1) := by decide +kernel
theorem dL_law_951 : decode cL_law 951 = .ok (.iload 4, 2) := by decide +kernel
theorem dL_law_953 : decode cL_law 953 = .ok (.iconst 1, 1) := by decide +kernel
theorem dL_law_954 : decode cL_law 954 = .ok (.iadd, 1) := by decide +kernel
theorem dL_law_955 : decode cL_law 955 = .ok (.iaload, 1) := by decide +kernel
theorem dL_law_956 : decode cL_law 956 = .ok (.aload_n 3, 1) := by decide +kernel
theorem dL_law_957 : decode cL_law 957 = .ok (.invokestatic 127, 3) := by decide +kernel
theorem dL_law_960 : decode cL_law 960 = .ok (.istore 5, 2) := by decide +kernel
theorem dL_law_962 : decode cL_law 962 = .ok (.aload_n 2, 1) := by decide +kernel
theorem dL_law_963 : decode cL_law 963 = .ok (.aload_n 0, 1) := by decide +kernel
theorem dL_law_964 : decode cL_law 964 = .ok (.iload 4, 2) := by decide +kernel
theorem dL_law_966 : decode cL_law 966 = .ok (.iconst 1, 1) := by decide +kernel
theorem dL_law_967 : decode cL_law 967 = .ok (.iadd, 1) := by decide +kernel
theorem dL_law_968 : decode cL_law 968 = .ok (.iaload, 1) := by decide +kernel
theorem dL_law_969 : decode cL_law 969 = .ok (.invokevirtual 129, 3) := by decide +kernel
theorem dL_law_972 : decode cL_law 972 = .ok (.istore 6, 2) := by decide +kernel
theorem dL_law_974 : decode cL_law 974 = .ok (.aload_n 2, 1) := by decide +kernel
theorem dL_law_975 : decode cL_law 975 = .ok (.invokevirtual 75, 3) := by decide +kernel
theorem dL_law_978 : decode cL_law 978 = .ok (.iload 5, 2) := by decide +kernel
theorem dL_law_980 : decode cL_law 980 = .ok (.if_icmp .eq 5, 3) := by decide +kernel
theorem dL_law_983 : decode cL_law 983 = .ok (.iconst 0, 1) := by decide +kernel
theorem dL_law_984 : decode cL_law 984 = .ok (.ireturn, 1) := by decide +kernel
theorem dL_law_985 : decode cL_law 985 = .ok (.iload 5, 2) := by decide +kernel
theorem dL_law_987 : decode cL_law 987 = .ok (.ifCond .ne 15, 3) := by decide +kernel
theorem dL_law_990 : decode cL_law 990 = .ok (.aload_n 3, 1) := by decide +kernel
theorem dL_law_991 : decode cL_law 991 = .ok (.iconst 0, 1) := by decide +kernel
theorem dL_law_992 : decode cL_law 992 = .ok (.laload, 1) := by decide +kernel
theorem dL_law_993 : decode cL_law 993 = .ok (.iload 6, 2) := by decide +kernel
theorem dL_law_995 : decode cL_law 995 = .ok (.i2l, 1) := by decide +kernel
theorem dL_law_996 : decode cL_law 996 = .ok (.lcmp, 1) := by decide +kernel
theorem dL_law_997 : decode cL_law 997 = .ok (.ifCond .eq 5, 3) := by decide +kernel
theorem dL_law_1000 : decode cL_law 1000 = .ok (.iconst 0, 1) := by decide +kernel
theorem dL_law_1001 : decode cL_law 1001 = .ok (.ireturn, 1) := by decide +kernel
theorem dL_law_1002 : decode cL_law 1002 = .ok (.goto 220, 3) := by decide +kernel
theorem dL_law_1005 : decode cL_law 1005 = .ok (.aload_n 1, 1) := by decide +kernel
theorem dL_law_1006 : decode cL_law 1006 = .ok (.aload_n 0, 1) := by decide +kernel
theorem dL_law_1007 : decode cL_law 1007 = .ok (.iload 4, 2) := by decide +kernel
theorem dL_law_1009 : decode cL_law 1009 = .ok (.iconst 1, 1) := by decide +kernel
theorem dL_law_1010 : decode cL_law 1010 = .ok (.iadd, 1) := by decide +kernel
theorem dL_law_1011 : decode cL_law 1011 = .ok (.iaload, 1) := by decide +kernel
theorem dL_law_1012 : decode cL_law 1012 = .ok (.aload_n 0, 1) := by decide +kernel
theorem dL_law_1013 : decode cL_law 1013 = .ok (.iload 4, 2) := by decide +kernel
theorem dL_law_1015 : decode cL_law 1015 = .ok (.iconst 2, 1) := by decide +kernel
theorem dL_law_1016 : decode cL_law 1016 = .ok (.iadd, 1) := by decide +kernel
theorem dL_law_1017 : decode cL_law 1017 = .ok (.iaload, 1) := by decide +kernel
theorem dL_law_1018 : decode cL_law 1018 = .ok (.aload_n 3, 1) := by decide +kernel
theorem dL_law_1019 : decode cL_law 1019 = .ok (.invokestatic 130, 3) := by decide +kernel
theorem dL_law_1022 : decode cL_law 1022 = .ok (.istore 5, 2) := by decide +kernel
theorem dL_law_1024 : decode cL_law 1024 = .ok (.aload_n 2, 1) := by decide +kernel
theorem dL_law_1025 : decode cL_law 1025 = .ok (.aload_n 0, 1) := by decide +kernel
theorem dL_law_1026 : decode cL_law 1026 = .ok (.iload 4, 2) := by decide +kernel
theorem dL_law_1028 : decode cL_law 1028 = .ok (.iconst 1, 1) := by decide +kernel
theorem dL_law_1029 : decode cL_law 1029 = .ok (.iadd, 1) := by decide +kernel
theorem dL_law_1030 : decode cL_law 1030 = .ok (.iaload, 1) := by decide +kernel
theorem dL_law_1031 : decode cL_law 1031 = .ok (.aload_n 0, 1) := by decide +kernel
theorem dL_law_1032 : decode cL_law 1032 = .ok (.iload 4, 2) := by decide +kernel
theorem dL_law_1034 : decode cL_law 1034 = .ok (.iconst 2, 1) := by decide +kernel
theorem dL_law_1035 : decode cL_law 1035 = .ok (.iadd, 1) := by decide +kernel
theorem dL_law_1036 : decode cL_law 1036 = .ok (.iaload, 1) := by decide +kernel
theorem dL_law_1037 : decode cL_law 1037 = .ok (.invokevirtual 132, 3) := by decide +kernel
theorem dL_law_1040 : decode cL_law 1040 = .ok (.istore 6, 2) := by decide +kernel
theorem dL_law_1042 : decode cL_law 1042 = .ok (.aload_n 2, 1) := by decide +kernel
theorem dL_law_1043 : decode cL_law 1043 = .ok (.invokevirtual 75, 3) := by decide +kernel
theorem dL_law_1046 : decode cL_law 1046 = .ok (.iload 5, 2) := by decide +kernel
theorem dL_law_1048 : decode cL_law 1048 = .ok (.if_icmp .eq 5, 3) := by decide +kernel
theorem dL_law_1051 : decode cL_law 1051 = .ok (.iconst 0, 1) := by decide +kernel
theorem dL_law_1052 : decode cL_law 1052 = .ok (.ireturn, 1) := by decide +kernel
theorem dL_law_1053 : decode cL_law 1053 = .ok (.iload 5, 2) := by decide +kernel
theorem dL_law_1055 : decode cL_law 1055 = .ok (.ifCond .ne 15, 3) := by decide +kernel
theorem dL_law_1058 : decode cL_law 1058 = .ok (.aload_n 3, 1) := by decide +kernel
theorem dL_law_1059 : decode cL_law 1059 = .ok (.iconst 0, 1) := by decide +kernel
theorem dL_law_1060 : decode cL_law 1060 = .ok (.laload, 1) := by decide +kernel
theorem dL_law_1061 : decode cL_law 1061 = .ok (.iload 6, 2) := by decide +kernel
theorem dL_law_1063 : decode cL_law 1063 = .ok (.i2l, 1) := by decide +kernel
theorem dL_law_1064 : decode cL_law 1064 = .ok (.lcmp, 1) := by decide +kernel
theorem dL_law_1065 : decode cL_law 1065 = .ok (.ifCond .eq 5, 3) := by decide +kernel
theorem dL_law_1068 : decode cL_law 1068 = .ok (.iconst 0, 1) := by decide +kernel
theorem dL_law_1069 : decode cL_law 1069 = .ok (.ireturn, 1) := by decide +kernel
theorem dL_law_1070 : decode cL_law 1070 = .ok (.goto 152, 3) := by decide +kernel
theorem dL_law_1073 : decode cL_law 1073 = .ok (.aload_n 1, 1) := by decide +kernel
theorem dL_law_1074 : decode cL_law 1074 = .ok (.invokevirtual 133, 3) := by decide +kernel
theorem dL_law_1077 : decode cL_law 1077 = .ok (.aload_n 2, 1) := by decide +kernel
theorem dL_law_1078 : decode cL_law 1078 = .ok (.invokevirtual 136, 3) := by decide +kernel
theorem dL_law_1081 : decode cL_law 1081 = .ok (.if_icmp .eq 141, 3) := by decide +kernel
theorem dL_law_1084 : decode cL_law 1084 = .ok (.iconst 0, 1) := by decide +kernel
theorem dL_law_1085 : decode cL_law 1085 = .ok (.ireturn, 1) := by decide +kernel
theorem dL_law_1086 : decode cL_law 1086 = .ok (.aload_n 1, 1) := by decide +kernel
theorem dL_law_1087 : decode cL_law 1087 = .ok (.aload_n 0, 1) := by decide +kernel
theorem dL_law_1088 : decode cL_law 1088 = .ok (.iload 4, 2) := by decide +kernel
theorem dL_law_1090 : decode cL_law 1090 = .ok (.iconst 1, 1) := by decide +kernel
theorem dL_law_1091 : decode cL_law 1091 = .ok (.iadd, 1) := by decide +kernel
theorem dL_law_1092 : decode cL_law 1092 = .ok (.iaload, 1) := by decide +kernel
theorem dL_law_1093 : decode cL_law 1093 = .ok (.aload_n 0, 1) := by decide +kernel
theorem dL_law_1094 : decode cL_law 1094 = .ok (.iload 4, 2) := by decide +kernel
theorem dL_law_1096 : decode cL_law 1096 = .ok (.iconst 2, 1) := by decide +kernel
theorem dL_law_1097 : decode cL_law 1097 = .ok (.iadd, 1) := by decide +kernel
theorem dL_law_1098 : decode cL_law 1098 = .ok (.iaload, 1) := by decide +kernel
theorem dL_law_1099 : decode cL_law 1099 = .ok (.aload_n 3, 1) := by decide +kernel
theorem dL_law_1100 : decode cL_law 1100 = .ok (.invokestatic 137, 3) := by decide +kernel
theorem dL_law_1103 : decode cL_law 1103 = .ok (.istore 5, 2) := by decide +kernel
theorem dL_law_1105 : decode cL_law 1105 = .ok (.aload_n 2, 1) := by decide +kernel
theorem dL_law_1106 : decode cL_law 1106 = .ok (.aload_n 0, 1) := by decide +kernel
theorem dL_law_1107 : decode cL_law 1107 = .ok (.iload 4, 2) := by decide +kernel
theorem dL_law_1109 : decode cL_law 1109 = .ok (.iconst 1, 1) := by decide +kernel
theorem dL_law_1110 : decode cL_law 1110 = .ok (.iadd, 1) := by decide +kernel
theorem dL_law_1111 : decode cL_law 1111 = .ok (.iaload, 1) := by decide +kernel
theorem dL_law_1112 : decode cL_law 1112 = .ok (.aload_n 0, 1) := by decide +kernel
theorem dL_law_1113 : decode cL_law 1113 = .ok (.iload 4, 2) := by decide +kernel
theorem dL_law_1115 : decode cL_law 1115 = .ok (.iconst 2, 1) := by decide +kernel
theorem dL_law_1116 : decode cL_law 1116 = .ok (.iadd, 1) := by decide +kernel
theorem dL_law_1117 : decode cL_law 1117 = .ok (.iaload, 1) := by decide +kernel
theorem dL_law_1118 : decode cL_law 1118 = .ok (.invokevirtual 139, 3) := by decide +kernel
theorem dL_law_1121 : decode cL_law 1121 = .ok (.istore 6, 2) := by decide +kernel
theorem dL_law_1123 : decode cL_law 1123 = .ok (.aload_n 2, 1) := by decide +kernel
theorem dL_law_1124 : decode cL_law 1124 = .ok (.invokevirtual 75, 3) := by decide +kernel
theorem dL_law_1127 : decode cL_law 1127 = .ok (.iload 5, 2) := by decide +kernel
theorem dL_law_1129 : decode cL_law 1129 = .ok (.if_icmp .eq 5, 3) := by decide +kernel
theorem dL_law_1132 : decode cL_law 1132 = .ok (.iconst 0, 1) := by decide +kernel
theorem dL_law_1133 : decode cL_law 1133 = .ok (.ireturn, 1) := by decide +kernel
theorem dL_law_1134 : decode cL_law 1134 = .ok (.iload 5, 2) := by decide +kernel
theorem dL_law_1136 : decode cL_law 1136 = .ok (.ifCond .ne 15, 3) := by decide +kernel
theorem dL_law_1139 : decode cL_law 1139 = .ok (.aload_n 3, 1) := by decide +kernel
theorem dL_law_1140 : decode cL_law 1140 = .ok (.iconst 0, 1) := by decide +kernel
theorem dL_law_1141 : decode cL_law 1141 = .ok (.laload, 1) := by decide +kernel
theorem dL_law_1142 : decode cL_law 1142 = .ok (.iload 6, 2) := by decide +kernel
theorem dL_law_1144 : decode cL_law 1144 = .ok (.i2l, 1) := by decide +kernel
theorem dL_law_1145 : decode cL_law 1145 = .ok (.lcmp, 1) := by decide +kernel
theorem dL_law_1146 : decode cL_law 1146 = .ok (.ifCond .eq 5, 3) := by decide +kernel
theorem dL_law_1149 : decode cL_law 1149 = .ok (.iconst 0, 1) := by decide +kernel
theorem dL_law_1150 : decode cL_law 1150 = .ok (.ireturn, 1) := by decide +kernel
theorem dL_law_1151 : decode cL_law 1151 = .ok (.goto 71, 3) := by decide +kernel
theorem dL_law_1154 : decode cL_law 1154 = .ok (.aload_n 1, 1) := by decide +kernel
theorem dL_law_1155 : decode cL_law 1155 = .ok (.aload_n 0, 1) := by decide +kernel
theorem dL_law_1156 : decode cL_law 1156 = .ok (.iload 4, 2) := by decide +kernel
theorem dL_law_1158 : decode cL_law 1158 = .ok (.iconst 1, 1) := by decide +kernel
theorem dL_law_1159 : decode cL_law 1159 = .ok (.iadd, 1) := by decide +kernel
theorem dL_law_1160 : decode cL_law 1160 = .ok (.iaload, 1) := by decide +kernel
theorem dL_law_1161 : decode cL_law 1161 = .ok (.aload_n 0, 1) := by decide +kernel
theorem dL_law_1162 : decode cL_law 1162 = .ok (.iload 4, 2) := by decide +kernel
theorem dL_law_1164 : decode cL_law 1164 = .ok (.iconst 2, 1) := by decide +kernel
theorem dL_law_1165 : decode cL_law 1165 = .ok (.iadd, 1) := by decide +kernel
theorem dL_law_1166 : decode cL_law 1166 = .ok (.iaload, 1) := by decide +kernel
theorem dL_law_1167 : decode cL_law 1167 = .ok (.aload_n 3, 1) := by decide +kernel
theorem dL_law_1168 : decode cL_law 1168 = .ok (.invokestatic 140, 3) := by decide +kernel
theorem dL_law_1171 : decode cL_law 1171 = .ok (.istore 5, 2) := by decide +kernel
theorem dL_law_1173 : decode cL_law 1173 = .ok (.aload_n 2, 1) := by decide +kernel
theorem dL_law_1174 : decode cL_law 1174 = .ok (.aload_n 0, 1) := by decide +kernel
theorem dL_law_1175 : decode cL_law 1175 = .ok (.iload 4, 2) := by decide +kernel
theorem dL_law_1177 : decode cL_law 1177 = .ok (.iconst 1, 1) := by decide +kernel
theorem dL_law_1178 : decode cL_law 1178 = .ok (.iadd, 1) := by decide +kernel
theorem dL_law_1179 : decode cL_law 1179 = .ok (.iaload, 1) := by decide +kernel
theorem dL_law_1180 : decode cL_law 1180 = .ok (.aload_n 0, 1) := by decide +kernel
theorem dL_law_1181 : decode cL_law 1181 = .ok (.iload 4, 2) := by decide +kernel
theorem dL_law_1183 : decode cL_law 1183 = .ok (.iconst 2, 1) := by decide +kernel
theorem dL_law_1184 : decode cL_law 1184 = .ok (.iadd, 1) := by decide +kernel
theorem dL_law_1185 : decode cL_law 1185 = .ok (.iaload, 1) := by decide +kernel
theorem dL_law_1186 : decode cL_law 1186 = .ok (.invokevirtual 142, 3) := by decide +kernel
theorem dL_law_1189 : decode cL_law 1189 = .ok (.istore 6, 2) := by decide +kernel
theorem dL_law_1191 : decode cL_law 1191 = .ok (.aload_n 2, 1) := by decide +kernel
theorem dL_law_1192 : decode cL_law 1192 = .ok (.invokevirtual 75, 3) := by decide +kernel
theorem dL_law_1195 : decode cL_law 1195 = .ok (.iload 5, 2) := by decide +kernel
theorem dL_law_1197 : decode cL_law 1197 = .ok (.if_icmp .eq 5, 3) := by decide +kernel
theorem dL_law_1200 : decode cL_law 1200 = .ok (.iconst 0, 1) := by decide +kernel
theorem dL_law_1201 : decode cL_law 1201 = .ok (.ireturn, 1) := by decide +kernel
theorem dL_law_1202 : decode cL_law 1202 = .ok (.iload 5, 2) := by decide +kernel
theorem dL_law_1204 : decode cL_law 1204 = .ok (.ifCond .ne 15, 3) := by decide +kernel
theorem dL_law_1207 : decode cL_law 1207 = .ok (.aload_n 3, 1) := by decide +kernel
theorem dL_law_1208 : decode cL_law 1208 = .ok (.iconst 0, 1) := by decide +kernel
theorem dL_law_1209 : decode cL_law 1209 = .ok (.laload, 1) := by decide +kernel
theorem dL_law_1210 : decode cL_law 1210 = .ok (.iload 6, 2) := by decide +kernel
theorem dL_law_1212 : decode cL_law 1212 = .ok (.i2l, 1) := by decide +kernel
theorem dL_law_1213 : decode cL_law 1213 = .ok (.lcmp, 1) := by decide +kernel
theorem dL_law_1214 : decode cL_law 1214 = .ok (.ifCond .eq 5, 3) := by decide +kernel
theorem dL_law_1217 : decode cL_law 1217 = .ok (.iconst 0, 1) := by decide +kernel
theorem dL_law_1218 : decode cL_law 1218 = .ok (.ireturn, 1) := by decide +kernel
theorem dL_law_1219 : decode cL_law 1219 = .ok (.goto 3, 3) := by decide +kernel
theorem dL_law_1222 : decode cL_law 1222 = .ok (.iinc 4 4, 3) := by decide +kernel
theorem dL_law_1225 : decode cL_law 1225 = .ok (.goto (-1202), 3) := by decide +kernel
theorem dL_law_1228 : decode cL_law 1228 = .ok (.iconst 1, 1) := by decide +kernel
theorem dL_law_1229 : decode cL_law 1229 = .ok (.ireturn, 1) := by decide +kernel
abbrev vwCl : List vw_C := [(RX0, TX0, 9), (RX1, TX1, 2), (RX2, TX2, 9), (RX3, TX3, 17)]
end
section
theorem zz_last : True := trivial
end
