section
-- ===== PART A: goes FIRST, ahead of the names: the tables' words, and 'selects' of the private methods out of them =====
/-- a private method of a class that the tables say can be made, by its rows of tables_1 -/
def lw_okq (q : MethodName × Nat) : Prop := (q.1.cls ≠ "java/lang/invoke/MethodHandle" ∧ q.1.cls ≠ "java/lang/invoke/VarHandle") ∧ Cond.instantiable q.1.cls q.2 ∈ tables_1 ∧ Cond.privateMethod q.1 ∈ tables_1 ∧ Cond.instanceMethod q.1 ∈ tables_1
theorem lw_p0 : lw_okq (⟨"Multidell$Routes", "findLeast", "()V"⟩, 3) := ⟨⟨by decide +kernel, by decide +kernel⟩, List.mem_of_getElem? (i := 25) (by decide +kernel), List.mem_of_getElem? (i := 31) (by decide +kernel), List.mem_of_getElem? (i := 32) (by decide +kernel)⟩
theorem lw_p1 : lw_okq (⟨"Multidell$Routes", "shortenThrough", "(I)V"⟩, 3) := ⟨⟨by decide +kernel, by decide +kernel⟩, List.mem_of_getElem? (i := 25) (by decide +kernel), List.mem_of_getElem? (i := 36) (by decide +kernel), List.mem_of_getElem? (i := 37) (by decide +kernel)⟩
theorem lw_p2 : lw_okq (⟨"Multidell$Routes", "findHops", "()V"⟩, 3) := ⟨⟨by decide +kernel, by decide +kernel⟩, List.mem_of_getElem? (i := 25) (by decide +kernel), List.mem_of_getElem? (i := 40) (by decide +kernel), List.mem_of_getElem? (i := 41) (by decide +kernel)⟩
theorem lw_p3 : lw_okq (⟨"Multidell$Routes", "firstHop", "(II)I"⟩, 3) := ⟨⟨by decide +kernel, by decide +kernel⟩, List.mem_of_getElem? (i := 25) (by decide +kernel), List.mem_of_getElem? (i := 44) (by decide +kernel), List.mem_of_getElem? (i := 45) (by decide +kernel)⟩
theorem lw_p4 : lw_okq (⟨"Multidell$CopyQueue", "firstIn", "([I)I"⟩, 6) := ⟨⟨by decide +kernel, by decide +kernel⟩, List.mem_of_getElem? (i := 130) (by decide +kernel), List.mem_of_getElem? (i := 213) (by decide +kernel), List.mem_of_getElem? (i := 214) (by decide +kernel)⟩
theorem lw_p5 : lw_okq (⟨"Multidell", "getPacket", "(III)Z"⟩, 9) := ⟨⟨by decide +kernel, by decide +kernel⟩, List.mem_of_getElem? (i := 17) (by decide +kernel), List.mem_of_getElem? (i := 242) (by decide +kernel), List.mem_of_getElem? (i := 243) (by decide +kernel)⟩
theorem lw_p6 : lw_okq (⟨"Multidell", "isMember", "(II)Z"⟩, 9) := ⟨⟨by decide +kernel, by decide +kernel⟩, List.mem_of_getElem? (i := 17) (by decide +kernel), List.mem_of_getElem? (i := 254) (by decide +kernel), List.mem_of_getElem? (i := 255) (by decide +kernel)⟩
theorem lw_p7 : lw_okq (⟨"Multidell", "membersOf", "(I)I"⟩, 9) := ⟨⟨by decide +kernel, by decide +kernel⟩, List.mem_of_getElem? (i := 17) (by decide +kernel), List.mem_of_getElem? (i := 258) (by decide +kernel), List.mem_of_getElem? (i := 259) (by decide +kernel)⟩
theorem lw_p8 : lw_okq (⟨"Multidell", "countSaysSwitch", "(III)Z"⟩, 9) := ⟨⟨by decide +kernel, by decide +kernel⟩, List.mem_of_getElem? (i := 17) (by decide +kernel), List.mem_of_getElem? (i := 296) (by decide +kernel), List.mem_of_getElem? (i := 297) (by decide +kernel)⟩
theorem lw_p9 : lw_okq (⟨"Multidell$Forest", "graft", "(IILMultidell$Routes;)V"⟩, 4) := ⟨⟨by decide +kernel, by decide +kernel⟩, List.mem_of_getElem? (i := 70) (by decide +kernel), List.mem_of_getElem? (i := 319) (by decide +kernel), List.mem_of_getElem? (i := 320) (by decide +kernel)⟩
theorem lw_p10 : lw_okq (⟨"Multidell$Forest", "parentOf", "(II)I"⟩, 4) := ⟨⟨by decide +kernel, by decide +kernel⟩, List.mem_of_getElem? (i := 70) (by decide +kernel), List.mem_of_getElem? (i := 324) (by decide +kernel), List.mem_of_getElem? (i := 325) (by decide +kernel)⟩
theorem lw_p11 : lw_okq (⟨"Multidell", "goOn", "(III)V"⟩, 9) := ⟨⟨by decide +kernel, by decide +kernel⟩, List.mem_of_getElem? (i := 17) (by decide +kernel), List.mem_of_getElem? (i := 329) (by decide +kernel), List.mem_of_getElem? (i := 330) (by decide +kernel)⟩
theorem lw_p12 : lw_okq (⟨"java/lang/Throwable", "fillInStackTrace", "(I)Ljava/lang/Throwable;"⟩, 6) := ⟨⟨by decide +kernel, by decide +kernel⟩, List.mem_of_getElem? (i := 417) (by decide +kernel), List.mem_of_getElem? (i := 415) (by decide +kernel), List.mem_of_getElem? (i := 416) (by decide +kernel)⟩
theorem lw_p13 : lw_okq (⟨"Multidell", "bestCandidate", "(I)I"⟩, 9) := ⟨⟨by decide +kernel, by decide +kernel⟩, List.mem_of_getElem? (i := 17) (by decide +kernel), List.mem_of_getElem? (i := 479) (by decide +kernel), List.mem_of_getElem? (i := 480) (by decide +kernel)⟩
theorem lw_p14 : lw_okq (⟨"Multidell$Forest", "letLeave", "(III)V"⟩, 4) := ⟨⟨by decide +kernel, by decide +kernel⟩, List.mem_of_getElem? (i := 70) (by decide +kernel), List.mem_of_getElem? (i := 560) (by decide +kernel), List.mem_of_getElem? (i := 561) (by decide +kernel)⟩
theorem lw_p15 : lw_okq (⟨"Multidell$Forest", "isNeeded", "(II)Z"⟩, 4) := ⟨⟨by decide +kernel, by decide +kernel⟩, List.mem_of_getElem? (i := 70) (by decide +kernel), List.mem_of_getElem? (i := 564) (by decide +kernel), List.mem_of_getElem? (i := 565) (by decide +kernel)⟩
def lw_privs_1 : List (MethodName × Nat) := [(⟨"Multidell$Routes", "findLeast", "()V"⟩, 3), (⟨"Multidell$Routes", "shortenThrough", "(I)V"⟩, 3), (⟨"Multidell$Routes", "findHops", "()V"⟩, 3), (⟨"Multidell$Routes", "firstHop", "(II)I"⟩, 3), (⟨"Multidell$CopyQueue", "firstIn", "([I)I"⟩, 6), (⟨"Multidell", "getPacket", "(III)Z"⟩, 9), (⟨"Multidell", "isMember", "(II)Z"⟩, 9), (⟨"Multidell", "membersOf", "(I)I"⟩, 9), (⟨"Multidell", "countSaysSwitch", "(III)Z"⟩, 9), (⟨"Multidell$Forest", "graft", "(IILMultidell$Routes;)V"⟩, 4), (⟨"Multidell$Forest", "parentOf", "(II)I"⟩, 4), (⟨"Multidell", "goOn", "(III)V"⟩, 9), (⟨"java/lang/Throwable", "fillInStackTrace", "(I)Ljava/lang/Throwable;"⟩, 6), (⟨"Multidell", "bestCandidate", "(I)I"⟩, 9), (⟨"Multidell$Forest", "letLeave", "(III)V"⟩, 4), (⟨"Multidell$Forest", "isNeeded", "(II)Z"⟩, 4)]
theorem lw_r1 : ∀ q ∈ lw_privs_1, lw_okq q := List.forall_mem_cons.mpr ⟨lw_p0, List.forall_mem_cons.mpr ⟨lw_p1, List.forall_mem_cons.mpr ⟨lw_p2, List.forall_mem_cons.mpr ⟨lw_p3, List.forall_mem_cons.mpr ⟨lw_p4, List.forall_mem_cons.mpr ⟨lw_p5, List.forall_mem_cons.mpr ⟨lw_p6, List.forall_mem_cons.mpr ⟨lw_p7, List.forall_mem_cons.mpr ⟨lw_p8, List.forall_mem_cons.mpr ⟨lw_p9, List.forall_mem_cons.mpr ⟨lw_p10, List.forall_mem_cons.mpr ⟨lw_p11, List.forall_mem_cons.mpr ⟨lw_p12, List.forall_mem_cons.mpr ⟨lw_p13, List.forall_mem_cons.mpr ⟨lw_p14, List.forall_mem_cons.mpr ⟨lw_p15, fun _ h => absurd h List.not_mem_nil⟩⟩⟩⟩⟩⟩⟩⟩⟩⟩⟩⟩⟩⟩⟩⟩
theorem lw_p16 : lw_okq (⟨"Multidell", "checkPacket", "(I)V"⟩, 9) := ⟨⟨by decide +kernel, by decide +kernel⟩, List.mem_of_getElem? (i := 17) (by decide +kernel), List.mem_of_getElem? (i := 626) (by decide +kernel), List.mem_of_getElem? (i := 627) (by decide +kernel)⟩
theorem lw_p17 : lw_okq (⟨"Multidell$Forest", "isDue", "(III)Z"⟩, 4) := ⟨⟨by decide +kernel, by decide +kernel⟩, List.mem_of_getElem? (i := 70) (by decide +kernel), List.mem_of_getElem? (i := 655) (by decide +kernel), List.mem_of_getElem? (i := 656) (by decide +kernel)⟩
theorem lw_p18 : lw_okq (⟨"Multidell$Forest", "remove", "(III)V"⟩, 4) := ⟨⟨by decide +kernel, by decide +kernel⟩, List.mem_of_getElem? (i := 70) (by decide +kernel), List.mem_of_getElem? (i := 659) (by decide +kernel), List.mem_of_getElem? (i := 660) (by decide +kernel)⟩
theorem lw_p19 : lw_okq (⟨"Multidell", "floodedFrom", "(I)I"⟩, 9) := ⟨⟨by decide +kernel, by decide +kernel⟩, List.mem_of_getElem? (i := 17) (by decide +kernel), List.mem_of_getElem? (i := 675) (by decide +kernel), List.mem_of_getElem? (i := 676) (by decide +kernel)⟩
theorem lw_p20 : lw_okq (⟨"MultidellModel", "measures", "()V"⟩, 19) := ⟨⟨by decide +kernel, by decide +kernel⟩, List.mem_of_getElem? (i := 690) (by decide +kernel), List.mem_of_getElem? (i := 696) (by decide +kernel), List.mem_of_getElem? (i := 697) (by decide +kernel)⟩
theorem lw_p21 : lw_okq (⟨"MultidellModel", "can", "(I)Z"⟩, 19) := ⟨⟨by decide +kernel, by decide +kernel⟩, List.mem_of_getElem? (i := 690) (by decide +kernel), List.mem_of_getElem? (i := 771) (by decide +kernel), List.mem_of_getElem? (i := 772) (by decide +kernel)⟩
theorem lw_p22 : lw_okq (⟨"MultidellModel", "buildsAnew", "()V"⟩, 19) := ⟨⟨by decide +kernel, by decide +kernel⟩, List.mem_of_getElem? (i := 690) (by decide +kernel), List.mem_of_getElem? (i := 775) (by decide +kernel), List.mem_of_getElem? (i := 776) (by decide +kernel)⟩
theorem lw_p23 : lw_okq (⟨"MultidellModel", "wants", "(II)Z"⟩, 19) := ⟨⟨by decide +kernel, by decide +kernel⟩, List.mem_of_getElem? (i := 690) (by decide +kernel), List.mem_of_getElem? (i := 779) (by decide +kernel), List.mem_of_getElem? (i := 780) (by decide +kernel)⟩
theorem lw_p24 : lw_okq (⟨"MultidellModel", "graft", "(II)V"⟩, 19) := ⟨⟨by decide +kernel, by decide +kernel⟩, List.mem_of_getElem? (i := 690) (by decide +kernel), List.mem_of_getElem? (i := 783) (by decide +kernel), List.mem_of_getElem? (i := 784) (by decide +kernel)⟩
theorem lw_p25 : lw_okq (⟨"MultidellModel", "root", "(I)I"⟩, 19) := ⟨⟨by decide +kernel, by decide +kernel⟩, List.mem_of_getElem? (i := 690) (by decide +kernel), List.mem_of_getElem? (i := 787) (by decide +kernel), List.mem_of_getElem? (i := 788) (by decide +kernel)⟩
theorem lw_p26 : lw_okq (⟨"MultidellModel", "meets", "(I)I"⟩, 19) := ⟨⟨by decide +kernel, by decide +kernel⟩, List.mem_of_getElem? (i := 690) (by decide +kernel), List.mem_of_getElem? (i := 791) (by decide +kernel), List.mem_of_getElem? (i := 792) (by decide +kernel)⟩
theorem lw_p27 : lw_okq (⟨"MultidellModel", "hop", "(II)I"⟩, 19) := ⟨⟨by decide +kernel, by decide +kernel⟩, List.mem_of_getElem? (i := 690) (by decide +kernel), List.mem_of_getElem? (i := 795) (by decide +kernel), List.mem_of_getElem? (i := 796) (by decide +kernel)⟩
theorem lw_p28 : lw_okq (⟨"MultidellModel", "isMember", "(II)Z"⟩, 19) := ⟨⟨by decide +kernel, by decide +kernel⟩, List.mem_of_getElem? (i := 690) (by decide +kernel), List.mem_of_getElem? (i := 826) (by decide +kernel), List.mem_of_getElem? (i := 827) (by decide +kernel)⟩
theorem lw_p29 : lw_okq (⟨"MultidellModel", "looks", "(II)V"⟩, 19) := ⟨⟨by decide +kernel, by decide +kernel⟩, List.mem_of_getElem? (i := 690) (by decide +kernel), List.mem_of_getElem? (i := 837) (by decide +kernel), List.mem_of_getElem? (i := 838) (by decide +kernel)⟩
theorem lw_p30 : lw_okq (⟨"MultidellModel", "below", "(II)I"⟩, 19) := ⟨⟨by decide +kernel, by decide +kernel⟩, List.mem_of_getElem? (i := 690) (by decide +kernel), List.mem_of_getElem? (i := 841) (by decide +kernel), List.mem_of_getElem? (i := 842) (by decide +kernel)⟩
theorem lw_p31 : lw_okq (⟨"MultidellModel", "gets", "(III)Z"⟩, 19) := ⟨⟨by decide +kernel, by decide +kernel⟩, List.mem_of_getElem? (i := 690) (by decide +kernel), List.mem_of_getElem? (i := 869) (by decide +kernel), List.mem_of_getElem? (i := 870) (by decide +kernel)⟩
def lw_privs_2 : List (MethodName × Nat) := [(⟨"Multidell", "checkPacket", "(I)V"⟩, 9), (⟨"Multidell$Forest", "isDue", "(III)Z"⟩, 4), (⟨"Multidell$Forest", "remove", "(III)V"⟩, 4), (⟨"Multidell", "floodedFrom", "(I)I"⟩, 9), (⟨"MultidellModel", "measures", "()V"⟩, 19), (⟨"MultidellModel", "can", "(I)Z"⟩, 19), (⟨"MultidellModel", "buildsAnew", "()V"⟩, 19), (⟨"MultidellModel", "wants", "(II)Z"⟩, 19), (⟨"MultidellModel", "graft", "(II)V"⟩, 19), (⟨"MultidellModel", "root", "(I)I"⟩, 19), (⟨"MultidellModel", "meets", "(I)I"⟩, 19), (⟨"MultidellModel", "hop", "(II)I"⟩, 19), (⟨"MultidellModel", "isMember", "(II)Z"⟩, 19), (⟨"MultidellModel", "looks", "(II)V"⟩, 19), (⟨"MultidellModel", "below", "(II)I"⟩, 19), (⟨"MultidellModel", "gets", "(III)Z"⟩, 19)]
theorem lw_r2 : ∀ q ∈ lw_privs_2, lw_okq q := List.forall_mem_cons.mpr ⟨lw_p16, List.forall_mem_cons.mpr ⟨lw_p17, List.forall_mem_cons.mpr ⟨lw_p18, List.forall_mem_cons.mpr ⟨lw_p19, List.forall_mem_cons.mpr ⟨lw_p20, List.forall_mem_cons.mpr ⟨lw_p21, List.forall_mem_cons.mpr ⟨lw_p22, List.forall_mem_cons.mpr ⟨lw_p23, List.forall_mem_cons.mpr ⟨lw_p24, List.forall_mem_cons.mpr ⟨lw_p25, List.forall_mem_cons.mpr ⟨lw_p26, List.forall_mem_cons.mpr ⟨lw_p27, List.forall_mem_cons.mpr ⟨lw_p28, List.forall_mem_cons.mpr ⟨lw_p29, List.forall_mem_cons.mpr ⟨lw_p30, List.forall_mem_cons.mpr ⟨lw_p31, fun _ h => absurd h List.not_mem_nil⟩⟩⟩⟩⟩⟩⟩⟩⟩⟩⟩⟩⟩⟩⟩⟩
theorem lw_p32 : lw_okq (⟨"MultidellModel", "counts", "(III)V"⟩, 19) := ⟨⟨by decide +kernel, by decide +kernel⟩, List.mem_of_getElem? (i := 690) (by decide +kernel), List.mem_of_getElem? (i := 873) (by decide +kernel), List.mem_of_getElem? (i := 874) (by decide +kernel)⟩
theorem lw_p33 : lw_okq (⟨"MultidellModel", "goesOn", "(III)V"⟩, 19) := ⟨⟨by decide +kernel, by decide +kernel⟩, List.mem_of_getElem? (i := 690) (by decide +kernel), List.mem_of_getElem? (i := 877) (by decide +kernel), List.mem_of_getElem? (i := 878) (by decide +kernel)⟩
theorem lw_p34 : lw_okq (⟨"MultidellModel", "follows", "()I"⟩, 19) := ⟨⟨by decide +kernel, by decide +kernel⟩, List.mem_of_getElem? (i := 690) (by decide +kernel), List.mem_of_getElem? (i := 885) (by decide +kernel), List.mem_of_getElem? (i := 886) (by decide +kernel)⟩
theorem lw_p35 : lw_okq (⟨"MultidellModel", "isPacket", "(I)Z"⟩, 19) := ⟨⟨by decide +kernel, by decide +kernel⟩, List.mem_of_getElem? (i := 690) (by decide +kernel), List.mem_of_getElem? (i := 905) (by decide +kernel), List.mem_of_getElem? (i := 906) (by decide +kernel)⟩
theorem lw_p36 : lw_okq (⟨"MultidellModel", "second", "()I"⟩, 19) := ⟨⟨by decide +kernel, by decide +kernel⟩, List.mem_of_getElem? (i := 690) (by decide +kernel), List.mem_of_getElem? (i := 921) (by decide +kernel), List.mem_of_getElem? (i := 922) (by decide +kernel)⟩
def lw_privs_3 : List (MethodName × Nat) := [(⟨"MultidellModel", "counts", "(III)V"⟩, 19), (⟨"MultidellModel", "goesOn", "(III)V"⟩, 19), (⟨"MultidellModel", "follows", "()I"⟩, 19), (⟨"MultidellModel", "isPacket", "(I)Z"⟩, 19), (⟨"MultidellModel", "second", "()I"⟩, 19)]
theorem lw_r3 : ∀ q ∈ lw_privs_3, lw_okq q := List.forall_mem_cons.mpr ⟨lw_p32, List.forall_mem_cons.mpr ⟨lw_p33, List.forall_mem_cons.mpr ⟨lw_p34, List.forall_mem_cons.mpr ⟨lw_p35, List.forall_mem_cons.mpr ⟨lw_p36, fun _ h => absurd h List.not_mem_nil⟩⟩⟩⟩⟩
def lw_privs : List (MethodName × Nat) := lw_privs_1 ++ (lw_privs_2 ++ (lw_privs_3))
def lw_tbl : List Cond := k2_sels lw_privs ++ tables_1
theorem lw_privs_ok : ∀ q ∈ lw_privs, lw_okq q := by
  show ∀ q ∈ lw_privs_1 ++ (lw_privs_2 ++ (lw_privs_3)), lw_okq q
  exact List.forall_mem_append.mpr ⟨lw_r1, List.forall_mem_append.mpr ⟨lw_r2, lw_r3⟩⟩
-- ===== end of PART A; then your names; then what follows =====
end
section
/-! ===== BEGIN words of one list among another's, by their places ===== -/
theorem goodIn_r {big : List Cond} (ws : List Cond) (ps : List Nat) (hp : ws = ps.filterMap (fun i => big[i]?)) (h : ws.all goodWord = true) : GoodIn big ws := by
  intro w hw
  have h1 := List.all_eq_true.mp h w hw
  rw [hp] at hw
  obtain ⟨i, -, hi⟩ := List.mem_filterMap.mp hw
  have hm : w ∈ big := by first | exact List.mem_of_getElem? hi | exact List.getElem?_mem hi
  exact ⟨hm, good_of_word h1⟩
theorem goodIn_app {big a b : List Cond} (ha : GoodIn big a) (hb : GoodIn big b) : GoodIn big (a ++ b) := fun w h => (List.mem_append.mp h).elim (ha w) (hb w)
theorem goodIn_ca {big a b : List Cond} {c : Cond} (ha : GoodIn big (c :: a)) (hb : GoodIn big b) : GoodIn big (c :: (a ++ b)) := fun w h => (List.mem_cons.mp h).elim (fun e => ha w (List.mem_cons.mpr (Or.inl e))) (fun h => (List.mem_append.mp h).elim (fun h => ha w (List.mem_cons.mpr (Or.inr h))) (hb w))
theorem goodIn_sub {big ws : List Cond} (hm : ∀ w ∈ ws, w ∈ big) (h : ws.all goodWord = true) : GoodIn big ws := fun w hw => ⟨hm w hw, good_of_word (List.all_eq_true.mp h w hw)⟩
/-! ===== END ===== -/

/-! ===== BEGIN exceptions that leave a method, and their catching by the caller (launches without stack traces) ===== -/
section VXA
/-! The laws vx_back, vx_callV, vx_callS, vx_callSW, vx_throw0, vx_throwS follow proofs of the library, with one case more: JvmDerived/Free/Laws.lean (Back.of_free), Shelf42/LK1.lean (callV, callS), Shelf/KitTraced.lean (throwNew0V, throwNewS). -/
/-- where a method has thrown q: the class by its name, the cell, what was written, the world -/
def vx_T (XC : String → State → State → Prop) (st : State) (q : Addr) (t : State) (mc ms : Nat) (free : Addr → Prop) : Prop :=
  ∃ (E : String) (ce : Cell) (L : List Loc), XC E st t ∧ t.heap[q]? = some ce ∧ ce.vm = .none ∧ st.vm.findClass E = some ce.cls ∧ st.WarmedH t.vm ∧ st.sameButNew ({ t with vm := st.vm } : State) L mc ms ∧ ∀ z ∈ L, free z.base
def vx_Q (Qc : Array Value → State → Outcome → State → Prop) (XC : String → State → State → Prop) (mc ms : Nat) (free : Addr → Prop) : Array Value → State → Outcome → State → Prop := fun a st o t =>
  (Qc a st o t ∧ ∃ L, FrameEnd st o t L mc ms ∧ ∀ q ∈ L, free q.base) ∨ ∃ q, o = .threw q ∧ vx_T XC st q t mc ms free
/-- a callee that returns or throws -/
def vx_Met (l : Launch) (y : MethodName) (ws : List Cond) (rm : Room) (Pc : Array Value → State → Prop) (Qc : Array Value → State → Outcome → State → Prop) (XC : String → State → State → Prop) (mc ms : Nat) (free : Addr → Prop) : Prop :=
  MetFree l y (headSpec ws rm) Pc (fun _ _ _ _ _ => True) (vx_Q Qc XC mc ms free)
def vx_Post (XC : String → State → State → Prop) (mc ms : Nat) (free : Addr → Prop) : Pt → Array Value → Addr → Pt → Prop := fun A a q B =>
  ∃ (g : JFrame) (mk : MethodId) (t : State) (L : List Loc) (E : String) (ce : Cell), B.U.heap = t.heap ∧ B.U.vm = t.vm ∧ XC E (A.U.calling g mk a) t ∧ t.heap[q]? = some ce ∧ ce.vm = .none ∧ A.U.vm.findClass E = some ce.cls ∧ B.locs = A.locs ++ L ∧ (∀ z ∈ L, free z.base) ∧ B.cells = A.cells + mc ∧ B.slots = A.slots + ms
def vx_Back (l : Launch) (R : Room) (p : Program) (e : Env) (below : List Frame) (s : State) (sargs : Array Value) (y : MethodName) (len W9 : Nat)
    (Pre : Pt → Array Value → Prop) (Post : Pt → Array Value → Option Value → Pt → Prop) (PostX : Pt → Array Value → Addr → Pt → Prop) : Prop :=
  ∀ (m : MethodId) (meth : Method) (c : Code) (A : Pt) (g : JFrame) (ig : Instr) (mk : MethodId) (a : Array Value),
    Stand p l e R s m sargs below meth c A.U A.locs A.cells A.slots → g.method = m → g.locals.size = c.maxLocals → decode c.code g.pc = .ok (ig, len) →
    2 * g.monitorRoom + (g.stack.map fun v => v.category).sum ≤ W9 → A.U.methodNamed? y = some mk → Pre A a →
    (∃ (v : Option Value) (B : Pt), Stand p l e R s m sargs below meth c B.U B.locs B.cells B.slots ∧ Post A a v B ∧
      Steps p.tables e below (doInvoke e (A.U.setTop g) [] mk a).1 (B.U.setTop { g with pc := g.pc + len, stack := v.toList ++ g.stack })) ∨
    (∃ (q : Addr) (B : Pt), Stand p l e R s m sargs below meth c B.U B.locs B.cells B.slots ∧ PostX A a q B ∧
      Steps p.tables e below (doInvoke e (A.U.setTop g) [] mk a).1 ((B.U.setTop g).pushFrame (.throwing q)))
section Payer
variable {l : Launch} {R : Room} {p : Program} {e : Env} {below : List Frame} {s : State} {sargs : Array Value} {y : MethodName} {len W9 : Nat}
theorem vx_back {ws : List Cond} {rm : Room} {Pc : Array Value → State → Prop} {Qc : Array Value → State → Outcome → State → Prop} {XC : String → State → State → Prop} {mc ms : Nat} {free : Addr → Prop} {bytes : ByteArray} {maxL : Nat} {ret : Option FieldType}
    (hM : vx_Met l y ws rm Pc Qc XC mc ms free) (hblind : FrameBlind Pc) (hrc : rm.cells = mc) (hrs : rm.slots = ms)
    (hframes : rm.frames + 1 ≤ R.frames) (hlocals : W9 + (maxL + 11) + rm.locals ≤ R.locals)
    (hws : ∀ w ∈ ws, ∀ a' U, s.WarmedH U.vm → w.before a' U = true) (hcode : Cond.code y bytes maxL ret ∈ ws) (hinit : ∀ a' U, s.WarmedH U.vm → (Cond.initialized y.cls).before a' U = true) :
    vx_Back l R p e below s sargs y len W9 (PreOf R mc ms Pc) (PostOf Qc mc ms free) (vx_Post XC mc ms free) := by
  intro m meth c A g ig mk a X hg hsize hdg hW hn hp
  have h1 : (headSpec ws rm).pre.before a A.U = true := atoms_intro fun w hw => hws w hw _ _ X.warmed
  have h2 : (Cond.code y bytes maxL ret).before a A.U = true := hws _ hcode _ _ X.warmed
  have h3 : (Cond.initialized y.cls).before a A.U = true := hinit _ _ X.warmed
  have h4 : A.cells + (headSpec ws rm).room.cells ≤ R.cells := by rw [show (headSpec ws rm).room.cells = mc from hrc]; exact hp.1
  have h5 : A.slots + (headSpec ws rm).room.slots ≤ R.slots := by rw [show (headSpec ws rm).room.slots = ms from hrs]; exact hp.2.1
  have hPc : Pc a (A.U.calling g mk a) := hblind _ _ _ _ hp.2.2
  obtain ⟨U, Ls, c0, s0⟩ := A
  dsimp only [Pt.U, Pt.locs, Pt.cells, Pt.slots] at h1 h2 h3 h4 h5 X hn hPc ⊢
  obtain ⟨methY, cY, hmY, hcY, -, hlY, -, -, -, -⟩ := Cond.code_spec hn h2
  obtain ⟨kY, hkY, -⟩ := className_of_methodNamed hn
  have hinitY : kY.init = .initialized := Cond.initialized_spec (findClass_of_methodNamed hn) hkY h3
  have h : At U g.method c below := by rw [hg]; exact X.here
  have hlocals9 : W9 + (maxL + 11) + (headSpec ws rm).room.locals ≤ R.locals := hlocals
  have happ : (headSpec ws rm).appliesLoose y e.platform (U.calling g mk a) = true :=
    Spec.appliesLoose_calling (g := g) h hdg hn hkY hinitY
      (X.room_calling (g := g) (R' := (headSpec ws rm).room) hsize hmY hcY hframes (by rw [hlY]; omega) h4 h5) h1
  obtain ⟨mid, hmid⟩ := h.above
  have hfr : (U.setTop g).frames = (.java g :: mid) ++ below := by rw [State.frames_setTop' g h.top, hmid]; rfl
  obtain ⟨o, s₂, hsteps, -, hend, hq⟩ := Steps.callFree hM p X.admits X.cas X.clock (acts := []) hfr happ hPc trivial
  have hq' : vx_Q Qc XC mc ms free a (U.calling g mk a) o s₂ := hq
  rw [State.frames_setTop' g h.top] at hend
  obtain ⟨g₀, hg0⟩ := Option.isSome_iff_exists.mp h.top
  obtain ⟨r, hr⟩ := State.topJava?_eq_some.mp hg0
  have hr' : (({ U with heap := s₂.heap, slotsUsed := s₂.slotsUsed } : State).setVm s₂.vm).frames = .java g₀ :: r := hr
  rcases hq' with ⟨hqc, L, hfe, hL⟩ | ⟨q, rfl, E, ce, L, hx, hce, hcv, hcl, hW₂, hsm, hL⟩
  · obtain ⟨⟨v, rfl⟩, hW₂, e2, q2, q3, q4, q5, q6⟩ := id hfe
    have e3 : s₂ = ({ (U.calling g mk a).setFrames s₂.frames with heap := s₂.heap, slotsUsed := s₂.slotsUsed } : State).setVm s₂.vm := by
      have : s₂ = ({ s₂ with vm := (U.calling g mk a).vm } : State).setVm s₂.vm := rfl
      rw [e2] at this
      exact this
    obtain ⟨c₂, i₂, len₂, hc₂, hd₂, hf₂⟩ := hend
    have hW' : U.WarmedH s₂.vm := hW₂
    have hcc : c₂ = c := by
      have h1 : s₂.code? g.method = U.code? g.method := by
        rw [State.code?_eq, State.code?_eq, hW'.alike.method?]
      exact Option.some.inj (hc₂.symm.trans (h1.trans h.code))
    subst hcc
    have hlen : len₂ = len := by rw [hdg] at hd₂; cases hd₂; rfl
    subst hlen
    have hs₂ : s₂ = (({ U with heap := s₂.heap, slotsUsed := s₂.slotsUsed } : State).setVm s₂.vm).setTop { g with pc := g.pc + len₂, stack := v.toList ++ g.stack } := by
      refine e3.trans ?_
      rw [hf₂, State.calling_eq h.top, State.setFrames_setFrames, State.setTop_of_frames _ hr', hr]
      rfl
    have hsame : U.sameButNew ({ U with heap := s₂.heap, slotsUsed := s₂.slotsUsed } : State) L mc ms := by
      refine ⟨?_, q2, q3, q4, q5, q6⟩
      obtain ⟨t, ht, -⟩ := State.frames_cons hr
      show ({ U with heap := s₂.heap, slotsUsed := s₂.slotsUsed } : State) = { U.setFrames U.frames with heap := s₂.heap, slotsUsed := s₂.slotsUsed }
      rw [State.setFrames_self ht]
    subst hg
    refine Or.inl ⟨v, ⟨(({ U with heap := s₂.heap, slotsUsed := s₂.slotsUsed } : State).setVm s₂.vm), Ls ++ L, c0 + mc, s0 + ms⟩,
      ⟨X.admits, X.cas, X.clock, X.frames, X.room, X.hears, X.method, X.code, (X.here.setHeapUsed s₂.heap s₂.slotsUsed).setVm hW'.alike, X.tail, State.WarmedH.trans X.warmed hW', X.limits, X.bytes, X.same.trans (hsame.setVm s.vm)⟩,
      ⟨g, mk, s₂, L, rfl, rfl, hqc, rfl, hL, rfl, rfl⟩, ?_⟩
    show Steps p.tables e below _ ((({ U with heap := s₂.heap, slotsUsed := s₂.slotsUsed } : State).setVm s₂.vm).setTop { g with pc := g.pc + len₂, stack := v.toList ++ g.stack })
    rw [← hs₂]
    exact hsteps
  · obtain ⟨e2, q2, q3, q4, q5, q6⟩ := id hsm
    have e3 : s₂ = ({ (U.calling g mk a).setFrames s₂.frames with heap := s₂.heap, slotsUsed := s₂.slotsUsed } : State).setVm s₂.vm := by
      have : s₂ = ({ s₂ with vm := (U.calling g mk a).vm } : State).setVm s₂.vm := rfl
      rw [e2] at this
      exact this
    have hf₂ : s₂.frames = .throwing q :: .java g :: U.frames.tail := hend
    have hW' : U.WarmedH s₂.vm := hW₂
    have hs₂ : s₂ = ((({ U with heap := s₂.heap, slotsUsed := s₂.slotsUsed } : State).setVm s₂.vm).setTop g).pushFrame (.throwing q) := by
      refine e3.trans ?_
      rw [hf₂, State.calling_eq h.top, State.setFrames_setFrames, State.pushFrame, State.frames_setTop _ hr', State.setTop_of_frames _ hr', State.setFrames_setFrames, hr]
      rfl
    have hsame : U.sameButNew ({ U with heap := s₂.heap, slotsUsed := s₂.slotsUsed } : State) L mc ms := by
      refine ⟨?_, q2, q3, q4, q5, q6⟩
      obtain ⟨t, ht, -⟩ := State.frames_cons hr
      show ({ U with heap := s₂.heap, slotsUsed := s₂.slotsUsed } : State) = { U.setFrames U.frames with heap := s₂.heap, slotsUsed := s₂.slotsUsed }
      rw [State.setFrames_self ht]
    subst hg
    refine Or.inr ⟨q, ⟨(({ U with heap := s₂.heap, slotsUsed := s₂.slotsUsed } : State).setVm s₂.vm), Ls ++ L, c0 + mc, s0 + ms⟩,
      ⟨X.admits, X.cas, X.clock, X.frames, X.room, X.hears, X.method, X.code, (X.here.setHeapUsed s₂.heap s₂.slotsUsed).setVm hW'.alike, X.tail, State.WarmedH.trans X.warmed hW', X.limits, X.bytes, X.same.trans (hsame.setVm s.vm)⟩,
      ⟨g, mk, s₂, L, E, ce, rfl, rfl, hx, hce, hcv, hcl, rfl, hL, rfl, rfl⟩, ?_⟩
    show Steps p.tables e below _ (((({ U with heap := s₂.heap, slotsUsed := s₂.slotsUsed } : State).setVm s₂.vm).setTop g).pushFrame (.throwing q))
    rw [← hs₂]
    exact hsteps
end Payer
section Calls
variable {p : Program} {l : Launch} {e : Env} {R : Room} {s : State} {m : MethodId} {args : Array Value} {below : List Frame} {meth : Method} {c : Code} {T : State} {locs : List Loc} {cells slots : Nat}
theorem vx_callV (X : Stand p l e R s m args below meth c T locs cells slots) (hexec : p.tables.exec = Jvm.exec) {own C : String} {index : Nat} {y : MethodName} {bytes : ByteArray} {maxL : Nat} {ret : Option FieldType}
    (hown : s.vm.findClass own = some m.cls) (hlink : (Cond.methodLink own index y).before args s = true) (hinst : (Cond.instanceMethod y).before args s = true) (hsel : (Cond.selects C y y).before args s = true)
    (hcode : (Cond.code y bytes maxL ret).before args s = true) (hy : y.cls ≠ "java/lang/invoke/MethodHandle" ∧ y.cls ≠ "java/lang/invoke/VarHandle")
    {W9 : Nat} {Pre : Pt → Array Value → Prop} {Post : Pt → Array Value → Option Value → Pt → Prop} {PostX : Pt → Array Value → Addr → Pt → Prop} (hK : vx_Back l R p e below s args y 3 W9 Pre Post PostX)
    {b : Addr} {cellB : Cell} (hcell : T.heap[b]? = some cellB) (hobj : cellB.vm.isStatics = false) (hcls : s.vm.findClass C = some cellB.cls)
    {g : JFrame} (hg : g.method = m) (hsize : g.locals.size = c.maxLocals) {argsL rest : List Value} (hlen : ∀ sig, parseMethodDescriptor y.desc = some sig → argsL.length = sig.parameters.length)
    (hstack : g.stack = argsL.reverse ++ .ref b :: rest) (hW : 2 * g.monitorRoom + (rest.map fun v => v.category).sum ≤ W9) (hdg : decode c.code g.pc = .ok (.invokevirtual index, 3))
    (hpre : ∀ vm₁, s.WarmedH vm₁ → Pre ⟨T.setVm vm₁, locs, cells, slots⟩ (Value.ref b :: argsL).toArray) :
    (∃ (v : Option Value) (vm₁ : Vm) (B : Pt), s.WarmedH vm₁ ∧ Stand p l e R s m args below meth c B.U B.locs B.cells B.slots ∧ Post ⟨T.setVm vm₁, locs, cells, slots⟩ (Value.ref b :: argsL).toArray v B ∧
      ∀ target, Steps p.tables e below (B.U.setTop { g with pc := g.pc + 3, stack := v.toList ++ rest }) target → Steps p.tables e below (T.setTop g) target) ∨
    (∃ (q : Addr) (vm₁ : Vm) (B : Pt), s.WarmedH vm₁ ∧ Stand p l e R s m args below meth c B.U B.locs B.cells B.slots ∧ PostX ⟨T.setVm vm₁, locs, cells, slots⟩ (Value.ref b :: argsL).toArray q B ∧
      Steps p.tables e below (T.setTop g) ((B.U.setTop { g with stack := rest }).pushFrame (.throwing q))) := by
  obtain ⟨mk, methM, hnamed, hmethM, hstM, habM⟩ := Cond.instanceMethod_spec hinst
  obtain ⟨methM', cM, hmethM', -, -, -, -, -, -, hsigM⟩ := Cond.code_spec hnamed hcode
  cases hmethM.symm.trans hmethM'
  obtain ⟨c2, r2, m2, q1, q2, q3, q4, kP, hkP, hkPi⟩ := Cond.selects_spec hsel
  cases hcls.symm.trans q1
  cases (State.methodFound?_of_named hnamed hy).symm.trans q2
  cases hnamed.symm.trans q3
  have hselP : selectMethod e.platform s.vm cellB.cls mk = .method mk := by rw [Launch.admits_selectMethod X.admits]; exact q4
  obtain ⟨vm₁, X₁, hstep₁⟩ := X.invokevirtual hexec hown hlink hnamed hmethM hstM hkP hkPi hy (a := b) (cell := cellB) hcell
    (fun z h => by rw [h] at hobj; cases hobj) hselP hmethM habM hkP hkPi (g := g) hg (argsL := argsL) (rest := rest) (hlen _ hsigM) hstack hdg
  rcases hK m meth c ⟨T.setVm vm₁, locs, cells, slots⟩ { g with stack := rest } (.invokevirtual index) mk (Value.ref b :: argsL).toArray X₁ hg hsize hdg hW (X₁.named hnamed) (hpre vm₁ X₁.warmed) with ⟨v, B, X', hpost, hsteps⟩ | ⟨q, B, X', hpost, hsteps⟩
  · exact Or.inl ⟨v, vm₁, B, X₁.warmed, X', hpost, fun target h => hstep₁ _ fun acts => by rw [doInvoke_state]; exact hsteps.trans h⟩
  · exact Or.inr ⟨q, vm₁, B, X₁.warmed, X', hpost, hstep₁ _ fun acts => by rw [doInvoke_state]; exact hsteps⟩
theorem vx_callS (X : Stand p l e R s m args below meth c T locs cells slots) (hexec : p.tables.exec = Jvm.exec) {own : String} {index : Nat} {y : MethodName} {bytes : ByteArray} {maxL : Nat} {ret : Option FieldType}
    (hown : s.vm.findClass own = some m.cls) (hlink : (Cond.methodLink own index y).before args s = true) (hstat : (Cond.static y).before args s = true) (hinit : (Cond.initialized y.cls).before args s = true)
    (hcode : (Cond.code y bytes maxL ret).before args s = true) (hy : y.cls ≠ "java/lang/invoke/MethodHandle" ∧ y.cls ≠ "java/lang/invoke/VarHandle")
    {W9 : Nat} {Pre : Pt → Array Value → Prop} {Post : Pt → Array Value → Option Value → Pt → Prop} {PostX : Pt → Array Value → Addr → Pt → Prop} (hK : vx_Back l R p e below s args y 3 W9 Pre Post PostX)
    {g : JFrame} (hg : g.method = m) (hsize : g.locals.size = c.maxLocals) {argsL rest : List Value} (hlen : ∀ sig, parseMethodDescriptor y.desc = some sig → argsL.length = sig.parameters.length)
    (hstack : g.stack = argsL.reverse ++ rest) (hW : 2 * g.monitorRoom + (rest.map fun v => v.category).sum ≤ W9) (hdg : decode c.code g.pc = .ok (.invokestatic index, 3))
    (hpre : ∀ vm₁, s.WarmedH vm₁ → Pre ⟨T.setVm vm₁, locs, cells, slots⟩ argsL.toArray) :
    (∃ (v : Option Value) (vm₁ : Vm) (B : Pt), s.WarmedH vm₁ ∧ Stand p l e R s m args below meth c B.U B.locs B.cells B.slots ∧ Post ⟨T.setVm vm₁, locs, cells, slots⟩ argsL.toArray v B ∧
      ∀ target, Steps p.tables e below (B.U.setTop { g with pc := g.pc + 3, stack := v.toList ++ rest }) target → Steps p.tables e below (T.setTop g) target) ∨
    (∃ (q : Addr) (vm₁ : Vm) (B : Pt), s.WarmedH vm₁ ∧ Stand p l e R s m args below meth c B.U B.locs B.cells B.slots ∧ PostX ⟨T.setVm vm₁, locs, cells, slots⟩ argsL.toArray q B ∧
      Steps p.tables e below (T.setTop g) ((B.U.setTop { g with stack := rest }).pushFrame (.throwing q))) := by
  obtain ⟨mk, hnamed⟩ := Cond.code_named hcode
  obtain ⟨methM, cM, hmethM, -, -, -, -, -, -, hsigM⟩ := Cond.code_spec hnamed hcode
  have hstatic : methM.isStatic = true := Cond.static_spec hnamed hmethM hstat
  obtain ⟨kP, hkP, -⟩ := className_of_methodNamed hnamed
  have hinitP : kP.init = .initialized := Cond.initialized_spec (findClass_of_methodNamed hnamed) hkP hinit
  obtain ⟨vm₁, X₁, hstep₁⟩ := X.invokestatic hexec hown hlink hnamed hmethM hstatic hkP hinitP hy (g := g) hg (argsL := argsL) (rest := rest) (hlen _ hsigM) hstack hdg
  rcases hK m meth c ⟨T.setVm vm₁, locs, cells, slots⟩ { g with stack := rest } (.invokestatic index) mk argsL.toArray X₁ hg hsize hdg hW (X₁.named hnamed) (hpre vm₁ X₁.warmed) with ⟨v, B, X', hpost, hsteps⟩ | ⟨q, B, X', hpost, hsteps⟩
  · exact Or.inl ⟨v, vm₁, B, X₁.warmed, X', hpost, fun target h => hstep₁ _ fun acts => by rw [doInvoke_state]; exact hsteps.trans h⟩
  · exact Or.inr ⟨q, vm₁, B, X₁.warmed, X', hpost, hstep₁ _ fun acts => by rw [doInvoke_state]; exact hsteps⟩
end Calls
theorem vx_cls {s : State} {T : State} {vm₁ : Vm} {E : String} {k : ClassId} (hW : s.WarmedH vm₁) (h : (T.setVm vm₁).vm.findClass E = some k) : s.vm.findClass E = some k := by
  have h1 : vm₁.findClass E = some k := h
  rw [hW.alike.findClass] at h1
  exact h1
/-- the method's frame g, with q thrown over it -/
def vx_W (p : Program) (l : Launch) (e : Env) (R : Room) (s : State) (m : MethodId) (args : Array Value) (below : List Frame) (meth : Method) (c : Code) (H : Heap) (locs : List Loc) (cells slots : Nat) (Q : State → Prop) (g : JFrame) (q : Addr) : Prop :=
  ∀ T : State, T.heap = H → Stand p l e R s m args below meth c T locs cells slots → ∃ t, Steps p.tables e below ((T.setTop g).pushFrame (.throwing q)) t ∧ Q t
def vx_Run (p : Program) (l : Launch) (e : Env) (R : Room) (s : State) (m : MethodId) (args : Array Value) (below : List Frame) (meth : Method) (c : Code) (H : Heap) (locs : List Loc) (cells slots mc ms : Nat) (g : JFrame) (rest : List Value) (Qa : State → Outcome → State → Prop) (XC : String → State → State → Prop) (free : Addr → Prop) : Prop :=
  ∀ T : State, T.heap = H → Stand p l e R s m args below meth c T locs cells slots →
    (∃ (v : Option Value) (st₀ t T' : State) (L : List Loc), st₀.heap = H ∧ Stand p l e R s m args below meth c T' (locs ++ L) (cells + mc) (slots + ms) ∧ (∀ q ∈ L, free q.base) ∧ T'.heap = t.heap ∧ T'.vm = t.vm ∧ Qa st₀ (.returned v) t ∧
      Goes p e below T g T' { g with pc := g.pc + 3, stack := v.toList ++ rest }) ∨
    (∃ (q : Addr) (st₀ t T' : State) (L : List Loc) (E : String) (ce : Cell), st₀.heap = H ∧ Stand p l e R s m args below meth c T' (locs ++ L) (cells + mc) (slots + ms) ∧ (∀ z ∈ L, free z.base) ∧ T'.heap = t.heap ∧ T'.vm = t.vm ∧ XC E st₀ t ∧ t.heap[q]? = some ce ∧ ce.vm = .none ∧ s.vm.findClass E = some ce.cls ∧
      Steps p.tables e below (T.setTop g) ((T'.setTop { g with stack := rest }).pushFrame (.throwing q)))
def vx_X {S : Type} (px : S → Prop) (B : String → S → State → Prop) (A : Nat → Prop) : String → State → State → Prop := fun E st t => ∃ u : S, px u ∧ B E u t ∧ va_F A st t
section Runs
variable {p : Program} {l : Launch} {e : Env} {R : Room} {s : State} {m : MethodId} {args : Array Value} {below : List Frame} {meth : Method} {c : Code} {H : Heap} {locs : List Loc} {cells slots : Nat}
variable {y : MethodName} {bytes cc : ByteArray} {maxL nL mc ms n index : Nat} {ret : Option FieldType} {ws : List Cond} {rm : Room} {Pc : Array Value → State → Prop} {Qc : Array Value → State → Outcome → State → Prop} {XC : String → State → State → Prop} {free : Addr → Prop} {Ts : List Cond} {own C : String} {b : Addr} {As rest : List Value} {g : JFrame}
theorem vx_callBack (cb : CallB R s args own index y bytes maxL ret ws rm mc ms n) (hM : vx_Met l y ws rm Pc Qc XC mc ms free) (hbl : FrameBlind Pc) : vx_Back l R p e below s args y 3 8 (PreOf R mc ms Pc) (PostOf Qc mc ms free) (vx_Post XC mc ms free) := by
  obtain ⟨hrc, hrs, hfr, hlo, hws, hcw, -, hini, -⟩ := cb
  exact vx_back (bytes := bytes) (maxL := maxL) (ret := ret) hM hbl hrc hrs hfr hlo hws hcw (fun a' U hW => word_at hW (Or.inl (by first | rfl | simp [Cond.onTables, Cond.keeps, Cond.steady])) hini)
theorem vx_runV (S : CallFix p m c cc nL s args Ts own) (hM : vx_Met l y ws rm Pc Qc XC mc ms free) (cw : CallW R s args own C index y bytes maxL ret ws rm mc ms n) (hp : PreV s H C b Pc As)
    (hg : g.method = m) (hn : As.length = n) (hsize : g.locals.size = nL) (hstack : g.stack = As.reverse ++ .ref b :: rest) (hW : 2 * g.monitorRoom + (rest.map fun v => v.category).sum ≤ 8) (hdg : decode cc g.pc = .ok (.invokevirtual index, 3)) (hf : cells + mc ≤ R.cells ∧ slots + ms ≤ R.slots) :
    vx_Run p l e R s m args below meth c H locs cells slots mc ms g rest (Qc (Value.ref b :: As).toArray) XC free := by
  have hK : vx_Back l R p e below s args y 3 8 (PreOf R mc ms Pc) (PostOf Qc mc ms free) (vx_Post XC mc ms free) := vx_callBack cw.1 hM hp.1
  obtain ⟨⟨-, -, -, -, -, -, hcode, -, hy, hlen, hl⟩, hin, hse⟩ := cw
  obtain ⟨hx, hb, hml, ho, -⟩ := S
  obtain ⟨-, ⟨cellB, hcB, hoB, hclB⟩, hPc⟩ := hp
  intro T hT X
  rcases vx_callV X hx (C := C) (bytes := bytes) (maxL := maxL) (ret := ret) ho hl hin hse hcode hy hK (by rw [hT]; exact hcB) hoB hclB hg (hsize.trans hml.symm) (argsL := As) (rest := rest) (fun sig h => hn.trans (hlen sig h)) hstack hW (by rw [hb]; exact hdg)
    (fun vm₁ hW₁ => ⟨hf.1, hf.2, hPc (T.setVm vm₁) hT hW₁⟩) with ⟨v, vm₁, ⟨U', l2, c2, s2⟩, hW₁, X', ⟨g', mk, t, L, e1, e2, hq, h1, hL, h2, h3⟩, st⟩ | ⟨q, vm₁, ⟨U', l2, c2, s2⟩, hW₁, X', ⟨g', mk, t, L, E, ce, e1, e2, hq, hce, hcv, hcl, h1, hL, h2, h3⟩, st⟩
  · dsimp only [Pt.U, Pt.locs, Pt.cells, Pt.slots] at X' e1 e2 h1 h2 h3 st
    subst h1; subst h2; subst h3
    exact Or.inl ⟨v, (T.setVm vm₁).calling g' mk (Value.ref b :: As).toArray, t, U', L, hT, X', hL, e1, e2, hq, st⟩
  · dsimp only [Pt.U, Pt.locs, Pt.cells, Pt.slots] at X' e1 e2 h1 h2 h3 st hcl
    subst h1; subst h2; subst h3
    exact Or.inr ⟨q, (T.setVm vm₁).calling g' mk (Value.ref b :: As).toArray, t, U', L, E, ce, hT, X', hL, e1, e2, hq, hce, hcv, vx_cls hW₁ hcl, st⟩
theorem vx_runS (S : CallFix p m c cc nL s args Ts own) (hM : vx_Met l y ws rm Pc Qc XC mc ms free) (cw : CallB R s args own index y bytes maxL ret ws rm mc ms n ∧ (Cond.static y).before args s = true) (hp : PreS s H Pc As)
    (hg : g.method = m) (hn : As.length = n) (hsize : g.locals.size = nL) (hstack : g.stack = As.reverse ++ rest) (hW : 2 * g.monitorRoom + (rest.map fun v => v.category).sum ≤ 8) (hdg : decode cc g.pc = .ok (.invokestatic index, 3)) (hf : cells + mc ≤ R.cells ∧ slots + ms ≤ R.slots) :
    vx_Run p l e R s m args below meth c H locs cells slots mc ms g rest (Qc As.toArray) XC free := by
  have hK : vx_Back l R p e below s args y 3 8 (PreOf R mc ms Pc) (PostOf Qc mc ms free) (vx_Post XC mc ms free) := vx_callBack cw.1 hM hp.1
  obtain ⟨⟨-, -, -, -, -, -, hcode, hini, hy, hlen, hl⟩, hstt⟩ := cw
  obtain ⟨hx, hb, hml, ho, -⟩ := S
  intro T hT X
  rcases vx_callS X hx (bytes := bytes) (maxL := maxL) (ret := ret) ho hl hstt hini hcode hy hK hg (hsize.trans hml.symm) (argsL := As) (rest := rest) (fun sig h => hn.trans (hlen sig h)) hstack hW (by rw [hb]; exact hdg)
    (fun vm₁ hW₁ => ⟨hf.1, hf.2, hp.2 (T.setVm vm₁) hT hW₁⟩) with ⟨v, vm₁, ⟨U', l2, c2, s2⟩, hW₁, X', ⟨g', mk, t, L, e1, e2, hq, h1, hL, h2, h3⟩, st⟩ | ⟨q, vm₁, ⟨U', l2, c2, s2⟩, hW₁, X', ⟨g', mk, t, L, E, ce, e1, e2, hq, hce, hcv, hcl, h1, hL, h2, h3⟩, st⟩
  · dsimp only [Pt.U, Pt.locs, Pt.cells, Pt.slots] at X' e1 e2 h1 h2 h3 st
    subst h1; subst h2; subst h3
    exact Or.inl ⟨v, (T.setVm vm₁).calling g' mk As.toArray, t, U', L, hT, X', hL, e1, e2, hq, st⟩
  · dsimp only [Pt.U, Pt.locs, Pt.cells, Pt.slots] at X' e1 e2 h1 h2 h3 st hcl
    subst h1; subst h2; subst h3
    exact Or.inr ⟨q, (T.setVm vm₁).calling g' mk As.toArray, t, U', L, E, ce, hT, X', hL, e1, e2, hq, hce, hcv, vx_cls hW₁ hcl, st⟩
end Runs
section Rows
variable {p : Program} {l : Launch} {e : Env} {R : Room} {s : State} {m : MethodId} {args : Array Value} {below : List Frame} {meth : Method} {c : Code} {H : Heap} {locs : List Loc} {cells slots : Nat} {Q : State → Prop}
variable {mc ms : Nat} {free : Addr → Prop} {A0 A1 : Nat → Prop} {H0 : Heap} {a : Array Value} {pc : Nat} {ls : Array Slot} {st0 rest : List Value}
theorem vx_keep {st₀ t T' : State} {L : List Loc} (h0 : st₀.heap = H) (e1 : T'.heap = t.heap) (hS : va_S A0 H0 H locs) (hA : ∀ q, q < H.size → A1 q → A0 q) (hf : ∀ q, free q → A0 q) (hL : ∀ q ∈ L, free q.base) (hF : va_F A1 st₀ t) :
    H.size ≤ T'.heap.size ∧ (∀ q : Nat, q < H.size → ¬ A1 q → T'.heap[q]? = H[q]?) ∧ va_S A0 H0 T'.heap (locs ++ L) := by
  obtain ⟨hz, hk⟩ := hF
  rw [h0] at hz hk
  exact ⟨by rw [e1]; exact hz, fun q h1 h2 => by rw [e1]; exact hk q h1 h2,
    ⟨Nat.le_trans hS.1 (by rw [e1]; exact hz), fun q h1 h2 => by rw [e1, hk q (Nat.lt_of_lt_of_le h1 hS.1) (fun z => h2 (hA q (Nat.lt_of_lt_of_le h1 hS.1) z))]; exact hS.2.1 q h1 h2, fun q hq => by
      rcases List.mem_append.mp hq with h | h
      · exact hS.2.2 q h
      · exact hf _ (hL q h)⟩⟩
theorem vx_calli {S SX : Type} {post : Int32 → S → Prop} {px : SX → Prop} {B : S → State → Prop} {BX : String → SX → State → Prop} {AX : Nat → Prop} (hr : vx_Run p l e R s m args below meth c H locs cells slots mc ms (F0 m pc ls st0) rest (va_Qi post B A1 a) (vx_X px BX AX) free) (hS : va_S A0 H0 H locs) (hA : ∀ q, q < H.size → A1 q → A0 q) (hf : ∀ q, free q → A0 q) (hAX : ∀ q, q < H.size → AX q → A0 q)
    (kx : ∀ (E : String) (ce : Cell) (q9 : Addr) (u : SX) (t : State) (H1 : Heap) (locs1 : List Loc), t.heap = H1 → s.vm.Alike t.vm → px u → BX E u t → H.size ≤ H1.size → (∀ q : Nat, q < H.size → ¬ AX q → H1[q]? = H[q]?) → va_S A0 H0 H1 locs1 → H1[q9]? = some ce → ce.vm = .none → s.vm.findClass E = some ce.cls → vx_W p l e R s m args below meth c H1 locs1 (cells + mc) (slots + ms) Q (F0 m pc ls rest) q9)
    (kk : ∀ (r : Int32) (u : S) (t : State) (H1 : Heap) (locs1 : List Loc), t.heap = H1 → s.vm.Alike t.vm → post r u → B u t → H.size ≤ H1.size → (∀ q : Nat, q < H.size → ¬ A1 q → H1[q]? = H[q]?) → va_S A0 H0 H1 locs1 → W p l e R s m args below meth c H1 locs1 (cells + mc) (slots + ms) Q (F0 m (pc + 3) ls (.int r :: rest))) : W p l e R s m args below meth c H locs cells slots Q (F0 m pc ls st0) := by
  intro T hT X
  rcases hr T hT X with ⟨v, st₀, t, T', L, h0, X', hL, e1, e2, ⟨⟨r, u, hv, hp, hb⟩, hF⟩, st⟩ | ⟨q, st₀, t, T', L, E, ce, h0, X', hL, e1, e2, ⟨u, hp, hb, hF⟩, hce, hcv, hcl, st⟩
  · cases hv
    obtain ⟨k1, k2, k3⟩ := vx_keep h0 e1 hS hA hf hL hF
    obtain ⟨t2, a1, b1⟩ := kk r u t T'.heap (locs ++ L) e1.symm (by rw [← e2]; exact X'.warmed.alike) hp hb k1 k2 k3 T' rfl X'
    exact ⟨t2, st t2 a1, b1⟩
  · obtain ⟨k1, k2, k3⟩ := vx_keep h0 e1 hS hAX hf hL hF
    obtain ⟨t2, a1, b1⟩ := kx E ce q u t T'.heap (locs ++ L) e1.symm (by rw [← e2]; exact X'.warmed.alike) hp hb k1 k2 k3 (by rw [e1]; exact hce) hcv hcl T' rfl X'
    exact ⟨t2, st.trans a1, b1⟩
theorem vx_calll {S SX : Type} {post : Int64 → S → Prop} {px : SX → Prop} {B : S → State → Prop} {BX : String → SX → State → Prop} {AX : Nat → Prop} (hr : vx_Run p l e R s m args below meth c H locs cells slots mc ms (F0 m pc ls st0) rest (va_Ql post B A1 a) (vx_X px BX AX) free) (hS : va_S A0 H0 H locs) (hA : ∀ q, q < H.size → A1 q → A0 q) (hf : ∀ q, free q → A0 q) (hAX : ∀ q, q < H.size → AX q → A0 q)
    (kx : ∀ (E : String) (ce : Cell) (q9 : Addr) (u : SX) (t : State) (H1 : Heap) (locs1 : List Loc), t.heap = H1 → s.vm.Alike t.vm → px u → BX E u t → H.size ≤ H1.size → (∀ q : Nat, q < H.size → ¬ AX q → H1[q]? = H[q]?) → va_S A0 H0 H1 locs1 → H1[q9]? = some ce → ce.vm = .none → s.vm.findClass E = some ce.cls → vx_W p l e R s m args below meth c H1 locs1 (cells + mc) (slots + ms) Q (F0 m pc ls rest) q9)
    (kk : ∀ (r : Int64) (u : S) (t : State) (H1 : Heap) (locs1 : List Loc), t.heap = H1 → s.vm.Alike t.vm → post r u → B u t → H.size ≤ H1.size → (∀ q : Nat, q < H.size → ¬ A1 q → H1[q]? = H[q]?) → va_S A0 H0 H1 locs1 → W p l e R s m args below meth c H1 locs1 (cells + mc) (slots + ms) Q (F0 m (pc + 3) ls (.long r :: rest))) : W p l e R s m args below meth c H locs cells slots Q (F0 m pc ls st0) := by
  intro T hT X
  rcases hr T hT X with ⟨v, st₀, t, T', L, h0, X', hL, e1, e2, ⟨⟨r, u, hv, hp, hb⟩, hF⟩, st⟩ | ⟨q, st₀, t, T', L, E, ce, h0, X', hL, e1, e2, ⟨u, hp, hb, hF⟩, hce, hcv, hcl, st⟩
  · cases hv
    obtain ⟨k1, k2, k3⟩ := vx_keep h0 e1 hS hA hf hL hF
    obtain ⟨t2, a1, b1⟩ := kk r u t T'.heap (locs ++ L) e1.symm (by rw [← e2]; exact X'.warmed.alike) hp hb k1 k2 k3 T' rfl X'
    exact ⟨t2, st t2 a1, b1⟩
  · obtain ⟨k1, k2, k3⟩ := vx_keep h0 e1 hS hAX hf hL hF
    obtain ⟨t2, a1, b1⟩ := kx E ce q u t T'.heap (locs ++ L) e1.symm (by rw [← e2]; exact X'.warmed.alike) hp hb k1 k2 k3 (by rw [e1]; exact hce) hcv hcl T' rfl X'
    exact ⟨t2, st.trans a1, b1⟩
theorem vx_callf {S SX : Type} {post : UInt32 → S → Prop} {px : SX → Prop} {B : S → State → Prop} {BX : String → SX → State → Prop} {AX : Nat → Prop} (hr : vx_Run p l e R s m args below meth c H locs cells slots mc ms (F0 m pc ls st0) rest (va_Qf post B A1 a) (vx_X px BX AX) free) (hS : va_S A0 H0 H locs) (hA : ∀ q, q < H.size → A1 q → A0 q) (hf : ∀ q, free q → A0 q) (hAX : ∀ q, q < H.size → AX q → A0 q)
    (kx : ∀ (E : String) (ce : Cell) (q9 : Addr) (u : SX) (t : State) (H1 : Heap) (locs1 : List Loc), t.heap = H1 → s.vm.Alike t.vm → px u → BX E u t → H.size ≤ H1.size → (∀ q : Nat, q < H.size → ¬ AX q → H1[q]? = H[q]?) → va_S A0 H0 H1 locs1 → H1[q9]? = some ce → ce.vm = .none → s.vm.findClass E = some ce.cls → vx_W p l e R s m args below meth c H1 locs1 (cells + mc) (slots + ms) Q (F0 m pc ls rest) q9)
    (kk : ∀ (r : UInt32) (u : S) (t : State) (H1 : Heap) (locs1 : List Loc), t.heap = H1 → s.vm.Alike t.vm → post r u → B u t → H.size ≤ H1.size → (∀ q : Nat, q < H.size → ¬ A1 q → H1[q]? = H[q]?) → va_S A0 H0 H1 locs1 → W p l e R s m args below meth c H1 locs1 (cells + mc) (slots + ms) Q (F0 m (pc + 3) ls (.float r :: rest))) : W p l e R s m args below meth c H locs cells slots Q (F0 m pc ls st0) := by
  intro T hT X
  rcases hr T hT X with ⟨v, st₀, t, T', L, h0, X', hL, e1, e2, ⟨⟨r, u, hv, hp, hb⟩, hF⟩, st⟩ | ⟨q, st₀, t, T', L, E, ce, h0, X', hL, e1, e2, ⟨u, hp, hb, hF⟩, hce, hcv, hcl, st⟩
  · cases hv
    obtain ⟨k1, k2, k3⟩ := vx_keep h0 e1 hS hA hf hL hF
    obtain ⟨t2, a1, b1⟩ := kk r u t T'.heap (locs ++ L) e1.symm (by rw [← e2]; exact X'.warmed.alike) hp hb k1 k2 k3 T' rfl X'
    exact ⟨t2, st t2 a1, b1⟩
  · obtain ⟨k1, k2, k3⟩ := vx_keep h0 e1 hS hAX hf hL hF
    obtain ⟨t2, a1, b1⟩ := kx E ce q u t T'.heap (locs ++ L) e1.symm (by rw [← e2]; exact X'.warmed.alike) hp hb k1 k2 k3 (by rw [e1]; exact hce) hcv hcl T' rfl X'
    exact ⟨t2, st.trans a1, b1⟩
theorem vx_calld {S SX : Type} {post : UInt64 → S → Prop} {px : SX → Prop} {B : S → State → Prop} {BX : String → SX → State → Prop} {AX : Nat → Prop} (hr : vx_Run p l e R s m args below meth c H locs cells slots mc ms (F0 m pc ls st0) rest (va_Qd post B A1 a) (vx_X px BX AX) free) (hS : va_S A0 H0 H locs) (hA : ∀ q, q < H.size → A1 q → A0 q) (hf : ∀ q, free q → A0 q) (hAX : ∀ q, q < H.size → AX q → A0 q)
    (kx : ∀ (E : String) (ce : Cell) (q9 : Addr) (u : SX) (t : State) (H1 : Heap) (locs1 : List Loc), t.heap = H1 → s.vm.Alike t.vm → px u → BX E u t → H.size ≤ H1.size → (∀ q : Nat, q < H.size → ¬ AX q → H1[q]? = H[q]?) → va_S A0 H0 H1 locs1 → H1[q9]? = some ce → ce.vm = .none → s.vm.findClass E = some ce.cls → vx_W p l e R s m args below meth c H1 locs1 (cells + mc) (slots + ms) Q (F0 m pc ls rest) q9)
    (kk : ∀ (r : UInt64) (u : S) (t : State) (H1 : Heap) (locs1 : List Loc), t.heap = H1 → s.vm.Alike t.vm → post r u → B u t → H.size ≤ H1.size → (∀ q : Nat, q < H.size → ¬ A1 q → H1[q]? = H[q]?) → va_S A0 H0 H1 locs1 → W p l e R s m args below meth c H1 locs1 (cells + mc) (slots + ms) Q (F0 m (pc + 3) ls (.double r :: rest))) : W p l e R s m args below meth c H locs cells slots Q (F0 m pc ls st0) := by
  intro T hT X
  rcases hr T hT X with ⟨v, st₀, t, T', L, h0, X', hL, e1, e2, ⟨⟨r, u, hv, hp, hb⟩, hF⟩, st⟩ | ⟨q, st₀, t, T', L, E, ce, h0, X', hL, e1, e2, ⟨u, hp, hb, hF⟩, hce, hcv, hcl, st⟩
  · cases hv
    obtain ⟨k1, k2, k3⟩ := vx_keep h0 e1 hS hA hf hL hF
    obtain ⟨t2, a1, b1⟩ := kk r u t T'.heap (locs ++ L) e1.symm (by rw [← e2]; exact X'.warmed.alike) hp hb k1 k2 k3 T' rfl X'
    exact ⟨t2, st t2 a1, b1⟩
  · obtain ⟨k1, k2, k3⟩ := vx_keep h0 e1 hS hAX hf hL hF
    obtain ⟨t2, a1, b1⟩ := kx E ce q u t T'.heap (locs ++ L) e1.symm (by rw [← e2]; exact X'.warmed.alike) hp hb k1 k2 k3 (by rw [e1]; exact hce) hcv hcl T' rfl X'
    exact ⟨t2, st.trans a1, b1⟩
theorem vx_callv {S SX : Type} {post : S → Prop} {px : SX → Prop} {B : S → State → Prop} {BX : String → SX → State → Prop} {AX : Nat → Prop} (hr : vx_Run p l e R s m args below meth c H locs cells slots mc ms (F0 m pc ls st0) rest (va_Qv post B A1 a) (vx_X px BX AX) free) (hS : va_S A0 H0 H locs) (hA : ∀ q, q < H.size → A1 q → A0 q) (hf : ∀ q, free q → A0 q) (hAX : ∀ q, q < H.size → AX q → A0 q)
    (kx : ∀ (E : String) (ce : Cell) (q9 : Addr) (u : SX) (t : State) (H1 : Heap) (locs1 : List Loc), t.heap = H1 → s.vm.Alike t.vm → px u → BX E u t → H.size ≤ H1.size → (∀ q : Nat, q < H.size → ¬ AX q → H1[q]? = H[q]?) → va_S A0 H0 H1 locs1 → H1[q9]? = some ce → ce.vm = .none → s.vm.findClass E = some ce.cls → vx_W p l e R s m args below meth c H1 locs1 (cells + mc) (slots + ms) Q (F0 m pc ls rest) q9)
    (kk : ∀ (u : S) (t : State) (H1 : Heap) (locs1 : List Loc), t.heap = H1 → s.vm.Alike t.vm → post u → B u t → H.size ≤ H1.size → (∀ q : Nat, q < H.size → ¬ A1 q → H1[q]? = H[q]?) → va_S A0 H0 H1 locs1 → W p l e R s m args below meth c H1 locs1 (cells + mc) (slots + ms) Q (F0 m (pc + 3) ls (rest))) : W p l e R s m args below meth c H locs cells slots Q (F0 m pc ls st0) := by
  intro T hT X
  rcases hr T hT X with ⟨v, st₀, t, T', L, h0, X', hL, e1, e2, ⟨⟨u, hv, hp, hb⟩, hF⟩, st⟩ | ⟨q, st₀, t, T', L, E, ce, h0, X', hL, e1, e2, ⟨u, hp, hb, hF⟩, hce, hcv, hcl, st⟩
  · cases hv
    obtain ⟨k1, k2, k3⟩ := vx_keep h0 e1 hS hA hf hL hF
    obtain ⟨t2, a1, b1⟩ := kk u t T'.heap (locs ++ L) e1.symm (by rw [← e2]; exact X'.warmed.alike) hp hb k1 k2 k3 T' rfl X'
    exact ⟨t2, st t2 a1, b1⟩
  · obtain ⟨k1, k2, k3⟩ := vx_keep h0 e1 hS hAX hf hL hF
    obtain ⟨t2, a1, b1⟩ := kx E ce q u t T'.heap (locs ++ L) e1.symm (by rw [← e2]; exact X'.warmed.alike) hp hb k1 k2 k3 (by rw [e1]; exact hce) hcv hcl T' rfl X'
    exact ⟨t2, st.trans a1, b1⟩
/-- caught by the row x of this method's table; the rows ahead don't take it -/
theorem vx_catch {own name : String} {E : String} {ce : Cell} {q : Addr} (hown : s.vm.findClass own = some m.cls) (pre : List ExceptionTableEntry) (x : ExceptionTableEntry) (suf : List ExceptionTableEntry) (hsplit : c.exceptionTable.toList = pre ++ x :: suf)
    (hpass : ∀ z ∈ pre, covers z pc = false ∨ (z.catchType ≠ 0 ∧ ∃ nm : String, (Cond.classLink own z.catchType nm).before args s = true ∧ va_Nc E nm s)) (hx : covers x pc = true) (h0 : x.catchType ≠ 0)
    (hlink : (Cond.classLink own x.catchType name).before args s = true) (hcast : (Cond.castable E name).before args s = true) (hcell : H[q]? = some ce) (hv : ce.vm = .none) (hcl : s.vm.findClass E = some ce.cls)
    (kk : W p l e R s m args below meth c H locs cells slots Q (F0 m x.handlerPc ls [.ref q])) : vx_W p l e R s m args below meth c H locs cells slots Q (F0 m pc ls rest) q := by
  intro T hT X
  have hpl : e.platform.magicAccessors = ({} : Platform).magicAccessors := by rw [X.admits.platform]
  obtain ⟨c3, c4, hc3, hc4, hasg⟩ := Cond.castable_spec hcast
  cases Option.some.inj (hc3.symm.trans hcl)
  obtain ⟨c5, hc5, hcl5⟩ := Cond.classLink_spec hown hlink e.platform hpl
  cases Option.some.inj (hc4.symm.trans hc5)
  obtain ⟨vm', X', st⟩ := X.thenCaughtThrough q (g := F0 m pc ls rest) rfl (Steps.refl _) (by rw [hT]; exact hcell) (by rw [hv]; rfl) (by obtain ⟨k9, h9, -⟩ := Vm.findClass_spec hcl; exact ⟨k9, h9⟩) pre x suf hsplit
    (fun z hz => by
      rcases hpass z hz with h | ⟨hz0, nm, hl1, hn1⟩
      · exact Or.inl h
      · obtain ⟨c6, hc6, hcl6⟩ := Cond.classLink_spec hown hl1 e.platform hpl
        obtain ⟨a8, b8, h1, h2, h3⟩ := hn1
        cases Option.some.inj (h1.symm.trans hcl)
        cases Option.some.inj (h2.symm.trans hc6)
        exact Or.inr ⟨hz0, _, hcl6, h3⟩) hx (Or.inr ⟨h0, c4, hcl5, hasg⟩)
  obtain ⟨t, a1, b1⟩ := kk (T.setVm vm') hT X'
  exact ⟨t, st.trans a1, b1⟩
end Rows
section Ends
variable {p : Program} {l : Launch} {e : Env} {R : Room} {s : State} {m : MethodId} {args : Array Value} {below : List Frame} {meth : Method} {c : Code} {H : Heap} {locs : List Loc} {cells slots : Nat} {Q : State → Prop}
variable {mc ms : Nat} {free : Addr → Prop} {A0 A1 : Nat → Prop} {H0 : Heap} {a : Array Value} {ls : Array Slot} {st0 rest : List Value}
variable {Qc : Array Value → State → Outcome → State → Prop} {XC : String → State → State → Prop}
/-- what a body that may throw owes at its end -/
def vx_MQ (below : List Frame) (Qc : Array Value → State → Outcome → State → Prop) (XC : String → State → State → Prop) (a : Array Value) (s : State) (mc ms : Nat) (free : Addr → Prop) : State → Prop := fun t =>
  ∃ o, t.status = .running ∧ Ended t below o ∧ vx_Q Qc XC mc ms free a s o t
theorem vx_ret {g : JFrame} {mc ms : Nat} (k : W p l e R s m args below meth c H locs cells slots (MQ below Qc args s mc ms free) g) : W p l e R s m args below meth c H locs cells slots (vx_MQ below Qc XC args s mc ms free) g := by
  intro T hT X
  obtain ⟨t, a1, o, b1, b2, b3, b4⟩ := k T hT X
  exact ⟨t, a1, o, b1, b2, Or.inl ⟨b3, b4⟩⟩
/-- not caught here: it goes on to the caller -/
theorem vx_widen {g : JFrame} {q : Addr} {k n : Nat} (h1 : cells ≤ k) (h2 : slots ≤ n) (kk : vx_W p l e R s m args below meth c H locs k n Q g q) : vx_W p l e R s m args below meth c H locs cells slots Q g q := fun T hT X => kk T hT (stand_widen X h1 h2)
theorem vx_out {pc : Nat} {E : String} {ce : Cell} {q : Addr} {mc ms : Nat} (hout : ∀ x ∈ c.exceptionTable.toList, covers x pc = false) (hlocks : meth.locks = false) (hcell : H[q]? = some ce) (hv : ce.vm = .none) (hcl : s.vm.findClass E = some ce.cls)
    (hx : ∀ t : State, t.heap = H → s.vm.Alike t.vm → XC E s t) (hf : ∀ z ∈ locs, free z.base) (hc : cells ≤ mc) (hs : slots ≤ ms) :
    vx_W p l e R s m args below meth c H locs cells slots (vx_MQ below Qc XC args s mc ms free) (F0 m pc ls rest) q := by
  intro T hT X
  obtain ⟨st1, hrun, hend, hW, hsm⟩ := X.leaveThrown q (g := F0 m pc ls rest) rfl rfl rfl hout hlocks
  have hcell9 : (T.setFrames (.throwing q :: below)).heap[q]? = some ce := by
    show T.heap[q]? = some ce
    rw [hT]; exact hcell
  exact ⟨_, st1, .threw q, hrun, hend, Or.inr ⟨q, rfl, E, ce, locs, hx _ hT hW.alike, hcell9, hv, hcl, hW, hsm.mono hc hs, hf⟩⟩
theorem vx_frame {U : State} {k n : Nat} (h : s.sameButNew ({ U with vm := s.vm } : State) locs k n) : s.heap.size ≤ U.heap.size ∧ ∀ q : Nat, q < s.heap.size → (∀ z ∈ locs, z.base ≠ q) → U.heap[q]? = s.heap[q]? := by
  obtain ⟨-, h2, -, -, -, h6⟩ := h
  refine ⟨h2, fun q hq hz => ?_⟩
  obtain ⟨c9, e1, e2, e3, e4⟩ := h6 q _ (Array.getElem?_eq_getElem hq)
  have hs : c9.slots = (s.heap[q]).slots := Array.ext_getElem? fun i => e4 i fun hm => hz _ hm rfl
  have h9 : c9 = s.heap[q] := by
    rw [hs] at e2
    exact e2
  have e5 : U.heap[q]? = some c9 := e1
  rw [e5, h9, Array.getElem?_eq_getElem hq]
/-- the words of a throw but the four that speak of the heap -/
def vx_no (w : Cond) : Bool := decide (w ≠ .isRef (.static Bundle.tN "UNASSIGNED_STACK" Bundle.steD)) && decide (w ≠ .isRef (.static Bundle.tN "SUPPRESSED_SENTINEL" Bundle.listD)) && decide (w ≠ .laysStatic Bundle.tN "UNASSIGNED_STACK" Bundle.steD) && decide (w ≠ .laysStatic Bundle.tN "SUPPRESSED_SENTINEL" Bundle.listD)
def vx_at0 (own : String) (ic : Nat) (X : String) (names : List String) : List Cond := (Bundle.ownAtoms0 own ic X names).filter vx_no
def vx_atS (own : String) (ic : Nat) (X : String) (names : List String) : List Cond := (Bundle.ownAtoms own ic X names).filter vx_no
/-- a word that the tables alone decide, or a good one -/
def vx_ot (w : Cond) : Bool := w.onTables || goodWord w
theorem vx_ot_at {args a' : Array Value} {s U : State} {w : Cond} (hW : s.WarmedH U.vm) (hvm : s.vm = U.vm) (hg : vx_ot w = true) (h : w.before args s = true) : w.before a' U = true := by
  simp only [vx_ot, Bool.or_eq_true] at hg
  rcases hg with hg | hg
  · exact va_tabs hg hvm h
  · exact word_at hW (good_of_word hg) h
/-- a list's words: the good ones out of the method's own list, the others by premises of their own -/
theorem vx_hat {args : Array Value} {s : State} {L B : List Cond} (h1 : ∀ w ∈ L.filter goodWord, w.before args s = true) (h2 : ∀ w ∈ L.filter (fun w => !goodWord w), w ∈ B) (h3 : ∀ w ∈ B, w.before args s = true) : ∀ w ∈ L, w.before args s = true := by
  intro w hw
  by_cases g : goodWord w = true
  · exact h1 w (List.mem_filter.mpr ⟨hw, g⟩)
  · refine h3 w (h2 w (List.mem_filter.mpr ⟨hw, ?_⟩))
    show (!goodWord w) = true
    cases hgw : goodWord w
    · rfl
    · exact absurd hgw g
theorem vx_c {args : Array Value} {s : State} {w : Cond} {B : List Cond} (h : w.before args s = true) (t : ∀ w ∈ B, w.before args s = true) : ∀ w' ∈ w :: B, w'.before args s = true := fun w' h' => (List.mem_cons.mp h').elim (fun e => by rw [e]; exact h) (t w')
theorem vx_n {args : Array Value} {s : State} : ∀ w ∈ ([] : List Cond), w.before args s = true := fun _ h => nomatch h
theorem vx_own {args : Array Value} {s : State} {L : List Cond} (h1 : ∀ w ∈ L.filter vx_no, w.before args s = true)
    (hU : (Cond.isRef (.static Bundle.tN "UNASSIGNED_STACK" Bundle.steD)).before args s = true) (hN : (Cond.isRef (.static Bundle.tN "SUPPRESSED_SENTINEL" Bundle.listD)).before args s = true)
    (lU : (Cond.laysStatic Bundle.tN "UNASSIGNED_STACK" Bundle.steD).before args s = true) (lN : (Cond.laysStatic Bundle.tN "SUPPRESSED_SENTINEL" Bundle.listD).before args s = true) : ∀ w ∈ L, w.before args s = true := by
  intro w hw
  by_cases e1 : w = .isRef (.static Bundle.tN "UNASSIGNED_STACK" Bundle.steD)
  · rw [e1]; exact hU
  · by_cases e2 : w = .isRef (.static Bundle.tN "SUPPRESSED_SENTINEL" Bundle.listD)
    · rw [e2]; exact hN
    · by_cases e3 : w = .laysStatic Bundle.tN "UNASSIGNED_STACK" Bundle.steD
      · rw [e3]; exact lU
      · by_cases e4 : w = .laysStatic Bundle.tN "SUPPRESSED_SENTINEL" Bundle.listD
        · rw [e4]; exact lN
        · exact h1 w (List.mem_filter.mpr ⟨hw, by unfold vx_no; rw [decide_eq_true e1, decide_eq_true e2, decide_eq_true e3, decide_eq_true e4]; rfl⟩)
/-- where a static field lies, its class's statics cell in H -/
def vx_L (C n d : String) (A : Nat → Prop) (U : State) (H : Heap) : Prop := ∃ (c : ClassId) (k : Class) (i : Nat) (f : Field) (a : Nat) (cell : Cell), U.vm.findClass C = some c ∧ U.fieldFound? C n d = some (c, k, i, f) ∧ f.isStatic = true ∧ k.statics = some a ∧ H[a]? = some cell ∧ cell.vm.isStatics = true ∧ cell.cls = c ∧ f.slot < cell.slots.size ∧ k.staticTypes[f.slot]? = some f.type ∧ ¬ A a
theorem vx_L.moved {C n d : String} {A : Nat → Prop} {u U : State} {H : Heap} (hvm : u.vm.Alike U.vm) (h : vx_L C n d A u H) : vx_L C n d A U H := by
  obtain ⟨c, k, i, f, a, cell, h1, h2, h3, h4, h5, h6, h7, h8, h9, h10⟩ := h
  obtain ⟨k', hi', he⟩ := State.fieldFound?_setVm hvm h2
  exact ⟨c, k', i, f, a, cell, by rw [hvm.findClass]; exact h1, hi', h3, by rw [he]; exact h4, h5, h6, h7, h8, by rw [he]; exact h9, h10⟩
theorem vx_L.kept {C n d : String} {A : Nat → Prop} {U : State} {H H1 : Heap} (h : vx_L C n d A U H) (hq : ∀ a : Nat, a < H.size → ¬ A a → H1[a]? = H[a]?) : vx_L C n d A U H1 := by
  obtain ⟨c, k, i, f, a, cell, h1, h2, h3, h4, h5, h6, h7, h8, h9, h10⟩ := h
  exact ⟨c, k, i, f, a, cell, h1, h2, h3, h4, by rw [hq a (Array.getElem?_eq_some_iff.mp h5).1 h10]; exact h5, h6, h7, h8, h9, h10⟩
theorem vx_L.narrow {C n d : String} {A B : Nat → Prop} {U : State} {H : Heap} (h : vx_L C n d A U H) (hAB : ∀ q, B q → A q) : vx_L C n d B U H := by
  obtain ⟨c, k, i, f, a, cell, h1, h2, h3, h4, h5, h6, h7, h8, h9, h10⟩ := h
  exact ⟨c, k, i, f, a, cell, h1, h2, h3, h4, h5, h6, h7, h8, h9, fun z => h10 (hAB _ z)⟩
theorem vx_L.word {C n d : String} {A : Nat → Prop} {s : State} {args : Array Value} (h : vx_L C n d A s s.heap) : (Cond.laysStatic C n d).before args s = true := by
  obtain ⟨c, k, i, f, a, cell, h1, h2, h3, h4, h5, h6, h7, h8, h9, -⟩ := h
  show (Cond.laysStatic C n d).holds args s none s [] = true
  exact Cond.laysStatic_of h1 h2 h3 h4 h5 h6 h7 h8 h9
/-- .. and what it holds: null or some reference -/
def vx_Zq (C n d : String) (A : Nat → Prop) (U : State) (H : Heap) : Prop := va_Zq C n d A U H ∧ vx_L C n d A U H
theorem vx_Zq.moved {C n d : String} {A : Nat → Prop} {u U : State} {H : Heap} (hvm : u.vm.Alike U.vm) (h : vx_Zq C n d A u H) : vx_Zq C n d A U H := ⟨va_Zq.moved hvm h.1, vx_L.moved hvm h.2⟩
theorem vx_Zq.kept {C n d : String} {A : Nat → Prop} {U : State} {H H1 : Heap} (h : vx_Zq C n d A U H) (hq : ∀ a : Nat, a < H.size → ¬ A a → H1[a]? = H[a]?) : vx_Zq C n d A U H1 := ⟨va_Zq.kept h.1 hq, vx_L.kept h.2 hq⟩
theorem vx_Zq.narrow {C n d : String} {A B : Nat → Prop} {U : State} {H : Heap} (h : vx_Zq C n d A U H) (hAB : ∀ q, B q → A q) : vx_Zq C n d B U H := ⟨va_Zq.narrow h.1 hAB, vx_L.narrow h.2 hAB⟩
theorem vx_Zqof {args : Array Value} {s : State} {C n d : String} {A : Nat → Prop} (hl : (Cond.laysStatic C n d).before args s = true) (hini : (Cond.initialized C).before args s = true) (h : (Cond.isRef (.static C n d)).before args s = true) (hA : ∀ a : Nat, a < s.heap.size → ¬ A a) : vx_Zq C n d A s s.heap := by
  refine ⟨va_Zqof hl hini h hA, ?_⟩
  obtain ⟨c, k, i, f, a, cell, h1, h2, h3, h4, h5, h6, h7, h8, h9⟩ := Cond.laysStatic_spec hl
  exact ⟨c, k, i, f, a, cell, h1, h2, h3, h4, h5, h6, h7, h8, h9, hA a (Array.getElem?_eq_some_iff.mp h5).1⟩
theorem vx_isRef {C n d : String} {v : Value} {A : Nat → Prop} {s : State} {args : Array Value} (h : va_Z C n d v A s s.heap) (hv : v.isRef = true) : (Cond.isRef (.static C n d)).before args s = true := by
  obtain ⟨cf, kf, fi, f, a, cell, h1, h2, h3, h4, h5, h6, h7, -⟩ := h
  have he : (Term.static C n d).eval args s none [] s = some v := by
    simp [Term.eval, State.fieldNamed?, h1, h2, h4, h5, h6, h7]
  simp only [Cond.before, Cond.holds, Cond.value, he]
  cases v <;> simp_all [Value.isRef]
theorem vx_isRefq {C n d : String} {A : Nat → Prop} {s : State} {args : Array Value} (h : va_Zq C n d A s s.heap) : (Cond.isRef (.static C n d)).before args s = true := by
  rcases h with h | ⟨t, h⟩
  · exact vx_isRef h rfl
  · exact vx_isRef h rfl
/-- the same frame, seen from here: as if the method were called anew in this heap -/
theorem vx_rebase {T : State} (X : Stand p l e R s m args below meth c T locs cells slots) {R' : Room} (hf : R'.frames ≤ R.frames) (hl : R'.locals ≤ R.locals) (hc : cells + R'.cells ≤ R.cells) (hs : slots + R'.slots ≤ R.slots) :
    Stand p l e R' ((T.setVm s.vm).setFrames (.invoking m args :: below)) m args below meth c T [] 0 0 := by
  have htop : (T.setVm s.vm).topJava?.isSome := X.here.top
  have hF : ((T.setVm s.vm).setFrames (.invoking m args :: below)).frames = .invoking m args :: below := State.frames_setFrames _ (State.cur_lt_of_top htop)
  obtain ⟨g₀, hg0⟩ := Option.isSome_iff_exists.mp htop
  obtain ⟨r, hr⟩ := State.topJava?_eq_some.mp hg0
  have hl9 : e.platform.stackLimits (T.setVm s.vm).me = e.platform.stackLimits s.me := X.limits
  have hb9 : (T.setVm s.vm).me.stackBytes = s.me.stackBytes := X.bytes
  refine ⟨X.admits, X.cas, X.clock, hF, ?_, X.hears, X.method, X.code, X.here, X.tail, X.warmed, ?_, ?_, ?_⟩
  · have h := X.room
    have hU : ((T.setVm s.vm).setFrames (.invoking m args :: below)).localsInUse = s.localsInUse := by
      rw [State.localsInUse_invoking hF (meth := meth) (c := c) X.method X.code, State.localsInUse_invoking X.frames X.method X.code]
    simp only [State.hasRoom, Bool.and_eq_true, decide_eq_true_eq] at h ⊢
    obtain ⟨⟨⟨⟨h1, h2, h3, h4, h5, h6⟩, h7⟩, h8⟩, h9⟩ := h
    rw [X.frames, List.length_cons] at h2 h3
    have q1 := X.heapSize
    have q2 := X.used
    simp only [hF, hU, List.length_cons, State.stackLimits_setFrames, State.stackBytes_setFrames, hl9, hb9]
    refine ⟨⟨⟨⟨by omega, by omega, by omega, by omega, by omega, h6⟩, ?_⟩, ?_⟩, X.book⟩
    · show T.heap.size + R'.cells ≤ e.platform.maxCells
      omega
    · show T.slotsUsed + R'.slots ≤ e.platform.maxSlots
      omega
  · rw [State.stackLimits_setFrames]; rfl
  · rw [State.stackBytes_setFrames]; rfl
  · refine ⟨?_, Nat.le_refl _, Nat.le_refl _, ?_, ?_, fun a c9 h9 => ⟨c9, h9, rfl, rfl, fun _ _ => rfl⟩⟩
    · obtain ⟨t, ht, -⟩ := State.frames_cons hr
      show T.setVm s.vm = { ((T.setVm s.vm).setFrames (.invoking m args :: below)).setFrames (T.setVm s.vm).frames with heap := T.heap, slotsUsed := T.slotsUsed }
      rw [State.setFrames_setFrames, State.setFrames_self ht]
      rfl
    · show T.slotsUsed = T.slotsUsed + ((T.heap.toList.drop T.heap.size).map (·.slots.size)).sum
      rw [List.drop_eq_nil_of_le (Nat.le_of_eq Array.length_toList)]
      rfl
    · show ((T.heap.toList.drop T.heap.size).map (·.slots.size)).sum ≤ 0
      rw [List.drop_eq_nil_of_le (Nat.le_of_eq Array.length_toList)]
      exact Nat.le_refl _
/-- 'throw new E()': new; dup; invokespecial; athrow -/
theorem vx_throw0 {cc : ByteArray} {pc : Nat} (hexec : p.tables.exec = Jvm.exec) (hb : c.code = cc) (hl : l.stackTraces = false) {own cls : String} {names : List String} {ik ic mc ms : Nat} {A : Nat → Prop}
    (hown : s.vm.findClass own = some m.cls) (hcls : Bundle.fit cls = true) (hnames : ∀ n ∈ names, Bundle.fit n = true)
    (hk : (Cond.classLink own ik cls).before args s = true) (hini : (Cond.initialized cls).before args s = true) (hat : ∀ w ∈ vx_at0 own ic cls names, w.before args s = true)
    (hgood : ∀ w ∈ Cond.classLink own ik cls :: Cond.initialized cls :: vx_at0 own ic cls names, vx_ot w = true)
    (hU : vx_Zq Bundle.tN "UNASSIGNED_STACK" Bundle.steD A s s.heap) (hN : vx_Zq Bundle.tN "SUPPRESSED_SENTINEL" Bundle.listD A s s.heap) (hS : va_S A s.heap H locs) (hsize : ls.size = c.maxLocals)
    (d0 : decode cc pc = .ok (.new ik, 3)) (d3 : decode cc (pc + 3) = .ok (.dup, 1)) (d4 : decode cc (pc + 4) = .ok (.invokespecial ic, 3)) (d7 : decode cc (pc + 7) = .ok (.athrow, 1))
    (hout : ∀ x ∈ c.exceptionTable.toList, covers x (pc + 7) = false)
    (hRframes : names.length + 3 < R.frames) (hRlocals : (rest.map fun v => v.category).sum + (13 * (names.length + 1) + 42) ≤ R.locals) (hRcells : cells + 1 ≤ R.cells) (hRslots : slots + 6 ≤ R.slots) (hlocks : meth.locks = false)
    (hx : ∀ t : State, s.vm.Alike t.vm → H.size ≤ t.heap.size → (∀ q : Nat, q < H.size → t.heap[q]? = H[q]?) → XC cls s t)
    (hf : ∀ z ∈ locs, free z.base) (hc : cells + 1 ≤ mc) (hs : slots + 6 ≤ ms) :
    W p l e R s m args below meth c H locs cells slots (vx_MQ below Qc XC args s mc ms free) (F0 m pc ls rest) := by
  intro T hT X
  have htr : e.platform.stackTraces = false := (show e.platform.stackTraces = l.stackTraces by rw [X.admits.platform]).trans hl
  have Y := vx_rebase X (R' := { frames := R.frames, locals := R.locals, cells := 1, slots := 6 }) (Nat.le_refl _) (Nat.le_refl _) hRcells hRslots
  obtain ⟨s', hA⟩ : ∃ z, z = (T.setVm s.vm).setFrames (.invoking m args :: below) := ⟨_, rfl⟩
  rw [← hA] at Y
  have hvm : s'.vm = s.vm := by rw [hA]; rfl
  have hhp : s'.heap = H := by rw [hA]; exact hT
  have hW0 : s.WarmedH s'.vm := by rw [hvm]; exact State.WarmedH.refl s
  have hat' : ∀ w ∈ vx_at0 own ic cls names, w.before args s' = true := fun w hw => vx_ot_at hW0 hvm.symm (hgood w (List.mem_cons_of_mem _ (List.mem_cons_of_mem _ hw))) (hat w hw)
  have hk' : (Cond.classLink own ik cls).before args s' = true := vx_ot_at hW0 hvm.symm (hgood _ List.mem_cons_self) hk
  have hini' : (Cond.initialized cls).before args s' = true := vx_ot_at hW0 hvm.symm (hgood _ (List.mem_cons_of_mem _ List.mem_cons_self)) hini
  have hU' : vx_Zq Bundle.tN "UNASSIGNED_STACK" Bundle.steD A s' s'.heap := by rw [hhp]; exact vx_Zq.moved hW0.alike (hU.kept hS.2.1)
  have hN' : vx_Zq Bundle.tN "SUPPRESSED_SENTINEL" Bundle.listD A s' s'.heap := by rw [hhp]; exact vx_Zq.moved hW0.alike (hN.kept hS.2.1)
  have h : ∀ w ∈ Bundle.ownAtoms0 own ic cls names, w.before args s' = true := vx_own hat' (vx_isRefq hU'.1) (vx_isRefq hN'.1) hU'.2.word hN'.2.word
  have hown' : s'.vm.findClass own = some m.cls := by rw [hvm]; exact hown
  have hins : (Cond.instantiable cls 6).before args s' = true := h _ (by simp [Bundle.ownAtoms0])
  obtain ⟨vm₁, cX, kX, hfX, hkX, -, -, X₁, st1⟩ := Y.newCold hexec (own := own) (C := cls) (index := ik) (n := 6) hown' hk' hins hini'
    (g := F0 m pc ls rest) rfl (by rw [hb]; exact d0) (Nat.le_refl _) (Nat.le_refl _)
  generalize hT1 : (T.setVm vm₁).pushCell { cls := cX, slots := kX.instanceTypes.map defaultValue, vm := .none } = T1 at X₁ st1
  have hcat : (Value.ref T.heap.size).category = 1 := rfl
  have hcellA : T1.heap[T.heap.size]? = some (freshCell cX kX) := by rw [← hT1]; exact State.heap_pushCell_size _ _
  have d3' : decode c.code (pc + 3) = .ok (.dup, 1) := by rw [hb]; exact d3
  obtain ⟨U, hsteps, hrun, hend, hW, hsame, ce, hce, hO⟩ := X₁.ctorThrow0 hexec htr (own := own) (cls := cls) (names := names) (ic := ic) hown' hcls hnames h (fun x hx => nomatch hx) hfX hkX hcellA (by rw [hhp, hT]; exact Nat.le_refl _)
    (g := { method := m, pc := pc + 4, locals := ls, stack := .ref T.heap.size :: .ref T.heap.size :: rest, locked := none }) rfl hsize rfl rfl (rest := rest) rfl
    (by rw [hb]; exact d4) (by rw [hb]; exact d7) hout hRframes (by simp only [List.map_cons, List.sum_cons, hcat]; omega) hlocks
  obtain ⟨f1, f2⟩ := vx_frame hsame
  rw [hhp] at f1 f2
  have hWs : s.WarmedH U.vm := State.WarmedH.trans hW0 hW
  have hcl : s.vm.findClass cls = some ce.cls := by
    have h9 := hO.cls
    rw [hvm] at h9
    exact h9
  have hall : s.sameButNew ({ U with vm := s.vm } : State) locs mc ms := by
    subst hA
    obtain ⟨e1, e2⟩ := hsame
    rw [State.setFrames_setFrames] at e1
    have h2 : (T.setVm s.vm).sameButNew ({ U with vm := s.vm } : State) [] (0 + 1) (0 + 6) := ⟨e1, e2⟩
    have h3 := X.same.trans h2
    rw [List.append_nil] at h3
    exact h3.mono hc hs
  refine ⟨U, ?_, .threw T.heap.size, hrun, hend, Or.inr ⟨T.heap.size, rfl, cls, ce, locs, hx U hWs.alike f1 (fun q hq => f2 q hq (fun z hz => nomatch hz)), hce, hO.vm, hcl, hWs, hall, hf⟩⟩
  refine st1 _ ?_
  show Steps p.tables e below (T1.setTop { method := m, pc := pc + 3, locals := ls, stack := .ref T.heap.size :: rest, locked := none }) _
  jvm_step X₁.here [X₁.here.top, hexec, d3', Value.category]
  exact hsteps
/-- 'throw new E("text")': new; dup; ldc; invokespecial; athrow -/
theorem vx_throwS {cc : ByteArray} {pc : Nat} (hexec : p.tables.exec = Jvm.exec) (hb : c.code = cc) (hl : l.stackTraces = false) {own cls text : String} {names : List String} {ik is ic mc ms sa : Nat} {A : Nat → Prop}
    (hown : s.vm.findClass own = some m.cls) (hcls : Bundle.fit cls = true) (hnames : ∀ n ∈ names, Bundle.fit n = true)
    (hk : (Cond.classLink own ik cls).before args s = true) (hini : (Cond.initialized cls).before args s = true) (hstr : vk_R own is text sa s) (hat : ∀ w ∈ vx_atS own ic cls names, w.before args s = true)
    (hgood : ∀ w ∈ Cond.classLink own ik cls :: Cond.initialized cls :: vx_atS own ic cls names, vx_ot w = true)
    (hU : vx_Zq Bundle.tN "UNASSIGNED_STACK" Bundle.steD A s s.heap) (hN : vx_Zq Bundle.tN "SUPPRESSED_SENTINEL" Bundle.listD A s s.heap) (hS : va_S A s.heap H locs) (hsize : ls.size = c.maxLocals)
    (d0 : decode cc pc = .ok (.new ik, 3)) (d3 : decode cc (pc + 3) = .ok (.dup, 1)) (d4 : decode cc (pc + 4) = .ok (.ldc is, 2)) (d6 : decode cc (pc + 6) = .ok (.invokespecial ic, 3)) (d9 : decode cc (pc + 9) = .ok (.athrow, 1))
    (hout : ∀ x ∈ c.exceptionTable.toList, covers x (pc + 9) = false)
    (hRframes : names.length + 3 < R.frames) (hRlocals : (rest.map fun v => v.category).sum + (13 * (names.length + 1) + 43) ≤ R.locals) (hRcells : cells + 1 ≤ R.cells) (hRslots : slots + 6 ≤ R.slots) (hlocks : meth.locks = false)
    (hx : ∀ t : State, s.vm.Alike t.vm → H.size ≤ t.heap.size → (∀ q : Nat, q < H.size → t.heap[q]? = H[q]?) → XC cls s t)
    (hf : ∀ z ∈ locs, free z.base) (hc : cells + 1 ≤ mc) (hs : slots + 6 ≤ ms) :
    W p l e R s m args below meth c H locs cells slots (vx_MQ below Qc XC args s mc ms free) (F0 m pc ls rest) := by
  intro T hT X
  have htr : e.platform.stackTraces = false := (show e.platform.stackTraces = l.stackTraces by rw [X.admits.platform]).trans hl
  have Y := vx_rebase X (R' := { frames := R.frames, locals := R.locals, cells := 1, slots := 6 }) (Nat.le_refl _) (Nat.le_refl _) hRcells hRslots
  obtain ⟨s', hA⟩ : ∃ z, z = (T.setVm s.vm).setFrames (.invoking m args :: below) := ⟨_, rfl⟩
  rw [← hA] at Y
  have hvm : s'.vm = s.vm := by rw [hA]; rfl
  have hhp : s'.heap = H := by rw [hA]; exact hT
  have hW0 : s.WarmedH s'.vm := by rw [hvm]; exact State.WarmedH.refl s
  have hat' : ∀ w ∈ vx_atS own ic cls names, w.before args s' = true := fun w hw => vx_ot_at hW0 hvm.symm (hgood w (List.mem_cons_of_mem _ (List.mem_cons_of_mem _ hw))) (hat w hw)
  have hk' : (Cond.classLink own ik cls).before args s' = true := vx_ot_at hW0 hvm.symm (hgood _ List.mem_cons_self) hk
  have hini' : (Cond.initialized cls).before args s' = true := vx_ot_at hW0 hvm.symm (hgood _ (List.mem_cons_of_mem _ List.mem_cons_self)) hini
  have hU' : vx_Zq Bundle.tN "UNASSIGNED_STACK" Bundle.steD A s' s'.heap := by rw [hhp]; exact vx_Zq.moved hW0.alike (hU.kept hS.2.1)
  have hN' : vx_Zq Bundle.tN "SUPPRESSED_SENTINEL" Bundle.listD A s' s'.heap := by rw [hhp]; exact vx_Zq.moved hW0.alike (hN.kept hS.2.1)
  have h : ∀ w ∈ Bundle.ownAtoms own ic cls names, w.before args s' = true := vx_own hat' (vx_isRefq hU'.1) (vx_isRefq hN'.1) hU'.2.word hN'.2.word
  have hown' : s'.vm.findClass own = some m.cls := by rw [hvm]; exact hown
  have hins : (Cond.instantiable cls 6).before args s' = true := h _ (by simp [Bundle.ownAtoms])
  obtain ⟨vm₁, cX, kX, hfX, hkX, -, -, X₁, st1⟩ := Y.newCold hexec (own := own) (C := cls) (index := ik) (n := 6) hown' hk' hins hini'
    (g := F0 m pc ls rest) rfl (by rw [hb]; exact d0) (Nat.le_refl _) (Nat.le_refl _)
  generalize hT1 : (T.setVm vm₁).pushCell { cls := cX, slots := kX.instanceTypes.map defaultValue, vm := .none } = T1 at X₁ st1
  have hcat : (Value.ref T.heap.size).category = 1 := rfl
  have hcellA : T1.heap[T.heap.size]? = some (freshCell cX kX) := by rw [← hT1]; exact State.heap_pushCell_size _ _
  have d3' : decode c.code (pc + 3) = .ok (.dup, 1) := by rw [hb]; exact d3
  have d4' : decode c.code (pc + 4) = .ok (.ldc is, 2) := by rw [hb]; exact d4
  have hstr' : vk_R own is text sa s' := vk_R.warm hW0 hstr
  obtain ⟨U, hsteps, hrun, hend, hW, hsame, ce, hce, hO⟩ := X₁.ctorThrowS hexec htr (own := own) (cls := cls) (names := names) (ic := ic) hown' hcls hnames h (fun x hx => nomatch hx) hfX hkX hcellA (by rw [hhp, hT]; exact Nat.le_refl _) (msg := .ref sa) rfl
    (g := { method := m, pc := pc + 6, locals := ls, stack := .ref sa :: .ref T.heap.size :: .ref T.heap.size :: rest, locked := none }) rfl hsize rfl rfl (rest := rest) rfl
    (by rw [hb]; exact d6) (by rw [hb]; exact d9) hout hRframes (by simp only [List.map_cons, List.sum_cons, hcat]; omega) hlocks
  obtain ⟨f1, f2⟩ := vx_frame hsame
  rw [hhp] at f1 f2
  have hWs : s.WarmedH U.vm := State.WarmedH.trans hW0 hW
  have hcl : s.vm.findClass cls = some ce.cls := by
    have h9 := hO.cls
    rw [hvm] at h9
    exact h9
  have hall : s.sameButNew ({ U with vm := s.vm } : State) locs mc ms := by
    subst hA
    obtain ⟨e1, e2⟩ := hsame
    rw [State.setFrames_setFrames] at e1
    have h2 : (T.setVm s.vm).sameButNew ({ U with vm := s.vm } : State) [] (0 + 1) (0 + 6) := ⟨e1, e2⟩
    have h3 := X.same.trans h2
    rw [List.append_nil] at h3
    exact h3.mono hc hs
  refine ⟨U, ?_, .threw T.heap.size, hrun, hend, Or.inr ⟨T.heap.size, rfl, cls, ce, locs, hx U hWs.alike f1 (fun q hq => f2 q hq (fun z hz => nomatch hz)), hce, hO.vm, hcl, hWs, hall, hf⟩⟩
  refine st1 _ ?_
  show Steps p.tables e below (T1.setTop { method := m, pc := pc + 3, locals := ls, stack := .ref T.heap.size :: rest, locked := none }) _
  jvm_step X₁.here [X₁.here.top, hexec, d3', Value.category]
  exact X₁.ldcString hexec (own := own) (text := text) (index := is) (a := sa) hown' hstr'.1 hstr'.2
    (g := { method := m, pc := pc + 4, locals := ls, stack := .ref T.heap.size :: .ref T.heap.size :: rest, locked := none }) rfl d4' _ hsteps
/-- 'throw new E("text")', the text by a wide index -/
theorem vx_throwSW {cc : ByteArray} {pc : Nat} (hexec : p.tables.exec = Jvm.exec) (hb : c.code = cc) (hl : l.stackTraces = false) {own cls text : String} {names : List String} {ik is ic mc ms sa : Nat} {A : Nat → Prop}
    (hown : s.vm.findClass own = some m.cls) (hcls : Bundle.fit cls = true) (hnames : ∀ n ∈ names, Bundle.fit n = true)
    (hk : (Cond.classLink own ik cls).before args s = true) (hini : (Cond.initialized cls).before args s = true) (hstr : vk_R own is text sa s) (hat : ∀ w ∈ vx_atS own ic cls names, w.before args s = true)
    (hgood : ∀ w ∈ Cond.classLink own ik cls :: Cond.initialized cls :: vx_atS own ic cls names, vx_ot w = true)
    (hU : vx_Zq Bundle.tN "UNASSIGNED_STACK" Bundle.steD A s s.heap) (hN : vx_Zq Bundle.tN "SUPPRESSED_SENTINEL" Bundle.listD A s s.heap) (hS : va_S A s.heap H locs) (hsize : ls.size = c.maxLocals)
    (d0 : decode cc pc = .ok (.new ik, 3)) (d3 : decode cc (pc + 3) = .ok (.dup, 1)) (d4 : decode cc (pc + 4) = .ok (.ldc_w is, 3)) (d7 : decode cc (pc + 7) = .ok (.invokespecial ic, 3)) (d10 : decode cc (pc + 10) = .ok (.athrow, 1))
    (hout : ∀ x ∈ c.exceptionTable.toList, covers x (pc + 10) = false)
    (hRframes : names.length + 3 < R.frames) (hRlocals : (rest.map fun v => v.category).sum + (13 * (names.length + 1) + 43) ≤ R.locals) (hRcells : cells + 1 ≤ R.cells) (hRslots : slots + 6 ≤ R.slots) (hlocks : meth.locks = false)
    (hx : ∀ t : State, s.vm.Alike t.vm → H.size ≤ t.heap.size → (∀ q : Nat, q < H.size → t.heap[q]? = H[q]?) → XC cls s t)
    (hf : ∀ z ∈ locs, free z.base) (hc : cells + 1 ≤ mc) (hs : slots + 6 ≤ ms) :
    W p l e R s m args below meth c H locs cells slots (vx_MQ below Qc XC args s mc ms free) (F0 m pc ls rest) := by
  intro T hT X
  have htr : e.platform.stackTraces = false := (show e.platform.stackTraces = l.stackTraces by rw [X.admits.platform]).trans hl
  have Y := vx_rebase X (R' := { frames := R.frames, locals := R.locals, cells := 1, slots := 6 }) (Nat.le_refl _) (Nat.le_refl _) hRcells hRslots
  obtain ⟨s', hA⟩ : ∃ z, z = (T.setVm s.vm).setFrames (.invoking m args :: below) := ⟨_, rfl⟩
  rw [← hA] at Y
  have hvm : s'.vm = s.vm := by rw [hA]; rfl
  have hhp : s'.heap = H := by rw [hA]; exact hT
  have hW0 : s.WarmedH s'.vm := by rw [hvm]; exact State.WarmedH.refl s
  have hat' : ∀ w ∈ vx_atS own ic cls names, w.before args s' = true := fun w hw => vx_ot_at hW0 hvm.symm (hgood w (List.mem_cons_of_mem _ (List.mem_cons_of_mem _ hw))) (hat w hw)
  have hk' : (Cond.classLink own ik cls).before args s' = true := vx_ot_at hW0 hvm.symm (hgood _ List.mem_cons_self) hk
  have hini' : (Cond.initialized cls).before args s' = true := vx_ot_at hW0 hvm.symm (hgood _ (List.mem_cons_of_mem _ List.mem_cons_self)) hini
  have hU' : vx_Zq Bundle.tN "UNASSIGNED_STACK" Bundle.steD A s' s'.heap := by rw [hhp]; exact vx_Zq.moved hW0.alike (hU.kept hS.2.1)
  have hN' : vx_Zq Bundle.tN "SUPPRESSED_SENTINEL" Bundle.listD A s' s'.heap := by rw [hhp]; exact vx_Zq.moved hW0.alike (hN.kept hS.2.1)
  have h : ∀ w ∈ Bundle.ownAtoms own ic cls names, w.before args s' = true := vx_own hat' (vx_isRefq hU'.1) (vx_isRefq hN'.1) hU'.2.word hN'.2.word
  have hown' : s'.vm.findClass own = some m.cls := by rw [hvm]; exact hown
  have hins : (Cond.instantiable cls 6).before args s' = true := h _ (by simp [Bundle.ownAtoms])
  obtain ⟨vm₁, cX, kX, hfX, hkX, -, -, X₁, st1⟩ := Y.newCold hexec (own := own) (C := cls) (index := ik) (n := 6) hown' hk' hins hini'
    (g := F0 m pc ls rest) rfl (by rw [hb]; exact d0) (Nat.le_refl _) (Nat.le_refl _)
  generalize hT1 : (T.setVm vm₁).pushCell { cls := cX, slots := kX.instanceTypes.map defaultValue, vm := .none } = T1 at X₁ st1
  have hcat : (Value.ref T.heap.size).category = 1 := rfl
  have hcellA : T1.heap[T.heap.size]? = some (freshCell cX kX) := by rw [← hT1]; exact State.heap_pushCell_size _ _
  have d3' : decode c.code (pc + 3) = .ok (.dup, 1) := by rw [hb]; exact d3
  have d4' : decode c.code (pc + 4) = .ok (.ldc_w is, 3) := by rw [hb]; exact d4
  have hstr' : vk_R own is text sa s' := vk_R.warm hW0 hstr
  obtain ⟨U, hsteps, hrun, hend, hW, hsame, ce, hce, hO⟩ := X₁.ctorThrowS hexec htr (own := own) (cls := cls) (names := names) (ic := ic) hown' hcls hnames h (fun x hx => nomatch hx) hfX hkX hcellA (by rw [hhp, hT]; exact Nat.le_refl _) (msg := .ref sa) rfl
    (g := { method := m, pc := pc + 7, locals := ls, stack := .ref sa :: .ref T.heap.size :: .ref T.heap.size :: rest, locked := none }) rfl hsize rfl rfl (rest := rest) rfl
    (by rw [hb]; exact d7) (by rw [hb]; exact d10) hout hRframes (by simp only [List.map_cons, List.sum_cons, hcat]; omega) hlocks
  obtain ⟨f1, f2⟩ := vx_frame hsame
  rw [hhp] at f1 f2
  have hWs : s.WarmedH U.vm := State.WarmedH.trans hW0 hW
  have hcl : s.vm.findClass cls = some ce.cls := by
    have h9 := hO.cls
    rw [hvm] at h9
    exact h9
  have hall : s.sameButNew ({ U with vm := s.vm } : State) locs mc ms := by
    subst hA
    obtain ⟨e1, e2⟩ := hsame
    rw [State.setFrames_setFrames] at e1
    have h2 : (T.setVm s.vm).sameButNew ({ U with vm := s.vm } : State) [] (0 + 1) (0 + 6) := ⟨e1, e2⟩
    have h3 := X.same.trans h2
    rw [List.append_nil] at h3
    exact h3.mono hc hs
  refine ⟨U, ?_, .threw T.heap.size, hrun, hend, Or.inr ⟨T.heap.size, rfl, cls, ce, locs, hx U hWs.alike f1 (fun q hq => f2 q hq (fun z hz => nomatch hz)), hce, hO.vm, hcl, hWs, hall, hf⟩⟩
  refine st1 _ ?_
  show Steps p.tables e below (T1.setTop { method := m, pc := pc + 3, locals := ls, stack := .ref T.heap.size :: rest, locked := none }) _
  jvm_step X₁.here [X₁.here.top, hexec, d3', Value.category]
  exact X₁.ldcStringW hexec (own := own) (text := text) (index := is) (a := sa) hown' hstr'.1 hstr'.2
    (g := { method := m, pc := pc + 4, locals := ls, stack := .ref T.heap.size :: .ref T.heap.size :: rest, locked := none }) rfl d4' _ hsteps
end Ends
section Bodies
variable {l : Launch}
theorem vx_ofW {y : MethodName} {ws ws' : List Cond} {rm : Room} {Pc : Array Value → State → Prop} {Qc : Array Value → State → Outcome → State → Prop} {XC : String → State → State → Prop} {mc ms : Nat} {free : Addr → Prop} {cc : ByteArray} {maxL : Nat} {ret : Option FieldType}
    (hy : plainName y.cls = true) (hw : ws = Cond.code y cc maxL ret :: ws')
    (body : ∀ p e s m args below meth c s₁, BodyLoose p l y (headSpec ws rm) cc maxL ret e s m args below meth c s₁ → c.maxLocals = maxL → (∀ x ∈ c.exceptionTable.toList, False) → Pc args s →
      W p l e (headSpec ws rm).room s m args below meth c s.heap [] 0 0 (vx_MQ below Qc XC args s mc ms free) (entryFrame m args maxL)) : vx_Met l y ws rm Pc Qc XC mc ms free := by
  refine MetFree.of_bodyS (code := cc) (maxLocals := maxL) (ret := ret) hy ?_ ?_
  · intro args s m h hn
    obtain ⟨meth, c, h1, h2, h3, h4, h5, h6, -, -⟩ := Cond.code_spec hn (atoms_spec (ws := ws) h _ (by rw [hw]; exact List.mem_cons_self))
    exact ⟨meth, c, h1, h2, h3, h4, h5, h6⟩
  · intro p e s m args below meth c s₁ B hml hP _
    have hh0 : s₁.heap = s.heap := by rw [B.state]; rfl
    have ht : ∀ x ∈ c.exceptionTable.toList, False := by
      obtain ⟨meth9, c9, h1, h2, -, -, -, -, h7, -⟩ := Cond.code_spec B.named (atoms_spec (ws := ws) B.pre _ (by rw [hw]; exact List.mem_cons_self))
      cases Option.some.inj (h1.symm.trans B.method)
      cases Option.some.inj (h2.symm.trans (Stand.of_body B).code)
      intro x hx
      rw [Array.isEmpty_iff.mp h7] at hx
      cases hx
    obtain ⟨t, a1, o, b1, b2, b3⟩ := body p e s m args below meth c s₁ B hml ht hP s₁ hh0 (Stand.of_body B)
    exact ⟨t, o, a1, b1, b2, b3⟩
/-- the table of a body with handlers -/
theorem vx_table {p : Program} {x y : MethodName} {S : Spec} {cc bytes : ByteArray} {maxL maxL' : Nat} {ret ret' : Option FieldType} {e : Env} {s s₁ : State} {m : MethodId} {args : Array Value} {below : List Frame} {meth : Method} {c : Code} {hh : List (Nat × Nat × Nat × Nat)}
    (B : BodyLoose p l y S cc maxL ret e s m args below meth c s₁) (h : (Cond.codeWith y bytes maxL' ret' hh).before args s = true) : c.exceptionTable.toList = tableOf hh := by
  obtain ⟨m9, meth9, c9, hn9, h1, h2, -, -, h6, -⟩ := Cond.codeWith_spec h
  cases Option.some.inj (hn9.symm.trans B.named)
  cases Option.some.inj (h1.symm.trans B.method)
  cases Option.some.inj (h2.symm.trans (Stand.of_body B).code)
  rw [← h6, table_eq]
end Bodies
end VXA
/-! ===== END ===== -/
/-! ===== BEGIN a static call of a method with an exception table ===== -/
section VXS
variable {p : Program} {l : Launch} {e : Env} {R : Room} {s : State} {m : MethodId} {args : Array Value} {below : List Frame} {meth : Method} {c : Code} {T : State} {H : Heap} {locs : List Loc} {cells slots : Nat}
abbrev vx_CSW (R : Room) (s : State) (args : Array Value) (own : String) (index : Nat) (y : MethodName) (bytes : ByteArray) (maxL : Nat) (ret : Option FieldType) (hh : List (Nat × Nat × Nat × Nat)) (ws : List Cond) (rm : Room) (mc ms n : Nat) : Prop :=
  (rm.cells = mc ∧ rm.slots = ms ∧ rm.frames + 1 ≤ R.frames ∧ 8 + (maxL + 11) + rm.locals ≤ R.locals ∧ (∀ w ∈ ws, ∀ (a' : Array Value) (U : State), s.WarmedH U.vm → w.before a' U = true) ∧ Cond.codeWith y bytes maxL ret hh ∈ ws) ∧
  (Cond.codeWith y bytes maxL ret hh).before args s = true ∧ (Cond.initialized y.cls).before args s = true ∧ (y.cls ≠ "java/lang/invoke/MethodHandle" ∧ y.cls ≠ "java/lang/invoke/VarHandle") ∧
  (∀ sig, parseMethodDescriptor y.desc = some sig → n = sig.parameters.length) ∧ (Cond.methodLink own index y).before args s = true ∧ (Cond.static y).before args s = true
theorem vx_cwSW {own : String} {index maxL mc ms : Nat} {y : MethodName} {bytes : ByteArray} {ret : Option FieldType} {hh : List (Nat × Nat × Nat × Nat)} {Ts ws ws' : List Cond} {rm : Room} (n : Nat) (ht : ∀ w ∈ Ts, w.before args s = true) (hT : GoodIn Ts (va_wsS own index y ws)) (hw : ws = Cond.codeWith y bytes maxL ret hh :: ws') (hrc : rm.cells = mc) (hrs : rm.slots = ms)
    (hd : y.cls ≠ "java/lang/invoke/MethodHandle" ∧ y.cls ≠ "java/lang/invoke/VarHandle" ∧ (parseMethodDescriptor y.desc).map (fun d => d.parameters.length) = some n) (hR : rm.frames + 1 ≤ R.frames ∧ 8 + (maxL + 11) + rm.locals ≤ R.locals) :
    vx_CSW R s args own index y bytes maxL ret hh ws rm mc ms n := by
  have ok : ∀ w ∈ va_wsS own index y ws, w.before args s = true := fun w h => ht w (hT w h).1
  have hG : GoodIn Ts ws := fun w h => hT w (by unfold va_wsS; exact List.mem_append_right _ h)
  have hc : Cond.codeWith y bytes maxL ret hh ∈ ws := by rw [hw]; exact List.mem_cons_self
  refine ⟨⟨hrc, hrs, hR.1, hR.2, pay_in ht hG, hc⟩, ht _ (hG _ hc).1, ok _ (by simp [va_wsS]), ⟨hd.1, hd.2.1⟩, fun sig h => ?_, ok _ (by simp [va_wsS]), ok _ (by simp [va_wsS])⟩
  have h2 := hd.2.2
  rw [h] at h2
  exact (Option.some.inj h2).symm
theorem vx_callSW (X : Stand p l e R s m args below meth c T locs cells slots) (hexec : p.tables.exec = Jvm.exec) {own : String} {index : Nat} {y : MethodName} {bytes : ByteArray} {maxL : Nat} {ret : Option FieldType} {hh : List (Nat × Nat × Nat × Nat)}
    (hown : s.vm.findClass own = some m.cls) (hlink : (Cond.methodLink own index y).before args s = true) (hstat : (Cond.static y).before args s = true) (hinit : (Cond.initialized y.cls).before args s = true)
    (hcode : (Cond.codeWith y bytes maxL ret hh).before args s = true) (hy : y.cls ≠ "java/lang/invoke/MethodHandle" ∧ y.cls ≠ "java/lang/invoke/VarHandle")
    {W9 : Nat} {Pre : Pt → Array Value → Prop} {Post : Pt → Array Value → Option Value → Pt → Prop} (hK : Back l R p e below s args y 3 W9 Pre Post)
    {g : JFrame} (hg : g.method = m) (hsize : g.locals.size = c.maxLocals) {argsL rest : List Value} (hlen : ∀ sig, parseMethodDescriptor y.desc = some sig → argsL.length = sig.parameters.length)
    (hstack : g.stack = argsL.reverse ++ rest) (hW : 2 * g.monitorRoom + (rest.map fun v => v.category).sum ≤ W9) (hdg : decode c.code g.pc = .ok (.invokestatic index, 3))
    (hpre : ∀ vm₁, s.WarmedH vm₁ → Pre ⟨T.setVm vm₁, locs, cells, slots⟩ argsL.toArray) :
    ∃ (v : Option Value) (vm₁ : Vm) (B : Pt), s.WarmedH vm₁ ∧ Stand p l e R s m args below meth c B.U B.locs B.cells B.slots ∧ Post ⟨T.setVm vm₁, locs, cells, slots⟩ argsL.toArray v B ∧
      ∀ target, Steps p.tables e below (B.U.setTop { g with pc := g.pc + 3, stack := v.toList ++ rest }) target → Steps p.tables e below (T.setTop g) target := by
  obtain ⟨mk, methM, cM, hnamed, hmethM, -, -, -, -, -, -, hsigM⟩ := Cond.codeWith_spec hcode
  have hstatic : methM.isStatic = true := Cond.static_spec hnamed hmethM hstat
  obtain ⟨kP, hkP, -⟩ := className_of_methodNamed hnamed
  have hinitP : kP.init = .initialized := Cond.initialized_spec (findClass_of_methodNamed hnamed) hkP hinit
  obtain ⟨vm₁, X₁, hstep₁⟩ := X.invokestatic hexec hown hlink hnamed hmethM hstatic hkP hinitP hy (g := g) hg (argsL := argsL) (rest := rest) (hlen _ hsigM) hstack hdg
  obtain ⟨v, B, X', hpost, hsteps⟩ := hK m meth c ⟨T.setVm vm₁, locs, cells, slots⟩ { g with stack := rest } (.invokestatic index) mk argsL.toArray X₁ hg hsize hdg hW (X₁.named hnamed) (hpre vm₁ X₁.warmed)
  exact ⟨v, vm₁, B, X₁.warmed, X', hpost, fun target h => hstep₁ _ fun acts => by rw [doInvoke_state]; exact hsteps.trans h⟩
theorem vx_runSW {y : MethodName} {bytes cc : ByteArray} {maxL nL mc ms n index : Nat} {ret : Option FieldType} {hh : List (Nat × Nat × Nat × Nat)} {ws : List Cond} {rm : Room} {Pc : Array Value → State → Prop} {Qc : Array Value → State → Outcome → State → Prop} {free : Addr → Prop} {Ts : List Cond} {own : String} {As rest : List Value} {g : JFrame}
    (S : CallFix p m c cc nL s args Ts own) (hM : Met l y ws rm Pc Qc mc ms free) (cw : vx_CSW R s args own index y bytes maxL ret hh ws rm mc ms n) (hp : PreS s H Pc As)
    (hg : g.method = m) (hn : As.length = n) (hsize : g.locals.size = nL) (hstack : g.stack = As.reverse ++ rest) (hW : 2 * g.monitorRoom + (rest.map fun v => v.category).sum ≤ 8) (hdg : decode cc g.pc = .ok (.invokestatic index, 3)) (hf : cells + mc ≤ R.cells ∧ slots + ms ≤ R.slots) :
    va_Run p l e R s m args below meth c H locs cells slots mc ms g rest (Qc As.toArray) (free) := by
  obtain ⟨⟨hrc, hrs, hfr, hlo, hws, hcw⟩, hcode, hini, hy, hlen, hl, hstt⟩ := cw
  have hK : Back l R p e below s args y 3 8 (PreOf R mc ms Pc) (PostOf Qc mc ms free) := va_backW (hh := hh) (bytes := bytes) (maxL := maxL) (ret := ret) hM hp.1 hrc hrs hfr hlo hws hcw (fun a' U hW => word_at hW (Or.inl (by first | rfl | simp [Cond.onTables, Cond.keeps, Cond.steady])) hini)
  obtain ⟨hx, hb, hml, ho, -⟩ := S
  intro T hT X
  obtain ⟨v, vm₁, ⟨U', l2, c2, s2⟩, hW₁, X', ⟨g', mk, t, L, e1, e2, hq, h1, hL, h2, h3⟩, st⟩ := vx_callSW X hx (hh := hh) (bytes := bytes) (maxL := maxL) (ret := ret) ho hl hstt hini hcode hy hK hg (hsize.trans hml.symm) (argsL := As) (rest := rest) (fun sig h => hn.trans (hlen sig h)) hstack hW (by rw [hb]; exact hdg)
    (fun vm₁ hW₁ => ⟨hf.1, hf.2, hp.2 (T.setVm vm₁) hT hW₁⟩)
  dsimp only [Pt.U, Pt.locs, Pt.cells, Pt.slots] at X' e1 e2 h1 h2 h3 st
  subst h1; subst h2; subst h3
  exact ⟨v, (T.setVm vm₁).calling g' mk As.toArray, t, U', L, hT, X', hL, e1, e2, hq, st⟩
/-- not caught here, past rows that name other classes: it goes on to the caller -/
theorem vx_outP {p : Program} {l : Launch} {e : Env} {R : Room} {s : State} {m : MethodId} {args : Array Value} {below : List Frame} {meth : Method} {c : Code} {H : Heap} {locs : List Loc} {cells slots : Nat} {free : Addr → Prop} {ls : Array Slot} {rest : List Value} {Qc : Array Value → State → Outcome → State → Prop} {XC : String → State → State → Prop}
    {pc : Nat} {own E : String} {ce : Cell} {q : Addr} {mc ms : Nat} (hown : s.vm.findClass own = some m.cls) (hlocks : meth.locks = false)
    (hpass : ∀ z ∈ c.exceptionTable.toList, covers z pc = false ∨ (z.catchType ≠ 0 ∧ ∃ nm : String, (Cond.classLink own z.catchType nm).before args s = true ∧ va_Nc E nm s)) (hcell : H[q]? = some ce) (hv : ce.vm = .none) (hcl : s.vm.findClass E = some ce.cls)
    (hx : ∀ t : State, t.heap = H → s.vm.Alike t.vm → XC E s t) (hf : ∀ z ∈ locs, free z.base) (hc : cells ≤ mc) (hs : slots ≤ ms) :
    vx_W p l e R s m args below meth c H locs cells slots (vx_MQ below Qc XC args s mc ms free) (F0 m pc ls rest) q := by
  intro T hT X
  have hpl : e.platform.magicAccessors = ({} : Platform).magicAccessors := by rw [X.admits.platform]
  obtain ⟨vm', hW', X', st⟩ := X.outThrough hlocks q (g := F0 m pc ls rest) rfl rfl rfl (cell := ce) (by rw [hT]; exact hcell) (by rw [hv]; rfl)
    (by obtain ⟨k9, h9, -⟩ := Vm.findClass_spec hcl; exact ⟨k9, h9⟩) (fun z hz => by
      rcases hpass z hz with h | ⟨hz0, nm, hl1, hn1⟩
      · exact Or.inl h
      · obtain ⟨c6, hc6, hcl6⟩ := Cond.classLink_spec hown hl1 e.platform hpl
        obtain ⟨a8, b8, h1, h2, h3⟩ := hn1
        cases Option.some.inj (h1.symm.trans hcl)
        cases Option.some.inj (h2.symm.trans hc6)
        exact Or.inr ⟨hz0, _, hcl6, h3⟩)
  obtain ⟨g₀, hfr⟩ := X'.frames_eq
  have hcell9 : ((T.setVm vm').setFrames (.throwing q :: below)).heap[q]? = some ce := by
    show T.heap[q]? = some ce
    rw [hT]; exact hcell
  have hend : Ended ((T.setVm vm').setFrames (.throwing q :: below)) below (.threw q) := State.frames_setFrames _ (State.cur_lt_of_frames hfr)
  refine ⟨(T.setVm vm').setFrames (.throwing q :: below), ?_, .threw q, X'.here.running, hend, Or.inr ⟨q, rfl, E, ce, locs, hx _ hT (X'.ends _).1.alike, hcell9, hv, hcl, (X'.ends _).1, (X'.ends _).2.mono hc hs, hf⟩⟩
  rw [X.pushThrowing_eq]
  exact st
/-- a thing of a world lies in the heap -/
theorem vx_lt {D : va_G} {cl : List vw_C} {ws : va_W} {H1 : Heap} (h : va_P D cl ws H1) {k : Nat} {q : Nat × va_E} (hk : ws[k]? = some q) : q.1 < H1.size := (h k q hk).lt
end VXS
/-! ===== END ===== -/
/-! ===== BEGIN methods with a table of their own: called by a name, returning or throwing ===== -/
section VXH
/-! vx_backW, vx_callVX, vx_callSX, vx_callVW, vx_runVW, vx_runVX, vx_runSX, vx_ofWH follow the same proofs as their sisters above (Free/Laws.lean, Shelf42/LK1.lean); vx_outP calls Shelf42/NT130.lean (outThrough). -/
section
variable {l : Launch} {R : Room} {p : Program} {e : Env} {below : List Frame} {s : State} {sargs : Array Value} {y : MethodName} {len W9 : Nat}
theorem vx_backW {ws : List Cond} {rm : Room} {Pc : Array Value → State → Prop} {Qc : Array Value → State → Outcome → State → Prop} {XC : String → State → State → Prop} {mc ms : Nat} {free : Addr → Prop} {bytes : ByteArray} {maxL : Nat} {ret : Option FieldType} {hh : List (Nat × Nat × Nat × Nat)}
    (hM : vx_Met l y ws rm Pc Qc XC mc ms free) (hblind : FrameBlind Pc) (hrc : rm.cells = mc) (hrs : rm.slots = ms)
    (hframes : rm.frames + 1 ≤ R.frames) (hlocals : W9 + (maxL + 11) + rm.locals ≤ R.locals)
    (hws : ∀ w ∈ ws, ∀ a' U, s.WarmedH U.vm → w.before a' U = true) (hcode : Cond.codeWith y bytes maxL ret hh ∈ ws) (hinit : ∀ a' U, s.WarmedH U.vm → (Cond.initialized y.cls).before a' U = true) :
    vx_Back l R p e below s sargs y len W9 (PreOf R mc ms Pc) (PostOf Qc mc ms free) (vx_Post XC mc ms free) := by
  intro m meth c A g ig mk a X hg hsize hdg hW hn hp
  have h1 : (headSpec ws rm).pre.before a A.U = true := atoms_intro fun w hw => hws w hw _ _ X.warmed
  have h2 : (Cond.codeWith y bytes maxL ret hh).before a A.U = true := hws _ hcode _ _ X.warmed
  have h3 : (Cond.initialized y.cls).before a A.U = true := hinit _ _ X.warmed
  have h4 : A.cells + (headSpec ws rm).room.cells ≤ R.cells := by rw [show (headSpec ws rm).room.cells = mc from hrc]; exact hp.1
  have h5 : A.slots + (headSpec ws rm).room.slots ≤ R.slots := by rw [show (headSpec ws rm).room.slots = ms from hrs]; exact hp.2.1
  have hPc : Pc a (A.U.calling g mk a) := hblind _ _ _ _ hp.2.2
  obtain ⟨U, Ls, c0, s0⟩ := A
  dsimp only [Pt.U, Pt.locs, Pt.cells, Pt.slots] at h1 h2 h3 h4 h5 X hn hPc ⊢
  obtain ⟨m9, methY, cY, hn9, hmY, hcY, -, hlY, -⟩ := Cond.codeWith_spec h2
  cases Option.some.inj (hn9.symm.trans hn)
  obtain ⟨kY, hkY, -⟩ := className_of_methodNamed hn
  have hinitY : kY.init = .initialized := Cond.initialized_spec (findClass_of_methodNamed hn) hkY h3
  have h : At U g.method c below := by rw [hg]; exact X.here
  have hlocals9 : W9 + (maxL + 11) + (headSpec ws rm).room.locals ≤ R.locals := hlocals
  have happ : (headSpec ws rm).appliesLoose y e.platform (U.calling g mk a) = true :=
    Spec.appliesLoose_calling (g := g) h hdg hn hkY hinitY
      (X.room_calling (g := g) (R' := (headSpec ws rm).room) hsize hmY hcY hframes (by rw [hlY]; omega) h4 h5) h1
  obtain ⟨mid, hmid⟩ := h.above
  have hfr : (U.setTop g).frames = (.java g :: mid) ++ below := by rw [State.frames_setTop' g h.top, hmid]; rfl
  obtain ⟨o, s₂, hsteps, -, hend, hq⟩ := Steps.callFree hM p X.admits X.cas X.clock (acts := []) hfr happ hPc trivial
  have hq' : vx_Q Qc XC mc ms free a (U.calling g mk a) o s₂ := hq
  rw [State.frames_setTop' g h.top] at hend
  obtain ⟨g₀, hg0⟩ := Option.isSome_iff_exists.mp h.top
  obtain ⟨r, hr⟩ := State.topJava?_eq_some.mp hg0
  have hr' : (({ U with heap := s₂.heap, slotsUsed := s₂.slotsUsed } : State).setVm s₂.vm).frames = .java g₀ :: r := hr
  rcases hq' with ⟨hqc, L, hfe, hL⟩ | ⟨q, rfl, E, ce, L, hx, hce, hcv, hcl, hW₂, hsm, hL⟩
  · obtain ⟨⟨v, rfl⟩, hW₂, e2, q2, q3, q4, q5, q6⟩ := id hfe
    have e3 : s₂ = ({ (U.calling g mk a).setFrames s₂.frames with heap := s₂.heap, slotsUsed := s₂.slotsUsed } : State).setVm s₂.vm := by
      have : s₂ = ({ s₂ with vm := (U.calling g mk a).vm } : State).setVm s₂.vm := rfl
      rw [e2] at this
      exact this
    obtain ⟨c₂, i₂, len₂, hc₂, hd₂, hf₂⟩ := hend
    have hW' : U.WarmedH s₂.vm := hW₂
    have hcc : c₂ = c := by
      have h1 : s₂.code? g.method = U.code? g.method := by
        rw [State.code?_eq, State.code?_eq, hW'.alike.method?]
      exact Option.some.inj (hc₂.symm.trans (h1.trans h.code))
    subst hcc
    have hlen : len₂ = len := by rw [hdg] at hd₂; cases hd₂; rfl
    subst hlen
    have hs₂ : s₂ = (({ U with heap := s₂.heap, slotsUsed := s₂.slotsUsed } : State).setVm s₂.vm).setTop { g with pc := g.pc + len₂, stack := v.toList ++ g.stack } := by
      refine e3.trans ?_
      rw [hf₂, State.calling_eq h.top, State.setFrames_setFrames, State.setTop_of_frames _ hr', hr]
      rfl
    have hsame : U.sameButNew ({ U with heap := s₂.heap, slotsUsed := s₂.slotsUsed } : State) L mc ms := by
      refine ⟨?_, q2, q3, q4, q5, q6⟩
      obtain ⟨t, ht, -⟩ := State.frames_cons hr
      show ({ U with heap := s₂.heap, slotsUsed := s₂.slotsUsed } : State) = { U.setFrames U.frames with heap := s₂.heap, slotsUsed := s₂.slotsUsed }
      rw [State.setFrames_self ht]
    subst hg
    refine Or.inl ⟨v, ⟨(({ U with heap := s₂.heap, slotsUsed := s₂.slotsUsed } : State).setVm s₂.vm), Ls ++ L, c0 + mc, s0 + ms⟩,
      ⟨X.admits, X.cas, X.clock, X.frames, X.room, X.hears, X.method, X.code, (X.here.setHeapUsed s₂.heap s₂.slotsUsed).setVm hW'.alike, X.tail, State.WarmedH.trans X.warmed hW', X.limits, X.bytes, X.same.trans (hsame.setVm s.vm)⟩,
      ⟨g, mk, s₂, L, rfl, rfl, hqc, rfl, hL, rfl, rfl⟩, ?_⟩
    show Steps p.tables e below _ ((({ U with heap := s₂.heap, slotsUsed := s₂.slotsUsed } : State).setVm s₂.vm).setTop { g with pc := g.pc + len₂, stack := v.toList ++ g.stack })
    rw [← hs₂]
    exact hsteps
  · obtain ⟨e2, q2, q3, q4, q5, q6⟩ := id hsm
    have e3 : s₂ = ({ (U.calling g mk a).setFrames s₂.frames with heap := s₂.heap, slotsUsed := s₂.slotsUsed } : State).setVm s₂.vm := by
      have : s₂ = ({ s₂ with vm := (U.calling g mk a).vm } : State).setVm s₂.vm := rfl
      rw [e2] at this
      exact this
    have hf₂ : s₂.frames = .throwing q :: .java g :: U.frames.tail := hend
    have hW' : U.WarmedH s₂.vm := hW₂
    have hs₂ : s₂ = ((({ U with heap := s₂.heap, slotsUsed := s₂.slotsUsed } : State).setVm s₂.vm).setTop g).pushFrame (.throwing q) := by
      refine e3.trans ?_
      rw [hf₂, State.calling_eq h.top, State.setFrames_setFrames, State.pushFrame, State.frames_setTop _ hr', State.setTop_of_frames _ hr', State.setFrames_setFrames, hr]
      rfl
    have hsame : U.sameButNew ({ U with heap := s₂.heap, slotsUsed := s₂.slotsUsed } : State) L mc ms := by
      refine ⟨?_, q2, q3, q4, q5, q6⟩
      obtain ⟨t, ht, -⟩ := State.frames_cons hr
      show ({ U with heap := s₂.heap, slotsUsed := s₂.slotsUsed } : State) = { U.setFrames U.frames with heap := s₂.heap, slotsUsed := s₂.slotsUsed }
      rw [State.setFrames_self ht]
    subst hg
    refine Or.inr ⟨q, ⟨(({ U with heap := s₂.heap, slotsUsed := s₂.slotsUsed } : State).setVm s₂.vm), Ls ++ L, c0 + mc, s0 + ms⟩,
      ⟨X.admits, X.cas, X.clock, X.frames, X.room, X.hears, X.method, X.code, (X.here.setHeapUsed s₂.heap s₂.slotsUsed).setVm hW'.alike, X.tail, State.WarmedH.trans X.warmed hW', X.limits, X.bytes, X.same.trans (hsame.setVm s.vm)⟩,
      ⟨g, mk, s₂, L, E, ce, rfl, rfl, hx, hce, hcv, hcl, rfl, hL, rfl, rfl⟩, ?_⟩
    show Steps p.tables e below _ (((({ U with heap := s₂.heap, slotsUsed := s₂.slotsUsed } : State).setVm s₂.vm).setTop g).pushFrame (.throwing q))
    rw [← hs₂]
    exact hsteps
end
variable {p : Program} {l : Launch} {e : Env} {R : Room} {s : State} {m : MethodId} {args : Array Value} {below : List Frame} {meth : Method} {c : Code} {T : State} {H : Heap} {locs : List Loc} {cells slots : Nat}
theorem vx_callVX (X : Stand p l e R s m args below meth c T locs cells slots) (hexec : p.tables.exec = Jvm.exec) {own C : String} {index : Nat} {y : MethodName} {bytes : ByteArray} {maxL : Nat} {ret : Option FieldType} {hh : List (Nat × Nat × Nat × Nat)}
    (hown : s.vm.findClass own = some m.cls) (hlink : (Cond.methodLink own index y).before args s = true) (hinst : (Cond.instanceMethod y).before args s = true) (hsel : (Cond.selects C y y).before args s = true)
    (hcode : (Cond.codeWith y bytes maxL ret hh).before args s = true) (hy : y.cls ≠ "java/lang/invoke/MethodHandle" ∧ y.cls ≠ "java/lang/invoke/VarHandle")
    {W9 : Nat} {Pre : Pt → Array Value → Prop} {Post : Pt → Array Value → Option Value → Pt → Prop} {PostX : Pt → Array Value → Addr → Pt → Prop} (hK : vx_Back l R p e below s args y 3 W9 Pre Post PostX)
    {b : Addr} {cellB : Cell} (hcell : T.heap[b]? = some cellB) (hobj : cellB.vm.isStatics = false) (hcls : s.vm.findClass C = some cellB.cls)
    {g : JFrame} (hg : g.method = m) (hsize : g.locals.size = c.maxLocals) {argsL rest : List Value} (hlen : ∀ sig, parseMethodDescriptor y.desc = some sig → argsL.length = sig.parameters.length)
    (hstack : g.stack = argsL.reverse ++ .ref b :: rest) (hW : 2 * g.monitorRoom + (rest.map fun v => v.category).sum ≤ W9) (hdg : decode c.code g.pc = .ok (.invokevirtual index, 3))
    (hpre : ∀ vm₁, s.WarmedH vm₁ → Pre ⟨T.setVm vm₁, locs, cells, slots⟩ (Value.ref b :: argsL).toArray) :
    (∃ (v : Option Value) (vm₁ : Vm) (B : Pt), s.WarmedH vm₁ ∧ Stand p l e R s m args below meth c B.U B.locs B.cells B.slots ∧ Post ⟨T.setVm vm₁, locs, cells, slots⟩ (Value.ref b :: argsL).toArray v B ∧
      ∀ target, Steps p.tables e below (B.U.setTop { g with pc := g.pc + 3, stack := v.toList ++ rest }) target → Steps p.tables e below (T.setTop g) target) ∨
    (∃ (q : Addr) (vm₁ : Vm) (B : Pt), s.WarmedH vm₁ ∧ Stand p l e R s m args below meth c B.U B.locs B.cells B.slots ∧ PostX ⟨T.setVm vm₁, locs, cells, slots⟩ (Value.ref b :: argsL).toArray q B ∧
      Steps p.tables e below (T.setTop g) ((B.U.setTop { g with stack := rest }).pushFrame (.throwing q))) := by
  obtain ⟨mk, methM, hnamed, hmethM, hstM, habM⟩ := Cond.instanceMethod_spec hinst
  obtain ⟨m8, methM', cM, hn8, hmethM', -, -, -, -, -, -, hsigM⟩ := Cond.codeWith_spec hcode
  cases Option.some.inj (hn8.symm.trans hnamed)
  cases hmethM.symm.trans hmethM'
  obtain ⟨c2, r2, m2, q1, q2, q3, q4, kP, hkP, hkPi⟩ := Cond.selects_spec hsel
  cases hcls.symm.trans q1
  cases (State.methodFound?_of_named hnamed hy).symm.trans q2
  cases hnamed.symm.trans q3
  have hselP : selectMethod e.platform s.vm cellB.cls mk = .method mk := by rw [Launch.admits_selectMethod X.admits]; exact q4
  obtain ⟨vm₁, X₁, hstep₁⟩ := X.invokevirtual hexec hown hlink hnamed hmethM hstM hkP hkPi hy (a := b) (cell := cellB) hcell
    (fun z h => by rw [h] at hobj; cases hobj) hselP hmethM habM hkP hkPi (g := g) hg (argsL := argsL) (rest := rest) (hlen _ hsigM) hstack hdg
  rcases hK m meth c ⟨T.setVm vm₁, locs, cells, slots⟩ { g with stack := rest } (.invokevirtual index) mk (Value.ref b :: argsL).toArray X₁ hg hsize hdg hW (X₁.named hnamed) (hpre vm₁ X₁.warmed) with ⟨v, B, X', hpost, hsteps⟩ | ⟨q, B, X', hpost, hsteps⟩
  · exact Or.inl ⟨v, vm₁, B, X₁.warmed, X', hpost, fun target h => hstep₁ _ fun acts => by rw [doInvoke_state]; exact hsteps.trans h⟩
  · exact Or.inr ⟨q, vm₁, B, X₁.warmed, X', hpost, hstep₁ _ fun acts => by rw [doInvoke_state]; exact hsteps⟩
theorem vx_callSX (X : Stand p l e R s m args below meth c T locs cells slots) (hexec : p.tables.exec = Jvm.exec) {own : String} {index : Nat} {y : MethodName} {bytes : ByteArray} {maxL : Nat} {ret : Option FieldType} {hh : List (Nat × Nat × Nat × Nat)}
    (hown : s.vm.findClass own = some m.cls) (hlink : (Cond.methodLink own index y).before args s = true) (hstat : (Cond.static y).before args s = true) (hinit : (Cond.initialized y.cls).before args s = true)
    (hcode : (Cond.codeWith y bytes maxL ret hh).before args s = true) (hy : y.cls ≠ "java/lang/invoke/MethodHandle" ∧ y.cls ≠ "java/lang/invoke/VarHandle")
    {W9 : Nat} {Pre : Pt → Array Value → Prop} {Post : Pt → Array Value → Option Value → Pt → Prop} {PostX : Pt → Array Value → Addr → Pt → Prop} (hK : vx_Back l R p e below s args y 3 W9 Pre Post PostX)
    {g : JFrame} (hg : g.method = m) (hsize : g.locals.size = c.maxLocals) {argsL rest : List Value} (hlen : ∀ sig, parseMethodDescriptor y.desc = some sig → argsL.length = sig.parameters.length)
    (hstack : g.stack = argsL.reverse ++ rest) (hW : 2 * g.monitorRoom + (rest.map fun v => v.category).sum ≤ W9) (hdg : decode c.code g.pc = .ok (.invokestatic index, 3))
    (hpre : ∀ vm₁, s.WarmedH vm₁ → Pre ⟨T.setVm vm₁, locs, cells, slots⟩ argsL.toArray) :
    (∃ (v : Option Value) (vm₁ : Vm) (B : Pt), s.WarmedH vm₁ ∧ Stand p l e R s m args below meth c B.U B.locs B.cells B.slots ∧ Post ⟨T.setVm vm₁, locs, cells, slots⟩ argsL.toArray v B ∧
      ∀ target, Steps p.tables e below (B.U.setTop { g with pc := g.pc + 3, stack := v.toList ++ rest }) target → Steps p.tables e below (T.setTop g) target) ∨
    (∃ (q : Addr) (vm₁ : Vm) (B : Pt), s.WarmedH vm₁ ∧ Stand p l e R s m args below meth c B.U B.locs B.cells B.slots ∧ PostX ⟨T.setVm vm₁, locs, cells, slots⟩ argsL.toArray q B ∧
      Steps p.tables e below (T.setTop g) ((B.U.setTop { g with stack := rest }).pushFrame (.throwing q))) := by
  obtain ⟨mk, methM, cM, hnamed, hmethM, -, -, -, -, -, -, hsigM⟩ := Cond.codeWith_spec hcode
  have hstatic : methM.isStatic = true := Cond.static_spec hnamed hmethM hstat
  obtain ⟨kP, hkP, -⟩ := className_of_methodNamed hnamed
  have hinitP : kP.init = .initialized := Cond.initialized_spec (findClass_of_methodNamed hnamed) hkP hinit
  obtain ⟨vm₁, X₁, hstep₁⟩ := X.invokestatic hexec hown hlink hnamed hmethM hstatic hkP hinitP hy (g := g) hg (argsL := argsL) (rest := rest) (hlen _ hsigM) hstack hdg
  rcases hK m meth c ⟨T.setVm vm₁, locs, cells, slots⟩ { g with stack := rest } (.invokestatic index) mk argsL.toArray X₁ hg hsize hdg hW (X₁.named hnamed) (hpre vm₁ X₁.warmed) with ⟨v, B, X', hpost, hsteps⟩ | ⟨q, B, X', hpost, hsteps⟩
  · exact Or.inl ⟨v, vm₁, B, X₁.warmed, X', hpost, fun target h => hstep₁ _ fun acts => by rw [doInvoke_state]; exact hsteps.trans h⟩
  · exact Or.inr ⟨q, vm₁, B, X₁.warmed, X', hpost, hstep₁ _ fun acts => by rw [doInvoke_state]; exact hsteps⟩
theorem vx_callVW (X : Stand p l e R s m args below meth c T locs cells slots) (hexec : p.tables.exec = Jvm.exec) {own C : String} {index : Nat} {y : MethodName} {bytes : ByteArray} {maxL : Nat} {ret : Option FieldType} {hh : List (Nat × Nat × Nat × Nat)}
    (hown : s.vm.findClass own = some m.cls) (hlink : (Cond.methodLink own index y).before args s = true) (hinst : (Cond.instanceMethod y).before args s = true) (hsel : (Cond.selects C y y).before args s = true)
    (hcode : (Cond.codeWith y bytes maxL ret hh).before args s = true) (hy : y.cls ≠ "java/lang/invoke/MethodHandle" ∧ y.cls ≠ "java/lang/invoke/VarHandle")
    {W9 : Nat} {Pre : Pt → Array Value → Prop} {Post : Pt → Array Value → Option Value → Pt → Prop} (hK : Back l R p e below s args y 3 W9 Pre Post)
    {b : Addr} {cellB : Cell} (hcell : T.heap[b]? = some cellB) (hobj : cellB.vm.isStatics = false) (hcls : s.vm.findClass C = some cellB.cls)
    {g : JFrame} (hg : g.method = m) (hsize : g.locals.size = c.maxLocals) {argsL rest : List Value} (hlen : ∀ sig, parseMethodDescriptor y.desc = some sig → argsL.length = sig.parameters.length)
    (hstack : g.stack = argsL.reverse ++ .ref b :: rest) (hW : 2 * g.monitorRoom + (rest.map fun v => v.category).sum ≤ W9) (hdg : decode c.code g.pc = .ok (.invokevirtual index, 3))
    (hpre : ∀ vm₁, s.WarmedH vm₁ → Pre ⟨T.setVm vm₁, locs, cells, slots⟩ (Value.ref b :: argsL).toArray) :
    ∃ (v : Option Value) (vm₁ : Vm) (B : Pt), s.WarmedH vm₁ ∧ Stand p l e R s m args below meth c B.U B.locs B.cells B.slots ∧ Post ⟨T.setVm vm₁, locs, cells, slots⟩ (Value.ref b :: argsL).toArray v B ∧
      ∀ target, Steps p.tables e below (B.U.setTop { g with pc := g.pc + 3, stack := v.toList ++ rest }) target → Steps p.tables e below (T.setTop g) target := by
  obtain ⟨mk, methM, hnamed, hmethM, hstM, habM⟩ := Cond.instanceMethod_spec hinst
  obtain ⟨m8, methM', cM, hn8, hmethM', -, -, -, -, -, -, hsigM⟩ := Cond.codeWith_spec hcode
  cases Option.some.inj (hn8.symm.trans hnamed)
  cases hmethM.symm.trans hmethM'
  obtain ⟨c2, r2, m2, q1, q2, q3, q4, kP, hkP, hkPi⟩ := Cond.selects_spec hsel
  cases hcls.symm.trans q1
  cases (State.methodFound?_of_named hnamed hy).symm.trans q2
  cases hnamed.symm.trans q3
  have hselP : selectMethod e.platform s.vm cellB.cls mk = .method mk := by rw [Launch.admits_selectMethod X.admits]; exact q4
  obtain ⟨vm₁, X₁, hstep₁⟩ := X.invokevirtual hexec hown hlink hnamed hmethM hstM hkP hkPi hy (a := b) (cell := cellB) hcell
    (fun z h => by rw [h] at hobj; cases hobj) hselP hmethM habM hkP hkPi (g := g) hg (argsL := argsL) (rest := rest) (hlen _ hsigM) hstack hdg
  obtain ⟨v, B, X', hpost, hsteps⟩ := hK m meth c ⟨T.setVm vm₁, locs, cells, slots⟩ { g with stack := rest } (.invokevirtual index) mk (Value.ref b :: argsL).toArray X₁ hg hsize hdg hW (X₁.named hnamed) (hpre vm₁ X₁.warmed)
  exact ⟨v, vm₁, B, X₁.warmed, X', hpost, fun target h => hstep₁ _ fun acts => by rw [doInvoke_state]; exact hsteps.trans h⟩
abbrev vx_CVW (R : Room) (s : State) (args : Array Value) (own C : String) (index : Nat) (y : MethodName) (bytes : ByteArray) (maxL : Nat) (ret : Option FieldType) (hh : List (Nat × Nat × Nat × Nat)) (ws : List Cond) (rm : Room) (mc ms n : Nat) : Prop :=
  (rm.cells = mc ∧ rm.slots = ms ∧ rm.frames + 1 ≤ R.frames ∧ 8 + (maxL + 11) + rm.locals ≤ R.locals ∧ (∀ w ∈ ws, ∀ (a' : Array Value) (U : State), s.WarmedH U.vm → w.before a' U = true) ∧ Cond.codeWith y bytes maxL ret hh ∈ ws) ∧
  (Cond.codeWith y bytes maxL ret hh).before args s = true ∧ (Cond.initialized y.cls).before args s = true ∧ (y.cls ≠ "java/lang/invoke/MethodHandle" ∧ y.cls ≠ "java/lang/invoke/VarHandle") ∧
  (∀ sig, parseMethodDescriptor y.desc = some sig → n = sig.parameters.length) ∧ (Cond.methodLink own index y).before args s = true ∧ (Cond.instanceMethod y).before args s = true ∧ (Cond.selects C y y).before args s = true
theorem vx_cwVW {own C : String} {index maxL mc ms : Nat} {y : MethodName} {bytes : ByteArray} {ret : Option FieldType} {hh : List (Nat × Nat × Nat × Nat)} {Ts ws ws' : List Cond} {rm : Room} (n : Nat) (ht : ∀ w ∈ Ts, w.before args s = true) (hT : GoodIn Ts (wsV own index C y ws)) (hw : ws = Cond.codeWith y bytes maxL ret hh :: ws') (hrc : rm.cells = mc) (hrs : rm.slots = ms)
    (hd : y.cls = C ∧ y.cls ≠ "java/lang/invoke/MethodHandle" ∧ y.cls ≠ "java/lang/invoke/VarHandle" ∧ (parseMethodDescriptor y.desc).map (fun d => d.parameters.length) = some n) (hR : rm.frames + 1 ≤ R.frames ∧ 8 + (maxL + 11) + rm.locals ≤ R.locals) :
    vx_CVW R s args own C index y bytes maxL ret hh ws rm mc ms n := by
  obtain ⟨hC, hd⟩ := hd
  subst hC
  have ok : ∀ w ∈ wsV own index y.cls y ws, w.before args s = true := fun w h => ht w (hT w h).1
  have hG : GoodIn Ts ws := fun w h => hT w (by unfold wsV; exact List.mem_append_right _ h)
  have hc : Cond.codeWith y bytes maxL ret hh ∈ ws := by rw [hw]; exact List.mem_cons_self
  refine ⟨⟨hrc, hrs, hR.1, hR.2, pay_in ht hG, hc⟩, ht _ (hG _ hc).1, ok _ (by simp [wsV]), ⟨hd.1, hd.2.1⟩, fun sig h => ?_, ok _ (by simp [wsV]), ok _ (by simp [wsV]), ok _ (by simp [wsV])⟩
  have h2 := hd.2.2
  rw [h] at h2
  exact (Option.some.inj h2).symm
theorem vx_runVW {y : MethodName} {bytes cc : ByteArray} {maxL nL mc ms n index : Nat} {ret : Option FieldType} {hh : List (Nat × Nat × Nat × Nat)} {ws : List Cond} {rm : Room} {Pc : Array Value → State → Prop} {Qc : Array Value → State → Outcome → State → Prop} {free : Addr → Prop} {Ts : List Cond} {own C : String} {b : Addr} {As rest : List Value} {g : JFrame}
    (S : CallFix p m c cc nL s args Ts own) (hM : Met l y ws rm Pc Qc mc ms free) (cw : vx_CVW R s args own C index y bytes maxL ret hh ws rm mc ms n) (hp : PreV s H C b Pc As)
    (hg : g.method = m) (hn : As.length = n) (hsize : g.locals.size = nL) (hstack : g.stack = As.reverse ++ .ref b :: rest) (hW : 2 * g.monitorRoom + (rest.map fun v => v.category).sum ≤ 8) (hdg : decode cc g.pc = .ok (.invokevirtual index, 3)) (hf : cells + mc ≤ R.cells ∧ slots + ms ≤ R.slots) :
    va_Run p l e R s m args below meth c H locs cells slots mc ms g rest (Qc (Value.ref b :: As).toArray) free := by
  obtain ⟨⟨hrc, hrs, hfr, hlo, hws, hcw⟩, hcode, hini, hy, hlen, hl, hin, hse⟩ := cw
  have hK : Back l R p e below s args y 3 8 (PreOf R mc ms Pc) (PostOf Qc mc ms free) := va_backW (hh := hh) (bytes := bytes) (maxL := maxL) (ret := ret) hM hp.1 hrc hrs hfr hlo hws hcw (fun a' U hW => word_at hW (Or.inl (by first | rfl | simp [Cond.onTables, Cond.keeps, Cond.steady])) hini)
  obtain ⟨hx, hb, hml, ho, -⟩ := S
  obtain ⟨-, ⟨cellB, hcB, hoB, hclB⟩, hPc⟩ := hp
  intro T hT X
  obtain ⟨v, vm₁, ⟨U', l2, c2, s2⟩, hW₁, X', ⟨g', mk, t, L, e1, e2, hq, h1, hL, h2, h3⟩, st⟩ := vx_callVW X hx (C := C) (hh := hh) (bytes := bytes) (maxL := maxL) (ret := ret) ho hl hin hse hcode hy hK (by rw [hT]; exact hcB) hoB hclB hg (hsize.trans hml.symm) (argsL := As) (rest := rest) (fun sig h => hn.trans (hlen sig h)) hstack hW (by rw [hb]; exact hdg)
    (fun vm₁ hW₁ => ⟨hf.1, hf.2, hPc (T.setVm vm₁) hT hW₁⟩)
  dsimp only [Pt.U, Pt.locs, Pt.cells, Pt.slots] at X' e1 e2 h1 h2 h3 st
  subst h1; subst h2; subst h3
  exact ⟨v, (T.setVm vm₁).calling g' mk (Value.ref b :: As).toArray, t, U', L, hT, X', hL, e1, e2, hq, st⟩
section
variable {y : MethodName} {bytes cc : ByteArray} {maxL nL mc ms n index : Nat} {ret : Option FieldType} {ws : List Cond} {rm : Room} {Pc : Array Value → State → Prop} {Qc : Array Value → State → Outcome → State → Prop} {XC : String → State → State → Prop} {free : Addr → Prop} {Ts : List Cond} {own C : String} {b : Addr} {As rest : List Value} {g : JFrame}
theorem vx_runVX {hh : List (Nat × Nat × Nat × Nat)} (S : CallFix p m c cc nL s args Ts own) (hM : vx_Met l y ws rm Pc Qc XC mc ms free) (cw : vx_CVW R s args own C index y bytes maxL ret hh ws rm mc ms n) (hp : PreV s H C b Pc As)
    (hg : g.method = m) (hn : As.length = n) (hsize : g.locals.size = nL) (hstack : g.stack = As.reverse ++ .ref b :: rest) (hW : 2 * g.monitorRoom + (rest.map fun v => v.category).sum ≤ 8) (hdg : decode cc g.pc = .ok (.invokevirtual index, 3)) (hf : cells + mc ≤ R.cells ∧ slots + ms ≤ R.slots) :
    vx_Run p l e R s m args below meth c H locs cells slots mc ms g rest (Qc (Value.ref b :: As).toArray) XC free := by
  obtain ⟨⟨hrc, hrs, hfr, hlo, hws, hcw⟩, hcode, hini, hy, hlen, hl, hin, hse⟩ := cw
  have hK : vx_Back l R p e below s args y 3 8 (PreOf R mc ms Pc) (PostOf Qc mc ms free) (vx_Post XC mc ms free) := vx_backW (hh := hh) (bytes := bytes) (maxL := maxL) (ret := ret) hM hp.1 hrc hrs hfr hlo hws hcw (fun a' U hW => word_at hW (Or.inl (by first | rfl | simp [Cond.onTables, Cond.keeps, Cond.steady])) hini)
  obtain ⟨hx, hb, hml, ho, -⟩ := S
  obtain ⟨-, ⟨cellB, hcB, hoB, hclB⟩, hPc⟩ := hp
  intro T hT X
  rcases vx_callVX X hx (C := C) (hh := hh) (bytes := bytes) (maxL := maxL) (ret := ret) ho hl hin hse hcode hy hK (by rw [hT]; exact hcB) hoB hclB hg (hsize.trans hml.symm) (argsL := As) (rest := rest) (fun sig h => hn.trans (hlen sig h)) hstack hW (by rw [hb]; exact hdg)
    (fun vm₁ hW₁ => ⟨hf.1, hf.2, hPc (T.setVm vm₁) hT hW₁⟩) with ⟨v, vm₁, ⟨U', l2, c2, s2⟩, hW₁, X', ⟨g', mk, t, L, e1, e2, hq, h1, hL, h2, h3⟩, st⟩ | ⟨q, vm₁, ⟨U', l2, c2, s2⟩, hW₁, X', ⟨g', mk, t, L, E, ce, e1, e2, hq, hce, hcv, hcl, h1, hL, h2, h3⟩, st⟩
  · dsimp only [Pt.U, Pt.locs, Pt.cells, Pt.slots] at X' e1 e2 h1 h2 h3 st
    subst h1; subst h2; subst h3
    exact Or.inl ⟨v, (T.setVm vm₁).calling g' mk (Value.ref b :: As).toArray, t, U', L, hT, X', hL, e1, e2, hq, st⟩
  · dsimp only [Pt.U, Pt.locs, Pt.cells, Pt.slots] at X' e1 e2 h1 h2 h3 st hcl
    subst h1; subst h2; subst h3
    exact Or.inr ⟨q, (T.setVm vm₁).calling g' mk (Value.ref b :: As).toArray, t, U', L, E, ce, hT, X', hL, e1, e2, hq, hce, hcv, vx_cls hW₁ hcl, st⟩
theorem vx_runSX {hh : List (Nat × Nat × Nat × Nat)} (S : CallFix p m c cc nL s args Ts own) (hM : vx_Met l y ws rm Pc Qc XC mc ms free) (cw : vx_CSW R s args own index y bytes maxL ret hh ws rm mc ms n) (hp : PreS s H Pc As)
    (hg : g.method = m) (hn : As.length = n) (hsize : g.locals.size = nL) (hstack : g.stack = As.reverse ++ rest) (hW : 2 * g.monitorRoom + (rest.map fun v => v.category).sum ≤ 8) (hdg : decode cc g.pc = .ok (.invokestatic index, 3)) (hf : cells + mc ≤ R.cells ∧ slots + ms ≤ R.slots) :
    vx_Run p l e R s m args below meth c H locs cells slots mc ms g rest (Qc As.toArray) XC free := by
  obtain ⟨⟨hrc, hrs, hfr, hlo, hws, hcw⟩, hcode, hini, hy, hlen, hl, hstt⟩ := cw
  have hK : vx_Back l R p e below s args y 3 8 (PreOf R mc ms Pc) (PostOf Qc mc ms free) (vx_Post XC mc ms free) := vx_backW (hh := hh) (bytes := bytes) (maxL := maxL) (ret := ret) hM hp.1 hrc hrs hfr hlo hws hcw (fun a' U hW => word_at hW (Or.inl (by first | rfl | simp [Cond.onTables, Cond.keeps, Cond.steady])) hini)
  obtain ⟨hx, hb, hml, ho, -⟩ := S
  intro T hT X
  rcases vx_callSX X hx (hh := hh) (bytes := bytes) (maxL := maxL) (ret := ret) ho hl hstt hini hcode hy hK hg (hsize.trans hml.symm) (argsL := As) (rest := rest) (fun sig h => hn.trans (hlen sig h)) hstack hW (by rw [hb]; exact hdg)
    (fun vm₁ hW₁ => ⟨hf.1, hf.2, hp.2 (T.setVm vm₁) hT hW₁⟩) with ⟨v, vm₁, ⟨U', l2, c2, s2⟩, hW₁, X', ⟨g', mk, t, L, e1, e2, hq, h1, hL, h2, h3⟩, st⟩ | ⟨q, vm₁, ⟨U', l2, c2, s2⟩, hW₁, X', ⟨g', mk, t, L, E, ce, e1, e2, hq, hce, hcv, hcl, h1, hL, h2, h3⟩, st⟩
  · dsimp only [Pt.U, Pt.locs, Pt.cells, Pt.slots] at X' e1 e2 h1 h2 h3 st
    subst h1; subst h2; subst h3
    exact Or.inl ⟨v, (T.setVm vm₁).calling g' mk As.toArray, t, U', L, hT, X', hL, e1, e2, hq, st⟩
  · dsimp only [Pt.U, Pt.locs, Pt.cells, Pt.slots] at X' e1 e2 h1 h2 h3 st hcl
    subst h1; subst h2; subst h3
    exact Or.inr ⟨q, (T.setVm vm₁).calling g' mk As.toArray, t, U', L, E, ce, hT, X', hL, e1, e2, hq, hce, hcv, vx_cls hW₁ hcl, st⟩
end
end VXH
theorem vx_ofWH {l : Launch} {y : MethodName} {ws ws' : List Cond} {rm : Room} {Pc : Array Value → State → Prop} {Qc : Array Value → State → Outcome → State → Prop} {XC : String → State → State → Prop} {mc ms : Nat} {free : Addr → Prop} {cc : ByteArray} {maxL : Nat} {ret : Option FieldType} {hh : List (Nat × Nat × Nat × Nat)}
    (hy : plainName y.cls = true) (hw : ws = Cond.codeWith y cc maxL ret hh :: ws')
    (body : ∀ p e s m args below meth c s₁, BodyLoose p l y (headSpec ws rm) cc maxL ret e s m args below meth c s₁ → c.maxLocals = maxL → Pc args s →
      W p l e (headSpec ws rm).room s m args below meth c s.heap [] 0 0 (vx_MQ below Qc XC args s mc ms free) (entryFrame m args maxL)) : vx_Met l y ws rm Pc Qc XC mc ms free := by
  refine MetFree.of_bodyS (code := cc) (maxLocals := maxL) (ret := ret) hy ?_ ?_
  · intro args s m h hn
    obtain ⟨m9, meth, c, hn9, h1, h2, h3, h4, -, h5, h6, -⟩ := Cond.codeWith_spec (atoms_spec (ws := ws) h _ (by rw [hw]; exact List.mem_cons_self))
    cases hn.symm.trans hn9
    exact ⟨meth, c, h1, h2, h3, h4, h5, h6⟩
  · intro p e s m args below meth c s₁ B hml hP _
    have hh0 : s₁.heap = s.heap := by rw [B.state]; rfl
    obtain ⟨t, a1, o, b1, b2, b3⟩ := body p e s m args below meth c s₁ B hml hP s₁ hh0 (Stand.of_body B)
    exact ⟨t, o, a1, b1, b2, b3⟩
/-! ===== END ===== -/
end
section
def RX0 : String := "Multidell$CopyQueue"
def TX0 : u_T := fun k => match k with
  | 0 => ("Multidell$CopyQueue", "packet", "[I", true)
  | 1 => ("Multidell$CopyQueue", "tree", "[I", true)
  | 2 => ("Multidell$CopyQueue", "from", "[I", true)
  | 3 => ("Multidell$CopyQueue", "to", "[I", true)
  | 4 => ("Multidell$CopyQueue", "first", "I", false)
  | _ => ("Multidell$CopyQueue", "size", "I", false)
def tyX0 : Nat → FieldType := fun k => match k with
  | 0 => .array .int
  | 1 => .array .int
  | 2 => .array .int
  | 3 => .array .int
  | 4 => .int
  | _ => .int
abbrev wsX00 : List Cond := u_ws RX0 TX0 6
theorem nmX0 : ∀ a, a < 6 → ∀ b, b < 6 → a ≠ b → (TX0 a).2.1 ≠ (TX0 b).2.1 := by decide +kernel
theorem tyX0_ok : ∀ k, k < 6 → parseFieldDescriptor (TX0 k).2.2.1 = some (tyX0 k) := by decide +kernel
abbrev cX0_init : ByteArray := prog_2_method_1_code
def yX0_init : MethodName := ⟨RX0, "<init>", "()V"⟩
abbrev cX0_isEmpty : ByteArray := prog_2_method_2_code
def yX0_isEmpty : MethodName := ⟨RX0, "isEmpty", "()Z"⟩
abbrev cX0_count : ByteArray := prog_2_method_3_code
def yX0_count : MethodName := ⟨RX0, "count", "()I"⟩
abbrev cX0_put : ByteArray := prog_2_method_4_code
def yX0_put : MethodName := ⟨RX0, "put", "(IIII)Z"⟩
abbrev cX0_removeFirst : ByteArray := prog_2_method_5_code
def yX0_removeFirst : MethodName := ⟨RX0, "removeFirst", "()V"⟩
abbrev cX0_firstPacket : ByteArray := prog_2_method_6_code
def yX0_firstPacket : MethodName := ⟨RX0, "firstPacket", "()I"⟩
abbrev cX0_firstTree : ByteArray := prog_2_method_7_code
def yX0_firstTree : MethodName := ⟨RX0, "firstTree", "()I"⟩
abbrev cX0_firstFrom : ByteArray := prog_2_method_8_code
def yX0_firstFrom : MethodName := ⟨RX0, "firstFrom", "()I"⟩
abbrev cX0_firstTo : ByteArray := prog_2_method_9_code
def yX0_firstTo : MethodName := ⟨RX0, "firstTo", "()I"⟩
abbrev cX0_firstIn : ByteArray := prog_2_method_10_code
def yX0_firstIn : MethodName := ⟨RX0, "firstIn", "([I)I"⟩
def RX1 : String := "Multidell$Counts"
def TX1 : u_T := fun k => match k with
  | _ => ("Multidell$Counts", "count", "[I", true)
def tyX1 : Nat → FieldType := fun k => match k with
  | _ => .array .int
abbrev wsX10 : List Cond := u_ws RX1 TX1 1
theorem nmX1 : ∀ a, a < 1 → ∀ b, b < 1 → a ≠ b → (TX1 a).2.1 ≠ (TX1 b).2.1 := by decide +kernel
theorem tyX1_ok : ∀ k, k < 1 → parseFieldDescriptor (TX1 k).2.2.1 = some (tyX1 k) := by decide +kernel
abbrev cX1_init : ByteArray := prog_3_method_1_code
def yX1_init : MethodName := ⟨RX1, "<init>", "()V"⟩
abbrev cX1_raise : ByteArray := prog_3_method_2_code
def yX1_raise : MethodName := ⟨RX1, "raise", "(III)I"⟩
abbrev cX1_forget : ByteArray := prog_3_method_3_code
def yX1_forget : MethodName := ⟨RX1, "forget", "(III)V"⟩
abbrev cX1_forgetAll : ByteArray := prog_3_method_4_code
def yX1_forgetAll : MethodName := ⟨RX1, "forgetAll", "()V"⟩
abbrev cX1_isPlace : ByteArray := prog_3_method_5_code
def yX1_isPlace : MethodName := ⟨RX1, "isPlace", "(III)Z"⟩
abbrev cX1_placeOf : ByteArray := prog_3_method_6_code
def yX1_placeOf : MethodName := ⟨RX1, "placeOf", "(III)I"⟩
def RX2 : String := "Multidell$Forest"
def TX2 : u_T := fun k => match k with
  | 0 => ("Multidell$Forest", "root", "[I", true)
  | 1 => ("Multidell$Forest", "wanting", "[I", true)
  | 2 => ("Multidell$Forest", "comesFrom", "[I", true)
  | _ => ("Multidell$Forest", "goesAt", "[I", true)
def tyX2 : Nat → FieldType := fun k => match k with
  | 0 => .array .int
  | 1 => .array .int
  | 2 => .array .int
  | _ => .array .int
abbrev wsX20 : List Cond := u_ws RX2 TX2 4
theorem nmX2 : ∀ a, a < 4 → ∀ b, b < 4 → a ≠ b → (TX2 a).2.1 ≠ (TX2 b).2.1 := by decide +kernel
theorem tyX2_ok : ∀ k, k < 4 → parseFieldDescriptor (TX2 k).2.2.1 = some (tyX2 k) := by decide +kernel
abbrev cX2_init : ByteArray := prog_4_method_1_code
def yX2_init : MethodName := ⟨RX2, "<init>", "()V"⟩
abbrev cX2_setRoot : ByteArray := prog_4_method_2_code
def yX2_setRoot : MethodName := ⟨RX2, "setRoot", "(II)V"⟩
abbrev cX2_rootOf : ByteArray := prog_4_method_3_code
def yX2_rootOf : MethodName := ⟨RX2, "rootOf", "(I)I"⟩
abbrev cX2_wantingOf : ByteArray := prog_4_method_4_code
def yX2_wantingOf : MethodName := ⟨RX2, "wantingOf", "(I)I"⟩
abbrev cX2_want : ByteArray := prog_4_method_5_code
def yX2_want : MethodName := ⟨RX2, "want", "(IILMultidell$Routes;)V"⟩
abbrev cX2_unwant : ByteArray := prog_4_method_6_code
def yX2_unwant : MethodName := ⟨RX2, "unwant", "(III)V"⟩
abbrev cX2_branchesFrom : ByteArray := prog_4_method_7_code
def yX2_branchesFrom : MethodName := ⟨RX2, "branchesFrom", "(II)I"⟩
abbrev cX2_leavingBranches : ByteArray := prog_4_method_8_code
def yX2_leavingBranches : MethodName := ⟨RX2, "leavingBranches", "()I"⟩
abbrev cX2_buildAnew : ByteArray := prog_4_method_9_code
def yX2_buildAnew : MethodName := ⟨RX2, "buildAnew", "(LMultidell$Routes;)V"⟩
abbrev cX2_removeDue : ByteArray := prog_4_method_10_code
def yX2_removeDue : MethodName := ⟨RX2, "removeDue", "(I)I"⟩
abbrev cX2_isDue : ByteArray := prog_4_method_11_code
def yX2_isDue : MethodName := ⟨RX2, "isDue", "(III)Z"⟩
abbrev cX2_remove : ByteArray := prog_4_method_12_code
def yX2_remove : MethodName := ⟨RX2, "remove", "(III)V"⟩
abbrev cX2_parentOf : ByteArray := prog_4_method_13_code
def yX2_parentOf : MethodName := ⟨RX2, "parentOf", "(II)I"⟩
abbrev cX2_graft : ByteArray := prog_4_method_14_code
def yX2_graft : MethodName := ⟨RX2, "graft", "(IILMultidell$Routes;)V"⟩
abbrev cX2_letLeave : ByteArray := prog_4_method_15_code
def yX2_letLeave : MethodName := ⟨RX2, "letLeave", "(III)V"⟩
abbrev cX2_isNeeded : ByteArray := prog_4_method_16_code
def yX2_isNeeded : MethodName := ⟨RX2, "isNeeded", "(II)Z"⟩
def RX3 : String := "Multidell$Packets"
def TX3 : u_T := fun k => match k with
  | 0 => ("Multidell$Packets", "source", "[I", true)
  | 1 => ("Multidell$Packets", "group", "[I", true)
  | 2 => ("Multidell$Packets", "receivers", "[I", true)
  | 3 => ("Multidell$Packets", "doubleCount", "[I", true)
  | _ => ("Multidell$Packets", "sent", "I", false)
def tyX3 : Nat → FieldType := fun k => match k with
  | 0 => .array .int
  | 1 => .array .int
  | 2 => .array .int
  | 3 => .array .int
  | _ => .int
abbrev wsX30 : List Cond := u_ws RX3 TX3 5
theorem nmX3 : ∀ a, a < 5 → ∀ b, b < 5 → a ≠ b → (TX3 a).2.1 ≠ (TX3 b).2.1 := by decide +kernel
theorem tyX3_ok : ∀ k, k < 5 → parseFieldDescriptor (TX3 k).2.2.1 = some (tyX3 k) := by decide +kernel
abbrev cX3_init : ByteArray := prog_5_method_1_code
def yX3_init : MethodName := ⟨RX3, "<init>", "()V"⟩
abbrev cX3_isFull : ByteArray := prog_5_method_2_code
def yX3_isFull : MethodName := ⟨RX3, "isFull", "()Z"⟩
abbrev cX3_isPacket : ByteArray := prog_5_method_3_code
def yX3_isPacket : MethodName := ⟨RX3, "isPacket", "(I)Z"⟩
abbrev cX3_add : ByteArray := prog_5_method_4_code
def yX3_add : MethodName := ⟨RX3, "add", "(II)I"⟩
abbrev cX3_receive : ByteArray := prog_5_method_5_code
def yX3_receive : MethodName := ⟨RX3, "receive", "(II)V"⟩
abbrev cX3_addDouble : ByteArray := prog_5_method_6_code
def yX3_addDouble : MethodName := ⟨RX3, "addDouble", "(I)V"⟩
abbrev cX3_sourceOf : ByteArray := prog_5_method_7_code
def yX3_sourceOf : MethodName := ⟨RX3, "sourceOf", "(I)I"⟩
abbrev cX3_groupOf : ByteArray := prog_5_method_8_code
def yX3_groupOf : MethodName := ⟨RX3, "groupOf", "(I)I"⟩
abbrev cX3_receiversOf : ByteArray := prog_5_method_9_code
def yX3_receiversOf : MethodName := ⟨RX3, "receiversOf", "(I)I"⟩
abbrev cX3_doublesOf : ByteArray := prog_5_method_10_code
def yX3_doublesOf : MethodName := ⟨RX3, "doublesOf", "(I)I"⟩
def RX4 : String := "Multidell$Routes"
def TX4 : u_T := fun k => match k with
  | 0 => ("Multidell$Routes", "cost", "[I", true)
  | 1 => ("Multidell$Routes", "least", "[I", true)
  | _ => ("Multidell$Routes", "hop", "[I", true)
def tyX4 : Nat → FieldType := fun k => match k with
  | 0 => .array .int
  | 1 => .array .int
  | _ => .array .int
abbrev wsX40 : List Cond := u_ws RX4 TX4 3
theorem nmX4 : ∀ a, a < 3 → ∀ b, b < 3 → a ≠ b → (TX4 a).2.1 ≠ (TX4 b).2.1 := by decide +kernel
theorem tyX4_ok : ∀ k, k < 3 → parseFieldDescriptor (TX4 k).2.2.1 = some (tyX4 k) := by decide +kernel
abbrev cX4_init : ByteArray := prog_6_method_1_code
def yX4_init : MethodName := ⟨RX4, "<init>", "()V"⟩
abbrev cX4_change : ByteArray := prog_6_method_2_code
def yX4_change : MethodName := ⟨RX4, "change", "(III)V"⟩
abbrev cX4_costOf : ByteArray := prog_6_method_3_code
def yX4_costOf : MethodName := ⟨RX4, "costOf", "(II)I"⟩
abbrev cX4_distanceOf : ByteArray := prog_6_method_4_code
def yX4_distanceOf : MethodName := ⟨RX4, "distanceOf", "(II)I"⟩
abbrev cX4_hopOf : ByteArray := prog_6_method_5_code
def yX4_hopOf : MethodName := ⟨RX4, "hopOf", "(II)I"⟩
abbrev cX4_linksOf : ByteArray := prog_6_method_6_code
def yX4_linksOf : MethodName := ⟨RX4, "linksOf", "(I)I"⟩
abbrev cX4_arePair : ByteArray := prog_6_method_7_code
def yX4_arePair : MethodName := ⟨RX4, "arePair", "(II)Z"⟩
abbrev cX4_findLeast : ByteArray := prog_6_method_8_code
def yX4_findLeast : MethodName := ⟨RX4, "findLeast", "()V"⟩
abbrev cX4_shortenThrough : ByteArray := prog_6_method_9_code
def yX4_shortenThrough : MethodName := ⟨RX4, "shortenThrough", "(I)V"⟩
abbrev cX4_findHops : ByteArray := prog_6_method_10_code
def yX4_findHops : MethodName := ⟨RX4, "findHops", "()V"⟩
abbrev cX4_firstHop : ByteArray := prog_6_method_11_code
def yX4_firstHop : MethodName := ⟨RX4, "firstHop", "(II)I"⟩
def RX5 : String := "Multidell"
def TX5 : u_T := fun k => match k with
  | 0 => ("Multidell", "routes", "LMultidell$Routes;", true)
  | 1 => ("Multidell", "forest", "LMultidell$Forest;", true)
  | 2 => ("Multidell", "packets", "LMultidell$Packets;", true)
  | 3 => ("Multidell", "queue", "LMultidell$CopyQueue;", true)
  | 4 => ("Multidell", "counts", "LMultidell$Counts;", true)
  | 5 => ("Multidell", "candidates", "I", false)
  | 6 => ("Multidell", "limit", "I", false)
  | 7 => ("Multidell", "now", "I", false)
  | _ => ("Multidell", "wastedCopies", "I", false)
def tyX5 : Nat → FieldType := fun k => match k with
  | 0 => .object "Multidell$Routes"
  | 1 => .object "Multidell$Forest"
  | 2 => .object "Multidell$Packets"
  | 3 => .object "Multidell$CopyQueue"
  | 4 => .object "Multidell$Counts"
  | 5 => .int
  | 6 => .int
  | 7 => .int
  | _ => .int
abbrev wsX50 : List Cond := u_ws RX5 TX5 9
theorem nmX5 : ∀ a, a < 9 → ∀ b, b < 9 → a ≠ b → (TX5 a).2.1 ≠ (TX5 b).2.1 := by decide +kernel
theorem tyX5_ok : ∀ k, k < 9 → parseFieldDescriptor (TX5 k).2.2.1 = some (tyX5 k) := by decide +kernel
abbrev cX5_init : ByteArray := prog_1_method_1_code
def yX5_init : MethodName := ⟨RX5, "<init>", "()V"⟩
abbrev cX5_setLink : ByteArray := prog_1_method_2_code
def yX5_setLink : MethodName := ⟨RX5, "setLink", "(III)I"⟩
abbrev cX5_setCandidate : ByteArray := prog_1_method_3_code
def yX5_setCandidate : MethodName := ⟨RX5, "setCandidate", "(IZ)Z"⟩
abbrev cX5_setLimit : ByteArray := prog_1_method_4_code
def yX5_setLimit : MethodName := ⟨RX5, "setLimit", "(I)I"⟩
abbrev cX5_distance : ByteArray := prog_1_method_5_code
def yX5_distance : MethodName := ⟨RX5, "distance", "(II)I"⟩
abbrev cX5_nextHop : ByteArray := prog_1_method_6_code
def yX5_nextHop : MethodName := ⟨RX5, "nextHop", "(II)I"⟩
abbrev cX5_rendezvous : ByteArray := prog_1_method_7_code
def yX5_rendezvous : MethodName := ⟨RX5, "rendezvous", "(I)I"⟩
abbrev cX5_join : ByteArray := prog_1_method_8_code
def yX5_join : MethodName := ⟨RX5, "join", "(II)I"⟩
abbrev cX5_leave : ByteArray := prog_1_method_9_code
def yX5_leave : MethodName := ⟨RX5, "leave", "(II)I"⟩
abbrev cX5_members : ByteArray := prog_1_method_10_code
def yX5_members : MethodName := ⟨RX5, "members", "(I)I"⟩
abbrev cX5_switched : ByteArray := prog_1_method_11_code
def yX5_switched : MethodName := ⟨RX5, "switched", "(II)I"⟩
abbrev cX5_branches : ByteArray := prog_1_method_12_code
def yX5_branches : MethodName := ⟨RX5, "branches", "(II)I"⟩
abbrev cX5_sourceBranches : ByteArray := prog_1_method_13_code
def yX5_sourceBranches : MethodName := ⟨RX5, "sourceBranches", "(III)I"⟩
abbrev cX5_leaving : ByteArray := prog_1_method_14_code
def yX5_leaving : MethodName := ⟨RX5, "leaving", "()I"⟩
abbrev cX5_send : ByteArray := prog_1_method_15_code
def yX5_send : MethodName := ⟨RX5, "send", "(II)I"⟩
abbrev cX5_follow : ByteArray := prog_1_method_16_code
def yX5_follow : MethodName := ⟨RX5, "follow", "()I"⟩
abbrev cX5_followAll : ByteArray := prog_1_method_17_code
def yX5_followAll : MethodName := ⟨RX5, "followAll", "()I"⟩
abbrev cX5_queued : ByteArray := prog_1_method_18_code
def yX5_queued : MethodName := ⟨RX5, "queued", "()I"⟩
abbrev cX5_nextTo : ByteArray := prog_1_method_19_code
def yX5_nextTo : MethodName := ⟨RX5, "nextTo", "()I"⟩
abbrev cX5_received : ByteArray := prog_1_method_20_code
def yX5_received : MethodName := ⟨RX5, "received", "(I)I"⟩
abbrev cX5_doubles : ByteArray := prog_1_method_21_code
def yX5_doubles : MethodName := ⟨RX5, "doubles", "(I)I"⟩
abbrev cX5_wasted : ByteArray := prog_1_method_22_code
def yX5_wasted : MethodName := ⟨RX5, "wasted", "()I"⟩
abbrev cX5_pass : ByteArray := prog_1_method_23_code
def yX5_pass : MethodName := ⟨RX5, "pass", "(I)I"⟩
abbrev cX5_clock : ByteArray := prog_1_method_24_code
def yX5_clock : MethodName := ⟨RX5, "clock", "()I"⟩
abbrev cX5_floodMembers : ByteArray := prog_1_method_25_code
def yX5_floodMembers : MethodName := ⟨RX5, "floodMembers", "(II)I"⟩
abbrev cX5_floodCopies : ByteArray := prog_1_method_26_code
def yX5_floodCopies : MethodName := ⟨RX5, "floodCopies", "(I)I"⟩
abbrev cX5_floodedFrom : ByteArray := prog_1_method_27_code
def yX5_floodedFrom : MethodName := ⟨RX5, "floodedFrom", "(I)I"⟩
abbrev cX5_bestCandidate : ByteArray := prog_1_method_28_code
def yX5_bestCandidate : MethodName := ⟨RX5, "bestCandidate", "(I)I"⟩
abbrev cX5_membersOf : ByteArray := prog_1_method_29_code
def yX5_membersOf : MethodName := ⟨RX5, "membersOf", "(I)I"⟩
abbrev cX5_isMember : ByteArray := prog_1_method_30_code
def yX5_isMember : MethodName := ⟨RX5, "isMember", "(II)Z"⟩
abbrev cX5_getPacket : ByteArray := prog_1_method_31_code
def yX5_getPacket : MethodName := ⟨RX5, "getPacket", "(III)Z"⟩
abbrev cX5_countSaysSwitch : ByteArray := prog_1_method_32_code
def yX5_countSaysSwitch : MethodName := ⟨RX5, "countSaysSwitch", "(III)Z"⟩
abbrev cX5_goOn : ByteArray := prog_1_method_33_code
def yX5_goOn : MethodName := ⟨RX5, "goOn", "(III)V"⟩
abbrev cX5_checkPacket : ByteArray := prog_1_method_34_code
def yX5_checkPacket : MethodName := ⟨RX5, "checkPacket", "(I)V"⟩
abbrev cX5_checkRouter : ByteArray := prog_1_method_35_code
def yX5_checkRouter : MethodName := ⟨RX5, "checkRouter", "(I)V"⟩
abbrev cX5_checkGroup : ByteArray := prog_1_method_36_code
def yX5_checkGroup : MethodName := ⟨RX5, "checkGroup", "(I)V"⟩
abbrev cX5_isRouter : ByteArray := prog_1_method_37_code
def yX5_isRouter : MethodName := ⟨RX5, "isRouter", "(I)Z"⟩
abbrev cX5_isGroup : ByteArray := prog_1_method_38_code
def yX5_isGroup : MethodName := ⟨RX5, "isGroup", "(I)Z"⟩
abbrev cX5_isTree : ByteArray := prog_1_method_39_code
def yX5_isTree : MethodName := ⟨RX5, "isTree", "(I)Z"⟩
abbrev cX5_sharedTree : ByteArray := prog_1_method_40_code
def yX5_sharedTree : MethodName := ⟨RX5, "sharedTree", "(I)I"⟩
abbrev cX5_sourceTree : ByteArray := prog_1_method_41_code
def yX5_sourceTree : MethodName := ⟨RX5, "sourceTree", "(II)I"⟩
abbrev cX5_isShared : ByteArray := prog_1_method_42_code
def yX5_isShared : MethodName := ⟨RX5, "isShared", "(I)Z"⟩
abbrev cX5_bit : ByteArray := prog_1_method_43_code
def yX5_bit : MethodName := ⟨RX5, "bit", "(I)I"⟩
abbrev cX5_has : ByteArray := prog_1_method_44_code
def yX5_has : MethodName := ⟨RX5, "has", "(II)Z"⟩
def RX6 : String := "MultidellModel"
def TX6 : u_T := fun k => match k with
  | 0 => ("MultidellModel", "clock", "I", false)
  | 1 => ("MultidellModel", "limit", "I", false)
  | 2 => ("MultidellModel", "cost", "[I", true)
  | 3 => ("MultidellModel", "far", "[I", true)
  | 4 => ("MultidellModel", "isCandidate", "[Z", true)
  | 5 => ("MultidellModel", "members", "[I", true)
  | 6 => ("MultidellModel", "switched", "[I", true)
  | 7 => ("MultidellModel", "count", "[I", true)
  | 8 => ("MultidellModel", "above", "[I", true)
  | 9 => ("MultidellModel", "goes", "[I", true)
  | 10 => ("MultidellModel", "queued", "I", false)
  | 11 => ("MultidellModel", "copy", "[I", true)
  | 12 => ("MultidellModel", "packets", "I", false)
  | 13 => ("MultidellModel", "source", "[I", true)
  | 14 => ("MultidellModel", "group", "[I", true)
  | 15 => ("MultidellModel", "received", "[I", true)
  | 16 => ("MultidellModel", "doubles", "[I", true)
  | 17 => ("MultidellModel", "wasted", "I", false)
  | _ => ("MultidellModel", "thrown", "I", false)
def tyX6 : Nat → FieldType := fun k => match k with
  | 0 => .int
  | 1 => .int
  | 2 => .array .int
  | 3 => .array .int
  | 4 => .array .boolean
  | 5 => .array .int
  | 6 => .array .int
  | 7 => .array .int
  | 8 => .array .int
  | 9 => .array .int
  | 10 => .int
  | 11 => .array .int
  | 12 => .int
  | 13 => .array .int
  | 14 => .array .int
  | 15 => .array .int
  | 16 => .array .int
  | 17 => .int
  | _ => .int
abbrev wsX60 : List Cond := u_ws RX6 TX6 19
theorem nmX6 : ∀ a, a < 19 → ∀ b, b < 19 → a ≠ b → (TX6 a).2.1 ≠ (TX6 b).2.1 := by decide +kernel
theorem tyX6_ok : ∀ k, k < 19 → parseFieldDescriptor (TX6 k).2.2.1 = some (tyX6 k) := by decide +kernel
abbrev cX6_init : ByteArray := prog_8_method_1_code
def yX6_init : MethodName := ⟨RX6, "<init>", "()V"⟩
abbrev cX6_thrown : ByteArray := prog_8_method_2_code
def yX6_thrown : MethodName := ⟨RX6, "thrown", "()I"⟩
abbrev cX6_can : ByteArray := prog_8_method_3_code
def yX6_can : MethodName := ⟨RX6, "can", "(I)Z"⟩
abbrev cX6_isRouter : ByteArray := prog_8_method_4_code
def yX6_isRouter : MethodName := ⟨RX6, "isRouter", "(I)Z"⟩
abbrev cX6_isGroup : ByteArray := prog_8_method_5_code
def yX6_isGroup : MethodName := ⟨RX6, "isGroup", "(I)Z"⟩
abbrev cX6_measures : ByteArray := prog_8_method_6_code
def yX6_measures : MethodName := ⟨RX6, "measures", "()V"⟩
abbrev cX6_hop : ByteArray := prog_8_method_7_code
def yX6_hop : MethodName := ⟨RX6, "hop", "(II)I"⟩
abbrev cX6_root : ByteArray := prog_8_method_8_code
def yX6_root : MethodName := ⟨RX6, "root", "(I)I"⟩
abbrev cX6_meets : ByteArray := prog_8_method_9_code
def yX6_meets : MethodName := ⟨RX6, "meets", "(I)I"⟩
abbrev cX6_wants : ByteArray := prog_8_method_10_code
def yX6_wants : MethodName := ⟨RX6, "wants", "(II)Z"⟩
abbrev cX6_graft : ByteArray := prog_8_method_11_code
def yX6_graft : MethodName := ⟨RX6, "graft", "(II)V"⟩
abbrev cX6_below : ByteArray := prog_8_method_12_code
def yX6_below : MethodName := ⟨RX6, "below", "(II)I"⟩
abbrev cX6_looks : ByteArray := prog_8_method_13_code
def yX6_looks : MethodName := ⟨RX6, "looks", "(II)V"⟩
abbrev cX6_buildsAnew : ByteArray := prog_8_method_14_code
def yX6_buildsAnew : MethodName := ⟨RX6, "buildsAnew", "()V"⟩
abbrev cX6_setLink : ByteArray := prog_8_method_15_code
def yX6_setLink : MethodName := ⟨RX6, "setLink", "(III)I"⟩
abbrev cX6_setCandidate : ByteArray := prog_8_method_16_code
def yX6_setCandidate : MethodName := ⟨RX6, "setCandidate", "(IZ)Z"⟩
abbrev cX6_setLimit : ByteArray := prog_8_method_17_code
def yX6_setLimit : MethodName := ⟨RX6, "setLimit", "(I)I"⟩
abbrev cX6_distance : ByteArray := prog_8_method_18_code
def yX6_distance : MethodName := ⟨RX6, "distance", "(II)I"⟩
abbrev cX6_nextHop : ByteArray := prog_8_method_19_code
def yX6_nextHop : MethodName := ⟨RX6, "nextHop", "(II)I"⟩
abbrev cX6_rendezvous : ByteArray := prog_8_method_20_code
def yX6_rendezvous : MethodName := ⟨RX6, "rendezvous", "(I)I"⟩
abbrev cX6_many : ByteArray := prog_8_method_21_code
def yX6_many : MethodName := ⟨RX6, "many", "(I)I"⟩
abbrev cX6_isMember : ByteArray := prog_8_method_22_code
def yX6_isMember : MethodName := ⟨RX6, "isMember", "(II)Z"⟩
abbrev cX6_join : ByteArray := prog_8_method_23_code
def yX6_join : MethodName := ⟨RX6, "join", "(II)I"⟩
abbrev cX6_leave : ByteArray := prog_8_method_24_code
def yX6_leave : MethodName := ⟨RX6, "leave", "(II)I"⟩
abbrev cX6_members : ByteArray := prog_8_method_25_code
def yX6_members : MethodName := ⟨RX6, "members", "(I)I"⟩
abbrev cX6_switched : ByteArray := prog_8_method_26_code
def yX6_switched : MethodName := ⟨RX6, "switched", "(II)I"⟩
abbrev cX6_branches : ByteArray := prog_8_method_27_code
def yX6_branches : MethodName := ⟨RX6, "branches", "(II)I"⟩
abbrev cX6_sourceBranches : ByteArray := prog_8_method_28_code
def yX6_sourceBranches : MethodName := ⟨RX6, "sourceBranches", "(III)I"⟩
abbrev cX6_leaving : ByteArray := prog_8_method_29_code
def yX6_leaving : MethodName := ⟨RX6, "leaving", "()I"⟩
abbrev cX6_goesOn : ByteArray := prog_8_method_30_code
def yX6_goesOn : MethodName := ⟨RX6, "goesOn", "(III)V"⟩
abbrev cX6_counts : ByteArray := prog_8_method_31_code
def yX6_counts : MethodName := ⟨RX6, "counts", "(III)V"⟩
abbrev cX6_gets : ByteArray := prog_8_method_32_code
def yX6_gets : MethodName := ⟨RX6, "gets", "(III)Z"⟩
abbrev cX6_send : ByteArray := prog_8_method_33_code
def yX6_send : MethodName := ⟨RX6, "send", "(II)I"⟩
abbrev cX6_follows : ByteArray := prog_8_method_34_code
def yX6_follows : MethodName := ⟨RX6, "follows", "()I"⟩
abbrev cX6_follow : ByteArray := prog_8_method_35_code
def yX6_follow : MethodName := ⟨RX6, "follow", "()I"⟩
abbrev cX6_followAll : ByteArray := prog_8_method_36_code
def yX6_followAll : MethodName := ⟨RX6, "followAll", "()I"⟩
abbrev cX6_queued : ByteArray := prog_8_method_37_code
def yX6_queued : MethodName := ⟨RX6, "queued", "()I"⟩
abbrev cX6_nextTo : ByteArray := prog_8_method_38_code
def yX6_nextTo : MethodName := ⟨RX6, "nextTo", "()I"⟩
abbrev cX6_isPacket : ByteArray := prog_8_method_39_code
def yX6_isPacket : MethodName := ⟨RX6, "isPacket", "(I)Z"⟩
abbrev cX6_received : ByteArray := prog_8_method_40_code
def yX6_received : MethodName := ⟨RX6, "received", "(I)I"⟩
abbrev cX6_doubles : ByteArray := prog_8_method_41_code
def yX6_doubles : MethodName := ⟨RX6, "doubles", "(I)I"⟩
abbrev cX6_wasted : ByteArray := prog_8_method_42_code
def yX6_wasted : MethodName := ⟨RX6, "wasted", "()I"⟩
abbrev cX6_second : ByteArray := prog_8_method_43_code
def yX6_second : MethodName := ⟨RX6, "second", "()I"⟩
abbrev cX6_pass : ByteArray := prog_8_method_44_code
def yX6_pass : MethodName := ⟨RX6, "pass", "(I)I"⟩
abbrev cX6_clock : ByteArray := prog_8_method_45_code
def yX6_clock : MethodName := ⟨RX6, "clock", "()I"⟩
abbrev cX6_floodMembers : ByteArray := prog_8_method_46_code
def yX6_floodMembers : MethodName := ⟨RX6, "floodMembers", "(II)I"⟩
abbrev cX6_floodCopies : ByteArray := prog_8_method_47_code
def yX6_floodCopies : MethodName := ⟨RX6, "floodCopies", "(I)I"⟩
def RJx145de : String := "java/io/Serializable"
def TJx145de : u_T := fun k => match k with
  | _ => ("", "", "", false)
def tyJx145de : Nat → FieldType := fun k => match k with
  | _ => .int
abbrev wsJx145de0 : List Cond := u_ws RJx145de TJx145de 0
theorem nmJx145de : ∀ a, a < 0 → ∀ b, b < 0 → a ≠ b → (TJx145de a).2.1 ≠ (TJx145de b).2.1 := by decide +kernel
theorem tyJx145de_ok : ∀ k, k < 0 → parseFieldDescriptor (TJx145de k).2.2.1 = some (tyJx145de k) := by decide +kernel
def RJ6 : String := "java/lang/Integer"
def TJ6 : u_T := fun k => match k with
  | _ => ("", "", "", false)
def tyJ6 : Nat → FieldType := fun k => match k with
  | _ => .int
abbrev wsJ60 : List Cond := u_ws RJ6 TJ6 0
theorem nmJ6 : ∀ a, a < 0 → ∀ b, b < 0 → a ≠ b → (TJ6 a).2.1 ≠ (TJ6 b).2.1 := by decide +kernel
theorem tyJ6_ok : ∀ k, k < 0 → parseFieldDescriptor (TJ6 k).2.2.1 = some (tyJ6 k) := by decide +kernel
abbrev cJ6_bitCount_0f7a4 : ByteArray := prog_13_method_49_code
def yJ6_bitCount_0f7a4 : MethodName := ⟨RJ6, "bitCount", "(I)I"⟩
def RJ0 : String := "java/lang/String"
def TJ0 : u_T := fun k => match k with
  | _ => ("", "", "", false)
def tyJ0 : Nat → FieldType := fun k => match k with
  | _ => .int
abbrev wsJ00 : List Cond := u_ws RJ0 TJ0 0
theorem nmJ0 : ∀ a, a < 0 → ∀ b, b < 0 → a ≠ b → (TJ0 a).2.1 ≠ (TJ0 b).2.1 := by decide +kernel
theorem tyJ0_ok : ∀ k, k < 0 → parseFieldDescriptor (TJ0 k).2.2.1 = some (tyJ0 k) := by decide +kernel
def RJ7 : String := "java/util/Arrays"
def TJ7 : u_T := fun k => match k with
  | _ => ("", "", "", false)
def tyJ7 : Nat → FieldType := fun k => match k with
  | _ => .int
abbrev wsJ70 : List Cond := u_ws RJ7 TJ7 0
theorem nmJ7 : ∀ a, a < 0 → ∀ b, b < 0 → a ≠ b → (TJ7 a).2.1 ≠ (TJ7 b).2.1 := by decide +kernel
theorem tyJ7_ok : ∀ k, k < 0 → parseFieldDescriptor (TJ7 k).2.2.1 = some (tyJ7 k) := by decide +kernel
abbrev cJ7_fill_53178 : ByteArray := prog_17_method_103_code
def yJ7_fill_53178 : MethodName := ⟨RJ7, "fill", "([II)V"⟩
def RL : String := "MultidellLaw"
abbrev cL_setLink : ByteArray := method_3_code
def yL_setLink : MethodName := ⟨RL, "setLink", "(LMultidell;III[J)I"⟩
abbrev cL_setCandidate : ByteArray := method_4_code
def yL_setCandidate : MethodName := ⟨RL, "setCandidate", "(LMultidell;IZ[J)I"⟩
abbrev cL_setLimit : ByteArray := method_5_code
def yL_setLimit : MethodName := ⟨RL, "setLimit", "(LMultidell;I[J)I"⟩
abbrev cL_distance : ByteArray := method_6_code
def yL_distance : MethodName := ⟨RL, "distance", "(LMultidell;II[J)I"⟩
abbrev cL_nextHop : ByteArray := method_7_code
def yL_nextHop : MethodName := ⟨RL, "nextHop", "(LMultidell;II[J)I"⟩
abbrev cL_rendezvous : ByteArray := method_8_code
def yL_rendezvous : MethodName := ⟨RL, "rendezvous", "(LMultidell;I[J)I"⟩
abbrev cL_join : ByteArray := method_9_code
def yL_join : MethodName := ⟨RL, "join", "(LMultidell;II[J)I"⟩
abbrev cL_leave : ByteArray := method_10_code
def yL_leave : MethodName := ⟨RL, "leave", "(LMultidell;II[J)I"⟩
abbrev cL_members : ByteArray := method_11_code
def yL_members : MethodName := ⟨RL, "members", "(LMultidell;I[J)I"⟩
abbrev cL_switched : ByteArray := method_12_code
def yL_switched : MethodName := ⟨RL, "switched", "(LMultidell;II[J)I"⟩
abbrev cL_branches : ByteArray := method_13_code
def yL_branches : MethodName := ⟨RL, "branches", "(LMultidell;II[J)I"⟩
abbrev cL_sourceBranches : ByteArray := method_14_code
def yL_sourceBranches : MethodName := ⟨RL, "sourceBranches", "(LMultidell;III[J)I"⟩
abbrev cL_send : ByteArray := method_15_code
def yL_send : MethodName := ⟨RL, "send", "(LMultidell;II[J)I"⟩
abbrev cL_received : ByteArray := method_16_code
def yL_received : MethodName := ⟨RL, "received", "(LMultidell;I[J)I"⟩
abbrev cL_doubles : ByteArray := method_17_code
def yL_doubles : MethodName := ⟨RL, "doubles", "(LMultidell;I[J)I"⟩
abbrev cL_pass : ByteArray := method_18_code
def yL_pass : MethodName := ⟨RL, "pass", "(LMultidell;I[J)I"⟩
abbrev cL_floodMembers : ByteArray := method_19_code
def yL_floodMembers : MethodName := ⟨RL, "floodMembers", "(LMultidell;II[J)I"⟩
abbrev cL_floodCopies : ByteArray := method_20_code
def yL_floodCopies : MethodName := ⟨RL, "floodCopies", "(LMultidell;I[J)I"⟩
abbrev cL_law : ByteArray := code
def yL_law : MethodName := ⟨RL, "law", "([I)Z"⟩
abbrev vwCl : List vw_C := [(RX0, TX0, 6), (RX1, TX1, 1), (RX2, TX2, 4), (RX3, TX3, 5), (RX4, TX4, 3), (RX5, TX5, 9), (RX6, TX6, 19)]
end
section
def wsL_law0_r1 : List Cond := [Cond.classLink RL 8 RX5, Cond.instantiable RX5 9, Cond.initialized RX5, Cond.classLink RL 74 RX6, Cond.instantiable RX6 19, Cond.initialized RX6, Cond.arrayClass .long, Cond.methodLink RL 73 yX5_init, Cond.instanceMethod yX5_init, Cond.code yX5_init cX5_init 1 none, Cond.methodLink RX5 3 objectInit, Cond.instanceMethod objectInit, Cond.code objectInit ⟨#[0xb1]⟩ 1 none, Cond.classLink RX5 9 RX4, Cond.instantiable RX4 3, Cond.initialized RX4, Cond.fieldLink RX5 12 "Multidell" "routes" "LMultidell$Routes;", Cond.classLink RX5 16 RX2, Cond.instantiable RX2 4, Cond.initialized RX2, Cond.fieldLink RX5 19 "Multidell" "forest" "LMultidell$Forest;", Cond.classLink RX5 23 RX3, Cond.instantiable RX3 5, Cond.initialized RX3]
def wsL_law0_r2 : List Cond := [Cond.fieldLink RX5 26 "Multidell" "packets" "LMultidell$Packets;", Cond.classLink RX5 30 RX0, Cond.instantiable RX0 6, Cond.initialized RX0, Cond.fieldLink RX5 33 "Multidell" "queue" "LMultidell$CopyQueue;", Cond.classLink RX5 37 RX1, Cond.instantiable RX1 1, Cond.initialized RX1, Cond.fieldLink RX5 40 "Multidell" "counts" "LMultidell$Counts;", Cond.fieldLink RX5 44 "Multidell" "limit" "I", Cond.methodLink RX5 11 yX4_init, Cond.instanceMethod yX4_init, Cond.code yX4_init cX4_init 1 none, Cond.methodLink RX4 3 objectInit, Cond.arrayClass .int, Cond.fieldLink RX4 9 "Multidell$Routes" "cost" "[I", Cond.fieldLink RX4 15 "Multidell$Routes" "least" "[I", Cond.fieldLink RX4 18 "Multidell$Routes" "hop" "[I", Cond.methodLink RX4 21 yX4_findLeast, Cond.instanceMethod yX4_findLeast, Cond.selects RX4 yX4_findLeast yX4_findLeast, Cond.code yX4_findLeast cX4_findLeast 4 none, Cond.constant RX4 31 (1000000), Cond.methodLink RX4 36 yX4_shortenThrough]
def wsL_law0_r3 : List Cond := [Cond.instanceMethod yX4_shortenThrough, Cond.selects RX4 yX4_shortenThrough yX4_shortenThrough, Cond.code yX4_shortenThrough cX4_shortenThrough 5 none, Cond.methodLink RX4 24 yX4_findHops, Cond.instanceMethod yX4_findHops, Cond.selects RX4 yX4_findHops yX4_findHops, Cond.code yX4_findHops cX4_findHops 3 none, Cond.methodLink RX4 40 yX4_firstHop, Cond.instanceMethod yX4_firstHop, Cond.selects RX4 yX4_firstHop yX4_firstHop, Cond.code yX4_firstHop cX4_firstHop 6 (some .int), Cond.methodLink RX4 43 yX4_distanceOf, Cond.instanceMethod yX4_distanceOf, Cond.selects RX4 yX4_distanceOf yX4_distanceOf, Cond.code yX4_distanceOf cX4_distanceOf 4 (some .int), Cond.methodLink RX4 27 yX4_arePair, Cond.static yX4_arePair, Cond.code yX4_arePair cX4_arePair 2 (some .boolean), Cond.methodLink RX4 32 yX4_costOf, Cond.instanceMethod yX4_costOf, Cond.selects RX4 yX4_costOf yX4_costOf, Cond.code yX4_costOf cX4_costOf 3 (some .int), Cond.methodLink RX5 18 yX2_init, Cond.instanceMethod yX2_init]
def wsL_law0_r4 : List Cond := [Cond.code yX2_init cX2_init 3 none, Cond.methodLink RX2 3 objectInit, Cond.fieldLink RX2 9 "Multidell$Forest" "root" "[I", Cond.fieldLink RX2 15 "Multidell$Forest" "wanting" "[I", Cond.fieldLink RX2 18 "Multidell$Forest" "comesFrom" "[I", Cond.fieldLink RX2 21 "Multidell$Forest" "goesAt" "[I", Cond.methodLink RX2 24 yJ7_fill_53178, Cond.static yJ7_fill_53178, Cond.initialized RJ7, Cond.code yJ7_fill_53178 cJ7_fill_53178 4 none, Cond.static yX5_sourceTree, Cond.code yX5_sourceTree cX5_sourceTree 2 (some .int), Cond.methodLink RX5 252 yX5_isRouter, Cond.static yX5_isRouter, Cond.code yX5_isRouter cX5_isRouter 1 (some .boolean), Cond.methodLink RX5 257 yX5_isGroup, Cond.static yX5_isGroup, Cond.code yX5_isGroup cX5_isGroup 1 (some .boolean), Cond.methodLink RX2 34 yX2_setRoot, Cond.instanceMethod yX2_setRoot, Cond.selects RX2 yX2_setRoot yX2_setRoot, Cond.code yX2_setRoot cX2_setRoot 3 none, Cond.static yX5_isTree, Cond.code yX5_isTree cX5_isTree 1 (some .boolean)]
def wsL_law0_r5 : List Cond := [Cond.instanceMethod yX3_init, Cond.code yX3_init cX3_init 1 none, Cond.methodLink RX3 3 objectInit, Cond.fieldLink RX3 9 "Multidell$Packets" "source" "[I", Cond.fieldLink RX3 15 "Multidell$Packets" "group" "[I", Cond.fieldLink RX3 18 "Multidell$Packets" "receivers" "[I", Cond.fieldLink RX3 21 "Multidell$Packets" "doubleCount" "[I", Cond.instanceMethod yX0_init, Cond.code yX0_init cX0_init 1 none, Cond.methodLink RX0 3 objectInit, Cond.fieldLink RX0 9 "Multidell$CopyQueue" "packet" "[I", Cond.fieldLink RX0 15 "Multidell$CopyQueue" "tree" "[I", Cond.fieldLink RX0 18 "Multidell$CopyQueue" "from" "[I", Cond.fieldLink RX0 21 "Multidell$CopyQueue" "to" "[I", Cond.instanceMethod yX1_init, Cond.code yX1_init cX1_init 1 none, Cond.methodLink RX1 3 objectInit, Cond.fieldLink RX1 9 "Multidell$Counts" "count" "[I", Cond.methodLink RL 76 yX6_init, Cond.instanceMethod yX6_init, Cond.code yX6_init cX6_init 2 none, Cond.methodLink RX6 1 objectInit, Cond.fieldLink RX6 7 "MultidellModel" "limit" "I", Cond.fieldLink RX6 13 "MultidellModel" "cost" "[I"]
def wsL_law0_r6 : List Cond := [Cond.fieldLink RX6 17 "MultidellModel" "far" "[I", Cond.arrayClass .boolean, Cond.fieldLink RX6 20 "MultidellModel" "isCandidate" "[Z", Cond.fieldLink RX6 24 "MultidellModel" "members" "[I", Cond.fieldLink RX6 27 "MultidellModel" "switched" "[I", Cond.fieldLink RX6 30 "MultidellModel" "count" "[I", Cond.fieldLink RX6 33 "MultidellModel" "above" "[I", Cond.fieldLink RX6 36 "MultidellModel" "goes" "[I", Cond.fieldLink RX6 39 "MultidellModel" "copy" "[I", Cond.fieldLink RX6 42 "MultidellModel" "source" "[I", Cond.fieldLink RX6 45 "MultidellModel" "group" "[I", Cond.fieldLink RX6 48 "MultidellModel" "received" "[I", Cond.fieldLink RX6 51 "MultidellModel" "doubles" "[I", Cond.methodLink RX6 54 yX6_measures, Cond.instanceMethod yX6_measures, Cond.selects RX6 yX6_measures yX6_measures, Cond.code yX6_measures cX6_measures 4 none, Cond.constant RX6 60 (1000000), Cond.methodLink RL 77 yL_setLink, Cond.static yL_setLink, Cond.initialized RL, Cond.codeWith yL_setLink cL_setLink 6 (some .int) [(0, 12, 15, 13), (0, 12, 19, 15)], Cond.classLink RL 13 "java/lang/IndexOutOfBoundsException", Cond.classLink RL 15 "java/lang/IllegalArgumentException"]
def wsL_law0_r7 : List Cond := [Cond.methodLink RL 7 yX5_setLink, Cond.instanceMethod yX5_setLink, Cond.selects RX5 yX5_setLink yX5_setLink, Cond.code yX5_setLink cX5_setLink 5 (some .int), Cond.classLink RX5 52 "java/lang/IllegalArgumentException", Cond.initialized "java/lang/IllegalArgumentException", Cond.methodLink RX5 48 yX5_checkRouter, Cond.static yX5_checkRouter, Cond.code yX5_checkRouter cX5_checkRouter 1 none, Cond.classLink RX5 247 "java/lang/IndexOutOfBoundsException", Cond.initialized "java/lang/IndexOutOfBoundsException", Cond.methodLink RX5 59 yX4_costOf, Cond.methodLink RX5 63 yX4_change, Cond.instanceMethod yX4_change, Cond.selects RX4 yX4_change yX4_change, Cond.code yX4_change cX4_change 4 none, Cond.methodLink RX5 67 yX2_buildAnew, Cond.instanceMethod yX2_buildAnew, Cond.selects RX2 yX2_buildAnew yX2_buildAnew, Cond.code yX2_buildAnew cX2_buildAnew 4 none, Cond.static yX5_has, Cond.code yX5_has cX5_has 2 (some .boolean), Cond.methodLink RX5 78 yX5_bit, Cond.static yX5_bit]
def wsL_law0_r8 : List Cond := [Cond.code yX5_bit cX5_bit 1 (some .int), Cond.methodLink RX2 49 yX2_graft, Cond.instanceMethod yX2_graft, Cond.selects RX2 yX2_graft yX2_graft, Cond.code yX2_graft cX2_graft 8 none, Cond.methodLink RX2 71 yX2_rootOf, Cond.instanceMethod yX2_rootOf, Cond.selects RX2 yX2_rootOf yX2_rootOf, Cond.code yX2_rootOf cX2_rootOf 2 (some .int), Cond.methodLink RX2 68 yX2_parentOf, Cond.instanceMethod yX2_parentOf, Cond.selects RX2 yX2_parentOf yX2_parentOf, Cond.code yX2_parentOf cX2_parentOf 3 (some .int), Cond.methodLink RX2 74 yX4_hopOf, Cond.instanceMethod yX4_hopOf, Cond.selects RX4 yX4_hopOf yX4_hopOf, Cond.code yX4_hopOf cX4_hopOf 3 (some .int), Cond.methodLink RL 82 yX6_setLink, Cond.instanceMethod yX6_setLink, Cond.selects RX6 yX6_setLink yX6_setLink, Cond.code yX6_setLink cX6_setLink 5 (some .int), Cond.methodLink RX6 86 yX6_isRouter, Cond.static yX6_isRouter, Cond.code yX6_isRouter cX6_isRouter 1 (some .boolean)]
def wsL_law0_r9 : List Cond := [Cond.methodLink RX6 90 yX6_can, Cond.instanceMethod yX6_can, Cond.selects RX6 yX6_can yX6_can, Cond.code yX6_can cX6_can 2 (some .boolean), Cond.fieldLink RX6 57 "MultidellModel" "thrown" "I", Cond.methodLink RX6 93 yX6_buildsAnew, Cond.instanceMethod yX6_buildsAnew, Cond.selects RX6 yX6_buildsAnew yX6_buildsAnew, Cond.code yX6_buildsAnew cX6_buildsAnew 3 none, Cond.methodLink RX6 72 yX6_wants, Cond.instanceMethod yX6_wants, Cond.selects RX6 yX6_wants yX6_wants, Cond.code yX6_wants cX6_wants 4 (some .boolean), Cond.methodLink RX6 82 yX6_graft, Cond.instanceMethod yX6_graft, Cond.selects RX6 yX6_graft yX6_graft, Cond.code yX6_graft cX6_graft 7 none, Cond.methodLink RX6 65 yX6_root, Cond.instanceMethod yX6_root, Cond.selects RX6 yX6_root yX6_root, Cond.code yX6_root cX6_root 2 (some .int), Cond.methodLink RX6 61 yX6_meets, Cond.instanceMethod yX6_meets, Cond.selects RX6 yX6_meets yX6_meets]
def wsL_law0_r10 : List Cond := [Cond.code yX6_meets cX6_meets 7 (some .int), Cond.methodLink RX6 68 yX6_hop, Cond.instanceMethod yX6_hop, Cond.selects RX6 yX6_hop yX6_hop, Cond.code yX6_hop cX6_hop 7 (some .int), Cond.methodLink RL 83 yX6_thrown, Cond.instanceMethod yX6_thrown, Cond.selects RX6 yX6_thrown yX6_thrown, Cond.code yX6_thrown cX6_thrown 1 (some .int), Cond.methodLink RL 87 yL_setCandidate, Cond.static yL_setCandidate, Cond.codeWith yL_setCandidate cL_setCandidate 5 (some .int) [(0, 17, 20, 13)], Cond.methodLink RL 17 yX5_setCandidate, Cond.instanceMethod yX5_setCandidate, Cond.selects RX5 yX5_setCandidate yX5_setCandidate, Cond.code yX5_setCandidate cX5_setCandidate 4 (some .boolean), Cond.fieldLink RX5 71 "Multidell" "candidates" "I", Cond.methodLink RX5 74 yX5_has, Cond.methodLink RX5 82 yX5_sharedTree, Cond.static yX5_sharedTree, Cond.code yX5_sharedTree cX5_sharedTree 1 (some .int), Cond.methodLink RX5 85 yX5_bestCandidate, Cond.instanceMethod yX5_bestCandidate, Cond.selects RX5 yX5_bestCandidate yX5_bestCandidate]
def wsL_law0_r11 : List Cond := [Cond.code yX5_bestCandidate cX5_bestCandidate 6 (some .int), Cond.methodLink RX5 88 yX2_setRoot, Cond.methodLink RL 90 yX6_setCandidate, Cond.instanceMethod yX6_setCandidate, Cond.selects RX6 yX6_setCandidate yX6_setCandidate, Cond.code yX6_setCandidate cX6_setCandidate 3 (some .boolean), Cond.methodLink RL 91 yL_setLimit, Cond.static yL_setLimit, Cond.codeWith yL_setLimit cL_setLimit 4 (some .int) [(0, 9, 12, 15)], Cond.methodLink RL 21 yX5_setLimit, Cond.instanceMethod yX5_setLimit, Cond.selects RX5 yX5_setLimit yX5_setLimit, Cond.code yX5_setLimit cX5_setLimit 3 (some .int), Cond.methodLink RL 94 yX6_setLimit, Cond.instanceMethod yX6_setLimit, Cond.selects RX6 yX6_setLimit yX6_setLimit, Cond.code yX6_setLimit cX6_setLimit 3 (some .int), Cond.methodLink RL 95 yL_distance, Cond.static yL_distance, Cond.codeWith yL_distance cL_distance 5 (some .int) [(0, 10, 13, 13)], Cond.methodLink RL 25 yX5_distance, Cond.instanceMethod yX5_distance, Cond.selects RX5 yX5_distance yX5_distance, Cond.code yX5_distance cX5_distance 3 (some .int)]
def wsL_law0_r12 : List Cond := [Cond.methodLink RX5 94 yX4_distanceOf, Cond.methodLink RL 98 yX6_distance, Cond.instanceMethod yX6_distance, Cond.selects RX6 yX6_distance yX6_distance, Cond.code yX6_distance cX6_distance 4 (some .int), Cond.methodLink RL 99 yL_nextHop, Cond.static yL_nextHop, Cond.codeWith yL_nextHop cL_nextHop 5 (some .int) [(0, 10, 13, 13)], Cond.methodLink RL 29 yX5_nextHop, Cond.instanceMethod yX5_nextHop, Cond.selects RX5 yX5_nextHop yX5_nextHop, Cond.code yX5_nextHop cX5_nextHop 3 (some .int), Cond.methodLink RX5 97 yX4_hopOf, Cond.methodLink RL 101 yX6_nextHop, Cond.instanceMethod yX6_nextHop, Cond.selects RX6 yX6_nextHop yX6_nextHop, Cond.code yX6_nextHop cX6_nextHop 3 (some .int), Cond.methodLink RL 102 yL_rendezvous, Cond.static yL_rendezvous, Cond.codeWith yL_rendezvous cL_rendezvous 4 (some .int) [(0, 9, 12, 13)], Cond.methodLink RL 32 yX5_rendezvous, Cond.instanceMethod yX5_rendezvous, Cond.selects RX5 yX5_rendezvous yX5_rendezvous, Cond.code yX5_rendezvous cX5_rendezvous 2 (some .int)]
def wsL_law0_r13 : List Cond := [Cond.methodLink RX5 100 yX5_checkGroup, Cond.static yX5_checkGroup, Cond.code yX5_checkGroup cX5_checkGroup 1 none, Cond.methodLink RX5 103 yX2_rootOf, Cond.methodLink RL 104 yX6_rendezvous, Cond.instanceMethod yX6_rendezvous, Cond.selects RX6 yX6_rendezvous yX6_rendezvous, Cond.code yX6_rendezvous cX6_rendezvous 2 (some .int), Cond.methodLink RX6 96 yX6_isGroup, Cond.static yX6_isGroup, Cond.code yX6_isGroup cX6_isGroup 1 (some .boolean), Cond.methodLink RL 105 yL_join, Cond.static yL_join, Cond.codeWith yL_join cL_join 5 (some .int) [(0, 10, 13, 13), (0, 10, 17, 38)], Cond.classLink RL 38 "java/lang/IllegalStateException", Cond.methodLink RL 35 yX5_join, Cond.instanceMethod yX5_join, Cond.selects RX5 yX5_join yX5_join, Cond.code yX5_join cX5_join 3 (some .int), Cond.classLink RX5 109 "java/lang/IllegalStateException", Cond.initialized "java/lang/IllegalStateException", Cond.methodLink RX5 106 yX5_isMember, Cond.instanceMethod yX5_isMember, Cond.selects RX5 yX5_isMember yX5_isMember]
def wsL_law0_r14 : List Cond := [Cond.code yX5_isMember cX5_isMember 3 (some .boolean), Cond.methodLink RX5 118 yX5_membersOf, Cond.instanceMethod yX5_membersOf, Cond.selects RX5 yX5_membersOf yX5_membersOf, Cond.code yX5_membersOf cX5_membersOf 2 (some .int), Cond.methodLink RX5 140 yX2_wantingOf, Cond.instanceMethod yX2_wantingOf, Cond.selects RX2 yX2_wantingOf yX2_wantingOf, Cond.code yX2_wantingOf cX2_wantingOf 2 (some .int), Cond.methodLink RX5 114 yX2_want, Cond.instanceMethod yX2_want, Cond.selects RX2 yX2_want yX2_want, Cond.code yX2_want cX2_want 4 none, Cond.methodLink RX5 121 yJ6_bitCount_0f7a4, Cond.static yJ6_bitCount_0f7a4, Cond.initialized RJ6, Cond.code yJ6_bitCount_0f7a4 cJ6_bitCount_0f7a4 1 (some .int), Cond.constant RJ6 265 (1431655765), Cond.constant RJ6 266 (858993459), Cond.constant RJ6 267 (252645135), Cond.methodLink RL 107 yX6_join, Cond.instanceMethod yX6_join, Cond.selects RX6 yX6_join yX6_join, Cond.code yX6_join cX6_join 3 (some .int)]
def wsL_law0_r15 : List Cond := [Cond.methodLink RX6 99 yX6_isMember, Cond.instanceMethod yX6_isMember, Cond.selects RX6 yX6_isMember yX6_isMember, Cond.code yX6_isMember cX6_isMember 3 (some .boolean), Cond.methodLink RX6 102 yX6_many, Cond.static yX6_many, Cond.code yX6_many cX6_many 3 (some .int), Cond.methodLink RL 108 yL_leave, Cond.static yL_leave, Cond.codeWith yL_leave cL_leave 5 (some .int) [(0, 10, 13, 13), (0, 10, 17, 38)], Cond.methodLink RL 40 yX5_leave, Cond.instanceMethod yX5_leave, Cond.selects RX5 yX5_leave yX5_leave, Cond.code yX5_leave cX5_leave 4 (some .int), Cond.fieldLink RX5 128 "Multidell" "now" "I", Cond.methodLink RX5 131 yX2_unwant, Cond.instanceMethod yX2_unwant, Cond.selects RX2 yX2_unwant yX2_unwant, Cond.code yX2_unwant cX2_unwant 4 none, Cond.methodLink RX2 53 yX2_letLeave, Cond.instanceMethod yX2_letLeave, Cond.selects RX2 yX2_letLeave yX2_letLeave, Cond.code yX2_letLeave cX2_letLeave 5 none, Cond.methodLink RX2 79 yX2_isNeeded]
def wsL_law0_r16 : List Cond := [Cond.instanceMethod yX2_isNeeded, Cond.selects RX2 yX2_isNeeded yX2_isNeeded, Cond.code yX2_isNeeded cX2_isNeeded 3 (some .boolean), Cond.methodLink RX2 82 yX2_wantingOf, Cond.methodLink RX2 85 yX2_branchesFrom, Cond.instanceMethod yX2_branchesFrom, Cond.selects RX2 yX2_branchesFrom yX2_branchesFrom, Cond.code yX2_branchesFrom cX2_branchesFrom 5 (some .int), Cond.methodLink RX5 134 yX5_sourceTree, Cond.methodLink RX5 137 yX1_forget, Cond.instanceMethod yX1_forget, Cond.selects RX1 yX1_forget yX1_forget, Cond.code yX1_forget cX1_forget 4 none, Cond.methodLink RX1 15 yX1_isPlace, Cond.static yX1_isPlace, Cond.code yX1_isPlace cX1_isPlace 3 (some .boolean), Cond.methodLink RX1 19 yX1_placeOf, Cond.static yX1_placeOf, Cond.code yX1_placeOf cX1_placeOf 3 (some .int), Cond.methodLink RL 110 yX6_leave, Cond.instanceMethod yX6_leave, Cond.selects RX6 yX6_leave yX6_leave, Cond.code yX6_leave cX6_leave 4 (some .int), Cond.methodLink RX6 105 yX6_looks]
def wsL_law0_r17 : List Cond := [Cond.instanceMethod yX6_looks, Cond.selects RX6 yX6_looks yX6_looks, Cond.code yX6_looks cX6_looks 4 none, Cond.fieldLink RX6 79 "MultidellModel" "clock" "I", Cond.methodLink RX6 76 yX6_below, Cond.instanceMethod yX6_below, Cond.selects RX6 yX6_below yX6_below, Cond.code yX6_below cX6_below 5 (some .int), Cond.methodLink RL 111 yL_members, Cond.static yL_members, Cond.codeWith yL_members cL_members 4 (some .int) [(0, 9, 12, 13)], Cond.methodLink RL 43 yX5_members, Cond.instanceMethod yX5_members, Cond.selects RX5 yX5_members yX5_members, Cond.code yX5_members cX5_members 2 (some .int), Cond.methodLink RL 113 yX6_members, Cond.instanceMethod yX6_members, Cond.selects RX6 yX6_members yX6_members, Cond.code yX6_members cX6_members 2 (some .int), Cond.methodLink RL 114 yL_switched, Cond.static yL_switched, Cond.codeWith yL_switched cL_switched 5 (some .int) [(0, 10, 13, 13)], Cond.methodLink RL 46 yX5_switched, Cond.instanceMethod yX5_switched]
def wsL_law0_r18 : List Cond := [Cond.selects RX5 yX5_switched yX5_switched, Cond.code yX5_switched cX5_switched 3 (some .int), Cond.methodLink RL 116 yX6_switched, Cond.instanceMethod yX6_switched, Cond.selects RX6 yX6_switched yX6_switched, Cond.code yX6_switched cX6_switched 3 (some .int), Cond.methodLink RL 117 yL_branches, Cond.static yL_branches, Cond.codeWith yL_branches cL_branches 5 (some .int) [(0, 10, 13, 13)], Cond.methodLink RL 49 yX5_branches, Cond.instanceMethod yX5_branches, Cond.selects RX5 yX5_branches yX5_branches, Cond.code yX5_branches cX5_branches 3 (some .int), Cond.methodLink RX5 143 yX2_branchesFrom, Cond.methodLink RL 119 yX6_branches, Cond.instanceMethod yX6_branches, Cond.selects RX6 yX6_branches yX6_branches, Cond.code yX6_branches cX6_branches 3 (some .int), Cond.methodLink RL 120 yL_sourceBranches, Cond.static yL_sourceBranches, Cond.codeWith yL_sourceBranches cL_sourceBranches 6 (some .int) [(0, 12, 15, 13)], Cond.methodLink RL 52 yX5_sourceBranches, Cond.instanceMethod yX5_sourceBranches, Cond.selects RX5 yX5_sourceBranches yX5_sourceBranches]
def wsL_law0_r19 : List Cond := [Cond.code yX5_sourceBranches cX5_sourceBranches 4 (some .int), Cond.methodLink RL 122 yX6_sourceBranches, Cond.instanceMethod yX6_sourceBranches, Cond.selects RX6 yX6_sourceBranches yX6_sourceBranches, Cond.code yX6_sourceBranches cX6_sourceBranches 4 (some .int), Cond.methodLink RL 123 yX5_leaving, Cond.instanceMethod yX5_leaving, Cond.selects RX5 yX5_leaving yX5_leaving, Cond.code yX5_leaving cX5_leaving 1 (some .int), Cond.methodLink RX5 146 yX2_leavingBranches, Cond.instanceMethod yX2_leavingBranches, Cond.selects RX2 yX2_leavingBranches yX2_leavingBranches, Cond.code yX2_leavingBranches cX2_leavingBranches 3 (some .int), Cond.methodLink RL 126 yX6_leaving, Cond.instanceMethod yX6_leaving, Cond.selects RX6 yX6_leaving yX6_leaving, Cond.code yX6_leaving cX6_leaving 3 (some .int), Cond.methodLink RL 127 yL_send, Cond.static yL_send, Cond.codeWith yL_send cL_send 5 (some .int) [(0, 10, 13, 13), (0, 10, 17, 38)], Cond.methodLink RL 55 yX5_send, Cond.instanceMethod yX5_send, Cond.selects RX5 yX5_send yX5_send, Cond.code yX5_send cX5_send 5 (some .int)]
def wsL_law0_r20 : List Cond := [Cond.methodLink RX5 150 yX3_isFull, Cond.instanceMethod yX3_isFull, Cond.selects RX3 yX3_isFull yX3_isFull, Cond.code yX3_isFull cX3_isFull 1 (some .boolean), Cond.fieldLink RX3 24 "Multidell$Packets" "sent" "I", Cond.methodLink RX5 156 yX3_add, Cond.instanceMethod yX3_add, Cond.selects RX3 yX3_add yX3_add, Cond.code yX3_add cX3_add 4 (some .int), Cond.methodLink RX3 28 yX3_isFull, Cond.methodLink RX5 159 yX3_receive, Cond.instanceMethod yX3_receive, Cond.selects RX3 yX3_receive yX3_receive, Cond.code yX3_receive cX3_receive 3 none, Cond.methodLink RX3 32 yX3_isPacket, Cond.instanceMethod yX3_isPacket, Cond.selects RX3 yX3_isPacket yX3_isPacket, Cond.code yX3_isPacket cX3_isPacket 2 (some .boolean), Cond.methodLink RX5 162 yX5_getPacket, Cond.instanceMethod yX5_getPacket, Cond.selects RX5 yX5_getPacket yX5_getPacket, Cond.code yX5_getPacket cX5_getPacket 9 (some .boolean), Cond.methodLink RX5 220 yX3_groupOf, Cond.instanceMethod yX3_groupOf]
def wsL_law0_r21 : List Cond := [Cond.selects RX3 yX3_groupOf yX3_groupOf, Cond.code yX3_groupOf cX3_groupOf 2 (some .int), Cond.methodLink RX5 200 yX3_receiversOf, Cond.instanceMethod yX3_receiversOf, Cond.selects RX3 yX3_receiversOf yX3_receiversOf, Cond.code yX3_receiversOf cX3_receiversOf 2 (some .int), Cond.methodLink RX5 223 yX3_addDouble, Cond.instanceMethod yX3_addDouble, Cond.selects RX3 yX3_addDouble yX3_addDouble, Cond.code yX3_addDouble cX3_addDouble 2 none, Cond.methodLink RX5 226 yX3_sourceOf, Cond.instanceMethod yX3_sourceOf, Cond.selects RX3 yX3_sourceOf yX3_sourceOf, Cond.code yX3_sourceOf cX3_sourceOf 2 (some .int), Cond.methodLink RX5 229 yX5_isShared, Cond.static yX5_isShared, Cond.code yX5_isShared cX5_isShared 1 (some .boolean), Cond.methodLink RX5 233 yX5_countSaysSwitch, Cond.instanceMethod yX5_countSaysSwitch, Cond.selects RX5 yX5_countSaysSwitch yX5_countSaysSwitch, Cond.code yX5_countSaysSwitch cX5_countSaysSwitch 6 (some .boolean), Cond.methodLink RX5 236 yX1_raise, Cond.instanceMethod yX1_raise, Cond.selects RX1 yX1_raise yX1_raise]
def wsL_law0_r22 : List Cond := [Cond.code yX1_raise cX1_raise 5 (some .int), Cond.methodLink RX5 166 yX5_goOn, Cond.instanceMethod yX5_goOn, Cond.selects RX5 yX5_goOn yX5_goOn, Cond.code yX5_goOn cX5_goOn 6 none, Cond.fieldLink RX5 187 "Multidell" "wastedCopies" "I", Cond.methodLink RX5 240 yX0_put, Cond.instanceMethod yX0_put, Cond.selects RX0 yX0_put yX0_put, Cond.code yX0_put cX0_put 6 (some .boolean), Cond.fieldLink RX0 24 "Multidell$CopyQueue" "size" "I", Cond.fieldLink RX0 28 "Multidell$CopyQueue" "first" "I", Cond.methodLink RL 129 yX6_send, Cond.instanceMethod yX6_send, Cond.selects RX6 yX6_send yX6_send, Cond.code yX6_send cX6_send 6 (some .int), Cond.fieldLink RX6 121 "MultidellModel" "packets" "I", Cond.methodLink RX6 124 yX6_gets, Cond.instanceMethod yX6_gets, Cond.selects RX6 yX6_gets yX6_gets, Cond.code yX6_gets cX6_gets 6 (some .boolean), Cond.methodLink RX6 114 yX6_counts, Cond.instanceMethod yX6_counts, Cond.selects RX6 yX6_counts yX6_counts]
def wsL_law0_r23 : List Cond := [Cond.code yX6_counts cX6_counts 5 none, Cond.methodLink RX6 118 yX6_goesOn, Cond.instanceMethod yX6_goesOn, Cond.selects RX6 yX6_goesOn yX6_goesOn, Cond.code yX6_goesOn cX6_goesOn 6 none, Cond.fieldLink RX6 108 "MultidellModel" "queued" "I", Cond.fieldLink RX6 111 "MultidellModel" "wasted" "I", Cond.methodLink RL 130 yX5_follow, Cond.instanceMethod yX5_follow, Cond.selects RX5 yX5_follow yX5_follow, Cond.code yX5_follow cX5_follow 5 (some .int), Cond.methodLink RX5 169 yX0_isEmpty, Cond.instanceMethod yX0_isEmpty, Cond.selects RX0 yX0_isEmpty yX0_isEmpty, Cond.code yX0_isEmpty cX0_isEmpty 1 (some .boolean), Cond.methodLink RX5 172 yX0_firstPacket, Cond.instanceMethod yX0_firstPacket, Cond.selects RX0 yX0_firstPacket yX0_firstPacket, Cond.code yX0_firstPacket cX0_firstPacket 1 (some .int), Cond.methodLink RX0 31 yX0_firstIn, Cond.instanceMethod yX0_firstIn, Cond.selects RX0 yX0_firstIn yX0_firstIn, Cond.code yX0_firstIn cX0_firstIn 2 (some .int), Cond.methodLink RX5 175 yX0_firstTree]
def wsL_law0_r24 : List Cond := [Cond.instanceMethod yX0_firstTree, Cond.selects RX0 yX0_firstTree yX0_firstTree, Cond.code yX0_firstTree cX0_firstTree 1 (some .int), Cond.methodLink RX5 178 yX0_firstFrom, Cond.instanceMethod yX0_firstFrom, Cond.selects RX0 yX0_firstFrom yX0_firstFrom, Cond.code yX0_firstFrom cX0_firstFrom 1 (some .int), Cond.methodLink RX5 181 yX0_firstTo, Cond.instanceMethod yX0_firstTo, Cond.selects RX0 yX0_firstTo yX0_firstTo, Cond.code yX0_firstTo cX0_firstTo 1 (some .int), Cond.methodLink RX5 184 yX0_removeFirst, Cond.instanceMethod yX0_removeFirst, Cond.selects RX0 yX0_removeFirst yX0_removeFirst, Cond.code yX0_removeFirst cX0_removeFirst 1 none, Cond.methodLink RL 133 yX6_follow, Cond.instanceMethod yX6_follow, Cond.selects RX6 yX6_follow yX6_follow, Cond.code yX6_follow cX6_follow 1 (some .int), Cond.methodLink RX6 128 yX6_follows, Cond.instanceMethod yX6_follows, Cond.selects RX6 yX6_follows yX6_follows, Cond.code yX6_follows cX6_follows 7 (some .int), Cond.methodLink RL 134 yX5_followAll]
def wsL_law0_r25 : List Cond := [Cond.instanceMethod yX5_followAll, Cond.selects RX5 yX5_followAll yX5_followAll, Cond.code yX5_followAll cX5_followAll 2 (some .int), Cond.constant RX5 190 (1000000), Cond.methodLink RX5 191 yX5_follow, Cond.methodLink RL 137 yX6_followAll, Cond.instanceMethod yX6_followAll, Cond.selects RX6 yX6_followAll yX6_followAll, Cond.code yX6_followAll cX6_followAll 2 (some .int), Cond.methodLink RL 138 yX5_queued, Cond.instanceMethod yX5_queued, Cond.selects RX5 yX5_queued yX5_queued, Cond.code yX5_queued cX5_queued 1 (some .int), Cond.methodLink RX5 194 yX0_count, Cond.instanceMethod yX0_count, Cond.selects RX0 yX0_count yX0_count, Cond.code yX0_count cX0_count 1 (some .int), Cond.methodLink RL 141 yX6_queued, Cond.instanceMethod yX6_queued, Cond.selects RX6 yX6_queued yX6_queued, Cond.code yX6_queued cX6_queued 1 (some .int), Cond.methodLink RL 142 yX5_nextTo, Cond.instanceMethod yX5_nextTo, Cond.selects RX5 yX5_nextTo yX5_nextTo]
def wsL_law0_r26 : List Cond := [Cond.code yX5_nextTo cX5_nextTo 1 (some .int), Cond.methodLink RL 145 yX6_nextTo, Cond.instanceMethod yX6_nextTo, Cond.selects RX6 yX6_nextTo yX6_nextTo, Cond.code yX6_nextTo cX6_nextTo 1 (some .int), Cond.methodLink RL 146 yL_received, Cond.static yL_received, Cond.codeWith yL_received cL_received 4 (some .int) [(0, 9, 12, 13)], Cond.methodLink RL 58 yX5_received, Cond.instanceMethod yX5_received, Cond.selects RX5 yX5_received yX5_received, Cond.code yX5_received cX5_received 2 (some .int), Cond.methodLink RX5 197 yX5_checkPacket, Cond.instanceMethod yX5_checkPacket, Cond.selects RX5 yX5_checkPacket yX5_checkPacket, Cond.code yX5_checkPacket cX5_checkPacket 2 none, Cond.methodLink RX5 244 yX3_isPacket, Cond.methodLink RL 148 yX6_received, Cond.instanceMethod yX6_received, Cond.selects RX6 yX6_received yX6_received, Cond.code yX6_received cX6_received 2 (some .int), Cond.methodLink RX6 132 yX6_isPacket, Cond.instanceMethod yX6_isPacket, Cond.selects RX6 yX6_isPacket yX6_isPacket]
def wsL_law0_r27 : List Cond := [Cond.code yX6_isPacket cX6_isPacket 2 (some .boolean), Cond.methodLink RL 149 yL_doubles, Cond.static yL_doubles, Cond.codeWith yL_doubles cL_doubles 4 (some .int) [(0, 9, 12, 13)], Cond.methodLink RL 61 yX5_doubles, Cond.instanceMethod yX5_doubles, Cond.selects RX5 yX5_doubles yX5_doubles, Cond.code yX5_doubles cX5_doubles 2 (some .int), Cond.methodLink RX5 203 yX3_doublesOf, Cond.instanceMethod yX3_doublesOf, Cond.selects RX3 yX3_doublesOf yX3_doublesOf, Cond.code yX3_doublesOf cX3_doublesOf 2 (some .int), Cond.methodLink RL 151 yX6_doubles, Cond.instanceMethod yX6_doubles, Cond.selects RX6 yX6_doubles yX6_doubles, Cond.code yX6_doubles cX6_doubles 2 (some .int), Cond.methodLink RL 152 yX5_wasted, Cond.instanceMethod yX5_wasted, Cond.selects RX5 yX5_wasted yX5_wasted, Cond.code yX5_wasted cX5_wasted 1 (some .int), Cond.methodLink RL 155 yX6_wasted, Cond.instanceMethod yX6_wasted, Cond.selects RX6 yX6_wasted yX6_wasted, Cond.code yX6_wasted cX6_wasted 1 (some .int)]
def wsL_law0_r28 : List Cond := [Cond.methodLink RL 156 yL_pass, Cond.static yL_pass, Cond.codeWith yL_pass cL_pass 4 (some .int) [(0, 9, 12, 15)], Cond.methodLink RL 64 yX5_pass, Cond.instanceMethod yX5_pass, Cond.selects RX5 yX5_pass yX5_pass, Cond.code yX5_pass cX5_pass 4 (some .int), Cond.methodLink RX5 208 yX2_removeDue, Cond.instanceMethod yX2_removeDue, Cond.selects RX2 yX2_removeDue yX2_removeDue, Cond.code yX2_removeDue cX2_removeDue 5 (some .int), Cond.methodLink RX2 61 yX2_isDue, Cond.instanceMethod yX2_isDue, Cond.selects RX2 yX2_isDue yX2_isDue, Cond.code yX2_isDue cX2_isDue 4 (some .boolean), Cond.methodLink RX2 65 yX2_remove, Cond.instanceMethod yX2_remove, Cond.selects RX2 yX2_remove yX2_remove, Cond.code yX2_remove cX2_remove 5 none, Cond.methodLink RX5 211 yX1_forgetAll, Cond.instanceMethod yX1_forgetAll, Cond.selects RX1 yX1_forgetAll yX1_forgetAll, Cond.code yX1_forgetAll cX1_forgetAll 1 none, Cond.methodLink RX1 23 yJ7_fill_53178]
def wsL_law0_r29 : List Cond := [Cond.methodLink RL 158 yX6_pass, Cond.instanceMethod yX6_pass, Cond.selects RX6 yX6_pass yX6_pass, Cond.code yX6_pass cX6_pass 5 (some .int), Cond.methodLink RX6 135 yX6_second, Cond.instanceMethod yX6_second, Cond.selects RX6 yX6_second yX6_second, Cond.code yX6_second cX6_second 6 (some .int), Cond.methodLink RL 159 yX5_clock, Cond.instanceMethod yX5_clock, Cond.selects RX5 yX5_clock yX5_clock, Cond.code yX5_clock cX5_clock 1 (some .int), Cond.methodLink RL 162 yX6_clock, Cond.instanceMethod yX6_clock, Cond.selects RX6 yX6_clock yX6_clock, Cond.code yX6_clock cX6_clock 1 (some .int), Cond.methodLink RL 163 yL_floodMembers, Cond.static yL_floodMembers, Cond.codeWith yL_floodMembers cL_floodMembers 5 (some .int) [(0, 10, 13, 13)], Cond.methodLink RL 67 yX5_floodMembers, Cond.instanceMethod yX5_floodMembers, Cond.selects RX5 yX5_floodMembers yX5_floodMembers, Cond.code yX5_floodMembers cX5_floodMembers 3 (some .int), Cond.methodLink RX5 214 yX5_floodedFrom]
def wsL_law0_r30 : List Cond := [Cond.instanceMethod yX5_floodedFrom, Cond.selects RX5 yX5_floodedFrom yX5_floodedFrom, Cond.code yX5_floodedFrom cX5_floodedFrom 4 (some .int), Cond.methodLink RL 165 yX6_floodMembers, Cond.instanceMethod yX6_floodMembers, Cond.selects RX6 yX6_floodMembers yX6_floodMembers, Cond.code yX6_floodMembers cX6_floodMembers 5 (some .int), Cond.methodLink RL 166 yL_floodCopies, Cond.static yL_floodCopies, Cond.codeWith yL_floodCopies cL_floodCopies 4 (some .int) [(0, 9, 12, 13)], Cond.methodLink RL 70 yX5_floodCopies, Cond.instanceMethod yX5_floodCopies, Cond.selects RX5 yX5_floodCopies yX5_floodCopies, Cond.code yX5_floodCopies cX5_floodCopies 5 (some .int), Cond.methodLink RX5 217 yX4_linksOf, Cond.instanceMethod yX4_linksOf, Cond.selects RX4 yX4_linksOf yX4_linksOf, Cond.code yX4_linksOf cX4_linksOf 4 (some .int), Cond.methodLink RL 168 yX6_floodCopies, Cond.instanceMethod yX6_floodCopies, Cond.selects RX6 yX6_floodCopies yX6_floodCopies, Cond.code yX6_floodCopies cX6_floodCopies 6 (some .int)]
def wsL_law0 : List Cond := (wsL_law0_r1 ++ (wsL_law0_r2 ++ (wsL_law0_r3 ++ (wsL_law0_r4 ++ (wsL_law0_r5 ++ (wsL_law0_r6 ++ (wsL_law0_r7 ++ (wsL_law0_r8 ++ (wsL_law0_r9 ++ (wsL_law0_r10 ++ (wsL_law0_r11 ++ (wsL_law0_r12 ++ (wsL_law0_r13 ++ (wsL_law0_r14 ++ (wsL_law0_r15 ++ (wsL_law0_r16 ++ (wsL_law0_r17 ++ (wsL_law0_r18 ++ (wsL_law0_r19 ++ (wsL_law0_r20 ++ (wsL_law0_r21 ++ (wsL_law0_r22 ++ (wsL_law0_r23 ++ (wsL_law0_r24 ++ (wsL_law0_r25 ++ (wsL_law0_r26 ++ (wsL_law0_r27 ++ (wsL_law0_r28 ++ (wsL_law0_r29 ++ wsL_law0_r30))))))))))))))))))))))))))))) ++ wsX50 ++ wsX60 ++ wsX40 ++ wsX20 ++ wsX30 ++ wsX00 ++ wsX10 ++ ([] : List Cond)
def wsL_law : List Cond := wsL_law0 ++ (vx_atS RX5 56 "java/lang/IllegalArgumentException" ["java/lang/RuntimeException", "java/lang/Exception"]).filter goodWord ++ (vx_atS RX5 251 "java/lang/IndexOutOfBoundsException" ["java/lang/RuntimeException", "java/lang/Exception"]).filter goodWord ++ (vx_atS RX5 113 "java/lang/IllegalStateException" ["java/lang/RuntimeException", "java/lang/Exception"]).filter goodWord
theorem inlX0 : ∀ w ∈ wsX00, w ∈ wsL_law := fun _ h => List.mem_append_left _ (List.mem_append_left _ (List.mem_append_left _ (List.mem_append_left _ (List.mem_append_left _ (List.mem_append_right _ h)))))
theorem inlX1 : ∀ w ∈ wsX10, w ∈ wsL_law := fun _ h => List.mem_append_left _ (List.mem_append_left _ (List.mem_append_left _ (List.mem_append_left _ (List.mem_append_right _ h))))
theorem inlX2 : ∀ w ∈ wsX20, w ∈ wsL_law := fun _ h => List.mem_append_left _ (List.mem_append_left _ (List.mem_append_left _ (List.mem_append_left _ (List.mem_append_left _ (List.mem_append_left _ (List.mem_append_left _ (List.mem_append_right _ h)))))))
theorem inlX3 : ∀ w ∈ wsX30, w ∈ wsL_law := fun _ h => List.mem_append_left _ (List.mem_append_left _ (List.mem_append_left _ (List.mem_append_left _ (List.mem_append_left _ (List.mem_append_left _ (List.mem_append_right _ h))))))
theorem inlX4 : ∀ w ∈ wsX40, w ∈ wsL_law := fun _ h => List.mem_append_left _ (List.mem_append_left _ (List.mem_append_left _ (List.mem_append_left _ (List.mem_append_left _ (List.mem_append_left _ (List.mem_append_left _ (List.mem_append_left _ (List.mem_append_right _ h))))))))
theorem inlX5 : ∀ w ∈ wsX50, w ∈ wsL_law := fun _ h => List.mem_append_left _ (List.mem_append_left _ (List.mem_append_left _ (List.mem_append_left _ (List.mem_append_left _ (List.mem_append_left _ (List.mem_append_left _ (List.mem_append_left _ (List.mem_append_left _ (List.mem_append_left _ (List.mem_append_right _ h))))))))))
theorem inlX6 : ∀ w ∈ wsX60, w ∈ wsL_law := fun _ h => List.mem_append_left _ (List.mem_append_left _ (List.mem_append_left _ (List.mem_append_left _ (List.mem_append_left _ (List.mem_append_left _ (List.mem_append_left _ (List.mem_append_left _ (List.mem_append_left _ (List.mem_append_right _ h)))))))))
theorem inr_1 : ∀ w ∈ wsL_law0_r1, w ∈ wsL_law := fun _ h => (List.mem_append_left _ (List.mem_append_left _ (List.mem_append_left _ (List.mem_append_left _ (List.mem_append_left _ (List.mem_append_left _ (List.mem_append_left _ (List.mem_append_left _ (List.mem_append_left _ (List.mem_append_left _ (List.mem_append_left _ (List.mem_append_left _ h))))))))))))
theorem inr_2 : ∀ w ∈ wsL_law0_r2, w ∈ wsL_law := fun _ h => (List.mem_append_left _ (List.mem_append_left _ (List.mem_append_left _ (List.mem_append_left _ (List.mem_append_left _ (List.mem_append_left _ (List.mem_append_left _ (List.mem_append_left _ (List.mem_append_left _ (List.mem_append_left _ (List.mem_append_left _ (List.mem_append_right _ (List.mem_append_left _ h)))))))))))))
theorem inr_3 : ∀ w ∈ wsL_law0_r3, w ∈ wsL_law := fun _ h => (List.mem_append_left _ (List.mem_append_left _ (List.mem_append_left _ (List.mem_append_left _ (List.mem_append_left _ (List.mem_append_left _ (List.mem_append_left _ (List.mem_append_left _ (List.mem_append_left _ (List.mem_append_left _ (List.mem_append_left _ (List.mem_append_right _ (List.mem_append_right _ (List.mem_append_left _ h))))))))))))))
theorem inr_4 : ∀ w ∈ wsL_law0_r4, w ∈ wsL_law := fun _ h => (List.mem_append_left _ (List.mem_append_left _ (List.mem_append_left _ (List.mem_append_left _ (List.mem_append_left _ (List.mem_append_left _ (List.mem_append_left _ (List.mem_append_left _ (List.mem_append_left _ (List.mem_append_left _ (List.mem_append_left _ (List.mem_append_right _ (List.mem_append_right _ (List.mem_append_right _ (List.mem_append_left _ h)))))))))))))))
theorem inr_5 : ∀ w ∈ wsL_law0_r5, w ∈ wsL_law := fun _ h => (List.mem_append_left _ (List.mem_append_left _ (List.mem_append_left _ (List.mem_append_left _ (List.mem_append_left _ (List.mem_append_left _ (List.mem_append_left _ (List.mem_append_left _ (List.mem_append_left _ (List.mem_append_left _ (List.mem_append_left _ (List.mem_append_right _ (List.mem_append_right _ (List.mem_append_right _ (List.mem_append_right _ (List.mem_append_left _ h))))))))))))))))
theorem inr_6 : ∀ w ∈ wsL_law0_r6, w ∈ wsL_law := fun _ h => (List.mem_append_left _ (List.mem_append_left _ (List.mem_append_left _ (List.mem_append_left _ (List.mem_append_left _ (List.mem_append_left _ (List.mem_append_left _ (List.mem_append_left _ (List.mem_append_left _ (List.mem_append_left _ (List.mem_append_left _ (List.mem_append_right _ (List.mem_append_right _ (List.mem_append_right _ (List.mem_append_right _ (List.mem_append_right _ (List.mem_append_left _ h)))))))))))))))))
theorem inr_7 : ∀ w ∈ wsL_law0_r7, w ∈ wsL_law := fun _ h => (List.mem_append_left _ (List.mem_append_left _ (List.mem_append_left _ (List.mem_append_left _ (List.mem_append_left _ (List.mem_append_left _ (List.mem_append_left _ (List.mem_append_left _ (List.mem_append_left _ (List.mem_append_left _ (List.mem_append_left _ (List.mem_append_right _ (List.mem_append_right _ (List.mem_append_right _ (List.mem_append_right _ (List.mem_append_right _ (List.mem_append_right _ (List.mem_append_left _ h))))))))))))))))))
theorem inr_8 : ∀ w ∈ wsL_law0_r8, w ∈ wsL_law := fun _ h => (List.mem_append_left _ (List.mem_append_left _ (List.mem_append_left _ (List.mem_append_left _ (List.mem_append_left _ (List.mem_append_left _ (List.mem_append_left _ (List.mem_append_left _ (List.mem_append_left _ (List.mem_append_left _ (List.mem_append_left _ (List.mem_append_right _ (List.mem_append_right _ (List.mem_append_right _ (List.mem_append_right _ (List.mem_append_right _ (List.mem_append_right _ (List.mem_append_right _ (List.mem_append_left _ h)))))))))))))))))))
theorem inr_9 : ∀ w ∈ wsL_law0_r9, w ∈ wsL_law := fun _ h => (List.mem_append_left _ (List.mem_append_left _ (List.mem_append_left _ (List.mem_append_left _ (List.mem_append_left _ (List.mem_append_left _ (List.mem_append_left _ (List.mem_append_left _ (List.mem_append_left _ (List.mem_append_left _ (List.mem_append_left _ (List.mem_append_right _ (List.mem_append_right _ (List.mem_append_right _ (List.mem_append_right _ (List.mem_append_right _ (List.mem_append_right _ (List.mem_append_right _ (List.mem_append_right _ (List.mem_append_left _ h))))))))))))))))))))
theorem inr_10 : ∀ w ∈ wsL_law0_r10, w ∈ wsL_law := fun _ h => (List.mem_append_left _ (List.mem_append_left _ (List.mem_append_left _ (List.mem_append_left _ (List.mem_append_left _ (List.mem_append_left _ (List.mem_append_left _ (List.mem_append_left _ (List.mem_append_left _ (List.mem_append_left _ (List.mem_append_left _ (List.mem_append_right _ (List.mem_append_right _ (List.mem_append_right _ (List.mem_append_right _ (List.mem_append_right _ (List.mem_append_right _ (List.mem_append_right _ (List.mem_append_right _ (List.mem_append_right _ (List.mem_append_left _ h)))))))))))))))))))))
theorem inr_11 : ∀ w ∈ wsL_law0_r11, w ∈ wsL_law := fun _ h => (List.mem_append_left _ (List.mem_append_left _ (List.mem_append_left _ (List.mem_append_left _ (List.mem_append_left _ (List.mem_append_left _ (List.mem_append_left _ (List.mem_append_left _ (List.mem_append_left _ (List.mem_append_left _ (List.mem_append_left _ (List.mem_append_right _ (List.mem_append_right _ (List.mem_append_right _ (List.mem_append_right _ (List.mem_append_right _ (List.mem_append_right _ (List.mem_append_right _ (List.mem_append_right _ (List.mem_append_right _ (List.mem_append_right _ (List.mem_append_left _ h))))))))))))))))))))))
theorem inr_12 : ∀ w ∈ wsL_law0_r12, w ∈ wsL_law := fun _ h => (List.mem_append_left _ (List.mem_append_left _ (List.mem_append_left _ (List.mem_append_left _ (List.mem_append_left _ (List.mem_append_left _ (List.mem_append_left _ (List.mem_append_left _ (List.mem_append_left _ (List.mem_append_left _ (List.mem_append_left _ (List.mem_append_right _ (List.mem_append_right _ (List.mem_append_right _ (List.mem_append_right _ (List.mem_append_right _ (List.mem_append_right _ (List.mem_append_right _ (List.mem_append_right _ (List.mem_append_right _ (List.mem_append_right _ (List.mem_append_right _ (List.mem_append_left _ h)))))))))))))))))))))))
theorem inr_13 : ∀ w ∈ wsL_law0_r13, w ∈ wsL_law := fun _ h => (List.mem_append_left _ (List.mem_append_left _ (List.mem_append_left _ (List.mem_append_left _ (List.mem_append_left _ (List.mem_append_left _ (List.mem_append_left _ (List.mem_append_left _ (List.mem_append_left _ (List.mem_append_left _ (List.mem_append_left _ (List.mem_append_right _ (List.mem_append_right _ (List.mem_append_right _ (List.mem_append_right _ (List.mem_append_right _ (List.mem_append_right _ (List.mem_append_right _ (List.mem_append_right _ (List.mem_append_right _ (List.mem_append_right _ (List.mem_append_right _ (List.mem_append_right _ (List.mem_append_left _ h))))))))))))))))))))))))
theorem inr_14 : ∀ w ∈ wsL_law0_r14, w ∈ wsL_law := fun _ h => (List.mem_append_left _ (List.mem_append_left _ (List.mem_append_left _ (List.mem_append_left _ (List.mem_append_left _ (List.mem_append_left _ (List.mem_append_left _ (List.mem_append_left _ (List.mem_append_left _ (List.mem_append_left _ (List.mem_append_left _ (List.mem_append_right _ (List.mem_append_right _ (List.mem_append_right _ (List.mem_append_right _ (List.mem_append_right _ (List.mem_append_right _ (List.mem_append_right _ (List.mem_append_right _ (List.mem_append_right _ (List.mem_append_right _ (List.mem_append_right _ (List.mem_append_right _ (List.mem_append_right _ (List.mem_append_left _ h)))))))))))))))))))))))))
theorem inr_15 : ∀ w ∈ wsL_law0_r15, w ∈ wsL_law := fun _ h => (List.mem_append_left _ (List.mem_append_left _ (List.mem_append_left _ (List.mem_append_left _ (List.mem_append_left _ (List.mem_append_left _ (List.mem_append_left _ (List.mem_append_left _ (List.mem_append_left _ (List.mem_append_left _ (List.mem_append_left _ (List.mem_append_right _ (List.mem_append_right _ (List.mem_append_right _ (List.mem_append_right _ (List.mem_append_right _ (List.mem_append_right _ (List.mem_append_right _ (List.mem_append_right _ (List.mem_append_right _ (List.mem_append_right _ (List.mem_append_right _ (List.mem_append_right _ (List.mem_append_right _ (List.mem_append_right _ (List.mem_append_left _ h))))))))))))))))))))))))))
theorem inr_16 : ∀ w ∈ wsL_law0_r16, w ∈ wsL_law := fun _ h => (List.mem_append_left _ (List.mem_append_left _ (List.mem_append_left _ (List.mem_append_left _ (List.mem_append_left _ (List.mem_append_left _ (List.mem_append_left _ (List.mem_append_left _ (List.mem_append_left _ (List.mem_append_left _ (List.mem_append_left _ (List.mem_append_right _ (List.mem_append_right _ (List.mem_append_right _ (List.mem_append_right _ (List.mem_append_right _ (List.mem_append_right _ (List.mem_append_right _ (List.mem_append_right _ (List.mem_append_right _ (List.mem_append_right _ (List.mem_append_right _ (List.mem_append_right _ (List.mem_append_right _ (List.mem_append_right _ (List.mem_append_right _ (List.mem_append_left _ h)))))))))))))))))))))))))))
theorem inr_17 : ∀ w ∈ wsL_law0_r17, w ∈ wsL_law := fun _ h => (List.mem_append_left _ (List.mem_append_left _ (List.mem_append_left _ (List.mem_append_left _ (List.mem_append_left _ (List.mem_append_left _ (List.mem_append_left _ (List.mem_append_left _ (List.mem_append_left _ (List.mem_append_left _ (List.mem_append_left _ (List.mem_append_right _ (List.mem_append_right _ (List.mem_append_right _ (List.mem_append_right _ (List.mem_append_right _ (List.mem_append_right _ (List.mem_append_right _ (List.mem_append_right _ (List.mem_append_right _ (List.mem_append_right _ (List.mem_append_right _ (List.mem_append_right _ (List.mem_append_right _ (List.mem_append_right _ (List.mem_append_right _ (List.mem_append_right _ (List.mem_append_left _ h))))))))))))))))))))))))))))
theorem inr_18 : ∀ w ∈ wsL_law0_r18, w ∈ wsL_law := fun _ h => (List.mem_append_left _ (List.mem_append_left _ (List.mem_append_left _ (List.mem_append_left _ (List.mem_append_left _ (List.mem_append_left _ (List.mem_append_left _ (List.mem_append_left _ (List.mem_append_left _ (List.mem_append_left _ (List.mem_append_left _ (List.mem_append_right _ (List.mem_append_right _ (List.mem_append_right _ (List.mem_append_right _ (List.mem_append_right _ (List.mem_append_right _ (List.mem_append_right _ (List.mem_append_right _ (List.mem_append_right _ (List.mem_append_right _ (List.mem_append_right _ (List.mem_append_right _ (List.mem_append_right _ (List.mem_append_right _ (List.mem_append_right _ (List.mem_append_right _ (List.mem_append_right _ (List.mem_append_left _ h)))))))))))))))))))))))))))))
theorem inr_19 : ∀ w ∈ wsL_law0_r19, w ∈ wsL_law := fun _ h => (List.mem_append_left _ (List.mem_append_left _ (List.mem_append_left _ (List.mem_append_left _ (List.mem_append_left _ (List.mem_append_left _ (List.mem_append_left _ (List.mem_append_left _ (List.mem_append_left _ (List.mem_append_left _ (List.mem_append_left _ (List.mem_append_right _ (List.mem_append_right _ (List.mem_append_right _ (List.mem_append_right _ (List.mem_append_right _ (List.mem_append_right _ (List.mem_append_right _ (List.mem_append_right _ (List.mem_append_right _ (List.mem_append_right _ (List.mem_append_right _ (List.mem_append_right _ (List.mem_append_right _ (List.mem_append_right _ (List.mem_append_right _ (List.mem_append_right _ (List.mem_append_right _ (List.mem_append_right _ (List.mem_append_left _ h))))))))))))))))))))))))))))))
theorem inr_20 : ∀ w ∈ wsL_law0_r20, w ∈ wsL_law := fun _ h => (List.mem_append_left _ (List.mem_append_left _ (List.mem_append_left _ (List.mem_append_left _ (List.mem_append_left _ (List.mem_append_left _ (List.mem_append_left _ (List.mem_append_left _ (List.mem_append_left _ (List.mem_append_left _ (List.mem_append_left _ (List.mem_append_right _ (List.mem_append_right _ (List.mem_append_right _ (List.mem_append_right _ (List.mem_append_right _ (List.mem_append_right _ (List.mem_append_right _ (List.mem_append_right _ (List.mem_append_right _ (List.mem_append_right _ (List.mem_append_right _ (List.mem_append_right _ (List.mem_append_right _ (List.mem_append_right _ (List.mem_append_right _ (List.mem_append_right _ (List.mem_append_right _ (List.mem_append_right _ (List.mem_append_right _ (List.mem_append_left _ h)))))))))))))))))))))))))))))))
theorem inr_21 : ∀ w ∈ wsL_law0_r21, w ∈ wsL_law := fun _ h => (List.mem_append_left _ (List.mem_append_left _ (List.mem_append_left _ (List.mem_append_left _ (List.mem_append_left _ (List.mem_append_left _ (List.mem_append_left _ (List.mem_append_left _ (List.mem_append_left _ (List.mem_append_left _ (List.mem_append_left _ (List.mem_append_right _ (List.mem_append_right _ (List.mem_append_right _ (List.mem_append_right _ (List.mem_append_right _ (List.mem_append_right _ (List.mem_append_right _ (List.mem_append_right _ (List.mem_append_right _ (List.mem_append_right _ (List.mem_append_right _ (List.mem_append_right _ (List.mem_append_right _ (List.mem_append_right _ (List.mem_append_right _ (List.mem_append_right _ (List.mem_append_right _ (List.mem_append_right _ (List.mem_append_right _ (List.mem_append_right _ (List.mem_append_left _ h))))))))))))))))))))))))))))))))
theorem inr_22 : ∀ w ∈ wsL_law0_r22, w ∈ wsL_law := fun _ h => (List.mem_append_left _ (List.mem_append_left _ (List.mem_append_left _ (List.mem_append_left _ (List.mem_append_left _ (List.mem_append_left _ (List.mem_append_left _ (List.mem_append_left _ (List.mem_append_left _ (List.mem_append_left _ (List.mem_append_left _ (List.mem_append_right _ (List.mem_append_right _ (List.mem_append_right _ (List.mem_append_right _ (List.mem_append_right _ (List.mem_append_right _ (List.mem_append_right _ (List.mem_append_right _ (List.mem_append_right _ (List.mem_append_right _ (List.mem_append_right _ (List.mem_append_right _ (List.mem_append_right _ (List.mem_append_right _ (List.mem_append_right _ (List.mem_append_right _ (List.mem_append_right _ (List.mem_append_right _ (List.mem_append_right _ (List.mem_append_right _ (List.mem_append_right _ (List.mem_append_left _ h)))))))))))))))))))))))))))))))))
theorem inr_23 : ∀ w ∈ wsL_law0_r23, w ∈ wsL_law := fun _ h => (List.mem_append_left _ (List.mem_append_left _ (List.mem_append_left _ (List.mem_append_left _ (List.mem_append_left _ (List.mem_append_left _ (List.mem_append_left _ (List.mem_append_left _ (List.mem_append_left _ (List.mem_append_left _ (List.mem_append_left _ (List.mem_append_right _ (List.mem_append_right _ (List.mem_append_right _ (List.mem_append_right _ (List.mem_append_right _ (List.mem_append_right _ (List.mem_append_right _ (List.mem_append_right _ (List.mem_append_right _ (List.mem_append_right _ (List.mem_append_right _ (List.mem_append_right _ (List.mem_append_right _ (List.mem_append_right _ (List.mem_append_right _ (List.mem_append_right _ (List.mem_append_right _ (List.mem_append_right _ (List.mem_append_right _ (List.mem_append_right _ (List.mem_append_right _ (List.mem_append_right _ (List.mem_append_left _ h))))))))))))))))))))))))))))))))))
theorem inr_24 : ∀ w ∈ wsL_law0_r24, w ∈ wsL_law := fun _ h => (List.mem_append_left _ (List.mem_append_left _ (List.mem_append_left _ (List.mem_append_left _ (List.mem_append_left _ (List.mem_append_left _ (List.mem_append_left _ (List.mem_append_left _ (List.mem_append_left _ (List.mem_append_left _ (List.mem_append_left _ (List.mem_append_right _ (List.mem_append_right _ (List.mem_append_right _ (List.mem_append_right _ (List.mem_append_right _ (List.mem_append_right _ (List.mem_append_right _ (List.mem_append_right _ (List.mem_append_right _ (List.mem_append_right _ (List.mem_append_right _ (List.mem_append_right _ (List.mem_append_right _ (List.mem_append_right _ (List.mem_append_right _ (List.mem_append_right _ (List.mem_append_right _ (List.mem_append_right _ (List.mem_append_right _ (List.mem_append_right _ (List.mem_append_right _ (List.mem_append_right _ (List.mem_append_right _ (List.mem_append_left _ h)))))))))))))))))))))))))))))))))))
theorem inr_25 : ∀ w ∈ wsL_law0_r25, w ∈ wsL_law := fun _ h => (List.mem_append_left _ (List.mem_append_left _ (List.mem_append_left _ (List.mem_append_left _ (List.mem_append_left _ (List.mem_append_left _ (List.mem_append_left _ (List.mem_append_left _ (List.mem_append_left _ (List.mem_append_left _ (List.mem_append_left _ (List.mem_append_right _ (List.mem_append_right _ (List.mem_append_right _ (List.mem_append_right _ (List.mem_append_right _ (List.mem_append_right _ (List.mem_append_right _ (List.mem_append_right _ (List.mem_append_right _ (List.mem_append_right _ (List.mem_append_right _ (List.mem_append_right _ (List.mem_append_right _ (List.mem_append_right _ (List.mem_append_right _ (List.mem_append_right _ (List.mem_append_right _ (List.mem_append_right _ (List.mem_append_right _ (List.mem_append_right _ (List.mem_append_right _ (List.mem_append_right _ (List.mem_append_right _ (List.mem_append_right _ (List.mem_append_left _ h))))))))))))))))))))))))))))))))))))
theorem inr_26 : ∀ w ∈ wsL_law0_r26, w ∈ wsL_law := fun _ h => (List.mem_append_left _ (List.mem_append_left _ (List.mem_append_left _ (List.mem_append_left _ (List.mem_append_left _ (List.mem_append_left _ (List.mem_append_left _ (List.mem_append_left _ (List.mem_append_left _ (List.mem_append_left _ (List.mem_append_left _ (List.mem_append_right _ (List.mem_append_right _ (List.mem_append_right _ (List.mem_append_right _ (List.mem_append_right _ (List.mem_append_right _ (List.mem_append_right _ (List.mem_append_right _ (List.mem_append_right _ (List.mem_append_right _ (List.mem_append_right _ (List.mem_append_right _ (List.mem_append_right _ (List.mem_append_right _ (List.mem_append_right _ (List.mem_append_right _ (List.mem_append_right _ (List.mem_append_right _ (List.mem_append_right _ (List.mem_append_right _ (List.mem_append_right _ (List.mem_append_right _ (List.mem_append_right _ (List.mem_append_right _ (List.mem_append_right _ (List.mem_append_left _ h)))))))))))))))))))))))))))))))))))))
theorem inr_27 : ∀ w ∈ wsL_law0_r27, w ∈ wsL_law := fun _ h => (List.mem_append_left _ (List.mem_append_left _ (List.mem_append_left _ (List.mem_append_left _ (List.mem_append_left _ (List.mem_append_left _ (List.mem_append_left _ (List.mem_append_left _ (List.mem_append_left _ (List.mem_append_left _ (List.mem_append_left _ (List.mem_append_right _ (List.mem_append_right _ (List.mem_append_right _ (List.mem_append_right _ (List.mem_append_right _ (List.mem_append_right _ (List.mem_append_right _ (List.mem_append_right _ (List.mem_append_right _ (List.mem_append_right _ (List.mem_append_right _ (List.mem_append_right _ (List.mem_append_right _ (List.mem_append_right _ (List.mem_append_right _ (List.mem_append_right _ (List.mem_append_right _ (List.mem_append_right _ (List.mem_append_right _ (List.mem_append_right _ (List.mem_append_right _ (List.mem_append_right _ (List.mem_append_right _ (List.mem_append_right _ (List.mem_append_right _ (List.mem_append_right _ (List.mem_append_left _ h))))))))))))))))))))))))))))))))))))))
theorem inr_28 : ∀ w ∈ wsL_law0_r28, w ∈ wsL_law := fun _ h => (List.mem_append_left _ (List.mem_append_left _ (List.mem_append_left _ (List.mem_append_left _ (List.mem_append_left _ (List.mem_append_left _ (List.mem_append_left _ (List.mem_append_left _ (List.mem_append_left _ (List.mem_append_left _ (List.mem_append_left _ (List.mem_append_right _ (List.mem_append_right _ (List.mem_append_right _ (List.mem_append_right _ (List.mem_append_right _ (List.mem_append_right _ (List.mem_append_right _ (List.mem_append_right _ (List.mem_append_right _ (List.mem_append_right _ (List.mem_append_right _ (List.mem_append_right _ (List.mem_append_right _ (List.mem_append_right _ (List.mem_append_right _ (List.mem_append_right _ (List.mem_append_right _ (List.mem_append_right _ (List.mem_append_right _ (List.mem_append_right _ (List.mem_append_right _ (List.mem_append_right _ (List.mem_append_right _ (List.mem_append_right _ (List.mem_append_right _ (List.mem_append_right _ (List.mem_append_right _ (List.mem_append_left _ h)))))))))))))))))))))))))))))))))))))))
theorem inr_29 : ∀ w ∈ wsL_law0_r29, w ∈ wsL_law := fun _ h => (List.mem_append_left _ (List.mem_append_left _ (List.mem_append_left _ (List.mem_append_left _ (List.mem_append_left _ (List.mem_append_left _ (List.mem_append_left _ (List.mem_append_left _ (List.mem_append_left _ (List.mem_append_left _ (List.mem_append_left _ (List.mem_append_right _ (List.mem_append_right _ (List.mem_append_right _ (List.mem_append_right _ (List.mem_append_right _ (List.mem_append_right _ (List.mem_append_right _ (List.mem_append_right _ (List.mem_append_right _ (List.mem_append_right _ (List.mem_append_right _ (List.mem_append_right _ (List.mem_append_right _ (List.mem_append_right _ (List.mem_append_right _ (List.mem_append_right _ (List.mem_append_right _ (List.mem_append_right _ (List.mem_append_right _ (List.mem_append_right _ (List.mem_append_right _ (List.mem_append_right _ (List.mem_append_right _ (List.mem_append_right _ (List.mem_append_right _ (List.mem_append_right _ (List.mem_append_right _ (List.mem_append_right _ (List.mem_append_left _ h))))))))))))))))))))))))))))))))))))))))
theorem inr_30 : ∀ w ∈ wsL_law0_r30, w ∈ wsL_law := fun _ h => (List.mem_append_left _ (List.mem_append_left _ (List.mem_append_left _ (List.mem_append_left _ (List.mem_append_left _ (List.mem_append_left _ (List.mem_append_left _ (List.mem_append_left _ (List.mem_append_left _ (List.mem_append_left _ (List.mem_append_left _ (List.mem_append_right _ (List.mem_append_right _ (List.mem_append_right _ (List.mem_append_right _ (List.mem_append_right _ (List.mem_append_right _ (List.mem_append_right _ (List.mem_append_right _ (List.mem_append_right _ (List.mem_append_right _ (List.mem_append_right _ (List.mem_append_right _ (List.mem_append_right _ (List.mem_append_right _ (List.mem_append_right _ (List.mem_append_right _ (List.mem_append_right _ (List.mem_append_right _ (List.mem_append_right _ (List.mem_append_right _ (List.mem_append_right _ (List.mem_append_right _ (List.mem_append_right _ (List.mem_append_right _ (List.mem_append_right _ (List.mem_append_right _ (List.mem_append_right _ (List.mem_append_right _ (List.mem_append_right _ h))))))))))))))))))))))))))))))))))))))))
theorem m_1_0 : Cond.classLink RL 8 RX5 ∈ wsL_law := inr_1 _ (List.mem_of_getElem? (i := 0) rfl)
theorem m_1_1 : Cond.instantiable RX5 9 ∈ wsL_law := inr_1 _ (List.mem_of_getElem? (i := 1) rfl)
theorem m_1_2 : Cond.initialized RX5 ∈ wsL_law := inr_1 _ (List.mem_of_getElem? (i := 2) rfl)
theorem m_1_3 : Cond.classLink RL 74 RX6 ∈ wsL_law := inr_1 _ (List.mem_of_getElem? (i := 3) rfl)
theorem m_1_4 : Cond.instantiable RX6 19 ∈ wsL_law := inr_1 _ (List.mem_of_getElem? (i := 4) rfl)
theorem m_1_5 : Cond.initialized RX6 ∈ wsL_law := inr_1 _ (List.mem_of_getElem? (i := 5) rfl)
theorem m_1_6 : Cond.arrayClass .long ∈ wsL_law := inr_1 _ (List.mem_of_getElem? (i := 6) rfl)
theorem m_1_7 : Cond.methodLink RL 73 yX5_init ∈ wsL_law := inr_1 _ (List.mem_of_getElem? (i := 7) rfl)
theorem m_1_8 : Cond.instanceMethod yX5_init ∈ wsL_law := inr_1 _ (List.mem_of_getElem? (i := 8) rfl)
theorem m_1_9 : Cond.code yX5_init cX5_init 1 none ∈ wsL_law := inr_1 _ (List.mem_of_getElem? (i := 9) rfl)
theorem m_1_10 : Cond.methodLink RX5 3 objectInit ∈ wsL_law := inr_1 _ (List.mem_of_getElem? (i := 10) rfl)
theorem m_1_11 : Cond.instanceMethod objectInit ∈ wsL_law := inr_1 _ (List.mem_of_getElem? (i := 11) rfl)
theorem m_1_12 : Cond.code objectInit ⟨#[0xb1]⟩ 1 none ∈ wsL_law := inr_1 _ (List.mem_of_getElem? (i := 12) rfl)
theorem m_1_13 : Cond.classLink RX5 9 RX4 ∈ wsL_law := inr_1 _ (List.mem_of_getElem? (i := 13) rfl)
theorem m_1_14 : Cond.instantiable RX4 3 ∈ wsL_law := inr_1 _ (List.mem_of_getElem? (i := 14) rfl)
theorem m_1_15 : Cond.initialized RX4 ∈ wsL_law := inr_1 _ (List.mem_of_getElem? (i := 15) rfl)
theorem m_1_16 : Cond.fieldLink RX5 12 "Multidell" "routes" "LMultidell$Routes;" ∈ wsL_law := inr_1 _ (List.mem_of_getElem? (i := 16) rfl)
theorem m_1_17 : Cond.classLink RX5 16 RX2 ∈ wsL_law := inr_1 _ (List.mem_of_getElem? (i := 17) rfl)
theorem m_1_18 : Cond.instantiable RX2 4 ∈ wsL_law := inr_1 _ (List.mem_of_getElem? (i := 18) rfl)
theorem m_1_19 : Cond.initialized RX2 ∈ wsL_law := inr_1 _ (List.mem_of_getElem? (i := 19) rfl)
theorem m_1_20 : Cond.fieldLink RX5 19 "Multidell" "forest" "LMultidell$Forest;" ∈ wsL_law := inr_1 _ (List.mem_of_getElem? (i := 20) rfl)
theorem m_1_21 : Cond.classLink RX5 23 RX3 ∈ wsL_law := inr_1 _ (List.mem_of_getElem? (i := 21) rfl)
theorem m_1_22 : Cond.instantiable RX3 5 ∈ wsL_law := inr_1 _ (List.mem_of_getElem? (i := 22) rfl)
theorem m_1_23 : Cond.initialized RX3 ∈ wsL_law := inr_1 _ (List.mem_of_getElem? (i := 23) rfl)
theorem m_2_0 : Cond.fieldLink RX5 26 "Multidell" "packets" "LMultidell$Packets;" ∈ wsL_law := inr_2 _ (List.mem_of_getElem? (i := 0) rfl)
theorem m_2_1 : Cond.classLink RX5 30 RX0 ∈ wsL_law := inr_2 _ (List.mem_of_getElem? (i := 1) rfl)
theorem m_2_2 : Cond.instantiable RX0 6 ∈ wsL_law := inr_2 _ (List.mem_of_getElem? (i := 2) rfl)
theorem m_2_3 : Cond.initialized RX0 ∈ wsL_law := inr_2 _ (List.mem_of_getElem? (i := 3) rfl)
theorem m_2_4 : Cond.fieldLink RX5 33 "Multidell" "queue" "LMultidell$CopyQueue;" ∈ wsL_law := inr_2 _ (List.mem_of_getElem? (i := 4) rfl)
theorem m_2_5 : Cond.classLink RX5 37 RX1 ∈ wsL_law := inr_2 _ (List.mem_of_getElem? (i := 5) rfl)
theorem m_2_6 : Cond.instantiable RX1 1 ∈ wsL_law := inr_2 _ (List.mem_of_getElem? (i := 6) rfl)
theorem m_2_7 : Cond.initialized RX1 ∈ wsL_law := inr_2 _ (List.mem_of_getElem? (i := 7) rfl)
theorem m_2_8 : Cond.fieldLink RX5 40 "Multidell" "counts" "LMultidell$Counts;" ∈ wsL_law := inr_2 _ (List.mem_of_getElem? (i := 8) rfl)
theorem m_2_9 : Cond.fieldLink RX5 44 "Multidell" "limit" "I" ∈ wsL_law := inr_2 _ (List.mem_of_getElem? (i := 9) rfl)
theorem m_2_10 : Cond.methodLink RX5 11 yX4_init ∈ wsL_law := inr_2 _ (List.mem_of_getElem? (i := 10) rfl)
theorem m_2_11 : Cond.instanceMethod yX4_init ∈ wsL_law := inr_2 _ (List.mem_of_getElem? (i := 11) rfl)
theorem m_2_12 : Cond.code yX4_init cX4_init 1 none ∈ wsL_law := inr_2 _ (List.mem_of_getElem? (i := 12) rfl)
theorem m_2_13 : Cond.methodLink RX4 3 objectInit ∈ wsL_law := inr_2 _ (List.mem_of_getElem? (i := 13) rfl)
theorem m_2_14 : Cond.arrayClass .int ∈ wsL_law := inr_2 _ (List.mem_of_getElem? (i := 14) rfl)
theorem m_2_15 : Cond.fieldLink RX4 9 "Multidell$Routes" "cost" "[I" ∈ wsL_law := inr_2 _ (List.mem_of_getElem? (i := 15) rfl)
theorem m_2_16 : Cond.fieldLink RX4 15 "Multidell$Routes" "least" "[I" ∈ wsL_law := inr_2 _ (List.mem_of_getElem? (i := 16) rfl)
theorem m_2_17 : Cond.fieldLink RX4 18 "Multidell$Routes" "hop" "[I" ∈ wsL_law := inr_2 _ (List.mem_of_getElem? (i := 17) rfl)
theorem m_2_18 : Cond.methodLink RX4 21 yX4_findLeast ∈ wsL_law := inr_2 _ (List.mem_of_getElem? (i := 18) rfl)
theorem m_2_19 : Cond.instanceMethod yX4_findLeast ∈ wsL_law := inr_2 _ (List.mem_of_getElem? (i := 19) rfl)
theorem m_2_20 : Cond.selects RX4 yX4_findLeast yX4_findLeast ∈ wsL_law := inr_2 _ (List.mem_of_getElem? (i := 20) rfl)
theorem m_2_21 : Cond.code yX4_findLeast cX4_findLeast 4 none ∈ wsL_law := inr_2 _ (List.mem_of_getElem? (i := 21) rfl)
theorem m_2_22 : Cond.constant RX4 31 (1000000) ∈ wsL_law := inr_2 _ (List.mem_of_getElem? (i := 22) rfl)
theorem m_2_23 : Cond.methodLink RX4 36 yX4_shortenThrough ∈ wsL_law := inr_2 _ (List.mem_of_getElem? (i := 23) rfl)
theorem m_3_0 : Cond.instanceMethod yX4_shortenThrough ∈ wsL_law := inr_3 _ (List.mem_of_getElem? (i := 0) rfl)
theorem m_3_1 : Cond.selects RX4 yX4_shortenThrough yX4_shortenThrough ∈ wsL_law := inr_3 _ (List.mem_of_getElem? (i := 1) rfl)
theorem m_3_2 : Cond.code yX4_shortenThrough cX4_shortenThrough 5 none ∈ wsL_law := inr_3 _ (List.mem_of_getElem? (i := 2) rfl)
theorem m_3_3 : Cond.methodLink RX4 24 yX4_findHops ∈ wsL_law := inr_3 _ (List.mem_of_getElem? (i := 3) rfl)
theorem m_3_4 : Cond.instanceMethod yX4_findHops ∈ wsL_law := inr_3 _ (List.mem_of_getElem? (i := 4) rfl)
theorem m_3_5 : Cond.selects RX4 yX4_findHops yX4_findHops ∈ wsL_law := inr_3 _ (List.mem_of_getElem? (i := 5) rfl)
theorem m_3_6 : Cond.code yX4_findHops cX4_findHops 3 none ∈ wsL_law := inr_3 _ (List.mem_of_getElem? (i := 6) rfl)
theorem m_3_7 : Cond.methodLink RX4 40 yX4_firstHop ∈ wsL_law := inr_3 _ (List.mem_of_getElem? (i := 7) rfl)
theorem m_3_8 : Cond.instanceMethod yX4_firstHop ∈ wsL_law := inr_3 _ (List.mem_of_getElem? (i := 8) rfl)
theorem m_3_9 : Cond.selects RX4 yX4_firstHop yX4_firstHop ∈ wsL_law := inr_3 _ (List.mem_of_getElem? (i := 9) rfl)
theorem m_3_10 : Cond.code yX4_firstHop cX4_firstHop 6 (some .int) ∈ wsL_law := inr_3 _ (List.mem_of_getElem? (i := 10) rfl)
theorem m_3_11 : Cond.methodLink RX4 43 yX4_distanceOf ∈ wsL_law := inr_3 _ (List.mem_of_getElem? (i := 11) rfl)
theorem m_3_12 : Cond.instanceMethod yX4_distanceOf ∈ wsL_law := inr_3 _ (List.mem_of_getElem? (i := 12) rfl)
theorem m_3_13 : Cond.selects RX4 yX4_distanceOf yX4_distanceOf ∈ wsL_law := inr_3 _ (List.mem_of_getElem? (i := 13) rfl)
theorem m_3_14 : Cond.code yX4_distanceOf cX4_distanceOf 4 (some .int) ∈ wsL_law := inr_3 _ (List.mem_of_getElem? (i := 14) rfl)
theorem m_3_15 : Cond.methodLink RX4 27 yX4_arePair ∈ wsL_law := inr_3 _ (List.mem_of_getElem? (i := 15) rfl)
theorem m_3_16 : Cond.static yX4_arePair ∈ wsL_law := inr_3 _ (List.mem_of_getElem? (i := 16) rfl)
theorem m_3_17 : Cond.code yX4_arePair cX4_arePair 2 (some .boolean) ∈ wsL_law := inr_3 _ (List.mem_of_getElem? (i := 17) rfl)
theorem m_3_18 : Cond.methodLink RX4 32 yX4_costOf ∈ wsL_law := inr_3 _ (List.mem_of_getElem? (i := 18) rfl)
theorem m_3_19 : Cond.instanceMethod yX4_costOf ∈ wsL_law := inr_3 _ (List.mem_of_getElem? (i := 19) rfl)
theorem m_3_20 : Cond.selects RX4 yX4_costOf yX4_costOf ∈ wsL_law := inr_3 _ (List.mem_of_getElem? (i := 20) rfl)
theorem m_3_21 : Cond.code yX4_costOf cX4_costOf 3 (some .int) ∈ wsL_law := inr_3 _ (List.mem_of_getElem? (i := 21) rfl)
theorem m_3_22 : Cond.methodLink RX5 18 yX2_init ∈ wsL_law := inr_3 _ (List.mem_of_getElem? (i := 22) rfl)
theorem m_3_23 : Cond.instanceMethod yX2_init ∈ wsL_law := inr_3 _ (List.mem_of_getElem? (i := 23) rfl)
theorem m_4_0 : Cond.code yX2_init cX2_init 3 none ∈ wsL_law := inr_4 _ (List.mem_of_getElem? (i := 0) rfl)
theorem m_4_1 : Cond.methodLink RX2 3 objectInit ∈ wsL_law := inr_4 _ (List.mem_of_getElem? (i := 1) rfl)
theorem m_4_2 : Cond.fieldLink RX2 9 "Multidell$Forest" "root" "[I" ∈ wsL_law := inr_4 _ (List.mem_of_getElem? (i := 2) rfl)
theorem m_4_3 : Cond.fieldLink RX2 15 "Multidell$Forest" "wanting" "[I" ∈ wsL_law := inr_4 _ (List.mem_of_getElem? (i := 3) rfl)
theorem m_4_4 : Cond.fieldLink RX2 18 "Multidell$Forest" "comesFrom" "[I" ∈ wsL_law := inr_4 _ (List.mem_of_getElem? (i := 4) rfl)
theorem m_4_5 : Cond.fieldLink RX2 21 "Multidell$Forest" "goesAt" "[I" ∈ wsL_law := inr_4 _ (List.mem_of_getElem? (i := 5) rfl)
theorem m_4_6 : Cond.methodLink RX2 24 yJ7_fill_53178 ∈ wsL_law := inr_4 _ (List.mem_of_getElem? (i := 6) rfl)
theorem m_4_7 : Cond.static yJ7_fill_53178 ∈ wsL_law := inr_4 _ (List.mem_of_getElem? (i := 7) rfl)
theorem m_4_8 : Cond.initialized RJ7 ∈ wsL_law := inr_4 _ (List.mem_of_getElem? (i := 8) rfl)
theorem m_4_9 : Cond.code yJ7_fill_53178 cJ7_fill_53178 4 none ∈ wsL_law := inr_4 _ (List.mem_of_getElem? (i := 9) rfl)
theorem m_4_10 : Cond.static yX5_sourceTree ∈ wsL_law := inr_4 _ (List.mem_of_getElem? (i := 10) rfl)
theorem m_4_11 : Cond.code yX5_sourceTree cX5_sourceTree 2 (some .int) ∈ wsL_law := inr_4 _ (List.mem_of_getElem? (i := 11) rfl)
theorem m_4_12 : Cond.methodLink RX5 252 yX5_isRouter ∈ wsL_law := inr_4 _ (List.mem_of_getElem? (i := 12) rfl)
theorem m_4_13 : Cond.static yX5_isRouter ∈ wsL_law := inr_4 _ (List.mem_of_getElem? (i := 13) rfl)
theorem m_4_14 : Cond.code yX5_isRouter cX5_isRouter 1 (some .boolean) ∈ wsL_law := inr_4 _ (List.mem_of_getElem? (i := 14) rfl)
theorem m_4_15 : Cond.methodLink RX5 257 yX5_isGroup ∈ wsL_law := inr_4 _ (List.mem_of_getElem? (i := 15) rfl)
theorem m_4_16 : Cond.static yX5_isGroup ∈ wsL_law := inr_4 _ (List.mem_of_getElem? (i := 16) rfl)
theorem m_4_17 : Cond.code yX5_isGroup cX5_isGroup 1 (some .boolean) ∈ wsL_law := inr_4 _ (List.mem_of_getElem? (i := 17) rfl)
theorem m_4_18 : Cond.methodLink RX2 34 yX2_setRoot ∈ wsL_law := inr_4 _ (List.mem_of_getElem? (i := 18) rfl)
theorem m_4_19 : Cond.instanceMethod yX2_setRoot ∈ wsL_law := inr_4 _ (List.mem_of_getElem? (i := 19) rfl)
theorem m_4_20 : Cond.selects RX2 yX2_setRoot yX2_setRoot ∈ wsL_law := inr_4 _ (List.mem_of_getElem? (i := 20) rfl)
theorem m_4_21 : Cond.code yX2_setRoot cX2_setRoot 3 none ∈ wsL_law := inr_4 _ (List.mem_of_getElem? (i := 21) rfl)
theorem m_4_22 : Cond.static yX5_isTree ∈ wsL_law := inr_4 _ (List.mem_of_getElem? (i := 22) rfl)
theorem m_4_23 : Cond.code yX5_isTree cX5_isTree 1 (some .boolean) ∈ wsL_law := inr_4 _ (List.mem_of_getElem? (i := 23) rfl)
theorem m_5_0 : Cond.instanceMethod yX3_init ∈ wsL_law := inr_5 _ (List.mem_of_getElem? (i := 0) rfl)
theorem m_5_1 : Cond.code yX3_init cX3_init 1 none ∈ wsL_law := inr_5 _ (List.mem_of_getElem? (i := 1) rfl)
theorem m_5_2 : Cond.methodLink RX3 3 objectInit ∈ wsL_law := inr_5 _ (List.mem_of_getElem? (i := 2) rfl)
theorem m_5_3 : Cond.fieldLink RX3 9 "Multidell$Packets" "source" "[I" ∈ wsL_law := inr_5 _ (List.mem_of_getElem? (i := 3) rfl)
theorem m_5_4 : Cond.fieldLink RX3 15 "Multidell$Packets" "group" "[I" ∈ wsL_law := inr_5 _ (List.mem_of_getElem? (i := 4) rfl)
theorem m_5_5 : Cond.fieldLink RX3 18 "Multidell$Packets" "receivers" "[I" ∈ wsL_law := inr_5 _ (List.mem_of_getElem? (i := 5) rfl)
theorem m_5_6 : Cond.fieldLink RX3 21 "Multidell$Packets" "doubleCount" "[I" ∈ wsL_law := inr_5 _ (List.mem_of_getElem? (i := 6) rfl)
theorem m_5_7 : Cond.instanceMethod yX0_init ∈ wsL_law := inr_5 _ (List.mem_of_getElem? (i := 7) rfl)
theorem m_5_8 : Cond.code yX0_init cX0_init 1 none ∈ wsL_law := inr_5 _ (List.mem_of_getElem? (i := 8) rfl)
theorem m_5_9 : Cond.methodLink RX0 3 objectInit ∈ wsL_law := inr_5 _ (List.mem_of_getElem? (i := 9) rfl)
theorem m_5_10 : Cond.fieldLink RX0 9 "Multidell$CopyQueue" "packet" "[I" ∈ wsL_law := inr_5 _ (List.mem_of_getElem? (i := 10) rfl)
theorem m_5_11 : Cond.fieldLink RX0 15 "Multidell$CopyQueue" "tree" "[I" ∈ wsL_law := inr_5 _ (List.mem_of_getElem? (i := 11) rfl)
theorem m_5_12 : Cond.fieldLink RX0 18 "Multidell$CopyQueue" "from" "[I" ∈ wsL_law := inr_5 _ (List.mem_of_getElem? (i := 12) rfl)
theorem m_5_13 : Cond.fieldLink RX0 21 "Multidell$CopyQueue" "to" "[I" ∈ wsL_law := inr_5 _ (List.mem_of_getElem? (i := 13) rfl)
theorem m_5_14 : Cond.instanceMethod yX1_init ∈ wsL_law := inr_5 _ (List.mem_of_getElem? (i := 14) rfl)
theorem m_5_15 : Cond.code yX1_init cX1_init 1 none ∈ wsL_law := inr_5 _ (List.mem_of_getElem? (i := 15) rfl)
theorem m_5_16 : Cond.methodLink RX1 3 objectInit ∈ wsL_law := inr_5 _ (List.mem_of_getElem? (i := 16) rfl)
theorem m_5_17 : Cond.fieldLink RX1 9 "Multidell$Counts" "count" "[I" ∈ wsL_law := inr_5 _ (List.mem_of_getElem? (i := 17) rfl)
theorem m_5_18 : Cond.methodLink RL 76 yX6_init ∈ wsL_law := inr_5 _ (List.mem_of_getElem? (i := 18) rfl)
theorem m_5_19 : Cond.instanceMethod yX6_init ∈ wsL_law := inr_5 _ (List.mem_of_getElem? (i := 19) rfl)
theorem m_5_20 : Cond.code yX6_init cX6_init 2 none ∈ wsL_law := inr_5 _ (List.mem_of_getElem? (i := 20) rfl)
theorem m_5_21 : Cond.methodLink RX6 1 objectInit ∈ wsL_law := inr_5 _ (List.mem_of_getElem? (i := 21) rfl)
theorem m_5_22 : Cond.fieldLink RX6 7 "MultidellModel" "limit" "I" ∈ wsL_law := inr_5 _ (List.mem_of_getElem? (i := 22) rfl)
theorem m_5_23 : Cond.fieldLink RX6 13 "MultidellModel" "cost" "[I" ∈ wsL_law := inr_5 _ (List.mem_of_getElem? (i := 23) rfl)
theorem m_6_0 : Cond.fieldLink RX6 17 "MultidellModel" "far" "[I" ∈ wsL_law := inr_6 _ (List.mem_of_getElem? (i := 0) rfl)
theorem m_6_1 : Cond.arrayClass .boolean ∈ wsL_law := inr_6 _ (List.mem_of_getElem? (i := 1) rfl)
theorem m_6_2 : Cond.fieldLink RX6 20 "MultidellModel" "isCandidate" "[Z" ∈ wsL_law := inr_6 _ (List.mem_of_getElem? (i := 2) rfl)
theorem m_6_3 : Cond.fieldLink RX6 24 "MultidellModel" "members" "[I" ∈ wsL_law := inr_6 _ (List.mem_of_getElem? (i := 3) rfl)
theorem m_6_4 : Cond.fieldLink RX6 27 "MultidellModel" "switched" "[I" ∈ wsL_law := inr_6 _ (List.mem_of_getElem? (i := 4) rfl)
theorem m_6_5 : Cond.fieldLink RX6 30 "MultidellModel" "count" "[I" ∈ wsL_law := inr_6 _ (List.mem_of_getElem? (i := 5) rfl)
theorem m_6_6 : Cond.fieldLink RX6 33 "MultidellModel" "above" "[I" ∈ wsL_law := inr_6 _ (List.mem_of_getElem? (i := 6) rfl)
theorem m_6_7 : Cond.fieldLink RX6 36 "MultidellModel" "goes" "[I" ∈ wsL_law := inr_6 _ (List.mem_of_getElem? (i := 7) rfl)
theorem m_6_8 : Cond.fieldLink RX6 39 "MultidellModel" "copy" "[I" ∈ wsL_law := inr_6 _ (List.mem_of_getElem? (i := 8) rfl)
theorem m_6_9 : Cond.fieldLink RX6 42 "MultidellModel" "source" "[I" ∈ wsL_law := inr_6 _ (List.mem_of_getElem? (i := 9) rfl)
theorem m_6_10 : Cond.fieldLink RX6 45 "MultidellModel" "group" "[I" ∈ wsL_law := inr_6 _ (List.mem_of_getElem? (i := 10) rfl)
theorem m_6_11 : Cond.fieldLink RX6 48 "MultidellModel" "received" "[I" ∈ wsL_law := inr_6 _ (List.mem_of_getElem? (i := 11) rfl)
theorem m_6_12 : Cond.fieldLink RX6 51 "MultidellModel" "doubles" "[I" ∈ wsL_law := inr_6 _ (List.mem_of_getElem? (i := 12) rfl)
theorem m_6_13 : Cond.methodLink RX6 54 yX6_measures ∈ wsL_law := inr_6 _ (List.mem_of_getElem? (i := 13) rfl)
theorem m_6_14 : Cond.instanceMethod yX6_measures ∈ wsL_law := inr_6 _ (List.mem_of_getElem? (i := 14) rfl)
theorem m_6_15 : Cond.selects RX6 yX6_measures yX6_measures ∈ wsL_law := inr_6 _ (List.mem_of_getElem? (i := 15) rfl)
theorem m_6_16 : Cond.code yX6_measures cX6_measures 4 none ∈ wsL_law := inr_6 _ (List.mem_of_getElem? (i := 16) rfl)
theorem m_6_17 : Cond.constant RX6 60 (1000000) ∈ wsL_law := inr_6 _ (List.mem_of_getElem? (i := 17) rfl)
theorem m_6_18 : Cond.methodLink RL 77 yL_setLink ∈ wsL_law := inr_6 _ (List.mem_of_getElem? (i := 18) rfl)
theorem m_6_19 : Cond.static yL_setLink ∈ wsL_law := inr_6 _ (List.mem_of_getElem? (i := 19) rfl)
theorem m_6_20 : Cond.initialized RL ∈ wsL_law := inr_6 _ (List.mem_of_getElem? (i := 20) rfl)
theorem m_6_21 : Cond.codeWith yL_setLink cL_setLink 6 (some .int) [(0, 12, 15, 13), (0, 12, 19, 15)] ∈ wsL_law := inr_6 _ (List.mem_of_getElem? (i := 21) rfl)
theorem m_6_22 : Cond.classLink RL 13 "java/lang/IndexOutOfBoundsException" ∈ wsL_law := inr_6 _ (List.mem_of_getElem? (i := 22) rfl)
theorem m_6_23 : Cond.classLink RL 15 "java/lang/IllegalArgumentException" ∈ wsL_law := inr_6 _ (List.mem_of_getElem? (i := 23) rfl)
theorem m_7_0 : Cond.methodLink RL 7 yX5_setLink ∈ wsL_law := inr_7 _ (List.mem_of_getElem? (i := 0) rfl)
theorem m_7_1 : Cond.instanceMethod yX5_setLink ∈ wsL_law := inr_7 _ (List.mem_of_getElem? (i := 1) rfl)
theorem m_7_2 : Cond.selects RX5 yX5_setLink yX5_setLink ∈ wsL_law := inr_7 _ (List.mem_of_getElem? (i := 2) rfl)
theorem m_7_3 : Cond.code yX5_setLink cX5_setLink 5 (some .int) ∈ wsL_law := inr_7 _ (List.mem_of_getElem? (i := 3) rfl)
theorem m_7_4 : Cond.classLink RX5 52 "java/lang/IllegalArgumentException" ∈ wsL_law := inr_7 _ (List.mem_of_getElem? (i := 4) rfl)
theorem m_7_5 : Cond.initialized "java/lang/IllegalArgumentException" ∈ wsL_law := inr_7 _ (List.mem_of_getElem? (i := 5) rfl)
theorem m_7_6 : Cond.methodLink RX5 48 yX5_checkRouter ∈ wsL_law := inr_7 _ (List.mem_of_getElem? (i := 6) rfl)
theorem m_7_7 : Cond.static yX5_checkRouter ∈ wsL_law := inr_7 _ (List.mem_of_getElem? (i := 7) rfl)
theorem m_7_8 : Cond.code yX5_checkRouter cX5_checkRouter 1 none ∈ wsL_law := inr_7 _ (List.mem_of_getElem? (i := 8) rfl)
theorem m_7_9 : Cond.classLink RX5 247 "java/lang/IndexOutOfBoundsException" ∈ wsL_law := inr_7 _ (List.mem_of_getElem? (i := 9) rfl)
theorem m_7_10 : Cond.initialized "java/lang/IndexOutOfBoundsException" ∈ wsL_law := inr_7 _ (List.mem_of_getElem? (i := 10) rfl)
theorem m_7_11 : Cond.methodLink RX5 59 yX4_costOf ∈ wsL_law := inr_7 _ (List.mem_of_getElem? (i := 11) rfl)
theorem m_7_12 : Cond.methodLink RX5 63 yX4_change ∈ wsL_law := inr_7 _ (List.mem_of_getElem? (i := 12) rfl)
theorem m_7_13 : Cond.instanceMethod yX4_change ∈ wsL_law := inr_7 _ (List.mem_of_getElem? (i := 13) rfl)
theorem m_7_14 : Cond.selects RX4 yX4_change yX4_change ∈ wsL_law := inr_7 _ (List.mem_of_getElem? (i := 14) rfl)
theorem m_7_15 : Cond.code yX4_change cX4_change 4 none ∈ wsL_law := inr_7 _ (List.mem_of_getElem? (i := 15) rfl)
theorem m_7_16 : Cond.methodLink RX5 67 yX2_buildAnew ∈ wsL_law := inr_7 _ (List.mem_of_getElem? (i := 16) rfl)
theorem m_7_17 : Cond.instanceMethod yX2_buildAnew ∈ wsL_law := inr_7 _ (List.mem_of_getElem? (i := 17) rfl)
theorem m_7_18 : Cond.selects RX2 yX2_buildAnew yX2_buildAnew ∈ wsL_law := inr_7 _ (List.mem_of_getElem? (i := 18) rfl)
theorem m_7_19 : Cond.code yX2_buildAnew cX2_buildAnew 4 none ∈ wsL_law := inr_7 _ (List.mem_of_getElem? (i := 19) rfl)
theorem m_7_20 : Cond.static yX5_has ∈ wsL_law := inr_7 _ (List.mem_of_getElem? (i := 20) rfl)
theorem m_7_21 : Cond.code yX5_has cX5_has 2 (some .boolean) ∈ wsL_law := inr_7 _ (List.mem_of_getElem? (i := 21) rfl)
theorem m_7_22 : Cond.methodLink RX5 78 yX5_bit ∈ wsL_law := inr_7 _ (List.mem_of_getElem? (i := 22) rfl)
theorem m_7_23 : Cond.static yX5_bit ∈ wsL_law := inr_7 _ (List.mem_of_getElem? (i := 23) rfl)
theorem m_8_0 : Cond.code yX5_bit cX5_bit 1 (some .int) ∈ wsL_law := inr_8 _ (List.mem_of_getElem? (i := 0) rfl)
theorem m_8_1 : Cond.methodLink RX2 49 yX2_graft ∈ wsL_law := inr_8 _ (List.mem_of_getElem? (i := 1) rfl)
theorem m_8_2 : Cond.instanceMethod yX2_graft ∈ wsL_law := inr_8 _ (List.mem_of_getElem? (i := 2) rfl)
theorem m_8_3 : Cond.selects RX2 yX2_graft yX2_graft ∈ wsL_law := inr_8 _ (List.mem_of_getElem? (i := 3) rfl)
theorem m_8_4 : Cond.code yX2_graft cX2_graft 8 none ∈ wsL_law := inr_8 _ (List.mem_of_getElem? (i := 4) rfl)
theorem m_8_5 : Cond.methodLink RX2 71 yX2_rootOf ∈ wsL_law := inr_8 _ (List.mem_of_getElem? (i := 5) rfl)
theorem m_8_6 : Cond.instanceMethod yX2_rootOf ∈ wsL_law := inr_8 _ (List.mem_of_getElem? (i := 6) rfl)
theorem m_8_7 : Cond.selects RX2 yX2_rootOf yX2_rootOf ∈ wsL_law := inr_8 _ (List.mem_of_getElem? (i := 7) rfl)
theorem m_8_8 : Cond.code yX2_rootOf cX2_rootOf 2 (some .int) ∈ wsL_law := inr_8 _ (List.mem_of_getElem? (i := 8) rfl)
theorem m_8_9 : Cond.methodLink RX2 68 yX2_parentOf ∈ wsL_law := inr_8 _ (List.mem_of_getElem? (i := 9) rfl)
theorem m_8_10 : Cond.instanceMethod yX2_parentOf ∈ wsL_law := inr_8 _ (List.mem_of_getElem? (i := 10) rfl)
theorem m_8_11 : Cond.selects RX2 yX2_parentOf yX2_parentOf ∈ wsL_law := inr_8 _ (List.mem_of_getElem? (i := 11) rfl)
theorem m_8_12 : Cond.code yX2_parentOf cX2_parentOf 3 (some .int) ∈ wsL_law := inr_8 _ (List.mem_of_getElem? (i := 12) rfl)
theorem m_8_13 : Cond.methodLink RX2 74 yX4_hopOf ∈ wsL_law := inr_8 _ (List.mem_of_getElem? (i := 13) rfl)
theorem m_8_14 : Cond.instanceMethod yX4_hopOf ∈ wsL_law := inr_8 _ (List.mem_of_getElem? (i := 14) rfl)
theorem m_8_15 : Cond.selects RX4 yX4_hopOf yX4_hopOf ∈ wsL_law := inr_8 _ (List.mem_of_getElem? (i := 15) rfl)
theorem m_8_16 : Cond.code yX4_hopOf cX4_hopOf 3 (some .int) ∈ wsL_law := inr_8 _ (List.mem_of_getElem? (i := 16) rfl)
theorem m_8_17 : Cond.methodLink RL 82 yX6_setLink ∈ wsL_law := inr_8 _ (List.mem_of_getElem? (i := 17) rfl)
theorem m_8_18 : Cond.instanceMethod yX6_setLink ∈ wsL_law := inr_8 _ (List.mem_of_getElem? (i := 18) rfl)
theorem m_8_19 : Cond.selects RX6 yX6_setLink yX6_setLink ∈ wsL_law := inr_8 _ (List.mem_of_getElem? (i := 19) rfl)
theorem m_8_20 : Cond.code yX6_setLink cX6_setLink 5 (some .int) ∈ wsL_law := inr_8 _ (List.mem_of_getElem? (i := 20) rfl)
theorem m_8_21 : Cond.methodLink RX6 86 yX6_isRouter ∈ wsL_law := inr_8 _ (List.mem_of_getElem? (i := 21) rfl)
theorem m_8_22 : Cond.static yX6_isRouter ∈ wsL_law := inr_8 _ (List.mem_of_getElem? (i := 22) rfl)
theorem m_8_23 : Cond.code yX6_isRouter cX6_isRouter 1 (some .boolean) ∈ wsL_law := inr_8 _ (List.mem_of_getElem? (i := 23) rfl)
theorem m_9_0 : Cond.methodLink RX6 90 yX6_can ∈ wsL_law := inr_9 _ (List.mem_of_getElem? (i := 0) rfl)
theorem m_9_1 : Cond.instanceMethod yX6_can ∈ wsL_law := inr_9 _ (List.mem_of_getElem? (i := 1) rfl)
theorem m_9_2 : Cond.selects RX6 yX6_can yX6_can ∈ wsL_law := inr_9 _ (List.mem_of_getElem? (i := 2) rfl)
theorem m_9_3 : Cond.code yX6_can cX6_can 2 (some .boolean) ∈ wsL_law := inr_9 _ (List.mem_of_getElem? (i := 3) rfl)
theorem m_9_4 : Cond.fieldLink RX6 57 "MultidellModel" "thrown" "I" ∈ wsL_law := inr_9 _ (List.mem_of_getElem? (i := 4) rfl)
theorem m_9_5 : Cond.methodLink RX6 93 yX6_buildsAnew ∈ wsL_law := inr_9 _ (List.mem_of_getElem? (i := 5) rfl)
theorem m_9_6 : Cond.instanceMethod yX6_buildsAnew ∈ wsL_law := inr_9 _ (List.mem_of_getElem? (i := 6) rfl)
theorem m_9_7 : Cond.selects RX6 yX6_buildsAnew yX6_buildsAnew ∈ wsL_law := inr_9 _ (List.mem_of_getElem? (i := 7) rfl)
theorem m_9_8 : Cond.code yX6_buildsAnew cX6_buildsAnew 3 none ∈ wsL_law := inr_9 _ (List.mem_of_getElem? (i := 8) rfl)
theorem m_9_9 : Cond.methodLink RX6 72 yX6_wants ∈ wsL_law := inr_9 _ (List.mem_of_getElem? (i := 9) rfl)
theorem m_9_10 : Cond.instanceMethod yX6_wants ∈ wsL_law := inr_9 _ (List.mem_of_getElem? (i := 10) rfl)
theorem m_9_11 : Cond.selects RX6 yX6_wants yX6_wants ∈ wsL_law := inr_9 _ (List.mem_of_getElem? (i := 11) rfl)
theorem m_9_12 : Cond.code yX6_wants cX6_wants 4 (some .boolean) ∈ wsL_law := inr_9 _ (List.mem_of_getElem? (i := 12) rfl)
theorem m_9_13 : Cond.methodLink RX6 82 yX6_graft ∈ wsL_law := inr_9 _ (List.mem_of_getElem? (i := 13) rfl)
theorem m_9_14 : Cond.instanceMethod yX6_graft ∈ wsL_law := inr_9 _ (List.mem_of_getElem? (i := 14) rfl)
theorem m_9_15 : Cond.selects RX6 yX6_graft yX6_graft ∈ wsL_law := inr_9 _ (List.mem_of_getElem? (i := 15) rfl)
theorem m_9_16 : Cond.code yX6_graft cX6_graft 7 none ∈ wsL_law := inr_9 _ (List.mem_of_getElem? (i := 16) rfl)
theorem m_9_17 : Cond.methodLink RX6 65 yX6_root ∈ wsL_law := inr_9 _ (List.mem_of_getElem? (i := 17) rfl)
theorem m_9_18 : Cond.instanceMethod yX6_root ∈ wsL_law := inr_9 _ (List.mem_of_getElem? (i := 18) rfl)
theorem m_9_19 : Cond.selects RX6 yX6_root yX6_root ∈ wsL_law := inr_9 _ (List.mem_of_getElem? (i := 19) rfl)
theorem m_9_20 : Cond.code yX6_root cX6_root 2 (some .int) ∈ wsL_law := inr_9 _ (List.mem_of_getElem? (i := 20) rfl)
theorem m_9_21 : Cond.methodLink RX6 61 yX6_meets ∈ wsL_law := inr_9 _ (List.mem_of_getElem? (i := 21) rfl)
theorem m_9_22 : Cond.instanceMethod yX6_meets ∈ wsL_law := inr_9 _ (List.mem_of_getElem? (i := 22) rfl)
theorem m_9_23 : Cond.selects RX6 yX6_meets yX6_meets ∈ wsL_law := inr_9 _ (List.mem_of_getElem? (i := 23) rfl)
theorem m_10_0 : Cond.code yX6_meets cX6_meets 7 (some .int) ∈ wsL_law := inr_10 _ (List.mem_of_getElem? (i := 0) rfl)
theorem m_10_1 : Cond.methodLink RX6 68 yX6_hop ∈ wsL_law := inr_10 _ (List.mem_of_getElem? (i := 1) rfl)
theorem m_10_2 : Cond.instanceMethod yX6_hop ∈ wsL_law := inr_10 _ (List.mem_of_getElem? (i := 2) rfl)
theorem m_10_3 : Cond.selects RX6 yX6_hop yX6_hop ∈ wsL_law := inr_10 _ (List.mem_of_getElem? (i := 3) rfl)
theorem m_10_4 : Cond.code yX6_hop cX6_hop 7 (some .int) ∈ wsL_law := inr_10 _ (List.mem_of_getElem? (i := 4) rfl)
theorem m_10_5 : Cond.methodLink RL 83 yX6_thrown ∈ wsL_law := inr_10 _ (List.mem_of_getElem? (i := 5) rfl)
theorem m_10_6 : Cond.instanceMethod yX6_thrown ∈ wsL_law := inr_10 _ (List.mem_of_getElem? (i := 6) rfl)
theorem m_10_7 : Cond.selects RX6 yX6_thrown yX6_thrown ∈ wsL_law := inr_10 _ (List.mem_of_getElem? (i := 7) rfl)
theorem m_10_8 : Cond.code yX6_thrown cX6_thrown 1 (some .int) ∈ wsL_law := inr_10 _ (List.mem_of_getElem? (i := 8) rfl)
theorem m_10_9 : Cond.methodLink RL 87 yL_setCandidate ∈ wsL_law := inr_10 _ (List.mem_of_getElem? (i := 9) rfl)
theorem m_10_10 : Cond.static yL_setCandidate ∈ wsL_law := inr_10 _ (List.mem_of_getElem? (i := 10) rfl)
theorem m_10_11 : Cond.codeWith yL_setCandidate cL_setCandidate 5 (some .int) [(0, 17, 20, 13)] ∈ wsL_law := inr_10 _ (List.mem_of_getElem? (i := 11) rfl)
theorem m_10_12 : Cond.methodLink RL 17 yX5_setCandidate ∈ wsL_law := inr_10 _ (List.mem_of_getElem? (i := 12) rfl)
theorem m_10_13 : Cond.instanceMethod yX5_setCandidate ∈ wsL_law := inr_10 _ (List.mem_of_getElem? (i := 13) rfl)
theorem m_10_14 : Cond.selects RX5 yX5_setCandidate yX5_setCandidate ∈ wsL_law := inr_10 _ (List.mem_of_getElem? (i := 14) rfl)
theorem m_10_15 : Cond.code yX5_setCandidate cX5_setCandidate 4 (some .boolean) ∈ wsL_law := inr_10 _ (List.mem_of_getElem? (i := 15) rfl)
theorem m_10_16 : Cond.fieldLink RX5 71 "Multidell" "candidates" "I" ∈ wsL_law := inr_10 _ (List.mem_of_getElem? (i := 16) rfl)
theorem m_10_17 : Cond.methodLink RX5 74 yX5_has ∈ wsL_law := inr_10 _ (List.mem_of_getElem? (i := 17) rfl)
theorem m_10_18 : Cond.methodLink RX5 82 yX5_sharedTree ∈ wsL_law := inr_10 _ (List.mem_of_getElem? (i := 18) rfl)
theorem m_10_19 : Cond.static yX5_sharedTree ∈ wsL_law := inr_10 _ (List.mem_of_getElem? (i := 19) rfl)
theorem m_10_20 : Cond.code yX5_sharedTree cX5_sharedTree 1 (some .int) ∈ wsL_law := inr_10 _ (List.mem_of_getElem? (i := 20) rfl)
theorem m_10_21 : Cond.methodLink RX5 85 yX5_bestCandidate ∈ wsL_law := inr_10 _ (List.mem_of_getElem? (i := 21) rfl)
theorem m_10_22 : Cond.instanceMethod yX5_bestCandidate ∈ wsL_law := inr_10 _ (List.mem_of_getElem? (i := 22) rfl)
theorem m_10_23 : Cond.selects RX5 yX5_bestCandidate yX5_bestCandidate ∈ wsL_law := inr_10 _ (List.mem_of_getElem? (i := 23) rfl)
theorem m_11_0 : Cond.code yX5_bestCandidate cX5_bestCandidate 6 (some .int) ∈ wsL_law := inr_11 _ (List.mem_of_getElem? (i := 0) rfl)
theorem m_11_1 : Cond.methodLink RX5 88 yX2_setRoot ∈ wsL_law := inr_11 _ (List.mem_of_getElem? (i := 1) rfl)
theorem m_11_2 : Cond.methodLink RL 90 yX6_setCandidate ∈ wsL_law := inr_11 _ (List.mem_of_getElem? (i := 2) rfl)
theorem m_11_3 : Cond.instanceMethod yX6_setCandidate ∈ wsL_law := inr_11 _ (List.mem_of_getElem? (i := 3) rfl)
theorem m_11_4 : Cond.selects RX6 yX6_setCandidate yX6_setCandidate ∈ wsL_law := inr_11 _ (List.mem_of_getElem? (i := 4) rfl)
theorem m_11_5 : Cond.code yX6_setCandidate cX6_setCandidate 3 (some .boolean) ∈ wsL_law := inr_11 _ (List.mem_of_getElem? (i := 5) rfl)
theorem m_11_6 : Cond.methodLink RL 91 yL_setLimit ∈ wsL_law := inr_11 _ (List.mem_of_getElem? (i := 6) rfl)
theorem m_11_7 : Cond.static yL_setLimit ∈ wsL_law := inr_11 _ (List.mem_of_getElem? (i := 7) rfl)
theorem m_11_8 : Cond.codeWith yL_setLimit cL_setLimit 4 (some .int) [(0, 9, 12, 15)] ∈ wsL_law := inr_11 _ (List.mem_of_getElem? (i := 8) rfl)
theorem m_11_9 : Cond.methodLink RL 21 yX5_setLimit ∈ wsL_law := inr_11 _ (List.mem_of_getElem? (i := 9) rfl)
theorem m_11_10 : Cond.instanceMethod yX5_setLimit ∈ wsL_law := inr_11 _ (List.mem_of_getElem? (i := 10) rfl)
theorem m_11_11 : Cond.selects RX5 yX5_setLimit yX5_setLimit ∈ wsL_law := inr_11 _ (List.mem_of_getElem? (i := 11) rfl)
theorem m_11_12 : Cond.code yX5_setLimit cX5_setLimit 3 (some .int) ∈ wsL_law := inr_11 _ (List.mem_of_getElem? (i := 12) rfl)
theorem m_11_13 : Cond.methodLink RL 94 yX6_setLimit ∈ wsL_law := inr_11 _ (List.mem_of_getElem? (i := 13) rfl)
theorem m_11_14 : Cond.instanceMethod yX6_setLimit ∈ wsL_law := inr_11 _ (List.mem_of_getElem? (i := 14) rfl)
theorem m_11_15 : Cond.selects RX6 yX6_setLimit yX6_setLimit ∈ wsL_law := inr_11 _ (List.mem_of_getElem? (i := 15) rfl)
theorem m_11_16 : Cond.code yX6_setLimit cX6_setLimit 3 (some .int) ∈ wsL_law := inr_11 _ (List.mem_of_getElem? (i := 16) rfl)
theorem m_11_17 : Cond.methodLink RL 95 yL_distance ∈ wsL_law := inr_11 _ (List.mem_of_getElem? (i := 17) rfl)
theorem m_11_18 : Cond.static yL_distance ∈ wsL_law := inr_11 _ (List.mem_of_getElem? (i := 18) rfl)
theorem m_11_19 : Cond.codeWith yL_distance cL_distance 5 (some .int) [(0, 10, 13, 13)] ∈ wsL_law := inr_11 _ (List.mem_of_getElem? (i := 19) rfl)
theorem m_11_20 : Cond.methodLink RL 25 yX5_distance ∈ wsL_law := inr_11 _ (List.mem_of_getElem? (i := 20) rfl)
theorem m_11_21 : Cond.instanceMethod yX5_distance ∈ wsL_law := inr_11 _ (List.mem_of_getElem? (i := 21) rfl)
theorem m_11_22 : Cond.selects RX5 yX5_distance yX5_distance ∈ wsL_law := inr_11 _ (List.mem_of_getElem? (i := 22) rfl)
theorem m_11_23 : Cond.code yX5_distance cX5_distance 3 (some .int) ∈ wsL_law := inr_11 _ (List.mem_of_getElem? (i := 23) rfl)
theorem m_12_0 : Cond.methodLink RX5 94 yX4_distanceOf ∈ wsL_law := inr_12 _ (List.mem_of_getElem? (i := 0) rfl)
theorem m_12_1 : Cond.methodLink RL 98 yX6_distance ∈ wsL_law := inr_12 _ (List.mem_of_getElem? (i := 1) rfl)
theorem m_12_2 : Cond.instanceMethod yX6_distance ∈ wsL_law := inr_12 _ (List.mem_of_getElem? (i := 2) rfl)
theorem m_12_3 : Cond.selects RX6 yX6_distance yX6_distance ∈ wsL_law := inr_12 _ (List.mem_of_getElem? (i := 3) rfl)
theorem m_12_4 : Cond.code yX6_distance cX6_distance 4 (some .int) ∈ wsL_law := inr_12 _ (List.mem_of_getElem? (i := 4) rfl)
theorem m_12_5 : Cond.methodLink RL 99 yL_nextHop ∈ wsL_law := inr_12 _ (List.mem_of_getElem? (i := 5) rfl)
theorem m_12_6 : Cond.static yL_nextHop ∈ wsL_law := inr_12 _ (List.mem_of_getElem? (i := 6) rfl)
theorem m_12_7 : Cond.codeWith yL_nextHop cL_nextHop 5 (some .int) [(0, 10, 13, 13)] ∈ wsL_law := inr_12 _ (List.mem_of_getElem? (i := 7) rfl)
theorem m_12_8 : Cond.methodLink RL 29 yX5_nextHop ∈ wsL_law := inr_12 _ (List.mem_of_getElem? (i := 8) rfl)
theorem m_12_9 : Cond.instanceMethod yX5_nextHop ∈ wsL_law := inr_12 _ (List.mem_of_getElem? (i := 9) rfl)
theorem m_12_10 : Cond.selects RX5 yX5_nextHop yX5_nextHop ∈ wsL_law := inr_12 _ (List.mem_of_getElem? (i := 10) rfl)
theorem m_12_11 : Cond.code yX5_nextHop cX5_nextHop 3 (some .int) ∈ wsL_law := inr_12 _ (List.mem_of_getElem? (i := 11) rfl)
theorem m_12_12 : Cond.methodLink RX5 97 yX4_hopOf ∈ wsL_law := inr_12 _ (List.mem_of_getElem? (i := 12) rfl)
theorem m_12_13 : Cond.methodLink RL 101 yX6_nextHop ∈ wsL_law := inr_12 _ (List.mem_of_getElem? (i := 13) rfl)
theorem m_12_14 : Cond.instanceMethod yX6_nextHop ∈ wsL_law := inr_12 _ (List.mem_of_getElem? (i := 14) rfl)
theorem m_12_15 : Cond.selects RX6 yX6_nextHop yX6_nextHop ∈ wsL_law := inr_12 _ (List.mem_of_getElem? (i := 15) rfl)
theorem m_12_16 : Cond.code yX6_nextHop cX6_nextHop 3 (some .int) ∈ wsL_law := inr_12 _ (List.mem_of_getElem? (i := 16) rfl)
theorem m_12_17 : Cond.methodLink RL 102 yL_rendezvous ∈ wsL_law := inr_12 _ (List.mem_of_getElem? (i := 17) rfl)
theorem m_12_18 : Cond.static yL_rendezvous ∈ wsL_law := inr_12 _ (List.mem_of_getElem? (i := 18) rfl)
theorem m_12_19 : Cond.codeWith yL_rendezvous cL_rendezvous 4 (some .int) [(0, 9, 12, 13)] ∈ wsL_law := inr_12 _ (List.mem_of_getElem? (i := 19) rfl)
theorem m_12_20 : Cond.methodLink RL 32 yX5_rendezvous ∈ wsL_law := inr_12 _ (List.mem_of_getElem? (i := 20) rfl)
theorem m_12_21 : Cond.instanceMethod yX5_rendezvous ∈ wsL_law := inr_12 _ (List.mem_of_getElem? (i := 21) rfl)
theorem m_12_22 : Cond.selects RX5 yX5_rendezvous yX5_rendezvous ∈ wsL_law := inr_12 _ (List.mem_of_getElem? (i := 22) rfl)
theorem m_12_23 : Cond.code yX5_rendezvous cX5_rendezvous 2 (some .int) ∈ wsL_law := inr_12 _ (List.mem_of_getElem? (i := 23) rfl)
theorem m_13_0 : Cond.methodLink RX5 100 yX5_checkGroup ∈ wsL_law := inr_13 _ (List.mem_of_getElem? (i := 0) rfl)
theorem m_13_1 : Cond.static yX5_checkGroup ∈ wsL_law := inr_13 _ (List.mem_of_getElem? (i := 1) rfl)
theorem m_13_2 : Cond.code yX5_checkGroup cX5_checkGroup 1 none ∈ wsL_law := inr_13 _ (List.mem_of_getElem? (i := 2) rfl)
theorem m_13_3 : Cond.methodLink RX5 103 yX2_rootOf ∈ wsL_law := inr_13 _ (List.mem_of_getElem? (i := 3) rfl)
theorem m_13_4 : Cond.methodLink RL 104 yX6_rendezvous ∈ wsL_law := inr_13 _ (List.mem_of_getElem? (i := 4) rfl)
theorem m_13_5 : Cond.instanceMethod yX6_rendezvous ∈ wsL_law := inr_13 _ (List.mem_of_getElem? (i := 5) rfl)
theorem m_13_6 : Cond.selects RX6 yX6_rendezvous yX6_rendezvous ∈ wsL_law := inr_13 _ (List.mem_of_getElem? (i := 6) rfl)
theorem m_13_7 : Cond.code yX6_rendezvous cX6_rendezvous 2 (some .int) ∈ wsL_law := inr_13 _ (List.mem_of_getElem? (i := 7) rfl)
theorem m_13_8 : Cond.methodLink RX6 96 yX6_isGroup ∈ wsL_law := inr_13 _ (List.mem_of_getElem? (i := 8) rfl)
theorem m_13_9 : Cond.static yX6_isGroup ∈ wsL_law := inr_13 _ (List.mem_of_getElem? (i := 9) rfl)
theorem m_13_10 : Cond.code yX6_isGroup cX6_isGroup 1 (some .boolean) ∈ wsL_law := inr_13 _ (List.mem_of_getElem? (i := 10) rfl)
theorem m_13_11 : Cond.methodLink RL 105 yL_join ∈ wsL_law := inr_13 _ (List.mem_of_getElem? (i := 11) rfl)
theorem m_13_12 : Cond.static yL_join ∈ wsL_law := inr_13 _ (List.mem_of_getElem? (i := 12) rfl)
theorem m_13_13 : Cond.codeWith yL_join cL_join 5 (some .int) [(0, 10, 13, 13), (0, 10, 17, 38)] ∈ wsL_law := inr_13 _ (List.mem_of_getElem? (i := 13) rfl)
theorem m_13_14 : Cond.classLink RL 38 "java/lang/IllegalStateException" ∈ wsL_law := inr_13 _ (List.mem_of_getElem? (i := 14) rfl)
theorem m_13_15 : Cond.methodLink RL 35 yX5_join ∈ wsL_law := inr_13 _ (List.mem_of_getElem? (i := 15) rfl)
theorem m_13_16 : Cond.instanceMethod yX5_join ∈ wsL_law := inr_13 _ (List.mem_of_getElem? (i := 16) rfl)
theorem m_13_17 : Cond.selects RX5 yX5_join yX5_join ∈ wsL_law := inr_13 _ (List.mem_of_getElem? (i := 17) rfl)
theorem m_13_18 : Cond.code yX5_join cX5_join 3 (some .int) ∈ wsL_law := inr_13 _ (List.mem_of_getElem? (i := 18) rfl)
theorem m_13_19 : Cond.classLink RX5 109 "java/lang/IllegalStateException" ∈ wsL_law := inr_13 _ (List.mem_of_getElem? (i := 19) rfl)
theorem m_13_20 : Cond.initialized "java/lang/IllegalStateException" ∈ wsL_law := inr_13 _ (List.mem_of_getElem? (i := 20) rfl)
theorem m_13_21 : Cond.methodLink RX5 106 yX5_isMember ∈ wsL_law := inr_13 _ (List.mem_of_getElem? (i := 21) rfl)
theorem m_13_22 : Cond.instanceMethod yX5_isMember ∈ wsL_law := inr_13 _ (List.mem_of_getElem? (i := 22) rfl)
theorem m_13_23 : Cond.selects RX5 yX5_isMember yX5_isMember ∈ wsL_law := inr_13 _ (List.mem_of_getElem? (i := 23) rfl)
theorem m_14_0 : Cond.code yX5_isMember cX5_isMember 3 (some .boolean) ∈ wsL_law := inr_14 _ (List.mem_of_getElem? (i := 0) rfl)
theorem m_14_1 : Cond.methodLink RX5 118 yX5_membersOf ∈ wsL_law := inr_14 _ (List.mem_of_getElem? (i := 1) rfl)
theorem m_14_2 : Cond.instanceMethod yX5_membersOf ∈ wsL_law := inr_14 _ (List.mem_of_getElem? (i := 2) rfl)
theorem m_14_3 : Cond.selects RX5 yX5_membersOf yX5_membersOf ∈ wsL_law := inr_14 _ (List.mem_of_getElem? (i := 3) rfl)
theorem m_14_4 : Cond.code yX5_membersOf cX5_membersOf 2 (some .int) ∈ wsL_law := inr_14 _ (List.mem_of_getElem? (i := 4) rfl)
theorem m_14_5 : Cond.methodLink RX5 140 yX2_wantingOf ∈ wsL_law := inr_14 _ (List.mem_of_getElem? (i := 5) rfl)
theorem m_14_6 : Cond.instanceMethod yX2_wantingOf ∈ wsL_law := inr_14 _ (List.mem_of_getElem? (i := 6) rfl)
theorem m_14_7 : Cond.selects RX2 yX2_wantingOf yX2_wantingOf ∈ wsL_law := inr_14 _ (List.mem_of_getElem? (i := 7) rfl)
theorem m_14_8 : Cond.code yX2_wantingOf cX2_wantingOf 2 (some .int) ∈ wsL_law := inr_14 _ (List.mem_of_getElem? (i := 8) rfl)
theorem m_14_9 : Cond.methodLink RX5 114 yX2_want ∈ wsL_law := inr_14 _ (List.mem_of_getElem? (i := 9) rfl)
theorem m_14_10 : Cond.instanceMethod yX2_want ∈ wsL_law := inr_14 _ (List.mem_of_getElem? (i := 10) rfl)
theorem m_14_11 : Cond.selects RX2 yX2_want yX2_want ∈ wsL_law := inr_14 _ (List.mem_of_getElem? (i := 11) rfl)
theorem m_14_12 : Cond.code yX2_want cX2_want 4 none ∈ wsL_law := inr_14 _ (List.mem_of_getElem? (i := 12) rfl)
theorem m_14_13 : Cond.methodLink RX5 121 yJ6_bitCount_0f7a4 ∈ wsL_law := inr_14 _ (List.mem_of_getElem? (i := 13) rfl)
theorem m_14_14 : Cond.static yJ6_bitCount_0f7a4 ∈ wsL_law := inr_14 _ (List.mem_of_getElem? (i := 14) rfl)
theorem m_14_15 : Cond.initialized RJ6 ∈ wsL_law := inr_14 _ (List.mem_of_getElem? (i := 15) rfl)
theorem m_14_16 : Cond.code yJ6_bitCount_0f7a4 cJ6_bitCount_0f7a4 1 (some .int) ∈ wsL_law := inr_14 _ (List.mem_of_getElem? (i := 16) rfl)
theorem m_14_17 : Cond.constant RJ6 265 (1431655765) ∈ wsL_law := inr_14 _ (List.mem_of_getElem? (i := 17) rfl)
theorem m_14_18 : Cond.constant RJ6 266 (858993459) ∈ wsL_law := inr_14 _ (List.mem_of_getElem? (i := 18) rfl)
theorem m_14_19 : Cond.constant RJ6 267 (252645135) ∈ wsL_law := inr_14 _ (List.mem_of_getElem? (i := 19) rfl)
theorem m_14_20 : Cond.methodLink RL 107 yX6_join ∈ wsL_law := inr_14 _ (List.mem_of_getElem? (i := 20) rfl)
theorem m_14_21 : Cond.instanceMethod yX6_join ∈ wsL_law := inr_14 _ (List.mem_of_getElem? (i := 21) rfl)
theorem m_14_22 : Cond.selects RX6 yX6_join yX6_join ∈ wsL_law := inr_14 _ (List.mem_of_getElem? (i := 22) rfl)
theorem m_14_23 : Cond.code yX6_join cX6_join 3 (some .int) ∈ wsL_law := inr_14 _ (List.mem_of_getElem? (i := 23) rfl)
theorem m_15_0 : Cond.methodLink RX6 99 yX6_isMember ∈ wsL_law := inr_15 _ (List.mem_of_getElem? (i := 0) rfl)
theorem m_15_1 : Cond.instanceMethod yX6_isMember ∈ wsL_law := inr_15 _ (List.mem_of_getElem? (i := 1) rfl)
theorem m_15_2 : Cond.selects RX6 yX6_isMember yX6_isMember ∈ wsL_law := inr_15 _ (List.mem_of_getElem? (i := 2) rfl)
theorem m_15_3 : Cond.code yX6_isMember cX6_isMember 3 (some .boolean) ∈ wsL_law := inr_15 _ (List.mem_of_getElem? (i := 3) rfl)
theorem m_15_4 : Cond.methodLink RX6 102 yX6_many ∈ wsL_law := inr_15 _ (List.mem_of_getElem? (i := 4) rfl)
theorem m_15_5 : Cond.static yX6_many ∈ wsL_law := inr_15 _ (List.mem_of_getElem? (i := 5) rfl)
theorem m_15_6 : Cond.code yX6_many cX6_many 3 (some .int) ∈ wsL_law := inr_15 _ (List.mem_of_getElem? (i := 6) rfl)
theorem m_15_7 : Cond.methodLink RL 108 yL_leave ∈ wsL_law := inr_15 _ (List.mem_of_getElem? (i := 7) rfl)
theorem m_15_8 : Cond.static yL_leave ∈ wsL_law := inr_15 _ (List.mem_of_getElem? (i := 8) rfl)
theorem m_15_9 : Cond.codeWith yL_leave cL_leave 5 (some .int) [(0, 10, 13, 13), (0, 10, 17, 38)] ∈ wsL_law := inr_15 _ (List.mem_of_getElem? (i := 9) rfl)
theorem m_15_10 : Cond.methodLink RL 40 yX5_leave ∈ wsL_law := inr_15 _ (List.mem_of_getElem? (i := 10) rfl)
theorem m_15_11 : Cond.instanceMethod yX5_leave ∈ wsL_law := inr_15 _ (List.mem_of_getElem? (i := 11) rfl)
theorem m_15_12 : Cond.selects RX5 yX5_leave yX5_leave ∈ wsL_law := inr_15 _ (List.mem_of_getElem? (i := 12) rfl)
theorem m_15_13 : Cond.code yX5_leave cX5_leave 4 (some .int) ∈ wsL_law := inr_15 _ (List.mem_of_getElem? (i := 13) rfl)
theorem m_15_14 : Cond.fieldLink RX5 128 "Multidell" "now" "I" ∈ wsL_law := inr_15 _ (List.mem_of_getElem? (i := 14) rfl)
theorem m_15_15 : Cond.methodLink RX5 131 yX2_unwant ∈ wsL_law := inr_15 _ (List.mem_of_getElem? (i := 15) rfl)
theorem m_15_16 : Cond.instanceMethod yX2_unwant ∈ wsL_law := inr_15 _ (List.mem_of_getElem? (i := 16) rfl)
theorem m_15_17 : Cond.selects RX2 yX2_unwant yX2_unwant ∈ wsL_law := inr_15 _ (List.mem_of_getElem? (i := 17) rfl)
theorem m_15_18 : Cond.code yX2_unwant cX2_unwant 4 none ∈ wsL_law := inr_15 _ (List.mem_of_getElem? (i := 18) rfl)
theorem m_15_19 : Cond.methodLink RX2 53 yX2_letLeave ∈ wsL_law := inr_15 _ (List.mem_of_getElem? (i := 19) rfl)
theorem m_15_20 : Cond.instanceMethod yX2_letLeave ∈ wsL_law := inr_15 _ (List.mem_of_getElem? (i := 20) rfl)
theorem m_15_21 : Cond.selects RX2 yX2_letLeave yX2_letLeave ∈ wsL_law := inr_15 _ (List.mem_of_getElem? (i := 21) rfl)
theorem m_15_22 : Cond.code yX2_letLeave cX2_letLeave 5 none ∈ wsL_law := inr_15 _ (List.mem_of_getElem? (i := 22) rfl)
theorem m_15_23 : Cond.methodLink RX2 79 yX2_isNeeded ∈ wsL_law := inr_15 _ (List.mem_of_getElem? (i := 23) rfl)
theorem m_16_0 : Cond.instanceMethod yX2_isNeeded ∈ wsL_law := inr_16 _ (List.mem_of_getElem? (i := 0) rfl)
theorem m_16_1 : Cond.selects RX2 yX2_isNeeded yX2_isNeeded ∈ wsL_law := inr_16 _ (List.mem_of_getElem? (i := 1) rfl)
theorem m_16_2 : Cond.code yX2_isNeeded cX2_isNeeded 3 (some .boolean) ∈ wsL_law := inr_16 _ (List.mem_of_getElem? (i := 2) rfl)
theorem m_16_3 : Cond.methodLink RX2 82 yX2_wantingOf ∈ wsL_law := inr_16 _ (List.mem_of_getElem? (i := 3) rfl)
theorem m_16_4 : Cond.methodLink RX2 85 yX2_branchesFrom ∈ wsL_law := inr_16 _ (List.mem_of_getElem? (i := 4) rfl)
theorem m_16_5 : Cond.instanceMethod yX2_branchesFrom ∈ wsL_law := inr_16 _ (List.mem_of_getElem? (i := 5) rfl)
theorem m_16_6 : Cond.selects RX2 yX2_branchesFrom yX2_branchesFrom ∈ wsL_law := inr_16 _ (List.mem_of_getElem? (i := 6) rfl)
theorem m_16_7 : Cond.code yX2_branchesFrom cX2_branchesFrom 5 (some .int) ∈ wsL_law := inr_16 _ (List.mem_of_getElem? (i := 7) rfl)
theorem m_16_8 : Cond.methodLink RX5 134 yX5_sourceTree ∈ wsL_law := inr_16 _ (List.mem_of_getElem? (i := 8) rfl)
theorem m_16_9 : Cond.methodLink RX5 137 yX1_forget ∈ wsL_law := inr_16 _ (List.mem_of_getElem? (i := 9) rfl)
theorem m_16_10 : Cond.instanceMethod yX1_forget ∈ wsL_law := inr_16 _ (List.mem_of_getElem? (i := 10) rfl)
theorem m_16_11 : Cond.selects RX1 yX1_forget yX1_forget ∈ wsL_law := inr_16 _ (List.mem_of_getElem? (i := 11) rfl)
theorem m_16_12 : Cond.code yX1_forget cX1_forget 4 none ∈ wsL_law := inr_16 _ (List.mem_of_getElem? (i := 12) rfl)
theorem m_16_13 : Cond.methodLink RX1 15 yX1_isPlace ∈ wsL_law := inr_16 _ (List.mem_of_getElem? (i := 13) rfl)
theorem m_16_14 : Cond.static yX1_isPlace ∈ wsL_law := inr_16 _ (List.mem_of_getElem? (i := 14) rfl)
theorem m_16_15 : Cond.code yX1_isPlace cX1_isPlace 3 (some .boolean) ∈ wsL_law := inr_16 _ (List.mem_of_getElem? (i := 15) rfl)
theorem m_16_16 : Cond.methodLink RX1 19 yX1_placeOf ∈ wsL_law := inr_16 _ (List.mem_of_getElem? (i := 16) rfl)
theorem m_16_17 : Cond.static yX1_placeOf ∈ wsL_law := inr_16 _ (List.mem_of_getElem? (i := 17) rfl)
theorem m_16_18 : Cond.code yX1_placeOf cX1_placeOf 3 (some .int) ∈ wsL_law := inr_16 _ (List.mem_of_getElem? (i := 18) rfl)
theorem m_16_19 : Cond.methodLink RL 110 yX6_leave ∈ wsL_law := inr_16 _ (List.mem_of_getElem? (i := 19) rfl)
theorem m_16_20 : Cond.instanceMethod yX6_leave ∈ wsL_law := inr_16 _ (List.mem_of_getElem? (i := 20) rfl)
theorem m_16_21 : Cond.selects RX6 yX6_leave yX6_leave ∈ wsL_law := inr_16 _ (List.mem_of_getElem? (i := 21) rfl)
theorem m_16_22 : Cond.code yX6_leave cX6_leave 4 (some .int) ∈ wsL_law := inr_16 _ (List.mem_of_getElem? (i := 22) rfl)
theorem m_16_23 : Cond.methodLink RX6 105 yX6_looks ∈ wsL_law := inr_16 _ (List.mem_of_getElem? (i := 23) rfl)
theorem m_17_0 : Cond.instanceMethod yX6_looks ∈ wsL_law := inr_17 _ (List.mem_of_getElem? (i := 0) rfl)
theorem m_17_1 : Cond.selects RX6 yX6_looks yX6_looks ∈ wsL_law := inr_17 _ (List.mem_of_getElem? (i := 1) rfl)
theorem m_17_2 : Cond.code yX6_looks cX6_looks 4 none ∈ wsL_law := inr_17 _ (List.mem_of_getElem? (i := 2) rfl)
theorem m_17_3 : Cond.fieldLink RX6 79 "MultidellModel" "clock" "I" ∈ wsL_law := inr_17 _ (List.mem_of_getElem? (i := 3) rfl)
theorem m_17_4 : Cond.methodLink RX6 76 yX6_below ∈ wsL_law := inr_17 _ (List.mem_of_getElem? (i := 4) rfl)
theorem m_17_5 : Cond.instanceMethod yX6_below ∈ wsL_law := inr_17 _ (List.mem_of_getElem? (i := 5) rfl)
theorem m_17_6 : Cond.selects RX6 yX6_below yX6_below ∈ wsL_law := inr_17 _ (List.mem_of_getElem? (i := 6) rfl)
theorem m_17_7 : Cond.code yX6_below cX6_below 5 (some .int) ∈ wsL_law := inr_17 _ (List.mem_of_getElem? (i := 7) rfl)
theorem m_17_8 : Cond.methodLink RL 111 yL_members ∈ wsL_law := inr_17 _ (List.mem_of_getElem? (i := 8) rfl)
theorem m_17_9 : Cond.static yL_members ∈ wsL_law := inr_17 _ (List.mem_of_getElem? (i := 9) rfl)
theorem m_17_10 : Cond.codeWith yL_members cL_members 4 (some .int) [(0, 9, 12, 13)] ∈ wsL_law := inr_17 _ (List.mem_of_getElem? (i := 10) rfl)
theorem m_17_11 : Cond.methodLink RL 43 yX5_members ∈ wsL_law := inr_17 _ (List.mem_of_getElem? (i := 11) rfl)
theorem m_17_12 : Cond.instanceMethod yX5_members ∈ wsL_law := inr_17 _ (List.mem_of_getElem? (i := 12) rfl)
theorem m_17_13 : Cond.selects RX5 yX5_members yX5_members ∈ wsL_law := inr_17 _ (List.mem_of_getElem? (i := 13) rfl)
theorem m_17_14 : Cond.code yX5_members cX5_members 2 (some .int) ∈ wsL_law := inr_17 _ (List.mem_of_getElem? (i := 14) rfl)
theorem m_17_15 : Cond.methodLink RL 113 yX6_members ∈ wsL_law := inr_17 _ (List.mem_of_getElem? (i := 15) rfl)
theorem m_17_16 : Cond.instanceMethod yX6_members ∈ wsL_law := inr_17 _ (List.mem_of_getElem? (i := 16) rfl)
theorem m_17_17 : Cond.selects RX6 yX6_members yX6_members ∈ wsL_law := inr_17 _ (List.mem_of_getElem? (i := 17) rfl)
theorem m_17_18 : Cond.code yX6_members cX6_members 2 (some .int) ∈ wsL_law := inr_17 _ (List.mem_of_getElem? (i := 18) rfl)
theorem m_17_19 : Cond.methodLink RL 114 yL_switched ∈ wsL_law := inr_17 _ (List.mem_of_getElem? (i := 19) rfl)
theorem m_17_20 : Cond.static yL_switched ∈ wsL_law := inr_17 _ (List.mem_of_getElem? (i := 20) rfl)
theorem m_17_21 : Cond.codeWith yL_switched cL_switched 5 (some .int) [(0, 10, 13, 13)] ∈ wsL_law := inr_17 _ (List.mem_of_getElem? (i := 21) rfl)
theorem m_17_22 : Cond.methodLink RL 46 yX5_switched ∈ wsL_law := inr_17 _ (List.mem_of_getElem? (i := 22) rfl)
theorem m_17_23 : Cond.instanceMethod yX5_switched ∈ wsL_law := inr_17 _ (List.mem_of_getElem? (i := 23) rfl)
theorem m_18_0 : Cond.selects RX5 yX5_switched yX5_switched ∈ wsL_law := inr_18 _ (List.mem_of_getElem? (i := 0) rfl)
theorem m_18_1 : Cond.code yX5_switched cX5_switched 3 (some .int) ∈ wsL_law := inr_18 _ (List.mem_of_getElem? (i := 1) rfl)
theorem m_18_2 : Cond.methodLink RL 116 yX6_switched ∈ wsL_law := inr_18 _ (List.mem_of_getElem? (i := 2) rfl)
theorem m_18_3 : Cond.instanceMethod yX6_switched ∈ wsL_law := inr_18 _ (List.mem_of_getElem? (i := 3) rfl)
theorem m_18_4 : Cond.selects RX6 yX6_switched yX6_switched ∈ wsL_law := inr_18 _ (List.mem_of_getElem? (i := 4) rfl)
theorem m_18_5 : Cond.code yX6_switched cX6_switched 3 (some .int) ∈ wsL_law := inr_18 _ (List.mem_of_getElem? (i := 5) rfl)
theorem m_18_6 : Cond.methodLink RL 117 yL_branches ∈ wsL_law := inr_18 _ (List.mem_of_getElem? (i := 6) rfl)
theorem m_18_7 : Cond.static yL_branches ∈ wsL_law := inr_18 _ (List.mem_of_getElem? (i := 7) rfl)
theorem m_18_8 : Cond.codeWith yL_branches cL_branches 5 (some .int) [(0, 10, 13, 13)] ∈ wsL_law := inr_18 _ (List.mem_of_getElem? (i := 8) rfl)
theorem m_18_9 : Cond.methodLink RL 49 yX5_branches ∈ wsL_law := inr_18 _ (List.mem_of_getElem? (i := 9) rfl)
theorem m_18_10 : Cond.instanceMethod yX5_branches ∈ wsL_law := inr_18 _ (List.mem_of_getElem? (i := 10) rfl)
theorem m_18_11 : Cond.selects RX5 yX5_branches yX5_branches ∈ wsL_law := inr_18 _ (List.mem_of_getElem? (i := 11) rfl)
theorem m_18_12 : Cond.code yX5_branches cX5_branches 3 (some .int) ∈ wsL_law := inr_18 _ (List.mem_of_getElem? (i := 12) rfl)
theorem m_18_13 : Cond.methodLink RX5 143 yX2_branchesFrom ∈ wsL_law := inr_18 _ (List.mem_of_getElem? (i := 13) rfl)
theorem m_18_14 : Cond.methodLink RL 119 yX6_branches ∈ wsL_law := inr_18 _ (List.mem_of_getElem? (i := 14) rfl)
theorem m_18_15 : Cond.instanceMethod yX6_branches ∈ wsL_law := inr_18 _ (List.mem_of_getElem? (i := 15) rfl)
theorem m_18_16 : Cond.selects RX6 yX6_branches yX6_branches ∈ wsL_law := inr_18 _ (List.mem_of_getElem? (i := 16) rfl)
theorem m_18_17 : Cond.code yX6_branches cX6_branches 3 (some .int) ∈ wsL_law := inr_18 _ (List.mem_of_getElem? (i := 17) rfl)
theorem m_18_18 : Cond.methodLink RL 120 yL_sourceBranches ∈ wsL_law := inr_18 _ (List.mem_of_getElem? (i := 18) rfl)
theorem m_18_19 : Cond.static yL_sourceBranches ∈ wsL_law := inr_18 _ (List.mem_of_getElem? (i := 19) rfl)
theorem m_18_20 : Cond.codeWith yL_sourceBranches cL_sourceBranches 6 (some .int) [(0, 12, 15, 13)] ∈ wsL_law := inr_18 _ (List.mem_of_getElem? (i := 20) rfl)
theorem m_18_21 : Cond.methodLink RL 52 yX5_sourceBranches ∈ wsL_law := inr_18 _ (List.mem_of_getElem? (i := 21) rfl)
theorem m_18_22 : Cond.instanceMethod yX5_sourceBranches ∈ wsL_law := inr_18 _ (List.mem_of_getElem? (i := 22) rfl)
theorem m_18_23 : Cond.selects RX5 yX5_sourceBranches yX5_sourceBranches ∈ wsL_law := inr_18 _ (List.mem_of_getElem? (i := 23) rfl)
theorem m_19_0 : Cond.code yX5_sourceBranches cX5_sourceBranches 4 (some .int) ∈ wsL_law := inr_19 _ (List.mem_of_getElem? (i := 0) rfl)
theorem m_19_1 : Cond.methodLink RL 122 yX6_sourceBranches ∈ wsL_law := inr_19 _ (List.mem_of_getElem? (i := 1) rfl)
theorem m_19_2 : Cond.instanceMethod yX6_sourceBranches ∈ wsL_law := inr_19 _ (List.mem_of_getElem? (i := 2) rfl)
theorem m_19_3 : Cond.selects RX6 yX6_sourceBranches yX6_sourceBranches ∈ wsL_law := inr_19 _ (List.mem_of_getElem? (i := 3) rfl)
theorem m_19_4 : Cond.code yX6_sourceBranches cX6_sourceBranches 4 (some .int) ∈ wsL_law := inr_19 _ (List.mem_of_getElem? (i := 4) rfl)
theorem m_19_5 : Cond.methodLink RL 123 yX5_leaving ∈ wsL_law := inr_19 _ (List.mem_of_getElem? (i := 5) rfl)
theorem m_19_6 : Cond.instanceMethod yX5_leaving ∈ wsL_law := inr_19 _ (List.mem_of_getElem? (i := 6) rfl)
theorem m_19_7 : Cond.selects RX5 yX5_leaving yX5_leaving ∈ wsL_law := inr_19 _ (List.mem_of_getElem? (i := 7) rfl)
theorem m_19_8 : Cond.code yX5_leaving cX5_leaving 1 (some .int) ∈ wsL_law := inr_19 _ (List.mem_of_getElem? (i := 8) rfl)
theorem m_19_9 : Cond.methodLink RX5 146 yX2_leavingBranches ∈ wsL_law := inr_19 _ (List.mem_of_getElem? (i := 9) rfl)
theorem m_19_10 : Cond.instanceMethod yX2_leavingBranches ∈ wsL_law := inr_19 _ (List.mem_of_getElem? (i := 10) rfl)
theorem m_19_11 : Cond.selects RX2 yX2_leavingBranches yX2_leavingBranches ∈ wsL_law := inr_19 _ (List.mem_of_getElem? (i := 11) rfl)
theorem m_19_12 : Cond.code yX2_leavingBranches cX2_leavingBranches 3 (some .int) ∈ wsL_law := inr_19 _ (List.mem_of_getElem? (i := 12) rfl)
theorem m_19_13 : Cond.methodLink RL 126 yX6_leaving ∈ wsL_law := inr_19 _ (List.mem_of_getElem? (i := 13) rfl)
theorem m_19_14 : Cond.instanceMethod yX6_leaving ∈ wsL_law := inr_19 _ (List.mem_of_getElem? (i := 14) rfl)
theorem m_19_15 : Cond.selects RX6 yX6_leaving yX6_leaving ∈ wsL_law := inr_19 _ (List.mem_of_getElem? (i := 15) rfl)
theorem m_19_16 : Cond.code yX6_leaving cX6_leaving 3 (some .int) ∈ wsL_law := inr_19 _ (List.mem_of_getElem? (i := 16) rfl)
theorem m_19_17 : Cond.methodLink RL 127 yL_send ∈ wsL_law := inr_19 _ (List.mem_of_getElem? (i := 17) rfl)
theorem m_19_18 : Cond.static yL_send ∈ wsL_law := inr_19 _ (List.mem_of_getElem? (i := 18) rfl)
theorem m_19_19 : Cond.codeWith yL_send cL_send 5 (some .int) [(0, 10, 13, 13), (0, 10, 17, 38)] ∈ wsL_law := inr_19 _ (List.mem_of_getElem? (i := 19) rfl)
theorem m_19_20 : Cond.methodLink RL 55 yX5_send ∈ wsL_law := inr_19 _ (List.mem_of_getElem? (i := 20) rfl)
theorem m_19_21 : Cond.instanceMethod yX5_send ∈ wsL_law := inr_19 _ (List.mem_of_getElem? (i := 21) rfl)
theorem m_19_22 : Cond.selects RX5 yX5_send yX5_send ∈ wsL_law := inr_19 _ (List.mem_of_getElem? (i := 22) rfl)
theorem m_19_23 : Cond.code yX5_send cX5_send 5 (some .int) ∈ wsL_law := inr_19 _ (List.mem_of_getElem? (i := 23) rfl)
theorem m_20_0 : Cond.methodLink RX5 150 yX3_isFull ∈ wsL_law := inr_20 _ (List.mem_of_getElem? (i := 0) rfl)
theorem m_20_1 : Cond.instanceMethod yX3_isFull ∈ wsL_law := inr_20 _ (List.mem_of_getElem? (i := 1) rfl)
theorem m_20_2 : Cond.selects RX3 yX3_isFull yX3_isFull ∈ wsL_law := inr_20 _ (List.mem_of_getElem? (i := 2) rfl)
theorem m_20_3 : Cond.code yX3_isFull cX3_isFull 1 (some .boolean) ∈ wsL_law := inr_20 _ (List.mem_of_getElem? (i := 3) rfl)
theorem m_20_4 : Cond.fieldLink RX3 24 "Multidell$Packets" "sent" "I" ∈ wsL_law := inr_20 _ (List.mem_of_getElem? (i := 4) rfl)
theorem m_20_5 : Cond.methodLink RX5 156 yX3_add ∈ wsL_law := inr_20 _ (List.mem_of_getElem? (i := 5) rfl)
theorem m_20_6 : Cond.instanceMethod yX3_add ∈ wsL_law := inr_20 _ (List.mem_of_getElem? (i := 6) rfl)
theorem m_20_7 : Cond.selects RX3 yX3_add yX3_add ∈ wsL_law := inr_20 _ (List.mem_of_getElem? (i := 7) rfl)
theorem m_20_8 : Cond.code yX3_add cX3_add 4 (some .int) ∈ wsL_law := inr_20 _ (List.mem_of_getElem? (i := 8) rfl)
theorem m_20_9 : Cond.methodLink RX3 28 yX3_isFull ∈ wsL_law := inr_20 _ (List.mem_of_getElem? (i := 9) rfl)
theorem m_20_10 : Cond.methodLink RX5 159 yX3_receive ∈ wsL_law := inr_20 _ (List.mem_of_getElem? (i := 10) rfl)
theorem m_20_11 : Cond.instanceMethod yX3_receive ∈ wsL_law := inr_20 _ (List.mem_of_getElem? (i := 11) rfl)
theorem m_20_12 : Cond.selects RX3 yX3_receive yX3_receive ∈ wsL_law := inr_20 _ (List.mem_of_getElem? (i := 12) rfl)
theorem m_20_13 : Cond.code yX3_receive cX3_receive 3 none ∈ wsL_law := inr_20 _ (List.mem_of_getElem? (i := 13) rfl)
theorem m_20_14 : Cond.methodLink RX3 32 yX3_isPacket ∈ wsL_law := inr_20 _ (List.mem_of_getElem? (i := 14) rfl)
theorem m_20_15 : Cond.instanceMethod yX3_isPacket ∈ wsL_law := inr_20 _ (List.mem_of_getElem? (i := 15) rfl)
theorem m_20_16 : Cond.selects RX3 yX3_isPacket yX3_isPacket ∈ wsL_law := inr_20 _ (List.mem_of_getElem? (i := 16) rfl)
theorem m_20_17 : Cond.code yX3_isPacket cX3_isPacket 2 (some .boolean) ∈ wsL_law := inr_20 _ (List.mem_of_getElem? (i := 17) rfl)
theorem m_20_18 : Cond.methodLink RX5 162 yX5_getPacket ∈ wsL_law := inr_20 _ (List.mem_of_getElem? (i := 18) rfl)
theorem m_20_19 : Cond.instanceMethod yX5_getPacket ∈ wsL_law := inr_20 _ (List.mem_of_getElem? (i := 19) rfl)
theorem m_20_20 : Cond.selects RX5 yX5_getPacket yX5_getPacket ∈ wsL_law := inr_20 _ (List.mem_of_getElem? (i := 20) rfl)
theorem m_20_21 : Cond.code yX5_getPacket cX5_getPacket 9 (some .boolean) ∈ wsL_law := inr_20 _ (List.mem_of_getElem? (i := 21) rfl)
theorem m_20_22 : Cond.methodLink RX5 220 yX3_groupOf ∈ wsL_law := inr_20 _ (List.mem_of_getElem? (i := 22) rfl)
theorem m_20_23 : Cond.instanceMethod yX3_groupOf ∈ wsL_law := inr_20 _ (List.mem_of_getElem? (i := 23) rfl)
theorem m_21_0 : Cond.selects RX3 yX3_groupOf yX3_groupOf ∈ wsL_law := inr_21 _ (List.mem_of_getElem? (i := 0) rfl)
theorem m_21_1 : Cond.code yX3_groupOf cX3_groupOf 2 (some .int) ∈ wsL_law := inr_21 _ (List.mem_of_getElem? (i := 1) rfl)
theorem m_21_2 : Cond.methodLink RX5 200 yX3_receiversOf ∈ wsL_law := inr_21 _ (List.mem_of_getElem? (i := 2) rfl)
theorem m_21_3 : Cond.instanceMethod yX3_receiversOf ∈ wsL_law := inr_21 _ (List.mem_of_getElem? (i := 3) rfl)
theorem m_21_4 : Cond.selects RX3 yX3_receiversOf yX3_receiversOf ∈ wsL_law := inr_21 _ (List.mem_of_getElem? (i := 4) rfl)
theorem m_21_5 : Cond.code yX3_receiversOf cX3_receiversOf 2 (some .int) ∈ wsL_law := inr_21 _ (List.mem_of_getElem? (i := 5) rfl)
theorem m_21_6 : Cond.methodLink RX5 223 yX3_addDouble ∈ wsL_law := inr_21 _ (List.mem_of_getElem? (i := 6) rfl)
theorem m_21_7 : Cond.instanceMethod yX3_addDouble ∈ wsL_law := inr_21 _ (List.mem_of_getElem? (i := 7) rfl)
theorem m_21_8 : Cond.selects RX3 yX3_addDouble yX3_addDouble ∈ wsL_law := inr_21 _ (List.mem_of_getElem? (i := 8) rfl)
theorem m_21_9 : Cond.code yX3_addDouble cX3_addDouble 2 none ∈ wsL_law := inr_21 _ (List.mem_of_getElem? (i := 9) rfl)
theorem m_21_10 : Cond.methodLink RX5 226 yX3_sourceOf ∈ wsL_law := inr_21 _ (List.mem_of_getElem? (i := 10) rfl)
theorem m_21_11 : Cond.instanceMethod yX3_sourceOf ∈ wsL_law := inr_21 _ (List.mem_of_getElem? (i := 11) rfl)
theorem m_21_12 : Cond.selects RX3 yX3_sourceOf yX3_sourceOf ∈ wsL_law := inr_21 _ (List.mem_of_getElem? (i := 12) rfl)
theorem m_21_13 : Cond.code yX3_sourceOf cX3_sourceOf 2 (some .int) ∈ wsL_law := inr_21 _ (List.mem_of_getElem? (i := 13) rfl)
theorem m_21_14 : Cond.methodLink RX5 229 yX5_isShared ∈ wsL_law := inr_21 _ (List.mem_of_getElem? (i := 14) rfl)
theorem m_21_15 : Cond.static yX5_isShared ∈ wsL_law := inr_21 _ (List.mem_of_getElem? (i := 15) rfl)
theorem m_21_16 : Cond.code yX5_isShared cX5_isShared 1 (some .boolean) ∈ wsL_law := inr_21 _ (List.mem_of_getElem? (i := 16) rfl)
theorem m_21_17 : Cond.methodLink RX5 233 yX5_countSaysSwitch ∈ wsL_law := inr_21 _ (List.mem_of_getElem? (i := 17) rfl)
theorem m_21_18 : Cond.instanceMethod yX5_countSaysSwitch ∈ wsL_law := inr_21 _ (List.mem_of_getElem? (i := 18) rfl)
theorem m_21_19 : Cond.selects RX5 yX5_countSaysSwitch yX5_countSaysSwitch ∈ wsL_law := inr_21 _ (List.mem_of_getElem? (i := 19) rfl)
theorem m_21_20 : Cond.code yX5_countSaysSwitch cX5_countSaysSwitch 6 (some .boolean) ∈ wsL_law := inr_21 _ (List.mem_of_getElem? (i := 20) rfl)
theorem m_21_21 : Cond.methodLink RX5 236 yX1_raise ∈ wsL_law := inr_21 _ (List.mem_of_getElem? (i := 21) rfl)
theorem m_21_22 : Cond.instanceMethod yX1_raise ∈ wsL_law := inr_21 _ (List.mem_of_getElem? (i := 22) rfl)
theorem m_21_23 : Cond.selects RX1 yX1_raise yX1_raise ∈ wsL_law := inr_21 _ (List.mem_of_getElem? (i := 23) rfl)
theorem m_22_0 : Cond.code yX1_raise cX1_raise 5 (some .int) ∈ wsL_law := inr_22 _ (List.mem_of_getElem? (i := 0) rfl)
theorem m_22_1 : Cond.methodLink RX5 166 yX5_goOn ∈ wsL_law := inr_22 _ (List.mem_of_getElem? (i := 1) rfl)
theorem m_22_2 : Cond.instanceMethod yX5_goOn ∈ wsL_law := inr_22 _ (List.mem_of_getElem? (i := 2) rfl)
theorem m_22_3 : Cond.selects RX5 yX5_goOn yX5_goOn ∈ wsL_law := inr_22 _ (List.mem_of_getElem? (i := 3) rfl)
theorem m_22_4 : Cond.code yX5_goOn cX5_goOn 6 none ∈ wsL_law := inr_22 _ (List.mem_of_getElem? (i := 4) rfl)
theorem m_22_5 : Cond.fieldLink RX5 187 "Multidell" "wastedCopies" "I" ∈ wsL_law := inr_22 _ (List.mem_of_getElem? (i := 5) rfl)
theorem m_22_6 : Cond.methodLink RX5 240 yX0_put ∈ wsL_law := inr_22 _ (List.mem_of_getElem? (i := 6) rfl)
theorem m_22_7 : Cond.instanceMethod yX0_put ∈ wsL_law := inr_22 _ (List.mem_of_getElem? (i := 7) rfl)
theorem m_22_8 : Cond.selects RX0 yX0_put yX0_put ∈ wsL_law := inr_22 _ (List.mem_of_getElem? (i := 8) rfl)
theorem m_22_9 : Cond.code yX0_put cX0_put 6 (some .boolean) ∈ wsL_law := inr_22 _ (List.mem_of_getElem? (i := 9) rfl)
theorem m_22_10 : Cond.fieldLink RX0 24 "Multidell$CopyQueue" "size" "I" ∈ wsL_law := inr_22 _ (List.mem_of_getElem? (i := 10) rfl)
theorem m_22_11 : Cond.fieldLink RX0 28 "Multidell$CopyQueue" "first" "I" ∈ wsL_law := inr_22 _ (List.mem_of_getElem? (i := 11) rfl)
theorem m_22_12 : Cond.methodLink RL 129 yX6_send ∈ wsL_law := inr_22 _ (List.mem_of_getElem? (i := 12) rfl)
theorem m_22_13 : Cond.instanceMethod yX6_send ∈ wsL_law := inr_22 _ (List.mem_of_getElem? (i := 13) rfl)
theorem m_22_14 : Cond.selects RX6 yX6_send yX6_send ∈ wsL_law := inr_22 _ (List.mem_of_getElem? (i := 14) rfl)
theorem m_22_15 : Cond.code yX6_send cX6_send 6 (some .int) ∈ wsL_law := inr_22 _ (List.mem_of_getElem? (i := 15) rfl)
theorem m_22_16 : Cond.fieldLink RX6 121 "MultidellModel" "packets" "I" ∈ wsL_law := inr_22 _ (List.mem_of_getElem? (i := 16) rfl)
theorem m_22_17 : Cond.methodLink RX6 124 yX6_gets ∈ wsL_law := inr_22 _ (List.mem_of_getElem? (i := 17) rfl)
theorem m_22_18 : Cond.instanceMethod yX6_gets ∈ wsL_law := inr_22 _ (List.mem_of_getElem? (i := 18) rfl)
theorem m_22_19 : Cond.selects RX6 yX6_gets yX6_gets ∈ wsL_law := inr_22 _ (List.mem_of_getElem? (i := 19) rfl)
theorem m_22_20 : Cond.code yX6_gets cX6_gets 6 (some .boolean) ∈ wsL_law := inr_22 _ (List.mem_of_getElem? (i := 20) rfl)
theorem m_22_21 : Cond.methodLink RX6 114 yX6_counts ∈ wsL_law := inr_22 _ (List.mem_of_getElem? (i := 21) rfl)
theorem m_22_22 : Cond.instanceMethod yX6_counts ∈ wsL_law := inr_22 _ (List.mem_of_getElem? (i := 22) rfl)
theorem m_22_23 : Cond.selects RX6 yX6_counts yX6_counts ∈ wsL_law := inr_22 _ (List.mem_of_getElem? (i := 23) rfl)
theorem m_23_0 : Cond.code yX6_counts cX6_counts 5 none ∈ wsL_law := inr_23 _ (List.mem_of_getElem? (i := 0) rfl)
theorem m_23_1 : Cond.methodLink RX6 118 yX6_goesOn ∈ wsL_law := inr_23 _ (List.mem_of_getElem? (i := 1) rfl)
theorem m_23_2 : Cond.instanceMethod yX6_goesOn ∈ wsL_law := inr_23 _ (List.mem_of_getElem? (i := 2) rfl)
theorem m_23_3 : Cond.selects RX6 yX6_goesOn yX6_goesOn ∈ wsL_law := inr_23 _ (List.mem_of_getElem? (i := 3) rfl)
theorem m_23_4 : Cond.code yX6_goesOn cX6_goesOn 6 none ∈ wsL_law := inr_23 _ (List.mem_of_getElem? (i := 4) rfl)
theorem m_23_5 : Cond.fieldLink RX6 108 "MultidellModel" "queued" "I" ∈ wsL_law := inr_23 _ (List.mem_of_getElem? (i := 5) rfl)
theorem m_23_6 : Cond.fieldLink RX6 111 "MultidellModel" "wasted" "I" ∈ wsL_law := inr_23 _ (List.mem_of_getElem? (i := 6) rfl)
theorem m_23_7 : Cond.methodLink RL 130 yX5_follow ∈ wsL_law := inr_23 _ (List.mem_of_getElem? (i := 7) rfl)
theorem m_23_8 : Cond.instanceMethod yX5_follow ∈ wsL_law := inr_23 _ (List.mem_of_getElem? (i := 8) rfl)
theorem m_23_9 : Cond.selects RX5 yX5_follow yX5_follow ∈ wsL_law := inr_23 _ (List.mem_of_getElem? (i := 9) rfl)
theorem m_23_10 : Cond.code yX5_follow cX5_follow 5 (some .int) ∈ wsL_law := inr_23 _ (List.mem_of_getElem? (i := 10) rfl)
theorem m_23_11 : Cond.methodLink RX5 169 yX0_isEmpty ∈ wsL_law := inr_23 _ (List.mem_of_getElem? (i := 11) rfl)
theorem m_23_12 : Cond.instanceMethod yX0_isEmpty ∈ wsL_law := inr_23 _ (List.mem_of_getElem? (i := 12) rfl)
theorem m_23_13 : Cond.selects RX0 yX0_isEmpty yX0_isEmpty ∈ wsL_law := inr_23 _ (List.mem_of_getElem? (i := 13) rfl)
theorem m_23_14 : Cond.code yX0_isEmpty cX0_isEmpty 1 (some .boolean) ∈ wsL_law := inr_23 _ (List.mem_of_getElem? (i := 14) rfl)
theorem m_23_15 : Cond.methodLink RX5 172 yX0_firstPacket ∈ wsL_law := inr_23 _ (List.mem_of_getElem? (i := 15) rfl)
theorem m_23_16 : Cond.instanceMethod yX0_firstPacket ∈ wsL_law := inr_23 _ (List.mem_of_getElem? (i := 16) rfl)
theorem m_23_17 : Cond.selects RX0 yX0_firstPacket yX0_firstPacket ∈ wsL_law := inr_23 _ (List.mem_of_getElem? (i := 17) rfl)
theorem m_23_18 : Cond.code yX0_firstPacket cX0_firstPacket 1 (some .int) ∈ wsL_law := inr_23 _ (List.mem_of_getElem? (i := 18) rfl)
theorem m_23_19 : Cond.methodLink RX0 31 yX0_firstIn ∈ wsL_law := inr_23 _ (List.mem_of_getElem? (i := 19) rfl)
theorem m_23_20 : Cond.instanceMethod yX0_firstIn ∈ wsL_law := inr_23 _ (List.mem_of_getElem? (i := 20) rfl)
theorem m_23_21 : Cond.selects RX0 yX0_firstIn yX0_firstIn ∈ wsL_law := inr_23 _ (List.mem_of_getElem? (i := 21) rfl)
theorem m_23_22 : Cond.code yX0_firstIn cX0_firstIn 2 (some .int) ∈ wsL_law := inr_23 _ (List.mem_of_getElem? (i := 22) rfl)
theorem m_23_23 : Cond.methodLink RX5 175 yX0_firstTree ∈ wsL_law := inr_23 _ (List.mem_of_getElem? (i := 23) rfl)
theorem m_24_0 : Cond.instanceMethod yX0_firstTree ∈ wsL_law := inr_24 _ (List.mem_of_getElem? (i := 0) rfl)
theorem m_24_1 : Cond.selects RX0 yX0_firstTree yX0_firstTree ∈ wsL_law := inr_24 _ (List.mem_of_getElem? (i := 1) rfl)
theorem m_24_2 : Cond.code yX0_firstTree cX0_firstTree 1 (some .int) ∈ wsL_law := inr_24 _ (List.mem_of_getElem? (i := 2) rfl)
theorem m_24_3 : Cond.methodLink RX5 178 yX0_firstFrom ∈ wsL_law := inr_24 _ (List.mem_of_getElem? (i := 3) rfl)
theorem m_24_4 : Cond.instanceMethod yX0_firstFrom ∈ wsL_law := inr_24 _ (List.mem_of_getElem? (i := 4) rfl)
theorem m_24_5 : Cond.selects RX0 yX0_firstFrom yX0_firstFrom ∈ wsL_law := inr_24 _ (List.mem_of_getElem? (i := 5) rfl)
theorem m_24_6 : Cond.code yX0_firstFrom cX0_firstFrom 1 (some .int) ∈ wsL_law := inr_24 _ (List.mem_of_getElem? (i := 6) rfl)
theorem m_24_7 : Cond.methodLink RX5 181 yX0_firstTo ∈ wsL_law := inr_24 _ (List.mem_of_getElem? (i := 7) rfl)
theorem m_24_8 : Cond.instanceMethod yX0_firstTo ∈ wsL_law := inr_24 _ (List.mem_of_getElem? (i := 8) rfl)
theorem m_24_9 : Cond.selects RX0 yX0_firstTo yX0_firstTo ∈ wsL_law := inr_24 _ (List.mem_of_getElem? (i := 9) rfl)
theorem m_24_10 : Cond.code yX0_firstTo cX0_firstTo 1 (some .int) ∈ wsL_law := inr_24 _ (List.mem_of_getElem? (i := 10) rfl)
theorem m_24_11 : Cond.methodLink RX5 184 yX0_removeFirst ∈ wsL_law := inr_24 _ (List.mem_of_getElem? (i := 11) rfl)
theorem m_24_12 : Cond.instanceMethod yX0_removeFirst ∈ wsL_law := inr_24 _ (List.mem_of_getElem? (i := 12) rfl)
theorem m_24_13 : Cond.selects RX0 yX0_removeFirst yX0_removeFirst ∈ wsL_law := inr_24 _ (List.mem_of_getElem? (i := 13) rfl)
theorem m_24_14 : Cond.code yX0_removeFirst cX0_removeFirst 1 none ∈ wsL_law := inr_24 _ (List.mem_of_getElem? (i := 14) rfl)
theorem m_24_15 : Cond.methodLink RL 133 yX6_follow ∈ wsL_law := inr_24 _ (List.mem_of_getElem? (i := 15) rfl)
theorem m_24_16 : Cond.instanceMethod yX6_follow ∈ wsL_law := inr_24 _ (List.mem_of_getElem? (i := 16) rfl)
theorem m_24_17 : Cond.selects RX6 yX6_follow yX6_follow ∈ wsL_law := inr_24 _ (List.mem_of_getElem? (i := 17) rfl)
theorem m_24_18 : Cond.code yX6_follow cX6_follow 1 (some .int) ∈ wsL_law := inr_24 _ (List.mem_of_getElem? (i := 18) rfl)
theorem m_24_19 : Cond.methodLink RX6 128 yX6_follows ∈ wsL_law := inr_24 _ (List.mem_of_getElem? (i := 19) rfl)
theorem m_24_20 : Cond.instanceMethod yX6_follows ∈ wsL_law := inr_24 _ (List.mem_of_getElem? (i := 20) rfl)
theorem m_24_21 : Cond.selects RX6 yX6_follows yX6_follows ∈ wsL_law := inr_24 _ (List.mem_of_getElem? (i := 21) rfl)
theorem m_24_22 : Cond.code yX6_follows cX6_follows 7 (some .int) ∈ wsL_law := inr_24 _ (List.mem_of_getElem? (i := 22) rfl)
theorem m_24_23 : Cond.methodLink RL 134 yX5_followAll ∈ wsL_law := inr_24 _ (List.mem_of_getElem? (i := 23) rfl)
theorem m_25_0 : Cond.instanceMethod yX5_followAll ∈ wsL_law := inr_25 _ (List.mem_of_getElem? (i := 0) rfl)
theorem m_25_1 : Cond.selects RX5 yX5_followAll yX5_followAll ∈ wsL_law := inr_25 _ (List.mem_of_getElem? (i := 1) rfl)
theorem m_25_2 : Cond.code yX5_followAll cX5_followAll 2 (some .int) ∈ wsL_law := inr_25 _ (List.mem_of_getElem? (i := 2) rfl)
theorem m_25_3 : Cond.constant RX5 190 (1000000) ∈ wsL_law := inr_25 _ (List.mem_of_getElem? (i := 3) rfl)
theorem m_25_4 : Cond.methodLink RX5 191 yX5_follow ∈ wsL_law := inr_25 _ (List.mem_of_getElem? (i := 4) rfl)
theorem m_25_5 : Cond.methodLink RL 137 yX6_followAll ∈ wsL_law := inr_25 _ (List.mem_of_getElem? (i := 5) rfl)
theorem m_25_6 : Cond.instanceMethod yX6_followAll ∈ wsL_law := inr_25 _ (List.mem_of_getElem? (i := 6) rfl)
theorem m_25_7 : Cond.selects RX6 yX6_followAll yX6_followAll ∈ wsL_law := inr_25 _ (List.mem_of_getElem? (i := 7) rfl)
theorem m_25_8 : Cond.code yX6_followAll cX6_followAll 2 (some .int) ∈ wsL_law := inr_25 _ (List.mem_of_getElem? (i := 8) rfl)
theorem m_25_9 : Cond.methodLink RL 138 yX5_queued ∈ wsL_law := inr_25 _ (List.mem_of_getElem? (i := 9) rfl)
theorem m_25_10 : Cond.instanceMethod yX5_queued ∈ wsL_law := inr_25 _ (List.mem_of_getElem? (i := 10) rfl)
theorem m_25_11 : Cond.selects RX5 yX5_queued yX5_queued ∈ wsL_law := inr_25 _ (List.mem_of_getElem? (i := 11) rfl)
theorem m_25_12 : Cond.code yX5_queued cX5_queued 1 (some .int) ∈ wsL_law := inr_25 _ (List.mem_of_getElem? (i := 12) rfl)
theorem m_25_13 : Cond.methodLink RX5 194 yX0_count ∈ wsL_law := inr_25 _ (List.mem_of_getElem? (i := 13) rfl)
theorem m_25_14 : Cond.instanceMethod yX0_count ∈ wsL_law := inr_25 _ (List.mem_of_getElem? (i := 14) rfl)
theorem m_25_15 : Cond.selects RX0 yX0_count yX0_count ∈ wsL_law := inr_25 _ (List.mem_of_getElem? (i := 15) rfl)
theorem m_25_16 : Cond.code yX0_count cX0_count 1 (some .int) ∈ wsL_law := inr_25 _ (List.mem_of_getElem? (i := 16) rfl)
theorem m_25_17 : Cond.methodLink RL 141 yX6_queued ∈ wsL_law := inr_25 _ (List.mem_of_getElem? (i := 17) rfl)
theorem m_25_18 : Cond.instanceMethod yX6_queued ∈ wsL_law := inr_25 _ (List.mem_of_getElem? (i := 18) rfl)
theorem m_25_19 : Cond.selects RX6 yX6_queued yX6_queued ∈ wsL_law := inr_25 _ (List.mem_of_getElem? (i := 19) rfl)
theorem m_25_20 : Cond.code yX6_queued cX6_queued 1 (some .int) ∈ wsL_law := inr_25 _ (List.mem_of_getElem? (i := 20) rfl)
theorem m_25_21 : Cond.methodLink RL 142 yX5_nextTo ∈ wsL_law := inr_25 _ (List.mem_of_getElem? (i := 21) rfl)
theorem m_25_22 : Cond.instanceMethod yX5_nextTo ∈ wsL_law := inr_25 _ (List.mem_of_getElem? (i := 22) rfl)
theorem m_25_23 : Cond.selects RX5 yX5_nextTo yX5_nextTo ∈ wsL_law := inr_25 _ (List.mem_of_getElem? (i := 23) rfl)
theorem m_26_0 : Cond.code yX5_nextTo cX5_nextTo 1 (some .int) ∈ wsL_law := inr_26 _ (List.mem_of_getElem? (i := 0) rfl)
theorem m_26_1 : Cond.methodLink RL 145 yX6_nextTo ∈ wsL_law := inr_26 _ (List.mem_of_getElem? (i := 1) rfl)
theorem m_26_2 : Cond.instanceMethod yX6_nextTo ∈ wsL_law := inr_26 _ (List.mem_of_getElem? (i := 2) rfl)
theorem m_26_3 : Cond.selects RX6 yX6_nextTo yX6_nextTo ∈ wsL_law := inr_26 _ (List.mem_of_getElem? (i := 3) rfl)
theorem m_26_4 : Cond.code yX6_nextTo cX6_nextTo 1 (some .int) ∈ wsL_law := inr_26 _ (List.mem_of_getElem? (i := 4) rfl)
theorem m_26_5 : Cond.methodLink RL 146 yL_received ∈ wsL_law := inr_26 _ (List.mem_of_getElem? (i := 5) rfl)
theorem m_26_6 : Cond.static yL_received ∈ wsL_law := inr_26 _ (List.mem_of_getElem? (i := 6) rfl)
theorem m_26_7 : Cond.codeWith yL_received cL_received 4 (some .int) [(0, 9, 12, 13)] ∈ wsL_law := inr_26 _ (List.mem_of_getElem? (i := 7) rfl)
theorem m_26_8 : Cond.methodLink RL 58 yX5_received ∈ wsL_law := inr_26 _ (List.mem_of_getElem? (i := 8) rfl)
theorem m_26_9 : Cond.instanceMethod yX5_received ∈ wsL_law := inr_26 _ (List.mem_of_getElem? (i := 9) rfl)
theorem m_26_10 : Cond.selects RX5 yX5_received yX5_received ∈ wsL_law := inr_26 _ (List.mem_of_getElem? (i := 10) rfl)
theorem m_26_11 : Cond.code yX5_received cX5_received 2 (some .int) ∈ wsL_law := inr_26 _ (List.mem_of_getElem? (i := 11) rfl)
theorem m_26_12 : Cond.methodLink RX5 197 yX5_checkPacket ∈ wsL_law := inr_26 _ (List.mem_of_getElem? (i := 12) rfl)
theorem m_26_13 : Cond.instanceMethod yX5_checkPacket ∈ wsL_law := inr_26 _ (List.mem_of_getElem? (i := 13) rfl)
theorem m_26_14 : Cond.selects RX5 yX5_checkPacket yX5_checkPacket ∈ wsL_law := inr_26 _ (List.mem_of_getElem? (i := 14) rfl)
theorem m_26_15 : Cond.code yX5_checkPacket cX5_checkPacket 2 none ∈ wsL_law := inr_26 _ (List.mem_of_getElem? (i := 15) rfl)
theorem m_26_16 : Cond.methodLink RX5 244 yX3_isPacket ∈ wsL_law := inr_26 _ (List.mem_of_getElem? (i := 16) rfl)
theorem m_26_17 : Cond.methodLink RL 148 yX6_received ∈ wsL_law := inr_26 _ (List.mem_of_getElem? (i := 17) rfl)
theorem m_26_18 : Cond.instanceMethod yX6_received ∈ wsL_law := inr_26 _ (List.mem_of_getElem? (i := 18) rfl)
theorem m_26_19 : Cond.selects RX6 yX6_received yX6_received ∈ wsL_law := inr_26 _ (List.mem_of_getElem? (i := 19) rfl)
theorem m_26_20 : Cond.code yX6_received cX6_received 2 (some .int) ∈ wsL_law := inr_26 _ (List.mem_of_getElem? (i := 20) rfl)
theorem m_26_21 : Cond.methodLink RX6 132 yX6_isPacket ∈ wsL_law := inr_26 _ (List.mem_of_getElem? (i := 21) rfl)
theorem m_26_22 : Cond.instanceMethod yX6_isPacket ∈ wsL_law := inr_26 _ (List.mem_of_getElem? (i := 22) rfl)
theorem m_26_23 : Cond.selects RX6 yX6_isPacket yX6_isPacket ∈ wsL_law := inr_26 _ (List.mem_of_getElem? (i := 23) rfl)
theorem m_27_0 : Cond.code yX6_isPacket cX6_isPacket 2 (some .boolean) ∈ wsL_law := inr_27 _ (List.mem_of_getElem? (i := 0) rfl)
theorem m_27_1 : Cond.methodLink RL 149 yL_doubles ∈ wsL_law := inr_27 _ (List.mem_of_getElem? (i := 1) rfl)
theorem m_27_2 : Cond.static yL_doubles ∈ wsL_law := inr_27 _ (List.mem_of_getElem? (i := 2) rfl)
theorem m_27_3 : Cond.codeWith yL_doubles cL_doubles 4 (some .int) [(0, 9, 12, 13)] ∈ wsL_law := inr_27 _ (List.mem_of_getElem? (i := 3) rfl)
theorem m_27_4 : Cond.methodLink RL 61 yX5_doubles ∈ wsL_law := inr_27 _ (List.mem_of_getElem? (i := 4) rfl)
theorem m_27_5 : Cond.instanceMethod yX5_doubles ∈ wsL_law := inr_27 _ (List.mem_of_getElem? (i := 5) rfl)
theorem m_27_6 : Cond.selects RX5 yX5_doubles yX5_doubles ∈ wsL_law := inr_27 _ (List.mem_of_getElem? (i := 6) rfl)
theorem m_27_7 : Cond.code yX5_doubles cX5_doubles 2 (some .int) ∈ wsL_law := inr_27 _ (List.mem_of_getElem? (i := 7) rfl)
theorem m_27_8 : Cond.methodLink RX5 203 yX3_doublesOf ∈ wsL_law := inr_27 _ (List.mem_of_getElem? (i := 8) rfl)
theorem m_27_9 : Cond.instanceMethod yX3_doublesOf ∈ wsL_law := inr_27 _ (List.mem_of_getElem? (i := 9) rfl)
theorem m_27_10 : Cond.selects RX3 yX3_doublesOf yX3_doublesOf ∈ wsL_law := inr_27 _ (List.mem_of_getElem? (i := 10) rfl)
theorem m_27_11 : Cond.code yX3_doublesOf cX3_doublesOf 2 (some .int) ∈ wsL_law := inr_27 _ (List.mem_of_getElem? (i := 11) rfl)
theorem m_27_12 : Cond.methodLink RL 151 yX6_doubles ∈ wsL_law := inr_27 _ (List.mem_of_getElem? (i := 12) rfl)
theorem m_27_13 : Cond.instanceMethod yX6_doubles ∈ wsL_law := inr_27 _ (List.mem_of_getElem? (i := 13) rfl)
theorem m_27_14 : Cond.selects RX6 yX6_doubles yX6_doubles ∈ wsL_law := inr_27 _ (List.mem_of_getElem? (i := 14) rfl)
theorem m_27_15 : Cond.code yX6_doubles cX6_doubles 2 (some .int) ∈ wsL_law := inr_27 _ (List.mem_of_getElem? (i := 15) rfl)
theorem m_27_16 : Cond.methodLink RL 152 yX5_wasted ∈ wsL_law := inr_27 _ (List.mem_of_getElem? (i := 16) rfl)
theorem m_27_17 : Cond.instanceMethod yX5_wasted ∈ wsL_law := inr_27 _ (List.mem_of_getElem? (i := 17) rfl)
theorem m_27_18 : Cond.selects RX5 yX5_wasted yX5_wasted ∈ wsL_law := inr_27 _ (List.mem_of_getElem? (i := 18) rfl)
theorem m_27_19 : Cond.code yX5_wasted cX5_wasted 1 (some .int) ∈ wsL_law := inr_27 _ (List.mem_of_getElem? (i := 19) rfl)
theorem m_27_20 : Cond.methodLink RL 155 yX6_wasted ∈ wsL_law := inr_27 _ (List.mem_of_getElem? (i := 20) rfl)
theorem m_27_21 : Cond.instanceMethod yX6_wasted ∈ wsL_law := inr_27 _ (List.mem_of_getElem? (i := 21) rfl)
theorem m_27_22 : Cond.selects RX6 yX6_wasted yX6_wasted ∈ wsL_law := inr_27 _ (List.mem_of_getElem? (i := 22) rfl)
theorem m_27_23 : Cond.code yX6_wasted cX6_wasted 1 (some .int) ∈ wsL_law := inr_27 _ (List.mem_of_getElem? (i := 23) rfl)
theorem m_28_0 : Cond.methodLink RL 156 yL_pass ∈ wsL_law := inr_28 _ (List.mem_of_getElem? (i := 0) rfl)
theorem m_28_1 : Cond.static yL_pass ∈ wsL_law := inr_28 _ (List.mem_of_getElem? (i := 1) rfl)
theorem m_28_2 : Cond.codeWith yL_pass cL_pass 4 (some .int) [(0, 9, 12, 15)] ∈ wsL_law := inr_28 _ (List.mem_of_getElem? (i := 2) rfl)
theorem m_28_3 : Cond.methodLink RL 64 yX5_pass ∈ wsL_law := inr_28 _ (List.mem_of_getElem? (i := 3) rfl)
theorem m_28_4 : Cond.instanceMethod yX5_pass ∈ wsL_law := inr_28 _ (List.mem_of_getElem? (i := 4) rfl)
theorem m_28_5 : Cond.selects RX5 yX5_pass yX5_pass ∈ wsL_law := inr_28 _ (List.mem_of_getElem? (i := 5) rfl)
theorem m_28_6 : Cond.code yX5_pass cX5_pass 4 (some .int) ∈ wsL_law := inr_28 _ (List.mem_of_getElem? (i := 6) rfl)
theorem m_28_7 : Cond.methodLink RX5 208 yX2_removeDue ∈ wsL_law := inr_28 _ (List.mem_of_getElem? (i := 7) rfl)
theorem m_28_8 : Cond.instanceMethod yX2_removeDue ∈ wsL_law := inr_28 _ (List.mem_of_getElem? (i := 8) rfl)
theorem m_28_9 : Cond.selects RX2 yX2_removeDue yX2_removeDue ∈ wsL_law := inr_28 _ (List.mem_of_getElem? (i := 9) rfl)
theorem m_28_10 : Cond.code yX2_removeDue cX2_removeDue 5 (some .int) ∈ wsL_law := inr_28 _ (List.mem_of_getElem? (i := 10) rfl)
theorem m_28_11 : Cond.methodLink RX2 61 yX2_isDue ∈ wsL_law := inr_28 _ (List.mem_of_getElem? (i := 11) rfl)
theorem m_28_12 : Cond.instanceMethod yX2_isDue ∈ wsL_law := inr_28 _ (List.mem_of_getElem? (i := 12) rfl)
theorem m_28_13 : Cond.selects RX2 yX2_isDue yX2_isDue ∈ wsL_law := inr_28 _ (List.mem_of_getElem? (i := 13) rfl)
theorem m_28_14 : Cond.code yX2_isDue cX2_isDue 4 (some .boolean) ∈ wsL_law := inr_28 _ (List.mem_of_getElem? (i := 14) rfl)
theorem m_28_15 : Cond.methodLink RX2 65 yX2_remove ∈ wsL_law := inr_28 _ (List.mem_of_getElem? (i := 15) rfl)
theorem m_28_16 : Cond.instanceMethod yX2_remove ∈ wsL_law := inr_28 _ (List.mem_of_getElem? (i := 16) rfl)
theorem m_28_17 : Cond.selects RX2 yX2_remove yX2_remove ∈ wsL_law := inr_28 _ (List.mem_of_getElem? (i := 17) rfl)
theorem m_28_18 : Cond.code yX2_remove cX2_remove 5 none ∈ wsL_law := inr_28 _ (List.mem_of_getElem? (i := 18) rfl)
theorem m_28_19 : Cond.methodLink RX5 211 yX1_forgetAll ∈ wsL_law := inr_28 _ (List.mem_of_getElem? (i := 19) rfl)
theorem m_28_20 : Cond.instanceMethod yX1_forgetAll ∈ wsL_law := inr_28 _ (List.mem_of_getElem? (i := 20) rfl)
theorem m_28_21 : Cond.selects RX1 yX1_forgetAll yX1_forgetAll ∈ wsL_law := inr_28 _ (List.mem_of_getElem? (i := 21) rfl)
theorem m_28_22 : Cond.code yX1_forgetAll cX1_forgetAll 1 none ∈ wsL_law := inr_28 _ (List.mem_of_getElem? (i := 22) rfl)
theorem m_28_23 : Cond.methodLink RX1 23 yJ7_fill_53178 ∈ wsL_law := inr_28 _ (List.mem_of_getElem? (i := 23) rfl)
theorem m_29_0 : Cond.methodLink RL 158 yX6_pass ∈ wsL_law := inr_29 _ (List.mem_of_getElem? (i := 0) rfl)
theorem m_29_1 : Cond.instanceMethod yX6_pass ∈ wsL_law := inr_29 _ (List.mem_of_getElem? (i := 1) rfl)
theorem m_29_2 : Cond.selects RX6 yX6_pass yX6_pass ∈ wsL_law := inr_29 _ (List.mem_of_getElem? (i := 2) rfl)
theorem m_29_3 : Cond.code yX6_pass cX6_pass 5 (some .int) ∈ wsL_law := inr_29 _ (List.mem_of_getElem? (i := 3) rfl)
theorem m_29_4 : Cond.methodLink RX6 135 yX6_second ∈ wsL_law := inr_29 _ (List.mem_of_getElem? (i := 4) rfl)
theorem m_29_5 : Cond.instanceMethod yX6_second ∈ wsL_law := inr_29 _ (List.mem_of_getElem? (i := 5) rfl)
theorem m_29_6 : Cond.selects RX6 yX6_second yX6_second ∈ wsL_law := inr_29 _ (List.mem_of_getElem? (i := 6) rfl)
theorem m_29_7 : Cond.code yX6_second cX6_second 6 (some .int) ∈ wsL_law := inr_29 _ (List.mem_of_getElem? (i := 7) rfl)
theorem m_29_8 : Cond.methodLink RL 159 yX5_clock ∈ wsL_law := inr_29 _ (List.mem_of_getElem? (i := 8) rfl)
theorem m_29_9 : Cond.instanceMethod yX5_clock ∈ wsL_law := inr_29 _ (List.mem_of_getElem? (i := 9) rfl)
theorem m_29_10 : Cond.selects RX5 yX5_clock yX5_clock ∈ wsL_law := inr_29 _ (List.mem_of_getElem? (i := 10) rfl)
theorem m_29_11 : Cond.code yX5_clock cX5_clock 1 (some .int) ∈ wsL_law := inr_29 _ (List.mem_of_getElem? (i := 11) rfl)
theorem m_29_12 : Cond.methodLink RL 162 yX6_clock ∈ wsL_law := inr_29 _ (List.mem_of_getElem? (i := 12) rfl)
theorem m_29_13 : Cond.instanceMethod yX6_clock ∈ wsL_law := inr_29 _ (List.mem_of_getElem? (i := 13) rfl)
theorem m_29_14 : Cond.selects RX6 yX6_clock yX6_clock ∈ wsL_law := inr_29 _ (List.mem_of_getElem? (i := 14) rfl)
theorem m_29_15 : Cond.code yX6_clock cX6_clock 1 (some .int) ∈ wsL_law := inr_29 _ (List.mem_of_getElem? (i := 15) rfl)
theorem m_29_16 : Cond.methodLink RL 163 yL_floodMembers ∈ wsL_law := inr_29 _ (List.mem_of_getElem? (i := 16) rfl)
theorem m_29_17 : Cond.static yL_floodMembers ∈ wsL_law := inr_29 _ (List.mem_of_getElem? (i := 17) rfl)
theorem m_29_18 : Cond.codeWith yL_floodMembers cL_floodMembers 5 (some .int) [(0, 10, 13, 13)] ∈ wsL_law := inr_29 _ (List.mem_of_getElem? (i := 18) rfl)
theorem m_29_19 : Cond.methodLink RL 67 yX5_floodMembers ∈ wsL_law := inr_29 _ (List.mem_of_getElem? (i := 19) rfl)
theorem m_29_20 : Cond.instanceMethod yX5_floodMembers ∈ wsL_law := inr_29 _ (List.mem_of_getElem? (i := 20) rfl)
theorem m_29_21 : Cond.selects RX5 yX5_floodMembers yX5_floodMembers ∈ wsL_law := inr_29 _ (List.mem_of_getElem? (i := 21) rfl)
theorem m_29_22 : Cond.code yX5_floodMembers cX5_floodMembers 3 (some .int) ∈ wsL_law := inr_29 _ (List.mem_of_getElem? (i := 22) rfl)
theorem m_29_23 : Cond.methodLink RX5 214 yX5_floodedFrom ∈ wsL_law := inr_29 _ (List.mem_of_getElem? (i := 23) rfl)
theorem m_30_0 : Cond.instanceMethod yX5_floodedFrom ∈ wsL_law := inr_30 _ (List.mem_of_getElem? (i := 0) rfl)
theorem m_30_1 : Cond.selects RX5 yX5_floodedFrom yX5_floodedFrom ∈ wsL_law := inr_30 _ (List.mem_of_getElem? (i := 1) rfl)
theorem m_30_2 : Cond.code yX5_floodedFrom cX5_floodedFrom 4 (some .int) ∈ wsL_law := inr_30 _ (List.mem_of_getElem? (i := 2) rfl)
theorem m_30_3 : Cond.methodLink RL 165 yX6_floodMembers ∈ wsL_law := inr_30 _ (List.mem_of_getElem? (i := 3) rfl)
theorem m_30_4 : Cond.instanceMethod yX6_floodMembers ∈ wsL_law := inr_30 _ (List.mem_of_getElem? (i := 4) rfl)
theorem m_30_5 : Cond.selects RX6 yX6_floodMembers yX6_floodMembers ∈ wsL_law := inr_30 _ (List.mem_of_getElem? (i := 5) rfl)
theorem m_30_6 : Cond.code yX6_floodMembers cX6_floodMembers 5 (some .int) ∈ wsL_law := inr_30 _ (List.mem_of_getElem? (i := 6) rfl)
theorem m_30_7 : Cond.methodLink RL 166 yL_floodCopies ∈ wsL_law := inr_30 _ (List.mem_of_getElem? (i := 7) rfl)
theorem m_30_8 : Cond.static yL_floodCopies ∈ wsL_law := inr_30 _ (List.mem_of_getElem? (i := 8) rfl)
theorem m_30_9 : Cond.codeWith yL_floodCopies cL_floodCopies 4 (some .int) [(0, 9, 12, 13)] ∈ wsL_law := inr_30 _ (List.mem_of_getElem? (i := 9) rfl)
theorem m_30_10 : Cond.methodLink RL 70 yX5_floodCopies ∈ wsL_law := inr_30 _ (List.mem_of_getElem? (i := 10) rfl)
theorem m_30_11 : Cond.instanceMethod yX5_floodCopies ∈ wsL_law := inr_30 _ (List.mem_of_getElem? (i := 11) rfl)
theorem m_30_12 : Cond.selects RX5 yX5_floodCopies yX5_floodCopies ∈ wsL_law := inr_30 _ (List.mem_of_getElem? (i := 12) rfl)
theorem m_30_13 : Cond.code yX5_floodCopies cX5_floodCopies 5 (some .int) ∈ wsL_law := inr_30 _ (List.mem_of_getElem? (i := 13) rfl)
theorem m_30_14 : Cond.methodLink RX5 217 yX4_linksOf ∈ wsL_law := inr_30 _ (List.mem_of_getElem? (i := 14) rfl)
theorem m_30_15 : Cond.instanceMethod yX4_linksOf ∈ wsL_law := inr_30 _ (List.mem_of_getElem? (i := 15) rfl)
theorem m_30_16 : Cond.selects RX4 yX4_linksOf yX4_linksOf ∈ wsL_law := inr_30 _ (List.mem_of_getElem? (i := 16) rfl)
theorem m_30_17 : Cond.code yX4_linksOf cX4_linksOf 4 (some .int) ∈ wsL_law := inr_30 _ (List.mem_of_getElem? (i := 17) rfl)
theorem m_30_18 : Cond.methodLink RL 168 yX6_floodCopies ∈ wsL_law := inr_30 _ (List.mem_of_getElem? (i := 18) rfl)
theorem m_30_19 : Cond.instanceMethod yX6_floodCopies ∈ wsL_law := inr_30 _ (List.mem_of_getElem? (i := 19) rfl)
theorem m_30_20 : Cond.selects RX6 yX6_floodCopies yX6_floodCopies ∈ wsL_law := inr_30 _ (List.mem_of_getElem? (i := 20) rfl)
theorem m_30_21 : Cond.code yX6_floodCopies cX6_floodCopies 6 (some .int) ∈ wsL_law := inr_30 _ (List.mem_of_getElem? (i := 21) rfl)
end
section
theorem dJ6_bitCount_0f7a4_0 : decode cJ6_bitCount_0f7a4 0 = .ok (.iload_n 0, 1) := by decide +kernel
theorem dJ6_bitCount_0f7a4_1 : decode cJ6_bitCount_0f7a4 1 = .ok (.iload_n 0, 1) := by decide +kernel
theorem dJ6_bitCount_0f7a4_2 : decode cJ6_bitCount_0f7a4 2 = .ok (.iconst 1, 1) := by decide +kernel
theorem dJ6_bitCount_0f7a4_3 : decode cJ6_bitCount_0f7a4 3 = .ok (.iushr, 1) := by decide +kernel
theorem dJ6_bitCount_0f7a4_4 : decode cJ6_bitCount_0f7a4 4 = .ok (.ldc_w 265, 3) := by decide +kernel
theorem dJ6_bitCount_0f7a4_7 : decode cJ6_bitCount_0f7a4 7 = .ok (.iand, 1) := by decide +kernel
theorem dJ6_bitCount_0f7a4_8 : decode cJ6_bitCount_0f7a4 8 = .ok (.isub, 1) := by decide +kernel
theorem dJ6_bitCount_0f7a4_9 : decode cJ6_bitCount_0f7a4 9 = .ok (.istore_n 0, 1) := by decide +kernel
theorem dJ6_bitCount_0f7a4_10 : decode cJ6_bitCount_0f7a4 10 = .ok (.iload_n 0, 1) := by decide +kernel
theorem dJ6_bitCount_0f7a4_11 : decode cJ6_bitCount_0f7a4 11 = .ok (.ldc_w 266, 3) := by decide +kernel
theorem dJ6_bitCount_0f7a4_14 : decode cJ6_bitCount_0f7a4 14 = .ok (.iand, 1) := by decide +kernel
theorem dJ6_bitCount_0f7a4_15 : decode cJ6_bitCount_0f7a4 15 = .ok (.iload_n 0, 1) := by decide +kernel
theorem dJ6_bitCount_0f7a4_16 : decode cJ6_bitCount_0f7a4 16 = .ok (.iconst 2, 1) := by decide +kernel
theorem dJ6_bitCount_0f7a4_17 : decode cJ6_bitCount_0f7a4 17 = .ok (.iushr, 1) := by decide +kernel
theorem dJ6_bitCount_0f7a4_18 : decode cJ6_bitCount_0f7a4 18 = .ok (.ldc_w 266, 3) := by decide +kernel
theorem dJ6_bitCount_0f7a4_21 : decode cJ6_bitCount_0f7a4 21 = .ok (.iand, 1) := by decide +kernel
theorem dJ6_bitCount_0f7a4_22 : decode cJ6_bitCount_0f7a4 22 = .ok (.iadd, 1) := by decide +kernel
theorem dJ6_bitCount_0f7a4_23 : decode cJ6_bitCount_0f7a4 23 = .ok (.istore_n 0, 1) := by decide +kernel
theorem dJ6_bitCount_0f7a4_24 : decode cJ6_bitCount_0f7a4 24 = .ok (.iload_n 0, 1) := by decide +kernel
theorem dJ6_bitCount_0f7a4_25 : decode cJ6_bitCount_0f7a4 25 = .ok (.iload_n 0, 1) := by decide +kernel
theorem dJ6_bitCount_0f7a4_26 : decode cJ6_bitCount_0f7a4 26 = .ok (.iconst 4, 1) := by decide +kernel
theorem dJ6_bitCount_0f7a4_27 : decode cJ6_bitCount_0f7a4 27 = .ok (.iushr, 1) := by decide +kernel
theorem dJ6_bitCount_0f7a4_28 : decode cJ6_bitCount_0f7a4 28 = .ok (.iadd, 1) := by decide +kernel
theorem dJ6_bitCount_0f7a4_29 : decode cJ6_bitCount_0f7a4 29 = .ok (.ldc_w 267, 3) := by decide +kernel
theorem dJ6_bitCount_0f7a4_32 : decode cJ6_bitCount_0f7a4 32 = .ok (.iand, 1) := by decide +kernel
theorem dJ6_bitCount_0f7a4_33 : decode cJ6_bitCount_0f7a4 33 = .ok (.istore_n 0, 1) := by decide +kernel
theorem dJ6_bitCount_0f7a4_34 : decode cJ6_bitCount_0f7a4 34 = .ok (.iload_n 0, 1) := by decide +kernel
theorem dJ6_bitCount_0f7a4_35 : decode cJ6_bitCount_0f7a4 35 = .ok (.iload_n 0, 1) := by decide +kernel
theorem dJ6_bitCount_0f7a4_36 : decode cJ6_bitCount_0f7a4 36 = .ok (.bipush 8, 2) := by decide +kernel
theorem dJ6_bitCount_0f7a4_38 : decode cJ6_bitCount_0f7a4 38 = .ok (.iushr, 1) := by decide +kernel
theorem dJ6_bitCount_0f7a4_39 : decode cJ6_bitCount_0f7a4 39 = .ok (.iadd, 1) := by decide +kernel
theorem dJ6_bitCount_0f7a4_40 : decode cJ6_bitCount_0f7a4 40 = .ok (.istore_n 0, 1) := by decide +kernel
theorem dJ6_bitCount_0f7a4_41 : decode cJ6_bitCount_0f7a4 41 = .ok (.iload_n 0, 1) := by decide +kernel
theorem dJ6_bitCount_0f7a4_42 : decode cJ6_bitCount_0f7a4 42 = .ok (.iload_n 0, 1) := by decide +kernel
theorem dJ6_bitCount_0f7a4_43 : decode cJ6_bitCount_0f7a4 43 = .ok (.bipush 16, 2) := by decide +kernel
theorem dJ6_bitCount_0f7a4_45 : decode cJ6_bitCount_0f7a4 45 = .ok (.iushr, 1) := by decide +kernel
theorem dJ6_bitCount_0f7a4_46 : decode cJ6_bitCount_0f7a4 46 = .ok (.iadd, 1) := by decide +kernel
theorem dJ6_bitCount_0f7a4_47 : decode cJ6_bitCount_0f7a4 47 = .ok (.istore_n 0, 1) := by decide +kernel
theorem dJ6_bitCount_0f7a4_48 : decode cJ6_bitCount_0f7a4 48 = .ok (.iload_n 0, 1) := by decide +kernel
theorem dJ6_bitCount_0f7a4_49 : decode cJ6_bitCount_0f7a4 49 = .ok (.bipush 63, 2) := by decide +kernel
theorem dJ6_bitCount_0f7a4_51 : decode cJ6_bitCount_0f7a4 51 = .ok (.iand, 1) := by decide +kernel
theorem dJ6_bitCount_0f7a4_52 : decode cJ6_bitCount_0f7a4 52 = .ok (.ireturn, 1) := by decide +kernel
end
section
theorem dJ7_fill_53178_0 : decode cJ7_fill_53178 0 = .ok (.iconst 0, 1) := by decide +kernel
theorem dJ7_fill_53178_1 : decode cJ7_fill_53178 1 = .ok (.istore_n 2, 1) := by decide +kernel
theorem dJ7_fill_53178_2 : decode cJ7_fill_53178 2 = .ok (.aload_n 0, 1) := by decide +kernel
theorem dJ7_fill_53178_3 : decode cJ7_fill_53178 3 = .ok (.arraylength, 1) := by decide +kernel
theorem dJ7_fill_53178_4 : decode cJ7_fill_53178 4 = .ok (.istore_n 3, 1) := by decide +kernel
theorem dJ7_fill_53178_5 : decode cJ7_fill_53178 5 = .ok (.iload_n 2, 1) := by decide +kernel
theorem dJ7_fill_53178_6 : decode cJ7_fill_53178 6 = .ok (.iload_n 3, 1) := by decide +kernel
theorem dJ7_fill_53178_7 : decode cJ7_fill_53178 7 = .ok (.if_icmp .ge 13, 3) := by decide +kernel
theorem dJ7_fill_53178_10 : decode cJ7_fill_53178 10 = .ok (.aload_n 0, 1) := by decide +kernel
theorem dJ7_fill_53178_11 : decode cJ7_fill_53178 11 = .ok (.iload_n 2, 1) := by decide +kernel
theorem dJ7_fill_53178_12 : decode cJ7_fill_53178 12 = .ok (.iload_n 1, 1) := by decide +kernel
theorem dJ7_fill_53178_13 : decode cJ7_fill_53178 13 = .ok (.iastore, 1) := by decide +kernel
theorem dJ7_fill_53178_14 : decode cJ7_fill_53178 14 = .ok (.iinc 2 1, 3) := by decide +kernel
theorem dJ7_fill_53178_17 : decode cJ7_fill_53178 17 = .ok (.goto (-12), 3) := by decide +kernel
theorem dJ7_fill_53178_20 : decode cJ7_fill_53178 20 = .ok (.return_, 1) := by decide +kernel
end
section
theorem dL_setLink_0 : decode cL_setLink 0 = .ok (.aload 4, 2) := by decide +kernel
theorem dL_setLink_2 : decode cL_setLink 2 = .ok (.iconst 0, 1) := by decide +kernel
theorem dL_setLink_3 : decode cL_setLink 3 = .ok (.aload_n 0, 1) := by decide +kernel
theorem dL_setLink_4 : decode cL_setLink 4 = .ok (.iload_n 1, 1) := by decide +kernel
theorem dL_setLink_5 : decode cL_setLink 5 = .ok (.iload_n 2, 1) := by decide +kernel
theorem dL_setLink_6 : decode cL_setLink 6 = .ok (.iload_n 3, 1) := by decide +kernel
theorem dL_setLink_7 : decode cL_setLink 7 = .ok (.invokevirtual 7, 3) := by decide +kernel
theorem dL_setLink_10 : decode cL_setLink 10 = .ok (.i2l, 1) := by decide +kernel
theorem dL_setLink_11 : decode cL_setLink 11 = .ok (.lastore, 1) := by decide +kernel
theorem dL_setLink_12 : decode cL_setLink 12 = .ok (.goto 11, 3) := by decide +kernel
theorem dL_setLink_15 : decode cL_setLink 15 = .ok (.astore 5, 2) := by decide +kernel
theorem dL_setLink_17 : decode cL_setLink 17 = .ok (.iconst 1, 1) := by decide +kernel
theorem dL_setLink_18 : decode cL_setLink 18 = .ok (.ireturn, 1) := by decide +kernel
theorem dL_setLink_19 : decode cL_setLink 19 = .ok (.astore 5, 2) := by decide +kernel
theorem dL_setLink_21 : decode cL_setLink 21 = .ok (.iconst 2, 1) := by decide +kernel
theorem dL_setLink_22 : decode cL_setLink 22 = .ok (.ireturn, 1) := by decide +kernel
theorem dL_setLink_23 : decode cL_setLink 23 = .ok (.iconst 0, 1) := by decide +kernel
theorem dL_setLink_24 : decode cL_setLink 24 = .ok (.ireturn, 1) := by decide +kernel
theorem dL_setCandidate_0 : decode cL_setCandidate 0 = .ok (.aload_n 3, 1) := by decide +kernel
theorem dL_setCandidate_1 : decode cL_setCandidate 1 = .ok (.iconst 0, 1) := by decide +kernel
theorem dL_setCandidate_2 : decode cL_setCandidate 2 = .ok (.aload_n 0, 1) := by decide +kernel
theorem dL_setCandidate_3 : decode cL_setCandidate 3 = .ok (.iload_n 1, 1) := by decide +kernel
theorem dL_setCandidate_4 : decode cL_setCandidate 4 = .ok (.iload_n 2, 1) := by decide +kernel
theorem dL_setCandidate_5 : decode cL_setCandidate 5 = .ok (.invokevirtual 17, 3) := by decide +kernel
theorem dL_setCandidate_8 : decode cL_setCandidate 8 = .ok (.ifCond .eq 7, 3) := by decide +kernel
theorem dL_setCandidate_11 : decode cL_setCandidate 11 = .ok (.lconst 1, 1) := by decide +kernel
theorem dL_setCandidate_12 : decode cL_setCandidate 12 = .ok (.goto 4, 3) := by decide +kernel
theorem dL_setCandidate_15 : decode cL_setCandidate 15 = .ok (.lconst 0, 1) := by decide +kernel
theorem dL_setCandidate_16 : decode cL_setCandidate 16 = .ok (.lastore, 1) := by decide +kernel
theorem dL_setCandidate_17 : decode cL_setCandidate 17 = .ok (.goto 7, 3) := by decide +kernel
theorem dL_setCandidate_20 : decode cL_setCandidate 20 = .ok (.astore 4, 2) := by decide +kernel
theorem dL_setCandidate_22 : decode cL_setCandidate 22 = .ok (.iconst 1, 1) := by decide +kernel
theorem dL_setCandidate_23 : decode cL_setCandidate 23 = .ok (.ireturn, 1) := by decide +kernel
theorem dL_setCandidate_24 : decode cL_setCandidate 24 = .ok (.iconst 0, 1) := by decide +kernel
theorem dL_setCandidate_25 : decode cL_setCandidate 25 = .ok (.ireturn, 1) := by decide +kernel
theorem dL_setLimit_0 : decode cL_setLimit 0 = .ok (.aload_n 2, 1) := by decide +kernel
theorem dL_setLimit_1 : decode cL_setLimit 1 = .ok (.iconst 0, 1) := by decide +kernel
theorem dL_setLimit_2 : decode cL_setLimit 2 = .ok (.aload_n 0, 1) := by decide +kernel
theorem dL_setLimit_3 : decode cL_setLimit 3 = .ok (.iload_n 1, 1) := by decide +kernel
theorem dL_setLimit_4 : decode cL_setLimit 4 = .ok (.invokevirtual 21, 3) := by decide +kernel
theorem dL_setLimit_7 : decode cL_setLimit 7 = .ok (.i2l, 1) := by decide +kernel
theorem dL_setLimit_8 : decode cL_setLimit 8 = .ok (.lastore, 1) := by decide +kernel
theorem dL_setLimit_9 : decode cL_setLimit 9 = .ok (.goto 6, 3) := by decide +kernel
theorem dL_setLimit_12 : decode cL_setLimit 12 = .ok (.astore_n 3, 1) := by decide +kernel
theorem dL_setLimit_13 : decode cL_setLimit 13 = .ok (.iconst 1, 1) := by decide +kernel
theorem dL_setLimit_14 : decode cL_setLimit 14 = .ok (.ireturn, 1) := by decide +kernel
theorem dL_setLimit_15 : decode cL_setLimit 15 = .ok (.iconst 0, 1) := by decide +kernel
theorem dL_setLimit_16 : decode cL_setLimit 16 = .ok (.ireturn, 1) := by decide +kernel
theorem dL_distance_0 : decode cL_distance 0 = .ok (.aload_n 3, 1) := by decide +kernel
theorem dL_distance_1 : decode cL_distance 1 = .ok (.iconst 0, 1) := by decide +kernel
theorem dL_distance_2 : decode cL_distance 2 = .ok (.aload_n 0, 1) := by decide +kernel
theorem dL_distance_3 : decode cL_distance 3 = .ok (.iload_n 1, 1) := by decide +kernel
theorem dL_distance_4 : decode cL_distance 4 = .ok (.iload_n 2, 1) := by decide +kernel
theorem dL_distance_5 : decode cL_distance 5 = .ok (.invokevirtual 25, 3) := by decide +kernel
theorem dL_distance_8 : decode cL_distance 8 = .ok (.i2l, 1) := by decide +kernel
theorem dL_distance_9 : decode cL_distance 9 = .ok (.lastore, 1) := by decide +kernel
theorem dL_distance_10 : decode cL_distance 10 = .ok (.goto 7, 3) := by decide +kernel
theorem dL_distance_13 : decode cL_distance 13 = .ok (.astore 4, 2) := by decide +kernel
theorem dL_distance_15 : decode cL_distance 15 = .ok (.iconst 1, 1) := by decide +kernel
theorem dL_distance_16 : decode cL_distance 16 = .ok (.ireturn, 1) := by decide +kernel
theorem dL_distance_17 : decode cL_distance 17 = .ok (.iconst 0, 1) := by decide +kernel
theorem dL_distance_18 : decode cL_distance 18 = .ok (.ireturn, 1) := by decide +kernel
theorem dL_nextHop_0 : decode cL_nextHop 0 = .ok (.aload_n 3, 1) := by decide +kernel
theorem dL_nextHop_1 : decode cL_nextHop 1 = .ok (.iconst 0, 1) := by decide +kernel
theorem dL_nextHop_2 : decode cL_nextHop 2 = .ok (.aload_n 0, 1) := by decide +kernel
theorem dL_nextHop_3 : decode cL_nextHop 3 = .ok (.iload_n 1, 1) := by decide +kernel
theorem dL_nextHop_4 : decode cL_nextHop 4 = .ok (.iload_n 2, 1) := by decide +kernel
theorem dL_nextHop_5 : decode cL_nextHop 5 = .ok (.invokevirtual 29, 3) := by decide +kernel
theorem dL_nextHop_8 : decode cL_nextHop 8 = .ok (.i2l, 1) := by decide +kernel
theorem dL_nextHop_9 : decode cL_nextHop 9 = .ok (.lastore, 1) := by decide +kernel
theorem dL_nextHop_10 : decode cL_nextHop 10 = .ok (.goto 7, 3) := by decide +kernel
theorem dL_nextHop_13 : decode cL_nextHop 13 = .ok (.astore 4, 2) := by decide +kernel
theorem dL_nextHop_15 : decode cL_nextHop 15 = .ok (.iconst 1, 1) := by decide +kernel
theorem dL_nextHop_16 : decode cL_nextHop 16 = .ok (.ireturn, 1) := by decide +kernel
theorem dL_nextHop_17 : decode cL_nextHop 17 = .ok (.iconst 0, 1) := by decide +kernel
theorem dL_nextHop_18 : decode cL_nextHop 18 = .ok (.ireturn, 1) := by decide +kernel
theorem dL_rendezvous_0 : decode cL_rendezvous 0 = .ok (.aload_n 2, 1) := by decide +kernel
theorem dL_rendezvous_1 : decode cL_rendezvous 1 = .ok (.iconst 0, 1) := by decide +kernel
theorem dL_rendezvous_2 : decode cL_rendezvous 2 = .ok (.aload_n 0, 1) := by decide +kernel
theorem dL_rendezvous_3 : decode cL_rendezvous 3 = .ok (.iload_n 1, 1) := by decide +kernel
theorem dL_rendezvous_4 : decode cL_rendezvous 4 = .ok (.invokevirtual 32, 3) := by decide +kernel
theorem dL_rendezvous_7 : decode cL_rendezvous 7 = .ok (.i2l, 1) := by decide +kernel
theorem dL_rendezvous_8 : decode cL_rendezvous 8 = .ok (.lastore, 1) := by decide +kernel
theorem dL_rendezvous_9 : decode cL_rendezvous 9 = .ok (.goto 6, 3) := by decide +kernel
theorem dL_rendezvous_12 : decode cL_rendezvous 12 = .ok (.astore_n 3, 1) := by decide +kernel
theorem dL_rendezvous_13 : decode cL_rendezvous 13 = .ok (.iconst 1, 1) := by decide +kernel
theorem dL_rendezvous_14 : decode cL_rendezvous 14 = .ok (.ireturn, 1) := by decide +kernel
theorem dL_rendezvous_15 : decode cL_rendezvous 15 = .ok (.iconst 0, 1) := by decide +kernel
theorem dL_rendezvous_16 : decode cL_rendezvous 16 = .ok (.ireturn, 1) := by decide +kernel
theorem dL_join_0 : decode cL_join 0 = .ok (.aload_n 3, 1) := by decide +kernel
theorem dL_join_1 : decode cL_join 1 = .ok (.iconst 0, 1) := by decide +kernel
theorem dL_join_2 : decode cL_join 2 = .ok (.aload_n 0, 1) := by decide +kernel
theorem dL_join_3 : decode cL_join 3 = .ok (.iload_n 1, 1) := by decide +kernel
theorem dL_join_4 : decode cL_join 4 = .ok (.iload_n 2, 1) := by decide +kernel
theorem dL_join_5 : decode cL_join 5 = .ok (.invokevirtual 35, 3) := by decide +kernel
theorem dL_join_8 : decode cL_join 8 = .ok (.i2l, 1) := by decide +kernel
theorem dL_join_9 : decode cL_join 9 = .ok (.lastore, 1) := by decide +kernel
theorem dL_join_10 : decode cL_join 10 = .ok (.goto 11, 3) := by decide +kernel
theorem dL_join_13 : decode cL_join 13 = .ok (.astore 4, 2) := by decide +kernel
theorem dL_join_15 : decode cL_join 15 = .ok (.iconst 1, 1) := by decide +kernel
theorem dL_join_16 : decode cL_join 16 = .ok (.ireturn, 1) := by decide +kernel
theorem dL_join_17 : decode cL_join 17 = .ok (.astore 4, 2) := by decide +kernel
theorem dL_join_19 : decode cL_join 19 = .ok (.iconst 2, 1) := by decide +kernel
theorem dL_join_20 : decode cL_join 20 = .ok (.ireturn, 1) := by decide +kernel
theorem dL_join_21 : decode cL_join 21 = .ok (.iconst 0, 1) := by decide +kernel
theorem dL_join_22 : decode cL_join 22 = .ok (.ireturn, 1) := by decide +kernel
theorem dL_leave_0 : decode cL_leave 0 = .ok (.aload_n 3, 1) := by decide +kernel
theorem dL_leave_1 : decode cL_leave 1 = .ok (.iconst 0, 1) := by decide +kernel
theorem dL_leave_2 : decode cL_leave 2 = .ok (.aload_n 0, 1) := by decide +kernel
theorem dL_leave_3 : decode cL_leave 3 = .ok (.iload_n 1, 1) := by decide +kernel
theorem dL_leave_4 : decode cL_leave 4 = .ok (.iload_n 2, 1) := by decide +kernel
theorem dL_leave_5 : decode cL_leave 5 = .ok (.invokevirtual 40, 3) := by decide +kernel
theorem dL_leave_8 : decode cL_leave 8 = .ok (.i2l, 1) := by decide +kernel
theorem dL_leave_9 : decode cL_leave 9 = .ok (.lastore, 1) := by decide +kernel
theorem dL_leave_10 : decode cL_leave 10 = .ok (.goto 11, 3) := by decide +kernel
theorem dL_leave_13 : decode cL_leave 13 = .ok (.astore 4, 2) := by decide +kernel
theorem dL_leave_15 : decode cL_leave 15 = .ok (.iconst 1, 1) := by decide +kernel
theorem dL_leave_16 : decode cL_leave 16 = .ok (.ireturn, 1) := by decide +kernel
theorem dL_leave_17 : decode cL_leave 17 = .ok (.astore 4, 2) := by decide +kernel
theorem dL_leave_19 : decode cL_leave 19 = .ok (.iconst 2, 1) := by decide +kernel
theorem dL_leave_20 : decode cL_leave 20 = .ok (.ireturn, 1) := by decide +kernel
theorem dL_leave_21 : decode cL_leave 21 = .ok (.iconst 0, 1) := by decide +kernel
theorem dL_leave_22 : decode cL_leave 22 = .ok (.ireturn, 1) := by decide +kernel
theorem dL_members_0 : decode cL_members 0 = .ok (.aload_n 2, 1) := by decide +kernel
theorem dL_members_1 : decode cL_members 1 = .ok (.iconst 0, 1) := by decide +kernel
theorem dL_members_2 : decode cL_members 2 = .ok (.aload_n 0, 1) := by decide +kernel
theorem dL_members_3 : decode cL_members 3 = .ok (.iload_n 1, 1) := by decide +kernel
theorem dL_members_4 : decode cL_members 4 = .ok (.invokevirtual 43, 3) := by decide +kernel
theorem dL_members_7 : decode cL_members 7 = .ok (.i2l, 1) := by decide +kernel
theorem dL_members_8 : decode cL_members 8 = .ok (.lastore, 1) := by decide +kernel
theorem dL_members_9 : decode cL_members 9 = .ok (.goto 6, 3) := by decide +kernel
theorem dL_members_12 : decode cL_members 12 = .ok (.astore_n 3, 1) := by decide +kernel
theorem dL_members_13 : decode cL_members 13 = .ok (.iconst 1, 1) := by decide +kernel
theorem dL_members_14 : decode cL_members 14 = .ok (.ireturn, 1) := by decide +kernel
theorem dL_members_15 : decode cL_members 15 = .ok (.iconst 0, 1) := by decide +kernel
theorem dL_members_16 : decode cL_members 16 = .ok (.ireturn, 1) := by decide +kernel
theorem dL_switched_0 : decode cL_switched 0 = .ok (.aload_n 3, 1) := by decide +kernel
theorem dL_switched_1 : decode cL_switched 1 = .ok (.iconst 0, 1) := by decide +kernel
theorem dL_switched_2 : decode cL_switched 2 = .ok (.aload_n 0, 1) := by decide +kernel
theorem dL_switched_3 : decode cL_switched 3 = .ok (.iload_n 1, 1) := by decide +kernel
theorem dL_switched_4 : decode cL_switched 4 = .ok (.iload_n 2, 1) := by decide +kernel
theorem dL_switched_5 : decode cL_switched 5 = .ok (.invokevirtual 46, 3) := by decide +kernel
theorem dL_switched_8 : decode cL_switched 8 = .ok (.i2l, 1) := by decide +kernel
theorem dL_switched_9 : decode cL_switched 9 = .ok (.lastore, 1) := by decide +kernel
theorem dL_switched_10 : decode cL_switched 10 = .ok (.goto 7, 3) := by decide +kernel
theorem dL_switched_13 : decode cL_switched 13 = .ok (.astore 4, 2) := by decide +kernel
theorem dL_switched_15 : decode cL_switched 15 = .ok (.iconst 1, 1) := by decide +kernel
theorem dL_switched_16 : decode cL_switched 16 = .ok (.ireturn, 1) := by decide +kernel
theorem dL_switched_17 : decode cL_switched 17 = .ok (.iconst 0, 1) := by decide +kernel
theorem dL_switched_18 : decode cL_switched 18 = .ok (.ireturn, 1) := by decide +kernel
theorem dL_branches_0 : decode cL_branches 0 = .ok (.aload_n 3, 1) := by decide +kernel
theorem dL_branches_1 : decode cL_branches 1 = .ok (.iconst 0, 1) := by decide +kernel
theorem dL_branches_2 : decode cL_branches 2 = .ok (.aload_n 0, 1) := by decide +kernel
theorem dL_branches_3 : decode cL_branches 3 = .ok (.iload_n 1, 1) := by decide +kernel
theorem dL_branches_4 : decode cL_branches 4 = .ok (.iload_n 2, 1) := by decide +kernel
theorem dL_branches_5 : decode cL_branches 5 = .ok (.invokevirtual 49, 3) := by decide +kernel
theorem dL_branches_8 : decode cL_branches 8 = .ok (.i2l, 1) := by decide +kernel
theorem dL_branches_9 : decode cL_branches 9 = .ok (.lastore, 1) := by decide +kernel
theorem dL_branches_10 : decode cL_branches 10 = .ok (.goto 7, 3) := by decide +kernel
theorem dL_branches_13 : decode cL_branches 13 = .ok (.astore 4, 2) := by decide +kernel
theorem dL_branches_15 : decode cL_branches 15 = .ok (.iconst 1, 1) := by decide +kernel
theorem dL_branches_16 : decode cL_branches 16 = .ok (.ireturn, 1) := by decide +kernel
theorem dL_branches_17 : decode cL_branches 17 = .ok (.iconst 0, 1) := by decide +kernel
theorem dL_branches_18 : decode cL_branches 18 = .ok (.ireturn, 1) := by decide +kernel
theorem dL_sourceBranches_0 : decode cL_sourceBranches 0 = .ok (.aload 4, 2) := by decide +kernel
theorem dL_sourceBranches_2 : decode cL_sourceBranches 2 = .ok (.iconst 0, 1) := by decide +kernel
theorem dL_sourceBranches_3 : decode cL_sourceBranches 3 = .ok (.aload_n 0, 1) := by decide +kernel
theorem dL_sourceBranches_4 : decode cL_sourceBranches 4 = .ok (.iload_n 1, 1) := by decide +kernel
theorem dL_sourceBranches_5 : decode cL_sourceBranches 5 = .ok (.iload_n 2, 1) := by decide +kernel
theorem dL_sourceBranches_6 : decode cL_sourceBranches 6 = .ok (.iload_n 3, 1) := by decide +kernel
theorem dL_sourceBranches_7 : decode cL_sourceBranches 7 = .ok (.invokevirtual 52, 3) := by decide +kernel
theorem dL_sourceBranches_10 : decode cL_sourceBranches 10 = .ok (.i2l, 1) := by decide +kernel
theorem dL_sourceBranches_11 : decode cL_sourceBranches 11 = .ok (.lastore, 1) := by decide +kernel
theorem dL_sourceBranches_12 : decode cL_sourceBranches 12 = .ok (.goto 7, 3) := by decide +kernel
theorem dL_sourceBranches_15 : decode cL_sourceBranches 15 = .ok (.astore 5, 2) := by decide +kernel
theorem dL_sourceBranches_17 : decode cL_sourceBranches 17 = .ok (.iconst 1, 1) := by decide +kernel
theorem dL_sourceBranches_18 : decode cL_sourceBranches 18 = .ok (.ireturn, 1) := by decide +kernel
theorem dL_sourceBranches_19 : decode cL_sourceBranches 19 = .ok (.iconst 0, 1) := by decide +kernel
theorem dL_sourceBranches_20 : decode cL_sourceBranches 20 = .ok (.ireturn, 1) := by decide +kernel
theorem dL_send_0 : decode cL_send 0 = .ok (.aload_n 3, 1) := by decide +kernel
theorem dL_send_1 : decode cL_send 1 = .ok (.iconst 0, 1) := by decide +kernel
theorem dL_send_2 : decode cL_send 2 = .ok (.aload_n 0, 1) := by decide +kernel
theorem dL_send_3 : decode cL_send 3 = .ok (.iload_n 1, 1) := by decide +kernel
theorem dL_send_4 : decode cL_send 4 = .ok (.iload_n 2, 1) := by decide +kernel
theorem dL_send_5 : decode cL_send 5 = .ok (.invokevirtual 55, 3) := by decide +kernel
theorem dL_send_8 : decode cL_send 8 = .ok (.i2l, 1) := by decide +kernel
theorem dL_send_9 : decode cL_send 9 = .ok (.lastore, 1) := by decide +kernel
theorem dL_send_10 : decode cL_send 10 = .ok (.goto 11, 3) := by decide +kernel
theorem dL_send_13 : decode cL_send 13 = .ok (.astore 4, 2) := by decide +kernel
theorem dL_send_15 : decode cL_send 15 = .ok (.iconst 1, 1) := by decide +kernel
theorem dL_send_16 : decode cL_send 16 = .ok (.ireturn, 1) := by decide +kernel
theorem dL_send_17 : decode cL_send 17 = .ok (.astore 4, 2) := by decide +kernel
theorem dL_send_19 : decode cL_send 19 = .ok (.iconst 2, 1) := by decide +kernel
theorem dL_send_20 : decode cL_send 20 = .ok (.ireturn, 1) := by decide +kernel
theorem dL_send_21 : decode cL_send 21 = .ok (.iconst 0, 1) := by decide +kernel
theorem dL_send_22 : decode cL_send 22 = .ok (.ireturn, 1) := by decide +kernel
theorem dL_received_0 : decode cL_received 0 = .ok (.aload_n 2, 1) := by decide +kernel
theorem dL_received_1 : decode cL_received 1 = .ok (.iconst 0, 1) := by decide +kernel
theorem dL_received_2 : decode cL_received 2 = .ok (.aload_n 0, 1) := by decide +kernel
theorem dL_received_3 : decode cL_received 3 = .ok (.iload_n 1, 1) := by decide +kernel
theorem dL_received_4 : decode cL_received 4 = .ok (.invokevirtual 58, 3) := by decide +kernel
theorem dL_received_7 : decode cL_received 7 = .ok (.i2l, 1) := by decide +kernel
theorem dL_received_8 : decode cL_received 8 = .ok (.lastore, 1) := by decide +kernel
theorem dL_received_9 : decode cL_received 9 = .ok (.goto 6, 3) := by decide +kernel
theorem dL_received_12 : decode cL_received 12 = .ok (.astore_n 3, 1) := by decide +kernel
theorem dL_received_13 : decode cL_received 13 = .ok (.iconst 1, 1) := by decide +kernel
theorem dL_received_14 : decode cL_received 14 = .ok (.ireturn, 1) := by decide +kernel
theorem dL_received_15 : decode cL_received 15 = .ok (.iconst 0, 1) := by decide +kernel
theorem dL_received_16 : decode cL_received 16 = .ok (.ireturn, 1) := by decide +kernel
theorem dL_doubles_0 : decode cL_doubles 0 = .ok (.aload_n 2, 1) := by decide +kernel
theorem dL_doubles_1 : decode cL_doubles 1 = .ok (.iconst 0, 1) := by decide +kernel
theorem dL_doubles_2 : decode cL_doubles 2 = .ok (.aload_n 0, 1) := by decide +kernel
theorem dL_doubles_3 : decode cL_doubles 3 = .ok (.iload_n 1, 1) := by decide +kernel
theorem dL_doubles_4 : decode cL_doubles 4 = .ok (.invokevirtual 61, 3) := by decide +kernel
theorem dL_doubles_7 : decode cL_doubles 7 = .ok (.i2l, 1) := by decide +kernel
theorem dL_doubles_8 : decode cL_doubles 8 = .ok (.lastore, 1) := by decide +kernel
theorem dL_doubles_9 : decode cL_doubles 9 = .ok (.goto 6, 3) := by decide +kernel
theorem dL_doubles_12 : decode cL_doubles 12 = .ok (.astore_n 3, 1) := by decide +kernel
theorem dL_doubles_13 : decode cL_doubles 13 = .ok (.iconst 1, 1) := by decide +kernel
theorem dL_doubles_14 : decode cL_doubles 14 = .ok (.ireturn, 1) := by decide +kernel
theorem dL_doubles_15 : decode cL_doubles 15 = .ok (.iconst 0, 1) := by decide +kernel
theorem dL_doubles_16 : decode cL_doubles 16 = .ok (.ireturn, 1) := by decide +kernel
theorem dL_pass_0 : decode cL_pass 0 = .ok (.aload_n 2, 1) := by decide +kernel
theorem dL_pass_1 : decode cL_pass 1 = .ok (.iconst 0, 1) := by decide +kernel
theorem dL_pass_2 : decode cL_pass 2 = .ok (.aload_n 0, 1) := by decide +kernel
theorem dL_pass_3 : decode cL_pass 3 = .ok (.iload_n 1, 1) := by decide +kernel
theorem dL_pass_4 : decode cL_pass 4 = .ok (.invokevirtual 64, 3) := by decide +kernel
theorem dL_pass_7 : decode cL_pass 7 = .ok (.i2l, 1) := by decide +kernel
theorem dL_pass_8 : decode cL_pass 8 = .ok (.lastore, 1) := by decide +kernel
theorem dL_pass_9 : decode cL_pass 9 = .ok (.goto 6, 3) := by decide +kernel
theorem dL_pass_12 : decode cL_pass 12 = .ok (.astore_n 3, 1) := by decide +kernel
theorem dL_pass_13 : decode cL_pass 13 = .ok (.iconst 1, 1) := by decide +kernel
theorem dL_pass_14 : decode cL_pass 14 = .ok (.ireturn, 1) := by decide +kernel
theorem dL_pass_15 : decode cL_pass 15 = .ok (.iconst 0, 1) := by decide +kernel
theorem dL_pass_16 : decode cL_pass 16 = .ok (.ireturn, 1) := by decide +kernel
theorem dL_floodMembers_0 : decode cL_floodMembers 0 = .ok (.aload_n 3, 1) := by decide +kernel
theorem dL_floodMembers_1 : decode cL_floodMembers 1 = .ok (.iconst 0, 1) := by decide +kernel
theorem dL_floodMembers_2 : decode cL_floodMembers 2 = .ok (.aload_n 0, 1) := by decide +kernel
theorem dL_floodMembers_3 : decode cL_floodMembers 3 = .ok (.iload_n 1, 1) := by decide +kernel
theorem dL_floodMembers_4 : decode cL_floodMembers 4 = .ok (.iload_n 2, 1) := by decide +kernel
theorem dL_floodMembers_5 : decode cL_floodMembers 5 = .ok (.invokevirtual 67, 3) := by decide +kernel
theorem dL_floodMembers_8 : decode cL_floodMembers 8 = .ok (.i2l, 1) := by decide +kernel
theorem dL_floodMembers_9 : decode cL_floodMembers 9 = .ok (.lastore, 1) := by decide +kernel
theorem dL_floodMembers_10 : decode cL_floodMembers 10 = .ok (.goto 7, 3) := by decide +kernel
theorem dL_floodMembers_13 : decode cL_floodMembers 13 = .ok (.astore 4, 2) := by decide +kernel
theorem dL_floodMembers_15 : decode cL_floodMembers 15 = .ok (.iconst 1, 1) := by decide +kernel
theorem dL_floodMembers_16 : decode cL_floodMembers 16 = .ok (.ireturn, 1) := by decide +kernel
theorem dL_floodMembers_17 : decode cL_floodMembers 17 = .ok (.iconst 0, 1) := by decide +kernel
theorem dL_floodMembers_18 : decode cL_floodMembers 18 = .ok (.ireturn, 1) := by decide +kernel
theorem dL_floodCopies_0 : decode cL_floodCopies 0 = .ok (.aload_n 2, 1) := by decide +kernel
theorem dL_floodCopies_1 : decode cL_floodCopies 1 = .ok (.iconst 0, 1) := by decide +kernel
theorem dL_floodCopies_2 : decode cL_floodCopies 2 = .ok (.aload_n 0, 1) := by decide +kernel
theorem dL_floodCopies_3 : decode cL_floodCopies 3 = .ok (.iload_n 1, 1) := by decide +kernel
theorem dL_floodCopies_4 : decode cL_floodCopies 4 = .ok (.invokevirtual 70, 3) := by decide +kernel
theorem dL_floodCopies_7 : decode cL_floodCopies 7 = .ok (.i2l, 1) := by decide +kernel
theorem dL_floodCopies_8 : decode cL_floodCopies 8 = .ok (.lastore, 1) := by decide +kernel
theorem dL_floodCopies_9 : decode cL_floodCopies 9 = .ok (.goto 6, 3) := by decide +kernel
theorem dL_floodCopies_12 : decode cL_floodCopies 12 = .ok (.astore_n 3, 1) := by decide +kernel
theorem dL_floodCopies_13 : decode cL_floodCopies 13 = .ok (.iconst 1, 1) := by decide +kernel
theorem dL_floodCopies_14 : decode cL_floodCopies 14 = .ok (.ireturn, 1) := by decide +kernel
theorem dL_floodCopies_15 : decode cL_floodCopies 15 = .ok (.iconst 0, 1) := by decide +kernel
theorem dL_floodCopies_16 : decode cL_floodCopies 16 = .ok (.ireturn, 1) := by decide +kernel
theorem dL_law_0 : decode cL_law 0 = .ok (.new 8, 3) := by decide +kernel
theorem dL_law_3 : decode cL_law 3 = .ok (.dup, 1) := by decide +kernel
theorem dL_law_4 : decode cL_law 4 = .ok (.invokespecial 73, 3) := by decide +kernel
theorem dL_law_7 : decode cL_law 7 = .ok (.astore_n 1, 1) := by decide +kernel
theorem dL_law_8 : decode cL_law 8 = .ok (.new 74, 3) := by decide +kernel
theorem dL_law_11 : decode cL_law 11 = .ok (.dup, 1) := by decide +kernel
theorem dL_law_12 : decode cL_law 12 = .ok (.invokespecial 76, 3) := by decide +kernel
theorem dL_law_15 : decode cL_law 15 = .ok (.astore_n 2, 1) := by decide +kernel
theorem dL_law_16 : decode cL_law 16 = .ok (.iconst 1, 1) := by decide +kernel
theorem dL_law_17 : decode cL_law 17 = .ok (.newarray .long, 2) := by decide +kernel
theorem dL_law_19 : decode cL_law 19 = .ok (.astore_n 3, 1) := by decide +kernel
theorem dL_law_20 : decode cL_law 20 = .ok (.iconst 0, 1) := by decide +kernel
theorem dL_law_21 : decode cL_law 21 = .ok (.istore 4, 2) := by decide +kernel
theorem dL_law_23 : decode cL_law 23 = .ok (.iload 4, 2) := by decide +kernel
theorem dL_law_25 : decode cL_law 25 = .ok (.aload_n 0, 1) := by decide +kernel
theorem dL_law_26 : decode cL_law 26 = .ok (.arraylength, 1) := by decide +kernel
theorem dL_law_27 : decode cL_law 27 = .ok (.iconst 4, 1) := by decide +kernel
theorem dL_law_28 : decode cL_law 28 = .ok (.isub, 1) := by decide +kernel
theorem dL_law_29 : decode cL_law 29 = .ok (.if_icmp .gt 1407, 3) := by decide +kernel
theorem dL_law_32 : decode cL_law 32 = .ok (.aload_n 0, 1) := by decide +kernel
theorem dL_law_33 : decode cL_law 33 = .ok (.iload 4, 2) := by decide +kernel
theorem dL_law_35 : decode cL_law 35 = .ok (.iaload, 1) := by decide +kernel
theorem dL_law_36 : decode cL_law 36 = .ok (.bipush 31, 2) := by decide +kernel
theorem dL_law_38 : decode cL_law 38 = .ok (.iand, 1) := by decide +kernel
theorem dL_law_39 : decode cL_law 39 = .ok (.tableswitch 1391 0 24 #[113, 193, 284, 340, 408, 476, 532, 600, 668, 724, 792, 860, 940, 953, 1021, 1034, 1047, 1060, 1073, 1129, 1185, 1198, 1254, 1267, 1335], 113) := by decide +kernel
theorem dL_law_152 : decode cL_law 152 = .ok (.aload_n 1, 1) := by decide +kernel
theorem dL_law_153 : decode cL_law 153 = .ok (.aload_n 0, 1) := by decide +kernel
theorem dL_law_154 : decode cL_law 154 = .ok (.iload 4, 2) := by decide +kernel
theorem dL_law_156 : decode cL_law 156 = .ok (.iconst 1, 1) := by decide +kernel
theorem dL_law_157 : decode cL_law 157 = .ok (.iadd, 1) := by decide +kernel
theorem dL_law_158 : decode cL_law 158 = .ok (.iaload, 1) := by decide +kernel
theorem dL_law_159 : decode cL_law 159 = .ok (.aload_n 0, 1) := by decide +kernel
theorem dL_law_160 : decode cL_law 160 = .ok (.iload 4, 2) := by decide +kernel
theorem dL_law_162 : decode cL_law 162 = .ok (.iconst 2, 1) := by decide +kernel
theorem dL_law_163 : decode cL_law 163 = .ok (.iadd, 1) := by decide +kernel
theorem dL_law_164 : decode cL_law 164 = .ok (.iaload, 1) := by decide +kernel
theorem dL_law_165 : decode cL_law 165 = .ok (.aload_n 0, 1) := by decide +kernel
theorem dL_law_166 : decode cL_law 166 = .ok (.iload 4, 2) := by decide +kernel
theorem dL_law_168 : decode cL_law 168 = .ok (.iconst 3, 1) := by decide +kernel
theorem dL_law_169 : decode cL_law 169 = .ok (.iadd, 1) := by decide +kernel
theorem dL_law_170 : decode cL_law 170 = .ok (.iaload, 1) := by decide +kernel
theorem dL_law_171 : decode cL_law 171 = .ok (.aload_n 3, 1) := by decide +kernel
theorem dL_law_172 : decode cL_law 172 = .ok (.invokestatic 77, 3) := by decide +kernel
theorem dL_law_175 : decode cL_law 175 = .ok (.istore 5, 2) := by decide +kernel
theorem dL_law_177 : decode cL_law 177 = .ok (.aload_n 2, 1) := by decide +kernel
theorem dL_law_178 : decode cL_law 178 = .ok (.aload_n 0, 1) := by decide +kernel
theorem dL_law_179 : decode cL_law 179 = .ok (.iload 4, 2) := by decide +kernel
theorem dL_law_181 : decode cL_law 181 = .ok (.iconst 1, 1) := by decide +kernel
theorem dL_law_182 : decode cL_law 182 = .ok (.iadd, 1) := by decide +kernel
theorem dL_law_183 : decode cL_law 183 = .ok (.iaload, 1) := by decide +kernel
theorem dL_law_184 : decode cL_law 184 = .ok (.aload_n 0, 1) := by decide +kernel
theorem dL_law_185 : decode cL_law 185 = .ok (.iload 4, 2) := by decide +kernel
theorem dL_law_187 : decode cL_law 187 = .ok (.iconst 2, 1) := by decide +kernel
theorem dL_law_188 : decode cL_law 188 = .ok (.iadd, 1) := by decide +kernel
theorem dL_law_189 : decode cL_law 189 = .ok (.iaload, 1) := by decide +kernel
theorem dL_law_190 : decode cL_law 190 = .ok (.aload_n 0, 1) := by decide +kernel
theorem dL_law_191 : decode cL_law 191 = .ok (.iload 4, 2) := by decide +kernel
theorem dL_law_193 : decode cL_law 193 = .ok (.iconst 3, 1) := by decide +kernel
theorem dL_law_194 : decode cL_law 194 = .ok (.iadd, 1) := by decide +kernel
theorem dL_law_195 : decode cL_law 195 = .ok (.iaload, 1) := by decide +kernel
theorem dL_law_196 : decode cL_law 196 = .ok (.invokevirtual 82, 3) := by decide +kernel
theorem dL_law_199 : decode cL_law 199 = .ok (.istore 6, 2) := by decide +kernel
theorem dL_law_201 : decode cL_law 201 = .ok (.aload_n 2, 1) := by decide +kernel
theorem dL_law_202 : decode cL_law 202 = .ok (.invokevirtual 83, 3) := by decide +kernel
theorem dL_law_205 : decode cL_law 205 = .ok (.iload 5, 2) := by decide +kernel
theorem dL_law_207 : decode cL_law 207 = .ok (.if_icmp .eq 5, 3) := by decide +kernel
theorem dL_law_210 : decode cL_law 210 = .ok (.iconst 0, 1) := by decide +kernel
theorem dL_law_211 : decode cL_law 211 = .ok (.ireturn, 1) := by decide +kernel
theorem dL_law_212 : decode cL_law 212 = .ok (.iload 5, 2) := by decide +kernel
theorem dL_law_214 : decode cL_law 214 = .ok (.ifCond .ne 15, 3) := by decide +kernel
theorem dL_law_217 : decode cL_law 217 = .ok (.aload_n 3, 1) := by decide +kernel
theorem dL_law_218 : decode cL_law 218 = .ok (.iconst 0, 1) := by decide +kernel
theorem dL_law_219 : decode cL_law 219 = .ok (.laload, 1) := by decide +kernel
theorem dL_law_220 : decode cL_law 220 = .ok (.iload 6, 2) := by decide +kernel
theorem dL_law_222 : decode cL_law 222 = .ok (.i2l, 1) := by decide +kernel
theorem dL_law_223 : decode cL_law 223 = .ok (.lcmp, 1) := by decide +kernel
theorem dL_law_224 : decode cL_law 224 = .ok (.ifCond .eq 5, 3) := by decide +kernel
theorem dL_law_227 : decode cL_law 227 = .ok (.iconst 0, 1) := by decide +kernel
theorem dL_law_228 : decode cL_law 228 = .ok (.ireturn, 1) := by decide +kernel
theorem dL_law_229 : decode cL_law 229 = .ok (.goto 1201, 3) := by decide +kernel
theorem dL_law_232 : decode cL_law 232 = .ok (.aload_n 1, 1) := by decide +kernel
theorem dL_law_233 : decode cL_law 233 = .ok (.aload_n 0, 1) := by decide +kernel
theorem dL_law_234 : decode cL_law 234 = .ok (.iload 4, 2) := by decide +kernel
theorem dL_law_236 : decode cL_law 236 = .ok (.iconst 1, 1) := by decide +kernel
theorem dL_law_237 : decode cL_law 237 = .ok (.iadd, 1) := by decide +kernel
theorem dL_law_238 : decode cL_law 238 = .ok (.iaload, 1) := by decide +kernel
theorem dL_law_239 : decode cL_law 239 = .ok (.aload_n 0, 1) := by decide +kernel
theorem dL_law_240 : decode cL_law 240 = .ok (.iload 4, 2) := by decide +kernel
theorem dL_law_242 : decode cL_law 242 = .ok (.iconst 2, 1) := by decide +kernel
theorem dL_law_243 : decode cL_law 243 = .ok (.iadd, 1) := by decide +kernel
theorem dL_law_244 : decode cL_law 244 = .ok (.iaload, 1) := by decide +kernel
theorem dL_law_245 : decode cL_law 245 = .ok (.ifCond .eq 7, 3) := by decide +kernel
theorem dL_law_248 : decode cL_law 248 = .ok (.iconst 1, 1) := by decide +kernel
theorem dL_law_249 : decode cL_law 249 = .ok (.goto 4, 3) := by decide +kernel
theorem dL_law_252 : decode cL_law 252 = .ok (.iconst 0, 1) := by decide +kernel
theorem dL_law_253 : decode cL_law 253 = .ok (.aload_n 3, 1) := by decide +kernel
theorem dL_law_254 : decode cL_law 254 = .ok (.invokestatic 87, 3) := by decide +kernel
theorem dL_law_257 : decode cL_law 257 = .ok (.istore 5, 2) := by decide +kernel
theorem dL_law_259 : decode cL_law 259 = .ok (.aload_n 2, 1) := by decide +kernel
theorem dL_law_260 : decode cL_law 260 = .ok (.aload_n 0, 1) := by decide +kernel
theorem dL_law_261 : decode cL_law 261 = .ok (.iload 4, 2) := by decide +kernel
theorem dL_law_263 : decode cL_law 263 = .ok (.iconst 1, 1) := by decide +kernel
theorem dL_law_264 : decode cL_law 264 = .ok (.iadd, 1) := by decide +kernel
theorem dL_law_265 : decode cL_law 265 = .ok (.iaload, 1) := by decide +kernel
theorem dL_law_266 : decode cL_law 266 = .ok (.aload_n 0, 1) := by decide +kernel
theorem dL_law_267 : decode cL_law 267 = .ok (.iload 4, 2) := by decide +kernel
theorem dL_law_269 : decode cL_law 269 = .ok (.iconst 2, 1) := by decide +kernel
theorem dL_law_270 : decode cL_law 270 = .ok (.iadd, 1) := by decide +kernel
theorem dL_law_271 : decode cL_law 271 = .ok (.iaload, 1) := by decide +kernel
theorem dL_law_272 : decode cL_law 272 = .ok (.ifCond .eq 7, 3) := by decide +kernel
theorem dL_law_275 : decode cL_law 275 = .ok (.iconst 1, 1) := by decide +kernel
theorem dL_law_276 : decode cL_law 276 = .ok (.goto 4, 3) := by decide +kernel
theorem dL_law_279 : decode cL_law 279 = .ok (.iconst 0, 1) := by decide +kernel
theorem dL_law_280 : decode cL_law 280 = .ok (.invokevirtual 90, 3) := by decide +kernel
theorem dL_law_283 : decode cL_law 283 = .ok (.istore 6, 2) := by decide +kernel
theorem dL_law_285 : decode cL_law 285 = .ok (.aload_n 2, 1) := by decide +kernel
theorem dL_law_286 : decode cL_law 286 = .ok (.invokevirtual 83, 3) := by decide +kernel
theorem dL_law_289 : decode cL_law 289 = .ok (.iload 5, 2) := by decide +kernel
theorem dL_law_291 : decode cL_law 291 = .ok (.if_icmp .eq 5, 3) := by decide +kernel
theorem dL_law_294 : decode cL_law 294 = .ok (.iconst 0, 1) := by decide +kernel
theorem dL_law_295 : decode cL_law 295 = .ok (.ireturn, 1) := by decide +kernel
theorem dL_law_296 : decode cL_law 296 = .ok (.iload 5, 2) := by decide +kernel
theorem dL_law_298 : decode cL_law 298 = .ok (.ifCond .ne 22, 3) := by decide +kernel
theorem dL_law_301 : decode cL_law 301 = .ok (.aload_n 3, 1) := by decide +kernel
theorem dL_law_302 : decode cL_law 302 = .ok (.iconst 0, 1) := by decide +kernel
theorem dL_law_303 : decode cL_law 303 = .ok (.laload, 1) := by decide +kernel
theorem dL_law_304 : decode cL_law 304 = .ok (.iload 6, 2) := by decide +kernel
theorem dL_law_306 : decode cL_law 306 = .ok (.ifCond .eq 7, 3) := by decide +kernel
theorem dL_law_309 : decode cL_law 309 = .ok (.lconst 1, 1) := by decide +kernel
theorem dL_law_310 : decode cL_law 310 = .ok (.goto 4, 3) := by decide +kernel
theorem dL_law_313 : decode cL_law 313 = .ok (.lconst 0, 1) := by decide +kernel
theorem dL_law_314 : decode cL_law 314 = .ok (.lcmp, 1) := by decide +kernel
theorem dL_law_315 : decode cL_law 315 = .ok (.ifCond .eq 5, 3) := by decide +kernel
theorem dL_law_318 : decode cL_law 318 = .ok (.iconst 0, 1) := by decide +kernel
theorem dL_law_319 : decode cL_law 319 = .ok (.ireturn, 1) := by decide +kernel
theorem dL_law_320 : decode cL_law 320 = .ok (.goto 1110, 3) := by decide +kernel
theorem dL_law_323 : decode cL_law 323 = .ok (.aload_n 1, 1) := by decide +kernel
theorem dL_law_324 : decode cL_law 324 = .ok (.aload_n 0, 1) := by decide +kernel
theorem dL_law_325 : decode cL_law 325 = .ok (.iload 4, 2) := by decide +kernel
theorem dL_law_327 : decode cL_law 327 = .ok (.iconst 1, 1) := by decide +kernel
theorem dL_law_328 : decode cL_law 328 = .ok (.iadd, 1) := by decide +kernel
theorem dL_law_329 : decode cL_law 329 = .ok (.iaload, 1) := by decide +kernel
theorem dL_law_330 : decode cL_law 330 = .ok (.aload_n 3, 1) := by decide +kernel
theorem dL_law_331 : decode cL_law 331 = .ok (.invokestatic 91, 3) := by decide +kernel
theorem dL_law_334 : decode cL_law 334 = .ok (.istore 5, 2) := by decide +kernel
theorem dL_law_336 : decode cL_law 336 = .ok (.aload_n 2, 1) := by decide +kernel
theorem dL_law_337 : decode cL_law 337 = .ok (.aload_n 0, 1) := by decide +kernel
theorem dL_law_338 : decode cL_law 338 = .ok (.iload 4, 2) := by decide +kernel
theorem dL_law_340 : decode cL_law 340 = .ok (.iconst 1, 1) := by decide +kernel
theorem dL_law_341 : decode cL_law 341 = .ok (.iadd, 1) := by decide +kernel
theorem dL_law_342 : decode cL_law 342 = .ok (.iaload, 1) := by decide +kernel
theorem dL_law_343 : decode cL_law 343 = .ok (.invokevirtual 94, 3) := by decide +kernel
theorem dL_law_346 : decode cL_law 346 = .ok (.istore 6, 2) := by decide +kernel
theorem dL_law_348 : decode cL_law 348 = .ok (.aload_n 2, 1) := by decide +kernel
theorem dL_law_349 : decode cL_law 349 = .ok (.invokevirtual 83, 3) := by decide +kernel
theorem dL_law_352 : decode cL_law 352 = .ok (.iload 5, 2) := by decide +kernel
theorem dL_law_354 : decode cL_law 354 = .ok (.if_icmp .eq 5, 3) := by decide +kernel
theorem dL_law_357 : decode cL_law 357 = .ok (.iconst 0, 1) := by decide +kernel
theorem dL_law_358 : decode cL_law 358 = .ok (.ireturn, 1) := by decide +kernel
theorem dL_law_359 : decode cL_law 359 = .ok (.iload 5, 2) := by decide +kernel
theorem dL_law_361 : decode cL_law 361 = .ok (.ifCond .ne 15, 3) := by decide +kernel
theorem dL_law_364 : decode cL_law 364 = .ok (.aload_n 3, 1) := by decide +kernel
theorem dL_law_365 : decode cL_law 365 = .ok (.iconst 0, 1) := by decide +kernel
theorem dL_law_366 : decode cL_law 366 = .ok (.laload, 1) := by decide +kernel
theorem dL_law_367 : decode cL_law 367 = .ok (.iload 6, 2) := by decide +kernel
theorem dL_law_369 : decode cL_law 369 = .ok (.i2l, 1) := by decide +kernel
theorem dL_law_370 : decode cL_law 370 = .ok (.lcmp, 1) := by decide +kernel
theorem dL_law_371 : decode cL_law 371 = .ok (.ifCond .eq 5, 3) := by decide +kernel
theorem dL_law_374 : decode cL_law 374 = .ok (.iconst 0, 1) := by decide +kernel
theorem dL_law_375 : decode cL_law 375 = .ok (.ireturn, 1) := by decide +kernel
theorem dL_law_376 : decode cL_law 376 = .ok (.goto 1054, 3) := by decide +kernel
theorem dL_law_379 : decode cL_law 379 = .ok (.aload_n 1, 1) := by decide +kernel
theorem dL_law_380 : decode cL_law 380 = .ok (.aload_n 0, 1) := by decide +kernel
theorem dL_law_381 : decode cL_law 381 = .ok (.iload 4, 2) := by decide +kernel
theorem dL_law_383 : decode cL_law 383 = .ok (.iconst 1, 1) := by decide +kernel
theorem dL_law_384 : decode cL_law 384 = .ok (.iadd, 1) := by decide +kernel
theorem dL_law_385 : decode cL_law 385 = .ok (.iaload, 1) := by decide +kernel
theorem dL_law_386 : decode cL_law 386 = .ok (.aload_n 0, 1) := by decide +kernel
theorem dL_law_387 : decode cL_law 387 = .ok (.iload 4, 2) := by decide +kernel
theorem dL_law_389 : decode cL_law 389 = .ok (.iconst 2, 1) := by decide +kernel
theorem dL_law_390 : decode cL_law 390 = .ok (.iadd, 1) := by decide +kernel
theorem dL_law_391 : decode cL_law 391 = .ok (.iaload, 1) := by decide +kernel
theorem dL_law_392 : decode cL_law 392 = .ok (.aload_n 3, 1) := by decide +kernel
theorem dL_law_393 : decode cL_law 393 = .ok (.invokestatic 95, 3) := by decide +kernel
theorem dL_law_396 : decode cL_law 396 = .ok (.istore 5, 2) := by decide +kernel
theorem dL_law_398 : decode cL_law 398 = .ok (.aload_n 2, 1) := by decide +kernel
theorem dL_law_399 : decode cL_law 399 = .ok (.aload_n 0, 1) := by decide +kernel
theorem dL_law_400 : decode cL_law 400 = .ok (.iload 4, 2) := by decide +kernel
theorem dL_law_402 : decode cL_law 402 = .ok (.iconst 1, 1) := by decide +kernel
theorem dL_law_403 : decode cL_law 403 = .ok (.iadd, 1) := by decide +kernel
theorem dL_law_404 : decode cL_law 404 = .ok (.iaload, 1) := by decide +kernel
theorem dL_law_405 : decode cL_law 405 = .ok (.aload_n 0, 1) := by decide +kernel
theorem dL_law_406 : decode cL_law 406 = .ok (.iload 4, 2) := by decide +kernel
theorem dL_law_408 : decode cL_law 408 = .ok (.iconst 2, 1) := by decide +kernel
theorem dL_law_409 : decode cL_law 409 = .ok (.iadd, 1) := by decide +kernel
theorem dL_law_410 : decode cL_law 410 = .ok (.iaload, 1) := by decide +kernel
theorem dL_law_411 : decode cL_law 411 = .ok (.invokevirtual 98, 3) := by decide +kernel
theorem dL_law_414 : decode cL_law 414 = .ok (.istore 6, 2) := by decide +kernel
theorem dL_law_416 : decode cL_law 416 = .ok (.aload_n 2, 1) := by decide +kernel
theorem dL_law_417 : decode cL_law 417 = .ok (.invokevirtual 83, 3) := by decide +kernel
theorem dL_law_420 : decode cL_law 420 = .ok (.iload 5, 2) := by decide +kernel
theorem dL_law_422 : decode cL_law 422 = .ok (.if_icmp .eq 5, 3) := by decide +kernel
theorem dL_law_425 : decode cL_law 425 = .ok (.iconst 0, 1) := by decide +kernel
theorem dL_law_426 : decode cL_law 426 = .ok (.ireturn, 1) := by decide +kernel
theorem dL_law_427 : decode cL_law 427 = .ok (.iload 5, 2) := by decide +kernel
theorem dL_law_429 : decode cL_law 429 = .ok (.ifCond .ne 15, 3) := by decide +kernel
theorem dL_law_432 : decode cL_law 432 = .ok (.aload_n 3, 1) := by decide +kernel
theorem dL_law_433 : decode cL_law 433 = .ok (.iconst 0, 1) := by decide +kernel
theorem dL_law_434 : decode cL_law 434 = .ok (.laload, 1) := by decide +kernel
theorem dL_law_435 : decode cL_law 435 = .ok (.iload 6, 2) := by decide +kernel
theorem dL_law_437 : decode cL_law 437 = .ok (.i2l, 1) := by decide +kernel
theorem dL_law_438 : decode cL_law 438 = .ok (.lcmp, 1) := by decide +kernel
theorem dL_law_439 : decode cL_law 439 = .ok (.ifCond .eq 5, 3) := by decide +kernel
theorem dL_law_442 : decode cL_law 442 = .ok (.iconst 0, 1) := by decide +kernel
theorem dL_law_443 : decode cL_law 443 = .ok (.ireturn, 1) := by decide +kernel
theorem dL_law_444 : decode cL_law 444 = .ok (.goto 986, 3) := by decide +kernel
theorem dL_law_447 : decode cL_law 447 = .ok (.aload_n 1, 1) := by decide +kernel
theorem dL_law_448 : decode cL_law 448 = .ok (.aload_n 0, 1) := by decide +kernel
theorem dL_law_449 : decode cL_law 449 = .ok (.iload 4, 2) := by decide +kernel
theorem dL_law_451 : decode cL_law 451 = .ok (.iconst 1, 1) := by decide +kernel
theorem dL_law_452 : decode cL_law 452 = .ok (.iadd, 1) := by decide +kernel
theorem dL_law_453 : decode cL_law 453 = .ok (.iaload, 1) := by decide +kernel
theorem dL_law_454 : decode cL_law 454 = .ok (.aload_n 0, 1) := by decide +kernel
theorem dL_law_455 : decode cL_law 455 = .ok (.iload 4, 2) := by decide +kernel
theorem dL_law_457 : decode cL_law 457 = .ok (.iconst 2, 1) := by decide +kernel
theorem dL_law_458 : decode cL_law 458 = .ok (.iadd, 1) := by decide +kernel
theorem dL_law_459 : decode cL_law 459 = .ok (.iaload, 1) := by decide +kernel
theorem dL_law_460 : decode cL_law 460 = .ok (.aload_n 3, 1) := by decide +kernel
theorem dL_law_461 : decode cL_law 461 = .ok (.invokestatic 99, 3) := by decide +kernel
theorem dL_law_464 : decode cL_law 464 = .ok (.istore 5, 2) := by decide +kernel
theorem dL_law_466 : decode cL_law 466 = .ok (.aload_n 2, 1) := by decide +kernel
theorem dL_law_467 : decode cL_law 467 = .ok (.aload_n 0, 1) := by decide +kernel
theorem dL_law_468 : decode cL_law 468 = .ok (.iload 4, 2) := by decide +kernel
theorem dL_law_470 : decode cL_law 470 = .ok (.iconst 1, 1) := by decide +kernel
theorem dL_law_471 : decode cL_law 471 = .ok (.iadd, 1) := by decide +kernel
theorem dL_law_472 : decode cL_law 472 = .ok (.iaload, 1) := by decide +kernel
theorem dL_law_473 : decode cL_law 473 = .ok (.aload_n 0, 1) := by decide +kernel
theorem dL_law_474 : decode cL_law 474 = .ok (.iload 4, 2) := by decide +kernel
theorem dL_law_476 : decode cL_law 476 = .ok (.iconst 2, 1) := by decide +kernel
theorem dL_law_477 : decode cL_law 477 = .ok (.iadd, 1) := by decide +kernel
theorem dL_law_478 : decode cL_law 478 = .ok (.iaload, 1) := by decide +kernel
theorem dL_law_479 : decode cL_law 479 = .ok (.invokevirtual 101, 3) := by decide +kernel
theorem dL_law_482 : decode cL_law 482 = .ok (.istore 6, 2) := by decide +kernel
theorem dL_law_484 : decode cL_law 484 = .ok (.aload_n 2, 1) := by decide +kernel
theorem dL_law_485 : decode cL_law 485 = .ok (.invokevirtual 83, 3) := by decide +kernel
theorem dL_law_488 : decode cL_law 488 = .ok (.iload 5, 2) := by decide +kernel
theorem dL_law_490 : decode cL_law 490 = .ok (.if_icmp .eq 5, 3) := by decide +kernel
theorem dL_law_493 : decode cL_law 493 = .ok (.iconst 0, 1) := by decide +kernel
theorem dL_law_494 : decode cL_law 494 = .ok (.ireturn, 1) := by decide +kernel
theorem dL_law_495 : decode cL_law 495 = .ok (.iload 5, 2) := by decide +kernel
theorem dL_law_497 : decode cL_law 497 = .ok (.ifCond .ne 15, 3) := by decide +kernel
theorem dL_law_500 : decode cL_law 500 = .ok (.aload_n 3, 1) := by decide +kernel
theorem dL_law_501 : decode cL_law 501 = .ok (.iconst 0, 1) := by decide +kernel
theorem dL_law_502 : decode cL_law 502 = .ok (.laload, 1) := by decide +kernel
theorem dL_law_503 : decode cL_law 503 = .ok (.iload 6, 2) := by decide +kernel
theorem dL_law_505 : decode cL_law 505 = .ok (.i2l, 1) := by decide +kernel
theorem dL_law_506 : decode cL_law 506 = .ok (.lcmp, 1) := by decide +kernel
theorem dL_law_507 : decode cL_law 507 = .ok (.ifCond .eq 5, 3) := by decide +kernel
theorem dL_law_510 : decode cL_law 510 = .ok (.iconst 0, 1) := by decide +kernel
theorem dL_law_511 : decode cL_law 511 = .ok (.ireturn, 1) := by decide +kernel
theorem dL_law_512 : decode cL_law 512 = .ok (.goto 918, 3) := by decide +kernel
theorem dL_law_515 : decode cL_law 515 = .ok (.aload_n 1, 1) := by decide +kernel
theorem dL_law_516 : decode cL_law 516 = .ok (.aload_n 0, 1) := by decide +kernel
theorem dL_law_517 : decode cL_law 517 = .ok (.iload 4, 2) := by decide +kernel
theorem dL_law_519 : decode cL_law 519 = .ok (.iconst 1, 1) := by decide +kernel
theorem dL_law_520 : decode cL_law 520 = .ok (.iadd, 1) := by decide +kernel
theorem dL_law_521 : decode cL_law 521 = .ok (.iaload, 1) := by decide +kernel
theorem dL_law_522 : decode cL_law 522 = .ok (.aload_n 3, 1) := by decide +kernel
theorem dL_law_523 : decode cL_law 523 = .ok (.invokestatic 102, 3) := by decide +kernel
theorem dL_law_526 : decode cL_law 526 = .ok (.istore 5, 2) := by decide +kernel
theorem dL_law_528 : decode cL_law 528 = .ok (.aload_n 2, 1) := by decide +kernel
theorem dL_law_529 : decode cL_law 529 = .ok (.aload_n 0, 1) := by decide +kernel
theorem dL_law_530 : decode cL_law 530 = .ok (.iload 4, 2) := by decide +kernel
theorem dL_law_532 : decode cL_law 532 = .ok (.iconst 1, 1) := by decide +kernel
theorem dL_law_533 : decode cL_law 533 = .ok (.iadd, 1) := by decide +kernel
theorem dL_law_534 : decode cL_law 534 = .ok (.iaload, 1) := by decide +kernel
theorem dL_law_535 : decode cL_law 535 = .ok (.invokevirtual 104, 3) := by decide +kernel
theorem dL_law_538 : decode cL_law 538 = .ok (.istore 6, 2) := by decide +kernel
theorem dL_law_540 : decode cL_law 540 = .ok (.aload_n 2, 1) := by decide +kernel
theorem dL_law_541 : decode cL_law 541 = .ok (.invokevirtual 83, 3) := by decide +kernel
theorem dL_law_544 : decode cL_law 544 = .ok (.iload 5, 2) := by decide +kernel
theorem dL_law_546 : decode cL_law 546 = .ok (.if_icmp .eq 5, 3) := by decide +kernel
theorem dL_law_549 : decode cL_law 549 = .ok (.iconst 0, 1) := by decide +kernel
theorem dL_law_550 : decode cL_law 550 = .ok (.ireturn, 1) := by decide +kernel
theorem dL_law_551 : decode cL_law 551 = .ok (.iload 5, 2) := by decide +kernel
theorem dL_law_553 : decode cL_law 553 = .ok (.ifCond .ne 15, 3) := by decide +kernel
theorem dL_law_556 : decode cL_law 556 = .ok (.aload_n 3, 1) := by decide +kernel
theorem dL_law_557 : decode cL_law 557 = .ok (.iconst 0, 1) := by decide +kernel
theorem dL_law_558 : decode cL_law 558 = .ok (.laload, 1) := by decide +kernel
theorem dL_law_559 : decode cL_law 559 = .ok (.iload 6, 2) := by decide +kernel
theorem dL_law_561 : decode cL_law 561 = .ok (.i2l, 1) := by decide +kernel
theorem dL_law_562 : decode cL_law 562 = .ok (.lcmp, 1) := by decide +kernel
theorem dL_law_563 : decode cL_law 563 = .ok (.ifCond .eq 5, 3) := by decide +kernel
theorem dL_law_566 : decode cL_law 566 = .ok (.iconst 0, 1) := by decide +kernel
theorem dL_law_567 : decode cL_law 567 = .ok (.ireturn, 1) := by decide +kernel
theorem dL_law_568 : decode cL_law 568 = .ok (.goto 862, 3) := by decide +kernel
theorem dL_law_571 : decode cL_law 571 = .ok (.aload_n 1, 1) := by decide +kernel
theorem dL_law_572 : decode cL_law 572 = .ok (.aload_n 0, 1) := by decide +kernel
theorem dL_law_573 : decode cL_law 573 = .ok (.iload 4, 2) := by decide +kernel
theorem dL_law_575 : decode cL_law 575 = .ok (.iconst 1, 1) := by decide +kernel
theorem dL_law_576 : decode cL_law 576 = .ok (.iadd, 1) := by decide +kernel
theorem dL_law_577 : decode cL_law 577 = .ok (.iaload, 1) := by decide +kernel
theorem dL_law_578 : decode cL_law 578 = .ok (.aload_n 0, 1) := by decide +kernel
theorem dL_law_579 : decode cL_law 579 = .ok (.iload 4, 2) := by decide +kernel
theorem dL_law_581 : decode cL_law 581 = .ok (.iconst 2, 1) := by decide +kernel
theorem dL_law_582 : decode cL_law 582 = .ok (.iadd, 1) := by decide +kernel
theorem dL_law_583 : decode cL_law 583 = .ok (.iaload, 1) := by decide +kernel
theorem dL_law_584 : decode cL_law 584 = .ok (.aload_n 3, 1) := by decide +kernel
theorem dL_law_585 : decode cL_law 585 = .ok (.invokestatic 105, 3) := by decide +kernel
theorem dL_law_588 : decode cL_law 588 = .ok (.istore 5, 2) := by decide +kernel
theorem dL_law_590 : decode cL_law 590 = .ok (.aload_n 2, 1) := by decide +kernel
theorem dL_law_591 : decode cL_law 591 = .ok (.aload_n 0, 1) := by decide +kernel
theorem dL_law_592 : decode cL_law 592 = .ok (.iload 4, 2) := by decide +kernel
theorem dL_law_594 : decode cL_law 594 = .ok (.iconst 1, 1) := by decide +kernel
theorem dL_law_595 : decode cL_law 595 = .ok (.iadd, 1) := by decide +kernel
theorem dL_law_596 : decode cL_law 596 = .ok (.iaload, 1) := by decide +kernel
theorem dL_law_597 : decode cL_law 597 = .ok (.aload_n 0, 1) := by decide +kernel
theorem dL_law_598 : decode cL_law 598 = .ok (.iload 4, 2) := by decide +kernel
theorem dL_law_600 : decode cL_law 600 = .ok (.iconst 2, 1) := by decide +kernel
theorem dL_law_601 : decode cL_law 601 = .ok (.iadd, 1) := by decide +kernel
theorem dL_law_602 : decode cL_law 602 = .ok (.iaload, 1) := by decide +kernel
theorem dL_law_603 : decode cL_law 603 = .ok (.invokevirtual 107, 3) := by decide +kernel
theorem dL_law_606 : decode cL_law 606 = .ok (.istore 6, 2) := by decide +kernel
theorem dL_law_608 : decode cL_law 608 = .ok (.aload_n 2, 1) := by decide +kernel
theorem dL_law_609 : decode cL_law 609 = .ok (.invokevirtual 83, 3) := by decide +kernel
theorem dL_law_612 : decode cL_law 612 = .ok (.iload 5, 2) := by decide +kernel
theorem dL_law_614 : decode cL_law 614 = .ok (.if_icmp .eq 5, 3) := by decide +kernel
theorem dL_law_617 : decode cL_law 617 = .ok (.iconst 0, 1) := by decide +kernel
theorem dL_law_618 : decode cL_law 618 = .ok (.ireturn, 1) := by decide +kernel
theorem dL_law_619 : decode cL_law 619 = .ok (.iload 5, 2) := by decide +kernel
theorem dL_law_621 : decode cL_law 621 = .ok (.ifCond .ne 15, 3) := by decide +kernel
theorem dL_law_624 : decode cL_law 624 = .ok (.aload_n 3, 1) := by decide +kernel
theorem dL_law_625 : decode cL_law 625 = .ok (.iconst 0, 1) := by decide +kernel
theorem dL_law_626 : decode cL_law 626 = .ok (.laload, 1) := by decide +kernel
theorem dL_law_627 : decode cL_law 627 = .ok (.iload 6, 2) := by decide +kernel
theorem dL_law_629 : decode cL_law 629 = .ok (.i2l, 1) := by decide +kernel
theorem dL_law_630 : decode cL_law 630 = .ok (.lcmp, 1) := by decide +kernel
theorem dL_law_631 : decode cL_law 631 = .ok (.ifCond .eq 5, 3) := by decide +kernel
theorem dL_law_634 : decode cL_law 634 = .ok (.iconst 0, 1) := by decide +kernel
theorem dL_law_635 : decode cL_law 635 = .ok (.ireturn, 1) := by decide +kernel
theorem dL_law_636 : decode cL_law 636 = .ok (.goto 794, 3) := by decide +kernel
theorem dL_law_639 : decode cL_law 639 = .ok (.aload_n 1, 1) := by decide +kernel
theorem dL_law_640 : decode cL_law 640 = .ok (.aload_n 0, 1) := by decide +kernel
theorem dL_law_641 : decode cL_law 641 = .ok (.iload 4, 2) := by decide +kernel
theorem dL_law_643 : decode cL_law 643 = .ok (.iconst 1, 1) := by decide +kernel
theorem dL_law_644 : decode cL_law 644 = .ok (.iadd, 1) := by decide +kernel
theorem dL_law_645 : decode cL_law 645 = .ok (.iaload, 1) := by decide +kernel
theorem dL_law_646 : decode cL_law 646 = .ok (.aload_n 0, 1) := by decide +kernel
theorem dL_law_647 : decode cL_law 647 = .ok (.iload 4, 2) := by decide +kernel
theorem dL_law_649 : decode cL_law 649 = .ok (.iconst 2, 1) := by decide +kernel
theorem dL_law_650 : decode cL_law 650 = .ok (.iadd, 1) := by decide +kernel
theorem dL_law_651 : decode cL_law 651 = .ok (.iaload, 1) := by decide +kernel
theorem dL_law_652 : decode cL_law 652 = .ok (.aload_n 3, 1) := by decide +kernel
theorem dL_law_653 : decode cL_law 653 = .ok (.invokestatic 108, 3) := by decide +kernel
theorem dL_law_656 : decode cL_law 656 = .ok (.istore 5, 2) := by decide +kernel
theorem dL_law_658 : decode cL_law 658 = .ok (.aload_n 2, 1) := by decide +kernel
theorem dL_law_659 : decode cL_law 659 = .ok (.aload_n 0, 1) := by decide +kernel
theorem dL_law_660 : decode cL_law 660 = .ok (.iload 4, 2) := by decide +kernel
theorem dL_law_662 : decode cL_law 662 = .ok (.iconst 1, 1) := by decide +kernel
theorem dL_law_663 : decode cL_law 663 = .ok (.iadd, 1) := by decide +kernel
theorem dL_law_664 : decode cL_law 664 = .ok (.iaload, 1) := by decide +kernel
theorem dL_law_665 : decode cL_law 665 = .ok (.aload_n 0, 1) := by decide +kernel
theorem dL_law_666 : decode cL_law 666 = .ok (.iload 4, 2) := by decide +kernel
theorem dL_law_668 : decode cL_law 668 = .ok (.iconst 2, 1) := by decide +kernel
theorem dL_law_669 : decode cL_law 669 = .ok (.iadd, 1) := by decide +kernel
theorem dL_law_670 : decode cL_law 670 = .ok (.iaload, 1) := by decide +kernel
theorem dL_law_671 : decode cL_law 671 = .ok (.invokevirtual 110, 3) := by decide +kernel
theorem dL_law_674 : decode cL_law 674 = .ok (.istore 6, 2) := by decide +kernel
theorem dL_law_676 : decode cL_law 676 = .ok (.aload_n 2, 1) := by decide +kernel
theorem dL_law_677 : decode cL_law 677 = .ok (.invokevirtual 83, 3) := by decide +kernel
theorem dL_law_680 : decode cL_law 680 = .ok (.iload 5, 2) := by decide +kernel
theorem dL_law_682 : decode cL_law 682 = .ok (.if_icmp .eq 5, 3) := by decide +kernel
theorem dL_law_685 : decode cL_law 685 = .ok (.iconst 0, 1) := by decide +kernel
theorem dL_law_686 : decode cL_law 686 = .ok (.ireturn, 1) := by decide +kernel
theorem dL_law_687 : decode cL_law 687 = .ok (.iload 5, 2) := by decide +kernel
theorem dL_law_689 : decode cL_law 689 = .ok (.ifCond .ne 15, 3) := by decide +kernel
theorem dL_law_692 : decode cL_law 692 = .ok (.aload_n 3, 1) := by decide +kernel
theorem dL_law_693 : decode cL_law 693 = .ok (.iconst 0, 1) := by decide +kernel
theorem dL_law_694 : decode cL_law 694 = .ok (.laload, 1) := by decide +kernel
theorem dL_law_695 : decode cL_law 695 = .ok (.iload 6, 2) := by decide +kernel
theorem dL_law_697 : decode cL_law 697 = .ok (.i2l, 1) := by decide +kernel
theorem dL_law_698 : decode cL_law 698 = .ok (.lcmp, 1) := by decide +kernel
theorem dL_law_699 : decode cL_law 699 = .ok (.ifCond .eq 5, 3) := by decide +kernel
theorem dL_law_702 : decode cL_law 702 = .ok (.iconst 0, 1) := by decide +kernel
theorem dL_law_703 : decode cL_law 703 = .ok (.ireturn, 1) := by decide +kernel
theorem dL_law_704 : decode cL_law 704 = .ok (.goto 726, 3) := by decide +kernel
theorem dL_law_707 : decode cL_law 707 = .ok (.aload_n 1, 1) := by decide +kernel
theorem dL_law_708 : decode cL_law 708 = .ok (.aload_n 0, 1) := by decide +kernel
theorem dL_law_709 : decode cL_law 709 = .ok (.iload 4, 2) := by decide +kernel
theorem dL_law_711 : decode cL_law 711 = .ok (.iconst 1, 1) := by decide +kernel
theorem dL_law_712 : decode cL_law 712 = .ok (.iadd, 1) := by decide +kernel
theorem dL_law_713 : decode cL_law 713 = .ok (.iaload, 1) := by decide +kernel
theorem dL_law_714 : decode cL_law 714 = .ok (.aload_n 3, 1) := by decide +kernel
theorem dL_law_715 : decode cL_law 715 = .ok (.invokestatic 111, 3) := by decide +kernel
theorem dL_law_718 : decode cL_law 718 = .ok (.istore 5, 2) := by decide +kernel
theorem dL_law_720 : decode cL_law 720 = .ok (.aload_n 2, 1) := by decide +kernel
theorem dL_law_721 : decode cL_law 721 = .ok (.aload_n 0, 1) := by decide +kernel
theorem dL_law_722 : decode cL_law 722 = .ok (.iload 4, 2) := by decide +kernel
theorem dL_law_724 : decode cL_law 724 = .ok (.iconst 1, 1) := by decide +kernel
theorem dL_law_725 : decode cL_law 725 = .ok (.iadd, 1) := by decide +kernel
theorem dL_law_726 : decode cL_law 726 = .ok (.iaload, 1) := by decide +kernel
theorem dL_law_727 : decode cL_law 727 = .ok (.invokevirtual 113, 3) := by decide +kernel
theorem dL_law_730 : decode cL_law 730 = .ok (.istore 6, 2) := by decide +kernel
theorem dL_law_732 : decode cL_law 732 = .ok (.aload_n 2, 1) := by decide +kernel
theorem dL_law_733 : decode cL_law 733 = .ok (.invokevirtual 83, 3) := by decide +kernel
theorem dL_law_736 : decode cL_law 736 = .ok (.iload 5, 2) := by decide +kernel
theorem dL_law_738 : decode cL_law 738 = .ok (.if_icmp .eq 5, 3) := by decide +kernel
theorem dL_law_741 : decode cL_law 741 = .ok (.iconst 0, 1) := by decide +kernel
theorem dL_law_742 : decode cL_law 742 = .ok (.ireturn, 1) := by decide +kernel
theorem dL_law_743 : decode cL_law 743 = .ok (.iload 5, 2) := by decide +kernel
theorem dL_law_745 : decode cL_law 745 = .ok (.ifCond .ne 15, 3) := by decide +kernel
theorem dL_law_748 : decode cL_law 748 = .ok (.aload_n 3, 1) := by decide +kernel
theorem dL_law_749 : decode cL_law 749 = .ok (.iconst 0, 1) := by decide +kernel
theorem dL_law_750 : decode cL_law 750 = .ok (.laload, 1) := by decide +kernel
theorem dL_law_751 : decode cL_law 751 = .ok (.iload 6, 2) := by decide +kernel
theorem dL_law_753 : decode cL_law 753 = .ok (.i2l, 1) := by decide +kernel
theorem dL_law_754 : decode cL_law 754 = .ok (.lcmp, 1) := by decide +kernel
theorem dL_law_755 : decode cL_law 755 = .ok (.ifCond .eq 5, 3) := by decide +kernel
theorem dL_law_758 : decode cL_law 758 = .ok (.iconst 0, 1) := by decide +kernel
theorem dL_law_759 : decode cL_law 759 = .ok (.ireturn, 1) := by decide +kernel
theorem dL_law_760 : decode cL_law 760 = .ok (.goto 670, 3) := by decide +kernel
theorem dL_law_763 : decode cL_law 763 = .ok (.aload_n 1, 1) := by decide +kernel
theorem dL_law_764 : decode cL_law 764 = .ok (.aload_n 0, 1) := by decide +kernel
theorem dL_law_765 : decode cL_law 765 = .ok (.iload 4, 2) := by decide +kernel
theorem dL_law_767 : decode cL_law 767 = .ok (.iconst 1, 1) := by decide +kernel
theorem dL_law_768 : decode cL_law 768 = .ok (.iadd, 1) := by decide +kernel
theorem dL_law_769 : decode cL_law 769 = .ok (.iaload, 1) := by decide +kernel
theorem dL_law_770 : decode cL_law 770 = .ok (.aload_n 0, 1) := by decide +kernel
theorem dL_law_771 : decode cL_law 771 = .ok (.iload 4, 2) := by decide +kernel
theorem dL_law_773 : decode cL_law 773 = .ok (.iconst 2, 1) := by decide +kernel
theorem dL_law_774 : decode cL_law 774 = .ok (.iadd, 1) := by decide +kernel
theorem dL_law_775 : decode cL_law 775 = .ok (.iaload, 1) := by decide +kernel
theorem dL_law_776 : decode cL_law 776 = .ok (.aload_n 3, 1) := by decide +kernel
theorem dL_law_777 : decode cL_law 777 = .ok (.invokestatic 114, 3) := by decide +kernel
theorem dL_law_780 : decode cL_law 780 = .ok (.istore 5, 2) := by decide +kernel
theorem dL_law_782 : decode cL_law 782 = .ok (.aload_n 2, 1) := by decide +kernel
theorem dL_law_783 : decode cL_law 783 = .ok (.aload_n 0, 1) := by decide +kernel
theorem dL_law_784 : decode cL_law 784 = .ok (.iload 4, 2) := by decide +kernel
theorem dL_law_786 : decode cL_law 786 = .ok (.iconst 1, 1) := by decide +kernel
theorem dL_law_787 : decode cL_law 787 = .ok (.iadd, 1) := by decide +kernel
theorem dL_law_788 : decode cL_law 788 = .ok (.iaload, 1) := by decide +kernel
theorem dL_law_789 : decode cL_law 789 = .ok (.aload_n 0, 1) := by decide +kernel
theorem dL_law_790 : decode cL_law 790 = .ok (.iload 4, 2) := by decide +kernel
theorem dL_law_792 : decode cL_law 792 = .ok (.iconst 2, 1) := by decide +kernel
theorem dL_law_793 : decode cL_law 793 = .ok (.iadd, 1) := by decide +kernel
theorem dL_law_794 : decode cL_law 794 = .ok (.iaload, 1) := by decide +kernel
theorem dL_law_795 : decode cL_law 795 = .ok (.invokevirtual 116, 3) := by decide +kernel
theorem dL_law_798 : decode cL_law 798 = .ok (.istore 6, 2) := by decide +kernel
theorem dL_law_800 : decode cL_law 800 = .ok (.aload_n 2, 1) := by decide +kernel
theorem dL_law_801 : decode cL_law 801 = .ok (.invokevirtual 83, 3) := by decide +kernel
theorem dL_law_804 : decode cL_law 804 = .ok (.iload 5, 2) := by decide +kernel
theorem dL_law_806 : decode cL_law 806 = .ok (.if_icmp .eq 5, 3) := by decide +kernel
theorem dL_law_809 : decode cL_law 809 = .ok (.iconst 0, 1) := by decide +kernel
theorem dL_law_810 : decode cL_law 810 = .ok (.ireturn, 1) := by decide +kernel
theorem dL_law_811 : decode cL_law 811 = .ok (.iload 5, 2) := by decide +kernel
theorem dL_law_813 : decode cL_law 813 = .ok (.ifCond .ne 15, 3) := by decide +kernel
theorem dL_law_816 : decode cL_law 816 = .ok (.aload_n 3, 1) := by decide +kernel
theorem dL_law_817 : decode cL_law 817 = .ok (.iconst 0, 1) := by decide +kernel
theorem dL_law_818 : decode cL_law 818 = .ok (.laload, 1) := by decide +kernel
theorem dL_law_819 : decode cL_law 819 = .ok (.iload 6, 2) := by decide +kernel
theorem dL_law_821 : decode cL_law 821 = .ok (.i2l, 1) := by decide +kernel
theorem dL_law_822 : decode cL_law 822 = .ok (.lcmp, 1) := by decide +kernel
theorem dL_law_823 : decode cL_law 823 = .ok (.ifCond .eq 5, 3) := by decide +kernel
theorem dL_law_826 : decode cL_law 826 = .ok (.iconst 0, 1) := by decide +kernel
theorem dL_law_827 : decode cL_law 827 = .ok (.ireturn, 1) := by decide +kernel
theorem dL_law_828 : decode cL_law 828 = .ok (.goto 602, 3) := by decide +kernel
theorem dL_law_831 : decode cL_law 831 = .ok (.aload_n 1, 1) := by decide +kernel
theorem dL_law_832 : decode cL_law 832 = .ok (.aload_n 0, 1) := by decide +kernel
theorem dL_law_833 : decode cL_law 833 = .ok (.iload 4, 2) := by decide +kernel
theorem dL_law_835 : decode cL_law 835 = .ok (.iconst 1, 1) := by decide +kernel
theorem dL_law_836 : decode cL_law 836 = .ok (.iadd, 1) := by decide +kernel
theorem dL_law_837 : decode cL_law 837 = .ok (.iaload, 1) := by decide +kernel
theorem dL_law_838 : decode cL_law 838 = .ok (.aload_n 0, 1) := by decide +kernel
theorem dL_law_839 : decode cL_law 839 = .ok (.iload 4, 2) := by decide +kernel
theorem dL_law_841 : decode cL_law 841 = .ok (.iconst 2, 1) := by decide +kernel
theorem dL_law_842 : decode cL_law 842 = .ok (.iadd, 1) := by decide +kernel
theorem dL_law_843 : decode cL_law 843 = .ok (.iaload, 1) := by decide +kernel
theorem dL_law_844 : decode cL_law 844 = .ok (.aload_n 3, 1) := by decide +kernel
theorem dL_law_845 : decode cL_law 845 = .ok (.invokestatic 117, 3) := by decide +kernel
theorem dL_law_848 : decode cL_law 848 = .ok (.istore 5, 2) := by decide +kernel
theorem dL_law_850 : decode cL_law 850 = .ok (.aload_n 2, 1) := by decide +kernel
theorem dL_law_851 : decode cL_law 851 = .ok (.aload_n 0, 1) := by decide +kernel
theorem dL_law_852 : decode cL_law 852 = .ok (.iload 4, 2) := by decide +kernel
theorem dL_law_854 : decode cL_law 854 = .ok (.iconst 1, 1) := by decide +kernel
theorem dL_law_855 : decode cL_law 855 = .ok (.iadd, 1) := by decide +kernel
theorem dL_law_856 : decode cL_law 856 = .ok (.iaload, 1) := by decide +kernel
theorem dL_law_857 : decode cL_law 857 = .ok (.aload_n 0, 1) := by decide +kernel
theorem dL_law_858 : decode cL_law 858 = .ok (.iload 4, 2) := by decide +kernel
theorem dL_law_860 : decode cL_law 860 = .ok (.iconst 2, 1) := by decide +kernel
theorem dL_law_861 : decode cL_law 861 = .ok (.iadd, 1) := by decide +kernel
theorem dL_law_862 : decode cL_law 862 = .ok (.iaload, 1) := by decide +kernel
theorem dL_law_863 : decode cL_law 863 = .ok (.invokevirtual 119, 3) := by decide +kernel
theorem dL_law_866 : decode cL_law 866 = .ok (.istore 6, 2) := by decide +kernel
theorem dL_law_868 : decode cL_law 868 = .ok (.aload_n 2, 1) := by decide +kernel
theorem dL_law_869 : decode cL_law 869 = .ok (.invokevirtual 83, 3) := by decide +kernel
theorem dL_law_872 : decode cL_law 872 = .ok (.iload 5, 2) := by decide +kernel
theorem dL_law_874 : decode cL_law 874 = .ok (.if_icmp .eq 5, 3) := by decide +kernel
theorem dL_law_877 : decode cL_law 877 = .ok (.iconst 0, 1) := by decide +kernel
theorem dL_law_878 : decode cL_law 878 = .ok (.ireturn, 1) := by decide +kernel
theorem dL_law_879 : decode cL_law 879 = .ok (.iload 5, 2) := by decide +kernel
theorem dL_law_881 : decode cL_law 881 = .ok (.ifCond .ne 15, 3) := by decide +kernel
theorem dL_law_884 : decode cL_law 884 = .ok (.aload_n 3, 1) := by decide +kernel
theorem dL_law_885 : decode cL_law 885 = .ok (.iconst 0, 1) := by decide +kernel
theorem dL_law_886 : decode cL_law 886 = .ok (.laload, 1) := by decide +kernel
theorem dL_law_887 : decode cL_law 887 = .ok (.iload 6, 2) := by decide +kernel
theorem dL_law_889 : decode cL_law 889 = .ok (.i2l, 1) := by decide +kernel
theorem dL_law_890 : decode cL_law 890 = .ok (.lcmp, 1) := by decide +kernel
theorem dL_law_891 : decode cL_law 891 = .ok (.ifCond .eq 5, 3) := by decide +kernel
theorem dL_law_894 : decode cL_law 894 = .ok (.iconst 0, 1) := by decide +kernel
theorem dL_law_895 : decode cL_law 895 = .ok (.ireturn, 1) := by decide +kernel
theorem dL_law_896 : decode cL_law 896 = .ok (.goto 534, 3) := by decide +kernel
theorem dL_law_899 : decode cL_law 899 = .ok (.aload_n 1, 1) := by decide +kernel
theorem dL_law_900 : decode cL_law 900 = .ok (.aload_n 0, 1) := by decide +kernel
theorem dL_law_901 : decode cL_law 901 = .ok (.iload 4, 2) := by decide +kernel
theorem dL_law_903 : decode cL_law 903 = .ok (.iconst 1, 1) := by decide +kernel
theorem dL_law_904 : decode cL_law 904 = .ok (.iadd, 1) := by decide +kernel
theorem dL_law_905 : decode cL_law 905 = .ok (.iaload, 1) := by decide +kernel
theorem dL_law_906 : decode cL_law 906 = .ok (.aload_n 0, 1) := by decide +kernel
theorem dL_law_907 : decode cL_law 907 = .ok (.iload 4, 2) := by decide +kernel
theorem dL_law_909 : decode cL_law 909 = .ok (.iconst 2, 1) := by decide +kernel
theorem dL_law_910 : decode cL_law 910 = .ok (.iadd, 1) := by decide +kernel
theorem dL_law_911 : decode cL_law 911 = .ok (.iaload, 1) := by decide +kernel
theorem dL_law_912 : decode cL_law 912 = .ok (.aload_n 0, 1) := by decide +kernel
theorem dL_law_913 : decode cL_law 913 = .ok (.iload 4, 2) := by decide +kernel
theorem dL_law_915 : decode cL_law 915 = .ok (.iconst 3, 1) := by decide +kernel
theorem dL_law_916 : decode cL_law 916 = .ok (.iadd, 1) := by decide +kernel
theorem dL_law_917 : decode cL_law 917 = .ok (.iaload, 1) := by decide +kernel
theorem dL_law_918 : decode cL_law 918 = .ok (.aload_n 3, 1) := by decide +kernel
theorem dL_law_919 : decode cL_law 919 = .ok (.invokestatic 120, 3) := by decide +kernel
theorem dL_law_922 : decode cL_law 922 = .ok (.istore 5, 2) := by decide +kernel
theorem dL_law_924 : decode cL_law 924 = .ok (.aload_n 2, 1) := by decide +kernel
theorem dL_law_925 : decode cL_law 925 = .ok (.aload_n 0, 1) := by decide +kernel
theorem dL_law_926 : decode cL_law 926 = .ok (.iload 4, 2) := by decide +kernel
theorem dL_law_928 : decode cL_law 928 = .ok (.iconst 1, 1) := by decide +kernel
theorem dL_law_929 : decode cL_law 929 = .ok (.iadd, 1) := by decide +kernel
theorem dL_law_930 : decode cL_law 930 = .ok (.iaload, 1) := by decide +kernel
theorem dL_law_931 : decode cL_law 931 = .ok (.aload_n 0, 1) := by decide +kernel
theorem dL_law_932 : decode cL_law 932 = .ok (.iload 4, 2) := by decide +kernel
theorem dL_law_934 : decode cL_law 934 = .ok (.iconst 2, 1) := by decide +kernel
theorem dL_law_935 : decode cL_law 935 = .ok (.iadd, 1) := by decide +kernel
theorem dL_law_936 : decode cL_law 936 = .ok (.iaload, 1) := by decide +kernel
theorem dL_law_937 : decode cL_law 937 = .ok (.aload_n 0, 1) := by decide +kernel
theorem dL_law_938 : decode cL_law 938 = .ok (.iload 4, 2) := by decide +kernel
theorem dL_law_940 : decode cL_law 940 = .ok (.iconst 3, 1) := by decide +kernel
theorem dL_law_941 : decode cL_law 941 = .ok (.iadd, 1) := by decide +kernel
theorem dL_law_942 : decode cL_law 942 = .ok (.iaload, 1) := by decide +kernel
theorem dL_law_943 : decode cL_law 943 = .ok (.invokevirtual 122, 3) := by decide +kernel
theorem dL_law_946 : decode cL_law 946 = .ok (.istore 6, 2) := by decide +kernel
theorem dL_law_948 : decode cL_law 948 = .ok (.aload_n 2, 1) := by decide +kernel
theorem dL_law_949 : decode cL_law 949 = .ok (.invokevirtual 83, 3) := by decide +kernel
theorem dL_law_952 : decode cL_law 952 = .ok (.iload 5, 2) := by decide +kernel
theorem dL_law_954 : decode cL_law 954 = .ok (.if_icmp .eq 5, 3) := by decide +kernel
theorem dL_law_957 : decode cL_law 957 = .ok (.iconst 0, 1) := by decide +kernel
theorem dL_law_958 : decode cL_law 958 = .ok (.ireturn, 1) := by decide +kernel
theorem dL_law_959 : decode cL_law 959 = .ok (.iload 5, 2) := by decide +kernel
theorem dL_law_961 : decode cL_law 961 = .ok (.ifCond .ne 15, 3) := by decide +kernel
theorem dL_law_964 : decode cL_law 964 = .ok (.aload_n 3, 1) := by decide +kernel
theorem dL_law_965 : decode cL_law 965 = .ok (.iconst 0, 1) := by decide +kernel
theorem dL_law_966 : decode cL_law 966 = .ok (.laload, 1) := by decide +kernel
theorem dL_law_967 : decode cL_law 967 = .ok (.iload 6, 2) := by decide +kernel
theorem dL_law_969 : decode cL_law 969 = .ok (.i2l, 1) := by decide +kernel
theorem dL_law_970 : decode cL_law 970 = .ok (.lcmp, 1) := by decide +kernel
theorem dL_law_971 : decode cL_law 971 = .ok (.ifCond .eq 5, 3) := by decide +kernel
theorem dL_law_974 : decode cL_law 974 = .ok (.iconst 0, 1) := by decide +kernel
theorem dL_law_975 : decode cL_law 975 = .ok (.ireturn, 1) := by decide +kernel
theorem dL_law_976 : decode cL_law 976 = .ok (.goto 454, 3) := by decide +kernel
theorem dL_law_979 : decode cL_law 979 = .ok (.aload_n 1, 1) := by decide +kernel
theorem dL_law_980 : decode cL_law 980 = .ok (.invokevirtual 123, 3) := by decide +kernel
theorem dL_law_983 : decode cL_law 983 = .ok (.aload_n 2, 1) := by decide +kernel
theorem dL_law_984 : decode cL_law 984 = .ok (.invokevirtual 126, 3) := by decide +kernel
theorem dL_law_987 : decode cL_law 987 = .ok (.if_icmp .eq 443, 3) := by decide +kernel
theorem dL_law_990 : decode cL_law 990 = .ok (.iconst 0, 1) := by decide +kernel
theorem dL_law_991 : decode cL_law 991 = .ok (.ireturn, 1) := by decide +kernel
theorem dL_law_992 : decode cL_law 992 = .ok (.aload_n 1, 1) := by decide +kernel
theorem dL_law_993 : decode cL_law 993 = .ok (.aload_n 0, 1) := by decide +kernel
theorem dL_law_994 : decode cL_law 994 = .ok (.iload 4, 2) := by decide +kernel
theorem dL_law_996 : decode cL_law 996 = .ok (.iconst 1, 1) := by decide +kernel
theorem dL_law_997 : decode cL_law 997 = .ok (.iadd, 1) := by decide +kernel
theorem dL_law_998 : decode cL_law 998 = .ok (.iaload, 1) := by decide +kernel
theorem dL_law_999 : decode cL_law 999 = .ok (.aload_n 0, 1) := by decide +kernel
theorem dL_law_1000 : decode cL_law 1000 = .ok (.iload 4, 2) := by decide +kernel
theorem dL_law_1002 : decode cL_law 1002 = .ok (.iconst 2, 1) := by decide +kernel
theorem dL_law_1003 : decode cL_law 1003 = .ok (.iadd, 1) := by decide +kernel
theorem dL_law_1004 : decode cL_law 1004 = .ok (.iaload, 1) := by decide +kernel
theorem dL_law_1005 : decode cL_law 1005 = .ok (.aload_n 3, 1) := by decide +kernel
theorem dL_law_1006 : decode cL_law 1006 = .ok (.invokestatic 127, 3) := by decide +kernel
theorem dL_law_1009 : decode cL_law 1009 = .ok (.istore 5, 2) := by decide +kernel
theorem dL_law_1011 : decode cL_law 1011 = .ok (.aload_n 2, 1) := by decide +kernel
theorem dL_law_1012 : decode cL_law 1012 = .ok (.aload_n 0, 1) := by decide +kernel
theorem dL_law_1013 : decode cL_law 1013 = .ok (.iload 4, 2) := by decide +kernel
theorem dL_law_1015 : decode cL_law 1015 = .ok (.iconst 1, 1) := by decide +kernel
theorem dL_law_1016 : decode cL_law 1016 = .ok (.iadd, 1) := by decide +kernel
theorem dL_law_1017 : decode cL_law 1017 = .ok (.iaload, 1) := by decide +kernel
theorem dL_law_1018 : decode cL_law 1018 = .ok (.aload_n 0, 1) := by decide +kernel
theorem dL_law_1019 : decode cL_law 1019 = .ok (.iload 4, 2) := by decide +kernel
theorem dL_law_1021 : decode cL_law 1021 = .ok (.iconst 2, 1) := by decide +kernel
theorem dL_law_1022 : decode cL_law 1022 = .ok (.iadd, 1) := by decide +kernel
theorem dL_law_1023 : decode cL_law 1023 = .ok (.iaload, 1) := by decide +kernel
theorem dL_law_1024 : decode cL_law 1024 = .ok (.invokevirtual 129, 3) := by decide +kernel
theorem dL_law_1027 : decode cL_law 1027 = .ok (.istore 6, 2) := by decide +kernel
theorem dL_law_1029 : decode cL_law 1029 = .ok (.aload_n 2, 1) := by decide +kernel
theorem dL_law_1030 : decode cL_law 1030 = .ok (.invokevirtual 83, 3) := by decide +kernel
theorem dL_law_1033 : decode cL_law 1033 = .ok (.iload 5, 2) := by decide +kernel
theorem dL_law_1035 : decode cL_law 1035 = .ok (.if_icmp .eq 5, 3) := by decide +kernel
theorem dL_law_1038 : decode cL_law 1038 = .ok (.iconst 0, 1) := by decide +kernel
theorem dL_law_1039 : decode cL_law 1039 = .ok (.ireturn, 1) := by decide +kernel
theorem dL_law_1040 : decode cL_law 1040 = .ok (.iload 5, 2) := by decide +kernel
theorem dL_law_1042 : decode cL_law 1042 = .ok (.ifCond .ne 15, 3) := by decide +kernel
theorem dL_law_1045 : decode cL_law 1045 = .ok (.aload_n 3, 1) := by decide +kernel
theorem dL_law_1046 : decode cL_law 1046 = .ok (.iconst 0, 1) := by decide +kernel
theorem dL_law_1047 : decode cL_law 1047 = .ok (.laload, 1) := by decide +kernel
theorem dL_law_1048 : decode cL_law 1048 = .ok (.iload 6, 2) := by decide +kernel
theorem dL_law_1050 : decode cL_law 1050 = .ok (.i2l, 1) := by decide +kernel
theorem dL_law_1051 : decode cL_law 1051 = .ok (.lcmp, 1) := by decide +kernel
theorem dL_law_1052 : decode cL_law 1052 = .ok (.ifCond .eq 5, 3) := by decide +kernel
theorem dL_law_1055 : decode cL_law 1055 = .ok (.iconst 0, 1) := by decide +kernel
theorem dL_law_1056 : decode cL_law 1056 = .ok (.ireturn, 1) := by decide +kernel
theorem dL_law_1057 : decode cL_law 1057 = .ok (.goto 373, 3) := by decide +kernel
theorem dL_law_1060 : decode cL_law 1060 = .ok (.aload_n 1, 1) := by decide +kernel
theorem dL_law_1061 : decode cL_law 1061 = .ok (.invokevirtual 130, 3) := by decide +kernel
theorem dL_law_1064 : decode cL_law 1064 = .ok (.aload_n 2, 1) := by decide +kernel
theorem dL_law_1065 : decode cL_law 1065 = .ok (.invokevirtual 133, 3) := by decide +kernel
theorem dL_law_1068 : decode cL_law 1068 = .ok (.if_icmp .eq 362, 3) := by decide +kernel
theorem dL_law_1071 : decode cL_law 1071 = .ok (.iconst 0, 1) := by decide +kernel
theorem dL_law_1072 : decode cL_law 1072 = .ok (.ireturn, 1) := by decide +kernel
theorem dL_law_1073 : decode cL_law 1073 = .ok (.aload_n 1, 1) := by decide +kernel
theorem dL_law_1074 : decode cL_law 1074 = .ok (.invokevirtual 134, 3) := by decide +kernel
theorem dL_law_1077 : decode cL_law 1077 = .ok (.aload_n 2, 1) := by decide +kernel
theorem dL_law_1078 : decode cL_law 1078 = .ok (.invokevirtual 137, 3) := by decide +kernel
theorem dL_law_1081 : decode cL_law 1081 = .ok (.if_icmp .eq 349, 3) := by decide +kernel
theorem dL_law_1084 : decode cL_law 1084 = .ok (.iconst 0, 1) := by decide +kernel
theorem dL_law_1085 : decode cL_law 1085 = .ok (.ireturn, 1) := by decide +kernel
theorem dL_law_1086 : decode cL_law 1086 = .ok (.aload_n 1, 1) := by decide +kernel
theorem dL_law_1087 : decode cL_law 1087 = .ok (.invokevirtual 138, 3) := by decide +kernel
theorem dL_law_1090 : decode cL_law 1090 = .ok (.aload_n 2, 1) := by decide +kernel
theorem dL_law_1091 : decode cL_law 1091 = .ok (.invokevirtual 141, 3) := by decide +kernel
theorem dL_law_1094 : decode cL_law 1094 = .ok (.if_icmp .eq 336, 3) := by decide +kernel
theorem dL_law_1097 : decode cL_law 1097 = .ok (.iconst 0, 1) := by decide +kernel
theorem dL_law_1098 : decode cL_law 1098 = .ok (.ireturn, 1) := by decide +kernel
theorem dL_law_1099 : decode cL_law 1099 = .ok (.aload_n 1, 1) := by decide +kernel
theorem dL_law_1100 : decode cL_law 1100 = .ok (.invokevirtual 142, 3) := by decide +kernel
theorem dL_law_1103 : decode cL_law 1103 = .ok (.aload_n 2, 1) := by decide +kernel
theorem dL_law_1104 : decode cL_law 1104 = .ok (.invokevirtual 145, 3) := by decide +kernel
theorem dL_law_1107 : decode cL_law 1107 = .ok (.if_icmp .eq 323, 3) := by decide +kernel
theorem dL_law_1110 : decode cL_law 1110 = .ok (.iconst 0, 1) := by decide +kernel
theorem dL_law_1111 : decode cL_law 1111 = .ok (.ireturn, 1) := by decide +kernel
theorem dL_law_1112 : decode cL_law 1112 = .ok (.aload_n 1, 1) := by decide +kernel
theorem dL_law_1113 : decode cL_law 1113 = .ok (.aload_n 0, 1) := by decide +kernel
theorem dL_law_1114 : decode cL_law 1114 = .ok (.iload 4, 2) := by decide +kernel
theorem dL_law_1116 : decode cL_law 1116 = .ok (.iconst 1, 1) := by decide +kernel
theorem dL_law_1117 : decode cL_law 1117 = .ok (.iadd, 1) := by decide +kernel
theorem dL_law_1118 : decode cL_law 1118 = .ok (.iaload, 1) := by decide +kernel
theorem dL_law_1119 : decode cL_law 1119 = .ok (.aload_n 3, 1) := by decide +kernel
theorem dL_law_1120 : decode cL_law 1120 = .ok (.invokestatic 146, 3) := by decide +kernel
theorem dL_law_1123 : decode cL_law 1123 = .ok (.istore 5, 2) := by decide +kernel
theorem dL_law_1125 : decode cL_law 1125 = .ok (.aload_n 2, 1) := by decide +kernel
theorem dL_law_1126 : decode cL_law 1126 = .ok (.aload_n 0, 1) := by decide +kernel
theorem dL_law_1127 : decode cL_law 1127 = .ok (.iload 4, 2) := by decide +kernel
theorem dL_law_1129 : decode cL_law 1129 = .ok (.iconst 1, 1) := by decide +kernel
theorem dL_law_1130 : decode cL_law 1130 = .ok (.iadd, 1) := by decide +kernel
theorem dL_law_1131 : decode cL_law 1131 = .ok (.iaload, 1) := by decide +kernel
theorem dL_law_1132 : decode cL_law 1132 = .ok (.invokevirtual 148, 3) := by decide +kernel
theorem dL_law_1135 : decode cL_law 1135 = .ok (.istore 6, 2) := by decide +kernel
theorem dL_law_1137 : decode cL_law 1137 = .ok (.aload_n 2, 1) := by decide +kernel
theorem dL_law_1138 : decode cL_law 1138 = .ok (.invokevirtual 83, 3) := by decide +kernel
theorem dL_law_1141 : decode cL_law 1141 = .ok (.iload 5, 2) := by decide +kernel
theorem dL_law_1143 : decode cL_law 1143 = .ok (.if_icmp .eq 5, 3) := by decide +kernel
theorem dL_law_1146 : decode cL_law 1146 = .ok (.iconst 0, 1) := by decide +kernel
theorem dL_law_1147 : decode cL_law 1147 = .ok (.ireturn, 1) := by decide +kernel
theorem dL_law_1148 : decode cL_law 1148 = .ok (.iload 5, 2) := by decide +kernel
theorem dL_law_1150 : decode cL_law 1150 = .ok (.ifCond .ne 15, 3) := by decide +kernel
theorem dL_law_1153 : decode cL_law 1153 = .ok (.aload_n 3, 1) := by decide +kernel
theorem dL_law_1154 : decode cL_law 1154 = .ok (.iconst 0, 1) := by decide +kernel
theorem dL_law_1155 : decode cL_law 1155 = .ok (.laload, 1) := by decide +kernel
theorem dL_law_1156 : decode cL_law 1156 = .ok (.iload 6, 2) := by decide +kernel
theorem dL_law_1158 : decode cL_law 1158 = .ok (.i2l, 1) := by decide +kernel
theorem dL_law_1159 : decode cL_law 1159 = .ok (.lcmp, 1) := by decide +kernel
theorem dL_law_1160 : decode cL_law 1160 = .ok (.ifCond .eq 5, 3) := by decide +kernel
theorem dL_law_1163 : decode cL_law 1163 = .ok (.iconst 0, 1) := by decide +kernel
theorem dL_law_1164 : decode cL_law 1164 = .ok (.ireturn, 1) := by decide +kernel
theorem dL_law_1165 : decode cL_law 1165 = .ok (.goto 265, 3) := by decide +kernel
theorem dL_law_1168 : decode cL_law 1168 = .ok (.aload_n 1, 1) := by decide +kernel
theorem dL_law_1169 : decode cL_law 1169 = .ok (.aload_n 0, 1) := by decide +kernel
theorem dL_law_1170 : decode cL_law 1170 = .ok (.iload 4, 2) := by decide +kernel
theorem dL_law_1172 : decode cL_law 1172 = .ok (.iconst 1, 1) := by decide +kernel
theorem dL_law_1173 : decode cL_law 1173 = .ok (.iadd, 1) := by decide +kernel
theorem dL_law_1174 : decode cL_law 1174 = .ok (.iaload, 1) := by decide +kernel
theorem dL_law_1175 : decode cL_law 1175 = .ok (.aload_n 3, 1) := by decide +kernel
theorem dL_law_1176 : decode cL_law 1176 = .ok (.invokestatic 149, 3) := by decide +kernel
theorem dL_law_1179 : decode cL_law 1179 = .ok (.istore 5, 2) := by decide +kernel
theorem dL_law_1181 : decode cL_law 1181 = .ok (.aload_n 2, 1) := by decide +kernel
theorem dL_law_1182 : decode cL_law 1182 = .ok (.aload_n 0, 1) := by decide +kernel
theorem dL_law_1183 : decode cL_law 1183 = .ok (.iload 4, 2) := by decide +kernel
theorem dL_law_1185 : decode cL_law 1185 = .ok (.iconst 1, 1) := by decide +kernel
theorem dL_law_1186 : decode cL_law 1186 = .ok (.iadd, 1) := by decide +kernel
theorem dL_law_1187 : decode cL_law 1187 = .ok (.iaload, 1) := by decide +kernel
theorem dL_law_1188 : decode cL_law 1188 = .ok (.invokevirtual 151, 3) := by decide +kernel
theorem dL_law_1191 : decode cL_law 1191 = .ok (.istore 6, 2) := by decide +kernel
theorem dL_law_1193 : decode cL_law 1193 = .ok (.aload_n 2, 1) := by decide +kernel
theorem dL_law_1194 : decode cL_law 1194 = .ok (.invokevirtual 83, 3) := by decide +kernel
theorem dL_law_1197 : decode cL_law 1197 = .ok (.iload 5, 2) := by decide +kernel
theorem dL_law_1199 : decode cL_law 1199 = .ok (.if_icmp .eq 5, 3) := by decide +kernel
theorem dL_law_1202 : decode cL_law 1202 = .ok (.iconst 0, 1) := by decide +kernel
theorem dL_law_1203 : decode cL_law 1203 = .ok (.ireturn, 1) := by decide +kernel
theorem dL_law_1204 : decode cL_law 1204 = .ok (.iload 5, 2) := by decide +kernel
theorem dL_law_1206 : decode cL_law 1206 = .ok (.ifCond .ne 15, 3) := by decide +kernel
theorem dL_law_1209 : decode cL_law 1209 = .ok (.aload_n 3, 1) := by decide +kernel
theorem dL_law_1210 : decode cL_law 1210 = .ok (.iconst 0, 1) := by decide +kernel
theorem dL_law_1211 : decode cL_law 1211 = .ok (.laload, 1) := by decide +kernel
theorem dL_law_1212 : decode cL_law 1212 = .ok (.iload 6, 2) := by decide +kernel
theorem dL_law_1214 : decode cL_law 1214 = .ok (.i2l, 1) := by decide +kernel
theorem dL_law_1215 : decode cL_law 1215 = .ok (.lcmp, 1) := by decide +kernel
theorem dL_law_1216 : decode cL_law 1216 = .ok (.ifCond .eq 5, 3) := by decide +kernel
theorem dL_law_1219 : decode cL_law 1219 = .ok (.iconst 0, 1) := by decide +kernel
theorem dL_law_1220 : decode cL_law 1220 = .ok (.ireturn, 1) := by decide +kernel
theorem dL_law_1221 : decode cL_law 1221 = .ok (.goto 209, 3) := by decide +kernel
theorem dL_law_1224 : decode cL_law 1224 = .ok (.aload_n 1, 1) := by decide +kernel
theorem dL_law_1225 : decode cL_law 1225 = .ok (.invokevirtual 152, 3) := by decide +kernel
theorem dL_law_1228 : decode cL_law 1228 = .ok (.aload_n 2, 1) := by decide +kernel
theorem dL_law_1229 : decode cL_law 1229 = .ok (.invokevirtual 155, 3) := by decide +kernel
theorem dL_law_1232 : decode cL_law 1232 = .ok (.if_icmp .eq 198, 3) := by decide +kernel
theorem dL_law_1235 : decode cL_law 1235 = .ok (.iconst 0, 1) := by decide +kernel
theorem dL_law_1236 : decode cL_law 1236 = .ok (.ireturn, 1) := by decide +kernel
theorem dL_law_1237 : decode cL_law 1237 = .ok (.aload_n 1, 1) := by decide +kernel
theorem dL_law_1238 : decode cL_law 1238 = .ok (.aload_n 0, 1) := by decide +kernel
theorem dL_law_1239 : decode cL_law 1239 = .ok (.iload 4, 2) := by decide +kernel
theorem dL_law_1241 : decode cL_law 1241 = .ok (.iconst 1, 1) := by decide +kernel
theorem dL_law_1242 : decode cL_law 1242 = .ok (.iadd, 1) := by decide +kernel
theorem dL_law_1243 : decode cL_law 1243 = .ok (.iaload, 1) := by decide +kernel
theorem dL_law_1244 : decode cL_law 1244 = .ok (.aload_n 3, 1) := by decide +kernel
theorem dL_law_1245 : decode cL_law 1245 = .ok (.invokestatic 156, 3) := by decide +kernel
theorem dL_law_1248 : decode cL_law 1248 = .ok (.istore 5, 2) := by decide +kernel
theorem dL_law_1250 : decode cL_law 1250 = .ok (.aload_n 2, 1) := by decide +kernel
theorem dL_law_1251 : decode cL_law 1251 = .ok (.aload_n 0, 1) := by decide +kernel
theorem dL_law_1252 : decode cL_law 1252 = .ok (.iload 4, 2) := by decide +kernel
theorem dL_law_1254 : decode cL_law 1254 = .ok (.iconst 1, 1) := by decide +kernel
theorem dL_law_1255 : decode cL_law 1255 = .ok (.iadd, 1) := by decide +kernel
theorem dL_law_1256 : decode cL_law 1256 = .ok (.iaload, 1) := by decide +kernel
theorem dL_law_1257 : decode cL_law 1257 = .ok (.invokevirtual 158, 3) := by decide +kernel
theorem dL_law_1260 : decode cL_law 1260 = .ok (.istore 6, 2) := by decide +kernel
theorem dL_law_1262 : decode cL_law 1262 = .ok (.aload_n 2, 1) := by decide +kernel
theorem dL_law_1263 : decode cL_law 1263 = .ok (.invokevirtual 83, 3) := by decide +kernel
theorem dL_law_1266 : decode cL_law 1266 = .ok (.iload 5, 2) := by decide +kernel
theorem dL_law_1268 : decode cL_law 1268 = .ok (.if_icmp .eq 5, 3) := by decide +kernel
theorem dL_law_1271 : decode cL_law 1271 = .ok (.iconst 0, 1) := by decide +kernel
theorem dL_law_1272 : decode cL_law 1272 = .ok (.ireturn, 1) := by decide +kernel
theorem dL_law_1273 : decode cL_law 1273 = .ok (.iload 5, 2) := by decide +kernel
theorem dL_law_1275 : decode cL_law 1275 = .ok (.ifCond .ne 15, 3) := by decide +kernel
theorem dL_law_1278 : decode cL_law 1278 = .ok (.aload_n 3, 1) := by decide +kernel
theorem dL_law_1279 : decode cL_law 1279 = .ok (.iconst 0, 1) := by decide +kernel
theorem dL_law_1280 : decode cL_law 1280 = .ok (.laload, 1) := by decide +kernel
theorem dL_law_1281 : decode cL_law 1281 = .ok (.iload 6, 2) := by decide +kernel
theorem dL_law_1283 : decode cL_law 1283 = .ok (.i2l, 1) := by decide +kernel
theorem dL_law_1284 : decode cL_law 1284 = .ok (.lcmp, 1) := by decide +kernel
theorem dL_law_1285 : decode cL_law 1285 = .ok (.ifCond .eq 5, 3) := by decide +kernel
theorem dL_law_1288 : decode cL_law 1288 = .ok (.iconst 0, 1) := by decide +kernel
theorem dL_law_1289 : decode cL_law 1289 = .ok (.ireturn, 1) := by decide +kernel
theorem dL_law_1290 : decode cL_law 1290 = .ok (.goto 140, 3) := by decide +kernel
theorem dL_law_1293 : decode cL_law 1293 = .ok (.aload_n 1, 1) := by decide +kernel
theorem dL_law_1294 : decode cL_law 1294 = .ok (.invokevirtual 159, 3) := by decide +kernel
theorem dL_law_1297 : decode cL_law 1297 = .ok (.aload_n 2, 1) := by decide +kernel
theorem dL_law_1298 : decode cL_law 1298 = .ok (.invokevirtual 162, 3) := by decide +kernel
theorem dL_law_1301 : decode cL_law 1301 = .ok (.if_icmp .eq 129, 3) := by decide +kernel
theorem dL_law_1304 : decode cL_law 1304 = .ok (.iconst 0, 1) := by decide +kernel
theorem dL_law_1305 : decode cL_law 1305 = .ok (.ireturn, 1) := by decide +kernel
theorem dL_law_1306 : decode cL_law 1306 = .ok (.aload_n 1, 1) := by decide +kernel
theorem dL_law_1307 : decode cL_law 1307 = .ok (.aload_n 0, 1) := by decide +kernel
theorem dL_law_1308 : decode cL_law 1308 = .ok (.iload 4, 2) := by decide +kernel
theorem dL_law_1310 : decode cL_law 1310 = .ok (.iconst 1, 1) := by decide +kernel
theorem dL_law_1311 : decode cL_law 1311 = .ok (.iadd, 1) := by decide +kernel
theorem dL_law_1312 : decode cL_law 1312 = .ok (.iaload, 1) := by decide +kernel
theorem dL_law_1313 : decode cL_law 1313 = .ok (.aload_n 0, 1) := by decide +kernel
theorem dL_law_1314 : decode cL_law 1314 = .ok (.iload 4, 2) := by decide +kernel
theorem dL_law_1316 : decode cL_law 1316 = .ok (.iconst 2, 1) := by decide +kernel
theorem dL_law_1317 : decode cL_law 1317 = .ok (.iadd, 1) := by decide +kernel
theorem dL_law_1318 : decode cL_law 1318 = .ok (.iaload, 1) := by decide +kernel
theorem dL_law_1319 : decode cL_law 1319 = .ok (.aload_n 3, 1) := by decide +kernel
theorem dL_law_1320 : decode cL_law 1320 = .ok (.invokestatic 163, 3) := by decide +kernel
theorem dL_law_1323 : decode cL_law 1323 = .ok (.istore 5, 2) := by decide +kernel
theorem dL_law_1325 : decode cL_law 1325 = .ok (.aload_n 2, 1) := by decide +kernel
theorem dL_law_1326 : decode cL_law 1326 = .ok (.aload_n 0, 1) := by decide +kernel
theorem dL_law_1327 : decode cL_law 1327 = .ok (.iload 4, 2) := by decide +kernel
theorem dL_law_1329 : decode cL_law 1329 = .ok (.iconst 1, 1) := by decide +kernel
theorem dL_law_1330 : decode cL_law 1330 = .ok (.iadd, 1) := by decide +kernel
theorem dL_law_1331 : decode cL_law 1331 = .ok (.iaload, 1) := by decide +kernel
theorem dL_law_1332 : decode cL_law 1332 = .ok (.aload_n 0, 1) := by decide +kernel
theorem dL_law_1333 : decode cL_law 1333 = .ok (.iload 4, 2) := by decide +kernel
theorem dL_law_1335 : decode cL_law 1335 = .ok (.iconst 2, 1) := by decide +kernel
theorem dL_law_1336 : decode cL_law 1336 = .ok (.iadd, 1) := by decide +kernel
theorem dL_law_1337 : decode cL_law 1337 = .ok (.iaload, 1) := by decide +kernel
theorem dL_law_1338 : decode cL_law 1338 = .ok (.invokevirtual 165, 3) := by decide +kernel
theorem dL_law_1341 : decode cL_law 1341 = .ok (.istore 6, 2) := by decide +kernel
theorem dL_law_1343 : decode cL_law 1343 = .ok (.aload_n 2, 1) := by decide +kernel
theorem dL_law_1344 : decode cL_law 1344 = .ok (.invokevirtual 83, 3) := by decide +kernel
theorem dL_law_1347 : decode cL_law 1347 = .ok (.iload 5, 2) := by decide +kernel
theorem dL_law_1349 : decode cL_law 1349 = .ok (.if_icmp .eq 5, 3) := by decide +kernel
theorem dL_law_1352 : decode cL_law 1352 = .ok (.iconst 0, 1) := by decide +kernel
theorem dL_law_1353 : decode cL_law 1353 = .ok (.ireturn, 1) := by decide +kernel
theorem dL_law_1354 : decode cL_law 1354 = .ok (.iload 5, 2) := by decide +kernel
theorem dL_law_1356 : decode cL_law 1356 = .ok (.ifCond .ne 15, 3) := by decide +kernel
theorem dL_law_1359 : decode cL_law 1359 = .ok (.aload_n 3, 1) := by decide +kernel
theorem dL_law_1360 : decode cL_law 1360 = .ok (.iconst 0, 1) := by decide +kernel
theorem dL_law_1361 : decode cL_law 1361 = .ok (.laload, 1) := by decide +kernel
theorem dL_law_1362 : decode cL_law 1362 = .ok (.iload 6, 2) := by decide +kernel
theorem dL_law_1364 : decode cL_law 1364 = .ok (.i2l, 1) := by decide +kernel
theorem dL_law_1365 : decode cL_law 1365 = .ok (.lcmp, 1) := by decide +kernel
theorem dL_law_1366 : decode cL_law 1366 = .ok (.ifCond .eq 5, 3) := by decide +kernel
theorem dL_law_1369 : decode cL_law 1369 = .ok (.iconst 0, 1) := by decide +kernel
theorem dL_law_1370 : decode cL_law 1370 = .ok (.ireturn, 1) := by decide +kernel
theorem dL_law_1371 : decode cL_law 1371 = .ok (.goto 59, 3) := by decide +kernel
theorem dL_law_1374 : decode cL_law 1374 = .ok (.aload_n 1, 1) := by decide +kernel
theorem dL_law_1375 : decode cL_law 1375 = .ok (.aload_n 0, 1) := by decide +kernel
theorem dL_law_1376 : decode cL_law 1376 = .ok (.iload 4, 2) := by decide +kernel
theorem dL_law_1378 : decode cL_law 1378 = .ok (.iconst 1, 1) := by decide +kernel
theorem dL_law_1379 : decode cL_law 1379 = .ok (.iadd, 1) := by decide +kernel
theorem dL_law_1380 : decode cL_law 1380 = .ok (.iaload, 1) := by decide +kernel
theorem dL_law_1381 : decode cL_law 1381 = .ok (.aload_n 3, 1) := by decide +kernel
theorem dL_law_1382 : decode cL_law 1382 = .ok (.invokestatic 166, 3) := by decide +kernel
theorem dL_law_1385 : decode cL_law 1385 = .ok (.istore 5, 2) := by decide +kernel
theorem dL_law_1387 : decode cL_law 1387 = .ok (.aload_n 2, 1) := by decide +kernel
theorem dL_law_1388 : decode cL_law 1388 = .ok (.aload_n 0, 1) := by decide +kernel
theorem dL_law_1389 : decode cL_law 1389 = .ok (.iload 4, 2) := by decide +kernel
theorem dL_law_1391 : decode cL_law 1391 = .ok (.iconst 1, 1) := by decide +kernel
theorem dL_law_1392 : decode cL_law 1392 = .ok (.iadd, 1) := by decide +kernel
theorem dL_law_1393 : decode cL_law 1393 = .ok (.iaload, 1) := by decide +kernel
theorem dL_law_1394 : decode cL_law 1394 = .ok (.invokevirtual 168, 3) := by decide +kernel
theorem dL_law_1397 : decode cL_law 1397 = .ok (.istore 6, 2) := by decide +kernel
theorem dL_law_1399 : decode cL_law 1399 = .ok (.aload_n 2, 1) := by decide +kernel
theorem dL_law_1400 : decode cL_law 1400 = .ok (.invokevirtual 83, 3) := by decide +kernel
theorem dL_law_1403 : decode cL_law 1403 = .ok (.iload 5, 2) := by decide +kernel
theorem dL_law_1405 : decode cL_law 1405 = .ok (.if_icmp .eq 5, 3) := by decide +kernel
theorem dL_law_1408 : decode cL_law 1408 = .ok (.iconst 0, 1) := by decide +kernel
theorem dL_law_1409 : decode cL_law 1409 = .ok (.ireturn, 1) := by decide +kernel
theorem dL_law_1410 : decode cL_law 1410 = .ok (.iload 5, 2) := by decide +kernel
theorem dL_law_1412 : decode cL_law 1412 = .ok (.ifCond .ne 15, 3) := by decide +kernel
theorem dL_law_1415 : decode cL_law 1415 = .ok (.aload_n 3, 1) := by decide +kernel
theorem dL_law_1416 : decode cL_law 1416 = .ok (.iconst 0, 1) := by decide +kernel
theorem dL_law_1417 : decode cL_law 1417 = .ok (.laload, 1) := by decide +kernel
theorem dL_law_1418 : decode cL_law 1418 = .ok (.iload 6, 2) := by decide +kernel
theorem dL_law_1420 : decode cL_law 1420 = .ok (.i2l, 1) := by decide +kernel
theorem dL_law_1421 : decode cL_law 1421 = .ok (.lcmp, 1) := by decide +kernel
theorem dL_law_1422 : decode cL_law 1422 = .ok (.ifCond .eq 5, 3) := by decide +kernel
theorem dL_law_1425 : decode cL_law 1425 = .ok (.iconst 0, 1) := by decide +kernel
theorem dL_law_1426 : decode cL_law 1426 = .ok (.ireturn, 1) := by decide +kernel
theorem dL_law_1427 : decode cL_law 1427 = .ok (.goto 3, 3) := by decide +kernel
theorem dL_law_1430 : decode cL_law 1430 = .ok (.iinc 4 4, 3) := by decide +kernel
theorem dL_law_1433 : decode cL_law 1433 = .ok (.goto (-1410), 3) := by decide +kernel
theorem dL_law_1436 : decode cL_law 1436 = .ok (.iconst 1, 1) := by decide +kernel
theorem dL_law_1437 : decode cL_law 1437 = .ok (.ireturn, 1) := by decide +kernel
end
section
theorem dX0_init_0 : decode cX0_init 0 = .ok (.aload_n 0, 1) := by decide +kernel
theorem dX0_init_1 : decode cX0_init 1 = .ok (.invokespecial 3, 3) := by decide +kernel
theorem dX0_init_4 : decode cX0_init 4 = .ok (.aload_n 0, 1) := by decide +kernel
theorem dX0_init_5 : decode cX0_init 5 = .ok (.sipush 200, 3) := by decide +kernel
theorem dX0_init_8 : decode cX0_init 8 = .ok (.newarray .int, 2) := by decide +kernel
theorem dX0_init_10 : decode cX0_init 10 = .ok (.putfield 9, 3) := by decide +kernel
theorem dX0_init_13 : decode cX0_init 13 = .ok (.aload_n 0, 1) := by decide +kernel
theorem dX0_init_14 : decode cX0_init 14 = .ok (.sipush 200, 3) := by decide +kernel
theorem dX0_init_17 : decode cX0_init 17 = .ok (.newarray .int, 2) := by decide +kernel
theorem dX0_init_19 : decode cX0_init 19 = .ok (.putfield 15, 3) := by decide +kernel
theorem dX0_init_22 : decode cX0_init 22 = .ok (.aload_n 0, 1) := by decide +kernel
theorem dX0_init_23 : decode cX0_init 23 = .ok (.sipush 200, 3) := by decide +kernel
theorem dX0_init_26 : decode cX0_init 26 = .ok (.newarray .int, 2) := by decide +kernel
theorem dX0_init_28 : decode cX0_init 28 = .ok (.putfield 18, 3) := by decide +kernel
theorem dX0_init_31 : decode cX0_init 31 = .ok (.aload_n 0, 1) := by decide +kernel
theorem dX0_init_32 : decode cX0_init 32 = .ok (.sipush 200, 3) := by decide +kernel
theorem dX0_init_35 : decode cX0_init 35 = .ok (.newarray .int, 2) := by decide +kernel
theorem dX0_init_37 : decode cX0_init 37 = .ok (.putfield 21, 3) := by decide +kernel
theorem dX0_init_40 : decode cX0_init 40 = .ok (.return_, 1) := by decide +kernel
theorem dX0_isEmpty_0 : decode cX0_isEmpty 0 = .ok (.aload_n 0, 1) := by decide +kernel
theorem dX0_isEmpty_1 : decode cX0_isEmpty 1 = .ok (.getfield 24, 3) := by decide +kernel
theorem dX0_isEmpty_4 : decode cX0_isEmpty 4 = .ok (.ifCond .ne 7, 3) := by decide +kernel
theorem dX0_isEmpty_7 : decode cX0_isEmpty 7 = .ok (.iconst 1, 1) := by decide +kernel
theorem dX0_isEmpty_8 : decode cX0_isEmpty 8 = .ok (.goto 4, 3) := by decide +kernel
theorem dX0_isEmpty_11 : decode cX0_isEmpty 11 = .ok (.iconst 0, 1) := by decide +kernel
theorem dX0_isEmpty_12 : decode cX0_isEmpty 12 = .ok (.ireturn, 1) := by decide +kernel
theorem dX0_count_0 : decode cX0_count 0 = .ok (.aload_n 0, 1) := by decide +kernel
theorem dX0_count_1 : decode cX0_count 1 = .ok (.getfield 24, 3) := by decide +kernel
theorem dX0_count_4 : decode cX0_count 4 = .ok (.ireturn, 1) := by decide +kernel
theorem dX0_put_0 : decode cX0_put 0 = .ok (.aload_n 0, 1) := by decide +kernel
theorem dX0_put_1 : decode cX0_put 1 = .ok (.getfield 24, 3) := by decide +kernel
theorem dX0_put_4 : decode cX0_put 4 = .ok (.sipush 200, 3) := by decide +kernel
theorem dX0_put_7 : decode cX0_put 7 = .ok (.if_icmp .lt 5, 3) := by decide +kernel
theorem dX0_put_10 : decode cX0_put 10 = .ok (.iconst 0, 1) := by decide +kernel
theorem dX0_put_11 : decode cX0_put 11 = .ok (.ireturn, 1) := by decide +kernel
theorem dX0_put_12 : decode cX0_put 12 = .ok (.aload_n 0, 1) := by decide +kernel
theorem dX0_put_13 : decode cX0_put 13 = .ok (.getfield 28, 3) := by decide +kernel
theorem dX0_put_16 : decode cX0_put 16 = .ok (.aload_n 0, 1) := by decide +kernel
theorem dX0_put_17 : decode cX0_put 17 = .ok (.getfield 24, 3) := by decide +kernel
theorem dX0_put_20 : decode cX0_put 20 = .ok (.iadd, 1) := by decide +kernel
theorem dX0_put_21 : decode cX0_put 21 = .ok (.sipush 200, 3) := by decide +kernel
theorem dX0_put_24 : decode cX0_put 24 = .ok (.irem, 1) := by decide +kernel
theorem dX0_put_25 : decode cX0_put 25 = .ok (.istore 5, 2) := by decide +kernel
theorem dX0_put_27 : decode cX0_put 27 = .ok (.aload_n 0, 1) := by decide +kernel
theorem dX0_put_28 : decode cX0_put 28 = .ok (.getfield 9, 3) := by decide +kernel
theorem dX0_put_31 : decode cX0_put 31 = .ok (.iload 5, 2) := by decide +kernel
theorem dX0_put_33 : decode cX0_put 33 = .ok (.iload_n 1, 1) := by decide +kernel
theorem dX0_put_34 : decode cX0_put 34 = .ok (.iastore, 1) := by decide +kernel
theorem dX0_put_35 : decode cX0_put 35 = .ok (.aload_n 0, 1) := by decide +kernel
theorem dX0_put_36 : decode cX0_put 36 = .ok (.getfield 15, 3) := by decide +kernel
theorem dX0_put_39 : decode cX0_put 39 = .ok (.iload 5, 2) := by decide +kernel
theorem dX0_put_41 : decode cX0_put 41 = .ok (.iload_n 2, 1) := by decide +kernel
theorem dX0_put_42 : decode cX0_put 42 = .ok (.iastore, 1) := by decide +kernel
theorem dX0_put_43 : decode cX0_put 43 = .ok (.aload_n 0, 1) := by decide +kernel
theorem dX0_put_44 : decode cX0_put 44 = .ok (.getfield 18, 3) := by decide +kernel
theorem dX0_put_47 : decode cX0_put 47 = .ok (.iload 5, 2) := by decide +kernel
theorem dX0_put_49 : decode cX0_put 49 = .ok (.iload_n 3, 1) := by decide +kernel
theorem dX0_put_50 : decode cX0_put 50 = .ok (.iastore, 1) := by decide +kernel
theorem dX0_put_51 : decode cX0_put 51 = .ok (.aload_n 0, 1) := by decide +kernel
theorem dX0_put_52 : decode cX0_put 52 = .ok (.getfield 21, 3) := by decide +kernel
theorem dX0_put_55 : decode cX0_put 55 = .ok (.iload 5, 2) := by decide +kernel
theorem dX0_put_57 : decode cX0_put 57 = .ok (.iload 4, 2) := by decide +kernel
theorem dX0_put_59 : decode cX0_put 59 = .ok (.iastore, 1) := by decide +kernel
theorem dX0_put_60 : decode cX0_put 60 = .ok (.aload_n 0, 1) := by decide +kernel
theorem dX0_put_61 : decode cX0_put 61 = .ok (.dup, 1) := by decide +kernel
theorem dX0_put_62 : decode cX0_put 62 = .ok (.getfield 24, 3) := by decide +kernel
theorem dX0_put_65 : decode cX0_put 65 = .ok (.iconst 1, 1) := by decide +kernel
theorem dX0_put_66 : decode cX0_put 66 = .ok (.iadd, 1) := by decide +kernel
theorem dX0_put_67 : decode cX0_put 67 = .ok (.putfield 24, 3) := by decide +kernel
theorem dX0_put_70 : decode cX0_put 70 = .ok (.iconst 1, 1) := by decide +kernel
theorem dX0_put_71 : decode cX0_put 71 = .ok (.ireturn, 1) := by decide +kernel
theorem dX0_removeFirst_0 : decode cX0_removeFirst 0 = .ok (.aload_n 0, 1) := by decide +kernel
theorem dX0_removeFirst_1 : decode cX0_removeFirst 1 = .ok (.getfield 24, 3) := by decide +kernel
theorem dX0_removeFirst_4 : decode cX0_removeFirst 4 = .ok (.ifCond .le 27, 3) := by decide +kernel
theorem dX0_removeFirst_7 : decode cX0_removeFirst 7 = .ok (.aload_n 0, 1) := by decide +kernel
theorem dX0_removeFirst_8 : decode cX0_removeFirst 8 = .ok (.aload_n 0, 1) := by decide +kernel
theorem dX0_removeFirst_9 : decode cX0_removeFirst 9 = .ok (.getfield 28, 3) := by decide +kernel
theorem dX0_removeFirst_12 : decode cX0_removeFirst 12 = .ok (.iconst 1, 1) := by decide +kernel
theorem dX0_removeFirst_13 : decode cX0_removeFirst 13 = .ok (.iadd, 1) := by decide +kernel
theorem dX0_removeFirst_14 : decode cX0_removeFirst 14 = .ok (.sipush 200, 3) := by decide +kernel
theorem dX0_removeFirst_17 : decode cX0_removeFirst 17 = .ok (.irem, 1) := by decide +kernel
theorem dX0_removeFirst_18 : decode cX0_removeFirst 18 = .ok (.putfield 28, 3) := by decide +kernel
theorem dX0_removeFirst_21 : decode cX0_removeFirst 21 = .ok (.aload_n 0, 1) := by decide +kernel
theorem dX0_removeFirst_22 : decode cX0_removeFirst 22 = .ok (.dup, 1) := by decide +kernel
theorem dX0_removeFirst_23 : decode cX0_removeFirst 23 = .ok (.getfield 24, 3) := by decide +kernel
theorem dX0_removeFirst_26 : decode cX0_removeFirst 26 = .ok (.iconst 1, 1) := by decide +kernel
theorem dX0_removeFirst_27 : decode cX0_removeFirst 27 = .ok (.isub, 1) := by decide +kernel
theorem dX0_removeFirst_28 : decode cX0_removeFirst 28 = .ok (.putfield 24, 3) := by decide +kernel
theorem dX0_removeFirst_31 : decode cX0_removeFirst 31 = .ok (.return_, 1) := by decide +kernel
theorem dX0_firstPacket_0 : decode cX0_firstPacket 0 = .ok (.aload_n 0, 1) := by decide +kernel
theorem dX0_firstPacket_1 : decode cX0_firstPacket 1 = .ok (.aload_n 0, 1) := by decide +kernel
theorem dX0_firstPacket_2 : decode cX0_firstPacket 2 = .ok (.getfield 9, 3) := by decide +kernel
theorem dX0_firstPacket_5 : decode cX0_firstPacket 5 = .ok (.invokevirtual 31, 3) := by decide +kernel
theorem dX0_firstPacket_8 : decode cX0_firstPacket 8 = .ok (.ireturn, 1) := by decide +kernel
theorem dX0_firstTree_0 : decode cX0_firstTree 0 = .ok (.aload_n 0, 1) := by decide +kernel
theorem dX0_firstTree_1 : decode cX0_firstTree 1 = .ok (.aload_n 0, 1) := by decide +kernel
theorem dX0_firstTree_2 : decode cX0_firstTree 2 = .ok (.getfield 15, 3) := by decide +kernel
theorem dX0_firstTree_5 : decode cX0_firstTree 5 = .ok (.invokevirtual 31, 3) := by decide +kernel
theorem dX0_firstTree_8 : decode cX0_firstTree 8 = .ok (.ireturn, 1) := by decide +kernel
theorem dX0_firstFrom_0 : decode cX0_firstFrom 0 = .ok (.aload_n 0, 1) := by decide +kernel
theorem dX0_firstFrom_1 : decode cX0_firstFrom 1 = .ok (.aload_n 0, 1) := by decide +kernel
theorem dX0_firstFrom_2 : decode cX0_firstFrom 2 = .ok (.getfield 18, 3) := by decide +kernel
theorem dX0_firstFrom_5 : decode cX0_firstFrom 5 = .ok (.invokevirtual 31, 3) := by decide +kernel
theorem dX0_firstFrom_8 : decode cX0_firstFrom 8 = .ok (.ireturn, 1) := by decide +kernel
theorem dX0_firstTo_0 : decode cX0_firstTo 0 = .ok (.aload_n 0, 1) := by decide +kernel
theorem dX0_firstTo_1 : decode cX0_firstTo 1 = .ok (.aload_n 0, 1) := by decide +kernel
theorem dX0_firstTo_2 : decode cX0_firstTo 2 = .ok (.getfield 21, 3) := by decide +kernel
theorem dX0_firstTo_5 : decode cX0_firstTo 5 = .ok (.invokevirtual 31, 3) := by decide +kernel
theorem dX0_firstTo_8 : decode cX0_firstTo 8 = .ok (.ireturn, 1) := by decide +kernel
theorem dX0_firstIn_0 : decode cX0_firstIn 0 = .ok (.aload_n 0, 1) := by decide +kernel
theorem dX0_firstIn_1 : decode cX0_firstIn 1 = .ok (.getfield 24, 3) := by decide +kernel
theorem dX0_firstIn_4 : decode cX0_firstIn 4 = .ok (.ifCond .le 28, 3) := by decide +kernel
theorem dX0_firstIn_7 : decode cX0_firstIn 7 = .ok (.aload_n 0, 1) := by decide +kernel
theorem dX0_firstIn_8 : decode cX0_firstIn 8 = .ok (.getfield 28, 3) := by decide +kernel
theorem dX0_firstIn_11 : decode cX0_firstIn 11 = .ok (.ifCond .lt 21, 3) := by decide +kernel
theorem dX0_firstIn_14 : decode cX0_firstIn 14 = .ok (.aload_n 0, 1) := by decide +kernel
theorem dX0_firstIn_15 : decode cX0_firstIn 15 = .ok (.getfield 28, 3) := by decide +kernel
theorem dX0_firstIn_18 : decode cX0_firstIn 18 = .ok (.aload_n 1, 1) := by decide +kernel
theorem dX0_firstIn_19 : decode cX0_firstIn 19 = .ok (.arraylength, 1) := by decide +kernel
theorem dX0_firstIn_20 : decode cX0_firstIn 20 = .ok (.if_icmp .ge 12, 3) := by decide +kernel
theorem dX0_firstIn_23 : decode cX0_firstIn 23 = .ok (.aload_n 1, 1) := by decide +kernel
theorem dX0_firstIn_24 : decode cX0_firstIn 24 = .ok (.aload_n 0, 1) := by decide +kernel
theorem dX0_firstIn_25 : decode cX0_firstIn 25 = .ok (.getfield 28, 3) := by decide +kernel
theorem dX0_firstIn_28 : decode cX0_firstIn 28 = .ok (.iaload, 1) := by decide +kernel
theorem dX0_firstIn_29 : decode cX0_firstIn 29 = .ok (.goto 4, 3) := by decide +kernel
theorem dX0_firstIn_32 : decode cX0_firstIn 32 = .ok (.iconst (-1), 1) := by decide +kernel
theorem dX0_firstIn_33 : decode cX0_firstIn 33 = .ok (.ireturn, 1) := by decide +kernel
end
section
theorem dX1_init_0 : decode cX1_init 0 = .ok (.aload_n 0, 1) := by decide +kernel
theorem dX1_init_1 : decode cX1_init 1 = .ok (.invokespecial 3, 3) := by decide +kernel
theorem dX1_init_4 : decode cX1_init 4 = .ok (.aload_n 0, 1) := by decide +kernel
theorem dX1_init_5 : decode cX1_init 5 = .ok (.sipush 400, 3) := by decide +kernel
theorem dX1_init_8 : decode cX1_init 8 = .ok (.newarray .int, 2) := by decide +kernel
theorem dX1_init_10 : decode cX1_init 10 = .ok (.putfield 9, 3) := by decide +kernel
theorem dX1_init_13 : decode cX1_init 13 = .ok (.return_, 1) := by decide +kernel
theorem dX1_raise_0 : decode cX1_raise 0 = .ok (.iload_n 1, 1) := by decide +kernel
theorem dX1_raise_1 : decode cX1_raise 1 = .ok (.iload_n 2, 1) := by decide +kernel
theorem dX1_raise_2 : decode cX1_raise 2 = .ok (.iload_n 3, 1) := by decide +kernel
theorem dX1_raise_3 : decode cX1_raise 3 = .ok (.invokestatic 15, 3) := by decide +kernel
theorem dX1_raise_6 : decode cX1_raise 6 = .ok (.ifCond .ne 5, 3) := by decide +kernel
theorem dX1_raise_9 : decode cX1_raise 9 = .ok (.iconst 0, 1) := by decide +kernel
theorem dX1_raise_10 : decode cX1_raise 10 = .ok (.ireturn, 1) := by decide +kernel
theorem dX1_raise_11 : decode cX1_raise 11 = .ok (.iload_n 1, 1) := by decide +kernel
theorem dX1_raise_12 : decode cX1_raise 12 = .ok (.iload_n 2, 1) := by decide +kernel
theorem dX1_raise_13 : decode cX1_raise 13 = .ok (.iload_n 3, 1) := by decide +kernel
theorem dX1_raise_14 : decode cX1_raise 14 = .ok (.invokestatic 19, 3) := by decide +kernel
theorem dX1_raise_17 : decode cX1_raise 17 = .ok (.istore 4, 2) := by decide +kernel
theorem dX1_raise_19 : decode cX1_raise 19 = .ok (.aload_n 0, 1) := by decide +kernel
theorem dX1_raise_20 : decode cX1_raise 20 = .ok (.getfield 9, 3) := by decide +kernel
theorem dX1_raise_23 : decode cX1_raise 23 = .ok (.iload 4, 2) := by decide +kernel
theorem dX1_raise_25 : decode cX1_raise 25 = .ok (.dup2, 1) := by decide +kernel
theorem dX1_raise_26 : decode cX1_raise 26 = .ok (.iaload, 1) := by decide +kernel
theorem dX1_raise_27 : decode cX1_raise 27 = .ok (.iconst 1, 1) := by decide +kernel
theorem dX1_raise_28 : decode cX1_raise 28 = .ok (.iadd, 1) := by decide +kernel
theorem dX1_raise_29 : decode cX1_raise 29 = .ok (.iastore, 1) := by decide +kernel
theorem dX1_raise_30 : decode cX1_raise 30 = .ok (.aload_n 0, 1) := by decide +kernel
theorem dX1_raise_31 : decode cX1_raise 31 = .ok (.getfield 9, 3) := by decide +kernel
theorem dX1_raise_34 : decode cX1_raise 34 = .ok (.iload 4, 2) := by decide +kernel
theorem dX1_raise_36 : decode cX1_raise 36 = .ok (.iaload, 1) := by decide +kernel
theorem dX1_raise_37 : decode cX1_raise 37 = .ok (.ireturn, 1) := by decide +kernel
theorem dX1_forget_0 : decode cX1_forget 0 = .ok (.iload_n 1, 1) := by decide +kernel
theorem dX1_forget_1 : decode cX1_forget 1 = .ok (.iload_n 2, 1) := by decide +kernel
theorem dX1_forget_2 : decode cX1_forget 2 = .ok (.iload_n 3, 1) := by decide +kernel
theorem dX1_forget_3 : decode cX1_forget 3 = .ok (.invokestatic 15, 3) := by decide +kernel
theorem dX1_forget_6 : decode cX1_forget 6 = .ok (.ifCond .eq 15, 3) := by decide +kernel
theorem dX1_forget_9 : decode cX1_forget 9 = .ok (.aload_n 0, 1) := by decide +kernel
theorem dX1_forget_10 : decode cX1_forget 10 = .ok (.getfield 9, 3) := by decide +kernel
theorem dX1_forget_13 : decode cX1_forget 13 = .ok (.iload_n 1, 1) := by decide +kernel
theorem dX1_forget_14 : decode cX1_forget 14 = .ok (.iload_n 2, 1) := by decide +kernel
theorem dX1_forget_15 : decode cX1_forget 15 = .ok (.iload_n 3, 1) := by decide +kernel
theorem dX1_forget_16 : decode cX1_forget 16 = .ok (.invokestatic 19, 3) := by decide +kernel
theorem dX1_forget_19 : decode cX1_forget 19 = .ok (.iconst 0, 1) := by decide +kernel
theorem dX1_forget_20 : decode cX1_forget 20 = .ok (.iastore, 1) := by decide +kernel
theorem dX1_forget_21 : decode cX1_forget 21 = .ok (.return_, 1) := by decide +kernel
theorem dX1_forgetAll_0 : decode cX1_forgetAll 0 = .ok (.aload_n 0, 1) := by decide +kernel
theorem dX1_forgetAll_1 : decode cX1_forgetAll 1 = .ok (.getfield 9, 3) := by decide +kernel
theorem dX1_forgetAll_4 : decode cX1_forgetAll 4 = .ok (.iconst 0, 1) := by decide +kernel
theorem dX1_forgetAll_5 : decode cX1_forgetAll 5 = .ok (.invokestatic 23, 3) := by decide +kernel
theorem dX1_forgetAll_8 : decode cX1_forgetAll 8 = .ok (.return_, 1) := by decide +kernel
theorem dX1_isPlace_0 : decode cX1_isPlace 0 = .ok (.iload_n 0, 1) := by decide +kernel
theorem dX1_isPlace_1 : decode cX1_isPlace 1 = .ok (.invokestatic 29, 3) := by decide +kernel
theorem dX1_isPlace_4 : decode cX1_isPlace 4 = .ok (.ifCond .eq 21, 3) := by decide +kernel
theorem dX1_isPlace_7 : decode cX1_isPlace 7 = .ok (.iload_n 1, 1) := by decide +kernel
theorem dX1_isPlace_8 : decode cX1_isPlace 8 = .ok (.invokestatic 29, 3) := by decide +kernel
theorem dX1_isPlace_11 : decode cX1_isPlace 11 = .ok (.ifCond .eq 14, 3) := by decide +kernel
theorem dX1_isPlace_14 : decode cX1_isPlace 14 = .ok (.iload_n 2, 1) := by decide +kernel
theorem dX1_isPlace_15 : decode cX1_isPlace 15 = .ok (.invokestatic 33, 3) := by decide +kernel
theorem dX1_isPlace_18 : decode cX1_isPlace 18 = .ok (.ifCond .eq 7, 3) := by decide +kernel
theorem dX1_isPlace_21 : decode cX1_isPlace 21 = .ok (.iconst 1, 1) := by decide +kernel
theorem dX1_isPlace_22 : decode cX1_isPlace 22 = .ok (.goto 4, 3) := by decide +kernel
theorem dX1_isPlace_25 : decode cX1_isPlace 25 = .ok (.iconst 0, 1) := by decide +kernel
theorem dX1_isPlace_26 : decode cX1_isPlace 26 = .ok (.ireturn, 1) := by decide +kernel
theorem dX1_placeOf_0 : decode cX1_placeOf 0 = .ok (.iload_n 2, 1) := by decide +kernel
theorem dX1_placeOf_1 : decode cX1_placeOf 1 = .ok (.bipush 10, 2) := by decide +kernel
theorem dX1_placeOf_3 : decode cX1_placeOf 3 = .ok (.imul, 1) := by decide +kernel
theorem dX1_placeOf_4 : decode cX1_placeOf 4 = .ok (.iload_n 1, 1) := by decide +kernel
theorem dX1_placeOf_5 : decode cX1_placeOf 5 = .ok (.iadd, 1) := by decide +kernel
theorem dX1_placeOf_6 : decode cX1_placeOf 6 = .ok (.bipush 10, 2) := by decide +kernel
theorem dX1_placeOf_8 : decode cX1_placeOf 8 = .ok (.imul, 1) := by decide +kernel
theorem dX1_placeOf_9 : decode cX1_placeOf 9 = .ok (.iload_n 0, 1) := by decide +kernel
theorem dX1_placeOf_10 : decode cX1_placeOf 10 = .ok (.iadd, 1) := by decide +kernel
theorem dX1_placeOf_11 : decode cX1_placeOf 11 = .ok (.ireturn, 1) := by decide +kernel
end
section
theorem dX2_init_0 : decode cX2_init 0 = .ok (.aload_n 0, 1) := by decide +kernel
theorem dX2_init_1 : decode cX2_init 1 = .ok (.invokespecial 3, 3) := by decide +kernel
theorem dX2_init_4 : decode cX2_init 4 = .ok (.aload_n 0, 1) := by decide +kernel
theorem dX2_init_5 : decode cX2_init 5 = .ok (.bipush 44, 2) := by decide +kernel
theorem dX2_init_7 : decode cX2_init 7 = .ok (.newarray .int, 2) := by decide +kernel
theorem dX2_init_9 : decode cX2_init 9 = .ok (.putfield 9, 3) := by decide +kernel
theorem dX2_init_12 : decode cX2_init 12 = .ok (.aload_n 0, 1) := by decide +kernel
theorem dX2_init_13 : decode cX2_init 13 = .ok (.bipush 44, 2) := by decide +kernel
theorem dX2_init_15 : decode cX2_init 15 = .ok (.newarray .int, 2) := by decide +kernel
theorem dX2_init_17 : decode cX2_init 17 = .ok (.putfield 15, 3) := by decide +kernel
theorem dX2_init_20 : decode cX2_init 20 = .ok (.aload_n 0, 1) := by decide +kernel
theorem dX2_init_21 : decode cX2_init 21 = .ok (.sipush 440, 3) := by decide +kernel
theorem dX2_init_24 : decode cX2_init 24 = .ok (.newarray .int, 2) := by decide +kernel
theorem dX2_init_26 : decode cX2_init 26 = .ok (.putfield 18, 3) := by decide +kernel
theorem dX2_init_29 : decode cX2_init 29 = .ok (.aload_n 0, 1) := by decide +kernel
theorem dX2_init_30 : decode cX2_init 30 = .ok (.sipush 440, 3) := by decide +kernel
theorem dX2_init_33 : decode cX2_init 33 = .ok (.newarray .int, 2) := by decide +kernel
theorem dX2_init_35 : decode cX2_init 35 = .ok (.putfield 21, 3) := by decide +kernel
theorem dX2_init_38 : decode cX2_init 38 = .ok (.aload_n 0, 1) := by decide +kernel
theorem dX2_init_39 : decode cX2_init 39 = .ok (.getfield 9, 3) := by decide +kernel
theorem dX2_init_42 : decode cX2_init 42 = .ok (.iconst (-1), 1) := by decide +kernel
theorem dX2_init_43 : decode cX2_init 43 = .ok (.invokestatic 24, 3) := by decide +kernel
theorem dX2_init_46 : decode cX2_init 46 = .ok (.aload_n 0, 1) := by decide +kernel
theorem dX2_init_47 : decode cX2_init 47 = .ok (.getfield 18, 3) := by decide +kernel
theorem dX2_init_50 : decode cX2_init 50 = .ok (.iconst (-1), 1) := by decide +kernel
theorem dX2_init_51 : decode cX2_init 51 = .ok (.invokestatic 24, 3) := by decide +kernel
theorem dX2_init_54 : decode cX2_init 54 = .ok (.aload_n 0, 1) := by decide +kernel
theorem dX2_init_55 : decode cX2_init 55 = .ok (.getfield 21, 3) := by decide +kernel
theorem dX2_init_58 : decode cX2_init 58 = .ok (.iconst (-1), 1) := by decide +kernel
theorem dX2_init_59 : decode cX2_init 59 = .ok (.invokestatic 24, 3) := by decide +kernel
theorem dX2_init_62 : decode cX2_init 62 = .ok (.iconst 0, 1) := by decide +kernel
theorem dX2_init_63 : decode cX2_init 63 = .ok (.istore_n 1, 1) := by decide +kernel
theorem dX2_init_64 : decode cX2_init 64 = .ok (.iload_n 1, 1) := by decide +kernel
theorem dX2_init_65 : decode cX2_init 65 = .ok (.iconst 4, 1) := by decide +kernel
theorem dX2_init_66 : decode cX2_init 66 = .ok (.if_icmp .ge 33, 3) := by decide +kernel
theorem dX2_init_69 : decode cX2_init 69 = .ok (.iconst 0, 1) := by decide +kernel
theorem dX2_init_70 : decode cX2_init 70 = .ok (.istore_n 2, 1) := by decide +kernel
theorem dX2_init_71 : decode cX2_init 71 = .ok (.iload_n 2, 1) := by decide +kernel
theorem dX2_init_72 : decode cX2_init 72 = .ok (.bipush 10, 2) := by decide +kernel
theorem dX2_init_74 : decode cX2_init 74 = .ok (.if_icmp .ge 19, 3) := by decide +kernel
theorem dX2_init_77 : decode cX2_init 77 = .ok (.aload_n 0, 1) := by decide +kernel
theorem dX2_init_78 : decode cX2_init 78 = .ok (.iload_n 2, 1) := by decide +kernel
theorem dX2_init_79 : decode cX2_init 79 = .ok (.iload_n 1, 1) := by decide +kernel
theorem dX2_init_80 : decode cX2_init 80 = .ok (.invokestatic 30, 3) := by decide +kernel
theorem dX2_init_83 : decode cX2_init 83 = .ok (.iload_n 2, 1) := by decide +kernel
theorem dX2_init_84 : decode cX2_init 84 = .ok (.invokevirtual 34, 3) := by decide +kernel
theorem dX2_init_87 : decode cX2_init 87 = .ok (.iinc 2 1, 3) := by decide +kernel
theorem dX2_init_90 : decode cX2_init 90 = .ok (.goto (-19), 3) := by decide +kernel
theorem dX2_init_93 : decode cX2_init 93 = .ok (.iinc 1 1, 3) := by decide +kernel
theorem dX2_init_96 : decode cX2_init 96 = .ok (.goto (-32), 3) := by decide +kernel
theorem dX2_init_99 : decode cX2_init 99 = .ok (.return_, 1) := by decide +kernel
theorem dX2_setRoot_0 : decode cX2_setRoot 0 = .ok (.iload_n 1, 1) := by decide +kernel
theorem dX2_setRoot_1 : decode cX2_setRoot 1 = .ok (.invokestatic 38, 3) := by decide +kernel
theorem dX2_setRoot_4 : decode cX2_setRoot 4 = .ok (.ifCond .eq 10, 3) := by decide +kernel
theorem dX2_setRoot_7 : decode cX2_setRoot 7 = .ok (.aload_n 0, 1) := by decide +kernel
theorem dX2_setRoot_8 : decode cX2_setRoot 8 = .ok (.getfield 9, 3) := by decide +kernel
theorem dX2_setRoot_11 : decode cX2_setRoot 11 = .ok (.iload_n 1, 1) := by decide +kernel
theorem dX2_setRoot_12 : decode cX2_setRoot 12 = .ok (.iload_n 2, 1) := by decide +kernel
theorem dX2_setRoot_13 : decode cX2_setRoot 13 = .ok (.iastore, 1) := by decide +kernel
theorem dX2_setRoot_14 : decode cX2_setRoot 14 = .ok (.return_, 1) := by decide +kernel
theorem dX2_rootOf_0 : decode cX2_rootOf 0 = .ok (.iload_n 1, 1) := by decide +kernel
theorem dX2_rootOf_1 : decode cX2_rootOf 1 = .ok (.invokestatic 38, 3) := by decide +kernel
theorem dX2_rootOf_4 : decode cX2_rootOf 4 = .ok (.ifCond .eq 12, 3) := by decide +kernel
theorem dX2_rootOf_7 : decode cX2_rootOf 7 = .ok (.aload_n 0, 1) := by decide +kernel
theorem dX2_rootOf_8 : decode cX2_rootOf 8 = .ok (.getfield 9, 3) := by decide +kernel
theorem dX2_rootOf_11 : decode cX2_rootOf 11 = .ok (.iload_n 1, 1) := by decide +kernel
theorem dX2_rootOf_12 : decode cX2_rootOf 12 = .ok (.iaload, 1) := by decide +kernel
theorem dX2_rootOf_13 : decode cX2_rootOf 13 = .ok (.goto 4, 3) := by decide +kernel
theorem dX2_rootOf_16 : decode cX2_rootOf 16 = .ok (.iconst (-1), 1) := by decide +kernel
theorem dX2_rootOf_17 : decode cX2_rootOf 17 = .ok (.ireturn, 1) := by decide +kernel
theorem dX2_wantingOf_0 : decode cX2_wantingOf 0 = .ok (.iload_n 1, 1) := by decide +kernel
theorem dX2_wantingOf_1 : decode cX2_wantingOf 1 = .ok (.invokestatic 38, 3) := by decide +kernel
theorem dX2_wantingOf_4 : decode cX2_wantingOf 4 = .ok (.ifCond .eq 12, 3) := by decide +kernel
theorem dX2_wantingOf_7 : decode cX2_wantingOf 7 = .ok (.aload_n 0, 1) := by decide +kernel
theorem dX2_wantingOf_8 : decode cX2_wantingOf 8 = .ok (.getfield 15, 3) := by decide +kernel
theorem dX2_wantingOf_11 : decode cX2_wantingOf 11 = .ok (.iload_n 1, 1) := by decide +kernel
theorem dX2_wantingOf_12 : decode cX2_wantingOf 12 = .ok (.iaload, 1) := by decide +kernel
theorem dX2_wantingOf_13 : decode cX2_wantingOf 13 = .ok (.goto 4, 3) := by decide +kernel
theorem dX2_wantingOf_16 : decode cX2_wantingOf 16 = .ok (.iconst 0, 1) := by decide +kernel
theorem dX2_wantingOf_17 : decode cX2_wantingOf 17 = .ok (.ireturn, 1) := by decide +kernel
theorem dX2_want_0 : decode cX2_want 0 = .ok (.iload_n 1, 1) := by decide +kernel
theorem dX2_want_1 : decode cX2_want 1 = .ok (.invokestatic 38, 3) := by decide +kernel
theorem dX2_want_4 : decode cX2_want 4 = .ok (.ifCond .eq 30, 3) := by decide +kernel
theorem dX2_want_7 : decode cX2_want 7 = .ok (.iload_n 2, 1) := by decide +kernel
theorem dX2_want_8 : decode cX2_want 8 = .ok (.invokestatic 42, 3) := by decide +kernel
theorem dX2_want_11 : decode cX2_want 11 = .ok (.ifCond .eq 23, 3) := by decide +kernel
theorem dX2_want_14 : decode cX2_want 14 = .ok (.aload_n 0, 1) := by decide +kernel
theorem dX2_want_15 : decode cX2_want 15 = .ok (.getfield 15, 3) := by decide +kernel
theorem dX2_want_18 : decode cX2_want 18 = .ok (.iload_n 1, 1) := by decide +kernel
theorem dX2_want_19 : decode cX2_want 19 = .ok (.dup2, 1) := by decide +kernel
theorem dX2_want_20 : decode cX2_want 20 = .ok (.iaload, 1) := by decide +kernel
theorem dX2_want_21 : decode cX2_want 21 = .ok (.iload_n 2, 1) := by decide +kernel
theorem dX2_want_22 : decode cX2_want 22 = .ok (.invokestatic 45, 3) := by decide +kernel
theorem dX2_want_25 : decode cX2_want 25 = .ok (.ior, 1) := by decide +kernel
theorem dX2_want_26 : decode cX2_want 26 = .ok (.iastore, 1) := by decide +kernel
theorem dX2_want_27 : decode cX2_want 27 = .ok (.aload_n 0, 1) := by decide +kernel
theorem dX2_want_28 : decode cX2_want 28 = .ok (.iload_n 1, 1) := by decide +kernel
theorem dX2_want_29 : decode cX2_want 29 = .ok (.iload_n 2, 1) := by decide +kernel
theorem dX2_want_30 : decode cX2_want 30 = .ok (.aload_n 3, 1) := by decide +kernel
theorem dX2_want_31 : decode cX2_want 31 = .ok (.invokevirtual 49, 3) := by decide +kernel
theorem dX2_want_34 : decode cX2_want 34 = .ok (.return_, 1) := by decide +kernel
theorem dX2_unwant_0 : decode cX2_unwant 0 = .ok (.iload_n 1, 1) := by decide +kernel
theorem dX2_unwant_1 : decode cX2_unwant 1 = .ok (.invokestatic 38, 3) := by decide +kernel
theorem dX2_unwant_4 : decode cX2_unwant 4 = .ok (.ifCond .eq 32, 3) := by decide +kernel
theorem dX2_unwant_7 : decode cX2_unwant 7 = .ok (.iload_n 2, 1) := by decide +kernel
theorem dX2_unwant_8 : decode cX2_unwant 8 = .ok (.invokestatic 42, 3) := by decide +kernel
theorem dX2_unwant_11 : decode cX2_unwant 11 = .ok (.ifCond .eq 25, 3) := by decide +kernel
theorem dX2_unwant_14 : decode cX2_unwant 14 = .ok (.aload_n 0, 1) := by decide +kernel
theorem dX2_unwant_15 : decode cX2_unwant 15 = .ok (.getfield 15, 3) := by decide +kernel
theorem dX2_unwant_18 : decode cX2_unwant 18 = .ok (.iload_n 1, 1) := by decide +kernel
theorem dX2_unwant_19 : decode cX2_unwant 19 = .ok (.dup2, 1) := by decide +kernel
theorem dX2_unwant_20 : decode cX2_unwant 20 = .ok (.iaload, 1) := by decide +kernel
theorem dX2_unwant_21 : decode cX2_unwant 21 = .ok (.iload_n 2, 1) := by decide +kernel
theorem dX2_unwant_22 : decode cX2_unwant 22 = .ok (.invokestatic 45, 3) := by decide +kernel
theorem dX2_unwant_25 : decode cX2_unwant 25 = .ok (.iconst (-1), 1) := by decide +kernel
theorem dX2_unwant_26 : decode cX2_unwant 26 = .ok (.ixor, 1) := by decide +kernel
theorem dX2_unwant_27 : decode cX2_unwant 27 = .ok (.iand, 1) := by decide +kernel
theorem dX2_unwant_28 : decode cX2_unwant 28 = .ok (.iastore, 1) := by decide +kernel
theorem dX2_unwant_29 : decode cX2_unwant 29 = .ok (.aload_n 0, 1) := by decide +kernel
theorem dX2_unwant_30 : decode cX2_unwant 30 = .ok (.iload_n 1, 1) := by decide +kernel
theorem dX2_unwant_31 : decode cX2_unwant 31 = .ok (.iload_n 2, 1) := by decide +kernel
theorem dX2_unwant_32 : decode cX2_unwant 32 = .ok (.iload_n 3, 1) := by decide +kernel
theorem dX2_unwant_33 : decode cX2_unwant 33 = .ok (.invokevirtual 53, 3) := by decide +kernel
theorem dX2_unwant_36 : decode cX2_unwant 36 = .ok (.return_, 1) := by decide +kernel
theorem dX2_branchesFrom_0 : decode cX2_branchesFrom 0 = .ok (.iload_n 1, 1) := by decide +kernel
theorem dX2_branchesFrom_1 : decode cX2_branchesFrom 1 = .ok (.invokestatic 38, 3) := by decide +kernel
theorem dX2_branchesFrom_4 : decode cX2_branchesFrom 4 = .ok (.ifCond .eq 10, 3) := by decide +kernel
theorem dX2_branchesFrom_7 : decode cX2_branchesFrom 7 = .ok (.iload_n 2, 1) := by decide +kernel
theorem dX2_branchesFrom_8 : decode cX2_branchesFrom 8 = .ok (.invokestatic 42, 3) := by decide +kernel
theorem dX2_branchesFrom_11 : decode cX2_branchesFrom 11 = .ok (.ifCond .ne 5, 3) := by decide +kernel
theorem dX2_branchesFrom_14 : decode cX2_branchesFrom 14 = .ok (.iconst 0, 1) := by decide +kernel
theorem dX2_branchesFrom_15 : decode cX2_branchesFrom 15 = .ok (.ireturn, 1) := by decide +kernel
theorem dX2_branchesFrom_16 : decode cX2_branchesFrom 16 = .ok (.iconst 0, 1) := by decide +kernel
theorem dX2_branchesFrom_17 : decode cX2_branchesFrom 17 = .ok (.istore_n 3, 1) := by decide +kernel
theorem dX2_branchesFrom_18 : decode cX2_branchesFrom 18 = .ok (.iconst 0, 1) := by decide +kernel
theorem dX2_branchesFrom_19 : decode cX2_branchesFrom 19 = .ok (.istore 4, 2) := by decide +kernel
theorem dX2_branchesFrom_21 : decode cX2_branchesFrom 21 = .ok (.iload 4, 2) := by decide +kernel
theorem dX2_branchesFrom_23 : decode cX2_branchesFrom 23 = .ok (.bipush 10, 2) := by decide +kernel
theorem dX2_branchesFrom_25 : decode cX2_branchesFrom 25 = .ok (.if_icmp .ge 33, 3) := by decide +kernel
theorem dX2_branchesFrom_28 : decode cX2_branchesFrom 28 = .ok (.aload_n 0, 1) := by decide +kernel
theorem dX2_branchesFrom_29 : decode cX2_branchesFrom 29 = .ok (.getfield 18, 3) := by decide +kernel
theorem dX2_branchesFrom_32 : decode cX2_branchesFrom 32 = .ok (.iload_n 1, 1) := by decide +kernel
theorem dX2_branchesFrom_33 : decode cX2_branchesFrom 33 = .ok (.bipush 10, 2) := by decide +kernel
theorem dX2_branchesFrom_35 : decode cX2_branchesFrom 35 = .ok (.imul, 1) := by decide +kernel
theorem dX2_branchesFrom_36 : decode cX2_branchesFrom 36 = .ok (.iload 4, 2) := by decide +kernel
theorem dX2_branchesFrom_38 : decode cX2_branchesFrom 38 = .ok (.iadd, 1) := by decide +kernel
theorem dX2_branchesFrom_39 : decode cX2_branchesFrom 39 = .ok (.iaload, 1) := by decide +kernel
theorem dX2_branchesFrom_40 : decode cX2_branchesFrom 40 = .ok (.iload_n 2, 1) := by decide +kernel
theorem dX2_branchesFrom_41 : decode cX2_branchesFrom 41 = .ok (.if_icmp .ne 11, 3) := by decide +kernel
theorem dX2_branchesFrom_44 : decode cX2_branchesFrom 44 = .ok (.iload_n 3, 1) := by decide +kernel
theorem dX2_branchesFrom_45 : decode cX2_branchesFrom 45 = .ok (.iload 4, 2) := by decide +kernel
theorem dX2_branchesFrom_47 : decode cX2_branchesFrom 47 = .ok (.invokestatic 45, 3) := by decide +kernel
theorem dX2_branchesFrom_50 : decode cX2_branchesFrom 50 = .ok (.ior, 1) := by decide +kernel
theorem dX2_branchesFrom_51 : decode cX2_branchesFrom 51 = .ok (.istore_n 3, 1) := by decide +kernel
theorem dX2_branchesFrom_52 : decode cX2_branchesFrom 52 = .ok (.iinc 4 1, 3) := by decide +kernel
theorem dX2_branchesFrom_55 : decode cX2_branchesFrom 55 = .ok (.goto (-34), 3) := by decide +kernel
theorem dX2_branchesFrom_58 : decode cX2_branchesFrom 58 = .ok (.iload_n 3, 1) := by decide +kernel
theorem dX2_branchesFrom_59 : decode cX2_branchesFrom 59 = .ok (.ireturn, 1) := by decide +kernel
theorem dX2_leavingBranches_0 : decode cX2_leavingBranches 0 = .ok (.iconst 0, 1) := by decide +kernel
theorem dX2_leavingBranches_1 : decode cX2_leavingBranches 1 = .ok (.istore_n 1, 1) := by decide +kernel
theorem dX2_leavingBranches_2 : decode cX2_leavingBranches 2 = .ok (.iconst 0, 1) := by decide +kernel
theorem dX2_leavingBranches_3 : decode cX2_leavingBranches 3 = .ok (.istore_n 2, 1) := by decide +kernel
theorem dX2_leavingBranches_4 : decode cX2_leavingBranches 4 = .ok (.iload_n 2, 1) := by decide +kernel
theorem dX2_leavingBranches_5 : decode cX2_leavingBranches 5 = .ok (.sipush 440, 3) := by decide +kernel
theorem dX2_leavingBranches_8 : decode cX2_leavingBranches 8 = .ok (.if_icmp .ge 22, 3) := by decide +kernel
theorem dX2_leavingBranches_11 : decode cX2_leavingBranches 11 = .ok (.aload_n 0, 1) := by decide +kernel
theorem dX2_leavingBranches_12 : decode cX2_leavingBranches 12 = .ok (.getfield 21, 3) := by decide +kernel
theorem dX2_leavingBranches_15 : decode cX2_leavingBranches 15 = .ok (.iload_n 2, 1) := by decide +kernel
theorem dX2_leavingBranches_16 : decode cX2_leavingBranches 16 = .ok (.iaload, 1) := by decide +kernel
theorem dX2_leavingBranches_17 : decode cX2_leavingBranches 17 = .ok (.iconst (-1), 1) := by decide +kernel
theorem dX2_leavingBranches_18 : decode cX2_leavingBranches 18 = .ok (.if_icmp .eq 6, 3) := by decide +kernel
theorem dX2_leavingBranches_21 : decode cX2_leavingBranches 21 = .ok (.iinc 1 1, 3) := by decide +kernel
theorem dX2_leavingBranches_24 : decode cX2_leavingBranches 24 = .ok (.iinc 2 1, 3) := by decide +kernel
theorem dX2_leavingBranches_27 : decode cX2_leavingBranches 27 = .ok (.goto (-23), 3) := by decide +kernel
theorem dX2_leavingBranches_30 : decode cX2_leavingBranches 30 = .ok (.iload_n 1, 1) := by decide +kernel
theorem dX2_leavingBranches_31 : decode cX2_leavingBranches 31 = .ok (.ireturn, 1) := by decide +kernel
theorem dX2_buildAnew_0 : decode cX2_buildAnew 0 = .ok (.aload_n 0, 1) := by decide +kernel
theorem dX2_buildAnew_1 : decode cX2_buildAnew 1 = .ok (.getfield 18, 3) := by decide +kernel
theorem dX2_buildAnew_4 : decode cX2_buildAnew 4 = .ok (.iconst (-1), 1) := by decide +kernel
theorem dX2_buildAnew_5 : decode cX2_buildAnew 5 = .ok (.invokestatic 24, 3) := by decide +kernel
theorem dX2_buildAnew_8 : decode cX2_buildAnew 8 = .ok (.aload_n 0, 1) := by decide +kernel
theorem dX2_buildAnew_9 : decode cX2_buildAnew 9 = .ok (.getfield 21, 3) := by decide +kernel
theorem dX2_buildAnew_12 : decode cX2_buildAnew 12 = .ok (.iconst (-1), 1) := by decide +kernel
theorem dX2_buildAnew_13 : decode cX2_buildAnew 13 = .ok (.invokestatic 24, 3) := by decide +kernel
theorem dX2_buildAnew_16 : decode cX2_buildAnew 16 = .ok (.iconst 0, 1) := by decide +kernel
theorem dX2_buildAnew_17 : decode cX2_buildAnew 17 = .ok (.istore_n 2, 1) := by decide +kernel
theorem dX2_buildAnew_18 : decode cX2_buildAnew 18 = .ok (.iload_n 2, 1) := by decide +kernel
theorem dX2_buildAnew_19 : decode cX2_buildAnew 19 = .ok (.bipush 44, 2) := by decide +kernel
theorem dX2_buildAnew_21 : decode cX2_buildAnew 21 = .ok (.if_icmp .ge 43, 3) := by decide +kernel
theorem dX2_buildAnew_24 : decode cX2_buildAnew 24 = .ok (.iconst 0, 1) := by decide +kernel
theorem dX2_buildAnew_25 : decode cX2_buildAnew 25 = .ok (.istore_n 3, 1) := by decide +kernel
theorem dX2_buildAnew_26 : decode cX2_buildAnew 26 = .ok (.iload_n 3, 1) := by decide +kernel
theorem dX2_buildAnew_27 : decode cX2_buildAnew 27 = .ok (.bipush 10, 2) := by decide +kernel
theorem dX2_buildAnew_29 : decode cX2_buildAnew 29 = .ok (.if_icmp .ge 29, 3) := by decide +kernel
theorem dX2_buildAnew_32 : decode cX2_buildAnew 32 = .ok (.aload_n 0, 1) := by decide +kernel
theorem dX2_buildAnew_33 : decode cX2_buildAnew 33 = .ok (.getfield 15, 3) := by decide +kernel
theorem dX2_buildAnew_36 : decode cX2_buildAnew 36 = .ok (.iload_n 2, 1) := by decide +kernel
theorem dX2_buildAnew_37 : decode cX2_buildAnew 37 = .ok (.iaload, 1) := by decide +kernel
theorem dX2_buildAnew_38 : decode cX2_buildAnew 38 = .ok (.iload_n 3, 1) := by decide +kernel
theorem dX2_buildAnew_39 : decode cX2_buildAnew 39 = .ok (.invokestatic 57, 3) := by decide +kernel
theorem dX2_buildAnew_42 : decode cX2_buildAnew 42 = .ok (.ifCond .eq 10, 3) := by decide +kernel
theorem dX2_buildAnew_45 : decode cX2_buildAnew 45 = .ok (.aload_n 0, 1) := by decide +kernel
theorem dX2_buildAnew_46 : decode cX2_buildAnew 46 = .ok (.iload_n 2, 1) := by decide +kernel
theorem dX2_buildAnew_47 : decode cX2_buildAnew 47 = .ok (.iload_n 3, 1) := by decide +kernel
theorem dX2_buildAnew_48 : decode cX2_buildAnew 48 = .ok (.aload_n 1, 1) := by decide +kernel
theorem dX2_buildAnew_49 : decode cX2_buildAnew 49 = .ok (.invokevirtual 49, 3) := by decide +kernel
theorem dX2_buildAnew_52 : decode cX2_buildAnew 52 = .ok (.iinc 3 1, 3) := by decide +kernel
theorem dX2_buildAnew_55 : decode cX2_buildAnew 55 = .ok (.goto (-29), 3) := by decide +kernel
theorem dX2_buildAnew_58 : decode cX2_buildAnew 58 = .ok (.iinc 2 1, 3) := by decide +kernel
theorem dX2_buildAnew_61 : decode cX2_buildAnew 61 = .ok (.goto (-43), 3) := by decide +kernel
theorem dX2_buildAnew_64 : decode cX2_buildAnew 64 = .ok (.return_, 1) := by decide +kernel
theorem dX2_removeDue_0 : decode cX2_removeDue 0 = .ok (.iconst 0, 1) := by decide +kernel
theorem dX2_removeDue_1 : decode cX2_removeDue 1 = .ok (.istore_n 2, 1) := by decide +kernel
theorem dX2_removeDue_2 : decode cX2_removeDue 2 = .ok (.iconst 0, 1) := by decide +kernel
theorem dX2_removeDue_3 : decode cX2_removeDue 3 = .ok (.istore_n 3, 1) := by decide +kernel
theorem dX2_removeDue_4 : decode cX2_removeDue 4 = .ok (.iload_n 3, 1) := by decide +kernel
theorem dX2_removeDue_5 : decode cX2_removeDue 5 = .ok (.bipush 44, 2) := by decide +kernel
theorem dX2_removeDue_7 : decode cX2_removeDue 7 = .ok (.if_icmp .ge 47, 3) := by decide +kernel
theorem dX2_removeDue_10 : decode cX2_removeDue 10 = .ok (.iconst 0, 1) := by decide +kernel
theorem dX2_removeDue_11 : decode cX2_removeDue 11 = .ok (.istore 4, 2) := by decide +kernel
theorem dX2_removeDue_13 : decode cX2_removeDue 13 = .ok (.iload 4, 2) := by decide +kernel
theorem dX2_removeDue_15 : decode cX2_removeDue 15 = .ok (.bipush 10, 2) := by decide +kernel
theorem dX2_removeDue_17 : decode cX2_removeDue 17 = .ok (.if_icmp .ge 31, 3) := by decide +kernel
theorem dX2_removeDue_20 : decode cX2_removeDue 20 = .ok (.aload_n 0, 1) := by decide +kernel
theorem dX2_removeDue_21 : decode cX2_removeDue 21 = .ok (.iload_n 3, 1) := by decide +kernel
theorem dX2_removeDue_22 : decode cX2_removeDue 22 = .ok (.iload 4, 2) := by decide +kernel
theorem dX2_removeDue_24 : decode cX2_removeDue 24 = .ok (.iload_n 1, 1) := by decide +kernel
theorem dX2_removeDue_25 : decode cX2_removeDue 25 = .ok (.invokevirtual 61, 3) := by decide +kernel
theorem dX2_removeDue_28 : decode cX2_removeDue 28 = .ok (.ifCond .eq 14, 3) := by decide +kernel
theorem dX2_removeDue_31 : decode cX2_removeDue 31 = .ok (.aload_n 0, 1) := by decide +kernel
theorem dX2_removeDue_32 : decode cX2_removeDue 32 = .ok (.iload_n 3, 1) := by decide +kernel
theorem dX2_removeDue_33 : decode cX2_removeDue 33 = .ok (.iload 4, 2) := by decide +kernel
theorem dX2_removeDue_35 : decode cX2_removeDue 35 = .ok (.iload_n 1, 1) := by decide +kernel
theorem dX2_removeDue_36 : decode cX2_removeDue 36 = .ok (.invokevirtual 65, 3) := by decide +kernel
theorem dX2_removeDue_39 : decode cX2_removeDue 39 = .ok (.iinc 2 1, 3) := by decide +kernel
theorem dX2_removeDue_42 : decode cX2_removeDue 42 = .ok (.iinc 4 1, 3) := by decide +kernel
theorem dX2_removeDue_45 : decode cX2_removeDue 45 = .ok (.goto (-32), 3) := by decide +kernel
theorem dX2_removeDue_48 : decode cX2_removeDue 48 = .ok (.iinc 3 1, 3) := by decide +kernel
theorem dX2_removeDue_51 : decode cX2_removeDue 51 = .ok (.goto (-47), 3) := by decide +kernel
theorem dX2_removeDue_54 : decode cX2_removeDue 54 = .ok (.iload_n 2, 1) := by decide +kernel
theorem dX2_removeDue_55 : decode cX2_removeDue 55 = .ok (.ireturn, 1) := by decide +kernel
theorem dX2_isDue_0 : decode cX2_isDue 0 = .ok (.aload_n 0, 1) := by decide +kernel
theorem dX2_isDue_1 : decode cX2_isDue 1 = .ok (.iload_n 1, 1) := by decide +kernel
theorem dX2_isDue_2 : decode cX2_isDue 2 = .ok (.iload_n 2, 1) := by decide +kernel
theorem dX2_isDue_3 : decode cX2_isDue 3 = .ok (.invokevirtual 68, 3) := by decide +kernel
theorem dX2_isDue_6 : decode cX2_isDue 6 = .ok (.iconst (-1), 1) := by decide +kernel
theorem dX2_isDue_7 : decode cX2_isDue 7 = .ok (.if_icmp .eq 22, 3) := by decide +kernel
theorem dX2_isDue_10 : decode cX2_isDue 10 = .ok (.aload_n 0, 1) := by decide +kernel
theorem dX2_isDue_11 : decode cX2_isDue 11 = .ok (.getfield 21, 3) := by decide +kernel
theorem dX2_isDue_14 : decode cX2_isDue 14 = .ok (.iload_n 1, 1) := by decide +kernel
theorem dX2_isDue_15 : decode cX2_isDue 15 = .ok (.bipush 10, 2) := by decide +kernel
theorem dX2_isDue_17 : decode cX2_isDue 17 = .ok (.imul, 1) := by decide +kernel
theorem dX2_isDue_18 : decode cX2_isDue 18 = .ok (.iload_n 2, 1) := by decide +kernel
theorem dX2_isDue_19 : decode cX2_isDue 19 = .ok (.iadd, 1) := by decide +kernel
theorem dX2_isDue_20 : decode cX2_isDue 20 = .ok (.iaload, 1) := by decide +kernel
theorem dX2_isDue_21 : decode cX2_isDue 21 = .ok (.iload_n 3, 1) := by decide +kernel
theorem dX2_isDue_22 : decode cX2_isDue 22 = .ok (.if_icmp .ne 7, 3) := by decide +kernel
theorem dX2_isDue_25 : decode cX2_isDue 25 = .ok (.iconst 1, 1) := by decide +kernel
theorem dX2_isDue_26 : decode cX2_isDue 26 = .ok (.goto 4, 3) := by decide +kernel
theorem dX2_isDue_29 : decode cX2_isDue 29 = .ok (.iconst 0, 1) := by decide +kernel
theorem dX2_isDue_30 : decode cX2_isDue 30 = .ok (.ireturn, 1) := by decide +kernel
theorem dX2_remove_0 : decode cX2_remove 0 = .ok (.aload_n 0, 1) := by decide +kernel
theorem dX2_remove_1 : decode cX2_remove 1 = .ok (.iload_n 1, 1) := by decide +kernel
theorem dX2_remove_2 : decode cX2_remove 2 = .ok (.iload_n 2, 1) := by decide +kernel
theorem dX2_remove_3 : decode cX2_remove 3 = .ok (.invokevirtual 68, 3) := by decide +kernel
theorem dX2_remove_6 : decode cX2_remove 6 = .ok (.istore 4, 2) := by decide +kernel
theorem dX2_remove_8 : decode cX2_remove 8 = .ok (.aload_n 0, 1) := by decide +kernel
theorem dX2_remove_9 : decode cX2_remove 9 = .ok (.getfield 18, 3) := by decide +kernel
theorem dX2_remove_12 : decode cX2_remove 12 = .ok (.iload_n 1, 1) := by decide +kernel
theorem dX2_remove_13 : decode cX2_remove 13 = .ok (.bipush 10, 2) := by decide +kernel
theorem dX2_remove_15 : decode cX2_remove 15 = .ok (.imul, 1) := by decide +kernel
theorem dX2_remove_16 : decode cX2_remove 16 = .ok (.iload_n 2, 1) := by decide +kernel
theorem dX2_remove_17 : decode cX2_remove 17 = .ok (.iadd, 1) := by decide +kernel
theorem dX2_remove_18 : decode cX2_remove 18 = .ok (.iconst (-1), 1) := by decide +kernel
theorem dX2_remove_19 : decode cX2_remove 19 = .ok (.iastore, 1) := by decide +kernel
theorem dX2_remove_20 : decode cX2_remove 20 = .ok (.aload_n 0, 1) := by decide +kernel
theorem dX2_remove_21 : decode cX2_remove 21 = .ok (.getfield 21, 3) := by decide +kernel
theorem dX2_remove_24 : decode cX2_remove 24 = .ok (.iload_n 1, 1) := by decide +kernel
theorem dX2_remove_25 : decode cX2_remove 25 = .ok (.bipush 10, 2) := by decide +kernel
theorem dX2_remove_27 : decode cX2_remove 27 = .ok (.imul, 1) := by decide +kernel
theorem dX2_remove_28 : decode cX2_remove 28 = .ok (.iload_n 2, 1) := by decide +kernel
theorem dX2_remove_29 : decode cX2_remove 29 = .ok (.iadd, 1) := by decide +kernel
theorem dX2_remove_30 : decode cX2_remove 30 = .ok (.iconst (-1), 1) := by decide +kernel
theorem dX2_remove_31 : decode cX2_remove 31 = .ok (.iastore, 1) := by decide +kernel
theorem dX2_remove_32 : decode cX2_remove 32 = .ok (.aload_n 0, 1) := by decide +kernel
theorem dX2_remove_33 : decode cX2_remove 33 = .ok (.iload_n 1, 1) := by decide +kernel
theorem dX2_remove_34 : decode cX2_remove 34 = .ok (.iload 4, 2) := by decide +kernel
theorem dX2_remove_36 : decode cX2_remove 36 = .ok (.iload_n 3, 1) := by decide +kernel
theorem dX2_remove_37 : decode cX2_remove 37 = .ok (.invokevirtual 53, 3) := by decide +kernel
theorem dX2_remove_40 : decode cX2_remove 40 = .ok (.return_, 1) := by decide +kernel
theorem dX2_parentOf_0 : decode cX2_parentOf 0 = .ok (.iload_n 1, 1) := by decide +kernel
theorem dX2_parentOf_1 : decode cX2_parentOf 1 = .ok (.invokestatic 38, 3) := by decide +kernel
theorem dX2_parentOf_4 : decode cX2_parentOf 4 = .ok (.ifCond .eq 24, 3) := by decide +kernel
theorem dX2_parentOf_7 : decode cX2_parentOf 7 = .ok (.iload_n 2, 1) := by decide +kernel
theorem dX2_parentOf_8 : decode cX2_parentOf 8 = .ok (.invokestatic 42, 3) := by decide +kernel
theorem dX2_parentOf_11 : decode cX2_parentOf 11 = .ok (.ifCond .eq 17, 3) := by decide +kernel
theorem dX2_parentOf_14 : decode cX2_parentOf 14 = .ok (.aload_n 0, 1) := by decide +kernel
theorem dX2_parentOf_15 : decode cX2_parentOf 15 = .ok (.getfield 18, 3) := by decide +kernel
theorem dX2_parentOf_18 : decode cX2_parentOf 18 = .ok (.iload_n 1, 1) := by decide +kernel
theorem dX2_parentOf_19 : decode cX2_parentOf 19 = .ok (.bipush 10, 2) := by decide +kernel
theorem dX2_parentOf_21 : decode cX2_parentOf 21 = .ok (.imul, 1) := by decide +kernel
theorem dX2_parentOf_22 : decode cX2_parentOf 22 = .ok (.iload_n 2, 1) := by decide +kernel
theorem dX2_parentOf_23 : decode cX2_parentOf 23 = .ok (.iadd, 1) := by decide +kernel
theorem dX2_parentOf_24 : decode cX2_parentOf 24 = .ok (.iaload, 1) := by decide +kernel
theorem dX2_parentOf_25 : decode cX2_parentOf 25 = .ok (.goto 4, 3) := by decide +kernel
theorem dX2_parentOf_28 : decode cX2_parentOf 28 = .ok (.iconst (-1), 1) := by decide +kernel
theorem dX2_parentOf_29 : decode cX2_parentOf 29 = .ok (.ireturn, 1) := by decide +kernel
theorem dX2_graft_0 : decode cX2_graft 0 = .ok (.aload_n 0, 1) := by decide +kernel
theorem dX2_graft_1 : decode cX2_graft 1 = .ok (.iload_n 1, 1) := by decide +kernel
theorem dX2_graft_2 : decode cX2_graft 2 = .ok (.invokevirtual 71, 3) := by decide +kernel
theorem dX2_graft_5 : decode cX2_graft 5 = .ok (.istore 4, 2) := by decide +kernel
theorem dX2_graft_7 : decode cX2_graft 7 = .ok (.iload_n 2, 1) := by decide +kernel
theorem dX2_graft_8 : decode cX2_graft 8 = .ok (.istore 5, 2) := by decide +kernel
theorem dX2_graft_10 : decode cX2_graft 10 = .ok (.iconst 0, 1) := by decide +kernel
theorem dX2_graft_11 : decode cX2_graft 11 = .ok (.istore 6, 2) := by decide +kernel
theorem dX2_graft_13 : decode cX2_graft 13 = .ok (.iload 6, 2) := by decide +kernel
theorem dX2_graft_15 : decode cX2_graft 15 = .ok (.bipush 10, 2) := by decide +kernel
theorem dX2_graft_17 : decode cX2_graft 17 = .ok (.if_icmp .ge 85, 3) := by decide +kernel
theorem dX2_graft_20 : decode cX2_graft 20 = .ok (.iload_n 1, 1) := by decide +kernel
theorem dX2_graft_21 : decode cX2_graft 21 = .ok (.invokestatic 38, 3) := by decide +kernel
theorem dX2_graft_24 : decode cX2_graft 24 = .ok (.ifCond .eq 18, 3) := by decide +kernel
theorem dX2_graft_27 : decode cX2_graft 27 = .ok (.iload 5, 2) := by decide +kernel
theorem dX2_graft_29 : decode cX2_graft 29 = .ok (.invokestatic 42, 3) := by decide +kernel
theorem dX2_graft_32 : decode cX2_graft 32 = .ok (.ifCond .eq 10, 3) := by decide +kernel
theorem dX2_graft_35 : decode cX2_graft 35 = .ok (.iload 5, 2) := by decide +kernel
theorem dX2_graft_37 : decode cX2_graft 37 = .ok (.iload 4, 2) := by decide +kernel
theorem dX2_graft_39 : decode cX2_graft 39 = .ok (.if_icmp .ne 4, 3) := by decide +kernel
theorem dX2_graft_42 : decode cX2_graft 42 = .ok (.return_, 1) := by decide +kernel
theorem dX2_graft_43 : decode cX2_graft 43 = .ok (.aload_n 0, 1) := by decide +kernel
theorem dX2_graft_44 : decode cX2_graft 44 = .ok (.iload_n 1, 1) := by decide +kernel
theorem dX2_graft_45 : decode cX2_graft 45 = .ok (.iload 5, 2) := by decide +kernel
theorem dX2_graft_47 : decode cX2_graft 47 = .ok (.invokevirtual 68, 3) := by decide +kernel
theorem dX2_graft_50 : decode cX2_graft 50 = .ok (.iconst (-1), 1) := by decide +kernel
theorem dX2_graft_51 : decode cX2_graft 51 = .ok (.if_icmp .eq 17, 3) := by decide +kernel
theorem dX2_graft_54 : decode cX2_graft 54 = .ok (.aload_n 0, 1) := by decide +kernel
theorem dX2_graft_55 : decode cX2_graft 55 = .ok (.getfield 21, 3) := by decide +kernel
theorem dX2_graft_58 : decode cX2_graft 58 = .ok (.iload_n 1, 1) := by decide +kernel
theorem dX2_graft_59 : decode cX2_graft 59 = .ok (.bipush 10, 2) := by decide +kernel
theorem dX2_graft_61 : decode cX2_graft 61 = .ok (.imul, 1) := by decide +kernel
theorem dX2_graft_62 : decode cX2_graft 62 = .ok (.iload 5, 2) := by decide +kernel
theorem dX2_graft_64 : decode cX2_graft 64 = .ok (.iadd, 1) := by decide +kernel
theorem dX2_graft_65 : decode cX2_graft 65 = .ok (.iconst (-1), 1) := by decide +kernel
theorem dX2_graft_66 : decode cX2_graft 66 = .ok (.iastore, 1) := by decide +kernel
theorem dX2_graft_67 : decode cX2_graft 67 = .ok (.return_, 1) := by decide +kernel
theorem dX2_graft_68 : decode cX2_graft 68 = .ok (.aload_n 3, 1) := by decide +kernel
theorem dX2_graft_69 : decode cX2_graft 69 = .ok (.iload 5, 2) := by decide +kernel
theorem dX2_graft_71 : decode cX2_graft 71 = .ok (.iload 4, 2) := by decide +kernel
theorem dX2_graft_73 : decode cX2_graft 73 = .ok (.invokevirtual 74, 3) := by decide +kernel
theorem dX2_graft_76 : decode cX2_graft 76 = .ok (.istore 7, 2) := by decide +kernel
theorem dX2_graft_78 : decode cX2_graft 78 = .ok (.aload_n 0, 1) := by decide +kernel
theorem dX2_graft_79 : decode cX2_graft 79 = .ok (.getfield 18, 3) := by decide +kernel
theorem dX2_graft_82 : decode cX2_graft 82 = .ok (.iload_n 1, 1) := by decide +kernel
theorem dX2_graft_83 : decode cX2_graft 83 = .ok (.bipush 10, 2) := by decide +kernel
theorem dX2_graft_85 : decode cX2_graft 85 = .ok (.imul, 1) := by decide +kernel
theorem dX2_graft_86 : decode cX2_graft 86 = .ok (.iload 5, 2) := by decide +kernel
theorem dX2_graft_88 : decode cX2_graft 88 = .ok (.iadd, 1) := by decide +kernel
theorem dX2_graft_89 : decode cX2_graft 89 = .ok (.iload 7, 2) := by decide +kernel
theorem dX2_graft_91 : decode cX2_graft 91 = .ok (.iastore, 1) := by decide +kernel
theorem dX2_graft_92 : decode cX2_graft 92 = .ok (.iload 7, 2) := by decide +kernel
theorem dX2_graft_94 : decode cX2_graft 94 = .ok (.istore 5, 2) := by decide +kernel
theorem dX2_graft_96 : decode cX2_graft 96 = .ok (.iinc 6 1, 3) := by decide +kernel
theorem dX2_graft_99 : decode cX2_graft 99 = .ok (.goto (-86), 3) := by decide +kernel
theorem dX2_graft_102 : decode cX2_graft 102 = .ok (.return_, 1) := by decide +kernel
theorem dX2_letLeave_0 : decode cX2_letLeave 0 = .ok (.aload_n 0, 1) := by decide +kernel
theorem dX2_letLeave_1 : decode cX2_letLeave 1 = .ok (.iload_n 1, 1) := by decide +kernel
theorem dX2_letLeave_2 : decode cX2_letLeave 2 = .ok (.iload_n 2, 1) := by decide +kernel
theorem dX2_letLeave_3 : decode cX2_letLeave 3 = .ok (.invokevirtual 68, 3) := by decide +kernel
theorem dX2_letLeave_6 : decode cX2_letLeave 6 = .ok (.iconst (-1), 1) := by decide +kernel
theorem dX2_letLeave_7 : decode cX2_letLeave 7 = .ok (.if_icmp .eq 12, 3) := by decide +kernel
theorem dX2_letLeave_10 : decode cX2_letLeave 10 = .ok (.aload_n 0, 1) := by decide +kernel
theorem dX2_letLeave_11 : decode cX2_letLeave 11 = .ok (.iload_n 1, 1) := by decide +kernel
theorem dX2_letLeave_12 : decode cX2_letLeave 12 = .ok (.iload_n 2, 1) := by decide +kernel
theorem dX2_letLeave_13 : decode cX2_letLeave 13 = .ok (.invokevirtual 79, 3) := by decide +kernel
theorem dX2_letLeave_16 : decode cX2_letLeave 16 = .ok (.ifCond .eq 4, 3) := by decide +kernel
theorem dX2_letLeave_19 : decode cX2_letLeave 19 = .ok (.return_, 1) := by decide +kernel
theorem dX2_letLeave_20 : decode cX2_letLeave 20 = .ok (.iload_n 1, 1) := by decide +kernel
theorem dX2_letLeave_21 : decode cX2_letLeave 21 = .ok (.bipush 10, 2) := by decide +kernel
theorem dX2_letLeave_23 : decode cX2_letLeave 23 = .ok (.imul, 1) := by decide +kernel
theorem dX2_letLeave_24 : decode cX2_letLeave 24 = .ok (.iload_n 2, 1) := by decide +kernel
theorem dX2_letLeave_25 : decode cX2_letLeave 25 = .ok (.iadd, 1) := by decide +kernel
theorem dX2_letLeave_26 : decode cX2_letLeave 26 = .ok (.istore 4, 2) := by decide +kernel
theorem dX2_letLeave_28 : decode cX2_letLeave 28 = .ok (.aload_n 0, 1) := by decide +kernel
theorem dX2_letLeave_29 : decode cX2_letLeave 29 = .ok (.getfield 21, 3) := by decide +kernel
theorem dX2_letLeave_32 : decode cX2_letLeave 32 = .ok (.iload 4, 2) := by decide +kernel
theorem dX2_letLeave_34 : decode cX2_letLeave 34 = .ok (.iaload, 1) := by decide +kernel
theorem dX2_letLeave_35 : decode cX2_letLeave 35 = .ok (.iconst (-1), 1) := by decide +kernel
theorem dX2_letLeave_36 : decode cX2_letLeave 36 = .ok (.if_icmp .ne 13, 3) := by decide +kernel
theorem dX2_letLeave_39 : decode cX2_letLeave 39 = .ok (.aload_n 0, 1) := by decide +kernel
theorem dX2_letLeave_40 : decode cX2_letLeave 40 = .ok (.getfield 21, 3) := by decide +kernel
theorem dX2_letLeave_43 : decode cX2_letLeave 43 = .ok (.iload 4, 2) := by decide +kernel
theorem dX2_letLeave_45 : decode cX2_letLeave 45 = .ok (.iload_n 3, 1) := by decide +kernel
theorem dX2_letLeave_46 : decode cX2_letLeave 46 = .ok (.iconst 3, 1) := by decide +kernel
theorem dX2_letLeave_47 : decode cX2_letLeave 47 = .ok (.iadd, 1) := by decide +kernel
theorem dX2_letLeave_48 : decode cX2_letLeave 48 = .ok (.iastore, 1) := by decide +kernel
theorem dX2_letLeave_49 : decode cX2_letLeave 49 = .ok (.return_, 1) := by decide +kernel
theorem dX2_isNeeded_0 : decode cX2_isNeeded 0 = .ok (.aload_n 0, 1) := by decide +kernel
theorem dX2_isNeeded_1 : decode cX2_isNeeded 1 = .ok (.iload_n 1, 1) := by decide +kernel
theorem dX2_isNeeded_2 : decode cX2_isNeeded 2 = .ok (.invokevirtual 82, 3) := by decide +kernel
theorem dX2_isNeeded_5 : decode cX2_isNeeded 5 = .ok (.iload_n 2, 1) := by decide +kernel
theorem dX2_isNeeded_6 : decode cX2_isNeeded 6 = .ok (.invokestatic 57, 3) := by decide +kernel
theorem dX2_isNeeded_9 : decode cX2_isNeeded 9 = .ok (.ifCond .ne 12, 3) := by decide +kernel
theorem dX2_isNeeded_12 : decode cX2_isNeeded 12 = .ok (.aload_n 0, 1) := by decide +kernel
theorem dX2_isNeeded_13 : decode cX2_isNeeded 13 = .ok (.iload_n 1, 1) := by decide +kernel
theorem dX2_isNeeded_14 : decode cX2_isNeeded 14 = .ok (.iload_n 2, 1) := by decide +kernel
theorem dX2_isNeeded_15 : decode cX2_isNeeded 15 = .ok (.invokevirtual 85, 3) := by decide +kernel
theorem dX2_isNeeded_18 : decode cX2_isNeeded 18 = .ok (.ifCond .eq 7, 3) := by decide +kernel
theorem dX2_isNeeded_21 : decode cX2_isNeeded 21 = .ok (.iconst 1, 1) := by decide +kernel
theorem dX2_isNeeded_22 : decode cX2_isNeeded 22 = .ok (.goto 4, 3) := by decide +kernel
theorem dX2_isNeeded_25 : decode cX2_isNeeded 25 = .ok (.iconst 0, 1) := by decide +kernel
theorem dX2_isNeeded_26 : decode cX2_isNeeded 26 = .ok (.ireturn, 1) := by decide +kernel
end
section
theorem dX3_init_0 : decode cX3_init 0 = .ok (.aload_n 0, 1) := by decide +kernel
theorem dX3_init_1 : decode cX3_init 1 = .ok (.invokespecial 3, 3) := by decide +kernel
theorem dX3_init_4 : decode cX3_init 4 = .ok (.aload_n 0, 1) := by decide +kernel
theorem dX3_init_5 : decode cX3_init 5 = .ok (.sipush 200, 3) := by decide +kernel
theorem dX3_init_8 : decode cX3_init 8 = .ok (.newarray .int, 2) := by decide +kernel
theorem dX3_init_10 : decode cX3_init 10 = .ok (.putfield 9, 3) := by decide +kernel
theorem dX3_init_13 : decode cX3_init 13 = .ok (.aload_n 0, 1) := by decide +kernel
theorem dX3_init_14 : decode cX3_init 14 = .ok (.sipush 200, 3) := by decide +kernel
theorem dX3_init_17 : decode cX3_init 17 = .ok (.newarray .int, 2) := by decide +kernel
theorem dX3_init_19 : decode cX3_init 19 = .ok (.putfield 15, 3) := by decide +kernel
theorem dX3_init_22 : decode cX3_init 22 = .ok (.aload_n 0, 1) := by decide +kernel
theorem dX3_init_23 : decode cX3_init 23 = .ok (.sipush 200, 3) := by decide +kernel
theorem dX3_init_26 : decode cX3_init 26 = .ok (.newarray .int, 2) := by decide +kernel
theorem dX3_init_28 : decode cX3_init 28 = .ok (.putfield 18, 3) := by decide +kernel
theorem dX3_init_31 : decode cX3_init 31 = .ok (.aload_n 0, 1) := by decide +kernel
theorem dX3_init_32 : decode cX3_init 32 = .ok (.sipush 200, 3) := by decide +kernel
theorem dX3_init_35 : decode cX3_init 35 = .ok (.newarray .int, 2) := by decide +kernel
theorem dX3_init_37 : decode cX3_init 37 = .ok (.putfield 21, 3) := by decide +kernel
theorem dX3_init_40 : decode cX3_init 40 = .ok (.return_, 1) := by decide +kernel
theorem dX3_isFull_0 : decode cX3_isFull 0 = .ok (.aload_n 0, 1) := by decide +kernel
theorem dX3_isFull_1 : decode cX3_isFull 1 = .ok (.getfield 24, 3) := by decide +kernel
theorem dX3_isFull_4 : decode cX3_isFull 4 = .ok (.sipush 200, 3) := by decide +kernel
theorem dX3_isFull_7 : decode cX3_isFull 7 = .ok (.if_icmp .lt 7, 3) := by decide +kernel
theorem dX3_isFull_10 : decode cX3_isFull 10 = .ok (.iconst 1, 1) := by decide +kernel
theorem dX3_isFull_11 : decode cX3_isFull 11 = .ok (.goto 4, 3) := by decide +kernel
theorem dX3_isFull_14 : decode cX3_isFull 14 = .ok (.iconst 0, 1) := by decide +kernel
theorem dX3_isFull_15 : decode cX3_isFull 15 = .ok (.ireturn, 1) := by decide +kernel
theorem dX3_isPacket_0 : decode cX3_isPacket 0 = .ok (.iload_n 1, 1) := by decide +kernel
theorem dX3_isPacket_1 : decode cX3_isPacket 1 = .ok (.ifCond .lt 22, 3) := by decide +kernel
theorem dX3_isPacket_4 : decode cX3_isPacket 4 = .ok (.iload_n 1, 1) := by decide +kernel
theorem dX3_isPacket_5 : decode cX3_isPacket 5 = .ok (.aload_n 0, 1) := by decide +kernel
theorem dX3_isPacket_6 : decode cX3_isPacket 6 = .ok (.getfield 24, 3) := by decide +kernel
theorem dX3_isPacket_9 : decode cX3_isPacket 9 = .ok (.if_icmp .ge 14, 3) := by decide +kernel
theorem dX3_isPacket_12 : decode cX3_isPacket 12 = .ok (.iload_n 1, 1) := by decide +kernel
theorem dX3_isPacket_13 : decode cX3_isPacket 13 = .ok (.sipush 200, 3) := by decide +kernel
theorem dX3_isPacket_16 : decode cX3_isPacket 16 = .ok (.if_icmp .ge 7, 3) := by decide +kernel
theorem dX3_isPacket_19 : decode cX3_isPacket 19 = .ok (.iconst 1, 1) := by decide +kernel
theorem dX3_isPacket_20 : decode cX3_isPacket 20 = .ok (.goto 4, 3) := by decide +kernel
theorem dX3_isPacket_23 : decode cX3_isPacket 23 = .ok (.iconst 0, 1) := by decide +kernel
theorem dX3_isPacket_24 : decode cX3_isPacket 24 = .ok (.ireturn, 1) := by decide +kernel
theorem dX3_add_0 : decode cX3_add 0 = .ok (.aload_n 0, 1) := by decide +kernel
theorem dX3_add_1 : decode cX3_add 1 = .ok (.invokevirtual 28, 3) := by decide +kernel
theorem dX3_add_4 : decode cX3_add 4 = .ok (.ifCond .eq 5, 3) := by decide +kernel
theorem dX3_add_7 : decode cX3_add 7 = .ok (.iconst (-1), 1) := by decide +kernel
theorem dX3_add_8 : decode cX3_add 8 = .ok (.ireturn, 1) := by decide +kernel
theorem dX3_add_9 : decode cX3_add 9 = .ok (.aload_n 0, 1) := by decide +kernel
theorem dX3_add_10 : decode cX3_add 10 = .ok (.getfield 24, 3) := by decide +kernel
theorem dX3_add_13 : decode cX3_add 13 = .ok (.istore_n 3, 1) := by decide +kernel
theorem dX3_add_14 : decode cX3_add 14 = .ok (.aload_n 0, 1) := by decide +kernel
theorem dX3_add_15 : decode cX3_add 15 = .ok (.getfield 9, 3) := by decide +kernel
theorem dX3_add_18 : decode cX3_add 18 = .ok (.iload_n 3, 1) := by decide +kernel
theorem dX3_add_19 : decode cX3_add 19 = .ok (.iload_n 1, 1) := by decide +kernel
theorem dX3_add_20 : decode cX3_add 20 = .ok (.iastore, 1) := by decide +kernel
theorem dX3_add_21 : decode cX3_add 21 = .ok (.aload_n 0, 1) := by decide +kernel
theorem dX3_add_22 : decode cX3_add 22 = .ok (.getfield 15, 3) := by decide +kernel
theorem dX3_add_25 : decode cX3_add 25 = .ok (.iload_n 3, 1) := by decide +kernel
theorem dX3_add_26 : decode cX3_add 26 = .ok (.iload_n 2, 1) := by decide +kernel
theorem dX3_add_27 : decode cX3_add 27 = .ok (.iastore, 1) := by decide +kernel
theorem dX3_add_28 : decode cX3_add 28 = .ok (.aload_n 0, 1) := by decide +kernel
theorem dX3_add_29 : decode cX3_add 29 = .ok (.dup, 1) := by decide +kernel
theorem dX3_add_30 : decode cX3_add 30 = .ok (.getfield 24, 3) := by decide +kernel
theorem dX3_add_33 : decode cX3_add 33 = .ok (.iconst 1, 1) := by decide +kernel
theorem dX3_add_34 : decode cX3_add 34 = .ok (.iadd, 1) := by decide +kernel
theorem dX3_add_35 : decode cX3_add 35 = .ok (.putfield 24, 3) := by decide +kernel
theorem dX3_add_38 : decode cX3_add 38 = .ok (.iload_n 3, 1) := by decide +kernel
theorem dX3_add_39 : decode cX3_add 39 = .ok (.ireturn, 1) := by decide +kernel
theorem dX3_receive_0 : decode cX3_receive 0 = .ok (.aload_n 0, 1) := by decide +kernel
theorem dX3_receive_1 : decode cX3_receive 1 = .ok (.iload_n 1, 1) := by decide +kernel
theorem dX3_receive_2 : decode cX3_receive 2 = .ok (.invokevirtual 32, 3) := by decide +kernel
theorem dX3_receive_5 : decode cX3_receive 5 = .ok (.ifCond .eq 23, 3) := by decide +kernel
theorem dX3_receive_8 : decode cX3_receive 8 = .ok (.iload_n 2, 1) := by decide +kernel
theorem dX3_receive_9 : decode cX3_receive 9 = .ok (.invokestatic 36, 3) := by decide +kernel
theorem dX3_receive_12 : decode cX3_receive 12 = .ok (.ifCond .eq 16, 3) := by decide +kernel
theorem dX3_receive_15 : decode cX3_receive 15 = .ok (.aload_n 0, 1) := by decide +kernel
theorem dX3_receive_16 : decode cX3_receive 16 = .ok (.getfield 18, 3) := by decide +kernel
theorem dX3_receive_19 : decode cX3_receive 19 = .ok (.iload_n 1, 1) := by decide +kernel
theorem dX3_receive_20 : decode cX3_receive 20 = .ok (.dup2, 1) := by decide +kernel
theorem dX3_receive_21 : decode cX3_receive 21 = .ok (.iaload, 1) := by decide +kernel
theorem dX3_receive_22 : decode cX3_receive 22 = .ok (.iload_n 2, 1) := by decide +kernel
theorem dX3_receive_23 : decode cX3_receive 23 = .ok (.invokestatic 39, 3) := by decide +kernel
theorem dX3_receive_26 : decode cX3_receive 26 = .ok (.ior, 1) := by decide +kernel
theorem dX3_receive_27 : decode cX3_receive 27 = .ok (.iastore, 1) := by decide +kernel
theorem dX3_receive_28 : decode cX3_receive 28 = .ok (.return_, 1) := by decide +kernel
theorem dX3_addDouble_0 : decode cX3_addDouble 0 = .ok (.aload_n 0, 1) := by decide +kernel
theorem dX3_addDouble_1 : decode cX3_addDouble 1 = .ok (.iload_n 1, 1) := by decide +kernel
theorem dX3_addDouble_2 : decode cX3_addDouble 2 = .ok (.invokevirtual 32, 3) := by decide +kernel
theorem dX3_addDouble_5 : decode cX3_addDouble 5 = .ok (.ifCond .eq 13, 3) := by decide +kernel
theorem dX3_addDouble_8 : decode cX3_addDouble 8 = .ok (.aload_n 0, 1) := by decide +kernel
theorem dX3_addDouble_9 : decode cX3_addDouble 9 = .ok (.getfield 21, 3) := by decide +kernel
theorem dX3_addDouble_12 : decode cX3_addDouble 12 = .ok (.iload_n 1, 1) := by decide +kernel
theorem dX3_addDouble_13 : decode cX3_addDouble 13 = .ok (.dup2, 1) := by decide +kernel
theorem dX3_addDouble_14 : decode cX3_addDouble 14 = .ok (.iaload, 1) := by decide +kernel
theorem dX3_addDouble_15 : decode cX3_addDouble 15 = .ok (.iconst 1, 1) := by decide +kernel
theorem dX3_addDouble_16 : decode cX3_addDouble 16 = .ok (.iadd, 1) := by decide +kernel
theorem dX3_addDouble_17 : decode cX3_addDouble 17 = .ok (.iastore, 1) := by decide +kernel
theorem dX3_addDouble_18 : decode cX3_addDouble 18 = .ok (.return_, 1) := by decide +kernel
theorem dX3_sourceOf_0 : decode cX3_sourceOf 0 = .ok (.aload_n 0, 1) := by decide +kernel
theorem dX3_sourceOf_1 : decode cX3_sourceOf 1 = .ok (.iload_n 1, 1) := by decide +kernel
theorem dX3_sourceOf_2 : decode cX3_sourceOf 2 = .ok (.invokevirtual 32, 3) := by decide +kernel
theorem dX3_sourceOf_5 : decode cX3_sourceOf 5 = .ok (.ifCond .eq 12, 3) := by decide +kernel
theorem dX3_sourceOf_8 : decode cX3_sourceOf 8 = .ok (.aload_n 0, 1) := by decide +kernel
theorem dX3_sourceOf_9 : decode cX3_sourceOf 9 = .ok (.getfield 9, 3) := by decide +kernel
theorem dX3_sourceOf_12 : decode cX3_sourceOf 12 = .ok (.iload_n 1, 1) := by decide +kernel
theorem dX3_sourceOf_13 : decode cX3_sourceOf 13 = .ok (.iaload, 1) := by decide +kernel
theorem dX3_sourceOf_14 : decode cX3_sourceOf 14 = .ok (.goto 4, 3) := by decide +kernel
theorem dX3_sourceOf_17 : decode cX3_sourceOf 17 = .ok (.iconst (-1), 1) := by decide +kernel
theorem dX3_sourceOf_18 : decode cX3_sourceOf 18 = .ok (.ireturn, 1) := by decide +kernel
theorem dX3_groupOf_0 : decode cX3_groupOf 0 = .ok (.aload_n 0, 1) := by decide +kernel
theorem dX3_groupOf_1 : decode cX3_groupOf 1 = .ok (.iload_n 1, 1) := by decide +kernel
theorem dX3_groupOf_2 : decode cX3_groupOf 2 = .ok (.invokevirtual 32, 3) := by decide +kernel
theorem dX3_groupOf_5 : decode cX3_groupOf 5 = .ok (.ifCond .eq 12, 3) := by decide +kernel
theorem dX3_groupOf_8 : decode cX3_groupOf 8 = .ok (.aload_n 0, 1) := by decide +kernel
theorem dX3_groupOf_9 : decode cX3_groupOf 9 = .ok (.getfield 15, 3) := by decide +kernel
theorem dX3_groupOf_12 : decode cX3_groupOf 12 = .ok (.iload_n 1, 1) := by decide +kernel
theorem dX3_groupOf_13 : decode cX3_groupOf 13 = .ok (.iaload, 1) := by decide +kernel
theorem dX3_groupOf_14 : decode cX3_groupOf 14 = .ok (.goto 4, 3) := by decide +kernel
theorem dX3_groupOf_17 : decode cX3_groupOf 17 = .ok (.iconst (-1), 1) := by decide +kernel
theorem dX3_groupOf_18 : decode cX3_groupOf 18 = .ok (.ireturn, 1) := by decide +kernel
theorem dX3_receiversOf_0 : decode cX3_receiversOf 0 = .ok (.aload_n 0, 1) := by decide +kernel
theorem dX3_receiversOf_1 : decode cX3_receiversOf 1 = .ok (.iload_n 1, 1) := by decide +kernel
theorem dX3_receiversOf_2 : decode cX3_receiversOf 2 = .ok (.invokevirtual 32, 3) := by decide +kernel
theorem dX3_receiversOf_5 : decode cX3_receiversOf 5 = .ok (.ifCond .eq 12, 3) := by decide +kernel
theorem dX3_receiversOf_8 : decode cX3_receiversOf 8 = .ok (.aload_n 0, 1) := by decide +kernel
theorem dX3_receiversOf_9 : decode cX3_receiversOf 9 = .ok (.getfield 18, 3) := by decide +kernel
theorem dX3_receiversOf_12 : decode cX3_receiversOf 12 = .ok (.iload_n 1, 1) := by decide +kernel
theorem dX3_receiversOf_13 : decode cX3_receiversOf 13 = .ok (.iaload, 1) := by decide +kernel
theorem dX3_receiversOf_14 : decode cX3_receiversOf 14 = .ok (.goto 4, 3) := by decide +kernel
theorem dX3_receiversOf_17 : decode cX3_receiversOf 17 = .ok (.iconst 0, 1) := by decide +kernel
theorem dX3_receiversOf_18 : decode cX3_receiversOf 18 = .ok (.ireturn, 1) := by decide +kernel
theorem dX3_doublesOf_0 : decode cX3_doublesOf 0 = .ok (.aload_n 0, 1) := by decide +kernel
theorem dX3_doublesOf_1 : decode cX3_doublesOf 1 = .ok (.iload_n 1, 1) := by decide +kernel
theorem dX3_doublesOf_2 : decode cX3_doublesOf 2 = .ok (.invokevirtual 32, 3) := by decide +kernel
theorem dX3_doublesOf_5 : decode cX3_doublesOf 5 = .ok (.ifCond .eq 12, 3) := by decide +kernel
theorem dX3_doublesOf_8 : decode cX3_doublesOf 8 = .ok (.aload_n 0, 1) := by decide +kernel
theorem dX3_doublesOf_9 : decode cX3_doublesOf 9 = .ok (.getfield 21, 3) := by decide +kernel
theorem dX3_doublesOf_12 : decode cX3_doublesOf 12 = .ok (.iload_n 1, 1) := by decide +kernel
theorem dX3_doublesOf_13 : decode cX3_doublesOf 13 = .ok (.iaload, 1) := by decide +kernel
theorem dX3_doublesOf_14 : decode cX3_doublesOf 14 = .ok (.goto 4, 3) := by decide +kernel
theorem dX3_doublesOf_17 : decode cX3_doublesOf 17 = .ok (.iconst 0, 1) := by decide +kernel
theorem dX3_doublesOf_18 : decode cX3_doublesOf 18 = .ok (.ireturn, 1) := by decide +kernel
end
section
theorem dX4_init_0 : decode cX4_init 0 = .ok (.aload_n 0, 1) := by decide +kernel
theorem dX4_init_1 : decode cX4_init 1 = .ok (.invokespecial 3, 3) := by decide +kernel
theorem dX4_init_4 : decode cX4_init 4 = .ok (.aload_n 0, 1) := by decide +kernel
theorem dX4_init_5 : decode cX4_init 5 = .ok (.bipush 100, 2) := by decide +kernel
theorem dX4_init_7 : decode cX4_init 7 = .ok (.newarray .int, 2) := by decide +kernel
theorem dX4_init_9 : decode cX4_init 9 = .ok (.putfield 9, 3) := by decide +kernel
theorem dX4_init_12 : decode cX4_init 12 = .ok (.aload_n 0, 1) := by decide +kernel
theorem dX4_init_13 : decode cX4_init 13 = .ok (.bipush 100, 2) := by decide +kernel
theorem dX4_init_15 : decode cX4_init 15 = .ok (.newarray .int, 2) := by decide +kernel
theorem dX4_init_17 : decode cX4_init 17 = .ok (.putfield 15, 3) := by decide +kernel
theorem dX4_init_20 : decode cX4_init 20 = .ok (.aload_n 0, 1) := by decide +kernel
theorem dX4_init_21 : decode cX4_init 21 = .ok (.bipush 100, 2) := by decide +kernel
theorem dX4_init_23 : decode cX4_init 23 = .ok (.newarray .int, 2) := by decide +kernel
theorem dX4_init_25 : decode cX4_init 25 = .ok (.putfield 18, 3) := by decide +kernel
theorem dX4_init_28 : decode cX4_init 28 = .ok (.aload_n 0, 1) := by decide +kernel
theorem dX4_init_29 : decode cX4_init 29 = .ok (.invokevirtual 21, 3) := by decide +kernel
theorem dX4_init_32 : decode cX4_init 32 = .ok (.aload_n 0, 1) := by decide +kernel
theorem dX4_init_33 : decode cX4_init 33 = .ok (.invokevirtual 24, 3) := by decide +kernel
theorem dX4_init_36 : decode cX4_init 36 = .ok (.return_, 1) := by decide +kernel
theorem dX4_change_0 : decode cX4_change 0 = .ok (.iload_n 1, 1) := by decide +kernel
theorem dX4_change_1 : decode cX4_change 1 = .ok (.iload_n 2, 1) := by decide +kernel
theorem dX4_change_2 : decode cX4_change 2 = .ok (.invokestatic 27, 3) := by decide +kernel
theorem dX4_change_5 : decode cX4_change 5 = .ok (.ifCond .eq 35, 3) := by decide +kernel
theorem dX4_change_8 : decode cX4_change 8 = .ok (.aload_n 0, 1) := by decide +kernel
theorem dX4_change_9 : decode cX4_change 9 = .ok (.getfield 9, 3) := by decide +kernel
theorem dX4_change_12 : decode cX4_change 12 = .ok (.iload_n 1, 1) := by decide +kernel
theorem dX4_change_13 : decode cX4_change 13 = .ok (.bipush 10, 2) := by decide +kernel
theorem dX4_change_15 : decode cX4_change 15 = .ok (.imul, 1) := by decide +kernel
theorem dX4_change_16 : decode cX4_change 16 = .ok (.iload_n 2, 1) := by decide +kernel
theorem dX4_change_17 : decode cX4_change 17 = .ok (.iadd, 1) := by decide +kernel
theorem dX4_change_18 : decode cX4_change 18 = .ok (.iload_n 3, 1) := by decide +kernel
theorem dX4_change_19 : decode cX4_change 19 = .ok (.iastore, 1) := by decide +kernel
theorem dX4_change_20 : decode cX4_change 20 = .ok (.aload_n 0, 1) := by decide +kernel
theorem dX4_change_21 : decode cX4_change 21 = .ok (.getfield 9, 3) := by decide +kernel
theorem dX4_change_24 : decode cX4_change 24 = .ok (.iload_n 2, 1) := by decide +kernel
theorem dX4_change_25 : decode cX4_change 25 = .ok (.bipush 10, 2) := by decide +kernel
theorem dX4_change_27 : decode cX4_change 27 = .ok (.imul, 1) := by decide +kernel
theorem dX4_change_28 : decode cX4_change 28 = .ok (.iload_n 1, 1) := by decide +kernel
theorem dX4_change_29 : decode cX4_change 29 = .ok (.iadd, 1) := by decide +kernel
theorem dX4_change_30 : decode cX4_change 30 = .ok (.iload_n 3, 1) := by decide +kernel
theorem dX4_change_31 : decode cX4_change 31 = .ok (.iastore, 1) := by decide +kernel
theorem dX4_change_32 : decode cX4_change 32 = .ok (.aload_n 0, 1) := by decide +kernel
theorem dX4_change_33 : decode cX4_change 33 = .ok (.invokevirtual 21, 3) := by decide +kernel
theorem dX4_change_36 : decode cX4_change 36 = .ok (.aload_n 0, 1) := by decide +kernel
theorem dX4_change_37 : decode cX4_change 37 = .ok (.invokevirtual 24, 3) := by decide +kernel
theorem dX4_change_40 : decode cX4_change 40 = .ok (.return_, 1) := by decide +kernel
theorem dX4_costOf_0 : decode cX4_costOf 0 = .ok (.iload_n 1, 1) := by decide +kernel
theorem dX4_costOf_1 : decode cX4_costOf 1 = .ok (.iload_n 2, 1) := by decide +kernel
theorem dX4_costOf_2 : decode cX4_costOf 2 = .ok (.invokestatic 27, 3) := by decide +kernel
theorem dX4_costOf_5 : decode cX4_costOf 5 = .ok (.ifCond .eq 17, 3) := by decide +kernel
theorem dX4_costOf_8 : decode cX4_costOf 8 = .ok (.aload_n 0, 1) := by decide +kernel
theorem dX4_costOf_9 : decode cX4_costOf 9 = .ok (.getfield 9, 3) := by decide +kernel
theorem dX4_costOf_12 : decode cX4_costOf 12 = .ok (.iload_n 1, 1) := by decide +kernel
theorem dX4_costOf_13 : decode cX4_costOf 13 = .ok (.bipush 10, 2) := by decide +kernel
theorem dX4_costOf_15 : decode cX4_costOf 15 = .ok (.imul, 1) := by decide +kernel
theorem dX4_costOf_16 : decode cX4_costOf 16 = .ok (.iload_n 2, 1) := by decide +kernel
theorem dX4_costOf_17 : decode cX4_costOf 17 = .ok (.iadd, 1) := by decide +kernel
theorem dX4_costOf_18 : decode cX4_costOf 18 = .ok (.iaload, 1) := by decide +kernel
theorem dX4_costOf_19 : decode cX4_costOf 19 = .ok (.goto 4, 3) := by decide +kernel
theorem dX4_costOf_22 : decode cX4_costOf 22 = .ok (.iconst 0, 1) := by decide +kernel
theorem dX4_costOf_23 : decode cX4_costOf 23 = .ok (.ireturn, 1) := by decide +kernel
theorem dX4_distanceOf_0 : decode cX4_distanceOf 0 = .ok (.iload_n 1, 1) := by decide +kernel
theorem dX4_distanceOf_1 : decode cX4_distanceOf 1 = .ok (.iload_n 2, 1) := by decide +kernel
theorem dX4_distanceOf_2 : decode cX4_distanceOf 2 = .ok (.invokestatic 27, 3) := by decide +kernel
theorem dX4_distanceOf_5 : decode cX4_distanceOf 5 = .ok (.ifCond .ne 5, 3) := by decide +kernel
theorem dX4_distanceOf_8 : decode cX4_distanceOf 8 = .ok (.iconst (-1), 1) := by decide +kernel
theorem dX4_distanceOf_9 : decode cX4_distanceOf 9 = .ok (.ireturn, 1) := by decide +kernel
theorem dX4_distanceOf_10 : decode cX4_distanceOf 10 = .ok (.aload_n 0, 1) := by decide +kernel
theorem dX4_distanceOf_11 : decode cX4_distanceOf 11 = .ok (.getfield 15, 3) := by decide +kernel
theorem dX4_distanceOf_14 : decode cX4_distanceOf 14 = .ok (.iload_n 1, 1) := by decide +kernel
theorem dX4_distanceOf_15 : decode cX4_distanceOf 15 = .ok (.bipush 10, 2) := by decide +kernel
theorem dX4_distanceOf_17 : decode cX4_distanceOf 17 = .ok (.imul, 1) := by decide +kernel
theorem dX4_distanceOf_18 : decode cX4_distanceOf 18 = .ok (.iload_n 2, 1) := by decide +kernel
theorem dX4_distanceOf_19 : decode cX4_distanceOf 19 = .ok (.iadd, 1) := by decide +kernel
theorem dX4_distanceOf_20 : decode cX4_distanceOf 20 = .ok (.iaload, 1) := by decide +kernel
theorem dX4_distanceOf_21 : decode cX4_distanceOf 21 = .ok (.istore_n 3, 1) := by decide +kernel
theorem dX4_distanceOf_22 : decode cX4_distanceOf 22 = .ok (.iload_n 3, 1) := by decide +kernel
theorem dX4_distanceOf_23 : decode cX4_distanceOf 23 = .ok (.ldc 31, 2) := by decide +kernel
theorem dX4_distanceOf_25 : decode cX4_distanceOf 25 = .ok (.if_icmp .ge 7, 3) := by decide +kernel
theorem dX4_distanceOf_28 : decode cX4_distanceOf 28 = .ok (.iload_n 3, 1) := by decide +kernel
theorem dX4_distanceOf_29 : decode cX4_distanceOf 29 = .ok (.goto 4, 3) := by decide +kernel
theorem dX4_distanceOf_32 : decode cX4_distanceOf 32 = .ok (.iconst (-1), 1) := by decide +kernel
theorem dX4_distanceOf_33 : decode cX4_distanceOf 33 = .ok (.ireturn, 1) := by decide +kernel
theorem dX4_hopOf_0 : decode cX4_hopOf 0 = .ok (.iload_n 1, 1) := by decide +kernel
theorem dX4_hopOf_1 : decode cX4_hopOf 1 = .ok (.iload_n 2, 1) := by decide +kernel
theorem dX4_hopOf_2 : decode cX4_hopOf 2 = .ok (.invokestatic 27, 3) := by decide +kernel
theorem dX4_hopOf_5 : decode cX4_hopOf 5 = .ok (.ifCond .eq 17, 3) := by decide +kernel
theorem dX4_hopOf_8 : decode cX4_hopOf 8 = .ok (.aload_n 0, 1) := by decide +kernel
theorem dX4_hopOf_9 : decode cX4_hopOf 9 = .ok (.getfield 18, 3) := by decide +kernel
theorem dX4_hopOf_12 : decode cX4_hopOf 12 = .ok (.iload_n 1, 1) := by decide +kernel
theorem dX4_hopOf_13 : decode cX4_hopOf 13 = .ok (.bipush 10, 2) := by decide +kernel
theorem dX4_hopOf_15 : decode cX4_hopOf 15 = .ok (.imul, 1) := by decide +kernel
theorem dX4_hopOf_16 : decode cX4_hopOf 16 = .ok (.iload_n 2, 1) := by decide +kernel
theorem dX4_hopOf_17 : decode cX4_hopOf 17 = .ok (.iadd, 1) := by decide +kernel
theorem dX4_hopOf_18 : decode cX4_hopOf 18 = .ok (.iaload, 1) := by decide +kernel
theorem dX4_hopOf_19 : decode cX4_hopOf 19 = .ok (.goto 4, 3) := by decide +kernel
theorem dX4_hopOf_22 : decode cX4_hopOf 22 = .ok (.iconst (-1), 1) := by decide +kernel
theorem dX4_hopOf_23 : decode cX4_hopOf 23 = .ok (.ireturn, 1) := by decide +kernel
theorem dX4_linksOf_0 : decode cX4_linksOf 0 = .ok (.iconst 0, 1) := by decide +kernel
theorem dX4_linksOf_1 : decode cX4_linksOf 1 = .ok (.istore_n 2, 1) := by decide +kernel
theorem dX4_linksOf_2 : decode cX4_linksOf 2 = .ok (.iconst 0, 1) := by decide +kernel
theorem dX4_linksOf_3 : decode cX4_linksOf 3 = .ok (.istore_n 3, 1) := by decide +kernel
theorem dX4_linksOf_4 : decode cX4_linksOf 4 = .ok (.iload_n 3, 1) := by decide +kernel
theorem dX4_linksOf_5 : decode cX4_linksOf 5 = .ok (.bipush 10, 2) := by decide +kernel
theorem dX4_linksOf_7 : decode cX4_linksOf 7 = .ok (.if_icmp .ge 21, 3) := by decide +kernel
theorem dX4_linksOf_10 : decode cX4_linksOf 10 = .ok (.aload_n 0, 1) := by decide +kernel
theorem dX4_linksOf_11 : decode cX4_linksOf 11 = .ok (.iload_n 1, 1) := by decide +kernel
theorem dX4_linksOf_12 : decode cX4_linksOf 12 = .ok (.iload_n 3, 1) := by decide +kernel
theorem dX4_linksOf_13 : decode cX4_linksOf 13 = .ok (.invokevirtual 32, 3) := by decide +kernel
theorem dX4_linksOf_16 : decode cX4_linksOf 16 = .ok (.ifCond .eq 6, 3) := by decide +kernel
theorem dX4_linksOf_19 : decode cX4_linksOf 19 = .ok (.iinc 2 1, 3) := by decide +kernel
theorem dX4_linksOf_22 : decode cX4_linksOf 22 = .ok (.iinc 3 1, 3) := by decide +kernel
theorem dX4_linksOf_25 : decode cX4_linksOf 25 = .ok (.goto (-21), 3) := by decide +kernel
theorem dX4_linksOf_28 : decode cX4_linksOf 28 = .ok (.iload_n 2, 1) := by decide +kernel
theorem dX4_linksOf_29 : decode cX4_linksOf 29 = .ok (.ireturn, 1) := by decide +kernel
theorem dX4_arePair_0 : decode cX4_arePair 0 = .ok (.iload_n 0, 1) := by decide +kernel
theorem dX4_arePair_1 : decode cX4_arePair 1 = .ok (.ifCond .lt 23, 3) := by decide +kernel
theorem dX4_arePair_4 : decode cX4_arePair 4 = .ok (.iload_n 0, 1) := by decide +kernel
theorem dX4_arePair_5 : decode cX4_arePair 5 = .ok (.bipush 10, 2) := by decide +kernel
theorem dX4_arePair_7 : decode cX4_arePair 7 = .ok (.if_icmp .ge 17, 3) := by decide +kernel
theorem dX4_arePair_10 : decode cX4_arePair 10 = .ok (.iload_n 1, 1) := by decide +kernel
theorem dX4_arePair_11 : decode cX4_arePair 11 = .ok (.ifCond .lt 13, 3) := by decide +kernel
theorem dX4_arePair_14 : decode cX4_arePair 14 = .ok (.iload_n 1, 1) := by decide +kernel
theorem dX4_arePair_15 : decode cX4_arePair 15 = .ok (.bipush 10, 2) := by decide +kernel
theorem dX4_arePair_17 : decode cX4_arePair 17 = .ok (.if_icmp .ge 7, 3) := by decide +kernel
theorem dX4_arePair_20 : decode cX4_arePair 20 = .ok (.iconst 1, 1) := by decide +kernel
theorem dX4_arePair_21 : decode cX4_arePair 21 = .ok (.goto 4, 3) := by decide +kernel
theorem dX4_arePair_24 : decode cX4_arePair 24 = .ok (.iconst 0, 1) := by decide +kernel
theorem dX4_arePair_25 : decode cX4_arePair 25 = .ok (.ireturn, 1) := by decide +kernel
theorem dX4_findLeast_0 : decode cX4_findLeast 0 = .ok (.iconst 0, 1) := by decide +kernel
theorem dX4_findLeast_1 : decode cX4_findLeast 1 = .ok (.istore_n 1, 1) := by decide +kernel
theorem dX4_findLeast_2 : decode cX4_findLeast 2 = .ok (.iload_n 1, 1) := by decide +kernel
theorem dX4_findLeast_3 : decode cX4_findLeast 3 = .ok (.bipush 10, 2) := by decide +kernel
theorem dX4_findLeast_5 : decode cX4_findLeast 5 = .ok (.if_icmp .ge 65, 3) := by decide +kernel
theorem dX4_findLeast_8 : decode cX4_findLeast 8 = .ok (.iconst 0, 1) := by decide +kernel
theorem dX4_findLeast_9 : decode cX4_findLeast 9 = .ok (.istore_n 2, 1) := by decide +kernel
theorem dX4_findLeast_10 : decode cX4_findLeast 10 = .ok (.iload_n 2, 1) := by decide +kernel
theorem dX4_findLeast_11 : decode cX4_findLeast 11 = .ok (.bipush 10, 2) := by decide +kernel
theorem dX4_findLeast_13 : decode cX4_findLeast 13 = .ok (.if_icmp .ge 51, 3) := by decide +kernel
theorem dX4_findLeast_16 : decode cX4_findLeast 16 = .ok (.aload_n 0, 1) := by decide +kernel
theorem dX4_findLeast_17 : decode cX4_findLeast 17 = .ok (.getfield 9, 3) := by decide +kernel
theorem dX4_findLeast_20 : decode cX4_findLeast 20 = .ok (.iload_n 1, 1) := by decide +kernel
theorem dX4_findLeast_21 : decode cX4_findLeast 21 = .ok (.bipush 10, 2) := by decide +kernel
theorem dX4_findLeast_23 : decode cX4_findLeast 23 = .ok (.imul, 1) := by decide +kernel
theorem dX4_findLeast_24 : decode cX4_findLeast 24 = .ok (.iload_n 2, 1) := by decide +kernel
theorem dX4_findLeast_25 : decode cX4_findLeast 25 = .ok (.iadd, 1) := by decide +kernel
theorem dX4_findLeast_26 : decode cX4_findLeast 26 = .ok (.iaload, 1) := by decide +kernel
theorem dX4_findLeast_27 : decode cX4_findLeast 27 = .ok (.istore_n 3, 1) := by decide +kernel
theorem dX4_findLeast_28 : decode cX4_findLeast 28 = .ok (.aload_n 0, 1) := by decide +kernel
theorem dX4_findLeast_29 : decode cX4_findLeast 29 = .ok (.getfield 15, 3) := by decide +kernel
theorem dX4_findLeast_32 : decode cX4_findLeast 32 = .ok (.iload_n 1, 1) := by decide +kernel
theorem dX4_findLeast_33 : decode cX4_findLeast 33 = .ok (.bipush 10, 2) := by decide +kernel
theorem dX4_findLeast_35 : decode cX4_findLeast 35 = .ok (.imul, 1) := by decide +kernel
theorem dX4_findLeast_36 : decode cX4_findLeast 36 = .ok (.iload_n 2, 1) := by decide +kernel
theorem dX4_findLeast_37 : decode cX4_findLeast 37 = .ok (.iadd, 1) := by decide +kernel
theorem dX4_findLeast_38 : decode cX4_findLeast 38 = .ok (.iload_n 1, 1) := by decide +kernel
theorem dX4_findLeast_39 : decode cX4_findLeast 39 = .ok (.iload_n 2, 1) := by decide +kernel
theorem dX4_findLeast_40 : decode cX4_findLeast 40 = .ok (.if_icmp .ne 7, 3) := by decide +kernel
theorem dX4_findLeast_43 : decode cX4_findLeast 43 = .ok (.iconst 0, 1) := by decide +kernel
theorem dX4_findLeast_44 : decode cX4_findLeast 44 = .ok (.goto 13, 3) := by decide +kernel
theorem dX4_findLeast_47 : decode cX4_findLeast 47 = .ok (.iload_n 3, 1) := by decide +kernel
theorem dX4_findLeast_48 : decode cX4_findLeast 48 = .ok (.ifCond .ne 8, 3) := by decide +kernel
theorem dX4_findLeast_51 : decode cX4_findLeast 51 = .ok (.ldc 31, 2) := by decide +kernel
theorem dX4_findLeast_53 : decode cX4_findLeast 53 = .ok (.goto 4, 3) := by decide +kernel
theorem dX4_findLeast_56 : decode cX4_findLeast 56 = .ok (.iload_n 3, 1) := by decide +kernel
theorem dX4_findLeast_57 : decode cX4_findLeast 57 = .ok (.iastore, 1) := by decide +kernel
theorem dX4_findLeast_58 : decode cX4_findLeast 58 = .ok (.iinc 2 1, 3) := by decide +kernel
theorem dX4_findLeast_61 : decode cX4_findLeast 61 = .ok (.goto (-51), 3) := by decide +kernel
theorem dX4_findLeast_64 : decode cX4_findLeast 64 = .ok (.iinc 1 1, 3) := by decide +kernel
theorem dX4_findLeast_67 : decode cX4_findLeast 67 = .ok (.goto (-65), 3) := by decide +kernel
theorem dX4_findLeast_70 : decode cX4_findLeast 70 = .ok (.iconst 0, 1) := by decide +kernel
theorem dX4_findLeast_71 : decode cX4_findLeast 71 = .ok (.istore_n 1, 1) := by decide +kernel
theorem dX4_findLeast_72 : decode cX4_findLeast 72 = .ok (.iload_n 1, 1) := by decide +kernel
theorem dX4_findLeast_73 : decode cX4_findLeast 73 = .ok (.bipush 10, 2) := by decide +kernel
theorem dX4_findLeast_75 : decode cX4_findLeast 75 = .ok (.if_icmp .ge 14, 3) := by decide +kernel
theorem dX4_findLeast_78 : decode cX4_findLeast 78 = .ok (.aload_n 0, 1) := by decide +kernel
theorem dX4_findLeast_79 : decode cX4_findLeast 79 = .ok (.iload_n 1, 1) := by decide +kernel
theorem dX4_findLeast_80 : decode cX4_findLeast 80 = .ok (.invokevirtual 36, 3) := by decide +kernel
theorem dX4_findLeast_83 : decode cX4_findLeast 83 = .ok (.iinc 1 1, 3) := by decide +kernel
theorem dX4_findLeast_86 : decode cX4_findLeast 86 = .ok (.goto (-14), 3) := by decide +kernel
theorem dX4_findLeast_89 : decode cX4_findLeast 89 = .ok (.return_, 1) := by decide +kernel
theorem dX4_shortenThrough_0 : decode cX4_shortenThrough 0 = .ok (.iconst 0, 1) := by decide +kernel
theorem dX4_shortenThrough_1 : decode cX4_shortenThrough 1 = .ok (.istore_n 2, 1) := by decide +kernel
theorem dX4_shortenThrough_2 : decode cX4_shortenThrough 2 = .ok (.iload_n 2, 1) := by decide +kernel
theorem dX4_shortenThrough_3 : decode cX4_shortenThrough 3 = .ok (.bipush 10, 2) := by decide +kernel
theorem dX4_shortenThrough_5 : decode cX4_shortenThrough 5 = .ok (.if_icmp .ge 77, 3) := by decide +kernel
theorem dX4_shortenThrough_8 : decode cX4_shortenThrough 8 = .ok (.iconst 0, 1) := by decide +kernel
theorem dX4_shortenThrough_9 : decode cX4_shortenThrough 9 = .ok (.istore_n 3, 1) := by decide +kernel
theorem dX4_shortenThrough_10 : decode cX4_shortenThrough 10 = .ok (.iload_n 3, 1) := by decide +kernel
theorem dX4_shortenThrough_11 : decode cX4_shortenThrough 11 = .ok (.bipush 10, 2) := by decide +kernel
theorem dX4_shortenThrough_13 : decode cX4_shortenThrough 13 = .ok (.if_icmp .ge 63, 3) := by decide +kernel
theorem dX4_shortenThrough_16 : decode cX4_shortenThrough 16 = .ok (.aload_n 0, 1) := by decide +kernel
theorem dX4_shortenThrough_17 : decode cX4_shortenThrough 17 = .ok (.getfield 15, 3) := by decide +kernel
theorem dX4_shortenThrough_20 : decode cX4_shortenThrough 20 = .ok (.iload_n 2, 1) := by decide +kernel
theorem dX4_shortenThrough_21 : decode cX4_shortenThrough 21 = .ok (.bipush 10, 2) := by decide +kernel
theorem dX4_shortenThrough_23 : decode cX4_shortenThrough 23 = .ok (.imul, 1) := by decide +kernel
theorem dX4_shortenThrough_24 : decode cX4_shortenThrough 24 = .ok (.iload_n 1, 1) := by decide +kernel
theorem dX4_shortenThrough_25 : decode cX4_shortenThrough 25 = .ok (.iadd, 1) := by decide +kernel
theorem dX4_shortenThrough_26 : decode cX4_shortenThrough 26 = .ok (.iaload, 1) := by decide +kernel
theorem dX4_shortenThrough_27 : decode cX4_shortenThrough 27 = .ok (.aload_n 0, 1) := by decide +kernel
theorem dX4_shortenThrough_28 : decode cX4_shortenThrough 28 = .ok (.getfield 15, 3) := by decide +kernel
theorem dX4_shortenThrough_31 : decode cX4_shortenThrough 31 = .ok (.iload_n 1, 1) := by decide +kernel
theorem dX4_shortenThrough_32 : decode cX4_shortenThrough 32 = .ok (.bipush 10, 2) := by decide +kernel
theorem dX4_shortenThrough_34 : decode cX4_shortenThrough 34 = .ok (.imul, 1) := by decide +kernel
theorem dX4_shortenThrough_35 : decode cX4_shortenThrough 35 = .ok (.iload_n 3, 1) := by decide +kernel
theorem dX4_shortenThrough_36 : decode cX4_shortenThrough 36 = .ok (.iadd, 1) := by decide +kernel
theorem dX4_shortenThrough_37 : decode cX4_shortenThrough 37 = .ok (.iaload, 1) := by decide +kernel
theorem dX4_shortenThrough_38 : decode cX4_shortenThrough 38 = .ok (.iadd, 1) := by decide +kernel
theorem dX4_shortenThrough_39 : decode cX4_shortenThrough 39 = .ok (.istore 4, 2) := by decide +kernel
theorem dX4_shortenThrough_41 : decode cX4_shortenThrough 41 = .ok (.iload 4, 2) := by decide +kernel
theorem dX4_shortenThrough_43 : decode cX4_shortenThrough 43 = .ok (.aload_n 0, 1) := by decide +kernel
theorem dX4_shortenThrough_44 : decode cX4_shortenThrough 44 = .ok (.getfield 15, 3) := by decide +kernel
theorem dX4_shortenThrough_47 : decode cX4_shortenThrough 47 = .ok (.iload_n 2, 1) := by decide +kernel
theorem dX4_shortenThrough_48 : decode cX4_shortenThrough 48 = .ok (.bipush 10, 2) := by decide +kernel
theorem dX4_shortenThrough_50 : decode cX4_shortenThrough 50 = .ok (.imul, 1) := by decide +kernel
theorem dX4_shortenThrough_51 : decode cX4_shortenThrough 51 = .ok (.iload_n 3, 1) := by decide +kernel
theorem dX4_shortenThrough_52 : decode cX4_shortenThrough 52 = .ok (.iadd, 1) := by decide +kernel
theorem dX4_shortenThrough_53 : decode cX4_shortenThrough 53 = .ok (.iaload, 1) := by decide +kernel
theorem dX4_shortenThrough_54 : decode cX4_shortenThrough 54 = .ok (.if_icmp .ge 16, 3) := by decide +kernel
theorem dX4_shortenThrough_57 : decode cX4_shortenThrough 57 = .ok (.aload_n 0, 1) := by decide +kernel
theorem dX4_shortenThrough_58 : decode cX4_shortenThrough 58 = .ok (.getfield 15, 3) := by decide +kernel
theorem dX4_shortenThrough_61 : decode cX4_shortenThrough 61 = .ok (.iload_n 2, 1) := by decide +kernel
theorem dX4_shortenThrough_62 : decode cX4_shortenThrough 62 = .ok (.bipush 10, 2) := by decide +kernel
theorem dX4_shortenThrough_64 : decode cX4_shortenThrough 64 = .ok (.imul, 1) := by decide +kernel
theorem dX4_shortenThrough_65 : decode cX4_shortenThrough 65 = .ok (.iload_n 3, 1) := by decide +kernel
theorem dX4_shortenThrough_66 : decode cX4_shortenThrough 66 = .ok (.iadd, 1) := by decide +kernel
theorem dX4_shortenThrough_67 : decode cX4_shortenThrough 67 = .ok (.iload 4, 2) := by decide +kernel
theorem dX4_shortenThrough_69 : decode cX4_shortenThrough 69 = .ok (.iastore, 1) := by decide +kernel
theorem dX4_shortenThrough_70 : decode cX4_shortenThrough 70 = .ok (.iinc 3 1, 3) := by decide +kernel
theorem dX4_shortenThrough_73 : decode cX4_shortenThrough 73 = .ok (.goto (-63), 3) := by decide +kernel
theorem dX4_shortenThrough_76 : decode cX4_shortenThrough 76 = .ok (.iinc 2 1, 3) := by decide +kernel
theorem dX4_shortenThrough_79 : decode cX4_shortenThrough 79 = .ok (.goto (-77), 3) := by decide +kernel
theorem dX4_shortenThrough_82 : decode cX4_shortenThrough 82 = .ok (.return_, 1) := by decide +kernel
theorem dX4_findHops_0 : decode cX4_findHops 0 = .ok (.iconst 0, 1) := by decide +kernel
theorem dX4_findHops_1 : decode cX4_findHops 1 = .ok (.istore_n 1, 1) := by decide +kernel
theorem dX4_findHops_2 : decode cX4_findHops 2 = .ok (.iload_n 1, 1) := by decide +kernel
theorem dX4_findHops_3 : decode cX4_findHops 3 = .ok (.bipush 10, 2) := by decide +kernel
theorem dX4_findHops_5 : decode cX4_findHops 5 = .ok (.if_icmp .ge 40, 3) := by decide +kernel
theorem dX4_findHops_8 : decode cX4_findHops 8 = .ok (.iconst 0, 1) := by decide +kernel
theorem dX4_findHops_9 : decode cX4_findHops 9 = .ok (.istore_n 2, 1) := by decide +kernel
theorem dX4_findHops_10 : decode cX4_findHops 10 = .ok (.iload_n 2, 1) := by decide +kernel
theorem dX4_findHops_11 : decode cX4_findHops 11 = .ok (.bipush 10, 2) := by decide +kernel
theorem dX4_findHops_13 : decode cX4_findHops 13 = .ok (.if_icmp .ge 26, 3) := by decide +kernel
theorem dX4_findHops_16 : decode cX4_findHops 16 = .ok (.aload_n 0, 1) := by decide +kernel
theorem dX4_findHops_17 : decode cX4_findHops 17 = .ok (.getfield 18, 3) := by decide +kernel
theorem dX4_findHops_20 : decode cX4_findHops 20 = .ok (.iload_n 1, 1) := by decide +kernel
theorem dX4_findHops_21 : decode cX4_findHops 21 = .ok (.bipush 10, 2) := by decide +kernel
theorem dX4_findHops_23 : decode cX4_findHops 23 = .ok (.imul, 1) := by decide +kernel
theorem dX4_findHops_24 : decode cX4_findHops 24 = .ok (.iload_n 2, 1) := by decide +kernel
theorem dX4_findHops_25 : decode cX4_findHops 25 = .ok (.iadd, 1) := by decide +kernel
theorem dX4_findHops_26 : decode cX4_findHops 26 = .ok (.aload_n 0, 1) := by decide +kernel
theorem dX4_findHops_27 : decode cX4_findHops 27 = .ok (.iload_n 1, 1) := by decide +kernel
theorem dX4_findHops_28 : decode cX4_findHops 28 = .ok (.iload_n 2, 1) := by decide +kernel
theorem dX4_findHops_29 : decode cX4_findHops 29 = .ok (.invokevirtual 40, 3) := by decide +kernel
theorem dX4_findHops_32 : decode cX4_findHops 32 = .ok (.iastore, 1) := by decide +kernel
theorem dX4_findHops_33 : decode cX4_findHops 33 = .ok (.iinc 2 1, 3) := by decide +kernel
theorem dX4_findHops_36 : decode cX4_findHops 36 = .ok (.goto (-26), 3) := by decide +kernel
theorem dX4_findHops_39 : decode cX4_findHops 39 = .ok (.iinc 1 1, 3) := by decide +kernel
theorem dX4_findHops_42 : decode cX4_findHops 42 = .ok (.goto (-40), 3) := by decide +kernel
theorem dX4_findHops_45 : decode cX4_findHops 45 = .ok (.return_, 1) := by decide +kernel
theorem dX4_firstHop_0 : decode cX4_firstHop 0 = .ok (.aload_n 0, 1) := by decide +kernel
theorem dX4_firstHop_1 : decode cX4_firstHop 1 = .ok (.iload_n 1, 1) := by decide +kernel
theorem dX4_firstHop_2 : decode cX4_firstHop 2 = .ok (.iload_n 2, 1) := by decide +kernel
theorem dX4_firstHop_3 : decode cX4_firstHop 3 = .ok (.invokevirtual 43, 3) := by decide +kernel
theorem dX4_firstHop_6 : decode cX4_firstHop 6 = .ok (.istore_n 3, 1) := by decide +kernel
theorem dX4_firstHop_7 : decode cX4_firstHop 7 = .ok (.iload_n 1, 1) := by decide +kernel
theorem dX4_firstHop_8 : decode cX4_firstHop 8 = .ok (.iload_n 2, 1) := by decide +kernel
theorem dX4_firstHop_9 : decode cX4_firstHop 9 = .ok (.if_icmp .eq 8, 3) := by decide +kernel
theorem dX4_firstHop_12 : decode cX4_firstHop 12 = .ok (.iload_n 3, 1) := by decide +kernel
theorem dX4_firstHop_13 : decode cX4_firstHop 13 = .ok (.iconst (-1), 1) := by decide +kernel
theorem dX4_firstHop_14 : decode cX4_firstHop 14 = .ok (.if_icmp .ne 5, 3) := by decide +kernel
theorem dX4_firstHop_17 : decode cX4_firstHop 17 = .ok (.iconst (-1), 1) := by decide +kernel
theorem dX4_firstHop_18 : decode cX4_firstHop 18 = .ok (.ireturn, 1) := by decide +kernel
theorem dX4_firstHop_19 : decode cX4_firstHop 19 = .ok (.iconst 0, 1) := by decide +kernel
theorem dX4_firstHop_20 : decode cX4_firstHop 20 = .ok (.istore 4, 2) := by decide +kernel
theorem dX4_firstHop_22 : decode cX4_firstHop 22 = .ok (.iload 4, 2) := by decide +kernel
theorem dX4_firstHop_24 : decode cX4_firstHop 24 = .ok (.bipush 10, 2) := by decide +kernel
theorem dX4_firstHop_26 : decode cX4_firstHop 26 = .ok (.if_icmp .ge 40, 3) := by decide +kernel
theorem dX4_firstHop_29 : decode cX4_firstHop 29 = .ok (.aload_n 0, 1) := by decide +kernel
theorem dX4_firstHop_30 : decode cX4_firstHop 30 = .ok (.iload_n 1, 1) := by decide +kernel
theorem dX4_firstHop_31 : decode cX4_firstHop 31 = .ok (.iload 4, 2) := by decide +kernel
theorem dX4_firstHop_33 : decode cX4_firstHop 33 = .ok (.invokevirtual 32, 3) := by decide +kernel
theorem dX4_firstHop_36 : decode cX4_firstHop 36 = .ok (.istore 5, 2) := by decide +kernel
theorem dX4_firstHop_38 : decode cX4_firstHop 38 = .ok (.iload 5, 2) := by decide +kernel
theorem dX4_firstHop_40 : decode cX4_firstHop 40 = .ok (.ifCond .eq 20, 3) := by decide +kernel
theorem dX4_firstHop_43 : decode cX4_firstHop 43 = .ok (.iload 5, 2) := by decide +kernel
theorem dX4_firstHop_45 : decode cX4_firstHop 45 = .ok (.aload_n 0, 1) := by decide +kernel
theorem dX4_firstHop_46 : decode cX4_firstHop 46 = .ok (.iload 4, 2) := by decide +kernel
theorem dX4_firstHop_48 : decode cX4_firstHop 48 = .ok (.iload_n 2, 1) := by decide +kernel
theorem dX4_firstHop_49 : decode cX4_firstHop 49 = .ok (.invokevirtual 43, 3) := by decide +kernel
theorem dX4_firstHop_52 : decode cX4_firstHop 52 = .ok (.iadd, 1) := by decide +kernel
theorem dX4_firstHop_53 : decode cX4_firstHop 53 = .ok (.iload_n 3, 1) := by decide +kernel
theorem dX4_firstHop_54 : decode cX4_firstHop 54 = .ok (.if_icmp .ne 6, 3) := by decide +kernel
theorem dX4_firstHop_57 : decode cX4_firstHop 57 = .ok (.iload 4, 2) := by decide +kernel
theorem dX4_firstHop_59 : decode cX4_firstHop 59 = .ok (.ireturn, 1) := by decide +kernel
theorem dX4_firstHop_60 : decode cX4_firstHop 60 = .ok (.iinc 4 1, 3) := by decide +kernel
theorem dX4_firstHop_63 : decode cX4_firstHop 63 = .ok (.goto (-41), 3) := by decide +kernel
theorem dX4_firstHop_66 : decode cX4_firstHop 66 = .ok (.iconst (-1), 1) := by decide +kernel
theorem dX4_firstHop_67 : decode cX4_firstHop 67 = .ok (.ireturn, 1) := by decide +kernel
end
section
theorem dX5_init_0 : decode cX5_init 0 = .ok (.aload_n 0, 1) := by decide +kernel
theorem dX5_init_1 : decode cX5_init 1 = .ok (.invokespecial 3, 3) := by decide +kernel
theorem dX5_init_4 : decode cX5_init 4 = .ok (.aload_n 0, 1) := by decide +kernel
theorem dX5_init_5 : decode cX5_init 5 = .ok (.new 9, 3) := by decide +kernel
theorem dX5_init_8 : decode cX5_init 8 = .ok (.dup, 1) := by decide +kernel
theorem dX5_init_9 : decode cX5_init 9 = .ok (.invokespecial 11, 3) := by decide +kernel
theorem dX5_init_12 : decode cX5_init 12 = .ok (.putfield 12, 3) := by decide +kernel
theorem dX5_init_15 : decode cX5_init 15 = .ok (.aload_n 0, 1) := by decide +kernel
theorem dX5_init_16 : decode cX5_init 16 = .ok (.new 16, 3) := by decide +kernel
theorem dX5_init_19 : decode cX5_init 19 = .ok (.dup, 1) := by decide +kernel
theorem dX5_init_20 : decode cX5_init 20 = .ok (.invokespecial 18, 3) := by decide +kernel
theorem dX5_init_23 : decode cX5_init 23 = .ok (.putfield 19, 3) := by decide +kernel
theorem dX5_init_26 : decode cX5_init 26 = .ok (.aload_n 0, 1) := by decide +kernel
theorem dX5_init_27 : decode cX5_init 27 = .ok (.new 23, 3) := by decide +kernel
theorem dX5_init_30 : decode cX5_init 30 = .ok (.dup, 1) := by decide +kernel
theorem dX5_init_31 : decode cX5_init 31 = .ok (.invokespecial 25, 3) := by decide +kernel
theorem dX5_init_34 : decode cX5_init 34 = .ok (.putfield 26, 3) := by decide +kernel
theorem dX5_init_37 : decode cX5_init 37 = .ok (.aload_n 0, 1) := by decide +kernel
theorem dX5_init_38 : decode cX5_init 38 = .ok (.new 30, 3) := by decide +kernel
theorem dX5_init_41 : decode cX5_init 41 = .ok (.dup, 1) := by decide +kernel
theorem dX5_init_42 : decode cX5_init 42 = .ok (.invokespecial 32, 3) := by decide +kernel
theorem dX5_init_45 : decode cX5_init 45 = .ok (.putfield 33, 3) := by decide +kernel
theorem dX5_init_48 : decode cX5_init 48 = .ok (.aload_n 0, 1) := by decide +kernel
theorem dX5_init_49 : decode cX5_init 49 = .ok (.new 37, 3) := by decide +kernel
theorem dX5_init_52 : decode cX5_init 52 = .ok (.dup, 1) := by decide +kernel
theorem dX5_init_53 : decode cX5_init 53 = .ok (.invokespecial 39, 3) := by decide +kernel
theorem dX5_init_56 : decode cX5_init 56 = .ok (.putfield 40, 3) := by decide +kernel
theorem dX5_init_59 : decode cX5_init 59 = .ok (.aload_n 0, 1) := by decide +kernel
theorem dX5_init_60 : decode cX5_init 60 = .ok (.iconst 3, 1) := by decide +kernel
theorem dX5_init_61 : decode cX5_init 61 = .ok (.putfield 44, 3) := by decide +kernel
theorem dX5_init_64 : decode cX5_init 64 = .ok (.return_, 1) := by decide +kernel
theorem dX5_setLink_0 : decode cX5_setLink 0 = .ok (.iload_n 1, 1) := by decide +kernel
theorem dX5_setLink_1 : decode cX5_setLink 1 = .ok (.invokestatic 48, 3) := by decide +kernel
theorem dX5_setLink_4 : decode cX5_setLink 4 = .ok (.iload_n 2, 1) := by decide +kernel
theorem dX5_setLink_5 : decode cX5_setLink 5 = .ok (.invokestatic 48, 3) := by decide +kernel
theorem dX5_setLink_8 : decode cX5_setLink 8 = .ok (.iload_n 1, 1) := by decide +kernel
theorem dX5_setLink_9 : decode cX5_setLink 9 = .ok (.iload_n 2, 1) := by decide +kernel
theorem dX5_setLink_10 : decode cX5_setLink 10 = .ok (.if_icmp .eq 13, 3) := by decide +kernel
theorem dX5_setLink_13 : decode cX5_setLink 13 = .ok (.iload_n 3, 1) := by decide +kernel
theorem dX5_setLink_14 : decode cX5_setLink 14 = .ok (.ifCond .lt 9, 3) := by decide +kernel
theorem dX5_setLink_17 : decode cX5_setLink 17 = .ok (.iload_n 3, 1) := by decide +kernel
theorem dX5_setLink_18 : decode cX5_setLink 18 = .ok (.bipush 20, 2) := by decide +kernel
theorem dX5_setLink_20 : decode cX5_setLink 20 = .ok (.if_icmp .le 13, 3) := by decide +kernel
theorem dX5_setLink_23 : decode cX5_setLink 23 = .ok (.new 52, 3) := by decide +kernel
theorem dX5_setLink_26 : decode cX5_setLink 26 = .ok (.dup, 1) := by decide +kernel
theorem dX5_setLink_27 : decode cX5_setLink 27 = .ok (.ldc 54, 2) := by decide +kernel
theorem dX5_setLink_29 : decode cX5_setLink 29 = .ok (.invokespecial 56, 3) := by decide +kernel
theorem dX5_setLink_32 : decode cX5_setLink 32 = .ok (.athrow, 1) := by decide +kernel
theorem dX5_setLink_33 : decode cX5_setLink 33 = .ok (.aload_n 0, 1) := by decide +kernel
theorem dX5_setLink_34 : decode cX5_setLink 34 = .ok (.getfield 12, 3) := by decide +kernel
theorem dX5_setLink_37 : decode cX5_setLink 37 = .ok (.iload_n 1, 1) := by decide +kernel
theorem dX5_setLink_38 : decode cX5_setLink 38 = .ok (.iload_n 2, 1) := by decide +kernel
theorem dX5_setLink_39 : decode cX5_setLink 39 = .ok (.invokevirtual 59, 3) := by decide +kernel
theorem dX5_setLink_42 : decode cX5_setLink 42 = .ok (.istore 4, 2) := by decide +kernel
theorem dX5_setLink_44 : decode cX5_setLink 44 = .ok (.iload 4, 2) := by decide +kernel
theorem dX5_setLink_46 : decode cX5_setLink 46 = .ok (.iload_n 3, 1) := by decide +kernel
theorem dX5_setLink_47 : decode cX5_setLink 47 = .ok (.if_icmp .eq 24, 3) := by decide +kernel
theorem dX5_setLink_50 : decode cX5_setLink 50 = .ok (.aload_n 0, 1) := by decide +kernel
theorem dX5_setLink_51 : decode cX5_setLink 51 = .ok (.getfield 12, 3) := by decide +kernel
theorem dX5_setLink_54 : decode cX5_setLink 54 = .ok (.iload_n 1, 1) := by decide +kernel
theorem dX5_setLink_55 : decode cX5_setLink 55 = .ok (.iload_n 2, 1) := by decide +kernel
theorem dX5_setLink_56 : decode cX5_setLink 56 = .ok (.iload_n 3, 1) := by decide +kernel
theorem dX5_setLink_57 : decode cX5_setLink 57 = .ok (.invokevirtual 63, 3) := by decide +kernel
theorem dX5_setLink_60 : decode cX5_setLink 60 = .ok (.aload_n 0, 1) := by decide +kernel
theorem dX5_setLink_61 : decode cX5_setLink 61 = .ok (.getfield 19, 3) := by decide +kernel
theorem dX5_setLink_64 : decode cX5_setLink 64 = .ok (.aload_n 0, 1) := by decide +kernel
theorem dX5_setLink_65 : decode cX5_setLink 65 = .ok (.getfield 12, 3) := by decide +kernel
theorem dX5_setLink_68 : decode cX5_setLink 68 = .ok (.invokevirtual 67, 3) := by decide +kernel
theorem dX5_setLink_71 : decode cX5_setLink 71 = .ok (.iload 4, 2) := by decide +kernel
theorem dX5_setLink_73 : decode cX5_setLink 73 = .ok (.ireturn, 1) := by decide +kernel
theorem dX5_setCandidate_0 : decode cX5_setCandidate 0 = .ok (.iload_n 1, 1) := by decide +kernel
theorem dX5_setCandidate_1 : decode cX5_setCandidate 1 = .ok (.invokestatic 48, 3) := by decide +kernel
theorem dX5_setCandidate_4 : decode cX5_setCandidate 4 = .ok (.aload_n 0, 1) := by decide +kernel
theorem dX5_setCandidate_5 : decode cX5_setCandidate 5 = .ok (.getfield 71, 3) := by decide +kernel
theorem dX5_setCandidate_8 : decode cX5_setCandidate 8 = .ok (.iload_n 1, 1) := by decide +kernel
theorem dX5_setCandidate_9 : decode cX5_setCandidate 9 = .ok (.invokestatic 74, 3) := by decide +kernel
theorem dX5_setCandidate_12 : decode cX5_setCandidate 12 = .ok (.iload_n 2, 1) := by decide +kernel
theorem dX5_setCandidate_13 : decode cX5_setCandidate 13 = .ok (.if_icmp .ne 5, 3) := by decide +kernel
theorem dX5_setCandidate_16 : decode cX5_setCandidate 16 = .ok (.iconst 0, 1) := by decide +kernel
theorem dX5_setCandidate_17 : decode cX5_setCandidate 17 = .ok (.ireturn, 1) := by decide +kernel
theorem dX5_setCandidate_18 : decode cX5_setCandidate 18 = .ok (.aload_n 0, 1) := by decide +kernel
theorem dX5_setCandidate_19 : decode cX5_setCandidate 19 = .ok (.dup, 1) := by decide +kernel
theorem dX5_setCandidate_20 : decode cX5_setCandidate 20 = .ok (.getfield 71, 3) := by decide +kernel
theorem dX5_setCandidate_23 : decode cX5_setCandidate 23 = .ok (.iload_n 1, 1) := by decide +kernel
theorem dX5_setCandidate_24 : decode cX5_setCandidate 24 = .ok (.invokestatic 78, 3) := by decide +kernel
theorem dX5_setCandidate_27 : decode cX5_setCandidate 27 = .ok (.ixor, 1) := by decide +kernel
theorem dX5_setCandidate_28 : decode cX5_setCandidate 28 = .ok (.putfield 71, 3) := by decide +kernel
theorem dX5_setCandidate_31 : decode cX5_setCandidate 31 = .ok (.iconst 0, 1) := by decide +kernel
theorem dX5_setCandidate_32 : decode cX5_setCandidate 32 = .ok (.istore_n 3, 1) := by decide +kernel
theorem dX5_setCandidate_33 : decode cX5_setCandidate 33 = .ok (.iload_n 3, 1) := by decide +kernel
theorem dX5_setCandidate_34 : decode cX5_setCandidate 34 = .ok (.iconst 4, 1) := by decide +kernel
theorem dX5_setCandidate_35 : decode cX5_setCandidate 35 = .ok (.if_icmp .ge 25, 3) := by decide +kernel
theorem dX5_setCandidate_38 : decode cX5_setCandidate 38 = .ok (.aload_n 0, 1) := by decide +kernel
theorem dX5_setCandidate_39 : decode cX5_setCandidate 39 = .ok (.getfield 19, 3) := by decide +kernel
theorem dX5_setCandidate_42 : decode cX5_setCandidate 42 = .ok (.iload_n 3, 1) := by decide +kernel
theorem dX5_setCandidate_43 : decode cX5_setCandidate 43 = .ok (.invokestatic 82, 3) := by decide +kernel
theorem dX5_setCandidate_46 : decode cX5_setCandidate 46 = .ok (.aload_n 0, 1) := by decide +kernel
theorem dX5_setCandidate_47 : decode cX5_setCandidate 47 = .ok (.iload_n 3, 1) := by decide +kernel
theorem dX5_setCandidate_48 : decode cX5_setCandidate 48 = .ok (.invokevirtual 85, 3) := by decide +kernel
theorem dX5_setCandidate_51 : decode cX5_setCandidate 51 = .ok (.invokevirtual 88, 3) := by decide +kernel
theorem dX5_setCandidate_54 : decode cX5_setCandidate 54 = .ok (.iinc 3 1, 3) := by decide +kernel
theorem dX5_setCandidate_57 : decode cX5_setCandidate 57 = .ok (.goto (-24), 3) := by decide +kernel
theorem dX5_setCandidate_60 : decode cX5_setCandidate 60 = .ok (.aload_n 0, 1) := by decide +kernel
theorem dX5_setCandidate_61 : decode cX5_setCandidate 61 = .ok (.getfield 19, 3) := by decide +kernel
theorem dX5_setCandidate_64 : decode cX5_setCandidate 64 = .ok (.aload_n 0, 1) := by decide +kernel
theorem dX5_setCandidate_65 : decode cX5_setCandidate 65 = .ok (.getfield 12, 3) := by decide +kernel
theorem dX5_setCandidate_68 : decode cX5_setCandidate 68 = .ok (.invokevirtual 67, 3) := by decide +kernel
theorem dX5_setCandidate_71 : decode cX5_setCandidate 71 = .ok (.iconst 1, 1) := by decide +kernel
theorem dX5_setCandidate_72 : decode cX5_setCandidate 72 = .ok (.ireturn, 1) := by decide +kernel
theorem dX5_setLimit_0 : decode cX5_setLimit 0 = .ok (.iload_n 1, 1) := by decide +kernel
theorem dX5_setLimit_1 : decode cX5_setLimit 1 = .ok (.iconst 1, 1) := by decide +kernel
theorem dX5_setLimit_2 : decode cX5_setLimit 2 = .ok (.if_icmp .lt 9, 3) := by decide +kernel
theorem dX5_setLimit_5 : decode cX5_setLimit 5 = .ok (.iload_n 1, 1) := by decide +kernel
theorem dX5_setLimit_6 : decode cX5_setLimit 6 = .ok (.bipush 100, 2) := by decide +kernel
theorem dX5_setLimit_8 : decode cX5_setLimit 8 = .ok (.if_icmp .le 13, 3) := by decide +kernel
theorem dX5_setLimit_11 : decode cX5_setLimit 11 = .ok (.new 52, 3) := by decide +kernel
theorem dX5_setLimit_14 : decode cX5_setLimit 14 = .ok (.dup, 1) := by decide +kernel
theorem dX5_setLimit_15 : decode cX5_setLimit 15 = .ok (.ldc 92, 2) := by decide +kernel
theorem dX5_setLimit_17 : decode cX5_setLimit 17 = .ok (.invokespecial 56, 3) := by decide +kernel
theorem dX5_setLimit_20 : decode cX5_setLimit 20 = .ok (.athrow, 1) := by decide +kernel
theorem dX5_setLimit_21 : decode cX5_setLimit 21 = .ok (.aload_n 0, 1) := by decide +kernel
theorem dX5_setLimit_22 : decode cX5_setLimit 22 = .ok (.getfield 44, 3) := by decide +kernel
theorem dX5_setLimit_25 : decode cX5_setLimit 25 = .ok (.istore_n 2, 1) := by decide +kernel
theorem dX5_setLimit_26 : decode cX5_setLimit 26 = .ok (.aload_n 0, 1) := by decide +kernel
theorem dX5_setLimit_27 : decode cX5_setLimit 27 = .ok (.iload_n 1, 1) := by decide +kernel
theorem dX5_setLimit_28 : decode cX5_setLimit 28 = .ok (.putfield 44, 3) := by decide +kernel
theorem dX5_setLimit_31 : decode cX5_setLimit 31 = .ok (.iload_n 2, 1) := by decide +kernel
theorem dX5_setLimit_32 : decode cX5_setLimit 32 = .ok (.ireturn, 1) := by decide +kernel
theorem dX5_distance_0 : decode cX5_distance 0 = .ok (.iload_n 1, 1) := by decide +kernel
theorem dX5_distance_1 : decode cX5_distance 1 = .ok (.invokestatic 48, 3) := by decide +kernel
theorem dX5_distance_4 : decode cX5_distance 4 = .ok (.iload_n 2, 1) := by decide +kernel
theorem dX5_distance_5 : decode cX5_distance 5 = .ok (.invokestatic 48, 3) := by decide +kernel
theorem dX5_distance_8 : decode cX5_distance 8 = .ok (.aload_n 0, 1) := by decide +kernel
theorem dX5_distance_9 : decode cX5_distance 9 = .ok (.getfield 12, 3) := by decide +kernel
theorem dX5_distance_12 : decode cX5_distance 12 = .ok (.iload_n 1, 1) := by decide +kernel
theorem dX5_distance_13 : decode cX5_distance 13 = .ok (.iload_n 2, 1) := by decide +kernel
theorem dX5_distance_14 : decode cX5_distance 14 = .ok (.invokevirtual 94, 3) := by decide +kernel
theorem dX5_distance_17 : decode cX5_distance 17 = .ok (.ireturn, 1) := by decide +kernel
theorem dX5_nextHop_0 : decode cX5_nextHop 0 = .ok (.iload_n 1, 1) := by decide +kernel
theorem dX5_nextHop_1 : decode cX5_nextHop 1 = .ok (.invokestatic 48, 3) := by decide +kernel
theorem dX5_nextHop_4 : decode cX5_nextHop 4 = .ok (.iload_n 2, 1) := by decide +kernel
theorem dX5_nextHop_5 : decode cX5_nextHop 5 = .ok (.invokestatic 48, 3) := by decide +kernel
theorem dX5_nextHop_8 : decode cX5_nextHop 8 = .ok (.aload_n 0, 1) := by decide +kernel
theorem dX5_nextHop_9 : decode cX5_nextHop 9 = .ok (.getfield 12, 3) := by decide +kernel
theorem dX5_nextHop_12 : decode cX5_nextHop 12 = .ok (.iload_n 1, 1) := by decide +kernel
theorem dX5_nextHop_13 : decode cX5_nextHop 13 = .ok (.iload_n 2, 1) := by decide +kernel
theorem dX5_nextHop_14 : decode cX5_nextHop 14 = .ok (.invokevirtual 97, 3) := by decide +kernel
theorem dX5_nextHop_17 : decode cX5_nextHop 17 = .ok (.ireturn, 1) := by decide +kernel
theorem dX5_rendezvous_0 : decode cX5_rendezvous 0 = .ok (.iload_n 1, 1) := by decide +kernel
theorem dX5_rendezvous_1 : decode cX5_rendezvous 1 = .ok (.invokestatic 100, 3) := by decide +kernel
theorem dX5_rendezvous_4 : decode cX5_rendezvous 4 = .ok (.aload_n 0, 1) := by decide +kernel
theorem dX5_rendezvous_5 : decode cX5_rendezvous 5 = .ok (.getfield 19, 3) := by decide +kernel
theorem dX5_rendezvous_8 : decode cX5_rendezvous 8 = .ok (.iload_n 1, 1) := by decide +kernel
theorem dX5_rendezvous_9 : decode cX5_rendezvous 9 = .ok (.invokestatic 82, 3) := by decide +kernel
theorem dX5_rendezvous_12 : decode cX5_rendezvous 12 = .ok (.invokevirtual 103, 3) := by decide +kernel
theorem dX5_rendezvous_15 : decode cX5_rendezvous 15 = .ok (.ireturn, 1) := by decide +kernel
theorem dX5_join_0 : decode cX5_join 0 = .ok (.iload_n 1, 1) := by decide +kernel
theorem dX5_join_1 : decode cX5_join 1 = .ok (.invokestatic 48, 3) := by decide +kernel
theorem dX5_join_4 : decode cX5_join 4 = .ok (.iload_n 2, 1) := by decide +kernel
theorem dX5_join_5 : decode cX5_join 5 = .ok (.invokestatic 100, 3) := by decide +kernel
theorem dX5_join_8 : decode cX5_join 8 = .ok (.aload_n 0, 1) := by decide +kernel
theorem dX5_join_9 : decode cX5_join 9 = .ok (.iload_n 1, 1) := by decide +kernel
theorem dX5_join_10 : decode cX5_join 10 = .ok (.iload_n 2, 1) := by decide +kernel
theorem dX5_join_11 : decode cX5_join 11 = .ok (.invokevirtual 106, 3) := by decide +kernel
theorem dX5_join_14 : decode cX5_join 14 = .ok (.ifCond .eq 13, 3) := by decide +kernel
theorem dX5_join_17 : decode cX5_join 17 = .ok (.new 109, 3) := by decide +kernel
theorem dX5_join_20 : decode cX5_join 20 = .ok (.dup, 1) := by decide +kernel
theorem dX5_join_21 : decode cX5_join 21 = .ok (.ldc 111, 2) := by decide +kernel
theorem dX5_join_23 : decode cX5_join 23 = .ok (.invokespecial 113, 3) := by decide +kernel
theorem dX5_join_26 : decode cX5_join 26 = .ok (.athrow, 1) := by decide +kernel
theorem dX5_join_27 : decode cX5_join 27 = .ok (.aload_n 0, 1) := by decide +kernel
theorem dX5_join_28 : decode cX5_join 28 = .ok (.getfield 19, 3) := by decide +kernel
theorem dX5_join_31 : decode cX5_join 31 = .ok (.iload_n 2, 1) := by decide +kernel
theorem dX5_join_32 : decode cX5_join 32 = .ok (.invokestatic 82, 3) := by decide +kernel
theorem dX5_join_35 : decode cX5_join 35 = .ok (.iload_n 1, 1) := by decide +kernel
theorem dX5_join_36 : decode cX5_join 36 = .ok (.aload_n 0, 1) := by decide +kernel
theorem dX5_join_37 : decode cX5_join 37 = .ok (.getfield 12, 3) := by decide +kernel
theorem dX5_join_40 : decode cX5_join 40 = .ok (.invokevirtual 114, 3) := by decide +kernel
theorem dX5_join_43 : decode cX5_join 43 = .ok (.aload_n 0, 1) := by decide +kernel
theorem dX5_join_44 : decode cX5_join 44 = .ok (.iload_n 2, 1) := by decide +kernel
theorem dX5_join_45 : decode cX5_join 45 = .ok (.invokevirtual 118, 3) := by decide +kernel
theorem dX5_join_48 : decode cX5_join 48 = .ok (.invokestatic 121, 3) := by decide +kernel
theorem dX5_join_51 : decode cX5_join 51 = .ok (.ireturn, 1) := by decide +kernel
theorem dX5_leave_0 : decode cX5_leave 0 = .ok (.iload_n 1, 1) := by decide +kernel
theorem dX5_leave_1 : decode cX5_leave 1 = .ok (.invokestatic 48, 3) := by decide +kernel
theorem dX5_leave_4 : decode cX5_leave 4 = .ok (.iload_n 2, 1) := by decide +kernel
theorem dX5_leave_5 : decode cX5_leave 5 = .ok (.invokestatic 100, 3) := by decide +kernel
theorem dX5_leave_8 : decode cX5_leave 8 = .ok (.aload_n 0, 1) := by decide +kernel
theorem dX5_leave_9 : decode cX5_leave 9 = .ok (.iload_n 1, 1) := by decide +kernel
theorem dX5_leave_10 : decode cX5_leave 10 = .ok (.iload_n 2, 1) := by decide +kernel
theorem dX5_leave_11 : decode cX5_leave 11 = .ok (.invokevirtual 106, 3) := by decide +kernel
theorem dX5_leave_14 : decode cX5_leave 14 = .ok (.ifCond .ne 13, 3) := by decide +kernel
theorem dX5_leave_17 : decode cX5_leave 17 = .ok (.new 109, 3) := by decide +kernel
theorem dX5_leave_20 : decode cX5_leave 20 = .ok (.dup, 1) := by decide +kernel
theorem dX5_leave_21 : decode cX5_leave 21 = .ok (.ldc 126, 2) := by decide +kernel
theorem dX5_leave_23 : decode cX5_leave 23 = .ok (.invokespecial 113, 3) := by decide +kernel
theorem dX5_leave_26 : decode cX5_leave 26 = .ok (.athrow, 1) := by decide +kernel
theorem dX5_leave_27 : decode cX5_leave 27 = .ok (.aload_n 0, 1) := by decide +kernel
theorem dX5_leave_28 : decode cX5_leave 28 = .ok (.getfield 19, 3) := by decide +kernel
theorem dX5_leave_31 : decode cX5_leave 31 = .ok (.iload_n 2, 1) := by decide +kernel
theorem dX5_leave_32 : decode cX5_leave 32 = .ok (.invokestatic 82, 3) := by decide +kernel
theorem dX5_leave_35 : decode cX5_leave 35 = .ok (.iload_n 1, 1) := by decide +kernel
theorem dX5_leave_36 : decode cX5_leave 36 = .ok (.aload_n 0, 1) := by decide +kernel
theorem dX5_leave_37 : decode cX5_leave 37 = .ok (.getfield 128, 3) := by decide +kernel
theorem dX5_leave_40 : decode cX5_leave 40 = .ok (.invokevirtual 131, 3) := by decide +kernel
theorem dX5_leave_43 : decode cX5_leave 43 = .ok (.iconst 0, 1) := by decide +kernel
theorem dX5_leave_44 : decode cX5_leave 44 = .ok (.istore_n 3, 1) := by decide +kernel
theorem dX5_leave_45 : decode cX5_leave 45 = .ok (.iload_n 3, 1) := by decide +kernel
theorem dX5_leave_46 : decode cX5_leave 46 = .ok (.bipush 10, 2) := by decide +kernel
theorem dX5_leave_48 : decode cX5_leave 48 = .ok (.if_icmp .ge 36, 3) := by decide +kernel
theorem dX5_leave_51 : decode cX5_leave 51 = .ok (.aload_n 0, 1) := by decide +kernel
theorem dX5_leave_52 : decode cX5_leave 52 = .ok (.getfield 19, 3) := by decide +kernel
theorem dX5_leave_55 : decode cX5_leave 55 = .ok (.iload_n 3, 1) := by decide +kernel
theorem dX5_leave_56 : decode cX5_leave 56 = .ok (.iload_n 2, 1) := by decide +kernel
theorem dX5_leave_57 : decode cX5_leave 57 = .ok (.invokestatic 134, 3) := by decide +kernel
theorem dX5_leave_60 : decode cX5_leave 60 = .ok (.iload_n 1, 1) := by decide +kernel
theorem dX5_leave_61 : decode cX5_leave 61 = .ok (.aload_n 0, 1) := by decide +kernel
theorem dX5_leave_62 : decode cX5_leave 62 = .ok (.getfield 128, 3) := by decide +kernel
theorem dX5_leave_65 : decode cX5_leave 65 = .ok (.invokevirtual 131, 3) := by decide +kernel
theorem dX5_leave_68 : decode cX5_leave 68 = .ok (.aload_n 0, 1) := by decide +kernel
theorem dX5_leave_69 : decode cX5_leave 69 = .ok (.getfield 40, 3) := by decide +kernel
theorem dX5_leave_72 : decode cX5_leave 72 = .ok (.iload_n 1, 1) := by decide +kernel
theorem dX5_leave_73 : decode cX5_leave 73 = .ok (.iload_n 3, 1) := by decide +kernel
theorem dX5_leave_74 : decode cX5_leave 74 = .ok (.iload_n 2, 1) := by decide +kernel
theorem dX5_leave_75 : decode cX5_leave 75 = .ok (.invokevirtual 137, 3) := by decide +kernel
theorem dX5_leave_78 : decode cX5_leave 78 = .ok (.iinc 3 1, 3) := by decide +kernel
theorem dX5_leave_81 : decode cX5_leave 81 = .ok (.goto (-36), 3) := by decide +kernel
theorem dX5_leave_84 : decode cX5_leave 84 = .ok (.aload_n 0, 1) := by decide +kernel
theorem dX5_leave_85 : decode cX5_leave 85 = .ok (.iload_n 2, 1) := by decide +kernel
theorem dX5_leave_86 : decode cX5_leave 86 = .ok (.invokevirtual 118, 3) := by decide +kernel
theorem dX5_leave_89 : decode cX5_leave 89 = .ok (.invokestatic 121, 3) := by decide +kernel
theorem dX5_leave_92 : decode cX5_leave 92 = .ok (.ireturn, 1) := by decide +kernel
theorem dX5_members_0 : decode cX5_members 0 = .ok (.iload_n 1, 1) := by decide +kernel
theorem dX5_members_1 : decode cX5_members 1 = .ok (.invokestatic 100, 3) := by decide +kernel
theorem dX5_members_4 : decode cX5_members 4 = .ok (.aload_n 0, 1) := by decide +kernel
theorem dX5_members_5 : decode cX5_members 5 = .ok (.iload_n 1, 1) := by decide +kernel
theorem dX5_members_6 : decode cX5_members 6 = .ok (.invokevirtual 118, 3) := by decide +kernel
theorem dX5_members_9 : decode cX5_members 9 = .ok (.ireturn, 1) := by decide +kernel
theorem dX5_switched_0 : decode cX5_switched 0 = .ok (.iload_n 1, 1) := by decide +kernel
theorem dX5_switched_1 : decode cX5_switched 1 = .ok (.invokestatic 48, 3) := by decide +kernel
theorem dX5_switched_4 : decode cX5_switched 4 = .ok (.iload_n 2, 1) := by decide +kernel
theorem dX5_switched_5 : decode cX5_switched 5 = .ok (.invokestatic 100, 3) := by decide +kernel
theorem dX5_switched_8 : decode cX5_switched 8 = .ok (.aload_n 0, 1) := by decide +kernel
theorem dX5_switched_9 : decode cX5_switched 9 = .ok (.getfield 19, 3) := by decide +kernel
theorem dX5_switched_12 : decode cX5_switched 12 = .ok (.iload_n 1, 1) := by decide +kernel
theorem dX5_switched_13 : decode cX5_switched 13 = .ok (.iload_n 2, 1) := by decide +kernel
theorem dX5_switched_14 : decode cX5_switched 14 = .ok (.invokestatic 134, 3) := by decide +kernel
theorem dX5_switched_17 : decode cX5_switched 17 = .ok (.invokevirtual 140, 3) := by decide +kernel
theorem dX5_switched_20 : decode cX5_switched 20 = .ok (.ireturn, 1) := by decide +kernel
theorem dX5_branches_0 : decode cX5_branches 0 = .ok (.iload_n 1, 1) := by decide +kernel
theorem dX5_branches_1 : decode cX5_branches 1 = .ok (.invokestatic 48, 3) := by decide +kernel
theorem dX5_branches_4 : decode cX5_branches 4 = .ok (.iload_n 2, 1) := by decide +kernel
theorem dX5_branches_5 : decode cX5_branches 5 = .ok (.invokestatic 100, 3) := by decide +kernel
theorem dX5_branches_8 : decode cX5_branches 8 = .ok (.aload_n 0, 1) := by decide +kernel
theorem dX5_branches_9 : decode cX5_branches 9 = .ok (.getfield 19, 3) := by decide +kernel
theorem dX5_branches_12 : decode cX5_branches 12 = .ok (.iload_n 2, 1) := by decide +kernel
theorem dX5_branches_13 : decode cX5_branches 13 = .ok (.invokestatic 82, 3) := by decide +kernel
theorem dX5_branches_16 : decode cX5_branches 16 = .ok (.iload_n 1, 1) := by decide +kernel
theorem dX5_branches_17 : decode cX5_branches 17 = .ok (.invokevirtual 143, 3) := by decide +kernel
theorem dX5_branches_20 : decode cX5_branches 20 = .ok (.ireturn, 1) := by decide +kernel
theorem dX5_sourceBranches_0 : decode cX5_sourceBranches 0 = .ok (.iload_n 1, 1) := by decide +kernel
theorem dX5_sourceBranches_1 : decode cX5_sourceBranches 1 = .ok (.invokestatic 48, 3) := by decide +kernel
theorem dX5_sourceBranches_4 : decode cX5_sourceBranches 4 = .ok (.iload_n 2, 1) := by decide +kernel
theorem dX5_sourceBranches_5 : decode cX5_sourceBranches 5 = .ok (.invokestatic 48, 3) := by decide +kernel
theorem dX5_sourceBranches_8 : decode cX5_sourceBranches 8 = .ok (.iload_n 3, 1) := by decide +kernel
theorem dX5_sourceBranches_9 : decode cX5_sourceBranches 9 = .ok (.invokestatic 100, 3) := by decide +kernel
theorem dX5_sourceBranches_12 : decode cX5_sourceBranches 12 = .ok (.aload_n 0, 1) := by decide +kernel
theorem dX5_sourceBranches_13 : decode cX5_sourceBranches 13 = .ok (.getfield 19, 3) := by decide +kernel
theorem dX5_sourceBranches_16 : decode cX5_sourceBranches 16 = .ok (.iload_n 2, 1) := by decide +kernel
theorem dX5_sourceBranches_17 : decode cX5_sourceBranches 17 = .ok (.iload_n 3, 1) := by decide +kernel
theorem dX5_sourceBranches_18 : decode cX5_sourceBranches 18 = .ok (.invokestatic 134, 3) := by decide +kernel
theorem dX5_sourceBranches_21 : decode cX5_sourceBranches 21 = .ok (.iload_n 1, 1) := by decide +kernel
theorem dX5_sourceBranches_22 : decode cX5_sourceBranches 22 = .ok (.invokevirtual 143, 3) := by decide +kernel
theorem dX5_sourceBranches_25 : decode cX5_sourceBranches 25 = .ok (.ireturn, 1) := by decide +kernel
theorem dX5_leaving_0 : decode cX5_leaving 0 = .ok (.aload_n 0, 1) := by decide +kernel
theorem dX5_leaving_1 : decode cX5_leaving 1 = .ok (.getfield 19, 3) := by decide +kernel
theorem dX5_leaving_4 : decode cX5_leaving 4 = .ok (.invokevirtual 146, 3) := by decide +kernel
theorem dX5_leaving_7 : decode cX5_leaving 7 = .ok (.ireturn, 1) := by decide +kernel
theorem dX5_send_0 : decode cX5_send 0 = .ok (.iload_n 1, 1) := by decide +kernel
theorem dX5_send_1 : decode cX5_send 1 = .ok (.invokestatic 48, 3) := by decide +kernel
theorem dX5_send_4 : decode cX5_send 4 = .ok (.iload_n 2, 1) := by decide +kernel
theorem dX5_send_5 : decode cX5_send 5 = .ok (.invokestatic 100, 3) := by decide +kernel
theorem dX5_send_8 : decode cX5_send 8 = .ok (.aload_n 0, 1) := by decide +kernel
theorem dX5_send_9 : decode cX5_send 9 = .ok (.getfield 26, 3) := by decide +kernel
theorem dX5_send_12 : decode cX5_send 12 = .ok (.invokevirtual 150, 3) := by decide +kernel
theorem dX5_send_15 : decode cX5_send 15 = .ok (.ifCond .eq 13, 3) := by decide +kernel
theorem dX5_send_18 : decode cX5_send 18 = .ok (.new 109, 3) := by decide +kernel
theorem dX5_send_21 : decode cX5_send 21 = .ok (.dup, 1) := by decide +kernel
theorem dX5_send_22 : decode cX5_send 22 = .ok (.ldc 154, 2) := by decide +kernel
theorem dX5_send_24 : decode cX5_send 24 = .ok (.invokespecial 113, 3) := by decide +kernel
theorem dX5_send_27 : decode cX5_send 27 = .ok (.athrow, 1) := by decide +kernel
theorem dX5_send_28 : decode cX5_send 28 = .ok (.aload_n 0, 1) := by decide +kernel
theorem dX5_send_29 : decode cX5_send 29 = .ok (.getfield 26, 3) := by decide +kernel
theorem dX5_send_32 : decode cX5_send 32 = .ok (.iload_n 1, 1) := by decide +kernel
theorem dX5_send_33 : decode cX5_send 33 = .ok (.iload_n 2, 1) := by decide +kernel
theorem dX5_send_34 : decode cX5_send 34 = .ok (.invokevirtual 156, 3) := by decide +kernel
theorem dX5_send_37 : decode cX5_send 37 = .ok (.istore_n 3, 1) := by decide +kernel
theorem dX5_send_38 : decode cX5_send 38 = .ok (.aload_n 0, 1) := by decide +kernel
theorem dX5_send_39 : decode cX5_send 39 = .ok (.iload_n 1, 1) := by decide +kernel
theorem dX5_send_40 : decode cX5_send 40 = .ok (.iload_n 2, 1) := by decide +kernel
theorem dX5_send_41 : decode cX5_send 41 = .ok (.invokevirtual 106, 3) := by decide +kernel
theorem dX5_send_44 : decode cX5_send 44 = .ok (.ifCond .eq 12, 3) := by decide +kernel
theorem dX5_send_47 : decode cX5_send 47 = .ok (.aload_n 0, 1) := by decide +kernel
theorem dX5_send_48 : decode cX5_send 48 = .ok (.getfield 26, 3) := by decide +kernel
theorem dX5_send_51 : decode cX5_send 51 = .ok (.iload_n 3, 1) := by decide +kernel
theorem dX5_send_52 : decode cX5_send 52 = .ok (.iload_n 1, 1) := by decide +kernel
theorem dX5_send_53 : decode cX5_send 53 = .ok (.invokevirtual 159, 3) := by decide +kernel
theorem dX5_send_56 : decode cX5_send 56 = .ok (.aload_n 0, 1) := by decide +kernel
theorem dX5_send_57 : decode cX5_send 57 = .ok (.getfield 19, 3) := by decide +kernel
theorem dX5_send_60 : decode cX5_send 60 = .ok (.iload_n 2, 1) := by decide +kernel
theorem dX5_send_61 : decode cX5_send 61 = .ok (.invokestatic 82, 3) := by decide +kernel
theorem dX5_send_64 : decode cX5_send 64 = .ok (.invokevirtual 103, 3) := by decide +kernel
theorem dX5_send_67 : decode cX5_send 67 = .ok (.istore 4, 2) := by decide +kernel
theorem dX5_send_69 : decode cX5_send 69 = .ok (.aload_n 0, 1) := by decide +kernel
theorem dX5_send_70 : decode cX5_send 70 = .ok (.getfield 12, 3) := by decide +kernel
theorem dX5_send_73 : decode cX5_send 73 = .ok (.iload_n 1, 1) := by decide +kernel
theorem dX5_send_74 : decode cX5_send 74 = .ok (.iload 4, 2) := by decide +kernel
theorem dX5_send_76 : decode cX5_send 76 = .ok (.invokevirtual 94, 3) := by decide +kernel
theorem dX5_send_79 : decode cX5_send 79 = .ok (.iconst (-1), 1) := by decide +kernel
theorem dX5_send_80 : decode cX5_send 80 = .ok (.if_icmp .eq 15, 3) := by decide +kernel
theorem dX5_send_83 : decode cX5_send 83 = .ok (.aload_n 0, 1) := by decide +kernel
theorem dX5_send_84 : decode cX5_send 84 = .ok (.iload_n 3, 1) := by decide +kernel
theorem dX5_send_85 : decode cX5_send 85 = .ok (.iload_n 2, 1) := by decide +kernel
theorem dX5_send_86 : decode cX5_send 86 = .ok (.invokestatic 82, 3) := by decide +kernel
theorem dX5_send_89 : decode cX5_send 89 = .ok (.iload 4, 2) := by decide +kernel
theorem dX5_send_91 : decode cX5_send 91 = .ok (.invokevirtual 162, 3) := by decide +kernel
theorem dX5_send_94 : decode cX5_send 94 = .ok (.pop, 1) := by decide +kernel
theorem dX5_send_95 : decode cX5_send 95 = .ok (.aload_n 0, 1) := by decide +kernel
theorem dX5_send_96 : decode cX5_send 96 = .ok (.iload_n 3, 1) := by decide +kernel
theorem dX5_send_97 : decode cX5_send 97 = .ok (.iload_n 1, 1) := by decide +kernel
theorem dX5_send_98 : decode cX5_send 98 = .ok (.iload_n 2, 1) := by decide +kernel
theorem dX5_send_99 : decode cX5_send 99 = .ok (.invokestatic 134, 3) := by decide +kernel
theorem dX5_send_102 : decode cX5_send 102 = .ok (.iload_n 1, 1) := by decide +kernel
theorem dX5_send_103 : decode cX5_send 103 = .ok (.invokevirtual 166, 3) := by decide +kernel
theorem dX5_send_106 : decode cX5_send 106 = .ok (.iload_n 3, 1) := by decide +kernel
theorem dX5_send_107 : decode cX5_send 107 = .ok (.ireturn, 1) := by decide +kernel
theorem dX5_follow_0 : decode cX5_follow 0 = .ok (.aload_n 0, 1) := by decide +kernel
theorem dX5_follow_1 : decode cX5_follow 1 = .ok (.getfield 33, 3) := by decide +kernel
theorem dX5_follow_4 : decode cX5_follow 4 = .ok (.invokevirtual 169, 3) := by decide +kernel
theorem dX5_follow_7 : decode cX5_follow 7 = .ok (.ifCond .eq 5, 3) := by decide +kernel
theorem dX5_follow_10 : decode cX5_follow 10 = .ok (.iconst 0, 1) := by decide +kernel
theorem dX5_follow_11 : decode cX5_follow 11 = .ok (.ireturn, 1) := by decide +kernel
theorem dX5_follow_12 : decode cX5_follow 12 = .ok (.aload_n 0, 1) := by decide +kernel
theorem dX5_follow_13 : decode cX5_follow 13 = .ok (.getfield 33, 3) := by decide +kernel
theorem dX5_follow_16 : decode cX5_follow 16 = .ok (.invokevirtual 172, 3) := by decide +kernel
theorem dX5_follow_19 : decode cX5_follow 19 = .ok (.istore_n 1, 1) := by decide +kernel
theorem dX5_follow_20 : decode cX5_follow 20 = .ok (.aload_n 0, 1) := by decide +kernel
theorem dX5_follow_21 : decode cX5_follow 21 = .ok (.getfield 33, 3) := by decide +kernel
theorem dX5_follow_24 : decode cX5_follow 24 = .ok (.invokevirtual 175, 3) := by decide +kernel
theorem dX5_follow_27 : decode cX5_follow 27 = .ok (.istore_n 2, 1) := by decide +kernel
theorem dX5_follow_28 : decode cX5_follow 28 = .ok (.aload_n 0, 1) := by decide +kernel
theorem dX5_follow_29 : decode cX5_follow 29 = .ok (.getfield 33, 3) := by decide +kernel
theorem dX5_follow_32 : decode cX5_follow 32 = .ok (.invokevirtual 178, 3) := by decide +kernel
theorem dX5_follow_35 : decode cX5_follow 35 = .ok (.istore_n 3, 1) := by decide +kernel
theorem dX5_follow_36 : decode cX5_follow 36 = .ok (.aload_n 0, 1) := by decide +kernel
theorem dX5_follow_37 : decode cX5_follow 37 = .ok (.getfield 33, 3) := by decide +kernel
theorem dX5_follow_40 : decode cX5_follow 40 = .ok (.invokevirtual 181, 3) := by decide +kernel
theorem dX5_follow_43 : decode cX5_follow 43 = .ok (.istore 4, 2) := by decide +kernel
theorem dX5_follow_45 : decode cX5_follow 45 = .ok (.aload_n 0, 1) := by decide +kernel
theorem dX5_follow_46 : decode cX5_follow 46 = .ok (.getfield 33, 3) := by decide +kernel
theorem dX5_follow_49 : decode cX5_follow 49 = .ok (.invokevirtual 184, 3) := by decide +kernel
theorem dX5_follow_52 : decode cX5_follow 52 = .ok (.aload_n 0, 1) := by decide +kernel
theorem dX5_follow_53 : decode cX5_follow 53 = .ok (.getfield 12, 3) := by decide +kernel
theorem dX5_follow_56 : decode cX5_follow 56 = .ok (.iload_n 3, 1) := by decide +kernel
theorem dX5_follow_57 : decode cX5_follow 57 = .ok (.iload 4, 2) := by decide +kernel
theorem dX5_follow_59 : decode cX5_follow 59 = .ok (.invokevirtual 59, 3) := by decide +kernel
theorem dX5_follow_62 : decode cX5_follow 62 = .ok (.ifCond .ne 15, 3) := by decide +kernel
theorem dX5_follow_65 : decode cX5_follow 65 = .ok (.aload_n 0, 1) := by decide +kernel
theorem dX5_follow_66 : decode cX5_follow 66 = .ok (.dup, 1) := by decide +kernel
theorem dX5_follow_67 : decode cX5_follow 67 = .ok (.getfield 187, 3) := by decide +kernel
theorem dX5_follow_70 : decode cX5_follow 70 = .ok (.iconst 1, 1) := by decide +kernel
theorem dX5_follow_71 : decode cX5_follow 71 = .ok (.iadd, 1) := by decide +kernel
theorem dX5_follow_72 : decode cX5_follow 72 = .ok (.putfield 187, 3) := by decide +kernel
theorem dX5_follow_75 : decode cX5_follow 75 = .ok (.iconst 1, 1) := by decide +kernel
theorem dX5_follow_76 : decode cX5_follow 76 = .ok (.ireturn, 1) := by decide +kernel
theorem dX5_follow_77 : decode cX5_follow 77 = .ok (.aload_n 0, 1) := by decide +kernel
theorem dX5_follow_78 : decode cX5_follow 78 = .ok (.getfield 12, 3) := by decide +kernel
theorem dX5_follow_81 : decode cX5_follow 81 = .ok (.iload 4, 2) := by decide +kernel
theorem dX5_follow_83 : decode cX5_follow 83 = .ok (.aload_n 0, 1) := by decide +kernel
theorem dX5_follow_84 : decode cX5_follow 84 = .ok (.getfield 19, 3) := by decide +kernel
theorem dX5_follow_87 : decode cX5_follow 87 = .ok (.iload_n 2, 1) := by decide +kernel
theorem dX5_follow_88 : decode cX5_follow 88 = .ok (.invokevirtual 103, 3) := by decide +kernel
theorem dX5_follow_91 : decode cX5_follow 91 = .ok (.invokevirtual 97, 3) := by decide +kernel
theorem dX5_follow_94 : decode cX5_follow 94 = .ok (.iload_n 3, 1) := by decide +kernel
theorem dX5_follow_95 : decode cX5_follow 95 = .ok (.if_icmp .eq 15, 3) := by decide +kernel
theorem dX5_follow_98 : decode cX5_follow 98 = .ok (.aload_n 0, 1) := by decide +kernel
theorem dX5_follow_99 : decode cX5_follow 99 = .ok (.dup, 1) := by decide +kernel
theorem dX5_follow_100 : decode cX5_follow 100 = .ok (.getfield 187, 3) := by decide +kernel
theorem dX5_follow_103 : decode cX5_follow 103 = .ok (.iconst 1, 1) := by decide +kernel
theorem dX5_follow_104 : decode cX5_follow 104 = .ok (.iadd, 1) := by decide +kernel
theorem dX5_follow_105 : decode cX5_follow 105 = .ok (.putfield 187, 3) := by decide +kernel
theorem dX5_follow_108 : decode cX5_follow 108 = .ok (.iconst 2, 1) := by decide +kernel
theorem dX5_follow_109 : decode cX5_follow 109 = .ok (.ireturn, 1) := by decide +kernel
theorem dX5_follow_110 : decode cX5_follow 110 = .ok (.aload_n 0, 1) := by decide +kernel
theorem dX5_follow_111 : decode cX5_follow 111 = .ok (.iload_n 1, 1) := by decide +kernel
theorem dX5_follow_112 : decode cX5_follow 112 = .ok (.iload_n 2, 1) := by decide +kernel
theorem dX5_follow_113 : decode cX5_follow 113 = .ok (.iload 4, 2) := by decide +kernel
theorem dX5_follow_115 : decode cX5_follow 115 = .ok (.invokevirtual 162, 3) := by decide +kernel
theorem dX5_follow_118 : decode cX5_follow 118 = .ok (.ifCond .eq 7, 3) := by decide +kernel
theorem dX5_follow_121 : decode cX5_follow 121 = .ok (.iconst 4, 1) := by decide +kernel
theorem dX5_follow_122 : decode cX5_follow 122 = .ok (.goto 4, 3) := by decide +kernel
theorem dX5_follow_125 : decode cX5_follow 125 = .ok (.iconst 3, 1) := by decide +kernel
theorem dX5_follow_126 : decode cX5_follow 126 = .ok (.ireturn, 1) := by decide +kernel
theorem dX5_followAll_0 : decode cX5_followAll 0 = .ok (.iconst 0, 1) := by decide +kernel
theorem dX5_followAll_1 : decode cX5_followAll 1 = .ok (.istore_n 1, 1) := by decide +kernel
theorem dX5_followAll_2 : decode cX5_followAll 2 = .ok (.iload_n 1, 1) := by decide +kernel
theorem dX5_followAll_3 : decode cX5_followAll 3 = .ok (.ldc 190, 2) := by decide +kernel
theorem dX5_followAll_5 : decode cX5_followAll 5 = .ok (.if_icmp .ge 24, 3) := by decide +kernel
theorem dX5_followAll_8 : decode cX5_followAll 8 = .ok (.aload_n 0, 1) := by decide +kernel
theorem dX5_followAll_9 : decode cX5_followAll 9 = .ok (.getfield 33, 3) := by decide +kernel
theorem dX5_followAll_12 : decode cX5_followAll 12 = .ok (.invokevirtual 169, 3) := by decide +kernel
theorem dX5_followAll_15 : decode cX5_followAll 15 = .ok (.ifCond .ne 14, 3) := by decide +kernel
theorem dX5_followAll_18 : decode cX5_followAll 18 = .ok (.aload_n 0, 1) := by decide +kernel
theorem dX5_followAll_19 : decode cX5_followAll 19 = .ok (.invokevirtual 191, 3) := by decide +kernel
theorem dX5_followAll_22 : decode cX5_followAll 22 = .ok (.pop, 1) := by decide +kernel
theorem dX5_followAll_23 : decode cX5_followAll 23 = .ok (.iinc 1 1, 3) := by decide +kernel
theorem dX5_followAll_26 : decode cX5_followAll 26 = .ok (.goto (-24), 3) := by decide +kernel
theorem dX5_followAll_29 : decode cX5_followAll 29 = .ok (.iload_n 1, 1) := by decide +kernel
theorem dX5_followAll_30 : decode cX5_followAll 30 = .ok (.ireturn, 1) := by decide +kernel
theorem dX5_queued_0 : decode cX5_queued 0 = .ok (.aload_n 0, 1) := by decide +kernel
theorem dX5_queued_1 : decode cX5_queued 1 = .ok (.getfield 33, 3) := by decide +kernel
theorem dX5_queued_4 : decode cX5_queued 4 = .ok (.invokevirtual 194, 3) := by decide +kernel
theorem dX5_queued_7 : decode cX5_queued 7 = .ok (.ireturn, 1) := by decide +kernel
theorem dX5_nextTo_0 : decode cX5_nextTo 0 = .ok (.aload_n 0, 1) := by decide +kernel
theorem dX5_nextTo_1 : decode cX5_nextTo 1 = .ok (.getfield 33, 3) := by decide +kernel
theorem dX5_nextTo_4 : decode cX5_nextTo 4 = .ok (.invokevirtual 181, 3) := by decide +kernel
theorem dX5_nextTo_7 : decode cX5_nextTo 7 = .ok (.ireturn, 1) := by decide +kernel
theorem dX5_received_0 : decode cX5_received 0 = .ok (.aload_n 0, 1) := by decide +kernel
theorem dX5_received_1 : decode cX5_received 1 = .ok (.iload_n 1, 1) := by decide +kernel
theorem dX5_received_2 : decode cX5_received 2 = .ok (.invokevirtual 197, 3) := by decide +kernel
theorem dX5_received_5 : decode cX5_received 5 = .ok (.aload_n 0, 1) := by decide +kernel
theorem dX5_received_6 : decode cX5_received 6 = .ok (.getfield 26, 3) := by decide +kernel
theorem dX5_received_9 : decode cX5_received 9 = .ok (.iload_n 1, 1) := by decide +kernel
theorem dX5_received_10 : decode cX5_received 10 = .ok (.invokevirtual 200, 3) := by decide +kernel
theorem dX5_received_13 : decode cX5_received 13 = .ok (.ireturn, 1) := by decide +kernel
theorem dX5_doubles_0 : decode cX5_doubles 0 = .ok (.aload_n 0, 1) := by decide +kernel
theorem dX5_doubles_1 : decode cX5_doubles 1 = .ok (.iload_n 1, 1) := by decide +kernel
theorem dX5_doubles_2 : decode cX5_doubles 2 = .ok (.invokevirtual 197, 3) := by decide +kernel
theorem dX5_doubles_5 : decode cX5_doubles 5 = .ok (.aload_n 0, 1) := by decide +kernel
theorem dX5_doubles_6 : decode cX5_doubles 6 = .ok (.getfield 26, 3) := by decide +kernel
theorem dX5_doubles_9 : decode cX5_doubles 9 = .ok (.iload_n 1, 1) := by decide +kernel
theorem dX5_doubles_10 : decode cX5_doubles 10 = .ok (.invokevirtual 203, 3) := by decide +kernel
theorem dX5_doubles_13 : decode cX5_doubles 13 = .ok (.ireturn, 1) := by decide +kernel
theorem dX5_wasted_0 : decode cX5_wasted 0 = .ok (.aload_n 0, 1) := by decide +kernel
theorem dX5_wasted_1 : decode cX5_wasted 1 = .ok (.getfield 187, 3) := by decide +kernel
theorem dX5_wasted_4 : decode cX5_wasted 4 = .ok (.ireturn, 1) := by decide +kernel
theorem dX5_pass_0 : decode cX5_pass 0 = .ok (.iload_n 1, 1) := by decide +kernel
theorem dX5_pass_1 : decode cX5_pass 1 = .ok (.iconst 1, 1) := by decide +kernel
theorem dX5_pass_2 : decode cX5_pass 2 = .ok (.if_icmp .lt 9, 3) := by decide +kernel
theorem dX5_pass_5 : decode cX5_pass 5 = .ok (.iload_n 1, 1) := by decide +kernel
theorem dX5_pass_6 : decode cX5_pass 6 = .ok (.bipush 100, 2) := by decide +kernel
theorem dX5_pass_8 : decode cX5_pass 8 = .ok (.if_icmp .le 13, 3) := by decide +kernel
theorem dX5_pass_11 : decode cX5_pass 11 = .ok (.new 52, 3) := by decide +kernel
theorem dX5_pass_14 : decode cX5_pass 14 = .ok (.dup, 1) := by decide +kernel
theorem dX5_pass_15 : decode cX5_pass 15 = .ok (.ldc 206, 2) := by decide +kernel
theorem dX5_pass_17 : decode cX5_pass 17 = .ok (.invokespecial 56, 3) := by decide +kernel
theorem dX5_pass_20 : decode cX5_pass 20 = .ok (.athrow, 1) := by decide +kernel
theorem dX5_pass_21 : decode cX5_pass 21 = .ok (.iconst 0, 1) := by decide +kernel
theorem dX5_pass_22 : decode cX5_pass 22 = .ok (.istore_n 2, 1) := by decide +kernel
theorem dX5_pass_23 : decode cX5_pass 23 = .ok (.iconst 0, 1) := by decide +kernel
theorem dX5_pass_24 : decode cX5_pass 24 = .ok (.istore_n 3, 1) := by decide +kernel
theorem dX5_pass_25 : decode cX5_pass 25 = .ok (.iload_n 3, 1) := by decide +kernel
theorem dX5_pass_26 : decode cX5_pass 26 = .ok (.iload_n 1, 1) := by decide +kernel
theorem dX5_pass_27 : decode cX5_pass 27 = .ok (.if_icmp .ge 50, 3) := by decide +kernel
theorem dX5_pass_30 : decode cX5_pass 30 = .ok (.aload_n 0, 1) := by decide +kernel
theorem dX5_pass_31 : decode cX5_pass 31 = .ok (.dup, 1) := by decide +kernel
theorem dX5_pass_32 : decode cX5_pass 32 = .ok (.getfield 128, 3) := by decide +kernel
theorem dX5_pass_35 : decode cX5_pass 35 = .ok (.iconst 1, 1) := by decide +kernel
theorem dX5_pass_36 : decode cX5_pass 36 = .ok (.iadd, 1) := by decide +kernel
theorem dX5_pass_37 : decode cX5_pass 37 = .ok (.putfield 128, 3) := by decide +kernel
theorem dX5_pass_40 : decode cX5_pass 40 = .ok (.iload_n 2, 1) := by decide +kernel
theorem dX5_pass_41 : decode cX5_pass 41 = .ok (.aload_n 0, 1) := by decide +kernel
theorem dX5_pass_42 : decode cX5_pass 42 = .ok (.getfield 19, 3) := by decide +kernel
theorem dX5_pass_45 : decode cX5_pass 45 = .ok (.aload_n 0, 1) := by decide +kernel
theorem dX5_pass_46 : decode cX5_pass 46 = .ok (.getfield 128, 3) := by decide +kernel
theorem dX5_pass_49 : decode cX5_pass 49 = .ok (.invokevirtual 208, 3) := by decide +kernel
theorem dX5_pass_52 : decode cX5_pass 52 = .ok (.iadd, 1) := by decide +kernel
theorem dX5_pass_53 : decode cX5_pass 53 = .ok (.istore_n 2, 1) := by decide +kernel
theorem dX5_pass_54 : decode cX5_pass 54 = .ok (.aload_n 0, 1) := by decide +kernel
theorem dX5_pass_55 : decode cX5_pass 55 = .ok (.getfield 128, 3) := by decide +kernel
theorem dX5_pass_58 : decode cX5_pass 58 = .ok (.bipush 10, 2) := by decide +kernel
theorem dX5_pass_60 : decode cX5_pass 60 = .ok (.irem, 1) := by decide +kernel
theorem dX5_pass_61 : decode cX5_pass 61 = .ok (.ifCond .ne 10, 3) := by decide +kernel
theorem dX5_pass_64 : decode cX5_pass 64 = .ok (.aload_n 0, 1) := by decide +kernel
theorem dX5_pass_65 : decode cX5_pass 65 = .ok (.getfield 40, 3) := by decide +kernel
theorem dX5_pass_68 : decode cX5_pass 68 = .ok (.invokevirtual 211, 3) := by decide +kernel
theorem dX5_pass_71 : decode cX5_pass 71 = .ok (.iinc 3 1, 3) := by decide +kernel
theorem dX5_pass_74 : decode cX5_pass 74 = .ok (.goto (-49), 3) := by decide +kernel
theorem dX5_pass_77 : decode cX5_pass 77 = .ok (.iload_n 2, 1) := by decide +kernel
theorem dX5_pass_78 : decode cX5_pass 78 = .ok (.ireturn, 1) := by decide +kernel
theorem dX5_clock_0 : decode cX5_clock 0 = .ok (.aload_n 0, 1) := by decide +kernel
theorem dX5_clock_1 : decode cX5_clock 1 = .ok (.getfield 128, 3) := by decide +kernel
theorem dX5_clock_4 : decode cX5_clock 4 = .ok (.ireturn, 1) := by decide +kernel
theorem dX5_floodMembers_0 : decode cX5_floodMembers 0 = .ok (.iload_n 1, 1) := by decide +kernel
theorem dX5_floodMembers_1 : decode cX5_floodMembers 1 = .ok (.invokestatic 48, 3) := by decide +kernel
theorem dX5_floodMembers_4 : decode cX5_floodMembers 4 = .ok (.iload_n 2, 1) := by decide +kernel
theorem dX5_floodMembers_5 : decode cX5_floodMembers 5 = .ok (.invokestatic 100, 3) := by decide +kernel
theorem dX5_floodMembers_8 : decode cX5_floodMembers 8 = .ok (.aload_n 0, 1) := by decide +kernel
theorem dX5_floodMembers_9 : decode cX5_floodMembers 9 = .ok (.iload_n 2, 1) := by decide +kernel
theorem dX5_floodMembers_10 : decode cX5_floodMembers 10 = .ok (.invokevirtual 118, 3) := by decide +kernel
theorem dX5_floodMembers_13 : decode cX5_floodMembers 13 = .ok (.aload_n 0, 1) := by decide +kernel
theorem dX5_floodMembers_14 : decode cX5_floodMembers 14 = .ok (.iload_n 1, 1) := by decide +kernel
theorem dX5_floodMembers_15 : decode cX5_floodMembers 15 = .ok (.invokevirtual 214, 3) := by decide +kernel
theorem dX5_floodMembers_18 : decode cX5_floodMembers 18 = .ok (.iand, 1) := by decide +kernel
theorem dX5_floodMembers_19 : decode cX5_floodMembers 19 = .ok (.ireturn, 1) := by decide +kernel
theorem dX5_floodCopies_0 : decode cX5_floodCopies 0 = .ok (.iload_n 1, 1) := by decide +kernel
theorem dX5_floodCopies_1 : decode cX5_floodCopies 1 = .ok (.invokestatic 48, 3) := by decide +kernel
theorem dX5_floodCopies_4 : decode cX5_floodCopies 4 = .ok (.aload_n 0, 1) := by decide +kernel
theorem dX5_floodCopies_5 : decode cX5_floodCopies 5 = .ok (.iload_n 1, 1) := by decide +kernel
theorem dX5_floodCopies_6 : decode cX5_floodCopies 6 = .ok (.invokevirtual 214, 3) := by decide +kernel
theorem dX5_floodCopies_9 : decode cX5_floodCopies 9 = .ok (.istore_n 2, 1) := by decide +kernel
theorem dX5_floodCopies_10 : decode cX5_floodCopies 10 = .ok (.iconst 0, 1) := by decide +kernel
theorem dX5_floodCopies_11 : decode cX5_floodCopies 11 = .ok (.istore_n 3, 1) := by decide +kernel
theorem dX5_floodCopies_12 : decode cX5_floodCopies 12 = .ok (.iconst 0, 1) := by decide +kernel
theorem dX5_floodCopies_13 : decode cX5_floodCopies 13 = .ok (.istore 4, 2) := by decide +kernel
theorem dX5_floodCopies_15 : decode cX5_floodCopies 15 = .ok (.iload 4, 2) := by decide +kernel
theorem dX5_floodCopies_17 : decode cX5_floodCopies 17 = .ok (.bipush 10, 2) := by decide +kernel
theorem dX5_floodCopies_19 : decode cX5_floodCopies 19 = .ok (.if_icmp .ge 42, 3) := by decide +kernel
theorem dX5_floodCopies_22 : decode cX5_floodCopies 22 = .ok (.iload_n 2, 1) := by decide +kernel
theorem dX5_floodCopies_23 : decode cX5_floodCopies 23 = .ok (.iload 4, 2) := by decide +kernel
theorem dX5_floodCopies_25 : decode cX5_floodCopies 25 = .ok (.invokestatic 74, 3) := by decide +kernel
theorem dX5_floodCopies_28 : decode cX5_floodCopies 28 = .ok (.ifCond .eq 27, 3) := by decide +kernel
theorem dX5_floodCopies_31 : decode cX5_floodCopies 31 = .ok (.iload_n 3, 1) := by decide +kernel
theorem dX5_floodCopies_32 : decode cX5_floodCopies 32 = .ok (.aload_n 0, 1) := by decide +kernel
theorem dX5_floodCopies_33 : decode cX5_floodCopies 33 = .ok (.getfield 12, 3) := by decide +kernel
theorem dX5_floodCopies_36 : decode cX5_floodCopies 36 = .ok (.iload 4, 2) := by decide +kernel
theorem dX5_floodCopies_38 : decode cX5_floodCopies 38 = .ok (.invokevirtual 217, 3) := by decide +kernel
theorem dX5_floodCopies_41 : decode cX5_floodCopies 41 = .ok (.iload 4, 2) := by decide +kernel
theorem dX5_floodCopies_43 : decode cX5_floodCopies 43 = .ok (.iload_n 1, 1) := by decide +kernel
theorem dX5_floodCopies_44 : decode cX5_floodCopies 44 = .ok (.if_icmp .ne 7, 3) := by decide +kernel
theorem dX5_floodCopies_47 : decode cX5_floodCopies 47 = .ok (.iconst 0, 1) := by decide +kernel
theorem dX5_floodCopies_48 : decode cX5_floodCopies 48 = .ok (.goto 4, 3) := by decide +kernel
theorem dX5_floodCopies_51 : decode cX5_floodCopies 51 = .ok (.iconst 1, 1) := by decide +kernel
theorem dX5_floodCopies_52 : decode cX5_floodCopies 52 = .ok (.isub, 1) := by decide +kernel
theorem dX5_floodCopies_53 : decode cX5_floodCopies 53 = .ok (.iadd, 1) := by decide +kernel
theorem dX5_floodCopies_54 : decode cX5_floodCopies 54 = .ok (.istore_n 3, 1) := by decide +kernel
theorem dX5_floodCopies_55 : decode cX5_floodCopies 55 = .ok (.iinc 4 1, 3) := by decide +kernel
theorem dX5_floodCopies_58 : decode cX5_floodCopies 58 = .ok (.goto (-43), 3) := by decide +kernel
theorem dX5_floodCopies_61 : decode cX5_floodCopies 61 = .ok (.iload_n 3, 1) := by decide +kernel
theorem dX5_floodCopies_62 : decode cX5_floodCopies 62 = .ok (.ireturn, 1) := by decide +kernel
theorem dX5_floodedFrom_0 : decode cX5_floodedFrom 0 = .ok (.iconst 0, 1) := by decide +kernel
theorem dX5_floodedFrom_1 : decode cX5_floodedFrom 1 = .ok (.istore_n 2, 1) := by decide +kernel
theorem dX5_floodedFrom_2 : decode cX5_floodedFrom 2 = .ok (.iconst 0, 1) := by decide +kernel
theorem dX5_floodedFrom_3 : decode cX5_floodedFrom 3 = .ok (.istore_n 3, 1) := by decide +kernel
theorem dX5_floodedFrom_4 : decode cX5_floodedFrom 4 = .ok (.iload_n 3, 1) := by decide +kernel
theorem dX5_floodedFrom_5 : decode cX5_floodedFrom 5 = .ok (.bipush 10, 2) := by decide +kernel
theorem dX5_floodedFrom_7 : decode cX5_floodedFrom 7 = .ok (.if_icmp .ge 29, 3) := by decide +kernel
theorem dX5_floodedFrom_10 : decode cX5_floodedFrom 10 = .ok (.aload_n 0, 1) := by decide +kernel
theorem dX5_floodedFrom_11 : decode cX5_floodedFrom 11 = .ok (.getfield 12, 3) := by decide +kernel
theorem dX5_floodedFrom_14 : decode cX5_floodedFrom 14 = .ok (.iload_n 1, 1) := by decide +kernel
theorem dX5_floodedFrom_15 : decode cX5_floodedFrom 15 = .ok (.iload_n 3, 1) := by decide +kernel
theorem dX5_floodedFrom_16 : decode cX5_floodedFrom 16 = .ok (.invokevirtual 94, 3) := by decide +kernel
theorem dX5_floodedFrom_19 : decode cX5_floodedFrom 19 = .ok (.iconst (-1), 1) := by decide +kernel
theorem dX5_floodedFrom_20 : decode cX5_floodedFrom 20 = .ok (.if_icmp .eq 10, 3) := by decide +kernel
theorem dX5_floodedFrom_23 : decode cX5_floodedFrom 23 = .ok (.iload_n 2, 1) := by decide +kernel
theorem dX5_floodedFrom_24 : decode cX5_floodedFrom 24 = .ok (.iload_n 3, 1) := by decide +kernel
theorem dX5_floodedFrom_25 : decode cX5_floodedFrom 25 = .ok (.invokestatic 78, 3) := by decide +kernel
theorem dX5_floodedFrom_28 : decode cX5_floodedFrom 28 = .ok (.ior, 1) := by decide +kernel
theorem dX5_floodedFrom_29 : decode cX5_floodedFrom 29 = .ok (.istore_n 2, 1) := by decide +kernel
theorem dX5_floodedFrom_30 : decode cX5_floodedFrom 30 = .ok (.iinc 3 1, 3) := by decide +kernel
theorem dX5_floodedFrom_33 : decode cX5_floodedFrom 33 = .ok (.goto (-29), 3) := by decide +kernel
theorem dX5_floodedFrom_36 : decode cX5_floodedFrom 36 = .ok (.iload_n 2, 1) := by decide +kernel
theorem dX5_floodedFrom_37 : decode cX5_floodedFrom 37 = .ok (.ireturn, 1) := by decide +kernel
theorem dX5_bestCandidate_0 : decode cX5_bestCandidate 0 = .ok (.iconst (-1), 1) := by decide +kernel
theorem dX5_bestCandidate_1 : decode cX5_bestCandidate 1 = .ok (.istore_n 2, 1) := by decide +kernel
theorem dX5_bestCandidate_2 : decode cX5_bestCandidate 2 = .ok (.iconst (-1), 1) := by decide +kernel
theorem dX5_bestCandidate_3 : decode cX5_bestCandidate 3 = .ok (.istore_n 3, 1) := by decide +kernel
theorem dX5_bestCandidate_4 : decode cX5_bestCandidate 4 = .ok (.iconst 0, 1) := by decide +kernel
theorem dX5_bestCandidate_5 : decode cX5_bestCandidate 5 = .ok (.istore 4, 2) := by decide +kernel
theorem dX5_bestCandidate_7 : decode cX5_bestCandidate 7 = .ok (.iload 4, 2) := by decide +kernel
theorem dX5_bestCandidate_9 : decode cX5_bestCandidate 9 = .ok (.bipush 10, 2) := by decide +kernel
theorem dX5_bestCandidate_11 : decode cX5_bestCandidate 11 = .ok (.if_icmp .ge 55, 3) := by decide +kernel
theorem dX5_bestCandidate_14 : decode cX5_bestCandidate 14 = .ok (.bipush 31, 2) := by decide +kernel
theorem dX5_bestCandidate_16 : decode cX5_bestCandidate 16 = .ok (.iload_n 1, 1) := by decide +kernel
theorem dX5_bestCandidate_17 : decode cX5_bestCandidate 17 = .ok (.imul, 1) := by decide +kernel
theorem dX5_bestCandidate_18 : decode cX5_bestCandidate 18 = .ok (.bipush 17, 2) := by decide +kernel
theorem dX5_bestCandidate_20 : decode cX5_bestCandidate 20 = .ok (.iadd, 1) := by decide +kernel
theorem dX5_bestCandidate_21 : decode cX5_bestCandidate 21 = .ok (.bipush 53, 2) := by decide +kernel
theorem dX5_bestCandidate_23 : decode cX5_bestCandidate 23 = .ok (.iload 4, 2) := by decide +kernel
theorem dX5_bestCandidate_25 : decode cX5_bestCandidate 25 = .ok (.imul, 1) := by decide +kernel
theorem dX5_bestCandidate_26 : decode cX5_bestCandidate 26 = .ok (.bipush 29, 2) := by decide +kernel
theorem dX5_bestCandidate_28 : decode cX5_bestCandidate 28 = .ok (.iadd, 1) := by decide +kernel
theorem dX5_bestCandidate_29 : decode cX5_bestCandidate 29 = .ok (.imul, 1) := by decide +kernel
theorem dX5_bestCandidate_30 : decode cX5_bestCandidate 30 = .ok (.sipush 997, 3) := by decide +kernel
theorem dX5_bestCandidate_33 : decode cX5_bestCandidate 33 = .ok (.irem, 1) := by decide +kernel
theorem dX5_bestCandidate_34 : decode cX5_bestCandidate 34 = .ok (.istore 5, 2) := by decide +kernel
theorem dX5_bestCandidate_36 : decode cX5_bestCandidate 36 = .ok (.aload_n 0, 1) := by decide +kernel
theorem dX5_bestCandidate_37 : decode cX5_bestCandidate 37 = .ok (.getfield 71, 3) := by decide +kernel
theorem dX5_bestCandidate_40 : decode cX5_bestCandidate 40 = .ok (.iload 4, 2) := by decide +kernel
theorem dX5_bestCandidate_42 : decode cX5_bestCandidate 42 = .ok (.invokestatic 74, 3) := by decide +kernel
theorem dX5_bestCandidate_45 : decode cX5_bestCandidate 45 = .ok (.ifCond .eq 15, 3) := by decide +kernel
theorem dX5_bestCandidate_48 : decode cX5_bestCandidate 48 = .ok (.iload 5, 2) := by decide +kernel
theorem dX5_bestCandidate_50 : decode cX5_bestCandidate 50 = .ok (.iload_n 3, 1) := by decide +kernel
theorem dX5_bestCandidate_51 : decode cX5_bestCandidate 51 = .ok (.if_icmp .le 9, 3) := by decide +kernel
theorem dX5_bestCandidate_54 : decode cX5_bestCandidate 54 = .ok (.iload 4, 2) := by decide +kernel
theorem dX5_bestCandidate_56 : decode cX5_bestCandidate 56 = .ok (.istore_n 2, 1) := by decide +kernel
theorem dX5_bestCandidate_57 : decode cX5_bestCandidate 57 = .ok (.iload 5, 2) := by decide +kernel
theorem dX5_bestCandidate_59 : decode cX5_bestCandidate 59 = .ok (.istore_n 3, 1) := by decide +kernel
theorem dX5_bestCandidate_60 : decode cX5_bestCandidate 60 = .ok (.iinc 4 1, 3) := by decide +kernel
theorem dX5_bestCandidate_63 : decode cX5_bestCandidate 63 = .ok (.goto (-56), 3) := by decide +kernel
theorem dX5_bestCandidate_66 : decode cX5_bestCandidate 66 = .ok (.iload_n 2, 1) := by decide +kernel
theorem dX5_bestCandidate_67 : decode cX5_bestCandidate 67 = .ok (.ireturn, 1) := by decide +kernel
theorem dX5_membersOf_0 : decode cX5_membersOf 0 = .ok (.aload_n 0, 1) := by decide +kernel
theorem dX5_membersOf_1 : decode cX5_membersOf 1 = .ok (.getfield 19, 3) := by decide +kernel
theorem dX5_membersOf_4 : decode cX5_membersOf 4 = .ok (.iload_n 1, 1) := by decide +kernel
theorem dX5_membersOf_5 : decode cX5_membersOf 5 = .ok (.invokestatic 82, 3) := by decide +kernel
theorem dX5_membersOf_8 : decode cX5_membersOf 8 = .ok (.invokevirtual 140, 3) := by decide +kernel
theorem dX5_membersOf_11 : decode cX5_membersOf 11 = .ok (.ireturn, 1) := by decide +kernel
theorem dX5_isMember_0 : decode cX5_isMember 0 = .ok (.aload_n 0, 1) := by decide +kernel
theorem dX5_isMember_1 : decode cX5_isMember 1 = .ok (.iload_n 2, 1) := by decide +kernel
theorem dX5_isMember_2 : decode cX5_isMember 2 = .ok (.invokevirtual 118, 3) := by decide +kernel
theorem dX5_isMember_5 : decode cX5_isMember 5 = .ok (.iload_n 1, 1) := by decide +kernel
theorem dX5_isMember_6 : decode cX5_isMember 6 = .ok (.invokestatic 74, 3) := by decide +kernel
theorem dX5_isMember_9 : decode cX5_isMember 9 = .ok (.ireturn, 1) := by decide +kernel
theorem dX5_getPacket_0 : decode cX5_getPacket 0 = .ok (.aload_n 0, 1) := by decide +kernel
theorem dX5_getPacket_1 : decode cX5_getPacket 1 = .ok (.getfield 26, 3) := by decide +kernel
theorem dX5_getPacket_4 : decode cX5_getPacket 4 = .ok (.iload_n 1, 1) := by decide +kernel
theorem dX5_getPacket_5 : decode cX5_getPacket 5 = .ok (.invokevirtual 220, 3) := by decide +kernel
theorem dX5_getPacket_8 : decode cX5_getPacket 8 = .ok (.istore 4, 2) := by decide +kernel
theorem dX5_getPacket_10 : decode cX5_getPacket 10 = .ok (.aload_n 0, 1) := by decide +kernel
theorem dX5_getPacket_11 : decode cX5_getPacket 11 = .ok (.iload_n 3, 1) := by decide +kernel
theorem dX5_getPacket_12 : decode cX5_getPacket 12 = .ok (.iload 4, 2) := by decide +kernel
theorem dX5_getPacket_14 : decode cX5_getPacket 14 = .ok (.invokevirtual 106, 3) := by decide +kernel
theorem dX5_getPacket_17 : decode cX5_getPacket 17 = .ok (.istore 5, 2) := by decide +kernel
theorem dX5_getPacket_19 : decode cX5_getPacket 19 = .ok (.aload_n 0, 1) := by decide +kernel
theorem dX5_getPacket_20 : decode cX5_getPacket 20 = .ok (.getfield 26, 3) := by decide +kernel
theorem dX5_getPacket_23 : decode cX5_getPacket 23 = .ok (.iload_n 1, 1) := by decide +kernel
theorem dX5_getPacket_24 : decode cX5_getPacket 24 = .ok (.invokevirtual 200, 3) := by decide +kernel
theorem dX5_getPacket_27 : decode cX5_getPacket 27 = .ok (.iload_n 3, 1) := by decide +kernel
theorem dX5_getPacket_28 : decode cX5_getPacket 28 = .ok (.invokestatic 74, 3) := by decide +kernel
theorem dX5_getPacket_31 : decode cX5_getPacket 31 = .ok (.istore 6, 2) := by decide +kernel
theorem dX5_getPacket_33 : decode cX5_getPacket 33 = .ok (.iload 5, 2) := by decide +kernel
theorem dX5_getPacket_35 : decode cX5_getPacket 35 = .ok (.ifCond .eq 16, 3) := by decide +kernel
theorem dX5_getPacket_38 : decode cX5_getPacket 38 = .ok (.iload 6, 2) := by decide +kernel
theorem dX5_getPacket_40 : decode cX5_getPacket 40 = .ok (.ifCond .eq 11, 3) := by decide +kernel
theorem dX5_getPacket_43 : decode cX5_getPacket 43 = .ok (.aload_n 0, 1) := by decide +kernel
theorem dX5_getPacket_44 : decode cX5_getPacket 44 = .ok (.getfield 26, 3) := by decide +kernel
theorem dX5_getPacket_47 : decode cX5_getPacket 47 = .ok (.iload_n 1, 1) := by decide +kernel
theorem dX5_getPacket_48 : decode cX5_getPacket 48 = .ok (.invokevirtual 223, 3) := by decide +kernel
theorem dX5_getPacket_51 : decode cX5_getPacket 51 = .ok (.iload 5, 2) := by decide +kernel
theorem dX5_getPacket_53 : decode cX5_getPacket 53 = .ok (.ifCond .eq 12, 3) := by decide +kernel
theorem dX5_getPacket_56 : decode cX5_getPacket 56 = .ok (.iload 6, 2) := by decide +kernel
theorem dX5_getPacket_58 : decode cX5_getPacket 58 = .ok (.ifCond .ne 7, 3) := by decide +kernel
theorem dX5_getPacket_61 : decode cX5_getPacket 61 = .ok (.iconst 1, 1) := by decide +kernel
theorem dX5_getPacket_62 : decode cX5_getPacket 62 = .ok (.goto 4, 3) := by decide +kernel
theorem dX5_getPacket_65 : decode cX5_getPacket 65 = .ok (.iconst 0, 1) := by decide +kernel
theorem dX5_getPacket_66 : decode cX5_getPacket 66 = .ok (.istore 7, 2) := by decide +kernel
theorem dX5_getPacket_68 : decode cX5_getPacket 68 = .ok (.iload 7, 2) := by decide +kernel
theorem dX5_getPacket_70 : decode cX5_getPacket 70 = .ok (.ifCond .eq 12, 3) := by decide +kernel
theorem dX5_getPacket_73 : decode cX5_getPacket 73 = .ok (.aload_n 0, 1) := by decide +kernel
theorem dX5_getPacket_74 : decode cX5_getPacket 74 = .ok (.getfield 26, 3) := by decide +kernel
theorem dX5_getPacket_77 : decode cX5_getPacket 77 = .ok (.iload_n 1, 1) := by decide +kernel
theorem dX5_getPacket_78 : decode cX5_getPacket 78 = .ok (.iload_n 3, 1) := by decide +kernel
theorem dX5_getPacket_79 : decode cX5_getPacket 79 = .ok (.invokevirtual 159, 3) := by decide +kernel
theorem dX5_getPacket_82 : decode cX5_getPacket 82 = .ok (.aload_n 0, 1) := by decide +kernel
theorem dX5_getPacket_83 : decode cX5_getPacket 83 = .ok (.getfield 26, 3) := by decide +kernel
theorem dX5_getPacket_86 : decode cX5_getPacket 86 = .ok (.iload_n 1, 1) := by decide +kernel
theorem dX5_getPacket_87 : decode cX5_getPacket 87 = .ok (.invokevirtual 226, 3) := by decide +kernel
theorem dX5_getPacket_90 : decode cX5_getPacket 90 = .ok (.istore 8, 2) := by decide +kernel
theorem dX5_getPacket_92 : decode cX5_getPacket 92 = .ok (.iload 7, 2) := by decide +kernel
theorem dX5_getPacket_94 : decode cX5_getPacket 94 = .ok (.ifCond .eq 41, 3) := by decide +kernel
theorem dX5_getPacket_97 : decode cX5_getPacket 97 = .ok (.iload_n 2, 1) := by decide +kernel
theorem dX5_getPacket_98 : decode cX5_getPacket 98 = .ok (.invokestatic 229, 3) := by decide +kernel
theorem dX5_getPacket_101 : decode cX5_getPacket 101 = .ok (.ifCond .eq 34, 3) := by decide +kernel
theorem dX5_getPacket_104 : decode cX5_getPacket 104 = .ok (.aload_n 0, 1) := by decide +kernel
theorem dX5_getPacket_105 : decode cX5_getPacket 105 = .ok (.iload_n 3, 1) := by decide +kernel
theorem dX5_getPacket_106 : decode cX5_getPacket 106 = .ok (.iload 8, 2) := by decide +kernel
theorem dX5_getPacket_108 : decode cX5_getPacket 108 = .ok (.iload 4, 2) := by decide +kernel
theorem dX5_getPacket_110 : decode cX5_getPacket 110 = .ok (.invokevirtual 233, 3) := by decide +kernel
theorem dX5_getPacket_113 : decode cX5_getPacket 113 = .ok (.ifCond .eq 22, 3) := by decide +kernel
theorem dX5_getPacket_116 : decode cX5_getPacket 116 = .ok (.aload_n 0, 1) := by decide +kernel
theorem dX5_getPacket_117 : decode cX5_getPacket 117 = .ok (.getfield 19, 3) := by decide +kernel
theorem dX5_getPacket_120 : decode cX5_getPacket 120 = .ok (.iload 8, 2) := by decide +kernel
theorem dX5_getPacket_122 : decode cX5_getPacket 122 = .ok (.iload 4, 2) := by decide +kernel
theorem dX5_getPacket_124 : decode cX5_getPacket 124 = .ok (.invokestatic 134, 3) := by decide +kernel
theorem dX5_getPacket_127 : decode cX5_getPacket 127 = .ok (.iload_n 3, 1) := by decide +kernel
theorem dX5_getPacket_128 : decode cX5_getPacket 128 = .ok (.aload_n 0, 1) := by decide +kernel
theorem dX5_getPacket_129 : decode cX5_getPacket 129 = .ok (.getfield 12, 3) := by decide +kernel
theorem dX5_getPacket_132 : decode cX5_getPacket 132 = .ok (.invokevirtual 114, 3) := by decide +kernel
theorem dX5_getPacket_135 : decode cX5_getPacket 135 = .ok (.aload_n 0, 1) := by decide +kernel
theorem dX5_getPacket_136 : decode cX5_getPacket 136 = .ok (.iload_n 1, 1) := by decide +kernel
theorem dX5_getPacket_137 : decode cX5_getPacket 137 = .ok (.iload_n 2, 1) := by decide +kernel
theorem dX5_getPacket_138 : decode cX5_getPacket 138 = .ok (.iload_n 3, 1) := by decide +kernel
theorem dX5_getPacket_139 : decode cX5_getPacket 139 = .ok (.invokevirtual 166, 3) := by decide +kernel
theorem dX5_getPacket_142 : decode cX5_getPacket 142 = .ok (.iload 7, 2) := by decide +kernel
theorem dX5_getPacket_144 : decode cX5_getPacket 144 = .ok (.ireturn, 1) := by decide +kernel
theorem dX5_countSaysSwitch_0 : decode cX5_countSaysSwitch 0 = .ok (.aload_n 0, 1) := by decide +kernel
theorem dX5_countSaysSwitch_1 : decode cX5_countSaysSwitch 1 = .ok (.getfield 40, 3) := by decide +kernel
theorem dX5_countSaysSwitch_4 : decode cX5_countSaysSwitch 4 = .ok (.iload_n 1, 1) := by decide +kernel
theorem dX5_countSaysSwitch_5 : decode cX5_countSaysSwitch 5 = .ok (.iload_n 2, 1) := by decide +kernel
theorem dX5_countSaysSwitch_6 : decode cX5_countSaysSwitch 6 = .ok (.iload_n 3, 1) := by decide +kernel
theorem dX5_countSaysSwitch_7 : decode cX5_countSaysSwitch 7 = .ok (.invokevirtual 236, 3) := by decide +kernel
theorem dX5_countSaysSwitch_10 : decode cX5_countSaysSwitch 10 = .ok (.istore 4, 2) := by decide +kernel
theorem dX5_countSaysSwitch_12 : decode cX5_countSaysSwitch 12 = .ok (.aload_n 0, 1) := by decide +kernel
theorem dX5_countSaysSwitch_13 : decode cX5_countSaysSwitch 13 = .ok (.getfield 19, 3) := by decide +kernel
theorem dX5_countSaysSwitch_16 : decode cX5_countSaysSwitch 16 = .ok (.iload_n 2, 1) := by decide +kernel
theorem dX5_countSaysSwitch_17 : decode cX5_countSaysSwitch 17 = .ok (.iload_n 3, 1) := by decide +kernel
theorem dX5_countSaysSwitch_18 : decode cX5_countSaysSwitch 18 = .ok (.invokestatic 134, 3) := by decide +kernel
theorem dX5_countSaysSwitch_21 : decode cX5_countSaysSwitch 21 = .ok (.invokevirtual 140, 3) := by decide +kernel
theorem dX5_countSaysSwitch_24 : decode cX5_countSaysSwitch 24 = .ok (.istore 5, 2) := by decide +kernel
theorem dX5_countSaysSwitch_26 : decode cX5_countSaysSwitch 26 = .ok (.iload 4, 2) := by decide +kernel
theorem dX5_countSaysSwitch_28 : decode cX5_countSaysSwitch 28 = .ok (.aload_n 0, 1) := by decide +kernel
theorem dX5_countSaysSwitch_29 : decode cX5_countSaysSwitch 29 = .ok (.getfield 44, 3) := by decide +kernel
theorem dX5_countSaysSwitch_32 : decode cX5_countSaysSwitch 32 = .ok (.if_icmp .lt 21, 3) := by decide +kernel
theorem dX5_countSaysSwitch_35 : decode cX5_countSaysSwitch 35 = .ok (.iload_n 1, 1) := by decide +kernel
theorem dX5_countSaysSwitch_36 : decode cX5_countSaysSwitch 36 = .ok (.iload_n 2, 1) := by decide +kernel
theorem dX5_countSaysSwitch_37 : decode cX5_countSaysSwitch 37 = .ok (.if_icmp .eq 16, 3) := by decide +kernel
theorem dX5_countSaysSwitch_40 : decode cX5_countSaysSwitch 40 = .ok (.iload 5, 2) := by decide +kernel
theorem dX5_countSaysSwitch_42 : decode cX5_countSaysSwitch 42 = .ok (.iload_n 1, 1) := by decide +kernel
theorem dX5_countSaysSwitch_43 : decode cX5_countSaysSwitch 43 = .ok (.invokestatic 74, 3) := by decide +kernel
theorem dX5_countSaysSwitch_46 : decode cX5_countSaysSwitch 46 = .ok (.ifCond .ne 7, 3) := by decide +kernel
theorem dX5_countSaysSwitch_49 : decode cX5_countSaysSwitch 49 = .ok (.iconst 1, 1) := by decide +kernel
theorem dX5_countSaysSwitch_50 : decode cX5_countSaysSwitch 50 = .ok (.goto 4, 3) := by decide +kernel
theorem dX5_countSaysSwitch_53 : decode cX5_countSaysSwitch 53 = .ok (.iconst 0, 1) := by decide +kernel
theorem dX5_countSaysSwitch_54 : decode cX5_countSaysSwitch 54 = .ok (.ireturn, 1) := by decide +kernel
theorem dX5_goOn_0 : decode cX5_goOn 0 = .ok (.aload_n 0, 1) := by decide +kernel
theorem dX5_goOn_1 : decode cX5_goOn 1 = .ok (.getfield 19, 3) := by decide +kernel
theorem dX5_goOn_4 : decode cX5_goOn 4 = .ok (.iload_n 2, 1) := by decide +kernel
theorem dX5_goOn_5 : decode cX5_goOn 5 = .ok (.iload_n 3, 1) := by decide +kernel
theorem dX5_goOn_6 : decode cX5_goOn 6 = .ok (.invokevirtual 143, 3) := by decide +kernel
theorem dX5_goOn_9 : decode cX5_goOn 9 = .ok (.istore 4, 2) := by decide +kernel
theorem dX5_goOn_11 : decode cX5_goOn 11 = .ok (.iconst 0, 1) := by decide +kernel
theorem dX5_goOn_12 : decode cX5_goOn 12 = .ok (.istore 5, 2) := by decide +kernel
theorem dX5_goOn_14 : decode cX5_goOn 14 = .ok (.iload 5, 2) := by decide +kernel
theorem dX5_goOn_16 : decode cX5_goOn 16 = .ok (.bipush 10, 2) := by decide +kernel
theorem dX5_goOn_18 : decode cX5_goOn 18 = .ok (.if_icmp .ge 44, 3) := by decide +kernel
theorem dX5_goOn_21 : decode cX5_goOn 21 = .ok (.iload 4, 2) := by decide +kernel
theorem dX5_goOn_23 : decode cX5_goOn 23 = .ok (.iload 5, 2) := by decide +kernel
theorem dX5_goOn_25 : decode cX5_goOn 25 = .ok (.invokestatic 74, 3) := by decide +kernel
theorem dX5_goOn_28 : decode cX5_goOn 28 = .ok (.ifCond .eq 28, 3) := by decide +kernel
theorem dX5_goOn_31 : decode cX5_goOn 31 = .ok (.aload_n 0, 1) := by decide +kernel
theorem dX5_goOn_32 : decode cX5_goOn 32 = .ok (.getfield 33, 3) := by decide +kernel
theorem dX5_goOn_35 : decode cX5_goOn 35 = .ok (.iload_n 1, 1) := by decide +kernel
theorem dX5_goOn_36 : decode cX5_goOn 36 = .ok (.iload_n 2, 1) := by decide +kernel
theorem dX5_goOn_37 : decode cX5_goOn 37 = .ok (.iload_n 3, 1) := by decide +kernel
theorem dX5_goOn_38 : decode cX5_goOn 38 = .ok (.iload 5, 2) := by decide +kernel
theorem dX5_goOn_40 : decode cX5_goOn 40 = .ok (.invokevirtual 240, 3) := by decide +kernel
theorem dX5_goOn_43 : decode cX5_goOn 43 = .ok (.ifCond .ne 13, 3) := by decide +kernel
theorem dX5_goOn_46 : decode cX5_goOn 46 = .ok (.aload_n 0, 1) := by decide +kernel
theorem dX5_goOn_47 : decode cX5_goOn 47 = .ok (.dup, 1) := by decide +kernel
theorem dX5_goOn_48 : decode cX5_goOn 48 = .ok (.getfield 187, 3) := by decide +kernel
theorem dX5_goOn_51 : decode cX5_goOn 51 = .ok (.iconst 1, 1) := by decide +kernel
theorem dX5_goOn_52 : decode cX5_goOn 52 = .ok (.iadd, 1) := by decide +kernel
theorem dX5_goOn_53 : decode cX5_goOn 53 = .ok (.putfield 187, 3) := by decide +kernel
theorem dX5_goOn_56 : decode cX5_goOn 56 = .ok (.iinc 5 1, 3) := by decide +kernel
theorem dX5_goOn_59 : decode cX5_goOn 59 = .ok (.goto (-45), 3) := by decide +kernel
theorem dX5_goOn_62 : decode cX5_goOn 62 = .ok (.return_, 1) := by decide +kernel
theorem dX5_checkPacket_0 : decode cX5_checkPacket 0 = .ok (.aload_n 0, 1) := by decide +kernel
theorem dX5_checkPacket_1 : decode cX5_checkPacket 1 = .ok (.getfield 26, 3) := by decide +kernel
theorem dX5_checkPacket_4 : decode cX5_checkPacket 4 = .ok (.iload_n 1, 1) := by decide +kernel
theorem dX5_checkPacket_5 : decode cX5_checkPacket 5 = .ok (.invokevirtual 244, 3) := by decide +kernel
theorem dX5_checkPacket_8 : decode cX5_checkPacket 8 = .ok (.ifCond .ne 13, 3) := by decide +kernel
theorem dX5_checkPacket_11 : decode cX5_checkPacket 11 = .ok (.new 247, 3) := by decide +kernel
theorem dX5_checkPacket_14 : decode cX5_checkPacket 14 = .ok (.dup, 1) := by decide +kernel
theorem dX5_checkPacket_15 : decode cX5_checkPacket 15 = .ok (.ldc 249, 2) := by decide +kernel
theorem dX5_checkPacket_17 : decode cX5_checkPacket 17 = .ok (.invokespecial 251, 3) := by decide +kernel
theorem dX5_checkPacket_20 : decode cX5_checkPacket 20 = .ok (.athrow, 1) := by decide +kernel
theorem dX5_checkPacket_21 : decode cX5_checkPacket 21 = .ok (.return_, 1) := by decide +kernel
theorem dX5_checkRouter_0 : decode cX5_checkRouter 0 = .ok (.iload_n 0, 1) := by decide +kernel
theorem dX5_checkRouter_1 : decode cX5_checkRouter 1 = .ok (.invokestatic 252, 3) := by decide +kernel
theorem dX5_checkRouter_4 : decode cX5_checkRouter 4 = .ok (.ifCond .ne 13, 3) := by decide +kernel
theorem dX5_checkRouter_7 : decode cX5_checkRouter 7 = .ok (.new 247, 3) := by decide +kernel
theorem dX5_checkRouter_10 : decode cX5_checkRouter 10 = .ok (.dup, 1) := by decide +kernel
theorem dX5_checkRouter_11 : decode cX5_checkRouter 11 = .ok (.ldc 255, 2) := by decide +kernel
theorem dX5_checkRouter_13 : decode cX5_checkRouter 13 = .ok (.invokespecial 251, 3) := by decide +kernel
theorem dX5_checkRouter_16 : decode cX5_checkRouter 16 = .ok (.athrow, 1) := by decide +kernel
theorem dX5_checkRouter_17 : decode cX5_checkRouter 17 = .ok (.return_, 1) := by decide +kernel
theorem dX5_checkGroup_0 : decode cX5_checkGroup 0 = .ok (.iload_n 0, 1) := by decide +kernel
theorem dX5_checkGroup_1 : decode cX5_checkGroup 1 = .ok (.invokestatic 257, 3) := by decide +kernel
theorem dX5_checkGroup_4 : decode cX5_checkGroup 4 = .ok (.ifCond .ne 14, 3) := by decide +kernel
theorem dX5_checkGroup_7 : decode cX5_checkGroup 7 = .ok (.new 247, 3) := by decide +kernel
theorem dX5_checkGroup_10 : decode cX5_checkGroup 10 = .ok (.dup, 1) := by decide +kernel
theorem dX5_checkGroup_11 : decode cX5_checkGroup 11 = .ok (.ldc_w 260, 3) := by decide +kernel
theorem dX5_checkGroup_14 : decode cX5_checkGroup 14 = .ok (.invokespecial 251, 3) := by decide +kernel
theorem dX5_checkGroup_17 : decode cX5_checkGroup 17 = .ok (.athrow, 1) := by decide +kernel
theorem dX5_checkGroup_18 : decode cX5_checkGroup 18 = .ok (.return_, 1) := by decide +kernel
theorem dX5_isRouter_0 : decode cX5_isRouter 0 = .ok (.iload_n 0, 1) := by decide +kernel
theorem dX5_isRouter_1 : decode cX5_isRouter 1 = .ok (.ifCond .lt 13, 3) := by decide +kernel
theorem dX5_isRouter_4 : decode cX5_isRouter 4 = .ok (.iload_n 0, 1) := by decide +kernel
theorem dX5_isRouter_5 : decode cX5_isRouter 5 = .ok (.bipush 10, 2) := by decide +kernel
theorem dX5_isRouter_7 : decode cX5_isRouter 7 = .ok (.if_icmp .ge 7, 3) := by decide +kernel
theorem dX5_isRouter_10 : decode cX5_isRouter 10 = .ok (.iconst 1, 1) := by decide +kernel
theorem dX5_isRouter_11 : decode cX5_isRouter 11 = .ok (.goto 4, 3) := by decide +kernel
theorem dX5_isRouter_14 : decode cX5_isRouter 14 = .ok (.iconst 0, 1) := by decide +kernel
theorem dX5_isRouter_15 : decode cX5_isRouter 15 = .ok (.ireturn, 1) := by decide +kernel
theorem dX5_isGroup_0 : decode cX5_isGroup 0 = .ok (.iload_n 0, 1) := by decide +kernel
theorem dX5_isGroup_1 : decode cX5_isGroup 1 = .ok (.ifCond .lt 12, 3) := by decide +kernel
theorem dX5_isGroup_4 : decode cX5_isGroup 4 = .ok (.iload_n 0, 1) := by decide +kernel
theorem dX5_isGroup_5 : decode cX5_isGroup 5 = .ok (.iconst 4, 1) := by decide +kernel
theorem dX5_isGroup_6 : decode cX5_isGroup 6 = .ok (.if_icmp .ge 7, 3) := by decide +kernel
theorem dX5_isGroup_9 : decode cX5_isGroup 9 = .ok (.iconst 1, 1) := by decide +kernel
theorem dX5_isGroup_10 : decode cX5_isGroup 10 = .ok (.goto 4, 3) := by decide +kernel
theorem dX5_isGroup_13 : decode cX5_isGroup 13 = .ok (.iconst 0, 1) := by decide +kernel
theorem dX5_isGroup_14 : decode cX5_isGroup 14 = .ok (.ireturn, 1) := by decide +kernel
theorem dX5_isTree_0 : decode cX5_isTree 0 = .ok (.iload_n 0, 1) := by decide +kernel
theorem dX5_isTree_1 : decode cX5_isTree 1 = .ok (.ifCond .lt 13, 3) := by decide +kernel
theorem dX5_isTree_4 : decode cX5_isTree 4 = .ok (.iload_n 0, 1) := by decide +kernel
theorem dX5_isTree_5 : decode cX5_isTree 5 = .ok (.bipush 44, 2) := by decide +kernel
theorem dX5_isTree_7 : decode cX5_isTree 7 = .ok (.if_icmp .ge 7, 3) := by decide +kernel
theorem dX5_isTree_10 : decode cX5_isTree 10 = .ok (.iconst 1, 1) := by decide +kernel
theorem dX5_isTree_11 : decode cX5_isTree 11 = .ok (.goto 4, 3) := by decide +kernel
theorem dX5_isTree_14 : decode cX5_isTree 14 = .ok (.iconst 0, 1) := by decide +kernel
theorem dX5_isTree_15 : decode cX5_isTree 15 = .ok (.ireturn, 1) := by decide +kernel
theorem dX5_sharedTree_0 : decode cX5_sharedTree 0 = .ok (.iload_n 0, 1) := by decide +kernel
theorem dX5_sharedTree_1 : decode cX5_sharedTree 1 = .ok (.invokestatic 257, 3) := by decide +kernel
theorem dX5_sharedTree_4 : decode cX5_sharedTree 4 = .ok (.ifCond .eq 7, 3) := by decide +kernel
theorem dX5_sharedTree_7 : decode cX5_sharedTree 7 = .ok (.iload_n 0, 1) := by decide +kernel
theorem dX5_sharedTree_8 : decode cX5_sharedTree 8 = .ok (.goto 4, 3) := by decide +kernel
theorem dX5_sharedTree_11 : decode cX5_sharedTree 11 = .ok (.iconst (-1), 1) := by decide +kernel
theorem dX5_sharedTree_12 : decode cX5_sharedTree 12 = .ok (.ireturn, 1) := by decide +kernel
theorem dX5_sourceTree_0 : decode cX5_sourceTree 0 = .ok (.iload_n 0, 1) := by decide +kernel
theorem dX5_sourceTree_1 : decode cX5_sourceTree 1 = .ok (.invokestatic 252, 3) := by decide +kernel
theorem dX5_sourceTree_4 : decode cX5_sourceTree 4 = .ok (.ifCond .eq 21, 3) := by decide +kernel
theorem dX5_sourceTree_7 : decode cX5_sourceTree 7 = .ok (.iload_n 1, 1) := by decide +kernel
theorem dX5_sourceTree_8 : decode cX5_sourceTree 8 = .ok (.invokestatic 257, 3) := by decide +kernel
theorem dX5_sourceTree_11 : decode cX5_sourceTree 11 = .ok (.ifCond .eq 14, 3) := by decide +kernel
theorem dX5_sourceTree_14 : decode cX5_sourceTree 14 = .ok (.iconst 4, 1) := by decide +kernel
theorem dX5_sourceTree_15 : decode cX5_sourceTree 15 = .ok (.iload_n 1, 1) := by decide +kernel
theorem dX5_sourceTree_16 : decode cX5_sourceTree 16 = .ok (.bipush 10, 2) := by decide +kernel
theorem dX5_sourceTree_18 : decode cX5_sourceTree 18 = .ok (.imul, 1) := by decide +kernel
theorem dX5_sourceTree_19 : decode cX5_sourceTree 19 = .ok (.iadd, 1) := by decide +kernel
theorem dX5_sourceTree_20 : decode cX5_sourceTree 20 = .ok (.iload_n 0, 1) := by decide +kernel
theorem dX5_sourceTree_21 : decode cX5_sourceTree 21 = .ok (.iadd, 1) := by decide +kernel
theorem dX5_sourceTree_22 : decode cX5_sourceTree 22 = .ok (.goto 4, 3) := by decide +kernel
theorem dX5_sourceTree_25 : decode cX5_sourceTree 25 = .ok (.iconst (-1), 1) := by decide +kernel
theorem dX5_sourceTree_26 : decode cX5_sourceTree 26 = .ok (.ireturn, 1) := by decide +kernel
theorem dX5_isShared_0 : decode cX5_isShared 0 = .ok (.iload_n 0, 1) := by decide +kernel
theorem dX5_isShared_1 : decode cX5_isShared 1 = .ok (.ifCond .lt 12, 3) := by decide +kernel
theorem dX5_isShared_4 : decode cX5_isShared 4 = .ok (.iload_n 0, 1) := by decide +kernel
theorem dX5_isShared_5 : decode cX5_isShared 5 = .ok (.iconst 4, 1) := by decide +kernel
theorem dX5_isShared_6 : decode cX5_isShared 6 = .ok (.if_icmp .ge 7, 3) := by decide +kernel
theorem dX5_isShared_9 : decode cX5_isShared 9 = .ok (.iconst 1, 1) := by decide +kernel
theorem dX5_isShared_10 : decode cX5_isShared 10 = .ok (.goto 4, 3) := by decide +kernel
theorem dX5_isShared_13 : decode cX5_isShared 13 = .ok (.iconst 0, 1) := by decide +kernel
theorem dX5_isShared_14 : decode cX5_isShared 14 = .ok (.ireturn, 1) := by decide +kernel
theorem dX5_bit_0 : decode cX5_bit 0 = .ok (.iconst 1, 1) := by decide +kernel
theorem dX5_bit_1 : decode cX5_bit 1 = .ok (.iload_n 0, 1) := by decide +kernel
theorem dX5_bit_2 : decode cX5_bit 2 = .ok (.ishl, 1) := by decide +kernel
theorem dX5_bit_3 : decode cX5_bit 3 = .ok (.ireturn, 1) := by decide +kernel
theorem dX5_has_0 : decode cX5_has 0 = .ok (.iload_n 1, 1) := by decide +kernel
theorem dX5_has_1 : decode cX5_has 1 = .ok (.invokestatic 252, 3) := by decide +kernel
theorem dX5_has_4 : decode cX5_has 4 = .ok (.ifCond .eq 16, 3) := by decide +kernel
theorem dX5_has_7 : decode cX5_has 7 = .ok (.iload_n 0, 1) := by decide +kernel
theorem dX5_has_8 : decode cX5_has 8 = .ok (.iload_n 1, 1) := by decide +kernel
theorem dX5_has_9 : decode cX5_has 9 = .ok (.invokestatic 78, 3) := by decide +kernel
theorem dX5_has_12 : decode cX5_has 12 = .ok (.iand, 1) := by decide +kernel
theorem dX5_has_13 : decode cX5_has 13 = .ok (.ifCond .eq 7, 3) := by decide +kernel
theorem dX5_has_16 : decode cX5_has 16 = .ok (.iconst 1, 1) := by decide +kernel
theorem dX5_has_17 : decode cX5_has 17 = .ok (.goto 4, 3) := by decide +kernel
theorem dX5_has_20 : decode cX5_has 20 = .ok (.iconst 0, 1) := by decide +kernel
theorem dX5_has_21 : decode cX5_has 21 = .ok (.ireturn, 1) := by decide +kernel
end
section
theorem dX6_init_0 : decode cX6_init 0 = .ok (.aload_n 0, 1) := by decide +kernel
theorem dX6_init_1 : decode cX6_init 1 = .ok (.invokespecial 1, 3) := by decide +kernel
theorem dX6_init_4 : decode cX6_init 4 = .ok (.aload_n 0, 1) := by decide +kernel
theorem dX6_init_5 : decode cX6_init 5 = .ok (.iconst 3, 1) := by decide +kernel
theorem dX6_init_6 : decode cX6_init 6 = .ok (.putfield 7, 3) := by decide +kernel
theorem dX6_init_9 : decode cX6_init 9 = .ok (.aload_n 0, 1) := by decide +kernel
theorem dX6_init_10 : decode cX6_init 10 = .ok (.bipush 100, 2) := by decide +kernel
theorem dX6_init_12 : decode cX6_init 12 = .ok (.newarray .int, 2) := by decide +kernel
theorem dX6_init_14 : decode cX6_init 14 = .ok (.putfield 13, 3) := by decide +kernel
theorem dX6_init_17 : decode cX6_init 17 = .ok (.aload_n 0, 1) := by decide +kernel
theorem dX6_init_18 : decode cX6_init 18 = .ok (.bipush 100, 2) := by decide +kernel
theorem dX6_init_20 : decode cX6_init 20 = .ok (.newarray .int, 2) := by decide +kernel
theorem dX6_init_22 : decode cX6_init 22 = .ok (.putfield 17, 3) := by decide +kernel
theorem dX6_init_25 : decode cX6_init 25 = .ok (.aload_n 0, 1) := by decide +kernel
theorem dX6_init_26 : decode cX6_init 26 = .ok (.bipush 10, 2) := by decide +kernel
theorem dX6_init_28 : decode cX6_init 28 = .ok (.newarray .boolean, 2) := by decide +kernel
theorem dX6_init_30 : decode cX6_init 30 = .ok (.putfield 20, 3) := by decide +kernel
theorem dX6_init_33 : decode cX6_init 33 = .ok (.aload_n 0, 1) := by decide +kernel
theorem dX6_init_34 : decode cX6_init 34 = .ok (.iconst 4, 1) := by decide +kernel
theorem dX6_init_35 : decode cX6_init 35 = .ok (.newarray .int, 2) := by decide +kernel
theorem dX6_init_37 : decode cX6_init 37 = .ok (.putfield 24, 3) := by decide +kernel
theorem dX6_init_40 : decode cX6_init 40 = .ok (.aload_n 0, 1) := by decide +kernel
theorem dX6_init_41 : decode cX6_init 41 = .ok (.bipush 40, 2) := by decide +kernel
theorem dX6_init_43 : decode cX6_init 43 = .ok (.newarray .int, 2) := by decide +kernel
theorem dX6_init_45 : decode cX6_init 45 = .ok (.putfield 27, 3) := by decide +kernel
theorem dX6_init_48 : decode cX6_init 48 = .ok (.aload_n 0, 1) := by decide +kernel
theorem dX6_init_49 : decode cX6_init 49 = .ok (.sipush 400, 3) := by decide +kernel
theorem dX6_init_52 : decode cX6_init 52 = .ok (.newarray .int, 2) := by decide +kernel
theorem dX6_init_54 : decode cX6_init 54 = .ok (.putfield 30, 3) := by decide +kernel
theorem dX6_init_57 : decode cX6_init 57 = .ok (.aload_n 0, 1) := by decide +kernel
theorem dX6_init_58 : decode cX6_init 58 = .ok (.sipush 440, 3) := by decide +kernel
theorem dX6_init_61 : decode cX6_init 61 = .ok (.newarray .int, 2) := by decide +kernel
theorem dX6_init_63 : decode cX6_init 63 = .ok (.putfield 33, 3) := by decide +kernel
theorem dX6_init_66 : decode cX6_init 66 = .ok (.aload_n 0, 1) := by decide +kernel
theorem dX6_init_67 : decode cX6_init 67 = .ok (.sipush 440, 3) := by decide +kernel
theorem dX6_init_70 : decode cX6_init 70 = .ok (.newarray .int, 2) := by decide +kernel
theorem dX6_init_72 : decode cX6_init 72 = .ok (.putfield 36, 3) := by decide +kernel
theorem dX6_init_75 : decode cX6_init 75 = .ok (.aload_n 0, 1) := by decide +kernel
theorem dX6_init_76 : decode cX6_init 76 = .ok (.sipush 800, 3) := by decide +kernel
theorem dX6_init_79 : decode cX6_init 79 = .ok (.newarray .int, 2) := by decide +kernel
theorem dX6_init_81 : decode cX6_init 81 = .ok (.putfield 39, 3) := by decide +kernel
theorem dX6_init_84 : decode cX6_init 84 = .ok (.aload_n 0, 1) := by decide +kernel
theorem dX6_init_85 : decode cX6_init 85 = .ok (.sipush 200, 3) := by decide +kernel
theorem dX6_init_88 : decode cX6_init 88 = .ok (.newarray .int, 2) := by decide +kernel
theorem dX6_init_90 : decode cX6_init 90 = .ok (.putfield 42, 3) := by decide +kernel
theorem dX6_init_93 : decode cX6_init 93 = .ok (.aload_n 0, 1) := by decide +kernel
theorem dX6_init_94 : decode cX6_init 94 = .ok (.sipush 200, 3) := by decide +kernel
theorem dX6_init_97 : decode cX6_init 97 = .ok (.newarray .int, 2) := by decide +kernel
theorem dX6_init_99 : decode cX6_init 99 = .ok (.putfield 45, 3) := by decide +kernel
theorem dX6_init_102 : decode cX6_init 102 = .ok (.aload_n 0, 1) := by decide +kernel
theorem dX6_init_103 : decode cX6_init 103 = .ok (.sipush 200, 3) := by decide +kernel
theorem dX6_init_106 : decode cX6_init 106 = .ok (.newarray .int, 2) := by decide +kernel
theorem dX6_init_108 : decode cX6_init 108 = .ok (.putfield 48, 3) := by decide +kernel
theorem dX6_init_111 : decode cX6_init 111 = .ok (.aload_n 0, 1) := by decide +kernel
theorem dX6_init_112 : decode cX6_init 112 = .ok (.sipush 200, 3) := by decide +kernel
theorem dX6_init_115 : decode cX6_init 115 = .ok (.newarray .int, 2) := by decide +kernel
theorem dX6_init_117 : decode cX6_init 117 = .ok (.putfield 51, 3) := by decide +kernel
theorem dX6_init_120 : decode cX6_init 120 = .ok (.aload_n 0, 1) := by decide +kernel
theorem dX6_init_121 : decode cX6_init 121 = .ok (.invokevirtual 54, 3) := by decide +kernel
theorem dX6_init_124 : decode cX6_init 124 = .ok (.iconst 0, 1) := by decide +kernel
theorem dX6_init_125 : decode cX6_init 125 = .ok (.istore_n 1, 1) := by decide +kernel
theorem dX6_init_126 : decode cX6_init 126 = .ok (.iload_n 1, 1) := by decide +kernel
theorem dX6_init_127 : decode cX6_init 127 = .ok (.sipush 440, 3) := by decide +kernel
theorem dX6_init_130 : decode cX6_init 130 = .ok (.if_icmp .ge 23, 3) := by decide +kernel
theorem dX6_init_133 : decode cX6_init 133 = .ok (.aload_n 0, 1) := by decide +kernel
theorem dX6_init_134 : decode cX6_init 134 = .ok (.getfield 33, 3) := by decide +kernel
theorem dX6_init_137 : decode cX6_init 137 = .ok (.iload_n 1, 1) := by decide +kernel
theorem dX6_init_138 : decode cX6_init 138 = .ok (.iconst (-1), 1) := by decide +kernel
theorem dX6_init_139 : decode cX6_init 139 = .ok (.iastore, 1) := by decide +kernel
theorem dX6_init_140 : decode cX6_init 140 = .ok (.aload_n 0, 1) := by decide +kernel
theorem dX6_init_141 : decode cX6_init 141 = .ok (.getfield 36, 3) := by decide +kernel
theorem dX6_init_144 : decode cX6_init 144 = .ok (.iload_n 1, 1) := by decide +kernel
theorem dX6_init_145 : decode cX6_init 145 = .ok (.iconst (-1), 1) := by decide +kernel
theorem dX6_init_146 : decode cX6_init 146 = .ok (.iastore, 1) := by decide +kernel
theorem dX6_init_147 : decode cX6_init 147 = .ok (.iinc 1 1, 3) := by decide +kernel
theorem dX6_init_150 : decode cX6_init 150 = .ok (.goto (-24), 3) := by decide +kernel
theorem dX6_init_153 : decode cX6_init 153 = .ok (.return_, 1) := by decide +kernel
theorem dX6_thrown_0 : decode cX6_thrown 0 = .ok (.aload_n 0, 1) := by decide +kernel
theorem dX6_thrown_1 : decode cX6_thrown 1 = .ok (.getfield 57, 3) := by decide +kernel
theorem dX6_thrown_4 : decode cX6_thrown 4 = .ok (.ireturn, 1) := by decide +kernel
theorem dX6_can_0 : decode cX6_can 0 = .ok (.aload_n 0, 1) := by decide +kernel
theorem dX6_can_1 : decode cX6_can 1 = .ok (.iload_n 1, 1) := by decide +kernel
theorem dX6_can_2 : decode cX6_can 2 = .ok (.putfield 57, 3) := by decide +kernel
theorem dX6_can_5 : decode cX6_can 5 = .ok (.iload_n 1, 1) := by decide +kernel
theorem dX6_can_6 : decode cX6_can 6 = .ok (.ifCond .ne 7, 3) := by decide +kernel
theorem dX6_can_9 : decode cX6_can 9 = .ok (.iconst 1, 1) := by decide +kernel
theorem dX6_can_10 : decode cX6_can 10 = .ok (.goto 4, 3) := by decide +kernel
theorem dX6_can_13 : decode cX6_can 13 = .ok (.iconst 0, 1) := by decide +kernel
theorem dX6_can_14 : decode cX6_can 14 = .ok (.ireturn, 1) := by decide +kernel
theorem dX6_isRouter_0 : decode cX6_isRouter 0 = .ok (.iload_n 0, 1) := by decide +kernel
theorem dX6_isRouter_1 : decode cX6_isRouter 1 = .ok (.ifCond .lt 13, 3) := by decide +kernel
theorem dX6_isRouter_4 : decode cX6_isRouter 4 = .ok (.iload_n 0, 1) := by decide +kernel
theorem dX6_isRouter_5 : decode cX6_isRouter 5 = .ok (.bipush 10, 2) := by decide +kernel
theorem dX6_isRouter_7 : decode cX6_isRouter 7 = .ok (.if_icmp .ge 7, 3) := by decide +kernel
theorem dX6_isRouter_10 : decode cX6_isRouter 10 = .ok (.iconst 1, 1) := by decide +kernel
theorem dX6_isRouter_11 : decode cX6_isRouter 11 = .ok (.goto 4, 3) := by decide +kernel
theorem dX6_isRouter_14 : decode cX6_isRouter 14 = .ok (.iconst 0, 1) := by decide +kernel
theorem dX6_isRouter_15 : decode cX6_isRouter 15 = .ok (.ireturn, 1) := by decide +kernel
theorem dX6_isGroup_0 : decode cX6_isGroup 0 = .ok (.iload_n 0, 1) := by decide +kernel
theorem dX6_isGroup_1 : decode cX6_isGroup 1 = .ok (.ifCond .lt 12, 3) := by decide +kernel
theorem dX6_isGroup_4 : decode cX6_isGroup 4 = .ok (.iload_n 0, 1) := by decide +kernel
theorem dX6_isGroup_5 : decode cX6_isGroup 5 = .ok (.iconst 4, 1) := by decide +kernel
theorem dX6_isGroup_6 : decode cX6_isGroup 6 = .ok (.if_icmp .ge 7, 3) := by decide +kernel
theorem dX6_isGroup_9 : decode cX6_isGroup 9 = .ok (.iconst 1, 1) := by decide +kernel
theorem dX6_isGroup_10 : decode cX6_isGroup 10 = .ok (.goto 4, 3) := by decide +kernel
theorem dX6_isGroup_13 : decode cX6_isGroup 13 = .ok (.iconst 0, 1) := by decide +kernel
theorem dX6_isGroup_14 : decode cX6_isGroup 14 = .ok (.ireturn, 1) := by decide +kernel
theorem dX6_measures_0 : decode cX6_measures 0 = .ok (.iconst 0, 1) := by decide +kernel
theorem dX6_measures_1 : decode cX6_measures 1 = .ok (.istore_n 1, 1) := by decide +kernel
theorem dX6_measures_2 : decode cX6_measures 2 = .ok (.iload_n 1, 1) := by decide +kernel
theorem dX6_measures_3 : decode cX6_measures 3 = .ok (.bipush 100, 2) := by decide +kernel
theorem dX6_measures_5 : decode cX6_measures 5 = .ok (.if_icmp .ge 50, 3) := by decide +kernel
theorem dX6_measures_8 : decode cX6_measures 8 = .ok (.aload_n 0, 1) := by decide +kernel
theorem dX6_measures_9 : decode cX6_measures 9 = .ok (.getfield 17, 3) := by decide +kernel
theorem dX6_measures_12 : decode cX6_measures 12 = .ok (.iload_n 1, 1) := by decide +kernel
theorem dX6_measures_13 : decode cX6_measures 13 = .ok (.iload_n 1, 1) := by decide +kernel
theorem dX6_measures_14 : decode cX6_measures 14 = .ok (.bipush 10, 2) := by decide +kernel
theorem dX6_measures_16 : decode cX6_measures 16 = .ok (.idiv, 1) := by decide +kernel
theorem dX6_measures_17 : decode cX6_measures 17 = .ok (.iload_n 1, 1) := by decide +kernel
theorem dX6_measures_18 : decode cX6_measures 18 = .ok (.bipush 10, 2) := by decide +kernel
theorem dX6_measures_20 : decode cX6_measures 20 = .ok (.irem, 1) := by decide +kernel
theorem dX6_measures_21 : decode cX6_measures 21 = .ok (.if_icmp .ne 7, 3) := by decide +kernel
theorem dX6_measures_24 : decode cX6_measures 24 = .ok (.iconst 0, 1) := by decide +kernel
theorem dX6_measures_25 : decode cX6_measures 25 = .ok (.goto 23, 3) := by decide +kernel
theorem dX6_measures_28 : decode cX6_measures 28 = .ok (.aload_n 0, 1) := by decide +kernel
theorem dX6_measures_29 : decode cX6_measures 29 = .ok (.getfield 13, 3) := by decide +kernel
theorem dX6_measures_32 : decode cX6_measures 32 = .ok (.iload_n 1, 1) := by decide +kernel
theorem dX6_measures_33 : decode cX6_measures 33 = .ok (.iaload, 1) := by decide +kernel
theorem dX6_measures_34 : decode cX6_measures 34 = .ok (.ifCond .le 12, 3) := by decide +kernel
theorem dX6_measures_37 : decode cX6_measures 37 = .ok (.aload_n 0, 1) := by decide +kernel
theorem dX6_measures_38 : decode cX6_measures 38 = .ok (.getfield 13, 3) := by decide +kernel
theorem dX6_measures_41 : decode cX6_measures 41 = .ok (.iload_n 1, 1) := by decide +kernel
theorem dX6_measures_42 : decode cX6_measures 42 = .ok (.iaload, 1) := by decide +kernel
theorem dX6_measures_43 : decode cX6_measures 43 = .ok (.goto 5, 3) := by decide +kernel
theorem dX6_measures_46 : decode cX6_measures 46 = .ok (.ldc 60, 2) := by decide +kernel
theorem dX6_measures_48 : decode cX6_measures 48 = .ok (.iastore, 1) := by decide +kernel
theorem dX6_measures_49 : decode cX6_measures 49 = .ok (.iinc 1 1, 3) := by decide +kernel
theorem dX6_measures_52 : decode cX6_measures 52 = .ok (.goto (-50), 3) := by decide +kernel
theorem dX6_measures_55 : decode cX6_measures 55 = .ok (.iconst 0, 1) := by decide +kernel
theorem dX6_measures_56 : decode cX6_measures 56 = .ok (.istore_n 1, 1) := by decide +kernel
theorem dX6_measures_57 : decode cX6_measures 57 = .ok (.iload_n 1, 1) := by decide +kernel
theorem dX6_measures_58 : decode cX6_measures 58 = .ok (.bipush 10, 2) := by decide +kernel
theorem dX6_measures_60 : decode cX6_measures 60 = .ok (.if_icmp .ge 79, 3) := by decide +kernel
theorem dX6_measures_63 : decode cX6_measures 63 = .ok (.iconst 0, 1) := by decide +kernel
theorem dX6_measures_64 : decode cX6_measures 64 = .ok (.istore_n 2, 1) := by decide +kernel
theorem dX6_measures_65 : decode cX6_measures 65 = .ok (.iload_n 2, 1) := by decide +kernel
theorem dX6_measures_66 : decode cX6_measures 66 = .ok (.bipush 100, 2) := by decide +kernel
theorem dX6_measures_68 : decode cX6_measures 68 = .ok (.if_icmp .ge 65, 3) := by decide +kernel
theorem dX6_measures_71 : decode cX6_measures 71 = .ok (.aload_n 0, 1) := by decide +kernel
theorem dX6_measures_72 : decode cX6_measures 72 = .ok (.getfield 17, 3) := by decide +kernel
theorem dX6_measures_75 : decode cX6_measures 75 = .ok (.bipush 10, 2) := by decide +kernel
theorem dX6_measures_77 : decode cX6_measures 77 = .ok (.iload_n 2, 1) := by decide +kernel
theorem dX6_measures_78 : decode cX6_measures 78 = .ok (.bipush 10, 2) := by decide +kernel
theorem dX6_measures_80 : decode cX6_measures 80 = .ok (.idiv, 1) := by decide +kernel
theorem dX6_measures_81 : decode cX6_measures 81 = .ok (.imul, 1) := by decide +kernel
theorem dX6_measures_82 : decode cX6_measures 82 = .ok (.iload_n 1, 1) := by decide +kernel
theorem dX6_measures_83 : decode cX6_measures 83 = .ok (.iadd, 1) := by decide +kernel
theorem dX6_measures_84 : decode cX6_measures 84 = .ok (.iaload, 1) := by decide +kernel
theorem dX6_measures_85 : decode cX6_measures 85 = .ok (.aload_n 0, 1) := by decide +kernel
theorem dX6_measures_86 : decode cX6_measures 86 = .ok (.getfield 17, 3) := by decide +kernel
theorem dX6_measures_89 : decode cX6_measures 89 = .ok (.bipush 10, 2) := by decide +kernel
theorem dX6_measures_91 : decode cX6_measures 91 = .ok (.iload_n 1, 1) := by decide +kernel
theorem dX6_measures_92 : decode cX6_measures 92 = .ok (.imul, 1) := by decide +kernel
theorem dX6_measures_93 : decode cX6_measures 93 = .ok (.iload_n 2, 1) := by decide +kernel
theorem dX6_measures_94 : decode cX6_measures 94 = .ok (.bipush 10, 2) := by decide +kernel
theorem dX6_measures_96 : decode cX6_measures 96 = .ok (.irem, 1) := by decide +kernel
theorem dX6_measures_97 : decode cX6_measures 97 = .ok (.iadd, 1) := by decide +kernel
theorem dX6_measures_98 : decode cX6_measures 98 = .ok (.iaload, 1) := by decide +kernel
theorem dX6_measures_99 : decode cX6_measures 99 = .ok (.iadd, 1) := by decide +kernel
theorem dX6_measures_100 : decode cX6_measures 100 = .ok (.istore_n 3, 1) := by decide +kernel
theorem dX6_measures_101 : decode cX6_measures 101 = .ok (.aload_n 0, 1) := by decide +kernel
theorem dX6_measures_102 : decode cX6_measures 102 = .ok (.getfield 17, 3) := by decide +kernel
theorem dX6_measures_105 : decode cX6_measures 105 = .ok (.iload_n 2, 1) := by decide +kernel
theorem dX6_measures_106 : decode cX6_measures 106 = .ok (.iload_n 3, 1) := by decide +kernel
theorem dX6_measures_107 : decode cX6_measures 107 = .ok (.aload_n 0, 1) := by decide +kernel
theorem dX6_measures_108 : decode cX6_measures 108 = .ok (.getfield 17, 3) := by decide +kernel
theorem dX6_measures_111 : decode cX6_measures 111 = .ok (.iload_n 2, 1) := by decide +kernel
theorem dX6_measures_112 : decode cX6_measures 112 = .ok (.iaload, 1) := by decide +kernel
theorem dX6_measures_113 : decode cX6_measures 113 = .ok (.if_icmp .ge 7, 3) := by decide +kernel
theorem dX6_measures_116 : decode cX6_measures 116 = .ok (.iload_n 3, 1) := by decide +kernel
theorem dX6_measures_117 : decode cX6_measures 117 = .ok (.goto 9, 3) := by decide +kernel
theorem dX6_measures_120 : decode cX6_measures 120 = .ok (.aload_n 0, 1) := by decide +kernel
theorem dX6_measures_121 : decode cX6_measures 121 = .ok (.getfield 17, 3) := by decide +kernel
theorem dX6_measures_124 : decode cX6_measures 124 = .ok (.iload_n 2, 1) := by decide +kernel
theorem dX6_measures_125 : decode cX6_measures 125 = .ok (.iaload, 1) := by decide +kernel
theorem dX6_measures_126 : decode cX6_measures 126 = .ok (.iastore, 1) := by decide +kernel
theorem dX6_measures_127 : decode cX6_measures 127 = .ok (.iinc 2 1, 3) := by decide +kernel
theorem dX6_measures_130 : decode cX6_measures 130 = .ok (.goto (-65), 3) := by decide +kernel
theorem dX6_measures_133 : decode cX6_measures 133 = .ok (.iinc 1 1, 3) := by decide +kernel
theorem dX6_measures_136 : decode cX6_measures 136 = .ok (.goto (-79), 3) := by decide +kernel
theorem dX6_measures_139 : decode cX6_measures 139 = .ok (.return_, 1) := by decide +kernel
theorem dX6_hop_0 : decode cX6_hop 0 = .ok (.iconst (-1), 1) := by decide +kernel
theorem dX6_hop_1 : decode cX6_hop 1 = .ok (.istore_n 3, 1) := by decide +kernel
theorem dX6_hop_2 : decode cX6_hop 2 = .ok (.aload_n 0, 1) := by decide +kernel
theorem dX6_hop_3 : decode cX6_hop 3 = .ok (.getfield 17, 3) := by decide +kernel
theorem dX6_hop_6 : decode cX6_hop 6 = .ok (.bipush 10, 2) := by decide +kernel
theorem dX6_hop_8 : decode cX6_hop 8 = .ok (.iload_n 1, 1) := by decide +kernel
theorem dX6_hop_9 : decode cX6_hop 9 = .ok (.imul, 1) := by decide +kernel
theorem dX6_hop_10 : decode cX6_hop 10 = .ok (.iload_n 2, 1) := by decide +kernel
theorem dX6_hop_11 : decode cX6_hop 11 = .ok (.iadd, 1) := by decide +kernel
theorem dX6_hop_12 : decode cX6_hop 12 = .ok (.iaload, 1) := by decide +kernel
theorem dX6_hop_13 : decode cX6_hop 13 = .ok (.istore 4, 2) := by decide +kernel
theorem dX6_hop_15 : decode cX6_hop 15 = .ok (.bipush 9, 2) := by decide +kernel
theorem dX6_hop_17 : decode cX6_hop 17 = .ok (.istore 5, 2) := by decide +kernel
theorem dX6_hop_19 : decode cX6_hop 19 = .ok (.iload 5, 2) := by decide +kernel
theorem dX6_hop_21 : decode cX6_hop 21 = .ok (.ifCond .lt 67, 3) := by decide +kernel
theorem dX6_hop_24 : decode cX6_hop 24 = .ok (.iload_n 1, 1) := by decide +kernel
theorem dX6_hop_25 : decode cX6_hop 25 = .ok (.iload_n 2, 1) := by decide +kernel
theorem dX6_hop_26 : decode cX6_hop 26 = .ok (.if_icmp .eq 62, 3) := by decide +kernel
theorem dX6_hop_29 : decode cX6_hop 29 = .ok (.iload 4, 2) := by decide +kernel
theorem dX6_hop_31 : decode cX6_hop 31 = .ok (.ldc 60, 2) := by decide +kernel
theorem dX6_hop_33 : decode cX6_hop 33 = .ok (.if_icmp .ge 55, 3) := by decide +kernel
theorem dX6_hop_36 : decode cX6_hop 36 = .ok (.aload_n 0, 1) := by decide +kernel
theorem dX6_hop_37 : decode cX6_hop 37 = .ok (.getfield 13, 3) := by decide +kernel
theorem dX6_hop_40 : decode cX6_hop 40 = .ok (.bipush 10, 2) := by decide +kernel
theorem dX6_hop_42 : decode cX6_hop 42 = .ok (.iload_n 1, 1) := by decide +kernel
theorem dX6_hop_43 : decode cX6_hop 43 = .ok (.imul, 1) := by decide +kernel
theorem dX6_hop_44 : decode cX6_hop 44 = .ok (.iload 5, 2) := by decide +kernel
theorem dX6_hop_46 : decode cX6_hop 46 = .ok (.iadd, 1) := by decide +kernel
theorem dX6_hop_47 : decode cX6_hop 47 = .ok (.iaload, 1) := by decide +kernel
theorem dX6_hop_48 : decode cX6_hop 48 = .ok (.istore 6, 2) := by decide +kernel
theorem dX6_hop_50 : decode cX6_hop 50 = .ok (.iload 6, 2) := by decide +kernel
theorem dX6_hop_52 : decode cX6_hop 52 = .ok (.ifCond .le 28, 3) := by decide +kernel
theorem dX6_hop_55 : decode cX6_hop 55 = .ok (.iload 6, 2) := by decide +kernel
theorem dX6_hop_57 : decode cX6_hop 57 = .ok (.aload_n 0, 1) := by decide +kernel
theorem dX6_hop_58 : decode cX6_hop 58 = .ok (.getfield 17, 3) := by decide +kernel
theorem dX6_hop_61 : decode cX6_hop 61 = .ok (.bipush 10, 2) := by decide +kernel
theorem dX6_hop_63 : decode cX6_hop 63 = .ok (.iload 5, 2) := by decide +kernel
theorem dX6_hop_65 : decode cX6_hop 65 = .ok (.imul, 1) := by decide +kernel
theorem dX6_hop_66 : decode cX6_hop 66 = .ok (.iload_n 2, 1) := by decide +kernel
theorem dX6_hop_67 : decode cX6_hop 67 = .ok (.iadd, 1) := by decide +kernel
theorem dX6_hop_68 : decode cX6_hop 68 = .ok (.iaload, 1) := by decide +kernel
theorem dX6_hop_69 : decode cX6_hop 69 = .ok (.iadd, 1) := by decide +kernel
theorem dX6_hop_70 : decode cX6_hop 70 = .ok (.iload 4, 2) := by decide +kernel
theorem dX6_hop_72 : decode cX6_hop 72 = .ok (.if_icmp .ne 8, 3) := by decide +kernel
theorem dX6_hop_75 : decode cX6_hop 75 = .ok (.iload 5, 2) := by decide +kernel
theorem dX6_hop_77 : decode cX6_hop 77 = .ok (.goto 4, 3) := by decide +kernel
theorem dX6_hop_80 : decode cX6_hop 80 = .ok (.iload_n 3, 1) := by decide +kernel
theorem dX6_hop_81 : decode cX6_hop 81 = .ok (.istore_n 3, 1) := by decide +kernel
theorem dX6_hop_82 : decode cX6_hop 82 = .ok (.iinc 5 (-1), 3) := by decide +kernel
theorem dX6_hop_85 : decode cX6_hop 85 = .ok (.goto (-66), 3) := by decide +kernel
theorem dX6_hop_88 : decode cX6_hop 88 = .ok (.iload_n 3, 1) := by decide +kernel
theorem dX6_hop_89 : decode cX6_hop 89 = .ok (.ireturn, 1) := by decide +kernel
theorem dX6_root_0 : decode cX6_root 0 = .ok (.iload_n 1, 1) := by decide +kernel
theorem dX6_root_1 : decode cX6_root 1 = .ok (.bipush 11, 2) := by decide +kernel
theorem dX6_root_3 : decode cX6_root 3 = .ok (.irem, 1) := by decide +kernel
theorem dX6_root_4 : decode cX6_root 4 = .ok (.bipush 10, 2) := by decide +kernel
theorem dX6_root_6 : decode cX6_root 6 = .ok (.if_icmp .ne 14, 3) := by decide +kernel
theorem dX6_root_9 : decode cX6_root 9 = .ok (.aload_n 0, 1) := by decide +kernel
theorem dX6_root_10 : decode cX6_root 10 = .ok (.iload_n 1, 1) := by decide +kernel
theorem dX6_root_11 : decode cX6_root 11 = .ok (.bipush 11, 2) := by decide +kernel
theorem dX6_root_13 : decode cX6_root 13 = .ok (.idiv, 1) := by decide +kernel
theorem dX6_root_14 : decode cX6_root 14 = .ok (.invokevirtual 61, 3) := by decide +kernel
theorem dX6_root_17 : decode cX6_root 17 = .ok (.goto 7, 3) := by decide +kernel
theorem dX6_root_20 : decode cX6_root 20 = .ok (.iload_n 1, 1) := by decide +kernel
theorem dX6_root_21 : decode cX6_root 21 = .ok (.bipush 11, 2) := by decide +kernel
theorem dX6_root_23 : decode cX6_root 23 = .ok (.irem, 1) := by decide +kernel
theorem dX6_root_24 : decode cX6_root 24 = .ok (.ireturn, 1) := by decide +kernel
theorem dX6_meets_0 : decode cX6_meets 0 = .ok (.iconst (-1), 1) := by decide +kernel
theorem dX6_meets_1 : decode cX6_meets 1 = .ok (.istore_n 2, 1) := by decide +kernel
theorem dX6_meets_2 : decode cX6_meets 2 = .ok (.iconst (-1), 1) := by decide +kernel
theorem dX6_meets_3 : decode cX6_meets 3 = .ok (.istore_n 3, 1) := by decide +kernel
theorem dX6_meets_4 : decode cX6_meets 4 = .ok (.iconst 0, 1) := by decide +kernel
theorem dX6_meets_5 : decode cX6_meets 5 = .ok (.istore 4, 2) := by decide +kernel
theorem dX6_meets_7 : decode cX6_meets 7 = .ok (.iload 4, 2) := by decide +kernel
theorem dX6_meets_9 : decode cX6_meets 9 = .ok (.bipush 10, 2) := by decide +kernel
theorem dX6_meets_11 : decode cX6_meets 11 = .ok (.if_icmp .ge 78, 3) := by decide +kernel
theorem dX6_meets_14 : decode cX6_meets 14 = .ok (.bipush 31, 2) := by decide +kernel
theorem dX6_meets_16 : decode cX6_meets 16 = .ok (.iload_n 1, 1) := by decide +kernel
theorem dX6_meets_17 : decode cX6_meets 17 = .ok (.imul, 1) := by decide +kernel
theorem dX6_meets_18 : decode cX6_meets 18 = .ok (.bipush 17, 2) := by decide +kernel
theorem dX6_meets_20 : decode cX6_meets 20 = .ok (.iadd, 1) := by decide +kernel
theorem dX6_meets_21 : decode cX6_meets 21 = .ok (.bipush 53, 2) := by decide +kernel
theorem dX6_meets_23 : decode cX6_meets 23 = .ok (.iload 4, 2) := by decide +kernel
theorem dX6_meets_25 : decode cX6_meets 25 = .ok (.imul, 1) := by decide +kernel
theorem dX6_meets_26 : decode cX6_meets 26 = .ok (.bipush 29, 2) := by decide +kernel
theorem dX6_meets_28 : decode cX6_meets 28 = .ok (.iadd, 1) := by decide +kernel
theorem dX6_meets_29 : decode cX6_meets 29 = .ok (.imul, 1) := by decide +kernel
theorem dX6_meets_30 : decode cX6_meets 30 = .ok (.sipush 997, 3) := by decide +kernel
theorem dX6_meets_33 : decode cX6_meets 33 = .ok (.irem, 1) := by decide +kernel
theorem dX6_meets_34 : decode cX6_meets 34 = .ok (.istore 5, 2) := by decide +kernel
theorem dX6_meets_36 : decode cX6_meets 36 = .ok (.aload_n 0, 1) := by decide +kernel
theorem dX6_meets_37 : decode cX6_meets 37 = .ok (.getfield 20, 3) := by decide +kernel
theorem dX6_meets_40 : decode cX6_meets 40 = .ok (.iload 4, 2) := by decide +kernel
theorem dX6_meets_42 : decode cX6_meets 42 = .ok (.baload, 1) := by decide +kernel
theorem dX6_meets_43 : decode cX6_meets 43 = .ok (.ifCond .eq 13, 3) := by decide +kernel
theorem dX6_meets_46 : decode cX6_meets 46 = .ok (.iload 5, 2) := by decide +kernel
theorem dX6_meets_48 : decode cX6_meets 48 = .ok (.iload_n 3, 1) := by decide +kernel
theorem dX6_meets_49 : decode cX6_meets 49 = .ok (.if_icmp .le 7, 3) := by decide +kernel
theorem dX6_meets_52 : decode cX6_meets 52 = .ok (.iconst 1, 1) := by decide +kernel
theorem dX6_meets_53 : decode cX6_meets 53 = .ok (.goto 4, 3) := by decide +kernel
theorem dX6_meets_56 : decode cX6_meets 56 = .ok (.iconst 0, 1) := by decide +kernel
theorem dX6_meets_57 : decode cX6_meets 57 = .ok (.istore 6, 2) := by decide +kernel
theorem dX6_meets_59 : decode cX6_meets 59 = .ok (.iload 6, 2) := by decide +kernel
theorem dX6_meets_61 : decode cX6_meets 61 = .ok (.ifCond .eq 8, 3) := by decide +kernel
theorem dX6_meets_64 : decode cX6_meets 64 = .ok (.iload 4, 2) := by decide +kernel
theorem dX6_meets_66 : decode cX6_meets 66 = .ok (.goto 4, 3) := by decide +kernel
theorem dX6_meets_69 : decode cX6_meets 69 = .ok (.iload_n 2, 1) := by decide +kernel
theorem dX6_meets_70 : decode cX6_meets 70 = .ok (.istore_n 2, 1) := by decide +kernel
theorem dX6_meets_71 : decode cX6_meets 71 = .ok (.iload 6, 2) := by decide +kernel
theorem dX6_meets_73 : decode cX6_meets 73 = .ok (.ifCond .eq 8, 3) := by decide +kernel
theorem dX6_meets_76 : decode cX6_meets 76 = .ok (.iload 5, 2) := by decide +kernel
theorem dX6_meets_78 : decode cX6_meets 78 = .ok (.goto 4, 3) := by decide +kernel
theorem dX6_meets_81 : decode cX6_meets 81 = .ok (.iload_n 3, 1) := by decide +kernel
theorem dX6_meets_82 : decode cX6_meets 82 = .ok (.istore_n 3, 1) := by decide +kernel
theorem dX6_meets_83 : decode cX6_meets 83 = .ok (.iinc 4 1, 3) := by decide +kernel
theorem dX6_meets_86 : decode cX6_meets 86 = .ok (.goto (-79), 3) := by decide +kernel
theorem dX6_meets_89 : decode cX6_meets 89 = .ok (.iload_n 2, 1) := by decide +kernel
theorem dX6_meets_90 : decode cX6_meets 90 = .ok (.ireturn, 1) := by decide +kernel
theorem dX6_wants_0 : decode cX6_wants 0 = .ok (.iload_n 1, 1) := by decide +kernel
theorem dX6_wants_1 : decode cX6_wants 1 = .ok (.bipush 11, 2) := by decide +kernel
theorem dX6_wants_3 : decode cX6_wants 3 = .ok (.irem, 1) := by decide +kernel
theorem dX6_wants_4 : decode cX6_wants 4 = .ok (.bipush 10, 2) := by decide +kernel
theorem dX6_wants_6 : decode cX6_wants 6 = .ok (.if_icmp .ne 15, 3) := by decide +kernel
theorem dX6_wants_9 : decode cX6_wants 9 = .ok (.aload_n 0, 1) := by decide +kernel
theorem dX6_wants_10 : decode cX6_wants 10 = .ok (.getfield 24, 3) := by decide +kernel
theorem dX6_wants_13 : decode cX6_wants 13 = .ok (.iload_n 1, 1) := by decide +kernel
theorem dX6_wants_14 : decode cX6_wants 14 = .ok (.bipush 11, 2) := by decide +kernel
theorem dX6_wants_16 : decode cX6_wants 16 = .ok (.idiv, 1) := by decide +kernel
theorem dX6_wants_17 : decode cX6_wants 17 = .ok (.iaload, 1) := by decide +kernel
theorem dX6_wants_18 : decode cX6_wants 18 = .ok (.goto 20, 3) := by decide +kernel
theorem dX6_wants_21 : decode cX6_wants 21 = .ok (.aload_n 0, 1) := by decide +kernel
theorem dX6_wants_22 : decode cX6_wants 22 = .ok (.getfield 27, 3) := by decide +kernel
theorem dX6_wants_25 : decode cX6_wants 25 = .ok (.bipush 10, 2) := by decide +kernel
theorem dX6_wants_27 : decode cX6_wants 27 = .ok (.iload_n 1, 1) := by decide +kernel
theorem dX6_wants_28 : decode cX6_wants 28 = .ok (.bipush 11, 2) := by decide +kernel
theorem dX6_wants_30 : decode cX6_wants 30 = .ok (.idiv, 1) := by decide +kernel
theorem dX6_wants_31 : decode cX6_wants 31 = .ok (.imul, 1) := by decide +kernel
theorem dX6_wants_32 : decode cX6_wants 32 = .ok (.iload_n 1, 1) := by decide +kernel
theorem dX6_wants_33 : decode cX6_wants 33 = .ok (.bipush 11, 2) := by decide +kernel
theorem dX6_wants_35 : decode cX6_wants 35 = .ok (.irem, 1) := by decide +kernel
theorem dX6_wants_36 : decode cX6_wants 36 = .ok (.iadd, 1) := by decide +kernel
theorem dX6_wants_37 : decode cX6_wants 37 = .ok (.iaload, 1) := by decide +kernel
theorem dX6_wants_38 : decode cX6_wants 38 = .ok (.istore_n 3, 1) := by decide +kernel
theorem dX6_wants_39 : decode cX6_wants 39 = .ok (.iload_n 3, 1) := by decide +kernel
theorem dX6_wants_40 : decode cX6_wants 40 = .ok (.iload_n 2, 1) := by decide +kernel
theorem dX6_wants_41 : decode cX6_wants 41 = .ok (.ishr, 1) := by decide +kernel
theorem dX6_wants_42 : decode cX6_wants 42 = .ok (.iconst 1, 1) := by decide +kernel
theorem dX6_wants_43 : decode cX6_wants 43 = .ok (.iand, 1) := by decide +kernel
theorem dX6_wants_44 : decode cX6_wants 44 = .ok (.iconst 1, 1) := by decide +kernel
theorem dX6_wants_45 : decode cX6_wants 45 = .ok (.if_icmp .ne 7, 3) := by decide +kernel
theorem dX6_wants_48 : decode cX6_wants 48 = .ok (.iconst 1, 1) := by decide +kernel
theorem dX6_wants_49 : decode cX6_wants 49 = .ok (.goto 4, 3) := by decide +kernel
theorem dX6_wants_52 : decode cX6_wants 52 = .ok (.iconst 0, 1) := by decide +kernel
theorem dX6_wants_53 : decode cX6_wants 53 = .ok (.ireturn, 1) := by decide +kernel
theorem dX6_graft_0 : decode cX6_graft 0 = .ok (.aload_n 0, 1) := by decide +kernel
theorem dX6_graft_1 : decode cX6_graft 1 = .ok (.iload_n 1, 1) := by decide +kernel
theorem dX6_graft_2 : decode cX6_graft 2 = .ok (.invokevirtual 65, 3) := by decide +kernel
theorem dX6_graft_5 : decode cX6_graft 5 = .ok (.istore_n 3, 1) := by decide +kernel
theorem dX6_graft_6 : decode cX6_graft 6 = .ok (.iload_n 3, 1) := by decide +kernel
theorem dX6_graft_7 : decode cX6_graft 7 = .ok (.iconst (-1), 1) := by decide +kernel
theorem dX6_graft_8 : decode cX6_graft 8 = .ok (.if_icmp .ne 7, 3) := by decide +kernel
theorem dX6_graft_11 : decode cX6_graft 11 = .ok (.iconst (-1), 1) := by decide +kernel
theorem dX6_graft_12 : decode cX6_graft 12 = .ok (.goto 4, 3) := by decide +kernel
theorem dX6_graft_15 : decode cX6_graft 15 = .ok (.iload_n 2, 1) := by decide +kernel
theorem dX6_graft_16 : decode cX6_graft 16 = .ok (.istore 4, 2) := by decide +kernel
theorem dX6_graft_18 : decode cX6_graft 18 = .ok (.iload 4, 2) := by decide +kernel
theorem dX6_graft_20 : decode cX6_graft 20 = .ok (.iconst (-1), 1) := by decide +kernel
theorem dX6_graft_21 : decode cX6_graft 21 = .ok (.if_icmp .eq 94, 3) := by decide +kernel
theorem dX6_graft_24 : decode cX6_graft 24 = .ok (.iload 4, 2) := by decide +kernel
theorem dX6_graft_26 : decode cX6_graft 26 = .ok (.iload_n 3, 1) := by decide +kernel
theorem dX6_graft_27 : decode cX6_graft 27 = .ok (.if_icmp .eq 88, 3) := by decide +kernel
theorem dX6_graft_30 : decode cX6_graft 30 = .ok (.bipush 10, 2) := by decide +kernel
theorem dX6_graft_32 : decode cX6_graft 32 = .ok (.iload_n 1, 1) := by decide +kernel
theorem dX6_graft_33 : decode cX6_graft 33 = .ok (.imul, 1) := by decide +kernel
theorem dX6_graft_34 : decode cX6_graft 34 = .ok (.iload 4, 2) := by decide +kernel
theorem dX6_graft_36 : decode cX6_graft 36 = .ok (.iadd, 1) := by decide +kernel
theorem dX6_graft_37 : decode cX6_graft 37 = .ok (.istore 5, 2) := by decide +kernel
theorem dX6_graft_39 : decode cX6_graft 39 = .ok (.aload_n 0, 1) := by decide +kernel
theorem dX6_graft_40 : decode cX6_graft 40 = .ok (.getfield 33, 3) := by decide +kernel
theorem dX6_graft_43 : decode cX6_graft 43 = .ok (.iload 5, 2) := by decide +kernel
theorem dX6_graft_45 : decode cX6_graft 45 = .ok (.iaload, 1) := by decide +kernel
theorem dX6_graft_46 : decode cX6_graft 46 = .ok (.iconst (-1), 1) := by decide +kernel
theorem dX6_graft_47 : decode cX6_graft 47 = .ok (.if_icmp .eq 7, 3) := by decide +kernel
theorem dX6_graft_50 : decode cX6_graft 50 = .ok (.iconst 1, 1) := by decide +kernel
theorem dX6_graft_51 : decode cX6_graft 51 = .ok (.goto 4, 3) := by decide +kernel
theorem dX6_graft_54 : decode cX6_graft 54 = .ok (.iconst 0, 1) := by decide +kernel
theorem dX6_graft_55 : decode cX6_graft 55 = .ok (.istore 6, 2) := by decide +kernel
theorem dX6_graft_57 : decode cX6_graft 57 = .ok (.aload_n 0, 1) := by decide +kernel
theorem dX6_graft_58 : decode cX6_graft 58 = .ok (.getfield 33, 3) := by decide +kernel
theorem dX6_graft_61 : decode cX6_graft 61 = .ok (.iload 5, 2) := by decide +kernel
theorem dX6_graft_63 : decode cX6_graft 63 = .ok (.iload 6, 2) := by decide +kernel
theorem dX6_graft_65 : decode cX6_graft 65 = .ok (.ifCond .eq 13, 3) := by decide +kernel
theorem dX6_graft_68 : decode cX6_graft 68 = .ok (.aload_n 0, 1) := by decide +kernel
theorem dX6_graft_69 : decode cX6_graft 69 = .ok (.getfield 33, 3) := by decide +kernel
theorem dX6_graft_72 : decode cX6_graft 72 = .ok (.iload 5, 2) := by decide +kernel
theorem dX6_graft_74 : decode cX6_graft 74 = .ok (.iaload, 1) := by decide +kernel
theorem dX6_graft_75 : decode cX6_graft 75 = .ok (.goto 10, 3) := by decide +kernel
theorem dX6_graft_78 : decode cX6_graft 78 = .ok (.aload_n 0, 1) := by decide +kernel
theorem dX6_graft_79 : decode cX6_graft 79 = .ok (.iload 4, 2) := by decide +kernel
theorem dX6_graft_81 : decode cX6_graft 81 = .ok (.iload_n 3, 1) := by decide +kernel
theorem dX6_graft_82 : decode cX6_graft 82 = .ok (.invokevirtual 68, 3) := by decide +kernel
theorem dX6_graft_85 : decode cX6_graft 85 = .ok (.iastore, 1) := by decide +kernel
theorem dX6_graft_86 : decode cX6_graft 86 = .ok (.aload_n 0, 1) := by decide +kernel
theorem dX6_graft_87 : decode cX6_graft 87 = .ok (.getfield 36, 3) := by decide +kernel
theorem dX6_graft_90 : decode cX6_graft 90 = .ok (.iload 5, 2) := by decide +kernel
theorem dX6_graft_92 : decode cX6_graft 92 = .ok (.iconst (-1), 1) := by decide +kernel
theorem dX6_graft_93 : decode cX6_graft 93 = .ok (.iastore, 1) := by decide +kernel
theorem dX6_graft_94 : decode cX6_graft 94 = .ok (.iload 6, 2) := by decide +kernel
theorem dX6_graft_96 : decode cX6_graft 96 = .ok (.ifCond .eq 7, 3) := by decide +kernel
theorem dX6_graft_99 : decode cX6_graft 99 = .ok (.iconst (-1), 1) := by decide +kernel
theorem dX6_graft_100 : decode cX6_graft 100 = .ok (.goto 10, 3) := by decide +kernel
theorem dX6_graft_103 : decode cX6_graft 103 = .ok (.aload_n 0, 1) := by decide +kernel
theorem dX6_graft_104 : decode cX6_graft 104 = .ok (.getfield 33, 3) := by decide +kernel
theorem dX6_graft_107 : decode cX6_graft 107 = .ok (.iload 5, 2) := by decide +kernel
theorem dX6_graft_109 : decode cX6_graft 109 = .ok (.iaload, 1) := by decide +kernel
theorem dX6_graft_110 : decode cX6_graft 110 = .ok (.istore 4, 2) := by decide +kernel
theorem dX6_graft_112 : decode cX6_graft 112 = .ok (.goto (-94), 3) := by decide +kernel
theorem dX6_graft_115 : decode cX6_graft 115 = .ok (.return_, 1) := by decide +kernel
theorem dX6_below_0 : decode cX6_below 0 = .ok (.iconst 0, 1) := by decide +kernel
theorem dX6_below_1 : decode cX6_below 1 = .ok (.istore_n 3, 1) := by decide +kernel
theorem dX6_below_2 : decode cX6_below 2 = .ok (.iconst 0, 1) := by decide +kernel
theorem dX6_below_3 : decode cX6_below 3 = .ok (.istore 4, 2) := by decide +kernel
theorem dX6_below_5 : decode cX6_below 5 = .ok (.iload 4, 2) := by decide +kernel
theorem dX6_below_7 : decode cX6_below 7 = .ok (.bipush 10, 2) := by decide +kernel
theorem dX6_below_9 : decode cX6_below 9 = .ok (.if_icmp .ge 36, 3) := by decide +kernel
theorem dX6_below_12 : decode cX6_below 12 = .ok (.iload_n 3, 1) := by decide +kernel
theorem dX6_below_13 : decode cX6_below 13 = .ok (.aload_n 0, 1) := by decide +kernel
theorem dX6_below_14 : decode cX6_below 14 = .ok (.getfield 33, 3) := by decide +kernel
theorem dX6_below_17 : decode cX6_below 17 = .ok (.bipush 10, 2) := by decide +kernel
theorem dX6_below_19 : decode cX6_below 19 = .ok (.iload_n 1, 1) := by decide +kernel
theorem dX6_below_20 : decode cX6_below 20 = .ok (.imul, 1) := by decide +kernel
theorem dX6_below_21 : decode cX6_below 21 = .ok (.iload 4, 2) := by decide +kernel
theorem dX6_below_23 : decode cX6_below 23 = .ok (.iadd, 1) := by decide +kernel
theorem dX6_below_24 : decode cX6_below 24 = .ok (.iaload, 1) := by decide +kernel
theorem dX6_below_25 : decode cX6_below 25 = .ok (.iload_n 2, 1) := by decide +kernel
theorem dX6_below_26 : decode cX6_below 26 = .ok (.if_icmp .ne 10, 3) := by decide +kernel
theorem dX6_below_29 : decode cX6_below 29 = .ok (.iconst 1, 1) := by decide +kernel
theorem dX6_below_30 : decode cX6_below 30 = .ok (.iload 4, 2) := by decide +kernel
theorem dX6_below_32 : decode cX6_below 32 = .ok (.ishl, 1) := by decide +kernel
theorem dX6_below_33 : decode cX6_below 33 = .ok (.goto 4, 3) := by decide +kernel
theorem dX6_below_36 : decode cX6_below 36 = .ok (.iconst 0, 1) := by decide +kernel
theorem dX6_below_37 : decode cX6_below 37 = .ok (.ior, 1) := by decide +kernel
theorem dX6_below_38 : decode cX6_below 38 = .ok (.istore_n 3, 1) := by decide +kernel
theorem dX6_below_39 : decode cX6_below 39 = .ok (.iinc 4 1, 3) := by decide +kernel
theorem dX6_below_42 : decode cX6_below 42 = .ok (.goto (-37), 3) := by decide +kernel
theorem dX6_below_45 : decode cX6_below 45 = .ok (.iload_n 3, 1) := by decide +kernel
theorem dX6_below_46 : decode cX6_below 46 = .ok (.ireturn, 1) := by decide +kernel
theorem dX6_looks_0 : decode cX6_looks 0 = .ok (.bipush 10, 2) := by decide +kernel
theorem dX6_looks_2 : decode cX6_looks 2 = .ok (.iload_n 1, 1) := by decide +kernel
theorem dX6_looks_3 : decode cX6_looks 3 = .ok (.imul, 1) := by decide +kernel
theorem dX6_looks_4 : decode cX6_looks 4 = .ok (.iload_n 2, 1) := by decide +kernel
theorem dX6_looks_5 : decode cX6_looks 5 = .ok (.iadd, 1) := by decide +kernel
theorem dX6_looks_6 : decode cX6_looks 6 = .ok (.istore_n 3, 1) := by decide +kernel
theorem dX6_looks_7 : decode cX6_looks 7 = .ok (.aload_n 0, 1) := by decide +kernel
theorem dX6_looks_8 : decode cX6_looks 8 = .ok (.getfield 33, 3) := by decide +kernel
theorem dX6_looks_11 : decode cX6_looks 11 = .ok (.iload_n 3, 1) := by decide +kernel
theorem dX6_looks_12 : decode cX6_looks 12 = .ok (.iaload, 1) := by decide +kernel
theorem dX6_looks_13 : decode cX6_looks 13 = .ok (.iconst (-1), 1) := by decide +kernel
theorem dX6_looks_14 : decode cX6_looks 14 = .ok (.if_icmp .eq 43, 3) := by decide +kernel
theorem dX6_looks_17 : decode cX6_looks 17 = .ok (.aload_n 0, 1) := by decide +kernel
theorem dX6_looks_18 : decode cX6_looks 18 = .ok (.getfield 36, 3) := by decide +kernel
theorem dX6_looks_21 : decode cX6_looks 21 = .ok (.iload_n 3, 1) := by decide +kernel
theorem dX6_looks_22 : decode cX6_looks 22 = .ok (.iaload, 1) := by decide +kernel
theorem dX6_looks_23 : decode cX6_looks 23 = .ok (.iconst (-1), 1) := by decide +kernel
theorem dX6_looks_24 : decode cX6_looks 24 = .ok (.if_icmp .ne 33, 3) := by decide +kernel
theorem dX6_looks_27 : decode cX6_looks 27 = .ok (.aload_n 0, 1) := by decide +kernel
theorem dX6_looks_28 : decode cX6_looks 28 = .ok (.iload_n 1, 1) := by decide +kernel
theorem dX6_looks_29 : decode cX6_looks 29 = .ok (.iload_n 2, 1) := by decide +kernel
theorem dX6_looks_30 : decode cX6_looks 30 = .ok (.invokevirtual 72, 3) := by decide +kernel
theorem dX6_looks_33 : decode cX6_looks 33 = .ok (.ifCond .ne 24, 3) := by decide +kernel
theorem dX6_looks_36 : decode cX6_looks 36 = .ok (.aload_n 0, 1) := by decide +kernel
theorem dX6_looks_37 : decode cX6_looks 37 = .ok (.iload_n 1, 1) := by decide +kernel
theorem dX6_looks_38 : decode cX6_looks 38 = .ok (.iload_n 2, 1) := by decide +kernel
theorem dX6_looks_39 : decode cX6_looks 39 = .ok (.invokevirtual 76, 3) := by decide +kernel
theorem dX6_looks_42 : decode cX6_looks 42 = .ok (.ifCond .ne 15, 3) := by decide +kernel
theorem dX6_looks_45 : decode cX6_looks 45 = .ok (.aload_n 0, 1) := by decide +kernel
theorem dX6_looks_46 : decode cX6_looks 46 = .ok (.getfield 36, 3) := by decide +kernel
theorem dX6_looks_49 : decode cX6_looks 49 = .ok (.iload_n 3, 1) := by decide +kernel
theorem dX6_looks_50 : decode cX6_looks 50 = .ok (.aload_n 0, 1) := by decide +kernel
theorem dX6_looks_51 : decode cX6_looks 51 = .ok (.getfield 79, 3) := by decide +kernel
theorem dX6_looks_54 : decode cX6_looks 54 = .ok (.iconst 3, 1) := by decide +kernel
theorem dX6_looks_55 : decode cX6_looks 55 = .ok (.iadd, 1) := by decide +kernel
theorem dX6_looks_56 : decode cX6_looks 56 = .ok (.iastore, 1) := by decide +kernel
theorem dX6_looks_57 : decode cX6_looks 57 = .ok (.return_, 1) := by decide +kernel
theorem dX6_buildsAnew_0 : decode cX6_buildsAnew 0 = .ok (.iconst 0, 1) := by decide +kernel
theorem dX6_buildsAnew_1 : decode cX6_buildsAnew 1 = .ok (.istore_n 1, 1) := by decide +kernel
theorem dX6_buildsAnew_2 : decode cX6_buildsAnew 2 = .ok (.iload_n 1, 1) := by decide +kernel
theorem dX6_buildsAnew_3 : decode cX6_buildsAnew 3 = .ok (.sipush 440, 3) := by decide +kernel
theorem dX6_buildsAnew_6 : decode cX6_buildsAnew 6 = .ok (.if_icmp .ge 23, 3) := by decide +kernel
theorem dX6_buildsAnew_9 : decode cX6_buildsAnew 9 = .ok (.aload_n 0, 1) := by decide +kernel
theorem dX6_buildsAnew_10 : decode cX6_buildsAnew 10 = .ok (.getfield 33, 3) := by decide +kernel
theorem dX6_buildsAnew_13 : decode cX6_buildsAnew 13 = .ok (.iload_n 1, 1) := by decide +kernel
theorem dX6_buildsAnew_14 : decode cX6_buildsAnew 14 = .ok (.iconst (-1), 1) := by decide +kernel
theorem dX6_buildsAnew_15 : decode cX6_buildsAnew 15 = .ok (.iastore, 1) := by decide +kernel
theorem dX6_buildsAnew_16 : decode cX6_buildsAnew 16 = .ok (.aload_n 0, 1) := by decide +kernel
theorem dX6_buildsAnew_17 : decode cX6_buildsAnew 17 = .ok (.getfield 36, 3) := by decide +kernel
theorem dX6_buildsAnew_20 : decode cX6_buildsAnew 20 = .ok (.iload_n 1, 1) := by decide +kernel
theorem dX6_buildsAnew_21 : decode cX6_buildsAnew 21 = .ok (.iconst (-1), 1) := by decide +kernel
theorem dX6_buildsAnew_22 : decode cX6_buildsAnew 22 = .ok (.iastore, 1) := by decide +kernel
theorem dX6_buildsAnew_23 : decode cX6_buildsAnew 23 = .ok (.iinc 1 1, 3) := by decide +kernel
theorem dX6_buildsAnew_26 : decode cX6_buildsAnew 26 = .ok (.goto (-24), 3) := by decide +kernel
theorem dX6_buildsAnew_29 : decode cX6_buildsAnew 29 = .ok (.iconst 0, 1) := by decide +kernel
theorem dX6_buildsAnew_30 : decode cX6_buildsAnew 30 = .ok (.istore_n 1, 1) := by decide +kernel
theorem dX6_buildsAnew_31 : decode cX6_buildsAnew 31 = .ok (.iload_n 1, 1) := by decide +kernel
theorem dX6_buildsAnew_32 : decode cX6_buildsAnew 32 = .ok (.bipush 44, 2) := by decide +kernel
theorem dX6_buildsAnew_34 : decode cX6_buildsAnew 34 = .ok (.if_icmp .ge 38, 3) := by decide +kernel
theorem dX6_buildsAnew_37 : decode cX6_buildsAnew 37 = .ok (.iconst 0, 1) := by decide +kernel
theorem dX6_buildsAnew_38 : decode cX6_buildsAnew 38 = .ok (.istore_n 2, 1) := by decide +kernel
theorem dX6_buildsAnew_39 : decode cX6_buildsAnew 39 = .ok (.iload_n 2, 1) := by decide +kernel
theorem dX6_buildsAnew_40 : decode cX6_buildsAnew 40 = .ok (.bipush 10, 2) := by decide +kernel
theorem dX6_buildsAnew_42 : decode cX6_buildsAnew 42 = .ok (.if_icmp .ge 24, 3) := by decide +kernel
theorem dX6_buildsAnew_45 : decode cX6_buildsAnew 45 = .ok (.aload_n 0, 1) := by decide +kernel
theorem dX6_buildsAnew_46 : decode cX6_buildsAnew 46 = .ok (.iload_n 1, 1) := by decide +kernel
theorem dX6_buildsAnew_47 : decode cX6_buildsAnew 47 = .ok (.iload_n 2, 1) := by decide +kernel
theorem dX6_buildsAnew_48 : decode cX6_buildsAnew 48 = .ok (.invokevirtual 72, 3) := by decide +kernel
theorem dX6_buildsAnew_51 : decode cX6_buildsAnew 51 = .ok (.ifCond .eq 9, 3) := by decide +kernel
theorem dX6_buildsAnew_54 : decode cX6_buildsAnew 54 = .ok (.aload_n 0, 1) := by decide +kernel
theorem dX6_buildsAnew_55 : decode cX6_buildsAnew 55 = .ok (.iload_n 1, 1) := by decide +kernel
theorem dX6_buildsAnew_56 : decode cX6_buildsAnew 56 = .ok (.iload_n 2, 1) := by decide +kernel
theorem dX6_buildsAnew_57 : decode cX6_buildsAnew 57 = .ok (.invokevirtual 82, 3) := by decide +kernel
theorem dX6_buildsAnew_60 : decode cX6_buildsAnew 60 = .ok (.iinc 2 1, 3) := by decide +kernel
theorem dX6_buildsAnew_63 : decode cX6_buildsAnew 63 = .ok (.goto (-24), 3) := by decide +kernel
theorem dX6_buildsAnew_66 : decode cX6_buildsAnew 66 = .ok (.iinc 1 1, 3) := by decide +kernel
theorem dX6_buildsAnew_69 : decode cX6_buildsAnew 69 = .ok (.goto (-38), 3) := by decide +kernel
theorem dX6_buildsAnew_72 : decode cX6_buildsAnew 72 = .ok (.return_, 1) := by decide +kernel
theorem dX6_setLink_0 : decode cX6_setLink 0 = .ok (.aload_n 0, 1) := by decide +kernel
theorem dX6_setLink_1 : decode cX6_setLink 1 = .ok (.iload_n 1, 1) := by decide +kernel
theorem dX6_setLink_2 : decode cX6_setLink 2 = .ok (.invokestatic 86, 3) := by decide +kernel
theorem dX6_setLink_5 : decode cX6_setLink 5 = .ok (.ifCond .eq 10, 3) := by decide +kernel
theorem dX6_setLink_8 : decode cX6_setLink 8 = .ok (.iload_n 2, 1) := by decide +kernel
theorem dX6_setLink_9 : decode cX6_setLink 9 = .ok (.invokestatic 86, 3) := by decide +kernel
theorem dX6_setLink_12 : decode cX6_setLink 12 = .ok (.ifCond .ne 7, 3) := by decide +kernel
theorem dX6_setLink_15 : decode cX6_setLink 15 = .ok (.iconst 1, 1) := by decide +kernel
theorem dX6_setLink_16 : decode cX6_setLink 16 = .ok (.goto 23, 3) := by decide +kernel
theorem dX6_setLink_19 : decode cX6_setLink 19 = .ok (.iload_n 1, 1) := by decide +kernel
theorem dX6_setLink_20 : decode cX6_setLink 20 = .ok (.iload_n 2, 1) := by decide +kernel
theorem dX6_setLink_21 : decode cX6_setLink 21 = .ok (.if_icmp .eq 13, 3) := by decide +kernel
theorem dX6_setLink_24 : decode cX6_setLink 24 = .ok (.iload_n 3, 1) := by decide +kernel
theorem dX6_setLink_25 : decode cX6_setLink 25 = .ok (.ifCond .lt 9, 3) := by decide +kernel
theorem dX6_setLink_28 : decode cX6_setLink 28 = .ok (.iload_n 3, 1) := by decide +kernel
theorem dX6_setLink_29 : decode cX6_setLink 29 = .ok (.bipush 20, 2) := by decide +kernel
theorem dX6_setLink_31 : decode cX6_setLink 31 = .ok (.if_icmp .le 7, 3) := by decide +kernel
theorem dX6_setLink_34 : decode cX6_setLink 34 = .ok (.iconst 2, 1) := by decide +kernel
theorem dX6_setLink_35 : decode cX6_setLink 35 = .ok (.goto 4, 3) := by decide +kernel
theorem dX6_setLink_38 : decode cX6_setLink 38 = .ok (.iconst 0, 1) := by decide +kernel
theorem dX6_setLink_39 : decode cX6_setLink 39 = .ok (.invokevirtual 90, 3) := by decide +kernel
theorem dX6_setLink_42 : decode cX6_setLink 42 = .ok (.ifCond .ne 5, 3) := by decide +kernel
theorem dX6_setLink_45 : decode cX6_setLink 45 = .ok (.iconst 0, 1) := by decide +kernel
theorem dX6_setLink_46 : decode cX6_setLink 46 = .ok (.ireturn, 1) := by decide +kernel
theorem dX6_setLink_47 : decode cX6_setLink 47 = .ok (.aload_n 0, 1) := by decide +kernel
theorem dX6_setLink_48 : decode cX6_setLink 48 = .ok (.getfield 13, 3) := by decide +kernel
theorem dX6_setLink_51 : decode cX6_setLink 51 = .ok (.bipush 10, 2) := by decide +kernel
theorem dX6_setLink_53 : decode cX6_setLink 53 = .ok (.iload_n 1, 1) := by decide +kernel
theorem dX6_setLink_54 : decode cX6_setLink 54 = .ok (.imul, 1) := by decide +kernel
theorem dX6_setLink_55 : decode cX6_setLink 55 = .ok (.iload_n 2, 1) := by decide +kernel
theorem dX6_setLink_56 : decode cX6_setLink 56 = .ok (.iadd, 1) := by decide +kernel
theorem dX6_setLink_57 : decode cX6_setLink 57 = .ok (.iaload, 1) := by decide +kernel
theorem dX6_setLink_58 : decode cX6_setLink 58 = .ok (.istore 4, 2) := by decide +kernel
theorem dX6_setLink_60 : decode cX6_setLink 60 = .ok (.iload 4, 2) := by decide +kernel
theorem dX6_setLink_62 : decode cX6_setLink 62 = .ok (.iload_n 3, 1) := by decide +kernel
theorem dX6_setLink_63 : decode cX6_setLink 63 = .ok (.if_icmp .eq 35, 3) := by decide +kernel
theorem dX6_setLink_66 : decode cX6_setLink 66 = .ok (.aload_n 0, 1) := by decide +kernel
theorem dX6_setLink_67 : decode cX6_setLink 67 = .ok (.getfield 13, 3) := by decide +kernel
theorem dX6_setLink_70 : decode cX6_setLink 70 = .ok (.bipush 10, 2) := by decide +kernel
theorem dX6_setLink_72 : decode cX6_setLink 72 = .ok (.iload_n 1, 1) := by decide +kernel
theorem dX6_setLink_73 : decode cX6_setLink 73 = .ok (.imul, 1) := by decide +kernel
theorem dX6_setLink_74 : decode cX6_setLink 74 = .ok (.iload_n 2, 1) := by decide +kernel
theorem dX6_setLink_75 : decode cX6_setLink 75 = .ok (.iadd, 1) := by decide +kernel
theorem dX6_setLink_76 : decode cX6_setLink 76 = .ok (.iload_n 3, 1) := by decide +kernel
theorem dX6_setLink_77 : decode cX6_setLink 77 = .ok (.iastore, 1) := by decide +kernel
theorem dX6_setLink_78 : decode cX6_setLink 78 = .ok (.aload_n 0, 1) := by decide +kernel
theorem dX6_setLink_79 : decode cX6_setLink 79 = .ok (.getfield 13, 3) := by decide +kernel
theorem dX6_setLink_82 : decode cX6_setLink 82 = .ok (.bipush 10, 2) := by decide +kernel
theorem dX6_setLink_84 : decode cX6_setLink 84 = .ok (.iload_n 2, 1) := by decide +kernel
theorem dX6_setLink_85 : decode cX6_setLink 85 = .ok (.imul, 1) := by decide +kernel
theorem dX6_setLink_86 : decode cX6_setLink 86 = .ok (.iload_n 1, 1) := by decide +kernel
theorem dX6_setLink_87 : decode cX6_setLink 87 = .ok (.iadd, 1) := by decide +kernel
theorem dX6_setLink_88 : decode cX6_setLink 88 = .ok (.iload_n 3, 1) := by decide +kernel
theorem dX6_setLink_89 : decode cX6_setLink 89 = .ok (.iastore, 1) := by decide +kernel
theorem dX6_setLink_90 : decode cX6_setLink 90 = .ok (.aload_n 0, 1) := by decide +kernel
theorem dX6_setLink_91 : decode cX6_setLink 91 = .ok (.invokevirtual 54, 3) := by decide +kernel
theorem dX6_setLink_94 : decode cX6_setLink 94 = .ok (.aload_n 0, 1) := by decide +kernel
theorem dX6_setLink_95 : decode cX6_setLink 95 = .ok (.invokevirtual 93, 3) := by decide +kernel
theorem dX6_setLink_98 : decode cX6_setLink 98 = .ok (.iload 4, 2) := by decide +kernel
theorem dX6_setLink_100 : decode cX6_setLink 100 = .ok (.ireturn, 1) := by decide +kernel
theorem dX6_setCandidate_0 : decode cX6_setCandidate 0 = .ok (.aload_n 0, 1) := by decide +kernel
theorem dX6_setCandidate_1 : decode cX6_setCandidate 1 = .ok (.iload_n 1, 1) := by decide +kernel
theorem dX6_setCandidate_2 : decode cX6_setCandidate 2 = .ok (.invokestatic 86, 3) := by decide +kernel
theorem dX6_setCandidate_5 : decode cX6_setCandidate 5 = .ok (.ifCond .eq 7, 3) := by decide +kernel
theorem dX6_setCandidate_8 : decode cX6_setCandidate 8 = .ok (.iconst 0, 1) := by decide +kernel
theorem dX6_setCandidate_9 : decode cX6_setCandidate 9 = .ok (.goto 4, 3) := by decide +kernel
theorem dX6_setCandidate_12 : decode cX6_setCandidate 12 = .ok (.iconst 1, 1) := by decide +kernel
theorem dX6_setCandidate_13 : decode cX6_setCandidate 13 = .ok (.invokevirtual 90, 3) := by decide +kernel
theorem dX6_setCandidate_16 : decode cX6_setCandidate 16 = .ok (.ifCond .eq 13, 3) := by decide +kernel
theorem dX6_setCandidate_19 : decode cX6_setCandidate 19 = .ok (.aload_n 0, 1) := by decide +kernel
theorem dX6_setCandidate_20 : decode cX6_setCandidate 20 = .ok (.getfield 20, 3) := by decide +kernel
theorem dX6_setCandidate_23 : decode cX6_setCandidate 23 = .ok (.iload_n 1, 1) := by decide +kernel
theorem dX6_setCandidate_24 : decode cX6_setCandidate 24 = .ok (.baload, 1) := by decide +kernel
theorem dX6_setCandidate_25 : decode cX6_setCandidate 25 = .ok (.iload_n 2, 1) := by decide +kernel
theorem dX6_setCandidate_26 : decode cX6_setCandidate 26 = .ok (.if_icmp .ne 5, 3) := by decide +kernel
theorem dX6_setCandidate_29 : decode cX6_setCandidate 29 = .ok (.iconst 0, 1) := by decide +kernel
theorem dX6_setCandidate_30 : decode cX6_setCandidate 30 = .ok (.ireturn, 1) := by decide +kernel
theorem dX6_setCandidate_31 : decode cX6_setCandidate 31 = .ok (.aload_n 0, 1) := by decide +kernel
theorem dX6_setCandidate_32 : decode cX6_setCandidate 32 = .ok (.getfield 20, 3) := by decide +kernel
theorem dX6_setCandidate_35 : decode cX6_setCandidate 35 = .ok (.iload_n 1, 1) := by decide +kernel
theorem dX6_setCandidate_36 : decode cX6_setCandidate 36 = .ok (.iload_n 2, 1) := by decide +kernel
theorem dX6_setCandidate_37 : decode cX6_setCandidate 37 = .ok (.bastore, 1) := by decide +kernel
theorem dX6_setCandidate_38 : decode cX6_setCandidate 38 = .ok (.aload_n 0, 1) := by decide +kernel
theorem dX6_setCandidate_39 : decode cX6_setCandidate 39 = .ok (.invokevirtual 93, 3) := by decide +kernel
theorem dX6_setCandidate_42 : decode cX6_setCandidate 42 = .ok (.iconst 1, 1) := by decide +kernel
theorem dX6_setCandidate_43 : decode cX6_setCandidate 43 = .ok (.ireturn, 1) := by decide +kernel
theorem dX6_setLimit_0 : decode cX6_setLimit 0 = .ok (.aload_n 0, 1) := by decide +kernel
theorem dX6_setLimit_1 : decode cX6_setLimit 1 = .ok (.iload_n 1, 1) := by decide +kernel
theorem dX6_setLimit_2 : decode cX6_setLimit 2 = .ok (.iconst 1, 1) := by decide +kernel
theorem dX6_setLimit_3 : decode cX6_setLimit 3 = .ok (.if_icmp .lt 9, 3) := by decide +kernel
theorem dX6_setLimit_6 : decode cX6_setLimit 6 = .ok (.iload_n 1, 1) := by decide +kernel
theorem dX6_setLimit_7 : decode cX6_setLimit 7 = .ok (.bipush 100, 2) := by decide +kernel
theorem dX6_setLimit_9 : decode cX6_setLimit 9 = .ok (.if_icmp .le 7, 3) := by decide +kernel
theorem dX6_setLimit_12 : decode cX6_setLimit 12 = .ok (.iconst 1, 1) := by decide +kernel
theorem dX6_setLimit_13 : decode cX6_setLimit 13 = .ok (.goto 4, 3) := by decide +kernel
theorem dX6_setLimit_16 : decode cX6_setLimit 16 = .ok (.iconst 0, 1) := by decide +kernel
theorem dX6_setLimit_17 : decode cX6_setLimit 17 = .ok (.invokevirtual 90, 3) := by decide +kernel
theorem dX6_setLimit_20 : decode cX6_setLimit 20 = .ok (.ifCond .ne 5, 3) := by decide +kernel
theorem dX6_setLimit_23 : decode cX6_setLimit 23 = .ok (.iconst 0, 1) := by decide +kernel
theorem dX6_setLimit_24 : decode cX6_setLimit 24 = .ok (.ireturn, 1) := by decide +kernel
theorem dX6_setLimit_25 : decode cX6_setLimit 25 = .ok (.aload_n 0, 1) := by decide +kernel
theorem dX6_setLimit_26 : decode cX6_setLimit 26 = .ok (.getfield 7, 3) := by decide +kernel
theorem dX6_setLimit_29 : decode cX6_setLimit 29 = .ok (.istore_n 2, 1) := by decide +kernel
theorem dX6_setLimit_30 : decode cX6_setLimit 30 = .ok (.aload_n 0, 1) := by decide +kernel
theorem dX6_setLimit_31 : decode cX6_setLimit 31 = .ok (.iload_n 1, 1) := by decide +kernel
theorem dX6_setLimit_32 : decode cX6_setLimit 32 = .ok (.putfield 7, 3) := by decide +kernel
theorem dX6_setLimit_35 : decode cX6_setLimit 35 = .ok (.iload_n 2, 1) := by decide +kernel
theorem dX6_setLimit_36 : decode cX6_setLimit 36 = .ok (.ireturn, 1) := by decide +kernel
theorem dX6_distance_0 : decode cX6_distance 0 = .ok (.aload_n 0, 1) := by decide +kernel
theorem dX6_distance_1 : decode cX6_distance 1 = .ok (.iload_n 1, 1) := by decide +kernel
theorem dX6_distance_2 : decode cX6_distance 2 = .ok (.invokestatic 86, 3) := by decide +kernel
theorem dX6_distance_5 : decode cX6_distance 5 = .ok (.ifCond .eq 14, 3) := by decide +kernel
theorem dX6_distance_8 : decode cX6_distance 8 = .ok (.iload_n 2, 1) := by decide +kernel
theorem dX6_distance_9 : decode cX6_distance 9 = .ok (.invokestatic 86, 3) := by decide +kernel
theorem dX6_distance_12 : decode cX6_distance 12 = .ok (.ifCond .eq 7, 3) := by decide +kernel
theorem dX6_distance_15 : decode cX6_distance 15 = .ok (.iconst 0, 1) := by decide +kernel
theorem dX6_distance_16 : decode cX6_distance 16 = .ok (.goto 4, 3) := by decide +kernel
theorem dX6_distance_19 : decode cX6_distance 19 = .ok (.iconst 1, 1) := by decide +kernel
theorem dX6_distance_20 : decode cX6_distance 20 = .ok (.invokevirtual 90, 3) := by decide +kernel
theorem dX6_distance_23 : decode cX6_distance 23 = .ok (.ifCond .ne 5, 3) := by decide +kernel
theorem dX6_distance_26 : decode cX6_distance 26 = .ok (.iconst 0, 1) := by decide +kernel
theorem dX6_distance_27 : decode cX6_distance 27 = .ok (.ireturn, 1) := by decide +kernel
theorem dX6_distance_28 : decode cX6_distance 28 = .ok (.aload_n 0, 1) := by decide +kernel
theorem dX6_distance_29 : decode cX6_distance 29 = .ok (.getfield 17, 3) := by decide +kernel
theorem dX6_distance_32 : decode cX6_distance 32 = .ok (.bipush 10, 2) := by decide +kernel
theorem dX6_distance_34 : decode cX6_distance 34 = .ok (.iload_n 1, 1) := by decide +kernel
theorem dX6_distance_35 : decode cX6_distance 35 = .ok (.imul, 1) := by decide +kernel
theorem dX6_distance_36 : decode cX6_distance 36 = .ok (.iload_n 2, 1) := by decide +kernel
theorem dX6_distance_37 : decode cX6_distance 37 = .ok (.iadd, 1) := by decide +kernel
theorem dX6_distance_38 : decode cX6_distance 38 = .ok (.iaload, 1) := by decide +kernel
theorem dX6_distance_39 : decode cX6_distance 39 = .ok (.istore_n 3, 1) := by decide +kernel
theorem dX6_distance_40 : decode cX6_distance 40 = .ok (.iload_n 3, 1) := by decide +kernel
theorem dX6_distance_41 : decode cX6_distance 41 = .ok (.ldc 60, 2) := by decide +kernel
theorem dX6_distance_43 : decode cX6_distance 43 = .ok (.if_icmp .ge 7, 3) := by decide +kernel
theorem dX6_distance_46 : decode cX6_distance 46 = .ok (.iload_n 3, 1) := by decide +kernel
theorem dX6_distance_47 : decode cX6_distance 47 = .ok (.goto 4, 3) := by decide +kernel
theorem dX6_distance_50 : decode cX6_distance 50 = .ok (.iconst (-1), 1) := by decide +kernel
theorem dX6_distance_51 : decode cX6_distance 51 = .ok (.ireturn, 1) := by decide +kernel
theorem dX6_nextHop_0 : decode cX6_nextHop 0 = .ok (.aload_n 0, 1) := by decide +kernel
theorem dX6_nextHop_1 : decode cX6_nextHop 1 = .ok (.iload_n 1, 1) := by decide +kernel
theorem dX6_nextHop_2 : decode cX6_nextHop 2 = .ok (.invokestatic 86, 3) := by decide +kernel
theorem dX6_nextHop_5 : decode cX6_nextHop 5 = .ok (.ifCond .eq 14, 3) := by decide +kernel
theorem dX6_nextHop_8 : decode cX6_nextHop 8 = .ok (.iload_n 2, 1) := by decide +kernel
theorem dX6_nextHop_9 : decode cX6_nextHop 9 = .ok (.invokestatic 86, 3) := by decide +kernel
theorem dX6_nextHop_12 : decode cX6_nextHop 12 = .ok (.ifCond .eq 7, 3) := by decide +kernel
theorem dX6_nextHop_15 : decode cX6_nextHop 15 = .ok (.iconst 0, 1) := by decide +kernel
theorem dX6_nextHop_16 : decode cX6_nextHop 16 = .ok (.goto 4, 3) := by decide +kernel
theorem dX6_nextHop_19 : decode cX6_nextHop 19 = .ok (.iconst 1, 1) := by decide +kernel
theorem dX6_nextHop_20 : decode cX6_nextHop 20 = .ok (.invokevirtual 90, 3) := by decide +kernel
theorem dX6_nextHop_23 : decode cX6_nextHop 23 = .ok (.ifCond .eq 12, 3) := by decide +kernel
theorem dX6_nextHop_26 : decode cX6_nextHop 26 = .ok (.aload_n 0, 1) := by decide +kernel
theorem dX6_nextHop_27 : decode cX6_nextHop 27 = .ok (.iload_n 1, 1) := by decide +kernel
theorem dX6_nextHop_28 : decode cX6_nextHop 28 = .ok (.iload_n 2, 1) := by decide +kernel
theorem dX6_nextHop_29 : decode cX6_nextHop 29 = .ok (.invokevirtual 68, 3) := by decide +kernel
theorem dX6_nextHop_32 : decode cX6_nextHop 32 = .ok (.goto 4, 3) := by decide +kernel
theorem dX6_nextHop_35 : decode cX6_nextHop 35 = .ok (.iconst 0, 1) := by decide +kernel
theorem dX6_nextHop_36 : decode cX6_nextHop 36 = .ok (.ireturn, 1) := by decide +kernel
theorem dX6_rendezvous_0 : decode cX6_rendezvous 0 = .ok (.aload_n 0, 1) := by decide +kernel
theorem dX6_rendezvous_1 : decode cX6_rendezvous 1 = .ok (.iload_n 1, 1) := by decide +kernel
theorem dX6_rendezvous_2 : decode cX6_rendezvous 2 = .ok (.invokestatic 96, 3) := by decide +kernel
theorem dX6_rendezvous_5 : decode cX6_rendezvous 5 = .ok (.ifCond .eq 7, 3) := by decide +kernel
theorem dX6_rendezvous_8 : decode cX6_rendezvous 8 = .ok (.iconst 0, 1) := by decide +kernel
theorem dX6_rendezvous_9 : decode cX6_rendezvous 9 = .ok (.goto 4, 3) := by decide +kernel
theorem dX6_rendezvous_12 : decode cX6_rendezvous 12 = .ok (.iconst 1, 1) := by decide +kernel
theorem dX6_rendezvous_13 : decode cX6_rendezvous 13 = .ok (.invokevirtual 90, 3) := by decide +kernel
theorem dX6_rendezvous_16 : decode cX6_rendezvous 16 = .ok (.ifCond .eq 11, 3) := by decide +kernel
theorem dX6_rendezvous_19 : decode cX6_rendezvous 19 = .ok (.aload_n 0, 1) := by decide +kernel
theorem dX6_rendezvous_20 : decode cX6_rendezvous 20 = .ok (.iload_n 1, 1) := by decide +kernel
theorem dX6_rendezvous_21 : decode cX6_rendezvous 21 = .ok (.invokevirtual 61, 3) := by decide +kernel
theorem dX6_rendezvous_24 : decode cX6_rendezvous 24 = .ok (.goto 4, 3) := by decide +kernel
theorem dX6_rendezvous_27 : decode cX6_rendezvous 27 = .ok (.iconst 0, 1) := by decide +kernel
theorem dX6_rendezvous_28 : decode cX6_rendezvous 28 = .ok (.ireturn, 1) := by decide +kernel
theorem dX6_many_0 : decode cX6_many 0 = .ok (.iconst 0, 1) := by decide +kernel
theorem dX6_many_1 : decode cX6_many 1 = .ok (.istore_n 1, 1) := by decide +kernel
theorem dX6_many_2 : decode cX6_many 2 = .ok (.iconst 0, 1) := by decide +kernel
theorem dX6_many_3 : decode cX6_many 3 = .ok (.istore_n 2, 1) := by decide +kernel
theorem dX6_many_4 : decode cX6_many 4 = .ok (.iload_n 2, 1) := by decide +kernel
theorem dX6_many_5 : decode cX6_many 5 = .ok (.bipush 10, 2) := by decide +kernel
theorem dX6_many_7 : decode cX6_many 7 = .ok (.if_icmp .ge 17, 3) := by decide +kernel
theorem dX6_many_10 : decode cX6_many 10 = .ok (.iload_n 1, 1) := by decide +kernel
theorem dX6_many_11 : decode cX6_many 11 = .ok (.iload_n 0, 1) := by decide +kernel
theorem dX6_many_12 : decode cX6_many 12 = .ok (.iload_n 2, 1) := by decide +kernel
theorem dX6_many_13 : decode cX6_many 13 = .ok (.ishr, 1) := by decide +kernel
theorem dX6_many_14 : decode cX6_many 14 = .ok (.iconst 1, 1) := by decide +kernel
theorem dX6_many_15 : decode cX6_many 15 = .ok (.iand, 1) := by decide +kernel
theorem dX6_many_16 : decode cX6_many 16 = .ok (.iadd, 1) := by decide +kernel
theorem dX6_many_17 : decode cX6_many 17 = .ok (.istore_n 1, 1) := by decide +kernel
theorem dX6_many_18 : decode cX6_many 18 = .ok (.iinc 2 1, 3) := by decide +kernel
theorem dX6_many_21 : decode cX6_many 21 = .ok (.goto (-17), 3) := by decide +kernel
theorem dX6_many_24 : decode cX6_many 24 = .ok (.iload_n 1, 1) := by decide +kernel
theorem dX6_many_25 : decode cX6_many 25 = .ok (.ireturn, 1) := by decide +kernel
theorem dX6_isMember_0 : decode cX6_isMember 0 = .ok (.aload_n 0, 1) := by decide +kernel
theorem dX6_isMember_1 : decode cX6_isMember 1 = .ok (.getfield 24, 3) := by decide +kernel
theorem dX6_isMember_4 : decode cX6_isMember 4 = .ok (.iload_n 2, 1) := by decide +kernel
theorem dX6_isMember_5 : decode cX6_isMember 5 = .ok (.iaload, 1) := by decide +kernel
theorem dX6_isMember_6 : decode cX6_isMember 6 = .ok (.iload_n 1, 1) := by decide +kernel
theorem dX6_isMember_7 : decode cX6_isMember 7 = .ok (.ishr, 1) := by decide +kernel
theorem dX6_isMember_8 : decode cX6_isMember 8 = .ok (.iconst 1, 1) := by decide +kernel
theorem dX6_isMember_9 : decode cX6_isMember 9 = .ok (.iand, 1) := by decide +kernel
theorem dX6_isMember_10 : decode cX6_isMember 10 = .ok (.iconst 1, 1) := by decide +kernel
theorem dX6_isMember_11 : decode cX6_isMember 11 = .ok (.if_icmp .ne 7, 3) := by decide +kernel
theorem dX6_isMember_14 : decode cX6_isMember 14 = .ok (.iconst 1, 1) := by decide +kernel
theorem dX6_isMember_15 : decode cX6_isMember 15 = .ok (.goto 4, 3) := by decide +kernel
theorem dX6_isMember_18 : decode cX6_isMember 18 = .ok (.iconst 0, 1) := by decide +kernel
theorem dX6_isMember_19 : decode cX6_isMember 19 = .ok (.ireturn, 1) := by decide +kernel
theorem dX6_join_0 : decode cX6_join 0 = .ok (.aload_n 0, 1) := by decide +kernel
theorem dX6_join_1 : decode cX6_join 1 = .ok (.iload_n 1, 1) := by decide +kernel
theorem dX6_join_2 : decode cX6_join 2 = .ok (.invokestatic 86, 3) := by decide +kernel
theorem dX6_join_5 : decode cX6_join 5 = .ok (.ifCond .eq 10, 3) := by decide +kernel
theorem dX6_join_8 : decode cX6_join 8 = .ok (.iload_n 2, 1) := by decide +kernel
theorem dX6_join_9 : decode cX6_join 9 = .ok (.invokestatic 96, 3) := by decide +kernel
theorem dX6_join_12 : decode cX6_join 12 = .ok (.ifCond .ne 7, 3) := by decide +kernel
theorem dX6_join_15 : decode cX6_join 15 = .ok (.iconst 1, 1) := by decide +kernel
theorem dX6_join_16 : decode cX6_join 16 = .ok (.goto 17, 3) := by decide +kernel
theorem dX6_join_19 : decode cX6_join 19 = .ok (.aload_n 0, 1) := by decide +kernel
theorem dX6_join_20 : decode cX6_join 20 = .ok (.iload_n 1, 1) := by decide +kernel
theorem dX6_join_21 : decode cX6_join 21 = .ok (.iload_n 2, 1) := by decide +kernel
theorem dX6_join_22 : decode cX6_join 22 = .ok (.invokevirtual 99, 3) := by decide +kernel
theorem dX6_join_25 : decode cX6_join 25 = .ok (.ifCond .eq 7, 3) := by decide +kernel
theorem dX6_join_28 : decode cX6_join 28 = .ok (.iconst 2, 1) := by decide +kernel
theorem dX6_join_29 : decode cX6_join 29 = .ok (.goto 4, 3) := by decide +kernel
theorem dX6_join_32 : decode cX6_join 32 = .ok (.iconst 0, 1) := by decide +kernel
theorem dX6_join_33 : decode cX6_join 33 = .ok (.invokevirtual 90, 3) := by decide +kernel
theorem dX6_join_36 : decode cX6_join 36 = .ok (.ifCond .ne 5, 3) := by decide +kernel
theorem dX6_join_39 : decode cX6_join 39 = .ok (.iconst 0, 1) := by decide +kernel
theorem dX6_join_40 : decode cX6_join 40 = .ok (.ireturn, 1) := by decide +kernel
theorem dX6_join_41 : decode cX6_join 41 = .ok (.aload_n 0, 1) := by decide +kernel
theorem dX6_join_42 : decode cX6_join 42 = .ok (.getfield 24, 3) := by decide +kernel
theorem dX6_join_45 : decode cX6_join 45 = .ok (.iload_n 2, 1) := by decide +kernel
theorem dX6_join_46 : decode cX6_join 46 = .ok (.dup2, 1) := by decide +kernel
theorem dX6_join_47 : decode cX6_join 47 = .ok (.iaload, 1) := by decide +kernel
theorem dX6_join_48 : decode cX6_join 48 = .ok (.iconst 1, 1) := by decide +kernel
theorem dX6_join_49 : decode cX6_join 49 = .ok (.iload_n 1, 1) := by decide +kernel
theorem dX6_join_50 : decode cX6_join 50 = .ok (.ishl, 1) := by decide +kernel
theorem dX6_join_51 : decode cX6_join 51 = .ok (.ior, 1) := by decide +kernel
theorem dX6_join_52 : decode cX6_join 52 = .ok (.iastore, 1) := by decide +kernel
theorem dX6_join_53 : decode cX6_join 53 = .ok (.aload_n 0, 1) := by decide +kernel
theorem dX6_join_54 : decode cX6_join 54 = .ok (.bipush 11, 2) := by decide +kernel
theorem dX6_join_56 : decode cX6_join 56 = .ok (.iload_n 2, 1) := by decide +kernel
theorem dX6_join_57 : decode cX6_join 57 = .ok (.imul, 1) := by decide +kernel
theorem dX6_join_58 : decode cX6_join 58 = .ok (.bipush 10, 2) := by decide +kernel
theorem dX6_join_60 : decode cX6_join 60 = .ok (.iadd, 1) := by decide +kernel
theorem dX6_join_61 : decode cX6_join 61 = .ok (.iload_n 1, 1) := by decide +kernel
theorem dX6_join_62 : decode cX6_join 62 = .ok (.invokevirtual 82, 3) := by decide +kernel
theorem dX6_join_65 : decode cX6_join 65 = .ok (.aload_n 0, 1) := by decide +kernel
theorem dX6_join_66 : decode cX6_join 66 = .ok (.getfield 24, 3) := by decide +kernel
theorem dX6_join_69 : decode cX6_join 69 = .ok (.iload_n 2, 1) := by decide +kernel
theorem dX6_join_70 : decode cX6_join 70 = .ok (.iaload, 1) := by decide +kernel
theorem dX6_join_71 : decode cX6_join 71 = .ok (.invokestatic 102, 3) := by decide +kernel
theorem dX6_join_74 : decode cX6_join 74 = .ok (.ireturn, 1) := by decide +kernel
theorem dX6_leave_0 : decode cX6_leave 0 = .ok (.aload_n 0, 1) := by decide +kernel
theorem dX6_leave_1 : decode cX6_leave 1 = .ok (.iload_n 1, 1) := by decide +kernel
theorem dX6_leave_2 : decode cX6_leave 2 = .ok (.invokestatic 86, 3) := by decide +kernel
theorem dX6_leave_5 : decode cX6_leave 5 = .ok (.ifCond .eq 10, 3) := by decide +kernel
theorem dX6_leave_8 : decode cX6_leave 8 = .ok (.iload_n 2, 1) := by decide +kernel
theorem dX6_leave_9 : decode cX6_leave 9 = .ok (.invokestatic 96, 3) := by decide +kernel
theorem dX6_leave_12 : decode cX6_leave 12 = .ok (.ifCond .ne 7, 3) := by decide +kernel
theorem dX6_leave_15 : decode cX6_leave 15 = .ok (.iconst 1, 1) := by decide +kernel
theorem dX6_leave_16 : decode cX6_leave 16 = .ok (.goto 17, 3) := by decide +kernel
theorem dX6_leave_19 : decode cX6_leave 19 = .ok (.aload_n 0, 1) := by decide +kernel
theorem dX6_leave_20 : decode cX6_leave 20 = .ok (.iload_n 1, 1) := by decide +kernel
theorem dX6_leave_21 : decode cX6_leave 21 = .ok (.iload_n 2, 1) := by decide +kernel
theorem dX6_leave_22 : decode cX6_leave 22 = .ok (.invokevirtual 99, 3) := by decide +kernel
theorem dX6_leave_25 : decode cX6_leave 25 = .ok (.ifCond .eq 7, 3) := by decide +kernel
theorem dX6_leave_28 : decode cX6_leave 28 = .ok (.iconst 0, 1) := by decide +kernel
theorem dX6_leave_29 : decode cX6_leave 29 = .ok (.goto 4, 3) := by decide +kernel
theorem dX6_leave_32 : decode cX6_leave 32 = .ok (.iconst 2, 1) := by decide +kernel
theorem dX6_leave_33 : decode cX6_leave 33 = .ok (.invokevirtual 90, 3) := by decide +kernel
theorem dX6_leave_36 : decode cX6_leave 36 = .ok (.ifCond .ne 5, 3) := by decide +kernel
theorem dX6_leave_39 : decode cX6_leave 39 = .ok (.iconst 0, 1) := by decide +kernel
theorem dX6_leave_40 : decode cX6_leave 40 = .ok (.ireturn, 1) := by decide +kernel
theorem dX6_leave_41 : decode cX6_leave 41 = .ok (.aload_n 0, 1) := by decide +kernel
theorem dX6_leave_42 : decode cX6_leave 42 = .ok (.getfield 24, 3) := by decide +kernel
theorem dX6_leave_45 : decode cX6_leave 45 = .ok (.iload_n 2, 1) := by decide +kernel
theorem dX6_leave_46 : decode cX6_leave 46 = .ok (.dup2, 1) := by decide +kernel
theorem dX6_leave_47 : decode cX6_leave 47 = .ok (.iaload, 1) := by decide +kernel
theorem dX6_leave_48 : decode cX6_leave 48 = .ok (.iconst 1, 1) := by decide +kernel
theorem dX6_leave_49 : decode cX6_leave 49 = .ok (.iload_n 1, 1) := by decide +kernel
theorem dX6_leave_50 : decode cX6_leave 50 = .ok (.ishl, 1) := by decide +kernel
theorem dX6_leave_51 : decode cX6_leave 51 = .ok (.iconst (-1), 1) := by decide +kernel
theorem dX6_leave_52 : decode cX6_leave 52 = .ok (.ixor, 1) := by decide +kernel
theorem dX6_leave_53 : decode cX6_leave 53 = .ok (.iand, 1) := by decide +kernel
theorem dX6_leave_54 : decode cX6_leave 54 = .ok (.iastore, 1) := by decide +kernel
theorem dX6_leave_55 : decode cX6_leave 55 = .ok (.iconst 0, 1) := by decide +kernel
theorem dX6_leave_56 : decode cX6_leave 56 = .ok (.istore_n 3, 1) := by decide +kernel
theorem dX6_leave_57 : decode cX6_leave 57 = .ok (.iload_n 3, 1) := by decide +kernel
theorem dX6_leave_58 : decode cX6_leave 58 = .ok (.bipush 10, 2) := by decide +kernel
theorem dX6_leave_60 : decode cX6_leave 60 = .ok (.if_icmp .ge 44, 3) := by decide +kernel
theorem dX6_leave_63 : decode cX6_leave 63 = .ok (.aload_n 0, 1) := by decide +kernel
theorem dX6_leave_64 : decode cX6_leave 64 = .ok (.getfield 27, 3) := by decide +kernel
theorem dX6_leave_67 : decode cX6_leave 67 = .ok (.bipush 10, 2) := by decide +kernel
theorem dX6_leave_69 : decode cX6_leave 69 = .ok (.iload_n 2, 1) := by decide +kernel
theorem dX6_leave_70 : decode cX6_leave 70 = .ok (.imul, 1) := by decide +kernel
theorem dX6_leave_71 : decode cX6_leave 71 = .ok (.iload_n 3, 1) := by decide +kernel
theorem dX6_leave_72 : decode cX6_leave 72 = .ok (.iadd, 1) := by decide +kernel
theorem dX6_leave_73 : decode cX6_leave 73 = .ok (.dup2, 1) := by decide +kernel
theorem dX6_leave_74 : decode cX6_leave 74 = .ok (.iaload, 1) := by decide +kernel
theorem dX6_leave_75 : decode cX6_leave 75 = .ok (.iconst 1, 1) := by decide +kernel
theorem dX6_leave_76 : decode cX6_leave 76 = .ok (.iload_n 1, 1) := by decide +kernel
theorem dX6_leave_77 : decode cX6_leave 77 = .ok (.ishl, 1) := by decide +kernel
theorem dX6_leave_78 : decode cX6_leave 78 = .ok (.iconst (-1), 1) := by decide +kernel
theorem dX6_leave_79 : decode cX6_leave 79 = .ok (.ixor, 1) := by decide +kernel
theorem dX6_leave_80 : decode cX6_leave 80 = .ok (.iand, 1) := by decide +kernel
theorem dX6_leave_81 : decode cX6_leave 81 = .ok (.iastore, 1) := by decide +kernel
theorem dX6_leave_82 : decode cX6_leave 82 = .ok (.aload_n 0, 1) := by decide +kernel
theorem dX6_leave_83 : decode cX6_leave 83 = .ok (.getfield 30, 3) := by decide +kernel
theorem dX6_leave_86 : decode cX6_leave 86 = .ok (.bipush 40, 2) := by decide +kernel
theorem dX6_leave_88 : decode cX6_leave 88 = .ok (.iload_n 1, 1) := by decide +kernel
theorem dX6_leave_89 : decode cX6_leave 89 = .ok (.imul, 1) := by decide +kernel
theorem dX6_leave_90 : decode cX6_leave 90 = .ok (.iconst 4, 1) := by decide +kernel
theorem dX6_leave_91 : decode cX6_leave 91 = .ok (.iload_n 3, 1) := by decide +kernel
theorem dX6_leave_92 : decode cX6_leave 92 = .ok (.imul, 1) := by decide +kernel
theorem dX6_leave_93 : decode cX6_leave 93 = .ok (.iadd, 1) := by decide +kernel
theorem dX6_leave_94 : decode cX6_leave 94 = .ok (.iload_n 2, 1) := by decide +kernel
theorem dX6_leave_95 : decode cX6_leave 95 = .ok (.iadd, 1) := by decide +kernel
theorem dX6_leave_96 : decode cX6_leave 96 = .ok (.iconst 0, 1) := by decide +kernel
theorem dX6_leave_97 : decode cX6_leave 97 = .ok (.iastore, 1) := by decide +kernel
theorem dX6_leave_98 : decode cX6_leave 98 = .ok (.iinc 3 1, 3) := by decide +kernel
theorem dX6_leave_101 : decode cX6_leave 101 = .ok (.goto (-44), 3) := by decide +kernel
theorem dX6_leave_104 : decode cX6_leave 104 = .ok (.bipush 11, 2) := by decide +kernel
theorem dX6_leave_106 : decode cX6_leave 106 = .ok (.iload_n 2, 1) := by decide +kernel
theorem dX6_leave_107 : decode cX6_leave 107 = .ok (.imul, 1) := by decide +kernel
theorem dX6_leave_108 : decode cX6_leave 108 = .ok (.istore_n 3, 1) := by decide +kernel
theorem dX6_leave_109 : decode cX6_leave 109 = .ok (.iload_n 3, 1) := by decide +kernel
theorem dX6_leave_110 : decode cX6_leave 110 = .ok (.bipush 11, 2) := by decide +kernel
theorem dX6_leave_112 : decode cX6_leave 112 = .ok (.iload_n 2, 1) := by decide +kernel
theorem dX6_leave_113 : decode cX6_leave 113 = .ok (.imul, 1) := by decide +kernel
theorem dX6_leave_114 : decode cX6_leave 114 = .ok (.bipush 11, 2) := by decide +kernel
theorem dX6_leave_116 : decode cX6_leave 116 = .ok (.iadd, 1) := by decide +kernel
theorem dX6_leave_117 : decode cX6_leave 117 = .ok (.if_icmp .ge 15, 3) := by decide +kernel
theorem dX6_leave_120 : decode cX6_leave 120 = .ok (.aload_n 0, 1) := by decide +kernel
theorem dX6_leave_121 : decode cX6_leave 121 = .ok (.iload_n 3, 1) := by decide +kernel
theorem dX6_leave_122 : decode cX6_leave 122 = .ok (.iload_n 1, 1) := by decide +kernel
theorem dX6_leave_123 : decode cX6_leave 123 = .ok (.invokevirtual 105, 3) := by decide +kernel
theorem dX6_leave_126 : decode cX6_leave 126 = .ok (.iinc 3 1, 3) := by decide +kernel
theorem dX6_leave_129 : decode cX6_leave 129 = .ok (.goto (-20), 3) := by decide +kernel
theorem dX6_leave_132 : decode cX6_leave 132 = .ok (.aload_n 0, 1) := by decide +kernel
theorem dX6_leave_133 : decode cX6_leave 133 = .ok (.getfield 24, 3) := by decide +kernel
theorem dX6_leave_136 : decode cX6_leave 136 = .ok (.iload_n 2, 1) := by decide +kernel
theorem dX6_leave_137 : decode cX6_leave 137 = .ok (.iaload, 1) := by decide +kernel
theorem dX6_leave_138 : decode cX6_leave 138 = .ok (.invokestatic 102, 3) := by decide +kernel
theorem dX6_leave_141 : decode cX6_leave 141 = .ok (.ireturn, 1) := by decide +kernel
theorem dX6_members_0 : decode cX6_members 0 = .ok (.aload_n 0, 1) := by decide +kernel
theorem dX6_members_1 : decode cX6_members 1 = .ok (.iload_n 1, 1) := by decide +kernel
theorem dX6_members_2 : decode cX6_members 2 = .ok (.invokestatic 96, 3) := by decide +kernel
theorem dX6_members_5 : decode cX6_members 5 = .ok (.ifCond .eq 7, 3) := by decide +kernel
theorem dX6_members_8 : decode cX6_members 8 = .ok (.iconst 0, 1) := by decide +kernel
theorem dX6_members_9 : decode cX6_members 9 = .ok (.goto 4, 3) := by decide +kernel
theorem dX6_members_12 : decode cX6_members 12 = .ok (.iconst 1, 1) := by decide +kernel
theorem dX6_members_13 : decode cX6_members 13 = .ok (.invokevirtual 90, 3) := by decide +kernel
theorem dX6_members_16 : decode cX6_members 16 = .ok (.ifCond .eq 12, 3) := by decide +kernel
theorem dX6_members_19 : decode cX6_members 19 = .ok (.aload_n 0, 1) := by decide +kernel
theorem dX6_members_20 : decode cX6_members 20 = .ok (.getfield 24, 3) := by decide +kernel
theorem dX6_members_23 : decode cX6_members 23 = .ok (.iload_n 1, 1) := by decide +kernel
theorem dX6_members_24 : decode cX6_members 24 = .ok (.iaload, 1) := by decide +kernel
theorem dX6_members_25 : decode cX6_members 25 = .ok (.goto 4, 3) := by decide +kernel
theorem dX6_members_28 : decode cX6_members 28 = .ok (.iconst 0, 1) := by decide +kernel
theorem dX6_members_29 : decode cX6_members 29 = .ok (.ireturn, 1) := by decide +kernel
theorem dX6_switched_0 : decode cX6_switched 0 = .ok (.aload_n 0, 1) := by decide +kernel
theorem dX6_switched_1 : decode cX6_switched 1 = .ok (.iload_n 1, 1) := by decide +kernel
theorem dX6_switched_2 : decode cX6_switched 2 = .ok (.invokestatic 86, 3) := by decide +kernel
theorem dX6_switched_5 : decode cX6_switched 5 = .ok (.ifCond .eq 14, 3) := by decide +kernel
theorem dX6_switched_8 : decode cX6_switched 8 = .ok (.iload_n 2, 1) := by decide +kernel
theorem dX6_switched_9 : decode cX6_switched 9 = .ok (.invokestatic 96, 3) := by decide +kernel
theorem dX6_switched_12 : decode cX6_switched 12 = .ok (.ifCond .eq 7, 3) := by decide +kernel
theorem dX6_switched_15 : decode cX6_switched 15 = .ok (.iconst 0, 1) := by decide +kernel
theorem dX6_switched_16 : decode cX6_switched 16 = .ok (.goto 4, 3) := by decide +kernel
theorem dX6_switched_19 : decode cX6_switched 19 = .ok (.iconst 1, 1) := by decide +kernel
theorem dX6_switched_20 : decode cX6_switched 20 = .ok (.invokevirtual 90, 3) := by decide +kernel
theorem dX6_switched_23 : decode cX6_switched 23 = .ok (.ifCond .eq 17, 3) := by decide +kernel
theorem dX6_switched_26 : decode cX6_switched 26 = .ok (.aload_n 0, 1) := by decide +kernel
theorem dX6_switched_27 : decode cX6_switched 27 = .ok (.getfield 27, 3) := by decide +kernel
theorem dX6_switched_30 : decode cX6_switched 30 = .ok (.bipush 10, 2) := by decide +kernel
theorem dX6_switched_32 : decode cX6_switched 32 = .ok (.iload_n 2, 1) := by decide +kernel
theorem dX6_switched_33 : decode cX6_switched 33 = .ok (.imul, 1) := by decide +kernel
theorem dX6_switched_34 : decode cX6_switched 34 = .ok (.iload_n 1, 1) := by decide +kernel
theorem dX6_switched_35 : decode cX6_switched 35 = .ok (.iadd, 1) := by decide +kernel
theorem dX6_switched_36 : decode cX6_switched 36 = .ok (.iaload, 1) := by decide +kernel
theorem dX6_switched_37 : decode cX6_switched 37 = .ok (.goto 4, 3) := by decide +kernel
theorem dX6_switched_40 : decode cX6_switched 40 = .ok (.iconst 0, 1) := by decide +kernel
theorem dX6_switched_41 : decode cX6_switched 41 = .ok (.ireturn, 1) := by decide +kernel
theorem dX6_branches_0 : decode cX6_branches 0 = .ok (.aload_n 0, 1) := by decide +kernel
theorem dX6_branches_1 : decode cX6_branches 1 = .ok (.iload_n 1, 1) := by decide +kernel
theorem dX6_branches_2 : decode cX6_branches 2 = .ok (.invokestatic 86, 3) := by decide +kernel
theorem dX6_branches_5 : decode cX6_branches 5 = .ok (.ifCond .eq 14, 3) := by decide +kernel
theorem dX6_branches_8 : decode cX6_branches 8 = .ok (.iload_n 2, 1) := by decide +kernel
theorem dX6_branches_9 : decode cX6_branches 9 = .ok (.invokestatic 96, 3) := by decide +kernel
theorem dX6_branches_12 : decode cX6_branches 12 = .ok (.ifCond .eq 7, 3) := by decide +kernel
theorem dX6_branches_15 : decode cX6_branches 15 = .ok (.iconst 0, 1) := by decide +kernel
theorem dX6_branches_16 : decode cX6_branches 16 = .ok (.goto 4, 3) := by decide +kernel
theorem dX6_branches_19 : decode cX6_branches 19 = .ok (.iconst 1, 1) := by decide +kernel
theorem dX6_branches_20 : decode cX6_branches 20 = .ok (.invokevirtual 90, 3) := by decide +kernel
theorem dX6_branches_23 : decode cX6_branches 23 = .ok (.ifCond .eq 18, 3) := by decide +kernel
theorem dX6_branches_26 : decode cX6_branches 26 = .ok (.aload_n 0, 1) := by decide +kernel
theorem dX6_branches_27 : decode cX6_branches 27 = .ok (.bipush 11, 2) := by decide +kernel
theorem dX6_branches_29 : decode cX6_branches 29 = .ok (.iload_n 2, 1) := by decide +kernel
theorem dX6_branches_30 : decode cX6_branches 30 = .ok (.imul, 1) := by decide +kernel
theorem dX6_branches_31 : decode cX6_branches 31 = .ok (.bipush 10, 2) := by decide +kernel
theorem dX6_branches_33 : decode cX6_branches 33 = .ok (.iadd, 1) := by decide +kernel
theorem dX6_branches_34 : decode cX6_branches 34 = .ok (.iload_n 1, 1) := by decide +kernel
theorem dX6_branches_35 : decode cX6_branches 35 = .ok (.invokevirtual 76, 3) := by decide +kernel
theorem dX6_branches_38 : decode cX6_branches 38 = .ok (.goto 4, 3) := by decide +kernel
theorem dX6_branches_41 : decode cX6_branches 41 = .ok (.iconst 0, 1) := by decide +kernel
theorem dX6_branches_42 : decode cX6_branches 42 = .ok (.ireturn, 1) := by decide +kernel
theorem dX6_sourceBranches_0 : decode cX6_sourceBranches 0 = .ok (.aload_n 0, 1) := by decide +kernel
theorem dX6_sourceBranches_1 : decode cX6_sourceBranches 1 = .ok (.iload_n 1, 1) := by decide +kernel
theorem dX6_sourceBranches_2 : decode cX6_sourceBranches 2 = .ok (.invokestatic 86, 3) := by decide +kernel
theorem dX6_sourceBranches_5 : decode cX6_sourceBranches 5 = .ok (.ifCond .eq 21, 3) := by decide +kernel
theorem dX6_sourceBranches_8 : decode cX6_sourceBranches 8 = .ok (.iload_n 2, 1) := by decide +kernel
theorem dX6_sourceBranches_9 : decode cX6_sourceBranches 9 = .ok (.invokestatic 86, 3) := by decide +kernel
theorem dX6_sourceBranches_12 : decode cX6_sourceBranches 12 = .ok (.ifCond .eq 14, 3) := by decide +kernel
theorem dX6_sourceBranches_15 : decode cX6_sourceBranches 15 = .ok (.iload_n 3, 1) := by decide +kernel
theorem dX6_sourceBranches_16 : decode cX6_sourceBranches 16 = .ok (.invokestatic 96, 3) := by decide +kernel
theorem dX6_sourceBranches_19 : decode cX6_sourceBranches 19 = .ok (.ifCond .eq 7, 3) := by decide +kernel
theorem dX6_sourceBranches_22 : decode cX6_sourceBranches 22 = .ok (.iconst 0, 1) := by decide +kernel
theorem dX6_sourceBranches_23 : decode cX6_sourceBranches 23 = .ok (.goto 4, 3) := by decide +kernel
theorem dX6_sourceBranches_26 : decode cX6_sourceBranches 26 = .ok (.iconst 1, 1) := by decide +kernel
theorem dX6_sourceBranches_27 : decode cX6_sourceBranches 27 = .ok (.invokevirtual 90, 3) := by decide +kernel
theorem dX6_sourceBranches_30 : decode cX6_sourceBranches 30 = .ok (.ifCond .eq 17, 3) := by decide +kernel
theorem dX6_sourceBranches_33 : decode cX6_sourceBranches 33 = .ok (.aload_n 0, 1) := by decide +kernel
theorem dX6_sourceBranches_34 : decode cX6_sourceBranches 34 = .ok (.bipush 11, 2) := by decide +kernel
theorem dX6_sourceBranches_36 : decode cX6_sourceBranches 36 = .ok (.iload_n 3, 1) := by decide +kernel
theorem dX6_sourceBranches_37 : decode cX6_sourceBranches 37 = .ok (.imul, 1) := by decide +kernel
theorem dX6_sourceBranches_38 : decode cX6_sourceBranches 38 = .ok (.iload_n 2, 1) := by decide +kernel
theorem dX6_sourceBranches_39 : decode cX6_sourceBranches 39 = .ok (.iadd, 1) := by decide +kernel
theorem dX6_sourceBranches_40 : decode cX6_sourceBranches 40 = .ok (.iload_n 1, 1) := by decide +kernel
theorem dX6_sourceBranches_41 : decode cX6_sourceBranches 41 = .ok (.invokevirtual 76, 3) := by decide +kernel
theorem dX6_sourceBranches_44 : decode cX6_sourceBranches 44 = .ok (.goto 4, 3) := by decide +kernel
theorem dX6_sourceBranches_47 : decode cX6_sourceBranches 47 = .ok (.iconst 0, 1) := by decide +kernel
theorem dX6_sourceBranches_48 : decode cX6_sourceBranches 48 = .ok (.ireturn, 1) := by decide +kernel
theorem dX6_leaving_0 : decode cX6_leaving 0 = .ok (.aload_n 0, 1) := by decide +kernel
theorem dX6_leaving_1 : decode cX6_leaving 1 = .ok (.iconst 0, 1) := by decide +kernel
theorem dX6_leaving_2 : decode cX6_leaving 2 = .ok (.putfield 57, 3) := by decide +kernel
theorem dX6_leaving_5 : decode cX6_leaving 5 = .ok (.iconst 0, 1) := by decide +kernel
theorem dX6_leaving_6 : decode cX6_leaving 6 = .ok (.istore_n 1, 1) := by decide +kernel
theorem dX6_leaving_7 : decode cX6_leaving 7 = .ok (.iconst 0, 1) := by decide +kernel
theorem dX6_leaving_8 : decode cX6_leaving 8 = .ok (.istore_n 2, 1) := by decide +kernel
theorem dX6_leaving_9 : decode cX6_leaving 9 = .ok (.iload_n 2, 1) := by decide +kernel
theorem dX6_leaving_10 : decode cX6_leaving 10 = .ok (.sipush 440, 3) := by decide +kernel
theorem dX6_leaving_13 : decode cX6_leaving 13 = .ok (.if_icmp .ge 27, 3) := by decide +kernel
theorem dX6_leaving_16 : decode cX6_leaving 16 = .ok (.iload_n 1, 1) := by decide +kernel
theorem dX6_leaving_17 : decode cX6_leaving 17 = .ok (.aload_n 0, 1) := by decide +kernel
theorem dX6_leaving_18 : decode cX6_leaving 18 = .ok (.getfield 36, 3) := by decide +kernel
theorem dX6_leaving_21 : decode cX6_leaving 21 = .ok (.iload_n 2, 1) := by decide +kernel
theorem dX6_leaving_22 : decode cX6_leaving 22 = .ok (.iaload, 1) := by decide +kernel
theorem dX6_leaving_23 : decode cX6_leaving 23 = .ok (.iconst (-1), 1) := by decide +kernel
theorem dX6_leaving_24 : decode cX6_leaving 24 = .ok (.if_icmp .ne 7, 3) := by decide +kernel
theorem dX6_leaving_27 : decode cX6_leaving 27 = .ok (.iconst 0, 1) := by decide +kernel
theorem dX6_leaving_28 : decode cX6_leaving 28 = .ok (.goto 4, 3) := by decide +kernel
theorem dX6_leaving_31 : decode cX6_leaving 31 = .ok (.iconst 1, 1) := by decide +kernel
theorem dX6_leaving_32 : decode cX6_leaving 32 = .ok (.iadd, 1) := by decide +kernel
theorem dX6_leaving_33 : decode cX6_leaving 33 = .ok (.istore_n 1, 1) := by decide +kernel
theorem dX6_leaving_34 : decode cX6_leaving 34 = .ok (.iinc 2 1, 3) := by decide +kernel
theorem dX6_leaving_37 : decode cX6_leaving 37 = .ok (.goto (-28), 3) := by decide +kernel
theorem dX6_leaving_40 : decode cX6_leaving 40 = .ok (.iload_n 1, 1) := by decide +kernel
theorem dX6_leaving_41 : decode cX6_leaving 41 = .ok (.ireturn, 1) := by decide +kernel
theorem dX6_goesOn_0 : decode cX6_goesOn 0 = .ok (.aload_n 0, 1) := by decide +kernel
theorem dX6_goesOn_1 : decode cX6_goesOn 1 = .ok (.iload_n 3, 1) := by decide +kernel
theorem dX6_goesOn_2 : decode cX6_goesOn 2 = .ok (.iload_n 2, 1) := by decide +kernel
theorem dX6_goesOn_3 : decode cX6_goesOn 3 = .ok (.invokevirtual 76, 3) := by decide +kernel
theorem dX6_goesOn_6 : decode cX6_goesOn 6 = .ok (.istore 4, 2) := by decide +kernel
theorem dX6_goesOn_8 : decode cX6_goesOn 8 = .ok (.iconst 0, 1) := by decide +kernel
theorem dX6_goesOn_9 : decode cX6_goesOn 9 = .ok (.istore 5, 2) := by decide +kernel
theorem dX6_goesOn_11 : decode cX6_goesOn 11 = .ok (.iload 5, 2) := by decide +kernel
theorem dX6_goesOn_13 : decode cX6_goesOn 13 = .ok (.bipush 10, 2) := by decide +kernel
theorem dX6_goesOn_15 : decode cX6_goesOn 15 = .ok (.if_icmp .ge 119, 3) := by decide +kernel
theorem dX6_goesOn_18 : decode cX6_goesOn 18 = .ok (.iload 4, 2) := by decide +kernel
theorem dX6_goesOn_20 : decode cX6_goesOn 20 = .ok (.iload 5, 2) := by decide +kernel
theorem dX6_goesOn_22 : decode cX6_goesOn 22 = .ok (.ishr, 1) := by decide +kernel
theorem dX6_goesOn_23 : decode cX6_goesOn 23 = .ok (.iconst 1, 1) := by decide +kernel
theorem dX6_goesOn_24 : decode cX6_goesOn 24 = .ok (.iand, 1) := by decide +kernel
theorem dX6_goesOn_25 : decode cX6_goesOn 25 = .ok (.iconst 1, 1) := by decide +kernel
theorem dX6_goesOn_26 : decode cX6_goesOn 26 = .ok (.if_icmp .ne 26, 3) := by decide +kernel
theorem dX6_goesOn_29 : decode cX6_goesOn 29 = .ok (.aload_n 0, 1) := by decide +kernel
theorem dX6_goesOn_30 : decode cX6_goesOn 30 = .ok (.getfield 108, 3) := by decide +kernel
theorem dX6_goesOn_33 : decode cX6_goesOn 33 = .ok (.sipush 200, 3) := by decide +kernel
theorem dX6_goesOn_36 : decode cX6_goesOn 36 = .ok (.if_icmp .ne 16, 3) := by decide +kernel
theorem dX6_goesOn_39 : decode cX6_goesOn 39 = .ok (.aload_n 0, 1) := by decide +kernel
theorem dX6_goesOn_40 : decode cX6_goesOn 40 = .ok (.dup, 1) := by decide +kernel
theorem dX6_goesOn_41 : decode cX6_goesOn 41 = .ok (.getfield 111, 3) := by decide +kernel
theorem dX6_goesOn_44 : decode cX6_goesOn 44 = .ok (.iconst 1, 1) := by decide +kernel
theorem dX6_goesOn_45 : decode cX6_goesOn 45 = .ok (.iadd, 1) := by decide +kernel
theorem dX6_goesOn_46 : decode cX6_goesOn 46 = .ok (.putfield 111, 3) := by decide +kernel
theorem dX6_goesOn_49 : decode cX6_goesOn 49 = .ok (.goto 79, 3) := by decide +kernel
theorem dX6_goesOn_52 : decode cX6_goesOn 52 = .ok (.iload 4, 2) := by decide +kernel
theorem dX6_goesOn_54 : decode cX6_goesOn 54 = .ok (.iload 5, 2) := by decide +kernel
theorem dX6_goesOn_56 : decode cX6_goesOn 56 = .ok (.ishr, 1) := by decide +kernel
theorem dX6_goesOn_57 : decode cX6_goesOn 57 = .ok (.iconst 1, 1) := by decide +kernel
theorem dX6_goesOn_58 : decode cX6_goesOn 58 = .ok (.iand, 1) := by decide +kernel
theorem dX6_goesOn_59 : decode cX6_goesOn 59 = .ok (.iconst 1, 1) := by decide +kernel
theorem dX6_goesOn_60 : decode cX6_goesOn 60 = .ok (.if_icmp .ne 68, 3) := by decide +kernel
theorem dX6_goesOn_63 : decode cX6_goesOn 63 = .ok (.aload_n 0, 1) := by decide +kernel
theorem dX6_goesOn_64 : decode cX6_goesOn 64 = .ok (.getfield 39, 3) := by decide +kernel
theorem dX6_goesOn_67 : decode cX6_goesOn 67 = .ok (.iconst 4, 1) := by decide +kernel
theorem dX6_goesOn_68 : decode cX6_goesOn 68 = .ok (.aload_n 0, 1) := by decide +kernel
theorem dX6_goesOn_69 : decode cX6_goesOn 69 = .ok (.getfield 108, 3) := by decide +kernel
theorem dX6_goesOn_72 : decode cX6_goesOn 72 = .ok (.imul, 1) := by decide +kernel
theorem dX6_goesOn_73 : decode cX6_goesOn 73 = .ok (.iload_n 1, 1) := by decide +kernel
theorem dX6_goesOn_74 : decode cX6_goesOn 74 = .ok (.iastore, 1) := by decide +kernel
theorem dX6_goesOn_75 : decode cX6_goesOn 75 = .ok (.aload_n 0, 1) := by decide +kernel
theorem dX6_goesOn_76 : decode cX6_goesOn 76 = .ok (.getfield 39, 3) := by decide +kernel
theorem dX6_goesOn_79 : decode cX6_goesOn 79 = .ok (.iconst 4, 1) := by decide +kernel
theorem dX6_goesOn_80 : decode cX6_goesOn 80 = .ok (.aload_n 0, 1) := by decide +kernel
theorem dX6_goesOn_81 : decode cX6_goesOn 81 = .ok (.getfield 108, 3) := by decide +kernel
theorem dX6_goesOn_84 : decode cX6_goesOn 84 = .ok (.imul, 1) := by decide +kernel
theorem dX6_goesOn_85 : decode cX6_goesOn 85 = .ok (.iconst 1, 1) := by decide +kernel
theorem dX6_goesOn_86 : decode cX6_goesOn 86 = .ok (.iadd, 1) := by decide +kernel
theorem dX6_goesOn_87 : decode cX6_goesOn 87 = .ok (.iload_n 3, 1) := by decide +kernel
theorem dX6_goesOn_88 : decode cX6_goesOn 88 = .ok (.iastore, 1) := by decide +kernel
theorem dX6_goesOn_89 : decode cX6_goesOn 89 = .ok (.aload_n 0, 1) := by decide +kernel
theorem dX6_goesOn_90 : decode cX6_goesOn 90 = .ok (.getfield 39, 3) := by decide +kernel
theorem dX6_goesOn_93 : decode cX6_goesOn 93 = .ok (.iconst 4, 1) := by decide +kernel
theorem dX6_goesOn_94 : decode cX6_goesOn 94 = .ok (.aload_n 0, 1) := by decide +kernel
theorem dX6_goesOn_95 : decode cX6_goesOn 95 = .ok (.getfield 108, 3) := by decide +kernel
theorem dX6_goesOn_98 : decode cX6_goesOn 98 = .ok (.imul, 1) := by decide +kernel
theorem dX6_goesOn_99 : decode cX6_goesOn 99 = .ok (.iconst 2, 1) := by decide +kernel
theorem dX6_goesOn_100 : decode cX6_goesOn 100 = .ok (.iadd, 1) := by decide +kernel
theorem dX6_goesOn_101 : decode cX6_goesOn 101 = .ok (.iload_n 2, 1) := by decide +kernel
theorem dX6_goesOn_102 : decode cX6_goesOn 102 = .ok (.iastore, 1) := by decide +kernel
theorem dX6_goesOn_103 : decode cX6_goesOn 103 = .ok (.aload_n 0, 1) := by decide +kernel
theorem dX6_goesOn_104 : decode cX6_goesOn 104 = .ok (.getfield 39, 3) := by decide +kernel
theorem dX6_goesOn_107 : decode cX6_goesOn 107 = .ok (.iconst 4, 1) := by decide +kernel
theorem dX6_goesOn_108 : decode cX6_goesOn 108 = .ok (.aload_n 0, 1) := by decide +kernel
theorem dX6_goesOn_109 : decode cX6_goesOn 109 = .ok (.getfield 108, 3) := by decide +kernel
theorem dX6_goesOn_112 : decode cX6_goesOn 112 = .ok (.imul, 1) := by decide +kernel
theorem dX6_goesOn_113 : decode cX6_goesOn 113 = .ok (.iconst 3, 1) := by decide +kernel
theorem dX6_goesOn_114 : decode cX6_goesOn 114 = .ok (.iadd, 1) := by decide +kernel
theorem dX6_goesOn_115 : decode cX6_goesOn 115 = .ok (.iload 5, 2) := by decide +kernel
theorem dX6_goesOn_117 : decode cX6_goesOn 117 = .ok (.iastore, 1) := by decide +kernel
theorem dX6_goesOn_118 : decode cX6_goesOn 118 = .ok (.aload_n 0, 1) := by decide +kernel
theorem dX6_goesOn_119 : decode cX6_goesOn 119 = .ok (.dup, 1) := by decide +kernel
theorem dX6_goesOn_120 : decode cX6_goesOn 120 = .ok (.getfield 108, 3) := by decide +kernel
theorem dX6_goesOn_123 : decode cX6_goesOn 123 = .ok (.iconst 1, 1) := by decide +kernel
theorem dX6_goesOn_124 : decode cX6_goesOn 124 = .ok (.iadd, 1) := by decide +kernel
theorem dX6_goesOn_125 : decode cX6_goesOn 125 = .ok (.putfield 108, 3) := by decide +kernel
theorem dX6_goesOn_128 : decode cX6_goesOn 128 = .ok (.iinc 5 1, 3) := by decide +kernel
theorem dX6_goesOn_131 : decode cX6_goesOn 131 = .ok (.goto (-120), 3) := by decide +kernel
theorem dX6_goesOn_134 : decode cX6_goesOn 134 = .ok (.return_, 1) := by decide +kernel
theorem dX6_counts_0 : decode cX6_counts 0 = .ok (.bipush 40, 2) := by decide +kernel
theorem dX6_counts_2 : decode cX6_counts 2 = .ok (.iload_n 1, 1) := by decide +kernel
theorem dX6_counts_3 : decode cX6_counts 3 = .ok (.imul, 1) := by decide +kernel
theorem dX6_counts_4 : decode cX6_counts 4 = .ok (.iconst 4, 1) := by decide +kernel
theorem dX6_counts_5 : decode cX6_counts 5 = .ok (.iload_n 2, 1) := by decide +kernel
theorem dX6_counts_6 : decode cX6_counts 6 = .ok (.imul, 1) := by decide +kernel
theorem dX6_counts_7 : decode cX6_counts 7 = .ok (.iadd, 1) := by decide +kernel
theorem dX6_counts_8 : decode cX6_counts 8 = .ok (.iload_n 3, 1) := by decide +kernel
theorem dX6_counts_9 : decode cX6_counts 9 = .ok (.iadd, 1) := by decide +kernel
theorem dX6_counts_10 : decode cX6_counts 10 = .ok (.istore 4, 2) := by decide +kernel
theorem dX6_counts_12 : decode cX6_counts 12 = .ok (.aload_n 0, 1) := by decide +kernel
theorem dX6_counts_13 : decode cX6_counts 13 = .ok (.getfield 30, 3) := by decide +kernel
theorem dX6_counts_16 : decode cX6_counts 16 = .ok (.iload 4, 2) := by decide +kernel
theorem dX6_counts_18 : decode cX6_counts 18 = .ok (.dup2, 1) := by decide +kernel
theorem dX6_counts_19 : decode cX6_counts 19 = .ok (.iaload, 1) := by decide +kernel
theorem dX6_counts_20 : decode cX6_counts 20 = .ok (.iconst 1, 1) := by decide +kernel
theorem dX6_counts_21 : decode cX6_counts 21 = .ok (.iadd, 1) := by decide +kernel
theorem dX6_counts_22 : decode cX6_counts 22 = .ok (.iastore, 1) := by decide +kernel
theorem dX6_counts_23 : decode cX6_counts 23 = .ok (.aload_n 0, 1) := by decide +kernel
theorem dX6_counts_24 : decode cX6_counts 24 = .ok (.getfield 30, 3) := by decide +kernel
theorem dX6_counts_27 : decode cX6_counts 27 = .ok (.iload 4, 2) := by decide +kernel
theorem dX6_counts_29 : decode cX6_counts 29 = .ok (.iaload, 1) := by decide +kernel
theorem dX6_counts_30 : decode cX6_counts 30 = .ok (.aload_n 0, 1) := by decide +kernel
theorem dX6_counts_31 : decode cX6_counts 31 = .ok (.getfield 7, 3) := by decide +kernel
theorem dX6_counts_34 : decode cX6_counts 34 = .ok (.if_icmp .lt 54, 3) := by decide +kernel
theorem dX6_counts_37 : decode cX6_counts 37 = .ok (.iload_n 1, 1) := by decide +kernel
theorem dX6_counts_38 : decode cX6_counts 38 = .ok (.iload_n 2, 1) := by decide +kernel
theorem dX6_counts_39 : decode cX6_counts 39 = .ok (.if_icmp .eq 49, 3) := by decide +kernel
theorem dX6_counts_42 : decode cX6_counts 42 = .ok (.aload_n 0, 1) := by decide +kernel
theorem dX6_counts_43 : decode cX6_counts 43 = .ok (.getfield 27, 3) := by decide +kernel
theorem dX6_counts_46 : decode cX6_counts 46 = .ok (.bipush 10, 2) := by decide +kernel
theorem dX6_counts_48 : decode cX6_counts 48 = .ok (.iload_n 3, 1) := by decide +kernel
theorem dX6_counts_49 : decode cX6_counts 49 = .ok (.imul, 1) := by decide +kernel
theorem dX6_counts_50 : decode cX6_counts 50 = .ok (.iload_n 2, 1) := by decide +kernel
theorem dX6_counts_51 : decode cX6_counts 51 = .ok (.iadd, 1) := by decide +kernel
theorem dX6_counts_52 : decode cX6_counts 52 = .ok (.iaload, 1) := by decide +kernel
theorem dX6_counts_53 : decode cX6_counts 53 = .ok (.iload_n 1, 1) := by decide +kernel
theorem dX6_counts_54 : decode cX6_counts 54 = .ok (.ishr, 1) := by decide +kernel
theorem dX6_counts_55 : decode cX6_counts 55 = .ok (.iconst 1, 1) := by decide +kernel
theorem dX6_counts_56 : decode cX6_counts 56 = .ok (.iand, 1) := by decide +kernel
theorem dX6_counts_57 : decode cX6_counts 57 = .ok (.ifCond .ne 31, 3) := by decide +kernel
theorem dX6_counts_60 : decode cX6_counts 60 = .ok (.aload_n 0, 1) := by decide +kernel
theorem dX6_counts_61 : decode cX6_counts 61 = .ok (.getfield 27, 3) := by decide +kernel
theorem dX6_counts_64 : decode cX6_counts 64 = .ok (.bipush 10, 2) := by decide +kernel
theorem dX6_counts_66 : decode cX6_counts 66 = .ok (.iload_n 3, 1) := by decide +kernel
theorem dX6_counts_67 : decode cX6_counts 67 = .ok (.imul, 1) := by decide +kernel
theorem dX6_counts_68 : decode cX6_counts 68 = .ok (.iload_n 2, 1) := by decide +kernel
theorem dX6_counts_69 : decode cX6_counts 69 = .ok (.iadd, 1) := by decide +kernel
theorem dX6_counts_70 : decode cX6_counts 70 = .ok (.dup2, 1) := by decide +kernel
theorem dX6_counts_71 : decode cX6_counts 71 = .ok (.iaload, 1) := by decide +kernel
theorem dX6_counts_72 : decode cX6_counts 72 = .ok (.iconst 1, 1) := by decide +kernel
theorem dX6_counts_73 : decode cX6_counts 73 = .ok (.iload_n 1, 1) := by decide +kernel
theorem dX6_counts_74 : decode cX6_counts 74 = .ok (.ishl, 1) := by decide +kernel
theorem dX6_counts_75 : decode cX6_counts 75 = .ok (.ior, 1) := by decide +kernel
theorem dX6_counts_76 : decode cX6_counts 76 = .ok (.iastore, 1) := by decide +kernel
theorem dX6_counts_77 : decode cX6_counts 77 = .ok (.aload_n 0, 1) := by decide +kernel
theorem dX6_counts_78 : decode cX6_counts 78 = .ok (.bipush 11, 2) := by decide +kernel
theorem dX6_counts_80 : decode cX6_counts 80 = .ok (.iload_n 3, 1) := by decide +kernel
theorem dX6_counts_81 : decode cX6_counts 81 = .ok (.imul, 1) := by decide +kernel
theorem dX6_counts_82 : decode cX6_counts 82 = .ok (.iload_n 2, 1) := by decide +kernel
theorem dX6_counts_83 : decode cX6_counts 83 = .ok (.iadd, 1) := by decide +kernel
theorem dX6_counts_84 : decode cX6_counts 84 = .ok (.iload_n 1, 1) := by decide +kernel
theorem dX6_counts_85 : decode cX6_counts 85 = .ok (.invokevirtual 82, 3) := by decide +kernel
theorem dX6_counts_88 : decode cX6_counts 88 = .ok (.return_, 1) := by decide +kernel
theorem dX6_gets_0 : decode cX6_gets 0 = .ok (.aload_n 0, 1) := by decide +kernel
theorem dX6_gets_1 : decode cX6_gets 1 = .ok (.getfield 48, 3) := by decide +kernel
theorem dX6_gets_4 : decode cX6_gets 4 = .ok (.iload_n 1, 1) := by decide +kernel
theorem dX6_gets_5 : decode cX6_gets 5 = .ok (.iaload, 1) := by decide +kernel
theorem dX6_gets_6 : decode cX6_gets 6 = .ok (.iload_n 2, 1) := by decide +kernel
theorem dX6_gets_7 : decode cX6_gets 7 = .ok (.ishr, 1) := by decide +kernel
theorem dX6_gets_8 : decode cX6_gets 8 = .ok (.iconst 1, 1) := by decide +kernel
theorem dX6_gets_9 : decode cX6_gets 9 = .ok (.iand, 1) := by decide +kernel
theorem dX6_gets_10 : decode cX6_gets 10 = .ok (.ifCond .ne 7, 3) := by decide +kernel
theorem dX6_gets_13 : decode cX6_gets 13 = .ok (.iconst 1, 1) := by decide +kernel
theorem dX6_gets_14 : decode cX6_gets 14 = .ok (.goto 4, 3) := by decide +kernel
theorem dX6_gets_17 : decode cX6_gets 17 = .ok (.iconst 0, 1) := by decide +kernel
theorem dX6_gets_18 : decode cX6_gets 18 = .ok (.istore 4, 2) := by decide +kernel
theorem dX6_gets_20 : decode cX6_gets 20 = .ok (.aload_n 0, 1) := by decide +kernel
theorem dX6_gets_21 : decode cX6_gets 21 = .ok (.iload_n 2, 1) := by decide +kernel
theorem dX6_gets_22 : decode cX6_gets 22 = .ok (.aload_n 0, 1) := by decide +kernel
theorem dX6_gets_23 : decode cX6_gets 23 = .ok (.getfield 45, 3) := by decide +kernel
theorem dX6_gets_26 : decode cX6_gets 26 = .ok (.iload_n 1, 1) := by decide +kernel
theorem dX6_gets_27 : decode cX6_gets 27 = .ok (.iaload, 1) := by decide +kernel
theorem dX6_gets_28 : decode cX6_gets 28 = .ok (.invokevirtual 99, 3) := by decide +kernel
theorem dX6_gets_31 : decode cX6_gets 31 = .ok (.istore 5, 2) := by decide +kernel
theorem dX6_gets_33 : decode cX6_gets 33 = .ok (.iload 5, 2) := by decide +kernel
theorem dX6_gets_35 : decode cX6_gets 35 = .ok (.ifCond .eq 46, 3) := by decide +kernel
theorem dX6_gets_38 : decode cX6_gets 38 = .ok (.iload 4, 2) := by decide +kernel
theorem dX6_gets_40 : decode cX6_gets 40 = .ok (.ifCond .eq 41, 3) := by decide +kernel
theorem dX6_gets_43 : decode cX6_gets 43 = .ok (.aload_n 0, 1) := by decide +kernel
theorem dX6_gets_44 : decode cX6_gets 44 = .ok (.getfield 48, 3) := by decide +kernel
theorem dX6_gets_47 : decode cX6_gets 47 = .ok (.iload_n 1, 1) := by decide +kernel
theorem dX6_gets_48 : decode cX6_gets 48 = .ok (.dup2, 1) := by decide +kernel
theorem dX6_gets_49 : decode cX6_gets 49 = .ok (.iaload, 1) := by decide +kernel
theorem dX6_gets_50 : decode cX6_gets 50 = .ok (.iconst 1, 1) := by decide +kernel
theorem dX6_gets_51 : decode cX6_gets 51 = .ok (.iload_n 2, 1) := by decide +kernel
theorem dX6_gets_52 : decode cX6_gets 52 = .ok (.ishl, 1) := by decide +kernel
theorem dX6_gets_53 : decode cX6_gets 53 = .ok (.ior, 1) := by decide +kernel
theorem dX6_gets_54 : decode cX6_gets 54 = .ok (.iastore, 1) := by decide +kernel
theorem dX6_gets_55 : decode cX6_gets 55 = .ok (.iload_n 3, 1) := by decide +kernel
theorem dX6_gets_56 : decode cX6_gets 56 = .ok (.bipush 11, 2) := by decide +kernel
theorem dX6_gets_58 : decode cX6_gets 58 = .ok (.irem, 1) := by decide +kernel
theorem dX6_gets_59 : decode cX6_gets 59 = .ok (.bipush 10, 2) := by decide +kernel
theorem dX6_gets_61 : decode cX6_gets 61 = .ok (.if_icmp .ne 20, 3) := by decide +kernel
theorem dX6_gets_64 : decode cX6_gets 64 = .ok (.aload_n 0, 1) := by decide +kernel
theorem dX6_gets_65 : decode cX6_gets 65 = .ok (.iload_n 2, 1) := by decide +kernel
theorem dX6_gets_66 : decode cX6_gets 66 = .ok (.aload_n 0, 1) := by decide +kernel
theorem dX6_gets_67 : decode cX6_gets 67 = .ok (.getfield 42, 3) := by decide +kernel
theorem dX6_gets_70 : decode cX6_gets 70 = .ok (.iload_n 1, 1) := by decide +kernel
theorem dX6_gets_71 : decode cX6_gets 71 = .ok (.iaload, 1) := by decide +kernel
theorem dX6_gets_72 : decode cX6_gets 72 = .ok (.aload_n 0, 1) := by decide +kernel
theorem dX6_gets_73 : decode cX6_gets 73 = .ok (.getfield 45, 3) := by decide +kernel
theorem dX6_gets_76 : decode cX6_gets 76 = .ok (.iload_n 1, 1) := by decide +kernel
theorem dX6_gets_77 : decode cX6_gets 77 = .ok (.iaload, 1) := by decide +kernel
theorem dX6_gets_78 : decode cX6_gets 78 = .ok (.invokevirtual 114, 3) := by decide +kernel
theorem dX6_gets_81 : decode cX6_gets 81 = .ok (.aload_n 0, 1) := by decide +kernel
theorem dX6_gets_82 : decode cX6_gets 82 = .ok (.getfield 51, 3) := by decide +kernel
theorem dX6_gets_85 : decode cX6_gets 85 = .ok (.iload_n 1, 1) := by decide +kernel
theorem dX6_gets_86 : decode cX6_gets 86 = .ok (.dup2, 1) := by decide +kernel
theorem dX6_gets_87 : decode cX6_gets 87 = .ok (.iaload, 1) := by decide +kernel
theorem dX6_gets_88 : decode cX6_gets 88 = .ok (.iload 5, 2) := by decide +kernel
theorem dX6_gets_90 : decode cX6_gets 90 = .ok (.ifCond .eq 12, 3) := by decide +kernel
theorem dX6_gets_93 : decode cX6_gets 93 = .ok (.iload 4, 2) := by decide +kernel
theorem dX6_gets_95 : decode cX6_gets 95 = .ok (.ifCond .ne 7, 3) := by decide +kernel
theorem dX6_gets_98 : decode cX6_gets 98 = .ok (.iconst 1, 1) := by decide +kernel
theorem dX6_gets_99 : decode cX6_gets 99 = .ok (.goto 4, 3) := by decide +kernel
theorem dX6_gets_102 : decode cX6_gets 102 = .ok (.iconst 0, 1) := by decide +kernel
theorem dX6_gets_103 : decode cX6_gets 103 = .ok (.iadd, 1) := by decide +kernel
theorem dX6_gets_104 : decode cX6_gets 104 = .ok (.iastore, 1) := by decide +kernel
theorem dX6_gets_105 : decode cX6_gets 105 = .ok (.aload_n 0, 1) := by decide +kernel
theorem dX6_gets_106 : decode cX6_gets 106 = .ok (.iload_n 1, 1) := by decide +kernel
theorem dX6_gets_107 : decode cX6_gets 107 = .ok (.iload_n 2, 1) := by decide +kernel
theorem dX6_gets_108 : decode cX6_gets 108 = .ok (.iload_n 3, 1) := by decide +kernel
theorem dX6_gets_109 : decode cX6_gets 109 = .ok (.invokevirtual 118, 3) := by decide +kernel
theorem dX6_gets_112 : decode cX6_gets 112 = .ok (.iload 5, 2) := by decide +kernel
theorem dX6_gets_114 : decode cX6_gets 114 = .ok (.ifCond .eq 12, 3) := by decide +kernel
theorem dX6_gets_117 : decode cX6_gets 117 = .ok (.iload 4, 2) := by decide +kernel
theorem dX6_gets_119 : decode cX6_gets 119 = .ok (.ifCond .eq 7, 3) := by decide +kernel
theorem dX6_gets_122 : decode cX6_gets 122 = .ok (.iconst 1, 1) := by decide +kernel
theorem dX6_gets_123 : decode cX6_gets 123 = .ok (.goto 4, 3) := by decide +kernel
theorem dX6_gets_126 : decode cX6_gets 126 = .ok (.iconst 0, 1) := by decide +kernel
theorem dX6_gets_127 : decode cX6_gets 127 = .ok (.ireturn, 1) := by decide +kernel
theorem dX6_send_0 : decode cX6_send 0 = .ok (.aload_n 0, 1) := by decide +kernel
theorem dX6_send_1 : decode cX6_send 1 = .ok (.iload_n 1, 1) := by decide +kernel
theorem dX6_send_2 : decode cX6_send 2 = .ok (.invokestatic 86, 3) := by decide +kernel
theorem dX6_send_5 : decode cX6_send 5 = .ok (.ifCond .eq 10, 3) := by decide +kernel
end
section
theorem dX6_send_8 : decode cX6_send 8 = .ok (.iload_n 2, 1) := by decide +kernel
theorem dX6_send_9 : decode cX6_send 9 = .ok (.invokestatic 96, 3) := by decide +kernel
theorem dX6_send_12 : decode cX6_send 12 = .ok (.ifCond .ne 7, 3) := by decide +kernel
theorem dX6_send_15 : decode cX6_send 15 = .ok (.iconst 1, 1) := by decide +kernel
theorem dX6_send_16 : decode cX6_send 16 = .ok (.goto 18, 3) := by decide +kernel
theorem dX6_send_19 : decode cX6_send 19 = .ok (.aload_n 0, 1) := by decide +kernel
theorem dX6_send_20 : decode cX6_send 20 = .ok (.getfield 121, 3) := by decide +kernel
theorem dX6_send_23 : decode cX6_send 23 = .ok (.sipush 200, 3) := by decide +kernel
theorem dX6_send_26 : decode cX6_send 26 = .ok (.if_icmp .ne 7, 3) := by decide +kernel
theorem dX6_send_29 : decode cX6_send 29 = .ok (.iconst 2, 1) := by decide +kernel
theorem dX6_send_30 : decode cX6_send 30 = .ok (.goto 4, 3) := by decide +kernel
theorem dX6_send_33 : decode cX6_send 33 = .ok (.iconst 0, 1) := by decide +kernel
theorem dX6_send_34 : decode cX6_send 34 = .ok (.invokevirtual 90, 3) := by decide +kernel
theorem dX6_send_37 : decode cX6_send 37 = .ok (.ifCond .ne 5, 3) := by decide +kernel
theorem dX6_send_40 : decode cX6_send 40 = .ok (.iconst 0, 1) := by decide +kernel
theorem dX6_send_41 : decode cX6_send 41 = .ok (.ireturn, 1) := by decide +kernel
theorem dX6_send_42 : decode cX6_send 42 = .ok (.aload_n 0, 1) := by decide +kernel
theorem dX6_send_43 : decode cX6_send 43 = .ok (.getfield 121, 3) := by decide +kernel
theorem dX6_send_46 : decode cX6_send 46 = .ok (.istore_n 3, 1) := by decide +kernel
theorem dX6_send_47 : decode cX6_send 47 = .ok (.aload_n 0, 1) := by decide +kernel
theorem dX6_send_48 : decode cX6_send 48 = .ok (.dup, 1) := by decide +kernel
theorem dX6_send_49 : decode cX6_send 49 = .ok (.getfield 121, 3) := by decide +kernel
theorem dX6_send_52 : decode cX6_send 52 = .ok (.iconst 1, 1) := by decide +kernel
theorem dX6_send_53 : decode cX6_send 53 = .ok (.iadd, 1) := by decide +kernel
theorem dX6_send_54 : decode cX6_send 54 = .ok (.putfield 121, 3) := by decide +kernel
theorem dX6_send_57 : decode cX6_send 57 = .ok (.aload_n 0, 1) := by decide +kernel
theorem dX6_send_58 : decode cX6_send 58 = .ok (.getfield 42, 3) := by decide +kernel
theorem dX6_send_61 : decode cX6_send 61 = .ok (.iload_n 3, 1) := by decide +kernel
theorem dX6_send_62 : decode cX6_send 62 = .ok (.iload_n 1, 1) := by decide +kernel
theorem dX6_send_63 : decode cX6_send 63 = .ok (.iastore, 1) := by decide +kernel
theorem dX6_send_64 : decode cX6_send 64 = .ok (.aload_n 0, 1) := by decide +kernel
theorem dX6_send_65 : decode cX6_send 65 = .ok (.getfield 45, 3) := by decide +kernel
theorem dX6_send_68 : decode cX6_send 68 = .ok (.iload_n 3, 1) := by decide +kernel
theorem dX6_send_69 : decode cX6_send 69 = .ok (.iload_n 2, 1) := by decide +kernel
theorem dX6_send_70 : decode cX6_send 70 = .ok (.iastore, 1) := by decide +kernel
theorem dX6_send_71 : decode cX6_send 71 = .ok (.aload_n 0, 1) := by decide +kernel
theorem dX6_send_72 : decode cX6_send 72 = .ok (.getfield 48, 3) := by decide +kernel
theorem dX6_send_75 : decode cX6_send 75 = .ok (.iload_n 3, 1) := by decide +kernel
theorem dX6_send_76 : decode cX6_send 76 = .ok (.aload_n 0, 1) := by decide +kernel
theorem dX6_send_77 : decode cX6_send 77 = .ok (.getfield 24, 3) := by decide +kernel
theorem dX6_send_80 : decode cX6_send 80 = .ok (.iload_n 2, 1) := by decide +kernel
theorem dX6_send_81 : decode cX6_send 81 = .ok (.iaload, 1) := by decide +kernel
theorem dX6_send_82 : decode cX6_send 82 = .ok (.iconst 1, 1) := by decide +kernel
theorem dX6_send_83 : decode cX6_send 83 = .ok (.iload_n 1, 1) := by decide +kernel
theorem dX6_send_84 : decode cX6_send 84 = .ok (.ishl, 1) := by decide +kernel
theorem dX6_send_85 : decode cX6_send 85 = .ok (.iand, 1) := by decide +kernel
theorem dX6_send_86 : decode cX6_send 86 = .ok (.iastore, 1) := by decide +kernel
theorem dX6_send_87 : decode cX6_send 87 = .ok (.aload_n 0, 1) := by decide +kernel
theorem dX6_send_88 : decode cX6_send 88 = .ok (.iload_n 2, 1) := by decide +kernel
theorem dX6_send_89 : decode cX6_send 89 = .ok (.invokevirtual 61, 3) := by decide +kernel
theorem dX6_send_92 : decode cX6_send 92 = .ok (.istore 4, 2) := by decide +kernel
theorem dX6_send_94 : decode cX6_send 94 = .ok (.iload 4, 2) := by decide +kernel
theorem dX6_send_96 : decode cX6_send 96 = .ok (.iconst (-1), 1) := by decide +kernel
theorem dX6_send_97 : decode cX6_send 97 = .ok (.if_icmp .eq 36, 3) := by decide +kernel
theorem dX6_send_100 : decode cX6_send 100 = .ok (.aload_n 0, 1) := by decide +kernel
theorem dX6_send_101 : decode cX6_send 101 = .ok (.getfield 17, 3) := by decide +kernel
theorem dX6_send_104 : decode cX6_send 104 = .ok (.bipush 10, 2) := by decide +kernel
theorem dX6_send_106 : decode cX6_send 106 = .ok (.iload_n 1, 1) := by decide +kernel
theorem dX6_send_107 : decode cX6_send 107 = .ok (.imul, 1) := by decide +kernel
theorem dX6_send_108 : decode cX6_send 108 = .ok (.iload 4, 2) := by decide +kernel
theorem dX6_send_110 : decode cX6_send 110 = .ok (.iadd, 1) := by decide +kernel
theorem dX6_send_111 : decode cX6_send 111 = .ok (.iaload, 1) := by decide +kernel
theorem dX6_send_112 : decode cX6_send 112 = .ok (.ldc 60, 2) := by decide +kernel
theorem dX6_send_114 : decode cX6_send 114 = .ok (.if_icmp .ge 19, 3) := by decide +kernel
theorem dX6_send_117 : decode cX6_send 117 = .ok (.aload_n 0, 1) := by decide +kernel
theorem dX6_send_118 : decode cX6_send 118 = .ok (.iload_n 3, 1) := by decide +kernel
theorem dX6_send_119 : decode cX6_send 119 = .ok (.iload 4, 2) := by decide +kernel
theorem dX6_send_121 : decode cX6_send 121 = .ok (.bipush 11, 2) := by decide +kernel
theorem dX6_send_123 : decode cX6_send 123 = .ok (.iload_n 2, 1) := by decide +kernel
theorem dX6_send_124 : decode cX6_send 124 = .ok (.imul, 1) := by decide +kernel
theorem dX6_send_125 : decode cX6_send 125 = .ok (.bipush 10, 2) := by decide +kernel
theorem dX6_send_127 : decode cX6_send 127 = .ok (.iadd, 1) := by decide +kernel
theorem dX6_send_128 : decode cX6_send 128 = .ok (.invokevirtual 124, 3) := by decide +kernel
theorem dX6_send_131 : decode cX6_send 131 = .ok (.istore 5, 2) := by decide +kernel
theorem dX6_send_133 : decode cX6_send 133 = .ok (.aload_n 0, 1) := by decide +kernel
theorem dX6_send_134 : decode cX6_send 134 = .ok (.iload_n 3, 1) := by decide +kernel
theorem dX6_send_135 : decode cX6_send 135 = .ok (.iload_n 1, 1) := by decide +kernel
theorem dX6_send_136 : decode cX6_send 136 = .ok (.bipush 11, 2) := by decide +kernel
theorem dX6_send_138 : decode cX6_send 138 = .ok (.iload_n 2, 1) := by decide +kernel
theorem dX6_send_139 : decode cX6_send 139 = .ok (.imul, 1) := by decide +kernel
theorem dX6_send_140 : decode cX6_send 140 = .ok (.iload_n 1, 1) := by decide +kernel
theorem dX6_send_141 : decode cX6_send 141 = .ok (.iadd, 1) := by decide +kernel
theorem dX6_send_142 : decode cX6_send 142 = .ok (.invokevirtual 118, 3) := by decide +kernel
theorem dX6_send_145 : decode cX6_send 145 = .ok (.iload_n 3, 1) := by decide +kernel
theorem dX6_send_146 : decode cX6_send 146 = .ok (.ireturn, 1) := by decide +kernel
theorem dX6_follows_0 : decode cX6_follows 0 = .ok (.aload_n 0, 1) := by decide +kernel
theorem dX6_follows_1 : decode cX6_follows 1 = .ok (.getfield 108, 3) := by decide +kernel
theorem dX6_follows_4 : decode cX6_follows 4 = .ok (.ifCond .ne 5, 3) := by decide +kernel
theorem dX6_follows_7 : decode cX6_follows 7 = .ok (.iconst 0, 1) := by decide +kernel
theorem dX6_follows_8 : decode cX6_follows 8 = .ok (.ireturn, 1) := by decide +kernel
theorem dX6_follows_9 : decode cX6_follows 9 = .ok (.aload_n 0, 1) := by decide +kernel
theorem dX6_follows_10 : decode cX6_follows 10 = .ok (.getfield 39, 3) := by decide +kernel
theorem dX6_follows_13 : decode cX6_follows 13 = .ok (.iconst 0, 1) := by decide +kernel
theorem dX6_follows_14 : decode cX6_follows 14 = .ok (.iaload, 1) := by decide +kernel
theorem dX6_follows_15 : decode cX6_follows 15 = .ok (.istore_n 1, 1) := by decide +kernel
theorem dX6_follows_16 : decode cX6_follows 16 = .ok (.aload_n 0, 1) := by decide +kernel
theorem dX6_follows_17 : decode cX6_follows 17 = .ok (.getfield 39, 3) := by decide +kernel
theorem dX6_follows_20 : decode cX6_follows 20 = .ok (.iconst 1, 1) := by decide +kernel
theorem dX6_follows_21 : decode cX6_follows 21 = .ok (.iaload, 1) := by decide +kernel
theorem dX6_follows_22 : decode cX6_follows 22 = .ok (.istore_n 2, 1) := by decide +kernel
theorem dX6_follows_23 : decode cX6_follows 23 = .ok (.aload_n 0, 1) := by decide +kernel
theorem dX6_follows_24 : decode cX6_follows 24 = .ok (.getfield 39, 3) := by decide +kernel
theorem dX6_follows_27 : decode cX6_follows 27 = .ok (.iconst 2, 1) := by decide +kernel
theorem dX6_follows_28 : decode cX6_follows 28 = .ok (.iaload, 1) := by decide +kernel
theorem dX6_follows_29 : decode cX6_follows 29 = .ok (.istore_n 3, 1) := by decide +kernel
theorem dX6_follows_30 : decode cX6_follows 30 = .ok (.aload_n 0, 1) := by decide +kernel
theorem dX6_follows_31 : decode cX6_follows 31 = .ok (.getfield 39, 3) := by decide +kernel
theorem dX6_follows_34 : decode cX6_follows 34 = .ok (.iconst 3, 1) := by decide +kernel
theorem dX6_follows_35 : decode cX6_follows 35 = .ok (.iaload, 1) := by decide +kernel
theorem dX6_follows_36 : decode cX6_follows 36 = .ok (.istore 4, 2) := by decide +kernel
theorem dX6_follows_38 : decode cX6_follows 38 = .ok (.aload_n 0, 1) := by decide +kernel
theorem dX6_follows_39 : decode cX6_follows 39 = .ok (.dup, 1) := by decide +kernel
theorem dX6_follows_40 : decode cX6_follows 40 = .ok (.getfield 108, 3) := by decide +kernel
theorem dX6_follows_43 : decode cX6_follows 43 = .ok (.iconst 1, 1) := by decide +kernel
theorem dX6_follows_44 : decode cX6_follows 44 = .ok (.isub, 1) := by decide +kernel
theorem dX6_follows_45 : decode cX6_follows 45 = .ok (.putfield 108, 3) := by decide +kernel
theorem dX6_follows_48 : decode cX6_follows 48 = .ok (.iconst 0, 1) := by decide +kernel
theorem dX6_follows_49 : decode cX6_follows 49 = .ok (.istore 5, 2) := by decide +kernel
theorem dX6_follows_51 : decode cX6_follows 51 = .ok (.iload 5, 2) := by decide +kernel
theorem dX6_follows_53 : decode cX6_follows 53 = .ok (.iconst 4, 1) := by decide +kernel
theorem dX6_follows_54 : decode cX6_follows 54 = .ok (.aload_n 0, 1) := by decide +kernel
theorem dX6_follows_55 : decode cX6_follows 55 = .ok (.getfield 108, 3) := by decide +kernel
theorem dX6_follows_58 : decode cX6_follows 58 = .ok (.imul, 1) := by decide +kernel
theorem dX6_follows_59 : decode cX6_follows 59 = .ok (.if_icmp .ge 25, 3) := by decide +kernel
theorem dX6_follows_62 : decode cX6_follows 62 = .ok (.aload_n 0, 1) := by decide +kernel
theorem dX6_follows_63 : decode cX6_follows 63 = .ok (.getfield 39, 3) := by decide +kernel
theorem dX6_follows_66 : decode cX6_follows 66 = .ok (.iload 5, 2) := by decide +kernel
theorem dX6_follows_68 : decode cX6_follows 68 = .ok (.aload_n 0, 1) := by decide +kernel
theorem dX6_follows_69 : decode cX6_follows 69 = .ok (.getfield 39, 3) := by decide +kernel
theorem dX6_follows_72 : decode cX6_follows 72 = .ok (.iload 5, 2) := by decide +kernel
theorem dX6_follows_74 : decode cX6_follows 74 = .ok (.iconst 4, 1) := by decide +kernel
theorem dX6_follows_75 : decode cX6_follows 75 = .ok (.iadd, 1) := by decide +kernel
theorem dX6_follows_76 : decode cX6_follows 76 = .ok (.iaload, 1) := by decide +kernel
theorem dX6_follows_77 : decode cX6_follows 77 = .ok (.iastore, 1) := by decide +kernel
theorem dX6_follows_78 : decode cX6_follows 78 = .ok (.iinc 5 1, 3) := by decide +kernel
theorem dX6_follows_81 : decode cX6_follows 81 = .ok (.goto (-30), 3) := by decide +kernel
theorem dX6_follows_84 : decode cX6_follows 84 = .ok (.aload_n 0, 1) := by decide +kernel
theorem dX6_follows_85 : decode cX6_follows 85 = .ok (.iload_n 2, 1) := by decide +kernel
theorem dX6_follows_86 : decode cX6_follows 86 = .ok (.invokevirtual 65, 3) := by decide +kernel
theorem dX6_follows_89 : decode cX6_follows 89 = .ok (.istore 5, 2) := by decide +kernel
theorem dX6_follows_91 : decode cX6_follows 91 = .ok (.aload_n 0, 1) := by decide +kernel
theorem dX6_follows_92 : decode cX6_follows 92 = .ok (.getfield 13, 3) := by decide +kernel
theorem dX6_follows_95 : decode cX6_follows 95 = .ok (.bipush 10, 2) := by decide +kernel
theorem dX6_follows_97 : decode cX6_follows 97 = .ok (.iload_n 3, 1) := by decide +kernel
theorem dX6_follows_98 : decode cX6_follows 98 = .ok (.imul, 1) := by decide +kernel
theorem dX6_follows_99 : decode cX6_follows 99 = .ok (.iload 4, 2) := by decide +kernel
theorem dX6_follows_101 : decode cX6_follows 101 = .ok (.iadd, 1) := by decide +kernel
theorem dX6_follows_102 : decode cX6_follows 102 = .ok (.iaload, 1) := by decide +kernel
theorem dX6_follows_103 : decode cX6_follows 103 = .ok (.ifCond .le 7, 3) := by decide +kernel
theorem dX6_follows_106 : decode cX6_follows 106 = .ok (.iconst 1, 1) := by decide +kernel
theorem dX6_follows_107 : decode cX6_follows 107 = .ok (.goto 4, 3) := by decide +kernel
theorem dX6_follows_110 : decode cX6_follows 110 = .ok (.iconst 0, 1) := by decide +kernel
theorem dX6_follows_111 : decode cX6_follows 111 = .ok (.istore 6, 2) := by decide +kernel
theorem dX6_follows_113 : decode cX6_follows 113 = .ok (.iload 6, 2) := by decide +kernel
theorem dX6_follows_115 : decode cX6_follows 115 = .ok (.ifCond .eq 21, 3) := by decide +kernel
theorem dX6_follows_118 : decode cX6_follows 118 = .ok (.iload 5, 2) := by decide +kernel
theorem dX6_follows_120 : decode cX6_follows 120 = .ok (.iconst (-1), 1) := by decide +kernel
theorem dX6_follows_121 : decode cX6_follows 121 = .ok (.if_icmp .eq 15, 3) := by decide +kernel
theorem dX6_follows_124 : decode cX6_follows 124 = .ok (.aload_n 0, 1) := by decide +kernel
theorem dX6_follows_125 : decode cX6_follows 125 = .ok (.iload 4, 2) := by decide +kernel
theorem dX6_follows_127 : decode cX6_follows 127 = .ok (.iload 5, 2) := by decide +kernel
theorem dX6_follows_129 : decode cX6_follows 129 = .ok (.invokevirtual 68, 3) := by decide +kernel
theorem dX6_follows_132 : decode cX6_follows 132 = .ok (.iload_n 3, 1) := by decide +kernel
theorem dX6_follows_133 : decode cX6_follows 133 = .ok (.if_icmp .eq 24, 3) := by decide +kernel
theorem dX6_follows_136 : decode cX6_follows 136 = .ok (.aload_n 0, 1) := by decide +kernel
theorem dX6_follows_137 : decode cX6_follows 137 = .ok (.dup, 1) := by decide +kernel
theorem dX6_follows_138 : decode cX6_follows 138 = .ok (.getfield 111, 3) := by decide +kernel
theorem dX6_follows_141 : decode cX6_follows 141 = .ok (.iconst 1, 1) := by decide +kernel
theorem dX6_follows_142 : decode cX6_follows 142 = .ok (.iadd, 1) := by decide +kernel
theorem dX6_follows_143 : decode cX6_follows 143 = .ok (.putfield 111, 3) := by decide +kernel
theorem dX6_follows_146 : decode cX6_follows 146 = .ok (.iload 6, 2) := by decide +kernel
theorem dX6_follows_148 : decode cX6_follows 148 = .ok (.ifCond .eq 7, 3) := by decide +kernel
theorem dX6_follows_151 : decode cX6_follows 151 = .ok (.iconst 2, 1) := by decide +kernel
theorem dX6_follows_152 : decode cX6_follows 152 = .ok (.goto 4, 3) := by decide +kernel
theorem dX6_follows_155 : decode cX6_follows 155 = .ok (.iconst 1, 1) := by decide +kernel
theorem dX6_follows_156 : decode cX6_follows 156 = .ok (.ireturn, 1) := by decide +kernel
theorem dX6_follows_157 : decode cX6_follows 157 = .ok (.aload_n 0, 1) := by decide +kernel
theorem dX6_follows_158 : decode cX6_follows 158 = .ok (.iload_n 1, 1) := by decide +kernel
theorem dX6_follows_159 : decode cX6_follows 159 = .ok (.iload 4, 2) := by decide +kernel
theorem dX6_follows_161 : decode cX6_follows 161 = .ok (.iload_n 2, 1) := by decide +kernel
theorem dX6_follows_162 : decode cX6_follows 162 = .ok (.invokevirtual 124, 3) := by decide +kernel
theorem dX6_follows_165 : decode cX6_follows 165 = .ok (.ifCond .eq 7, 3) := by decide +kernel
theorem dX6_follows_168 : decode cX6_follows 168 = .ok (.iconst 4, 1) := by decide +kernel
theorem dX6_follows_169 : decode cX6_follows 169 = .ok (.goto 4, 3) := by decide +kernel
theorem dX6_follows_172 : decode cX6_follows 172 = .ok (.iconst 3, 1) := by decide +kernel
theorem dX6_follows_173 : decode cX6_follows 173 = .ok (.ireturn, 1) := by decide +kernel
theorem dX6_follow_0 : decode cX6_follow 0 = .ok (.aload_n 0, 1) := by decide +kernel
theorem dX6_follow_1 : decode cX6_follow 1 = .ok (.iconst 0, 1) := by decide +kernel
theorem dX6_follow_2 : decode cX6_follow 2 = .ok (.putfield 57, 3) := by decide +kernel
theorem dX6_follow_5 : decode cX6_follow 5 = .ok (.aload_n 0, 1) := by decide +kernel
theorem dX6_follow_6 : decode cX6_follow 6 = .ok (.invokevirtual 128, 3) := by decide +kernel
theorem dX6_follow_9 : decode cX6_follow 9 = .ok (.ireturn, 1) := by decide +kernel
theorem dX6_followAll_0 : decode cX6_followAll 0 = .ok (.aload_n 0, 1) := by decide +kernel
theorem dX6_followAll_1 : decode cX6_followAll 1 = .ok (.iconst 0, 1) := by decide +kernel
theorem dX6_followAll_2 : decode cX6_followAll 2 = .ok (.putfield 57, 3) := by decide +kernel
theorem dX6_followAll_5 : decode cX6_followAll 5 = .ok (.iconst 0, 1) := by decide +kernel
theorem dX6_followAll_6 : decode cX6_followAll 6 = .ok (.istore_n 1, 1) := by decide +kernel
theorem dX6_followAll_7 : decode cX6_followAll 7 = .ok (.aload_n 0, 1) := by decide +kernel
theorem dX6_followAll_8 : decode cX6_followAll 8 = .ok (.invokevirtual 128, 3) := by decide +kernel
theorem dX6_followAll_11 : decode cX6_followAll 11 = .ok (.ifCond .eq 9, 3) := by decide +kernel
theorem dX6_followAll_14 : decode cX6_followAll 14 = .ok (.iinc 1 1, 3) := by decide +kernel
theorem dX6_followAll_17 : decode cX6_followAll 17 = .ok (.goto (-10), 3) := by decide +kernel
theorem dX6_followAll_20 : decode cX6_followAll 20 = .ok (.iload_n 1, 1) := by decide +kernel
theorem dX6_followAll_21 : decode cX6_followAll 21 = .ok (.ireturn, 1) := by decide +kernel
theorem dX6_queued_0 : decode cX6_queued 0 = .ok (.aload_n 0, 1) := by decide +kernel
theorem dX6_queued_1 : decode cX6_queued 1 = .ok (.iconst 0, 1) := by decide +kernel
theorem dX6_queued_2 : decode cX6_queued 2 = .ok (.putfield 57, 3) := by decide +kernel
theorem dX6_queued_5 : decode cX6_queued 5 = .ok (.aload_n 0, 1) := by decide +kernel
theorem dX6_queued_6 : decode cX6_queued 6 = .ok (.getfield 108, 3) := by decide +kernel
theorem dX6_queued_9 : decode cX6_queued 9 = .ok (.ireturn, 1) := by decide +kernel
theorem dX6_nextTo_0 : decode cX6_nextTo 0 = .ok (.aload_n 0, 1) := by decide +kernel
theorem dX6_nextTo_1 : decode cX6_nextTo 1 = .ok (.iconst 0, 1) := by decide +kernel
theorem dX6_nextTo_2 : decode cX6_nextTo 2 = .ok (.putfield 57, 3) := by decide +kernel
theorem dX6_nextTo_5 : decode cX6_nextTo 5 = .ok (.aload_n 0, 1) := by decide +kernel
theorem dX6_nextTo_6 : decode cX6_nextTo 6 = .ok (.getfield 108, 3) := by decide +kernel
theorem dX6_nextTo_9 : decode cX6_nextTo 9 = .ok (.ifCond .ne 7, 3) := by decide +kernel
theorem dX6_nextTo_12 : decode cX6_nextTo 12 = .ok (.iconst (-1), 1) := by decide +kernel
theorem dX6_nextTo_13 : decode cX6_nextTo 13 = .ok (.goto 9, 3) := by decide +kernel
theorem dX6_nextTo_16 : decode cX6_nextTo 16 = .ok (.aload_n 0, 1) := by decide +kernel
theorem dX6_nextTo_17 : decode cX6_nextTo 17 = .ok (.getfield 39, 3) := by decide +kernel
theorem dX6_nextTo_20 : decode cX6_nextTo 20 = .ok (.iconst 3, 1) := by decide +kernel
theorem dX6_nextTo_21 : decode cX6_nextTo 21 = .ok (.iaload, 1) := by decide +kernel
theorem dX6_nextTo_22 : decode cX6_nextTo 22 = .ok (.ireturn, 1) := by decide +kernel
theorem dX6_isPacket_0 : decode cX6_isPacket 0 = .ok (.aload_n 0, 1) := by decide +kernel
theorem dX6_isPacket_1 : decode cX6_isPacket 1 = .ok (.iload_n 1, 1) := by decide +kernel
theorem dX6_isPacket_2 : decode cX6_isPacket 2 = .ok (.ifCond .lt 15, 3) := by decide +kernel
theorem dX6_isPacket_5 : decode cX6_isPacket 5 = .ok (.iload_n 1, 1) := by decide +kernel
theorem dX6_isPacket_6 : decode cX6_isPacket 6 = .ok (.aload_n 0, 1) := by decide +kernel
theorem dX6_isPacket_7 : decode cX6_isPacket 7 = .ok (.getfield 121, 3) := by decide +kernel
theorem dX6_isPacket_10 : decode cX6_isPacket 10 = .ok (.if_icmp .ge 7, 3) := by decide +kernel
theorem dX6_isPacket_13 : decode cX6_isPacket 13 = .ok (.iconst 0, 1) := by decide +kernel
theorem dX6_isPacket_14 : decode cX6_isPacket 14 = .ok (.goto 4, 3) := by decide +kernel
theorem dX6_isPacket_17 : decode cX6_isPacket 17 = .ok (.iconst 1, 1) := by decide +kernel
theorem dX6_isPacket_18 : decode cX6_isPacket 18 = .ok (.invokevirtual 90, 3) := by decide +kernel
theorem dX6_isPacket_21 : decode cX6_isPacket 21 = .ok (.ireturn, 1) := by decide +kernel
theorem dX6_received_0 : decode cX6_received 0 = .ok (.aload_n 0, 1) := by decide +kernel
theorem dX6_received_1 : decode cX6_received 1 = .ok (.iload_n 1, 1) := by decide +kernel
theorem dX6_received_2 : decode cX6_received 2 = .ok (.invokevirtual 132, 3) := by decide +kernel
theorem dX6_received_5 : decode cX6_received 5 = .ok (.ifCond .eq 12, 3) := by decide +kernel
theorem dX6_received_8 : decode cX6_received 8 = .ok (.aload_n 0, 1) := by decide +kernel
theorem dX6_received_9 : decode cX6_received 9 = .ok (.getfield 48, 3) := by decide +kernel
theorem dX6_received_12 : decode cX6_received 12 = .ok (.iload_n 1, 1) := by decide +kernel
theorem dX6_received_13 : decode cX6_received 13 = .ok (.iaload, 1) := by decide +kernel
theorem dX6_received_14 : decode cX6_received 14 = .ok (.goto 4, 3) := by decide +kernel
theorem dX6_received_17 : decode cX6_received 17 = .ok (.iconst 0, 1) := by decide +kernel
theorem dX6_received_18 : decode cX6_received 18 = .ok (.ireturn, 1) := by decide +kernel
theorem dX6_doubles_0 : decode cX6_doubles 0 = .ok (.aload_n 0, 1) := by decide +kernel
theorem dX6_doubles_1 : decode cX6_doubles 1 = .ok (.iload_n 1, 1) := by decide +kernel
theorem dX6_doubles_2 : decode cX6_doubles 2 = .ok (.invokevirtual 132, 3) := by decide +kernel
theorem dX6_doubles_5 : decode cX6_doubles 5 = .ok (.ifCond .eq 12, 3) := by decide +kernel
theorem dX6_doubles_8 : decode cX6_doubles 8 = .ok (.aload_n 0, 1) := by decide +kernel
theorem dX6_doubles_9 : decode cX6_doubles 9 = .ok (.getfield 51, 3) := by decide +kernel
theorem dX6_doubles_12 : decode cX6_doubles 12 = .ok (.iload_n 1, 1) := by decide +kernel
theorem dX6_doubles_13 : decode cX6_doubles 13 = .ok (.iaload, 1) := by decide +kernel
theorem dX6_doubles_14 : decode cX6_doubles 14 = .ok (.goto 4, 3) := by decide +kernel
theorem dX6_doubles_17 : decode cX6_doubles 17 = .ok (.iconst 0, 1) := by decide +kernel
theorem dX6_doubles_18 : decode cX6_doubles 18 = .ok (.ireturn, 1) := by decide +kernel
theorem dX6_wasted_0 : decode cX6_wasted 0 = .ok (.aload_n 0, 1) := by decide +kernel
theorem dX6_wasted_1 : decode cX6_wasted 1 = .ok (.iconst 0, 1) := by decide +kernel
theorem dX6_wasted_2 : decode cX6_wasted 2 = .ok (.putfield 57, 3) := by decide +kernel
theorem dX6_wasted_5 : decode cX6_wasted 5 = .ok (.aload_n 0, 1) := by decide +kernel
theorem dX6_wasted_6 : decode cX6_wasted 6 = .ok (.getfield 111, 3) := by decide +kernel
theorem dX6_wasted_9 : decode cX6_wasted 9 = .ok (.ireturn, 1) := by decide +kernel
theorem dX6_second_0 : decode cX6_second 0 = .ok (.iconst 0, 1) := by decide +kernel
theorem dX6_second_1 : decode cX6_second 1 = .ok (.istore_n 1, 1) := by decide +kernel
theorem dX6_second_2 : decode cX6_second 2 = .ok (.aload_n 0, 1) := by decide +kernel
theorem dX6_second_3 : decode cX6_second 3 = .ok (.dup, 1) := by decide +kernel
theorem dX6_second_4 : decode cX6_second 4 = .ok (.getfield 79, 3) := by decide +kernel
theorem dX6_second_7 : decode cX6_second 7 = .ok (.iconst 1, 1) := by decide +kernel
theorem dX6_second_8 : decode cX6_second 8 = .ok (.iadd, 1) := by decide +kernel
theorem dX6_second_9 : decode cX6_second 9 = .ok (.putfield 79, 3) := by decide +kernel
theorem dX6_second_12 : decode cX6_second 12 = .ok (.iconst 0, 1) := by decide +kernel
theorem dX6_second_13 : decode cX6_second 13 = .ok (.istore_n 2, 1) := by decide +kernel
theorem dX6_second_14 : decode cX6_second 14 = .ok (.iload_n 2, 1) := by decide +kernel
theorem dX6_second_15 : decode cX6_second 15 = .ok (.bipush 44, 2) := by decide +kernel
theorem dX6_second_17 : decode cX6_second 17 = .ok (.if_icmp .ge 114, 3) := by decide +kernel
theorem dX6_second_20 : decode cX6_second 20 = .ok (.iconst 0, 1) := by decide +kernel
theorem dX6_second_21 : decode cX6_second 21 = .ok (.istore_n 3, 1) := by decide +kernel
theorem dX6_second_22 : decode cX6_second 22 = .ok (.iconst 0, 1) := by decide +kernel
theorem dX6_second_23 : decode cX6_second 23 = .ok (.istore 4, 2) := by decide +kernel
theorem dX6_second_25 : decode cX6_second 25 = .ok (.iload 4, 2) := by decide +kernel
theorem dX6_second_27 : decode cX6_second 27 = .ok (.bipush 10, 2) := by decide +kernel
theorem dX6_second_29 : decode cX6_second 29 = .ok (.if_icmp .ge 63, 3) := by decide +kernel
theorem dX6_second_32 : decode cX6_second 32 = .ok (.bipush 10, 2) := by decide +kernel
theorem dX6_second_34 : decode cX6_second 34 = .ok (.iload_n 2, 1) := by decide +kernel
theorem dX6_second_35 : decode cX6_second 35 = .ok (.imul, 1) := by decide +kernel
theorem dX6_second_36 : decode cX6_second 36 = .ok (.iload 4, 2) := by decide +kernel
theorem dX6_second_38 : decode cX6_second 38 = .ok (.iadd, 1) := by decide +kernel
theorem dX6_second_39 : decode cX6_second 39 = .ok (.istore 5, 2) := by decide +kernel
theorem dX6_second_41 : decode cX6_second 41 = .ok (.aload_n 0, 1) := by decide +kernel
theorem dX6_second_42 : decode cX6_second 42 = .ok (.getfield 36, 3) := by decide +kernel
theorem dX6_second_45 : decode cX6_second 45 = .ok (.iload 5, 2) := by decide +kernel
theorem dX6_second_47 : decode cX6_second 47 = .ok (.iaload, 1) := by decide +kernel
theorem dX6_second_48 : decode cX6_second 48 = .ok (.aload_n 0, 1) := by decide +kernel
theorem dX6_second_49 : decode cX6_second 49 = .ok (.getfield 79, 3) := by decide +kernel
theorem dX6_second_52 : decode cX6_second 52 = .ok (.if_icmp .ne 34, 3) := by decide +kernel
theorem dX6_second_55 : decode cX6_second 55 = .ok (.iload_n 3, 1) := by decide +kernel
theorem dX6_second_56 : decode cX6_second 56 = .ok (.iconst 1, 1) := by decide +kernel
theorem dX6_second_57 : decode cX6_second 57 = .ok (.aload_n 0, 1) := by decide +kernel
theorem dX6_second_58 : decode cX6_second 58 = .ok (.getfield 33, 3) := by decide +kernel
theorem dX6_second_61 : decode cX6_second 61 = .ok (.iload 5, 2) := by decide +kernel
theorem dX6_second_63 : decode cX6_second 63 = .ok (.iaload, 1) := by decide +kernel
theorem dX6_second_64 : decode cX6_second 64 = .ok (.ishl, 1) := by decide +kernel
theorem dX6_second_65 : decode cX6_second 65 = .ok (.ior, 1) := by decide +kernel
theorem dX6_second_66 : decode cX6_second 66 = .ok (.istore_n 3, 1) := by decide +kernel
theorem dX6_second_67 : decode cX6_second 67 = .ok (.aload_n 0, 1) := by decide +kernel
theorem dX6_second_68 : decode cX6_second 68 = .ok (.getfield 33, 3) := by decide +kernel
theorem dX6_second_71 : decode cX6_second 71 = .ok (.iload 5, 2) := by decide +kernel
theorem dX6_second_73 : decode cX6_second 73 = .ok (.iconst (-1), 1) := by decide +kernel
theorem dX6_second_74 : decode cX6_second 74 = .ok (.iastore, 1) := by decide +kernel
theorem dX6_second_75 : decode cX6_second 75 = .ok (.aload_n 0, 1) := by decide +kernel
theorem dX6_second_76 : decode cX6_second 76 = .ok (.getfield 36, 3) := by decide +kernel
theorem dX6_second_79 : decode cX6_second 79 = .ok (.iload 5, 2) := by decide +kernel
theorem dX6_second_81 : decode cX6_second 81 = .ok (.iconst (-1), 1) := by decide +kernel
theorem dX6_second_82 : decode cX6_second 82 = .ok (.iastore, 1) := by decide +kernel
theorem dX6_second_83 : decode cX6_second 83 = .ok (.iinc 1 1, 3) := by decide +kernel
theorem dX6_second_86 : decode cX6_second 86 = .ok (.iinc 4 1, 3) := by decide +kernel
theorem dX6_second_89 : decode cX6_second 89 = .ok (.goto (-64), 3) := by decide +kernel
theorem dX6_second_92 : decode cX6_second 92 = .ok (.iconst 0, 1) := by decide +kernel
theorem dX6_second_93 : decode cX6_second 93 = .ok (.istore 4, 2) := by decide +kernel
theorem dX6_second_95 : decode cX6_second 95 = .ok (.iload 4, 2) := by decide +kernel
theorem dX6_second_97 : decode cX6_second 97 = .ok (.bipush 10, 2) := by decide +kernel
theorem dX6_second_99 : decode cX6_second 99 = .ok (.if_icmp .ge 26, 3) := by decide +kernel
theorem dX6_second_102 : decode cX6_second 102 = .ok (.iload_n 3, 1) := by decide +kernel
theorem dX6_second_103 : decode cX6_second 103 = .ok (.iload 4, 2) := by decide +kernel
theorem dX6_second_105 : decode cX6_second 105 = .ok (.ishr, 1) := by decide +kernel
theorem dX6_second_106 : decode cX6_second 106 = .ok (.iconst 1, 1) := by decide +kernel
theorem dX6_second_107 : decode cX6_second 107 = .ok (.iand, 1) := by decide +kernel
theorem dX6_second_108 : decode cX6_second 108 = .ok (.iconst 1, 1) := by decide +kernel
theorem dX6_second_109 : decode cX6_second 109 = .ok (.if_icmp .ne 10, 3) := by decide +kernel
theorem dX6_second_112 : decode cX6_second 112 = .ok (.aload_n 0, 1) := by decide +kernel
theorem dX6_second_113 : decode cX6_second 113 = .ok (.iload_n 2, 1) := by decide +kernel
theorem dX6_second_114 : decode cX6_second 114 = .ok (.iload 4, 2) := by decide +kernel
theorem dX6_second_116 : decode cX6_second 116 = .ok (.invokevirtual 105, 3) := by decide +kernel
theorem dX6_second_119 : decode cX6_second 119 = .ok (.iinc 4 1, 3) := by decide +kernel
theorem dX6_second_122 : decode cX6_second 122 = .ok (.goto (-27), 3) := by decide +kernel
theorem dX6_second_125 : decode cX6_second 125 = .ok (.iinc 2 1, 3) := by decide +kernel
theorem dX6_second_128 : decode cX6_second 128 = .ok (.goto (-114), 3) := by decide +kernel
theorem dX6_second_131 : decode cX6_second 131 = .ok (.iload_n 1, 1) := by decide +kernel
theorem dX6_second_132 : decode cX6_second 132 = .ok (.ireturn, 1) := by decide +kernel
theorem dX6_pass_0 : decode cX6_pass 0 = .ok (.aload_n 0, 1) := by decide +kernel
theorem dX6_pass_1 : decode cX6_pass 1 = .ok (.iload_n 1, 1) := by decide +kernel
theorem dX6_pass_2 : decode cX6_pass 2 = .ok (.iconst 1, 1) := by decide +kernel
theorem dX6_pass_3 : decode cX6_pass 3 = .ok (.if_icmp .lt 9, 3) := by decide +kernel
theorem dX6_pass_6 : decode cX6_pass 6 = .ok (.iload_n 1, 1) := by decide +kernel
theorem dX6_pass_7 : decode cX6_pass 7 = .ok (.bipush 100, 2) := by decide +kernel
theorem dX6_pass_9 : decode cX6_pass 9 = .ok (.if_icmp .le 7, 3) := by decide +kernel
theorem dX6_pass_12 : decode cX6_pass 12 = .ok (.iconst 1, 1) := by decide +kernel
theorem dX6_pass_13 : decode cX6_pass 13 = .ok (.goto 4, 3) := by decide +kernel
theorem dX6_pass_16 : decode cX6_pass 16 = .ok (.iconst 0, 1) := by decide +kernel
theorem dX6_pass_17 : decode cX6_pass 17 = .ok (.invokevirtual 90, 3) := by decide +kernel
theorem dX6_pass_20 : decode cX6_pass 20 = .ok (.ifCond .ne 5, 3) := by decide +kernel
theorem dX6_pass_23 : decode cX6_pass 23 = .ok (.iconst 0, 1) := by decide +kernel
theorem dX6_pass_24 : decode cX6_pass 24 = .ok (.ireturn, 1) := by decide +kernel
theorem dX6_pass_25 : decode cX6_pass 25 = .ok (.iconst 0, 1) := by decide +kernel
theorem dX6_pass_26 : decode cX6_pass 26 = .ok (.istore_n 2, 1) := by decide +kernel
theorem dX6_pass_27 : decode cX6_pass 27 = .ok (.aload_n 0, 1) := by decide +kernel
theorem dX6_pass_28 : decode cX6_pass 28 = .ok (.getfield 79, 3) := by decide +kernel
theorem dX6_pass_31 : decode cX6_pass 31 = .ok (.bipush 10, 2) := by decide +kernel
theorem dX6_pass_33 : decode cX6_pass 33 = .ok (.idiv, 1) := by decide +kernel
theorem dX6_pass_34 : decode cX6_pass 34 = .ok (.istore_n 3, 1) := by decide +kernel
theorem dX6_pass_35 : decode cX6_pass 35 = .ok (.iconst 0, 1) := by decide +kernel
theorem dX6_pass_36 : decode cX6_pass 36 = .ok (.istore 4, 2) := by decide +kernel
theorem dX6_pass_38 : decode cX6_pass 38 = .ok (.iload 4, 2) := by decide +kernel
theorem dX6_pass_40 : decode cX6_pass 40 = .ok (.iload_n 1, 1) := by decide +kernel
theorem dX6_pass_41 : decode cX6_pass 41 = .ok (.if_icmp .ge 16, 3) := by decide +kernel
theorem dX6_pass_44 : decode cX6_pass 44 = .ok (.iload_n 2, 1) := by decide +kernel
theorem dX6_pass_45 : decode cX6_pass 45 = .ok (.aload_n 0, 1) := by decide +kernel
theorem dX6_pass_46 : decode cX6_pass 46 = .ok (.invokevirtual 135, 3) := by decide +kernel
theorem dX6_pass_49 : decode cX6_pass 49 = .ok (.iadd, 1) := by decide +kernel
theorem dX6_pass_50 : decode cX6_pass 50 = .ok (.istore_n 2, 1) := by decide +kernel
theorem dX6_pass_51 : decode cX6_pass 51 = .ok (.iinc 4 1, 3) := by decide +kernel
theorem dX6_pass_54 : decode cX6_pass 54 = .ok (.goto (-16), 3) := by decide +kernel
theorem dX6_pass_57 : decode cX6_pass 57 = .ok (.iconst 0, 1) := by decide +kernel
theorem dX6_pass_58 : decode cX6_pass 58 = .ok (.istore 4, 2) := by decide +kernel
theorem dX6_pass_60 : decode cX6_pass 60 = .ok (.iload 4, 2) := by decide +kernel
theorem dX6_pass_62 : decode cX6_pass 62 = .ok (.sipush 400, 3) := by decide +kernel
theorem dX6_pass_65 : decode cX6_pass 65 = .ok (.if_icmp .ge 28, 3) := by decide +kernel
theorem dX6_pass_68 : decode cX6_pass 68 = .ok (.aload_n 0, 1) := by decide +kernel
theorem dX6_pass_69 : decode cX6_pass 69 = .ok (.getfield 79, 3) := by decide +kernel
theorem dX6_pass_72 : decode cX6_pass 72 = .ok (.bipush 10, 2) := by decide +kernel
theorem dX6_pass_74 : decode cX6_pass 74 = .ok (.idiv, 1) := by decide +kernel
theorem dX6_pass_75 : decode cX6_pass 75 = .ok (.iload_n 3, 1) := by decide +kernel
theorem dX6_pass_76 : decode cX6_pass 76 = .ok (.if_icmp .le 17, 3) := by decide +kernel
theorem dX6_pass_79 : decode cX6_pass 79 = .ok (.aload_n 0, 1) := by decide +kernel
theorem dX6_pass_80 : decode cX6_pass 80 = .ok (.getfield 30, 3) := by decide +kernel
theorem dX6_pass_83 : decode cX6_pass 83 = .ok (.iload 4, 2) := by decide +kernel
theorem dX6_pass_85 : decode cX6_pass 85 = .ok (.iconst 0, 1) := by decide +kernel
theorem dX6_pass_86 : decode cX6_pass 86 = .ok (.iastore, 1) := by decide +kernel
theorem dX6_pass_87 : decode cX6_pass 87 = .ok (.iinc 4 1, 3) := by decide +kernel
theorem dX6_pass_90 : decode cX6_pass 90 = .ok (.goto (-30), 3) := by decide +kernel
theorem dX6_pass_93 : decode cX6_pass 93 = .ok (.iload_n 2, 1) := by decide +kernel
theorem dX6_pass_94 : decode cX6_pass 94 = .ok (.ireturn, 1) := by decide +kernel
theorem dX6_clock_0 : decode cX6_clock 0 = .ok (.aload_n 0, 1) := by decide +kernel
theorem dX6_clock_1 : decode cX6_clock 1 = .ok (.iconst 0, 1) := by decide +kernel
theorem dX6_clock_2 : decode cX6_clock 2 = .ok (.putfield 57, 3) := by decide +kernel
theorem dX6_clock_5 : decode cX6_clock 5 = .ok (.aload_n 0, 1) := by decide +kernel
theorem dX6_clock_6 : decode cX6_clock 6 = .ok (.getfield 79, 3) := by decide +kernel
theorem dX6_clock_9 : decode cX6_clock 9 = .ok (.ireturn, 1) := by decide +kernel
theorem dX6_floodMembers_0 : decode cX6_floodMembers 0 = .ok (.aload_n 0, 1) := by decide +kernel
theorem dX6_floodMembers_1 : decode cX6_floodMembers 1 = .ok (.iload_n 1, 1) := by decide +kernel
theorem dX6_floodMembers_2 : decode cX6_floodMembers 2 = .ok (.invokestatic 86, 3) := by decide +kernel
theorem dX6_floodMembers_5 : decode cX6_floodMembers 5 = .ok (.ifCond .eq 14, 3) := by decide +kernel
theorem dX6_floodMembers_8 : decode cX6_floodMembers 8 = .ok (.iload_n 2, 1) := by decide +kernel
theorem dX6_floodMembers_9 : decode cX6_floodMembers 9 = .ok (.invokestatic 96, 3) := by decide +kernel
theorem dX6_floodMembers_12 : decode cX6_floodMembers 12 = .ok (.ifCond .eq 7, 3) := by decide +kernel
theorem dX6_floodMembers_15 : decode cX6_floodMembers 15 = .ok (.iconst 0, 1) := by decide +kernel
theorem dX6_floodMembers_16 : decode cX6_floodMembers 16 = .ok (.goto 4, 3) := by decide +kernel
theorem dX6_floodMembers_19 : decode cX6_floodMembers 19 = .ok (.iconst 1, 1) := by decide +kernel
theorem dX6_floodMembers_20 : decode cX6_floodMembers 20 = .ok (.invokevirtual 90, 3) := by decide +kernel
theorem dX6_floodMembers_23 : decode cX6_floodMembers 23 = .ok (.ifCond .ne 5, 3) := by decide +kernel
theorem dX6_floodMembers_26 : decode cX6_floodMembers 26 = .ok (.iconst 0, 1) := by decide +kernel
theorem dX6_floodMembers_27 : decode cX6_floodMembers 27 = .ok (.ireturn, 1) := by decide +kernel
theorem dX6_floodMembers_28 : decode cX6_floodMembers 28 = .ok (.iconst 0, 1) := by decide +kernel
theorem dX6_floodMembers_29 : decode cX6_floodMembers 29 = .ok (.istore_n 3, 1) := by decide +kernel
theorem dX6_floodMembers_30 : decode cX6_floodMembers 30 = .ok (.iconst 0, 1) := by decide +kernel
theorem dX6_floodMembers_31 : decode cX6_floodMembers 31 = .ok (.istore 4, 2) := by decide +kernel
theorem dX6_floodMembers_33 : decode cX6_floodMembers 33 = .ok (.iload 4, 2) := by decide +kernel
theorem dX6_floodMembers_35 : decode cX6_floodMembers 35 = .ok (.bipush 10, 2) := by decide +kernel
theorem dX6_floodMembers_37 : decode cX6_floodMembers 37 = .ok (.if_icmp .ge 37, 3) := by decide +kernel
theorem dX6_floodMembers_40 : decode cX6_floodMembers 40 = .ok (.iload_n 3, 1) := by decide +kernel
theorem dX6_floodMembers_41 : decode cX6_floodMembers 41 = .ok (.aload_n 0, 1) := by decide +kernel
theorem dX6_floodMembers_42 : decode cX6_floodMembers 42 = .ok (.getfield 17, 3) := by decide +kernel
theorem dX6_floodMembers_45 : decode cX6_floodMembers 45 = .ok (.bipush 10, 2) := by decide +kernel
theorem dX6_floodMembers_47 : decode cX6_floodMembers 47 = .ok (.iload_n 1, 1) := by decide +kernel
theorem dX6_floodMembers_48 : decode cX6_floodMembers 48 = .ok (.imul, 1) := by decide +kernel
theorem dX6_floodMembers_49 : decode cX6_floodMembers 49 = .ok (.iload 4, 2) := by decide +kernel
theorem dX6_floodMembers_51 : decode cX6_floodMembers 51 = .ok (.iadd, 1) := by decide +kernel
theorem dX6_floodMembers_52 : decode cX6_floodMembers 52 = .ok (.iaload, 1) := by decide +kernel
theorem dX6_floodMembers_53 : decode cX6_floodMembers 53 = .ok (.ldc 60, 2) := by decide +kernel
theorem dX6_floodMembers_55 : decode cX6_floodMembers 55 = .ok (.if_icmp .ge 10, 3) := by decide +kernel
theorem dX6_floodMembers_58 : decode cX6_floodMembers 58 = .ok (.iconst 1, 1) := by decide +kernel
theorem dX6_floodMembers_59 : decode cX6_floodMembers 59 = .ok (.iload 4, 2) := by decide +kernel
theorem dX6_floodMembers_61 : decode cX6_floodMembers 61 = .ok (.ishl, 1) := by decide +kernel
theorem dX6_floodMembers_62 : decode cX6_floodMembers 62 = .ok (.goto 4, 3) := by decide +kernel
theorem dX6_floodMembers_65 : decode cX6_floodMembers 65 = .ok (.iconst 0, 1) := by decide +kernel
theorem dX6_floodMembers_66 : decode cX6_floodMembers 66 = .ok (.ior, 1) := by decide +kernel
theorem dX6_floodMembers_67 : decode cX6_floodMembers 67 = .ok (.istore_n 3, 1) := by decide +kernel
theorem dX6_floodMembers_68 : decode cX6_floodMembers 68 = .ok (.iinc 4 1, 3) := by decide +kernel
theorem dX6_floodMembers_71 : decode cX6_floodMembers 71 = .ok (.goto (-38), 3) := by decide +kernel
theorem dX6_floodMembers_74 : decode cX6_floodMembers 74 = .ok (.iload_n 3, 1) := by decide +kernel
theorem dX6_floodMembers_75 : decode cX6_floodMembers 75 = .ok (.aload_n 0, 1) := by decide +kernel
theorem dX6_floodMembers_76 : decode cX6_floodMembers 76 = .ok (.getfield 24, 3) := by decide +kernel
theorem dX6_floodMembers_79 : decode cX6_floodMembers 79 = .ok (.iload_n 2, 1) := by decide +kernel
theorem dX6_floodMembers_80 : decode cX6_floodMembers 80 = .ok (.iaload, 1) := by decide +kernel
theorem dX6_floodMembers_81 : decode cX6_floodMembers 81 = .ok (.iand, 1) := by decide +kernel
theorem dX6_floodMembers_82 : decode cX6_floodMembers 82 = .ok (.ireturn, 1) := by decide +kernel
theorem dX6_floodCopies_0 : decode cX6_floodCopies 0 = .ok (.aload_n 0, 1) := by decide +kernel
theorem dX6_floodCopies_1 : decode cX6_floodCopies 1 = .ok (.iload_n 1, 1) := by decide +kernel
theorem dX6_floodCopies_2 : decode cX6_floodCopies 2 = .ok (.invokestatic 86, 3) := by decide +kernel
theorem dX6_floodCopies_5 : decode cX6_floodCopies 5 = .ok (.ifCond .eq 7, 3) := by decide +kernel
theorem dX6_floodCopies_8 : decode cX6_floodCopies 8 = .ok (.iconst 0, 1) := by decide +kernel
theorem dX6_floodCopies_9 : decode cX6_floodCopies 9 = .ok (.goto 4, 3) := by decide +kernel
theorem dX6_floodCopies_12 : decode cX6_floodCopies 12 = .ok (.iconst 1, 1) := by decide +kernel
theorem dX6_floodCopies_13 : decode cX6_floodCopies 13 = .ok (.invokevirtual 90, 3) := by decide +kernel
theorem dX6_floodCopies_16 : decode cX6_floodCopies 16 = .ok (.ifCond .ne 5, 3) := by decide +kernel
theorem dX6_floodCopies_19 : decode cX6_floodCopies 19 = .ok (.iconst 0, 1) := by decide +kernel
theorem dX6_floodCopies_20 : decode cX6_floodCopies 20 = .ok (.ireturn, 1) := by decide +kernel
theorem dX6_floodCopies_21 : decode cX6_floodCopies 21 = .ok (.iconst 0, 1) := by decide +kernel
theorem dX6_floodCopies_22 : decode cX6_floodCopies 22 = .ok (.istore_n 2, 1) := by decide +kernel
theorem dX6_floodCopies_23 : decode cX6_floodCopies 23 = .ok (.iconst 0, 1) := by decide +kernel
theorem dX6_floodCopies_24 : decode cX6_floodCopies 24 = .ok (.istore_n 3, 1) := by decide +kernel
theorem dX6_floodCopies_25 : decode cX6_floodCopies 25 = .ok (.iload_n 3, 1) := by decide +kernel
theorem dX6_floodCopies_26 : decode cX6_floodCopies 26 = .ok (.bipush 10, 2) := by decide +kernel
theorem dX6_floodCopies_28 : decode cX6_floodCopies 28 = .ok (.if_icmp .ge 90, 3) := by decide +kernel
theorem dX6_floodCopies_31 : decode cX6_floodCopies 31 = .ok (.iconst 0, 1) := by decide +kernel
theorem dX6_floodCopies_32 : decode cX6_floodCopies 32 = .ok (.istore 4, 2) := by decide +kernel
theorem dX6_floodCopies_34 : decode cX6_floodCopies 34 = .ok (.iconst 0, 1) := by decide +kernel
theorem dX6_floodCopies_35 : decode cX6_floodCopies 35 = .ok (.istore 5, 2) := by decide +kernel
theorem dX6_floodCopies_37 : decode cX6_floodCopies 37 = .ok (.iload 5, 2) := by decide +kernel
theorem dX6_floodCopies_39 : decode cX6_floodCopies 39 = .ok (.bipush 10, 2) := by decide +kernel
theorem dX6_floodCopies_41 : decode cX6_floodCopies 41 = .ok (.if_icmp .ge 34, 3) := by decide +kernel
theorem dX6_floodCopies_44 : decode cX6_floodCopies 44 = .ok (.iload 4, 2) := by decide +kernel
theorem dX6_floodCopies_46 : decode cX6_floodCopies 46 = .ok (.aload_n 0, 1) := by decide +kernel
theorem dX6_floodCopies_47 : decode cX6_floodCopies 47 = .ok (.getfield 13, 3) := by decide +kernel
theorem dX6_floodCopies_50 : decode cX6_floodCopies 50 = .ok (.bipush 10, 2) := by decide +kernel
theorem dX6_floodCopies_52 : decode cX6_floodCopies 52 = .ok (.iload_n 3, 1) := by decide +kernel
theorem dX6_floodCopies_53 : decode cX6_floodCopies 53 = .ok (.imul, 1) := by decide +kernel
theorem dX6_floodCopies_54 : decode cX6_floodCopies 54 = .ok (.iload 5, 2) := by decide +kernel
theorem dX6_floodCopies_56 : decode cX6_floodCopies 56 = .ok (.iadd, 1) := by decide +kernel
theorem dX6_floodCopies_57 : decode cX6_floodCopies 57 = .ok (.iaload, 1) := by decide +kernel
theorem dX6_floodCopies_58 : decode cX6_floodCopies 58 = .ok (.ifCond .le 7, 3) := by decide +kernel
theorem dX6_floodCopies_61 : decode cX6_floodCopies 61 = .ok (.iconst 1, 1) := by decide +kernel
theorem dX6_floodCopies_62 : decode cX6_floodCopies 62 = .ok (.goto 4, 3) := by decide +kernel
theorem dX6_floodCopies_65 : decode cX6_floodCopies 65 = .ok (.iconst 0, 1) := by decide +kernel
theorem dX6_floodCopies_66 : decode cX6_floodCopies 66 = .ok (.iadd, 1) := by decide +kernel
theorem dX6_floodCopies_67 : decode cX6_floodCopies 67 = .ok (.istore 4, 2) := by decide +kernel
theorem dX6_floodCopies_69 : decode cX6_floodCopies 69 = .ok (.iinc 5 1, 3) := by decide +kernel
theorem dX6_floodCopies_72 : decode cX6_floodCopies 72 = .ok (.goto (-35), 3) := by decide +kernel
theorem dX6_floodCopies_75 : decode cX6_floodCopies 75 = .ok (.iload_n 2, 1) := by decide +kernel
theorem dX6_floodCopies_76 : decode cX6_floodCopies 76 = .ok (.aload_n 0, 1) := by decide +kernel
theorem dX6_floodCopies_77 : decode cX6_floodCopies 77 = .ok (.getfield 17, 3) := by decide +kernel
theorem dX6_floodCopies_80 : decode cX6_floodCopies 80 = .ok (.bipush 10, 2) := by decide +kernel
theorem dX6_floodCopies_82 : decode cX6_floodCopies 82 = .ok (.iload_n 1, 1) := by decide +kernel
theorem dX6_floodCopies_83 : decode cX6_floodCopies 83 = .ok (.imul, 1) := by decide +kernel
theorem dX6_floodCopies_84 : decode cX6_floodCopies 84 = .ok (.iload_n 3, 1) := by decide +kernel
theorem dX6_floodCopies_85 : decode cX6_floodCopies 85 = .ok (.iadd, 1) := by decide +kernel
theorem dX6_floodCopies_86 : decode cX6_floodCopies 86 = .ok (.iaload, 1) := by decide +kernel
theorem dX6_floodCopies_87 : decode cX6_floodCopies 87 = .ok (.ldc 60, 2) := by decide +kernel
theorem dX6_floodCopies_89 : decode cX6_floodCopies 89 = .ok (.if_icmp .ne 7, 3) := by decide +kernel
theorem dX6_floodCopies_92 : decode cX6_floodCopies 92 = .ok (.iconst 0, 1) := by decide +kernel
theorem dX6_floodCopies_93 : decode cX6_floodCopies 93 = .ok (.goto 17, 3) := by decide +kernel
theorem dX6_floodCopies_96 : decode cX6_floodCopies 96 = .ok (.iload_n 3, 1) := by decide +kernel
theorem dX6_floodCopies_97 : decode cX6_floodCopies 97 = .ok (.iload_n 1, 1) := by decide +kernel
theorem dX6_floodCopies_98 : decode cX6_floodCopies 98 = .ok (.if_icmp .ne 8, 3) := by decide +kernel
theorem dX6_floodCopies_101 : decode cX6_floodCopies 101 = .ok (.iload 4, 2) := by decide +kernel
theorem dX6_floodCopies_103 : decode cX6_floodCopies 103 = .ok (.goto 7, 3) := by decide +kernel
theorem dX6_floodCopies_106 : decode cX6_floodCopies 106 = .ok (.iload 4, 2) := by decide +kernel
theorem dX6_floodCopies_108 : decode cX6_floodCopies 108 = .ok (.iconst 1, 1) := by decide +kernel
theorem dX6_floodCopies_109 : decode cX6_floodCopies 109 = .ok (.isub, 1) := by decide +kernel
theorem dX6_floodCopies_110 : decode cX6_floodCopies 110 = .ok (.iadd, 1) := by decide +kernel
theorem dX6_floodCopies_111 : decode cX6_floodCopies 111 = .ok (.istore_n 2, 1) := by decide +kernel
theorem dX6_floodCopies_112 : decode cX6_floodCopies 112 = .ok (.iinc 3 1, 3) := by decide +kernel
theorem dX6_floodCopies_115 : decode cX6_floodCopies 115 = .ok (.goto (-90), 3) := by decide +kernel
theorem dX6_floodCopies_118 : decode cX6_floodCopies 118 = .ok (.iload_n 2, 1) := by decide +kernel
theorem dX6_floodCopies_119 : decode cX6_floodCopies 119 = .ok (.ireturn, 1) := by decide +kernel
end
section
/-! base: one word list for every method, a contract's start and end, calls -/
theorem ga_0 : wsL_law0.all goodWord = true := by decide +kernel
theorem ga_law : ∀ w ∈ wsL_law, goodWord w = true := by
  intro w h
  rcases List.mem_append.mp h with h | h
  · rcases List.mem_append.mp h with h | h
    · rcases List.mem_append.mp h with h | h
      · exact List.all_eq_true.mp ga_0 w h
      · exact (List.mem_filter.mp h).2
    · exact (List.mem_filter.mp h).2
  · exact (List.mem_filter.mp h).2
def WS (y : MethodName) (b : ByteArray) (n : Nat) (r : Option FieldType) : List Cond := .code y b n r :: wsL_law
theorem gd {y : MethodName} {b : ByteArray} {n : Nat} {r : Option FieldType} (h : Cond.code y b n r ∈ wsL_law) : GoodIn wsL_law (WS y b n r) :=
  fun w hw => (List.mem_cons.mp hw).elim (fun e => e ▸ ⟨h, good_of_word (ga_law _ h)⟩) (fun h => ⟨h, good_of_word (ga_law _ h)⟩)
/-- the links between nest mates -/
def NWl : List Cond := [.methodLinkNest RX2 30 yX5_sourceTree RX5, .methodLinkNest RX2 38 yX5_isTree RX5, .methodLinkNest RX5 25 yX3_init RX5, .methodLinkNest RX5 32 yX0_init RX5, .methodLinkNest RX5 39 yX1_init RX5, .methodLinkNest RX3 36 yX5_isRouter RX5, .methodLinkNest RX3 39 yX5_bit RX5, .methodLinkNest RX1 29 yX5_isRouter RX5, .methodLinkNest RX1 33 yX5_isGroup RX5, .methodLinkNest RX2 42 yX5_isRouter RX5, .methodLinkNest RX2 45 yX5_bit RX5, .methodLinkNest RX2 57 yX5_has RX5]
def NW (U : State) : Prop := ∀ w ∈ NWl, va_Nw w U
theorem NW.warm {s U : State} (hW : s.WarmedH U.vm) (h : NW s) : NW U := by
  intro w hw
  have h1 := h w hw
  simp only [NWl, List.mem_cons, List.not_mem_nil, or_false] at hw
  rcases hw with rfl | rfl | rfl | rfl | rfl | rfl | rfl | rfl | rfl | rfl | rfl | rfl <;> exact va_Nw.warmM hW h1
theorem NW.same {u U : State} (hv : u.vm = U.vm) (h : NW u) : NW U := by
  intro w hw
  have h1 := h w hw
  simp only [NWl, List.mem_cons, List.not_mem_nil, or_false] at hw
  rcases hw with rfl | rfl | rfl | rfl | rfl | rfl | rfl | rfl | rfl | rfl | rfl | rfl <;> exact va_Nw.same rfl hv h1
/-- the world at a method's start -/
def cPre (D : va_G) (tys : List (ClassId × FieldType)) (ws : va_W) (sz : Nat) (U : State) : Prop :=
  U.heap.size = sz ∧ va_P D vwCl ws U.heap ∧ va_K D vwCl tys U ∧ va_D (fun _ => True) ws ∧ NW U
theorem cPre_blind (as : List Value) (D : va_G) (tys : List (ClassId × FieldType)) (ws : va_W) (sz : Nat) : FrameBlind (va_Pc as (cPre D tys ws sz)) :=
  fun a U g mk h => ⟨h.1, h.2.1, h.2.2.1, va_K.moved (u := U) (U := U.calling g mk a) (Vm.Alike.refl U.vm) h.2.2.2.1, h.2.2.2.2.1, NW.same (u := U) (U := U.calling g mk a) rfl h.2.2.2.2.2⟩
/-- an int method's contract: it answers rv, its world ws becomes ws' -/
def MI (l : Launch) (y : MethodName) (b : ByteArray) (n : Nat) (rt : FieldType) (rm : Room) (D : va_G) (tys : List (ClassId × FieldType)) (as : List Value) (ws ws' : va_W) (rv : Int32) : Prop :=
  ∀ sz, Met l y (WS y b n (some rt)) rm (va_Pc as (cPre D tys ws sz)) (va_Qi (fun (r : Int32) (_ : Unit) => r = rv) (fun _ t => va_P D vwCl ws' t.heap) (va_A ws sz)) 0 0 (va_A ws sz)
/-- a void method's contract -/
def MV (l : Launch) (y : MethodName) (b : ByteArray) (n : Nat) (rm : Room) (D : va_G) (tys : List (ClassId × FieldType)) (as : List Value) (ws ws' : va_W) : Prop :=
  ∀ sz, Met l y (WS y b n none) rm (va_Pc as (cPre D tys ws sz)) (va_Qv (fun (_ : Unit) => True) (fun _ t => va_P D vwCl ws' t.heap) (va_A ws sz)) 0 0 (va_A ws sz)
/-- what stands during a body -/
def Bd (p : Program) (s : State) (m : MethodId) (meth : Method) (c : Code) (b : ByteArray) (n : Nat) (rt : Option FieldType) (own : String) (D : va_G) (tys : List (ClassId × FieldType)) (as : List Value) : Prop :=
  p.tables.exec = Jvm.exec ∧ c.code = b ∧ meth.sig.returnType = rt ∧ c.maxLocals = n ∧ s.vm.findClass own = some m.cls ∧ (∀ w ∈ wsL_law, w.before as.toArray s = true) ∧ meth.locks = false ∧ NW s ∧ va_K D vwCl tys s ∧ (meth.name = "<init>" ∨ True)
theorem MI.mk {l : Launch} {y : MethodName} {b : ByteArray} {n : Nat} {rt : FieldType} {rm : Room} {D : va_G} {tys : List (ClassId × FieldType)} {as : List Value} {ws ws' : va_W} {rv : Int32} (hrm : rm.cells = 0 ∧ rm.slots = 0) (hy : plainName y.cls = true) (hn : (lg_sl as).length ≤ n)
    (body : ∀ (p : Program) (e : Env) (s : State) (m : MethodId) (below : List Frame) (meth : Method) (c : Code) (A : Nat → Prop) (ls : Array Slot), Bd p s m meth c b n (some rt) y.cls D tys as → (∀ q, s.heap.size ≤ q → A q) → va_P D vwCl ws s.heap → va_D A ws → va_S A s.heap s.heap [] → lv_has ls n (lv_args 0 as) →
      W p l e rm s m as.toArray below meth c s.heap [] 0 0 (MQ below (va_Qi (fun (r : Int32) (_ : Unit) => r = rv) (fun _ t => va_P D vwCl ws' t.heap) A) as.toArray s 0 0 A) (F0 m 0 ls [])) : MI l y b n rt rm D tys as ws ws' rv := by
  intro sz
  refine Met.ofW (cc := b) (maxL := n) (ret := some rt) hy rfl ?_
  intro p e s m args below meth c s₁ B hml hv
  obtain ⟨rfl, hsz, hP, hK, hD0, hN⟩ := hv
  have hts := atoms_spec (ws := WS y b n (some rt)) B.pre
  subst hsz
  rw [lg_entry_eq]
  exact body p e s m below meth c (va_A ws s.heap.size) _ ⟨B.exec, B.bytes, B.returns, hml, findClass_of_methodNamed B.named, fun w h => hts w (List.mem_cons_of_mem _ h), B.notSynchronized, hN, hK, Or.inr trivial⟩ (fun q h => Or.inr h) hP hD0.self va_S.rf (lv_entry as hn)
theorem MV.mk {l : Launch} {y : MethodName} {b : ByteArray} {n : Nat} {rm : Room} {D : va_G} {tys : List (ClassId × FieldType)} {as : List Value} {ws ws' : va_W} (hrm : rm.cells = 0 ∧ rm.slots = 0) (hy : plainName y.cls = true) (hn : (lg_sl as).length ≤ n)
    (body : ∀ (p : Program) (e : Env) (s : State) (m : MethodId) (below : List Frame) (meth : Method) (c : Code) (A : Nat → Prop) (ls : Array Slot), Bd p s m meth c b n none y.cls D tys as → (∀ q, s.heap.size ≤ q → A q) → va_P D vwCl ws s.heap → va_D A ws → va_S A s.heap s.heap [] → lv_has ls n (lv_args 0 as) →
      W p l e rm s m as.toArray below meth c s.heap [] 0 0 (MQ below (va_Qv (fun (_ : Unit) => True) (fun _ t => va_P D vwCl ws' t.heap) A) as.toArray s 0 0 A) (F0 m 0 ls [])) : MV l y b n rm D tys as ws ws' := by
  intro sz
  refine Met.ofW (cc := b) (maxL := n) (ret := none) hy rfl ?_
  intro p e s m args below meth c s₁ B hml hv
  obtain ⟨rfl, hsz, hP, hK, hD0, hN⟩ := hv
  have hts := atoms_spec (ws := WS y b n none) B.pre
  subst hsz
  rw [lg_entry_eq]
  exact body p e s m below meth c (va_A ws s.heap.size) _ ⟨B.exec, B.bytes, B.returns, hml, findClass_of_methodNamed B.named, fun w h => hts w (List.mem_cons_of_mem _ h), B.notSynchronized, hN, hK, Or.inr trivial⟩ (fun q h => Or.inr h) hP hD0.self va_S.rf (lv_entry as hn)
/-- entries put at places -/
def putAt : va_W → List Nat → va_W → va_W
  | W, i :: is, e :: es => putAt (W.set i e) is es
  | W, _, _ => W
theorem putAt_get (is : List Nat) : ∀ (W es : va_W), va_nd is = true → is.length = es.length → (∀ i ∈ is, i < W.length) → ∀ (k : Nat) (q : Nat × va_E), (putAt W is es)[k]? = some q → (∃ j : Nat, is[j]? = some k ∧ es[j]? = some q) ∨ (k ∉ is ∧ W[k]? = some q) := by
  induction is with
  | nil => intro W es _ _ _ k q h; exact Or.inr ⟨List.not_mem_nil, by cases es <;> exact h⟩
  | cons i is ih =>
    intro W es hn hl hi k q h
    cases es with
    | nil => cases hl
    | cons e es =>
      simp only [va_nd, Bool.and_eq_true, decide_eq_true_eq] at hn
      rcases ih (W.set i e) es hn.2 (Nat.succ.inj hl) (fun j hj => by rw [List.length_set]; exact hi j (List.mem_cons_of_mem _ hj)) k q h with ⟨j, h1, h2⟩ | ⟨h1, h2⟩
      · exact Or.inl ⟨j + 1, h1, h2⟩
      · by_cases hk : k = i
        · subst hk
          rw [List.getElem?_set_self (hi k List.mem_cons_self)] at h2
          exact Or.inl ⟨0, rfl, h2⟩
        · rw [List.getElem?_set_ne (Ne.symm hk)] at h2
          exact Or.inr ⟨fun hm => (List.mem_cons.mp hm).elim hk h1, h2⟩
/-- behind a call: the callee's cells as it leaves them, the others as they were -/
theorem x_put {D : va_G} {W ws ws' : va_W} {is : List Nat} {H H1 : Heap} {A0 : Nat → Prop} (hP : va_P D vwCl W H) (hD : va_D A0 W) (hC : is.map (fun i => W[i]?) = ws.map some) (hf : ws'.map Prod.fst = ws.map Prod.fst) (hn : va_nd is = true)
    (hk : ∀ q : Nat, q < H.size → ¬ va_A ws H.size q → H1[q]? = H[q]?) (hP1 : va_P D vwCl ws' H1) : va_P D vwCl (putAt W is ws') H1 ∧ va_D A0 (putAt W is ws') := by
  have hlen : is.length = ws.length := by have := congrArg List.length hC; simpa using this
  have hlen' : ws'.length = ws.length := by have := congrArg List.length hf; simpa using this
  have at' : ∀ (j : Nat) (q : Nat × va_E), ws[j]? = some q → ∃ i, is[j]? = some i ∧ W[i]? = some q := by
    intro j q hq
    have h1 : (is.map (fun i => W[i]?))[j]? = some (some q) := by rw [hC, List.getElem?_map, hq]; rfl
    rw [List.getElem?_map] at h1
    cases hi : is[j]? with
    | none => rw [hi] at h1; cases h1
    | some i => rw [hi] at h1; exact ⟨i, rfl, Option.some.inj h1⟩
  have back : ∀ (j k : Nat), is[j]? = some k → ∃ q, ws[j]? = some q ∧ W[k]? = some q := by
    intro j k hj
    have hl : j < ws.length := by rw [← hlen]; exact (List.getElem?_eq_some_iff.mp hj).1
    obtain ⟨i, h1, h2⟩ := at' j ws[j] (List.getElem?_eq_getElem hl)
    rw [hj] at h1
    cases h1
    exact ⟨_, List.getElem?_eq_getElem hl, h2⟩
  have hin : ∀ i ∈ is, i < W.length := by
    intro i hi
    obtain ⟨j, hj⟩ := List.getElem?_of_mem hi
    obtain ⟨q, -, h⟩ := back j i hj
    exact (List.getElem?_eq_some_iff.mp h).1
  have fst' : ∀ (j : Nat) (q q' : Nat × va_E), ws[j]? = some q → ws'[j]? = some q' → q'.1 = q.1 := by
    intro j q q' h1 h2
    have e : (ws'.map Prod.fst)[j]? = (ws.map Prod.fst)[j]? := by rw [hf]
    rw [List.getElem?_map, List.getElem?_map, h1, h2] at e
    exact Option.some.inj e
  have key := putAt_get is W ws' hn (by rw [hlen, hlen']) hin
  refine ⟨fun k q hq => ?_, fun i j x y hx hy hxy => ?_, fun k q hq => ?_⟩
  · rcases key k q hq with ⟨j, h1, h2⟩ | ⟨h1, h2⟩
    · exact hP1 j q h2
    · have hl := (hP k q h2).lt
      refine (hP k q h2).kept (hk q.1 hl fun h => ?_)
      rcases h with ⟨j, e, h⟩ | h
      · obtain ⟨i, h3, h4⟩ := at' j (q.1, e) h
        have := hD.1 k i q (q.1, e) h2 h4 rfl
        subst this
        exact h1 (List.mem_of_getElem? h3)
      · omega
  · have un : ∀ (k : Nat) (q : Nat × va_E), (putAt W is ws')[k]? = some q → ∃ q0, W[k]? = some q0 ∧ q0.1 = q.1 := by
      intro k q hq
      rcases key k q hq with ⟨j, h1, h2⟩ | ⟨-, h2⟩
      · obtain ⟨q0, h3, h4⟩ := back j k h1
        exact ⟨q0, h4, (fst' j q0 q h3 h2).symm⟩
      · exact ⟨q, h2, rfl⟩
    obtain ⟨x0, a1, a2⟩ := un i x hx
    obtain ⟨y0, b1, b2⟩ := un j y hy
    exact hD.1 i j x0 y0 a1 b1 (a2.trans (hxy.trans b2.symm))
  · rcases key k q hq with ⟨j, h1, h2⟩ | ⟨-, h2⟩
    · obtain ⟨q0, h3, h4⟩ := back j k h1
      rw [fst' j q0 q h3 h2]
      exact hD.2 k q0 h4
    · exact hD.2 k q h2
section XC
variable {p : Program} {l : Launch} {e : Env} {R : Room} {s : State} {m : MethodId} {args : Array Value} {below : List Frame} {meth : Method} {c : Code} {H : Heap} {locs : List Loc} {cells slots : Nat} {Q : State → Prop}
variable {cc : ByteArray} {nL pc : Nat} {ls : Array Slot} {D : va_G} {A0 : Nat → Prop} {tys : List (ClassId × FieldType)} {W0 ws ws' : va_W} {H0 : Heap} {own : String}
variable {y : MethodName} {b : ByteArray} {n index : Nat} {rt : FieldType} {rm : Room} {as rest : List Value} {rv : Int32}
/-- the callee's words, all but its link -/
theorem x_cb (hrm : rm.cells = 0 ∧ rm.slots = 0) (k : Nat) (ht : ∀ w ∈ wsL_law, w.before args s = true) {r : Option FieldType} (hcode : Cond.code y b n r ∈ wsL_law) (hini : Cond.initialized y.cls ∈ wsL_law) (hl : Cond.methodLink own index y ∈ wsL_law)
    (hd : y.cls ≠ "java/lang/invoke/MethodHandle" ∧ y.cls ≠ "java/lang/invoke/VarHandle" ∧ (parseMethodDescriptor y.desc).map (fun d => d.parameters.length) = some k) (hR : rm.frames + 1 ≤ R.frames ∧ 8 + (n + 11) + rm.locals ≤ R.locals) :
    CallB R s args own index y b n r (WS y b n r) rm 0 0 k := callB_of k ht (gd hcode) rfl hrm.1 hrm.2 (ht _ hini) (ht _ hl) hd hR
theorem x_pre (hP : va_P D vwCl W0 H) (hD : va_D A0 W0) (hK : va_K D vwCl tys s) (hN : NW s) (is : List Nat) (hC : is.map (fun i => W0[i]?) = ws.map some) (hn : va_nd is = true) (hfm : is.filterMap (fun i => W0[i]?) = ws) :
    ∀ U : State, U.heap = H → s.WarmedH U.vm → cPre D tys ws H.size U := fun U hU hW => ⟨by rw [hU], by rw [hU]; exact hP.sub is hfm, va_K.moved hW.alike hK, (hD.sub is hn hC).weaken (fun _ _ _ _ => trivial), NW.warm hW hN⟩
theorem fm_of {is : List Nat} {W ws : va_W} (hC : is.map (fun i => W[i]?) = ws.map some) : is.filterMap (fun i => W[i]?) = ws := by
  have h : is.filterMap (fun i => W[i]?) = (is.map (fun i => W[i]?)).filterMap id := by rw [List.filterMap_map]; rfl
  rw [h, hC, List.filterMap_map]
  exact List.filterMap_some
theorem x_goi {free' : Addr → Prop} {mc ms : Nat} (hr : va_Run p l e R s m args below meth c H locs cells slots mc ms (F0 m pc ls (as.reverse ++ rest)) rest (va_Qi (fun (r : Int32) (_ : Unit) => r = rv) (fun _ t => va_P D vwCl ws' t.heap) (va_A ws H.size) as.toArray) (va_A ws H.size)) (hmc : mc = 0) (hms : ms = 0)
    (hP : va_P D vwCl W0 H) (hD : va_D A0 W0) (hS : va_S A0 H0 H locs) (hA : ∀ q, H0.size ≤ q → A0 q) (is : List Nat) (hC : is.map (fun i => W0[i]?) = ws.map some) (hf : ws'.map Prod.fst = ws.map Prod.fst) (hn : va_nd is = true)
    (kk : ∀ (H1 : Heap) (locs1 : List Loc), va_P D vwCl (putAt W0 is ws') H1 → va_D A0 (putAt W0 is ws') → va_S A0 H0 H1 locs1 → W p l e R s m args below meth c H1 locs1 cells slots Q (F0 m (pc + 3) ls (.int rv :: rest))) :
    W p l e R s m args below meth c H locs cells slots Q (F0 m pc ls (as.reverse ++ rest)) := by
  subst hmc; subst hms
  have hF := va_free (wc := ws) hD hS hA is hC
  refine va_calli hr hS (fun q _ h => hF q h) hF (fun r u t H1 locs1 ht hvm hw hB hz hk hS1 => ?_)
  rw [ht] at hB
  subst hw
  obtain ⟨hP1, hD1⟩ := x_put hP hD hC hf hn hk hB
  exact kk H1 locs1 hP1 hD1 hS1
theorem x_gov {mc ms : Nat} (hr : va_Run p l e R s m args below meth c H locs cells slots mc ms (F0 m pc ls (as.reverse ++ rest)) rest (va_Qv (fun (_ : Unit) => True) (fun _ t => va_P D vwCl ws' t.heap) (va_A ws H.size) as.toArray) (va_A ws H.size)) (hmc : mc = 0) (hms : ms = 0)
    (hP : va_P D vwCl W0 H) (hD : va_D A0 W0) (hS : va_S A0 H0 H locs) (hA : ∀ q, H0.size ≤ q → A0 q) (is : List Nat) (hC : is.map (fun i => W0[i]?) = ws.map some) (hf : ws'.map Prod.fst = ws.map Prod.fst) (hn : va_nd is = true)
    (kk : ∀ (H1 : Heap) (locs1 : List Loc), va_P D vwCl (putAt W0 is ws') H1 → va_D A0 (putAt W0 is ws') → va_S A0 H0 H1 locs1 → W p l e R s m args below meth c H1 locs1 cells slots Q (F0 m (pc + 3) ls rest)) :
    W p l e R s m args below meth c H locs cells slots Q (F0 m pc ls (as.reverse ++ rest)) := by
  subst hmc; subst hms
  have hF := va_free (wc := ws) hD hS hA is hC
  refine va_callv hr hS (fun q _ h => hF q h) hF (fun u t H1 locs1 ht hvm hw hB hz hk hS1 => ?_)
  rw [ht] at hB
  obtain ⟨hP1, hD1⟩ := x_put hP hD hC hf hn hk hB
  exact kk H1 locs1 hP1 hD1 hS1
end XC
end
section
/-! calls, one row each: what the callee's contract says goes on -/
section XK
variable {p : Program} {l : Launch} {e : Env} {R : Room} {s : State} {m : MethodId} {below : List Frame} {meth : Method} {c : Code} {H : Heap} {locs : List Loc} {cells slots : Nat} {Q : State → Prop}
variable {cc : ByteArray} {nL pc : Nat} {ls : Array Slot} {D : va_G} {A0 : Nat → Prop} {tys : List (ClassId × FieldType)} {W0 ws ws' : va_W} {H0 : Heap} {own : String} {rtO : Option FieldType}
variable {y : MethodName} {b : ByteArray} {n index k : Nat} {rt : FieldType} {rm : Room} {asM as rest st : List Value} {rv : Int32}
theorem kV_i (B : Bd p s m meth c cc nL rtO own D tys asM) (hls : ls.size = nL) {a : Nat} (hM : MI l y b n rt rm D tys (.ref a :: as) ws ws' rv) {C : String} {T : u_T} {N ci : Nat} (hcl : vwCl[ci]? = some (C, T, N))
    (cb : CallB R s asM.toArray own index y b n (some rt) (WS y b n (some rt)) rm 0 0 k) (hin : Cond.instanceMethod y ∈ wsL_law) (hse : Cond.selects C y y ∈ wsL_law)
    (hst : st = as.reverse ++ .ref a :: rest) (hk : as.length = k) (hP : va_P D vwCl W0 H) (hD : va_D A0 W0) (hS : va_S A0 H0 H locs) (hA : ∀ q, H0.size ≤ q → A0 q) (is : List Nat) (q0 : Nat) {fs : List Value} (he : W0[q0]? = some (a, .inr (ci, fs)))
    (hC : is.map (fun i => W0[i]?) = ws.map some) (hf : ws'.map Prod.fst = ws.map Prod.fst) (hn : va_nd is = true) (hw : (rest.map fun v => v.category).sum ≤ 8) (hroom : cells ≤ R.cells ∧ slots ≤ R.slots) (hdg : decode cc pc = .ok (.invokevirtual index, 3))
    (kk : ∀ (H1 : Heap) (locs1 : List Loc), va_P D vwCl (putAt W0 is ws') H1 → va_D A0 (putAt W0 is ws') → va_S A0 H0 H1 locs1 → W p l e R s m asM.toArray below meth c H1 locs1 cells slots Q (F0 m (pc + 3) ls (.int rv :: rest))) :
    W p l e R s m asM.toArray below meth c H locs cells slots Q (F0 m pc ls st) := by
  obtain ⟨hx, hb, -, hml, hown, hts, -, hN, hK, -⟩ := B
  subst hst
  have hr := va_runV (mc := 0) (ms := 0) (As := as) (rest := rest) (b := a) (C := C) (g := F0 m pc ls (as.reverse ++ .ref a :: rest)) (cells := cells) (slots := slots) (locs := locs) (l := l) (e := e) (below := below) (meth := meth) (H := H) ⟨hx, hb, hml, hown, hts⟩ (hM H.size) ⟨cb, hts _ hin, hts _ hse⟩
    ⟨cPre_blind _ D tys ws H.size, va_recv hK hP hcl he, fun U hU hW => ⟨rfl, x_pre hP hD hK hN is hC hn (fm_of hC) U hU hW⟩⟩ rfl hk hls rfl (lv_room hw) hdg ⟨hroom.1, hroom.2⟩
  have hF := va_free (wc := ws) hD hS hA is hC
  refine va_calli hr hS (fun q _ h => hF q h) hF (fun r u t H1 locs1 ht hvm hw hB hz hk hS1 => ?_)
  rw [ht] at hB
  subst hw
  obtain ⟨hP1, hD1⟩ := x_put hP hD hC hf hn hk hB
  exact kk H1 locs1 hP1 hD1 hS1
theorem kV_v (B : Bd p s m meth c cc nL rtO own D tys asM) (hls : ls.size = nL) {a : Nat} (hM : MV l y b n rm D tys (.ref a :: as) ws ws') {C : String} {T : u_T} {N ci : Nat} (hcl : vwCl[ci]? = some (C, T, N))
    (cb : CallB R s asM.toArray own index y b n none (WS y b n none) rm 0 0 k) (hin : Cond.instanceMethod y ∈ wsL_law) (hse : Cond.selects C y y ∈ wsL_law)
    (hst : st = as.reverse ++ .ref a :: rest) (hk : as.length = k) (hP : va_P D vwCl W0 H) (hD : va_D A0 W0) (hS : va_S A0 H0 H locs) (hA : ∀ q, H0.size ≤ q → A0 q) (is : List Nat) (q0 : Nat) {fs : List Value} (he : W0[q0]? = some (a, .inr (ci, fs)))
    (hC : is.map (fun i => W0[i]?) = ws.map some) (hf : ws'.map Prod.fst = ws.map Prod.fst) (hn : va_nd is = true) (hw : (rest.map fun v => v.category).sum ≤ 8) (hroom : cells ≤ R.cells ∧ slots ≤ R.slots) (hdg : decode cc pc = .ok (.invokevirtual index, 3))
    (kk : ∀ (H1 : Heap) (locs1 : List Loc), va_P D vwCl (putAt W0 is ws') H1 → va_D A0 (putAt W0 is ws') → va_S A0 H0 H1 locs1 → W p l e R s m asM.toArray below meth c H1 locs1 cells slots Q (F0 m (pc + 3) ls rest)) :
    W p l e R s m asM.toArray below meth c H locs cells slots Q (F0 m pc ls st) := by
  obtain ⟨hx, hb, -, hml, hown, hts, -, hN, hK, -⟩ := B
  subst hst
  have hr := va_runV (mc := 0) (ms := 0) (As := as) (rest := rest) (b := a) (C := C) (g := F0 m pc ls (as.reverse ++ .ref a :: rest)) (cells := cells) (slots := slots) (locs := locs) (l := l) (e := e) (below := below) (meth := meth) (H := H) ⟨hx, hb, hml, hown, hts⟩ (hM H.size) ⟨cb, hts _ hin, hts _ hse⟩
    ⟨cPre_blind _ D tys ws H.size, va_recv hK hP hcl he, fun U hU hW => ⟨rfl, x_pre hP hD hK hN is hC hn (fm_of hC) U hU hW⟩⟩ rfl hk hls rfl (lv_room hw) hdg ⟨hroom.1, hroom.2⟩
  have hF := va_free (wc := ws) hD hS hA is hC
  refine va_callv hr hS (fun q _ h => hF q h) hF (fun u t H1 locs1 ht hvm hw hB hz hk hS1 => ?_)
  rw [ht] at hB
  obtain ⟨hP1, hD1⟩ := x_put hP hD hC hf hn hk hB
  exact kk H1 locs1 hP1 hD1 hS1
theorem kS_i (B : Bd p s m meth c cc nL rtO own D tys asM) (hls : ls.size = nL) (hM : MI l y b n rt rm D tys as ws ws' rv)
    (cb : CallB R s asM.toArray own index y b n (some rt) (WS y b n (some rt)) rm 0 0 k) (hst' : Cond.static y ∈ wsL_law)
    (hst : st = as.reverse ++ rest) (hk : as.length = k) (hP : va_P D vwCl W0 H) (hD : va_D A0 W0) (hS : va_S A0 H0 H locs) (hA : ∀ q, H0.size ≤ q → A0 q) (is : List Nat)
    (hC : is.map (fun i => W0[i]?) = ws.map some) (hf : ws'.map Prod.fst = ws.map Prod.fst) (hn : va_nd is = true) (hw : (rest.map fun v => v.category).sum ≤ 8) (hroom : cells ≤ R.cells ∧ slots ≤ R.slots) (hdg : decode cc pc = .ok (.invokestatic index, 3))
    (kk : ∀ (H1 : Heap) (locs1 : List Loc), va_P D vwCl (putAt W0 is ws') H1 → va_D A0 (putAt W0 is ws') → va_S A0 H0 H1 locs1 → W p l e R s m asM.toArray below meth c H1 locs1 cells slots Q (F0 m (pc + 3) ls (.int rv :: rest))) :
    W p l e R s m asM.toArray below meth c H locs cells slots Q (F0 m pc ls st) := by
  obtain ⟨hx, hb, -, hml, hown, hts, -, hN, hK, -⟩ := B
  subst hst
  have hr := va_runS (mc := 0) (ms := 0) (As := as) (rest := rest) (g := F0 m pc ls (as.reverse ++ rest)) (cells := cells) (slots := slots) (locs := locs) (l := l) (e := e) (below := below) (meth := meth) (H := H) ⟨hx, hb, hml, hown, hts⟩ (hM H.size) ⟨cb, hts _ hst'⟩
    ⟨cPre_blind _ D tys ws H.size, fun U hU hW => ⟨rfl, x_pre hP hD hK hN is hC hn (fm_of hC) U hU hW⟩⟩ rfl hk hls rfl (lv_room hw) hdg ⟨hroom.1, hroom.2⟩
  have hF := va_free (wc := ws) hD hS hA is hC
  refine va_calli hr hS (fun q _ h => hF q h) hF (fun r u t H1 locs1 ht hvm hw hB hz hk hS1 => ?_)
  rw [ht] at hB
  subst hw
  obtain ⟨hP1, hD1⟩ := x_put hP hD hC hf hn hk hB
  exact kk H1 locs1 hP1 hD1 hS1
theorem kS_v (B : Bd p s m meth c cc nL rtO own D tys asM) (hls : ls.size = nL) (hM : MV l y b n rm D tys as ws ws')
    (cb : CallB R s asM.toArray own index y b n none (WS y b n none) rm 0 0 k) (hst' : Cond.static y ∈ wsL_law)
    (hst : st = as.reverse ++ rest) (hk : as.length = k) (hP : va_P D vwCl W0 H) (hD : va_D A0 W0) (hS : va_S A0 H0 H locs) (hA : ∀ q, H0.size ≤ q → A0 q) (is : List Nat)
    (hC : is.map (fun i => W0[i]?) = ws.map some) (hf : ws'.map Prod.fst = ws.map Prod.fst) (hn : va_nd is = true) (hw : (rest.map fun v => v.category).sum ≤ 8) (hroom : cells ≤ R.cells ∧ slots ≤ R.slots) (hdg : decode cc pc = .ok (.invokestatic index, 3))
    (kk : ∀ (H1 : Heap) (locs1 : List Loc), va_P D vwCl (putAt W0 is ws') H1 → va_D A0 (putAt W0 is ws') → va_S A0 H0 H1 locs1 → W p l e R s m asM.toArray below meth c H1 locs1 cells slots Q (F0 m (pc + 3) ls rest)) :
    W p l e R s m asM.toArray below meth c H locs cells slots Q (F0 m pc ls st) := by
  obtain ⟨hx, hb, -, hml, hown, hts, -, hN, hK, -⟩ := B
  subst hst
  have hr := va_runS (mc := 0) (ms := 0) (As := as) (rest := rest) (g := F0 m pc ls (as.reverse ++ rest)) (cells := cells) (slots := slots) (locs := locs) (l := l) (e := e) (below := below) (meth := meth) (H := H) ⟨hx, hb, hml, hown, hts⟩ (hM H.size) ⟨cb, hts _ hst'⟩
    ⟨cPre_blind _ D tys ws H.size, fun U hU hW => ⟨rfl, x_pre hP hD hK hN is hC hn (fm_of hC) U hU hW⟩⟩ rfl hk hls rfl (lv_room hw) hdg ⟨hroom.1, hroom.2⟩
  have hF := va_free (wc := ws) hD hS hA is hC
  refine va_callv hr hS (fun q _ h => hF q h) hF (fun u t H1 locs1 ht hvm hw hB hz hk hS1 => ?_)
  rw [ht] at hB
  obtain ⟨hP1, hD1⟩ := x_put hP hD hC hf hn hk hB
  exact kk H1 locs1 hP1 hD1 hS1
theorem x_cn {host : String} (hrm : rm.cells = 0 ∧ rm.slots = 0) (ht : ∀ w ∈ wsL_law, w.before asM.toArray s = true) (hN : NW s) {r : Option FieldType} (hcode : Cond.code y b n r ∈ wsL_law) (hini : Cond.initialized y.cls ∈ wsL_law) (hl : Cond.methodLinkNest own index y host ∈ NWl)
    (hd : y.cls ≠ "java/lang/invoke/MethodHandle" ∧ y.cls ≠ "java/lang/invoke/VarHandle" ∧ (parseMethodDescriptor y.desc).map (fun d => d.parameters.length) = some k) (hR : rm.frames + 1 ≤ R.frames ∧ 8 + (n + 11) + rm.locals ≤ R.locals) :
    va_CN R s asM.toArray own index y host b n r (WS y b n r) rm 0 0 k := va_cnB k ht (gd hcode) rfl hrm.1 hrm.2 (hN _ hl) (ht _ hini) hd hR
/-- a nest mate's private static method -/
theorem kN_i {host : String} (B : Bd p s m meth c cc nL rtO own D tys asM) (hls : ls.size = nL) (hM : MI l y b n rt rm D tys as ws ws' rv)
    (cb : va_CN R s asM.toArray own index y host b n (some rt) (WS y b n (some rt)) rm 0 0 k) (hst' : Cond.static y ∈ wsL_law)
    (hst : st = as.reverse ++ rest) (hk : as.length = k) (hP : va_P D vwCl W0 H) (hD : va_D A0 W0) (hS : va_S A0 H0 H locs) (hA : ∀ q, H0.size ≤ q → A0 q) (is : List Nat)
    (hC : is.map (fun i => W0[i]?) = ws.map some) (hf : ws'.map Prod.fst = ws.map Prod.fst) (hn : va_nd is = true) (hw : (rest.map fun v => v.category).sum ≤ 8) (hroom : cells ≤ R.cells ∧ slots ≤ R.slots) (hdg : decode cc pc = .ok (.invokestatic index, 3))
    (kk : ∀ (H1 : Heap) (locs1 : List Loc), va_P D vwCl (putAt W0 is ws') H1 → va_D A0 (putAt W0 is ws') → va_S A0 H0 H1 locs1 → W p l e R s m asM.toArray below meth c H1 locs1 cells slots Q (F0 m (pc + 3) ls (.int rv :: rest))) :
    W p l e R s m asM.toArray below meth c H locs cells slots Q (F0 m pc ls st) := by
  obtain ⟨hx, hb, -, hml, hown, hts, -, hN, hK, -⟩ := B
  subst hst
  have hr := va_runSN (mc := 0) (ms := 0) (As := as) (rest := rest) (g := F0 m pc ls (as.reverse ++ rest)) (cells := cells) (slots := slots) (locs := locs) (l := l) (e := e) (below := below) (meth := meth) (H := H) ⟨hx, hb, hml, hown, hts⟩ (hM H.size) ⟨cb, hts _ hst', trivial⟩
    ⟨cPre_blind _ D tys ws H.size, fun U hU hW => ⟨rfl, x_pre hP hD hK hN is hC hn (fm_of hC) U hU hW⟩⟩ rfl hk hls rfl (lv_room hw) hdg ⟨hroom.1, hroom.2⟩
  have hF := va_free (wc := ws) hD hS hA is hC
  refine va_calli hr hS (fun q _ h => hF q h) hF (fun r u t H1 locs1 ht hvm hw hB hz hk hS1 => ?_)
  rw [ht] at hB
  subst hw
  obtain ⟨hP1, hD1⟩ := x_put hP hD hC hf hn hk hB
  exact kk H1 locs1 hP1 hD1 hS1
/-- the ends -/
theorem eI {v : Int32} (B : Bd p s m meth c cc nL (some .int) own D tys asM) (hP : va_P D vwCl ws H) (hS : va_S A0 s.heap H locs) (hv : v = rv) (hw : ws = ws') (hdg : decode cc pc = .ok (.ireturn, 1)) :
    W p l e R s m asM.toArray below meth c H locs 0 0 (MQ below (va_Qi (fun (r : Int32) (_ : Unit) => r = rv) (fun _ t => va_P D vwCl ws' t.heap) A0) asM.toArray s 0 0 A0) (F0 m pc ls [.int v]) := by
  obtain ⟨hx, hb, hr, hml, hown, hts, hlocks, hN, hK, -⟩ := B
  subst hw
  exact W.iret (v := v) hx hb hr (fun t ht hW => ⟨⟨v, (), rfl, hv, by show va_P D vwCl ws t.heap; rw [ht]; exact hP⟩, hS.F ht⟩) hS.2.2 hdg hlocks
theorem eZ {v : Int32} (B : Bd p s m meth c cc nL (some .boolean) own D tys asM) (hP : va_P D vwCl ws H) (hS : va_S A0 s.heap H locs) (hz : narrow .boolean (.int v) = .int v) (hv : v = rv) (hw : ws = ws') (hdg : decode cc pc = .ok (.ireturn, 1)) :
    W p l e R s m asM.toArray below meth c H locs 0 0 (MQ below (va_Qi (fun (r : Int32) (_ : Unit) => r = rv) (fun _ t => va_P D vwCl ws' t.heap) A0) asM.toArray s 0 0 A0) (F0 m pc ls [.int v]) := by
  obtain ⟨hx, hb, hr, hml, hown, hts, hlocks, hN, hK, -⟩ := B
  subst hw
  exact W.zret (v := v) hx hb hr hz (fun t ht hW => ⟨⟨v, (), rfl, hv, by show va_P D vwCl ws t.heap; rw [ht]; exact hP⟩, hS.F ht⟩) hS.2.2 hdg hlocks
theorem eV (B : Bd p s m meth c cc nL none own D tys asM) (hP : va_P D vwCl ws H) (hS : va_S A0 s.heap H locs) (hw : ws = ws') (hdg : decode cc pc = .ok (.return_, 1)) :
    W p l e R s m asM.toArray below meth c H locs 0 0 (MQ below (va_Qv (fun (_ : Unit) => True) (fun _ t => va_P D vwCl ws' t.heap) A0) asM.toArray s 0 0 A0) (F0 m pc ls []) := by
  obtain ⟨hx, hb, hr, hml, hown, hts, hlocks, hN, hK, -⟩ := B
  subst hw
  exact W.vret hx hb hr (fun t ht hW => ⟨⟨(), rfl, trivial, by show va_P D vwCl ws t.heap; rw [ht]; exact hP⟩, hS.F ht⟩) hS.2.2 hdg hlocks
end XK
end
section
/-! worlds, rows over small naturals, a row a link -/
abbrev wC (cI : ClassId) (ad : Nat → Nat) (rc rl rh fr fw fc fg ps pg pr pd qp qt qf qo ct : Nat → Int32) (cand lim now was sent qfi qsz : Int32) : va_W := [(ad 0, .inr (5, [.ref (ad 1), .ref (ad 5), .ref (ad 10), .ref (ad 15), .ref (ad 20), .int cand, .int lim, .int now, .int was])), (ad 1, .inr (4, [.ref (ad 2), .ref (ad 3), .ref (ad 4)])), (ad 2, .inl (cI, 100, .inl rc)), (ad 3, .inl (cI, 100, .inl rl)), (ad 4, .inl (cI, 100, .inl rh)), (ad 5, .inr (2, [.ref (ad 6), .ref (ad 7), .ref (ad 8), .ref (ad 9)])), (ad 6, .inl (cI, 44, .inl fr)), (ad 7, .inl (cI, 44, .inl fw)), (ad 8, .inl (cI, 440, .inl fc)), (ad 9, .inl (cI, 440, .inl fg)), (ad 10, .inr (3, [.ref (ad 11), .ref (ad 12), .ref (ad 13), .ref (ad 14), .int sent])), (ad 11, .inl (cI, 200, .inl ps)), (ad 12, .inl (cI, 200, .inl pg)), (ad 13, .inl (cI, 200, .inl pr)), (ad 14, .inl (cI, 200, .inl pd)), (ad 15, .inr (0, [.ref (ad 16), .ref (ad 17), .ref (ad 18), .ref (ad 19), .int qfi, .int qsz])), (ad 16, .inl (cI, 200, .inl qp)), (ad 17, .inl (cI, 200, .inl qt)), (ad 18, .inl (cI, 200, .inl qf)), (ad 19, .inl (cI, 200, .inl qo)), (ad 20, .inr (1, [.ref (ad 21)])), (ad 21, .inl (cI, 400, .inl ct))]
abbrev wR (cI cZ : ClassId) (ad : Nat → Nat) (co fa ic me sw cn ab go cp so gr re db : Nat → Int32) (clk lim qd pk was thr : Int32) : va_W := [(ad 0, .inr (6, [.int clk, .int lim, .ref (ad 1), .ref (ad 2), .ref (ad 3), .ref (ad 4), .ref (ad 5), .ref (ad 6), .ref (ad 7), .ref (ad 8), .int qd, .ref (ad 9), .int pk, .ref (ad 10), .ref (ad 11), .ref (ad 12), .ref (ad 13), .int was, .int thr])), (ad 1, .inl (cI, 100, .inl co)), (ad 2, .inl (cI, 100, .inl fa)), (ad 3, .inl (cZ, 10, .inl ic)), (ad 4, .inl (cI, 4, .inl me)), (ad 5, .inl (cI, 40, .inl sw)), (ad 6, .inl (cI, 400, .inl cn)), (ad 7, .inl (cI, 440, .inl ab)), (ad 8, .inl (cI, 440, .inl go)), (ad 9, .inl (cI, 800, .inl cp)), (ad 10, .inl (cI, 200, .inl so)), (ad 11, .inl (cI, 200, .inl gr)), (ad 12, .inl (cI, 200, .inl re)), (ad 13, .inl (cI, 200, .inl db))]
def bI (b : Bool) : Int32 := if b = true then 1 else 0
theorem bI_0 (b : Bool) : bI b = 0 ↔ ¬ b = true := by cases b <;> decide
theorem bI_nar (b : Bool) : narrow .boolean (.int (bI b)) = .int (bI b) := by cases b <;> decide
theorem bI_i (b d : Bool) : bI b = bI d ↔ b = d := by cases b <;> cases d <;> decide
theorem bI_vp (b : Bool) : vp_nar .boolean (bI b) = bI b := by cases b <;> decide
theorem nI_m1 {n : Nat} (h : n < 2 ^ 31) : ¬ (-1 : Int32) = nI n := by
  intro e
  have h1 : (-1 : Int32).toInt = (nI n).toInt := congrArg Int32.toInt e
  rw [nI_toInt h] at h1
  have h2 : (-1 : Int32).toInt = -1 := by decide
  omega
theorem nI_m1' {n : Nat} (h : n < 2 ^ 31) : ¬ nI n = (-1 : Int32) := fun e => nI_m1 h e.symm
theorem nI_le0 {n : Nat} (h : n < 2 ^ 31) : nI n ≤ 0 ↔ n = 0 := by
  rw [show (0 : Int32) = nI 0 from rfl, nI_leI h (by omega)]
  omega
theorem va_D_same {A : Nat → Prop} {W0 W1 : va_W} (hf : W1.map Prod.fst = W0.map Prod.fst) (hD : va_D A W0) : va_D A W1 := by
  have un : ∀ (k : Nat) (q : Nat × va_E), W1[k]? = some q → ∃ q0, W0[k]? = some q0 ∧ q0.1 = q.1 := by
    intro k q hq
    have e : (W1.map Prod.fst)[k]? = (W0.map Prod.fst)[k]? := by rw [hf]
    rw [List.getElem?_map, List.getElem?_map, hq] at e
    cases h : W0[k]? with
    | none => rw [h] at e; cases e
    | some q0 => rw [h] at e; exact ⟨q0, rfl, (Option.some.inj e).symm⟩
  refine ⟨fun i j x y hx hy hxy => ?_, fun k q hq => ?_⟩
  · obtain ⟨x0, a1, a2⟩ := un i x hx
    obtain ⟨y0, b1, b2⟩ := un j y hy
    exact hD.1 i j x0 y0 a1 b1 (a2.trans (hxy.trans b2.symm))
  · obtain ⟨q0, a1, a2⟩ := un k q hq
    rw [← a2]
    exact hD.2 k q0 a1
section XR
variable {p : Program} {l : Launch} {e : Env} {R : Room} {s : State} {m : MethodId} {args : Array Value} {below : List Frame} {meth : Method} {c : Code} {H : Heap} {locs : List Loc} {cells slots : Nat} {Q : State → Prop}
variable {cc : ByteArray} {nL pc : Nat} {ls : Array Slot} {rest : List Value} {D : va_G} {A : Nat → Prop} {tys : List (ClassId × FieldType)} {ws : va_W} {H0 : Heap} {own : String} {rtO : Option FieldType} {asM : List Value}
theorem r_eq {x y : Int32} (h : x = y) (k : W p l e R s m args below meth c H locs cells slots Q (F0 m pc ls (.int y :: rest))) : W p l e R s m args below meth c H locs cells slots Q (F0 m pc ls (.int x :: rest)) := h ▸ k
theorem r_iadd {a b : Nat} (hx : p.tables.exec = Jvm.exec) (hb : c.code = cc) (d : decode cc pc = .ok (.iadd, 1)) (k : W p l e R s m args below meth c H locs cells slots Q (F0 m (pc + 1) ls (.int (nI (a + b)) :: rest))) : W p l e R s m args below meth c H locs cells slots Q (F0 m pc ls (.int (nI b) :: .int (nI a) :: rest)) := by
  refine lv_iadd hx hb d ?_
  rw [nI_add]
  exact k
theorem r_imul {a b : Nat} (hx : p.tables.exec = Jvm.exec) (hb : c.code = cc) (d : decode cc pc = .ok (.imul, 1)) (k : W p l e R s m args below meth c H locs cells slots Q (F0 m (pc + 1) ls (.int (nI (a * b)) :: rest))) : W p l e R s m args below meth c H locs cells slots Q (F0 m pc ls (.int (nI b) :: .int (nI a) :: rest)) := by
  refine lv_imul hx hb d ?_
  rw [pk_mul]
  exact k
theorem r_isub {a b : Nat} (hx : p.tables.exec = Jvm.exec) (hb : c.code = cc) (h1 : b ≤ a) (d : decode cc pc = .ok (.isub, 1)) (k : W p l e R s m args below meth c H locs cells slots Q (F0 m (pc + 1) ls (.int (nI (a - b)) :: rest))) : W p l e R s m args below meth c H locs cells slots Q (F0 m pc ls (.int (nI b) :: .int (nI a) :: rest)) := by
  refine lv_isub hx hb d ?_
  rw [pk_sub h1]
  exact k
theorem r_idiv {a b : Nat} (hx : p.tables.exec = Jvm.exec) (hb : c.code = cc) (ha : a < 2 ^ 31) (h0 : 0 < b) (hb2 : b < 2 ^ 31) (d : decode cc pc = .ok (.idiv, 1)) (k : W p l e R s m args below meth c H locs cells slots Q (F0 m (pc + 1) ls (.int (nI (a / b)) :: rest))) : W p l e R s m args below meth c H locs cells slots Q (F0 m pc ls (.int (nI b) :: .int (nI a) :: rest)) := by
  refine lv_idiv hx hb d (nI_ne0 h0 hb2) ?_
  rw [pk_div ha h0 hb2]
  exact k
theorem r_irem {a b : Nat} (hx : p.tables.exec = Jvm.exec) (hb : c.code = cc) (ha : a < 2 ^ 31) (h0 : 0 < b) (hb2 : b < 2 ^ 31) (d : decode cc pc = .ok (.irem, 1)) (k : W p l e R s m args below meth c H locs cells slots Q (F0 m (pc + 1) ls (.int (nI (a % b)) :: rest))) : W p l e R s m args below meth c H locs cells slots Q (F0 m pc ls (.int (nI b) :: .int (nI a) :: rest)) := by
  refine lv_irem hx hb d (nI_ne0 h0 hb2) ?_
  rw [pk_rem ha h0 hb2]
  exact k
theorem r_icmp_eq {a b : Nat} (hx : p.tables.exec = Jvm.exec) (hb : c.code = cc) (ha : a < 2 ^ 31) (hb2 : b < 2 ^ 31) {off : Int} {tgt : Nat} (d : decode cc pc = .ok (.if_icmp .eq off, 3)) (ht : (pc : Int) + off = (tgt : Int)) (kt : a = b → W p l e R s m args below meth c H locs cells slots Q (F0 m tgt ls rest)) (kf : ¬ a = b → W p l e R s m args below meth c H locs cells slots Q (F0 m (pc + 3) ls rest)) : W p l e R s m args below meth c H locs cells slots Q (F0 m pc ls (.int (nI b) :: .int (nI a) :: rest)) := lv_icmp_eq hx hb d ht (fun h => kt ((nI_eq ha hb2).mp h)) (fun h => kf (fun q => h ((nI_eq ha hb2).mpr q)))
theorem r_icmp_ne {a b : Nat} (hx : p.tables.exec = Jvm.exec) (hb : c.code = cc) (ha : a < 2 ^ 31) (hb2 : b < 2 ^ 31) {off : Int} {tgt : Nat} (d : decode cc pc = .ok (.if_icmp .ne off, 3)) (ht : (pc : Int) + off = (tgt : Int)) (kt : ¬ a = b → W p l e R s m args below meth c H locs cells slots Q (F0 m tgt ls rest)) (kf : a = b → W p l e R s m args below meth c H locs cells slots Q (F0 m (pc + 3) ls rest)) : W p l e R s m args below meth c H locs cells slots Q (F0 m pc ls (.int (nI b) :: .int (nI a) :: rest)) := lv_icmp_ne hx hb d ht (fun h => kt (fun q => h ((nI_eq ha hb2).mpr q))) (fun h => kf ((nI_eq ha hb2).mp h))
theorem r_icmp_ge {a b : Nat} (hx : p.tables.exec = Jvm.exec) (hb : c.code = cc) (ha : a < 2 ^ 31) (hb2 : b < 2 ^ 31) {off : Int} {tgt : Nat} (d : decode cc pc = .ok (.if_icmp .ge off, 3)) (ht : (pc : Int) + off = (tgt : Int)) (kt : b ≤ a → W p l e R s m args below meth c H locs cells slots Q (F0 m tgt ls rest)) (kf : ¬ b ≤ a → W p l e R s m args below meth c H locs cells slots Q (F0 m (pc + 3) ls rest)) : W p l e R s m args below meth c H locs cells slots Q (F0 m pc ls (.int (nI b) :: .int (nI a) :: rest)) := lv_icmp_ge hx hb d ht (fun h => kt ((nI_leI hb2 ha).mp h)) (fun h => kf (fun q => h ((nI_leI hb2 ha).mpr q)))
theorem r_icmp_lt {a b : Nat} (hx : p.tables.exec = Jvm.exec) (hb : c.code = cc) (ha : a < 2 ^ 31) (hb2 : b < 2 ^ 31) {off : Int} {tgt : Nat} (d : decode cc pc = .ok (.if_icmp .lt off, 3)) (ht : (pc : Int) + off = (tgt : Int)) (kt : a < b → W p l e R s m args below meth c H locs cells slots Q (F0 m tgt ls rest)) (kf : ¬ a < b → W p l e R s m args below meth c H locs cells slots Q (F0 m (pc + 3) ls rest)) : W p l e R s m args below meth c H locs cells slots Q (F0 m pc ls (.int (nI b) :: .int (nI a) :: rest)) := lv_icmp_lt hx hb d ht (fun h => kt ((nI_ltI ha hb2).mp h)) (fun h => kf (fun q => h ((nI_ltI ha hb2).mpr q)))
theorem r_icmp_gt {a b : Nat} (hx : p.tables.exec = Jvm.exec) (hb : c.code = cc) (ha : a < 2 ^ 31) (hb2 : b < 2 ^ 31) {off : Int} {tgt : Nat} (d : decode cc pc = .ok (.if_icmp .gt off, 3)) (ht : (pc : Int) + off = (tgt : Int)) (kt : b < a → W p l e R s m args below meth c H locs cells slots Q (F0 m tgt ls rest)) (kf : ¬ b < a → W p l e R s m args below meth c H locs cells slots Q (F0 m (pc + 3) ls rest)) : W p l e R s m args below meth c H locs cells slots Q (F0 m pc ls (.int (nI b) :: .int (nI a) :: rest)) := lv_icmp_gt hx hb d ht (fun h => kt ((nI_ltI hb2 ha).mp h)) (fun h => kf (fun q => h ((nI_ltI hb2 ha).mpr q)))
theorem r_icmp_le {a b : Nat} (hx : p.tables.exec = Jvm.exec) (hb : c.code = cc) (ha : a < 2 ^ 31) (hb2 : b < 2 ^ 31) {off : Int} {tgt : Nat} (d : decode cc pc = .ok (.if_icmp .le off, 3)) (ht : (pc : Int) + off = (tgt : Int)) (kt : a ≤ b → W p l e R s m args below meth c H locs cells slots Q (F0 m tgt ls rest)) (kf : ¬ a ≤ b → W p l e R s m args below meth c H locs cells slots Q (F0 m (pc + 3) ls rest)) : W p l e R s m args below meth c H locs cells slots Q (F0 m pc ls (.int (nI b) :: .int (nI a) :: rest)) := lv_icmp_le hx hb d ht (fun h => kt ((nI_leI ha hb2).mp h)) (fun h => kf (fun q => h ((nI_leI ha hb2).mpr q)))
theorem r_if_eq {a : Nat} (hx : p.tables.exec = Jvm.exec) (hb : c.code = cc) (ha : a < 2 ^ 31) {off : Int} {tgt : Nat} (d : decode cc pc = .ok (.ifCond .eq off, 3)) (ht : (pc : Int) + off = (tgt : Int)) (kt : a = 0 → W p l e R s m args below meth c H locs cells slots Q (F0 m tgt ls rest)) (kf : ¬ a = 0 → W p l e R s m args below meth c H locs cells slots Q (F0 m (pc + 3) ls rest)) : W p l e R s m args below meth c H locs cells slots Q (F0 m pc ls (.int (nI a) :: rest)) := lv_if_eq hx hb d ht (fun h => kt ((nI_eq (b := 0) ha (Nat.two_pow_pos 31)).mp h)) (fun h => kf (fun q => h ((nI_eq (b := 0) ha (Nat.two_pow_pos 31)).mpr q)))
theorem r_if_ne {a : Nat} (hx : p.tables.exec = Jvm.exec) (hb : c.code = cc) (ha : a < 2 ^ 31) {off : Int} {tgt : Nat} (d : decode cc pc = .ok (.ifCond .ne off, 3)) (ht : (pc : Int) + off = (tgt : Int)) (kt : ¬ a = 0 → W p l e R s m args below meth c H locs cells slots Q (F0 m tgt ls rest)) (kf : a = 0 → W p l e R s m args below meth c H locs cells slots Q (F0 m (pc + 3) ls rest)) : W p l e R s m args below meth c H locs cells slots Q (F0 m pc ls (.int (nI a) :: rest)) := lv_if_ne hx hb d ht (fun h => kt (fun q => h ((nI_eq (b := 0) ha (Nat.two_pow_pos 31)).mpr q))) (fun h => kf ((nI_eq (b := 0) ha (Nat.two_pow_pos 31)).mp h))
theorem r_if_le {a : Nat} (hx : p.tables.exec = Jvm.exec) (hb : c.code = cc) (ha : a < 2 ^ 31) {off : Int} {tgt : Nat} (d : decode cc pc = .ok (.ifCond .le off, 3)) (ht : (pc : Int) + off = (tgt : Int)) (kt : a = 0 → W p l e R s m args below meth c H locs cells slots Q (F0 m tgt ls rest)) (kf : ¬ a = 0 → W p l e R s m args below meth c H locs cells slots Q (F0 m (pc + 3) ls rest)) : W p l e R s m args below meth c H locs cells slots Q (F0 m pc ls (.int (nI a) :: rest)) := lv_if_le hx hb d ht (fun h => kt ((nI_le0 ha).mp h)) (fun h => kf (fun q => h ((nI_le0 ha).mpr q)))
theorem r_if_lt {a : Nat} (hx : p.tables.exec = Jvm.exec) (hb : c.code = cc) (ha : a < 2 ^ 31) {off : Int} {tgt : Nat} (d : decode cc pc = .ok (.ifCond .lt off, 3)) (ht : (pc : Int) + off = (tgt : Int)) (kf : W p l e R s m args below meth c H locs cells slots Q (F0 m (pc + 3) ls rest)) : W p l e R s m args below meth c H locs cells slots Q (F0 m pc ls (.int (nI a) :: rest)) := lv_if_lt hx hb d ht (fun h => absurd h (nI_pos ha)) (fun _ => kf)
theorem r_if_eq_b {b : Bool} (hx : p.tables.exec = Jvm.exec) (hb : c.code = cc) {off : Int} {tgt : Nat} (d : decode cc pc = .ok (.ifCond .eq off, 3)) (ht : (pc : Int) + off = (tgt : Int)) (kt : ¬ b = true → W p l e R s m args below meth c H locs cells slots Q (F0 m tgt ls rest)) (kf : b = true → W p l e R s m args below meth c H locs cells slots Q (F0 m (pc + 3) ls rest)) : W p l e R s m args below meth c H locs cells slots Q (F0 m pc ls (.int (bI b) :: rest)) := lv_if_eq hx hb d ht (fun h => kt ((bI_0 b).mp h)) (fun h => kf (Classical.not_not.mp (fun q => h ((bI_0 b).mpr q))))
theorem r_if_ne_b {b : Bool} (hx : p.tables.exec = Jvm.exec) (hb : c.code = cc) {off : Int} {tgt : Nat} (d : decode cc pc = .ok (.ifCond .ne off, 3)) (ht : (pc : Int) + off = (tgt : Int)) (kt : b = true → W p l e R s m args below meth c H locs cells slots Q (F0 m tgt ls rest)) (kf : ¬ b = true → W p l e R s m args below meth c H locs cells slots Q (F0 m (pc + 3) ls rest)) : W p l e R s m args below meth c H locs cells slots Q (F0 m pc ls (.int (bI b) :: rest)) := lv_if_ne hx hb d ht (fun h => kt (Classical.not_not.mp (fun q => h ((bI_0 b).mpr q)))) (fun h => kf ((bI_0 b).mp h))
theorem r_icmp_eq_b {a b : Bool} (hx : p.tables.exec = Jvm.exec) (hb : c.code = cc) {off : Int} {tgt : Nat} (d : decode cc pc = .ok (.if_icmp .eq off, 3)) (ht : (pc : Int) + off = (tgt : Int)) (kt : a = b → W p l e R s m args below meth c H locs cells slots Q (F0 m tgt ls rest)) (kf : ¬ a = b → W p l e R s m args below meth c H locs cells slots Q (F0 m (pc + 3) ls rest)) : W p l e R s m args below meth c H locs cells slots Q (F0 m pc ls (.int (bI b) :: .int (bI a) :: rest)) := lv_icmp_eq hx hb d ht (fun h => kt ((bI_i _ _).mp h)) (fun h => kf (fun q => h ((bI_i _ _).mpr q)))
theorem r_icmp_ne_b {a b : Bool} (hx : p.tables.exec = Jvm.exec) (hb : c.code = cc) {off : Int} {tgt : Nat} (d : decode cc pc = .ok (.if_icmp .ne off, 3)) (ht : (pc : Int) + off = (tgt : Int)) (kt : ¬ a = b → W p l e R s m args below meth c H locs cells slots Q (F0 m tgt ls rest)) (kf : a = b → W p l e R s m args below meth c H locs cells slots Q (F0 m (pc + 3) ls rest)) : W p l e R s m args below meth c H locs cells slots Q (F0 m pc ls (.int (bI b) :: .int (bI a) :: rest)) := lv_icmp_ne hx hb d ht (fun h => kt (fun q => h ((bI_i _ _).mpr q))) (fun h => kf ((bI_i _ _).mp h))
theorem r_iald {a : Nat} (hx : p.tables.exec = Jvm.exec) (hb : c.code = cc) (hK : va_K D vwCl tys s) (hP : va_P D vwCl ws H) (q0 t0 : Nat) {cA : ClassId} {n : Nat} {f : Nat → Int32} (ha : ws[q0]? = some (a, .inl (cA, n, .inl f))) (ht : tys[t0]? = some (cA, .int)) {j : Nat} (hj : j < n) (hn : n < 2 ^ 31) (d : decode cc pc = .ok (.iaload, 1)) (k : W p l e R s m args below meth c H locs cells slots Q (F0 m (pc + 1) ls (.int (f j) :: rest))) : W p l e R s m args below meth c H locs cells slots Q (F0 m pc ls (.int (nI j) :: .ref a :: rest)) := by
  refine va_iald hx hb hK hP q0 t0 ha ht (vp_in_nI hj hn) d ?_
  rw [nI_clamp (Nat.lt_trans hj hn)]
  exact k
theorem r_zald {a : Nat} (hx : p.tables.exec = Jvm.exec) (hb : c.code = cc) (hK : va_K D vwCl tys s) (hP : va_P D vwCl ws H) (q0 t0 : Nat) {cA : ClassId} {n : Nat} {f : Nat → Int32} (ha : ws[q0]? = some (a, .inl (cA, n, .inl f))) (ht : tys[t0]? = some (cA, .boolean)) {j : Nat} (hj : j < n) (hn : n < 2 ^ 31) (d : decode cc pc = .ok (.baload, 1)) (k : W p l e R s m args below meth c H locs cells slots Q (F0 m (pc + 1) ls (.int (f j) :: rest))) : W p l e R s m args below meth c H locs cells slots Q (F0 m pc ls (.int (nI j) :: .ref a :: rest)) := by
  refine va_zald hx hb hK hP q0 t0 ha ht (vp_in_nI hj hn) d ?_
  rw [nI_clamp (Nat.lt_trans hj hn)]
  exact k
theorem r_iast {a : Nat} (hx : p.tables.exec = Jvm.exec) (hb : c.code = cc) (hK : va_K D vwCl tys s) (hP : va_P D vwCl ws H) (hD : va_D A ws) (hS : va_S A H0 H locs) (q0 t0 : Nat) {cA : ClassId} {n : Nat} {f : Nat → Int32} (ha : ws[q0]? = some (a, .inl (cA, n, .inl f))) (ht : tys[t0]? = some (cA, .int)) {j : Nat} {x : Int32} (hj : j < n) (hn : n < 2 ^ 31) (d : decode cc pc = .ok (.iastore, 1)) (k : ∀ (H1 : Heap) (locs1 : List Loc), va_P D vwCl (ws.set q0 (a, .inl (cA, n, .inl (upd f j x)))) H1 → va_D A (ws.set q0 (a, .inl (cA, n, .inl (upd f j x)))) → va_S A H0 H1 locs1 → W p l e R s m args below meth c H1 locs1 cells slots Q (F0 m (pc + 1) ls rest)) : W p l e R s m args below meth c H locs cells slots Q (F0 m pc ls (.int x :: .int (nI j) :: .ref a :: rest)) := by
  refine va_iast hx hb hK hP hD hS q0 t0 ha ht (vp_in_nI hj hn) d ?_
  rw [nI_clamp (Nat.lt_trans hj hn)]
  exact k
theorem r_zast {a : Nat} (hx : p.tables.exec = Jvm.exec) (hb : c.code = cc) (hK : va_K D vwCl tys s) (hP : va_P D vwCl ws H) (hD : va_D A ws) (hS : va_S A H0 H locs) (q0 t0 : Nat) {cA : ClassId} {n : Nat} {f : Nat → Int32} (ha : ws[q0]? = some (a, .inl (cA, n, .inl f))) (ht : tys[t0]? = some (cA, .boolean)) {j : Nat} {x : Bool} (hj : j < n) (hn : n < 2 ^ 31) (d : decode cc pc = .ok (.bastore, 1)) (k : ∀ (H1 : Heap) (locs1 : List Loc), va_P D vwCl (ws.set q0 (a, .inl (cA, n, .inl (upd f j (bI x))))) H1 → va_D A (ws.set q0 (a, .inl (cA, n, .inl (upd f j (bI x))))) → va_S A H0 H1 locs1 → W p l e R s m args below meth c H1 locs1 cells slots Q (F0 m (pc + 1) ls rest)) : W p l e R s m args below meth c H locs cells slots Q (F0 m pc ls (.int (bI x) :: .int (nI j) :: .ref a :: rest)) := by
  refine va_zast hx hb hK hP hD hS q0 t0 ha ht (vp_in_nI hj hn) d ?_
  rw [nI_clamp (Nat.lt_trans hj hn), bI_vp]
  exact k
theorem g_X0_9 (B : Bd p s m meth c cc nL rtO RX0 D tys asM) {a : Nat} (hP : va_P D vwCl ws H) (q0 : Nat) {fs : List Value} (he : ws[q0]? = some (a, .inr (0, fs))) {v : Value} (hv : fs[0]? = some v) (d : decode cc pc = .ok (.getfield 9, 3)) (k : W p l e R s m asM.toArray below meth c H locs cells slots Q (F0 m (pc + 3) ls (v :: rest))) : W p l e R s m asM.toArray below meth c H locs cells slots Q (F0 m pc ls (.ref a :: rest)) := va_get B.1 B.2.1 B.2.2.2.2.2.1 inlX0 B.2.2.2.2.1 B.2.2.2.2.2.2.2.2.1 hP q0 he rfl 0 (by decide) (B.2.2.2.2.2.1 _ m_5_10) (fun _ h => h) hv d k
theorem g_X0_15 (B : Bd p s m meth c cc nL rtO RX0 D tys asM) {a : Nat} (hP : va_P D vwCl ws H) (q0 : Nat) {fs : List Value} (he : ws[q0]? = some (a, .inr (0, fs))) {v : Value} (hv : fs[1]? = some v) (d : decode cc pc = .ok (.getfield 15, 3)) (k : W p l e R s m asM.toArray below meth c H locs cells slots Q (F0 m (pc + 3) ls (v :: rest))) : W p l e R s m asM.toArray below meth c H locs cells slots Q (F0 m pc ls (.ref a :: rest)) := va_get B.1 B.2.1 B.2.2.2.2.2.1 inlX0 B.2.2.2.2.1 B.2.2.2.2.2.2.2.2.1 hP q0 he rfl 1 (by decide) (B.2.2.2.2.2.1 _ m_5_11) (fun _ h => h) hv d k
theorem g_X0_18 (B : Bd p s m meth c cc nL rtO RX0 D tys asM) {a : Nat} (hP : va_P D vwCl ws H) (q0 : Nat) {fs : List Value} (he : ws[q0]? = some (a, .inr (0, fs))) {v : Value} (hv : fs[2]? = some v) (d : decode cc pc = .ok (.getfield 18, 3)) (k : W p l e R s m asM.toArray below meth c H locs cells slots Q (F0 m (pc + 3) ls (v :: rest))) : W p l e R s m asM.toArray below meth c H locs cells slots Q (F0 m pc ls (.ref a :: rest)) := va_get B.1 B.2.1 B.2.2.2.2.2.1 inlX0 B.2.2.2.2.1 B.2.2.2.2.2.2.2.2.1 hP q0 he rfl 2 (by decide) (B.2.2.2.2.2.1 _ m_5_12) (fun _ h => h) hv d k
theorem g_X0_21 (B : Bd p s m meth c cc nL rtO RX0 D tys asM) {a : Nat} (hP : va_P D vwCl ws H) (q0 : Nat) {fs : List Value} (he : ws[q0]? = some (a, .inr (0, fs))) {v : Value} (hv : fs[3]? = some v) (d : decode cc pc = .ok (.getfield 21, 3)) (k : W p l e R s m asM.toArray below meth c H locs cells slots Q (F0 m (pc + 3) ls (v :: rest))) : W p l e R s m asM.toArray below meth c H locs cells slots Q (F0 m pc ls (.ref a :: rest)) := va_get B.1 B.2.1 B.2.2.2.2.2.1 inlX0 B.2.2.2.2.1 B.2.2.2.2.2.2.2.2.1 hP q0 he rfl 3 (by decide) (B.2.2.2.2.2.1 _ m_5_13) (fun _ h => h) hv d k
theorem g_X0_24 (B : Bd p s m meth c cc nL rtO RX0 D tys asM) {a : Nat} (hP : va_P D vwCl ws H) (q0 : Nat) {fs : List Value} (he : ws[q0]? = some (a, .inr (0, fs))) {v : Value} (hv : fs[5]? = some v) (d : decode cc pc = .ok (.getfield 24, 3)) (k : W p l e R s m asM.toArray below meth c H locs cells slots Q (F0 m (pc + 3) ls (v :: rest))) : W p l e R s m asM.toArray below meth c H locs cells slots Q (F0 m pc ls (.ref a :: rest)) := va_get B.1 B.2.1 B.2.2.2.2.2.1 inlX0 B.2.2.2.2.1 B.2.2.2.2.2.2.2.2.1 hP q0 he rfl 5 (by decide) (B.2.2.2.2.2.1 _ m_22_10) (fun _ h => h) hv d k
theorem p_X0_24 (B : Bd p s m meth c cc nL rtO RX0 D tys asM) {a : Nat} (hP : va_P D vwCl ws H) (hD : va_D A ws) (hS : va_S A H0 H locs) (q0 : Nat) {fs : List Value} (he : ws[q0]? = some (a, .inr (0, fs))) (hl : 5 < fs.length) {v : Int32} (d : decode cc pc = .ok (.putfield 24, 3)) (k : ∀ (H1 : Heap) (locs1 : List Loc), va_P D vwCl (ws.set q0 (a, .inr (0, fs.set 5 (.int v)))) H1 → va_D A (ws.set q0 (a, .inr (0, fs.set 5 (.int v)))) → va_S A H0 H1 locs1 → W p l e R s m asM.toArray below meth c H1 locs1 cells slots Q (F0 m (pc + 3) ls rest)) : W p l e R s m asM.toArray below meth c H locs cells slots Q (F0 m pc ls (.int v :: .ref a :: rest)) := va_put (ty := .int) B.1 B.2.1 B.2.2.2.2.2.1 inlX0 tyX0 tyX0_ok nmX0 B.2.2.2.2.1 B.2.2.2.2.2.2.2.2.1 hP hD hS q0 he rfl 5 (by decide) (B.2.2.2.2.2.1 _ m_22_10) (fun _ h => h) rfl (by decide +kernel) rfl rfl hl d k
theorem g_X0_28 (B : Bd p s m meth c cc nL rtO RX0 D tys asM) {a : Nat} (hP : va_P D vwCl ws H) (q0 : Nat) {fs : List Value} (he : ws[q0]? = some (a, .inr (0, fs))) {v : Value} (hv : fs[4]? = some v) (d : decode cc pc = .ok (.getfield 28, 3)) (k : W p l e R s m asM.toArray below meth c H locs cells slots Q (F0 m (pc + 3) ls (v :: rest))) : W p l e R s m asM.toArray below meth c H locs cells slots Q (F0 m pc ls (.ref a :: rest)) := va_get B.1 B.2.1 B.2.2.2.2.2.1 inlX0 B.2.2.2.2.1 B.2.2.2.2.2.2.2.2.1 hP q0 he rfl 4 (by decide) (B.2.2.2.2.2.1 _ m_22_11) (fun _ h => h) hv d k
theorem p_X0_28 (B : Bd p s m meth c cc nL rtO RX0 D tys asM) {a : Nat} (hP : va_P D vwCl ws H) (hD : va_D A ws) (hS : va_S A H0 H locs) (q0 : Nat) {fs : List Value} (he : ws[q0]? = some (a, .inr (0, fs))) (hl : 4 < fs.length) {v : Int32} (d : decode cc pc = .ok (.putfield 28, 3)) (k : ∀ (H1 : Heap) (locs1 : List Loc), va_P D vwCl (ws.set q0 (a, .inr (0, fs.set 4 (.int v)))) H1 → va_D A (ws.set q0 (a, .inr (0, fs.set 4 (.int v)))) → va_S A H0 H1 locs1 → W p l e R s m asM.toArray below meth c H1 locs1 cells slots Q (F0 m (pc + 3) ls rest)) : W p l e R s m asM.toArray below meth c H locs cells slots Q (F0 m pc ls (.int v :: .ref a :: rest)) := va_put (ty := .int) B.1 B.2.1 B.2.2.2.2.2.1 inlX0 tyX0 tyX0_ok nmX0 B.2.2.2.2.1 B.2.2.2.2.2.2.2.2.1 hP hD hS q0 he rfl 4 (by decide) (B.2.2.2.2.2.1 _ m_22_11) (fun _ h => h) rfl (by decide +kernel) rfl rfl hl d k
theorem g_X1_9 (B : Bd p s m meth c cc nL rtO RX1 D tys asM) {a : Nat} (hP : va_P D vwCl ws H) (q0 : Nat) {fs : List Value} (he : ws[q0]? = some (a, .inr (1, fs))) {v : Value} (hv : fs[0]? = some v) (d : decode cc pc = .ok (.getfield 9, 3)) (k : W p l e R s m asM.toArray below meth c H locs cells slots Q (F0 m (pc + 3) ls (v :: rest))) : W p l e R s m asM.toArray below meth c H locs cells slots Q (F0 m pc ls (.ref a :: rest)) := va_get B.1 B.2.1 B.2.2.2.2.2.1 inlX1 B.2.2.2.2.1 B.2.2.2.2.2.2.2.2.1 hP q0 he rfl 0 (by decide) (B.2.2.2.2.2.1 _ m_5_17) (fun _ h => h) hv d k
theorem g_X2_9 (B : Bd p s m meth c cc nL rtO RX2 D tys asM) {a : Nat} (hP : va_P D vwCl ws H) (q0 : Nat) {fs : List Value} (he : ws[q0]? = some (a, .inr (2, fs))) {v : Value} (hv : fs[0]? = some v) (d : decode cc pc = .ok (.getfield 9, 3)) (k : W p l e R s m asM.toArray below meth c H locs cells slots Q (F0 m (pc + 3) ls (v :: rest))) : W p l e R s m asM.toArray below meth c H locs cells slots Q (F0 m pc ls (.ref a :: rest)) := va_get B.1 B.2.1 B.2.2.2.2.2.1 inlX2 B.2.2.2.2.1 B.2.2.2.2.2.2.2.2.1 hP q0 he rfl 0 (by decide) (B.2.2.2.2.2.1 _ m_4_2) (fun _ h => h) hv d k
theorem g_X2_15 (B : Bd p s m meth c cc nL rtO RX2 D tys asM) {a : Nat} (hP : va_P D vwCl ws H) (q0 : Nat) {fs : List Value} (he : ws[q0]? = some (a, .inr (2, fs))) {v : Value} (hv : fs[1]? = some v) (d : decode cc pc = .ok (.getfield 15, 3)) (k : W p l e R s m asM.toArray below meth c H locs cells slots Q (F0 m (pc + 3) ls (v :: rest))) : W p l e R s m asM.toArray below meth c H locs cells slots Q (F0 m pc ls (.ref a :: rest)) := va_get B.1 B.2.1 B.2.2.2.2.2.1 inlX2 B.2.2.2.2.1 B.2.2.2.2.2.2.2.2.1 hP q0 he rfl 1 (by decide) (B.2.2.2.2.2.1 _ m_4_3) (fun _ h => h) hv d k
theorem g_X2_18 (B : Bd p s m meth c cc nL rtO RX2 D tys asM) {a : Nat} (hP : va_P D vwCl ws H) (q0 : Nat) {fs : List Value} (he : ws[q0]? = some (a, .inr (2, fs))) {v : Value} (hv : fs[2]? = some v) (d : decode cc pc = .ok (.getfield 18, 3)) (k : W p l e R s m asM.toArray below meth c H locs cells slots Q (F0 m (pc + 3) ls (v :: rest))) : W p l e R s m asM.toArray below meth c H locs cells slots Q (F0 m pc ls (.ref a :: rest)) := va_get B.1 B.2.1 B.2.2.2.2.2.1 inlX2 B.2.2.2.2.1 B.2.2.2.2.2.2.2.2.1 hP q0 he rfl 2 (by decide) (B.2.2.2.2.2.1 _ m_4_4) (fun _ h => h) hv d k
theorem g_X2_21 (B : Bd p s m meth c cc nL rtO RX2 D tys asM) {a : Nat} (hP : va_P D vwCl ws H) (q0 : Nat) {fs : List Value} (he : ws[q0]? = some (a, .inr (2, fs))) {v : Value} (hv : fs[3]? = some v) (d : decode cc pc = .ok (.getfield 21, 3)) (k : W p l e R s m asM.toArray below meth c H locs cells slots Q (F0 m (pc + 3) ls (v :: rest))) : W p l e R s m asM.toArray below meth c H locs cells slots Q (F0 m pc ls (.ref a :: rest)) := va_get B.1 B.2.1 B.2.2.2.2.2.1 inlX2 B.2.2.2.2.1 B.2.2.2.2.2.2.2.2.1 hP q0 he rfl 3 (by decide) (B.2.2.2.2.2.1 _ m_4_5) (fun _ h => h) hv d k
theorem g_X3_9 (B : Bd p s m meth c cc nL rtO RX3 D tys asM) {a : Nat} (hP : va_P D vwCl ws H) (q0 : Nat) {fs : List Value} (he : ws[q0]? = some (a, .inr (3, fs))) {v : Value} (hv : fs[0]? = some v) (d : decode cc pc = .ok (.getfield 9, 3)) (k : W p l e R s m asM.toArray below meth c H locs cells slots Q (F0 m (pc + 3) ls (v :: rest))) : W p l e R s m asM.toArray below meth c H locs cells slots Q (F0 m pc ls (.ref a :: rest)) := va_get B.1 B.2.1 B.2.2.2.2.2.1 inlX3 B.2.2.2.2.1 B.2.2.2.2.2.2.2.2.1 hP q0 he rfl 0 (by decide) (B.2.2.2.2.2.1 _ m_5_3) (fun _ h => h) hv d k
theorem g_X3_15 (B : Bd p s m meth c cc nL rtO RX3 D tys asM) {a : Nat} (hP : va_P D vwCl ws H) (q0 : Nat) {fs : List Value} (he : ws[q0]? = some (a, .inr (3, fs))) {v : Value} (hv : fs[1]? = some v) (d : decode cc pc = .ok (.getfield 15, 3)) (k : W p l e R s m asM.toArray below meth c H locs cells slots Q (F0 m (pc + 3) ls (v :: rest))) : W p l e R s m asM.toArray below meth c H locs cells slots Q (F0 m pc ls (.ref a :: rest)) := va_get B.1 B.2.1 B.2.2.2.2.2.1 inlX3 B.2.2.2.2.1 B.2.2.2.2.2.2.2.2.1 hP q0 he rfl 1 (by decide) (B.2.2.2.2.2.1 _ m_5_4) (fun _ h => h) hv d k
theorem g_X3_18 (B : Bd p s m meth c cc nL rtO RX3 D tys asM) {a : Nat} (hP : va_P D vwCl ws H) (q0 : Nat) {fs : List Value} (he : ws[q0]? = some (a, .inr (3, fs))) {v : Value} (hv : fs[2]? = some v) (d : decode cc pc = .ok (.getfield 18, 3)) (k : W p l e R s m asM.toArray below meth c H locs cells slots Q (F0 m (pc + 3) ls (v :: rest))) : W p l e R s m asM.toArray below meth c H locs cells slots Q (F0 m pc ls (.ref a :: rest)) := va_get B.1 B.2.1 B.2.2.2.2.2.1 inlX3 B.2.2.2.2.1 B.2.2.2.2.2.2.2.2.1 hP q0 he rfl 2 (by decide) (B.2.2.2.2.2.1 _ m_5_5) (fun _ h => h) hv d k
theorem g_X3_21 (B : Bd p s m meth c cc nL rtO RX3 D tys asM) {a : Nat} (hP : va_P D vwCl ws H) (q0 : Nat) {fs : List Value} (he : ws[q0]? = some (a, .inr (3, fs))) {v : Value} (hv : fs[3]? = some v) (d : decode cc pc = .ok (.getfield 21, 3)) (k : W p l e R s m asM.toArray below meth c H locs cells slots Q (F0 m (pc + 3) ls (v :: rest))) : W p l e R s m asM.toArray below meth c H locs cells slots Q (F0 m pc ls (.ref a :: rest)) := va_get B.1 B.2.1 B.2.2.2.2.2.1 inlX3 B.2.2.2.2.1 B.2.2.2.2.2.2.2.2.1 hP q0 he rfl 3 (by decide) (B.2.2.2.2.2.1 _ m_5_6) (fun _ h => h) hv d k
theorem g_X3_24 (B : Bd p s m meth c cc nL rtO RX3 D tys asM) {a : Nat} (hP : va_P D vwCl ws H) (q0 : Nat) {fs : List Value} (he : ws[q0]? = some (a, .inr (3, fs))) {v : Value} (hv : fs[4]? = some v) (d : decode cc pc = .ok (.getfield 24, 3)) (k : W p l e R s m asM.toArray below meth c H locs cells slots Q (F0 m (pc + 3) ls (v :: rest))) : W p l e R s m asM.toArray below meth c H locs cells slots Q (F0 m pc ls (.ref a :: rest)) := va_get B.1 B.2.1 B.2.2.2.2.2.1 inlX3 B.2.2.2.2.1 B.2.2.2.2.2.2.2.2.1 hP q0 he rfl 4 (by decide) (B.2.2.2.2.2.1 _ m_20_4) (fun _ h => h) hv d k
theorem p_X3_24 (B : Bd p s m meth c cc nL rtO RX3 D tys asM) {a : Nat} (hP : va_P D vwCl ws H) (hD : va_D A ws) (hS : va_S A H0 H locs) (q0 : Nat) {fs : List Value} (he : ws[q0]? = some (a, .inr (3, fs))) (hl : 4 < fs.length) {v : Int32} (d : decode cc pc = .ok (.putfield 24, 3)) (k : ∀ (H1 : Heap) (locs1 : List Loc), va_P D vwCl (ws.set q0 (a, .inr (3, fs.set 4 (.int v)))) H1 → va_D A (ws.set q0 (a, .inr (3, fs.set 4 (.int v)))) → va_S A H0 H1 locs1 → W p l e R s m asM.toArray below meth c H1 locs1 cells slots Q (F0 m (pc + 3) ls rest)) : W p l e R s m asM.toArray below meth c H locs cells slots Q (F0 m pc ls (.int v :: .ref a :: rest)) := va_put (ty := .int) B.1 B.2.1 B.2.2.2.2.2.1 inlX3 tyX3 tyX3_ok nmX3 B.2.2.2.2.1 B.2.2.2.2.2.2.2.2.1 hP hD hS q0 he rfl 4 (by decide) (B.2.2.2.2.2.1 _ m_20_4) (fun _ h => h) rfl (by decide +kernel) rfl rfl hl d k
theorem g_X4_9 (B : Bd p s m meth c cc nL rtO RX4 D tys asM) {a : Nat} (hP : va_P D vwCl ws H) (q0 : Nat) {fs : List Value} (he : ws[q0]? = some (a, .inr (4, fs))) {v : Value} (hv : fs[0]? = some v) (d : decode cc pc = .ok (.getfield 9, 3)) (k : W p l e R s m asM.toArray below meth c H locs cells slots Q (F0 m (pc + 3) ls (v :: rest))) : W p l e R s m asM.toArray below meth c H locs cells slots Q (F0 m pc ls (.ref a :: rest)) := va_get B.1 B.2.1 B.2.2.2.2.2.1 inlX4 B.2.2.2.2.1 B.2.2.2.2.2.2.2.2.1 hP q0 he rfl 0 (by decide) (B.2.2.2.2.2.1 _ m_2_15) (fun _ h => h) hv d k
theorem g_X4_15 (B : Bd p s m meth c cc nL rtO RX4 D tys asM) {a : Nat} (hP : va_P D vwCl ws H) (q0 : Nat) {fs : List Value} (he : ws[q0]? = some (a, .inr (4, fs))) {v : Value} (hv : fs[1]? = some v) (d : decode cc pc = .ok (.getfield 15, 3)) (k : W p l e R s m asM.toArray below meth c H locs cells slots Q (F0 m (pc + 3) ls (v :: rest))) : W p l e R s m asM.toArray below meth c H locs cells slots Q (F0 m pc ls (.ref a :: rest)) := va_get B.1 B.2.1 B.2.2.2.2.2.1 inlX4 B.2.2.2.2.1 B.2.2.2.2.2.2.2.2.1 hP q0 he rfl 1 (by decide) (B.2.2.2.2.2.1 _ m_2_16) (fun _ h => h) hv d k
theorem g_X4_18 (B : Bd p s m meth c cc nL rtO RX4 D tys asM) {a : Nat} (hP : va_P D vwCl ws H) (q0 : Nat) {fs : List Value} (he : ws[q0]? = some (a, .inr (4, fs))) {v : Value} (hv : fs[2]? = some v) (d : decode cc pc = .ok (.getfield 18, 3)) (k : W p l e R s m asM.toArray below meth c H locs cells slots Q (F0 m (pc + 3) ls (v :: rest))) : W p l e R s m asM.toArray below meth c H locs cells slots Q (F0 m pc ls (.ref a :: rest)) := va_get B.1 B.2.1 B.2.2.2.2.2.1 inlX4 B.2.2.2.2.1 B.2.2.2.2.2.2.2.2.1 hP q0 he rfl 2 (by decide) (B.2.2.2.2.2.1 _ m_2_17) (fun _ h => h) hv d k
theorem g_X5_12 (B : Bd p s m meth c cc nL rtO RX5 D tys asM) {a : Nat} (hP : va_P D vwCl ws H) (q0 : Nat) {fs : List Value} (he : ws[q0]? = some (a, .inr (5, fs))) {v : Value} (hv : fs[0]? = some v) (d : decode cc pc = .ok (.getfield 12, 3)) (k : W p l e R s m asM.toArray below meth c H locs cells slots Q (F0 m (pc + 3) ls (v :: rest))) : W p l e R s m asM.toArray below meth c H locs cells slots Q (F0 m pc ls (.ref a :: rest)) := va_get B.1 B.2.1 B.2.2.2.2.2.1 inlX5 B.2.2.2.2.1 B.2.2.2.2.2.2.2.2.1 hP q0 he rfl 0 (by decide) (B.2.2.2.2.2.1 _ m_1_16) (fun _ h => h) hv d k
theorem g_X5_19 (B : Bd p s m meth c cc nL rtO RX5 D tys asM) {a : Nat} (hP : va_P D vwCl ws H) (q0 : Nat) {fs : List Value} (he : ws[q0]? = some (a, .inr (5, fs))) {v : Value} (hv : fs[1]? = some v) (d : decode cc pc = .ok (.getfield 19, 3)) (k : W p l e R s m asM.toArray below meth c H locs cells slots Q (F0 m (pc + 3) ls (v :: rest))) : W p l e R s m asM.toArray below meth c H locs cells slots Q (F0 m pc ls (.ref a :: rest)) := va_get B.1 B.2.1 B.2.2.2.2.2.1 inlX5 B.2.2.2.2.1 B.2.2.2.2.2.2.2.2.1 hP q0 he rfl 1 (by decide) (B.2.2.2.2.2.1 _ m_1_20) (fun _ h => h) hv d k
theorem g_X5_26 (B : Bd p s m meth c cc nL rtO RX5 D tys asM) {a : Nat} (hP : va_P D vwCl ws H) (q0 : Nat) {fs : List Value} (he : ws[q0]? = some (a, .inr (5, fs))) {v : Value} (hv : fs[2]? = some v) (d : decode cc pc = .ok (.getfield 26, 3)) (k : W p l e R s m asM.toArray below meth c H locs cells slots Q (F0 m (pc + 3) ls (v :: rest))) : W p l e R s m asM.toArray below meth c H locs cells slots Q (F0 m pc ls (.ref a :: rest)) := va_get B.1 B.2.1 B.2.2.2.2.2.1 inlX5 B.2.2.2.2.1 B.2.2.2.2.2.2.2.2.1 hP q0 he rfl 2 (by decide) (B.2.2.2.2.2.1 _ m_2_0) (fun _ h => h) hv d k
theorem g_X5_33 (B : Bd p s m meth c cc nL rtO RX5 D tys asM) {a : Nat} (hP : va_P D vwCl ws H) (q0 : Nat) {fs : List Value} (he : ws[q0]? = some (a, .inr (5, fs))) {v : Value} (hv : fs[3]? = some v) (d : decode cc pc = .ok (.getfield 33, 3)) (k : W p l e R s m asM.toArray below meth c H locs cells slots Q (F0 m (pc + 3) ls (v :: rest))) : W p l e R s m asM.toArray below meth c H locs cells slots Q (F0 m pc ls (.ref a :: rest)) := va_get B.1 B.2.1 B.2.2.2.2.2.1 inlX5 B.2.2.2.2.1 B.2.2.2.2.2.2.2.2.1 hP q0 he rfl 3 (by decide) (B.2.2.2.2.2.1 _ m_2_4) (fun _ h => h) hv d k
theorem g_X5_40 (B : Bd p s m meth c cc nL rtO RX5 D tys asM) {a : Nat} (hP : va_P D vwCl ws H) (q0 : Nat) {fs : List Value} (he : ws[q0]? = some (a, .inr (5, fs))) {v : Value} (hv : fs[4]? = some v) (d : decode cc pc = .ok (.getfield 40, 3)) (k : W p l e R s m asM.toArray below meth c H locs cells slots Q (F0 m (pc + 3) ls (v :: rest))) : W p l e R s m asM.toArray below meth c H locs cells slots Q (F0 m pc ls (.ref a :: rest)) := va_get B.1 B.2.1 B.2.2.2.2.2.1 inlX5 B.2.2.2.2.1 B.2.2.2.2.2.2.2.2.1 hP q0 he rfl 4 (by decide) (B.2.2.2.2.2.1 _ m_2_8) (fun _ h => h) hv d k
theorem g_X5_44 (B : Bd p s m meth c cc nL rtO RX5 D tys asM) {a : Nat} (hP : va_P D vwCl ws H) (q0 : Nat) {fs : List Value} (he : ws[q0]? = some (a, .inr (5, fs))) {v : Value} (hv : fs[6]? = some v) (d : decode cc pc = .ok (.getfield 44, 3)) (k : W p l e R s m asM.toArray below meth c H locs cells slots Q (F0 m (pc + 3) ls (v :: rest))) : W p l e R s m asM.toArray below meth c H locs cells slots Q (F0 m pc ls (.ref a :: rest)) := va_get B.1 B.2.1 B.2.2.2.2.2.1 inlX5 B.2.2.2.2.1 B.2.2.2.2.2.2.2.2.1 hP q0 he rfl 6 (by decide) (B.2.2.2.2.2.1 _ m_2_9) (fun _ h => h) hv d k
theorem p_X5_44 (B : Bd p s m meth c cc nL rtO RX5 D tys asM) {a : Nat} (hP : va_P D vwCl ws H) (hD : va_D A ws) (hS : va_S A H0 H locs) (q0 : Nat) {fs : List Value} (he : ws[q0]? = some (a, .inr (5, fs))) (hl : 6 < fs.length) {v : Int32} (d : decode cc pc = .ok (.putfield 44, 3)) (k : ∀ (H1 : Heap) (locs1 : List Loc), va_P D vwCl (ws.set q0 (a, .inr (5, fs.set 6 (.int v)))) H1 → va_D A (ws.set q0 (a, .inr (5, fs.set 6 (.int v)))) → va_S A H0 H1 locs1 → W p l e R s m asM.toArray below meth c H1 locs1 cells slots Q (F0 m (pc + 3) ls rest)) : W p l e R s m asM.toArray below meth c H locs cells slots Q (F0 m pc ls (.int v :: .ref a :: rest)) := va_put (ty := .int) B.1 B.2.1 B.2.2.2.2.2.1 inlX5 tyX5 tyX5_ok nmX5 B.2.2.2.2.1 B.2.2.2.2.2.2.2.2.1 hP hD hS q0 he rfl 6 (by decide) (B.2.2.2.2.2.1 _ m_2_9) (fun _ h => h) rfl (by decide +kernel) rfl rfl hl d k
theorem g_X5_71 (B : Bd p s m meth c cc nL rtO RX5 D tys asM) {a : Nat} (hP : va_P D vwCl ws H) (q0 : Nat) {fs : List Value} (he : ws[q0]? = some (a, .inr (5, fs))) {v : Value} (hv : fs[5]? = some v) (d : decode cc pc = .ok (.getfield 71, 3)) (k : W p l e R s m asM.toArray below meth c H locs cells slots Q (F0 m (pc + 3) ls (v :: rest))) : W p l e R s m asM.toArray below meth c H locs cells slots Q (F0 m pc ls (.ref a :: rest)) := va_get B.1 B.2.1 B.2.2.2.2.2.1 inlX5 B.2.2.2.2.1 B.2.2.2.2.2.2.2.2.1 hP q0 he rfl 5 (by decide) (B.2.2.2.2.2.1 _ m_10_16) (fun _ h => h) hv d k
theorem p_X5_71 (B : Bd p s m meth c cc nL rtO RX5 D tys asM) {a : Nat} (hP : va_P D vwCl ws H) (hD : va_D A ws) (hS : va_S A H0 H locs) (q0 : Nat) {fs : List Value} (he : ws[q0]? = some (a, .inr (5, fs))) (hl : 5 < fs.length) {v : Int32} (d : decode cc pc = .ok (.putfield 71, 3)) (k : ∀ (H1 : Heap) (locs1 : List Loc), va_P D vwCl (ws.set q0 (a, .inr (5, fs.set 5 (.int v)))) H1 → va_D A (ws.set q0 (a, .inr (5, fs.set 5 (.int v)))) → va_S A H0 H1 locs1 → W p l e R s m asM.toArray below meth c H1 locs1 cells slots Q (F0 m (pc + 3) ls rest)) : W p l e R s m asM.toArray below meth c H locs cells slots Q (F0 m pc ls (.int v :: .ref a :: rest)) := va_put (ty := .int) B.1 B.2.1 B.2.2.2.2.2.1 inlX5 tyX5 tyX5_ok nmX5 B.2.2.2.2.1 B.2.2.2.2.2.2.2.2.1 hP hD hS q0 he rfl 5 (by decide) (B.2.2.2.2.2.1 _ m_10_16) (fun _ h => h) rfl (by decide +kernel) rfl rfl hl d k
theorem g_X5_128 (B : Bd p s m meth c cc nL rtO RX5 D tys asM) {a : Nat} (hP : va_P D vwCl ws H) (q0 : Nat) {fs : List Value} (he : ws[q0]? = some (a, .inr (5, fs))) {v : Value} (hv : fs[7]? = some v) (d : decode cc pc = .ok (.getfield 128, 3)) (k : W p l e R s m asM.toArray below meth c H locs cells slots Q (F0 m (pc + 3) ls (v :: rest))) : W p l e R s m asM.toArray below meth c H locs cells slots Q (F0 m pc ls (.ref a :: rest)) := va_get B.1 B.2.1 B.2.2.2.2.2.1 inlX5 B.2.2.2.2.1 B.2.2.2.2.2.2.2.2.1 hP q0 he rfl 7 (by decide) (B.2.2.2.2.2.1 _ m_15_14) (fun _ h => h) hv d k
theorem p_X5_128 (B : Bd p s m meth c cc nL rtO RX5 D tys asM) {a : Nat} (hP : va_P D vwCl ws H) (hD : va_D A ws) (hS : va_S A H0 H locs) (q0 : Nat) {fs : List Value} (he : ws[q0]? = some (a, .inr (5, fs))) (hl : 7 < fs.length) {v : Int32} (d : decode cc pc = .ok (.putfield 128, 3)) (k : ∀ (H1 : Heap) (locs1 : List Loc), va_P D vwCl (ws.set q0 (a, .inr (5, fs.set 7 (.int v)))) H1 → va_D A (ws.set q0 (a, .inr (5, fs.set 7 (.int v)))) → va_S A H0 H1 locs1 → W p l e R s m asM.toArray below meth c H1 locs1 cells slots Q (F0 m (pc + 3) ls rest)) : W p l e R s m asM.toArray below meth c H locs cells slots Q (F0 m pc ls (.int v :: .ref a :: rest)) := va_put (ty := .int) B.1 B.2.1 B.2.2.2.2.2.1 inlX5 tyX5 tyX5_ok nmX5 B.2.2.2.2.1 B.2.2.2.2.2.2.2.2.1 hP hD hS q0 he rfl 7 (by decide) (B.2.2.2.2.2.1 _ m_15_14) (fun _ h => h) rfl (by decide +kernel) rfl rfl hl d k
theorem g_X5_187 (B : Bd p s m meth c cc nL rtO RX5 D tys asM) {a : Nat} (hP : va_P D vwCl ws H) (q0 : Nat) {fs : List Value} (he : ws[q0]? = some (a, .inr (5, fs))) {v : Value} (hv : fs[8]? = some v) (d : decode cc pc = .ok (.getfield 187, 3)) (k : W p l e R s m asM.toArray below meth c H locs cells slots Q (F0 m (pc + 3) ls (v :: rest))) : W p l e R s m asM.toArray below meth c H locs cells slots Q (F0 m pc ls (.ref a :: rest)) := va_get B.1 B.2.1 B.2.2.2.2.2.1 inlX5 B.2.2.2.2.1 B.2.2.2.2.2.2.2.2.1 hP q0 he rfl 8 (by decide) (B.2.2.2.2.2.1 _ m_22_5) (fun _ h => h) hv d k
theorem p_X5_187 (B : Bd p s m meth c cc nL rtO RX5 D tys asM) {a : Nat} (hP : va_P D vwCl ws H) (hD : va_D A ws) (hS : va_S A H0 H locs) (q0 : Nat) {fs : List Value} (he : ws[q0]? = some (a, .inr (5, fs))) (hl : 8 < fs.length) {v : Int32} (d : decode cc pc = .ok (.putfield 187, 3)) (k : ∀ (H1 : Heap) (locs1 : List Loc), va_P D vwCl (ws.set q0 (a, .inr (5, fs.set 8 (.int v)))) H1 → va_D A (ws.set q0 (a, .inr (5, fs.set 8 (.int v)))) → va_S A H0 H1 locs1 → W p l e R s m asM.toArray below meth c H1 locs1 cells slots Q (F0 m (pc + 3) ls rest)) : W p l e R s m asM.toArray below meth c H locs cells slots Q (F0 m pc ls (.int v :: .ref a :: rest)) := va_put (ty := .int) B.1 B.2.1 B.2.2.2.2.2.1 inlX5 tyX5 tyX5_ok nmX5 B.2.2.2.2.1 B.2.2.2.2.2.2.2.2.1 hP hD hS q0 he rfl 8 (by decide) (B.2.2.2.2.2.1 _ m_22_5) (fun _ h => h) rfl (by decide +kernel) rfl rfl hl d k
theorem g_X6_7 (B : Bd p s m meth c cc nL rtO RX6 D tys asM) {a : Nat} (hP : va_P D vwCl ws H) (q0 : Nat) {fs : List Value} (he : ws[q0]? = some (a, .inr (6, fs))) {v : Value} (hv : fs[1]? = some v) (d : decode cc pc = .ok (.getfield 7, 3)) (k : W p l e R s m asM.toArray below meth c H locs cells slots Q (F0 m (pc + 3) ls (v :: rest))) : W p l e R s m asM.toArray below meth c H locs cells slots Q (F0 m pc ls (.ref a :: rest)) := va_get B.1 B.2.1 B.2.2.2.2.2.1 inlX6 B.2.2.2.2.1 B.2.2.2.2.2.2.2.2.1 hP q0 he rfl 1 (by decide) (B.2.2.2.2.2.1 _ m_5_22) (fun _ h => h) hv d k
theorem p_X6_7 (B : Bd p s m meth c cc nL rtO RX6 D tys asM) {a : Nat} (hP : va_P D vwCl ws H) (hD : va_D A ws) (hS : va_S A H0 H locs) (q0 : Nat) {fs : List Value} (he : ws[q0]? = some (a, .inr (6, fs))) (hl : 1 < fs.length) {v : Int32} (d : decode cc pc = .ok (.putfield 7, 3)) (k : ∀ (H1 : Heap) (locs1 : List Loc), va_P D vwCl (ws.set q0 (a, .inr (6, fs.set 1 (.int v)))) H1 → va_D A (ws.set q0 (a, .inr (6, fs.set 1 (.int v)))) → va_S A H0 H1 locs1 → W p l e R s m asM.toArray below meth c H1 locs1 cells slots Q (F0 m (pc + 3) ls rest)) : W p l e R s m asM.toArray below meth c H locs cells slots Q (F0 m pc ls (.int v :: .ref a :: rest)) := va_put (ty := .int) B.1 B.2.1 B.2.2.2.2.2.1 inlX6 tyX6 tyX6_ok nmX6 B.2.2.2.2.1 B.2.2.2.2.2.2.2.2.1 hP hD hS q0 he rfl 1 (by decide) (B.2.2.2.2.2.1 _ m_5_22) (fun _ h => h) rfl (by decide +kernel) rfl rfl hl d k
theorem g_X6_13 (B : Bd p s m meth c cc nL rtO RX6 D tys asM) {a : Nat} (hP : va_P D vwCl ws H) (q0 : Nat) {fs : List Value} (he : ws[q0]? = some (a, .inr (6, fs))) {v : Value} (hv : fs[2]? = some v) (d : decode cc pc = .ok (.getfield 13, 3)) (k : W p l e R s m asM.toArray below meth c H locs cells slots Q (F0 m (pc + 3) ls (v :: rest))) : W p l e R s m asM.toArray below meth c H locs cells slots Q (F0 m pc ls (.ref a :: rest)) := va_get B.1 B.2.1 B.2.2.2.2.2.1 inlX6 B.2.2.2.2.1 B.2.2.2.2.2.2.2.2.1 hP q0 he rfl 2 (by decide) (B.2.2.2.2.2.1 _ m_5_23) (fun _ h => h) hv d k
theorem g_X6_17 (B : Bd p s m meth c cc nL rtO RX6 D tys asM) {a : Nat} (hP : va_P D vwCl ws H) (q0 : Nat) {fs : List Value} (he : ws[q0]? = some (a, .inr (6, fs))) {v : Value} (hv : fs[3]? = some v) (d : decode cc pc = .ok (.getfield 17, 3)) (k : W p l e R s m asM.toArray below meth c H locs cells slots Q (F0 m (pc + 3) ls (v :: rest))) : W p l e R s m asM.toArray below meth c H locs cells slots Q (F0 m pc ls (.ref a :: rest)) := va_get B.1 B.2.1 B.2.2.2.2.2.1 inlX6 B.2.2.2.2.1 B.2.2.2.2.2.2.2.2.1 hP q0 he rfl 3 (by decide) (B.2.2.2.2.2.1 _ m_6_0) (fun _ h => h) hv d k
theorem g_X6_20 (B : Bd p s m meth c cc nL rtO RX6 D tys asM) {a : Nat} (hP : va_P D vwCl ws H) (q0 : Nat) {fs : List Value} (he : ws[q0]? = some (a, .inr (6, fs))) {v : Value} (hv : fs[4]? = some v) (d : decode cc pc = .ok (.getfield 20, 3)) (k : W p l e R s m asM.toArray below meth c H locs cells slots Q (F0 m (pc + 3) ls (v :: rest))) : W p l e R s m asM.toArray below meth c H locs cells slots Q (F0 m pc ls (.ref a :: rest)) := va_get B.1 B.2.1 B.2.2.2.2.2.1 inlX6 B.2.2.2.2.1 B.2.2.2.2.2.2.2.2.1 hP q0 he rfl 4 (by decide) (B.2.2.2.2.2.1 _ m_6_2) (fun _ h => h) hv d k
theorem g_X6_24 (B : Bd p s m meth c cc nL rtO RX6 D tys asM) {a : Nat} (hP : va_P D vwCl ws H) (q0 : Nat) {fs : List Value} (he : ws[q0]? = some (a, .inr (6, fs))) {v : Value} (hv : fs[5]? = some v) (d : decode cc pc = .ok (.getfield 24, 3)) (k : W p l e R s m asM.toArray below meth c H locs cells slots Q (F0 m (pc + 3) ls (v :: rest))) : W p l e R s m asM.toArray below meth c H locs cells slots Q (F0 m pc ls (.ref a :: rest)) := va_get B.1 B.2.1 B.2.2.2.2.2.1 inlX6 B.2.2.2.2.1 B.2.2.2.2.2.2.2.2.1 hP q0 he rfl 5 (by decide) (B.2.2.2.2.2.1 _ m_6_3) (fun _ h => h) hv d k
theorem g_X6_27 (B : Bd p s m meth c cc nL rtO RX6 D tys asM) {a : Nat} (hP : va_P D vwCl ws H) (q0 : Nat) {fs : List Value} (he : ws[q0]? = some (a, .inr (6, fs))) {v : Value} (hv : fs[6]? = some v) (d : decode cc pc = .ok (.getfield 27, 3)) (k : W p l e R s m asM.toArray below meth c H locs cells slots Q (F0 m (pc + 3) ls (v :: rest))) : W p l e R s m asM.toArray below meth c H locs cells slots Q (F0 m pc ls (.ref a :: rest)) := va_get B.1 B.2.1 B.2.2.2.2.2.1 inlX6 B.2.2.2.2.1 B.2.2.2.2.2.2.2.2.1 hP q0 he rfl 6 (by decide) (B.2.2.2.2.2.1 _ m_6_4) (fun _ h => h) hv d k
theorem g_X6_30 (B : Bd p s m meth c cc nL rtO RX6 D tys asM) {a : Nat} (hP : va_P D vwCl ws H) (q0 : Nat) {fs : List Value} (he : ws[q0]? = some (a, .inr (6, fs))) {v : Value} (hv : fs[7]? = some v) (d : decode cc pc = .ok (.getfield 30, 3)) (k : W p l e R s m asM.toArray below meth c H locs cells slots Q (F0 m (pc + 3) ls (v :: rest))) : W p l e R s m asM.toArray below meth c H locs cells slots Q (F0 m pc ls (.ref a :: rest)) := va_get B.1 B.2.1 B.2.2.2.2.2.1 inlX6 B.2.2.2.2.1 B.2.2.2.2.2.2.2.2.1 hP q0 he rfl 7 (by decide) (B.2.2.2.2.2.1 _ m_6_5) (fun _ h => h) hv d k
theorem g_X6_33 (B : Bd p s m meth c cc nL rtO RX6 D tys asM) {a : Nat} (hP : va_P D vwCl ws H) (q0 : Nat) {fs : List Value} (he : ws[q0]? = some (a, .inr (6, fs))) {v : Value} (hv : fs[8]? = some v) (d : decode cc pc = .ok (.getfield 33, 3)) (k : W p l e R s m asM.toArray below meth c H locs cells slots Q (F0 m (pc + 3) ls (v :: rest))) : W p l e R s m asM.toArray below meth c H locs cells slots Q (F0 m pc ls (.ref a :: rest)) := va_get B.1 B.2.1 B.2.2.2.2.2.1 inlX6 B.2.2.2.2.1 B.2.2.2.2.2.2.2.2.1 hP q0 he rfl 8 (by decide) (B.2.2.2.2.2.1 _ m_6_6) (fun _ h => h) hv d k
theorem g_X6_36 (B : Bd p s m meth c cc nL rtO RX6 D tys asM) {a : Nat} (hP : va_P D vwCl ws H) (q0 : Nat) {fs : List Value} (he : ws[q0]? = some (a, .inr (6, fs))) {v : Value} (hv : fs[9]? = some v) (d : decode cc pc = .ok (.getfield 36, 3)) (k : W p l e R s m asM.toArray below meth c H locs cells slots Q (F0 m (pc + 3) ls (v :: rest))) : W p l e R s m asM.toArray below meth c H locs cells slots Q (F0 m pc ls (.ref a :: rest)) := va_get B.1 B.2.1 B.2.2.2.2.2.1 inlX6 B.2.2.2.2.1 B.2.2.2.2.2.2.2.2.1 hP q0 he rfl 9 (by decide) (B.2.2.2.2.2.1 _ m_6_7) (fun _ h => h) hv d k
theorem g_X6_39 (B : Bd p s m meth c cc nL rtO RX6 D tys asM) {a : Nat} (hP : va_P D vwCl ws H) (q0 : Nat) {fs : List Value} (he : ws[q0]? = some (a, .inr (6, fs))) {v : Value} (hv : fs[11]? = some v) (d : decode cc pc = .ok (.getfield 39, 3)) (k : W p l e R s m asM.toArray below meth c H locs cells slots Q (F0 m (pc + 3) ls (v :: rest))) : W p l e R s m asM.toArray below meth c H locs cells slots Q (F0 m pc ls (.ref a :: rest)) := va_get B.1 B.2.1 B.2.2.2.2.2.1 inlX6 B.2.2.2.2.1 B.2.2.2.2.2.2.2.2.1 hP q0 he rfl 11 (by decide) (B.2.2.2.2.2.1 _ m_6_8) (fun _ h => h) hv d k
theorem g_X6_42 (B : Bd p s m meth c cc nL rtO RX6 D tys asM) {a : Nat} (hP : va_P D vwCl ws H) (q0 : Nat) {fs : List Value} (he : ws[q0]? = some (a, .inr (6, fs))) {v : Value} (hv : fs[13]? = some v) (d : decode cc pc = .ok (.getfield 42, 3)) (k : W p l e R s m asM.toArray below meth c H locs cells slots Q (F0 m (pc + 3) ls (v :: rest))) : W p l e R s m asM.toArray below meth c H locs cells slots Q (F0 m pc ls (.ref a :: rest)) := va_get B.1 B.2.1 B.2.2.2.2.2.1 inlX6 B.2.2.2.2.1 B.2.2.2.2.2.2.2.2.1 hP q0 he rfl 13 (by decide) (B.2.2.2.2.2.1 _ m_6_9) (fun _ h => h) hv d k
theorem g_X6_45 (B : Bd p s m meth c cc nL rtO RX6 D tys asM) {a : Nat} (hP : va_P D vwCl ws H) (q0 : Nat) {fs : List Value} (he : ws[q0]? = some (a, .inr (6, fs))) {v : Value} (hv : fs[14]? = some v) (d : decode cc pc = .ok (.getfield 45, 3)) (k : W p l e R s m asM.toArray below meth c H locs cells slots Q (F0 m (pc + 3) ls (v :: rest))) : W p l e R s m asM.toArray below meth c H locs cells slots Q (F0 m pc ls (.ref a :: rest)) := va_get B.1 B.2.1 B.2.2.2.2.2.1 inlX6 B.2.2.2.2.1 B.2.2.2.2.2.2.2.2.1 hP q0 he rfl 14 (by decide) (B.2.2.2.2.2.1 _ m_6_10) (fun _ h => h) hv d k
theorem g_X6_48 (B : Bd p s m meth c cc nL rtO RX6 D tys asM) {a : Nat} (hP : va_P D vwCl ws H) (q0 : Nat) {fs : List Value} (he : ws[q0]? = some (a, .inr (6, fs))) {v : Value} (hv : fs[15]? = some v) (d : decode cc pc = .ok (.getfield 48, 3)) (k : W p l e R s m asM.toArray below meth c H locs cells slots Q (F0 m (pc + 3) ls (v :: rest))) : W p l e R s m asM.toArray below meth c H locs cells slots Q (F0 m pc ls (.ref a :: rest)) := va_get B.1 B.2.1 B.2.2.2.2.2.1 inlX6 B.2.2.2.2.1 B.2.2.2.2.2.2.2.2.1 hP q0 he rfl 15 (by decide) (B.2.2.2.2.2.1 _ m_6_11) (fun _ h => h) hv d k
theorem g_X6_51 (B : Bd p s m meth c cc nL rtO RX6 D tys asM) {a : Nat} (hP : va_P D vwCl ws H) (q0 : Nat) {fs : List Value} (he : ws[q0]? = some (a, .inr (6, fs))) {v : Value} (hv : fs[16]? = some v) (d : decode cc pc = .ok (.getfield 51, 3)) (k : W p l e R s m asM.toArray below meth c H locs cells slots Q (F0 m (pc + 3) ls (v :: rest))) : W p l e R s m asM.toArray below meth c H locs cells slots Q (F0 m pc ls (.ref a :: rest)) := va_get B.1 B.2.1 B.2.2.2.2.2.1 inlX6 B.2.2.2.2.1 B.2.2.2.2.2.2.2.2.1 hP q0 he rfl 16 (by decide) (B.2.2.2.2.2.1 _ m_6_12) (fun _ h => h) hv d k
theorem g_X6_57 (B : Bd p s m meth c cc nL rtO RX6 D tys asM) {a : Nat} (hP : va_P D vwCl ws H) (q0 : Nat) {fs : List Value} (he : ws[q0]? = some (a, .inr (6, fs))) {v : Value} (hv : fs[18]? = some v) (d : decode cc pc = .ok (.getfield 57, 3)) (k : W p l e R s m asM.toArray below meth c H locs cells slots Q (F0 m (pc + 3) ls (v :: rest))) : W p l e R s m asM.toArray below meth c H locs cells slots Q (F0 m pc ls (.ref a :: rest)) := va_get B.1 B.2.1 B.2.2.2.2.2.1 inlX6 B.2.2.2.2.1 B.2.2.2.2.2.2.2.2.1 hP q0 he rfl 18 (by decide) (B.2.2.2.2.2.1 _ m_9_4) (fun _ h => h) hv d k
theorem p_X6_57 (B : Bd p s m meth c cc nL rtO RX6 D tys asM) {a : Nat} (hP : va_P D vwCl ws H) (hD : va_D A ws) (hS : va_S A H0 H locs) (q0 : Nat) {fs : List Value} (he : ws[q0]? = some (a, .inr (6, fs))) (hl : 18 < fs.length) {v : Int32} (d : decode cc pc = .ok (.putfield 57, 3)) (k : ∀ (H1 : Heap) (locs1 : List Loc), va_P D vwCl (ws.set q0 (a, .inr (6, fs.set 18 (.int v)))) H1 → va_D A (ws.set q0 (a, .inr (6, fs.set 18 (.int v)))) → va_S A H0 H1 locs1 → W p l e R s m asM.toArray below meth c H1 locs1 cells slots Q (F0 m (pc + 3) ls rest)) : W p l e R s m asM.toArray below meth c H locs cells slots Q (F0 m pc ls (.int v :: .ref a :: rest)) := va_put (ty := .int) B.1 B.2.1 B.2.2.2.2.2.1 inlX6 tyX6 tyX6_ok nmX6 B.2.2.2.2.1 B.2.2.2.2.2.2.2.2.1 hP hD hS q0 he rfl 18 (by decide) (B.2.2.2.2.2.1 _ m_9_4) (fun _ h => h) rfl (by decide +kernel) rfl rfl hl d k
theorem g_X6_79 (B : Bd p s m meth c cc nL rtO RX6 D tys asM) {a : Nat} (hP : va_P D vwCl ws H) (q0 : Nat) {fs : List Value} (he : ws[q0]? = some (a, .inr (6, fs))) {v : Value} (hv : fs[0]? = some v) (d : decode cc pc = .ok (.getfield 79, 3)) (k : W p l e R s m asM.toArray below meth c H locs cells slots Q (F0 m (pc + 3) ls (v :: rest))) : W p l e R s m asM.toArray below meth c H locs cells slots Q (F0 m pc ls (.ref a :: rest)) := va_get B.1 B.2.1 B.2.2.2.2.2.1 inlX6 B.2.2.2.2.1 B.2.2.2.2.2.2.2.2.1 hP q0 he rfl 0 (by decide) (B.2.2.2.2.2.1 _ m_17_3) (fun _ h => h) hv d k
theorem p_X6_79 (B : Bd p s m meth c cc nL rtO RX6 D tys asM) {a : Nat} (hP : va_P D vwCl ws H) (hD : va_D A ws) (hS : va_S A H0 H locs) (q0 : Nat) {fs : List Value} (he : ws[q0]? = some (a, .inr (6, fs))) (hl : 0 < fs.length) {v : Int32} (d : decode cc pc = .ok (.putfield 79, 3)) (k : ∀ (H1 : Heap) (locs1 : List Loc), va_P D vwCl (ws.set q0 (a, .inr (6, fs.set 0 (.int v)))) H1 → va_D A (ws.set q0 (a, .inr (6, fs.set 0 (.int v)))) → va_S A H0 H1 locs1 → W p l e R s m asM.toArray below meth c H1 locs1 cells slots Q (F0 m (pc + 3) ls rest)) : W p l e R s m asM.toArray below meth c H locs cells slots Q (F0 m pc ls (.int v :: .ref a :: rest)) := va_put (ty := .int) B.1 B.2.1 B.2.2.2.2.2.1 inlX6 tyX6 tyX6_ok nmX6 B.2.2.2.2.1 B.2.2.2.2.2.2.2.2.1 hP hD hS q0 he rfl 0 (by decide) (B.2.2.2.2.2.1 _ m_17_3) (fun _ h => h) rfl (by decide +kernel) rfl rfl hl d k
theorem g_X6_108 (B : Bd p s m meth c cc nL rtO RX6 D tys asM) {a : Nat} (hP : va_P D vwCl ws H) (q0 : Nat) {fs : List Value} (he : ws[q0]? = some (a, .inr (6, fs))) {v : Value} (hv : fs[10]? = some v) (d : decode cc pc = .ok (.getfield 108, 3)) (k : W p l e R s m asM.toArray below meth c H locs cells slots Q (F0 m (pc + 3) ls (v :: rest))) : W p l e R s m asM.toArray below meth c H locs cells slots Q (F0 m pc ls (.ref a :: rest)) := va_get B.1 B.2.1 B.2.2.2.2.2.1 inlX6 B.2.2.2.2.1 B.2.2.2.2.2.2.2.2.1 hP q0 he rfl 10 (by decide) (B.2.2.2.2.2.1 _ m_23_5) (fun _ h => h) hv d k
theorem p_X6_108 (B : Bd p s m meth c cc nL rtO RX6 D tys asM) {a : Nat} (hP : va_P D vwCl ws H) (hD : va_D A ws) (hS : va_S A H0 H locs) (q0 : Nat) {fs : List Value} (he : ws[q0]? = some (a, .inr (6, fs))) (hl : 10 < fs.length) {v : Int32} (d : decode cc pc = .ok (.putfield 108, 3)) (k : ∀ (H1 : Heap) (locs1 : List Loc), va_P D vwCl (ws.set q0 (a, .inr (6, fs.set 10 (.int v)))) H1 → va_D A (ws.set q0 (a, .inr (6, fs.set 10 (.int v)))) → va_S A H0 H1 locs1 → W p l e R s m asM.toArray below meth c H1 locs1 cells slots Q (F0 m (pc + 3) ls rest)) : W p l e R s m asM.toArray below meth c H locs cells slots Q (F0 m pc ls (.int v :: .ref a :: rest)) := va_put (ty := .int) B.1 B.2.1 B.2.2.2.2.2.1 inlX6 tyX6 tyX6_ok nmX6 B.2.2.2.2.1 B.2.2.2.2.2.2.2.2.1 hP hD hS q0 he rfl 10 (by decide) (B.2.2.2.2.2.1 _ m_23_5) (fun _ h => h) rfl (by decide +kernel) rfl rfl hl d k
theorem g_X6_111 (B : Bd p s m meth c cc nL rtO RX6 D tys asM) {a : Nat} (hP : va_P D vwCl ws H) (q0 : Nat) {fs : List Value} (he : ws[q0]? = some (a, .inr (6, fs))) {v : Value} (hv : fs[17]? = some v) (d : decode cc pc = .ok (.getfield 111, 3)) (k : W p l e R s m asM.toArray below meth c H locs cells slots Q (F0 m (pc + 3) ls (v :: rest))) : W p l e R s m asM.toArray below meth c H locs cells slots Q (F0 m pc ls (.ref a :: rest)) := va_get B.1 B.2.1 B.2.2.2.2.2.1 inlX6 B.2.2.2.2.1 B.2.2.2.2.2.2.2.2.1 hP q0 he rfl 17 (by decide) (B.2.2.2.2.2.1 _ m_23_6) (fun _ h => h) hv d k
theorem p_X6_111 (B : Bd p s m meth c cc nL rtO RX6 D tys asM) {a : Nat} (hP : va_P D vwCl ws H) (hD : va_D A ws) (hS : va_S A H0 H locs) (q0 : Nat) {fs : List Value} (he : ws[q0]? = some (a, .inr (6, fs))) (hl : 17 < fs.length) {v : Int32} (d : decode cc pc = .ok (.putfield 111, 3)) (k : ∀ (H1 : Heap) (locs1 : List Loc), va_P D vwCl (ws.set q0 (a, .inr (6, fs.set 17 (.int v)))) H1 → va_D A (ws.set q0 (a, .inr (6, fs.set 17 (.int v)))) → va_S A H0 H1 locs1 → W p l e R s m asM.toArray below meth c H1 locs1 cells slots Q (F0 m (pc + 3) ls rest)) : W p l e R s m asM.toArray below meth c H locs cells slots Q (F0 m pc ls (.int v :: .ref a :: rest)) := va_put (ty := .int) B.1 B.2.1 B.2.2.2.2.2.1 inlX6 tyX6 tyX6_ok nmX6 B.2.2.2.2.1 B.2.2.2.2.2.2.2.2.1 hP hD hS q0 he rfl 17 (by decide) (B.2.2.2.2.2.1 _ m_23_6) (fun _ h => h) rfl (by decide +kernel) rfl rfl hl d k
theorem g_X6_121 (B : Bd p s m meth c cc nL rtO RX6 D tys asM) {a : Nat} (hP : va_P D vwCl ws H) (q0 : Nat) {fs : List Value} (he : ws[q0]? = some (a, .inr (6, fs))) {v : Value} (hv : fs[12]? = some v) (d : decode cc pc = .ok (.getfield 121, 3)) (k : W p l e R s m asM.toArray below meth c H locs cells slots Q (F0 m (pc + 3) ls (v :: rest))) : W p l e R s m asM.toArray below meth c H locs cells slots Q (F0 m pc ls (.ref a :: rest)) := va_get B.1 B.2.1 B.2.2.2.2.2.1 inlX6 B.2.2.2.2.1 B.2.2.2.2.2.2.2.2.1 hP q0 he rfl 12 (by decide) (B.2.2.2.2.2.1 _ m_22_16) (fun _ h => h) hv d k
theorem p_X6_121 (B : Bd p s m meth c cc nL rtO RX6 D tys asM) {a : Nat} (hP : va_P D vwCl ws H) (hD : va_D A ws) (hS : va_S A H0 H locs) (q0 : Nat) {fs : List Value} (he : ws[q0]? = some (a, .inr (6, fs))) (hl : 12 < fs.length) {v : Int32} (d : decode cc pc = .ok (.putfield 121, 3)) (k : ∀ (H1 : Heap) (locs1 : List Loc), va_P D vwCl (ws.set q0 (a, .inr (6, fs.set 12 (.int v)))) H1 → va_D A (ws.set q0 (a, .inr (6, fs.set 12 (.int v)))) → va_S A H0 H1 locs1 → W p l e R s m asM.toArray below meth c H1 locs1 cells slots Q (F0 m (pc + 3) ls rest)) : W p l e R s m asM.toArray below meth c H locs cells slots Q (F0 m pc ls (.int v :: .ref a :: rest)) := va_put (ty := .int) B.1 B.2.1 B.2.2.2.2.2.1 inlX6 tyX6 tyX6_ok nmX6 B.2.2.2.2.1 B.2.2.2.2.2.2.2.2.1 hP hD hS q0 he rfl 12 (by decide) (B.2.2.2.2.2.1 _ m_22_16) (fun _ h => h) rfl (by decide +kernel) rfl rfl hl d k
end XR
section XL
variable {R rm : Room} {s : State} {asM : List Value}
theorem l_RL_73 (hts : ∀ w ∈ wsL_law, w.before asM.toArray s = true) (hrm : rm.cells = 0 ∧ rm.slots = 0) (hR : rm.frames + 1 ≤ R.frames ∧ 8 + (1 + 11) + rm.locals ≤ R.locals) : CallB R s asM.toArray RL 73 yX5_init cX5_init 1 none (WS yX5_init cX5_init 1 none) rm 0 0 0 := x_cb hrm 0 hts m_1_9 m_1_2 m_1_7 (by decide +kernel) hR
theorem l_RX5_11 (hts : ∀ w ∈ wsL_law, w.before asM.toArray s = true) (hrm : rm.cells = 0 ∧ rm.slots = 0) (hR : rm.frames + 1 ≤ R.frames ∧ 8 + (1 + 11) + rm.locals ≤ R.locals) : CallB R s asM.toArray RX5 11 yX4_init cX4_init 1 none (WS yX4_init cX4_init 1 none) rm 0 0 0 := x_cb hrm 0 hts m_2_12 m_1_15 m_2_10 (by decide +kernel) hR
theorem l_RX4_21 (hts : ∀ w ∈ wsL_law, w.before asM.toArray s = true) (hrm : rm.cells = 0 ∧ rm.slots = 0) (hR : rm.frames + 1 ≤ R.frames ∧ 8 + (4 + 11) + rm.locals ≤ R.locals) : CallB R s asM.toArray RX4 21 yX4_findLeast cX4_findLeast 4 none (WS yX4_findLeast cX4_findLeast 4 none) rm 0 0 0 := x_cb hrm 0 hts m_2_21 m_1_15 m_2_18 (by decide +kernel) hR
theorem l_RX4_36 (hts : ∀ w ∈ wsL_law, w.before asM.toArray s = true) (hrm : rm.cells = 0 ∧ rm.slots = 0) (hR : rm.frames + 1 ≤ R.frames ∧ 8 + (5 + 11) + rm.locals ≤ R.locals) : CallB R s asM.toArray RX4 36 yX4_shortenThrough cX4_shortenThrough 5 none (WS yX4_shortenThrough cX4_shortenThrough 5 none) rm 0 0 1 := x_cb hrm 1 hts m_3_2 m_1_15 m_2_23 (by decide +kernel) hR
theorem l_RX4_24 (hts : ∀ w ∈ wsL_law, w.before asM.toArray s = true) (hrm : rm.cells = 0 ∧ rm.slots = 0) (hR : rm.frames + 1 ≤ R.frames ∧ 8 + (3 + 11) + rm.locals ≤ R.locals) : CallB R s asM.toArray RX4 24 yX4_findHops cX4_findHops 3 none (WS yX4_findHops cX4_findHops 3 none) rm 0 0 0 := x_cb hrm 0 hts m_3_6 m_1_15 m_3_3 (by decide +kernel) hR
theorem l_RX4_40 (hts : ∀ w ∈ wsL_law, w.before asM.toArray s = true) (hrm : rm.cells = 0 ∧ rm.slots = 0) (hR : rm.frames + 1 ≤ R.frames ∧ 8 + (6 + 11) + rm.locals ≤ R.locals) : CallB R s asM.toArray RX4 40 yX4_firstHop cX4_firstHop 6 (some .int) (WS yX4_firstHop cX4_firstHop 6 (some .int)) rm 0 0 2 := x_cb hrm 2 hts m_3_10 m_1_15 m_3_7 (by decide +kernel) hR
theorem l_RX4_43 (hts : ∀ w ∈ wsL_law, w.before asM.toArray s = true) (hrm : rm.cells = 0 ∧ rm.slots = 0) (hR : rm.frames + 1 ≤ R.frames ∧ 8 + (4 + 11) + rm.locals ≤ R.locals) : CallB R s asM.toArray RX4 43 yX4_distanceOf cX4_distanceOf 4 (some .int) (WS yX4_distanceOf cX4_distanceOf 4 (some .int)) rm 0 0 2 := x_cb hrm 2 hts m_3_14 m_1_15 m_3_11 (by decide +kernel) hR
theorem l_RX4_27 (hts : ∀ w ∈ wsL_law, w.before asM.toArray s = true) (hrm : rm.cells = 0 ∧ rm.slots = 0) (hR : rm.frames + 1 ≤ R.frames ∧ 8 + (2 + 11) + rm.locals ≤ R.locals) : CallB R s asM.toArray RX4 27 yX4_arePair cX4_arePair 2 (some .boolean) (WS yX4_arePair cX4_arePair 2 (some .boolean)) rm 0 0 2 := x_cb hrm 2 hts m_3_17 m_1_15 m_3_15 (by decide +kernel) hR
theorem l_RX4_32 (hts : ∀ w ∈ wsL_law, w.before asM.toArray s = true) (hrm : rm.cells = 0 ∧ rm.slots = 0) (hR : rm.frames + 1 ≤ R.frames ∧ 8 + (3 + 11) + rm.locals ≤ R.locals) : CallB R s asM.toArray RX4 32 yX4_costOf cX4_costOf 3 (some .int) (WS yX4_costOf cX4_costOf 3 (some .int)) rm 0 0 2 := x_cb hrm 2 hts m_3_21 m_1_15 m_3_18 (by decide +kernel) hR
theorem l_RX5_18 (hts : ∀ w ∈ wsL_law, w.before asM.toArray s = true) (hrm : rm.cells = 0 ∧ rm.slots = 0) (hR : rm.frames + 1 ≤ R.frames ∧ 8 + (3 + 11) + rm.locals ≤ R.locals) : CallB R s asM.toArray RX5 18 yX2_init cX2_init 3 none (WS yX2_init cX2_init 3 none) rm 0 0 0 := x_cb hrm 0 hts m_4_0 m_1_19 m_3_22 (by decide +kernel) hR
theorem l_RX2_24 (hts : ∀ w ∈ wsL_law, w.before asM.toArray s = true) (hrm : rm.cells = 0 ∧ rm.slots = 0) (hR : rm.frames + 1 ≤ R.frames ∧ 8 + (4 + 11) + rm.locals ≤ R.locals) : CallB R s asM.toArray RX2 24 yJ7_fill_53178 cJ7_fill_53178 4 none (WS yJ7_fill_53178 cJ7_fill_53178 4 none) rm 0 0 2 := x_cb hrm 2 hts m_4_9 m_4_8 m_4_6 (by decide +kernel) hR
theorem l_RX5_252 (hts : ∀ w ∈ wsL_law, w.before asM.toArray s = true) (hrm : rm.cells = 0 ∧ rm.slots = 0) (hR : rm.frames + 1 ≤ R.frames ∧ 8 + (1 + 11) + rm.locals ≤ R.locals) : CallB R s asM.toArray RX5 252 yX5_isRouter cX5_isRouter 1 (some .boolean) (WS yX5_isRouter cX5_isRouter 1 (some .boolean)) rm 0 0 1 := x_cb hrm 1 hts m_4_14 m_1_2 m_4_12 (by decide +kernel) hR
theorem l_RX5_257 (hts : ∀ w ∈ wsL_law, w.before asM.toArray s = true) (hrm : rm.cells = 0 ∧ rm.slots = 0) (hR : rm.frames + 1 ≤ R.frames ∧ 8 + (1 + 11) + rm.locals ≤ R.locals) : CallB R s asM.toArray RX5 257 yX5_isGroup cX5_isGroup 1 (some .boolean) (WS yX5_isGroup cX5_isGroup 1 (some .boolean)) rm 0 0 1 := x_cb hrm 1 hts m_4_17 m_1_2 m_4_15 (by decide +kernel) hR
theorem l_RX2_34 (hts : ∀ w ∈ wsL_law, w.before asM.toArray s = true) (hrm : rm.cells = 0 ∧ rm.slots = 0) (hR : rm.frames + 1 ≤ R.frames ∧ 8 + (3 + 11) + rm.locals ≤ R.locals) : CallB R s asM.toArray RX2 34 yX2_setRoot cX2_setRoot 3 none (WS yX2_setRoot cX2_setRoot 3 none) rm 0 0 2 := x_cb hrm 2 hts m_4_21 m_1_19 m_4_18 (by decide +kernel) hR
theorem l_RL_76 (hts : ∀ w ∈ wsL_law, w.before asM.toArray s = true) (hrm : rm.cells = 0 ∧ rm.slots = 0) (hR : rm.frames + 1 ≤ R.frames ∧ 8 + (2 + 11) + rm.locals ≤ R.locals) : CallB R s asM.toArray RL 76 yX6_init cX6_init 2 none (WS yX6_init cX6_init 2 none) rm 0 0 0 := x_cb hrm 0 hts m_5_20 m_1_5 m_5_18 (by decide +kernel) hR
theorem l_RX6_54 (hts : ∀ w ∈ wsL_law, w.before asM.toArray s = true) (hrm : rm.cells = 0 ∧ rm.slots = 0) (hR : rm.frames + 1 ≤ R.frames ∧ 8 + (4 + 11) + rm.locals ≤ R.locals) : CallB R s asM.toArray RX6 54 yX6_measures cX6_measures 4 none (WS yX6_measures cX6_measures 4 none) rm 0 0 0 := x_cb hrm 0 hts m_6_16 m_1_5 m_6_13 (by decide +kernel) hR
theorem l_RL_7 (hts : ∀ w ∈ wsL_law, w.before asM.toArray s = true) (hrm : rm.cells = 0 ∧ rm.slots = 0) (hR : rm.frames + 1 ≤ R.frames ∧ 8 + (5 + 11) + rm.locals ≤ R.locals) : CallB R s asM.toArray RL 7 yX5_setLink cX5_setLink 5 (some .int) (WS yX5_setLink cX5_setLink 5 (some .int)) rm 0 0 3 := x_cb hrm 3 hts m_7_3 m_1_2 m_7_0 (by decide +kernel) hR
theorem l_RX5_48 (hts : ∀ w ∈ wsL_law, w.before asM.toArray s = true) (hrm : rm.cells = 0 ∧ rm.slots = 0) (hR : rm.frames + 1 ≤ R.frames ∧ 8 + (1 + 11) + rm.locals ≤ R.locals) : CallB R s asM.toArray RX5 48 yX5_checkRouter cX5_checkRouter 1 none (WS yX5_checkRouter cX5_checkRouter 1 none) rm 0 0 1 := x_cb hrm 1 hts m_7_8 m_1_2 m_7_6 (by decide +kernel) hR
theorem l_RX5_59 (hts : ∀ w ∈ wsL_law, w.before asM.toArray s = true) (hrm : rm.cells = 0 ∧ rm.slots = 0) (hR : rm.frames + 1 ≤ R.frames ∧ 8 + (3 + 11) + rm.locals ≤ R.locals) : CallB R s asM.toArray RX5 59 yX4_costOf cX4_costOf 3 (some .int) (WS yX4_costOf cX4_costOf 3 (some .int)) rm 0 0 2 := x_cb hrm 2 hts m_3_21 m_1_15 m_7_11 (by decide +kernel) hR
theorem l_RX5_63 (hts : ∀ w ∈ wsL_law, w.before asM.toArray s = true) (hrm : rm.cells = 0 ∧ rm.slots = 0) (hR : rm.frames + 1 ≤ R.frames ∧ 8 + (4 + 11) + rm.locals ≤ R.locals) : CallB R s asM.toArray RX5 63 yX4_change cX4_change 4 none (WS yX4_change cX4_change 4 none) rm 0 0 3 := x_cb hrm 3 hts m_7_15 m_1_15 m_7_12 (by decide +kernel) hR
theorem l_RX5_67 (hts : ∀ w ∈ wsL_law, w.before asM.toArray s = true) (hrm : rm.cells = 0 ∧ rm.slots = 0) (hR : rm.frames + 1 ≤ R.frames ∧ 8 + (4 + 11) + rm.locals ≤ R.locals) : CallB R s asM.toArray RX5 67 yX2_buildAnew cX2_buildAnew 4 none (WS yX2_buildAnew cX2_buildAnew 4 none) rm 0 0 1 := x_cb hrm 1 hts m_7_19 m_1_19 m_7_16 (by decide +kernel) hR
theorem l_RX5_78 (hts : ∀ w ∈ wsL_law, w.before asM.toArray s = true) (hrm : rm.cells = 0 ∧ rm.slots = 0) (hR : rm.frames + 1 ≤ R.frames ∧ 8 + (1 + 11) + rm.locals ≤ R.locals) : CallB R s asM.toArray RX5 78 yX5_bit cX5_bit 1 (some .int) (WS yX5_bit cX5_bit 1 (some .int)) rm 0 0 1 := x_cb hrm 1 hts m_8_0 m_1_2 m_7_22 (by decide +kernel) hR
theorem l_RX2_49 (hts : ∀ w ∈ wsL_law, w.before asM.toArray s = true) (hrm : rm.cells = 0 ∧ rm.slots = 0) (hR : rm.frames + 1 ≤ R.frames ∧ 8 + (8 + 11) + rm.locals ≤ R.locals) : CallB R s asM.toArray RX2 49 yX2_graft cX2_graft 8 none (WS yX2_graft cX2_graft 8 none) rm 0 0 3 := x_cb hrm 3 hts m_8_4 m_1_19 m_8_1 (by decide +kernel) hR
theorem l_RX2_71 (hts : ∀ w ∈ wsL_law, w.before asM.toArray s = true) (hrm : rm.cells = 0 ∧ rm.slots = 0) (hR : rm.frames + 1 ≤ R.frames ∧ 8 + (2 + 11) + rm.locals ≤ R.locals) : CallB R s asM.toArray RX2 71 yX2_rootOf cX2_rootOf 2 (some .int) (WS yX2_rootOf cX2_rootOf 2 (some .int)) rm 0 0 1 := x_cb hrm 1 hts m_8_8 m_1_19 m_8_5 (by decide +kernel) hR
theorem l_RX2_68 (hts : ∀ w ∈ wsL_law, w.before asM.toArray s = true) (hrm : rm.cells = 0 ∧ rm.slots = 0) (hR : rm.frames + 1 ≤ R.frames ∧ 8 + (3 + 11) + rm.locals ≤ R.locals) : CallB R s asM.toArray RX2 68 yX2_parentOf cX2_parentOf 3 (some .int) (WS yX2_parentOf cX2_parentOf 3 (some .int)) rm 0 0 2 := x_cb hrm 2 hts m_8_12 m_1_19 m_8_9 (by decide +kernel) hR
theorem l_RX2_74 (hts : ∀ w ∈ wsL_law, w.before asM.toArray s = true) (hrm : rm.cells = 0 ∧ rm.slots = 0) (hR : rm.frames + 1 ≤ R.frames ∧ 8 + (3 + 11) + rm.locals ≤ R.locals) : CallB R s asM.toArray RX2 74 yX4_hopOf cX4_hopOf 3 (some .int) (WS yX4_hopOf cX4_hopOf 3 (some .int)) rm 0 0 2 := x_cb hrm 2 hts m_8_16 m_1_15 m_8_13 (by decide +kernel) hR
theorem l_RL_82 (hts : ∀ w ∈ wsL_law, w.before asM.toArray s = true) (hrm : rm.cells = 0 ∧ rm.slots = 0) (hR : rm.frames + 1 ≤ R.frames ∧ 8 + (5 + 11) + rm.locals ≤ R.locals) : CallB R s asM.toArray RL 82 yX6_setLink cX6_setLink 5 (some .int) (WS yX6_setLink cX6_setLink 5 (some .int)) rm 0 0 3 := x_cb hrm 3 hts m_8_20 m_1_5 m_8_17 (by decide +kernel) hR
theorem l_RX6_86 (hts : ∀ w ∈ wsL_law, w.before asM.toArray s = true) (hrm : rm.cells = 0 ∧ rm.slots = 0) (hR : rm.frames + 1 ≤ R.frames ∧ 8 + (1 + 11) + rm.locals ≤ R.locals) : CallB R s asM.toArray RX6 86 yX6_isRouter cX6_isRouter 1 (some .boolean) (WS yX6_isRouter cX6_isRouter 1 (some .boolean)) rm 0 0 1 := x_cb hrm 1 hts m_8_23 m_1_5 m_8_21 (by decide +kernel) hR
theorem l_RX6_90 (hts : ∀ w ∈ wsL_law, w.before asM.toArray s = true) (hrm : rm.cells = 0 ∧ rm.slots = 0) (hR : rm.frames + 1 ≤ R.frames ∧ 8 + (2 + 11) + rm.locals ≤ R.locals) : CallB R s asM.toArray RX6 90 yX6_can cX6_can 2 (some .boolean) (WS yX6_can cX6_can 2 (some .boolean)) rm 0 0 1 := x_cb hrm 1 hts m_9_3 m_1_5 m_9_0 (by decide +kernel) hR
theorem l_RX6_93 (hts : ∀ w ∈ wsL_law, w.before asM.toArray s = true) (hrm : rm.cells = 0 ∧ rm.slots = 0) (hR : rm.frames + 1 ≤ R.frames ∧ 8 + (3 + 11) + rm.locals ≤ R.locals) : CallB R s asM.toArray RX6 93 yX6_buildsAnew cX6_buildsAnew 3 none (WS yX6_buildsAnew cX6_buildsAnew 3 none) rm 0 0 0 := x_cb hrm 0 hts m_9_8 m_1_5 m_9_5 (by decide +kernel) hR
theorem l_RX6_72 (hts : ∀ w ∈ wsL_law, w.before asM.toArray s = true) (hrm : rm.cells = 0 ∧ rm.slots = 0) (hR : rm.frames + 1 ≤ R.frames ∧ 8 + (4 + 11) + rm.locals ≤ R.locals) : CallB R s asM.toArray RX6 72 yX6_wants cX6_wants 4 (some .boolean) (WS yX6_wants cX6_wants 4 (some .boolean)) rm 0 0 2 := x_cb hrm 2 hts m_9_12 m_1_5 m_9_9 (by decide +kernel) hR
theorem l_RX6_82 (hts : ∀ w ∈ wsL_law, w.before asM.toArray s = true) (hrm : rm.cells = 0 ∧ rm.slots = 0) (hR : rm.frames + 1 ≤ R.frames ∧ 8 + (7 + 11) + rm.locals ≤ R.locals) : CallB R s asM.toArray RX6 82 yX6_graft cX6_graft 7 none (WS yX6_graft cX6_graft 7 none) rm 0 0 2 := x_cb hrm 2 hts m_9_16 m_1_5 m_9_13 (by decide +kernel) hR
theorem l_RX6_65 (hts : ∀ w ∈ wsL_law, w.before asM.toArray s = true) (hrm : rm.cells = 0 ∧ rm.slots = 0) (hR : rm.frames + 1 ≤ R.frames ∧ 8 + (2 + 11) + rm.locals ≤ R.locals) : CallB R s asM.toArray RX6 65 yX6_root cX6_root 2 (some .int) (WS yX6_root cX6_root 2 (some .int)) rm 0 0 1 := x_cb hrm 1 hts m_9_20 m_1_5 m_9_17 (by decide +kernel) hR
theorem l_RX6_61 (hts : ∀ w ∈ wsL_law, w.before asM.toArray s = true) (hrm : rm.cells = 0 ∧ rm.slots = 0) (hR : rm.frames + 1 ≤ R.frames ∧ 8 + (7 + 11) + rm.locals ≤ R.locals) : CallB R s asM.toArray RX6 61 yX6_meets cX6_meets 7 (some .int) (WS yX6_meets cX6_meets 7 (some .int)) rm 0 0 1 := x_cb hrm 1 hts m_10_0 m_1_5 m_9_21 (by decide +kernel) hR
theorem l_RX6_68 (hts : ∀ w ∈ wsL_law, w.before asM.toArray s = true) (hrm : rm.cells = 0 ∧ rm.slots = 0) (hR : rm.frames + 1 ≤ R.frames ∧ 8 + (7 + 11) + rm.locals ≤ R.locals) : CallB R s asM.toArray RX6 68 yX6_hop cX6_hop 7 (some .int) (WS yX6_hop cX6_hop 7 (some .int)) rm 0 0 2 := x_cb hrm 2 hts m_10_4 m_1_5 m_10_1 (by decide +kernel) hR
theorem l_RL_83 (hts : ∀ w ∈ wsL_law, w.before asM.toArray s = true) (hrm : rm.cells = 0 ∧ rm.slots = 0) (hR : rm.frames + 1 ≤ R.frames ∧ 8 + (1 + 11) + rm.locals ≤ R.locals) : CallB R s asM.toArray RL 83 yX6_thrown cX6_thrown 1 (some .int) (WS yX6_thrown cX6_thrown 1 (some .int)) rm 0 0 0 := x_cb hrm 0 hts m_10_8 m_1_5 m_10_5 (by decide +kernel) hR
theorem l_RL_17 (hts : ∀ w ∈ wsL_law, w.before asM.toArray s = true) (hrm : rm.cells = 0 ∧ rm.slots = 0) (hR : rm.frames + 1 ≤ R.frames ∧ 8 + (4 + 11) + rm.locals ≤ R.locals) : CallB R s asM.toArray RL 17 yX5_setCandidate cX5_setCandidate 4 (some .boolean) (WS yX5_setCandidate cX5_setCandidate 4 (some .boolean)) rm 0 0 2 := x_cb hrm 2 hts m_10_15 m_1_2 m_10_12 (by decide +kernel) hR
theorem l_RX5_74 (hts : ∀ w ∈ wsL_law, w.before asM.toArray s = true) (hrm : rm.cells = 0 ∧ rm.slots = 0) (hR : rm.frames + 1 ≤ R.frames ∧ 8 + (2 + 11) + rm.locals ≤ R.locals) : CallB R s asM.toArray RX5 74 yX5_has cX5_has 2 (some .boolean) (WS yX5_has cX5_has 2 (some .boolean)) rm 0 0 2 := x_cb hrm 2 hts m_7_21 m_1_2 m_10_17 (by decide +kernel) hR
theorem l_RX5_82 (hts : ∀ w ∈ wsL_law, w.before asM.toArray s = true) (hrm : rm.cells = 0 ∧ rm.slots = 0) (hR : rm.frames + 1 ≤ R.frames ∧ 8 + (1 + 11) + rm.locals ≤ R.locals) : CallB R s asM.toArray RX5 82 yX5_sharedTree cX5_sharedTree 1 (some .int) (WS yX5_sharedTree cX5_sharedTree 1 (some .int)) rm 0 0 1 := x_cb hrm 1 hts m_10_20 m_1_2 m_10_18 (by decide +kernel) hR
theorem l_RX5_85 (hts : ∀ w ∈ wsL_law, w.before asM.toArray s = true) (hrm : rm.cells = 0 ∧ rm.slots = 0) (hR : rm.frames + 1 ≤ R.frames ∧ 8 + (6 + 11) + rm.locals ≤ R.locals) : CallB R s asM.toArray RX5 85 yX5_bestCandidate cX5_bestCandidate 6 (some .int) (WS yX5_bestCandidate cX5_bestCandidate 6 (some .int)) rm 0 0 1 := x_cb hrm 1 hts m_11_0 m_1_2 m_10_21 (by decide +kernel) hR
theorem l_RX5_88 (hts : ∀ w ∈ wsL_law, w.before asM.toArray s = true) (hrm : rm.cells = 0 ∧ rm.slots = 0) (hR : rm.frames + 1 ≤ R.frames ∧ 8 + (3 + 11) + rm.locals ≤ R.locals) : CallB R s asM.toArray RX5 88 yX2_setRoot cX2_setRoot 3 none (WS yX2_setRoot cX2_setRoot 3 none) rm 0 0 2 := x_cb hrm 2 hts m_4_21 m_1_19 m_11_1 (by decide +kernel) hR
theorem l_RL_90 (hts : ∀ w ∈ wsL_law, w.before asM.toArray s = true) (hrm : rm.cells = 0 ∧ rm.slots = 0) (hR : rm.frames + 1 ≤ R.frames ∧ 8 + (3 + 11) + rm.locals ≤ R.locals) : CallB R s asM.toArray RL 90 yX6_setCandidate cX6_setCandidate 3 (some .boolean) (WS yX6_setCandidate cX6_setCandidate 3 (some .boolean)) rm 0 0 2 := x_cb hrm 2 hts m_11_5 m_1_5 m_11_2 (by decide +kernel) hR
theorem l_RL_21 (hts : ∀ w ∈ wsL_law, w.before asM.toArray s = true) (hrm : rm.cells = 0 ∧ rm.slots = 0) (hR : rm.frames + 1 ≤ R.frames ∧ 8 + (3 + 11) + rm.locals ≤ R.locals) : CallB R s asM.toArray RL 21 yX5_setLimit cX5_setLimit 3 (some .int) (WS yX5_setLimit cX5_setLimit 3 (some .int)) rm 0 0 1 := x_cb hrm 1 hts m_11_12 m_1_2 m_11_9 (by decide +kernel) hR
theorem l_RL_94 (hts : ∀ w ∈ wsL_law, w.before asM.toArray s = true) (hrm : rm.cells = 0 ∧ rm.slots = 0) (hR : rm.frames + 1 ≤ R.frames ∧ 8 + (3 + 11) + rm.locals ≤ R.locals) : CallB R s asM.toArray RL 94 yX6_setLimit cX6_setLimit 3 (some .int) (WS yX6_setLimit cX6_setLimit 3 (some .int)) rm 0 0 1 := x_cb hrm 1 hts m_11_16 m_1_5 m_11_13 (by decide +kernel) hR
theorem l_RL_25 (hts : ∀ w ∈ wsL_law, w.before asM.toArray s = true) (hrm : rm.cells = 0 ∧ rm.slots = 0) (hR : rm.frames + 1 ≤ R.frames ∧ 8 + (3 + 11) + rm.locals ≤ R.locals) : CallB R s asM.toArray RL 25 yX5_distance cX5_distance 3 (some .int) (WS yX5_distance cX5_distance 3 (some .int)) rm 0 0 2 := x_cb hrm 2 hts m_11_23 m_1_2 m_11_20 (by decide +kernel) hR
theorem l_RX5_94 (hts : ∀ w ∈ wsL_law, w.before asM.toArray s = true) (hrm : rm.cells = 0 ∧ rm.slots = 0) (hR : rm.frames + 1 ≤ R.frames ∧ 8 + (4 + 11) + rm.locals ≤ R.locals) : CallB R s asM.toArray RX5 94 yX4_distanceOf cX4_distanceOf 4 (some .int) (WS yX4_distanceOf cX4_distanceOf 4 (some .int)) rm 0 0 2 := x_cb hrm 2 hts m_3_14 m_1_15 m_12_0 (by decide +kernel) hR
theorem l_RL_98 (hts : ∀ w ∈ wsL_law, w.before asM.toArray s = true) (hrm : rm.cells = 0 ∧ rm.slots = 0) (hR : rm.frames + 1 ≤ R.frames ∧ 8 + (4 + 11) + rm.locals ≤ R.locals) : CallB R s asM.toArray RL 98 yX6_distance cX6_distance 4 (some .int) (WS yX6_distance cX6_distance 4 (some .int)) rm 0 0 2 := x_cb hrm 2 hts m_12_4 m_1_5 m_12_1 (by decide +kernel) hR
theorem l_RL_29 (hts : ∀ w ∈ wsL_law, w.before asM.toArray s = true) (hrm : rm.cells = 0 ∧ rm.slots = 0) (hR : rm.frames + 1 ≤ R.frames ∧ 8 + (3 + 11) + rm.locals ≤ R.locals) : CallB R s asM.toArray RL 29 yX5_nextHop cX5_nextHop 3 (some .int) (WS yX5_nextHop cX5_nextHop 3 (some .int)) rm 0 0 2 := x_cb hrm 2 hts m_12_11 m_1_2 m_12_8 (by decide +kernel) hR
theorem l_RX5_97 (hts : ∀ w ∈ wsL_law, w.before asM.toArray s = true) (hrm : rm.cells = 0 ∧ rm.slots = 0) (hR : rm.frames + 1 ≤ R.frames ∧ 8 + (3 + 11) + rm.locals ≤ R.locals) : CallB R s asM.toArray RX5 97 yX4_hopOf cX4_hopOf 3 (some .int) (WS yX4_hopOf cX4_hopOf 3 (some .int)) rm 0 0 2 := x_cb hrm 2 hts m_8_16 m_1_15 m_12_12 (by decide +kernel) hR
theorem l_RL_101 (hts : ∀ w ∈ wsL_law, w.before asM.toArray s = true) (hrm : rm.cells = 0 ∧ rm.slots = 0) (hR : rm.frames + 1 ≤ R.frames ∧ 8 + (3 + 11) + rm.locals ≤ R.locals) : CallB R s asM.toArray RL 101 yX6_nextHop cX6_nextHop 3 (some .int) (WS yX6_nextHop cX6_nextHop 3 (some .int)) rm 0 0 2 := x_cb hrm 2 hts m_12_16 m_1_5 m_12_13 (by decide +kernel) hR
theorem l_RL_32 (hts : ∀ w ∈ wsL_law, w.before asM.toArray s = true) (hrm : rm.cells = 0 ∧ rm.slots = 0) (hR : rm.frames + 1 ≤ R.frames ∧ 8 + (2 + 11) + rm.locals ≤ R.locals) : CallB R s asM.toArray RL 32 yX5_rendezvous cX5_rendezvous 2 (some .int) (WS yX5_rendezvous cX5_rendezvous 2 (some .int)) rm 0 0 1 := x_cb hrm 1 hts m_12_23 m_1_2 m_12_20 (by decide +kernel) hR
theorem l_RX5_100 (hts : ∀ w ∈ wsL_law, w.before asM.toArray s = true) (hrm : rm.cells = 0 ∧ rm.slots = 0) (hR : rm.frames + 1 ≤ R.frames ∧ 8 + (1 + 11) + rm.locals ≤ R.locals) : CallB R s asM.toArray RX5 100 yX5_checkGroup cX5_checkGroup 1 none (WS yX5_checkGroup cX5_checkGroup 1 none) rm 0 0 1 := x_cb hrm 1 hts m_13_2 m_1_2 m_13_0 (by decide +kernel) hR
theorem l_RX5_103 (hts : ∀ w ∈ wsL_law, w.before asM.toArray s = true) (hrm : rm.cells = 0 ∧ rm.slots = 0) (hR : rm.frames + 1 ≤ R.frames ∧ 8 + (2 + 11) + rm.locals ≤ R.locals) : CallB R s asM.toArray RX5 103 yX2_rootOf cX2_rootOf 2 (some .int) (WS yX2_rootOf cX2_rootOf 2 (some .int)) rm 0 0 1 := x_cb hrm 1 hts m_8_8 m_1_19 m_13_3 (by decide +kernel) hR
theorem l_RL_104 (hts : ∀ w ∈ wsL_law, w.before asM.toArray s = true) (hrm : rm.cells = 0 ∧ rm.slots = 0) (hR : rm.frames + 1 ≤ R.frames ∧ 8 + (2 + 11) + rm.locals ≤ R.locals) : CallB R s asM.toArray RL 104 yX6_rendezvous cX6_rendezvous 2 (some .int) (WS yX6_rendezvous cX6_rendezvous 2 (some .int)) rm 0 0 1 := x_cb hrm 1 hts m_13_7 m_1_5 m_13_4 (by decide +kernel) hR
theorem l_RX6_96 (hts : ∀ w ∈ wsL_law, w.before asM.toArray s = true) (hrm : rm.cells = 0 ∧ rm.slots = 0) (hR : rm.frames + 1 ≤ R.frames ∧ 8 + (1 + 11) + rm.locals ≤ R.locals) : CallB R s asM.toArray RX6 96 yX6_isGroup cX6_isGroup 1 (some .boolean) (WS yX6_isGroup cX6_isGroup 1 (some .boolean)) rm 0 0 1 := x_cb hrm 1 hts m_13_10 m_1_5 m_13_8 (by decide +kernel) hR
theorem l_RL_35 (hts : ∀ w ∈ wsL_law, w.before asM.toArray s = true) (hrm : rm.cells = 0 ∧ rm.slots = 0) (hR : rm.frames + 1 ≤ R.frames ∧ 8 + (3 + 11) + rm.locals ≤ R.locals) : CallB R s asM.toArray RL 35 yX5_join cX5_join 3 (some .int) (WS yX5_join cX5_join 3 (some .int)) rm 0 0 2 := x_cb hrm 2 hts m_13_18 m_1_2 m_13_15 (by decide +kernel) hR
theorem l_RX5_106 (hts : ∀ w ∈ wsL_law, w.before asM.toArray s = true) (hrm : rm.cells = 0 ∧ rm.slots = 0) (hR : rm.frames + 1 ≤ R.frames ∧ 8 + (3 + 11) + rm.locals ≤ R.locals) : CallB R s asM.toArray RX5 106 yX5_isMember cX5_isMember 3 (some .boolean) (WS yX5_isMember cX5_isMember 3 (some .boolean)) rm 0 0 2 := x_cb hrm 2 hts m_14_0 m_1_2 m_13_21 (by decide +kernel) hR
theorem l_RX5_118 (hts : ∀ w ∈ wsL_law, w.before asM.toArray s = true) (hrm : rm.cells = 0 ∧ rm.slots = 0) (hR : rm.frames + 1 ≤ R.frames ∧ 8 + (2 + 11) + rm.locals ≤ R.locals) : CallB R s asM.toArray RX5 118 yX5_membersOf cX5_membersOf 2 (some .int) (WS yX5_membersOf cX5_membersOf 2 (some .int)) rm 0 0 1 := x_cb hrm 1 hts m_14_4 m_1_2 m_14_1 (by decide +kernel) hR
theorem l_RX5_140 (hts : ∀ w ∈ wsL_law, w.before asM.toArray s = true) (hrm : rm.cells = 0 ∧ rm.slots = 0) (hR : rm.frames + 1 ≤ R.frames ∧ 8 + (2 + 11) + rm.locals ≤ R.locals) : CallB R s asM.toArray RX5 140 yX2_wantingOf cX2_wantingOf 2 (some .int) (WS yX2_wantingOf cX2_wantingOf 2 (some .int)) rm 0 0 1 := x_cb hrm 1 hts m_14_8 m_1_19 m_14_5 (by decide +kernel) hR
theorem l_RX5_114 (hts : ∀ w ∈ wsL_law, w.before asM.toArray s = true) (hrm : rm.cells = 0 ∧ rm.slots = 0) (hR : rm.frames + 1 ≤ R.frames ∧ 8 + (4 + 11) + rm.locals ≤ R.locals) : CallB R s asM.toArray RX5 114 yX2_want cX2_want 4 none (WS yX2_want cX2_want 4 none) rm 0 0 3 := x_cb hrm 3 hts m_14_12 m_1_19 m_14_9 (by decide +kernel) hR
theorem l_RX5_121 (hts : ∀ w ∈ wsL_law, w.before asM.toArray s = true) (hrm : rm.cells = 0 ∧ rm.slots = 0) (hR : rm.frames + 1 ≤ R.frames ∧ 8 + (1 + 11) + rm.locals ≤ R.locals) : CallB R s asM.toArray RX5 121 yJ6_bitCount_0f7a4 cJ6_bitCount_0f7a4 1 (some .int) (WS yJ6_bitCount_0f7a4 cJ6_bitCount_0f7a4 1 (some .int)) rm 0 0 1 := x_cb hrm 1 hts m_14_16 m_14_15 m_14_13 (by decide +kernel) hR
theorem l_RL_107 (hts : ∀ w ∈ wsL_law, w.before asM.toArray s = true) (hrm : rm.cells = 0 ∧ rm.slots = 0) (hR : rm.frames + 1 ≤ R.frames ∧ 8 + (3 + 11) + rm.locals ≤ R.locals) : CallB R s asM.toArray RL 107 yX6_join cX6_join 3 (some .int) (WS yX6_join cX6_join 3 (some .int)) rm 0 0 2 := x_cb hrm 2 hts m_14_23 m_1_5 m_14_20 (by decide +kernel) hR
theorem l_RX6_99 (hts : ∀ w ∈ wsL_law, w.before asM.toArray s = true) (hrm : rm.cells = 0 ∧ rm.slots = 0) (hR : rm.frames + 1 ≤ R.frames ∧ 8 + (3 + 11) + rm.locals ≤ R.locals) : CallB R s asM.toArray RX6 99 yX6_isMember cX6_isMember 3 (some .boolean) (WS yX6_isMember cX6_isMember 3 (some .boolean)) rm 0 0 2 := x_cb hrm 2 hts m_15_3 m_1_5 m_15_0 (by decide +kernel) hR
theorem l_RX6_102 (hts : ∀ w ∈ wsL_law, w.before asM.toArray s = true) (hrm : rm.cells = 0 ∧ rm.slots = 0) (hR : rm.frames + 1 ≤ R.frames ∧ 8 + (3 + 11) + rm.locals ≤ R.locals) : CallB R s asM.toArray RX6 102 yX6_many cX6_many 3 (some .int) (WS yX6_many cX6_many 3 (some .int)) rm 0 0 1 := x_cb hrm 1 hts m_15_6 m_1_5 m_15_4 (by decide +kernel) hR
theorem l_RL_40 (hts : ∀ w ∈ wsL_law, w.before asM.toArray s = true) (hrm : rm.cells = 0 ∧ rm.slots = 0) (hR : rm.frames + 1 ≤ R.frames ∧ 8 + (4 + 11) + rm.locals ≤ R.locals) : CallB R s asM.toArray RL 40 yX5_leave cX5_leave 4 (some .int) (WS yX5_leave cX5_leave 4 (some .int)) rm 0 0 2 := x_cb hrm 2 hts m_15_13 m_1_2 m_15_10 (by decide +kernel) hR
theorem l_RX5_131 (hts : ∀ w ∈ wsL_law, w.before asM.toArray s = true) (hrm : rm.cells = 0 ∧ rm.slots = 0) (hR : rm.frames + 1 ≤ R.frames ∧ 8 + (4 + 11) + rm.locals ≤ R.locals) : CallB R s asM.toArray RX5 131 yX2_unwant cX2_unwant 4 none (WS yX2_unwant cX2_unwant 4 none) rm 0 0 3 := x_cb hrm 3 hts m_15_18 m_1_19 m_15_15 (by decide +kernel) hR
theorem l_RX2_53 (hts : ∀ w ∈ wsL_law, w.before asM.toArray s = true) (hrm : rm.cells = 0 ∧ rm.slots = 0) (hR : rm.frames + 1 ≤ R.frames ∧ 8 + (5 + 11) + rm.locals ≤ R.locals) : CallB R s asM.toArray RX2 53 yX2_letLeave cX2_letLeave 5 none (WS yX2_letLeave cX2_letLeave 5 none) rm 0 0 3 := x_cb hrm 3 hts m_15_22 m_1_19 m_15_19 (by decide +kernel) hR
theorem l_RX2_79 (hts : ∀ w ∈ wsL_law, w.before asM.toArray s = true) (hrm : rm.cells = 0 ∧ rm.slots = 0) (hR : rm.frames + 1 ≤ R.frames ∧ 8 + (3 + 11) + rm.locals ≤ R.locals) : CallB R s asM.toArray RX2 79 yX2_isNeeded cX2_isNeeded 3 (some .boolean) (WS yX2_isNeeded cX2_isNeeded 3 (some .boolean)) rm 0 0 2 := x_cb hrm 2 hts m_16_2 m_1_19 m_15_23 (by decide +kernel) hR
theorem l_RX2_82 (hts : ∀ w ∈ wsL_law, w.before asM.toArray s = true) (hrm : rm.cells = 0 ∧ rm.slots = 0) (hR : rm.frames + 1 ≤ R.frames ∧ 8 + (2 + 11) + rm.locals ≤ R.locals) : CallB R s asM.toArray RX2 82 yX2_wantingOf cX2_wantingOf 2 (some .int) (WS yX2_wantingOf cX2_wantingOf 2 (some .int)) rm 0 0 1 := x_cb hrm 1 hts m_14_8 m_1_19 m_16_3 (by decide +kernel) hR
theorem l_RX2_85 (hts : ∀ w ∈ wsL_law, w.before asM.toArray s = true) (hrm : rm.cells = 0 ∧ rm.slots = 0) (hR : rm.frames + 1 ≤ R.frames ∧ 8 + (5 + 11) + rm.locals ≤ R.locals) : CallB R s asM.toArray RX2 85 yX2_branchesFrom cX2_branchesFrom 5 (some .int) (WS yX2_branchesFrom cX2_branchesFrom 5 (some .int)) rm 0 0 2 := x_cb hrm 2 hts m_16_7 m_1_19 m_16_4 (by decide +kernel) hR
theorem l_RX5_134 (hts : ∀ w ∈ wsL_law, w.before asM.toArray s = true) (hrm : rm.cells = 0 ∧ rm.slots = 0) (hR : rm.frames + 1 ≤ R.frames ∧ 8 + (2 + 11) + rm.locals ≤ R.locals) : CallB R s asM.toArray RX5 134 yX5_sourceTree cX5_sourceTree 2 (some .int) (WS yX5_sourceTree cX5_sourceTree 2 (some .int)) rm 0 0 2 := x_cb hrm 2 hts m_4_11 m_1_2 m_16_8 (by decide +kernel) hR
theorem l_RX5_137 (hts : ∀ w ∈ wsL_law, w.before asM.toArray s = true) (hrm : rm.cells = 0 ∧ rm.slots = 0) (hR : rm.frames + 1 ≤ R.frames ∧ 8 + (4 + 11) + rm.locals ≤ R.locals) : CallB R s asM.toArray RX5 137 yX1_forget cX1_forget 4 none (WS yX1_forget cX1_forget 4 none) rm 0 0 3 := x_cb hrm 3 hts m_16_12 m_2_7 m_16_9 (by decide +kernel) hR
theorem l_RX1_15 (hts : ∀ w ∈ wsL_law, w.before asM.toArray s = true) (hrm : rm.cells = 0 ∧ rm.slots = 0) (hR : rm.frames + 1 ≤ R.frames ∧ 8 + (3 + 11) + rm.locals ≤ R.locals) : CallB R s asM.toArray RX1 15 yX1_isPlace cX1_isPlace 3 (some .boolean) (WS yX1_isPlace cX1_isPlace 3 (some .boolean)) rm 0 0 3 := x_cb hrm 3 hts m_16_15 m_2_7 m_16_13 (by decide +kernel) hR
theorem l_RX1_19 (hts : ∀ w ∈ wsL_law, w.before asM.toArray s = true) (hrm : rm.cells = 0 ∧ rm.slots = 0) (hR : rm.frames + 1 ≤ R.frames ∧ 8 + (3 + 11) + rm.locals ≤ R.locals) : CallB R s asM.toArray RX1 19 yX1_placeOf cX1_placeOf 3 (some .int) (WS yX1_placeOf cX1_placeOf 3 (some .int)) rm 0 0 3 := x_cb hrm 3 hts m_16_18 m_2_7 m_16_16 (by decide +kernel) hR
theorem l_RL_110 (hts : ∀ w ∈ wsL_law, w.before asM.toArray s = true) (hrm : rm.cells = 0 ∧ rm.slots = 0) (hR : rm.frames + 1 ≤ R.frames ∧ 8 + (4 + 11) + rm.locals ≤ R.locals) : CallB R s asM.toArray RL 110 yX6_leave cX6_leave 4 (some .int) (WS yX6_leave cX6_leave 4 (some .int)) rm 0 0 2 := x_cb hrm 2 hts m_16_22 m_1_5 m_16_19 (by decide +kernel) hR
theorem l_RX6_105 (hts : ∀ w ∈ wsL_law, w.before asM.toArray s = true) (hrm : rm.cells = 0 ∧ rm.slots = 0) (hR : rm.frames + 1 ≤ R.frames ∧ 8 + (4 + 11) + rm.locals ≤ R.locals) : CallB R s asM.toArray RX6 105 yX6_looks cX6_looks 4 none (WS yX6_looks cX6_looks 4 none) rm 0 0 2 := x_cb hrm 2 hts m_17_2 m_1_5 m_16_23 (by decide +kernel) hR
theorem l_RX6_76 (hts : ∀ w ∈ wsL_law, w.before asM.toArray s = true) (hrm : rm.cells = 0 ∧ rm.slots = 0) (hR : rm.frames + 1 ≤ R.frames ∧ 8 + (5 + 11) + rm.locals ≤ R.locals) : CallB R s asM.toArray RX6 76 yX6_below cX6_below 5 (some .int) (WS yX6_below cX6_below 5 (some .int)) rm 0 0 2 := x_cb hrm 2 hts m_17_7 m_1_5 m_17_4 (by decide +kernel) hR
theorem l_RL_43 (hts : ∀ w ∈ wsL_law, w.before asM.toArray s = true) (hrm : rm.cells = 0 ∧ rm.slots = 0) (hR : rm.frames + 1 ≤ R.frames ∧ 8 + (2 + 11) + rm.locals ≤ R.locals) : CallB R s asM.toArray RL 43 yX5_members cX5_members 2 (some .int) (WS yX5_members cX5_members 2 (some .int)) rm 0 0 1 := x_cb hrm 1 hts m_17_14 m_1_2 m_17_11 (by decide +kernel) hR
theorem l_RL_113 (hts : ∀ w ∈ wsL_law, w.before asM.toArray s = true) (hrm : rm.cells = 0 ∧ rm.slots = 0) (hR : rm.frames + 1 ≤ R.frames ∧ 8 + (2 + 11) + rm.locals ≤ R.locals) : CallB R s asM.toArray RL 113 yX6_members cX6_members 2 (some .int) (WS yX6_members cX6_members 2 (some .int)) rm 0 0 1 := x_cb hrm 1 hts m_17_18 m_1_5 m_17_15 (by decide +kernel) hR
theorem l_RL_46 (hts : ∀ w ∈ wsL_law, w.before asM.toArray s = true) (hrm : rm.cells = 0 ∧ rm.slots = 0) (hR : rm.frames + 1 ≤ R.frames ∧ 8 + (3 + 11) + rm.locals ≤ R.locals) : CallB R s asM.toArray RL 46 yX5_switched cX5_switched 3 (some .int) (WS yX5_switched cX5_switched 3 (some .int)) rm 0 0 2 := x_cb hrm 2 hts m_18_1 m_1_2 m_17_22 (by decide +kernel) hR
theorem l_RL_116 (hts : ∀ w ∈ wsL_law, w.before asM.toArray s = true) (hrm : rm.cells = 0 ∧ rm.slots = 0) (hR : rm.frames + 1 ≤ R.frames ∧ 8 + (3 + 11) + rm.locals ≤ R.locals) : CallB R s asM.toArray RL 116 yX6_switched cX6_switched 3 (some .int) (WS yX6_switched cX6_switched 3 (some .int)) rm 0 0 2 := x_cb hrm 2 hts m_18_5 m_1_5 m_18_2 (by decide +kernel) hR
theorem l_RL_49 (hts : ∀ w ∈ wsL_law, w.before asM.toArray s = true) (hrm : rm.cells = 0 ∧ rm.slots = 0) (hR : rm.frames + 1 ≤ R.frames ∧ 8 + (3 + 11) + rm.locals ≤ R.locals) : CallB R s asM.toArray RL 49 yX5_branches cX5_branches 3 (some .int) (WS yX5_branches cX5_branches 3 (some .int)) rm 0 0 2 := x_cb hrm 2 hts m_18_12 m_1_2 m_18_9 (by decide +kernel) hR
theorem l_RX5_143 (hts : ∀ w ∈ wsL_law, w.before asM.toArray s = true) (hrm : rm.cells = 0 ∧ rm.slots = 0) (hR : rm.frames + 1 ≤ R.frames ∧ 8 + (5 + 11) + rm.locals ≤ R.locals) : CallB R s asM.toArray RX5 143 yX2_branchesFrom cX2_branchesFrom 5 (some .int) (WS yX2_branchesFrom cX2_branchesFrom 5 (some .int)) rm 0 0 2 := x_cb hrm 2 hts m_16_7 m_1_19 m_18_13 (by decide +kernel) hR
theorem l_RL_119 (hts : ∀ w ∈ wsL_law, w.before asM.toArray s = true) (hrm : rm.cells = 0 ∧ rm.slots = 0) (hR : rm.frames + 1 ≤ R.frames ∧ 8 + (3 + 11) + rm.locals ≤ R.locals) : CallB R s asM.toArray RL 119 yX6_branches cX6_branches 3 (some .int) (WS yX6_branches cX6_branches 3 (some .int)) rm 0 0 2 := x_cb hrm 2 hts m_18_17 m_1_5 m_18_14 (by decide +kernel) hR
theorem l_RL_52 (hts : ∀ w ∈ wsL_law, w.before asM.toArray s = true) (hrm : rm.cells = 0 ∧ rm.slots = 0) (hR : rm.frames + 1 ≤ R.frames ∧ 8 + (4 + 11) + rm.locals ≤ R.locals) : CallB R s asM.toArray RL 52 yX5_sourceBranches cX5_sourceBranches 4 (some .int) (WS yX5_sourceBranches cX5_sourceBranches 4 (some .int)) rm 0 0 3 := x_cb hrm 3 hts m_19_0 m_1_2 m_18_21 (by decide +kernel) hR
theorem l_RL_122 (hts : ∀ w ∈ wsL_law, w.before asM.toArray s = true) (hrm : rm.cells = 0 ∧ rm.slots = 0) (hR : rm.frames + 1 ≤ R.frames ∧ 8 + (4 + 11) + rm.locals ≤ R.locals) : CallB R s asM.toArray RL 122 yX6_sourceBranches cX6_sourceBranches 4 (some .int) (WS yX6_sourceBranches cX6_sourceBranches 4 (some .int)) rm 0 0 3 := x_cb hrm 3 hts m_19_4 m_1_5 m_19_1 (by decide +kernel) hR
theorem l_RL_123 (hts : ∀ w ∈ wsL_law, w.before asM.toArray s = true) (hrm : rm.cells = 0 ∧ rm.slots = 0) (hR : rm.frames + 1 ≤ R.frames ∧ 8 + (1 + 11) + rm.locals ≤ R.locals) : CallB R s asM.toArray RL 123 yX5_leaving cX5_leaving 1 (some .int) (WS yX5_leaving cX5_leaving 1 (some .int)) rm 0 0 0 := x_cb hrm 0 hts m_19_8 m_1_2 m_19_5 (by decide +kernel) hR
theorem l_RX5_146 (hts : ∀ w ∈ wsL_law, w.before asM.toArray s = true) (hrm : rm.cells = 0 ∧ rm.slots = 0) (hR : rm.frames + 1 ≤ R.frames ∧ 8 + (3 + 11) + rm.locals ≤ R.locals) : CallB R s asM.toArray RX5 146 yX2_leavingBranches cX2_leavingBranches 3 (some .int) (WS yX2_leavingBranches cX2_leavingBranches 3 (some .int)) rm 0 0 0 := x_cb hrm 0 hts m_19_12 m_1_19 m_19_9 (by decide +kernel) hR
theorem l_RL_126 (hts : ∀ w ∈ wsL_law, w.before asM.toArray s = true) (hrm : rm.cells = 0 ∧ rm.slots = 0) (hR : rm.frames + 1 ≤ R.frames ∧ 8 + (3 + 11) + rm.locals ≤ R.locals) : CallB R s asM.toArray RL 126 yX6_leaving cX6_leaving 3 (some .int) (WS yX6_leaving cX6_leaving 3 (some .int)) rm 0 0 0 := x_cb hrm 0 hts m_19_16 m_1_5 m_19_13 (by decide +kernel) hR
theorem l_RL_55 (hts : ∀ w ∈ wsL_law, w.before asM.toArray s = true) (hrm : rm.cells = 0 ∧ rm.slots = 0) (hR : rm.frames + 1 ≤ R.frames ∧ 8 + (5 + 11) + rm.locals ≤ R.locals) : CallB R s asM.toArray RL 55 yX5_send cX5_send 5 (some .int) (WS yX5_send cX5_send 5 (some .int)) rm 0 0 2 := x_cb hrm 2 hts m_19_23 m_1_2 m_19_20 (by decide +kernel) hR
theorem l_RX5_150 (hts : ∀ w ∈ wsL_law, w.before asM.toArray s = true) (hrm : rm.cells = 0 ∧ rm.slots = 0) (hR : rm.frames + 1 ≤ R.frames ∧ 8 + (1 + 11) + rm.locals ≤ R.locals) : CallB R s asM.toArray RX5 150 yX3_isFull cX3_isFull 1 (some .boolean) (WS yX3_isFull cX3_isFull 1 (some .boolean)) rm 0 0 0 := x_cb hrm 0 hts m_20_3 m_1_23 m_20_0 (by decide +kernel) hR
theorem l_RX5_156 (hts : ∀ w ∈ wsL_law, w.before asM.toArray s = true) (hrm : rm.cells = 0 ∧ rm.slots = 0) (hR : rm.frames + 1 ≤ R.frames ∧ 8 + (4 + 11) + rm.locals ≤ R.locals) : CallB R s asM.toArray RX5 156 yX3_add cX3_add 4 (some .int) (WS yX3_add cX3_add 4 (some .int)) rm 0 0 2 := x_cb hrm 2 hts m_20_8 m_1_23 m_20_5 (by decide +kernel) hR
theorem l_RX3_28 (hts : ∀ w ∈ wsL_law, w.before asM.toArray s = true) (hrm : rm.cells = 0 ∧ rm.slots = 0) (hR : rm.frames + 1 ≤ R.frames ∧ 8 + (1 + 11) + rm.locals ≤ R.locals) : CallB R s asM.toArray RX3 28 yX3_isFull cX3_isFull 1 (some .boolean) (WS yX3_isFull cX3_isFull 1 (some .boolean)) rm 0 0 0 := x_cb hrm 0 hts m_20_3 m_1_23 m_20_9 (by decide +kernel) hR
theorem l_RX5_159 (hts : ∀ w ∈ wsL_law, w.before asM.toArray s = true) (hrm : rm.cells = 0 ∧ rm.slots = 0) (hR : rm.frames + 1 ≤ R.frames ∧ 8 + (3 + 11) + rm.locals ≤ R.locals) : CallB R s asM.toArray RX5 159 yX3_receive cX3_receive 3 none (WS yX3_receive cX3_receive 3 none) rm 0 0 2 := x_cb hrm 2 hts m_20_13 m_1_23 m_20_10 (by decide +kernel) hR
theorem l_RX3_32 (hts : ∀ w ∈ wsL_law, w.before asM.toArray s = true) (hrm : rm.cells = 0 ∧ rm.slots = 0) (hR : rm.frames + 1 ≤ R.frames ∧ 8 + (2 + 11) + rm.locals ≤ R.locals) : CallB R s asM.toArray RX3 32 yX3_isPacket cX3_isPacket 2 (some .boolean) (WS yX3_isPacket cX3_isPacket 2 (some .boolean)) rm 0 0 1 := x_cb hrm 1 hts m_20_17 m_1_23 m_20_14 (by decide +kernel) hR
theorem l_RX5_162 (hts : ∀ w ∈ wsL_law, w.before asM.toArray s = true) (hrm : rm.cells = 0 ∧ rm.slots = 0) (hR : rm.frames + 1 ≤ R.frames ∧ 8 + (9 + 11) + rm.locals ≤ R.locals) : CallB R s asM.toArray RX5 162 yX5_getPacket cX5_getPacket 9 (some .boolean) (WS yX5_getPacket cX5_getPacket 9 (some .boolean)) rm 0 0 3 := x_cb hrm 3 hts m_20_21 m_1_2 m_20_18 (by decide +kernel) hR
theorem l_RX5_220 (hts : ∀ w ∈ wsL_law, w.before asM.toArray s = true) (hrm : rm.cells = 0 ∧ rm.slots = 0) (hR : rm.frames + 1 ≤ R.frames ∧ 8 + (2 + 11) + rm.locals ≤ R.locals) : CallB R s asM.toArray RX5 220 yX3_groupOf cX3_groupOf 2 (some .int) (WS yX3_groupOf cX3_groupOf 2 (some .int)) rm 0 0 1 := x_cb hrm 1 hts m_21_1 m_1_23 m_20_22 (by decide +kernel) hR
theorem l_RX5_200 (hts : ∀ w ∈ wsL_law, w.before asM.toArray s = true) (hrm : rm.cells = 0 ∧ rm.slots = 0) (hR : rm.frames + 1 ≤ R.frames ∧ 8 + (2 + 11) + rm.locals ≤ R.locals) : CallB R s asM.toArray RX5 200 yX3_receiversOf cX3_receiversOf 2 (some .int) (WS yX3_receiversOf cX3_receiversOf 2 (some .int)) rm 0 0 1 := x_cb hrm 1 hts m_21_5 m_1_23 m_21_2 (by decide +kernel) hR
theorem l_RX5_223 (hts : ∀ w ∈ wsL_law, w.before asM.toArray s = true) (hrm : rm.cells = 0 ∧ rm.slots = 0) (hR : rm.frames + 1 ≤ R.frames ∧ 8 + (2 + 11) + rm.locals ≤ R.locals) : CallB R s asM.toArray RX5 223 yX3_addDouble cX3_addDouble 2 none (WS yX3_addDouble cX3_addDouble 2 none) rm 0 0 1 := x_cb hrm 1 hts m_21_9 m_1_23 m_21_6 (by decide +kernel) hR
theorem l_RX5_226 (hts : ∀ w ∈ wsL_law, w.before asM.toArray s = true) (hrm : rm.cells = 0 ∧ rm.slots = 0) (hR : rm.frames + 1 ≤ R.frames ∧ 8 + (2 + 11) + rm.locals ≤ R.locals) : CallB R s asM.toArray RX5 226 yX3_sourceOf cX3_sourceOf 2 (some .int) (WS yX3_sourceOf cX3_sourceOf 2 (some .int)) rm 0 0 1 := x_cb hrm 1 hts m_21_13 m_1_23 m_21_10 (by decide +kernel) hR
theorem l_RX5_229 (hts : ∀ w ∈ wsL_law, w.before asM.toArray s = true) (hrm : rm.cells = 0 ∧ rm.slots = 0) (hR : rm.frames + 1 ≤ R.frames ∧ 8 + (1 + 11) + rm.locals ≤ R.locals) : CallB R s asM.toArray RX5 229 yX5_isShared cX5_isShared 1 (some .boolean) (WS yX5_isShared cX5_isShared 1 (some .boolean)) rm 0 0 1 := x_cb hrm 1 hts m_21_16 m_1_2 m_21_14 (by decide +kernel) hR
theorem l_RX5_233 (hts : ∀ w ∈ wsL_law, w.before asM.toArray s = true) (hrm : rm.cells = 0 ∧ rm.slots = 0) (hR : rm.frames + 1 ≤ R.frames ∧ 8 + (6 + 11) + rm.locals ≤ R.locals) : CallB R s asM.toArray RX5 233 yX5_countSaysSwitch cX5_countSaysSwitch 6 (some .boolean) (WS yX5_countSaysSwitch cX5_countSaysSwitch 6 (some .boolean)) rm 0 0 3 := x_cb hrm 3 hts m_21_20 m_1_2 m_21_17 (by decide +kernel) hR
theorem l_RX5_236 (hts : ∀ w ∈ wsL_law, w.before asM.toArray s = true) (hrm : rm.cells = 0 ∧ rm.slots = 0) (hR : rm.frames + 1 ≤ R.frames ∧ 8 + (5 + 11) + rm.locals ≤ R.locals) : CallB R s asM.toArray RX5 236 yX1_raise cX1_raise 5 (some .int) (WS yX1_raise cX1_raise 5 (some .int)) rm 0 0 3 := x_cb hrm 3 hts m_22_0 m_2_7 m_21_21 (by decide +kernel) hR
theorem l_RX5_166 (hts : ∀ w ∈ wsL_law, w.before asM.toArray s = true) (hrm : rm.cells = 0 ∧ rm.slots = 0) (hR : rm.frames + 1 ≤ R.frames ∧ 8 + (6 + 11) + rm.locals ≤ R.locals) : CallB R s asM.toArray RX5 166 yX5_goOn cX5_goOn 6 none (WS yX5_goOn cX5_goOn 6 none) rm 0 0 3 := x_cb hrm 3 hts m_22_4 m_1_2 m_22_1 (by decide +kernel) hR
theorem l_RX5_240 (hts : ∀ w ∈ wsL_law, w.before asM.toArray s = true) (hrm : rm.cells = 0 ∧ rm.slots = 0) (hR : rm.frames + 1 ≤ R.frames ∧ 8 + (6 + 11) + rm.locals ≤ R.locals) : CallB R s asM.toArray RX5 240 yX0_put cX0_put 6 (some .boolean) (WS yX0_put cX0_put 6 (some .boolean)) rm 0 0 4 := x_cb hrm 4 hts m_22_9 m_2_3 m_22_6 (by decide +kernel) hR
theorem l_RL_129 (hts : ∀ w ∈ wsL_law, w.before asM.toArray s = true) (hrm : rm.cells = 0 ∧ rm.slots = 0) (hR : rm.frames + 1 ≤ R.frames ∧ 8 + (6 + 11) + rm.locals ≤ R.locals) : CallB R s asM.toArray RL 129 yX6_send cX6_send 6 (some .int) (WS yX6_send cX6_send 6 (some .int)) rm 0 0 2 := x_cb hrm 2 hts m_22_15 m_1_5 m_22_12 (by decide +kernel) hR
theorem l_RX6_124 (hts : ∀ w ∈ wsL_law, w.before asM.toArray s = true) (hrm : rm.cells = 0 ∧ rm.slots = 0) (hR : rm.frames + 1 ≤ R.frames ∧ 8 + (6 + 11) + rm.locals ≤ R.locals) : CallB R s asM.toArray RX6 124 yX6_gets cX6_gets 6 (some .boolean) (WS yX6_gets cX6_gets 6 (some .boolean)) rm 0 0 3 := x_cb hrm 3 hts m_22_20 m_1_5 m_22_17 (by decide +kernel) hR
theorem l_RX6_114 (hts : ∀ w ∈ wsL_law, w.before asM.toArray s = true) (hrm : rm.cells = 0 ∧ rm.slots = 0) (hR : rm.frames + 1 ≤ R.frames ∧ 8 + (5 + 11) + rm.locals ≤ R.locals) : CallB R s asM.toArray RX6 114 yX6_counts cX6_counts 5 none (WS yX6_counts cX6_counts 5 none) rm 0 0 3 := x_cb hrm 3 hts m_23_0 m_1_5 m_22_21 (by decide +kernel) hR
theorem l_RX6_118 (hts : ∀ w ∈ wsL_law, w.before asM.toArray s = true) (hrm : rm.cells = 0 ∧ rm.slots = 0) (hR : rm.frames + 1 ≤ R.frames ∧ 8 + (6 + 11) + rm.locals ≤ R.locals) : CallB R s asM.toArray RX6 118 yX6_goesOn cX6_goesOn 6 none (WS yX6_goesOn cX6_goesOn 6 none) rm 0 0 3 := x_cb hrm 3 hts m_23_4 m_1_5 m_23_1 (by decide +kernel) hR
theorem l_RL_130 (hts : ∀ w ∈ wsL_law, w.before asM.toArray s = true) (hrm : rm.cells = 0 ∧ rm.slots = 0) (hR : rm.frames + 1 ≤ R.frames ∧ 8 + (5 + 11) + rm.locals ≤ R.locals) : CallB R s asM.toArray RL 130 yX5_follow cX5_follow 5 (some .int) (WS yX5_follow cX5_follow 5 (some .int)) rm 0 0 0 := x_cb hrm 0 hts m_23_10 m_1_2 m_23_7 (by decide +kernel) hR
theorem l_RX5_169 (hts : ∀ w ∈ wsL_law, w.before asM.toArray s = true) (hrm : rm.cells = 0 ∧ rm.slots = 0) (hR : rm.frames + 1 ≤ R.frames ∧ 8 + (1 + 11) + rm.locals ≤ R.locals) : CallB R s asM.toArray RX5 169 yX0_isEmpty cX0_isEmpty 1 (some .boolean) (WS yX0_isEmpty cX0_isEmpty 1 (some .boolean)) rm 0 0 0 := x_cb hrm 0 hts m_23_14 m_2_3 m_23_11 (by decide +kernel) hR
theorem l_RX5_172 (hts : ∀ w ∈ wsL_law, w.before asM.toArray s = true) (hrm : rm.cells = 0 ∧ rm.slots = 0) (hR : rm.frames + 1 ≤ R.frames ∧ 8 + (1 + 11) + rm.locals ≤ R.locals) : CallB R s asM.toArray RX5 172 yX0_firstPacket cX0_firstPacket 1 (some .int) (WS yX0_firstPacket cX0_firstPacket 1 (some .int)) rm 0 0 0 := x_cb hrm 0 hts m_23_18 m_2_3 m_23_15 (by decide +kernel) hR
theorem l_RX0_31 (hts : ∀ w ∈ wsL_law, w.before asM.toArray s = true) (hrm : rm.cells = 0 ∧ rm.slots = 0) (hR : rm.frames + 1 ≤ R.frames ∧ 8 + (2 + 11) + rm.locals ≤ R.locals) : CallB R s asM.toArray RX0 31 yX0_firstIn cX0_firstIn 2 (some .int) (WS yX0_firstIn cX0_firstIn 2 (some .int)) rm 0 0 1 := x_cb hrm 1 hts m_23_22 m_2_3 m_23_19 (by decide +kernel) hR
theorem l_RX5_175 (hts : ∀ w ∈ wsL_law, w.before asM.toArray s = true) (hrm : rm.cells = 0 ∧ rm.slots = 0) (hR : rm.frames + 1 ≤ R.frames ∧ 8 + (1 + 11) + rm.locals ≤ R.locals) : CallB R s asM.toArray RX5 175 yX0_firstTree cX0_firstTree 1 (some .int) (WS yX0_firstTree cX0_firstTree 1 (some .int)) rm 0 0 0 := x_cb hrm 0 hts m_24_2 m_2_3 m_23_23 (by decide +kernel) hR
theorem l_RX5_178 (hts : ∀ w ∈ wsL_law, w.before asM.toArray s = true) (hrm : rm.cells = 0 ∧ rm.slots = 0) (hR : rm.frames + 1 ≤ R.frames ∧ 8 + (1 + 11) + rm.locals ≤ R.locals) : CallB R s asM.toArray RX5 178 yX0_firstFrom cX0_firstFrom 1 (some .int) (WS yX0_firstFrom cX0_firstFrom 1 (some .int)) rm 0 0 0 := x_cb hrm 0 hts m_24_6 m_2_3 m_24_3 (by decide +kernel) hR
theorem l_RX5_181 (hts : ∀ w ∈ wsL_law, w.before asM.toArray s = true) (hrm : rm.cells = 0 ∧ rm.slots = 0) (hR : rm.frames + 1 ≤ R.frames ∧ 8 + (1 + 11) + rm.locals ≤ R.locals) : CallB R s asM.toArray RX5 181 yX0_firstTo cX0_firstTo 1 (some .int) (WS yX0_firstTo cX0_firstTo 1 (some .int)) rm 0 0 0 := x_cb hrm 0 hts m_24_10 m_2_3 m_24_7 (by decide +kernel) hR
theorem l_RX5_184 (hts : ∀ w ∈ wsL_law, w.before asM.toArray s = true) (hrm : rm.cells = 0 ∧ rm.slots = 0) (hR : rm.frames + 1 ≤ R.frames ∧ 8 + (1 + 11) + rm.locals ≤ R.locals) : CallB R s asM.toArray RX5 184 yX0_removeFirst cX0_removeFirst 1 none (WS yX0_removeFirst cX0_removeFirst 1 none) rm 0 0 0 := x_cb hrm 0 hts m_24_14 m_2_3 m_24_11 (by decide +kernel) hR
theorem l_RL_133 (hts : ∀ w ∈ wsL_law, w.before asM.toArray s = true) (hrm : rm.cells = 0 ∧ rm.slots = 0) (hR : rm.frames + 1 ≤ R.frames ∧ 8 + (1 + 11) + rm.locals ≤ R.locals) : CallB R s asM.toArray RL 133 yX6_follow cX6_follow 1 (some .int) (WS yX6_follow cX6_follow 1 (some .int)) rm 0 0 0 := x_cb hrm 0 hts m_24_18 m_1_5 m_24_15 (by decide +kernel) hR
theorem l_RX6_128 (hts : ∀ w ∈ wsL_law, w.before asM.toArray s = true) (hrm : rm.cells = 0 ∧ rm.slots = 0) (hR : rm.frames + 1 ≤ R.frames ∧ 8 + (7 + 11) + rm.locals ≤ R.locals) : CallB R s asM.toArray RX6 128 yX6_follows cX6_follows 7 (some .int) (WS yX6_follows cX6_follows 7 (some .int)) rm 0 0 0 := x_cb hrm 0 hts m_24_22 m_1_5 m_24_19 (by decide +kernel) hR
theorem l_RL_134 (hts : ∀ w ∈ wsL_law, w.before asM.toArray s = true) (hrm : rm.cells = 0 ∧ rm.slots = 0) (hR : rm.frames + 1 ≤ R.frames ∧ 8 + (2 + 11) + rm.locals ≤ R.locals) : CallB R s asM.toArray RL 134 yX5_followAll cX5_followAll 2 (some .int) (WS yX5_followAll cX5_followAll 2 (some .int)) rm 0 0 0 := x_cb hrm 0 hts m_25_2 m_1_2 m_24_23 (by decide +kernel) hR
theorem l_RX5_191 (hts : ∀ w ∈ wsL_law, w.before asM.toArray s = true) (hrm : rm.cells = 0 ∧ rm.slots = 0) (hR : rm.frames + 1 ≤ R.frames ∧ 8 + (5 + 11) + rm.locals ≤ R.locals) : CallB R s asM.toArray RX5 191 yX5_follow cX5_follow 5 (some .int) (WS yX5_follow cX5_follow 5 (some .int)) rm 0 0 0 := x_cb hrm 0 hts m_23_10 m_1_2 m_25_4 (by decide +kernel) hR
theorem l_RL_137 (hts : ∀ w ∈ wsL_law, w.before asM.toArray s = true) (hrm : rm.cells = 0 ∧ rm.slots = 0) (hR : rm.frames + 1 ≤ R.frames ∧ 8 + (2 + 11) + rm.locals ≤ R.locals) : CallB R s asM.toArray RL 137 yX6_followAll cX6_followAll 2 (some .int) (WS yX6_followAll cX6_followAll 2 (some .int)) rm 0 0 0 := x_cb hrm 0 hts m_25_8 m_1_5 m_25_5 (by decide +kernel) hR
theorem l_RL_138 (hts : ∀ w ∈ wsL_law, w.before asM.toArray s = true) (hrm : rm.cells = 0 ∧ rm.slots = 0) (hR : rm.frames + 1 ≤ R.frames ∧ 8 + (1 + 11) + rm.locals ≤ R.locals) : CallB R s asM.toArray RL 138 yX5_queued cX5_queued 1 (some .int) (WS yX5_queued cX5_queued 1 (some .int)) rm 0 0 0 := x_cb hrm 0 hts m_25_12 m_1_2 m_25_9 (by decide +kernel) hR
theorem l_RX5_194 (hts : ∀ w ∈ wsL_law, w.before asM.toArray s = true) (hrm : rm.cells = 0 ∧ rm.slots = 0) (hR : rm.frames + 1 ≤ R.frames ∧ 8 + (1 + 11) + rm.locals ≤ R.locals) : CallB R s asM.toArray RX5 194 yX0_count cX0_count 1 (some .int) (WS yX0_count cX0_count 1 (some .int)) rm 0 0 0 := x_cb hrm 0 hts m_25_16 m_2_3 m_25_13 (by decide +kernel) hR
theorem l_RL_141 (hts : ∀ w ∈ wsL_law, w.before asM.toArray s = true) (hrm : rm.cells = 0 ∧ rm.slots = 0) (hR : rm.frames + 1 ≤ R.frames ∧ 8 + (1 + 11) + rm.locals ≤ R.locals) : CallB R s asM.toArray RL 141 yX6_queued cX6_queued 1 (some .int) (WS yX6_queued cX6_queued 1 (some .int)) rm 0 0 0 := x_cb hrm 0 hts m_25_20 m_1_5 m_25_17 (by decide +kernel) hR
theorem l_RL_142 (hts : ∀ w ∈ wsL_law, w.before asM.toArray s = true) (hrm : rm.cells = 0 ∧ rm.slots = 0) (hR : rm.frames + 1 ≤ R.frames ∧ 8 + (1 + 11) + rm.locals ≤ R.locals) : CallB R s asM.toArray RL 142 yX5_nextTo cX5_nextTo 1 (some .int) (WS yX5_nextTo cX5_nextTo 1 (some .int)) rm 0 0 0 := x_cb hrm 0 hts m_26_0 m_1_2 m_25_21 (by decide +kernel) hR
theorem l_RL_145 (hts : ∀ w ∈ wsL_law, w.before asM.toArray s = true) (hrm : rm.cells = 0 ∧ rm.slots = 0) (hR : rm.frames + 1 ≤ R.frames ∧ 8 + (1 + 11) + rm.locals ≤ R.locals) : CallB R s asM.toArray RL 145 yX6_nextTo cX6_nextTo 1 (some .int) (WS yX6_nextTo cX6_nextTo 1 (some .int)) rm 0 0 0 := x_cb hrm 0 hts m_26_4 m_1_5 m_26_1 (by decide +kernel) hR
theorem l_RL_58 (hts : ∀ w ∈ wsL_law, w.before asM.toArray s = true) (hrm : rm.cells = 0 ∧ rm.slots = 0) (hR : rm.frames + 1 ≤ R.frames ∧ 8 + (2 + 11) + rm.locals ≤ R.locals) : CallB R s asM.toArray RL 58 yX5_received cX5_received 2 (some .int) (WS yX5_received cX5_received 2 (some .int)) rm 0 0 1 := x_cb hrm 1 hts m_26_11 m_1_2 m_26_8 (by decide +kernel) hR
theorem l_RX5_197 (hts : ∀ w ∈ wsL_law, w.before asM.toArray s = true) (hrm : rm.cells = 0 ∧ rm.slots = 0) (hR : rm.frames + 1 ≤ R.frames ∧ 8 + (2 + 11) + rm.locals ≤ R.locals) : CallB R s asM.toArray RX5 197 yX5_checkPacket cX5_checkPacket 2 none (WS yX5_checkPacket cX5_checkPacket 2 none) rm 0 0 1 := x_cb hrm 1 hts m_26_15 m_1_2 m_26_12 (by decide +kernel) hR
theorem l_RX5_244 (hts : ∀ w ∈ wsL_law, w.before asM.toArray s = true) (hrm : rm.cells = 0 ∧ rm.slots = 0) (hR : rm.frames + 1 ≤ R.frames ∧ 8 + (2 + 11) + rm.locals ≤ R.locals) : CallB R s asM.toArray RX5 244 yX3_isPacket cX3_isPacket 2 (some .boolean) (WS yX3_isPacket cX3_isPacket 2 (some .boolean)) rm 0 0 1 := x_cb hrm 1 hts m_20_17 m_1_23 m_26_16 (by decide +kernel) hR
theorem l_RL_148 (hts : ∀ w ∈ wsL_law, w.before asM.toArray s = true) (hrm : rm.cells = 0 ∧ rm.slots = 0) (hR : rm.frames + 1 ≤ R.frames ∧ 8 + (2 + 11) + rm.locals ≤ R.locals) : CallB R s asM.toArray RL 148 yX6_received cX6_received 2 (some .int) (WS yX6_received cX6_received 2 (some .int)) rm 0 0 1 := x_cb hrm 1 hts m_26_20 m_1_5 m_26_17 (by decide +kernel) hR
theorem l_RX6_132 (hts : ∀ w ∈ wsL_law, w.before asM.toArray s = true) (hrm : rm.cells = 0 ∧ rm.slots = 0) (hR : rm.frames + 1 ≤ R.frames ∧ 8 + (2 + 11) + rm.locals ≤ R.locals) : CallB R s asM.toArray RX6 132 yX6_isPacket cX6_isPacket 2 (some .boolean) (WS yX6_isPacket cX6_isPacket 2 (some .boolean)) rm 0 0 1 := x_cb hrm 1 hts m_27_0 m_1_5 m_26_21 (by decide +kernel) hR
theorem l_RL_61 (hts : ∀ w ∈ wsL_law, w.before asM.toArray s = true) (hrm : rm.cells = 0 ∧ rm.slots = 0) (hR : rm.frames + 1 ≤ R.frames ∧ 8 + (2 + 11) + rm.locals ≤ R.locals) : CallB R s asM.toArray RL 61 yX5_doubles cX5_doubles 2 (some .int) (WS yX5_doubles cX5_doubles 2 (some .int)) rm 0 0 1 := x_cb hrm 1 hts m_27_7 m_1_2 m_27_4 (by decide +kernel) hR
theorem l_RX5_203 (hts : ∀ w ∈ wsL_law, w.before asM.toArray s = true) (hrm : rm.cells = 0 ∧ rm.slots = 0) (hR : rm.frames + 1 ≤ R.frames ∧ 8 + (2 + 11) + rm.locals ≤ R.locals) : CallB R s asM.toArray RX5 203 yX3_doublesOf cX3_doublesOf 2 (some .int) (WS yX3_doublesOf cX3_doublesOf 2 (some .int)) rm 0 0 1 := x_cb hrm 1 hts m_27_11 m_1_23 m_27_8 (by decide +kernel) hR
theorem l_RL_151 (hts : ∀ w ∈ wsL_law, w.before asM.toArray s = true) (hrm : rm.cells = 0 ∧ rm.slots = 0) (hR : rm.frames + 1 ≤ R.frames ∧ 8 + (2 + 11) + rm.locals ≤ R.locals) : CallB R s asM.toArray RL 151 yX6_doubles cX6_doubles 2 (some .int) (WS yX6_doubles cX6_doubles 2 (some .int)) rm 0 0 1 := x_cb hrm 1 hts m_27_15 m_1_5 m_27_12 (by decide +kernel) hR
theorem l_RL_152 (hts : ∀ w ∈ wsL_law, w.before asM.toArray s = true) (hrm : rm.cells = 0 ∧ rm.slots = 0) (hR : rm.frames + 1 ≤ R.frames ∧ 8 + (1 + 11) + rm.locals ≤ R.locals) : CallB R s asM.toArray RL 152 yX5_wasted cX5_wasted 1 (some .int) (WS yX5_wasted cX5_wasted 1 (some .int)) rm 0 0 0 := x_cb hrm 0 hts m_27_19 m_1_2 m_27_16 (by decide +kernel) hR
theorem l_RL_155 (hts : ∀ w ∈ wsL_law, w.before asM.toArray s = true) (hrm : rm.cells = 0 ∧ rm.slots = 0) (hR : rm.frames + 1 ≤ R.frames ∧ 8 + (1 + 11) + rm.locals ≤ R.locals) : CallB R s asM.toArray RL 155 yX6_wasted cX6_wasted 1 (some .int) (WS yX6_wasted cX6_wasted 1 (some .int)) rm 0 0 0 := x_cb hrm 0 hts m_27_23 m_1_5 m_27_20 (by decide +kernel) hR
theorem l_RL_64 (hts : ∀ w ∈ wsL_law, w.before asM.toArray s = true) (hrm : rm.cells = 0 ∧ rm.slots = 0) (hR : rm.frames + 1 ≤ R.frames ∧ 8 + (4 + 11) + rm.locals ≤ R.locals) : CallB R s asM.toArray RL 64 yX5_pass cX5_pass 4 (some .int) (WS yX5_pass cX5_pass 4 (some .int)) rm 0 0 1 := x_cb hrm 1 hts m_28_6 m_1_2 m_28_3 (by decide +kernel) hR
theorem l_RX5_208 (hts : ∀ w ∈ wsL_law, w.before asM.toArray s = true) (hrm : rm.cells = 0 ∧ rm.slots = 0) (hR : rm.frames + 1 ≤ R.frames ∧ 8 + (5 + 11) + rm.locals ≤ R.locals) : CallB R s asM.toArray RX5 208 yX2_removeDue cX2_removeDue 5 (some .int) (WS yX2_removeDue cX2_removeDue 5 (some .int)) rm 0 0 1 := x_cb hrm 1 hts m_28_10 m_1_19 m_28_7 (by decide +kernel) hR
theorem l_RX2_61 (hts : ∀ w ∈ wsL_law, w.before asM.toArray s = true) (hrm : rm.cells = 0 ∧ rm.slots = 0) (hR : rm.frames + 1 ≤ R.frames ∧ 8 + (4 + 11) + rm.locals ≤ R.locals) : CallB R s asM.toArray RX2 61 yX2_isDue cX2_isDue 4 (some .boolean) (WS yX2_isDue cX2_isDue 4 (some .boolean)) rm 0 0 3 := x_cb hrm 3 hts m_28_14 m_1_19 m_28_11 (by decide +kernel) hR
theorem l_RX2_65 (hts : ∀ w ∈ wsL_law, w.before asM.toArray s = true) (hrm : rm.cells = 0 ∧ rm.slots = 0) (hR : rm.frames + 1 ≤ R.frames ∧ 8 + (5 + 11) + rm.locals ≤ R.locals) : CallB R s asM.toArray RX2 65 yX2_remove cX2_remove 5 none (WS yX2_remove cX2_remove 5 none) rm 0 0 3 := x_cb hrm 3 hts m_28_18 m_1_19 m_28_15 (by decide +kernel) hR
theorem l_RX5_211 (hts : ∀ w ∈ wsL_law, w.before asM.toArray s = true) (hrm : rm.cells = 0 ∧ rm.slots = 0) (hR : rm.frames + 1 ≤ R.frames ∧ 8 + (1 + 11) + rm.locals ≤ R.locals) : CallB R s asM.toArray RX5 211 yX1_forgetAll cX1_forgetAll 1 none (WS yX1_forgetAll cX1_forgetAll 1 none) rm 0 0 0 := x_cb hrm 0 hts m_28_22 m_2_7 m_28_19 (by decide +kernel) hR
theorem l_RX1_23 (hts : ∀ w ∈ wsL_law, w.before asM.toArray s = true) (hrm : rm.cells = 0 ∧ rm.slots = 0) (hR : rm.frames + 1 ≤ R.frames ∧ 8 + (4 + 11) + rm.locals ≤ R.locals) : CallB R s asM.toArray RX1 23 yJ7_fill_53178 cJ7_fill_53178 4 none (WS yJ7_fill_53178 cJ7_fill_53178 4 none) rm 0 0 2 := x_cb hrm 2 hts m_4_9 m_4_8 m_28_23 (by decide +kernel) hR
theorem l_RL_158 (hts : ∀ w ∈ wsL_law, w.before asM.toArray s = true) (hrm : rm.cells = 0 ∧ rm.slots = 0) (hR : rm.frames + 1 ≤ R.frames ∧ 8 + (5 + 11) + rm.locals ≤ R.locals) : CallB R s asM.toArray RL 158 yX6_pass cX6_pass 5 (some .int) (WS yX6_pass cX6_pass 5 (some .int)) rm 0 0 1 := x_cb hrm 1 hts m_29_3 m_1_5 m_29_0 (by decide +kernel) hR
theorem l_RX6_135 (hts : ∀ w ∈ wsL_law, w.before asM.toArray s = true) (hrm : rm.cells = 0 ∧ rm.slots = 0) (hR : rm.frames + 1 ≤ R.frames ∧ 8 + (6 + 11) + rm.locals ≤ R.locals) : CallB R s asM.toArray RX6 135 yX6_second cX6_second 6 (some .int) (WS yX6_second cX6_second 6 (some .int)) rm 0 0 0 := x_cb hrm 0 hts m_29_7 m_1_5 m_29_4 (by decide +kernel) hR
theorem l_RL_159 (hts : ∀ w ∈ wsL_law, w.before asM.toArray s = true) (hrm : rm.cells = 0 ∧ rm.slots = 0) (hR : rm.frames + 1 ≤ R.frames ∧ 8 + (1 + 11) + rm.locals ≤ R.locals) : CallB R s asM.toArray RL 159 yX5_clock cX5_clock 1 (some .int) (WS yX5_clock cX5_clock 1 (some .int)) rm 0 0 0 := x_cb hrm 0 hts m_29_11 m_1_2 m_29_8 (by decide +kernel) hR
theorem l_RL_162 (hts : ∀ w ∈ wsL_law, w.before asM.toArray s = true) (hrm : rm.cells = 0 ∧ rm.slots = 0) (hR : rm.frames + 1 ≤ R.frames ∧ 8 + (1 + 11) + rm.locals ≤ R.locals) : CallB R s asM.toArray RL 162 yX6_clock cX6_clock 1 (some .int) (WS yX6_clock cX6_clock 1 (some .int)) rm 0 0 0 := x_cb hrm 0 hts m_29_15 m_1_5 m_29_12 (by decide +kernel) hR
theorem l_RL_67 (hts : ∀ w ∈ wsL_law, w.before asM.toArray s = true) (hrm : rm.cells = 0 ∧ rm.slots = 0) (hR : rm.frames + 1 ≤ R.frames ∧ 8 + (3 + 11) + rm.locals ≤ R.locals) : CallB R s asM.toArray RL 67 yX5_floodMembers cX5_floodMembers 3 (some .int) (WS yX5_floodMembers cX5_floodMembers 3 (some .int)) rm 0 0 2 := x_cb hrm 2 hts m_29_22 m_1_2 m_29_19 (by decide +kernel) hR
theorem l_RX5_214 (hts : ∀ w ∈ wsL_law, w.before asM.toArray s = true) (hrm : rm.cells = 0 ∧ rm.slots = 0) (hR : rm.frames + 1 ≤ R.frames ∧ 8 + (4 + 11) + rm.locals ≤ R.locals) : CallB R s asM.toArray RX5 214 yX5_floodedFrom cX5_floodedFrom 4 (some .int) (WS yX5_floodedFrom cX5_floodedFrom 4 (some .int)) rm 0 0 1 := x_cb hrm 1 hts m_30_2 m_1_2 m_29_23 (by decide +kernel) hR
theorem l_RL_165 (hts : ∀ w ∈ wsL_law, w.before asM.toArray s = true) (hrm : rm.cells = 0 ∧ rm.slots = 0) (hR : rm.frames + 1 ≤ R.frames ∧ 8 + (5 + 11) + rm.locals ≤ R.locals) : CallB R s asM.toArray RL 165 yX6_floodMembers cX6_floodMembers 5 (some .int) (WS yX6_floodMembers cX6_floodMembers 5 (some .int)) rm 0 0 2 := x_cb hrm 2 hts m_30_6 m_1_5 m_30_3 (by decide +kernel) hR
theorem l_RL_70 (hts : ∀ w ∈ wsL_law, w.before asM.toArray s = true) (hrm : rm.cells = 0 ∧ rm.slots = 0) (hR : rm.frames + 1 ≤ R.frames ∧ 8 + (5 + 11) + rm.locals ≤ R.locals) : CallB R s asM.toArray RL 70 yX5_floodCopies cX5_floodCopies 5 (some .int) (WS yX5_floodCopies cX5_floodCopies 5 (some .int)) rm 0 0 1 := x_cb hrm 1 hts m_30_13 m_1_2 m_30_10 (by decide +kernel) hR
theorem l_RX5_217 (hts : ∀ w ∈ wsL_law, w.before asM.toArray s = true) (hrm : rm.cells = 0 ∧ rm.slots = 0) (hR : rm.frames + 1 ≤ R.frames ∧ 8 + (4 + 11) + rm.locals ≤ R.locals) : CallB R s asM.toArray RX5 217 yX4_linksOf cX4_linksOf 4 (some .int) (WS yX4_linksOf cX4_linksOf 4 (some .int)) rm 0 0 1 := x_cb hrm 1 hts m_30_17 m_1_15 m_30_14 (by decide +kernel) hR
theorem l_RL_168 (hts : ∀ w ∈ wsL_law, w.before asM.toArray s = true) (hrm : rm.cells = 0 ∧ rm.slots = 0) (hR : rm.frames + 1 ≤ R.frames ∧ 8 + (6 + 11) + rm.locals ≤ R.locals) : CallB R s asM.toArray RL 168 yX6_floodCopies cX6_floodCopies 6 (some .int) (WS yX6_floodCopies cX6_floodCopies 6 (some .int)) rm 0 0 1 := x_cb hrm 1 hts m_30_21 m_1_5 m_30_18 (by decide +kernel) hR
theorem l_RX2_30 (hts : ∀ w ∈ wsL_law, w.before asM.toArray s = true) (hN : NW s) (hrm : rm.cells = 0 ∧ rm.slots = 0) (hR : rm.frames + 1 ≤ R.frames ∧ 8 + (2 + 11) + rm.locals ≤ R.locals) : va_CN R s asM.toArray RX2 30 yX5_sourceTree RX5 cX5_sourceTree 2 (some .int) (WS yX5_sourceTree cX5_sourceTree 2 (some .int)) rm 0 0 2 := x_cn hrm hts hN m_4_11 m_1_2 (List.mem_of_getElem? (i := 0) rfl) (by decide +kernel) hR
theorem l_RX2_38 (hts : ∀ w ∈ wsL_law, w.before asM.toArray s = true) (hN : NW s) (hrm : rm.cells = 0 ∧ rm.slots = 0) (hR : rm.frames + 1 ≤ R.frames ∧ 8 + (1 + 11) + rm.locals ≤ R.locals) : va_CN R s asM.toArray RX2 38 yX5_isTree RX5 cX5_isTree 1 (some .boolean) (WS yX5_isTree cX5_isTree 1 (some .boolean)) rm 0 0 1 := x_cn hrm hts hN m_4_23 m_1_2 (List.mem_of_getElem? (i := 1) rfl) (by decide +kernel) hR
theorem l_RX5_25 (hts : ∀ w ∈ wsL_law, w.before asM.toArray s = true) (hN : NW s) (hrm : rm.cells = 0 ∧ rm.slots = 0) (hR : rm.frames + 1 ≤ R.frames ∧ 8 + (1 + 11) + rm.locals ≤ R.locals) : va_CN R s asM.toArray RX5 25 yX3_init RX5 cX3_init 1 none (WS yX3_init cX3_init 1 none) rm 0 0 0 := x_cn hrm hts hN m_5_1 m_1_23 (List.mem_of_getElem? (i := 2) rfl) (by decide +kernel) hR
theorem l_RX5_32 (hts : ∀ w ∈ wsL_law, w.before asM.toArray s = true) (hN : NW s) (hrm : rm.cells = 0 ∧ rm.slots = 0) (hR : rm.frames + 1 ≤ R.frames ∧ 8 + (1 + 11) + rm.locals ≤ R.locals) : va_CN R s asM.toArray RX5 32 yX0_init RX5 cX0_init 1 none (WS yX0_init cX0_init 1 none) rm 0 0 0 := x_cn hrm hts hN m_5_8 m_2_3 (List.mem_of_getElem? (i := 3) rfl) (by decide +kernel) hR
theorem l_RX5_39 (hts : ∀ w ∈ wsL_law, w.before asM.toArray s = true) (hN : NW s) (hrm : rm.cells = 0 ∧ rm.slots = 0) (hR : rm.frames + 1 ≤ R.frames ∧ 8 + (1 + 11) + rm.locals ≤ R.locals) : va_CN R s asM.toArray RX5 39 yX1_init RX5 cX1_init 1 none (WS yX1_init cX1_init 1 none) rm 0 0 0 := x_cn hrm hts hN m_5_15 m_2_7 (List.mem_of_getElem? (i := 4) rfl) (by decide +kernel) hR
theorem l_RX3_36 (hts : ∀ w ∈ wsL_law, w.before asM.toArray s = true) (hN : NW s) (hrm : rm.cells = 0 ∧ rm.slots = 0) (hR : rm.frames + 1 ≤ R.frames ∧ 8 + (1 + 11) + rm.locals ≤ R.locals) : va_CN R s asM.toArray RX3 36 yX5_isRouter RX5 cX5_isRouter 1 (some .boolean) (WS yX5_isRouter cX5_isRouter 1 (some .boolean)) rm 0 0 1 := x_cn hrm hts hN m_4_14 m_1_2 (List.mem_of_getElem? (i := 5) rfl) (by decide +kernel) hR
theorem l_RX3_39 (hts : ∀ w ∈ wsL_law, w.before asM.toArray s = true) (hN : NW s) (hrm : rm.cells = 0 ∧ rm.slots = 0) (hR : rm.frames + 1 ≤ R.frames ∧ 8 + (1 + 11) + rm.locals ≤ R.locals) : va_CN R s asM.toArray RX3 39 yX5_bit RX5 cX5_bit 1 (some .int) (WS yX5_bit cX5_bit 1 (some .int)) rm 0 0 1 := x_cn hrm hts hN m_8_0 m_1_2 (List.mem_of_getElem? (i := 6) rfl) (by decide +kernel) hR
theorem l_RX1_29 (hts : ∀ w ∈ wsL_law, w.before asM.toArray s = true) (hN : NW s) (hrm : rm.cells = 0 ∧ rm.slots = 0) (hR : rm.frames + 1 ≤ R.frames ∧ 8 + (1 + 11) + rm.locals ≤ R.locals) : va_CN R s asM.toArray RX1 29 yX5_isRouter RX5 cX5_isRouter 1 (some .boolean) (WS yX5_isRouter cX5_isRouter 1 (some .boolean)) rm 0 0 1 := x_cn hrm hts hN m_4_14 m_1_2 (List.mem_of_getElem? (i := 7) rfl) (by decide +kernel) hR
theorem l_RX1_33 (hts : ∀ w ∈ wsL_law, w.before asM.toArray s = true) (hN : NW s) (hrm : rm.cells = 0 ∧ rm.slots = 0) (hR : rm.frames + 1 ≤ R.frames ∧ 8 + (1 + 11) + rm.locals ≤ R.locals) : va_CN R s asM.toArray RX1 33 yX5_isGroup RX5 cX5_isGroup 1 (some .boolean) (WS yX5_isGroup cX5_isGroup 1 (some .boolean)) rm 0 0 1 := x_cn hrm hts hN m_4_17 m_1_2 (List.mem_of_getElem? (i := 8) rfl) (by decide +kernel) hR
theorem l_RX2_42 (hts : ∀ w ∈ wsL_law, w.before asM.toArray s = true) (hN : NW s) (hrm : rm.cells = 0 ∧ rm.slots = 0) (hR : rm.frames + 1 ≤ R.frames ∧ 8 + (1 + 11) + rm.locals ≤ R.locals) : va_CN R s asM.toArray RX2 42 yX5_isRouter RX5 cX5_isRouter 1 (some .boolean) (WS yX5_isRouter cX5_isRouter 1 (some .boolean)) rm 0 0 1 := x_cn hrm hts hN m_4_14 m_1_2 (List.mem_of_getElem? (i := 9) rfl) (by decide +kernel) hR
theorem l_RX2_45 (hts : ∀ w ∈ wsL_law, w.before asM.toArray s = true) (hN : NW s) (hrm : rm.cells = 0 ∧ rm.slots = 0) (hR : rm.frames + 1 ≤ R.frames ∧ 8 + (1 + 11) + rm.locals ≤ R.locals) : va_CN R s asM.toArray RX2 45 yX5_bit RX5 cX5_bit 1 (some .int) (WS yX5_bit cX5_bit 1 (some .int)) rm 0 0 1 := x_cn hrm hts hN m_8_0 m_1_2 (List.mem_of_getElem? (i := 10) rfl) (by decide +kernel) hR
theorem l_RX2_57 (hts : ∀ w ∈ wsL_law, w.before asM.toArray s = true) (hN : NW s) (hrm : rm.cells = 0 ∧ rm.slots = 0) (hR : rm.frames + 1 ≤ R.frames ∧ 8 + (2 + 11) + rm.locals ≤ R.locals) : va_CN R s asM.toArray RX2 57 yX5_has RX5 cX5_has 2 (some .boolean) (WS yX5_has cX5_has 2 (some .boolean)) rm 0 0 2 := x_cn hrm hts hN m_7_21 m_1_2 (List.mem_of_getElem? (i := 11) rfl) (by decide +kernel) hR
end XL
end
section
/-! calls whose callee has the caller's whole world -/
abbrev QI (below : List Frame) (s : State) (A : Nat → Prop) (D : va_G) (asM : List Value) (ws' : va_W) (rv : Int32) : State → Prop := MQ below (va_Qi (fun (r : Int32) (_ : Unit) => r = rv) (fun _ t => va_P D vwCl ws' t.heap) A) asM.toArray s 0 0 A
abbrev QV (below : List Frame) (s : State) (A : Nat → Prop) (D : va_G) (asM : List Value) (ws' : va_W) : State → Prop := MQ below (va_Qv (fun (_ : Unit) => True) (fun _ t => va_P D vwCl ws' t.heap) A) asM.toArray s 0 0 A
section XF
variable {p : Program} {l : Launch} {e : Env} {R : Room} {s : State} {m : MethodId} {below : List Frame} {meth : Method} {c : Code} {H : Heap} {locs : List Loc} {Q : State → Prop}
variable {cc : ByteArray} {nL pc : Nat} {ls : Array Slot} {D : va_G} {A0 : Nat → Prop} {tys : List (ClassId × FieldType)} {W0 W1 : va_W} {H0 : Heap} {own : String} {rtO : Option FieldType}
variable {y : MethodName} {b : ByteArray} {n index k : Nat} {rt : FieldType} {rm : Room} {asM as rest st : List Value} {rv : Int32}
theorem x_sub {W0 : va_W} {H : Heap} (hD : va_D A0 W0) (hS : va_S A0 H0 H locs) (hA : ∀ q, H0.size ≤ q → A0 q) : ∀ q, va_A W0 H.size q → A0 q := by
  intro q h
  rcases h with ⟨k, e, h⟩ | h
  · exact hD.2 k (q, e) h
  · exact hA q (Nat.le_trans hS.1 h)
theorem x_preF (hP : va_P D vwCl W0 H) (hD : va_D A0 W0) (hK : va_K D vwCl tys s) (hN : NW s) :
    ∀ U : State, U.heap = H → s.WarmedH U.vm → cPre D tys W0 H.size U := fun U hU hW => ⟨by rw [hU], by rw [hU]; exact hP, va_K.moved hW.alike hK, hD.weaken (fun _ _ _ _ => trivial), NW.warm hW hN⟩
theorem fV_i (B : Bd p s m meth c cc nL rtO own D tys asM) (hls : ls.size = nL) {a : Nat} (hM : MI l y b n rt rm D tys (.ref a :: as) W0 W1 rv) {C : String} {T : u_T} {N ci : Nat} (hcl : vwCl[ci]? = some (C, T, N))
    (cb : CallB R s asM.toArray own index y b n (some rt) (WS y b n (some rt)) rm 0 0 k) (hin : Cond.instanceMethod y ∈ wsL_law) (hse : Cond.selects C y y ∈ wsL_law)
    (hst : st = as.reverse ++ .ref a :: rest) (hk : as.length = k) (hP : va_P D vwCl W0 H) (hD : va_D A0 W0) (hS : va_S A0 H0 H locs) (hA : ∀ q, H0.size ≤ q → A0 q) (q0 : Nat) {fs : List Value} (he : W0[q0]? = some (a, .inr (ci, fs)))
    (hf : W1.map Prod.fst = W0.map Prod.fst) (hw : (rest.map fun v => v.category).sum ≤ 8) (hdg : decode cc pc = .ok (.invokevirtual index, 3))
    (kk : ∀ (H1 : Heap) (locs1 : List Loc), va_P D vwCl W1 H1 → va_D A0 W1 → va_S A0 H0 H1 locs1 → W p l e R s m asM.toArray below meth c H1 locs1 0 0 Q (F0 m (pc + 3) ls (.int rv :: rest))) :
    W p l e R s m asM.toArray below meth c H locs 0 0 Q (F0 m pc ls st) := by
  obtain ⟨hx, hb, -, hml, hown, hts, -, hN, hK, -⟩ := B
  subst hst
  have hr := va_runV (mc := 0) (ms := 0) (As := as) (rest := rest) (b := a) (C := C) (g := F0 m pc ls (as.reverse ++ .ref a :: rest)) (cells := 0) (slots := 0) (locs := locs) (l := l) (e := e) (below := below) (meth := meth) (H := H) ⟨hx, hb, hml, hown, hts⟩ (hM H.size) ⟨cb, hts _ hin, hts _ hse⟩
    ⟨cPre_blind _ D tys W0 H.size, va_recv hK hP hcl he, fun U hU hW => ⟨rfl, x_preF hP hD hK hN U hU hW⟩⟩ rfl hk hls rfl (lv_room hw) hdg ⟨Nat.zero_le _, Nat.zero_le _⟩
  have hF := x_sub hD hS hA
  refine va_calli hr hS (fun q _ h => hF q h) hF (fun r u t H1 locs1 ht hvm hw hB hz hk hS1 => ?_)
  rw [ht] at hB
  subst hw
  exact kk H1 locs1 hB (va_D_same hf hD) hS1
theorem fV_v (B : Bd p s m meth c cc nL rtO own D tys asM) (hls : ls.size = nL) {a : Nat} (hM : MV l y b n rm D tys (.ref a :: as) W0 W1) {C : String} {T : u_T} {N ci : Nat} (hcl : vwCl[ci]? = some (C, T, N))
    (cb : CallB R s asM.toArray own index y b n none (WS y b n none) rm 0 0 k) (hin : Cond.instanceMethod y ∈ wsL_law) (hse : Cond.selects C y y ∈ wsL_law)
    (hst : st = as.reverse ++ .ref a :: rest) (hk : as.length = k) (hP : va_P D vwCl W0 H) (hD : va_D A0 W0) (hS : va_S A0 H0 H locs) (hA : ∀ q, H0.size ≤ q → A0 q) (q0 : Nat) {fs : List Value} (he : W0[q0]? = some (a, .inr (ci, fs)))
    (hf : W1.map Prod.fst = W0.map Prod.fst) (hw : (rest.map fun v => v.category).sum ≤ 8) (hdg : decode cc pc = .ok (.invokevirtual index, 3))
    (kk : ∀ (H1 : Heap) (locs1 : List Loc), va_P D vwCl W1 H1 → va_D A0 W1 → va_S A0 H0 H1 locs1 → W p l e R s m asM.toArray below meth c H1 locs1 0 0 Q (F0 m (pc + 3) ls rest)) :
    W p l e R s m asM.toArray below meth c H locs 0 0 Q (F0 m pc ls st) := by
  obtain ⟨hx, hb, -, hml, hown, hts, -, hN, hK, -⟩ := B
  subst hst
  have hr := va_runV (mc := 0) (ms := 0) (As := as) (rest := rest) (b := a) (C := C) (g := F0 m pc ls (as.reverse ++ .ref a :: rest)) (cells := 0) (slots := 0) (locs := locs) (l := l) (e := e) (below := below) (meth := meth) (H := H) ⟨hx, hb, hml, hown, hts⟩ (hM H.size) ⟨cb, hts _ hin, hts _ hse⟩
    ⟨cPre_blind _ D tys W0 H.size, va_recv hK hP hcl he, fun U hU hW => ⟨rfl, x_preF hP hD hK hN U hU hW⟩⟩ rfl hk hls rfl (lv_room hw) hdg ⟨Nat.zero_le _, Nat.zero_le _⟩
  have hF := x_sub hD hS hA
  refine va_callv hr hS (fun q _ h => hF q h) hF (fun u t H1 locs1 ht hvm hw hB hz hk hS1 => ?_)
  rw [ht] at hB
  exact kk H1 locs1 hB (va_D_same hf hD) hS1
theorem fS_i (B : Bd p s m meth c cc nL rtO own D tys asM) (hls : ls.size = nL) (hM : MI l y b n rt rm D tys as W0 W1 rv)
    (cb : CallB R s asM.toArray own index y b n (some rt) (WS y b n (some rt)) rm 0 0 k) (hst' : Cond.static y ∈ wsL_law)
    (hst : st = as.reverse ++ rest) (hk : as.length = k) (hP : va_P D vwCl W0 H) (hD : va_D A0 W0) (hS : va_S A0 H0 H locs) (hA : ∀ q, H0.size ≤ q → A0 q)
    (hf : W1.map Prod.fst = W0.map Prod.fst) (hw : (rest.map fun v => v.category).sum ≤ 8) (hdg : decode cc pc = .ok (.invokestatic index, 3))
    (kk : ∀ (H1 : Heap) (locs1 : List Loc), va_P D vwCl W1 H1 → va_D A0 W1 → va_S A0 H0 H1 locs1 → W p l e R s m asM.toArray below meth c H1 locs1 0 0 Q (F0 m (pc + 3) ls (.int rv :: rest))) :
    W p l e R s m asM.toArray below meth c H locs 0 0 Q (F0 m pc ls st) := by
  obtain ⟨hx, hb, -, hml, hown, hts, -, hN, hK, -⟩ := B
  subst hst
  have hr := va_runS (mc := 0) (ms := 0) (As := as) (rest := rest) (g := F0 m pc ls (as.reverse ++ rest)) (cells := 0) (slots := 0) (locs := locs) (l := l) (e := e) (below := below) (meth := meth) (H := H) ⟨hx, hb, hml, hown, hts⟩ (hM H.size) ⟨cb, hts _ hst'⟩
    ⟨cPre_blind _ D tys W0 H.size, fun U hU hW => ⟨rfl, x_preF hP hD hK hN U hU hW⟩⟩ rfl hk hls rfl (lv_room hw) hdg ⟨Nat.zero_le _, Nat.zero_le _⟩
  have hF := x_sub hD hS hA
  refine va_calli hr hS (fun q _ h => hF q h) hF (fun r u t H1 locs1 ht hvm hw hB hz hk hS1 => ?_)
  rw [ht] at hB
  subst hw
  exact kk H1 locs1 hB (va_D_same hf hD) hS1
theorem fS_v (B : Bd p s m meth c cc nL rtO own D tys asM) (hls : ls.size = nL) (hM : MV l y b n rm D tys as W0 W1)
    (cb : CallB R s asM.toArray own index y b n none (WS y b n none) rm 0 0 k) (hst' : Cond.static y ∈ wsL_law)
    (hst : st = as.reverse ++ rest) (hk : as.length = k) (hP : va_P D vwCl W0 H) (hD : va_D A0 W0) (hS : va_S A0 H0 H locs) (hA : ∀ q, H0.size ≤ q → A0 q)
    (hf : W1.map Prod.fst = W0.map Prod.fst) (hw : (rest.map fun v => v.category).sum ≤ 8) (hdg : decode cc pc = .ok (.invokestatic index, 3))
    (kk : ∀ (H1 : Heap) (locs1 : List Loc), va_P D vwCl W1 H1 → va_D A0 W1 → va_S A0 H0 H1 locs1 → W p l e R s m asM.toArray below meth c H1 locs1 0 0 Q (F0 m (pc + 3) ls rest)) :
    W p l e R s m asM.toArray below meth c H locs 0 0 Q (F0 m pc ls st) := by
  obtain ⟨hx, hb, -, hml, hown, hts, -, hN, hK, -⟩ := B
  subst hst
  have hr := va_runS (mc := 0) (ms := 0) (As := as) (rest := rest) (g := F0 m pc ls (as.reverse ++ rest)) (cells := 0) (slots := 0) (locs := locs) (l := l) (e := e) (below := below) (meth := meth) (H := H) ⟨hx, hb, hml, hown, hts⟩ (hM H.size) ⟨cb, hts _ hst'⟩
    ⟨cPre_blind _ D tys W0 H.size, fun U hU hW => ⟨rfl, x_preF hP hD hK hN U hU hW⟩⟩ rfl hk hls rfl (lv_room hw) hdg ⟨Nat.zero_le _, Nat.zero_le _⟩
  have hF := x_sub hD hS hA
  refine va_callv hr hS (fun q _ h => hF q h) hF (fun u t H1 locs1 ht hvm hw hB hz hk hS1 => ?_)
  rw [ht] at hB
  exact kk H1 locs1 hB (va_D_same hf hD) hS1
theorem fN_i {host : String} (B : Bd p s m meth c cc nL rtO own D tys asM) (hls : ls.size = nL) (hM : MI l y b n rt rm D tys as W0 W1 rv)
    (cb : va_CN R s asM.toArray own index y host b n (some rt) (WS y b n (some rt)) rm 0 0 k) (hst' : Cond.static y ∈ wsL_law)
    (hst : st = as.reverse ++ rest) (hk : as.length = k) (hP : va_P D vwCl W0 H) (hD : va_D A0 W0) (hS : va_S A0 H0 H locs) (hA : ∀ q, H0.size ≤ q → A0 q)
    (hf : W1.map Prod.fst = W0.map Prod.fst) (hw : (rest.map fun v => v.category).sum ≤ 8) (hdg : decode cc pc = .ok (.invokestatic index, 3))
    (kk : ∀ (H1 : Heap) (locs1 : List Loc), va_P D vwCl W1 H1 → va_D A0 W1 → va_S A0 H0 H1 locs1 → W p l e R s m asM.toArray below meth c H1 locs1 0 0 Q (F0 m (pc + 3) ls (.int rv :: rest))) :
    W p l e R s m asM.toArray below meth c H locs 0 0 Q (F0 m pc ls st) := by
  obtain ⟨hx, hb, -, hml, hown, hts, -, hN, hK, -⟩ := B
  subst hst
  have hr := va_runSN (mc := 0) (ms := 0) (As := as) (rest := rest) (g := F0 m pc ls (as.reverse ++ rest)) (cells := 0) (slots := 0) (locs := locs) (l := l) (e := e) (below := below) (meth := meth) (H := H) ⟨hx, hb, hml, hown, hts⟩ (hM H.size) ⟨cb, hts _ hst', trivial⟩
    ⟨cPre_blind _ D tys W0 H.size, fun U hU hW => ⟨rfl, x_preF hP hD hK hN U hU hW⟩⟩ rfl hk hls rfl (lv_room hw) hdg ⟨Nat.zero_le _, Nat.zero_le _⟩
  have hF := x_sub hD hS hA
  refine va_calli hr hS (fun q _ h => hF q h) hF (fun r u t H1 locs1 ht hvm hw hB hz hk hS1 => ?_)
  rw [ht] at hB
  subst hw
  exact kk H1 locs1 hB (va_D_same hf hD) hS1
end XF
end
section
abbrev TY (cI cZ : ClassId) : List (ClassId × FieldType) := [(cI, .int), (cZ, .boolean)]
def f_X0_isEmpty (qsz : Nat) : Bool :=
  if qsz = 0 then true else false
set_option maxHeartbeats 4000000 in
set_option maxRecDepth 100000 in
theorem c_X0_isEmpty (l : Launch) (D : va_G) (cI cZ : ClassId) (ad : Nat → Nat) (rc rl rh fr fw fc fg ps pg pr pd qp qt qf qo ct : Nat → Int32) (cand : Int32) (lim : Int32) (now : Int32) (was : Int32) (sent : Nat) (qfi : Nat) (qsz : Nat) (hqsz : qsz ≤ 200) : MI l yX0_isEmpty cX0_isEmpty 1 .boolean { frames := 0, cells := 0, slots := 0, locals := 0 } D (TY cI cZ) [.ref (ad 15)] (wC cI ad rc rl rh fr fw fc fg ps pg pr pd qp qt qf qo ct cand lim now was (nI sent) (nI qfi) (nI qsz)) (wC cI ad rc rl rh fr fw fc fg ps pg pr pd qp qt qf qo ct cand lim now was (nI sent) (nI qfi) (nI qsz)) (bI (f_X0_isEmpty qsz)) := by
  refine MI.mk ⟨rfl, rfl⟩ (by decide +kernel) (Nat.le_of_ble_eq_true rfl) ?_
  intro p e s m below meth c A ls B hA hP hD hS hl
  have hx := B.1
  have hb := B.2.1
  have hts := B.2.2.2.2.2.1
  have hN := B.2.2.2.2.2.2.2.1
  have hK := B.2.2.2.2.2.2.2.2.1
  have hl : lv_has ls 1 [(0, .ref (ad 15))] := hl
  have hf := f_X0_isEmpty.eq_1 qsz
  refine lv_aload_n hx hb dX0_isEmpty_0 rfl (lv_at hl 0 rfl) ?_
  refine g_X0_24 B hP 15 rfl rfl dX0_isEmpty_1 ?_
  refine r_if_ne (tgt := 11) hx hb (by omega) dX0_isEmpty_4 (by decide) (fun c1 => ?_) (fun c1 => ?_)
  · have hf := hf.trans (if_neg c1)
    refine lv_iconst (v := nI 0) hx hb dX0_isEmpty_11 (by decide) ?_
    exact eZ B hP hS (by decide) ((congrArg (fun (u : Bool) => bI u) hf).symm) rfl dX0_isEmpty_12
  · have hf := hf.trans (if_pos c1)
    refine lv_iconst (v := nI 1) hx hb dX0_isEmpty_7 (by decide) ?_
    refine lv_goto (tgt := 12) hx hb dX0_isEmpty_8 (by decide) ?_
    exact eZ B hP hS (by decide) ((congrArg (fun (u : Bool) => bI u) hf).symm) rfl dX0_isEmpty_12
set_option maxHeartbeats 4000000 in
set_option maxRecDepth 100000 in
theorem c_X0_count (l : Launch) (D : va_G) (cI cZ : ClassId) (ad : Nat → Nat) (rc rl rh fr fw fc fg ps pg pr pd qp qt qf qo ct : Nat → Int32) (cand : Int32) (lim : Int32) (now : Int32) (was : Int32) (sent : Nat) (qfi : Nat) (qsz : Nat) (hqsz : qsz ≤ 200) : MI l yX0_count cX0_count 1 .int { frames := 0, cells := 0, slots := 0, locals := 0 } D (TY cI cZ) [.ref (ad 15)] (wC cI ad rc rl rh fr fw fc fg ps pg pr pd qp qt qf qo ct cand lim now was (nI sent) (nI qfi) (nI qsz)) (wC cI ad rc rl rh fr fw fc fg ps pg pr pd qp qt qf qo ct cand lim now was (nI sent) (nI qfi) (nI qsz)) (nI qsz) := by
  refine MI.mk ⟨rfl, rfl⟩ (by decide +kernel) (Nat.le_of_ble_eq_true rfl) ?_
  intro p e s m below meth c A ls B hA hP hD hS hl
  have hx := B.1
  have hb := B.2.1
  have hts := B.2.2.2.2.2.1
  have hN := B.2.2.2.2.2.2.2.1
  have hK := B.2.2.2.2.2.2.2.2.1
  have hl : lv_has ls 1 [(0, .ref (ad 15))] := hl
  refine lv_aload_n hx hb dX0_count_0 rfl (lv_at hl 0 rfl) ?_
  refine g_X0_24 B hP 15 rfl rfl dX0_count_1 ?_
  exact eI B hP hS rfl rfl dX0_count_4
def f_X0_put (p0 : Int32) (p1 : Int32) (p2 : Int32) (p3 : Int32) (qp : Nat → Int32) (qt : Nat → Int32) (qf : Nat → Int32) (qo : Nat → Int32) (qfi : Nat) (qsz : Nat) : Bool × (Nat → Int32) × (Nat → Int32) × (Nat → Int32) × (Nat → Int32) × Nat :=
  if qsz < 200 then (true, upd qp ((qfi + qsz) % 200) p0, upd qt ((qfi + qsz) % 200) p1, upd qf ((qfi + qsz) % 200) p2, upd qo ((qfi + qsz) % 200) p3, qsz + 1) else (false, qp, qt, qf, qo, qsz)
theorem fb_X0_put_qsz (p0 : Int32) (p1 : Int32) (p2 : Int32) (p3 : Int32) (qp : Nat → Int32) (qt : Nat → Int32) (qf : Nat → Int32) (qo : Nat → Int32) (qfi : Nat) (qsz : Nat) (h_qfi : qfi ≤ 199) (h_qsz : qsz ≤ 200) : (f_X0_put p0 p1 p2 p3 qp qt qf qo qfi qsz).2.2.2.2.2 ≤ 200 := by
  unfold f_X0_put
  (try repeat' split)
  all_goals (first | (dsimp only; omega) | omega)
set_option maxHeartbeats 4000000 in
set_option maxRecDepth 100000 in
theorem c_X0_put (l : Launch) (D : va_G) (cI cZ : ClassId) (ad : Nat → Nat) (rc rl rh fr fw fc fg ps pg pr pd qp qt qf qo ct : Nat → Int32) (cand : Int32) (lim : Int32) (now : Int32) (was : Int32) (sent : Nat) (qfi : Nat) (qsz : Nat) (p0 : Int32) (p1 : Int32) (p2 : Int32) (p3 : Int32) (hqfi : qfi ≤ 199) (hqsz : qsz ≤ 200) : MI l yX0_put cX0_put 6 .boolean { frames := 0, cells := 0, slots := 0, locals := 0 } D (TY cI cZ) [.ref (ad 15), .int p0, .int p1, .int p2, .int p3] (wC cI ad rc rl rh fr fw fc fg ps pg pr pd qp qt qf qo ct cand lim now was (nI sent) (nI qfi) (nI qsz)) (wC cI ad rc rl rh fr fw fc fg ps pg pr pd ((f_X0_put p0 p1 p2 p3 qp qt qf qo qfi qsz).2.1) ((f_X0_put p0 p1 p2 p3 qp qt qf qo qfi qsz).2.2.1) ((f_X0_put p0 p1 p2 p3 qp qt qf qo qfi qsz).2.2.2.1) ((f_X0_put p0 p1 p2 p3 qp qt qf qo qfi qsz).2.2.2.2.1) ct cand lim now was (nI sent) (nI qfi) (nI ((f_X0_put p0 p1 p2 p3 qp qt qf qo qfi qsz).2.2.2.2.2))) (bI ((f_X0_put p0 p1 p2 p3 qp qt qf qo qfi qsz).1)) := by
  refine MI.mk ⟨rfl, rfl⟩ (by decide +kernel) (Nat.le_of_ble_eq_true rfl) ?_
  intro p e s m below meth c A ls B hA hP hD hS hl
  have hx := B.1
  have hb := B.2.1
  have hts := B.2.2.2.2.2.1
  have hN := B.2.2.2.2.2.2.2.1
  have hK := B.2.2.2.2.2.2.2.2.1
  have hl : lv_has ls 6 [(0, .ref (ad 15)), (1, .int p0), (2, .int p1), (3, .int p2), (4, .int p3)] := hl
  have hf := f_X0_put.eq_1 p0 p1 p2 p3 qp qt qf qo qfi qsz
  refine lv_aload_n hx hb dX0_put_0 rfl (lv_at hl 0 rfl) ?_
  refine g_X0_24 B hP 15 rfl rfl dX0_put_1 ?_
  refine lv_sipush (v := nI 200) hx hb dX0_put_4 (by decide) ?_
  refine r_icmp_lt (tgt := 12) hx hb (by omega) (by omega) dX0_put_7 (by decide) (fun c1 => ?_) (fun c1 => ?_)
  · have hf := hf.trans (if_pos c1)
    refine lv_aload_n hx hb dX0_put_12 rfl (lv_at hl 0 rfl) ?_
    refine g_X0_28 B hP 15 rfl rfl dX0_put_13 ?_
    refine lv_aload_n hx hb dX0_put_16 rfl (lv_at hl 0 rfl) ?_
    refine g_X0_24 B hP 15 rfl rfl dX0_put_17 ?_
    refine r_iadd hx hb dX0_put_20 ?_
    refine lv_sipush (v := nI 200) hx hb dX0_put_21 (by decide) ?_
    refine r_irem hx hb (by omega) (by omega) (by omega) dX0_put_24 ?_
    refine lv_istore (lv' := [(5, .int (nI ((qfi + qsz) % 200))), (0, .ref (ad 15)), (1, .int p0), (2, .int p1), (3, .int p2), (4, .int p3)]) hx hb dX0_put_25 hl (by decide) rfl (fun ls hl => ?_)
    refine lv_aload_n hx hb dX0_put_27 rfl (lv_at hl 1 rfl) ?_
    refine g_X0_9 B hP 15 rfl rfl dX0_put_28 ?_
    refine lv_iload hx hb dX0_put_31 (lv_at hl 0 rfl) ?_
    refine lv_iload_n hx hb dX0_put_33 rfl (lv_at hl 2 rfl) ?_
    refine r_iast hx hb hK hP hD hS 16 0 rfl rfl (by omega) (by decide) dX0_put_34 (fun H locs hP hD hS => ?_)
    have hP : va_P D vwCl (wC cI ad rc rl rh fr fw fc fg ps pg pr pd (upd qp ((qfi + qsz) % 200) p0) qt qf qo ct cand lim now was (nI sent) (nI qfi) (nI qsz)) H := hP
    have hD : va_D A (wC cI ad rc rl rh fr fw fc fg ps pg pr pd (upd qp ((qfi + qsz) % 200) p0) qt qf qo ct cand lim now was (nI sent) (nI qfi) (nI qsz)) := hD
    refine lv_aload_n hx hb dX0_put_35 rfl (lv_at hl 1 rfl) ?_
    refine g_X0_15 B hP 15 rfl rfl dX0_put_36 ?_
    refine lv_iload hx hb dX0_put_39 (lv_at hl 0 rfl) ?_
    refine lv_iload_n hx hb dX0_put_41 rfl (lv_at hl 3 rfl) ?_
    refine r_iast hx hb hK hP hD hS 17 0 rfl rfl (by omega) (by decide) dX0_put_42 (fun H locs hP hD hS => ?_)
    have hP : va_P D vwCl (wC cI ad rc rl rh fr fw fc fg ps pg pr pd (upd qp ((qfi + qsz) % 200) p0) (upd qt ((qfi + qsz) % 200) p1) qf qo ct cand lim now was (nI sent) (nI qfi) (nI qsz)) H := hP
    have hD : va_D A (wC cI ad rc rl rh fr fw fc fg ps pg pr pd (upd qp ((qfi + qsz) % 200) p0) (upd qt ((qfi + qsz) % 200) p1) qf qo ct cand lim now was (nI sent) (nI qfi) (nI qsz)) := hD
    refine lv_aload_n hx hb dX0_put_43 rfl (lv_at hl 1 rfl) ?_
    refine g_X0_18 B hP 15 rfl rfl dX0_put_44 ?_
    refine lv_iload hx hb dX0_put_47 (lv_at hl 0 rfl) ?_
    refine lv_iload_n hx hb dX0_put_49 rfl (lv_at hl 4 rfl) ?_
    refine r_iast hx hb hK hP hD hS 18 0 rfl rfl (by omega) (by decide) dX0_put_50 (fun H locs hP hD hS => ?_)
    have hP : va_P D vwCl (wC cI ad rc rl rh fr fw fc fg ps pg pr pd (upd qp ((qfi + qsz) % 200) p0) (upd qt ((qfi + qsz) % 200) p1) (upd qf ((qfi + qsz) % 200) p2) qo ct cand lim now was (nI sent) (nI qfi) (nI qsz)) H := hP
    have hD : va_D A (wC cI ad rc rl rh fr fw fc fg ps pg pr pd (upd qp ((qfi + qsz) % 200) p0) (upd qt ((qfi + qsz) % 200) p1) (upd qf ((qfi + qsz) % 200) p2) qo ct cand lim now was (nI sent) (nI qfi) (nI qsz)) := hD
    refine lv_aload_n hx hb dX0_put_51 rfl (lv_at hl 1 rfl) ?_
    refine g_X0_21 B hP 15 rfl rfl dX0_put_52 ?_
    refine lv_iload hx hb dX0_put_55 (lv_at hl 0 rfl) ?_
    refine lv_iload hx hb dX0_put_57 (lv_at hl 5 rfl) ?_
    refine r_iast hx hb hK hP hD hS 19 0 rfl rfl (by omega) (by decide) dX0_put_59 (fun H locs hP hD hS => ?_)
    have hP : va_P D vwCl (wC cI ad rc rl rh fr fw fc fg ps pg pr pd (upd qp ((qfi + qsz) % 200) p0) (upd qt ((qfi + qsz) % 200) p1) (upd qf ((qfi + qsz) % 200) p2) (upd qo ((qfi + qsz) % 200) p3) ct cand lim now was (nI sent) (nI qfi) (nI qsz)) H := hP
    have hD : va_D A (wC cI ad rc rl rh fr fw fc fg ps pg pr pd (upd qp ((qfi + qsz) % 200) p0) (upd qt ((qfi + qsz) % 200) p1) (upd qf ((qfi + qsz) % 200) p2) (upd qo ((qfi + qsz) % 200) p3) ct cand lim now was (nI sent) (nI qfi) (nI qsz)) := hD
    refine lv_aload_n hx hb dX0_put_60 rfl (lv_at hl 1 rfl) ?_
    refine lv_dup hx hb dX0_put_61 rfl ?_
    refine g_X0_24 B hP 15 rfl rfl dX0_put_62 ?_
    refine lv_iconst (v := nI 1) hx hb dX0_put_65 (by decide) ?_
    refine r_iadd hx hb dX0_put_66 ?_
    refine p_X0_24 B hP hD hS 15 rfl (Nat.le_of_ble_eq_true rfl) dX0_put_67 (fun H locs hP hD hS => ?_)
    have hP : va_P D vwCl (wC cI ad rc rl rh fr fw fc fg ps pg pr pd (upd qp ((qfi + qsz) % 200) p0) (upd qt ((qfi + qsz) % 200) p1) (upd qf ((qfi + qsz) % 200) p2) (upd qo ((qfi + qsz) % 200) p3) ct cand lim now was (nI sent) (nI qfi) (nI (qsz + 1))) H := hP
    have hD : va_D A (wC cI ad rc rl rh fr fw fc fg ps pg pr pd (upd qp ((qfi + qsz) % 200) p0) (upd qt ((qfi + qsz) % 200) p1) (upd qf ((qfi + qsz) % 200) p2) (upd qo ((qfi + qsz) % 200) p3) ct cand lim now was (nI sent) (nI qfi) (nI (qsz + 1))) := hD
    refine lv_iconst (v := nI 1) hx hb dX0_put_70 (by decide) ?_
    exact eZ B hP hS (by decide) ((congrArg (fun (u : Bool × (Nat → Int32) × (Nat → Int32) × (Nat → Int32) × (Nat → Int32) × Nat) => bI u.1) hf).symm) ((congrArg (fun (u : Bool × (Nat → Int32) × (Nat → Int32) × (Nat → Int32) × (Nat → Int32) × Nat) => wC cI ad rc rl rh fr fw fc fg ps pg pr pd u.2.1 u.2.2.1 u.2.2.2.1 u.2.2.2.2.1 ct cand lim now was (nI sent) (nI qfi) (nI u.2.2.2.2.2)) hf).symm) dX0_put_71
  · have hf := hf.trans (if_neg c1)
    refine lv_iconst (v := nI 0) hx hb dX0_put_10 (by decide) ?_
    exact eZ B hP hS (by decide) ((congrArg (fun (u : Bool × (Nat → Int32) × (Nat → Int32) × (Nat → Int32) × (Nat → Int32) × Nat) => bI u.1) hf).symm) ((congrArg (fun (u : Bool × (Nat → Int32) × (Nat → Int32) × (Nat → Int32) × (Nat → Int32) × Nat) => wC cI ad rc rl rh fr fw fc fg ps pg pr pd u.2.1 u.2.2.1 u.2.2.2.1 u.2.2.2.2.1 ct cand lim now was (nI sent) (nI qfi) (nI u.2.2.2.2.2)) hf).symm) dX0_put_11
def f_X0_removeFirst (qfi : Nat) (qsz : Nat) : Nat × Nat :=
  if qsz = 0 then (qfi, qsz) else ((qfi + 1) % 200, qsz - 1)
theorem fb_X0_removeFirst_qfi (qfi : Nat) (qsz : Nat) (h_qfi : qfi ≤ 199) (h_qsz : qsz ≤ 200) : (f_X0_removeFirst qfi qsz).1 ≤ 199 := by
  unfold f_X0_removeFirst
  (try repeat' split)
  all_goals (first | (dsimp only; omega) | omega)
theorem fb_X0_removeFirst_qsz (qfi : Nat) (qsz : Nat) (h_qfi : qfi ≤ 199) (h_qsz : qsz ≤ 200) : (f_X0_removeFirst qfi qsz).2 ≤ 200 := by
  unfold f_X0_removeFirst
  (try repeat' split)
  all_goals (first | (dsimp only; omega) | omega)
set_option maxHeartbeats 4000000 in
set_option maxRecDepth 100000 in
theorem c_X0_removeFirst (l : Launch) (D : va_G) (cI cZ : ClassId) (ad : Nat → Nat) (rc rl rh fr fw fc fg ps pg pr pd qp qt qf qo ct : Nat → Int32) (cand : Int32) (lim : Int32) (now : Int32) (was : Int32) (sent : Nat) (qfi : Nat) (qsz : Nat) (hqfi : qfi ≤ 199) (hqsz : qsz ≤ 200) : MV l yX0_removeFirst cX0_removeFirst 1 { frames := 0, cells := 0, slots := 0, locals := 0 } D (TY cI cZ) [.ref (ad 15)] (wC cI ad rc rl rh fr fw fc fg ps pg pr pd qp qt qf qo ct cand lim now was (nI sent) (nI qfi) (nI qsz)) (wC cI ad rc rl rh fr fw fc fg ps pg pr pd qp qt qf qo ct cand lim now was (nI sent) (nI ((f_X0_removeFirst qfi qsz).1)) (nI ((f_X0_removeFirst qfi qsz).2))) := by
  refine MV.mk ⟨rfl, rfl⟩ (by decide +kernel) (Nat.le_of_ble_eq_true rfl) ?_
  intro p e s m below meth c A ls B hA hP hD hS hl
  have hx := B.1
  have hb := B.2.1
  have hts := B.2.2.2.2.2.1
  have hN := B.2.2.2.2.2.2.2.1
  have hK := B.2.2.2.2.2.2.2.2.1
  have hl : lv_has ls 1 [(0, .ref (ad 15))] := hl
  have hf := f_X0_removeFirst.eq_1 qfi qsz
  refine lv_aload_n hx hb dX0_removeFirst_0 rfl (lv_at hl 0 rfl) ?_
  refine g_X0_24 B hP 15 rfl rfl dX0_removeFirst_1 ?_
  refine r_if_le (tgt := 31) hx hb (by omega) dX0_removeFirst_4 (by decide) (fun c1 => ?_) (fun c1 => ?_)
  · have hf := hf.trans (if_pos c1)
    exact eV B hP hS ((congrArg (fun (u : Nat × Nat) => wC cI ad rc rl rh fr fw fc fg ps pg pr pd qp qt qf qo ct cand lim now was (nI sent) (nI u.1) (nI u.2)) hf).symm) dX0_removeFirst_31
  · have hf := hf.trans (if_neg c1)
    refine lv_aload_n hx hb dX0_removeFirst_7 rfl (lv_at hl 0 rfl) ?_
    refine lv_aload_n hx hb dX0_removeFirst_8 rfl (lv_at hl 0 rfl) ?_
    refine g_X0_28 B hP 15 rfl rfl dX0_removeFirst_9 ?_
    refine lv_iconst (v := nI 1) hx hb dX0_removeFirst_12 (by decide) ?_
    refine r_iadd hx hb dX0_removeFirst_13 ?_
    refine lv_sipush (v := nI 200) hx hb dX0_removeFirst_14 (by decide) ?_
    refine r_irem hx hb (by omega) (by omega) (by omega) dX0_removeFirst_17 ?_
    refine p_X0_28 B hP hD hS 15 rfl (Nat.le_of_ble_eq_true rfl) dX0_removeFirst_18 (fun H locs hP hD hS => ?_)
    have hP : va_P D vwCl (wC cI ad rc rl rh fr fw fc fg ps pg pr pd qp qt qf qo ct cand lim now was (nI sent) (nI ((qfi + 1) % 200)) (nI qsz)) H := hP
    have hD : va_D A (wC cI ad rc rl rh fr fw fc fg ps pg pr pd qp qt qf qo ct cand lim now was (nI sent) (nI ((qfi + 1) % 200)) (nI qsz)) := hD
    refine lv_aload_n hx hb dX0_removeFirst_21 rfl (lv_at hl 0 rfl) ?_
    refine lv_dup hx hb dX0_removeFirst_22 rfl ?_
    refine g_X0_24 B hP 15 rfl rfl dX0_removeFirst_23 ?_
    refine lv_iconst (v := nI 1) hx hb dX0_removeFirst_26 (by decide) ?_
    refine r_isub hx hb (by omega) dX0_removeFirst_27 ?_
    refine p_X0_24 B hP hD hS 15 rfl (Nat.le_of_ble_eq_true rfl) dX0_removeFirst_28 (fun H locs hP hD hS => ?_)
    have hP : va_P D vwCl (wC cI ad rc rl rh fr fw fc fg ps pg pr pd qp qt qf qo ct cand lim now was (nI sent) (nI ((qfi + 1) % 200)) (nI (qsz - 1))) H := hP
    have hD : va_D A (wC cI ad rc rl rh fr fw fc fg ps pg pr pd qp qt qf qo ct cand lim now was (nI sent) (nI ((qfi + 1) % 200)) (nI (qsz - 1))) := hD
    exact eV B hP hS ((congrArg (fun (u : Nat × Nat) => wC cI ad rc rl rh fr fw fc fg ps pg pr pd qp qt qf qo ct cand lim now was (nI sent) (nI u.1) (nI u.2)) hf).symm) dX0_removeFirst_31
def f_X0_firstIn_qp (qp : Nat → Int32) (qfi : Nat) (qsz : Nat) : Int32 :=
  if qsz = 0 then -1 else qp qfi
set_option maxHeartbeats 4000000 in
set_option maxRecDepth 100000 in
theorem c_X0_firstIn_qp (l : Launch) (D : va_G) (cI cZ : ClassId) (ad : Nat → Nat) (rc rl rh fr fw fc fg ps pg pr pd qp qt qf qo ct : Nat → Int32) (cand : Int32) (lim : Int32) (now : Int32) (was : Int32) (sent : Nat) (qfi : Nat) (qsz : Nat) (hqfi : qfi ≤ 199) (hqsz : qsz ≤ 200) : MI l yX0_firstIn cX0_firstIn 2 .int { frames := 0, cells := 0, slots := 0, locals := 0 } D (TY cI cZ) [.ref (ad 15), .ref (ad 16)] (wC cI ad rc rl rh fr fw fc fg ps pg pr pd qp qt qf qo ct cand lim now was (nI sent) (nI qfi) (nI qsz)) (wC cI ad rc rl rh fr fw fc fg ps pg pr pd qp qt qf qo ct cand lim now was (nI sent) (nI qfi) (nI qsz)) (f_X0_firstIn_qp qp qfi qsz) := by
  refine MI.mk ⟨rfl, rfl⟩ (by decide +kernel) (Nat.le_of_ble_eq_true rfl) ?_
  intro p e s m below meth c A ls B hA hP hD hS hl
  have hx := B.1
  have hb := B.2.1
  have hts := B.2.2.2.2.2.1
  have hN := B.2.2.2.2.2.2.2.1
  have hK := B.2.2.2.2.2.2.2.2.1
  have hl : lv_has ls 2 [(0, .ref (ad 15)), (1, .ref (ad 16))] := hl
  have hf := f_X0_firstIn_qp.eq_1 qp qfi qsz
  refine lv_aload_n hx hb dX0_firstIn_0 rfl (lv_at hl 0 rfl) ?_
  refine g_X0_24 B hP 15 rfl rfl dX0_firstIn_1 ?_
  refine r_if_le (tgt := 32) hx hb (by omega) dX0_firstIn_4 (by decide) (fun c1 => ?_) (fun c1 => ?_)
  · have hf := hf.trans (if_pos c1)
    refine lv_iconst (v := -1) hx hb dX0_firstIn_32 (by decide) ?_
    exact eI B hP hS ((congrArg (fun (u : Int32) => u) hf).symm) rfl dX0_firstIn_33
  · have hf := hf.trans (if_neg c1)
    refine lv_aload_n hx hb dX0_firstIn_7 rfl (lv_at hl 0 rfl) ?_
    refine g_X0_28 B hP 15 rfl rfl dX0_firstIn_8 ?_
    refine r_if_lt (tgt := 32) hx hb (by omega) dX0_firstIn_11 (by decide) ?_
    refine lv_aload_n hx hb dX0_firstIn_14 rfl (lv_at hl 0 rfl) ?_
    refine g_X0_28 B hP 15 rfl rfl dX0_firstIn_15 ?_
    refine lv_aload_n hx hb dX0_firstIn_18 rfl (lv_at hl 1 rfl) ?_
    refine va_alen (v := nI 200) hx hb hK hP 16 0 rfl rfl rfl dX0_firstIn_19 ?_
    refine r_icmp_ge (tgt := 32) hx hb (by omega) (by omega) dX0_firstIn_20 (by decide) (fun c => absurd c (by omega)) (fun _ => ?_)
    refine lv_aload_n hx hb dX0_firstIn_23 rfl (lv_at hl 1 rfl) ?_
    refine lv_aload_n hx hb dX0_firstIn_24 rfl (lv_at hl 0 rfl) ?_
    refine g_X0_28 B hP 15 rfl rfl dX0_firstIn_25 ?_
    refine r_iald hx hb hK hP 16 0 rfl rfl (by omega) (by decide) dX0_firstIn_28 ?_
    refine lv_goto (tgt := 33) hx hb dX0_firstIn_29 (by decide) ?_
    exact eI B hP hS ((congrArg (fun (u : Int32) => u) hf).symm) rfl dX0_firstIn_33
def f_X0_firstIn_qt (qt : Nat → Int32) (qfi : Nat) (qsz : Nat) : Int32 :=
  if qsz = 0 then -1 else qt qfi
set_option maxHeartbeats 4000000 in
set_option maxRecDepth 100000 in
theorem c_X0_firstIn_qt (l : Launch) (D : va_G) (cI cZ : ClassId) (ad : Nat → Nat) (rc rl rh fr fw fc fg ps pg pr pd qp qt qf qo ct : Nat → Int32) (cand : Int32) (lim : Int32) (now : Int32) (was : Int32) (sent : Nat) (qfi : Nat) (qsz : Nat) (hqfi : qfi ≤ 199) (hqsz : qsz ≤ 200) : MI l yX0_firstIn cX0_firstIn 2 .int { frames := 0, cells := 0, slots := 0, locals := 0 } D (TY cI cZ) [.ref (ad 15), .ref (ad 17)] (wC cI ad rc rl rh fr fw fc fg ps pg pr pd qp qt qf qo ct cand lim now was (nI sent) (nI qfi) (nI qsz)) (wC cI ad rc rl rh fr fw fc fg ps pg pr pd qp qt qf qo ct cand lim now was (nI sent) (nI qfi) (nI qsz)) (f_X0_firstIn_qt qt qfi qsz) := by
  refine MI.mk ⟨rfl, rfl⟩ (by decide +kernel) (Nat.le_of_ble_eq_true rfl) ?_
  intro p e s m below meth c A ls B hA hP hD hS hl
  have hx := B.1
  have hb := B.2.1
  have hts := B.2.2.2.2.2.1
  have hN := B.2.2.2.2.2.2.2.1
  have hK := B.2.2.2.2.2.2.2.2.1
  have hl : lv_has ls 2 [(0, .ref (ad 15)), (1, .ref (ad 17))] := hl
  have hf := f_X0_firstIn_qt.eq_1 qt qfi qsz
  refine lv_aload_n hx hb dX0_firstIn_0 rfl (lv_at hl 0 rfl) ?_
  refine g_X0_24 B hP 15 rfl rfl dX0_firstIn_1 ?_
  refine r_if_le (tgt := 32) hx hb (by omega) dX0_firstIn_4 (by decide) (fun c1 => ?_) (fun c1 => ?_)
  · have hf := hf.trans (if_pos c1)
    refine lv_iconst (v := -1) hx hb dX0_firstIn_32 (by decide) ?_
    exact eI B hP hS ((congrArg (fun (u : Int32) => u) hf).symm) rfl dX0_firstIn_33
  · have hf := hf.trans (if_neg c1)
    refine lv_aload_n hx hb dX0_firstIn_7 rfl (lv_at hl 0 rfl) ?_
    refine g_X0_28 B hP 15 rfl rfl dX0_firstIn_8 ?_
    refine r_if_lt (tgt := 32) hx hb (by omega) dX0_firstIn_11 (by decide) ?_
    refine lv_aload_n hx hb dX0_firstIn_14 rfl (lv_at hl 0 rfl) ?_
    refine g_X0_28 B hP 15 rfl rfl dX0_firstIn_15 ?_
    refine lv_aload_n hx hb dX0_firstIn_18 rfl (lv_at hl 1 rfl) ?_
    refine va_alen (v := nI 200) hx hb hK hP 17 0 rfl rfl rfl dX0_firstIn_19 ?_
    refine r_icmp_ge (tgt := 32) hx hb (by omega) (by omega) dX0_firstIn_20 (by decide) (fun c => absurd c (by omega)) (fun _ => ?_)
    refine lv_aload_n hx hb dX0_firstIn_23 rfl (lv_at hl 1 rfl) ?_
    refine lv_aload_n hx hb dX0_firstIn_24 rfl (lv_at hl 0 rfl) ?_
    refine g_X0_28 B hP 15 rfl rfl dX0_firstIn_25 ?_
    refine r_iald hx hb hK hP 17 0 rfl rfl (by omega) (by decide) dX0_firstIn_28 ?_
    refine lv_goto (tgt := 33) hx hb dX0_firstIn_29 (by decide) ?_
    exact eI B hP hS ((congrArg (fun (u : Int32) => u) hf).symm) rfl dX0_firstIn_33
def f_X0_firstIn_qf (qf : Nat → Int32) (qfi : Nat) (qsz : Nat) : Int32 :=
  if qsz = 0 then -1 else qf qfi
set_option maxHeartbeats 4000000 in
set_option maxRecDepth 100000 in
theorem c_X0_firstIn_qf (l : Launch) (D : va_G) (cI cZ : ClassId) (ad : Nat → Nat) (rc rl rh fr fw fc fg ps pg pr pd qp qt qf qo ct : Nat → Int32) (cand : Int32) (lim : Int32) (now : Int32) (was : Int32) (sent : Nat) (qfi : Nat) (qsz : Nat) (hqfi : qfi ≤ 199) (hqsz : qsz ≤ 200) : MI l yX0_firstIn cX0_firstIn 2 .int { frames := 0, cells := 0, slots := 0, locals := 0 } D (TY cI cZ) [.ref (ad 15), .ref (ad 18)] (wC cI ad rc rl rh fr fw fc fg ps pg pr pd qp qt qf qo ct cand lim now was (nI sent) (nI qfi) (nI qsz)) (wC cI ad rc rl rh fr fw fc fg ps pg pr pd qp qt qf qo ct cand lim now was (nI sent) (nI qfi) (nI qsz)) (f_X0_firstIn_qf qf qfi qsz) := by
  refine MI.mk ⟨rfl, rfl⟩ (by decide +kernel) (Nat.le_of_ble_eq_true rfl) ?_
  intro p e s m below meth c A ls B hA hP hD hS hl
  have hx := B.1
  have hb := B.2.1
  have hts := B.2.2.2.2.2.1
  have hN := B.2.2.2.2.2.2.2.1
  have hK := B.2.2.2.2.2.2.2.2.1
  have hl : lv_has ls 2 [(0, .ref (ad 15)), (1, .ref (ad 18))] := hl
  have hf := f_X0_firstIn_qf.eq_1 qf qfi qsz
  refine lv_aload_n hx hb dX0_firstIn_0 rfl (lv_at hl 0 rfl) ?_
  refine g_X0_24 B hP 15 rfl rfl dX0_firstIn_1 ?_
  refine r_if_le (tgt := 32) hx hb (by omega) dX0_firstIn_4 (by decide) (fun c1 => ?_) (fun c1 => ?_)
  · have hf := hf.trans (if_pos c1)
    refine lv_iconst (v := -1) hx hb dX0_firstIn_32 (by decide) ?_
    exact eI B hP hS ((congrArg (fun (u : Int32) => u) hf).symm) rfl dX0_firstIn_33
  · have hf := hf.trans (if_neg c1)
    refine lv_aload_n hx hb dX0_firstIn_7 rfl (lv_at hl 0 rfl) ?_
    refine g_X0_28 B hP 15 rfl rfl dX0_firstIn_8 ?_
    refine r_if_lt (tgt := 32) hx hb (by omega) dX0_firstIn_11 (by decide) ?_
    refine lv_aload_n hx hb dX0_firstIn_14 rfl (lv_at hl 0 rfl) ?_
    refine g_X0_28 B hP 15 rfl rfl dX0_firstIn_15 ?_
    refine lv_aload_n hx hb dX0_firstIn_18 rfl (lv_at hl 1 rfl) ?_
    refine va_alen (v := nI 200) hx hb hK hP 18 0 rfl rfl rfl dX0_firstIn_19 ?_
    refine r_icmp_ge (tgt := 32) hx hb (by omega) (by omega) dX0_firstIn_20 (by decide) (fun c => absurd c (by omega)) (fun _ => ?_)
    refine lv_aload_n hx hb dX0_firstIn_23 rfl (lv_at hl 1 rfl) ?_
    refine lv_aload_n hx hb dX0_firstIn_24 rfl (lv_at hl 0 rfl) ?_
    refine g_X0_28 B hP 15 rfl rfl dX0_firstIn_25 ?_
    refine r_iald hx hb hK hP 18 0 rfl rfl (by omega) (by decide) dX0_firstIn_28 ?_
    refine lv_goto (tgt := 33) hx hb dX0_firstIn_29 (by decide) ?_
    exact eI B hP hS ((congrArg (fun (u : Int32) => u) hf).symm) rfl dX0_firstIn_33
def f_X0_firstIn_qo (qo : Nat → Int32) (qfi : Nat) (qsz : Nat) : Int32 :=
  if qsz = 0 then -1 else qo qfi
set_option maxHeartbeats 4000000 in
set_option maxRecDepth 100000 in
theorem c_X0_firstIn_qo (l : Launch) (D : va_G) (cI cZ : ClassId) (ad : Nat → Nat) (rc rl rh fr fw fc fg ps pg pr pd qp qt qf qo ct : Nat → Int32) (cand : Int32) (lim : Int32) (now : Int32) (was : Int32) (sent : Nat) (qfi : Nat) (qsz : Nat) (hqfi : qfi ≤ 199) (hqsz : qsz ≤ 200) : MI l yX0_firstIn cX0_firstIn 2 .int { frames := 0, cells := 0, slots := 0, locals := 0 } D (TY cI cZ) [.ref (ad 15), .ref (ad 19)] (wC cI ad rc rl rh fr fw fc fg ps pg pr pd qp qt qf qo ct cand lim now was (nI sent) (nI qfi) (nI qsz)) (wC cI ad rc rl rh fr fw fc fg ps pg pr pd qp qt qf qo ct cand lim now was (nI sent) (nI qfi) (nI qsz)) (f_X0_firstIn_qo qo qfi qsz) := by
  refine MI.mk ⟨rfl, rfl⟩ (by decide +kernel) (Nat.le_of_ble_eq_true rfl) ?_
  intro p e s m below meth c A ls B hA hP hD hS hl
  have hx := B.1
  have hb := B.2.1
  have hts := B.2.2.2.2.2.1
  have hN := B.2.2.2.2.2.2.2.1
  have hK := B.2.2.2.2.2.2.2.2.1
  have hl : lv_has ls 2 [(0, .ref (ad 15)), (1, .ref (ad 19))] := hl
  have hf := f_X0_firstIn_qo.eq_1 qo qfi qsz
  refine lv_aload_n hx hb dX0_firstIn_0 rfl (lv_at hl 0 rfl) ?_
  refine g_X0_24 B hP 15 rfl rfl dX0_firstIn_1 ?_
  refine r_if_le (tgt := 32) hx hb (by omega) dX0_firstIn_4 (by decide) (fun c1 => ?_) (fun c1 => ?_)
  · have hf := hf.trans (if_pos c1)
    refine lv_iconst (v := -1) hx hb dX0_firstIn_32 (by decide) ?_
    exact eI B hP hS ((congrArg (fun (u : Int32) => u) hf).symm) rfl dX0_firstIn_33
  · have hf := hf.trans (if_neg c1)
    refine lv_aload_n hx hb dX0_firstIn_7 rfl (lv_at hl 0 rfl) ?_
    refine g_X0_28 B hP 15 rfl rfl dX0_firstIn_8 ?_
    refine r_if_lt (tgt := 32) hx hb (by omega) dX0_firstIn_11 (by decide) ?_
    refine lv_aload_n hx hb dX0_firstIn_14 rfl (lv_at hl 0 rfl) ?_
    refine g_X0_28 B hP 15 rfl rfl dX0_firstIn_15 ?_
    refine lv_aload_n hx hb dX0_firstIn_18 rfl (lv_at hl 1 rfl) ?_
    refine va_alen (v := nI 200) hx hb hK hP 19 0 rfl rfl rfl dX0_firstIn_19 ?_
    refine r_icmp_ge (tgt := 32) hx hb (by omega) (by omega) dX0_firstIn_20 (by decide) (fun c => absurd c (by omega)) (fun _ => ?_)
    refine lv_aload_n hx hb dX0_firstIn_23 rfl (lv_at hl 1 rfl) ?_
    refine lv_aload_n hx hb dX0_firstIn_24 rfl (lv_at hl 0 rfl) ?_
    refine g_X0_28 B hP 15 rfl rfl dX0_firstIn_25 ?_
    refine r_iald hx hb hK hP 19 0 rfl rfl (by omega) (by decide) dX0_firstIn_28 ?_
    refine lv_goto (tgt := 33) hx hb dX0_firstIn_29 (by decide) ?_
    exact eI B hP hS ((congrArg (fun (u : Int32) => u) hf).symm) rfl dX0_firstIn_33
set_option maxHeartbeats 4000000 in
set_option maxRecDepth 100000 in
theorem c_X0_firstPacket (l : Launch) (D : va_G) (cI cZ : ClassId) (ad : Nat → Nat) (rc rl rh fr fw fc fg ps pg pr pd qp qt qf qo ct : Nat → Int32) (cand : Int32) (lim : Int32) (now : Int32) (was : Int32) (sent : Nat) (qfi : Nat) (qsz : Nat) (hqfi : qfi ≤ 199) (hqsz : qsz ≤ 200) : MI l yX0_firstPacket cX0_firstPacket 1 .int { frames := 1, cells := 0, slots := 0, locals := 21 } D (TY cI cZ) [.ref (ad 15)] (wC cI ad rc rl rh fr fw fc fg ps pg pr pd qp qt qf qo ct cand lim now was (nI sent) (nI qfi) (nI qsz)) (wC cI ad rc rl rh fr fw fc fg ps pg pr pd qp qt qf qo ct cand lim now was (nI sent) (nI qfi) (nI qsz)) (f_X0_firstIn_qp qp qfi qsz) := by
  refine MI.mk ⟨rfl, rfl⟩ (by decide +kernel) (Nat.le_of_ble_eq_true rfl) ?_
  intro p e s m below meth c A ls B hA hP hD hS hl
  have hx := B.1
  have hb := B.2.1
  have hts := B.2.2.2.2.2.1
  have hN := B.2.2.2.2.2.2.2.1
  have hK := B.2.2.2.2.2.2.2.2.1
  have hl : lv_has ls 1 [(0, .ref (ad 15))] := hl
  refine lv_aload_n hx hb dX0_firstPacket_0 rfl (lv_at hl 0 rfl) ?_
  refine lv_aload_n hx hb dX0_firstPacket_1 rfl (lv_at hl 0 rfl) ?_
  refine g_X0_9 B hP 15 rfl rfl dX0_firstPacket_2 ?_
  refine fV_i (ci := 0) (as := [.ref (ad 16)]) (rest := []) B hl.1 (c_X0_firstIn_qp l D cI cZ ad rc rl rh fr fw fc fg ps pg pr pd qp qt qf qo ct cand lim now was sent qfi qsz (by omega) (by omega)) rfl (l_RX0_31 hts ⟨rfl, rfl⟩ ⟨Nat.le_of_ble_eq_true rfl, Nat.le_of_ble_eq_true rfl⟩) m_23_20 m_23_21 rfl rfl hP hD hS hA 15 rfl rfl (Nat.le_of_ble_eq_true rfl) dX0_firstPacket_5 (fun H locs hP hD hS => ?_)
  exact eI B hP hS rfl rfl dX0_firstPacket_8
set_option maxHeartbeats 4000000 in
set_option maxRecDepth 100000 in
theorem c_X0_firstTree (l : Launch) (D : va_G) (cI cZ : ClassId) (ad : Nat → Nat) (rc rl rh fr fw fc fg ps pg pr pd qp qt qf qo ct : Nat → Int32) (cand : Int32) (lim : Int32) (now : Int32) (was : Int32) (sent : Nat) (qfi : Nat) (qsz : Nat) (hqfi : qfi ≤ 199) (hqsz : qsz ≤ 200) : MI l yX0_firstTree cX0_firstTree 1 .int { frames := 1, cells := 0, slots := 0, locals := 21 } D (TY cI cZ) [.ref (ad 15)] (wC cI ad rc rl rh fr fw fc fg ps pg pr pd qp qt qf qo ct cand lim now was (nI sent) (nI qfi) (nI qsz)) (wC cI ad rc rl rh fr fw fc fg ps pg pr pd qp qt qf qo ct cand lim now was (nI sent) (nI qfi) (nI qsz)) (f_X0_firstIn_qt qt qfi qsz) := by
  refine MI.mk ⟨rfl, rfl⟩ (by decide +kernel) (Nat.le_of_ble_eq_true rfl) ?_
  intro p e s m below meth c A ls B hA hP hD hS hl
  have hx := B.1
  have hb := B.2.1
  have hts := B.2.2.2.2.2.1
  have hN := B.2.2.2.2.2.2.2.1
  have hK := B.2.2.2.2.2.2.2.2.1
  have hl : lv_has ls 1 [(0, .ref (ad 15))] := hl
  refine lv_aload_n hx hb dX0_firstTree_0 rfl (lv_at hl 0 rfl) ?_
  refine lv_aload_n hx hb dX0_firstTree_1 rfl (lv_at hl 0 rfl) ?_
  refine g_X0_15 B hP 15 rfl rfl dX0_firstTree_2 ?_
  refine fV_i (ci := 0) (as := [.ref (ad 17)]) (rest := []) B hl.1 (c_X0_firstIn_qt l D cI cZ ad rc rl rh fr fw fc fg ps pg pr pd qp qt qf qo ct cand lim now was sent qfi qsz (by omega) (by omega)) rfl (l_RX0_31 hts ⟨rfl, rfl⟩ ⟨Nat.le_of_ble_eq_true rfl, Nat.le_of_ble_eq_true rfl⟩) m_23_20 m_23_21 rfl rfl hP hD hS hA 15 rfl rfl (Nat.le_of_ble_eq_true rfl) dX0_firstTree_5 (fun H locs hP hD hS => ?_)
  exact eI B hP hS rfl rfl dX0_firstTree_8
set_option maxHeartbeats 4000000 in
set_option maxRecDepth 100000 in
theorem c_X0_firstFrom (l : Launch) (D : va_G) (cI cZ : ClassId) (ad : Nat → Nat) (rc rl rh fr fw fc fg ps pg pr pd qp qt qf qo ct : Nat → Int32) (cand : Int32) (lim : Int32) (now : Int32) (was : Int32) (sent : Nat) (qfi : Nat) (qsz : Nat) (hqfi : qfi ≤ 199) (hqsz : qsz ≤ 200) : MI l yX0_firstFrom cX0_firstFrom 1 .int { frames := 1, cells := 0, slots := 0, locals := 21 } D (TY cI cZ) [.ref (ad 15)] (wC cI ad rc rl rh fr fw fc fg ps pg pr pd qp qt qf qo ct cand lim now was (nI sent) (nI qfi) (nI qsz)) (wC cI ad rc rl rh fr fw fc fg ps pg pr pd qp qt qf qo ct cand lim now was (nI sent) (nI qfi) (nI qsz)) (f_X0_firstIn_qf qf qfi qsz) := by
  refine MI.mk ⟨rfl, rfl⟩ (by decide +kernel) (Nat.le_of_ble_eq_true rfl) ?_
  intro p e s m below meth c A ls B hA hP hD hS hl
  have hx := B.1
  have hb := B.2.1
  have hts := B.2.2.2.2.2.1
  have hN := B.2.2.2.2.2.2.2.1
  have hK := B.2.2.2.2.2.2.2.2.1
  have hl : lv_has ls 1 [(0, .ref (ad 15))] := hl
  refine lv_aload_n hx hb dX0_firstFrom_0 rfl (lv_at hl 0 rfl) ?_
  refine lv_aload_n hx hb dX0_firstFrom_1 rfl (lv_at hl 0 rfl) ?_
  refine g_X0_18 B hP 15 rfl rfl dX0_firstFrom_2 ?_
  refine fV_i (ci := 0) (as := [.ref (ad 18)]) (rest := []) B hl.1 (c_X0_firstIn_qf l D cI cZ ad rc rl rh fr fw fc fg ps pg pr pd qp qt qf qo ct cand lim now was sent qfi qsz (by omega) (by omega)) rfl (l_RX0_31 hts ⟨rfl, rfl⟩ ⟨Nat.le_of_ble_eq_true rfl, Nat.le_of_ble_eq_true rfl⟩) m_23_20 m_23_21 rfl rfl hP hD hS hA 15 rfl rfl (Nat.le_of_ble_eq_true rfl) dX0_firstFrom_5 (fun H locs hP hD hS => ?_)
  exact eI B hP hS rfl rfl dX0_firstFrom_8
set_option maxHeartbeats 4000000 in
set_option maxRecDepth 100000 in
theorem c_X0_firstTo (l : Launch) (D : va_G) (cI cZ : ClassId) (ad : Nat → Nat) (rc rl rh fr fw fc fg ps pg pr pd qp qt qf qo ct : Nat → Int32) (cand : Int32) (lim : Int32) (now : Int32) (was : Int32) (sent : Nat) (qfi : Nat) (qsz : Nat) (hqfi : qfi ≤ 199) (hqsz : qsz ≤ 200) : MI l yX0_firstTo cX0_firstTo 1 .int { frames := 1, cells := 0, slots := 0, locals := 21 } D (TY cI cZ) [.ref (ad 15)] (wC cI ad rc rl rh fr fw fc fg ps pg pr pd qp qt qf qo ct cand lim now was (nI sent) (nI qfi) (nI qsz)) (wC cI ad rc rl rh fr fw fc fg ps pg pr pd qp qt qf qo ct cand lim now was (nI sent) (nI qfi) (nI qsz)) (f_X0_firstIn_qo qo qfi qsz) := by
  refine MI.mk ⟨rfl, rfl⟩ (by decide +kernel) (Nat.le_of_ble_eq_true rfl) ?_
  intro p e s m below meth c A ls B hA hP hD hS hl
  have hx := B.1
  have hb := B.2.1
  have hts := B.2.2.2.2.2.1
  have hN := B.2.2.2.2.2.2.2.1
  have hK := B.2.2.2.2.2.2.2.2.1
  have hl : lv_has ls 1 [(0, .ref (ad 15))] := hl
  refine lv_aload_n hx hb dX0_firstTo_0 rfl (lv_at hl 0 rfl) ?_
  refine lv_aload_n hx hb dX0_firstTo_1 rfl (lv_at hl 0 rfl) ?_
  refine g_X0_21 B hP 15 rfl rfl dX0_firstTo_2 ?_
  refine fV_i (ci := 0) (as := [.ref (ad 19)]) (rest := []) B hl.1 (c_X0_firstIn_qo l D cI cZ ad rc rl rh fr fw fc fg ps pg pr pd qp qt qf qo ct cand lim now was sent qfi qsz (by omega) (by omega)) rfl (l_RX0_31 hts ⟨rfl, rfl⟩ ⟨Nat.le_of_ble_eq_true rfl, Nat.le_of_ble_eq_true rfl⟩) m_23_20 m_23_21 rfl rfl hP hD hS hA 15 rfl rfl (Nat.le_of_ble_eq_true rfl) dX0_firstTo_5 (fun H locs hP hD hS => ?_)
  exact eI B hP hS rfl rfl dX0_firstTo_8
end
section
set_option maxHeartbeats 4000000 in
set_option maxRecDepth 100000 in
theorem c_X5_isRouter (l : Launch) (D : va_G) (cI cZ : ClassId) (ws : va_W) (r : Nat) (hr : r < 10) : MI l yX5_isRouter cX5_isRouter 1 .boolean { frames := 0, cells := 0, slots := 0, locals := 0 } D (TY cI cZ) [.int (nI r)] (ws) (ws) (nI 1) := by
  refine MI.mk ⟨rfl, rfl⟩ (by decide +kernel) (Nat.le_of_ble_eq_true rfl) ?_
  intro p e s m below meth c A ls B hA hP hD hS hl
  have hx := B.1
  have hb := B.2.1
  have hts := B.2.2.2.2.2.1
  have hN := B.2.2.2.2.2.2.2.1
  have hK := B.2.2.2.2.2.2.2.2.1
  have hl : lv_has ls 1 [(0, .int (nI r))] := hl
  refine lv_iload_n hx hb dX5_isRouter_0 rfl (lv_at hl 0 rfl) ?_
  refine r_if_lt (tgt := 14) hx hb (by omega) dX5_isRouter_1 (by decide) ?_
  refine lv_iload_n hx hb dX5_isRouter_4 rfl (lv_at hl 0 rfl) ?_
  refine lv_bipush (v := nI 10) hx hb dX5_isRouter_5 (by decide) ?_
  refine r_icmp_ge (tgt := 14) hx hb (by omega) (by omega) dX5_isRouter_7 (by decide) (fun c => absurd c (by omega)) (fun _ => ?_)
  refine lv_iconst (v := nI 1) hx hb dX5_isRouter_10 (by decide) ?_
  refine lv_goto (tgt := 15) hx hb dX5_isRouter_11 (by decide) ?_
  exact eZ B hP hS (by decide) rfl rfl dX5_isRouter_15
def f_X5_isRouter_r (r : Int32) : Bool :=
  if r < 0 then false else if (nI 10) ≤ r then false else true
set_option maxHeartbeats 4000000 in
set_option maxRecDepth 100000 in
theorem c_X5_isRouter_r (l : Launch) (D : va_G) (cI cZ : ClassId) (ws : va_W) (r : Int32) : MI l yX5_isRouter cX5_isRouter 1 .boolean { frames := 0, cells := 0, slots := 0, locals := 0 } D (TY cI cZ) [.int r] (ws) (ws) (bI (f_X5_isRouter_r r)) := by
  refine MI.mk ⟨rfl, rfl⟩ (by decide +kernel) (Nat.le_of_ble_eq_true rfl) ?_
  intro p e s m below meth c A ls B hA hP hD hS hl
  have hx := B.1
  have hb := B.2.1
  have hts := B.2.2.2.2.2.1
  have hN := B.2.2.2.2.2.2.2.1
  have hK := B.2.2.2.2.2.2.2.2.1
  have hl : lv_has ls 1 [(0, .int r)] := hl
  have hf := f_X5_isRouter_r.eq_1 r
  refine lv_iload_n hx hb dX5_isRouter_0 rfl (lv_at hl 0 rfl) ?_
  refine lv_if_lt (tgt := 14) hx hb dX5_isRouter_1 (by decide) (fun c1 => ?_) (fun c1 => ?_)
  · have hf := hf.trans (if_pos c1)
    refine lv_iconst (v := nI 0) hx hb dX5_isRouter_14 (by decide) ?_
    exact eZ B hP hS (by decide) ((congrArg (fun (u : Bool) => bI u) hf).symm) rfl dX5_isRouter_15
  · have hf := hf.trans (if_neg c1)
    refine lv_iload_n hx hb dX5_isRouter_4 rfl (lv_at hl 0 rfl) ?_
    refine lv_bipush (v := nI 10) hx hb dX5_isRouter_5 (by decide) ?_
    refine lv_icmp_ge (tgt := 14) hx hb dX5_isRouter_7 (by decide) (fun c2 => ?_) (fun c2 => ?_)
    · have hf := hf.trans (if_pos c2)
      refine lv_iconst (v := nI 0) hx hb dX5_isRouter_14 (by decide) ?_
      exact eZ B hP hS (by decide) ((congrArg (fun (u : Bool) => bI u) hf).symm) rfl dX5_isRouter_15
    · have hf := hf.trans (if_neg c2)
      refine lv_iconst (v := nI 1) hx hb dX5_isRouter_10 (by decide) ?_
      refine lv_goto (tgt := 15) hx hb dX5_isRouter_11 (by decide) ?_
      exact eZ B hP hS (by decide) ((congrArg (fun (u : Bool) => bI u) hf).symm) rfl dX5_isRouter_15
set_option maxHeartbeats 4000000 in
set_option maxRecDepth 100000 in
theorem c_X5_isGroup (l : Launch) (D : va_G) (cI cZ : ClassId) (ws : va_W) (g : Nat) (hg : g < 4) : MI l yX5_isGroup cX5_isGroup 1 .boolean { frames := 0, cells := 0, slots := 0, locals := 0 } D (TY cI cZ) [.int (nI g)] (ws) (ws) (nI 1) := by
  refine MI.mk ⟨rfl, rfl⟩ (by decide +kernel) (Nat.le_of_ble_eq_true rfl) ?_
  intro p e s m below meth c A ls B hA hP hD hS hl
  have hx := B.1
  have hb := B.2.1
  have hts := B.2.2.2.2.2.1
  have hN := B.2.2.2.2.2.2.2.1
  have hK := B.2.2.2.2.2.2.2.2.1
  have hl : lv_has ls 1 [(0, .int (nI g))] := hl
  refine lv_iload_n hx hb dX5_isGroup_0 rfl (lv_at hl 0 rfl) ?_
  refine r_if_lt (tgt := 13) hx hb (by omega) dX5_isGroup_1 (by decide) ?_
  refine lv_iload_n hx hb dX5_isGroup_4 rfl (lv_at hl 0 rfl) ?_
  refine lv_iconst (v := nI 4) hx hb dX5_isGroup_5 (by decide) ?_
  refine r_icmp_ge (tgt := 13) hx hb (by omega) (by omega) dX5_isGroup_6 (by decide) (fun c => absurd c (by omega)) (fun _ => ?_)
  refine lv_iconst (v := nI 1) hx hb dX5_isGroup_9 (by decide) ?_
  refine lv_goto (tgt := 14) hx hb dX5_isGroup_10 (by decide) ?_
  exact eZ B hP hS (by decide) rfl rfl dX5_isGroup_14
set_option maxHeartbeats 4000000 in
set_option maxRecDepth 100000 in
theorem c_X5_isTree (l : Launch) (D : va_G) (cI cZ : ClassId) (ws : va_W) (t : Nat) (ht : t < 44) : MI l yX5_isTree cX5_isTree 1 .boolean { frames := 0, cells := 0, slots := 0, locals := 0 } D (TY cI cZ) [.int (nI t)] (ws) (ws) (nI 1) := by
  refine MI.mk ⟨rfl, rfl⟩ (by decide +kernel) (Nat.le_of_ble_eq_true rfl) ?_
  intro p e s m below meth c A ls B hA hP hD hS hl
  have hx := B.1
  have hb := B.2.1
  have hts := B.2.2.2.2.2.1
  have hN := B.2.2.2.2.2.2.2.1
  have hK := B.2.2.2.2.2.2.2.2.1
  have hl : lv_has ls 1 [(0, .int (nI t))] := hl
  refine lv_iload_n hx hb dX5_isTree_0 rfl (lv_at hl 0 rfl) ?_
  refine r_if_lt (tgt := 14) hx hb (by omega) dX5_isTree_1 (by decide) ?_
  refine lv_iload_n hx hb dX5_isTree_4 rfl (lv_at hl 0 rfl) ?_
  refine lv_bipush (v := nI 44) hx hb dX5_isTree_5 (by decide) ?_
  refine r_icmp_ge (tgt := 14) hx hb (by omega) (by omega) dX5_isTree_7 (by decide) (fun c => absurd c (by omega)) (fun _ => ?_)
  refine lv_iconst (v := nI 1) hx hb dX5_isTree_10 (by decide) ?_
  refine lv_goto (tgt := 15) hx hb dX5_isTree_11 (by decide) ?_
  exact eZ B hP hS (by decide) rfl rfl dX5_isTree_15
def f_X5_isShared (t : Nat) : Bool :=
  if 4 ≤ t then false else true
set_option maxHeartbeats 4000000 in
set_option maxRecDepth 100000 in
theorem c_X5_isShared (l : Launch) (D : va_G) (cI cZ : ClassId) (ws : va_W) (t : Nat) (ht : t < 44) : MI l yX5_isShared cX5_isShared 1 .boolean { frames := 0, cells := 0, slots := 0, locals := 0 } D (TY cI cZ) [.int (nI t)] (ws) (ws) (bI (f_X5_isShared t)) := by
  refine MI.mk ⟨rfl, rfl⟩ (by decide +kernel) (Nat.le_of_ble_eq_true rfl) ?_
  intro p e s m below meth c A ls B hA hP hD hS hl
  have hx := B.1
  have hb := B.2.1
  have hts := B.2.2.2.2.2.1
  have hN := B.2.2.2.2.2.2.2.1
  have hK := B.2.2.2.2.2.2.2.2.1
  have hl : lv_has ls 1 [(0, .int (nI t))] := hl
  have hf := f_X5_isShared.eq_1 t
  refine lv_iload_n hx hb dX5_isShared_0 rfl (lv_at hl 0 rfl) ?_
  refine r_if_lt (tgt := 13) hx hb (by omega) dX5_isShared_1 (by decide) ?_
  refine lv_iload_n hx hb dX5_isShared_4 rfl (lv_at hl 0 rfl) ?_
  refine lv_iconst (v := nI 4) hx hb dX5_isShared_5 (by decide) ?_
  refine r_icmp_ge (tgt := 13) hx hb (by omega) (by omega) dX5_isShared_6 (by decide) (fun c1 => ?_) (fun c1 => ?_)
  · have hf := hf.trans (if_pos c1)
    refine lv_iconst (v := nI 0) hx hb dX5_isShared_13 (by decide) ?_
    exact eZ B hP hS (by decide) ((congrArg (fun (u : Bool) => bI u) hf).symm) rfl dX5_isShared_14
  · have hf := hf.trans (if_neg c1)
    refine lv_iconst (v := nI 1) hx hb dX5_isShared_9 (by decide) ?_
    refine lv_goto (tgt := 14) hx hb dX5_isShared_10 (by decide) ?_
    exact eZ B hP hS (by decide) ((congrArg (fun (u : Bool) => bI u) hf).symm) rfl dX5_isShared_14
set_option maxHeartbeats 4000000 in
set_option maxRecDepth 100000 in
theorem c_X5_sharedTree (l : Launch) (D : va_G) (cI cZ : ClassId) (ws : va_W) (g : Nat) (hg : g < 4) : MI l yX5_sharedTree cX5_sharedTree 1 .int { frames := 1, cells := 0, slots := 0, locals := 20 } D (TY cI cZ) [.int (nI g)] (ws) (ws) (nI g) := by
  refine MI.mk ⟨rfl, rfl⟩ (by decide +kernel) (Nat.le_of_ble_eq_true rfl) ?_
  intro p e s m below meth c A ls B hA hP hD hS hl
  have hx := B.1
  have hb := B.2.1
  have hts := B.2.2.2.2.2.1
  have hN := B.2.2.2.2.2.2.2.1
  have hK := B.2.2.2.2.2.2.2.2.1
  have hl : lv_has ls 1 [(0, .int (nI g))] := hl
  refine lv_iload_n hx hb dX5_sharedTree_0 rfl (lv_at hl 0 rfl) ?_
  refine fS_i (as := [.int (nI g)]) (rest := []) B hl.1 (c_X5_isGroup l D cI cZ (ws) g (by omega)) (l_RX5_257 hts ⟨rfl, rfl⟩ ⟨Nat.le_of_ble_eq_true rfl, Nat.le_of_ble_eq_true rfl⟩) m_4_16 rfl rfl hP hD hS hA rfl (Nat.le_of_ble_eq_true rfl) dX5_sharedTree_1 (fun H locs hP hD hS => ?_)
  refine r_if_eq (tgt := 11) hx hb (by omega) dX5_sharedTree_4 (by decide) (fun c => absurd c (by omega)) (fun _ => ?_)
  refine lv_iload_n hx hb dX5_sharedTree_7 rfl (lv_at hl 0 rfl) ?_
  refine lv_goto (tgt := 12) hx hb dX5_sharedTree_8 (by decide) ?_
  exact eI B hP hS rfl rfl dX5_sharedTree_12
set_option maxHeartbeats 4000000 in
set_option maxRecDepth 100000 in
theorem c_X5_sourceTree (l : Launch) (D : va_G) (cI cZ : ClassId) (ws : va_W) (s_ : Nat) (g : Nat) (hs_ : s_ < 10) (hg : g < 4) : MI l yX5_sourceTree cX5_sourceTree 2 .int { frames := 1, cells := 0, slots := 0, locals := 20 } D (TY cI cZ) [.int (nI s_), .int (nI g)] (ws) (ws) (nI ((4 + (g * 10)) + s_)) := by
  refine MI.mk ⟨rfl, rfl⟩ (by decide +kernel) (Nat.le_of_ble_eq_true rfl) ?_
  intro p e s m below meth c A ls B hA hP hD hS hl
  have hx := B.1
  have hb := B.2.1
  have hts := B.2.2.2.2.2.1
  have hN := B.2.2.2.2.2.2.2.1
  have hK := B.2.2.2.2.2.2.2.2.1
  have hl : lv_has ls 2 [(0, .int (nI s_)), (1, .int (nI g))] := hl
  refine lv_iload_n hx hb dX5_sourceTree_0 rfl (lv_at hl 0 rfl) ?_
  refine fS_i (as := [.int (nI s_)]) (rest := []) B hl.1 (c_X5_isRouter l D cI cZ (ws) s_ (by omega)) (l_RX5_252 hts ⟨rfl, rfl⟩ ⟨Nat.le_of_ble_eq_true rfl, Nat.le_of_ble_eq_true rfl⟩) m_4_13 rfl rfl hP hD hS hA rfl (Nat.le_of_ble_eq_true rfl) dX5_sourceTree_1 (fun H locs hP hD hS => ?_)
  refine r_if_eq (tgt := 25) hx hb (by omega) dX5_sourceTree_4 (by decide) (fun c => absurd c (by omega)) (fun _ => ?_)
  refine lv_iload_n hx hb dX5_sourceTree_7 rfl (lv_at hl 1 rfl) ?_
  refine fS_i (as := [.int (nI g)]) (rest := []) B hl.1 (c_X5_isGroup l D cI cZ (ws) g (by omega)) (l_RX5_257 hts ⟨rfl, rfl⟩ ⟨Nat.le_of_ble_eq_true rfl, Nat.le_of_ble_eq_true rfl⟩) m_4_16 rfl rfl hP hD hS hA rfl (Nat.le_of_ble_eq_true rfl) dX5_sourceTree_8 (fun H locs hP hD hS => ?_)
  refine r_if_eq (tgt := 25) hx hb (by omega) dX5_sourceTree_11 (by decide) (fun c => absurd c (by omega)) (fun _ => ?_)
  refine lv_iconst (v := nI 4) hx hb dX5_sourceTree_14 (by decide) ?_
  refine lv_iload_n hx hb dX5_sourceTree_15 rfl (lv_at hl 1 rfl) ?_
  refine lv_bipush (v := nI 10) hx hb dX5_sourceTree_16 (by decide) ?_
  refine r_imul hx hb dX5_sourceTree_18 ?_
  refine r_iadd hx hb dX5_sourceTree_19 ?_
  refine lv_iload_n hx hb dX5_sourceTree_20 rfl (lv_at hl 0 rfl) ?_
  refine r_iadd hx hb dX5_sourceTree_21 ?_
  refine lv_goto (tgt := 26) hx hb dX5_sourceTree_22 (by decide) ?_
  exact eI B hP hS rfl rfl dX5_sourceTree_26
set_option maxHeartbeats 4000000 in
set_option maxRecDepth 100000 in
theorem c_X5_bit (l : Launch) (D : va_G) (cI cZ : ClassId) (ws : va_W) (r : Nat) (hr : r < 10) : MI l yX5_bit cX5_bit 1 .int { frames := 0, cells := 0, slots := 0, locals := 0 } D (TY cI cZ) [.int (nI r)] (ws) (ws) ((nI 1) <<< ((nI r) &&& 31)) := by
  refine MI.mk ⟨rfl, rfl⟩ (by decide +kernel) (Nat.le_of_ble_eq_true rfl) ?_
  intro p e s m below meth c A ls B hA hP hD hS hl
  have hx := B.1
  have hb := B.2.1
  have hts := B.2.2.2.2.2.1
  have hN := B.2.2.2.2.2.2.2.1
  have hK := B.2.2.2.2.2.2.2.2.1
  have hl : lv_has ls 1 [(0, .int (nI r))] := hl
  refine lv_iconst (v := nI 1) hx hb dX5_bit_0 (by decide) ?_
  refine lv_iload_n hx hb dX5_bit_1 rfl (lv_at hl 0 rfl) ?_
  refine lv_ishl hx hb dX5_bit_2 ?_
  exact eI B hP hS rfl rfl dX5_bit_3
def f_X5_has (set : Int32) (r : Nat) : Bool :=
  if (set &&& ((nI 1) <<< ((nI r) &&& 31))) = 0 then false else true
set_option maxHeartbeats 4000000 in
set_option maxRecDepth 100000 in
theorem c_X5_has (l : Launch) (D : va_G) (cI cZ : ClassId) (ws : va_W) (set : Int32) (r : Nat) (hr : r < 10) : MI l yX5_has cX5_has 2 .boolean { frames := 1, cells := 0, slots := 0, locals := 20 } D (TY cI cZ) [.int set, .int (nI r)] (ws) (ws) (bI (f_X5_has set r)) := by
  refine MI.mk ⟨rfl, rfl⟩ (by decide +kernel) (Nat.le_of_ble_eq_true rfl) ?_
  intro p e s m below meth c A ls B hA hP hD hS hl
  have hx := B.1
  have hb := B.2.1
  have hts := B.2.2.2.2.2.1
  have hN := B.2.2.2.2.2.2.2.1
  have hK := B.2.2.2.2.2.2.2.2.1
  have hl : lv_has ls 2 [(0, .int set), (1, .int (nI r))] := hl
  have hf := f_X5_has.eq_1 set r
  refine lv_iload_n hx hb dX5_has_0 rfl (lv_at hl 1 rfl) ?_
  refine fS_i (as := [.int (nI r)]) (rest := []) B hl.1 (c_X5_isRouter l D cI cZ (ws) r (by omega)) (l_RX5_252 hts ⟨rfl, rfl⟩ ⟨Nat.le_of_ble_eq_true rfl, Nat.le_of_ble_eq_true rfl⟩) m_4_13 rfl rfl hP hD hS hA rfl (Nat.le_of_ble_eq_true rfl) dX5_has_1 (fun H locs hP hD hS => ?_)
  refine r_if_eq (tgt := 20) hx hb (by omega) dX5_has_4 (by decide) (fun c => absurd c (by omega)) (fun _ => ?_)
  refine lv_iload_n hx hb dX5_has_7 rfl (lv_at hl 0 rfl) ?_
  refine lv_iload_n hx hb dX5_has_8 rfl (lv_at hl 1 rfl) ?_
  refine fS_i (as := [.int (nI r)]) (rest := [.int set]) B hl.1 (c_X5_bit l D cI cZ (ws) r (by omega)) (l_RX5_78 hts ⟨rfl, rfl⟩ ⟨Nat.le_of_ble_eq_true rfl, Nat.le_of_ble_eq_true rfl⟩) m_7_23 rfl rfl hP hD hS hA rfl (Nat.le_of_ble_eq_true rfl) dX5_has_9 (fun H locs hP hD hS => ?_)
  refine lv_iand hx hb dX5_has_12 ?_
  refine lv_if_eq (tgt := 20) hx hb dX5_has_13 (by decide) (fun c1 => ?_) (fun c1 => ?_)
  · have hf := hf.trans (if_pos c1)
    refine lv_iconst (v := nI 0) hx hb dX5_has_20 (by decide) ?_
    exact eZ B hP hS (by decide) ((congrArg (fun (u : Bool) => bI u) hf).symm) rfl dX5_has_21
  · have hf := hf.trans (if_neg c1)
    refine lv_iconst (v := nI 1) hx hb dX5_has_16 (by decide) ?_
    refine lv_goto (tgt := 21) hx hb dX5_has_17 (by decide) ?_
    exact eZ B hP hS (by decide) ((congrArg (fun (u : Bool) => bI u) hf).symm) rfl dX5_has_21
theorem nat_of {x : Int32} {n : Nat} (hn : n < 2 ^ 31) (h0 : ¬ x < 0) (h : ¬ nI n ≤ x) : x = nI x.toNatClampNeg ∧ x.toNatClampNeg < n := by
  obtain ⟨j, hj, rfl⟩ := nI_of h0
  rw [nI_clamp hj]
  refine ⟨rfl, ?_⟩
  rw [nI_leI hn hj] at h
  omega
theorem isRouter_r {x : Int32} (h : f_X5_isRouter_r x = true) : x = nI x.toNatClampNeg ∧ x.toNatClampNeg < 10 := by
  unfold f_X5_isRouter_r at h
  by_cases h1 : x < 0
  · rw [if_pos h1] at h; cases h
  · rw [if_neg h1] at h
    by_cases h2 : nI 10 ≤ x
    · rw [if_pos h2] at h; cases h
    · exact nat_of (by decide) h1 h2
theorem cell_eq {cI : ClassId} {n : Nat} {f g : Nat → Int32} (h : ∀ j, j < n → f j = g j) : vp_cell cI (n, .inl f) = vp_cell cI (n, .inl g) := by
  rw [vp_cell_i, vp_cell_i]
  unfold arrV
  congr 1
  congr 1
  funext j
  show Value.int (f j.val) = Value.int (g j.val)
  rw [h j.val j.isLt]
theorem va_ext {D : va_G} {ws : va_W} {H : Heap} {q0 n : Nat} {a : Nat} {cI : ClassId} {f g : Nat → Int32} (h : ∀ j, j < n → f j = g j) (hP : va_P D vwCl (ws.set q0 (a, .inl (cI, n, .inl f))) H) : va_P D vwCl (ws.set q0 (a, .inl (cI, n, .inl g))) H := by
  intro k q hq
  by_cases hk : k = q0
  · subst hk
    by_cases hl : k < ws.length
    · rw [List.getElem?_set_self hl] at hq
      cases hq
      have h1 := hP k (a, .inl (cI, n, .inl f)) (List.getElem?_set_self hl)
      show H[a]? = some (vp_cell cI (n, .inl g))
      rw [← cell_eq h]
      exact h1
    · rw [List.getElem?_eq_none (by rw [List.length_set]; omega)] at hq
      cases hq
  · rw [List.getElem?_set_ne (Ne.symm hk)] at hq
    exact hP k q (by rw [List.getElem?_set_ne (Ne.symm hk)]; exact hq)
theorem set_self {ws : va_W} {q0 : Nat} {x : Nat × va_E} (h : ws[q0]? = some x) : ws.set q0 x = ws := by
  apply List.ext_getElem?
  intro k
  by_cases hk : k = q0
  · subst hk
    rw [List.getElem?_set_self (List.getElem?_eq_some_iff.mp h).1, h]
  · rw [List.getElem?_set_ne (Ne.symm hk)]
set_option maxHeartbeats 4000000 in
set_option maxRecDepth 100000 in
theorem c_fill (l : Launch) (D : va_G) (cI cZ : ClassId) (ws : va_W) (q0 n : Nat) (f : Nat → Int32) (a : Nat) (v : Int32) (he : ws[q0]? = some (a, .inl (cI, n, .inl f))) (hn : n < 2 ^ 31) : MV l yJ7_fill_53178 cJ7_fill_53178 4 { frames := 0, cells := 0, slots := 0, locals := 0 } D (TY cI cZ) [.ref a, .int v] ws (ws.set q0 (a, .inl (cI, n, .inl (fun _ => v)))) := by
  refine MV.mk ⟨rfl, rfl⟩ (by decide +kernel) (Nat.le_of_ble_eq_true rfl) ?_
  intro p e s m below meth c A ls B hA hP hD hS hl
  have hx := B.1
  have hb := B.2.1
  have hK := B.2.2.2.2.2.2.2.2.1
  have hlt : q0 < ws.length := (List.getElem?_eq_some_iff.mp he).1
  have hl : lv_has ls 4 [(0, .ref a), (1, .int v)] := hl
  refine lv_iconst (v := nI 0) hx hb dJ7_fill_53178_0 (by decide) ?_
  refine lv_istore_n (lv' := [(2, .int (nI 0)), (0, .ref a), (1, .int v)]) hx hb dJ7_fill_53178_1 rfl hl (by decide) rfl (fun ls hl => ?_)
  refine lv_aload_n hx hb dJ7_fill_53178_2 rfl (lv_at hl 1 rfl) ?_
  refine va_alen (v := nI n) hx hb hK hP q0 0 he rfl rfl dJ7_fill_53178_3 ?_
  refine lv_istore_n (lv' := [(3, .int (nI n)), (2, .int (nI 0)), (0, .ref a), (1, .int v)]) hx hb dJ7_fill_53178_4 rfl hl (by decide) rfl (fun ls hl => ?_)
  have L5 : ∀ (n5 k5 : Nat) (g : Nat → Int32), k5 + n5 = n → (∀ j, j < k5 → g j = v) → ∀ (H : Heap) (locs : List Loc), va_P D vwCl (ws.set q0 (a, .inl (cI, n, .inl g))) H → va_D A (ws.set q0 (a, .inl (cI, n, .inl g))) → va_S A s.heap H locs → ∀ ls : Array Slot, lv_has ls 4 [(0, .ref a), (1, .int v), (2, .int (nI k5)), (3, .int (nI n))] → W p l e { frames := 0, cells := 0, slots := 0, locals := 0 } s m [.ref a, .int v].toArray below meth c H locs 0 0 (QV below s A D [.ref a, .int v] (ws.set q0 (a, .inl (cI, n, .inl (fun _ => v))))) (F0 m 5 ls []) := by
    intro n5
    induction n5 with
    | zero =>
      intro k5 g hk hg H locs hP hD hS ls hl
      refine lv_iload_n hx hb dJ7_fill_53178_5 rfl (lv_at hl 2 rfl) ?_
      refine lv_iload_n hx hb dJ7_fill_53178_6 rfl (lv_at hl 3 rfl) ?_
      refine r_icmp_ge (tgt := 20) hx hb (by omega) (by omega) dJ7_fill_53178_7 (by decide) (fun _ => ?_) (fun c => absurd c (by omega))
      exact eV B (va_ext (fun j hj => hg j (by omega)) hP) hS rfl dJ7_fill_53178_20
    | succ n5 ih =>
      intro k5 g hk hg H locs hP hD hS ls hl
      refine lv_iload_n hx hb dJ7_fill_53178_5 rfl (lv_at hl 2 rfl) ?_
      refine lv_iload_n hx hb dJ7_fill_53178_6 rfl (lv_at hl 3 rfl) ?_
      refine r_icmp_ge (tgt := 20) hx hb (by omega) (by omega) dJ7_fill_53178_7 (by decide) (fun c => absurd c (by omega)) (fun _ => ?_)
      refine lv_aload_n hx hb dJ7_fill_53178_10 rfl (lv_at hl 0 rfl) ?_
      refine lv_iload_n hx hb dJ7_fill_53178_11 rfl (lv_at hl 2 rfl) ?_
      refine lv_iload_n hx hb dJ7_fill_53178_12 rfl (lv_at hl 1 rfl) ?_
      refine r_iast hx hb hK hP hD hS q0 0 (List.getElem?_set_self hlt) rfl (by omega) hn dJ7_fill_53178_13 (fun H locs hP hD hS => ?_)
      rw [List.set_set] at hP hD
      refine lv_iinc (v := nI (k5 + 1)) (lv' := [(2, .int (nI (k5 + 1))), (0, .ref a), (1, .int v), (3, .int (nI n))]) hx hb dJ7_fill_53178_14 hl (k := 2) rfl (nI_add _ _) (by decide) rfl (fun ls hl => ?_)
      refine lv_goto (tgt := 5) hx hb dJ7_fill_53178_17 (by decide) ?_
      refine ih (k5 + 1) (upd g k5 v) (by omega) (fun j hj => ?_) H locs hP hD hS _ (lv_sub hl [1, 2, 0, 3] rfl)
      by_cases h : j = k5
      · subst h; exact pk_us
      · rw [pk_un h]; exact hg j (by omega)
  have hP' : va_P D vwCl (ws.set q0 (a, .inl (cI, n, .inl f))) s.heap := by rw [set_self he]; exact hP
  have hD' : va_D A (ws.set q0 (a, .inl (cI, n, .inl f))) := by rw [set_self he]; exact hD
  exact L5 n 0 f (by omega) (fun j hj => absurd hj (Nat.not_lt_zero j)) _ _ hP' hD' hS _ (lv_sub hl [2, 3, 1, 0] rfl)
end
section
set_option maxHeartbeats 4000000 in
set_option maxRecDepth 100000 in
theorem c_X1_isPlace (l : Launch) (D : va_G) (cI cZ : ClassId) (ws : va_W) (m_ : Nat) (s_ : Nat) (g : Nat) (hm_ : m_ < 10) (hs_ : s_ < 10) (hg : g < 4) : MI l yX1_isPlace cX1_isPlace 3 .boolean { frames := 1, cells := 0, slots := 0, locals := 20 } D (TY cI cZ) [.int (nI m_), .int (nI s_), .int (nI g)] (ws) (ws) (nI 1) := by
  refine MI.mk ⟨rfl, rfl⟩ (by decide +kernel) (Nat.le_of_ble_eq_true rfl) ?_
  intro p e s m below meth c A ls B hA hP hD hS hl
  have hx := B.1
  have hb := B.2.1
  have hts := B.2.2.2.2.2.1
  have hN := B.2.2.2.2.2.2.2.1
  have hK := B.2.2.2.2.2.2.2.2.1
  have hl : lv_has ls 3 [(0, .int (nI m_)), (1, .int (nI s_)), (2, .int (nI g))] := hl
  refine lv_iload_n hx hb dX1_isPlace_0 rfl (lv_at hl 0 rfl) ?_
  refine fN_i (as := [.int (nI m_)]) (rest := []) B hl.1 (c_X5_isRouter l D cI cZ (ws) m_ (by omega)) (l_RX1_29 hts hN ⟨rfl, rfl⟩ ⟨Nat.le_of_ble_eq_true rfl, Nat.le_of_ble_eq_true rfl⟩) m_4_13 rfl rfl hP hD hS hA rfl (Nat.le_of_ble_eq_true rfl) dX1_isPlace_1 (fun H locs hP hD hS => ?_)
  refine r_if_eq (tgt := 25) hx hb (by omega) dX1_isPlace_4 (by decide) (fun c => absurd c (by omega)) (fun _ => ?_)
  refine lv_iload_n hx hb dX1_isPlace_7 rfl (lv_at hl 1 rfl) ?_
  refine fN_i (as := [.int (nI s_)]) (rest := []) B hl.1 (c_X5_isRouter l D cI cZ (ws) s_ (by omega)) (l_RX1_29 hts hN ⟨rfl, rfl⟩ ⟨Nat.le_of_ble_eq_true rfl, Nat.le_of_ble_eq_true rfl⟩) m_4_13 rfl rfl hP hD hS hA rfl (Nat.le_of_ble_eq_true rfl) dX1_isPlace_8 (fun H locs hP hD hS => ?_)
  refine r_if_eq (tgt := 25) hx hb (by omega) dX1_isPlace_11 (by decide) (fun c => absurd c (by omega)) (fun _ => ?_)
  refine lv_iload_n hx hb dX1_isPlace_14 rfl (lv_at hl 2 rfl) ?_
  refine fN_i (as := [.int (nI g)]) (rest := []) B hl.1 (c_X5_isGroup l D cI cZ (ws) g (by omega)) (l_RX1_33 hts hN ⟨rfl, rfl⟩ ⟨Nat.le_of_ble_eq_true rfl, Nat.le_of_ble_eq_true rfl⟩) m_4_16 rfl rfl hP hD hS hA rfl (Nat.le_of_ble_eq_true rfl) dX1_isPlace_15 (fun H locs hP hD hS => ?_)
  refine r_if_eq (tgt := 25) hx hb (by omega) dX1_isPlace_18 (by decide) (fun c => absurd c (by omega)) (fun _ => ?_)
  refine lv_iconst (v := nI 1) hx hb dX1_isPlace_21 (by decide) ?_
  refine lv_goto (tgt := 26) hx hb dX1_isPlace_22 (by decide) ?_
  exact eZ B hP hS (by decide) rfl rfl dX1_isPlace_26
set_option maxHeartbeats 4000000 in
set_option maxRecDepth 100000 in
theorem c_X1_placeOf (l : Launch) (D : va_G) (cI cZ : ClassId) (ws : va_W) (m_ : Nat) (s_ : Nat) (g : Nat) (hm_ : m_ < 10) (hs_ : s_ < 10) (hg : g < 4) : MI l yX1_placeOf cX1_placeOf 3 .int { frames := 0, cells := 0, slots := 0, locals := 0 } D (TY cI cZ) [.int (nI m_), .int (nI s_), .int (nI g)] (ws) (ws) (nI ((((g * 10) + s_) * 10) + m_)) := by
  refine MI.mk ⟨rfl, rfl⟩ (by decide +kernel) (Nat.le_of_ble_eq_true rfl) ?_
  intro p e s m below meth c A ls B hA hP hD hS hl
  have hx := B.1
  have hb := B.2.1
  have hts := B.2.2.2.2.2.1
  have hN := B.2.2.2.2.2.2.2.1
  have hK := B.2.2.2.2.2.2.2.2.1
  have hl : lv_has ls 3 [(0, .int (nI m_)), (1, .int (nI s_)), (2, .int (nI g))] := hl
  refine lv_iload_n hx hb dX1_placeOf_0 rfl (lv_at hl 2 rfl) ?_
  refine lv_bipush (v := nI 10) hx hb dX1_placeOf_1 (by decide) ?_
  refine r_imul hx hb dX1_placeOf_3 ?_
  refine lv_iload_n hx hb dX1_placeOf_4 rfl (lv_at hl 1 rfl) ?_
  refine r_iadd hx hb dX1_placeOf_5 ?_
  refine lv_bipush (v := nI 10) hx hb dX1_placeOf_6 (by decide) ?_
  refine r_imul hx hb dX1_placeOf_8 ?_
  refine lv_iload_n hx hb dX1_placeOf_9 rfl (lv_at hl 0 rfl) ?_
  refine r_iadd hx hb dX1_placeOf_10 ?_
  exact eI B hP hS rfl rfl dX1_placeOf_11
set_option maxHeartbeats 4000000 in
set_option maxRecDepth 100000 in
theorem c_X1_raise (l : Launch) (D : va_G) (cI cZ : ClassId) (ad : Nat → Nat) (rc rl rh fr fw fc fg ps pg pr pd qp qt qf qo ct : Nat → Int32) (cand : Int32) (lim : Int32) (now : Int32) (was : Int32) (sent : Nat) (qfi : Nat) (qsz : Nat) (m_ : Nat) (s_ : Nat) (g : Nat) (hm_ : m_ < 10) (hs_ : s_ < 10) (hg : g < 4) : MI l yX1_raise cX1_raise 5 .int { frames := 2, cells := 0, slots := 0, locals := 42 } D (TY cI cZ) [.ref (ad 20), .int (nI m_), .int (nI s_), .int (nI g)] (wC cI ad rc rl rh fr fw fc fg ps pg pr pd qp qt qf qo ct cand lim now was (nI sent) (nI qfi) (nI qsz)) (wC cI ad rc rl rh fr fw fc fg ps pg pr pd qp qt qf qo (upd ct ((((g * 10) + s_) * 10) + m_) ((ct ((((g * 10) + s_) * 10) + m_)) + (nI 1))) cand lim now was (nI sent) (nI qfi) (nI qsz)) ((upd ct ((((g * 10) + s_) * 10) + m_) ((ct ((((g * 10) + s_) * 10) + m_)) + (nI 1))) ((((g * 10) + s_) * 10) + m_)) := by
  refine MI.mk ⟨rfl, rfl⟩ (by decide +kernel) (Nat.le_of_ble_eq_true rfl) ?_
  intro p e s m below meth c A ls B hA hP hD hS hl
  have hx := B.1
  have hb := B.2.1
  have hts := B.2.2.2.2.2.1
  have hN := B.2.2.2.2.2.2.2.1
  have hK := B.2.2.2.2.2.2.2.2.1
  have hl : lv_has ls 5 [(0, .ref (ad 20)), (1, .int (nI m_)), (2, .int (nI s_)), (3, .int (nI g))] := hl
  refine lv_iload_n hx hb dX1_raise_0 rfl (lv_at hl 1 rfl) ?_
  refine lv_iload_n hx hb dX1_raise_1 rfl (lv_at hl 2 rfl) ?_
  refine lv_iload_n hx hb dX1_raise_2 rfl (lv_at hl 3 rfl) ?_
  refine fS_i (as := [.int (nI m_), .int (nI s_), .int (nI g)]) (rest := []) B hl.1 (c_X1_isPlace l D cI cZ (wC cI ad rc rl rh fr fw fc fg ps pg pr pd qp qt qf qo ct cand lim now was (nI sent) (nI qfi) (nI qsz)) m_ s_ g (by omega) (by omega) (by omega)) (l_RX1_15 hts ⟨rfl, rfl⟩ ⟨Nat.le_of_ble_eq_true rfl, Nat.le_of_ble_eq_true rfl⟩) m_16_14 rfl rfl hP hD hS hA rfl (Nat.le_of_ble_eq_true rfl) dX1_raise_3 (fun H locs hP hD hS => ?_)
  refine r_if_ne (tgt := 11) hx hb (by omega) dX1_raise_6 (by decide) (fun _ => ?_) (fun c => absurd c (by omega))
  refine lv_iload_n hx hb dX1_raise_11 rfl (lv_at hl 1 rfl) ?_
  refine lv_iload_n hx hb dX1_raise_12 rfl (lv_at hl 2 rfl) ?_
  refine lv_iload_n hx hb dX1_raise_13 rfl (lv_at hl 3 rfl) ?_
  refine fS_i (as := [.int (nI m_), .int (nI s_), .int (nI g)]) (rest := []) B hl.1 (c_X1_placeOf l D cI cZ (wC cI ad rc rl rh fr fw fc fg ps pg pr pd qp qt qf qo ct cand lim now was (nI sent) (nI qfi) (nI qsz)) m_ s_ g (by omega) (by omega) (by omega)) (l_RX1_19 hts ⟨rfl, rfl⟩ ⟨Nat.le_of_ble_eq_true rfl, Nat.le_of_ble_eq_true rfl⟩) m_16_17 rfl rfl hP hD hS hA rfl (Nat.le_of_ble_eq_true rfl) dX1_raise_14 (fun H locs hP hD hS => ?_)
  refine lv_istore (lv' := [(4, .int (nI ((((g * 10) + s_) * 10) + m_))), (0, .ref (ad 20)), (1, .int (nI m_)), (2, .int (nI s_)), (3, .int (nI g))]) hx hb dX1_raise_17 hl (by decide) rfl (fun ls hl => ?_)
  refine lv_aload_n hx hb dX1_raise_19 rfl (lv_at hl 1 rfl) ?_
  refine g_X1_9 B hP 20 rfl rfl dX1_raise_20 ?_
  refine lv_iload hx hb dX1_raise_23 (lv_at hl 0 rfl) ?_
  refine lv_dup2_11 hx hb dX1_raise_25 rfl rfl ?_
  refine r_iald hx hb hK hP 21 0 rfl rfl (by omega) (by decide) dX1_raise_26 ?_
  refine lv_iconst (v := nI 1) hx hb dX1_raise_27 (by decide) ?_
  refine lv_iadd hx hb dX1_raise_28 ?_
  refine r_iast hx hb hK hP hD hS 21 0 rfl rfl (by omega) (by decide) dX1_raise_29 (fun H locs hP hD hS => ?_)
  have hP : va_P D vwCl (wC cI ad rc rl rh fr fw fc fg ps pg pr pd qp qt qf qo (upd ct ((((g * 10) + s_) * 10) + m_) ((ct ((((g * 10) + s_) * 10) + m_)) + (nI 1))) cand lim now was (nI sent) (nI qfi) (nI qsz)) H := hP
  have hD : va_D A (wC cI ad rc rl rh fr fw fc fg ps pg pr pd qp qt qf qo (upd ct ((((g * 10) + s_) * 10) + m_) ((ct ((((g * 10) + s_) * 10) + m_)) + (nI 1))) cand lim now was (nI sent) (nI qfi) (nI qsz)) := hD
  refine lv_aload_n hx hb dX1_raise_30 rfl (lv_at hl 1 rfl) ?_
  refine g_X1_9 B hP 20 rfl rfl dX1_raise_31 ?_
  refine lv_iload hx hb dX1_raise_34 (lv_at hl 0 rfl) ?_
  refine r_iald hx hb hK hP 21 0 rfl rfl (by omega) (by decide) dX1_raise_36 ?_
  exact eI B hP hS rfl rfl dX1_raise_37
set_option maxHeartbeats 4000000 in
set_option maxRecDepth 100000 in
theorem c_X1_forget (l : Launch) (D : va_G) (cI cZ : ClassId) (ad : Nat → Nat) (rc rl rh fr fw fc fg ps pg pr pd qp qt qf qo ct : Nat → Int32) (cand : Int32) (lim : Int32) (now : Int32) (was : Int32) (sent : Nat) (qfi : Nat) (qsz : Nat) (m_ : Nat) (s_ : Nat) (g : Nat) (hm_ : m_ < 10) (hs_ : s_ < 10) (hg : g < 4) : MV l yX1_forget cX1_forget 4 { frames := 2, cells := 0, slots := 0, locals := 42 } D (TY cI cZ) [.ref (ad 20), .int (nI m_), .int (nI s_), .int (nI g)] (wC cI ad rc rl rh fr fw fc fg ps pg pr pd qp qt qf qo ct cand lim now was (nI sent) (nI qfi) (nI qsz)) (wC cI ad rc rl rh fr fw fc fg ps pg pr pd qp qt qf qo (upd ct ((((g * 10) + s_) * 10) + m_) (nI 0)) cand lim now was (nI sent) (nI qfi) (nI qsz)) := by
  refine MV.mk ⟨rfl, rfl⟩ (by decide +kernel) (Nat.le_of_ble_eq_true rfl) ?_
  intro p e s m below meth c A ls B hA hP hD hS hl
  have hx := B.1
  have hb := B.2.1
  have hts := B.2.2.2.2.2.1
  have hN := B.2.2.2.2.2.2.2.1
  have hK := B.2.2.2.2.2.2.2.2.1
  have hl : lv_has ls 4 [(0, .ref (ad 20)), (1, .int (nI m_)), (2, .int (nI s_)), (3, .int (nI g))] := hl
  refine lv_iload_n hx hb dX1_forget_0 rfl (lv_at hl 1 rfl) ?_
  refine lv_iload_n hx hb dX1_forget_1 rfl (lv_at hl 2 rfl) ?_
  refine lv_iload_n hx hb dX1_forget_2 rfl (lv_at hl 3 rfl) ?_
  refine fS_i (as := [.int (nI m_), .int (nI s_), .int (nI g)]) (rest := []) B hl.1 (c_X1_isPlace l D cI cZ (wC cI ad rc rl rh fr fw fc fg ps pg pr pd qp qt qf qo ct cand lim now was (nI sent) (nI qfi) (nI qsz)) m_ s_ g (by omega) (by omega) (by omega)) (l_RX1_15 hts ⟨rfl, rfl⟩ ⟨Nat.le_of_ble_eq_true rfl, Nat.le_of_ble_eq_true rfl⟩) m_16_14 rfl rfl hP hD hS hA rfl (Nat.le_of_ble_eq_true rfl) dX1_forget_3 (fun H locs hP hD hS => ?_)
  refine r_if_eq (tgt := 21) hx hb (by omega) dX1_forget_6 (by decide) (fun c => absurd c (by omega)) (fun _ => ?_)
  refine lv_aload_n hx hb dX1_forget_9 rfl (lv_at hl 0 rfl) ?_
  refine g_X1_9 B hP 20 rfl rfl dX1_forget_10 ?_
  refine lv_iload_n hx hb dX1_forget_13 rfl (lv_at hl 1 rfl) ?_
  refine lv_iload_n hx hb dX1_forget_14 rfl (lv_at hl 2 rfl) ?_
  refine lv_iload_n hx hb dX1_forget_15 rfl (lv_at hl 3 rfl) ?_
  refine fS_i (as := [.int (nI m_), .int (nI s_), .int (nI g)]) (rest := [.ref (ad 21)]) B hl.1 (c_X1_placeOf l D cI cZ (wC cI ad rc rl rh fr fw fc fg ps pg pr pd qp qt qf qo ct cand lim now was (nI sent) (nI qfi) (nI qsz)) m_ s_ g (by omega) (by omega) (by omega)) (l_RX1_19 hts ⟨rfl, rfl⟩ ⟨Nat.le_of_ble_eq_true rfl, Nat.le_of_ble_eq_true rfl⟩) m_16_17 rfl rfl hP hD hS hA rfl (Nat.le_of_ble_eq_true rfl) dX1_forget_16 (fun H locs hP hD hS => ?_)
  refine lv_iconst (v := nI 0) hx hb dX1_forget_19 (by decide) ?_
  refine r_iast hx hb hK hP hD hS 21 0 rfl rfl (by omega) (by decide) dX1_forget_20 (fun H locs hP hD hS => ?_)
  have hP : va_P D vwCl (wC cI ad rc rl rh fr fw fc fg ps pg pr pd qp qt qf qo (upd ct ((((g * 10) + s_) * 10) + m_) (nI 0)) cand lim now was (nI sent) (nI qfi) (nI qsz)) H := hP
  have hD : va_D A (wC cI ad rc rl rh fr fw fc fg ps pg pr pd qp qt qf qo (upd ct ((((g * 10) + s_) * 10) + m_) (nI 0)) cand lim now was (nI sent) (nI qfi) (nI qsz)) := hD
  exact eV B hP hS rfl dX1_forget_21
set_option maxHeartbeats 4000000 in
set_option maxRecDepth 100000 in
theorem c_X1_forgetAll (l : Launch) (D : va_G) (cI cZ : ClassId) (ad : Nat → Nat) (rc rl rh fr fw fc fg ps pg pr pd qp qt qf qo ct : Nat → Int32) (cand : Int32) (lim : Int32) (now : Int32) (was : Int32) (sent : Nat) (qfi : Nat) (qsz : Nat) : MV l yX1_forgetAll cX1_forgetAll 1 { frames := 1, cells := 0, slots := 0, locals := 23 } D (TY cI cZ) [.ref (ad 20)] (wC cI ad rc rl rh fr fw fc fg ps pg pr pd qp qt qf qo ct cand lim now was (nI sent) (nI qfi) (nI qsz)) (wC cI ad rc rl rh fr fw fc fg ps pg pr pd qp qt qf qo (fun _ => (nI 0)) cand lim now was (nI sent) (nI qfi) (nI qsz)) := by
  refine MV.mk ⟨rfl, rfl⟩ (by decide +kernel) (Nat.le_of_ble_eq_true rfl) ?_
  intro p e s m below meth c A ls B hA hP hD hS hl
  have hx := B.1
  have hb := B.2.1
  have hts := B.2.2.2.2.2.1
  have hN := B.2.2.2.2.2.2.2.1
  have hK := B.2.2.2.2.2.2.2.2.1
  have hl : lv_has ls 1 [(0, .ref (ad 20))] := hl
  refine lv_aload_n hx hb dX1_forgetAll_0 rfl (lv_at hl 0 rfl) ?_
  refine g_X1_9 B hP 20 rfl rfl dX1_forgetAll_1 ?_
  refine lv_iconst (v := nI 0) hx hb dX1_forgetAll_4 (by decide) ?_
  refine fS_v (as := [.ref (ad 21), .int (nI 0)]) (rest := []) B hl.1 (c_fill l D cI cZ (wC cI ad rc rl rh fr fw fc fg ps pg pr pd qp qt qf qo ct cand lim now was (nI sent) (nI qfi) (nI qsz)) 21 400 ct (ad 21) (nI 0) rfl (by decide)) (l_RX1_23 hts ⟨rfl, rfl⟩ ⟨Nat.le_of_ble_eq_true rfl, Nat.le_of_ble_eq_true rfl⟩) m_4_7 rfl rfl hP hD hS hA rfl (Nat.le_of_ble_eq_true rfl) dX1_forgetAll_5 (fun H locs hP hD hS => ?_)
  have hP : va_P D vwCl (wC cI ad rc rl rh fr fw fc fg ps pg pr pd qp qt qf qo (fun _ => (nI 0)) cand lim now was (nI sent) (nI qfi) (nI qsz)) H := hP
  have hD : va_D A (wC cI ad rc rl rh fr fw fc fg ps pg pr pd qp qt qf qo (fun _ => (nI 0)) cand lim now was (nI sent) (nI qfi) (nI qsz)) := hD
  exact eV B hP hS rfl dX1_forgetAll_8
set_option maxHeartbeats 4000000 in
set_option maxRecDepth 100000 in
theorem c_X3_isFull_n (l : Launch) (D : va_G) (cI cZ : ClassId) (ad : Nat → Nat) (rc rl rh fr fw fc fg ps pg pr pd qp qt qf qo ct : Nat → Int32) (cand : Int32) (lim : Int32) (now : Int32) (was : Int32) (sent : Nat) (qfi : Nat) (qsz : Nat) (hsent : sent ≤ 200) (hn1sent : sent ≤ 199) : MI l yX3_isFull cX3_isFull 1 .boolean { frames := 0, cells := 0, slots := 0, locals := 0 } D (TY cI cZ) [.ref (ad 10)] (wC cI ad rc rl rh fr fw fc fg ps pg pr pd qp qt qf qo ct cand lim now was (nI sent) (nI qfi) (nI qsz)) (wC cI ad rc rl rh fr fw fc fg ps pg pr pd qp qt qf qo ct cand lim now was (nI sent) (nI qfi) (nI qsz)) (nI 0) := by
  refine MI.mk ⟨rfl, rfl⟩ (by decide +kernel) (Nat.le_of_ble_eq_true rfl) ?_
  intro p e s m below meth c A ls B hA hP hD hS hl
  have hx := B.1
  have hb := B.2.1
  have hts := B.2.2.2.2.2.1
  have hN := B.2.2.2.2.2.2.2.1
  have hK := B.2.2.2.2.2.2.2.2.1
  have hl : lv_has ls 1 [(0, .ref (ad 10))] := hl
  refine lv_aload_n hx hb dX3_isFull_0 rfl (lv_at hl 0 rfl) ?_
  refine g_X3_24 B hP 10 rfl rfl dX3_isFull_1 ?_
  refine lv_sipush (v := nI 200) hx hb dX3_isFull_4 (by decide) ?_
  refine r_icmp_lt (tgt := 14) hx hb (by omega) (by omega) dX3_isFull_7 (by decide) (fun _ => ?_) (fun c => absurd c (by omega))
  refine lv_iconst (v := nI 0) hx hb dX3_isFull_14 (by decide) ?_
  exact eZ B hP hS (by decide) rfl rfl dX3_isFull_15
set_option maxHeartbeats 4000000 in
set_option maxRecDepth 100000 in
theorem c_X3_isFull_f (l : Launch) (D : va_G) (cI cZ : ClassId) (ad : Nat → Nat) (rc rl rh fr fw fc fg ps pg pr pd qp qt qf qo ct : Nat → Int32) (cand : Int32) (lim : Int32) (now : Int32) (was : Int32) (sent : Nat) (qfi : Nat) (qsz : Nat) (hsent : sent ≤ 200) (hn1sent : sent ≤ 200) (hn0sent : 200 ≤ sent) : MI l yX3_isFull cX3_isFull 1 .boolean { frames := 0, cells := 0, slots := 0, locals := 0 } D (TY cI cZ) [.ref (ad 10)] (wC cI ad rc rl rh fr fw fc fg ps pg pr pd qp qt qf qo ct cand lim now was (nI sent) (nI qfi) (nI qsz)) (wC cI ad rc rl rh fr fw fc fg ps pg pr pd qp qt qf qo ct cand lim now was (nI sent) (nI qfi) (nI qsz)) (nI 1) := by
  refine MI.mk ⟨rfl, rfl⟩ (by decide +kernel) (Nat.le_of_ble_eq_true rfl) ?_
  intro p e s m below meth c A ls B hA hP hD hS hl
  have hx := B.1
  have hb := B.2.1
  have hts := B.2.2.2.2.2.1
  have hN := B.2.2.2.2.2.2.2.1
  have hK := B.2.2.2.2.2.2.2.2.1
  have hl : lv_has ls 1 [(0, .ref (ad 10))] := hl
  refine lv_aload_n hx hb dX3_isFull_0 rfl (lv_at hl 0 rfl) ?_
  refine g_X3_24 B hP 10 rfl rfl dX3_isFull_1 ?_
  refine lv_sipush (v := nI 200) hx hb dX3_isFull_4 (by decide) ?_
  refine r_icmp_lt (tgt := 14) hx hb (by omega) (by omega) dX3_isFull_7 (by decide) (fun c => absurd c (by omega)) (fun _ => ?_)
  refine lv_iconst (v := nI 1) hx hb dX3_isFull_10 (by decide) ?_
  refine lv_goto (tgt := 15) hx hb dX3_isFull_11 (by decide) ?_
  exact eZ B hP hS (by decide) rfl rfl dX3_isFull_15
set_option maxHeartbeats 4000000 in
set_option maxRecDepth 100000 in
theorem c_X3_isPacket (l : Launch) (D : va_G) (cI cZ : ClassId) (ad : Nat → Nat) (rc rl rh fr fw fc fg ps pg pr pd qp qt qf qo ct : Nat → Int32) (cand : Int32) (lim : Int32) (now : Int32) (was : Int32) (sent : Nat) (qfi : Nat) (qsz : Nat) (pk : Nat) (hpk : pk < 200) (hsent : sent ≤ 200) (hps : pk < sent) : MI l yX3_isPacket cX3_isPacket 2 .boolean { frames := 0, cells := 0, slots := 0, locals := 0 } D (TY cI cZ) [.ref (ad 10), .int (nI pk)] (wC cI ad rc rl rh fr fw fc fg ps pg pr pd qp qt qf qo ct cand lim now was (nI sent) (nI qfi) (nI qsz)) (wC cI ad rc rl rh fr fw fc fg ps pg pr pd qp qt qf qo ct cand lim now was (nI sent) (nI qfi) (nI qsz)) (nI 1) := by
  refine MI.mk ⟨rfl, rfl⟩ (by decide +kernel) (Nat.le_of_ble_eq_true rfl) ?_
  intro p e s m below meth c A ls B hA hP hD hS hl
  have hx := B.1
  have hb := B.2.1
  have hts := B.2.2.2.2.2.1
  have hN := B.2.2.2.2.2.2.2.1
  have hK := B.2.2.2.2.2.2.2.2.1
  have hl : lv_has ls 2 [(0, .ref (ad 10)), (1, .int (nI pk))] := hl
  refine lv_iload_n hx hb dX3_isPacket_0 rfl (lv_at hl 1 rfl) ?_
  refine r_if_lt (tgt := 23) hx hb (by omega) dX3_isPacket_1 (by decide) ?_
  refine lv_iload_n hx hb dX3_isPacket_4 rfl (lv_at hl 1 rfl) ?_
  refine lv_aload_n hx hb dX3_isPacket_5 rfl (lv_at hl 0 rfl) ?_
  refine g_X3_24 B hP 10 rfl rfl dX3_isPacket_6 ?_
  refine r_icmp_ge (tgt := 23) hx hb (by omega) (by omega) dX3_isPacket_9 (by decide) (fun c => absurd c (by omega)) (fun _ => ?_)
  refine lv_iload_n hx hb dX3_isPacket_12 rfl (lv_at hl 1 rfl) ?_
  refine lv_sipush (v := nI 200) hx hb dX3_isPacket_13 (by decide) ?_
  refine r_icmp_ge (tgt := 23) hx hb (by omega) (by omega) dX3_isPacket_16 (by decide) (fun c => absurd c (by omega)) (fun _ => ?_)
  refine lv_iconst (v := nI 1) hx hb dX3_isPacket_19 (by decide) ?_
  refine lv_goto (tgt := 24) hx hb dX3_isPacket_20 (by decide) ?_
  exact eZ B hP hS (by decide) rfl rfl dX3_isPacket_24
def f_X3_isPacket_r (pk : Int32) (sent : Nat) : Bool :=
  if pk < 0 then false else if (nI sent) ≤ pk then false else if (nI 200) ≤ pk then false else true
set_option maxHeartbeats 4000000 in
set_option maxRecDepth 100000 in
theorem c_X3_isPacket_r (l : Launch) (D : va_G) (cI cZ : ClassId) (ad : Nat → Nat) (rc rl rh fr fw fc fg ps pg pr pd qp qt qf qo ct : Nat → Int32) (cand : Int32) (lim : Int32) (now : Int32) (was : Int32) (sent : Nat) (qfi : Nat) (qsz : Nat) (pk : Int32) (hsent : sent ≤ 200) : MI l yX3_isPacket cX3_isPacket 2 .boolean { frames := 0, cells := 0, slots := 0, locals := 0 } D (TY cI cZ) [.ref (ad 10), .int pk] (wC cI ad rc rl rh fr fw fc fg ps pg pr pd qp qt qf qo ct cand lim now was (nI sent) (nI qfi) (nI qsz)) (wC cI ad rc rl rh fr fw fc fg ps pg pr pd qp qt qf qo ct cand lim now was (nI sent) (nI qfi) (nI qsz)) (bI (f_X3_isPacket_r pk sent)) := by
  refine MI.mk ⟨rfl, rfl⟩ (by decide +kernel) (Nat.le_of_ble_eq_true rfl) ?_
  intro p e s m below meth c A ls B hA hP hD hS hl
  have hx := B.1
  have hb := B.2.1
  have hts := B.2.2.2.2.2.1
  have hN := B.2.2.2.2.2.2.2.1
  have hK := B.2.2.2.2.2.2.2.2.1
  have hl : lv_has ls 2 [(0, .ref (ad 10)), (1, .int pk)] := hl
  have hf := f_X3_isPacket_r.eq_1 pk sent
  refine lv_iload_n hx hb dX3_isPacket_0 rfl (lv_at hl 1 rfl) ?_
  refine lv_if_lt (tgt := 23) hx hb dX3_isPacket_1 (by decide) (fun c1 => ?_) (fun c1 => ?_)
  · have hf := hf.trans (if_pos c1)
    refine lv_iconst (v := nI 0) hx hb dX3_isPacket_23 (by decide) ?_
    exact eZ B hP hS (by decide) ((congrArg (fun (u : Bool) => bI u) hf).symm) rfl dX3_isPacket_24
  · have hf := hf.trans (if_neg c1)
    refine lv_iload_n hx hb dX3_isPacket_4 rfl (lv_at hl 1 rfl) ?_
    refine lv_aload_n hx hb dX3_isPacket_5 rfl (lv_at hl 0 rfl) ?_
    refine g_X3_24 B hP 10 rfl rfl dX3_isPacket_6 ?_
    refine lv_icmp_ge (tgt := 23) hx hb dX3_isPacket_9 (by decide) (fun c2 => ?_) (fun c2 => ?_)
    · have hf := hf.trans (if_pos c2)
      refine lv_iconst (v := nI 0) hx hb dX3_isPacket_23 (by decide) ?_
      exact eZ B hP hS (by decide) ((congrArg (fun (u : Bool) => bI u) hf).symm) rfl dX3_isPacket_24
    · have hf := hf.trans (if_neg c2)
      refine lv_iload_n hx hb dX3_isPacket_12 rfl (lv_at hl 1 rfl) ?_
      refine lv_sipush (v := nI 200) hx hb dX3_isPacket_13 (by decide) ?_
      refine lv_icmp_ge (tgt := 23) hx hb dX3_isPacket_16 (by decide) (fun c3 => ?_) (fun c3 => ?_)
      · have hf := hf.trans (if_pos c3)
        refine lv_iconst (v := nI 0) hx hb dX3_isPacket_23 (by decide) ?_
        exact eZ B hP hS (by decide) ((congrArg (fun (u : Bool) => bI u) hf).symm) rfl dX3_isPacket_24
      · have hf := hf.trans (if_neg c3)
        refine lv_iconst (v := nI 1) hx hb dX3_isPacket_19 (by decide) ?_
        refine lv_goto (tgt := 24) hx hb dX3_isPacket_20 (by decide) ?_
        exact eZ B hP hS (by decide) ((congrArg (fun (u : Bool) => bI u) hf).symm) rfl dX3_isPacket_24
set_option maxHeartbeats 4000000 in
set_option maxRecDepth 100000 in
theorem c_X3_add (l : Launch) (D : va_G) (cI cZ : ClassId) (ad : Nat → Nat) (rc rl rh fr fw fc fg ps pg pr pd qp qt qf qo ct : Nat → Int32) (cand : Int32) (lim : Int32) (now : Int32) (was : Int32) (sent : Nat) (qfi : Nat) (qsz : Nat) (s_ : Int32) (g : Int32) (hsent : sent ≤ 200) (hn1sent : sent ≤ 199) : MI l yX3_add cX3_add 4 .int { frames := 1, cells := 0, slots := 0, locals := 20 } D (TY cI cZ) [.ref (ad 10), .int s_, .int g] (wC cI ad rc rl rh fr fw fc fg ps pg pr pd qp qt qf qo ct cand lim now was (nI sent) (nI qfi) (nI qsz)) (wC cI ad rc rl rh fr fw fc fg (upd ps sent s_) (upd pg sent g) pr pd qp qt qf qo ct cand lim now was (nI (sent + 1)) (nI qfi) (nI qsz)) (nI sent) := by
  refine MI.mk ⟨rfl, rfl⟩ (by decide +kernel) (Nat.le_of_ble_eq_true rfl) ?_
  intro p e s m below meth c A ls B hA hP hD hS hl
  have hx := B.1
  have hb := B.2.1
  have hts := B.2.2.2.2.2.1
  have hN := B.2.2.2.2.2.2.2.1
  have hK := B.2.2.2.2.2.2.2.2.1
  have hl : lv_has ls 4 [(0, .ref (ad 10)), (1, .int s_), (2, .int g)] := hl
  refine lv_aload_n hx hb dX3_add_0 rfl (lv_at hl 0 rfl) ?_
  refine fV_i (ci := 3) (as := []) (rest := []) B hl.1 (c_X3_isFull_n l D cI cZ ad rc rl rh fr fw fc fg ps pg pr pd qp qt qf qo ct cand lim now was sent qfi qsz (by omega) hn1sent) rfl (l_RX3_28 hts ⟨rfl, rfl⟩ ⟨Nat.le_of_ble_eq_true rfl, Nat.le_of_ble_eq_true rfl⟩) m_20_1 m_20_2 rfl rfl hP hD hS hA 10 rfl rfl (Nat.le_of_ble_eq_true rfl) dX3_add_1 (fun H locs hP hD hS => ?_)
  refine r_if_eq (tgt := 9) hx hb (by omega) dX3_add_4 (by decide) (fun _ => ?_) (fun c => absurd c (by omega))
  refine lv_aload_n hx hb dX3_add_9 rfl (lv_at hl 0 rfl) ?_
  refine g_X3_24 B hP 10 rfl rfl dX3_add_10 ?_
  refine lv_istore_n (lv' := [(3, .int (nI sent)), (0, .ref (ad 10)), (1, .int s_), (2, .int g)]) hx hb dX3_add_13 rfl hl (by decide) rfl (fun ls hl => ?_)
  refine lv_aload_n hx hb dX3_add_14 rfl (lv_at hl 1 rfl) ?_
  refine g_X3_9 B hP 10 rfl rfl dX3_add_15 ?_
  refine lv_iload_n hx hb dX3_add_18 rfl (lv_at hl 0 rfl) ?_
  refine lv_iload_n hx hb dX3_add_19 rfl (lv_at hl 2 rfl) ?_
  refine r_iast hx hb hK hP hD hS 11 0 rfl rfl (by omega) (by decide) dX3_add_20 (fun H locs hP hD hS => ?_)
  have hP : va_P D vwCl (wC cI ad rc rl rh fr fw fc fg (upd ps sent s_) pg pr pd qp qt qf qo ct cand lim now was (nI sent) (nI qfi) (nI qsz)) H := hP
  have hD : va_D A (wC cI ad rc rl rh fr fw fc fg (upd ps sent s_) pg pr pd qp qt qf qo ct cand lim now was (nI sent) (nI qfi) (nI qsz)) := hD
  refine lv_aload_n hx hb dX3_add_21 rfl (lv_at hl 1 rfl) ?_
  refine g_X3_15 B hP 10 rfl rfl dX3_add_22 ?_
  refine lv_iload_n hx hb dX3_add_25 rfl (lv_at hl 0 rfl) ?_
  refine lv_iload_n hx hb dX3_add_26 rfl (lv_at hl 3 rfl) ?_
  refine r_iast hx hb hK hP hD hS 12 0 rfl rfl (by omega) (by decide) dX3_add_27 (fun H locs hP hD hS => ?_)
  have hP : va_P D vwCl (wC cI ad rc rl rh fr fw fc fg (upd ps sent s_) (upd pg sent g) pr pd qp qt qf qo ct cand lim now was (nI sent) (nI qfi) (nI qsz)) H := hP
  have hD : va_D A (wC cI ad rc rl rh fr fw fc fg (upd ps sent s_) (upd pg sent g) pr pd qp qt qf qo ct cand lim now was (nI sent) (nI qfi) (nI qsz)) := hD
  refine lv_aload_n hx hb dX3_add_28 rfl (lv_at hl 1 rfl) ?_
  refine lv_dup hx hb dX3_add_29 rfl ?_
  refine g_X3_24 B hP 10 rfl rfl dX3_add_30 ?_
  refine lv_iconst (v := nI 1) hx hb dX3_add_33 (by decide) ?_
  refine r_iadd hx hb dX3_add_34 ?_
  refine p_X3_24 B hP hD hS 10 rfl (Nat.le_of_ble_eq_true rfl) dX3_add_35 (fun H locs hP hD hS => ?_)
  have hP : va_P D vwCl (wC cI ad rc rl rh fr fw fc fg (upd ps sent s_) (upd pg sent g) pr pd qp qt qf qo ct cand lim now was (nI (sent + 1)) (nI qfi) (nI qsz)) H := hP
  have hD : va_D A (wC cI ad rc rl rh fr fw fc fg (upd ps sent s_) (upd pg sent g) pr pd qp qt qf qo ct cand lim now was (nI (sent + 1)) (nI qfi) (nI qsz)) := hD
  refine lv_iload_n hx hb dX3_add_38 rfl (lv_at hl 0 rfl) ?_
  exact eI B hP hS rfl rfl dX3_add_39
set_option maxHeartbeats 4000000 in
set_option maxRecDepth 100000 in
theorem c_X3_receive (l : Launch) (D : va_G) (cI cZ : ClassId) (ad : Nat → Nat) (rc rl rh fr fw fc fg ps pg pr pd qp qt qf qo ct : Nat → Int32) (cand : Int32) (lim : Int32) (now : Int32) (was : Int32) (sent : Nat) (qfi : Nat) (qsz : Nat) (pk : Nat) (r : Nat) (hpk : pk < 200) (hr : r < 10) (hsent : sent ≤ 200) (hps : pk < sent) : MV l yX3_receive cX3_receive 3 { frames := 1, cells := 0, slots := 0, locals := 21 } D (TY cI cZ) [.ref (ad 10), .int (nI pk), .int (nI r)] (wC cI ad rc rl rh fr fw fc fg ps pg pr pd qp qt qf qo ct cand lim now was (nI sent) (nI qfi) (nI qsz)) (wC cI ad rc rl rh fr fw fc fg ps pg (upd pr pk ((pr pk) ||| ((nI 1) <<< ((nI r) &&& 31)))) pd qp qt qf qo ct cand lim now was (nI sent) (nI qfi) (nI qsz)) := by
  refine MV.mk ⟨rfl, rfl⟩ (by decide +kernel) (Nat.le_of_ble_eq_true rfl) ?_
  intro p e s m below meth c A ls B hA hP hD hS hl
  have hx := B.1
  have hb := B.2.1
  have hts := B.2.2.2.2.2.1
  have hN := B.2.2.2.2.2.2.2.1
  have hK := B.2.2.2.2.2.2.2.2.1
  have hl : lv_has ls 3 [(0, .ref (ad 10)), (1, .int (nI pk)), (2, .int (nI r))] := hl
  refine lv_aload_n hx hb dX3_receive_0 rfl (lv_at hl 0 rfl) ?_
  refine lv_iload_n hx hb dX3_receive_1 rfl (lv_at hl 1 rfl) ?_
  refine fV_i (ci := 3) (as := [.int (nI pk)]) (rest := []) B hl.1 (c_X3_isPacket l D cI cZ ad rc rl rh fr fw fc fg ps pg pr pd qp qt qf qo ct cand lim now was sent qfi qsz pk (by omega) (by omega) hps) rfl (l_RX3_32 hts ⟨rfl, rfl⟩ ⟨Nat.le_of_ble_eq_true rfl, Nat.le_of_ble_eq_true rfl⟩) m_20_15 m_20_16 rfl rfl hP hD hS hA 10 rfl rfl (Nat.le_of_ble_eq_true rfl) dX3_receive_2 (fun H locs hP hD hS => ?_)
  refine r_if_eq (tgt := 28) hx hb (by omega) dX3_receive_5 (by decide) (fun c => absurd c (by omega)) (fun _ => ?_)
  refine lv_iload_n hx hb dX3_receive_8 rfl (lv_at hl 2 rfl) ?_
  refine fN_i (as := [.int (nI r)]) (rest := []) B hl.1 (c_X5_isRouter l D cI cZ (wC cI ad rc rl rh fr fw fc fg ps pg pr pd qp qt qf qo ct cand lim now was (nI sent) (nI qfi) (nI qsz)) r (by omega)) (l_RX3_36 hts hN ⟨rfl, rfl⟩ ⟨Nat.le_of_ble_eq_true rfl, Nat.le_of_ble_eq_true rfl⟩) m_4_13 rfl rfl hP hD hS hA rfl (Nat.le_of_ble_eq_true rfl) dX3_receive_9 (fun H locs hP hD hS => ?_)
  refine r_if_eq (tgt := 28) hx hb (by omega) dX3_receive_12 (by decide) (fun c => absurd c (by omega)) (fun _ => ?_)
  refine lv_aload_n hx hb dX3_receive_15 rfl (lv_at hl 0 rfl) ?_
  refine g_X3_18 B hP 10 rfl rfl dX3_receive_16 ?_
  refine lv_iload_n hx hb dX3_receive_19 rfl (lv_at hl 1 rfl) ?_
  refine lv_dup2_11 hx hb dX3_receive_20 rfl rfl ?_
  refine r_iald hx hb hK hP 13 0 rfl rfl (by omega) (by decide) dX3_receive_21 ?_
  refine lv_iload_n hx hb dX3_receive_22 rfl (lv_at hl 2 rfl) ?_
  refine fN_i (as := [.int (nI r)]) (rest := [.int (pr pk), .int (nI pk), .ref (ad 13)]) B hl.1 (c_X5_bit l D cI cZ (wC cI ad rc rl rh fr fw fc fg ps pg pr pd qp qt qf qo ct cand lim now was (nI sent) (nI qfi) (nI qsz)) r (by omega)) (l_RX3_39 hts hN ⟨rfl, rfl⟩ ⟨Nat.le_of_ble_eq_true rfl, Nat.le_of_ble_eq_true rfl⟩) m_7_23 rfl rfl hP hD hS hA rfl (Nat.le_of_ble_eq_true rfl) dX3_receive_23 (fun H locs hP hD hS => ?_)
  refine lv_ior hx hb dX3_receive_26 ?_
  refine r_iast hx hb hK hP hD hS 13 0 rfl rfl (by omega) (by decide) dX3_receive_27 (fun H locs hP hD hS => ?_)
  have hP : va_P D vwCl (wC cI ad rc rl rh fr fw fc fg ps pg (upd pr pk ((pr pk) ||| ((nI 1) <<< ((nI r) &&& 31)))) pd qp qt qf qo ct cand lim now was (nI sent) (nI qfi) (nI qsz)) H := hP
  have hD : va_D A (wC cI ad rc rl rh fr fw fc fg ps pg (upd pr pk ((pr pk) ||| ((nI 1) <<< ((nI r) &&& 31)))) pd qp qt qf qo ct cand lim now was (nI sent) (nI qfi) (nI qsz)) := hD
  exact eV B hP hS rfl dX3_receive_28
set_option maxHeartbeats 4000000 in
set_option maxRecDepth 100000 in
theorem c_X3_addDouble (l : Launch) (D : va_G) (cI cZ : ClassId) (ad : Nat → Nat) (rc rl rh fr fw fc fg ps pg pr pd qp qt qf qo ct : Nat → Int32) (cand : Int32) (lim : Int32) (now : Int32) (was : Int32) (sent : Nat) (qfi : Nat) (qsz : Nat) (pk : Nat) (hpk : pk < 200) (hsent : sent ≤ 200) (hps : pk < sent) : MV l yX3_addDouble cX3_addDouble 2 { frames := 1, cells := 0, slots := 0, locals := 21 } D (TY cI cZ) [.ref (ad 10), .int (nI pk)] (wC cI ad rc rl rh fr fw fc fg ps pg pr pd qp qt qf qo ct cand lim now was (nI sent) (nI qfi) (nI qsz)) (wC cI ad rc rl rh fr fw fc fg ps pg pr (upd pd pk ((pd pk) + (nI 1))) qp qt qf qo ct cand lim now was (nI sent) (nI qfi) (nI qsz)) := by
  refine MV.mk ⟨rfl, rfl⟩ (by decide +kernel) (Nat.le_of_ble_eq_true rfl) ?_
  intro p e s m below meth c A ls B hA hP hD hS hl
  have hx := B.1
  have hb := B.2.1
  have hts := B.2.2.2.2.2.1
  have hN := B.2.2.2.2.2.2.2.1
  have hK := B.2.2.2.2.2.2.2.2.1
  have hl : lv_has ls 2 [(0, .ref (ad 10)), (1, .int (nI pk))] := hl
  refine lv_aload_n hx hb dX3_addDouble_0 rfl (lv_at hl 0 rfl) ?_
  refine lv_iload_n hx hb dX3_addDouble_1 rfl (lv_at hl 1 rfl) ?_
  refine fV_i (ci := 3) (as := [.int (nI pk)]) (rest := []) B hl.1 (c_X3_isPacket l D cI cZ ad rc rl rh fr fw fc fg ps pg pr pd qp qt qf qo ct cand lim now was sent qfi qsz pk (by omega) (by omega) hps) rfl (l_RX3_32 hts ⟨rfl, rfl⟩ ⟨Nat.le_of_ble_eq_true rfl, Nat.le_of_ble_eq_true rfl⟩) m_20_15 m_20_16 rfl rfl hP hD hS hA 10 rfl rfl (Nat.le_of_ble_eq_true rfl) dX3_addDouble_2 (fun H locs hP hD hS => ?_)
  refine r_if_eq (tgt := 18) hx hb (by omega) dX3_addDouble_5 (by decide) (fun c => absurd c (by omega)) (fun _ => ?_)
  refine lv_aload_n hx hb dX3_addDouble_8 rfl (lv_at hl 0 rfl) ?_
  refine g_X3_21 B hP 10 rfl rfl dX3_addDouble_9 ?_
  refine lv_iload_n hx hb dX3_addDouble_12 rfl (lv_at hl 1 rfl) ?_
  refine lv_dup2_11 hx hb dX3_addDouble_13 rfl rfl ?_
  refine r_iald hx hb hK hP 14 0 rfl rfl (by omega) (by decide) dX3_addDouble_14 ?_
  refine lv_iconst (v := nI 1) hx hb dX3_addDouble_15 (by decide) ?_
  refine lv_iadd hx hb dX3_addDouble_16 ?_
  refine r_iast hx hb hK hP hD hS 14 0 rfl rfl (by omega) (by decide) dX3_addDouble_17 (fun H locs hP hD hS => ?_)
  have hP : va_P D vwCl (wC cI ad rc rl rh fr fw fc fg ps pg pr (upd pd pk ((pd pk) + (nI 1))) qp qt qf qo ct cand lim now was (nI sent) (nI qfi) (nI qsz)) H := hP
  have hD : va_D A (wC cI ad rc rl rh fr fw fc fg ps pg pr (upd pd pk ((pd pk) + (nI 1))) qp qt qf qo ct cand lim now was (nI sent) (nI qfi) (nI qsz)) := hD
  exact eV B hP hS rfl dX3_addDouble_18
set_option maxHeartbeats 4000000 in
set_option maxRecDepth 100000 in
theorem c_X3_sourceOf (l : Launch) (D : va_G) (cI cZ : ClassId) (ad : Nat → Nat) (rc rl rh fr fw fc fg ps pg pr pd qp qt qf qo ct : Nat → Int32) (cand : Int32) (lim : Int32) (now : Int32) (was : Int32) (sent : Nat) (qfi : Nat) (qsz : Nat) (pk : Nat) (hpk : pk < 200) (hsent : sent ≤ 200) (hps : pk < sent) : MI l yX3_sourceOf cX3_sourceOf 2 .int { frames := 1, cells := 0, slots := 0, locals := 21 } D (TY cI cZ) [.ref (ad 10), .int (nI pk)] (wC cI ad rc rl rh fr fw fc fg ps pg pr pd qp qt qf qo ct cand lim now was (nI sent) (nI qfi) (nI qsz)) (wC cI ad rc rl rh fr fw fc fg ps pg pr pd qp qt qf qo ct cand lim now was (nI sent) (nI qfi) (nI qsz)) (ps pk) := by
  refine MI.mk ⟨rfl, rfl⟩ (by decide +kernel) (Nat.le_of_ble_eq_true rfl) ?_
  intro p e s m below meth c A ls B hA hP hD hS hl
  have hx := B.1
  have hb := B.2.1
  have hts := B.2.2.2.2.2.1
  have hN := B.2.2.2.2.2.2.2.1
  have hK := B.2.2.2.2.2.2.2.2.1
  have hl : lv_has ls 2 [(0, .ref (ad 10)), (1, .int (nI pk))] := hl
  refine lv_aload_n hx hb dX3_sourceOf_0 rfl (lv_at hl 0 rfl) ?_
  refine lv_iload_n hx hb dX3_sourceOf_1 rfl (lv_at hl 1 rfl) ?_
  refine fV_i (ci := 3) (as := [.int (nI pk)]) (rest := []) B hl.1 (c_X3_isPacket l D cI cZ ad rc rl rh fr fw fc fg ps pg pr pd qp qt qf qo ct cand lim now was sent qfi qsz pk (by omega) (by omega) hps) rfl (l_RX3_32 hts ⟨rfl, rfl⟩ ⟨Nat.le_of_ble_eq_true rfl, Nat.le_of_ble_eq_true rfl⟩) m_20_15 m_20_16 rfl rfl hP hD hS hA 10 rfl rfl (Nat.le_of_ble_eq_true rfl) dX3_sourceOf_2 (fun H locs hP hD hS => ?_)
  refine r_if_eq (tgt := 17) hx hb (by omega) dX3_sourceOf_5 (by decide) (fun c => absurd c (by omega)) (fun _ => ?_)
  refine lv_aload_n hx hb dX3_sourceOf_8 rfl (lv_at hl 0 rfl) ?_
  refine g_X3_9 B hP 10 rfl rfl dX3_sourceOf_9 ?_
  refine lv_iload_n hx hb dX3_sourceOf_12 rfl (lv_at hl 1 rfl) ?_
  refine r_iald hx hb hK hP 11 0 rfl rfl (by omega) (by decide) dX3_sourceOf_13 ?_
  refine lv_goto (tgt := 18) hx hb dX3_sourceOf_14 (by decide) ?_
  exact eI B hP hS rfl rfl dX3_sourceOf_18
set_option maxHeartbeats 4000000 in
set_option maxRecDepth 100000 in
theorem c_X3_groupOf (l : Launch) (D : va_G) (cI cZ : ClassId) (ad : Nat → Nat) (rc rl rh fr fw fc fg ps pg pr pd qp qt qf qo ct : Nat → Int32) (cand : Int32) (lim : Int32) (now : Int32) (was : Int32) (sent : Nat) (qfi : Nat) (qsz : Nat) (pk : Nat) (hpk : pk < 200) (hsent : sent ≤ 200) (hps : pk < sent) : MI l yX3_groupOf cX3_groupOf 2 .int { frames := 1, cells := 0, slots := 0, locals := 21 } D (TY cI cZ) [.ref (ad 10), .int (nI pk)] (wC cI ad rc rl rh fr fw fc fg ps pg pr pd qp qt qf qo ct cand lim now was (nI sent) (nI qfi) (nI qsz)) (wC cI ad rc rl rh fr fw fc fg ps pg pr pd qp qt qf qo ct cand lim now was (nI sent) (nI qfi) (nI qsz)) (pg pk) := by
  refine MI.mk ⟨rfl, rfl⟩ (by decide +kernel) (Nat.le_of_ble_eq_true rfl) ?_
  intro p e s m below meth c A ls B hA hP hD hS hl
  have hx := B.1
  have hb := B.2.1
  have hts := B.2.2.2.2.2.1
  have hN := B.2.2.2.2.2.2.2.1
  have hK := B.2.2.2.2.2.2.2.2.1
  have hl : lv_has ls 2 [(0, .ref (ad 10)), (1, .int (nI pk))] := hl
  refine lv_aload_n hx hb dX3_groupOf_0 rfl (lv_at hl 0 rfl) ?_
  refine lv_iload_n hx hb dX3_groupOf_1 rfl (lv_at hl 1 rfl) ?_
  refine fV_i (ci := 3) (as := [.int (nI pk)]) (rest := []) B hl.1 (c_X3_isPacket l D cI cZ ad rc rl rh fr fw fc fg ps pg pr pd qp qt qf qo ct cand lim now was sent qfi qsz pk (by omega) (by omega) hps) rfl (l_RX3_32 hts ⟨rfl, rfl⟩ ⟨Nat.le_of_ble_eq_true rfl, Nat.le_of_ble_eq_true rfl⟩) m_20_15 m_20_16 rfl rfl hP hD hS hA 10 rfl rfl (Nat.le_of_ble_eq_true rfl) dX3_groupOf_2 (fun H locs hP hD hS => ?_)
  refine r_if_eq (tgt := 17) hx hb (by omega) dX3_groupOf_5 (by decide) (fun c => absurd c (by omega)) (fun _ => ?_)
  refine lv_aload_n hx hb dX3_groupOf_8 rfl (lv_at hl 0 rfl) ?_
  refine g_X3_15 B hP 10 rfl rfl dX3_groupOf_9 ?_
  refine lv_iload_n hx hb dX3_groupOf_12 rfl (lv_at hl 1 rfl) ?_
  refine r_iald hx hb hK hP 12 0 rfl rfl (by omega) (by decide) dX3_groupOf_13 ?_
  refine lv_goto (tgt := 18) hx hb dX3_groupOf_14 (by decide) ?_
  exact eI B hP hS rfl rfl dX3_groupOf_18
set_option maxHeartbeats 4000000 in
set_option maxRecDepth 100000 in
theorem c_X3_receiversOf (l : Launch) (D : va_G) (cI cZ : ClassId) (ad : Nat → Nat) (rc rl rh fr fw fc fg ps pg pr pd qp qt qf qo ct : Nat → Int32) (cand : Int32) (lim : Int32) (now : Int32) (was : Int32) (sent : Nat) (qfi : Nat) (qsz : Nat) (pk : Nat) (hpk : pk < 200) (hsent : sent ≤ 200) (hps : pk < sent) : MI l yX3_receiversOf cX3_receiversOf 2 .int { frames := 1, cells := 0, slots := 0, locals := 21 } D (TY cI cZ) [.ref (ad 10), .int (nI pk)] (wC cI ad rc rl rh fr fw fc fg ps pg pr pd qp qt qf qo ct cand lim now was (nI sent) (nI qfi) (nI qsz)) (wC cI ad rc rl rh fr fw fc fg ps pg pr pd qp qt qf qo ct cand lim now was (nI sent) (nI qfi) (nI qsz)) (pr pk) := by
  refine MI.mk ⟨rfl, rfl⟩ (by decide +kernel) (Nat.le_of_ble_eq_true rfl) ?_
  intro p e s m below meth c A ls B hA hP hD hS hl
  have hx := B.1
  have hb := B.2.1
  have hts := B.2.2.2.2.2.1
  have hN := B.2.2.2.2.2.2.2.1
  have hK := B.2.2.2.2.2.2.2.2.1
  have hl : lv_has ls 2 [(0, .ref (ad 10)), (1, .int (nI pk))] := hl
  refine lv_aload_n hx hb dX3_receiversOf_0 rfl (lv_at hl 0 rfl) ?_
  refine lv_iload_n hx hb dX3_receiversOf_1 rfl (lv_at hl 1 rfl) ?_
  refine fV_i (ci := 3) (as := [.int (nI pk)]) (rest := []) B hl.1 (c_X3_isPacket l D cI cZ ad rc rl rh fr fw fc fg ps pg pr pd qp qt qf qo ct cand lim now was sent qfi qsz pk (by omega) (by omega) hps) rfl (l_RX3_32 hts ⟨rfl, rfl⟩ ⟨Nat.le_of_ble_eq_true rfl, Nat.le_of_ble_eq_true rfl⟩) m_20_15 m_20_16 rfl rfl hP hD hS hA 10 rfl rfl (Nat.le_of_ble_eq_true rfl) dX3_receiversOf_2 (fun H locs hP hD hS => ?_)
  refine r_if_eq (tgt := 17) hx hb (by omega) dX3_receiversOf_5 (by decide) (fun c => absurd c (by omega)) (fun _ => ?_)
  refine lv_aload_n hx hb dX3_receiversOf_8 rfl (lv_at hl 0 rfl) ?_
  refine g_X3_18 B hP 10 rfl rfl dX3_receiversOf_9 ?_
  refine lv_iload_n hx hb dX3_receiversOf_12 rfl (lv_at hl 1 rfl) ?_
  refine r_iald hx hb hK hP 13 0 rfl rfl (by omega) (by decide) dX3_receiversOf_13 ?_
  refine lv_goto (tgt := 18) hx hb dX3_receiversOf_14 (by decide) ?_
  exact eI B hP hS rfl rfl dX3_receiversOf_18
set_option maxHeartbeats 4000000 in
set_option maxRecDepth 100000 in
theorem c_X3_doublesOf (l : Launch) (D : va_G) (cI cZ : ClassId) (ad : Nat → Nat) (rc rl rh fr fw fc fg ps pg pr pd qp qt qf qo ct : Nat → Int32) (cand : Int32) (lim : Int32) (now : Int32) (was : Int32) (sent : Nat) (qfi : Nat) (qsz : Nat) (pk : Nat) (hpk : pk < 200) (hsent : sent ≤ 200) (hps : pk < sent) : MI l yX3_doublesOf cX3_doublesOf 2 .int { frames := 1, cells := 0, slots := 0, locals := 21 } D (TY cI cZ) [.ref (ad 10), .int (nI pk)] (wC cI ad rc rl rh fr fw fc fg ps pg pr pd qp qt qf qo ct cand lim now was (nI sent) (nI qfi) (nI qsz)) (wC cI ad rc rl rh fr fw fc fg ps pg pr pd qp qt qf qo ct cand lim now was (nI sent) (nI qfi) (nI qsz)) (pd pk) := by
  refine MI.mk ⟨rfl, rfl⟩ (by decide +kernel) (Nat.le_of_ble_eq_true rfl) ?_
  intro p e s m below meth c A ls B hA hP hD hS hl
  have hx := B.1
  have hb := B.2.1
  have hts := B.2.2.2.2.2.1
  have hN := B.2.2.2.2.2.2.2.1
  have hK := B.2.2.2.2.2.2.2.2.1
  have hl : lv_has ls 2 [(0, .ref (ad 10)), (1, .int (nI pk))] := hl
  refine lv_aload_n hx hb dX3_doublesOf_0 rfl (lv_at hl 0 rfl) ?_
  refine lv_iload_n hx hb dX3_doublesOf_1 rfl (lv_at hl 1 rfl) ?_
  refine fV_i (ci := 3) (as := [.int (nI pk)]) (rest := []) B hl.1 (c_X3_isPacket l D cI cZ ad rc rl rh fr fw fc fg ps pg pr pd qp qt qf qo ct cand lim now was sent qfi qsz pk (by omega) (by omega) hps) rfl (l_RX3_32 hts ⟨rfl, rfl⟩ ⟨Nat.le_of_ble_eq_true rfl, Nat.le_of_ble_eq_true rfl⟩) m_20_15 m_20_16 rfl rfl hP hD hS hA 10 rfl rfl (Nat.le_of_ble_eq_true rfl) dX3_doublesOf_2 (fun H locs hP hD hS => ?_)
  refine r_if_eq (tgt := 17) hx hb (by omega) dX3_doublesOf_5 (by decide) (fun c => absurd c (by omega)) (fun _ => ?_)
  refine lv_aload_n hx hb dX3_doublesOf_8 rfl (lv_at hl 0 rfl) ?_
  refine g_X3_21 B hP 10 rfl rfl dX3_doublesOf_9 ?_
  refine lv_iload_n hx hb dX3_doublesOf_12 rfl (lv_at hl 1 rfl) ?_
  refine r_iald hx hb hK hP 14 0 rfl rfl (by omega) (by decide) dX3_doublesOf_13 ?_
  refine lv_goto (tgt := 18) hx hb dX3_doublesOf_14 (by decide) ?_
  exact eI B hP hS rfl rfl dX3_doublesOf_18
end
