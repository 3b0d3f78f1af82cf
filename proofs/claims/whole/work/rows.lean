section
-- ===== PART A: goes FIRST, ahead of the names: the tables' words, and 'selects' of the private methods out of them =====
/-- a private method of a class that the tables say can be made, by its rows of tables_1 -/
def lw_okq (q : MethodName × Nat) : Prop := (q.1.cls ≠ "java/lang/invoke/MethodHandle" ∧ q.1.cls ≠ "java/lang/invoke/VarHandle") ∧ Cond.instantiable q.1.cls q.2 ∈ tables_1 ∧ Cond.privateMethod q.1 ∈ tables_1 ∧ Cond.instanceMethod q.1 ∈ tables_1
theorem lw_p0 : lw_okq (⟨"Multidell$Routes", "findLeast", "()V"⟩, 3) := ⟨⟨by decide +kernel, by decide +kernel⟩, List.mem_of_getElem? (i := 25) (by decide +kernel), List.mem_of_getElem? (i := 31) (by decide +kernel), List.mem_of_getElem? (i := 32) (by decide +kernel)⟩
theorem lw_p1 : lw_okq (⟨"Multidell$Routes", "shortenThrough", "(I)V"⟩, 3) := ⟨⟨by decide +kernel, by decide +kernel⟩, List.mem_of_getElem? (i := 25) (by decide +kernel), List.mem_of_getElem? (i := 36) (by decide +kernel), List.mem_of_getElem? (i := 37) (by decide +kernel)⟩
theorem lw_p2 : lw_okq (⟨"Multidell$Routes", "findHops", "()V"⟩, 3) := ⟨⟨by decide +kernel, by decide +kernel⟩, List.mem_of_getElem? (i := 25) (by decide +kernel), List.mem_of_getElem? (i := 40) (by decide +kernel), List.mem_of_getElem? (i := 41) (by decide +kernel)⟩
theorem lw_p3 : lw_okq (⟨"Multidell$Routes", "firstHop", "(II)I"⟩, 3) := ⟨⟨by decide +kernel, by decide +kernel⟩, List.mem_of_getElem? (i := 25) (by decide +kernel), List.mem_of_getElem? (i := 44) (by decide +kernel), List.mem_of_getElem? (i := 45) (by decide +kernel)⟩
theorem lw_p4 : lw_okq (⟨"Multidell$CopyQueue", "firstIn", "([I)I"⟩, 6) := ⟨⟨by decide +kernel, by decide +kernel⟩, List.mem_of_getElem? (i := 130) (by decide +kernel), List.mem_of_getElem? (i := 213) (by decide +kernel), List.mem_of_getElem? (i := 214) (by decide +kernel)⟩
theorem lw_p5 : lw_okq (⟨"Multidell", "getPacket", "(III)Z"⟩, 9) := ⟨⟨by decide +kernel, by decide +kernel⟩, List.mem_of_getElem? (i := 17) (by decide +kernel), List.mem_of_getElem? (i := 242) (by decide +kernel), List.mem_of_getElem? (i := 243) (by decide +kernel)⟩
theorem lw_p6 : lw_okq (⟨"Multidell", "isMember", "(II)Z"⟩, 9) := ⟨⟨by decide +kernel, by decide +kernel⟩, List.mem_of_getElem? (i := 17) (by decide +kernel), List.mem_of_getElem? (i := 254) (by decide +kernel), List.mem_of_getElem? (i := 255) (by decide +kernel)⟩
theorem lw_p7 : lw_okq (⟨"Multidell", "membersOf", "(I)I"⟩, 9) := ⟨⟨by decide +kernel, by decide +kernel⟩, List.mem_of_getElem? (i := 17) (by decide +kernel), List.mem_of_getElem? (i := 258) (by decide +kernel), List.mem_of_getElem? (i := 259) (by decide +kernel)⟩
theorem lw_p8 : lw_okq (⟨"Multidell", "countSaysSwitch", "(III)Z"⟩, 9) := ⟨⟨by decide +kernel, by decide +kernel⟩, List.mem_of_getElem? (i := 17) (by decide +kernel), List.mem_of_getElem? (i := 296) (by decide +kernel), List.mem_of_getElem? (i := 297) (by decide +kernel)⟩
theorem lw_p9 : lw_okq (⟨"Multidell$Forest", "graft", "(IILMultidell$Routes;)V"⟩, 4) := ⟨⟨by decide +kernel, by decide +kernel⟩, List.mem_of_getElem? (i := 70) (by decide +kernel), List.mem_of_getElem? (i := 319) (by decide +kernel), List.mem_of_getElem? (i := 320) (by decide +kernel)⟩
theorem lw_p10 : lw_okq (⟨"Multidell$Forest", "parentOf", "(II)I"⟩, 4) := ⟨⟨by decide +kernel, by decide +kernel⟩, List.mem_of_getElem? (i := 70) (by decide +kernel), List.mem_of_getElem? (i := 324) (by decide +kernel), List.mem_of_getElem? (i := 325) (by decide +kernel)⟩
theorem lw_p11 : lw_okq (⟨"Multidell", "goOn", "(III)V"⟩, 9) := ⟨⟨by decide +kernel, by decide +kernel⟩, List.mem_of_getElem? (i := 17) (by decide +kernel), List.mem_of_getElem? (i := 329) (by decide +kernel), List.mem_of_getElem? (i := 330) (by decide +kernel)⟩
theorem lw_p12 : lw_okq (⟨"java/lang/Throwable", "fillInStackTrace", "(I)Ljava/lang/Throwable;"⟩, 6) := ⟨⟨by decide +kernel, by decide +kernel⟩, List.mem_of_getElem? (i := 417) (by decide +kernel), List.mem_of_getElem? (i := 415) (by decide +kernel), List.mem_of_getElem? (i := 416) (by decide +kernel)⟩
theorem lw_p13 : lw_okq (⟨"Multidell", "bestCandidate", "(I)I"⟩, 9) := ⟨⟨by decide +kernel, by decide +kernel⟩, List.mem_of_getElem? (i := 17) (by decide +kernel), List.mem_of_getElem? (i := 479) (by decide +kernel), List.mem_of_getElem? (i := 480) (by decide +kernel)⟩
theorem lw_p14 : lw_okq (⟨"Multidell$Forest", "letLeave", "(III)V"⟩, 4) := ⟨⟨by decide +kernel, by decide +kernel⟩, List.mem_of_getElem? (i := 70) (by decide +kernel), List.mem_of_getElem? (i := 560) (by decide +kernel), List.mem_of_getElem? (i := 561) (by decide +kernel)⟩
theorem lw_p15 : lw_okq (⟨"Multidell$Forest", "isNeeded", "(II)Z"⟩, 4) := ⟨⟨by decide +kernel, by decide +kernel⟩, List.mem_of_getElem? (i := 70) (by decide +kernel), List.mem_of_getElem? (i := 564) (by decide +kernel), List.mem_of_getElem? (i := 565) (by decide +kernel)⟩
def lw_privs_1 : List (MethodName × Nat) := [(⟨"Multidell$Routes", "findLeast", "()V"⟩, 3), (⟨"Multidell$Routes", "shortenThrough", "(I)V"⟩, 3), (⟨"Multidell$Routes", "findHops", "()V"⟩, 3), (⟨"Multidell$Routes", "firstHop", "(II)I"⟩, 3), (⟨"Multidell$CopyQueue", "firstIn", "([I)I"⟩, 6), (⟨"Multidell", "getPacket", "(III)Z"⟩, 9), (⟨"Multidell", "isMember", "(II)Z"⟩, 9), (⟨"Multidell", "membersOf", "(I)I"⟩, 9), (⟨"Multidell", "countSaysSwitch", "(III)Z"⟩, 9), (⟨"Multidell$Forest", "graft", "(IILMultidell$Routes;)V"⟩, 4), (⟨"Multidell$Forest", "parentOf", "(II)I"⟩, 4), (⟨"Multidell", "goOn", "(III)V"⟩, 9), (⟨"java/lang/Throwable", "fillInStackTrace", "(I)Ljava/lang/Throwable;"⟩, 6), (⟨"Multidell", "bestCandidate", "(I)I"⟩, 9), (⟨"Multidell$Forest", "letLeave", "(III)V"⟩, 4), (⟨"Multidell$Forest", "isNeeded", "(II)Z"⟩, 4)]
theorem lw_r1 : ∀ q ∈ lw_privs_1, lw_okq q := List.forall_mem_cons.mpr ⟨lw_p0, List.forall_mem_cons.mpr ⟨lw_p1, List.forall_mem_cons.mpr ⟨lw_p2, List.forall_mem_cons.mpr ⟨lw_p3, List.forall_mem_cons.mpr ⟨lw_p4, List.forall_mem_cons.mpr ⟨lw_p5, List.forall_mem_cons.mpr ⟨lw_p6, List.forall_mem_cons.mpr ⟨lw_p7, List.forall_mem_cons.mpr ⟨lw_p8, List.forall_mem_cons.mpr ⟨lw_p9, List.forall_mem_cons.mpr ⟨lw_p10, List.forall_mem_cons.mpr ⟨lw_p11, List.forall_mem_cons.mpr ⟨lw_p12, List.forall_mem_cons.mpr ⟨lw_p13, List.forall_mem_cons.mpr ⟨lw_p14, List.forall_mem_cons.mpr ⟨lw_p15, fun _ h => absurd h List.not_mem_nil⟩⟩⟩⟩⟩⟩⟩⟩⟩⟩⟩⟩⟩⟩⟩⟩
theorem lw_p16 : lw_okq (⟨"Multidell", "checkPacket", "(I)V"⟩, 9) := ⟨⟨by decide +kernel, by decide +kernel⟩, List.mem_of_getElem? (i := 17) (by decide +kernel), List.mem_of_getElem? (i := 626) (by decide +kernel), List.mem_of_getElem? (i := 627) (by decide +kernel)⟩
theorem lw_p17 : lw_okq (⟨"Multidell$Forest", "isDue", "(III)Z"⟩, 4) := ⟨⟨by decide +kernel, by decide +kernel⟩, List.mem_of_getElem? (i := 70) (by decide +kernel), List.mem_of_getElem? (i := 655) (by decide +kernel), List.mem_of_getElem? (i := 656) (by decide +kernel)⟩
theorem lw_p18 : lw_okq (⟨"Multidell$Forest", "remove", "(III)V"⟩, 4) := ⟨⟨by decide +kernel, by decide +kernel⟩, List.mem_of_getElem? (i := 70) (by decide +kernel), List.mem_of_getElem? (i := 659) (by decide +kernel), List.mem_of_getElem? (i := 660) (by decide +kernel)⟩
theorem lw_p19 : lw_okq (⟨"Multidell", "floodedFrom", "(I)I"⟩, 9) := ⟨⟨by decide +kernel, by decide +kernel⟩, List.mem_of_getElem? (i := 17) (by decide +kernel), List.mem_of_getElem? (i := 675) (by decide +kernel), List.mem_of_getElem? (i := 676) (by decide +kernel)⟩
theorem lw_p20 : lw_okq (⟨"MultidellModel", "measures", "()V"⟩, 19) := ⟨⟨by decide +kernel, by decide +kernel⟩, List.mem_of_getElem? (i := 690) (by decide +kernel), List.mem_of_getElem? (i := 696) (by decide +kernel), List.mem_of_getElem? (i := 697) (by decide +kernel)⟩
theorem lw_p21 : lw_okq (⟨"MultidellModel", "can", "(I)Z"⟩, 19) := ⟨⟨by decide +kernel, by decide +kernel⟩, List.mem_of_getElem? (i := 690) (by decide +kernel), List.mem_of_getElem? (i := 771) (by decide +kernel), List.mem_of_getElem? (i := 772) (by decide +kernel)⟩
theorem lw_p22 : lw_okq (⟨"MultidellModel", "buildsAnew", "()V"⟩, 19) := ⟨⟨by decide +kernel, by decide +kernel⟩, List.mem_of_getElem? (i := 690) (by decide +kernel), List.mem_of_getElem? (i := 775) (by decide +kernel), List.mem_of_getElem? (i := 776) (by decide +kernel)⟩
theorem lw_p23 : lw_okq (⟨"MultidellModel", "wants", "(II)Z"⟩, 19) := ⟨⟨by decide +kernel, by decide +kernel⟩, List.mem_of_getElem? (i := 690) (by decide +kernel), List.mem_of_getElem? (i := 779) (by decide +kernel), List.mem_of_getElem? (i := 780) (by decide +kernel)⟩
theorem lw_p24 : lw_okq (⟨"MultidellModel", "graft", "(II)V"⟩, 19) := ⟨⟨by decide +kernel, by decide +kernel⟩, List.mem_of_getElem? (i := 690) (by decide +kernel), List.mem_of_getElem? (i := 783) (by decide +kernel), List.mem_of_getElem? (i := 784) (by decide +kernel)⟩
theorem lw_p25 : lw_okq (⟨"MultidellModel", "root", "(I)I"⟩, 19) := ⟨⟨by decide +kernel, by decide +kernel⟩, List.mem_of_getElem? (i := 690) (by decide +kernel), List.mem_of_getElem? (i := 787) (by decide +kernel), List.mem_of_getElem? (i := 788) (by decide +kernel)⟩
theorem lw_p26 : lw_okq (⟨"MultidellModel", "meets", "(I)I"⟩, 19) := ⟨⟨by decide +kernel, by decide +kernel⟩, List.mem_of_getElem? (i := 690) (by decide +kernel), List.mem_of_getElem? (i := 791) (by decide +kernel), List.mem_of_getElem? (i := 792) (by decide +kernel)⟩
theorem lw_p27 : lw_okq (⟨"MultidellModel", "hop", "(II)I"⟩, 19) := ⟨⟨by decide +kernel, by decide +kernel⟩, List.mem_of_getElem? (i := 690) (by decide +kernel), List.mem_of_getElem? (i := 795) (by decide +kernel), List.mem_of_getElem? (i := 796) (by decide +kernel)⟩
theorem lw_p28 : lw_okq (⟨"MultidellModel", "isMember", "(II)Z"⟩, 19) := ⟨⟨by decide +kernel, by decide +kernel⟩, List.mem_of_getElem? (i := 690) (by decide +kernel), List.mem_of_getElem? (i := 826) (by decide +kernel), List.mem_of_getElem? (i := 827) (by decide +kernel)⟩
theorem lw_p29 : lw_okq (⟨"MultidellModel", "looks", "(II)V"⟩, 19) := ⟨⟨by decide +kernel, by decide +kernel⟩, List.mem_of_getElem? (i := 690) (by decide +kernel), List.mem_of_getElem? (i := 837) (by decide +kernel), List.mem_of_getElem? (i := 838) (by decide +kernel)⟩
theorem lw_p30 : lw_okq (⟨"MultidellModel", "below", "(II)I"⟩, 19) := ⟨⟨by decide +kernel, by decide +kernel⟩, List.mem_of_getElem? (i := 690) (by decide +kernel), List.mem_of_getElem? (i := 841) (by decide +kernel), List.mem_of_getElem? (i := 842) (by decide +kernel)⟩
theorem lw_p31 : lw_okq (⟨"MultidellModel", "gets", "(III)Z"⟩, 19) := ⟨⟨by decide +kernel, by decide +kernel⟩, List.mem_of_getElem? (i := 690) (by decide +kernel), List.mem_of_getElem? (i := 869) (by decide +kernel), List.mem_of_getElem? (i := 870) (by decide +kernel)⟩
def lw_privs_2 : List (MethodName × Nat) := [(⟨"Multidell", "checkPacket", "(I)V"⟩, 9), (⟨"Multidell$Forest", "isDue", "(III)Z"⟩, 4), (⟨"Multidell$Forest", "remove", "(III)V"⟩, 4), (⟨"Multidell", "floodedFrom", "(I)I"⟩, 9), (⟨"MultidellModel", "measures", "()V"⟩, 19), (⟨"MultidellModel", "can", "(I)Z"⟩, 19), (⟨"MultidellModel", "buildsAnew", "()V"⟩, 19), (⟨"MultidellModel", "wants", "(II)Z"⟩, 19), (⟨"MultidellModel", "graft", "(II)V"⟩, 19), (⟨"MultidellModel", "root", "(I)I"⟩, 19), (⟨"MultidellModel", "meets", "(I)I"⟩, 19), (⟨"MultidellModel", "hop", "(II)I"⟩, 19), (⟨"MultidellModel", "isMember", "(II)Z"⟩, 19), (⟨"MultidellModel", "looks", "(II)V"⟩, 19), (⟨"MultidellModel", "below", "(II)I"⟩, 19), (⟨"MultidellModel", "gets", "(III)Z"⟩, 19)]
theorem lw_r2 : ∀ q ∈ lw_privs_2, lw_okq q := List.forall_mem_cons.mpr ⟨lw_p16, List.forall_mem_cons.mpr ⟨lw_p17, List.forall_mem_cons.mpr ⟨lw_p18, List.forall_mem_cons.mpr ⟨lw_p19, List.forall_mem_cons.mpr ⟨lw_p20, List.forall_mem_cons.mpr ⟨lw_p21, List.forall_mem_cons.mpr ⟨lw_p22, List.forall_mem_cons.mpr ⟨lw_p23, List.forall_mem_cons.mpr ⟨lw_p24, List.forall_mem_cons.mpr ⟨lw_p25, List.forall_mem_cons.mpr ⟨lw_p26, List.forall_mem_cons.mpr ⟨lw_p27, List.forall_mem_cons.mpr ⟨lw_p28, List.forall_mem_cons.mpr ⟨lw_p29, List.forall_mem_cons.mpr ⟨lw_p30, List.forall_mem_cons.mpr ⟨lw_p31, fun _ h => absurd h List.not_mem_nil⟩⟩⟩⟩⟩⟩⟩⟩⟩⟩⟩⟩⟩⟩⟩⟩
theorem lw_p32 : lw_okq (⟨"MultidellModel", "counts", "(III)V"⟩, 19) := ⟨⟨by decide +kernel, by decide +kernel⟩, List.mem_of_getElem? (i := 690) (by decide +kernel), List.mem_of_getElem? (i := 873) (by decide +kernel), List.mem_of_getElem? (i := 874) (by decide +kernel)⟩
theorem lw_p33 : lw_okq (⟨"MultidellModel", "goesOn", "(III)V"⟩, 19) := ⟨⟨by decide +kernel, by decide +kernel⟩, List.mem_of_getElem? (i := 690) (by decide +kernel), List.mem_of_getElem? (i := 877) (by decide +kernel), List.mem_of_getElem? (i := 878) (by decide +kernel)⟩
theorem lw_p34 : lw_okq (⟨"MultidellModel", "follows", "()I"⟩, 19) := ⟨⟨by decide +kernel, by decide +kernel⟩, List.mem_of_getElem? (i := 690) (by decide +kernel), List.mem_of_getElem? (i := 885) (by decide +kernel), List.mem_of_getElem? (i := 886) (by decide +kernel)⟩
theorem lw_p35 : lw_okq (⟨"MultidellModel", "isPacket", "(I)Z"⟩, 19) := ⟨⟨by decide +kernel, by decide +kernel⟩, List.mem_of_getElem? (i := 690) (by decide +kernel), List.mem_of_getElem? (i := 905) (by decide +kernel), List.mem_of_getElem? (i := 906) (by decide +kernel)⟩
theorem lw_p36 : lw_okq (⟨"MultidellModel", "second", "()I"⟩, 19) := ⟨⟨by decide +kernel, by decide +kernel⟩, List.mem_of_getElem? (i := 690) (by decide +kernel), List.mem_of_getElem? (i := 921) (by decide +kernel), List.mem_of_getElem? (i := 922) (by decide +kernel)⟩
def lw_privs_3 : List (MethodName × Nat) := [(⟨"MultidellModel", "counts", "(III)V"⟩, 19), (⟨"MultidellModel", "goesOn", "(III)V"⟩, 19), (⟨"MultidellModel", "follows", "()I"⟩, 19), (⟨"MultidellModel", "isPacket", "(I)Z"⟩, 19), (⟨"MultidellModel", "second", "()I"⟩, 19)]
theorem lw_r3 : ∀ q ∈ lw_privs_3, lw_okq q := List.forall_mem_cons.mpr ⟨lw_p32, List.forall_mem_cons.mpr ⟨lw_p33, List.forall_mem_cons.mpr ⟨lw_p34, List.forall_mem_cons.mpr ⟨lw_p35, List.forall_mem_cons.mpr ⟨lw_p36, fun _ h => absurd h List.not_mem_nil⟩⟩⟩⟩⟩
def lw_privs : List (MethodName × Nat) := lw_privs_1 ++ (lw_privs_2 ++ (lw_privs_3))
def lw_tbl : List Cond := k2_sels lw_privs ++ tables_1
theorem lw_privs_ok : ∀ q ∈ lw_privs, lw_okq q := by
  show ∀ q ∈ lw_privs_1 ++ (lw_privs_2 ++ (lw_privs_3)), lw_okq q
  exact List.forall_mem_append.mpr ⟨lw_r1, List.forall_mem_append.mpr ⟨lw_r2, lw_r3⟩⟩
-- ===== end of PART A; then your names; then what follows =====
end
section
/-! ===== BEGIN words of one list among another's, by their places ===== -/
theorem goodIn_r {big : List Cond} (ws : List Cond) (ps : List Nat) (hp : ws = ps.filterMap (fun i => big[i]?)) (h : ws.all goodWord = true) : GoodIn big ws := by
  intro w hw
  have h1 := List.all_eq_true.mp h w hw
  rw [hp] at hw
  obtain ⟨i, -, hi⟩ := List.mem_filterMap.mp hw
  have hm : w ∈ big := by first | exact List.mem_of_getElem? hi | exact List.getElem?_mem hi
  exact ⟨hm, good_of_word h1⟩
theorem goodIn_app {big a b : List Cond} (ha : GoodIn big a) (hb : GoodIn big b) : GoodIn big (a ++ b) := fun w h => (List.mem_append.mp h).elim (ha w) (hb w)
theorem goodIn_ca {big a b : List Cond} {c : Cond} (ha : GoodIn big (c :: a)) (hb : GoodIn big b) : GoodIn big (c :: (a ++ b)) := fun w h => (List.mem_cons.mp h).elim (fun e => ha w (List.mem_cons.mpr (Or.inl e))) (fun h => (List.mem_append.mp h).elim (fun h => ha w (List.mem_cons.mpr (Or.inr h))) (hb w))
theorem goodIn_sub {big ws : List Cond} (hm : ∀ w ∈ ws, w ∈ big) (h : ws.all goodWord = true) : GoodIn big ws := fun w hw => ⟨hm w hw, good_of_word (List.all_eq_true.mp h w hw)⟩
/-! ===== END ===== -/

/-! ===== BEGIN exceptions that leave a method, and their catching by the caller (launches without stack traces) ===== -/
section VXA
/-! The laws vx_back, vx_callV, vx_callS, vx_callSW, vx_throw0, vx_throwS follow proofs of the library, with one case more: JvmDerived/Free/Laws.lean (Back.of_free), Shelf42/LK1.lean (callV, callS), Shelf/KitTraced.lean (throwNew0V, throwNewS). -/
/-- where a method has thrown q: the class by its name, the cell, what was written, the world -/
def vx_T (XC : String → State → State → Prop) (st : State) (q : Addr) (t : State) (mc ms : Nat) (free : Addr → Prop) : Prop :=
  ∃ (E : String) (ce : Cell) (L : List Loc), XC E st t ∧ t.heap[q]? = some ce ∧ ce.vm = .none ∧ st.vm.findClass E = some ce.cls ∧ st.WarmedH t.vm ∧ st.sameButNew ({ t with vm := st.vm } : State) L mc ms ∧ ∀ z ∈ L, free z.base
def vx_Q (Qc : Array Value → State → Outcome → State → Prop) (XC : String → State → State → Prop) (mc ms : Nat) (free : Addr → Prop) : Array Value → State → Outcome → State → Prop := fun a st o t =>
  (Qc a st o t ∧ ∃ L, FrameEnd st o t L mc ms ∧ ∀ q ∈ L, free q.base) ∨ ∃ q, o = .threw q ∧ vx_T XC st q t mc ms free
/-- a callee that returns or throws -/
def vx_Met (l : Launch) (y : MethodName) (ws : List Cond) (rm : Room) (Pc : Array Value → State → Prop) (Qc : Array Value → State → Outcome → State → Prop) (XC : String → State → State → Prop) (mc ms : Nat) (free : Addr → Prop) : Prop :=
  MetFree l y (headSpec ws rm) Pc (fun _ _ _ _ _ => True) (vx_Q Qc XC mc ms free)
def vx_Post (XC : String → State → State → Prop) (mc ms : Nat) (free : Addr → Prop) : Pt → Array Value → Addr → Pt → Prop := fun A a q B =>
  ∃ (g : JFrame) (mk : MethodId) (t : State) (L : List Loc) (E : String) (ce : Cell), B.U.heap = t.heap ∧ B.U.vm = t.vm ∧ XC E (A.U.calling g mk a) t ∧ t.heap[q]? = some ce ∧ ce.vm = .none ∧ A.U.vm.findClass E = some ce.cls ∧ B.locs = A.locs ++ L ∧ (∀ z ∈ L, free z.base) ∧ B.cells = A.cells + mc ∧ B.slots = A.slots + ms
def vx_Back (l : Launch) (R : Room) (p : Program) (e : Env) (below : List Frame) (s : State) (sargs : Array Value) (y : MethodName) (len W9 : Nat)
    (Pre : Pt → Array Value → Prop) (Post : Pt → Array Value → Option Value → Pt → Prop) (PostX : Pt → Array Value → Addr → Pt → Prop) : Prop :=
  ∀ (m : MethodId) (meth : Method) (c : Code) (A : Pt) (g : JFrame) (ig : Instr) (mk : MethodId) (a : Array Value),
    Stand p l e R s m sargs below meth c A.U A.locs A.cells A.slots → g.method = m → g.locals.size = c.maxLocals → decode c.code g.pc = .ok (ig, len) →
    2 * g.monitorRoom + (g.stack.map fun v => v.category).sum ≤ W9 → A.U.methodNamed? y = some mk → Pre A a →
    (∃ (v : Option Value) (B : Pt), Stand p l e R s m sargs below meth c B.U B.locs B.cells B.slots ∧ Post A a v B ∧
      Steps p.tables e below (doInvoke e (A.U.setTop g) [] mk a).1 (B.U.setTop { g with pc := g.pc + len, stack := v.toList ++ g.stack })) ∨
    (∃ (q : Addr) (B : Pt), Stand p l e R s m sargs below meth c B.U B.locs B.cells B.slots ∧ PostX A a q B ∧
      Steps p.tables e below (doInvoke e (A.U.setTop g) [] mk a).1 ((B.U.setTop g).pushFrame (.throwing q)))
section Payer
variable {l : Launch} {R : Room} {p : Program} {e : Env} {below : List Frame} {s : State} {sargs : Array Value} {y : MethodName} {len W9 : Nat}
theorem vx_back {ws : List Cond} {rm : Room} {Pc : Array Value → State → Prop} {Qc : Array Value → State → Outcome → State → Prop} {XC : String → State → State → Prop} {mc ms : Nat} {free : Addr → Prop} {bytes : ByteArray} {maxL : Nat} {ret : Option FieldType}
    (hM : vx_Met l y ws rm Pc Qc XC mc ms free) (hblind : FrameBlind Pc) (hrc : rm.cells = mc) (hrs : rm.slots = ms)
    (hframes : rm.frames + 1 ≤ R.frames) (hlocals : W9 + (maxL + 11) + rm.locals ≤ R.locals)
    (hws : ∀ w ∈ ws, ∀ a' U, s.WarmedH U.vm → w.before a' U = true) (hcode : Cond.code y bytes maxL ret ∈ ws) (hinit : ∀ a' U, s.WarmedH U.vm → (Cond.initialized y.cls).before a' U = true) :
    vx_Back l R p e below s sargs y len W9 (PreOf R mc ms Pc) (PostOf Qc mc ms free) (vx_Post XC mc ms free) := by
  intro m meth c A g ig mk a X hg hsize hdg hW hn hp
  have h1 : (headSpec ws rm).pre.before a A.U = true := atoms_intro fun w hw => hws w hw _ _ X.warmed
  have h2 : (Cond.code y bytes maxL ret).before a A.U = true := hws _ hcode _ _ X.warmed
  have h3 : (Cond.initialized y.cls).before a A.U = true := hinit _ _ X.warmed
  have h4 : A.cells + (headSpec ws rm).room.cells ≤ R.cells := by rw [show (headSpec ws rm).room.cells = mc from hrc]; exact hp.1
  have h5 : A.slots + (headSpec ws rm).room.slots ≤ R.slots := by rw [show (headSpec ws rm).room.slots = ms from hrs]; exact hp.2.1
  have hPc : Pc a (A.U.calling g mk a) := hblind _ _ _ _ hp.2.2
  obtain ⟨U, Ls, c0, s0⟩ := A
  dsimp only [Pt.U, Pt.locs, Pt.cells, Pt.slots] at h1 h2 h3 h4 h5 X hn hPc ⊢
  obtain ⟨methY, cY, hmY, hcY, -, hlY, -, -, -, -⟩ := Cond.code_spec hn h2
  obtain ⟨kY, hkY, -⟩ := className_of_methodNamed hn
  have hinitY : kY.init = .initialized := Cond.initialized_spec (findClass_of_methodNamed hn) hkY h3
  have h : At U g.method c below := by rw [hg]; exact X.here
  have hlocals9 : W9 + (maxL + 11) + (headSpec ws rm).room.locals ≤ R.locals := hlocals
  have happ : (headSpec ws rm).appliesLoose y e.platform (U.calling g mk a) = true :=
    Spec.appliesLoose_calling (g := g) h hdg hn hkY hinitY
      (X.room_calling (g := g) (R' := (headSpec ws rm).room) hsize hmY hcY hframes (by rw [hlY]; omega) h4 h5) h1
  obtain ⟨mid, hmid⟩ := h.above
  have hfr : (U.setTop g).frames = (.java g :: mid) ++ below := by rw [State.frames_setTop' g h.top, hmid]; rfl
  obtain ⟨o, s₂, hsteps, -, hend, hq⟩ := Steps.callFree hM p X.admits X.cas X.clock (acts := []) hfr happ hPc trivial
  have hq' : vx_Q Qc XC mc ms free a (U.calling g mk a) o s₂ := hq
  rw [State.frames_setTop' g h.top] at hend
  obtain ⟨g₀, hg0⟩ := Option.isSome_iff_exists.mp h.top
  obtain ⟨r, hr⟩ := State.topJava?_eq_some.mp hg0
  have hr' : (({ U with heap := s₂.heap, slotsUsed := s₂.slotsUsed } : State).setVm s₂.vm).frames = .java g₀ :: r := hr
  rcases hq' with ⟨hqc, L, hfe, hL⟩ | ⟨q, rfl, E, ce, L, hx, hce, hcv, hcl, hW₂, hsm, hL⟩
  · obtain ⟨⟨v, rfl⟩, hW₂, e2, q2, q3, q4, q5, q6⟩ := id hfe
    have e3 : s₂ = ({ (U.calling g mk a).setFrames s₂.frames with heap := s₂.heap, slotsUsed := s₂.slotsUsed } : State).setVm s₂.vm := by
      have : s₂ = ({ s₂ with vm := (U.calling g mk a).vm } : State).setVm s₂.vm := rfl
      rw [e2] at this
      exact this
    obtain ⟨c₂, i₂, len₂, hc₂, hd₂, hf₂⟩ := hend
    have hW' : U.WarmedH s₂.vm := hW₂
    have hcc : c₂ = c := by
      have h1 : s₂.code? g.method = U.code? g.method := by
        rw [State.code?_eq, State.code?_eq, hW'.alike.method?]
      exact Option.some.inj (hc₂.symm.trans (h1.trans h.code))
    subst hcc
    have hlen : len₂ = len := by rw [hdg] at hd₂; cases hd₂; rfl
    subst hlen
    have hs₂ : s₂ = (({ U with heap := s₂.heap, slotsUsed := s₂.slotsUsed } : State).setVm s₂.vm).setTop { g with pc := g.pc + len₂, stack := v.toList ++ g.stack } := by
      refine e3.trans ?_
      rw [hf₂, State.calling_eq h.top, State.setFrames_setFrames, State.setTop_of_frames _ hr', hr]
      rfl
    have hsame : U.sameButNew ({ U with heap := s₂.heap, slotsUsed := s₂.slotsUsed } : State) L mc ms := by
      refine ⟨?_, q2, q3, q4, q5, q6⟩
      obtain ⟨t, ht, -⟩ := State.frames_cons hr
      show ({ U with heap := s₂.heap, slotsUsed := s₂.slotsUsed } : State) = { U.setFrames U.frames with heap := s₂.heap, slotsUsed := s₂.slotsUsed }
      rw [State.setFrames_self ht]
    subst hg
    refine Or.inl ⟨v, ⟨(({ U with heap := s₂.heap, slotsUsed := s₂.slotsUsed } : State).setVm s₂.vm), Ls ++ L, c0 + mc, s0 + ms⟩,
      ⟨X.admits, X.cas, X.clock, X.frames, X.room, X.hears, X.method, X.code, (X.here.setHeapUsed s₂.heap s₂.slotsUsed).setVm hW'.alike, X.tail, State.WarmedH.trans X.warmed hW', X.limits, X.bytes, X.same.trans (hsame.setVm s.vm)⟩,
      ⟨g, mk, s₂, L, rfl, rfl, hqc, rfl, hL, rfl, rfl⟩, ?_⟩
    show Steps p.tables e below _ ((({ U with heap := s₂.heap, slotsUsed := s₂.slotsUsed } : State).setVm s₂.vm).setTop { g with pc := g.pc + len₂, stack := v.toList ++ g.stack })
    rw [← hs₂]
    exact hsteps
  · obtain ⟨e2, q2, q3, q4, q5, q6⟩ := id hsm
    have e3 : s₂ = ({ (U.calling g mk a).setFrames s₂.frames with heap := s₂.heap, slotsUsed := s₂.slotsUsed } : State).setVm s₂.vm := by
      have : s₂ = ({ s₂ with vm := (U.calling g mk a).vm } : State).setVm s₂.vm := rfl
      rw [e2] at this
      exact this
    have hf₂ : s₂.frames = .throwing q :: .java g :: U.frames.tail := hend
    have hW' : U.WarmedH s₂.vm := hW₂
    have hs₂ : s₂ = ((({ U with heap := s₂.heap, slotsUsed := s₂.slotsUsed } : State).setVm s₂.vm).setTop g).pushFrame (.throwing q) := by
      refine e3.trans ?_
      rw [hf₂, State.calling_eq h.top, State.setFrames_setFrames, State.pushFrame, State.frames_setTop _ hr', State.setTop_of_frames _ hr', State.setFrames_setFrames, hr]
      rfl
    have hsame : U.sameButNew ({ U with heap := s₂.heap, slotsUsed := s₂.slotsUsed } : State) L mc ms := by
      refine ⟨?_, q2, q3, q4, q5, q6⟩
      obtain ⟨t, ht, -⟩ := State.frames_cons hr
      show ({ U with heap := s₂.heap, slotsUsed := s₂.slotsUsed } : State) = { U.setFrames U.frames with heap := s₂.heap, slotsUsed := s₂.slotsUsed }
      rw [State.setFrames_self ht]
    subst hg
    refine Or.inr ⟨q, ⟨(({ U with heap := s₂.heap, slotsUsed := s₂.slotsUsed } : State).setVm s₂.vm), Ls ++ L, c0 + mc, s0 + ms⟩,
      ⟨X.admits, X.cas, X.clock, X.frames, X.room, X.hears, X.method, X.code, (X.here.setHeapUsed s₂.heap s₂.slotsUsed).setVm hW'.alike, X.tail, State.WarmedH.trans X.warmed hW', X.limits, X.bytes, X.same.trans (hsame.setVm s.vm)⟩,
      ⟨g, mk, s₂, L, E, ce, rfl, rfl, hx, hce, hcv, hcl, rfl, hL, rfl, rfl⟩, ?_⟩
    show Steps p.tables e below _ (((({ U with heap := s₂.heap, slotsUsed := s₂.slotsUsed } : State).setVm s₂.vm).setTop g).pushFrame (.throwing q))
    rw [← hs₂]
    exact hsteps
end Payer
section Calls
variable {p : Program} {l : Launch} {e : Env} {R : Room} {s : State} {m : MethodId} {args : Array Value} {below : List Frame} {meth : Method} {c : Code} {T : State} {locs : List Loc} {cells slots : Nat}
theorem vx_callV (X : Stand p l e R s m args below meth c T locs cells slots) (hexec : p.tables.exec = Jvm.exec) {own C : String} {index : Nat} {y : MethodName} {bytes : ByteArray} {maxL : Nat} {ret : Option FieldType}
    (hown : s.vm.findClass own = some m.cls) (hlink : (Cond.methodLink own index y).before args s = true) (hinst : (Cond.instanceMethod y).before args s = true) (hsel : (Cond.selects C y y).before args s = true)
    (hcode : (Cond.code y bytes maxL ret).before args s = true) (hy : y.cls ≠ "java/lang/invoke/MethodHandle" ∧ y.cls ≠ "java/lang/invoke/VarHandle")
    {W9 : Nat} {Pre : Pt → Array Value → Prop} {Post : Pt → Array Value → Option Value → Pt → Prop} {PostX : Pt → Array Value → Addr → Pt → Prop} (hK : vx_Back l R p e below s args y 3 W9 Pre Post PostX)
    {b : Addr} {cellB : Cell} (hcell : T.heap[b]? = some cellB) (hobj : cellB.vm.isStatics = false) (hcls : s.vm.findClass C = some cellB.cls)
    {g : JFrame} (hg : g.method = m) (hsize : g.locals.size = c.maxLocals) {argsL rest : List Value} (hlen : ∀ sig, parseMethodDescriptor y.desc = some sig → argsL.length = sig.parameters.length)
    (hstack : g.stack = argsL.reverse ++ .ref b :: rest) (hW : 2 * g.monitorRoom + (rest.map fun v => v.category).sum ≤ W9) (hdg : decode c.code g.pc = .ok (.invokevirtual index, 3))
    (hpre : ∀ vm₁, s.WarmedH vm₁ → Pre ⟨T.setVm vm₁, locs, cells, slots⟩ (Value.ref b :: argsL).toArray) :
    (∃ (v : Option Value) (vm₁ : Vm) (B : Pt), s.WarmedH vm₁ ∧ Stand p l e R s m args below meth c B.U B.locs B.cells B.slots ∧ Post ⟨T.setVm vm₁, locs, cells, slots⟩ (Value.ref b :: argsL).toArray v B ∧
      ∀ target, Steps p.tables e below (B.U.setTop { g with pc := g.pc + 3, stack := v.toList ++ rest }) target → Steps p.tables e below (T.setTop g) target) ∨
    (∃ (q : Addr) (vm₁ : Vm) (B : Pt), s.WarmedH vm₁ ∧ Stand p l e R s m args below meth c B.U B.locs B.cells B.slots ∧ PostX ⟨T.setVm vm₁, locs, cells, slots⟩ (Value.ref b :: argsL).toArray q B ∧
      Steps p.tables e below (T.setTop g) ((B.U.setTop { g with stack := rest }).pushFrame (.throwing q))) := by
  obtain ⟨mk, methM, hnamed, hmethM, hstM, habM⟩ := Cond.instanceMethod_spec hinst
  obtain ⟨methM', cM, hmethM', -, -, -, -, -, -, hsigM⟩ := Cond.code_spec hnamed hcode
  cases hmethM.symm.trans hmethM'
  obtain ⟨c2, r2, m2, q1, q2, q3, q4, kP, hkP, hkPi⟩ := Cond.selects_spec hsel
  cases hcls.symm.trans q1
  cases (State.methodFound?_of_named hnamed hy).symm.trans q2
  cases hnamed.symm.trans q3
  have hselP : selectMethod e.platform s.vm cellB.cls mk = .method mk := by rw [Launch.admits_selectMethod X.admits]; exact q4
  obtain ⟨vm₁, X₁, hstep₁⟩ := X.invokevirtual hexec hown hlink hnamed hmethM hstM hkP hkPi hy (a := b) (cell := cellB) hcell
    (fun z h => by rw [h] at hobj; cases hobj) hselP hmethM habM hkP hkPi (g := g) hg (argsL := argsL) (rest := rest) (hlen _ hsigM) hstack hdg
  rcases hK m meth c ⟨T.setVm vm₁, locs, cells, slots⟩ { g with stack := rest } (.invokevirtual index) mk (Value.ref b :: argsL).toArray X₁ hg hsize hdg hW (X₁.named hnamed) (hpre vm₁ X₁.warmed) with ⟨v, B, X', hpost, hsteps⟩ | ⟨q, B, X', hpost, hsteps⟩
  · exact Or.inl ⟨v, vm₁, B, X₁.warmed, X', hpost, fun target h => hstep₁ _ fun acts => by rw [doInvoke_state]; exact hsteps.trans h⟩
  · exact Or.inr ⟨q, vm₁, B, X₁.warmed, X', hpost, hstep₁ _ fun acts => by rw [doInvoke_state]; exact hsteps⟩
theorem vx_callS (X : Stand p l e R s m args below meth c T locs cells slots) (hexec : p.tables.exec = Jvm.exec) {own : String} {index : Nat} {y : MethodName} {bytes : ByteArray} {maxL : Nat} {ret : Option FieldType}
    (hown : s.vm.findClass own = some m.cls) (hlink : (Cond.methodLink own index y).before args s = true) (hstat : (Cond.static y).before args s = true) (hinit : (Cond.initialized y.cls).before args s = true)
    (hcode : (Cond.code y bytes maxL ret).before args s = true) (hy : y.cls ≠ "java/lang/invoke/MethodHandle" ∧ y.cls ≠ "java/lang/invoke/VarHandle")
    {W9 : Nat} {Pre : Pt → Array Value → Prop} {Post : Pt → Array Value → Option Value → Pt → Prop} {PostX : Pt → Array Value → Addr → Pt → Prop} (hK : vx_Back l R p e below s args y 3 W9 Pre Post PostX)
    {g : JFrame} (hg : g.method = m) (hsize : g.locals.size = c.maxLocals) {argsL rest : List Value} (hlen : ∀ sig, parseMethodDescriptor y.desc = some sig → argsL.length = sig.parameters.length)
    (hstack : g.stack = argsL.reverse ++ rest) (hW : 2 * g.monitorRoom + (rest.map fun v => v.category).sum ≤ W9) (hdg : decode c.code g.pc = .ok (.invokestatic index, 3))
    (hpre : ∀ vm₁, s.WarmedH vm₁ → Pre ⟨T.setVm vm₁, locs, cells, slots⟩ argsL.toArray) :
    (∃ (v : Option Value) (vm₁ : Vm) (B : Pt), s.WarmedH vm₁ ∧ Stand p l e R s m args below meth c B.U B.locs B.cells B.slots ∧ Post ⟨T.setVm vm₁, locs, cells, slots⟩ argsL.toArray v B ∧
      ∀ target, Steps p.tables e below (B.U.setTop { g with pc := g.pc + 3, stack := v.toList ++ rest }) target → Steps p.tables e below (T.setTop g) target) ∨
    (∃ (q : Addr) (vm₁ : Vm) (B : Pt), s.WarmedH vm₁ ∧ Stand p l e R s m args below meth c B.U B.locs B.cells B.slots ∧ PostX ⟨T.setVm vm₁, locs, cells, slots⟩ argsL.toArray q B ∧
      Steps p.tables e below (T.setTop g) ((B.U.setTop { g with stack := rest }).pushFrame (.throwing q))) := by
  obtain ⟨mk, hnamed⟩ := Cond.code_named hcode
  obtain ⟨methM, cM, hmethM, -, -, -, -, -, -, hsigM⟩ := Cond.code_spec hnamed hcode
  have hstatic : methM.isStatic = true := Cond.static_spec hnamed hmethM hstat
  obtain ⟨kP, hkP, -⟩ := className_of_methodNamed hnamed
  have hinitP : kP.init = .initialized := Cond.initialized_spec (findClass_of_methodNamed hnamed) hkP hinit
  obtain ⟨vm₁, X₁, hstep₁⟩ := X.invokestatic hexec hown hlink hnamed hmethM hstatic hkP hinitP hy (g := g) hg (argsL := argsL) (rest := rest) (hlen _ hsigM) hstack hdg
  rcases hK m meth c ⟨T.setVm vm₁, locs, cells, slots⟩ { g with stack := rest } (.invokestatic index) mk argsL.toArray X₁ hg hsize hdg hW (X₁.named hnamed) (hpre vm₁ X₁.warmed) with ⟨v, B, X', hpost, hsteps⟩ | ⟨q, B, X', hpost, hsteps⟩
  · exact Or.inl ⟨v, vm₁, B, X₁.warmed, X', hpost, fun target h => hstep₁ _ fun acts => by rw [doInvoke_state]; exact hsteps.trans h⟩
  · exact Or.inr ⟨q, vm₁, B, X₁.warmed, X', hpost, hstep₁ _ fun acts => by rw [doInvoke_state]; exact hsteps⟩
end Calls
theorem vx_cls {s : State} {T : State} {vm₁ : Vm} {E : String} {k : ClassId} (hW : s.WarmedH vm₁) (h : (T.setVm vm₁).vm.findClass E = some k) : s.vm.findClass E = some k := by
  have h1 : vm₁.findClass E = some k := h
  rw [hW.alike.findClass] at h1
  exact h1
/-- the method's frame g, with q thrown over it -/
def vx_W (p : Program) (l : Launch) (e : Env) (R : Room) (s : State) (m : MethodId) (args : Array Value) (below : List Frame) (meth : Method) (c : Code) (H : Heap) (locs : List Loc) (cells slots : Nat) (Q : State → Prop) (g : JFrame) (q : Addr) : Prop :=
  ∀ T : State, T.heap = H → Stand p l e R s m args below meth c T locs cells slots → ∃ t, Steps p.tables e below ((T.setTop g).pushFrame (.throwing q)) t ∧ Q t
def vx_Run (p : Program) (l : Launch) (e : Env) (R : Room) (s : State) (m : MethodId) (args : Array Value) (below : List Frame) (meth : Method) (c : Code) (H : Heap) (locs : List Loc) (cells slots mc ms : Nat) (g : JFrame) (rest : List Value) (Qa : State → Outcome → State → Prop) (XC : String → State → State → Prop) (free : Addr → Prop) : Prop :=
  ∀ T : State, T.heap = H → Stand p l e R s m args below meth c T locs cells slots →
    (∃ (v : Option Value) (st₀ t T' : State) (L : List Loc), st₀.heap = H ∧ Stand p l e R s m args below meth c T' (locs ++ L) (cells + mc) (slots + ms) ∧ (∀ q ∈ L, free q.base) ∧ T'.heap = t.heap ∧ T'.vm = t.vm ∧ Qa st₀ (.returned v) t ∧
      Goes p e below T g T' { g with pc := g.pc + 3, stack := v.toList ++ rest }) ∨
    (∃ (q : Addr) (st₀ t T' : State) (L : List Loc) (E : String) (ce : Cell), st₀.heap = H ∧ Stand p l e R s m args below meth c T' (locs ++ L) (cells + mc) (slots + ms) ∧ (∀ z ∈ L, free z.base) ∧ T'.heap = t.heap ∧ T'.vm = t.vm ∧ XC E st₀ t ∧ t.heap[q]? = some ce ∧ ce.vm = .none ∧ s.vm.findClass E = some ce.cls ∧
      Steps p.tables e below (T.setTop g) ((T'.setTop { g with stack := rest }).pushFrame (.throwing q)))
def vx_X {S : Type} (px : S → Prop) (B : String → S → State → Prop) (A : Nat → Prop) : String → State → State → Prop := fun E st t => ∃ u : S, px u ∧ B E u t ∧ va_F A st t
section Runs
variable {p : Program} {l : Launch} {e : Env} {R : Room} {s : State} {m : MethodId} {args : Array Value} {below : List Frame} {meth : Method} {c : Code} {H : Heap} {locs : List Loc} {cells slots : Nat}
variable {y : MethodName} {bytes cc : ByteArray} {maxL nL mc ms n index : Nat} {ret : Option FieldType} {ws : List Cond} {rm : Room} {Pc : Array Value → State → Prop} {Qc : Array Value → State → Outcome → State → Prop} {XC : String → State → State → Prop} {free : Addr → Prop} {Ts : List Cond} {own C : String} {b : Addr} {As rest : List Value} {g : JFrame}
theorem vx_callBack (cb : CallB R s args own index y bytes maxL ret ws rm mc ms n) (hM : vx_Met l y ws rm Pc Qc XC mc ms free) (hbl : FrameBlind Pc) : vx_Back l R p e below s args y 3 8 (PreOf R mc ms Pc) (PostOf Qc mc ms free) (vx_Post XC mc ms free) := by
  obtain ⟨hrc, hrs, hfr, hlo, hws, hcw, -, hini, -⟩ := cb
  exact vx_back (bytes := bytes) (maxL := maxL) (ret := ret) hM hbl hrc hrs hfr hlo hws hcw (fun a' U hW => word_at hW (Or.inl (by first | rfl | simp [Cond.onTables, Cond.keeps, Cond.steady])) hini)
theorem vx_runV (S : CallFix p m c cc nL s args Ts own) (hM : vx_Met l y ws rm Pc Qc XC mc ms free) (cw : CallW R s args own C index y bytes maxL ret ws rm mc ms n) (hp : PreV s H C b Pc As)
    (hg : g.method = m) (hn : As.length = n) (hsize : g.locals.size = nL) (hstack : g.stack = As.reverse ++ .ref b :: rest) (hW : 2 * g.monitorRoom + (rest.map fun v => v.category).sum ≤ 8) (hdg : decode cc g.pc = .ok (.invokevirtual index, 3)) (hf : cells + mc ≤ R.cells ∧ slots + ms ≤ R.slots) :
    vx_Run p l e R s m args below meth c H locs cells slots mc ms g rest (Qc (Value.ref b :: As).toArray) XC free := by
  have hK : vx_Back l R p e below s args y 3 8 (PreOf R mc ms Pc) (PostOf Qc mc ms free) (vx_Post XC mc ms free) := vx_callBack cw.1 hM hp.1
  obtain ⟨⟨-, -, -, -, -, -, hcode, -, hy, hlen, hl⟩, hin, hse⟩ := cw
  obtain ⟨hx, hb, hml, ho, -⟩ := S
  obtain ⟨-, ⟨cellB, hcB, hoB, hclB⟩, hPc⟩ := hp
  intro T hT X
  rcases vx_callV X hx (C := C) (bytes := bytes) (maxL := maxL) (ret := ret) ho hl hin hse hcode hy hK (by rw [hT]; exact hcB) hoB hclB hg (hsize.trans hml.symm) (argsL := As) (rest := rest) (fun sig h => hn.trans (hlen sig h)) hstack hW (by rw [hb]; exact hdg)
    (fun vm₁ hW₁ => ⟨hf.1, hf.2, hPc (T.setVm vm₁) hT hW₁⟩) with ⟨v, vm₁, ⟨U', l2, c2, s2⟩, hW₁, X', ⟨g', mk, t, L, e1, e2, hq, h1, hL, h2, h3⟩, st⟩ | ⟨q, vm₁, ⟨U', l2, c2, s2⟩, hW₁, X', ⟨g', mk, t, L, E, ce, e1, e2, hq, hce, hcv, hcl, h1, hL, h2, h3⟩, st⟩
  · dsimp only [Pt.U, Pt.locs, Pt.cells, Pt.slots] at X' e1 e2 h1 h2 h3 st
    subst h1; subst h2; subst h3
    exact Or.inl ⟨v, (T.setVm vm₁).calling g' mk (Value.ref b :: As).toArray, t, U', L, hT, X', hL, e1, e2, hq, st⟩
  · dsimp only [Pt.U, Pt.locs, Pt.cells, Pt.slots] at X' e1 e2 h1 h2 h3 st hcl
    subst h1; subst h2; subst h3
    exact Or.inr ⟨q, (T.setVm vm₁).calling g' mk (Value.ref b :: As).toArray, t, U', L, E, ce, hT, X', hL, e1, e2, hq, hce, hcv, vx_cls hW₁ hcl, st⟩
theorem vx_runS (S : CallFix p m c cc nL s args Ts own) (hM : vx_Met l y ws rm Pc Qc XC mc ms free) (cw : CallB R s args own index y bytes maxL ret ws rm mc ms n ∧ (Cond.static y).before args s = true) (hp : PreS s H Pc As)
    (hg : g.method = m) (hn : As.length = n) (hsize : g.locals.size = nL) (hstack : g.stack = As.reverse ++ rest) (hW : 2 * g.monitorRoom + (rest.map fun v => v.category).sum ≤ 8) (hdg : decode cc g.pc = .ok (.invokestatic index, 3)) (hf : cells + mc ≤ R.cells ∧ slots + ms ≤ R.slots) :
    vx_Run p l e R s m args below meth c H locs cells slots mc ms g rest (Qc As.toArray) XC free := by
  have hK : vx_Back l R p e below s args y 3 8 (PreOf R mc ms Pc) (PostOf Qc mc ms free) (vx_Post XC mc ms free) := vx_callBack cw.1 hM hp.1
  obtain ⟨⟨-, -, -, -, -, -, hcode, hini, hy, hlen, hl⟩, hstt⟩ := cw
  obtain ⟨hx, hb, hml, ho, -⟩ := S
  intro T hT X
  rcases vx_callS X hx (bytes := bytes) (maxL := maxL) (ret := ret) ho hl hstt hini hcode hy hK hg (hsize.trans hml.symm) (argsL := As) (rest := rest) (fun sig h => hn.trans (hlen sig h)) hstack hW (by rw [hb]; exact hdg)
    (fun vm₁ hW₁ => ⟨hf.1, hf.2, hp.2 (T.setVm vm₁) hT hW₁⟩) with ⟨v, vm₁, ⟨U', l2, c2, s2⟩, hW₁, X', ⟨g', mk, t, L, e1, e2, hq, h1, hL, h2, h3⟩, st⟩ | ⟨q, vm₁, ⟨U', l2, c2, s2⟩, hW₁, X', ⟨g', mk, t, L, E, ce, e1, e2, hq, hce, hcv, hcl, h1, hL, h2, h3⟩, st⟩
  · dsimp only [Pt.U, Pt.locs, Pt.cells, Pt.slots] at X' e1 e2 h1 h2 h3 st
    subst h1; subst h2; subst h3
    exact Or.inl ⟨v, (T.setVm vm₁).calling g' mk As.toArray, t, U', L, hT, X', hL, e1, e2, hq, st⟩
  · dsimp only [Pt.U, Pt.locs, Pt.cells, Pt.slots] at X' e1 e2 h1 h2 h3 st hcl
    subst h1; subst h2; subst h3
    exact Or.inr ⟨q, (T.setVm vm₁).calling g' mk As.toArray, t, U', L, E, ce, hT, X', hL, e1, e2, hq, hce, hcv, vx_cls hW₁ hcl, st⟩
end Runs
section Rows
variable {p : Program} {l : Launch} {e : Env} {R : Room} {s : State} {m : MethodId} {args : Array Value} {below : List Frame} {meth : Method} {c : Code} {H : Heap} {locs : List Loc} {cells slots : Nat} {Q : State → Prop}
variable {mc ms : Nat} {free : Addr → Prop} {A0 A1 : Nat → Prop} {H0 : Heap} {a : Array Value} {pc : Nat} {ls : Array Slot} {st0 rest : List Value}
theorem vx_keep {st₀ t T' : State} {L : List Loc} (h0 : st₀.heap = H) (e1 : T'.heap = t.heap) (hS : va_S A0 H0 H locs) (hA : ∀ q, q < H.size → A1 q → A0 q) (hf : ∀ q, free q → A0 q) (hL : ∀ q ∈ L, free q.base) (hF : va_F A1 st₀ t) :
    H.size ≤ T'.heap.size ∧ (∀ q : Nat, q < H.size → ¬ A1 q → T'.heap[q]? = H[q]?) ∧ va_S A0 H0 T'.heap (locs ++ L) := by
  obtain ⟨hz, hk⟩ := hF
  rw [h0] at hz hk
  exact ⟨by rw [e1]; exact hz, fun q h1 h2 => by rw [e1]; exact hk q h1 h2,
    ⟨Nat.le_trans hS.1 (by rw [e1]; exact hz), fun q h1 h2 => by rw [e1, hk q (Nat.lt_of_lt_of_le h1 hS.1) (fun z => h2 (hA q (Nat.lt_of_lt_of_le h1 hS.1) z))]; exact hS.2.1 q h1 h2, fun q hq => by
      rcases List.mem_append.mp hq with h | h
      · exact hS.2.2 q h
      · exact hf _ (hL q h)⟩⟩
theorem vx_calli {S SX : Type} {post : Int32 → S → Prop} {px : SX → Prop} {B : S → State → Prop} {BX : String → SX → State → Prop} {AX : Nat → Prop} (hr : vx_Run p l e R s m args below meth c H locs cells slots mc ms (F0 m pc ls st0) rest (va_Qi post B A1 a) (vx_X px BX AX) free) (hS : va_S A0 H0 H locs) (hA : ∀ q, q < H.size → A1 q → A0 q) (hf : ∀ q, free q → A0 q) (hAX : ∀ q, q < H.size → AX q → A0 q)
    (kx : ∀ (E : String) (ce : Cell) (q9 : Addr) (u : SX) (t : State) (H1 : Heap) (locs1 : List Loc), t.heap = H1 → s.vm.Alike t.vm → px u → BX E u t → H.size ≤ H1.size → (∀ q : Nat, q < H.size → ¬ AX q → H1[q]? = H[q]?) → va_S A0 H0 H1 locs1 → H1[q9]? = some ce → ce.vm = .none → s.vm.findClass E = some ce.cls → vx_W p l e R s m args below meth c H1 locs1 (cells + mc) (slots + ms) Q (F0 m pc ls rest) q9)
    (kk : ∀ (r : Int32) (u : S) (t : State) (H1 : Heap) (locs1 : List Loc), t.heap = H1 → s.vm.Alike t.vm → post r u → B u t → H.size ≤ H1.size → (∀ q : Nat, q < H.size → ¬ A1 q → H1[q]? = H[q]?) → va_S A0 H0 H1 locs1 → W p l e R s m args below meth c H1 locs1 (cells + mc) (slots + ms) Q (F0 m (pc + 3) ls (.int r :: rest))) : W p l e R s m args below meth c H locs cells slots Q (F0 m pc ls st0) := by
  intro T hT X
  rcases hr T hT X with ⟨v, st₀, t, T', L, h0, X', hL, e1, e2, ⟨⟨r, u, hv, hp, hb⟩, hF⟩, st⟩ | ⟨q, st₀, t, T', L, E, ce, h0, X', hL, e1, e2, ⟨u, hp, hb, hF⟩, hce, hcv, hcl, st⟩
  · cases hv
    obtain ⟨k1, k2, k3⟩ := vx_keep h0 e1 hS hA hf hL hF
    obtain ⟨t2, a1, b1⟩ := kk r u t T'.heap (locs ++ L) e1.symm (by rw [← e2]; exact X'.warmed.alike) hp hb k1 k2 k3 T' rfl X'
    exact ⟨t2, st t2 a1, b1⟩
  · obtain ⟨k1, k2, k3⟩ := vx_keep h0 e1 hS hAX hf hL hF
    obtain ⟨t2, a1, b1⟩ := kx E ce q u t T'.heap (locs ++ L) e1.symm (by rw [← e2]; exact X'.warmed.alike) hp hb k1 k2 k3 (by rw [e1]; exact hce) hcv hcl T' rfl X'
    exact ⟨t2, st.trans a1, b1⟩
theorem vx_calll {S SX : Type} {post : Int64 → S → Prop} {px : SX → Prop} {B : S → State → Prop} {BX : String → SX → State → Prop} {AX : Nat → Prop} (hr : vx_Run p l e R s m args below meth c H locs cells slots mc ms (F0 m pc ls st0) rest (va_Ql post B A1 a) (vx_X px BX AX) free) (hS : va_S A0 H0 H locs) (hA : ∀ q, q < H.size → A1 q → A0 q) (hf : ∀ q, free q → A0 q) (hAX : ∀ q, q < H.size → AX q → A0 q)
    (kx : ∀ (E : String) (ce : Cell) (q9 : Addr) (u : SX) (t : State) (H1 : Heap) (locs1 : List Loc), t.heap = H1 → s.vm.Alike t.vm → px u → BX E u t → H.size ≤ H1.size → (∀ q : Nat, q < H.size → ¬ AX q → H1[q]? = H[q]?) → va_S A0 H0 H1 locs1 → H1[q9]? = some ce → ce.vm = .none → s.vm.findClass E = some ce.cls → vx_W p l e R s m args below meth c H1 locs1 (cells + mc) (slots + ms) Q (F0 m pc ls rest) q9)
    (kk : ∀ (r : Int64) (u : S) (t : State) (H1 : Heap) (locs1 : List Loc), t.heap = H1 → s.vm.Alike t.vm → post r u → B u t → H.size ≤ H1.size → (∀ q : Nat, q < H.size → ¬ A1 q → H1[q]? = H[q]?) → va_S A0 H0 H1 locs1 → W p l e R s m args below meth c H1 locs1 (cells + mc) (slots + ms) Q (F0 m (pc + 3) ls (.long r :: rest))) : W p l e R s m args below meth c H locs cells slots Q (F0 m pc ls st0) := by
  intro T hT X
  rcases hr T hT X with ⟨v, st₀, t, T', L, h0, X', hL, e1, e2, ⟨⟨r, u, hv, hp, hb⟩, hF⟩, st⟩ | ⟨q, st₀, t, T', L, E, ce, h0, X', hL, e1, e2, ⟨u, hp, hb, hF⟩, hce, hcv, hcl, st⟩
  · cases hv
    obtain ⟨k1, k2, k3⟩ := vx_keep h0 e1 hS hA hf hL hF
    obtain ⟨t2, a1, b1⟩ := kk r u t T'.heap (locs ++ L) e1.symm (by rw [← e2]; exact X'.warmed.alike) hp hb k1 k2 k3 T' rfl X'
    exact ⟨t2, st t2 a1, b1⟩
  · obtain ⟨k1, k2, k3⟩ := vx_keep h0 e1 hS hAX hf hL hF
    obtain ⟨t2, a1, b1⟩ := kx E ce q u t T'.heap (locs ++ L) e1.symm (by rw [← e2]; exact X'.warmed.alike) hp hb k1 k2 k3 (by rw [e1]; exact hce) hcv hcl T' rfl X'
    exact ⟨t2, st.trans a1, b1⟩
theorem vx_callf {S SX : Type} {post : UInt32 → S → Prop} {px : SX → Prop} {B : S → State → Prop} {BX : String → SX → State → Prop} {AX : Nat → Prop} (hr : vx_Run p l e R s m args below meth c H locs cells slots mc ms (F0 m pc ls st0) rest (va_Qf post B A1 a) (vx_X px BX AX) free) (hS : va_S A0 H0 H locs) (hA : ∀ q, q < H.size → A1 q → A0 q) (hf : ∀ q, free q → A0 q) (hAX : ∀ q, q < H.size → AX q → A0 q)
    (kx : ∀ (E : String) (ce : Cell) (q9 : Addr) (u : SX) (t : State) (H1 : Heap) (locs1 : List Loc), t.heap = H1 → s.vm.Alike t.vm → px u → BX E u t → H.size ≤ H1.size → (∀ q : Nat, q < H.size → ¬ AX q → H1[q]? = H[q]?) → va_S A0 H0 H1 locs1 → H1[q9]? = some ce → ce.vm = .none → s.vm.findClass E = some ce.cls → vx_W p l e R s m args below meth c H1 locs1 (cells + mc) (slots + ms) Q (F0 m pc ls rest) q9)
    (kk : ∀ (r : UInt32) (u : S) (t : State) (H1 : Heap) (locs1 : List Loc), t.heap = H1 → s.vm.Alike t.vm → post r u → B u t → H.size ≤ H1.size → (∀ q : Nat, q < H.size → ¬ A1 q → H1[q]? = H[q]?) → va_S A0 H0 H1 locs1 → W p l e R s m args below meth c H1 locs1 (cells + mc) (slots + ms) Q (F0 m (pc + 3) ls (.float r :: rest))) : W p l e R s m args below meth c H locs cells slots Q (F0 m pc ls st0) := by
  intro T hT X
  rcases hr T hT X with ⟨v, st₀, t, T', L, h0, X', hL, e1, e2, ⟨⟨r, u, hv, hp, hb⟩, hF⟩, st⟩ | ⟨q, st₀, t, T', L, E, ce, h0, X', hL, e1, e2, ⟨u, hp, hb, hF⟩, hce, hcv, hcl, st⟩
  · cases hv
    obtain ⟨k1, k2, k3⟩ := vx_keep h0 e1 hS hA hf hL hF
    obtain ⟨t2, a1, b1⟩ := kk r u t T'.heap (locs ++ L) e1.symm (by rw [← e2]; exact X'.warmed.alike) hp hb k1 k2 k3 T' rfl X'
    exact ⟨t2, st t2 a1, b1⟩
  · obtain ⟨k1, k2, k3⟩ := vx_keep h0 e1 hS hAX hf hL hF
    obtain ⟨t2, a1, b1⟩ := kx E ce q u t T'.heap (locs ++ L) e1.symm (by rw [← e2]; exact X'.warmed.alike) hp hb k1 k2 k3 (by rw [e1]; exact hce) hcv hcl T' rfl X'
    exact ⟨t2, st.trans a1, b1⟩
theorem vx_calld {S SX : Type} {post : UInt64 → S → Prop} {px : SX → Prop} {B : S → State → Prop} {BX : String → SX → State → Prop} {AX : Nat → Prop} (hr : vx_Run p l e R s m args below meth c H locs cells slots mc ms (F0 m pc ls st0) rest (va_Qd post B A1 a) (vx_X px BX AX) free) (hS : va_S A0 H0 H locs) (hA : ∀ q, q < H.size → A1 q → A0 q) (hf : ∀ q, free q → A0 q) (hAX : ∀ q, q < H.size → AX q → A0 q)
    (kx : ∀ (E : String) (ce : Cell) (q9 : Addr) (u : SX) (t : State) (H1 : Heap) (locs1 : List Loc), t.heap = H1 → s.vm.Alike t.vm → px u → BX E u t → H.size ≤ H1.size → (∀ q : Nat, q < H.size → ¬ AX q → H1[q]? = H[q]?) → va_S A0 H0 H1 locs1 → H1[q9]? = some ce → ce.vm = .none → s.vm.findClass E = some ce.cls → vx_W p l e R s m args below meth c H1 locs1 (cells + mc) (slots + ms) Q (F0 m pc ls rest) q9)
    (kk : ∀ (r : UInt64) (u : S) (t : State) (H1 : Heap) (locs1 : List Loc), t.heap = H1 → s.vm.Alike t.vm → post r u → B u t → H.size ≤ H1.size → (∀ q : Nat, q < H.size → ¬ A1 q → H1[q]? = H[q]?) → va_S A0 H0 H1 locs1 → W p l e R s m args below meth c H1 locs1 (cells + mc) (slots + ms) Q (F0 m (pc + 3) ls (.double r :: rest))) : W p l e R s m args below meth c H locs cells slots Q (F0 m pc ls st0) := by
  intro T hT X
  rcases hr T hT X with ⟨v, st₀, t, T', L, h0, X', hL, e1, e2, ⟨⟨r, u, hv, hp, hb⟩, hF⟩, st⟩ | ⟨q, st₀, t, T', L, E, ce, h0, X', hL, e1, e2, ⟨u, hp, hb, hF⟩, hce, hcv, hcl, st⟩
  · cases hv
    obtain ⟨k1, k2, k3⟩ := vx_keep h0 e1 hS hA hf hL hF
    obtain ⟨t2, a1, b1⟩ := kk r u t T'.heap (locs ++ L) e1.symm (by rw [← e2]; exact X'.warmed.alike) hp hb k1 k2 k3 T' rfl X'
    exact ⟨t2, st t2 a1, b1⟩
  · obtain ⟨k1, k2, k3⟩ := vx_keep h0 e1 hS hAX hf hL hF
    obtain ⟨t2, a1, b1⟩ := kx E ce q u t T'.heap (locs ++ L) e1.symm (by rw [← e2]; exact X'.warmed.alike) hp hb k1 k2 k3 (by rw [e1]; exact hce) hcv hcl T' rfl X'
    exact ⟨t2, st.trans a1, b1⟩
theorem vx_callv {S SX : Type} {post : S → Prop} {px : SX → Prop} {B : S → State → Prop} {BX : String → SX → State → Prop} {AX : Nat → Prop} (hr : vx_Run p l e R s m args below meth c H locs cells slots mc ms (F0 m pc ls st0) rest (va_Qv post B A1 a) (vx_X px BX AX) free) (hS : va_S A0 H0 H locs) (hA : ∀ q, q < H.size → A1 q → A0 q) (hf : ∀ q, free q → A0 q) (hAX : ∀ q, q < H.size → AX q → A0 q)
    (kx : ∀ (E : String) (ce : Cell) (q9 : Addr) (u : SX) (t : State) (H1 : Heap) (locs1 : List Loc), t.heap = H1 → s.vm.Alike t.vm → px u → BX E u t → H.size ≤ H1.size → (∀ q : Nat, q < H.size → ¬ AX q → H1[q]? = H[q]?) → va_S A0 H0 H1 locs1 → H1[q9]? = some ce → ce.vm = .none → s.vm.findClass E = some ce.cls → vx_W p l e R s m args below meth c H1 locs1 (cells + mc) (slots + ms) Q (F0 m pc ls rest) q9)
    (kk : ∀ (u : S) (t : State) (H1 : Heap) (locs1 : List Loc), t.heap = H1 → s.vm.Alike t.vm → post u → B u t → H.size ≤ H1.size → (∀ q : Nat, q < H.size → ¬ A1 q → H1[q]? = H[q]?) → va_S A0 H0 H1 locs1 → W p l e R s m args below meth c H1 locs1 (cells + mc) (slots + ms) Q (F0 m (pc + 3) ls (rest))) : W p l e R s m args below meth c H locs cells slots Q (F0 m pc ls st0) := by
  intro T hT X
  rcases hr T hT X with ⟨v, st₀, t, T', L, h0, X', hL, e1, e2, ⟨⟨u, hv, hp, hb⟩, hF⟩, st⟩ | ⟨q, st₀, t, T', L, E, ce, h0, X', hL, e1, e2, ⟨u, hp, hb, hF⟩, hce, hcv, hcl, st⟩
  · cases hv
    obtain ⟨k1, k2, k3⟩ := vx_keep h0 e1 hS hA hf hL hF
    obtain ⟨t2, a1, b1⟩ := kk u t T'.heap (locs ++ L) e1.symm (by rw [← e2]; exact X'.warmed.alike) hp hb k1 k2 k3 T' rfl X'
    exact ⟨t2, st t2 a1, b1⟩
  · obtain ⟨k1, k2, k3⟩ := vx_keep h0 e1 hS hAX hf hL hF
    obtain ⟨t2, a1, b1⟩ := kx E ce q u t T'.heap (locs ++ L) e1.symm (by rw [← e2]; exact X'.warmed.alike) hp hb k1 k2 k3 (by rw [e1]; exact hce) hcv hcl T' rfl X'
    exact ⟨t2, st.trans a1, b1⟩
/-- caught by the row x of this method's table; the rows ahead don't take it -/
theorem vx_catch {own name : String} {E : String} {ce : Cell} {q : Addr} (hown : s.vm.findClass own = some m.cls) (pre : List ExceptionTableEntry) (x : ExceptionTableEntry) (suf : List ExceptionTableEntry) (hsplit : c.exceptionTable.toList = pre ++ x :: suf)
    (hpass : ∀ z ∈ pre, covers z pc = false ∨ (z.catchType ≠ 0 ∧ ∃ nm : String, (Cond.classLink own z.catchType nm).before args s = true ∧ va_Nc E nm s)) (hx : covers x pc = true) (h0 : x.catchType ≠ 0)
    (hlink : (Cond.classLink own x.catchType name).before args s = true) (hcast : (Cond.castable E name).before args s = true) (hcell : H[q]? = some ce) (hv : ce.vm = .none) (hcl : s.vm.findClass E = some ce.cls)
    (kk : W p l e R s m args below meth c H locs cells slots Q (F0 m x.handlerPc ls [.ref q])) : vx_W p l e R s m args below meth c H locs cells slots Q (F0 m pc ls rest) q := by
  intro T hT X
  have hpl : e.platform.magicAccessors = ({} : Platform).magicAccessors := by rw [X.admits.platform]
  obtain ⟨c3, c4, hc3, hc4, hasg⟩ := Cond.castable_spec hcast
  cases Option.some.inj (hc3.symm.trans hcl)
  obtain ⟨c5, hc5, hcl5⟩ := Cond.classLink_spec hown hlink e.platform hpl
  cases Option.some.inj (hc4.symm.trans hc5)
  obtain ⟨vm', X', st⟩ := X.thenCaughtThrough q (g := F0 m pc ls rest) rfl (Steps.refl _) (by rw [hT]; exact hcell) (by rw [hv]; rfl) (by obtain ⟨k9, h9, -⟩ := Vm.findClass_spec hcl; exact ⟨k9, h9⟩) pre x suf hsplit
    (fun z hz => by
      rcases hpass z hz with h | ⟨hz0, nm, hl1, hn1⟩
      · exact Or.inl h
      · obtain ⟨c6, hc6, hcl6⟩ := Cond.classLink_spec hown hl1 e.platform hpl
        obtain ⟨a8, b8, h1, h2, h3⟩ := hn1
        cases Option.some.inj (h1.symm.trans hcl)
        cases Option.some.inj (h2.symm.trans hc6)
        exact Or.inr ⟨hz0, _, hcl6, h3⟩) hx (Or.inr ⟨h0, c4, hcl5, hasg⟩)
  obtain ⟨t, a1, b1⟩ := kk (T.setVm vm') hT X'
  exact ⟨t, st.trans a1, b1⟩
end Rows
section Ends
variable {p : Program} {l : Launch} {e : Env} {R : Room} {s : State} {m : MethodId} {args : Array Value} {below : List Frame} {meth : Method} {c : Code} {H : Heap} {locs : List Loc} {cells slots : Nat} {Q : State → Prop}
variable {mc ms : Nat} {free : Addr → Prop} {A0 A1 : Nat → Prop} {H0 : Heap} {a : Array Value} {ls : Array Slot} {st0 rest : List Value}
variable {Qc : Array Value → State → Outcome → State → Prop} {XC : String → State → State → Prop}
/-- what a body that may throw owes at its end -/
def vx_MQ (below : List Frame) (Qc : Array Value → State → Outcome → State → Prop) (XC : String → State → State → Prop) (a : Array Value) (s : State) (mc ms : Nat) (free : Addr → Prop) : State → Prop := fun t =>
  ∃ o, t.status = .running ∧ Ended t below o ∧ vx_Q Qc XC mc ms free a s o t
theorem vx_ret {g : JFrame} {mc ms : Nat} (k : W p l e R s m args below meth c H locs cells slots (MQ below Qc args s mc ms free) g) : W p l e R s m args below meth c H locs cells slots (vx_MQ below Qc XC args s mc ms free) g := by
  intro T hT X
  obtain ⟨t, a1, o, b1, b2, b3, b4⟩ := k T hT X
  exact ⟨t, a1, o, b1, b2, Or.inl ⟨b3, b4⟩⟩
/-- not caught here: it goes on to the caller -/
theorem vx_widen {g : JFrame} {q : Addr} {k n : Nat} (h1 : cells ≤ k) (h2 : slots ≤ n) (kk : vx_W p l e R s m args below meth c H locs k n Q g q) : vx_W p l e R s m args below meth c H locs cells slots Q g q := fun T hT X => kk T hT (stand_widen X h1 h2)
theorem vx_out {pc : Nat} {E : String} {ce : Cell} {q : Addr} {mc ms : Nat} (hout : ∀ x ∈ c.exceptionTable.toList, covers x pc = false) (hlocks : meth.locks = false) (hcell : H[q]? = some ce) (hv : ce.vm = .none) (hcl : s.vm.findClass E = some ce.cls)
    (hx : ∀ t : State, t.heap = H → s.vm.Alike t.vm → XC E s t) (hf : ∀ z ∈ locs, free z.base) (hc : cells ≤ mc) (hs : slots ≤ ms) :
    vx_W p l e R s m args below meth c H locs cells slots (vx_MQ below Qc XC args s mc ms free) (F0 m pc ls rest) q := by
  intro T hT X
  obtain ⟨st1, hrun, hend, hW, hsm⟩ := X.leaveThrown q (g := F0 m pc ls rest) rfl rfl rfl hout hlocks
  have hcell9 : (T.setFrames (.throwing q :: below)).heap[q]? = some ce := by
    show T.heap[q]? = some ce
    rw [hT]; exact hcell
  exact ⟨_, st1, .threw q, hrun, hend, Or.inr ⟨q, rfl, E, ce, locs, hx _ hT hW.alike, hcell9, hv, hcl, hW, hsm.mono hc hs, hf⟩⟩
theorem vx_frame {U : State} {k n : Nat} (h : s.sameButNew ({ U with vm := s.vm } : State) locs k n) : s.heap.size ≤ U.heap.size ∧ ∀ q : Nat, q < s.heap.size → (∀ z ∈ locs, z.base ≠ q) → U.heap[q]? = s.heap[q]? := by
  obtain ⟨-, h2, -, -, -, h6⟩ := h
  refine ⟨h2, fun q hq hz => ?_⟩
  obtain ⟨c9, e1, e2, e3, e4⟩ := h6 q _ (Array.getElem?_eq_getElem hq)
  have hs : c9.slots = (s.heap[q]).slots := Array.ext_getElem? fun i => e4 i fun hm => hz _ hm rfl
  have h9 : c9 = s.heap[q] := by
    rw [hs] at e2
    exact e2
  have e5 : U.heap[q]? = some c9 := e1
  rw [e5, h9, Array.getElem?_eq_getElem hq]
/-- the words of a throw but the four that speak of the heap -/
def vx_no (w : Cond) : Bool := decide (w ≠ .isRef (.static Bundle.tN "UNASSIGNED_STACK" Bundle.steD)) && decide (w ≠ .isRef (.static Bundle.tN "SUPPRESSED_SENTINEL" Bundle.listD)) && decide (w ≠ .laysStatic Bundle.tN "UNASSIGNED_STACK" Bundle.steD) && decide (w ≠ .laysStatic Bundle.tN "SUPPRESSED_SENTINEL" Bundle.listD)
def vx_at0 (own : String) (ic : Nat) (X : String) (names : List String) : List Cond := (Bundle.ownAtoms0 own ic X names).filter vx_no
def vx_atS (own : String) (ic : Nat) (X : String) (names : List String) : List Cond := (Bundle.ownAtoms own ic X names).filter vx_no
/-- a word that the tables alone decide, or a good one -/
def vx_ot (w : Cond) : Bool := w.onTables || goodWord w
theorem vx_ot_at {args a' : Array Value} {s U : State} {w : Cond} (hW : s.WarmedH U.vm) (hvm : s.vm = U.vm) (hg : vx_ot w = true) (h : w.before args s = true) : w.before a' U = true := by
  simp only [vx_ot, Bool.or_eq_true] at hg
  rcases hg with hg | hg
  · exact va_tabs hg hvm h
  · exact word_at hW (good_of_word hg) h
/-- a list's words: the good ones out of the method's own list, the others by premises of their own -/
theorem vx_hat {args : Array Value} {s : State} {L B : List Cond} (h1 : ∀ w ∈ L.filter goodWord, w.before args s = true) (h2 : ∀ w ∈ L.filter (fun w => !goodWord w), w ∈ B) (h3 : ∀ w ∈ B, w.before args s = true) : ∀ w ∈ L, w.before args s = true := by
  intro w hw
  by_cases g : goodWord w = true
  · exact h1 w (List.mem_filter.mpr ⟨hw, g⟩)
  · refine h3 w (h2 w (List.mem_filter.mpr ⟨hw, ?_⟩))
    show (!goodWord w) = true
    cases hgw : goodWord w
    · rfl
    · exact absurd hgw g
theorem vx_c {args : Array Value} {s : State} {w : Cond} {B : List Cond} (h : w.before args s = true) (t : ∀ w ∈ B, w.before args s = true) : ∀ w' ∈ w :: B, w'.before args s = true := fun w' h' => (List.mem_cons.mp h').elim (fun e => by rw [e]; exact h) (t w')
theorem vx_n {args : Array Value} {s : State} : ∀ w ∈ ([] : List Cond), w.before args s = true := fun _ h => nomatch h
theorem vx_own {args : Array Value} {s : State} {L : List Cond} (h1 : ∀ w ∈ L.filter vx_no, w.before args s = true)
    (hU : (Cond.isRef (.static Bundle.tN "UNASSIGNED_STACK" Bundle.steD)).before args s = true) (hN : (Cond.isRef (.static Bundle.tN "SUPPRESSED_SENTINEL" Bundle.listD)).before args s = true)
    (lU : (Cond.laysStatic Bundle.tN "UNASSIGNED_STACK" Bundle.steD).before args s = true) (lN : (Cond.laysStatic Bundle.tN "SUPPRESSED_SENTINEL" Bundle.listD).before args s = true) : ∀ w ∈ L, w.before args s = true := by
  intro w hw
  by_cases e1 : w = .isRef (.static Bundle.tN "UNASSIGNED_STACK" Bundle.steD)
  · rw [e1]; exact hU
  · by_cases e2 : w = .isRef (.static Bundle.tN "SUPPRESSED_SENTINEL" Bundle.listD)
    · rw [e2]; exact hN
    · by_cases e3 : w = .laysStatic Bundle.tN "UNASSIGNED_STACK" Bundle.steD
      · rw [e3]; exact lU
      · by_cases e4 : w = .laysStatic Bundle.tN "SUPPRESSED_SENTINEL" Bundle.listD
        · rw [e4]; exact lN
        · exact h1 w (List.mem_filter.mpr ⟨hw, by unfold vx_no; rw [decide_eq_true e1, decide_eq_true e2, decide_eq_true e3, decide_eq_true e4]; rfl⟩)
/-- where a static field lies, its class's statics cell in H -/
def vx_L (C n d : String) (A : Nat → Prop) (U : State) (H : Heap) : Prop := ∃ (c : ClassId) (k : Class) (i : Nat) (f : Field) (a : Nat) (cell : Cell), U.vm.findClass C = some c ∧ U.fieldFound? C n d = some (c, k, i, f) ∧ f.isStatic = true ∧ k.statics = some a ∧ H[a]? = some cell ∧ cell.vm.isStatics = true ∧ cell.cls = c ∧ f.slot < cell.slots.size ∧ k.staticTypes[f.slot]? = some f.type ∧ ¬ A a
theorem vx_L.moved {C n d : String} {A : Nat → Prop} {u U : State} {H : Heap} (hvm : u.vm.Alike U.vm) (h : vx_L C n d A u H) : vx_L C n d A U H := by
  obtain ⟨c, k, i, f, a, cell, h1, h2, h3, h4, h5, h6, h7, h8, h9, h10⟩ := h
  obtain ⟨k', hi', he⟩ := State.fieldFound?_setVm hvm h2
  exact ⟨c, k', i, f, a, cell, by rw [hvm.findClass]; exact h1, hi', h3, by rw [he]; exact h4, h5, h6, h7, h8, by rw [he]; exact h9, h10⟩
theorem vx_L.kept {C n d : String} {A : Nat → Prop} {U : State} {H H1 : Heap} (h : vx_L C n d A U H) (hq : ∀ a : Nat, a < H.size → ¬ A a → H1[a]? = H[a]?) : vx_L C n d A U H1 := by
  obtain ⟨c, k, i, f, a, cell, h1, h2, h3, h4, h5, h6, h7, h8, h9, h10⟩ := h
  exact ⟨c, k, i, f, a, cell, h1, h2, h3, h4, by rw [hq a (Array.getElem?_eq_some_iff.mp h5).1 h10]; exact h5, h6, h7, h8, h9, h10⟩
theorem vx_L.narrow {C n d : String} {A B : Nat → Prop} {U : State} {H : Heap} (h : vx_L C n d A U H) (hAB : ∀ q, B q → A q) : vx_L C n d B U H := by
  obtain ⟨c, k, i, f, a, cell, h1, h2, h3, h4, h5, h6, h7, h8, h9, h10⟩ := h
  exact ⟨c, k, i, f, a, cell, h1, h2, h3, h4, h5, h6, h7, h8, h9, fun z => h10 (hAB _ z)⟩
theorem vx_L.word {C n d : String} {A : Nat → Prop} {s : State} {args : Array Value} (h : vx_L C n d A s s.heap) : (Cond.laysStatic C n d).before args s = true := by
  obtain ⟨c, k, i, f, a, cell, h1, h2, h3, h4, h5, h6, h7, h8, h9, -⟩ := h
  show (Cond.laysStatic C n d).holds args s none s [] = true
  exact Cond.laysStatic_of h1 h2 h3 h4 h5 h6 h7 h8 h9
/-- .. and what it holds: null or some reference -/
def vx_Zq (C n d : String) (A : Nat → Prop) (U : State) (H : Heap) : Prop := va_Zq C n d A U H ∧ vx_L C n d A U H
theorem vx_Zq.moved {C n d : String} {A : Nat → Prop} {u U : State} {H : Heap} (hvm : u.vm.Alike U.vm) (h : vx_Zq C n d A u H) : vx_Zq C n d A U H := ⟨va_Zq.moved hvm h.1, vx_L.moved hvm h.2⟩
theorem vx_Zq.kept {C n d : String} {A : Nat → Prop} {U : State} {H H1 : Heap} (h : vx_Zq C n d A U H) (hq : ∀ a : Nat, a < H.size → ¬ A a → H1[a]? = H[a]?) : vx_Zq C n d A U H1 := ⟨va_Zq.kept h.1 hq, vx_L.kept h.2 hq⟩
theorem vx_Zq.narrow {C n d : String} {A B : Nat → Prop} {U : State} {H : Heap} (h : vx_Zq C n d A U H) (hAB : ∀ q, B q → A q) : vx_Zq C n d B U H := ⟨va_Zq.narrow h.1 hAB, vx_L.narrow h.2 hAB⟩
theorem vx_Zqof {args : Array Value} {s : State} {C n d : String} {A : Nat → Prop} (hl : (Cond.laysStatic C n d).before args s = true) (hini : (Cond.initialized C).before args s = true) (h : (Cond.isRef (.static C n d)).before args s = true) (hA : ∀ a : Nat, a < s.heap.size → ¬ A a) : vx_Zq C n d A s s.heap := by
  refine ⟨va_Zqof hl hini h hA, ?_⟩
  obtain ⟨c, k, i, f, a, cell, h1, h2, h3, h4, h5, h6, h7, h8, h9⟩ := Cond.laysStatic_spec hl
  exact ⟨c, k, i, f, a, cell, h1, h2, h3, h4, h5, h6, h7, h8, h9, hA a (Array.getElem?_eq_some_iff.mp h5).1⟩
theorem vx_isRef {C n d : String} {v : Value} {A : Nat → Prop} {s : State} {args : Array Value} (h : va_Z C n d v A s s.heap) (hv : v.isRef = true) : (Cond.isRef (.static C n d)).before args s = true := by
  obtain ⟨cf, kf, fi, f, a, cell, h1, h2, h3, h4, h5, h6, h7, -⟩ := h
  have he : (Term.static C n d).eval args s none [] s = some v := by
    simp [Term.eval, State.fieldNamed?, h1, h2, h4, h5, h6, h7]
  simp only [Cond.before, Cond.holds, Cond.value, he]
  cases v <;> simp_all [Value.isRef]
theorem vx_isRefq {C n d : String} {A : Nat → Prop} {s : State} {args : Array Value} (h : va_Zq C n d A s s.heap) : (Cond.isRef (.static C n d)).before args s = true := by
  rcases h with h | ⟨t, h⟩
  · exact vx_isRef h rfl
  · exact vx_isRef h rfl
/-- the same frame, seen from here: as if the method were called anew in this heap -/
theorem vx_rebase {T : State} (X : Stand p l e R s m args below meth c T locs cells slots) {R' : Room} (hf : R'.frames ≤ R.frames) (hl : R'.locals ≤ R.locals) (hc : cells + R'.cells ≤ R.cells) (hs : slots + R'.slots ≤ R.slots) :
    Stand p l e R' ((T.setVm s.vm).setFrames (.invoking m args :: below)) m args below meth c T [] 0 0 := by
  have htop : (T.setVm s.vm).topJava?.isSome := X.here.top
  have hF : ((T.setVm s.vm).setFrames (.invoking m args :: below)).frames = .invoking m args :: below := State.frames_setFrames _ (State.cur_lt_of_top htop)
  obtain ⟨g₀, hg0⟩ := Option.isSome_iff_exists.mp htop
  obtain ⟨r, hr⟩ := State.topJava?_eq_some.mp hg0
  have hl9 : e.platform.stackLimits (T.setVm s.vm).me = e.platform.stackLimits s.me := X.limits
  have hb9 : (T.setVm s.vm).me.stackBytes = s.me.stackBytes := X.bytes
  refine ⟨X.admits, X.cas, X.clock, hF, ?_, X.hears, X.method, X.code, X.here, X.tail, X.warmed, ?_, ?_, ?_⟩
  · have h := X.room
    have hU : ((T.setVm s.vm).setFrames (.invoking m args :: below)).localsInUse = s.localsInUse := by
      rw [State.localsInUse_invoking hF (meth := meth) (c := c) X.method X.code, State.localsInUse_invoking X.frames X.method X.code]
    simp only [State.hasRoom, Bool.and_eq_true, decide_eq_true_eq] at h ⊢
    obtain ⟨⟨⟨⟨h1, h2, h3, h4, h5, h6⟩, h7⟩, h8⟩, h9⟩ := h
    rw [X.frames, List.length_cons] at h2 h3
    have q1 := X.heapSize
    have q2 := X.used
    simp only [hF, hU, List.length_cons, State.stackLimits_setFrames, State.stackBytes_setFrames, hl9, hb9]
    refine ⟨⟨⟨⟨by omega, by omega, by omega, by omega, by omega, h6⟩, ?_⟩, ?_⟩, X.book⟩
    · show T.heap.size + R'.cells ≤ e.platform.maxCells
      omega
    · show T.slotsUsed + R'.slots ≤ e.platform.maxSlots
      omega
  · rw [State.stackLimits_setFrames]; rfl
  · rw [State.stackBytes_setFrames]; rfl
  · refine ⟨?_, Nat.le_refl _, Nat.le_refl _, ?_, ?_, fun a c9 h9 => ⟨c9, h9, rfl, rfl, fun _ _ => rfl⟩⟩
    · obtain ⟨t, ht, -⟩ := State.frames_cons hr
      show T.setVm s.vm = { ((T.setVm s.vm).setFrames (.invoking m args :: below)).setFrames (T.setVm s.vm).frames with heap := T.heap, slotsUsed := T.slotsUsed }
      rw [State.setFrames_setFrames, State.setFrames_self ht]
      rfl
    · show T.slotsUsed = T.slotsUsed + ((T.heap.toList.drop T.heap.size).map (·.slots.size)).sum
      rw [List.drop_eq_nil_of_le (Nat.le_of_eq Array.length_toList)]
      rfl
    · show ((T.heap.toList.drop T.heap.size).map (·.slots.size)).sum ≤ 0
      rw [List.drop_eq_nil_of_le (Nat.le_of_eq Array.length_toList)]
      exact Nat.le_refl _
/-- 'throw new E()': new; dup; invokespecial; athrow -/
theorem vx_throw0 {cc : ByteArray} {pc : Nat} (hexec : p.tables.exec = Jvm.exec) (hb : c.code = cc) (hl : l.stackTraces = false) {own cls : String} {names : List String} {ik ic mc ms : Nat} {A : Nat → Prop}
    (hown : s.vm.findClass own = some m.cls) (hcls : Bundle.fit cls = true) (hnames : ∀ n ∈ names, Bundle.fit n = true)
    (hk : (Cond.classLink own ik cls).before args s = true) (hini : (Cond.initialized cls).before args s = true) (hat : ∀ w ∈ vx_at0 own ic cls names, w.before args s = true)
    (hgood : ∀ w ∈ Cond.classLink own ik cls :: Cond.initialized cls :: vx_at0 own ic cls names, vx_ot w = true)
    (hU : vx_Zq Bundle.tN "UNASSIGNED_STACK" Bundle.steD A s s.heap) (hN : vx_Zq Bundle.tN "SUPPRESSED_SENTINEL" Bundle.listD A s s.heap) (hS : va_S A s.heap H locs) (hsize : ls.size = c.maxLocals)
    (d0 : decode cc pc = .ok (.new ik, 3)) (d3 : decode cc (pc + 3) = .ok (.dup, 1)) (d4 : decode cc (pc + 4) = .ok (.invokespecial ic, 3)) (d7 : decode cc (pc + 7) = .ok (.athrow, 1))
    (hout : ∀ x ∈ c.exceptionTable.toList, covers x (pc + 7) = false)
    (hRframes : names.length + 3 < R.frames) (hRlocals : (rest.map fun v => v.category).sum + (13 * (names.length + 1) + 42) ≤ R.locals) (hRcells : cells + 1 ≤ R.cells) (hRslots : slots + 6 ≤ R.slots) (hlocks : meth.locks = false)
    (hx : ∀ t : State, s.vm.Alike t.vm → H.size ≤ t.heap.size → (∀ q : Nat, q < H.size → t.heap[q]? = H[q]?) → XC cls s t)
    (hf : ∀ z ∈ locs, free z.base) (hc : cells + 1 ≤ mc) (hs : slots + 6 ≤ ms) :
    W p l e R s m args below meth c H locs cells slots (vx_MQ below Qc XC args s mc ms free) (F0 m pc ls rest) := by
  intro T hT X
  have htr : e.platform.stackTraces = false := (show e.platform.stackTraces = l.stackTraces by rw [X.admits.platform]).trans hl
  have Y := vx_rebase X (R' := { frames := R.frames, locals := R.locals, cells := 1, slots := 6 }) (Nat.le_refl _) (Nat.le_refl _) hRcells hRslots
  obtain ⟨s', hA⟩ : ∃ z, z = (T.setVm s.vm).setFrames (.invoking m args :: below) := ⟨_, rfl⟩
  rw [← hA] at Y
  have hvm : s'.vm = s.vm := by rw [hA]; rfl
  have hhp : s'.heap = H := by rw [hA]; exact hT
  have hW0 : s.WarmedH s'.vm := by rw [hvm]; exact State.WarmedH.refl s
  have hat' : ∀ w ∈ vx_at0 own ic cls names, w.before args s' = true := fun w hw => vx_ot_at hW0 hvm.symm (hgood w (List.mem_cons_of_mem _ (List.mem_cons_of_mem _ hw))) (hat w hw)
  have hk' : (Cond.classLink own ik cls).before args s' = true := vx_ot_at hW0 hvm.symm (hgood _ List.mem_cons_self) hk
  have hini' : (Cond.initialized cls).before args s' = true := vx_ot_at hW0 hvm.symm (hgood _ (List.mem_cons_of_mem _ List.mem_cons_self)) hini
  have hU' : vx_Zq Bundle.tN "UNASSIGNED_STACK" Bundle.steD A s' s'.heap := by rw [hhp]; exact vx_Zq.moved hW0.alike (hU.kept hS.2.1)
  have hN' : vx_Zq Bundle.tN "SUPPRESSED_SENTINEL" Bundle.listD A s' s'.heap := by rw [hhp]; exact vx_Zq.moved hW0.alike (hN.kept hS.2.1)
  have h : ∀ w ∈ Bundle.ownAtoms0 own ic cls names, w.before args s' = true := vx_own hat' (vx_isRefq hU'.1) (vx_isRefq hN'.1) hU'.2.word hN'.2.word
  have hown' : s'.vm.findClass own = some m.cls := by rw [hvm]; exact hown
  have hins : (Cond.instantiable cls 6).before args s' = true := h _ (by simp [Bundle.ownAtoms0])
  obtain ⟨vm₁, cX, kX, hfX, hkX, -, -, X₁, st1⟩ := Y.newCold hexec (own := own) (C := cls) (index := ik) (n := 6) hown' hk' hins hini'
    (g := F0 m pc ls rest) rfl (by rw [hb]; exact d0) (Nat.le_refl _) (Nat.le_refl _)
  generalize hT1 : (T.setVm vm₁).pushCell { cls := cX, slots := kX.instanceTypes.map defaultValue, vm := .none } = T1 at X₁ st1
  have hcat : (Value.ref T.heap.size).category = 1 := rfl
  have hcellA : T1.heap[T.heap.size]? = some (freshCell cX kX) := by rw [← hT1]; exact State.heap_pushCell_size _ _
  have d3' : decode c.code (pc + 3) = .ok (.dup, 1) := by rw [hb]; exact d3
  obtain ⟨U, hsteps, hrun, hend, hW, hsame, ce, hce, hO⟩ := X₁.ctorThrow0 hexec htr (own := own) (cls := cls) (names := names) (ic := ic) hown' hcls hnames h (fun x hx => nomatch hx) hfX hkX hcellA (by rw [hhp, hT]; exact Nat.le_refl _)
    (g := { method := m, pc := pc + 4, locals := ls, stack := .ref T.heap.size :: .ref T.heap.size :: rest, locked := none }) rfl hsize rfl rfl (rest := rest) rfl
    (by rw [hb]; exact d4) (by rw [hb]; exact d7) hout hRframes (by simp only [List.map_cons, List.sum_cons, hcat]; omega) hlocks
  obtain ⟨f1, f2⟩ := vx_frame hsame
  rw [hhp] at f1 f2
  have hWs : s.WarmedH U.vm := State.WarmedH.trans hW0 hW
  have hcl : s.vm.findClass cls = some ce.cls := by
    have h9 := hO.cls
    rw [hvm] at h9
    exact h9
  have hall : s.sameButNew ({ U with vm := s.vm } : State) locs mc ms := by
    subst hA
    obtain ⟨e1, e2⟩ := hsame
    rw [State.setFrames_setFrames] at e1
    have h2 : (T.setVm s.vm).sameButNew ({ U with vm := s.vm } : State) [] (0 + 1) (0 + 6) := ⟨e1, e2⟩
    have h3 := X.same.trans h2
    rw [List.append_nil] at h3
    exact h3.mono hc hs
  refine ⟨U, ?_, .threw T.heap.size, hrun, hend, Or.inr ⟨T.heap.size, rfl, cls, ce, locs, hx U hWs.alike f1 (fun q hq => f2 q hq (fun z hz => nomatch hz)), hce, hO.vm, hcl, hWs, hall, hf⟩⟩
  refine st1 _ ?_
  show Steps p.tables e below (T1.setTop { method := m, pc := pc + 3, locals := ls, stack := .ref T.heap.size :: rest, locked := none }) _
  jvm_step X₁.here [X₁.here.top, hexec, d3', Value.category]
  exact hsteps
/-- 'throw new E("text")': new; dup; ldc; invokespecial; athrow -/
theorem vx_throwS {cc : ByteArray} {pc : Nat} (hexec : p.tables.exec = Jvm.exec) (hb : c.code = cc) (hl : l.stackTraces = false) {own cls text : String} {names : List String} {ik is ic mc ms sa : Nat} {A : Nat → Prop}
    (hown : s.vm.findClass own = some m.cls) (hcls : Bundle.fit cls = true) (hnames : ∀ n ∈ names, Bundle.fit n = true)
    (hk : (Cond.classLink own ik cls).before args s = true) (hini : (Cond.initialized cls).before args s = true) (hstr : vk_R own is text sa s) (hat : ∀ w ∈ vx_atS own ic cls names, w.before args s = true)
    (hgood : ∀ w ∈ Cond.classLink own ik cls :: Cond.initialized cls :: vx_atS own ic cls names, vx_ot w = true)
    (hU : vx_Zq Bundle.tN "UNASSIGNED_STACK" Bundle.steD A s s.heap) (hN : vx_Zq Bundle.tN "SUPPRESSED_SENTINEL" Bundle.listD A s s.heap) (hS : va_S A s.heap H locs) (hsize : ls.size = c.maxLocals)
    (d0 : decode cc pc = .ok (.new ik, 3)) (d3 : decode cc (pc + 3) = .ok (.dup, 1)) (d4 : decode cc (pc + 4) = .ok (.ldc is, 2)) (d6 : decode cc (pc + 6) = .ok (.invokespecial ic, 3)) (d9 : decode cc (pc + 9) = .ok (.athrow, 1))
    (hout : ∀ x ∈ c.exceptionTable.toList, covers x (pc + 9) = false)
    (hRframes : names.length + 3 < R.frames) (hRlocals : (rest.map fun v => v.category).sum + (13 * (names.length + 1) + 43) ≤ R.locals) (hRcells : cells + 1 ≤ R.cells) (hRslots : slots + 6 ≤ R.slots) (hlocks : meth.locks = false)
    (hx : ∀ t : State, s.vm.Alike t.vm → H.size ≤ t.heap.size → (∀ q : Nat, q < H.size → t.heap[q]? = H[q]?) → XC cls s t)
    (hf : ∀ z ∈ locs, free z.base) (hc : cells + 1 ≤ mc) (hs : slots + 6 ≤ ms) :
    W p l e R s m args below meth c H locs cells slots (vx_MQ below Qc XC args s mc ms free) (F0 m pc ls rest) := by
  intro T hT X
  have htr : e.platform.stackTraces = false := (show e.platform.stackTraces = l.stackTraces by rw [X.admits.platform]).trans hl
  have Y := vx_rebase X (R' := { frames := R.frames, locals := R.locals, cells := 1, slots := 6 }) (Nat.le_refl _) (Nat.le_refl _) hRcells hRslots
  obtain ⟨s', hA⟩ : ∃ z, z = (T.setVm s.vm).setFrames (.invoking m args :: below) := ⟨_, rfl⟩
  rw [← hA] at Y
  have hvm : s'.vm = s.vm := by rw [hA]; rfl
  have hhp : s'.heap = H := by rw [hA]; exact hT
  have hW0 : s.WarmedH s'.vm := by rw [hvm]; exact State.WarmedH.refl s
  have hat' : ∀ w ∈ vx_atS own ic cls names, w.before args s' = true := fun w hw => vx_ot_at hW0 hvm.symm (hgood w (List.mem_cons_of_mem _ (List.mem_cons_of_mem _ hw))) (hat w hw)
  have hk' : (Cond.classLink own ik cls).before args s' = true := vx_ot_at hW0 hvm.symm (hgood _ List.mem_cons_self) hk
  have hini' : (Cond.initialized cls).before args s' = true := vx_ot_at hW0 hvm.symm (hgood _ (List.mem_cons_of_mem _ List.mem_cons_self)) hini
  have hU' : vx_Zq Bundle.tN "UNASSIGNED_STACK" Bundle.steD A s' s'.heap := by rw [hhp]; exact vx_Zq.moved hW0.alike (hU.kept hS.2.1)
  have hN' : vx_Zq Bundle.tN "SUPPRESSED_SENTINEL" Bundle.listD A s' s'.heap := by rw [hhp]; exact vx_Zq.moved hW0.alike (hN.kept hS.2.1)
  have h : ∀ w ∈ Bundle.ownAtoms own ic cls names, w.before args s' = true := vx_own hat' (vx_isRefq hU'.1) (vx_isRefq hN'.1) hU'.2.word hN'.2.word
  have hown' : s'.vm.findClass own = some m.cls := by rw [hvm]; exact hown
  have hins : (Cond.instantiable cls 6).before args s' = true := h _ (by simp [Bundle.ownAtoms])
  obtain ⟨vm₁, cX, kX, hfX, hkX, -, -, X₁, st1⟩ := Y.newCold hexec (own := own) (C := cls) (index := ik) (n := 6) hown' hk' hins hini'
    (g := F0 m pc ls rest) rfl (by rw [hb]; exact d0) (Nat.le_refl _) (Nat.le_refl _)
  generalize hT1 : (T.setVm vm₁).pushCell { cls := cX, slots := kX.instanceTypes.map defaultValue, vm := .none } = T1 at X₁ st1
  have hcat : (Value.ref T.heap.size).category = 1 := rfl
  have hcellA : T1.heap[T.heap.size]? = some (freshCell cX kX) := by rw [← hT1]; exact State.heap_pushCell_size _ _
  have d3' : decode c.code (pc + 3) = .ok (.dup, 1) := by rw [hb]; exact d3
  have d4' : decode c.code (pc + 4) = .ok (.ldc is, 2) := by rw [hb]; exact d4
  have hstr' : vk_R own is text sa s' := vk_R.warm hW0 hstr
  obtain ⟨U, hsteps, hrun, hend, hW, hsame, ce, hce, hO⟩ := X₁.ctorThrowS hexec htr (own := own) (cls := cls) (names := names) (ic := ic) hown' hcls hnames h (fun x hx => nomatch hx) hfX hkX hcellA (by rw [hhp, hT]; exact Nat.le_refl _) (msg := .ref sa) rfl
    (g := { method := m, pc := pc + 6, locals := ls, stack := .ref sa :: .ref T.heap.size :: .ref T.heap.size :: rest, locked := none }) rfl hsize rfl rfl (rest := rest) rfl
    (by rw [hb]; exact d6) (by rw [hb]; exact d9) hout hRframes (by simp only [List.map_cons, List.sum_cons, hcat]; omega) hlocks
  obtain ⟨f1, f2⟩ := vx_frame hsame
  rw [hhp] at f1 f2
  have hWs : s.WarmedH U.vm := State.WarmedH.trans hW0 hW
  have hcl : s.vm.findClass cls = some ce.cls := by
    have h9 := hO.cls
    rw [hvm] at h9
    exact h9
  have hall : s.sameButNew ({ U with vm := s.vm } : State) locs mc ms := by
    subst hA
    obtain ⟨e1, e2⟩ := hsame
    rw [State.setFrames_setFrames] at e1
    have h2 : (T.setVm s.vm).sameButNew ({ U with vm := s.vm } : State) [] (0 + 1) (0 + 6) := ⟨e1, e2⟩
    have h3 := X.same.trans h2
    rw [List.append_nil] at h3
    exact h3.mono hc hs
  refine ⟨U, ?_, .threw T.heap.size, hrun, hend, Or.inr ⟨T.heap.size, rfl, cls, ce, locs, hx U hWs.alike f1 (fun q hq => f2 q hq (fun z hz => nomatch hz)), hce, hO.vm, hcl, hWs, hall, hf⟩⟩
  refine st1 _ ?_
  show Steps p.tables e below (T1.setTop { method := m, pc := pc + 3, locals := ls, stack := .ref T.heap.size :: rest, locked := none }) _
  jvm_step X₁.here [X₁.here.top, hexec, d3', Value.category]
  exact X₁.ldcString hexec (own := own) (text := text) (index := is) (a := sa) hown' hstr'.1 hstr'.2
    (g := { method := m, pc := pc + 4, locals := ls, stack := .ref T.heap.size :: .ref T.heap.size :: rest, locked := none }) rfl d4' _ hsteps
/-- 'throw new E("text")', the text by a wide index -/
theorem vx_throwSW {cc : ByteArray} {pc : Nat} (hexec : p.tables.exec = Jvm.exec) (hb : c.code = cc) (hl : l.stackTraces = false) {own cls text : String} {names : List String} {ik is ic mc ms sa : Nat} {A : Nat → Prop}
    (hown : s.vm.findClass own = some m.cls) (hcls : Bundle.fit cls = true) (hnames : ∀ n ∈ names, Bundle.fit n = true)
    (hk : (Cond.classLink own ik cls).before args s = true) (hini : (Cond.initialized cls).before args s = true) (hstr : vk_R own is text sa s) (hat : ∀ w ∈ vx_atS own ic cls names, w.before args s = true)
    (hgood : ∀ w ∈ Cond.classLink own ik cls :: Cond.initialized cls :: vx_atS own ic cls names, vx_ot w = true)
    (hU : vx_Zq Bundle.tN "UNASSIGNED_STACK" Bundle.steD A s s.heap) (hN : vx_Zq Bundle.tN "SUPPRESSED_SENTINEL" Bundle.listD A s s.heap) (hS : va_S A s.heap H locs) (hsize : ls.size = c.maxLocals)
    (d0 : decode cc pc = .ok (.new ik, 3)) (d3 : decode cc (pc + 3) = .ok (.dup, 1)) (d4 : decode cc (pc + 4) = .ok (.ldc_w is, 3)) (d7 : decode cc (pc + 7) = .ok (.invokespecial ic, 3)) (d10 : decode cc (pc + 10) = .ok (.athrow, 1))
    (hout : ∀ x ∈ c.exceptionTable.toList, covers x (pc + 10) = false)
    (hRframes : names.length + 3 < R.frames) (hRlocals : (rest.map fun v => v.category).sum + (13 * (names.length + 1) + 43) ≤ R.locals) (hRcells : cells + 1 ≤ R.cells) (hRslots : slots + 6 ≤ R.slots) (hlocks : meth.locks = false)
    (hx : ∀ t : State, s.vm.Alike t.vm → H.size ≤ t.heap.size → (∀ q : Nat, q < H.size → t.heap[q]? = H[q]?) → XC cls s t)
    (hf : ∀ z ∈ locs, free z.base) (hc : cells + 1 ≤ mc) (hs : slots + 6 ≤ ms) :
    W p l e R s m args below meth c H locs cells slots (vx_MQ below Qc XC args s mc ms free) (F0 m pc ls rest) := by
  intro T hT X
  have htr : e.platform.stackTraces = false := (show e.platform.stackTraces = l.stackTraces by rw [X.admits.platform]).trans hl
  have Y := vx_rebase X (R' := { frames := R.frames, locals := R.locals, cells := 1, slots := 6 }) (Nat.le_refl _) (Nat.le_refl _) hRcells hRslots
  obtain ⟨s', hA⟩ : ∃ z, z = (T.setVm s.vm).setFrames (.invoking m args :: below) := ⟨_, rfl⟩
  rw [← hA] at Y
  have hvm : s'.vm = s.vm := by rw [hA]; rfl
  have hhp : s'.heap = H := by rw [hA]; exact hT
  have hW0 : s.WarmedH s'.vm := by rw [hvm]; exact State.WarmedH.refl s
  have hat' : ∀ w ∈ vx_atS own ic cls names, w.before args s' = true := fun w hw => vx_ot_at hW0 hvm.symm (hgood w (List.mem_cons_of_mem _ (List.mem_cons_of_mem _ hw))) (hat w hw)
  have hk' : (Cond.classLink own ik cls).before args s' = true := vx_ot_at hW0 hvm.symm (hgood _ List.mem_cons_self) hk
  have hini' : (Cond.initialized cls).before args s' = true := vx_ot_at hW0 hvm.symm (hgood _ (List.mem_cons_of_mem _ List.mem_cons_self)) hini
  have hU' : vx_Zq Bundle.tN "UNASSIGNED_STACK" Bundle.steD A s' s'.heap := by rw [hhp]; exact vx_Zq.moved hW0.alike (hU.kept hS.2.1)
  have hN' : vx_Zq Bundle.tN "SUPPRESSED_SENTINEL" Bundle.listD A s' s'.heap := by rw [hhp]; exact vx_Zq.moved hW0.alike (hN.kept hS.2.1)
  have h : ∀ w ∈ Bundle.ownAtoms own ic cls names, w.before args s' = true := vx_own hat' (vx_isRefq hU'.1) (vx_isRefq hN'.1) hU'.2.word hN'.2.word
  have hown' : s'.vm.findClass own = some m.cls := by rw [hvm]; exact hown
  have hins : (Cond.instantiable cls 6).before args s' = true := h _ (by simp [Bundle.ownAtoms])
  obtain ⟨vm₁, cX, kX, hfX, hkX, -, -, X₁, st1⟩ := Y.newCold hexec (own := own) (C := cls) (index := ik) (n := 6) hown' hk' hins hini'
    (g := F0 m pc ls rest) rfl (by rw [hb]; exact d0) (Nat.le_refl _) (Nat.le_refl _)
  generalize hT1 : (T.setVm vm₁).pushCell { cls := cX, slots := kX.instanceTypes.map defaultValue, vm := .none } = T1 at X₁ st1
  have hcat : (Value.ref T.heap.size).category = 1 := rfl
  have hcellA : T1.heap[T.heap.size]? = some (freshCell cX kX) := by rw [← hT1]; exact State.heap_pushCell_size _ _
  have d3' : decode c.code (pc + 3) = .ok (.dup, 1) := by rw [hb]; exact d3
  have d4' : decode c.code (pc + 4) = .ok (.ldc_w is, 3) := by rw [hb]; exact d4
  have hstr' : vk_R own is text sa s' := vk_R.warm hW0 hstr
  obtain ⟨U, hsteps, hrun, hend, hW, hsame, ce, hce, hO⟩ := X₁.ctorThrowS hexec htr (own := own) (cls := cls) (names := names) (ic := ic) hown' hcls hnames h (fun x hx => nomatch hx) hfX hkX hcellA (by rw [hhp, hT]; exact Nat.le_refl _) (msg := .ref sa) rfl
    (g := { method := m, pc := pc + 7, locals := ls, stack := .ref sa :: .ref T.heap.size :: .ref T.heap.size :: rest, locked := none }) rfl hsize rfl rfl (rest := rest) rfl
    (by rw [hb]; exact d7) (by rw [hb]; exact d10) hout hRframes (by simp only [List.map_cons, List.sum_cons, hcat]; omega) hlocks
  obtain ⟨f1, f2⟩ := vx_frame hsame
  rw [hhp] at f1 f2
  have hWs : s.WarmedH U.vm := State.WarmedH.trans hW0 hW
  have hcl : s.vm.findClass cls = some ce.cls := by
    have h9 := hO.cls
    rw [hvm] at h9
    exact h9
  have hall : s.sameButNew ({ U with vm := s.vm } : State) locs mc ms := by
    subst hA
    obtain ⟨e1, e2⟩ := hsame
    rw [State.setFrames_setFrames] at e1
    have h2 : (T.setVm s.vm).sameButNew ({ U with vm := s.vm } : State) [] (0 + 1) (0 + 6) := ⟨e1, e2⟩
    have h3 := X.same.trans h2
    rw [List.append_nil] at h3
    exact h3.mono hc hs
  refine ⟨U, ?_, .threw T.heap.size, hrun, hend, Or.inr ⟨T.heap.size, rfl, cls, ce, locs, hx U hWs.alike f1 (fun q hq => f2 q hq (fun z hz => nomatch hz)), hce, hO.vm, hcl, hWs, hall, hf⟩⟩
  refine st1 _ ?_
  show Steps p.tables e below (T1.setTop { method := m, pc := pc + 3, locals := ls, stack := .ref T.heap.size :: rest, locked := none }) _
  jvm_step X₁.here [X₁.here.top, hexec, d3', Value.category]
  exact X₁.ldcStringW hexec (own := own) (text := text) (index := is) (a := sa) hown' hstr'.1 hstr'.2
    (g := { method := m, pc := pc + 4, locals := ls, stack := .ref T.heap.size :: .ref T.heap.size :: rest, locked := none }) rfl d4' _ hsteps
end Ends
section Bodies
variable {l : Launch}
theorem vx_ofW {y : MethodName} {ws ws' : List Cond} {rm : Room} {Pc : Array Value → State → Prop} {Qc : Array Value → State → Outcome → State → Prop} {XC : String → State → State → Prop} {mc ms : Nat} {free : Addr → Prop} {cc : ByteArray} {maxL : Nat} {ret : Option FieldType}
    (hy : plainName y.cls = true) (hw : ws = Cond.code y cc maxL ret :: ws')
    (body : ∀ p e s m args below meth c s₁, BodyLoose p l y (headSpec ws rm) cc maxL ret e s m args below meth c s₁ → c.maxLocals = maxL → (∀ x ∈ c.exceptionTable.toList, False) → Pc args s →
      W p l e (headSpec ws rm).room s m args below meth c s.heap [] 0 0 (vx_MQ below Qc XC args s mc ms free) (entryFrame m args maxL)) : vx_Met l y ws rm Pc Qc XC mc ms free := by
  refine MetFree.of_bodyS (code := cc) (maxLocals := maxL) (ret := ret) hy ?_ ?_
  · intro args s m h hn
    obtain ⟨meth, c, h1, h2, h3, h4, h5, h6, -, -⟩ := Cond.code_spec hn (atoms_spec (ws := ws) h _ (by rw [hw]; exact List.mem_cons_self))
    exact ⟨meth, c, h1, h2, h3, h4, h5, h6⟩
  · intro p e s m args below meth c s₁ B hml hP _
    have hh0 : s₁.heap = s.heap := by rw [B.state]; rfl
    have ht : ∀ x ∈ c.exceptionTable.toList, False := by
      obtain ⟨meth9, c9, h1, h2, -, -, -, -, h7, -⟩ := Cond.code_spec B.named (atoms_spec (ws := ws) B.pre _ (by rw [hw]; exact List.mem_cons_self))
      cases Option.some.inj (h1.symm.trans B.method)
      cases Option.some.inj (h2.symm.trans (Stand.of_body B).code)
      intro x hx
      rw [Array.isEmpty_iff.mp h7] at hx
      cases hx
    obtain ⟨t, a1, o, b1, b2, b3⟩ := body p e s m args below meth c s₁ B hml ht hP s₁ hh0 (Stand.of_body B)
    exact ⟨t, o, a1, b1, b2, b3⟩
/-- the table of a body with handlers -/
theorem vx_table {p : Program} {x y : MethodName} {S : Spec} {cc bytes : ByteArray} {maxL maxL' : Nat} {ret ret' : Option FieldType} {e : Env} {s s₁ : State} {m : MethodId} {args : Array Value} {below : List Frame} {meth : Method} {c : Code} {hh : List (Nat × Nat × Nat × Nat)}
    (B : BodyLoose p l y S cc maxL ret e s m args below meth c s₁) (h : (Cond.codeWith y bytes maxL' ret' hh).before args s = true) : c.exceptionTable.toList = tableOf hh := by
  obtain ⟨m9, meth9, c9, hn9, h1, h2, -, -, h6, -⟩ := Cond.codeWith_spec h
  cases Option.some.inj (hn9.symm.trans B.named)
  cases Option.some.inj (h1.symm.trans B.method)
  cases Option.some.inj (h2.symm.trans (Stand.of_body B).code)
  rw [← h6, table_eq]
end Bodies
end VXA
/-! ===== END ===== -/
/-! ===== BEGIN a static call of a method with an exception table ===== -/
section VXS
variable {p : Program} {l : Launch} {e : Env} {R : Room} {s : State} {m : MethodId} {args : Array Value} {below : List Frame} {meth : Method} {c : Code} {T : State} {H : Heap} {locs : List Loc} {cells slots : Nat}
abbrev vx_CSW (R : Room) (s : State) (args : Array Value) (own : String) (index : Nat) (y : MethodName) (bytes : ByteArray) (maxL : Nat) (ret : Option FieldType) (hh : List (Nat × Nat × Nat × Nat)) (ws : List Cond) (rm : Room) (mc ms n : Nat) : Prop :=
  (rm.cells = mc ∧ rm.slots = ms ∧ rm.frames + 1 ≤ R.frames ∧ 8 + (maxL + 11) + rm.locals ≤ R.locals ∧ (∀ w ∈ ws, ∀ (a' : Array Value) (U : State), s.WarmedH U.vm → w.before a' U = true) ∧ Cond.codeWith y bytes maxL ret hh ∈ ws) ∧
  (Cond.codeWith y bytes maxL ret hh).before args s = true ∧ (Cond.initialized y.cls).before args s = true ∧ (y.cls ≠ "java/lang/invoke/MethodHandle" ∧ y.cls ≠ "java/lang/invoke/VarHandle") ∧
  (∀ sig, parseMethodDescriptor y.desc = some sig → n = sig.parameters.length) ∧ (Cond.methodLink own index y).before args s = true ∧ (Cond.static y).before args s = true
theorem vx_cwSW {own : String} {index maxL mc ms : Nat} {y : MethodName} {bytes : ByteArray} {ret : Option FieldType} {hh : List (Nat × Nat × Nat × Nat)} {Ts ws ws' : List Cond} {rm : Room} (n : Nat) (ht : ∀ w ∈ Ts, w.before args s = true) (hT : GoodIn Ts (va_wsS own index y ws)) (hw : ws = Cond.codeWith y bytes maxL ret hh :: ws') (hrc : rm.cells = mc) (hrs : rm.slots = ms)
    (hd : y.cls ≠ "java/lang/invoke/MethodHandle" ∧ y.cls ≠ "java/lang/invoke/VarHandle" ∧ (parseMethodDescriptor y.desc).map (fun d => d.parameters.length) = some n) (hR : rm.frames + 1 ≤ R.frames ∧ 8 + (maxL + 11) + rm.locals ≤ R.locals) :
    vx_CSW R s args own index y bytes maxL ret hh ws rm mc ms n := by
  have ok : ∀ w ∈ va_wsS own index y ws, w.before args s = true := fun w h => ht w (hT w h).1
  have hG : GoodIn Ts ws := fun w h => hT w (by unfold va_wsS; exact List.mem_append_right _ h)
  have hc : Cond.codeWith y bytes maxL ret hh ∈ ws := by rw [hw]; exact List.mem_cons_self
  refine ⟨⟨hrc, hrs, hR.1, hR.2, pay_in ht hG, hc⟩, ht _ (hG _ hc).1, ok _ (by simp [va_wsS]), ⟨hd.1, hd.2.1⟩, fun sig h => ?_, ok _ (by simp [va_wsS]), ok _ (by simp [va_wsS])⟩
  have h2 := hd.2.2
  rw [h] at h2
  exact (Option.some.inj h2).symm
theorem vx_callSW (X : Stand p l e R s m args below meth c T locs cells slots) (hexec : p.tables.exec = Jvm.exec) {own : String} {index : Nat} {y : MethodName} {bytes : ByteArray} {maxL : Nat} {ret : Option FieldType} {hh : List (Nat × Nat × Nat × Nat)}
    (hown : s.vm.findClass own = some m.cls) (hlink : (Cond.methodLink own index y).before args s = true) (hstat : (Cond.static y).before args s = true) (hinit : (Cond.initialized y.cls).before args s = true)
    (hcode : (Cond.codeWith y bytes maxL ret hh).before args s = true) (hy : y.cls ≠ "java/lang/invoke/MethodHandle" ∧ y.cls ≠ "java/lang/invoke/VarHandle")
    {W9 : Nat} {Pre : Pt → Array Value → Prop} {Post : Pt → Array Value → Option Value → Pt → Prop} (hK : Back l R p e below s args y 3 W9 Pre Post)
    {g : JFrame} (hg : g.method = m) (hsize : g.locals.size = c.maxLocals) {argsL rest : List Value} (hlen : ∀ sig, parseMethodDescriptor y.desc = some sig → argsL.length = sig.parameters.length)
    (hstack : g.stack = argsL.reverse ++ rest) (hW : 2 * g.monitorRoom + (rest.map fun v => v.category).sum ≤ W9) (hdg : decode c.code g.pc = .ok (.invokestatic index, 3))
    (hpre : ∀ vm₁, s.WarmedH vm₁ → Pre ⟨T.setVm vm₁, locs, cells, slots⟩ argsL.toArray) :
    ∃ (v : Option Value) (vm₁ : Vm) (B : Pt), s.WarmedH vm₁ ∧ Stand p l e R s m args below meth c B.U B.locs B.cells B.slots ∧ Post ⟨T.setVm vm₁, locs, cells, slots⟩ argsL.toArray v B ∧
      ∀ target, Steps p.tables e below (B.U.setTop { g with pc := g.pc + 3, stack := v.toList ++ rest }) target → Steps p.tables e below (T.setTop g) target := by
  obtain ⟨mk, methM, cM, hnamed, hmethM, -, -, -, -, -, -, hsigM⟩ := Cond.codeWith_spec hcode
  have hstatic : methM.isStatic = true := Cond.static_spec hnamed hmethM hstat
  obtain ⟨kP, hkP, -⟩ := className_of_methodNamed hnamed
  have hinitP : kP.init = .initialized := Cond.initialized_spec (findClass_of_methodNamed hnamed) hkP hinit
  obtain ⟨vm₁, X₁, hstep₁⟩ := X.invokestatic hexec hown hlink hnamed hmethM hstatic hkP hinitP hy (g := g) hg (argsL := argsL) (rest := rest) (hlen _ hsigM) hstack hdg
  obtain ⟨v, B, X', hpost, hsteps⟩ := hK m meth c ⟨T.setVm vm₁, locs, cells, slots⟩ { g with stack := rest } (.invokestatic index) mk argsL.toArray X₁ hg hsize hdg hW (X₁.named hnamed) (hpre vm₁ X₁.warmed)
  exact ⟨v, vm₁, B, X₁.warmed, X', hpost, fun target h => hstep₁ _ fun acts => by rw [doInvoke_state]; exact hsteps.trans h⟩
theorem vx_runSW {y : MethodName} {bytes cc : ByteArray} {maxL nL mc ms n index : Nat} {ret : Option FieldType} {hh : List (Nat × Nat × Nat × Nat)} {ws : List Cond} {rm : Room} {Pc : Array Value → State → Prop} {Qc : Array Value → State → Outcome → State → Prop} {free : Addr → Prop} {Ts : List Cond} {own : String} {As rest : List Value} {g : JFrame}
    (S : CallFix p m c cc nL s args Ts own) (hM : Met l y ws rm Pc Qc mc ms free) (cw : vx_CSW R s args own index y bytes maxL ret hh ws rm mc ms n) (hp : PreS s H Pc As)
    (hg : g.method = m) (hn : As.length = n) (hsize : g.locals.size = nL) (hstack : g.stack = As.reverse ++ rest) (hW : 2 * g.monitorRoom + (rest.map fun v => v.category).sum ≤ 8) (hdg : decode cc g.pc = .ok (.invokestatic index, 3)) (hf : cells + mc ≤ R.cells ∧ slots + ms ≤ R.slots) :
    va_Run p l e R s m args below meth c H locs cells slots mc ms g rest (Qc As.toArray) (free) := by
  obtain ⟨⟨hrc, hrs, hfr, hlo, hws, hcw⟩, hcode, hini, hy, hlen, hl, hstt⟩ := cw
  have hK : Back l R p e below s args y 3 8 (PreOf R mc ms Pc) (PostOf Qc mc ms free) := va_backW (hh := hh) (bytes := bytes) (maxL := maxL) (ret := ret) hM hp.1 hrc hrs hfr hlo hws hcw (fun a' U hW => word_at hW (Or.inl (by first | rfl | simp [Cond.onTables, Cond.keeps, Cond.steady])) hini)
  obtain ⟨hx, hb, hml, ho, -⟩ := S
  intro T hT X
  obtain ⟨v, vm₁, ⟨U', l2, c2, s2⟩, hW₁, X', ⟨g', mk, t, L, e1, e2, hq, h1, hL, h2, h3⟩, st⟩ := vx_callSW X hx (hh := hh) (bytes := bytes) (maxL := maxL) (ret := ret) ho hl hstt hini hcode hy hK hg (hsize.trans hml.symm) (argsL := As) (rest := rest) (fun sig h => hn.trans (hlen sig h)) hstack hW (by rw [hb]; exact hdg)
    (fun vm₁ hW₁ => ⟨hf.1, hf.2, hp.2 (T.setVm vm₁) hT hW₁⟩)
  dsimp only [Pt.U, Pt.locs, Pt.cells, Pt.slots] at X' e1 e2 h1 h2 h3 st
  subst h1; subst h2; subst h3
  exact ⟨v, (T.setVm vm₁).calling g' mk As.toArray, t, U', L, hT, X', hL, e1, e2, hq, st⟩
/-- not caught here, past rows that name other classes: it goes on to the caller -/
theorem vx_outP {p : Program} {l : Launch} {e : Env} {R : Room} {s : State} {m : MethodId} {args : Array Value} {below : List Frame} {meth : Method} {c : Code} {H : Heap} {locs : List Loc} {cells slots : Nat} {free : Addr → Prop} {ls : Array Slot} {rest : List Value} {Qc : Array Value → State → Outcome → State → Prop} {XC : String → State → State → Prop}
    {pc : Nat} {own E : String} {ce : Cell} {q : Addr} {mc ms : Nat} (hown : s.vm.findClass own = some m.cls) (hlocks : meth.locks = false)
    (hpass : ∀ z ∈ c.exceptionTable.toList, covers z pc = false ∨ (z.catchType ≠ 0 ∧ ∃ nm : String, (Cond.classLink own z.catchType nm).before args s = true ∧ va_Nc E nm s)) (hcell : H[q]? = some ce) (hv : ce.vm = .none) (hcl : s.vm.findClass E = some ce.cls)
    (hx : ∀ t : State, t.heap = H → s.vm.Alike t.vm → XC E s t) (hf : ∀ z ∈ locs, free z.base) (hc : cells ≤ mc) (hs : slots ≤ ms) :
    vx_W p l e R s m args below meth c H locs cells slots (vx_MQ below Qc XC args s mc ms free) (F0 m pc ls rest) q := by
  intro T hT X
  have hpl : e.platform.magicAccessors = ({} : Platform).magicAccessors := by rw [X.admits.platform]
  obtain ⟨vm', hW', X', st⟩ := X.outThrough hlocks q (g := F0 m pc ls rest) rfl rfl rfl (cell := ce) (by rw [hT]; exact hcell) (by rw [hv]; rfl)
    (by obtain ⟨k9, h9, -⟩ := Vm.findClass_spec hcl; exact ⟨k9, h9⟩) (fun z hz => by
      rcases hpass z hz with h | ⟨hz0, nm, hl1, hn1⟩
      · exact Or.inl h
      · obtain ⟨c6, hc6, hcl6⟩ := Cond.classLink_spec hown hl1 e.platform hpl
        obtain ⟨a8, b8, h1, h2, h3⟩ := hn1
        cases Option.some.inj (h1.symm.trans hcl)
        cases Option.some.inj (h2.symm.trans hc6)
        exact Or.inr ⟨hz0, _, hcl6, h3⟩)
  obtain ⟨g₀, hfr⟩ := X'.frames_eq
  have hcell9 : ((T.setVm vm').setFrames (.throwing q :: below)).heap[q]? = some ce := by
    show T.heap[q]? = some ce
    rw [hT]; exact hcell
  have hend : Ended ((T.setVm vm').setFrames (.throwing q :: below)) below (.threw q) := State.frames_setFrames _ (State.cur_lt_of_frames hfr)
  refine ⟨(T.setVm vm').setFrames (.throwing q :: below), ?_, .threw q, X'.here.running, hend, Or.inr ⟨q, rfl, E, ce, locs, hx _ hT (X'.ends _).1.alike, hcell9, hv, hcl, (X'.ends _).1, (X'.ends _).2.mono hc hs, hf⟩⟩
  rw [X.pushThrowing_eq]
  exact st
/-- a thing of a world lies in the heap -/
theorem vx_lt {D : va_G} {cl : List vw_C} {ws : va_W} {H1 : Heap} (h : va_P D cl ws H1) {k : Nat} {q : Nat × va_E} (hk : ws[k]? = some q) : q.1 < H1.size := (h k q hk).lt
end VXS
/-! ===== END ===== -/
/-! ===== BEGIN methods with a table of their own: called by a name, returning or throwing ===== -/
section VXH
/-! vx_backW, vx_callVX, vx_callSX, vx_callVW, vx_runVW, vx_runVX, vx_runSX, vx_ofWH follow the same proofs as their sisters above (Free/Laws.lean, Shelf42/LK1.lean); vx_outP calls Shelf42/NT130.lean (outThrough). -/
section
variable {l : Launch} {R : Room} {p : Program} {e : Env} {below : List Frame} {s : State} {sargs : Array Value} {y : MethodName} {len W9 : Nat}
theorem vx_backW {ws : List Cond} {rm : Room} {Pc : Array Value → State → Prop} {Qc : Array Value → State → Outcome → State → Prop} {XC : String → State → State → Prop} {mc ms : Nat} {free : Addr → Prop} {bytes : ByteArray} {maxL : Nat} {ret : Option FieldType} {hh : List (Nat × Nat × Nat × Nat)}
    (hM : vx_Met l y ws rm Pc Qc XC mc ms free) (hblind : FrameBlind Pc) (hrc : rm.cells = mc) (hrs : rm.slots = ms)
    (hframes : rm.frames + 1 ≤ R.frames) (hlocals : W9 + (maxL + 11) + rm.locals ≤ R.locals)
    (hws : ∀ w ∈ ws, ∀ a' U, s.WarmedH U.vm → w.before a' U = true) (hcode : Cond.codeWith y bytes maxL ret hh ∈ ws) (hinit : ∀ a' U, s.WarmedH U.vm → (Cond.initialized y.cls).before a' U = true) :
    vx_Back l R p e below s sargs y len W9 (PreOf R mc ms Pc) (PostOf Qc mc ms free) (vx_Post XC mc ms free) := by
  intro m meth c A g ig mk a X hg hsize hdg hW hn hp
  have h1 : (headSpec ws rm).pre.before a A.U = true := atoms_intro fun w hw => hws w hw _ _ X.warmed
  have h2 : (Cond.codeWith y bytes maxL ret hh).before a A.U = true := hws _ hcode _ _ X.warmed
  have h3 : (Cond.initialized y.cls).before a A.U = true := hinit _ _ X.warmed
  have h4 : A.cells + (headSpec ws rm).room.cells ≤ R.cells := by rw [show (headSpec ws rm).room.cells = mc from hrc]; exact hp.1
  have h5 : A.slots + (headSpec ws rm).room.slots ≤ R.slots := by rw [show (headSpec ws rm).room.slots = ms from hrs]; exact hp.2.1
  have hPc : Pc a (A.U.calling g mk a) := hblind _ _ _ _ hp.2.2
  obtain ⟨U, Ls, c0, s0⟩ := A
  dsimp only [Pt.U, Pt.locs, Pt.cells, Pt.slots] at h1 h2 h3 h4 h5 X hn hPc ⊢
  obtain ⟨m9, methY, cY, hn9, hmY, hcY, -, hlY, -⟩ := Cond.codeWith_spec h2
  cases Option.some.inj (hn9.symm.trans hn)
  obtain ⟨kY, hkY, -⟩ := className_of_methodNamed hn
  have hinitY : kY.init = .initialized := Cond.initialized_spec (findClass_of_methodNamed hn) hkY h3
  have h : At U g.method c below := by rw [hg]; exact X.here
  have hlocals9 : W9 + (maxL + 11) + (headSpec ws rm).room.locals ≤ R.locals := hlocals
  have happ : (headSpec ws rm).appliesLoose y e.platform (U.calling g mk a) = true :=
    Spec.appliesLoose_calling (g := g) h hdg hn hkY hinitY
      (X.room_calling (g := g) (R' := (headSpec ws rm).room) hsize hmY hcY hframes (by rw [hlY]; omega) h4 h5) h1
  obtain ⟨mid, hmid⟩ := h.above
  have hfr : (U.setTop g).frames = (.java g :: mid) ++ below := by rw [State.frames_setTop' g h.top, hmid]; rfl
  obtain ⟨o, s₂, hsteps, -, hend, hq⟩ := Steps.callFree hM p X.admits X.cas X.clock (acts := []) hfr happ hPc trivial
  have hq' : vx_Q Qc XC mc ms free a (U.calling g mk a) o s₂ := hq
  rw [State.frames_setTop' g h.top] at hend
  obtain ⟨g₀, hg0⟩ := Option.isSome_iff_exists.mp h.top
  obtain ⟨r, hr⟩ := State.topJava?_eq_some.mp hg0
  have hr' : (({ U with heap := s₂.heap, slotsUsed := s₂.slotsUsed } : State).setVm s₂.vm).frames = .java g₀ :: r := hr
  rcases hq' with ⟨hqc, L, hfe, hL⟩ | ⟨q, rfl, E, ce, L, hx, hce, hcv, hcl, hW₂, hsm, hL⟩
  · obtain ⟨⟨v, rfl⟩, hW₂, e2, q2, q3, q4, q5, q6⟩ := id hfe
    have e3 : s₂ = ({ (U.calling g mk a).setFrames s₂.frames with heap := s₂.heap, slotsUsed := s₂.slotsUsed } : State).setVm s₂.vm := by
      have : s₂ = ({ s₂ with vm := (U.calling g mk a).vm } : State).setVm s₂.vm := rfl
      rw [e2] at this
      exact this
    obtain ⟨c₂, i₂, len₂, hc₂, hd₂, hf₂⟩ := hend
    have hW' : U.WarmedH s₂.vm := hW₂
    have hcc : c₂ = c := by
      have h1 : s₂.code? g.method = U.code? g.method := by
        rw [State.code?_eq, State.code?_eq, hW'.alike.method?]
      exact Option.some.inj (hc₂.symm.trans (h1.trans h.code))
    subst hcc
    have hlen : len₂ = len := by rw [hdg] at hd₂; cases hd₂; rfl
    subst hlen
    have hs₂ : s₂ = (({ U with heap := s₂.heap, slotsUsed := s₂.slotsUsed } : State).setVm s₂.vm).setTop { g with pc := g.pc + len₂, stack := v.toList ++ g.stack } := by
      refine e3.trans ?_
      rw [hf₂, State.calling_eq h.top, State.setFrames_setFrames, State.setTop_of_frames _ hr', hr]
      rfl
    have hsame : U.sameButNew ({ U with heap := s₂.heap, slotsUsed := s₂.slotsUsed } : State) L mc ms := by
      refine ⟨?_, q2, q3, q4, q5, q6⟩
      obtain ⟨t, ht, -⟩ := State.frames_cons hr
      show ({ U with heap := s₂.heap, slotsUsed := s₂.slotsUsed } : State) = { U.setFrames U.frames with heap := s₂.heap, slotsUsed := s₂.slotsUsed }
      rw [State.setFrames_self ht]
    subst hg
    refine Or.inl ⟨v, ⟨(({ U with heap := s₂.heap, slotsUsed := s₂.slotsUsed } : State).setVm s₂.vm), Ls ++ L, c0 + mc, s0 + ms⟩,
      ⟨X.admits, X.cas, X.clock, X.frames, X.room, X.hears, X.method, X.code, (X.here.setHeapUsed s₂.heap s₂.slotsUsed).setVm hW'.alike, X.tail, State.WarmedH.trans X.warmed hW', X.limits, X.bytes, X.same.trans (hsame.setVm s.vm)⟩,
      ⟨g, mk, s₂, L, rfl, rfl, hqc, rfl, hL, rfl, rfl⟩, ?_⟩
    show Steps p.tables e below _ ((({ U with heap := s₂.heap, slotsUsed := s₂.slotsUsed } : State).setVm s₂.vm).setTop { g with pc := g.pc + len₂, stack := v.toList ++ g.stack })
    rw [← hs₂]
    exact hsteps
  · obtain ⟨e2, q2, q3, q4, q5, q6⟩ := id hsm
    have e3 : s₂ = ({ (U.calling g mk a).setFrames s₂.frames with heap := s₂.heap, slotsUsed := s₂.slotsUsed } : State).setVm s₂.vm := by
      have : s₂ = ({ s₂ with vm := (U.calling g mk a).vm } : State).setVm s₂.vm := rfl
      rw [e2] at this
      exact this
    have hf₂ : s₂.frames = .throwing q :: .java g :: U.frames.tail := hend
    have hW' : U.WarmedH s₂.vm := hW₂
    have hs₂ : s₂ = ((({ U with heap := s₂.heap, slotsUsed := s₂.slotsUsed } : State).setVm s₂.vm).setTop g).pushFrame (.throwing q) := by
      refine e3.trans ?_
      rw [hf₂, State.calling_eq h.top, State.setFrames_setFrames, State.pushFrame, State.frames_setTop _ hr', State.setTop_of_frames _ hr', State.setFrames_setFrames, hr]
      rfl
    have hsame : U.sameButNew ({ U with heap := s₂.heap, slotsUsed := s₂.slotsUsed } : State) L mc ms := by
      refine ⟨?_, q2, q3, q4, q5, q6⟩
      obtain ⟨t, ht, -⟩ := State.frames_cons hr
      show ({ U with heap := s₂.heap, slotsUsed := s₂.slotsUsed } : State) = { U.setFrames U.frames with heap := s₂.heap, slotsUsed := s₂.slotsUsed }
      rw [State.setFrames_self ht]
    subst hg
    refine Or.inr ⟨q, ⟨(({ U with heap := s₂.heap, slotsUsed := s₂.slotsUsed } : State).setVm s₂.vm), Ls ++ L, c0 + mc, s0 + ms⟩,
      ⟨X.admits, X.cas, X.clock, X.frames, X.room, X.hears, X.method, X.code, (X.here.setHeapUsed s₂.heap s₂.slotsUsed).setVm hW'.alike, X.tail, State.WarmedH.trans X.warmed hW', X.limits, X.bytes, X.same.trans (hsame.setVm s.vm)⟩,
      ⟨g, mk, s₂, L, E, ce, rfl, rfl, hx, hce, hcv, hcl, rfl, hL, rfl, rfl⟩, ?_⟩
    show Steps p.tables e below _ (((({ U with heap := s₂.heap, slotsUsed := s₂.slotsUsed } : State).setVm s₂.vm).setTop g).pushFrame (.throwing q))
    rw [← hs₂]
    exact hsteps
end
variable {p : Program} {l : Launch} {e : Env} {R : Room} {s : State} {m : MethodId} {args : Array Value} {below : List Frame} {meth : Method} {c : Code} {T : State} {H : Heap} {locs : List Loc} {cells slots : Nat}
theorem vx_callVX (X : Stand p l e R s m args below meth c T locs cells slots) (hexec : p.tables.exec = Jvm.exec) {own C : String} {index : Nat} {y : MethodName} {bytes : ByteArray} {maxL : Nat} {ret : Option FieldType} {hh : List (Nat × Nat × Nat × Nat)}
    (hown : s.vm.findClass own = some m.cls) (hlink : (Cond.methodLink own index y).before args s = true) (hinst : (Cond.instanceMethod y).before args s = true) (hsel : (Cond.selects C y y).before args s = true)
    (hcode : (Cond.codeWith y bytes maxL ret hh).before args s = true) (hy : y.cls ≠ "java/lang/invoke/MethodHandle" ∧ y.cls ≠ "java/lang/invoke/VarHandle")
    {W9 : Nat} {Pre : Pt → Array Value → Prop} {Post : Pt → Array Value → Option Value → Pt → Prop} {PostX : Pt → Array Value → Addr → Pt → Prop} (hK : vx_Back l R p e below s args y 3 W9 Pre Post PostX)
    {b : Addr} {cellB : Cell} (hcell : T.heap[b]? = some cellB) (hobj : cellB.vm.isStatics = false) (hcls : s.vm.findClass C = some cellB.cls)
    {g : JFrame} (hg : g.method = m) (hsize : g.locals.size = c.maxLocals) {argsL rest : List Value} (hlen : ∀ sig, parseMethodDescriptor y.desc = some sig → argsL.length = sig.parameters.length)
    (hstack : g.stack = argsL.reverse ++ .ref b :: rest) (hW : 2 * g.monitorRoom + (rest.map fun v => v.category).sum ≤ W9) (hdg : decode c.code g.pc = .ok (.invokevirtual index, 3))
    (hpre : ∀ vm₁, s.WarmedH vm₁ → Pre ⟨T.setVm vm₁, locs, cells, slots⟩ (Value.ref b :: argsL).toArray) :
    (∃ (v : Option Value) (vm₁ : Vm) (B : Pt), s.WarmedH vm₁ ∧ Stand p l e R s m args below meth c B.U B.locs B.cells B.slots ∧ Post ⟨T.setVm vm₁, locs, cells, slots⟩ (Value.ref b :: argsL).toArray v B ∧
      ∀ target, Steps p.tables e below (B.U.setTop { g with pc := g.pc + 3, stack := v.toList ++ rest }) target → Steps p.tables e below (T.setTop g) target) ∨
    (∃ (q : Addr) (vm₁ : Vm) (B : Pt), s.WarmedH vm₁ ∧ Stand p l e R s m args below meth c B.U B.locs B.cells B.slots ∧ PostX ⟨T.setVm vm₁, locs, cells, slots⟩ (Value.ref b :: argsL).toArray q B ∧
      Steps p.tables e below (T.setTop g) ((B.U.setTop { g with stack := rest }).pushFrame (.throwing q))) := by
  obtain ⟨mk, methM, hnamed, hmethM, hstM, habM⟩ := Cond.instanceMethod_spec hinst
  obtain ⟨m8, methM', cM, hn8, hmethM', -, -, -, -, -, -, hsigM⟩ := Cond.codeWith_spec hcode
  cases Option.some.inj (hn8.symm.trans hnamed)
  cases hmethM.symm.trans hmethM'
  obtain ⟨c2, r2, m2, q1, q2, q3, q4, kP, hkP, hkPi⟩ := Cond.selects_spec hsel
  cases hcls.symm.trans q1
  cases (State.methodFound?_of_named hnamed hy).symm.trans q2
  cases hnamed.symm.trans q3
  have hselP : selectMethod e.platform s.vm cellB.cls mk = .method mk := by rw [Launch.admits_selectMethod X.admits]; exact q4
  obtain ⟨vm₁, X₁, hstep₁⟩ := X.invokevirtual hexec hown hlink hnamed hmethM hstM hkP hkPi hy (a := b) (cell := cellB) hcell
    (fun z h => by rw [h] at hobj; cases hobj) hselP hmethM habM hkP hkPi (g := g) hg (argsL := argsL) (rest := rest) (hlen _ hsigM) hstack hdg
  rcases hK m meth c ⟨T.setVm vm₁, locs, cells, slots⟩ { g with stack := rest } (.invokevirtual index) mk (Value.ref b :: argsL).toArray X₁ hg hsize hdg hW (X₁.named hnamed) (hpre vm₁ X₁.warmed) with ⟨v, B, X', hpost, hsteps⟩ | ⟨q, B, X', hpost, hsteps⟩
  · exact Or.inl ⟨v, vm₁, B, X₁.warmed, X', hpost, fun target h => hstep₁ _ fun acts => by rw [doInvoke_state]; exact hsteps.trans h⟩
  · exact Or.inr ⟨q, vm₁, B, X₁.warmed, X', hpost, hstep₁ _ fun acts => by rw [doInvoke_state]; exact hsteps⟩
theorem vx_callSX (X : Stand p l e R s m args below meth c T locs cells slots) (hexec : p.tables.exec = Jvm.exec) {own : String} {index : Nat} {y : MethodName} {bytes : ByteArray} {maxL : Nat} {ret : Option FieldType} {hh : List (Nat × Nat × Nat × Nat)}
    (hown : s.vm.findClass own = some m.cls) (hlink : (Cond.methodLink own index y).before args s = true) (hstat : (Cond.static y).before args s = true) (hinit : (Cond.initialized y.cls).before args s = true)
    (hcode : (Cond.codeWith y bytes maxL ret hh).before args s = true) (hy : y.cls ≠ "java/lang/invoke/MethodHandle" ∧ y.cls ≠ "java/lang/invoke/VarHandle")
    {W9 : Nat} {Pre : Pt → Array Value → Prop} {Post : Pt → Array Value → Option Value → Pt → Prop} {PostX : Pt → Array Value → Addr → Pt → Prop} (hK : vx_Back l R p e below s args y 3 W9 Pre Post PostX)
    {g : JFrame} (hg : g.method = m) (hsize : g.locals.size = c.maxLocals) {argsL rest : List Value} (hlen : ∀ sig, parseMethodDescriptor y.desc = some sig → argsL.length = sig.parameters.length)
    (hstack : g.stack = argsL.reverse ++ rest) (hW : 2 * g.monitorRoom + (rest.map fun v => v.category).sum ≤ W9) (hdg : decode c.code g.pc = .ok (.invokestatic index, 3))
    (hpre : ∀ vm₁, s.WarmedH vm₁ → Pre ⟨T.setVm vm₁, locs, cells, slots⟩ argsL.toArray) :
    (∃ (v : Option Value) (vm₁ : Vm) (B : Pt), s.WarmedH vm₁ ∧ Stand p l e R s m args below meth c B.U B.locs B.cells B.slots ∧ Post ⟨T.setVm vm₁, locs, cells, slots⟩ argsL.toArray v B ∧
      ∀ target, Steps p.tables e below (B.U.setTop { g with pc := g.pc + 3, stack := v.toList ++ rest }) target → Steps p.tables e below (T.setTop g) target) ∨
    (∃ (q : Addr) (vm₁ : Vm) (B : Pt), s.WarmedH vm₁ ∧ Stand p l e R s m args below meth c B.U B.locs B.cells B.slots ∧ PostX ⟨T.setVm vm₁, locs, cells, slots⟩ argsL.toArray q B ∧
      Steps p.tables e below (T.setTop g) ((B.U.setTop { g with stack := rest }).pushFrame (.throwing q))) := by
  obtain ⟨mk, methM, cM, hnamed, hmethM, -, -, -, -, -, -, hsigM⟩ := Cond.codeWith_spec hcode
  have hstatic : methM.isStatic = true := Cond.static_spec hnamed hmethM hstat
  obtain ⟨kP, hkP, -⟩ := className_of_methodNamed hnamed
  have hinitP : kP.init = .initialized := Cond.initialized_spec (findClass_of_methodNamed hnamed) hkP hinit
  obtain ⟨vm₁, X₁, hstep₁⟩ := X.invokestatic hexec hown hlink hnamed hmethM hstatic hkP hinitP hy (g := g) hg (argsL := argsL) (rest := rest) (hlen _ hsigM) hstack hdg
  rcases hK m meth c ⟨T.setVm vm₁, locs, cells, slots⟩ { g with stack := rest } (.invokestatic index) mk argsL.toArray X₁ hg hsize hdg hW (X₁.named hnamed) (hpre vm₁ X₁.warmed) with ⟨v, B, X', hpost, hsteps⟩ | ⟨q, B, X', hpost, hsteps⟩
  · exact Or.inl ⟨v, vm₁, B, X₁.warmed, X', hpost, fun target h => hstep₁ _ fun acts => by rw [doInvoke_state]; exact hsteps.trans h⟩
  · exact Or.inr ⟨q, vm₁, B, X₁.warmed, X', hpost, hstep₁ _ fun acts => by rw [doInvoke_state]; exact hsteps⟩
theorem vx_callVW (X : Stand p l e R s m args below meth c T locs cells slots) (hexec : p.tables.exec = Jvm.exec) {own C : String} {index : Nat} {y : MethodName} {bytes : ByteArray} {maxL : Nat} {ret : Option FieldType} {hh : List (Nat × Nat × Nat × Nat)}
    (hown : s.vm.findClass own = some m.cls) (hlink : (Cond.methodLink own index y).before args s = true) (hinst : (Cond.instanceMethod y).before args s = true) (hsel : (Cond.selects C y y).before args s = true)
    (hcode : (Cond.codeWith y bytes maxL ret hh).before args s = true) (hy : y.cls ≠ "java/lang/invoke/MethodHandle" ∧ y.cls ≠ "java/lang/invoke/VarHandle")
    {W9 : Nat} {Pre : Pt → Array Value → Prop} {Post : Pt → Array Value → Option Value → Pt → Prop} (hK : Back l R p e below s args y 3 W9 Pre Post)
    {b : Addr} {cellB : Cell} (hcell : T.heap[b]? = some cellB) (hobj : cellB.vm.isStatics = false) (hcls : s.vm.findClass C = some cellB.cls)
    {g : JFrame} (hg : g.method = m) (hsize : g.locals.size = c.maxLocals) {argsL rest : List Value} (hlen : ∀ sig, parseMethodDescriptor y.desc = some sig → argsL.length = sig.parameters.length)
    (hstack : g.stack = argsL.reverse ++ .ref b :: rest) (hW : 2 * g.monitorRoom + (rest.map fun v => v.category).sum ≤ W9) (hdg : decode c.code g.pc = .ok (.invokevirtual index, 3))
    (hpre : ∀ vm₁, s.WarmedH vm₁ → Pre ⟨T.setVm vm₁, locs, cells, slots⟩ (Value.ref b :: argsL).toArray) :
    ∃ (v : Option Value) (vm₁ : Vm) (B : Pt), s.WarmedH vm₁ ∧ Stand p l e R s m args below meth c B.U B.locs B.cells B.slots ∧ Post ⟨T.setVm vm₁, locs, cells, slots⟩ (Value.ref b :: argsL).toArray v B ∧
      ∀ target, Steps p.tables e below (B.U.setTop { g with pc := g.pc + 3, stack := v.toList ++ rest }) target → Steps p.tables e below (T.setTop g) target := by
  obtain ⟨mk, methM, hnamed, hmethM, hstM, habM⟩ := Cond.instanceMethod_spec hinst
  obtain ⟨m8, methM', cM, hn8, hmethM', -, -, -, -, -, -, hsigM⟩ := Cond.codeWith_spec hcode
  cases Option.some.inj (hn8.symm.trans hnamed)
  cases hmethM.symm.trans hmethM'
  obtain ⟨c2, r2, m2, q1, q2, q3, q4, kP, hkP, hkPi⟩ := Cond.selects_spec hsel
  cases hcls.symm.trans q1
  cases (State.methodFound?_of_named hnamed hy).symm.trans q2
  cases hnamed.symm.trans q3
  have hselP : selectMethod e.platform s.vm cellB.cls mk = .method mk := by rw [Launch.admits_selectMethod X.admits]; exact q4
  obtain ⟨vm₁, X₁, hstep₁⟩ := X.invokevirtual hexec hown hlink hnamed hmethM hstM hkP hkPi hy (a := b) (cell := cellB) hcell
    (fun z h => by rw [h] at hobj; cases hobj) hselP hmethM habM hkP hkPi (g := g) hg (argsL := argsL) (rest := rest) (hlen _ hsigM) hstack hdg
  obtain ⟨v, B, X', hpost, hsteps⟩ := hK m meth c ⟨T.setVm vm₁, locs, cells, slots⟩ { g with stack := rest } (.invokevirtual index) mk (Value.ref b :: argsL).toArray X₁ hg hsize hdg hW (X₁.named hnamed) (hpre vm₁ X₁.warmed)
  exact ⟨v, vm₁, B, X₁.warmed, X', hpost, fun target h => hstep₁ _ fun acts => by rw [doInvoke_state]; exact hsteps.trans h⟩
abbrev vx_CVW (R : Room) (s : State) (args : Array Value) (own C : String) (index : Nat) (y : MethodName) (bytes : ByteArray) (maxL : Nat) (ret : Option FieldType) (hh : List (Nat × Nat × Nat × Nat)) (ws : List Cond) (rm : Room) (mc ms n : Nat) : Prop :=
  (rm.cells = mc ∧ rm.slots = ms ∧ rm.frames + 1 ≤ R.frames ∧ 8 + (maxL + 11) + rm.locals ≤ R.locals ∧ (∀ w ∈ ws, ∀ (a' : Array Value) (U : State), s.WarmedH U.vm → w.before a' U = true) ∧ Cond.codeWith y bytes maxL ret hh ∈ ws) ∧
  (Cond.codeWith y bytes maxL ret hh).before args s = true ∧ (Cond.initialized y.cls).before args s = true ∧ (y.cls ≠ "java/lang/invoke/MethodHandle" ∧ y.cls ≠ "java/lang/invoke/VarHandle") ∧
  (∀ sig, parseMethodDescriptor y.desc = some sig → n = sig.parameters.length) ∧ (Cond.methodLink own index y).before args s = true ∧ (Cond.instanceMethod y).before args s = true ∧ (Cond.selects C y y).before args s = true
theorem vx_cwVW {own C : String} {index maxL mc ms : Nat} {y : MethodName} {bytes : ByteArray} {ret : Option FieldType} {hh : List (Nat × Nat × Nat × Nat)} {Ts ws ws' : List Cond} {rm : Room} (n : Nat) (ht : ∀ w ∈ Ts, w.before args s = true) (hT : GoodIn Ts (wsV own index C y ws)) (hw : ws = Cond.codeWith y bytes maxL ret hh :: ws') (hrc : rm.cells = mc) (hrs : rm.slots = ms)
    (hd : y.cls = C ∧ y.cls ≠ "java/lang/invoke/MethodHandle" ∧ y.cls ≠ "java/lang/invoke/VarHandle" ∧ (parseMethodDescriptor y.desc).map (fun d => d.parameters.length) = some n) (hR : rm.frames + 1 ≤ R.frames ∧ 8 + (maxL + 11) + rm.locals ≤ R.locals) :
    vx_CVW R s args own C index y bytes maxL ret hh ws rm mc ms n := by
  obtain ⟨hC, hd⟩ := hd
  subst hC
  have ok : ∀ w ∈ wsV own index y.cls y ws, w.before args s = true := fun w h => ht w (hT w h).1
  have hG : GoodIn Ts ws := fun w h => hT w (by unfold wsV; exact List.mem_append_right _ h)
  have hc : Cond.codeWith y bytes maxL ret hh ∈ ws := by rw [hw]; exact List.mem_cons_self
  refine ⟨⟨hrc, hrs, hR.1, hR.2, pay_in ht hG, hc⟩, ht _ (hG _ hc).1, ok _ (by simp [wsV]), ⟨hd.1, hd.2.1⟩, fun sig h => ?_, ok _ (by simp [wsV]), ok _ (by simp [wsV]), ok _ (by simp [wsV])⟩
  have h2 := hd.2.2
  rw [h] at h2
  exact (Option.some.inj h2).symm
theorem vx_runVW {y : MethodName} {bytes cc : ByteArray} {maxL nL mc ms n index : Nat} {ret : Option FieldType} {hh : List (Nat × Nat × Nat × Nat)} {ws : List Cond} {rm : Room} {Pc : Array Value → State → Prop} {Qc : Array Value → State → Outcome → State → Prop} {free : Addr → Prop} {Ts : List Cond} {own C : String} {b : Addr} {As rest : List Value} {g : JFrame}
    (S : CallFix p m c cc nL s args Ts own) (hM : Met l y ws rm Pc Qc mc ms free) (cw : vx_CVW R s args own C index y bytes maxL ret hh ws rm mc ms n) (hp : PreV s H C b Pc As)
    (hg : g.method = m) (hn : As.length = n) (hsize : g.locals.size = nL) (hstack : g.stack = As.reverse ++ .ref b :: rest) (hW : 2 * g.monitorRoom + (rest.map fun v => v.category).sum ≤ 8) (hdg : decode cc g.pc = .ok (.invokevirtual index, 3)) (hf : cells + mc ≤ R.cells ∧ slots + ms ≤ R.slots) :
    va_Run p l e R s m args below meth c H locs cells slots mc ms g rest (Qc (Value.ref b :: As).toArray) free := by
  obtain ⟨⟨hrc, hrs, hfr, hlo, hws, hcw⟩, hcode, hini, hy, hlen, hl, hin, hse⟩ := cw
  have hK : Back l R p e below s args y 3 8 (PreOf R mc ms Pc) (PostOf Qc mc ms free) := va_backW (hh := hh) (bytes := bytes) (maxL := maxL) (ret := ret) hM hp.1 hrc hrs hfr hlo hws hcw (fun a' U hW => word_at hW (Or.inl (by first | rfl | simp [Cond.onTables, Cond.keeps, Cond.steady])) hini)
  obtain ⟨hx, hb, hml, ho, -⟩ := S
  obtain ⟨-, ⟨cellB, hcB, hoB, hclB⟩, hPc⟩ := hp
  intro T hT X
  obtain ⟨v, vm₁, ⟨U', l2, c2, s2⟩, hW₁, X', ⟨g', mk, t, L, e1, e2, hq, h1, hL, h2, h3⟩, st⟩ := vx_callVW X hx (C := C) (hh := hh) (bytes := bytes) (maxL := maxL) (ret := ret) ho hl hin hse hcode hy hK (by rw [hT]; exact hcB) hoB hclB hg (hsize.trans hml.symm) (argsL := As) (rest := rest) (fun sig h => hn.trans (hlen sig h)) hstack hW (by rw [hb]; exact hdg)
    (fun vm₁ hW₁ => ⟨hf.1, hf.2, hPc (T.setVm vm₁) hT hW₁⟩)
  dsimp only [Pt.U, Pt.locs, Pt.cells, Pt.slots] at X' e1 e2 h1 h2 h3 st
  subst h1; subst h2; subst h3
  exact ⟨v, (T.setVm vm₁).calling g' mk (Value.ref b :: As).toArray, t, U', L, hT, X', hL, e1, e2, hq, st⟩
section
variable {y : MethodName} {bytes cc : ByteArray} {maxL nL mc ms n index : Nat} {ret : Option FieldType} {ws : List Cond} {rm : Room} {Pc : Array Value → State → Prop} {Qc : Array Value → State → Outcome → State → Prop} {XC : String → State → State → Prop} {free : Addr → Prop} {Ts : List Cond} {own C : String} {b : Addr} {As rest : List Value} {g : JFrame}
theorem vx_runVX {hh : List (Nat × Nat × Nat × Nat)} (S : CallFix p m c cc nL s args Ts own) (hM : vx_Met l y ws rm Pc Qc XC mc ms free) (cw : vx_CVW R s args own C index y bytes maxL ret hh ws rm mc ms n) (hp : PreV s H C b Pc As)
    (hg : g.method = m) (hn : As.length = n) (hsize : g.locals.size = nL) (hstack : g.stack = As.reverse ++ .ref b :: rest) (hW : 2 * g.monitorRoom + (rest.map fun v => v.category).sum ≤ 8) (hdg : decode cc g.pc = .ok (.invokevirtual index, 3)) (hf : cells + mc ≤ R.cells ∧ slots + ms ≤ R.slots) :
    vx_Run p l e R s m args below meth c H locs cells slots mc ms g rest (Qc (Value.ref b :: As).toArray) XC free := by
  obtain ⟨⟨hrc, hrs, hfr, hlo, hws, hcw⟩, hcode, hini, hy, hlen, hl, hin, hse⟩ := cw
  have hK : vx_Back l R p e below s args y 3 8 (PreOf R mc ms Pc) (PostOf Qc mc ms free) (vx_Post XC mc ms free) := vx_backW (hh := hh) (bytes := bytes) (maxL := maxL) (ret := ret) hM hp.1 hrc hrs hfr hlo hws hcw (fun a' U hW => word_at hW (Or.inl (by first | rfl | simp [Cond.onTables, Cond.keeps, Cond.steady])) hini)
  obtain ⟨hx, hb, hml, ho, -⟩ := S
  obtain ⟨-, ⟨cellB, hcB, hoB, hclB⟩, hPc⟩ := hp
  intro T hT X
  rcases vx_callVX X hx (C := C) (hh := hh) (bytes := bytes) (maxL := maxL) (ret := ret) ho hl hin hse hcode hy hK (by rw [hT]; exact hcB) hoB hclB hg (hsize.trans hml.symm) (argsL := As) (rest := rest) (fun sig h => hn.trans (hlen sig h)) hstack hW (by rw [hb]; exact hdg)
    (fun vm₁ hW₁ => ⟨hf.1, hf.2, hPc (T.setVm vm₁) hT hW₁⟩) with ⟨v, vm₁, ⟨U', l2, c2, s2⟩, hW₁, X', ⟨g', mk, t, L, e1, e2, hq, h1, hL, h2, h3⟩, st⟩ | ⟨q, vm₁, ⟨U', l2, c2, s2⟩, hW₁, X', ⟨g', mk, t, L, E, ce, e1, e2, hq, hce, hcv, hcl, h1, hL, h2, h3⟩, st⟩
  · dsimp only [Pt.U, Pt.locs, Pt.cells, Pt.slots] at X' e1 e2 h1 h2 h3 st
    subst h1; subst h2; subst h3
    exact Or.inl ⟨v, (T.setVm vm₁).calling g' mk (Value.ref b :: As).toArray, t, U', L, hT, X', hL, e1, e2, hq, st⟩
  · dsimp only [Pt.U, Pt.locs, Pt.cells, Pt.slots] at X' e1 e2 h1 h2 h3 st hcl
    subst h1; subst h2; subst h3
    exact Or.inr ⟨q, (T.setVm vm₁).calling g' mk (Value.ref b :: As).toArray, t, U', L, E, ce, hT, X', hL, e1, e2, hq, hce, hcv, vx_cls hW₁ hcl, st⟩
theorem vx_runSX {hh : List (Nat × Nat × Nat × Nat)} (S : CallFix p m c cc nL s args Ts own) (hM : vx_Met l y ws rm Pc Qc XC mc ms free) (cw : vx_CSW R s args own index y bytes maxL ret hh ws rm mc ms n) (hp : PreS s H Pc As)
    (hg : g.method = m) (hn : As.length = n) (hsize : g.locals.size = nL) (hstack : g.stack = As.reverse ++ rest) (hW : 2 * g.monitorRoom + (rest.map fun v => v.category).sum ≤ 8) (hdg : decode cc g.pc = .ok (.invokestatic index, 3)) (hf : cells + mc ≤ R.cells ∧ slots + ms ≤ R.slots) :
    vx_Run p l e R s m args below meth c H locs cells slots mc ms g rest (Qc As.toArray) XC free := by
  obtain ⟨⟨hrc, hrs, hfr, hlo, hws, hcw⟩, hcode, hini, hy, hlen, hl, hstt⟩ := cw
  have hK : vx_Back l R p e below s args y 3 8 (PreOf R mc ms Pc) (PostOf Qc mc ms free) (vx_Post XC mc ms free) := vx_backW (hh := hh) (bytes := bytes) (maxL := maxL) (ret := ret) hM hp.1 hrc hrs hfr hlo hws hcw (fun a' U hW => word_at hW (Or.inl (by first | rfl | simp [Cond.onTables, Cond.keeps, Cond.steady])) hini)
  obtain ⟨hx, hb, hml, ho, -⟩ := S
  intro T hT X
  rcases vx_callSX X hx (hh := hh) (bytes := bytes) (maxL := maxL) (ret := ret) ho hl hstt hini hcode hy hK hg (hsize.trans hml.symm) (argsL := As) (rest := rest) (fun sig h => hn.trans (hlen sig h)) hstack hW (by rw [hb]; exact hdg)
    (fun vm₁ hW₁ => ⟨hf.1, hf.2, hp.2 (T.setVm vm₁) hT hW₁⟩) with ⟨v, vm₁, ⟨U', l2, c2, s2⟩, hW₁, X', ⟨g', mk, t, L, e1, e2, hq, h1, hL, h2, h3⟩, st⟩ | ⟨q, vm₁, ⟨U', l2, c2, s2⟩, hW₁, X', ⟨g', mk, t, L, E, ce, e1, e2, hq, hce, hcv, hcl, h1, hL, h2, h3⟩, st⟩
  · dsimp only [Pt.U, Pt.locs, Pt.cells, Pt.slots] at X' e1 e2 h1 h2 h3 st
    subst h1; subst h2; subst h3
    exact Or.inl ⟨v, (T.setVm vm₁).calling g' mk As.toArray, t, U', L, hT, X', hL, e1, e2, hq, st⟩
  · dsimp only [Pt.U, Pt.locs, Pt.cells, Pt.slots] at X' e1 e2 h1 h2 h3 st hcl
    subst h1; subst h2; subst h3
    exact Or.inr ⟨q, (T.setVm vm₁).calling g' mk As.toArray, t, U', L, E, ce, hT, X', hL, e1, e2, hq, hce, hcv, vx_cls hW₁ hcl, st⟩
end
end VXH
theorem vx_ofWH {l : Launch} {y : MethodName} {ws ws' : List Cond} {rm : Room} {Pc : Array Value → State → Prop} {Qc : Array Value → State → Outcome → State → Prop} {XC : String → State → State → Prop} {mc ms : Nat} {free : Addr → Prop} {cc : ByteArray} {maxL : Nat} {ret : Option FieldType} {hh : List (Nat × Nat × Nat × Nat)}
    (hy : plainName y.cls = true) (hw : ws = Cond.codeWith y cc maxL ret hh :: ws')
    (body : ∀ p e s m args below meth c s₁, BodyLoose p l y (headSpec ws rm) cc maxL ret e s m args below meth c s₁ → c.maxLocals = maxL → Pc args s →
      W p l e (headSpec ws rm).room s m args below meth c s.heap [] 0 0 (vx_MQ below Qc XC args s mc ms free) (entryFrame m args maxL)) : vx_Met l y ws rm Pc Qc XC mc ms free := by
  refine MetFree.of_bodyS (code := cc) (maxLocals := maxL) (ret := ret) hy ?_ ?_
  · intro args s m h hn
    obtain ⟨m9, meth, c, hn9, h1, h2, h3, h4, -, h5, h6, -⟩ := Cond.codeWith_spec (atoms_spec (ws := ws) h _ (by rw [hw]; exact List.mem_cons_self))
    cases hn.symm.trans hn9
    exact ⟨meth, c, h1, h2, h3, h4, h5, h6⟩
  · intro p e s m args below meth c s₁ B hml hP _
    have hh0 : s₁.heap = s.heap := by rw [B.state]; rfl
    obtain ⟨t, a1, o, b1, b2, b3⟩ := body p e s m args below meth c s₁ B hml hP s₁ hh0 (Stand.of_body B)
    exact ⟨t, o, a1, b1, b2, b3⟩
/-! ===== END ===== -/
end
section
def RX0 : String := "Multidell$CopyQueue"
def TX0 : u_T := fun k => match k with
  | 0 => ("Multidell$CopyQueue", "packet", "[I", true)
  | 1 => ("Multidell$CopyQueue", "tree", "[I", true)
  | 2 => ("Multidell$CopyQueue", "from", "[I", true)
  | 3 => ("Multidell$CopyQueue", "to", "[I", true)
  | 4 => ("Multidell$CopyQueue", "first", "I", false)
  | _ => ("Multidell$CopyQueue", "size", "I", false)
def tyX0 : Nat → FieldType := fun k => match k with
  | 0 => .array .int
  | 1 => .array .int
  | 2 => .array .int
  | 3 => .array .int
  | 4 => .int
  | _ => .int
abbrev wsX00 : List Cond := u_ws RX0 TX0 6
theorem nmX0 : ∀ a, a < 6 → ∀ b, b < 6 → a ≠ b → (TX0 a).2.1 ≠ (TX0 b).2.1 := by decide +kernel
theorem tyX0_ok : ∀ k, k < 6 → parseFieldDescriptor (TX0 k).2.2.1 = some (tyX0 k) := by decide +kernel
abbrev cX0_init : ByteArray := prog_2_method_1_code
def yX0_init : MethodName := ⟨RX0, "<init>", "()V"⟩
abbrev cX0_isEmpty : ByteArray := prog_2_method_2_code
def yX0_isEmpty : MethodName := ⟨RX0, "isEmpty", "()Z"⟩
abbrev cX0_count : ByteArray := prog_2_method_3_code
def yX0_count : MethodName := ⟨RX0, "count", "()I"⟩
abbrev cX0_put : ByteArray := prog_2_method_4_code
def yX0_put : MethodName := ⟨RX0, "put", "(IIII)Z"⟩
abbrev cX0_removeFirst : ByteArray := prog_2_method_5_code
def yX0_removeFirst : MethodName := ⟨RX0, "removeFirst", "()V"⟩
abbrev cX0_firstPacket : ByteArray := prog_2_method_6_code
def yX0_firstPacket : MethodName := ⟨RX0, "firstPacket", "()I"⟩
abbrev cX0_firstTree : ByteArray := prog_2_method_7_code
def yX0_firstTree : MethodName := ⟨RX0, "firstTree", "()I"⟩
abbrev cX0_firstFrom : ByteArray := prog_2_method_8_code
def yX0_firstFrom : MethodName := ⟨RX0, "firstFrom", "()I"⟩
abbrev cX0_firstTo : ByteArray := prog_2_method_9_code
def yX0_firstTo : MethodName := ⟨RX0, "firstTo", "()I"⟩
abbrev cX0_firstIn : ByteArray := prog_2_method_10_code
def yX0_firstIn : MethodName := ⟨RX0, "firstIn", "([I)I"⟩
def RX1 : String := "Multidell$Counts"
def TX1 : u_T := fun k => match k with
  | _ => ("Multidell$Counts", "count", "[I", true)
def tyX1 : Nat → FieldType := fun k => match k with
  | _ => .array .int
abbrev wsX10 : List Cond := u_ws RX1 TX1 1
theorem nmX1 : ∀ a, a < 1 → ∀ b, b < 1 → a ≠ b → (TX1 a).2.1 ≠ (TX1 b).2.1 := by decide +kernel
theorem tyX1_ok : ∀ k, k < 1 → parseFieldDescriptor (TX1 k).2.2.1 = some (tyX1 k) := by decide +kernel
abbrev cX1_init : ByteArray := prog_3_method_1_code
def yX1_init : MethodName := ⟨RX1, "<init>", "()V"⟩
abbrev cX1_raise : ByteArray := prog_3_method_2_code
def yX1_raise : MethodName := ⟨RX1, "raise", "(III)I"⟩
abbrev cX1_forget : ByteArray := prog_3_method_3_code
def yX1_forget : MethodName := ⟨RX1, "forget", "(III)V"⟩
abbrev cX1_forgetAll : ByteArray := prog_3_method_4_code
def yX1_forgetAll : MethodName := ⟨RX1, "forgetAll", "()V"⟩
abbrev cX1_isPlace : ByteArray := prog_3_method_5_code
def yX1_isPlace : MethodName := ⟨RX1, "isPlace", "(III)Z"⟩
abbrev cX1_placeOf : ByteArray := prog_3_method_6_code
def yX1_placeOf : MethodName := ⟨RX1, "placeOf", "(III)I"⟩
def RX2 : String := "Multidell$Forest"
def TX2 : u_T := fun k => match k with
  | 0 => ("Multidell$Forest", "root", "[I", true)
  | 1 => ("Multidell$Forest", "wanting", "[I", true)
  | 2 => ("Multidell$Forest", "comesFrom", "[I", true)
  | _ => ("Multidell$Forest", "goesAt", "[I", true)
def tyX2 : Nat → FieldType := fun k => match k with
  | 0 => .array .int
  | 1 => .array .int
  | 2 => .array .int
  | _ => .array .int
abbrev wsX20 : List Cond := u_ws RX2 TX2 4
theorem nmX2 : ∀ a, a < 4 → ∀ b, b < 4 → a ≠ b → (TX2 a).2.1 ≠ (TX2 b).2.1 := by decide +kernel
theorem tyX2_ok : ∀ k, k < 4 → parseFieldDescriptor (TX2 k).2.2.1 = some (tyX2 k) := by decide +kernel
abbrev cX2_init : ByteArray := prog_4_method_1_code
def yX2_init : MethodName := ⟨RX2, "<init>", "()V"⟩
abbrev cX2_setRoot : ByteArray := prog_4_method_2_code
def yX2_setRoot : MethodName := ⟨RX2, "setRoot", "(II)V"⟩
abbrev cX2_rootOf : ByteArray := prog_4_method_3_code
def yX2_rootOf : MethodName := ⟨RX2, "rootOf", "(I)I"⟩
abbrev cX2_wantingOf : ByteArray := prog_4_method_4_code
def yX2_wantingOf : MethodName := ⟨RX2, "wantingOf", "(I)I"⟩
abbrev cX2_want : ByteArray := prog_4_method_5_code
def yX2_want : MethodName := ⟨RX2, "want", "(IILMultidell$Routes;)V"⟩
abbrev cX2_unwant : ByteArray := prog_4_method_6_code
def yX2_unwant : MethodName := ⟨RX2, "unwant", "(III)V"⟩
abbrev cX2_branchesFrom : ByteArray := prog_4_method_7_code
def yX2_branchesFrom : MethodName := ⟨RX2, "branchesFrom", "(II)I"⟩
abbrev cX2_leavingBranches : ByteArray := prog_4_method_8_code
def yX2_leavingBranches : MethodName := ⟨RX2, "leavingBranches", "()I"⟩
abbrev cX2_buildAnew : ByteArray := prog_4_method_9_code
def yX2_buildAnew : MethodName := ⟨RX2, "buildAnew", "(LMultidell$Routes;)V"⟩
abbrev cX2_removeDue : ByteArray := prog_4_method_10_code
def yX2_removeDue : MethodName := ⟨RX2, "removeDue", "(I)I"⟩
abbrev cX2_isDue : ByteArray := prog_4_method_11_code
def yX2_isDue : MethodName := ⟨RX2, "isDue", "(III)Z"⟩
abbrev cX2_remove : ByteArray := prog_4_method_12_code
def yX2_remove : MethodName := ⟨RX2, "remove", "(III)V"⟩
abbrev cX2_parentOf : ByteArray := prog_4_method_13_code
def yX2_parentOf : MethodName := ⟨RX2, "parentOf", "(II)I"⟩
abbrev cX2_graft : ByteArray := prog_4_method_14_code
def yX2_graft : MethodName := ⟨RX2, "graft", "(IILMultidell$Routes;)V"⟩
abbrev cX2_letLeave : ByteArray := prog_4_method_15_code
def yX2_letLeave : MethodName := ⟨RX2, "letLeave", "(III)V"⟩
abbrev cX2_isNeeded : ByteArray := prog_4_method_16_code
def yX2_isNeeded : MethodName := ⟨RX2, "isNeeded", "(II)Z"⟩
def RX3 : String := "Multidell$Packets"
def TX3 : u_T := fun k => match k with
  | 0 => ("Multidell$Packets", "source", "[I", true)
  | 1 => ("Multidell$Packets", "group", "[I", true)
  | 2 => ("Multidell$Packets", "receivers", "[I", true)
  | 3 => ("Multidell$Packets", "doubleCount", "[I", true)
  | _ => ("Multidell$Packets", "sent", "I", false)
def tyX3 : Nat → FieldType := fun k => match k with
  | 0 => .array .int
  | 1 => .array .int
  | 2 => .array .int
  | 3 => .array .int
  | _ => .int
abbrev wsX30 : List Cond := u_ws RX3 TX3 5
theorem nmX3 : ∀ a, a < 5 → ∀ b, b < 5 → a ≠ b → (TX3 a).2.1 ≠ (TX3 b).2.1 := by decide +kernel
theorem tyX3_ok : ∀ k, k < 5 → parseFieldDescriptor (TX3 k).2.2.1 = some (tyX3 k) := by decide +kernel
abbrev cX3_init : ByteArray := prog_5_method_1_code
def yX3_init : MethodName := ⟨RX3, "<init>", "()V"⟩
abbrev cX3_isFull : ByteArray := prog_5_method_2_code
def yX3_isFull : MethodName := ⟨RX3, "isFull", "()Z"⟩
abbrev cX3_isPacket : ByteArray := prog_5_method_3_code
def yX3_isPacket : MethodName := ⟨RX3, "isPacket", "(I)Z"⟩
abbrev cX3_add : ByteArray := prog_5_method_4_code
def yX3_add : MethodName := ⟨RX3, "add", "(II)I"⟩
abbrev cX3_receive : ByteArray := prog_5_method_5_code
def yX3_receive : MethodName := ⟨RX3, "receive", "(II)V"⟩
abbrev cX3_addDouble : ByteArray := prog_5_method_6_code
def yX3_addDouble : MethodName := ⟨RX3, "addDouble", "(I)V"⟩
abbrev cX3_sourceOf : ByteArray := prog_5_method_7_code
def yX3_sourceOf : MethodName := ⟨RX3, "sourceOf", "(I)I"⟩
abbrev cX3_groupOf : ByteArray := prog_5_method_8_code
def yX3_groupOf : MethodName := ⟨RX3, "groupOf", "(I)I"⟩
abbrev cX3_receiversOf : ByteArray := prog_5_method_9_code
def yX3_receiversOf : MethodName := ⟨RX3, "receiversOf", "(I)I"⟩
abbrev cX3_doublesOf : ByteArray := prog_5_method_10_code
def yX3_doublesOf : MethodName := ⟨RX3, "doublesOf", "(I)I"⟩
def RX4 : String := "Multidell$Routes"
def TX4 : u_T := fun k => match k with
  | 0 => ("Multidell$Routes", "cost", "[I", true)
  | 1 => ("Multidell$Routes", "least", "[I", true)
  | _ => ("Multidell$Routes", "hop", "[I", true)
def tyX4 : Nat → FieldType := fun k => match k with
  | 0 => .array .int
  | 1 => .array .int
  | _ => .array .int
abbrev wsX40 : List Cond := u_ws RX4 TX4 3
theorem nmX4 : ∀ a, a < 3 → ∀ b, b < 3 → a ≠ b → (TX4 a).2.1 ≠ (TX4 b).2.1 := by decide +kernel
theorem tyX4_ok : ∀ k, k < 3 → parseFieldDescriptor (TX4 k).2.2.1 = some (tyX4 k) := by decide +kernel
abbrev cX4_init : ByteArray := prog_6_method_1_code
def yX4_init : MethodName := ⟨RX4, "<init>", "()V"⟩
abbrev cX4_change : ByteArray := prog_6_method_2_code
def yX4_change : MethodName := ⟨RX4, "change", "(III)V"⟩
abbrev cX4_costOf : ByteArray := prog_6_method_3_code
def yX4_costOf : MethodName := ⟨RX4, "costOf", "(II)I"⟩
abbrev cX4_distanceOf : ByteArray := prog_6_method_4_code
def yX4_distanceOf : MethodName := ⟨RX4, "distanceOf", "(II)I"⟩
abbrev cX4_hopOf : ByteArray := prog_6_method_5_code
def yX4_hopOf : MethodName := ⟨RX4, "hopOf", "(II)I"⟩
abbrev cX4_linksOf : ByteArray := prog_6_method_6_code
def yX4_linksOf : MethodName := ⟨RX4, "linksOf", "(I)I"⟩
abbrev cX4_arePair : ByteArray := prog_6_method_7_code
def yX4_arePair : MethodName := ⟨RX4, "arePair", "(II)Z"⟩
abbrev cX4_findLeast : ByteArray := prog_6_method_8_code
def yX4_findLeast : MethodName := ⟨RX4, "findLeast", "()V"⟩
abbrev cX4_shortenThrough : ByteArray := prog_6_method_9_code
def yX4_shortenThrough : MethodName := ⟨RX4, "shortenThrough", "(I)V"⟩
abbrev cX4_findHops : ByteArray := prog_6_method_10_code
def yX4_findHops : MethodName := ⟨RX4, "findHops", "()V"⟩
abbrev cX4_firstHop : ByteArray := prog_6_method_11_code
def yX4_firstHop : MethodName := ⟨RX4, "firstHop", "(II)I"⟩
def RX5 : String := "Multidell"
def TX5 : u_T := fun k => match k with
  | 0 => ("Multidell", "routes", "LMultidell$Routes;", true)
  | 1 => ("Multidell", "forest", "LMultidell$Forest;", true)
  | 2 => ("Multidell", "packets", "LMultidell$Packets;", true)
  | 3 => ("Multidell", "queue", "LMultidell$CopyQueue;", true)
  | 4 => ("Multidell", "counts", "LMultidell$Counts;", true)
  | 5 => ("Multidell", "candidates", "I", false)
  | 6 => ("Multidell", "limit", "I", false)
  | 7 => ("Multidell", "now", "I", false)
  | _ => ("Multidell", "wastedCopies", "I", false)
def tyX5 : Nat → FieldType := fun k => match k with
  | 0 => .object "Multidell$Routes"
  | 1 => .object "Multidell$Forest"
  | 2 => .object "Multidell$Packets"
  | 3 => .object "Multidell$CopyQueue"
  | 4 => .object "Multidell$Counts"
  | 5 => .int
  | 6 => .int
  | 7 => .int
  | _ => .int
abbrev wsX50 : List Cond := u_ws RX5 TX5 9
theorem nmX5 : ∀ a, a < 9 → ∀ b, b < 9 → a ≠ b → (TX5 a).2.1 ≠ (TX5 b).2.1 := by decide +kernel
theorem tyX5_ok : ∀ k, k < 9 → parseFieldDescriptor (TX5 k).2.2.1 = some (tyX5 k) := by decide +kernel
abbrev cX5_init : ByteArray := prog_1_method_1_code
def yX5_init : MethodName := ⟨RX5, "<init>", "()V"⟩
abbrev cX5_setLink : ByteArray := prog_1_method_2_code
def yX5_setLink : MethodName := ⟨RX5, "setLink", "(III)I"⟩
abbrev cX5_setCandidate : ByteArray := prog_1_method_3_code
def yX5_setCandidate : MethodName := ⟨RX5, "setCandidate", "(IZ)Z"⟩
abbrev cX5_setLimit : ByteArray := prog_1_method_4_code
def yX5_setLimit : MethodName := ⟨RX5, "setLimit", "(I)I"⟩
abbrev cX5_distance : ByteArray := prog_1_method_5_code
def yX5_distance : MethodName := ⟨RX5, "distance", "(II)I"⟩
abbrev cX5_nextHop : ByteArray := prog_1_method_6_code
def yX5_nextHop : MethodName := ⟨RX5, "nextHop", "(II)I"⟩
abbrev cX5_rendezvous : ByteArray := prog_1_method_7_code
def yX5_rendezvous : MethodName := ⟨RX5, "rendezvous", "(I)I"⟩
abbrev cX5_join : ByteArray := prog_1_method_8_code
def yX5_join : MethodName := ⟨RX5, "join", "(II)I"⟩
abbrev cX5_leave : ByteArray := prog_1_method_9_code
def yX5_leave : MethodName := ⟨RX5, "leave", "(II)I"⟩
abbrev cX5_members : ByteArray := prog_1_method_10_code
def yX5_members : MethodName := ⟨RX5, "members", "(I)I"⟩
abbrev cX5_switched : ByteArray := prog_1_method_11_code
def yX5_switched : MethodName := ⟨RX5, "switched", "(II)I"⟩
abbrev cX5_branches : ByteArray := prog_1_method_12_code
def yX5_branches : MethodName := ⟨RX5, "branches", "(II)I"⟩
abbrev cX5_sourceBranches : ByteArray := prog_1_method_13_code
def yX5_sourceBranches : MethodName := ⟨RX5, "sourceBranches", "(III)I"⟩
abbrev cX5_leaving : ByteArray := prog_1_method_14_code
def yX5_leaving : MethodName := ⟨RX5, "leaving", "()I"⟩
abbrev cX5_send : ByteArray := prog_1_method_15_code
def yX5_send : MethodName := ⟨RX5, "send", "(II)I"⟩
abbrev cX5_follow : ByteArray := prog_1_method_16_code
def yX5_follow : MethodName := ⟨RX5, "follow", "()I"⟩
abbrev cX5_followAll : ByteArray := prog_1_method_17_code
def yX5_followAll : MethodName := ⟨RX5, "followAll", "()I"⟩
abbrev cX5_queued : ByteArray := prog_1_method_18_code
def yX5_queued : MethodName := ⟨RX5, "queued", "()I"⟩
abbrev cX5_nextTo : ByteArray := prog_1_method_19_code
def yX5_nextTo : MethodName := ⟨RX5, "nextTo", "()I"⟩
abbrev cX5_received : ByteArray := prog_1_method_20_code
def yX5_received : MethodName := ⟨RX5, "received", "(I)I"⟩
abbrev cX5_doubles : ByteArray := prog_1_method_21_code
def yX5_doubles : MethodName := ⟨RX5, "doubles", "(I)I"⟩
abbrev cX5_wasted : ByteArray := prog_1_method_22_code
def yX5_wasted : MethodName := ⟨RX5, "wasted", "()I"⟩
abbrev cX5_pass : ByteArray := prog_1_method_23_code
def yX5_pass : MethodName := ⟨RX5, "pass", "(I)I"⟩
abbrev cX5_clock : ByteArray := prog_1_method_24_code
def yX5_clock : MethodName := ⟨RX5, "clock", "()I"⟩
abbrev cX5_floodMembers : ByteArray := prog_1_method_25_code
def yX5_floodMembers : MethodName := ⟨RX5, "floodMembers", "(II)I"⟩
abbrev cX5_floodCopies : ByteArray := prog_1_method_26_code
def yX5_floodCopies : MethodName := ⟨RX5, "floodCopies", "(I)I"⟩
abbrev cX5_floodedFrom : ByteArray := prog_1_method_27_code
def yX5_floodedFrom : MethodName := ⟨RX5, "floodedFrom", "(I)I"⟩
abbrev cX5_bestCandidate : ByteArray := prog_1_method_28_code
def yX5_bestCandidate : MethodName := ⟨RX5, "bestCandidate", "(I)I"⟩
abbrev cX5_membersOf : ByteArray := prog_1_method_29_code
def yX5_membersOf : MethodName := ⟨RX5, "membersOf", "(I)I"⟩
abbrev cX5_isMember : ByteArray := prog_1_method_30_code
def yX5_isMember : MethodName := ⟨RX5, "isMember", "(II)Z"⟩
abbrev cX5_getPacket : ByteArray := prog_1_method_31_code
def yX5_getPacket : MethodName := ⟨RX5, "getPacket", "(III)Z"⟩
abbrev cX5_countSaysSwitch : ByteArray := prog_1_method_32_code
def yX5_countSaysSwitch : MethodName := ⟨RX5, "countSaysSwitch", "(III)Z"⟩
abbrev cX5_goOn : ByteArray := prog_1_method_33_code
def yX5_goOn : MethodName := ⟨RX5, "goOn", "(III)V"⟩
abbrev cX5_checkPacket : ByteArray := prog_1_method_34_code
def yX5_checkPacket : MethodName := ⟨RX5, "checkPacket", "(I)V"⟩
abbrev cX5_checkRouter : ByteArray := prog_1_method_35_code
def yX5_checkRouter : MethodName := ⟨RX5, "checkRouter", "(I)V"⟩
abbrev cX5_checkGroup : ByteArray := prog_1_method_36_code
def yX5_checkGroup : MethodName := ⟨RX5, "checkGroup", "(I)V"⟩
abbrev cX5_isRouter : ByteArray := prog_1_method_37_code
def yX5_isRouter : MethodName := ⟨RX5, "isRouter", "(I)Z"⟩
abbrev cX5_isGroup : ByteArray := prog_1_method_38_code
def yX5_isGroup : MethodName := ⟨RX5, "isGroup", "(I)Z"⟩
abbrev cX5_isTree : ByteArray := prog_1_method_39_code
def yX5_isTree : MethodName := ⟨RX5, "isTree", "(I)Z"⟩
abbrev cX5_sharedTree : ByteArray := prog_1_method_40_code
def yX5_sharedTree : MethodName := ⟨RX5, "sharedTree", "(I)I"⟩
abbrev cX5_sourceTree : ByteArray := prog_1_method_41_code
def yX5_sourceTree : MethodName := ⟨RX5, "sourceTree", "(II)I"⟩
abbrev cX5_isShared : ByteArray := prog_1_method_42_code
def yX5_isShared : MethodName := ⟨RX5, "isShared", "(I)Z"⟩
abbrev cX5_bit : ByteArray := prog_1_method_43_code
def yX5_bit : MethodName := ⟨RX5, "bit", "(I)I"⟩
abbrev cX5_has : ByteArray := prog_1_method_44_code
def yX5_has : MethodName := ⟨RX5, "has", "(II)Z"⟩
def RX6 : String := "MultidellModel"
def TX6 : u_T := fun k => match k with
  | 0 => ("MultidellModel", "clock", "I", false)
  | 1 => ("MultidellModel", "limit", "I", false)
  | 2 => ("MultidellModel", "cost", "[I", true)
  | 3 => ("MultidellModel", "far", "[I", true)
  | 4 => ("MultidellModel", "isCandidate", "[Z", true)
  | 5 => ("MultidellModel", "members", "[I", true)
  | 6 => ("MultidellModel", "switched", "[I", true)
  | 7 => ("MultidellModel", "count", "[I", true)
  | 8 => ("MultidellModel", "above", "[I", true)
  | 9 => ("MultidellModel", "goes", "[I", true)
  | 10 => ("MultidellModel", "queued", "I", false)
  | 11 => ("MultidellModel", "copy", "[I", true)
  | 12 => ("MultidellModel", "packets", "I", false)
  | 13 => ("MultidellModel", "source", "[I", true)
  | 14 => ("MultidellModel", "group", "[I", true)
  | 15 => ("MultidellModel", "received", "[I", true)
  | 16 => ("MultidellModel", "doubles", "[I", true)
  | 17 => ("MultidellModel", "wasted", "I", false)
  | _ => ("MultidellModel", "thrown", "I", false)
def tyX6 : Nat → FieldType := fun k => match k with
  | 0 => .int
  | 1 => .int
  | 2 => .array .int
  | 3 => .array .int
  | 4 => .array .boolean
  | 5 => .array .int
  | 6 => .array .int
  | 7 => .array .int
  | 8 => .array .int
  | 9 => .array .int
  | 10 => .int
  | 11 => .array .int
  | 12 => .int
  | 13 => .array .int
  | 14 => .array .int
  | 15 => .array .int
  | 16 => .array .int
  | 17 => .int
  | _ => .int
abbrev wsX60 : List Cond := u_ws RX6 TX6 19
theorem nmX6 : ∀ a, a < 19 → ∀ b, b < 19 → a ≠ b → (TX6 a).2.1 ≠ (TX6 b).2.1 := by decide +kernel
theorem tyX6_ok : ∀ k, k < 19 → parseFieldDescriptor (TX6 k).2.2.1 = some (tyX6 k) := by decide +kernel
abbrev cX6_init : ByteArray := prog_8_method_1_code
def yX6_init : MethodName := ⟨RX6, "<init>", "()V"⟩
abbrev cX6_thrown : ByteArray := prog_8_method_2_code
def yX6_thrown : MethodName := ⟨RX6, "thrown", "()I"⟩
abbrev cX6_can : ByteArray := prog_8_method_3_code
def yX6_can : MethodName := ⟨RX6, "can", "(I)Z"⟩
abbrev cX6_isRouter : ByteArray := prog_8_method_4_code
def yX6_isRouter : MethodName := ⟨RX6, "isRouter", "(I)Z"⟩
abbrev cX6_isGroup : ByteArray := prog_8_method_5_code
def yX6_isGroup : MethodName := ⟨RX6, "isGroup", "(I)Z"⟩
abbrev cX6_measures : ByteArray := prog_8_method_6_code
def yX6_measures : MethodName := ⟨RX6, "measures", "()V"⟩
abbrev cX6_hop : ByteArray := prog_8_method_7_code
def yX6_hop : MethodName := ⟨RX6, "hop", "(II)I"⟩
abbrev cX6_root : ByteArray := prog_8_method_8_code
def yX6_root : MethodName := ⟨RX6, "root", "(I)I"⟩
abbrev cX6_meets : ByteArray := prog_8_method_9_code
def yX6_meets : MethodName := ⟨RX6, "meets", "(I)I"⟩
abbrev cX6_wants : ByteArray := prog_8_method_10_code
def yX6_wants : MethodName := ⟨RX6, "wants", "(II)Z"⟩
abbrev cX6_graft : ByteArray := prog_8_method_11_code
def yX6_graft : MethodName := ⟨RX6, "graft", "(II)V"⟩
abbrev cX6_below : ByteArray := prog_8_method_12_code
def yX6_below : MethodName := ⟨RX6, "below", "(II)I"⟩
abbrev cX6_looks : ByteArray := prog_8_method_13_code
def yX6_looks : MethodName := ⟨RX6, "looks", "(II)V"⟩
abbrev cX6_buildsAnew : ByteArray := prog_8_method_14_code
def yX6_buildsAnew : MethodName := ⟨RX6, "buildsAnew", "()V"⟩
abbrev cX6_setLink : ByteArray := prog_8_method_15_code
def yX6_setLink : MethodName := ⟨RX6, "setLink", "(III)I"⟩
abbrev cX6_setCandidate : ByteArray := prog_8_method_16_code
def yX6_setCandidate : MethodName := ⟨RX6, "setCandidate", "(IZ)Z"⟩
abbrev cX6_setLimit : ByteArray := prog_8_method_17_code
def yX6_setLimit : MethodName := ⟨RX6, "setLimit", "(I)I"⟩
abbrev cX6_distance : ByteArray := prog_8_method_18_code
def yX6_distance : MethodName := ⟨RX6, "distance", "(II)I"⟩
abbrev cX6_nextHop : ByteArray := prog_8_method_19_code
def yX6_nextHop : MethodName := ⟨RX6, "nextHop", "(II)I"⟩
abbrev cX6_rendezvous : ByteArray := prog_8_method_20_code
def yX6_rendezvous : MethodName := ⟨RX6, "rendezvous", "(I)I"⟩
abbrev cX6_many : ByteArray := prog_8_method_21_code
def yX6_many : MethodName := ⟨RX6, "many", "(I)I"⟩
abbrev cX6_isMember : ByteArray := prog_8_method_22_code
def yX6_isMember : MethodName := ⟨RX6, "isMember", "(II)Z"⟩
abbrev cX6_join : ByteArray := prog_8_method_23_code
def yX6_join : MethodName := ⟨RX6, "join", "(II)I"⟩
abbrev cX6_leave : ByteArray := prog_8_method_24_code
def yX6_leave : MethodName := ⟨RX6, "leave", "(II)I"⟩
abbrev cX6_members : ByteArray := prog_8_method_25_code
def yX6_members : MethodName := ⟨RX6, "members", "(I)I"⟩
abbrev cX6_switched : ByteArray := prog_8_method_26_code
def yX6_switched : MethodName := ⟨RX6, "switched", "(II)I"⟩
abbrev cX6_branches : ByteArray := prog_8_method_27_code
def yX6_branches : MethodName := ⟨RX6, "branches", "(II)I"⟩
abbrev cX6_sourceBranches : ByteArray := prog_8_method_28_code
def yX6_sourceBranches : MethodName := ⟨RX6, "sourceBranches", "(III)I"⟩
abbrev cX6_leaving : ByteArray := prog_8_method_29_code
def yX6_leaving : MethodName := ⟨RX6, "leaving", "()I"⟩
abbrev cX6_goesOn : ByteArray := prog_8_method_30_code
def yX6_goesOn : MethodName := ⟨RX6, "goesOn", "(III)V"⟩
abbrev cX6_counts : ByteArray := prog_8_method_31_code
def yX6_counts : MethodName := ⟨RX6, "counts", "(III)V"⟩
abbrev cX6_gets : ByteArray := prog_8_method_32_code
def yX6_gets : MethodName := ⟨RX6, "gets", "(III)Z"⟩
abbrev cX6_send : ByteArray := prog_8_method_33_code
def yX6_send : MethodName := ⟨RX6, "send", "(II)I"⟩
abbrev cX6_follows : ByteArray := prog_8_method_34_code
def yX6_follows : MethodName := ⟨RX6, "follows", "()I"⟩
abbrev cX6_follow : ByteArray := prog_8_method_35_code
def yX6_follow : MethodName := ⟨RX6, "follow", "()I"⟩
abbrev cX6_followAll : ByteArray := prog_8_method_36_code
def yX6_followAll : MethodName := ⟨RX6, "followAll", "()I"⟩
abbrev cX6_queued : ByteArray := prog_8_method_37_code
def yX6_queued : MethodName := ⟨RX6, "queued", "()I"⟩
abbrev cX6_nextTo : ByteArray := prog_8_method_38_code
def yX6_nextTo : MethodName := ⟨RX6, "nextTo", "()I"⟩
abbrev cX6_isPacket : ByteArray := prog_8_method_39_code
def yX6_isPacket : MethodName := ⟨RX6, "isPacket", "(I)Z"⟩
abbrev cX6_received : ByteArray := prog_8_method_40_code
def yX6_received : MethodName := ⟨RX6, "received", "(I)I"⟩
abbrev cX6_doubles : ByteArray := prog_8_method_41_code
def yX6_doubles : MethodName := ⟨RX6, "doubles", "(I)I"⟩
abbrev cX6_wasted : ByteArray := prog_8_method_42_code
def yX6_wasted : MethodName := ⟨RX6, "wasted", "()I"⟩
abbrev cX6_second : ByteArray := prog_8_method_43_code
def yX6_second : MethodName := ⟨RX6, "second", "()I"⟩
abbrev cX6_pass : ByteArray := prog_8_method_44_code
def yX6_pass : MethodName := ⟨RX6, "pass", "(I)I"⟩
abbrev cX6_clock : ByteArray := prog_8_method_45_code
def yX6_clock : MethodName := ⟨RX6, "clock", "()I"⟩
abbrev cX6_floodMembers : ByteArray := prog_8_method_46_code
def yX6_floodMembers : MethodName := ⟨RX6, "floodMembers", "(II)I"⟩
abbrev cX6_floodCopies : ByteArray := prog_8_method_47_code
def yX6_floodCopies : MethodName := ⟨RX6, "floodCopies", "(I)I"⟩
def RJx145de : String := "java/io/Serializable"
def TJx145de : u_T := fun k => match k with
  | _ => ("", "", "", false)
def tyJx145de : Nat → FieldType := fun k => match k with
  | _ => .int
abbrev wsJx145de0 : List Cond := u_ws RJx145de TJx145de 0
theorem nmJx145de : ∀ a, a < 0 → ∀ b, b < 0 → a ≠ b → (TJx145de a).2.1 ≠ (TJx145de b).2.1 := by decide +kernel
theorem tyJx145de_ok : ∀ k, k < 0 → parseFieldDescriptor (TJx145de k).2.2.1 = some (tyJx145de k) := by decide +kernel
def RJ6 : String := "java/lang/Integer"
def TJ6 : u_T := fun k => match k with
  | _ => ("", "", "", false)
def tyJ6 : Nat → FieldType := fun k => match k with
  | _ => .int
abbrev wsJ60 : List Cond := u_ws RJ6 TJ6 0
theorem nmJ6 : ∀ a, a < 0 → ∀ b, b < 0 → a ≠ b → (TJ6 a).2.1 ≠ (TJ6 b).2.1 := by decide +kernel
theorem tyJ6_ok : ∀ k, k < 0 → parseFieldDescriptor (TJ6 k).2.2.1 = some (tyJ6 k) := by decide +kernel
abbrev cJ6_bitCount_0f7a4 : ByteArray := prog_13_method_49_code
def yJ6_bitCount_0f7a4 : MethodName := ⟨RJ6, "bitCount", "(I)I"⟩
def RJ0 : String := "java/lang/String"
def TJ0 : u_T := fun k => match k with
  | _ => ("", "", "", false)
def tyJ0 : Nat → FieldType := fun k => match k with
  | _ => .int
abbrev wsJ00 : List Cond := u_ws RJ0 TJ0 0
theorem nmJ0 : ∀ a, a < 0 → ∀ b, b < 0 → a ≠ b → (TJ0 a).2.1 ≠ (TJ0 b).2.1 := by decide +kernel
theorem tyJ0_ok : ∀ k, k < 0 → parseFieldDescriptor (TJ0 k).2.2.1 = some (tyJ0 k) := by decide +kernel
def RJ7 : String := "java/util/Arrays"
def TJ7 : u_T := fun k => match k with
  | _ => ("", "", "", false)
def tyJ7 : Nat → FieldType := fun k => match k with
  | _ => .int
abbrev wsJ70 : List Cond := u_ws RJ7 TJ7 0
theorem nmJ7 : ∀ a, a < 0 → ∀ b, b < 0 → a ≠ b → (TJ7 a).2.1 ≠ (TJ7 b).2.1 := by decide +kernel
theorem tyJ7_ok : ∀ k, k < 0 → parseFieldDescriptor (TJ7 k).2.2.1 = some (tyJ7 k) := by decide +kernel
abbrev cJ7_fill_53178 : ByteArray := prog_17_method_103_code
def yJ7_fill_53178 : MethodName := ⟨RJ7, "fill", "([II)V"⟩
def RL : String := "MultidellLaw"
abbrev cL_setLink : ByteArray := method_3_code
def yL_setLink : MethodName := ⟨RL, "setLink", "(LMultidell;III[J)I"⟩
abbrev cL_setCandidate : ByteArray := method_4_code
def yL_setCandidate : MethodName := ⟨RL, "setCandidate", "(LMultidell;IZ[J)I"⟩
abbrev cL_setLimit : ByteArray := method_5_code
def yL_setLimit : MethodName := ⟨RL, "setLimit", "(LMultidell;I[J)I"⟩
abbrev cL_distance : ByteArray := method_6_code
def yL_distance : MethodName := ⟨RL, "distance", "(LMultidell;II[J)I"⟩
abbrev cL_nextHop : ByteArray := method_7_code
def yL_nextHop : MethodName := ⟨RL, "nextHop", "(LMultidell;II[J)I"⟩
abbrev cL_rendezvous : ByteArray := method_8_code
def yL_rendezvous : MethodName := ⟨RL, "rendezvous", "(LMultidell;I[J)I"⟩
abbrev cL_join : ByteArray := method_9_code
def yL_join : MethodName := ⟨RL, "join", "(LMultidell;II[J)I"⟩
abbrev cL_leave : ByteArray := method_10_code
def yL_leave : MethodName := ⟨RL, "leave", "(LMultidell;II[J)I"⟩
abbrev cL_members : ByteArray := method_11_code
def yL_members : MethodName := ⟨RL, "members", "(LMultidell;I[J)I"⟩
abbrev cL_switched : ByteArray := method_12_code
def yL_switched : MethodName := ⟨RL, "switched", "(LMultidell;II[J)I"⟩
abbrev cL_branches : ByteArray := method_13_code
def yL_branches : MethodName := ⟨RL, "branches", "(LMultidell;II[J)I"⟩
abbrev cL_sourceBranches : ByteArray := method_14_code
def yL_sourceBranches : MethodName := ⟨RL, "sourceBranches", "(LMultidell;III[J)I"⟩
abbrev cL_send : ByteArray := method_15_code
def yL_send : MethodName := ⟨RL, "send", "(LMultidell;II[J)I"⟩
abbrev cL_received : ByteArray := method_16_code
def yL_received : MethodName := ⟨RL, "received", "(LMultidell;I[J)I"⟩
abbrev cL_doubles : ByteArray := method_17_code
def yL_doubles : MethodName := ⟨RL, "doubles", "(LMultidell;I[J)I"⟩
abbrev cL_pass : ByteArray := method_18_code
def yL_pass : MethodName := ⟨RL, "pass", "(LMultidell;I[J)I"⟩
abbrev cL_floodMembers : ByteArray := method_19_code
def yL_floodMembers : MethodName := ⟨RL, "floodMembers", "(LMultidell;II[J)I"⟩
abbrev cL_floodCopies : ByteArray := method_20_code
def yL_floodCopies : MethodName := ⟨RL, "floodCopies", "(LMultidell;I[J)I"⟩
abbrev cL_law : ByteArray := code
def yL_law : MethodName := ⟨RL, "law", "([I)Z"⟩
abbrev vwCl : List vw_C := [(RX0, TX0, 6), (RX1, TX1, 1), (RX2, TX2, 4), (RX3, TX3, 5), (RX4, TX4, 3), (RX5, TX5, 9), (RX6, TX6, 19)]
end
section
def wsL_law0_r1 : List Cond := [Cond.classLink RL 8 RX5, Cond.instantiable RX5 9, Cond.initialized RX5, Cond.classLink RL 74 RX6, Cond.instantiable RX6 19, Cond.initialized RX6, Cond.arrayClass .long, Cond.methodLink RL 73 yX5_init, Cond.instanceMethod yX5_init, Cond.code yX5_init cX5_init 1 none, Cond.methodLink RX5 3 objectInit, Cond.instanceMethod objectInit, Cond.code objectInit ⟨#[0xb1]⟩ 1 none, Cond.classLink RX5 9 RX4, Cond.instantiable RX4 3, Cond.initialized RX4, Cond.fieldLink RX5 12 "Multidell" "routes" "LMultidell$Routes;", Cond.classLink RX5 16 RX2, Cond.instantiable RX2 4, Cond.initialized RX2, Cond.fieldLink RX5 19 "Multidell" "forest" "LMultidell$Forest;", Cond.classLink RX5 23 RX3, Cond.instantiable RX3 5, Cond.initialized RX3]
def wsL_law0_r2 : List Cond := [Cond.fieldLink RX5 26 "Multidell" "packets" "LMultidell$Packets;", Cond.classLink RX5 30 RX0, Cond.instantiable RX0 6, Cond.initialized RX0, Cond.fieldLink RX5 33 "Multidell" "queue" "LMultidell$CopyQueue;", Cond.classLink RX5 37 RX1, Cond.instantiable RX1 1, Cond.initialized RX1, Cond.fieldLink RX5 40 "Multidell" "counts" "LMultidell$Counts;", Cond.fieldLink RX5 44 "Multidell" "limit" "I", Cond.methodLink RX5 11 yX4_init, Cond.instanceMethod yX4_init, Cond.code yX4_init cX4_init 1 none, Cond.methodLink RX4 3 objectInit, Cond.arrayClass .int, Cond.fieldLink RX4 9 "Multidell$Routes" "cost" "[I", Cond.fieldLink RX4 15 "Multidell$Routes" "least" "[I", Cond.fieldLink RX4 18 "Multidell$Routes" "hop" "[I", Cond.methodLink RX4 21 yX4_findLeast, Cond.instanceMethod yX4_findLeast, Cond.selects RX4 yX4_findLeast yX4_findLeast, Cond.code yX4_findLeast cX4_findLeast 4 none, Cond.constant RX4 31 (1000000), Cond.methodLink RX4 36 yX4_shortenThrough]
def wsL_law0_r3 : List Cond := [Cond.instanceMethod yX4_shortenThrough, Cond.selects RX4 yX4_shortenThrough yX4_shortenThrough, Cond.code yX4_shortenThrough cX4_shortenThrough 5 none, Cond.methodLink RX4 24 yX4_findHops, Cond.instanceMethod yX4_findHops, Cond.selects RX4 yX4_findHops yX4_findHops, Cond.code yX4_findHops cX4_findHops 3 none, Cond.methodLink RX4 40 yX4_firstHop, Cond.instanceMethod yX4_firstHop, Cond.selects RX4 yX4_firstHop yX4_firstHop, Cond.code yX4_firstHop cX4_firstHop 6 (some .int), Cond.methodLink RX4 43 yX4_distanceOf, Cond.instanceMethod yX4_distanceOf, Cond.selects RX4 yX4_distanceOf yX4_distanceOf, Cond.code yX4_distanceOf cX4_distanceOf 4 (some .int), Cond.methodLink RX4 27 yX4_arePair, Cond.static yX4_arePair, Cond.code yX4_arePair cX4_arePair 2 (some .boolean), Cond.methodLink RX4 32 yX4_costOf, Cond.instanceMethod yX4_costOf, Cond.selects RX4 yX4_costOf yX4_costOf, Cond.code yX4_costOf cX4_costOf 3 (some .int), Cond.methodLink RX5 18 yX2_init, Cond.instanceMethod yX2_init]
def wsL_law0_r4 : List Cond := [Cond.code yX2_init cX2_init 3 none, Cond.methodLink RX2 3 objectInit, Cond.fieldLink RX2 9 "Multidell$Forest" "root" "[I", Cond.fieldLink RX2 15 "Multidell$Forest" "wanting" "[I", Cond.fieldLink RX2 18 "Multidell$Forest" "comesFrom" "[I", Cond.fieldLink RX2 21 "Multidell$Forest" "goesAt" "[I", Cond.methodLink RX2 24 yJ7_fill_53178, Cond.static yJ7_fill_53178, Cond.initialized RJ7, Cond.code yJ7_fill_53178 cJ7_fill_53178 4 none, Cond.static yX5_sourceTree, Cond.code yX5_sourceTree cX5_sourceTree 2 (some .int), Cond.methodLink RX5 252 yX5_isRouter, Cond.static yX5_isRouter, Cond.code yX5_isRouter cX5_isRouter 1 (some .boolean), Cond.methodLink RX5 257 yX5_isGroup, Cond.static yX5_isGroup, Cond.code yX5_isGroup cX5_isGroup 1 (some .boolean), Cond.methodLink RX2 34 yX2_setRoot, Cond.instanceMethod yX2_setRoot, Cond.selects RX2 yX2_setRoot yX2_setRoot, Cond.code yX2_setRoot cX2_setRoot 3 none, Cond.static yX5_isTree, Cond.code yX5_isTree cX5_isTree 1 (some .boolean)]
def wsL_law0_r5 : List Cond := [Cond.instanceMethod yX3_init, Cond.code yX3_init cX3_init 1 none, Cond.methodLink RX3 3 objectInit, Cond.fieldLink RX3 9 "Multidell$Packets" "source" "[I", Cond.fieldLink RX3 15 "Multidell$Packets" "group" "[I", Cond.fieldLink RX3 18 "Multidell$Packets" "receivers" "[I", Cond.fieldLink RX3 21 "Multidell$Packets" "doubleCount" "[I", Cond.instanceMethod yX0_init, Cond.code yX0_init cX0_init 1 none, Cond.methodLink RX0 3 objectInit, Cond.fieldLink RX0 9 "Multidell$CopyQueue" "packet" "[I", Cond.fieldLink RX0 15 "Multidell$CopyQueue" "tree" "[I", Cond.fieldLink RX0 18 "Multidell$CopyQueue" "from" "[I", Cond.fieldLink RX0 21 "Multidell$CopyQueue" "to" "[I", Cond.instanceMethod yX1_init, Cond.code yX1_init cX1_init 1 none, Cond.methodLink RX1 3 objectInit, Cond.fieldLink RX1 9 "Multidell$Counts" "count" "[I", Cond.methodLink RL 76 yX6_init, Cond.instanceMethod yX6_init, Cond.code yX6_init cX6_init 2 none, Cond.methodLink RX6 1 objectInit, Cond.fieldLink RX6 7 "MultidellModel" "limit" "I", Cond.fieldLink RX6 13 "MultidellModel" "cost" "[I"]
def wsL_law0_r6 : List Cond := [Cond.fieldLink RX6 17 "MultidellModel" "far" "[I", Cond.arrayClass .boolean, Cond.fieldLink RX6 20 "MultidellModel" "isCandidate" "[Z", Cond.fieldLink RX6 24 "MultidellModel" "members" "[I", Cond.fieldLink RX6 27 "MultidellModel" "switched" "[I", Cond.fieldLink RX6 30 "MultidellModel" "count" "[I", Cond.fieldLink RX6 33 "MultidellModel" "above" "[I", Cond.fieldLink RX6 36 "MultidellModel" "goes" "[I", Cond.fieldLink RX6 39 "MultidellModel" "copy" "[I", Cond.fieldLink RX6 42 "MultidellModel" "source" "[I", Cond.fieldLink RX6 45 "MultidellModel" "group" "[I", Cond.fieldLink RX6 48 "MultidellModel" "received" "[I", Cond.fieldLink RX6 51 "MultidellModel" "doubles" "[I", Cond.methodLink RX6 54 yX6_measures, Cond.instanceMethod yX6_measures, Cond.selects RX6 yX6_measures yX6_measures, Cond.code yX6_measures cX6_measures 4 none, Cond.constant RX6 60 (1000000), Cond.methodLink RL 77 yL_setLink, Cond.static yL_setLink, Cond.initialized RL, Cond.codeWith yL_setLink cL_setLink 6 (some .int) [(0, 12, 15, 13), (0, 12, 19, 15)], Cond.classLink RL 13 "java/lang/IndexOutOfBoundsException", Cond.classLink RL 15 "java/lang/IllegalArgumentException"]
def wsL_law0_r7 : List Cond := [Cond.methodLink RL 7 yX5_setLink, Cond.instanceMethod yX5_setLink, Cond.selects RX5 yX5_setLink yX5_setLink, Cond.code yX5_setLink cX5_setLink 5 (some .int), Cond.classLink RX5 52 "java/lang/IllegalArgumentException", Cond.initialized "java/lang/IllegalArgumentException", Cond.methodLink RX5 48 yX5_checkRouter, Cond.static yX5_checkRouter, Cond.code yX5_checkRouter cX5_checkRouter 1 none, Cond.classLink RX5 247 "java/lang/IndexOutOfBoundsException", Cond.initialized "java/lang/IndexOutOfBoundsException", Cond.methodLink RX5 59 yX4_costOf, Cond.methodLink RX5 63 yX4_change, Cond.instanceMethod yX4_change, Cond.selects RX4 yX4_change yX4_change, Cond.code yX4_change cX4_change 4 none, Cond.methodLink RX5 67 yX2_buildAnew, Cond.instanceMethod yX2_buildAnew, Cond.selects RX2 yX2_buildAnew yX2_buildAnew, Cond.code yX2_buildAnew cX2_buildAnew 4 none, Cond.static yX5_has, Cond.code yX5_has cX5_has 2 (some .boolean), Cond.methodLink RX5 78 yX5_bit, Cond.static yX5_bit]
def wsL_law0_r8 : List Cond := [Cond.code yX5_bit cX5_bit 1 (some .int), Cond.methodLink RX2 49 yX2_graft, Cond.instanceMethod yX2_graft, Cond.selects RX2 yX2_graft yX2_graft, Cond.code yX2_graft cX2_graft 8 none, Cond.methodLink RX2 71 yX2_rootOf, Cond.instanceMethod yX2_rootOf, Cond.selects RX2 yX2_rootOf yX2_rootOf, Cond.code yX2_rootOf cX2_rootOf 2 (some .int), Cond.methodLink RX2 68 yX2_parentOf, Cond.instanceMethod yX2_parentOf, Cond.selects RX2 yX2_parentOf yX2_parentOf, Cond.code yX2_parentOf cX2_parentOf 3 (some .int), Cond.methodLink RX2 74 yX4_hopOf, Cond.instanceMethod yX4_hopOf, Cond.selects RX4 yX4_hopOf yX4_hopOf, Cond.code yX4_hopOf cX4_hopOf 3 (some .int), Cond.methodLink RL 82 yX6_setLink, Cond.instanceMethod yX6_setLink, Cond.selects RX6 yX6_setLink yX6_setLink, Cond.code yX6_setLink cX6_setLink 5 (some .int), Cond.methodLink RX6 86 yX6_isRouter, Cond.static yX6_isRouter, Cond.code yX6_isRouter cX6_isRouter 1 (some .boolean)]
def wsL_law0_r9 : List Cond := [Cond.methodLink RX6 90 yX6_can, Cond.instanceMethod yX6_can, Cond.selects RX6 yX6_can yX6_can, Cond.code yX6_can cX6_can 2 (some .boolean), Cond.fieldLink RX6 57 "MultidellModel" "thrown" "I", Cond.methodLink RX6 93 yX6_buildsAnew, Cond.instanceMethod yX6_buildsAnew, Cond.selects RX6 yX6_buildsAnew yX6_buildsAnew, Cond.code yX6_buildsAnew cX6_buildsAnew 3 none, Cond.methodLink RX6 72 yX6_wants, Cond.instanceMethod yX6_wants, Cond.selects RX6 yX6_wants yX6_wants, Cond.code yX6_wants cX6_wants 4 (some .boolean), Cond.methodLink RX6 82 yX6_graft, Cond.instanceMethod yX6_graft, Cond.selects RX6 yX6_graft yX6_graft, Cond.code yX6_graft cX6_graft 7 none, Cond.methodLink RX6 65 yX6_root, Cond.instanceMethod yX6_root, Cond.selects RX6 yX6_root yX6_root, Cond.code yX6_root cX6_root 2 (some .int), Cond.methodLink RX6 61 yX6_meets, Cond.instanceMethod yX6_meets, Cond.selects RX6 yX6_meets yX6_meets]
def wsL_law0_r10 : List Cond := [Cond.code yX6_meets cX6_meets 7 (some .int), Cond.methodLink RX6 68 yX6_hop, Cond.instanceMethod yX6_hop, Cond.selects RX6 yX6_hop yX6_hop, Cond.code yX6_hop cX6_hop 7 (some .int), Cond.methodLink RL 83 yX6_thrown, Cond.instanceMethod yX6_thrown, Cond.selects RX6 yX6_thrown yX6_thrown, Cond.code yX6_thrown cX6_thrown 1 (some .int), Cond.methodLink RL 87 yL_setCandidate, Cond.static yL_setCandidate, Cond.codeWith yL_setCandidate cL_setCandidate 5 (some .int) [(0, 17, 20, 13)], Cond.methodLink RL 17 yX5_setCandidate, Cond.instanceMethod yX5_setCandidate, Cond.selects RX5 yX5_setCandidate yX5_setCandidate, Cond.code yX5_setCandidate cX5_setCandidate 4 (some .boolean), Cond.fieldLink RX5 71 "Multidell" "candidates" "I", Cond.methodLink RX5 74 yX5_has, Cond.methodLink RX5 82 yX5_sharedTree, Cond.static yX5_sharedTree, Cond.code yX5_sharedTree cX5_sharedTree 1 (some .int), Cond.methodLink RX5 85 yX5_bestCandidate, Cond.instanceMethod yX5_bestCandidate, Cond.selects RX5 yX5_bestCandidate yX5_bestCandidate]
def wsL_law0_r11 : List Cond := [Cond.code yX5_bestCandidate cX5_bestCandidate 6 (some .int), Cond.methodLink RX5 88 yX2_setRoot, Cond.methodLink RL 90 yX6_setCandidate, Cond.instanceMethod yX6_setCandidate, Cond.selects RX6 yX6_setCandidate yX6_setCandidate, Cond.code yX6_setCandidate cX6_setCandidate 3 (some .boolean), Cond.methodLink RL 91 yL_setLimit, Cond.static yL_setLimit, Cond.codeWith yL_setLimit cL_setLimit 4 (some .int) [(0, 9, 12, 15)], Cond.methodLink RL 21 yX5_setLimit, Cond.instanceMethod yX5_setLimit, Cond.selects RX5 yX5_setLimit yX5_setLimit, Cond.code yX5_setLimit cX5_setLimit 3 (some .int), Cond.methodLink RL 94 yX6_setLimit, Cond.instanceMethod yX6_setLimit, Cond.selects RX6 yX6_setLimit yX6_setLimit, Cond.code yX6_setLimit cX6_setLimit 3 (some .int), Cond.methodLink RL 95 yL_distance, Cond.static yL_distance, Cond.codeWith yL_distance cL_distance 5 (some .int) [(0, 10, 13, 13)], Cond.methodLink RL 25 yX5_distance, Cond.instanceMethod yX5_distance, Cond.selects RX5 yX5_distance yX5_distance, Cond.code yX5_distance cX5_distance 3 (some .int)]
def wsL_law0_r12 : List Cond := [Cond.methodLink RX5 94 yX4_distanceOf, Cond.methodLink RL 98 yX6_distance, Cond.instanceMethod yX6_distance, Cond.selects RX6 yX6_distance yX6_distance, Cond.code yX6_distance cX6_distance 4 (some .int), Cond.methodLink RL 99 yL_nextHop, Cond.static yL_nextHop, Cond.codeWith yL_nextHop cL_nextHop 5 (some .int) [(0, 10, 13, 13)], Cond.methodLink RL 29 yX5_nextHop, Cond.instanceMethod yX5_nextHop, Cond.selects RX5 yX5_nextHop yX5_nextHop, Cond.code yX5_nextHop cX5_nextHop 3 (some .int), Cond.methodLink RX5 97 yX4_hopOf, Cond.methodLink RL 101 yX6_nextHop, Cond.instanceMethod yX6_nextHop, Cond.selects RX6 yX6_nextHop yX6_nextHop, Cond.code yX6_nextHop cX6_nextHop 3 (some .int), Cond.methodLink RL 102 yL_rendezvous, Cond.static yL_rendezvous, Cond.codeWith yL_rendezvous cL_rendezvous 4 (some .int) [(0, 9, 12, 13)], Cond.methodLink RL 32 yX5_rendezvous, Cond.instanceMethod yX5_rendezvous, Cond.selects RX5 yX5_rendezvous yX5_rendezvous, Cond.code yX5_rendezvous cX5_rendezvous 2 (some .int)]
def wsL_law0_r13 : List Cond := [Cond.methodLink RX5 100 yX5_checkGroup, Cond.static yX5_checkGroup, Cond.code yX5_checkGroup cX5_checkGroup 1 none, Cond.methodLink RX5 103 yX2_rootOf, Cond.methodLink RL 104 yX6_rendezvous, Cond.instanceMethod yX6_rendezvous, Cond.selects RX6 yX6_rendezvous yX6_rendezvous, Cond.code yX6_rendezvous cX6_rendezvous 2 (some .int), Cond.methodLink RX6 96 yX6_isGroup, Cond.static yX6_isGroup, Cond.code yX6_isGroup cX6_isGroup 1 (some .boolean), Cond.methodLink RL 105 yL_join, Cond.static yL_join, Cond.codeWith yL_join cL_join 5 (some .int) [(0, 10, 13, 13), (0, 10, 17, 38)], Cond.classLink RL 38 "java/lang/IllegalStateException", Cond.methodLink RL 35 yX5_join, Cond.instanceMethod yX5_join, Cond.selects RX5 yX5_join yX5_join, Cond.code yX5_join cX5_join 3 (some .int), Cond.classLink RX5 109 "java/lang/IllegalStateException", Cond.initialized "java/lang/IllegalStateException", Cond.methodLink RX5 106 yX5_isMember, Cond.instanceMethod yX5_isMember, Cond.selects RX5 yX5_isMember yX5_isMember]
def wsL_law0_r14 : List Cond := [Cond.code yX5_isMember cX5_isMember 3 (some .boolean), Cond.methodLink RX5 118 yX5_membersOf, Cond.instanceMethod yX5_membersOf, Cond.selects RX5 yX5_membersOf yX5_membersOf, Cond.code yX5_membersOf cX5_membersOf 2 (some .int), Cond.methodLink RX5 140 yX2_wantingOf, Cond.instanceMethod yX2_wantingOf, Cond.selects RX2 yX2_wantingOf yX2_wantingOf, Cond.code yX2_wantingOf cX2_wantingOf 2 (some .int), Cond.methodLink RX5 114 yX2_want, Cond.instanceMethod yX2_want, Cond.selects RX2 yX2_want yX2_want, Cond.code yX2_want cX2_want 4 none, Cond.methodLink RX5 121 yJ6_bitCount_0f7a4, Cond.static yJ6_bitCount_0f7a4, Cond.initialized RJ6, Cond.code yJ6_bitCount_0f7a4 cJ6_bitCount_0f7a4 1 (some .int), Cond.constant RJ6 265 (1431655765), Cond.constant RJ6 266 (858993459), Cond.constant RJ6 267 (252645135), Cond.methodLink RL 107 yX6_join, Cond.instanceMethod yX6_join, Cond.selects RX6 yX6_join yX6_join, Cond.code yX6_join cX6_join 3 (some .int)]
def wsL_law0_r15 : List Cond := [Cond.methodLink RX6 99 yX6_isMember, Cond.instanceMethod yX6_isMember, Cond.selects RX6 yX6_isMember yX6_isMember, Cond.code yX6_isMember cX6_isMember 3 (some .boolean), Cond.methodLink RX6 102 yX6_many, Cond.static yX6_many, Cond.code yX6_many cX6_many 3 (some .int), Cond.methodLink RL 108 yL_leave, Cond.static yL_leave, Cond.codeWith yL_leave cL_leave 5 (some .int) [(0, 10, 13, 13), (0, 10, 17, 38)], Cond.methodLink RL 40 yX5_leave, Cond.instanceMethod yX5_leave, Cond.selects RX5 yX5_leave yX5_leave, Cond.code yX5_leave cX5_leave 4 (some .int), Cond.fieldLink RX5 128 "Multidell" "now" "I", Cond.methodLink RX5 131 yX2_unwant, Cond.instanceMethod yX2_unwant, Cond.selects RX2 yX2_unwant yX2_unwant, Cond.code yX2_unwant cX2_unwant 4 none, Cond.methodLink RX2 53 yX2_letLeave, Cond.instanceMethod yX2_letLeave, Cond.selects RX2 yX2_letLeave yX2_letLeave, Cond.code yX2_letLeave cX2_letLeave 5 none, Cond.methodLink RX2 79 yX2_isNeeded]
def wsL_law0_r16 : List Cond := [Cond.instanceMethod yX2_isNeeded, Cond.selects RX2 yX2_isNeeded yX2_isNeeded, Cond.code yX2_isNeeded cX2_isNeeded 3 (some .boolean), Cond.methodLink RX2 82 yX2_wantingOf, Cond.methodLink RX2 85 yX2_branchesFrom, Cond.instanceMethod yX2_branchesFrom, Cond.selects RX2 yX2_branchesFrom yX2_branchesFrom, Cond.code yX2_branchesFrom cX2_branchesFrom 5 (some .int), Cond.methodLink RX5 134 yX5_sourceTree, Cond.methodLink RX5 137 yX1_forget, Cond.instanceMethod yX1_forget, Cond.selects RX1 yX1_forget yX1_forget, Cond.code yX1_forget cX1_forget 4 none, Cond.methodLink RX1 15 yX1_isPlace, Cond.static yX1_isPlace, Cond.code yX1_isPlace cX1_isPlace 3 (some .boolean), Cond.methodLink RX1 19 yX1_placeOf, Cond.static yX1_placeOf, Cond.code yX1_placeOf cX1_placeOf 3 (some .int), Cond.methodLink RL 110 yX6_leave, Cond.instanceMethod yX6_leave, Cond.selects RX6 yX6_leave yX6_leave, Cond.code yX6_leave cX6_leave 4 (some .int), Cond.methodLink RX6 105 yX6_looks]
def wsL_law0_r17 : List Cond := [Cond.instanceMethod yX6_looks, Cond.selects RX6 yX6_looks yX6_looks, Cond.code yX6_looks cX6_looks 4 none, Cond.fieldLink RX6 79 "MultidellModel" "clock" "I", Cond.methodLink RX6 76 yX6_below, Cond.instanceMethod yX6_below, Cond.selects RX6 yX6_below yX6_below, Cond.code yX6_below cX6_below 5 (some .int), Cond.methodLink RL 111 yL_members, Cond.static yL_members, Cond.codeWith yL_members cL_members 4 (some .int) [(0, 9, 12, 13)], Cond.methodLink RL 43 yX5_members, Cond.instanceMethod yX5_members, Cond.selects RX5 yX5_members yX5_members, Cond.code yX5_members cX5_members 2 (some .int), Cond.methodLink RL 113 yX6_members, Cond.instanceMethod yX6_members, Cond.selects RX6 yX6_members yX6_members, Cond.code yX6_members cX6_members 2 (some .int), Cond.methodLink RL 114 yL_switched, Cond.static yL_switched, Cond.codeWith yL_switched cL_switched 5 (some .int) [(0, 10, 13, 13)], Cond.methodLink RL 46 yX5_switched, Cond.instanceMethod yX5_switched]
def wsL_law0_r18 : List Cond := [Cond.selects RX5 yX5_switched yX5_switched, Cond.code yX5_switched cX5_switched 3 (some .int), Cond.methodLink RL 116 yX6_switched, Cond.instanceMethod yX6_switched, Cond.selects RX6 yX6_switched yX6_switched, Cond.code yX6_switched cX6_switched 3 (some .int), Cond.methodLink RL 117 yL_branches, Cond.static yL_branches, Cond.codeWith yL_branches cL_branches 5 (some .int) [(0, 10, 13, 13)], Cond.methodLink RL 49 yX5_branches, Cond.instanceMethod yX5_branches, Cond.selects RX5 yX5_branches yX5_branches, Cond.code yX5_branches cX5_branches 3 (some .int), Cond.methodLink RX5 143 yX2_branchesFrom, Cond.methodLink RL 119 yX6_branches, Cond.instanceMethod yX6_branches, Cond.selects RX6 yX6_branches yX6_branches, Cond.code yX6_branches cX6_branches 3 (some .int), Cond.methodLink RL 120 yL_sourceBranches, Cond.static yL_sourceBranches, Cond.codeWith yL_sourceBranches cL_sourceBranches 6 (some .int) [(0, 12, 15, 13)], Cond.methodLink RL 52 yX5_sourceBranches, Cond.instanceMethod yX5_sourceBranches, Cond.selects RX5 yX5_sourceBranches yX5_sourceBranches]
def wsL_law0_r19 : List Cond := [Cond.code yX5_sourceBranches cX5_sourceBranches 4 (some .int), Cond.methodLink RL 122 yX6_sourceBranches, Cond.instanceMethod yX6_sourceBranches, Cond.selects RX6 yX6_sourceBranches yX6_sourceBranches, Cond.code yX6_sourceBranches cX6_sourceBranches 4 (some .int), Cond.methodLink RL 123 yX5_leaving, Cond.instanceMethod yX5_leaving, Cond.selects RX5 yX5_leaving yX5_leaving, Cond.code yX5_leaving cX5_leaving 1 (some .int), Cond.methodLink RX5 146 yX2_leavingBranches, Cond.instanceMethod yX2_leavingBranches, Cond.selects RX2 yX2_leavingBranches yX2_leavingBranches, Cond.code yX2_leavingBranches cX2_leavingBranches 3 (some .int), Cond.methodLink RL 126 yX6_leaving, Cond.instanceMethod yX6_leaving, Cond.selects RX6 yX6_leaving yX6_leaving, Cond.code yX6_leaving cX6_leaving 3 (some .int), Cond.methodLink RL 127 yL_send, Cond.static yL_send, Cond.codeWith yL_send cL_send 5 (some .int) [(0, 10, 13, 13), (0, 10, 17, 38)], Cond.methodLink RL 55 yX5_send, Cond.instanceMethod yX5_send, Cond.selects RX5 yX5_send yX5_send, Cond.code yX5_send cX5_send 5 (some .int)]
def wsL_law0_r20 : List Cond := [Cond.methodLink RX5 150 yX3_isFull, Cond.instanceMethod yX3_isFull, Cond.selects RX3 yX3_isFull yX3_isFull, Cond.code yX3_isFull cX3_isFull 1 (some .boolean), Cond.fieldLink RX3 24 "Multidell$Packets" "sent" "I", Cond.methodLink RX5 156 yX3_add, Cond.instanceMethod yX3_add, Cond.selects RX3 yX3_add yX3_add, Cond.code yX3_add cX3_add 4 (some .int), Cond.methodLink RX3 28 yX3_isFull, Cond.methodLink RX5 159 yX3_receive, Cond.instanceMethod yX3_receive, Cond.selects RX3 yX3_receive yX3_receive, Cond.code yX3_receive cX3_receive 3 none, Cond.methodLink RX3 32 yX3_isPacket, Cond.instanceMethod yX3_isPacket, Cond.selects RX3 yX3_isPacket yX3_isPacket, Cond.code yX3_isPacket cX3_isPacket 2 (some .boolean), Cond.methodLink RX5 162 yX5_getPacket, Cond.instanceMethod yX5_getPacket, Cond.selects RX5 yX5_getPacket yX5_getPacket, Cond.code yX5_getPacket cX5_getPacket 9 (some .boolean), Cond.methodLink RX5 220 yX3_groupOf, Cond.instanceMethod yX3_groupOf]
def wsL_law0_r21 : List Cond := [Cond.selects RX3 yX3_groupOf yX3_groupOf, Cond.code yX3_groupOf cX3_groupOf 2 (some .int), Cond.methodLink RX5 200 yX3_receiversOf, Cond.instanceMethod yX3_receiversOf, Cond.selects RX3 yX3_receiversOf yX3_receiversOf, Cond.code yX3_receiversOf cX3_receiversOf 2 (some .int), Cond.methodLink RX5 223 yX3_addDouble, Cond.instanceMethod yX3_addDouble, Cond.selects RX3 yX3_addDouble yX3_addDouble, Cond.code yX3_addDouble cX3_addDouble 2 none, Cond.methodLink RX5 226 yX3_sourceOf, Cond.instanceMethod yX3_sourceOf, Cond.selects RX3 yX3_sourceOf yX3_sourceOf, Cond.code yX3_sourceOf cX3_sourceOf 2 (some .int), Cond.methodLink RX5 229 yX5_isShared, Cond.static yX5_isShared, Cond.code yX5_isShared cX5_isShared 1 (some .boolean), Cond.methodLink RX5 233 yX5_countSaysSwitch, Cond.instanceMethod yX5_countSaysSwitch, Cond.selects RX5 yX5_countSaysSwitch yX5_countSaysSwitch, Cond.code yX5_countSaysSwitch cX5_countSaysSwitch 6 (some .boolean), Cond.methodLink RX5 236 yX1_raise, Cond.instanceMethod yX1_raise, Cond.selects RX1 yX1_raise yX1_raise]
def wsL_law0_r22 : List Cond := [Cond.code yX1_raise cX1_raise 5 (some .int), Cond.methodLink RX5 166 yX5_goOn, Cond.instanceMethod yX5_goOn, Cond.selects RX5 yX5_goOn yX5_goOn, Cond.code yX5_goOn cX5_goOn 6 none, Cond.fieldLink RX5 187 "Multidell" "wastedCopies" "I", Cond.methodLink RX5 240 yX0_put, Cond.instanceMethod yX0_put, Cond.selects RX0 yX0_put yX0_put, Cond.code yX0_put cX0_put 6 (some .boolean), Cond.fieldLink RX0 24 "Multidell$CopyQueue" "size" "I", Cond.fieldLink RX0 28 "Multidell$CopyQueue" "first" "I", Cond.methodLink RL 129 yX6_send, Cond.instanceMethod yX6_send, Cond.selects RX6 yX6_send yX6_send, Cond.code yX6_send cX6_send 6 (some .int), Cond.fieldLink RX6 121 "MultidellModel" "packets" "I", Cond.methodLink RX6 124 yX6_gets, Cond.instanceMethod yX6_gets, Cond.selects RX6 yX6_gets yX6_gets, Cond.code yX6_gets cX6_gets 6 (some .boolean), Cond.methodLink RX6 114 yX6_counts, Cond.instanceMethod yX6_counts, Cond.selects RX6 yX6_counts yX6_counts]
def wsL_law0_r23 : List Cond := [Cond.code yX6_counts cX6_counts 5 none, Cond.methodLink RX6 118 yX6_goesOn, Cond.instanceMethod yX6_goesOn, Cond.selects RX6 yX6_goesOn yX6_goesOn, Cond.code yX6_goesOn cX6_goesOn 6 none, Cond.fieldLink RX6 108 "MultidellModel" "queued" "I", Cond.fieldLink RX6 111 "MultidellModel" "wasted" "I", Cond.methodLink RL 130 yX5_follow, Cond.instanceMethod yX5_follow, Cond.selects RX5 yX5_follow yX5_follow, Cond.code yX5_follow cX5_follow 5 (some .int), Cond.methodLink RX5 169 yX0_isEmpty, Cond.instanceMethod yX0_isEmpty, Cond.selects RX0 yX0_isEmpty yX0_isEmpty, Cond.code yX0_isEmpty cX0_isEmpty 1 (some .boolean), Cond.methodLink RX5 172 yX0_firstPacket, Cond.instanceMethod yX0_firstPacket, Cond.selects RX0 yX0_firstPacket yX0_firstPacket, Cond.code yX0_firstPacket cX0_firstPacket 1 (some .int), Cond.methodLink RX0 31 yX0_firstIn, Cond.instanceMethod yX0_firstIn, Cond.selects RX0 yX0_firstIn yX0_firstIn, Cond.code yX0_firstIn cX0_firstIn 2 (some .int), Cond.methodLink RX5 175 yX0_firstTree]
def wsL_law0_r24 : List Cond := [Cond.instanceMethod yX0_firstTree, Cond.selects RX0 yX0_firstTree yX0_firstTree, Cond.code yX0_firstTree cX0_firstTree 1 (some .int), Cond.methodLink RX5 178 yX0_firstFrom, Cond.instanceMethod yX0_firstFrom, Cond.selects RX0 yX0_firstFrom yX0_firstFrom, Cond.code yX0_firstFrom cX0_firstFrom 1 (some .int), Cond.methodLink RX5 181 yX0_firstTo, Cond.instanceMethod yX0_firstTo, Cond.selects RX0 yX0_firstTo yX0_firstTo, Cond.code yX0_firstTo cX0_firstTo 1 (some .int), Cond.methodLink RX5 184 yX0_removeFirst, Cond.instanceMethod yX0_removeFirst, Cond.selects RX0 yX0_removeFirst yX0_removeFirst, Cond.code yX0_removeFirst cX0_removeFirst 1 none, Cond.methodLink RL 133 yX6_follow, Cond.instanceMethod yX6_follow, Cond.selects RX6 yX6_follow yX6_follow, Cond.code yX6_follow cX6_follow 1 (some .int), Cond.methodLink RX6 128 yX6_follows, Cond.instanceMethod yX6_follows, Cond.selects RX6 yX6_follows yX6_follows, Cond.code yX6_follows cX6_follows 7 (some .int), Cond.methodLink RL 134 yX5_followAll]
def wsL_law0_r25 : List Cond := [Cond.instanceMethod yX5_followAll, Cond.selects RX5 yX5_followAll yX5_followAll, Cond.code yX5_followAll cX5_followAll 2 (some .int), Cond.constant RX5 190 (1000000), Cond.methodLink RX5 191 yX5_follow, Cond.methodLink RL 137 yX6_followAll, Cond.instanceMethod yX6_followAll, Cond.selects RX6 yX6_followAll yX6_followAll, Cond.code yX6_followAll cX6_followAll 2 (some .int), Cond.methodLink RL 138 yX5_queued, Cond.instanceMethod yX5_queued, Cond.selects RX5 yX5_queued yX5_queued, Cond.code yX5_queued cX5_queued 1 (some .int), Cond.methodLink RX5 194 yX0_count, Cond.instanceMethod yX0_count, Cond.selects RX0 yX0_count yX0_count, Cond.code yX0_count cX0_count 1 (some .int), Cond.methodLink RL 141 yX6_queued, Cond.instanceMethod yX6_queued, Cond.selects RX6 yX6_queued yX6_queued, Cond.code yX6_queued cX6_queued 1 (some .int), Cond.methodLink RL 142 yX5_nextTo, Cond.instanceMethod yX5_nextTo, Cond.selects RX5 yX5_nextTo yX5_nextTo]
def wsL_law0_r26 : List Cond := [Cond.code yX5_nextTo cX5_nextTo 1 (some .int), Cond.methodLink RL 145 yX6_nextTo, Cond.instanceMethod yX6_nextTo, Cond.selects RX6 yX6_nextTo yX6_nextTo, Cond.code yX6_nextTo cX6_nextTo 1 (some .int), Cond.methodLink RL 146 yL_received, Cond.static yL_received, Cond.codeWith yL_received cL_received 4 (some .int) [(0, 9, 12, 13)], Cond.methodLink RL 58 yX5_received, Cond.instanceMethod yX5_received, Cond.selects RX5 yX5_received yX5_received, Cond.code yX5_received cX5_received 2 (some .int), Cond.methodLink RX5 197 yX5_checkPacket, Cond.instanceMethod yX5_checkPacket, Cond.selects RX5 yX5_checkPacket yX5_checkPacket, Cond.code yX5_checkPacket cX5_checkPacket 2 none, Cond.methodLink RX5 244 yX3_isPacket, Cond.methodLink RL 148 yX6_received, Cond.instanceMethod yX6_received, Cond.selects RX6 yX6_received yX6_received, Cond.code yX6_received cX6_received 2 (some .int), Cond.methodLink RX6 132 yX6_isPacket, Cond.instanceMethod yX6_isPacket, Cond.selects RX6 yX6_isPacket yX6_isPacket]
def wsL_law0_r27 : List Cond := [Cond.code yX6_isPacket cX6_isPacket 2 (some .boolean), Cond.methodLink RL 149 yL_doubles, Cond.static yL_doubles, Cond.codeWith yL_doubles cL_doubles 4 (some .int) [(0, 9, 12, 13)], Cond.methodLink RL 61 yX5_doubles, Cond.instanceMethod yX5_doubles, Cond.selects RX5 yX5_doubles yX5_doubles, Cond.code yX5_doubles cX5_doubles 2 (some .int), Cond.methodLink RX5 203 yX3_doublesOf, Cond.instanceMethod yX3_doublesOf, Cond.selects RX3 yX3_doublesOf yX3_doublesOf, Cond.code yX3_doublesOf cX3_doublesOf 2 (some .int), Cond.methodLink RL 151 yX6_doubles, Cond.instanceMethod yX6_doubles, Cond.selects RX6 yX6_doubles yX6_doubles, Cond.code yX6_doubles cX6_doubles 2 (some .int), Cond.methodLink RL 152 yX5_wasted, Cond.instanceMethod yX5_wasted, Cond.selects RX5 yX5_wasted yX5_wasted, Cond.code yX5_wasted cX5_wasted 1 (some .int), Cond.methodLink RL 155 yX6_wasted, Cond.instanceMethod yX6_wasted, Cond.selects RX6 yX6_wasted yX6_wasted, Cond.code yX6_wasted cX6_wasted 1 (some .int)]
def wsL_law0_r28 : List Cond := [Cond.methodLink RL 156 yL_pass, Cond.static yL_pass, Cond.codeWith yL_pass cL_pass 4 (some .int) [(0, 9, 12, 15)], Cond.methodLink RL 64 yX5_pass, Cond.instanceMethod yX5_pass, Cond.selects RX5 yX5_pass yX5_pass, Cond.code yX5_pass cX5_pass 4 (some .int), Cond.methodLink RX5 208 yX2_removeDue, Cond.instanceMethod yX2_removeDue, Cond.selects RX2 yX2_removeDue yX2_removeDue, Cond.code yX2_removeDue cX2_removeDue 5 (some .int), Cond.methodLink RX2 61 yX2_isDue, Cond.instanceMethod yX2_isDue, Cond.selects RX2 yX2_isDue yX2_isDue, Cond.code yX2_isDue cX2_isDue 4 (some .boolean), Cond.methodLink RX2 65 yX2_remove, Cond.instanceMethod yX2_remove, Cond.selects RX2 yX2_remove yX2_remove, Cond.code yX2_remove cX2_remove 5 none, Cond.methodLink RX5 211 yX1_forgetAll, Cond.instanceMethod yX1_forgetAll, Cond.selects RX1 yX1_forgetAll yX1_forgetAll, Cond.code yX1_forgetAll cX1_forgetAll 1 none, Cond.methodLink RX1 23 yJ7_fill_53178]
def wsL_law0_r29 : List Cond := [Cond.methodLink RL 158 yX6_pass, Cond.instanceMethod yX6_pass, Cond.selects RX6 yX6_pass yX6_pass, Cond.code yX6_pass cX6_pass 5 (some .int), Cond.methodLink RX6 135 yX6_second, Cond.instanceMethod yX6_second, Cond.selects RX6 yX6_second yX6_second, Cond.code yX6_second cX6_second 6 (some .int), Cond.methodLink RL 159 yX5_clock, Cond.instanceMethod yX5_clock, Cond.selects RX5 yX5_clock yX5_clock, Cond.code yX5_clock cX5_clock 1 (some .int), Cond.methodLink RL 162 yX6_clock, Cond.instanceMethod yX6_clock, Cond.selects RX6 yX6_clock yX6_clock, Cond.code yX6_clock cX6_clock 1 (some .int), Cond.methodLink RL 163 yL_floodMembers, Cond.static yL_floodMembers, Cond.codeWith yL_floodMembers cL_floodMembers 5 (some .int) [(0, 10, 13, 13)], Cond.methodLink RL 67 yX5_floodMembers, Cond.instanceMethod yX5_floodMembers, Cond.selects RX5 yX5_floodMembers yX5_floodMembers, Cond.code yX5_floodMembers cX5_floodMembers 3 (some .int), Cond.methodLink RX5 214 yX5_floodedFrom]
def wsL_law0_r30 : List Cond := [Cond.instanceMethod yX5_floodedFrom, Cond.selects RX5 yX5_floodedFrom yX5_floodedFrom, Cond.code yX5_floodedFrom cX5_floodedFrom 4 (some .int), Cond.methodLink RL 165 yX6_floodMembers, Cond.instanceMethod yX6_floodMembers, Cond.selects RX6 yX6_floodMembers yX6_floodMembers, Cond.code yX6_floodMembers cX6_floodMembers 5 (some .int), Cond.methodLink RL 166 yL_floodCopies, Cond.static yL_floodCopies, Cond.codeWith yL_floodCopies cL_floodCopies 4 (some .int) [(0, 9, 12, 13)], Cond.methodLink RL 70 yX5_floodCopies, Cond.instanceMethod yX5_floodCopies, Cond.selects RX5 yX5_floodCopies yX5_floodCopies, Cond.code yX5_floodCopies cX5_floodCopies 5 (some .int), Cond.methodLink RX5 217 yX4_linksOf, Cond.instanceMethod yX4_linksOf, Cond.selects RX4 yX4_linksOf yX4_linksOf, Cond.code yX4_linksOf cX4_linksOf 4 (some .int), Cond.methodLink RL 168 yX6_floodCopies, Cond.instanceMethod yX6_floodCopies, Cond.selects RX6 yX6_floodCopies yX6_floodCopies, Cond.code yX6_floodCopies cX6_floodCopies 6 (some .int)]
def wsL_law0 : List Cond := (wsL_law0_r1 ++ (wsL_law0_r2 ++ (wsL_law0_r3 ++ (wsL_law0_r4 ++ (wsL_law0_r5 ++ (wsL_law0_r6 ++ (wsL_law0_r7 ++ (wsL_law0_r8 ++ (wsL_law0_r9 ++ (wsL_law0_r10 ++ (wsL_law0_r11 ++ (wsL_law0_r12 ++ (wsL_law0_r13 ++ (wsL_law0_r14 ++ (wsL_law0_r15 ++ (wsL_law0_r16 ++ (wsL_law0_r17 ++ (wsL_law0_r18 ++ (wsL_law0_r19 ++ (wsL_law0_r20 ++ (wsL_law0_r21 ++ (wsL_law0_r22 ++ (wsL_law0_r23 ++ (wsL_law0_r24 ++ (wsL_law0_r25 ++ (wsL_law0_r26 ++ (wsL_law0_r27 ++ (wsL_law0_r28 ++ (wsL_law0_r29 ++ wsL_law0_r30))))))))))))))))))))))))))))) ++ wsX50 ++ wsX60 ++ wsX40 ++ wsX20 ++ wsX30 ++ wsX00 ++ wsX10 ++ ([] : List Cond)
def wsL_law : List Cond := wsL_law0 ++ (vx_atS RX5 56 "java/lang/IllegalArgumentException" ["java/lang/RuntimeException", "java/lang/Exception"]).filter goodWord ++ (vx_atS RX5 251 "java/lang/IndexOutOfBoundsException" ["java/lang/RuntimeException", "java/lang/Exception"]).filter goodWord ++ (vx_atS RX5 113 "java/lang/IllegalStateException" ["java/lang/RuntimeException", "java/lang/Exception"]).filter goodWord
theorem inlX0 : ∀ w ∈ wsX00, w ∈ wsL_law := fun _ h => List.mem_append_left _ (List.mem_append_left _ (List.mem_append_left _ (List.mem_append_left _ (List.mem_append_left _ (List.mem_append_right _ h)))))
theorem inlX1 : ∀ w ∈ wsX10, w ∈ wsL_law := fun _ h => List.mem_append_left _ (List.mem_append_left _ (List.mem_append_left _ (List.mem_append_left _ (List.mem_append_right _ h))))
theorem inlX2 : ∀ w ∈ wsX20, w ∈ wsL_law := fun _ h => List.mem_append_left _ (List.mem_append_left _ (List.mem_append_left _ (List.mem_append_left _ (List.mem_append_left _ (List.mem_append_left _ (List.mem_append_left _ (List.mem_append_right _ h)))))))
theorem inlX3 : ∀ w ∈ wsX30, w ∈ wsL_law := fun _ h => List.mem_append_left _ (List.mem_append_left _ (List.mem_append_left _ (List.mem_append_left _ (List.mem_append_left _ (List.mem_append_left _ (List.mem_append_right _ h))))))
theorem inlX4 : ∀ w ∈ wsX40, w ∈ wsL_law := fun _ h => List.mem_append_left _ (List.mem_append_left _ (List.mem_append_left _ (List.mem_append_left _ (List.mem_append_left _ (List.mem_append_left _ (List.mem_append_left _ (List.mem_append_left _ (List.mem_append_right _ h))))))))
theorem inlX5 : ∀ w ∈ wsX50, w ∈ wsL_law := fun _ h => List.mem_append_left _ (List.mem_append_left _ (List.mem_append_left _ (List.mem_append_left _ (List.mem_append_left _ (List.mem_append_left _ (List.mem_append_left _ (List.mem_append_left _ (List.mem_append_left _ (List.mem_append_left _ (List.mem_append_right _ h))))))))))
theorem inlX6 : ∀ w ∈ wsX60, w ∈ wsL_law := fun _ h => List.mem_append_left _ (List.mem_append_left _ (List.mem_append_left _ (List.mem_append_left _ (List.mem_append_left _ (List.mem_append_left _ (List.mem_append_left _ (List.mem_append_left _ (List.mem_append_left _ (List.mem_append_right _ h)))))))))
theorem inr_1 : ∀ w ∈ wsL_law0_r1, w ∈ wsL_law := fun _ h => (List.mem_append_left _ (List.mem_append_left _ (List.mem_append_left _ (List.mem_append_left _ (List.mem_append_left _ (List.mem_append_left _ (List.mem_append_left _ (List.mem_append_left _ (List.mem_append_left _ (List.mem_append_left _ (List.mem_append_left _ (List.mem_append_left _ h))))))))))))
theorem inr_2 : ∀ w ∈ wsL_law0_r2, w ∈ wsL_law := fun _ h => (List.mem_append_left _ (List.mem_append_left _ (List.mem_append_left _ (List.mem_append_left _ (List.mem_append_left _ (List.mem_append_left _ (List.mem_append_left _ (List.mem_append_left _ (List.mem_append_left _ (List.mem_append_left _ (List.mem_append_left _ (List.mem_append_right _ (List.mem_append_left _ h)))))))))))))
theorem inr_3 : ∀ w ∈ wsL_law0_r3, w ∈ wsL_law := fun _ h => (List.mem_append_left _ (List.mem_append_left _ (List.mem_append_left _ (List.mem_append_left _ (List.mem_append_left _ (List.mem_append_left _ (List.mem_append_left _ (List.mem_append_left _ (List.mem_append_left _ (List.mem_append_left _ (List.mem_append_left _ (List.mem_append_right _ (List.mem_append_right _ (List.mem_append_left _ h))))))))))))))
theorem inr_4 : ∀ w ∈ wsL_law0_r4, w ∈ wsL_law := fun _ h => (List.mem_append_left _ (List.mem_append_left _ (List.mem_append_left _ (List.mem_append_left _ (List.mem_append_left _ (List.mem_append_left _ (List.mem_append_left _ (List.mem_append_left _ (List.mem_append_left _ (List.mem_append_left _ (List.mem_append_left _ (List.mem_append_right _ (List.mem_append_right _ (List.mem_append_right _ (List.mem_append_left _ h)))))))))))))))
theorem inr_5 : ∀ w ∈ wsL_law0_r5, w ∈ wsL_law := fun _ h => (List.mem_append_left _ (List.mem_append_left _ (List.mem_append_left _ (List.mem_append_left _ (List.mem_append_left _ (List.mem_append_left _ (List.mem_append_left _ (List.mem_append_left _ (List.mem_append_left _ (List.mem_append_left _ (List.mem_append_left _ (List.mem_append_right _ (List.mem_append_right _ (List.mem_append_right _ (List.mem_append_right _ (List.mem_append_left _ h))))))))))))))))
theorem inr_6 : ∀ w ∈ wsL_law0_r6, w ∈ wsL_law := fun _ h => (List.mem_append_left _ (List.mem_append_left _ (List.mem_append_left _ (List.mem_append_left _ (List.mem_append_left _ (List.mem_append_left _ (List.mem_append_left _ (List.mem_append_left _ (List.mem_append_left _ (List.mem_append_left _ (List.mem_append_left _ (List.mem_append_right _ (List.mem_append_right _ (List.mem_append_right _ (List.mem_append_right _ (List.mem_append_right _ (List.mem_append_left _ h)))))))))))))))))
theorem inr_7 : ∀ w ∈ wsL_law0_r7, w ∈ wsL_law := fun _ h => (List.mem_append_left _ (List.mem_append_left _ (List.mem_append_left _ (List.mem_append_left _ (List.mem_append_left _ (List.mem_append_left _ (List.mem_append_left _ (List.mem_append_left _ (List.mem_append_left _ (List.mem_append_left _ (List.mem_append_left _ (List.mem_append_right _ (List.mem_append_right _ (List.mem_append_right _ (List.mem_append_right _ (List.mem_append_right _ (List.mem_append_right _ (List.mem_append_left _ h))))))))))))))))))
theorem inr_8 : ∀ w ∈ wsL_law0_r8, w ∈ wsL_law := fun _ h => (List.mem_append_left _ (List.mem_append_left _ (List.mem_append_left _ (List.mem_append_left _ (List.mem_append_left _ (List.mem_append_left _ (List.mem_append_left _ (List.mem_append_left _ (List.mem_append_left _ (List.mem_append_left _ (List.mem_append_left _ (List.mem_append_right _ (List.mem_append_right _ (List.mem_append_right _ (List.mem_append_right _ (List.mem_append_right _ (List.mem_append_right _ (List.mem_append_right _ (List.mem_append_left _ h)))))))))))))))))))
theorem inr_9 : ∀ w ∈ wsL_law0_r9, w ∈ wsL_law := fun _ h => (List.mem_append_left _ (List.mem_append_left _ (List.mem_append_left _ (List.mem_append_left _ (List.mem_append_left _ (List.mem_append_left _ (List.mem_append_left _ (List.mem_append_left _ (List.mem_append_left _ (List.mem_append_left _ (List.mem_append_left _ (List.mem_append_right _ (List.mem_append_right _ (List.mem_append_right _ (List.mem_append_right _ (List.mem_append_right _ (List.mem_append_right _ (List.mem_append_right _ (List.mem_append_right _ (List.mem_append_left _ h))))))))))))))))))))
theorem inr_10 : ∀ w ∈ wsL_law0_r10, w ∈ wsL_law := fun _ h => (List.mem_append_left _ (List.mem_append_left _ (List.mem_append_left _ (List.mem_append_left _ (List.mem_append_left _ (List.mem_append_left _ (List.mem_append_left _ (List.mem_append_left _ (List.mem_append_left _ (List.mem_append_left _ (List.mem_append_left _ (List.mem_append_right _ (List.mem_append_right _ (List.mem_append_right _ (List.mem_append_right _ (List.mem_append_right _ (List.mem_append_right _ (List.mem_append_right _ (List.mem_append_right _ (List.mem_append_right _ (List.mem_append_left _ h)))))))))))))))))))))
theorem inr_11 : ∀ w ∈ wsL_law0_r11, w ∈ wsL_law := fun _ h => (List.mem_append_left _ (List.mem_append_left _ (List.mem_append_left _ (List.mem_append_left _ (List.mem_append_left _ (List.mem_append_left _ (List.mem_append_left _ (List.mem_append_left _ (List.mem_append_left _ (List.mem_append_left _ (List.mem_append_left _ (List.mem_append_right _ (List.mem_append_right _ (List.mem_append_right _ (List.mem_append_right _ (List.mem_append_right _ (List.mem_append_right _ (List.mem_append_right _ (List.mem_append_right _ (List.mem_append_right _ (List.mem_append_right _ (List.mem_append_left _ h))))))))))))))))))))))
theorem inr_12 : ∀ w ∈ wsL_law0_r12, w ∈ wsL_law := fun _ h => (List.mem_append_left _ (List.mem_append_left _ (List.mem_append_left _ (List.mem_append_left _ (List.mem_append_left _ (List.mem_append_left _ (List.mem_append_left _ (List.mem_append_left _ (List.mem_append_left _ (List.mem_append_left _ (List.mem_append_left _ (List.mem_append_right _ (List.mem_append_right _ (List.mem_append_right _ (List.mem_append_right _ (List.mem_append_right _ (List.mem_append_right _ (List.mem_append_right _ (List.mem_append_right _ (List.mem_append_right _ (List.mem_append_right _ (List.mem_append_right _ (List.mem_append_left _ h)))))))))))))))))))))))
theorem inr_13 : ∀ w ∈ wsL_law0_r13, w ∈ wsL_law := fun _ h => (List.mem_append_left _ (List.mem_append_left _ (List.mem_append_left _ (List.mem_append_left _ (List.mem_append_left _ (List.mem_append_left _ (List.mem_append_left _ (List.mem_append_left _ (List.mem_append_left _ (List.mem_append_left _ (List.mem_append_left _ (List.mem_append_right _ (List.mem_append_right _ (List.mem_append_right _ (List.mem_append_right _ (List.mem_append_right _ (List.mem_append_right _ (List.mem_append_right _ (List.mem_append_right _ (List.mem_append_right _ (List.mem_append_right _ (List.mem_append_right _ (List.mem_append_right _ (List.mem_append_left _ h))))))))))))))))))))))))
theorem inr_14 : ∀ w ∈ wsL_law0_r14, w ∈ wsL_law := fun _ h => (List.mem_append_left _ (List.mem_append_left _ (List.mem_append_left _ (List.mem_append_left _ (List.mem_append_left _ (List.mem_append_left _ (List.mem_append_left _ (List.mem_append_left _ (List.mem_append_left _ (List.mem_append_left _ (List.mem_append_left _ (List.mem_append_right _ (List.mem_append_right _ (List.mem_append_right _ (List.mem_append_right _ (List.mem_append_right _ (List.mem_append_right _ (List.mem_append_right _ (List.mem_append_right _ (List.mem_append_right _ (List.mem_append_right _ (List.mem_append_right _ (List.mem_append_right _ (List.mem_append_right _ (List.mem_append_left _ h)))))))))))))))))))))))))
theorem inr_15 : ∀ w ∈ wsL_law0_r15, w ∈ wsL_law := fun _ h => (List.mem_append_left _ (List.mem_append_left _ (List.mem_append_left _ (List.mem_append_left _ (List.mem_append_left _ (List.mem_append_left _ (List.mem_append_left _ (List.mem_append_left _ (List.mem_append_left _ (List.mem_append_left _ (List.mem_append_left _ (List.mem_append_right _ (List.mem_append_right _ (List.mem_append_right _ (List.mem_append_right _ (List.mem_append_right _ (List.mem_append_right _ (List.mem_append_right _ (List.mem_append_right _ (List.mem_append_right _ (List.mem_append_right _ (List.mem_append_right _ (List.mem_append_right _ (List.mem_append_right _ (List.mem_append_right _ (List.mem_append_left _ h))))))))))))))))))))))))))
theorem inr_16 : ∀ w ∈ wsL_law0_r16, w ∈ wsL_law := fun _ h => (List.mem_append_left _ (List.mem_append_left _ (List.mem_append_left _ (List.mem_append_left _ (List.mem_append_left _ (List.mem_append_left _ (List.mem_append_left _ (List.mem_append_left _ (List.mem_append_left _ (List.mem_append_left _ (List.mem_append_left _ (List.mem_append_right _ (List.mem_append_right _ (List.mem_append_right _ (List.mem_append_right _ (List.mem_append_right _ (List.mem_append_right _ (List.mem_append_right _ (List.mem_append_right _ (List.mem_append_right _ (List.mem_append_right _ (List.mem_append_right _ (List.mem_append_right _ (List.mem_append_right _ (List.mem_append_right _ (List.mem_append_right _ (List.mem_append_left _ h)))))))))))))))))))))))))))
theorem inr_17 : ∀ w ∈ wsL_law0_r17, w ∈ wsL_law := fun _ h => (List.mem_append_left _ (List.mem_append_left _ (List.mem_append_left _ (List.mem_append_left _ (List.mem_append_left _ (List.mem_append_left _ (List.mem_append_left _ (List.mem_append_left _ (List.mem_append_left _ (List.mem_append_left _ (List.mem_append_left _ (List.mem_append_right _ (List.mem_append_right _ (List.mem_append_right _ (List.mem_append_right _ (List.mem_append_right _ (List.mem_append_right _ (List.mem_append_right _ (List.mem_append_right _ (List.mem_append_right _ (List.mem_append_right _ (List.mem_append_right _ (List.mem_append_right _ (List.mem_append_right _ (List.mem_append_right _ (List.mem_append_right _ (List.mem_append_right _ (List.mem_append_left _ h))))))))))))))))))))))))))))
theorem inr_18 : ∀ w ∈ wsL_law0_r18, w ∈ wsL_law := fun _ h => (List.mem_append_left _ (List.mem_append_left _ (List.mem_append_left _ (List.mem_append_left _ (List.mem_append_left _ (List.mem_append_left _ (List.mem_append_left _ (List.mem_append_left _ (List.mem_append_left _ (List.mem_append_left _ (List.mem_append_left _ (List.mem_append_right _ (List.mem_append_right _ (List.mem_append_right _ (List.mem_append_right _ (List.mem_append_right _ (List.mem_append_right _ (List.mem_append_right _ (List.mem_append_right _ (List.mem_append_right _ (List.mem_append_right _ (List.mem_append_right _ (List.mem_append_right _ (List.mem_append_right _ (List.mem_append_right _ (List.mem_append_right _ (List.mem_append_right _ (List.mem_append_right _ (List.mem_append_left _ h)))))))))))))))))))))))))))))
theorem inr_19 : ∀ w ∈ wsL_law0_r19, w ∈ wsL_law := fun _ h => (List.mem_append_left _ (List.mem_append_left _ (List.mem_append_left _ (List.mem_append_left _ (List.mem_append_left _ (List.mem_append_left _ (List.mem_append_left _ (List.mem_append_left _ (List.mem_append_left _ (List.mem_append_left _ (List.mem_append_left _ (List.mem_append_right _ (List.mem_append_right _ (List.mem_append_right _ (List.mem_append_right _ (List.mem_append_right _ (List.mem_append_right _ (List.mem_append_right _ (List.mem_append_right _ (List.mem_append_right _ (List.mem_append_right _ (List.mem_append_right _ (List.mem_append_right _ (List.mem_append_right _ (List.mem_append_right _ (List.mem_append_right _ (List.mem_append_right _ (List.mem_append_right _ (List.mem_append_right _ (List.mem_append_left _ h))))))))))))))))))))))))))))))
theorem inr_20 : ∀ w ∈ wsL_law0_r20, w ∈ wsL_law := fun _ h => (List.mem_append_left _ (List.mem_append_left _ (List.mem_append_left _ (List.mem_append_left _ (List.mem_append_left _ (List.mem_append_left _ (List.mem_append_left _ (List.mem_append_left _ (List.mem_append_left _ (List.mem_append_left _ (List.mem_append_left _ (List.mem_append_right _ (List.mem_append_right _ (List.mem_append_right _ (List.mem_append_right _ (List.mem_append_right _ (List.mem_append_right _ (List.mem_append_right _ (List.mem_append_right _ (List.mem_append_right _ (List.mem_append_right _ (List.mem_append_right _ (List.mem_append_right _ (List.mem_append_right _ (List.mem_append_right _ (List.mem_append_right _ (List.mem_append_right _ (List.mem_append_right _ (List.mem_append_right _ (List.mem_append_right _ (List.mem_append_left _ h)))))))))))))))))))))))))))))))
theorem inr_21 : ∀ w ∈ wsL_law0_r21, w ∈ wsL_law := fun _ h => (List.mem_append_left _ (List.mem_append_left _ (List.mem_append_left _ (List.mem_append_left _ (List.mem_append_left _ (List.mem_append_left _ (List.mem_append_left _ (List.mem_append_left _ (List.mem_append_left _ (List.mem_append_left _ (List.mem_append_left _ (List.mem_append_right _ (List.mem_append_right _ (List.mem_append_right _ (List.mem_append_right _ (List.mem_append_right _ (List.mem_append_right _ (List.mem_append_right _ (List.mem_append_right _ (List.mem_append_right _ (List.mem_append_right _ (List.mem_append_right _ (List.mem_append_right _ (List.mem_append_right _ (List.mem_append_right _ (List.mem_append_right _ (List.mem_append_right _ (List.mem_append_right _ (List.mem_append_right _ (List.mem_append_right _ (List.mem_append_right _ (List.mem_append_left _ h))))))))))))))))))))))))))))))))
theorem inr_22 : ∀ w ∈ wsL_law0_r22, w ∈ wsL_law := fun _ h => (List.mem_append_left _ (List.mem_append_left _ (List.mem_append_left _ (List.mem_append_left _ (List.mem_append_left _ (List.mem_append_left _ (List.mem_append_left _ (List.mem_append_left _ (List.mem_append_left _ (List.mem_append_left _ (List.mem_append_left _ (List.mem_append_right _ (List.mem_append_right _ (List.mem_append_right _ (List.mem_append_right _ (List.mem_append_right _ (List.mem_append_right _ (List.mem_append_right _ (List.mem_append_right _ (List.mem_append_right _ (List.mem_append_right _ (List.mem_append_right _ (List.mem_append_right _ (List.mem_append_right _ (List.mem_append_right _ (List.mem_append_right _ (List.mem_append_right _ (List.mem_append_right _ (List.mem_append_right _ (List.mem_append_right _ (List.mem_append_right _ (List.mem_append_right _ (List.mem_append_left _ h)))))))))))))))))))))))))))))))))
theorem inr_23 : ∀ w ∈ wsL_law0_r23, w ∈ wsL_law := fun _ h => (List.mem_append_left _ (List.mem_append_left _ (List.mem_append_left _ (List.mem_append_left _ (List.mem_append_left _ (List.mem_append_left _ (List.mem_append_left _ (List.mem_append_left _ (List.mem_append_left _ (List.mem_append_left _ (List.mem_append_left _ (List.mem_append_right _ (List.mem_append_right _ (List.mem_append_right _ (List.mem_append_right _ (List.mem_append_right _ (List.mem_append_right _ (List.mem_append_right _ (List.mem_append_right _ (List.mem_append_right _ (List.mem_append_right _ (List.mem_append_right _ (List.mem_append_right _ (List.mem_append_right _ (List.mem_append_right _ (List.mem_append_right _ (List.mem_append_right _ (List.mem_append_right _ (List.mem_append_right _ (List.mem_append_right _ (List.mem_append_right _ (List.mem_append_right _ (List.mem_append_right _ (List.mem_append_left _ h))))))))))))))))))))))))))))))))))
theorem inr_24 : ∀ w ∈ wsL_law0_r24, w ∈ wsL_law := fun _ h => (List.mem_append_left _ (List.mem_append_left _ (List.mem_append_left _ (List.mem_append_left _ (List.mem_append_left _ (List.mem_append_left _ (List.mem_append_left _ (List.mem_append_left _ (List.mem_append_left _ (List.mem_append_left _ (List.mem_append_left _ (List.mem_append_right _ (List.mem_append_right _ (List.mem_append_right _ (List.mem_append_right _ (List.mem_append_right _ (List.mem_append_right _ (List.mem_append_right _ (List.mem_append_right _ (List.mem_append_right _ (List.mem_append_right _ (List.mem_append_right _ (List.mem_append_right _ (List.mem_append_right _ (List.mem_append_right _ (List.mem_append_right _ (List.mem_append_right _ (List.mem_append_right _ (List.mem_append_right _ (List.mem_append_right _ (List.mem_append_right _ (List.mem_append_right _ (List.mem_append_right _ (List.mem_append_right _ (List.mem_append_left _ h)))))))))))))))))))))))))))))))))))
theorem inr_25 : ∀ w ∈ wsL_law0_r25, w ∈ wsL_law := fun _ h => (List.mem_append_left _ (List.mem_append_left _ (List.mem_append_left _ (List.mem_append_left _ (List.mem_append_left _ (List.mem_append_left _ (List.mem_append_left _ (List.mem_append_left _ (List.mem_append_left _ (List.mem_append_left _ (List.mem_append_left _ (List.mem_append_right _ (List.mem_append_right _ (List.mem_append_right _ (List.mem_append_right _ (List.mem_append_right _ (List.mem_append_right _ (List.mem_append_right _ (List.mem_append_right _ (List.mem_append_right _ (List.mem_append_right _ (List.mem_append_right _ (List.mem_append_right _ (List.mem_append_right _ (List.mem_append_right _ (List.mem_append_right _ (List.mem_append_right _ (List.mem_append_right _ (List.mem_append_right _ (List.mem_append_right _ (List.mem_append_right _ (List.mem_append_right _ (List.mem_append_right _ (List.mem_append_right _ (List.mem_append_right _ (List.mem_append_left _ h))))))))))))))))))))))))))))))))))))
theorem inr_26 : ∀ w ∈ wsL_law0_r26, w ∈ wsL_law := fun _ h => (List.mem_append_left _ (List.mem_append_left _ (List.mem_append_left _ (List.mem_append_left _ (List.mem_append_left _ (List.mem_append_left _ (List.mem_append_left _ (List.mem_append_left _ (List.mem_append_left _ (List.mem_append_left _ (List.mem_append_left _ (List.mem_append_right _ (List.mem_append_right _ (List.mem_append_right _ (List.mem_append_right _ (List.mem_append_right _ (List.mem_append_right _ (List.mem_append_right _ (List.mem_append_right _ (List.mem_append_right _ (List.mem_append_right _ (List.mem_append_right _ (List.mem_append_right _ (List.mem_append_right _ (List.mem_append_right _ (List.mem_append_right _ (List.mem_append_right _ (List.mem_append_right _ (List.mem_append_right _ (List.mem_append_right _ (List.mem_append_right _ (List.mem_append_right _ (List.mem_append_right _ (List.mem_append_right _ (List.mem_append_right _ (List.mem_append_right _ (List.mem_append_left _ h)))))))))))))))))))))))))))))))))))))
theorem inr_27 : ∀ w ∈ wsL_law0_r27, w ∈ wsL_law := fun _ h => (List.mem_append_left _ (List.mem_append_left _ (List.mem_append_left _ (List.mem_append_left _ (List.mem_append_left _ (List.mem_append_left _ (List.mem_append_left _ (List.mem_append_left _ (List.mem_append_left _ (List.mem_append_left _ (List.mem_append_left _ (List.mem_append_right _ (List.mem_append_right _ (List.mem_append_right _ (List.mem_append_right _ (List.mem_append_right _ (List.mem_append_right _ (List.mem_append_right _ (List.mem_append_right _ (List.mem_append_right _ (List.mem_append_right _ (List.mem_append_right _ (List.mem_append_right _ (List.mem_append_right _ (List.mem_append_right _ (List.mem_append_right _ (List.mem_append_right _ (List.mem_append_right _ (List.mem_append_right _ (List.mem_append_right _ (List.mem_append_right _ (List.mem_append_right _ (List.mem_append_right _ (List.mem_append_right _ (List.mem_append_right _ (List.mem_append_right _ (List.mem_append_right _ (List.mem_append_left _ h))))))))))))))))))))))))))))))))))))))
theorem inr_28 : ∀ w ∈ wsL_law0_r28, w ∈ wsL_law := fun _ h => (List.mem_append_left _ (List.mem_append_left _ (List.mem_append_left _ (List.mem_append_left _ (List.mem_append_left _ (List.mem_append_left _ (List.mem_append_left _ (List.mem_append_left _ (List.mem_append_left _ (List.mem_append_left _ (List.mem_append_left _ (List.mem_append_right _ (List.mem_append_right _ (List.mem_append_right _ (List.mem_append_right _ (List.mem_append_right _ (List.mem_append_right _ (List.mem_append_right _ (List.mem_append_right _ (List.mem_append_right _ (List.mem_append_right _ (List.mem_append_right _ (List.mem_append_right _ (List.mem_append_right _ (List.mem_append_right _ (List.mem_append_right _ (List.mem_append_right _ (List.mem_append_right _ (List.mem_append_right _ (List.mem_append_right _ (List.mem_append_right _ (List.mem_append_right _ (List.mem_append_right _ (List.mem_append_right _ (List.mem_append_right _ (List.mem_append_right _ (List.mem_append_right _ (List.mem_append_right _ (List.mem_append_left _ h)))))))))))))))))))))))))))))))))))))))
theorem inr_29 : ∀ w ∈ wsL_law0_r29, w ∈ wsL_law := fun _ h => (List.mem_append_left _ (List.mem_append_left _ (List.mem_append_left _ (List.mem_append_left _ (List.mem_append_left _ (List.mem_append_left _ (List.mem_append_left _ (List.mem_append_left _ (List.mem_append_left _ (List.mem_append_left _ (List.mem_append_left _ (List.mem_append_right _ (List.mem_append_right _ (List.mem_append_right _ (List.mem_append_right _ (List.mem_append_right _ (List.mem_append_right _ (List.mem_append_right _ (List.mem_append_right _ (List.mem_append_right _ (List.mem_append_right _ (List.mem_append_right _ (List.mem_append_right _ (List.mem_append_right _ (List.mem_append_right _ (List.mem_append_right _ (List.mem_append_right _ (List.mem_append_right _ (List.mem_append_right _ (List.mem_append_right _ (List.mem_append_right _ (List.mem_append_right _ (List.mem_append_right _ (List.mem_append_right _ (List.mem_append_right _ (List.mem_append_right _ (List.mem_append_right _ (List.mem_append_right _ (List.mem_append_right _ (List.mem_append_left _ h))))))))))))))))))))))))))))))))))))))))
theorem inr_30 : ∀ w ∈ wsL_law0_r30, w ∈ wsL_law := fun _ h => (List.mem_append_left _ (List.mem_append_left _ (List.mem_append_left _ (List.mem_append_left _ (List.mem_append_left _ (List.mem_append_left _ (List.mem_append_left _ (List.mem_append_left _ (List.mem_append_left _ (List.mem_append_left _ (List.mem_append_left _ (List.mem_append_right _ (List.mem_append_right _ (List.mem_append_right _ (List.mem_append_right _ (List.mem_append_right _ (List.mem_append_right _ (List.mem_append_right _ (List.mem_append_right _ (List.mem_append_right _ (List.mem_append_right _ (List.mem_append_right _ (List.mem_append_right _ (List.mem_append_right _ (List.mem_append_right _ (List.mem_append_right _ (List.mem_append_right _ (List.mem_append_right _ (List.mem_append_right _ (List.mem_append_right _ (List.mem_append_right _ (List.mem_append_right _ (List.mem_append_right _ (List.mem_append_right _ (List.mem_append_right _ (List.mem_append_right _ (List.mem_append_right _ (List.mem_append_right _ (List.mem_append_right _ (List.mem_append_right _ h))))))))))))))))))))))))))))))))))))))))
theorem m_1_0 : Cond.classLink RL 8 RX5 ∈ wsL_law := inr_1 _ (List.mem_of_getElem? (i := 0) rfl)
theorem m_1_1 : Cond.instantiable RX5 9 ∈ wsL_law := inr_1 _ (List.mem_of_getElem? (i := 1) rfl)
theorem m_1_2 : Cond.initialized RX5 ∈ wsL_law := inr_1 _ (List.mem_of_getElem? (i := 2) rfl)
theorem m_1_3 : Cond.classLink RL 74 RX6 ∈ wsL_law := inr_1 _ (List.mem_of_getElem? (i := 3) rfl)
theorem m_1_4 : Cond.instantiable RX6 19 ∈ wsL_law := inr_1 _ (List.mem_of_getElem? (i := 4) rfl)
theorem m_1_5 : Cond.initialized RX6 ∈ wsL_law := inr_1 _ (List.mem_of_getElem? (i := 5) rfl)
theorem m_1_6 : Cond.arrayClass .long ∈ wsL_law := inr_1 _ (List.mem_of_getElem? (i := 6) rfl)
theorem m_1_7 : Cond.methodLink RL 73 yX5_init ∈ wsL_law := inr_1 _ (List.mem_of_getElem? (i := 7) rfl)
theorem m_1_8 : Cond.instanceMethod yX5_init ∈ wsL_law := inr_1 _ (List.mem_of_getElem? (i := 8) rfl)
theorem m_1_9 : Cond.code yX5_init cX5_init 1 none ∈ wsL_law := inr_1 _ (List.mem_of_getElem? (i := 9) rfl)
theorem m_1_10 : Cond.methodLink RX5 3 objectInit ∈ wsL_law := inr_1 _ (List.mem_of_getElem? (i := 10) rfl)
theorem m_1_11 : Cond.instanceMethod objectInit ∈ wsL_law := inr_1 _ (List.mem_of_getElem? (i := 11) rfl)
theorem m_1_12 : Cond.code objectInit ⟨#[0xb1]⟩ 1 none ∈ wsL_law := inr_1 _ (List.mem_of_getElem? (i := 12) rfl)
theorem m_1_13 : Cond.classLink RX5 9 RX4 ∈ wsL_law := inr_1 _ (List.mem_of_getElem? (i := 13) rfl)
theorem m_1_14 : Cond.instantiable RX4 3 ∈ wsL_law := inr_1 _ (List.mem_of_getElem? (i := 14) rfl)
theorem m_1_15 : Cond.initialized RX4 ∈ wsL_law := inr_1 _ (List.mem_of_getElem? (i := 15) rfl)
theorem m_1_16 : Cond.fieldLink RX5 12 "Multidell" "routes" "LMultidell$Routes;" ∈ wsL_law := inr_1 _ (List.mem_of_getElem? (i := 16) rfl)
theorem m_1_17 : Cond.classLink RX5 16 RX2 ∈ wsL_law := inr_1 _ (List.mem_of_getElem? (i := 17) rfl)
theorem m_1_18 : Cond.instantiable RX2 4 ∈ wsL_law := inr_1 _ (List.mem_of_getElem? (i := 18) rfl)
theorem m_1_19 : Cond.initialized RX2 ∈ wsL_law := inr_1 _ (List.mem_of_getElem? (i := 19) rfl)
theorem m_1_20 : Cond.fieldLink RX5 19 "Multidell" "forest" "LMultidell$Forest;" ∈ wsL_law := inr_1 _ (List.mem_of_getElem? (i := 20) rfl)
theorem m_1_21 : Cond.classLink RX5 23 RX3 ∈ wsL_law := inr_1 _ (List.mem_of_getElem? (i := 21) rfl)
theorem m_1_22 : Cond.instantiable RX3 5 ∈ wsL_law := inr_1 _ (List.mem_of_getElem? (i := 22) rfl)
theorem m_1_23 : Cond.initialized RX3 ∈ wsL_law := inr_1 _ (List.mem_of_getElem? (i := 23) rfl)
theorem m_2_0 : Cond.fieldLink RX5 26 "Multidell" "packets" "LMultidell$Packets;" ∈ wsL_law := inr_2 _ (List.mem_of_getElem? (i := 0) rfl)
theorem m_2_1 : Cond.classLink RX5 30 RX0 ∈ wsL_law := inr_2 _ (List.mem_of_getElem? (i := 1) rfl)
theorem m_2_2 : Cond.instantiable RX0 6 ∈ wsL_law := inr_2 _ (List.mem_of_getElem? (i := 2) rfl)
theorem m_2_3 : Cond.initialized RX0 ∈ wsL_law := inr_2 _ (List.mem_of_getElem? (i := 3) rfl)
theorem m_2_4 : Cond.fieldLink RX5 33 "Multidell" "queue" "LMultidell$CopyQueue;" ∈ wsL_law := inr_2 _ (List.mem_of_getElem? (i := 4) rfl)
theorem m_2_5 : Cond.classLink RX5 37 RX1 ∈ wsL_law := inr_2 _ (List.mem_of_getElem? (i := 5) rfl)
theorem m_2_6 : Cond.instantiable RX1 1 ∈ wsL_law := inr_2 _ (List.mem_of_getElem? (i := 6) rfl)
theorem m_2_7 : Cond.initialized RX1 ∈ wsL_law := inr_2 _ (List.mem_of_getElem? (i := 7) rfl)
theorem m_2_8 : Cond.fieldLink RX5 40 "Multidell" "counts" "LMultidell$Counts;" ∈ wsL_law := inr_2 _ (List.mem_of_getElem? (i := 8) rfl)
theorem m_2_9 : Cond.fieldLink RX5 44 "Multidell" "limit" "I" ∈ wsL_law := inr_2 _ (List.mem_of_getElem? (i := 9) rfl)
theorem m_2_10 : Cond.methodLink RX5 11 yX4_init ∈ wsL_law := inr_2 _ (List.mem_of_getElem? (i := 10) rfl)
theorem m_2_11 : Cond.instanceMethod yX4_init ∈ wsL_law := inr_2 _ (List.mem_of_getElem? (i := 11) rfl)
theorem m_2_12 : Cond.code yX4_init cX4_init 1 none ∈ wsL_law := inr_2 _ (List.mem_of_getElem? (i := 12) rfl)
theorem m_2_13 : Cond.methodLink RX4 3 objectInit ∈ wsL_law := inr_2 _ (List.mem_of_getElem? (i := 13) rfl)
theorem m_2_14 : Cond.arrayClass .int ∈ wsL_law := inr_2 _ (List.mem_of_getElem? (i := 14) rfl)
theorem m_2_15 : Cond.fieldLink RX4 9 "Multidell$Routes" "cost" "[I" ∈ wsL_law := inr_2 _ (List.mem_of_getElem? (i := 15) rfl)
theorem m_2_16 : Cond.fieldLink RX4 15 "Multidell$Routes" "least" "[I" ∈ wsL_law := inr_2 _ (List.mem_of_getElem? (i := 16) rfl)
theorem m_2_17 : Cond.fieldLink RX4 18 "Multidell$Routes" "hop" "[I" ∈ wsL_law := inr_2 _ (List.mem_of_getElem? (i := 17) rfl)
theorem m_2_18 : Cond.methodLink RX4 21 yX4_findLeast ∈ wsL_law := inr_2 _ (List.mem_of_getElem? (i := 18) rfl)
theorem m_2_19 : Cond.instanceMethod yX4_findLeast ∈ wsL_law := inr_2 _ (List.mem_of_getElem? (i := 19) rfl)
theorem m_2_20 : Cond.selects RX4 yX4_findLeast yX4_findLeast ∈ wsL_law := inr_2 _ (List.mem_of_getElem? (i := 20) rfl)
theorem m_2_21 : Cond.code yX4_findLeast cX4_findLeast 4 none ∈ wsL_law := inr_2 _ (List.mem_of_getElem? (i := 21) rfl)
theorem m_2_22 : Cond.constant RX4 31 (1000000) ∈ wsL_law := inr_2 _ (List.mem_of_getElem? (i := 22) rfl)
theorem m_2_23 : Cond.methodLink RX4 36 yX4_shortenThrough ∈ wsL_law := inr_2 _ (List.mem_of_getElem? (i := 23) rfl)
theorem m_3_0 : Cond.instanceMethod yX4_shortenThrough ∈ wsL_law := inr_3 _ (List.mem_of_getElem? (i := 0) rfl)
theorem m_3_1 : Cond.selects RX4 yX4_shortenThrough yX4_shortenThrough ∈ wsL_law := inr_3 _ (List.mem_of_getElem? (i := 1) rfl)
theorem m_3_2 : Cond.code yX4_shortenThrough cX4_shortenThrough 5 none ∈ wsL_law := inr_3 _ (List.mem_of_getElem? (i := 2) rfl)
theorem m_3_3 : Cond.methodLink RX4 24 yX4_findHops ∈ wsL_law := inr_3 _ (List.mem_of_getElem? (i := 3) rfl)
theorem m_3_4 : Cond.instanceMethod yX4_findHops ∈ wsL_law := inr_3 _ (List.mem_of_getElem? (i := 4) rfl)
theorem m_3_5 : Cond.selects RX4 yX4_findHops yX4_findHops ∈ wsL_law := inr_3 _ (List.mem_of_getElem? (i := 5) rfl)
theorem m_3_6 : Cond.code yX4_findHops cX4_findHops 3 none ∈ wsL_law := inr_3 _ (List.mem_of_getElem? (i := 6) rfl)
theorem m_3_7 : Cond.methodLink RX4 40 yX4_firstHop ∈ wsL_law := inr_3 _ (List.mem_of_getElem? (i := 7) rfl)
theorem m_3_8 : Cond.instanceMethod yX4_firstHop ∈ wsL_law := inr_3 _ (List.mem_of_getElem? (i := 8) rfl)
theorem m_3_9 : Cond.selects RX4 yX4_firstHop yX4_firstHop ∈ wsL_law := inr_3 _ (List.mem_of_getElem? (i := 9) rfl)
theorem m_3_10 : Cond.code yX4_firstHop cX4_firstHop 6 (some .int) ∈ wsL_law := inr_3 _ (List.mem_of_getElem? (i := 10) rfl)
theorem m_3_11 : Cond.methodLink RX4 43 yX4_distanceOf ∈ wsL_law := inr_3 _ (List.mem_of_getElem? (i := 11) rfl)
theorem m_3_12 : Cond.instanceMethod yX4_distanceOf ∈ wsL_law := inr_3 _ (List.mem_of_getElem? (i := 12) rfl)
theorem m_3_13 : Cond.selects RX4 yX4_distanceOf yX4_distanceOf ∈ wsL_law := inr_3 _ (List.mem_of_getElem? (i := 13) rfl)
theorem m_3_14 : Cond.code yX4_distanceOf cX4_distanceOf 4 (some .int) ∈ wsL_law := inr_3 _ (List.mem_of_getElem? (i := 14) rfl)
theorem m_3_15 : Cond.methodLink RX4 27 yX4_arePair ∈ wsL_law := inr_3 _ (List.mem_of_getElem? (i := 15) rfl)
theorem m_3_16 : Cond.static yX4_arePair ∈ wsL_law := inr_3 _ (List.mem_of_getElem? (i := 16) rfl)
theorem m_3_17 : Cond.code yX4_arePair cX4_arePair 2 (some .boolean) ∈ wsL_law := inr_3 _ (List.mem_of_getElem? (i := 17) rfl)
theorem m_3_18 : Cond.methodLink RX4 32 yX4_costOf ∈ wsL_law := inr_3 _ (List.mem_of_getElem? (i := 18) rfl)
theorem m_3_19 : Cond.instanceMethod yX4_costOf ∈ wsL_law := inr_3 _ (List.mem_of_getElem? (i := 19) rfl)
theorem m_3_20 : Cond.selects RX4 yX4_costOf yX4_costOf ∈ wsL_law := inr_3 _ (List.mem_of_getElem? (i := 20) rfl)
theorem m_3_21 : Cond.code yX4_costOf cX4_costOf 3 (some .int) ∈ wsL_law := inr_3 _ (List.mem_of_getElem? (i := 21) rfl)
theorem m_3_22 : Cond.methodLink RX5 18 yX2_init ∈ wsL_law := inr_3 _ (List.mem_of_getElem? (i := 22) rfl)
theorem m_3_23 : Cond.instanceMethod yX2_init ∈ wsL_law := inr_3 _ (List.mem_of_getElem? (i := 23) rfl)
theorem m_4_0 : Cond.code yX2_init cX2_init 3 none ∈ wsL_law := inr_4 _ (List.mem_of_getElem? (i := 0) rfl)
theorem m_4_1 : Cond.methodLink RX2 3 objectInit ∈ wsL_law := inr_4 _ (List.mem_of_getElem? (i := 1) rfl)
theorem m_4_2 : Cond.fieldLink RX2 9 "Multidell$Forest" "root" "[I" ∈ wsL_law := inr_4 _ (List.mem_of_getElem? (i := 2) rfl)
theorem m_4_3 : Cond.fieldLink RX2 15 "Multidell$Forest" "wanting" "[I" ∈ wsL_law := inr_4 _ (List.mem_of_getElem? (i := 3) rfl)
theorem m_4_4 : Cond.fieldLink RX2 18 "Multidell$Forest" "comesFrom" "[I" ∈ wsL_law := inr_4 _ (List.mem_of_getElem? (i := 4) rfl)
theorem m_4_5 : Cond.fieldLink RX2 21 "Multidell$Forest" "goesAt" "[I" ∈ wsL_law := inr_4 _ (List.mem_of_getElem? (i := 5) rfl)
theorem m_4_6 : Cond.methodLink RX2 24 yJ7_fill_53178 ∈ wsL_law := inr_4 _ (List.mem_of_getElem? (i := 6) rfl)
theorem m_4_7 : Cond.static yJ7_fill_53178 ∈ wsL_law := inr_4 _ (List.mem_of_getElem? (i := 7) rfl)
theorem m_4_8 : Cond.initialized RJ7 ∈ wsL_law := inr_4 _ (List.mem_of_getElem? (i := 8) rfl)
theorem m_4_9 : Cond.code yJ7_fill_53178 cJ7_fill_53178 4 none ∈ wsL_law := inr_4 _ (List.mem_of_getElem? (i := 9) rfl)
theorem m_4_10 : Cond.static yX5_sourceTree ∈ wsL_law := inr_4 _ (List.mem_of_getElem? (i := 10) rfl)
theorem m_4_11 : Cond.code yX5_sourceTree cX5_sourceTree 2 (some .int) ∈ wsL_law := inr_4 _ (List.mem_of_getElem? (i := 11) rfl)
theorem m_4_12 : Cond.methodLink RX5 252 yX5_isRouter ∈ wsL_law := inr_4 _ (List.mem_of_getElem? (i := 12) rfl)
theorem m_4_13 : Cond.static yX5_isRouter ∈ wsL_law := inr_4 _ (List.mem_of_getElem? (i := 13) rfl)
theorem m_4_14 : Cond.code yX5_isRouter cX5_isRouter 1 (some .boolean) ∈ wsL_law := inr_4 _ (List.mem_of_getElem? (i := 14) rfl)
theorem m_4_15 : Cond.methodLink RX5 257 yX5_isGroup ∈ wsL_law := inr_4 _ (List.mem_of_getElem? (i := 15) rfl)
theorem m_4_16 : Cond.static yX5_isGroup ∈ wsL_law := inr_4 _ (List.mem_of_getElem? (i := 16) rfl)
theorem m_4_17 : Cond.code yX5_isGroup cX5_isGroup 1 (some .boolean) ∈ wsL_law := inr_4 _ (List.mem_of_getElem? (i := 17) rfl)
theorem m_4_18 : Cond.methodLink RX2 34 yX2_setRoot ∈ wsL_law := inr_4 _ (List.mem_of_getElem? (i := 18) rfl)
theorem m_4_19 : Cond.instanceMethod yX2_setRoot ∈ wsL_law := inr_4 _ (List.mem_of_getElem? (i := 19) rfl)
theorem m_4_20 : Cond.selects RX2 yX2_setRoot yX2_setRoot ∈ wsL_law := inr_4 _ (List.mem_of_getElem? (i := 20) rfl)
theorem m_4_21 : Cond.code yX2_setRoot cX2_setRoot 3 none ∈ wsL_law := inr_4 _ (List.mem_of_getElem? (i := 21) rfl)
theorem m_4_22 : Cond.static yX5_isTree ∈ wsL_law := inr_4 _ (List.mem_of_getElem? (i := 22) rfl)
theorem m_4_23 : Cond.code yX5_isTree cX5_isTree 1 (some .boolean) ∈ wsL_law := inr_4 _ (List.mem_of_getElem? (i := 23) rfl)
theorem m_5_0 : Cond.instanceMethod yX3_init ∈ wsL_law := inr_5 _ (List.mem_of_getElem? (i := 0) rfl)
theorem m_5_1 : Cond.code yX3_init cX3_init 1 none ∈ wsL_law := inr_5 _ (List.mem_of_getElem? (i := 1) rfl)
theorem m_5_2 : Cond.methodLink RX3 3 objectInit ∈ wsL_law := inr_5 _ (List.mem_of_getElem? (i := 2) rfl)
theorem m_5_3 : Cond.fieldLink RX3 9 "Multidell$Packets" "source" "[I" ∈ wsL_law := inr_5 _ (List.mem_of_getElem? (i := 3) rfl)
theorem m_5_4 : Cond.fieldLink RX3 15 "Multidell$Packets" "group" "[I" ∈ wsL_law := inr_5 _ (List.mem_of_getElem? (i := 4) rfl)
theorem m_5_5 : Cond.fieldLink RX3 18 "Multidell$Packets" "receivers" "[I" ∈ wsL_law := inr_5 _ (List.mem_of_getElem? (i := 5) rfl)
theorem m_5_6 : Cond.fieldLink RX3 21 "Multidell$Packets" "doubleCount" "[I" ∈ wsL_law := inr_5 _ (List.mem_of_getElem? (i := 6) rfl)
theorem m_5_7 : Cond.instanceMethod yX0_init ∈ wsL_law := inr_5 _ (List.mem_of_getElem? (i := 7) rfl)
theorem m_5_8 : Cond.code yX0_init cX0_init 1 none ∈ wsL_law := inr_5 _ (List.mem_of_getElem? (i := 8) rfl)
theorem m_5_9 : Cond.methodLink RX0 3 objectInit ∈ wsL_law := inr_5 _ (List.mem_of_getElem? (i := 9) rfl)
theorem m_5_10 : Cond.fieldLink RX0 9 "Multidell$CopyQueue" "packet" "[I" ∈ wsL_law := inr_5 _ (List.mem_of_getElem? (i := 10) rfl)
theorem m_5_11 : Cond.fieldLink RX0 15 "Multidell$CopyQueue" "tree" "[I" ∈ wsL_law := inr_5 _ (List.mem_of_getElem? (i := 11) rfl)
theorem m_5_12 : Cond.fieldLink RX0 18 "Multidell$CopyQueue" "from" "[I" ∈ wsL_law := inr_5 _ (List.mem_of_getElem? (i := 12) rfl)
theorem m_5_13 : Cond.fieldLink RX0 21 "Multidell$CopyQueue" "to" "[I" ∈ wsL_law := inr_5 _ (List.mem_of_getElem? (i := 13) rfl)
theorem m_5_14 : Cond.instanceMethod yX1_init ∈ wsL_law := inr_5 _ (List.mem_of_getElem? (i := 14) rfl)
theorem m_5_15 : Cond.code yX1_init cX1_init 1 none ∈ wsL_law := inr_5 _ (List.mem_of_getElem? (i := 15) rfl)
theorem m_5_16 : Cond.methodLink RX1 3 objectInit ∈ wsL_law := inr_5 _ (List.mem_of_getElem? (i := 16) rfl)
theorem m_5_17 : Cond.fieldLink RX1 9 "Multidell$Counts" "count" "[I" ∈ wsL_law := inr_5 _ (List.mem_of_getElem? (i := 17) rfl)
theorem m_5_18 : Cond.methodLink RL 76 yX6_init ∈ wsL_law := inr_5 _ (List.mem_of_getElem? (i := 18) rfl)
theorem m_5_19 : Cond.instanceMethod yX6_init ∈ wsL_law := inr_5 _ (List.mem_of_getElem? (i := 19) rfl)
theorem m_5_20 : Cond.code yX6_init cX6_init 2 none ∈ wsL_law := inr_5 _ (List.mem_of_getElem? (i := 20) rfl)
theorem m_5_21 : Cond.methodLink RX6 1 objectInit ∈ wsL_law := inr_5 _ (List.mem_of_getElem? (i := 21) rfl)
theorem m_5_22 : Cond.fieldLink RX6 7 "MultidellModel" "limit" "I" ∈ wsL_law := inr_5 _ (List.mem_of_getElem? (i := 22) rfl)
theorem m_5_23 : Cond.fieldLink RX6 13 "MultidellModel" "cost" "[I" ∈ wsL_law := inr_5 _ (List.mem_of_getElem? (i := 23) rfl)
theorem m_6_0 : Cond.fieldLink RX6 17 "MultidellModel" "far" "[I" ∈ wsL_law := inr_6 _ (List.mem_of_getElem? (i := 0) rfl)
theorem m_6_1 : Cond.arrayClass .boolean ∈ wsL_law := inr_6 _ (List.mem_of_getElem? (i := 1) rfl)
theorem m_6_2 : Cond.fieldLink RX6 20 "MultidellModel" "isCandidate" "[Z" ∈ wsL_law := inr_6 _ (List.mem_of_getElem? (i := 2) rfl)
theorem m_6_3 : Cond.fieldLink RX6 24 "MultidellModel" "members" "[I" ∈ wsL_law := inr_6 _ (List.mem_of_getElem? (i := 3) rfl)
theorem m_6_4 : Cond.fieldLink RX6 27 "MultidellModel" "switched" "[I" ∈ wsL_law := inr_6 _ (List.mem_of_getElem? (i := 4) rfl)
theorem m_6_5 : Cond.fieldLink RX6 30 "MultidellModel" "count" "[I" ∈ wsL_law := inr_6 _ (List.mem_of_getElem? (i := 5) rfl)
theorem m_6_6 : Cond.fieldLink RX6 33 "MultidellModel" "above" "[I" ∈ wsL_law := inr_6 _ (List.mem_of_getElem? (i := 6) rfl)
theorem m_6_7 : Cond.fieldLink RX6 36 "MultidellModel" "goes" "[I" ∈ wsL_law := inr_6 _ (List.mem_of_getElem? (i := 7) rfl)
theorem m_6_8 : Cond.fieldLink RX6 39 "MultidellModel" "copy" "[I" ∈ wsL_law := inr_6 _ (List.mem_of_getElem? (i := 8) rfl)
theorem m_6_9 : Cond.fieldLink RX6 42 "MultidellModel" "source" "[I" ∈ wsL_law := inr_6 _ (List.mem_of_getElem? (i := 9) rfl)
theorem m_6_10 : Cond.fieldLink RX6 45 "MultidellModel" "group" "[I" ∈ wsL_law := inr_6 _ (List.mem_of_getElem? (i := 10) rfl)
theorem m_6_11 : Cond.fieldLink RX6 48 "MultidellModel" "received" "[I" ∈ wsL_law := inr_6 _ (List.mem_of_getElem? (i := 11) rfl)
theorem m_6_12 : Cond.fieldLink RX6 51 "MultidellModel" "doubles" "[I" ∈ wsL_law := inr_6 _ (List.mem_of_getElem? (i := 12) rfl)
theorem m_6_13 : Cond.methodLink RX6 54 yX6_measures ∈ wsL_law := inr_6 _ (List.mem_of_getElem? (i := 13) rfl)
theorem m_6_14 : Cond.instanceMethod yX6_measures ∈ wsL_law := inr_6 _ (List.mem_of_getElem? (i := 14) rfl)
theorem m_6_15 : Cond.selects RX6 yX6_measures yX6_measures ∈ wsL_law := inr_6 _ (List.mem_of_getElem? (i := 15) rfl)
theorem m_6_16 : Cond.code yX6_measures cX6_measures 4 none ∈ wsL_law := inr_6 _ (List.mem_of_getElem? (i := 16) rfl)
theorem m_6_17 : Cond.constant RX6 60 (1000000) ∈ wsL_law := inr_6 _ (List.mem_of_getElem? (i := 17) rfl)
theorem m_6_18 : Cond.methodLink RL 77 yL_setLink ∈ wsL_law := inr_6 _ (List.mem_of_getElem? (i := 18) rfl)
theorem m_6_19 : Cond.static yL_setLink ∈ wsL_law := inr_6 _ (List.mem_of_getElem? (i := 19) rfl)
theorem m_6_20 : Cond.initialized RL ∈ wsL_law := inr_6 _ (List.mem_of_getElem? (i := 20) rfl)
theorem m_6_21 : Cond.codeWith yL_setLink cL_setLink 6 (some .int) [(0, 12, 15, 13), (0, 12, 19, 15)] ∈ wsL_law := inr_6 _ (List.mem_of_getElem? (i := 21) rfl)
theorem m_6_22 : Cond.classLink RL 13 "java/lang/IndexOutOfBoundsException" ∈ wsL_law := inr_6 _ (List.mem_of_getElem? (i := 22) rfl)
theorem m_6_23 : Cond.classLink RL 15 "java/lang/IllegalArgumentException" ∈ wsL_law := inr_6 _ (List.mem_of_getElem? (i := 23) rfl)
theorem m_7_0 : Cond.methodLink RL 7 yX5_setLink ∈ wsL_law := inr_7 _ (List.mem_of_getElem? (i := 0) rfl)
theorem m_7_1 : Cond.instanceMethod yX5_setLink ∈ wsL_law := inr_7 _ (List.mem_of_getElem? (i := 1) rfl)
theorem m_7_2 : Cond.selects RX5 yX5_setLink yX5_setLink ∈ wsL_law := inr_7 _ (List.mem_of_getElem? (i := 2) rfl)
theorem m_7_3 : Cond.code yX5_setLink cX5_setLink 5 (some .int) ∈ wsL_law := inr_7 _ (List.mem_of_getElem? (i := 3) rfl)
theorem m_7_4 : Cond.classLink RX5 52 "java/lang/IllegalArgumentException" ∈ wsL_law := inr_7 _ (List.mem_of_getElem? (i := 4) rfl)
theorem m_7_5 : Cond.initialized "java/lang/IllegalArgumentException" ∈ wsL_law := inr_7 _ (List.mem_of_getElem? (i := 5) rfl)
theorem m_7_6 : Cond.methodLink RX5 48 yX5_checkRouter ∈ wsL_law := inr_7 _ (List.mem_of_getElem? (i := 6) rfl)
theorem m_7_7 : Cond.static yX5_checkRouter ∈ wsL_law := inr_7 _ (List.mem_of_getElem? (i := 7) rfl)
theorem m_7_8 : Cond.code yX5_checkRouter cX5_checkRouter 1 none ∈ wsL_law := inr_7 _ (List.mem_of_getElem? (i := 8) rfl)
theorem m_7_9 : Cond.classLink RX5 247 "java/lang/IndexOutOfBoundsException" ∈ wsL_law := inr_7 _ (List.mem_of_getElem? (i := 9) rfl)
theorem m_7_10 : Cond.initialized "java/lang/IndexOutOfBoundsException" ∈ wsL_law := inr_7 _ (List.mem_of_getElem? (i := 10) rfl)
theorem m_7_11 : Cond.methodLink RX5 59 yX4_costOf ∈ wsL_law := inr_7 _ (List.mem_of_getElem? (i := 11) rfl)
theorem m_7_12 : Cond.methodLink RX5 63 yX4_change ∈ wsL_law := inr_7 _ (List.mem_of_getElem? (i := 12) rfl)
theorem m_7_13 : Cond.instanceMethod yX4_change ∈ wsL_law := inr_7 _ (List.mem_of_getElem? (i := 13) rfl)
theorem m_7_14 : Cond.selects RX4 yX4_change yX4_change ∈ wsL_law := inr_7 _ (List.mem_of_getElem? (i := 14) rfl)
theorem m_7_15 : Cond.code yX4_change cX4_change 4 none ∈ wsL_law := inr_7 _ (List.mem_of_getElem? (i := 15) rfl)
theorem m_7_16 : Cond.methodLink RX5 67 yX2_buildAnew ∈ wsL_law := inr_7 _ (List.mem_of_getElem? (i := 16) rfl)
theorem m_7_17 : Cond.instanceMethod yX2_buildAnew ∈ wsL_law := inr_7 _ (List.mem_of_getElem? (i := 17) rfl)
theorem m_7_18 : Cond.selects RX2 yX2_buildAnew yX2_buildAnew ∈ wsL_law := inr_7 _ (List.mem_of_getElem? (i := 18) rfl)
theorem m_7_19 : Cond.code yX2_buildAnew cX2_buildAnew 4 none ∈ wsL_law := inr_7 _ (List.mem_of_getElem? (i := 19) rfl)
theorem m_7_20 : Cond.static yX5_has ∈ wsL_law := inr_7 _ (List.mem_of_getElem? (i := 20) rfl)
theorem m_7_21 : Cond.code yX5_has cX5_has 2 (some .boolean) ∈ wsL_law := inr_7 _ (List.mem_of_getElem? (i := 21) rfl)
theorem m_7_22 : Cond.methodLink RX5 78 yX5_bit ∈ wsL_law := inr_7 _ (List.mem_of_getElem? (i := 22) rfl)
theorem m_7_23 : Cond.static yX5_bit ∈ wsL_law := inr_7 _ (List.mem_of_getElem? (i := 23) rfl)
theorem m_8_0 : Cond.code yX5_bit cX5_bit 1 (some .int) ∈ wsL_law := inr_8 _ (List.mem_of_getElem? (i := 0) rfl)
theorem m_8_1 : Cond.methodLink RX2 49 yX2_graft ∈ wsL_law := inr_8 _ (List.mem_of_getElem? (i := 1) rfl)
theorem m_8_2 : Cond.instanceMethod yX2_graft ∈ wsL_law := inr_8 _ (List.mem_of_getElem? (i := 2) rfl)
theorem m_8_3 : Cond.selects RX2 yX2_graft yX2_graft ∈ wsL_law := inr_8 _ (List.mem_of_getElem? (i := 3) rfl)
theorem m_8_4 : Cond.code yX2_graft cX2_graft 8 none ∈ wsL_law := inr_8 _ (List.mem_of_getElem? (i := 4) rfl)
theorem m_8_5 : Cond.methodLink RX2 71 yX2_rootOf ∈ wsL_law := inr_8 _ (List.mem_of_getElem? (i := 5) rfl)
theorem m_8_6 : Cond.instanceMethod yX2_rootOf ∈ wsL_law := inr_8 _ (List.mem_of_getElem? (i := 6) rfl)
theorem m_8_7 : Cond.selects RX2 yX2_rootOf yX2_rootOf ∈ wsL_law := inr_8 _ (List.mem_of_getElem? (i := 7) rfl)
theorem m_8_8 : Cond.code yX2_rootOf cX2_rootOf 2 (some .int) ∈ wsL_law := inr_8 _ (List.mem_of_getElem? (i := 8) rfl)
theorem m_8_9 : Cond.methodLink RX2 68 yX2_parentOf ∈ wsL_law := inr_8 _ (List.mem_of_getElem? (i := 9) rfl)
theorem m_8_10 : Cond.instanceMethod yX2_parentOf ∈ wsL_law := inr_8 _ (List.mem_of_getElem? (i := 10) rfl)
theorem m_8_11 : Cond.selects RX2 yX2_parentOf yX2_parentOf ∈ wsL_law := inr_8 _ (List.mem_of_getElem? (i := 11) rfl)
theorem m_8_12 : Cond.code yX2_parentOf cX2_parentOf 3 (some .int) ∈ wsL_law := inr_8 _ (List.mem_of_getElem? (i := 12) rfl)
theorem m_8_13 : Cond.methodLink RX2 74 yX4_hopOf ∈ wsL_law := inr_8 _ (List.mem_of_getElem? (i := 13) rfl)
theorem m_8_14 : Cond.instanceMethod yX4_hopOf ∈ wsL_law := inr_8 _ (List.mem_of_getElem? (i := 14) rfl)
theorem m_8_15 : Cond.selects RX4 yX4_hopOf yX4_hopOf ∈ wsL_law := inr_8 _ (List.mem_of_getElem? (i := 15) rfl)
theorem m_8_16 : Cond.code yX4_hopOf cX4_hopOf 3 (some .int) ∈ wsL_law := inr_8 _ (List.mem_of_getElem? (i := 16) rfl)
theorem m_8_17 : Cond.methodLink RL 82 yX6_setLink ∈ wsL_law := inr_8 _ (List.mem_of_getElem? (i := 17) rfl)
theorem m_8_18 : Cond.instanceMethod yX6_setLink ∈ wsL_law := inr_8 _ (List.mem_of_getElem? (i := 18) rfl)
theorem m_8_19 : Cond.selects RX6 yX6_setLink yX6_setLink ∈ wsL_law := inr_8 _ (List.mem_of_getElem? (i := 19) rfl)
theorem m_8_20 : Cond.code yX6_setLink cX6_setLink 5 (some .int) ∈ wsL_law := inr_8 _ (List.mem_of_getElem? (i := 20) rfl)
theorem m_8_21 : Cond.methodLink RX6 86 yX6_isRouter ∈ wsL_law := inr_8 _ (List.mem_of_getElem? (i := 21) rfl)
theorem m_8_22 : Cond.static yX6_isRouter ∈ wsL_law := inr_8 _ (List.mem_of_getElem? (i := 22) rfl)
theorem m_8_23 : Cond.code yX6_isRouter cX6_isRouter 1 (some .boolean) ∈ wsL_law := inr_8 _ (List.mem_of_getElem? (i := 23) rfl)
theorem m_9_0 : Cond.methodLink RX6 90 yX6_can ∈ wsL_law := inr_9 _ (List.mem_of_getElem? (i := 0) rfl)
theorem m_9_1 : Cond.instanceMethod yX6_can ∈ wsL_law := inr_9 _ (List.mem_of_getElem? (i := 1) rfl)
theorem m_9_2 : Cond.selects RX6 yX6_can yX6_can ∈ wsL_law := inr_9 _ (List.mem_of_getElem? (i := 2) rfl)
theorem m_9_3 : Cond.code yX6_can cX6_can 2 (some .boolean) ∈ wsL_law := inr_9 _ (List.mem_of_getElem? (i := 3) rfl)
theorem m_9_4 : Cond.fieldLink RX6 57 "MultidellModel" "thrown" "I" ∈ wsL_law := inr_9 _ (List.mem_of_getElem? (i := 4) rfl)
theorem m_9_5 : Cond.methodLink RX6 93 yX6_buildsAnew ∈ wsL_law := inr_9 _ (List.mem_of_getElem? (i := 5) rfl)
theorem m_9_6 : Cond.instanceMethod yX6_buildsAnew ∈ wsL_law := inr_9 _ (List.mem_of_getElem? (i := 6) rfl)
theorem m_9_7 : Cond.selects RX6 yX6_buildsAnew yX6_buildsAnew ∈ wsL_law := inr_9 _ (List.mem_of_getElem? (i := 7) rfl)
theorem m_9_8 : Cond.code yX6_buildsAnew cX6_buildsAnew 3 none ∈ wsL_law := inr_9 _ (List.mem_of_getElem? (i := 8) rfl)
theorem m_9_9 : Cond.methodLink RX6 72 yX6_wants ∈ wsL_law := inr_9 _ (List.mem_of_getElem? (i := 9) rfl)
theorem m_9_10 : Cond.instanceMethod yX6_wants ∈ wsL_law := inr_9 _ (List.mem_of_getElem? (i := 10) rfl)
theorem m_9_11 : Cond.selects RX6 yX6_wants yX6_wants ∈ wsL_law := inr_9 _ (List.mem_of_getElem? (i := 11) rfl)
theorem m_9_12 : Cond.code yX6_wants cX6_wants 4 (some .boolean) ∈ wsL_law := inr_9 _ (List.mem_of_getElem? (i := 12) rfl)
theorem m_9_13 : Cond.methodLink RX6 82 yX6_graft ∈ wsL_law := inr_9 _ (List.mem_of_getElem? (i := 13) rfl)
theorem m_9_14 : Cond.instanceMethod yX6_graft ∈ wsL_law := inr_9 _ (List.mem_of_getElem? (i := 14) rfl)
theorem m_9_15 : Cond.selects RX6 yX6_graft yX6_graft ∈ wsL_law := inr_9 _ (List.mem_of_getElem? (i := 15) rfl)
theorem m_9_16 : Cond.code yX6_graft cX6_graft 7 none ∈ wsL_law := inr_9 _ (List.mem_of_getElem? (i := 16) rfl)
theorem m_9_17 : Cond.methodLink RX6 65 yX6_root ∈ wsL_law := inr_9 _ (List.mem_of_getElem? (i := 17) rfl)
theorem m_9_18 : Cond.instanceMethod yX6_root ∈ wsL_law := inr_9 _ (List.mem_of_getElem? (i := 18) rfl)
theorem m_9_19 : Cond.selects RX6 yX6_root yX6_root ∈ wsL_law := inr_9 _ (List.mem_of_getElem? (i := 19) rfl)
theorem m_9_20 : Cond.code yX6_root cX6_root 2 (some .int) ∈ wsL_law := inr_9 _ (List.mem_of_getElem? (i := 20) rfl)
theorem m_9_21 : Cond.methodLink RX6 61 yX6_meets ∈ wsL_law := inr_9 _ (List.mem_of_getElem? (i := 21) rfl)
theorem m_9_22 : Cond.instanceMethod yX6_meets ∈ wsL_law := inr_9 _ (List.mem_of_getElem? (i := 22) rfl)
theorem m_9_23 : Cond.selects RX6 yX6_meets yX6_meets ∈ wsL_law := inr_9 _ (List.mem_of_getElem? (i := 23) rfl)
theorem m_10_0 : Cond.code yX6_meets cX6_meets 7 (some .int) ∈ wsL_law := inr_10 _ (List.mem_of_getElem? (i := 0) rfl)
theorem m_10_1 : Cond.methodLink RX6 68 yX6_hop ∈ wsL_law := inr_10 _ (List.mem_of_getElem? (i := 1) rfl)
theorem m_10_2 : Cond.instanceMethod yX6_hop ∈ wsL_law := inr_10 _ (List.mem_of_getElem? (i := 2) rfl)
theorem m_10_3 : Cond.selects RX6 yX6_hop yX6_hop ∈ wsL_law := inr_10 _ (List.mem_of_getElem? (i := 3) rfl)
theorem m_10_4 : Cond.code yX6_hop cX6_hop 7 (some .int) ∈ wsL_law := inr_10 _ (List.mem_of_getElem? (i := 4) rfl)
theorem m_10_5 : Cond.methodLink RL 83 yX6_thrown ∈ wsL_law := inr_10 _ (List.mem_of_getElem? (i := 5) rfl)
theorem m_10_6 : Cond.instanceMethod yX6_thrown ∈ wsL_law := inr_10 _ (List.mem_of_getElem? (i := 6) rfl)
theorem m_10_7 : Cond.selects RX6 yX6_thrown yX6_thrown ∈ wsL_law := inr_10 _ (List.mem_of_getElem? (i := 7) rfl)
theorem m_10_8 : Cond.code yX6_thrown cX6_thrown 1 (some .int) ∈ wsL_law := inr_10 _ (List.mem_of_getElem? (i := 8) rfl)
theorem m_10_9 : Cond.methodLink RL 87 yL_setCandidate ∈ wsL_law := inr_10 _ (List.mem_of_getElem? (i := 9) rfl)
theorem m_10_10 : Cond.static yL_setCandidate ∈ wsL_law := inr_10 _ (List.mem_of_getElem? (i := 10) rfl)
theorem m_10_11 : Cond.codeWith yL_setCandidate cL_setCandidate 5 (some .int) [(0, 17, 20, 13)] ∈ wsL_law := inr_10 _ (List.mem_of_getElem? (i := 11) rfl)
theorem m_10_12 : Cond.methodLink RL 17 yX5_setCandidate ∈ wsL_law := inr_10 _ (List.mem_of_getElem? (i := 12) rfl)
theorem m_10_13 : Cond.instanceMethod yX5_setCandidate ∈ wsL_law := inr_10 _ (List.mem_of_getElem? (i := 13) rfl)
theorem m_10_14 : Cond.selects RX5 yX5_setCandidate yX5_setCandidate ∈ wsL_law := inr_10 _ (List.mem_of_getElem? (i := 14) rfl)
theorem m_10_15 : Cond.code yX5_setCandidate cX5_setCandidate 4 (some .boolean) ∈ wsL_law := inr_10 _ (List.mem_of_getElem? (i := 15) rfl)
theorem m_10_16 : Cond.fieldLink RX5 71 "Multidell" "candidates" "I" ∈ wsL_law := inr_10 _ (List.mem_of_getElem? (i := 16) rfl)
theorem m_10_17 : Cond.methodLink RX5 74 yX5_has ∈ wsL_law := inr_10 _ (List.mem_of_getElem? (i := 17) rfl)
theorem m_10_18 : Cond.methodLink RX5 82 yX5_sharedTree ∈ wsL_law := inr_10 _ (List.mem_of_getElem? (i := 18) rfl)
theorem m_10_19 : Cond.static yX5_sharedTree ∈ wsL_law := inr_10 _ (List.mem_of_getElem? (i := 19) rfl)
theorem m_10_20 : Cond.code yX5_sharedTree cX5_sharedTree 1 (some .int) ∈ wsL_law := inr_10 _ (List.mem_of_getElem? (i := 20) rfl)
theorem m_10_21 : Cond.methodLink RX5 85 yX5_bestCandidate ∈ wsL_law := inr_10 _ (List.mem_of_getElem? (i := 21) rfl)
theorem m_10_22 : Cond.instanceMethod yX5_bestCandidate ∈ wsL_law := inr_10 _ (List.mem_of_getElem? (i := 22) rfl)
theorem m_10_23 : Cond.selects RX5 yX5_bestCandidate yX5_bestCandidate ∈ wsL_law := inr_10 _ (List.mem_of_getElem? (i := 23) rfl)
theorem m_11_0 : Cond.code yX5_bestCandidate cX5_bestCandidate 6 (some .int) ∈ wsL_law := inr_11 _ (List.mem_of_getElem? (i := 0) rfl)
theorem m_11_1 : Cond.methodLink RX5 88 yX2_setRoot ∈ wsL_law := inr_11 _ (List.mem_of_getElem? (i := 1) rfl)
theorem m_11_2 : Cond.methodLink RL 90 yX6_setCandidate ∈ wsL_law := inr_11 _ (List.mem_of_getElem? (i := 2) rfl)
theorem m_11_3 : Cond.instanceMethod yX6_setCandidate ∈ wsL_law := inr_11 _ (List.mem_of_getElem? (i := 3) rfl)
theorem m_11_4 : Cond.selects RX6 yX6_setCandidate yX6_setCandidate ∈ wsL_law := inr_11 _ (List.mem_of_getElem? (i := 4) rfl)
theorem m_11_5 : Cond.code yX6_setCandidate cX6_setCandidate 3 (some .boolean) ∈ wsL_law := inr_11 _ (List.mem_of_getElem? (i := 5) rfl)
theorem m_11_6 : Cond.methodLink RL 91 yL_setLimit ∈ wsL_law := inr_11 _ (List.mem_of_getElem? (i := 6) rfl)
theorem m_11_7 : Cond.static yL_setLimit ∈ wsL_law := inr_11 _ (List.mem_of_getElem? (i := 7) rfl)
theorem m_11_8 : Cond.codeWith yL_setLimit cL_setLimit 4 (some .int) [(0, 9, 12, 15)] ∈ wsL_law := inr_11 _ (List.mem_of_getElem? (i := 8) rfl)
theorem m_11_9 : Cond.methodLink RL 21 yX5_setLimit ∈ wsL_law := inr_11 _ (List.mem_of_getElem? (i := 9) rfl)
theorem m_11_10 : Cond.instanceMethod yX5_setLimit ∈ wsL_law := inr_11 _ (List.mem_of_getElem? (i := 10) rfl)
theorem m_11_11 : Cond.selects RX5 yX5_setLimit yX5_setLimit ∈ wsL_law := inr_11 _ (List.mem_of_getElem? (i := 11) rfl)
theorem m_11_12 : Cond.code yX5_setLimit cX5_setLimit 3 (some .int) ∈ wsL_law := inr_11 _ (List.mem_of_getElem? (i := 12) rfl)
theorem m_11_13 : Cond.methodLink RL 94 yX6_setLimit ∈ wsL_law := inr_11 _ (List.mem_of_getElem? (i := 13) rfl)
theorem m_11_14 : Cond.instanceMethod yX6_setLimit ∈ wsL_law := inr_11 _ (List.mem_of_getElem? (i := 14) rfl)
theorem m_11_15 : Cond.selects RX6 yX6_setLimit yX6_setLimit ∈ wsL_law := inr_11 _ (List.mem_of_getElem? (i := 15) rfl)
theorem m_11_16 : Cond.code yX6_setLimit cX6_setLimit 3 (some .int) ∈ wsL_law := inr_11 _ (List.mem_of_getElem? (i := 16) rfl)
theorem m_11_17 : Cond.methodLink RL 95 yL_distance ∈ wsL_law := inr_11 _ (List.mem_of_getElem? (i := 17) rfl)
theorem m_11_18 : Cond.static yL_distance ∈ wsL_law := inr_11 _ (List.mem_of_getElem? (i := 18) rfl)
theorem m_11_19 : Cond.codeWith yL_distance cL_distance 5 (some .int) [(0, 10, 13, 13)] ∈ wsL_law := inr_11 _ (List.mem_of_getElem? (i := 19) rfl)
theorem m_11_20 : Cond.methodLink RL 25 yX5_distance ∈ wsL_law := inr_11 _ (List.mem_of_getElem? (i := 20) rfl)
theorem m_11_21 : Cond.instanceMethod yX5_distance ∈ wsL_law := inr_11 _ (List.mem_of_getElem? (i := 21) rfl)
theorem m_11_22 : Cond.selects RX5 yX5_distance yX5_distance ∈ wsL_law := inr_11 _ (List.mem_of_getElem? (i := 22) rfl)
theorem m_11_23 : Cond.code yX5_distance cX5_distance 3 (some .int) ∈ wsL_law := inr_11 _ (List.mem_of_getElem? (i := 23) rfl)
theorem m_12_0 : Cond.methodLink RX5 94 yX4_distanceOf ∈ wsL_law := inr_12 _ (List.mem_of_getElem? (i := 0) rfl)
theorem m_12_1 : Cond.methodLink RL 98 yX6_distance ∈ wsL_law := inr_12 _ (List.mem_of_getElem? (i := 1) rfl)
theorem m_12_2 : Cond.instanceMethod yX6_distance ∈ wsL_law := inr_12 _ (List.mem_of_getElem? (i := 2) rfl)
theorem m_12_3 : Cond.selects RX6 yX6_distance yX6_distance ∈ wsL_law := inr_12 _ (List.mem_of_getElem? (i := 3) rfl)
theorem m_12_4 : Cond.code yX6_distance cX6_distance 4 (some .int) ∈ wsL_law := inr_12 _ (List.mem_of_getElem? (i := 4) rfl)
theorem m_12_5 : Cond.methodLink RL 99 yL_nextHop ∈ wsL_law := inr_12 _ (List.mem_of_getElem? (i := 5) rfl)
theorem m_12_6 : Cond.static yL_nextHop ∈ wsL_law := inr_12 _ (List.mem_of_getElem? (i := 6) rfl)
theorem m_12_7 : Cond.codeWith yL_nextHop cL_nextHop 5 (some .int) [(0, 10, 13, 13)] ∈ wsL_law := inr_12 _ (List.mem_of_getElem? (i := 7) rfl)
theorem m_12_8 : Cond.methodLink RL 29 yX5_nextHop ∈ wsL_law := inr_12 _ (List.mem_of_getElem? (i := 8) rfl)
theorem m_12_9 : Cond.instanceMethod yX5_nextHop ∈ wsL_law := inr_12 _ (List.mem_of_getElem? (i := 9) rfl)
theorem m_12_10 : Cond.selects RX5 yX5_nextHop yX5_nextHop ∈ wsL_law := inr_12 _ (List.mem_of_getElem? (i := 10) rfl)
theorem m_12_11 : Cond.code yX5_nextHop cX5_nextHop 3 (some .int) ∈ wsL_law := inr_12 _ (List.mem_of_getElem? (i := 11) rfl)
theorem m_12_12 : Cond.methodLink RX5 97 yX4_hopOf ∈ wsL_law := inr_12 _ (List.mem_of_getElem? (i := 12) rfl)
theorem m_12_13 : Cond.methodLink RL 101 yX6_nextHop ∈ wsL_law := inr_12 _ (List.mem_of_getElem? (i := 13) rfl)
theorem m_12_14 : Cond.instanceMethod yX6_nextHop ∈ wsL_law := inr_12 _ (List.mem_of_getElem? (i := 14) rfl)
theorem m_12_15 : Cond.selects RX6 yX6_nextHop yX6_nextHop ∈ wsL_law := inr_12 _ (List.mem_of_getElem? (i := 15) rfl)
theorem m_12_16 : Cond.code yX6_nextHop cX6_nextHop 3 (some .int) ∈ wsL_law := inr_12 _ (List.mem_of_getElem? (i := 16) rfl)
theorem m_12_17 : Cond.methodLink RL 102 yL_rendezvous ∈ wsL_law := inr_12 _ (List.mem_of_getElem? (i := 17) rfl)
theorem m_12_18 : Cond.static yL_rendezvous ∈ wsL_law := inr_12 _ (List.mem_of_getElem? (i := 18) rfl)
theorem m_12_19 : Cond.codeWith yL_rendezvous cL_rendezvous 4 (some .int) [(0, 9, 12, 13)] ∈ wsL_law := inr_12 _ (List.mem_of_getElem? (i := 19) rfl)
theorem m_12_20 : Cond.methodLink RL 32 yX5_rendezvous ∈ wsL_law := inr_12 _ (List.mem_of_getElem? (i := 20) rfl)
theorem m_12_21 : Cond.instanceMethod yX5_rendezvous ∈ wsL_law := inr_12 _ (List.mem_of_getElem? (i := 21) rfl)
theorem m_12_22 : Cond.selects RX5 yX5_rendezvous yX5_rendezvous ∈ wsL_law := inr_12 _ (List.mem_of_getElem? (i := 22) rfl)
theorem m_12_23 : Cond.code yX5_rendezvous cX5_rendezvous 2 (some .int) ∈ wsL_law := inr_12 _ (List.mem_of_getElem? (i := 23) rfl)
theorem m_13_0 : Cond.methodLink RX5 100 yX5_checkGroup ∈ wsL_law := inr_13 _ (List.mem_of_getElem? (i := 0) rfl)
theorem m_13_1 : Cond.static yX5_checkGroup ∈ wsL_law := inr_13 _ (List.mem_of_getElem? (i := 1) rfl)
theorem m_13_2 : Cond.code yX5_checkGroup cX5_checkGroup 1 none ∈ wsL_law := inr_13 _ (List.mem_of_getElem? (i := 2) rfl)
theorem m_13_3 : Cond.methodLink RX5 103 yX2_rootOf ∈ wsL_law := inr_13 _ (List.mem_of_getElem? (i := 3) rfl)
theorem m_13_4 : Cond.methodLink RL 104 yX6_rendezvous ∈ wsL_law := inr_13 _ (List.mem_of_getElem? (i := 4) rfl)
theorem m_13_5 : Cond.instanceMethod yX6_rendezvous ∈ wsL_law := inr_13 _ (List.mem_of_getElem? (i := 5) rfl)
theorem m_13_6 : Cond.selects RX6 yX6_rendezvous yX6_rendezvous ∈ wsL_law := inr_13 _ (List.mem_of_getElem? (i := 6) rfl)
theorem m_13_7 : Cond.code yX6_rendezvous cX6_rendezvous 2 (some .int) ∈ wsL_law := inr_13 _ (List.mem_of_getElem? (i := 7) rfl)
theorem m_13_8 : Cond.methodLink RX6 96 yX6_isGroup ∈ wsL_law := inr_13 _ (List.mem_of_getElem? (i := 8) rfl)
theorem m_13_9 : Cond.static yX6_isGroup ∈ wsL_law := inr_13 _ (List.mem_of_getElem? (i := 9) rfl)
theorem m_13_10 : Cond.code yX6_isGroup cX6_isGroup 1 (some .boolean) ∈ wsL_law := inr_13 _ (List.mem_of_getElem? (i := 10) rfl)
theorem m_13_11 : Cond.methodLink RL 105 yL_join ∈ wsL_law := inr_13 _ (List.mem_of_getElem? (i := 11) rfl)
theorem m_13_12 : Cond.static yL_join ∈ wsL_law := inr_13 _ (List.mem_of_getElem? (i := 12) rfl)
theorem m_13_13 : Cond.codeWith yL_join cL_join 5 (some .int) [(0, 10, 13, 13), (0, 10, 17, 38)] ∈ wsL_law := inr_13 _ (List.mem_of_getElem? (i := 13) rfl)
theorem m_13_14 : Cond.classLink RL 38 "java/lang/IllegalStateException" ∈ wsL_law := inr_13 _ (List.mem_of_getElem? (i := 14) rfl)
theorem m_13_15 : Cond.methodLink RL 35 yX5_join ∈ wsL_law := inr_13 _ (List.mem_of_getElem? (i := 15) rfl)
theorem m_13_16 : Cond.instanceMethod yX5_join ∈ wsL_law := inr_13 _ (List.mem_of_getElem? (i := 16) rfl)
theorem m_13_17 : Cond.selects RX5 yX5_join yX5_join ∈ wsL_law := inr_13 _ (List.mem_of_getElem? (i := 17) rfl)
theorem m_13_18 : Cond.code yX5_join cX5_join 3 (some .int) ∈ wsL_law := inr_13 _ (List.mem_of_getElem? (i := 18) rfl)
theorem m_13_19 : Cond.classLink RX5 109 "java/lang/IllegalStateException" ∈ wsL_law := inr_13 _ (List.mem_of_getElem? (i := 19) rfl)
theorem m_13_20 : Cond.initialized "java/lang/IllegalStateException" ∈ wsL_law := inr_13 _ (List.mem_of_getElem? (i := 20) rfl)
theorem m_13_21 : Cond.methodLink RX5 106 yX5_isMember ∈ wsL_law := inr_13 _ (List.mem_of_getElem? (i := 21) rfl)
theorem m_13_22 : Cond.instanceMethod yX5_isMember ∈ wsL_law := inr_13 _ (List.mem_of_getElem? (i := 22) rfl)
theorem m_13_23 : Cond.selects RX5 yX5_isMember yX5_isMember ∈ wsL_law := inr_13 _ (List.mem_of_getElem? (i := 23) rfl)
theorem m_14_0 : Cond.code yX5_isMember cX5_isMember 3 (some .boolean) ∈ wsL_law := inr_14 _ (List.mem_of_getElem? (i := 0) rfl)
theorem m_14_1 : Cond.methodLink RX5 118 yX5_membersOf ∈ wsL_law := inr_14 _ (List.mem_of_getElem? (i := 1) rfl)
theorem m_14_2 : Cond.instanceMethod yX5_membersOf ∈ wsL_law := inr_14 _ (List.mem_of_getElem? (i := 2) rfl)
theorem m_14_3 : Cond.selects RX5 yX5_membersOf yX5_membersOf ∈ wsL_law := inr_14 _ (List.mem_of_getElem? (i := 3) rfl)
theorem m_14_4 : Cond.code yX5_membersOf cX5_membersOf 2 (some .int) ∈ wsL_law := inr_14 _ (List.mem_of_getElem? (i := 4) rfl)
theorem m_14_5 : Cond.methodLink RX5 140 yX2_wantingOf ∈ wsL_law := inr_14 _ (List.mem_of_getElem? (i := 5) rfl)
theorem m_14_6 : Cond.instanceMethod yX2_wantingOf ∈ wsL_law := inr_14 _ (List.mem_of_getElem? (i := 6) rfl)
theorem m_14_7 : Cond.selects RX2 yX2_wantingOf yX2_wantingOf ∈ wsL_law := inr_14 _ (List.mem_of_getElem? (i := 7) rfl)
theorem m_14_8 : Cond.code yX2_wantingOf cX2_wantingOf 2 (some .int) ∈ wsL_law := inr_14 _ (List.mem_of_getElem? (i := 8) rfl)
theorem m_14_9 : Cond.methodLink RX5 114 yX2_want ∈ wsL_law := inr_14 _ (List.mem_of_getElem? (i := 9) rfl)
theorem m_14_10 : Cond.instanceMethod yX2_want ∈ wsL_law := inr_14 _ (List.mem_of_getElem? (i := 10) rfl)
theorem m_14_11 : Cond.selects RX2 yX2_want yX2_want ∈ wsL_law := inr_14 _ (List.mem_of_getElem? (i := 11) rfl)
theorem m_14_12 : Cond.code yX2_want cX2_want 4 none ∈ wsL_law := inr_14 _ (List.mem_of_getElem? (i := 12) rfl)
theorem m_14_13 : Cond.methodLink RX5 121 yJ6_bitCount_0f7a4 ∈ wsL_law := inr_14 _ (List.mem_of_getElem? (i := 13) rfl)
theorem m_14_14 : Cond.static yJ6_bitCount_0f7a4 ∈ wsL_law := inr_14 _ (List.mem_of_getElem? (i := 14) rfl)
theorem m_14_15 : Cond.initialized RJ6 ∈ wsL_law := inr_14 _ (List.mem_of_getElem? (i := 15) rfl)
theorem m_14_16 : Cond.code yJ6_bitCount_0f7a4 cJ6_bitCount_0f7a4 1 (some .int) ∈ wsL_law := inr_14 _ (List.mem_of_getElem? (i := 16) rfl)
theorem m_14_17 : Cond.constant RJ6 265 (1431655765) ∈ wsL_law := inr_14 _ (List.mem_of_getElem? (i := 17) rfl)
theorem m_14_18 : Cond.constant RJ6 266 (858993459) ∈ wsL_law := inr_14 _ (List.mem_of_getElem? (i := 18) rfl)
theorem m_14_19 : Cond.constant RJ6 267 (252645135) ∈ wsL_law := inr_14 _ (List.mem_of_getElem? (i := 19) rfl)
theorem m_14_20 : Cond.methodLink RL 107 yX6_join ∈ wsL_law := inr_14 _ (List.mem_of_getElem? (i := 20) rfl)
theorem m_14_21 : Cond.instanceMethod yX6_join ∈ wsL_law := inr_14 _ (List.mem_of_getElem? (i := 21) rfl)
theorem m_14_22 : Cond.selects RX6 yX6_join yX6_join ∈ wsL_law := inr_14 _ (List.mem_of_getElem? (i := 22) rfl)
theorem m_14_23 : Cond.code yX6_join cX6_join 3 (some .int) ∈ wsL_law := inr_14 _ (List.mem_of_getElem? (i := 23) rfl)
theorem m_15_0 : Cond.methodLink RX6 99 yX6_isMember ∈ wsL_law := inr_15 _ (List.mem_of_getElem? (i := 0) rfl)
theorem m_15_1 : Cond.instanceMethod yX6_isMember ∈ wsL_law := inr_15 _ (List.mem_of_getElem? (i := 1) rfl)
theorem m_15_2 : Cond.selects RX6 yX6_isMember yX6_isMember ∈ wsL_law := inr_15 _ (List.mem_of_getElem? (i := 2) rfl)
theorem m_15_3 : Cond.code yX6_isMember cX6_isMember 3 (some .boolean) ∈ wsL_law := inr_15 _ (List.mem_of_getElem? (i := 3) rfl)
theorem m_15_4 : Cond.methodLink RX6 102 yX6_many ∈ wsL_law := inr_15 _ (List.mem_of_getElem? (i := 4) rfl)
theorem m_15_5 : Cond.static yX6_many ∈ wsL_law := inr_15 _ (List.mem_of_getElem? (i := 5) rfl)
theorem m_15_6 : Cond.code yX6_many cX6_many 3 (some .int) ∈ wsL_law := inr_15 _ (List.mem_of_getElem? (i := 6) rfl)
theorem m_15_7 : Cond.methodLink RL 108 yL_leave ∈ wsL_law := inr_15 _ (List.mem_of_getElem? (i := 7) rfl)
theorem m_15_8 : Cond.static yL_leave ∈ wsL_law := inr_15 _ (List.mem_of_getElem? (i := 8) rfl)
theorem m_15_9 : Cond.codeWith yL_leave cL_leave 5 (some .int) [(0, 10, 13, 13), (0, 10, 17, 38)] ∈ wsL_law := inr_15 _ (List.mem_of_getElem? (i := 9) rfl)
theorem m_15_10 : Cond.methodLink RL 40 yX5_leave ∈ wsL_law := inr_15 _ (List.mem_of_getElem? (i := 10) rfl)
theorem m_15_11 : Cond.instanceMethod yX5_leave ∈ wsL_law := inr_15 _ (List.mem_of_getElem? (i := 11) rfl)
theorem m_15_12 : Cond.selects RX5 yX5_leave yX5_leave ∈ wsL_law := inr_15 _ (List.mem_of_getElem? (i := 12) rfl)
theorem m_15_13 : Cond.code yX5_leave cX5_leave 4 (some .int) ∈ wsL_law := inr_15 _ (List.mem_of_getElem? (i := 13) rfl)
theorem m_15_14 : Cond.fieldLink RX5 128 "Multidell" "now" "I" ∈ wsL_law := inr_15 _ (List.mem_of_getElem? (i := 14) rfl)
theorem m_15_15 : Cond.methodLink RX5 131 yX2_unwant ∈ wsL_law := inr_15 _ (List.mem_of_getElem? (i := 15) rfl)
theorem m_15_16 : Cond.instanceMethod yX2_unwant ∈ wsL_law := inr_15 _ (List.mem_of_getElem? (i := 16) rfl)
theorem m_15_17 : Cond.selects RX2 yX2_unwant yX2_unwant ∈ wsL_law := inr_15 _ (List.mem_of_getElem? (i := 17) rfl)
theorem m_15_18 : Cond.code yX2_unwant cX2_unwant 4 none ∈ wsL_law := inr_15 _ (List.mem_of_getElem? (i := 18) rfl)
theorem m_15_19 : Cond.methodLink RX2 53 yX2_letLeave ∈ wsL_law := inr_15 _ (List.mem_of_getElem? (i := 19) rfl)
theorem m_15_20 : Cond.instanceMethod yX2_letLeave ∈ wsL_law := inr_15 _ (List.mem_of_getElem? (i := 20) rfl)
theorem m_15_21 : Cond.selects RX2 yX2_letLeave yX2_letLeave ∈ wsL_law := inr_15 _ (List.mem_of_getElem? (i := 21) rfl)
theorem m_15_22 : Cond.code yX2_letLeave cX2_letLeave 5 none ∈ wsL_law := inr_15 _ (List.mem_of_getElem? (i := 22) rfl)
theorem m_15_23 : Cond.methodLink RX2 79 yX2_isNeeded ∈ wsL_law := inr_15 _ (List.mem_of_getElem? (i := 23) rfl)
theorem m_16_0 : Cond.instanceMethod yX2_isNeeded ∈ wsL_law := inr_16 _ (List.mem_of_getElem? (i := 0) rfl)
theorem m_16_1 : Cond.selects RX2 yX2_isNeeded yX2_isNeeded ∈ wsL_law := inr_16 _ (List.mem_of_getElem? (i := 1) rfl)
theorem m_16_2 : Cond.code yX2_isNeeded cX2_isNeeded 3 (some .boolean) ∈ wsL_law := inr_16 _ (List.mem_of_getElem? (i := 2) rfl)
theorem m_16_3 : Cond.methodLink RX2 82 yX2_wantingOf ∈ wsL_law := inr_16 _ (List.mem_of_getElem? (i := 3) rfl)
theorem m_16_4 : Cond.methodLink RX2 85 yX2_branchesFrom ∈ wsL_law := inr_16 _ (List.mem_of_getElem? (i := 4) rfl)
theorem m_16_5 : Cond.instanceMethod yX2_branchesFrom ∈ wsL_law := inr_16 _ (List.mem_of_getElem? (i := 5) rfl)
theorem m_16_6 : Cond.selects RX2 yX2_branchesFrom yX2_branchesFrom ∈ wsL_law := inr_16 _ (List.mem_of_getElem? (i := 6) rfl)
theorem m_16_7 : Cond.code yX2_branchesFrom cX2_branchesFrom 5 (some .int) ∈ wsL_law := inr_16 _ (List.mem_of_getElem? (i := 7) rfl)
theorem m_16_8 : Cond.methodLink RX5 134 yX5_sourceTree ∈ wsL_law := inr_16 _ (List.mem_of_getElem? (i := 8) rfl)
theorem m_16_9 : Cond.methodLink RX5 137 yX1_forget ∈ wsL_law := inr_16 _ (List.mem_of_getElem? (i := 9) rfl)
theorem m_16_10 : Cond.instanceMethod yX1_forget ∈ wsL_law := inr_16 _ (List.mem_of_getElem? (i := 10) rfl)
theorem m_16_11 : Cond.selects RX1 yX1_forget yX1_forget ∈ wsL_law := inr_16 _ (List.mem_of_getElem? (i := 11) rfl)
theorem m_16_12 : Cond.code yX1_forget cX1_forget 4 none ∈ wsL_law := inr_16 _ (List.mem_of_getElem? (i := 12) rfl)
theorem m_16_13 : Cond.methodLink RX1 15 yX1_isPlace ∈ wsL_law := inr_16 _ (List.mem_of_getElem? (i := 13) rfl)
theorem m_16_14 : Cond.static yX1_isPlace ∈ wsL_law := inr_16 _ (List.mem_of_getElem? (i := 14) rfl)
theorem m_16_15 : Cond.code yX1_isPlace cX1_isPlace 3 (some .boolean) ∈ wsL_law := inr_16 _ (List.mem_of_getElem? (i := 15) rfl)
theorem m_16_16 : Cond.methodLink RX1 19 yX1_placeOf ∈ wsL_law := inr_16 _ (List.mem_of_getElem? (i := 16) rfl)
theorem m_16_17 : Cond.static yX1_placeOf ∈ wsL_law := inr_16 _ (List.mem_of_getElem? (i := 17) rfl)
theorem m_16_18 : Cond.code yX1_placeOf cX1_placeOf 3 (some .int) ∈ wsL_law := inr_16 _ (List.mem_of_getElem? (i := 18) rfl)
theorem m_16_19 : Cond.methodLink RL 110 yX6_leave ∈ wsL_law := inr_16 _ (List.mem_of_getElem? (i := 19) rfl)
theorem m_16_20 : Cond.instanceMethod yX6_leave ∈ wsL_law := inr_16 _ (List.mem_of_getElem? (i := 20) rfl)
theorem m_16_21 : Cond.selects RX6 yX6_leave yX6_leave ∈ wsL_law := inr_16 _ (List.mem_of_getElem? (i := 21) rfl)
theorem m_16_22 : Cond.code yX6_leave cX6_leave 4 (some .int) ∈ wsL_law := inr_16 _ (List.mem_of_getElem? (i := 22) rfl)
theorem m_16_23 : Cond.methodLink RX6 105 yX6_looks ∈ wsL_law := inr_16 _ (List.mem_of_getElem? (i := 23) rfl)
theorem m_17_0 : Cond.instanceMethod yX6_looks ∈ wsL_law := inr_17 _ (List.mem_of_getElem? (i := 0) rfl)
theorem m_17_1 : Cond.selects RX6 yX6_looks yX6_looks ∈ wsL_law := inr_17 _ (List.mem_of_getElem? (i := 1) rfl)
theorem m_17_2 : Cond.code yX6_looks cX6_looks 4 none ∈ wsL_law := inr_17 _ (List.mem_of_getElem? (i := 2) rfl)
theorem m_17_3 : Cond.fieldLink RX6 79 "MultidellModel" "clock" "I" ∈ wsL_law := inr_17 _ (List.mem_of_getElem? (i := 3) rfl)
theorem m_17_4 : Cond.methodLink RX6 76 yX6_below ∈ wsL_law := inr_17 _ (List.mem_of_getElem? (i := 4) rfl)
theorem m_17_5 : Cond.instanceMethod yX6_below ∈ wsL_law := inr_17 _ (List.mem_of_getElem? (i := 5) rfl)
theorem m_17_6 : Cond.selects RX6 yX6_below yX6_below ∈ wsL_law := inr_17 _ (List.mem_of_getElem? (i := 6) rfl)
theorem m_17_7 : Cond.code yX6_below cX6_below 5 (some .int) ∈ wsL_law := inr_17 _ (List.mem_of_getElem? (i := 7) rfl)
theorem m_17_8 : Cond.methodLink RL 111 yL_members ∈ wsL_law := inr_17 _ (List.mem_of_getElem? (i := 8) rfl)
theorem m_17_9 : Cond.static yL_members ∈ wsL_law := inr_17 _ (List.mem_of_getElem? (i := 9) rfl)
theorem m_17_10 : Cond.codeWith yL_members cL_members 4 (some .int) [(0, 9, 12, 13)] ∈ wsL_law := inr_17 _ (List.mem_of_getElem? (i := 10) rfl)
theorem m_17_11 : Cond.methodLink RL 43 yX5_members ∈ wsL_law := inr_17 _ (List.mem_of_getElem? (i := 11) rfl)
theorem m_17_12 : Cond.instanceMethod yX5_members ∈ wsL_law := inr_17 _ (List.mem_of_getElem? (i := 12) rfl)
theorem m_17_13 : Cond.selects RX5 yX5_members yX5_members ∈ wsL_law := inr_17 _ (List.mem_of_getElem? (i := 13) rfl)
theorem m_17_14 : Cond.code yX5_members cX5_members 2 (some .int) ∈ wsL_law := inr_17 _ (List.mem_of_getElem? (i := 14) rfl)
theorem m_17_15 : Cond.methodLink RL 113 yX6_members ∈ wsL_law := inr_17 _ (List.mem_of_getElem? (i := 15) rfl)
theorem m_17_16 : Cond.instanceMethod yX6_members ∈ wsL_law := inr_17 _ (List.mem_of_getElem? (i := 16) rfl)
theorem m_17_17 : Cond.selects RX6 yX6_members yX6_members ∈ wsL_law := inr_17 _ (List.mem_of_getElem? (i := 17) rfl)
theorem m_17_18 : Cond.code yX6_members cX6_members 2 (some .int) ∈ wsL_law := inr_17 _ (List.mem_of_getElem? (i := 18) rfl)
theorem m_17_19 : Cond.methodLink RL 114 yL_switched ∈ wsL_law := inr_17 _ (List.mem_of_getElem? (i := 19) rfl)
theorem m_17_20 : Cond.static yL_switched ∈ wsL_law := inr_17 _ (List.mem_of_getElem? (i := 20) rfl)
theorem m_17_21 : Cond.codeWith yL_switched cL_switched 5 (some .int) [(0, 10, 13, 13)] ∈ wsL_law := inr_17 _ (List.mem_of_getElem? (i := 21) rfl)
theorem m_17_22 : Cond.methodLink RL 46 yX5_switched ∈ wsL_law := inr_17 _ (List.mem_of_getElem? (i := 22) rfl)
theorem m_17_23 : Cond.instanceMethod yX5_switched ∈ wsL_law := inr_17 _ (List.mem_of_getElem? (i := 23) rfl)
theorem m_18_0 : Cond.selects RX5 yX5_switched yX5_switched ∈ wsL_law := inr_18 _ (List.mem_of_getElem? (i := 0) rfl)
theorem m_18_1 : Cond.code yX5_switched cX5_switched 3 (some .int) ∈ wsL_law := inr_18 _ (List.mem_of_getElem? (i := 1) rfl)
theorem m_18_2 : Cond.methodLink RL 116 yX6_switched ∈ wsL_law := inr_18 _ (List.mem_of_getElem? (i := 2) rfl)
theorem m_18_3 : Cond.instanceMethod yX6_switched ∈ wsL_law := inr_18 _ (List.mem_of_getElem? (i := 3) rfl)
theorem m_18_4 : Cond.selects RX6 yX6_switched yX6_switched ∈ wsL_law := inr_18 _ (List.mem_of_getElem? (i := 4) rfl)
theorem m_18_5 : Cond.code yX6_switched cX6_switched 3 (some .int) ∈ wsL_law := inr_18 _ (List.mem_of_getElem? (i := 5) rfl)
theorem m_18_6 : Cond.methodLink RL 117 yL_branches ∈ wsL_law := inr_18 _ (List.mem_of_getElem? (i := 6) rfl)
theorem m_18_7 : Cond.static yL_branches ∈ wsL_law := inr_18 _ (List.mem_of_getElem? (i := 7) rfl)
theorem m_18_8 : Cond.codeWith yL_branches cL_branches 5 (some .int) [(0, 10, 13, 13)] ∈ wsL_law := inr_18 _ (List.mem_of_getElem? (i := 8) rfl)
theorem m_18_9 : Cond.methodLink RL 49 yX5_branches ∈ wsL_law := inr_18 _ (List.mem_of_getElem? (i := 9) rfl)
theorem m_18_10 : Cond.instanceMethod yX5_branches ∈ wsL_law := inr_18 _ (List.mem_of_getElem? (i := 10) rfl)
theorem m_18_11 : Cond.selects RX5 yX5_branches yX5_branches ∈ wsL_law := inr_18 _ (List.mem_of_getElem? (i := 11) rfl)
theorem m_18_12 : Cond.code yX5_branches cX5_branches 3 (some .int) ∈ wsL_law := inr_18 _ (List.mem_of_getElem? (i := 12) rfl)
theorem m_18_13 : Cond.methodLink RX5 143 yX2_branchesFrom ∈ wsL_law := inr_18 _ (List.mem_of_getElem? (i := 13) rfl)
theorem m_18_14 : Cond.methodLink RL 119 yX6_branches ∈ wsL_law := inr_18 _ (List.mem_of_getElem? (i := 14) rfl)
theorem m_18_15 : Cond.instanceMethod yX6_branches ∈ wsL_law := inr_18 _ (List.mem_of_getElem? (i := 15) rfl)
theorem m_18_16 : Cond.selects RX6 yX6_branches yX6_branches ∈ wsL_law := inr_18 _ (List.mem_of_getElem? (i := 16) rfl)
theorem m_18_17 : Cond.code yX6_branches cX6_branches 3 (some .int) ∈ wsL_law := inr_18 _ (List.mem_of_getElem? (i := 17) rfl)
theorem m_18_18 : Cond.methodLink RL 120 yL_sourceBranches ∈ wsL_law := inr_18 _ (List.mem_of_getElem? (i := 18) rfl)
theorem m_18_19 : Cond.static yL_sourceBranches ∈ wsL_law := inr_18 _ (List.mem_of_getElem? (i := 19) rfl)
theorem m_18_20 : Cond.codeWith yL_sourceBranches cL_sourceBranches 6 (some .int) [(0, 12, 15, 13)] ∈ wsL_law := inr_18 _ (List.mem_of_getElem? (i := 20) rfl)
theorem m_18_21 : Cond.methodLink RL 52 yX5_sourceBranches ∈ wsL_law := inr_18 _ (List.mem_of_getElem? (i := 21) rfl)
theorem m_18_22 : Cond.instanceMethod yX5_sourceBranches ∈ wsL_law := inr_18 _ (List.mem_of_getElem? (i := 22) rfl)
theorem m_18_23 : Cond.selects RX5 yX5_sourceBranches yX5_sourceBranches ∈ wsL_law := inr_18 _ (List.mem_of_getElem? (i := 23) rfl)
theorem m_19_0 : Cond.code yX5_sourceBranches cX5_sourceBranches 4 (some .int) ∈ wsL_law := inr_19 _ (List.mem_of_getElem? (i := 0) rfl)
theorem m_19_1 : Cond.methodLink RL 122 yX6_sourceBranches ∈ wsL_law := inr_19 _ (List.mem_of_getElem? (i := 1) rfl)
theorem m_19_2 : Cond.instanceMethod yX6_sourceBranches ∈ wsL_law := inr_19 _ (List.mem_of_getElem? (i := 2) rfl)
theorem m_19_3 : Cond.selects RX6 yX6_sourceBranches yX6_sourceBranches ∈ wsL_law := inr_19 _ (List.mem_of_getElem? (i := 3) rfl)
theorem m_19_4 : Cond.code yX6_sourceBranches cX6_sourceBranches 4 (some .int) ∈ wsL_law := inr_19 _ (List.mem_of_getElem? (i := 4) rfl)
theorem m_19_5 : Cond.methodLink RL 123 yX5_leaving ∈ wsL_law := inr_19 _ (List.mem_of_getElem? (i := 5) rfl)
theorem m_19_6 : Cond.instanceMethod yX5_leaving ∈ wsL_law := inr_19 _ (List.mem_of_getElem? (i := 6) rfl)
theorem m_19_7 : Cond.selects RX5 yX5_leaving yX5_leaving ∈ wsL_law := inr_19 _ (List.mem_of_getElem? (i := 7) rfl)
theorem m_19_8 : Cond.code yX5_leaving cX5_leaving 1 (some .int) ∈ wsL_law := inr_19 _ (List.mem_of_getElem? (i := 8) rfl)
theorem m_19_9 : Cond.methodLink RX5 146 yX2_leavingBranches ∈ wsL_law := inr_19 _ (List.mem_of_getElem? (i := 9) rfl)
theorem m_19_10 : Cond.instanceMethod yX2_leavingBranches ∈ wsL_law := inr_19 _ (List.mem_of_getElem? (i := 10) rfl)
theorem m_19_11 : Cond.selects RX2 yX2_leavingBranches yX2_leavingBranches ∈ wsL_law := inr_19 _ (List.mem_of_getElem? (i := 11) rfl)
theorem m_19_12 : Cond.code yX2_leavingBranches cX2_leavingBranches 3 (some .int) ∈ wsL_law := inr_19 _ (List.mem_of_getElem? (i := 12) rfl)
theorem m_19_13 : Cond.methodLink RL 126 yX6_leaving ∈ wsL_law := inr_19 _ (List.mem_of_getElem? (i := 13) rfl)
theorem m_19_14 : Cond.instanceMethod yX6_leaving ∈ wsL_law := inr_19 _ (List.mem_of_getElem? (i := 14) rfl)
theorem m_19_15 : Cond.selects RX6 yX6_leaving yX6_leaving ∈ wsL_law := inr_19 _ (List.mem_of_getElem? (i := 15) rfl)
theorem m_19_16 : Cond.code yX6_leaving cX6_leaving 3 (some .int) ∈ wsL_law := inr_19 _ (List.mem_of_getElem? (i := 16) rfl)
theorem m_19_17 : Cond.methodLink RL 127 yL_send ∈ wsL_law := inr_19 _ (List.mem_of_getElem? (i := 17) rfl)
theorem m_19_18 : Cond.static yL_send ∈ wsL_law := inr_19 _ (List.mem_of_getElem? (i := 18) rfl)
theorem m_19_19 : Cond.codeWith yL_send cL_send 5 (some .int) [(0, 10, 13, 13), (0, 10, 17, 38)] ∈ wsL_law := inr_19 _ (List.mem_of_getElem? (i := 19) rfl)
theorem m_19_20 : Cond.methodLink RL 55 yX5_send ∈ wsL_law := inr_19 _ (List.mem_of_getElem? (i := 20) rfl)
theorem m_19_21 : Cond.instanceMethod yX5_send ∈ wsL_law := inr_19 _ (List.mem_of_getElem? (i := 21) rfl)
theorem m_19_22 : Cond.selects RX5 yX5_send yX5_send ∈ wsL_law := inr_19 _ (List.mem_of_getElem? (i := 22) rfl)
theorem m_19_23 : Cond.code yX5_send cX5_send 5 (some .int) ∈ wsL_law := inr_19 _ (List.mem_of_getElem? (i := 23) rfl)
theorem m_20_0 : Cond.methodLink RX5 150 yX3_isFull ∈ wsL_law := inr_20 _ (List.mem_of_getElem? (i := 0) rfl)
theorem m_20_1 : Cond.instanceMethod yX3_isFull ∈ wsL_law := inr_20 _ (List.mem_of_getElem? (i := 1) rfl)
theorem m_20_2 : Cond.selects RX3 yX3_isFull yX3_isFull ∈ wsL_law := inr_20 _ (List.mem_of_getElem? (i := 2) rfl)
theorem m_20_3 : Cond.code yX3_isFull cX3_isFull 1 (some .boolean) ∈ wsL_law := inr_20 _ (List.mem_of_getElem? (i := 3) rfl)
theorem m_20_4 : Cond.fieldLink RX3 24 "Multidell$Packets" "sent" "I" ∈ wsL_law := inr_20 _ (List.mem_of_getElem? (i := 4) rfl)
theorem m_20_5 : Cond.methodLink RX5 156 yX3_add ∈ wsL_law := inr_20 _ (List.mem_of_getElem? (i := 5) rfl)
theorem m_20_6 : Cond.instanceMethod yX3_add ∈ wsL_law := inr_20 _ (List.mem_of_getElem? (i := 6) rfl)
theorem m_20_7 : Cond.selects RX3 yX3_add yX3_add ∈ wsL_law := inr_20 _ (List.mem_of_getElem? (i := 7) rfl)
theorem m_20_8 : Cond.code yX3_add cX3_add 4 (some .int) ∈ wsL_law := inr_20 _ (List.mem_of_getElem? (i := 8) rfl)
theorem m_20_9 : Cond.methodLink RX3 28 yX3_isFull ∈ wsL_law := inr_20 _ (List.mem_of_getElem? (i := 9) rfl)
theorem m_20_10 : Cond.methodLink RX5 159 yX3_receive ∈ wsL_law := inr_20 _ (List.mem_of_getElem? (i := 10) rfl)
theorem m_20_11 : Cond.instanceMethod yX3_receive ∈ wsL_law := inr_20 _ (List.mem_of_getElem? (i := 11) rfl)
theorem m_20_12 : Cond.selects RX3 yX3_receive yX3_receive ∈ wsL_law := inr_20 _ (List.mem_of_getElem? (i := 12) rfl)
theorem m_20_13 : Cond.code yX3_receive cX3_receive 3 none ∈ wsL_law := inr_20 _ (List.mem_of_getElem? (i := 13) rfl)
theorem m_20_14 : Cond.methodLink RX3 32 yX3_isPacket ∈ wsL_law := inr_20 _ (List.mem_of_getElem? (i := 14) rfl)
theorem m_20_15 : Cond.instanceMethod yX3_isPacket ∈ wsL_law := inr_20 _ (List.mem_of_getElem? (i := 15) rfl)
theorem m_20_16 : Cond.selects RX3 yX3_isPacket yX3_isPacket ∈ wsL_law := inr_20 _ (List.mem_of_getElem? (i := 16) rfl)
theorem m_20_17 : Cond.code yX3_isPacket cX3_isPacket 2 (some .boolean) ∈ wsL_law := inr_20 _ (List.mem_of_getElem? (i := 17) rfl)
theorem m_20_18 : Cond.methodLink RX5 162 yX5_getPacket ∈ wsL_law := inr_20 _ (List.mem_of_getElem? (i := 18) rfl)
theorem m_20_19 : Cond.instanceMethod yX5_getPacket ∈ wsL_law := inr_20 _ (List.mem_of_getElem? (i := 19) rfl)
theorem m_20_20 : Cond.selects RX5 yX5_getPacket yX5_getPacket ∈ wsL_law := inr_20 _ (List.mem_of_getElem? (i := 20) rfl)
theorem m_20_21 : Cond.code yX5_getPacket cX5_getPacket 9 (some .boolean) ∈ wsL_law := inr_20 _ (List.mem_of_getElem? (i := 21) rfl)
theorem m_20_22 : Cond.methodLink RX5 220 yX3_groupOf ∈ wsL_law := inr_20 _ (List.mem_of_getElem? (i := 22) rfl)
theorem m_20_23 : Cond.instanceMethod yX3_groupOf ∈ wsL_law := inr_20 _ (List.mem_of_getElem? (i := 23) rfl)
theorem m_21_0 : Cond.selects RX3 yX3_groupOf yX3_groupOf ∈ wsL_law := inr_21 _ (List.mem_of_getElem? (i := 0) rfl)
theorem m_21_1 : Cond.code yX3_groupOf cX3_groupOf 2 (some .int) ∈ wsL_law := inr_21 _ (List.mem_of_getElem? (i := 1) rfl)
theorem m_21_2 : Cond.methodLink RX5 200 yX3_receiversOf ∈ wsL_law := inr_21 _ (List.mem_of_getElem? (i := 2) rfl)
theorem m_21_3 : Cond.instanceMethod yX3_receiversOf ∈ wsL_law := inr_21 _ (List.mem_of_getElem? (i := 3) rfl)
theorem m_21_4 : Cond.selects RX3 yX3_receiversOf yX3_receiversOf ∈ wsL_law := inr_21 _ (List.mem_of_getElem? (i := 4) rfl)
theorem m_21_5 : Cond.code yX3_receiversOf cX3_receiversOf 2 (some .int) ∈ wsL_law := inr_21 _ (List.mem_of_getElem? (i := 5) rfl)
theorem m_21_6 : Cond.methodLink RX5 223 yX3_addDouble ∈ wsL_law := inr_21 _ (List.mem_of_getElem? (i := 6) rfl)
theorem m_21_7 : Cond.instanceMethod yX3_addDouble ∈ wsL_law := inr_21 _ (List.mem_of_getElem? (i := 7) rfl)
theorem m_21_8 : Cond.selects RX3 yX3_addDouble yX3_addDouble ∈ wsL_law := inr_21 _ (List.mem_of_getElem? (i := 8) rfl)
theorem m_21_9 : Cond.code yX3_addDouble cX3_addDouble 2 none ∈ wsL_law := inr_21 _ (List.mem_of_getElem? (i := 9) rfl)
theorem m_21_10 : Cond.methodLink RX5 226 yX3_sourceOf ∈ wsL_law := inr_21 _ (List.mem_of_getElem? (i := 10) rfl)
theorem m_21_11 : Cond.instanceMethod yX3_sourceOf ∈ wsL_law := inr_21 _ (List.mem_of_getElem? (i := 11) rfl)
theorem m_21_12 : Cond.selects RX3 yX3_sourceOf yX3_sourceOf ∈ wsL_law := inr_21 _ (List.mem_of_getElem? (i := 12) rfl)
theorem m_21_13 : Cond.code yX3_sourceOf cX3_sourceOf 2 (some .int) ∈ wsL_law := inr_21 _ (List.mem_of_getElem? (i := 13) rfl)
theorem m_21_14 : Cond.methodLink RX5 229 yX5_isShared ∈ wsL_law := inr_21 _ (List.mem_of_getElem? (i := 14) rfl)
theorem m_21_15 : Cond.static yX5_isShared ∈ wsL_law := inr_21 _ (List.mem_of_getElem? (i := 15) rfl)
theorem m_21_16 : Cond.code yX5_isShared cX5_isShared 1 (some .boolean) ∈ wsL_law := inr_21 _ (List.mem_of_getElem? (i := 16) rfl)
theorem m_21_17 : Cond.methodLink RX5 233 yX5_countSaysSwitch ∈ wsL_law := inr_21 _ (List.mem_of_getElem? (i := 17) rfl)
theorem m_21_18 : Cond.instanceMethod yX5_countSaysSwitch ∈ wsL_law := inr_21 _ (List.mem_of_getElem? (i := 18) rfl)
theorem m_21_19 : Cond.selects RX5 yX5_countSaysSwitch yX5_countSaysSwitch ∈ wsL_law := inr_21 _ (List.mem_of_getElem? (i := 19) rfl)
theorem m_21_20 : Cond.code yX5_countSaysSwitch cX5_countSaysSwitch 6 (some .boolean) ∈ wsL_law := inr_21 _ (List.mem_of_getElem? (i := 20) rfl)
theorem m_21_21 : Cond.methodLink RX5 236 yX1_raise ∈ wsL_law := inr_21 _ (List.mem_of_getElem? (i := 21) rfl)
theorem m_21_22 : Cond.instanceMethod yX1_raise ∈ wsL_law := inr_21 _ (List.mem_of_getElem? (i := 22) rfl)
theorem m_21_23 : Cond.selects RX1 yX1_raise yX1_raise ∈ wsL_law := inr_21 _ (List.mem_of_getElem? (i := 23) rfl)
theorem m_22_0 : Cond.code yX1_raise cX1_raise 5 (some .int) ∈ wsL_law := inr_22 _ (List.mem_of_getElem? (i := 0) rfl)
theorem m_22_1 : Cond.methodLink RX5 166 yX5_goOn ∈ wsL_law := inr_22 _ (List.mem_of_getElem? (i := 1) rfl)
theorem m_22_2 : Cond.instanceMethod yX5_goOn ∈ wsL_law := inr_22 _ (List.mem_of_getElem? (i := 2) rfl)
theorem m_22_3 : Cond.selects RX5 yX5_goOn yX5_goOn ∈ wsL_law := inr_22 _ (List.mem_of_getElem? (i := 3) rfl)
theorem m_22_4 : Cond.code yX5_goOn cX5_goOn 6 none ∈ wsL_law := inr_22 _ (List.mem_of_getElem? (i := 4) rfl)
theorem m_22_5 : Cond.fieldLink RX5 187 "Multidell" "wastedCopies" "I" ∈ wsL_law := inr_22 _ (List.mem_of_getElem? (i := 5) rfl)
theorem m_22_6 : Cond.methodLink RX5 240 yX0_put ∈ wsL_law := inr_22 _ (List.mem_of_getElem? (i := 6) rfl)
theorem m_22_7 : Cond.instanceMethod yX0_put ∈ wsL_law := inr_22 _ (List.mem_of_getElem? (i := 7) rfl)
theorem m_22_8 : Cond.selects RX0 yX0_put yX0_put ∈ wsL_law := inr_22 _ (List.mem_of_getElem? (i := 8) rfl)
theorem m_22_9 : Cond.code yX0_put cX0_put 6 (some .boolean) ∈ wsL_law := inr_22 _ (List.mem_of_getElem? (i := 9) rfl)
theorem m_22_10 : Cond.fieldLink RX0 24 "Multidell$CopyQueue" "size" "I" ∈ wsL_law := inr_22 _ (List.mem_of_getElem? (i := 10) rfl)
theorem m_22_11 : Cond.fieldLink RX0 28 "Multidell$CopyQueue" "first" "I" ∈ wsL_law := inr_22 _ (List.mem_of_getElem? (i := 11) rfl)
theorem m_22_12 : Cond.methodLink RL 129 yX6_send ∈ wsL_law := inr_22 _ (List.mem_of_getElem? (i := 12) rfl)
theorem m_22_13 : Cond.instanceMethod yX6_send ∈ wsL_law := inr_22 _ (List.mem_of_getElem? (i := 13) rfl)
theorem m_22_14 : Cond.selects RX6 yX6_send yX6_send ∈ wsL_law := inr_22 _ (List.mem_of_getElem? (i := 14) rfl)
theorem m_22_15 : Cond.code yX6_send cX6_send 6 (some .int) ∈ wsL_law := inr_22 _ (List.mem_of_getElem? (i := 15) rfl)
theorem m_22_16 : Cond.fieldLink RX6 121 "MultidellModel" "packets" "I" ∈ wsL_law := inr_22 _ (List.mem_of_getElem? (i := 16) rfl)
theorem m_22_17 : Cond.methodLink RX6 124 yX6_gets ∈ wsL_law := inr_22 _ (List.mem_of_getElem? (i := 17) rfl)
theorem m_22_18 : Cond.instanceMethod yX6_gets ∈ wsL_law := inr_22 _ (List.mem_of_getElem? (i := 18) rfl)
theorem m_22_19 : Cond.selects RX6 yX6_gets yX6_gets ∈ wsL_law := inr_22 _ (List.mem_of_getElem? (i := 19) rfl)
theorem m_22_20 : Cond.code yX6_gets cX6_gets 6 (some .boolean) ∈ wsL_law := inr_22 _ (List.mem_of_getElem? (i := 20) rfl)
theorem m_22_21 : Cond.methodLink RX6 114 yX6_counts ∈ wsL_law := inr_22 _ (List.mem_of_getElem? (i := 21) rfl)
theorem m_22_22 : Cond.instanceMethod yX6_counts ∈ wsL_law := inr_22 _ (List.mem_of_getElem? (i := 22) rfl)
theorem m_22_23 : Cond.selects RX6 yX6_counts yX6_counts ∈ wsL_law := inr_22 _ (List.mem_of_getElem? (i := 23) rfl)
theorem m_23_0 : Cond.code yX6_counts cX6_counts 5 none ∈ wsL_law := inr_23 _ (List.mem_of_getElem? (i := 0) rfl)
theorem m_23_1 : Cond.methodLink RX6 118 yX6_goesOn ∈ wsL_law := inr_23 _ (List.mem_of_getElem? (i := 1) rfl)
theorem m_23_2 : Cond.instanceMethod yX6_goesOn ∈ wsL_law := inr_23 _ (List.mem_of_getElem? (i := 2) rfl)
theorem m_23_3 : Cond.selects RX6 yX6_goesOn yX6_goesOn ∈ wsL_law := inr_23 _ (List.mem_of_getElem? (i := 3) rfl)
theorem m_23_4 : Cond.code yX6_goesOn cX6_goesOn 6 none ∈ wsL_law := inr_23 _ (List.mem_of_getElem? (i := 4) rfl)
theorem m_23_5 : Cond.fieldLink RX6 108 "MultidellModel" "queued" "I" ∈ wsL_law := inr_23 _ (List.mem_of_getElem? (i := 5) rfl)
theorem m_23_6 : Cond.fieldLink RX6 111 "MultidellModel" "wasted" "I" ∈ wsL_law := inr_23 _ (List.mem_of_getElem? (i := 6) rfl)
theorem m_23_7 : Cond.methodLink RL 130 yX5_follow ∈ wsL_law := inr_23 _ (List.mem_of_getElem? (i := 7) rfl)
theorem m_23_8 : Cond.instanceMethod yX5_follow ∈ wsL_law := inr_23 _ (List.mem_of_getElem? (i := 8) rfl)
theorem m_23_9 : Cond.selects RX5 yX5_follow yX5_follow ∈ wsL_law := inr_23 _ (List.mem_of_getElem? (i := 9) rfl)
theorem m_23_10 : Cond.code yX5_follow cX5_follow 5 (some .int) ∈ wsL_law := inr_23 _ (List.mem_of_getElem? (i := 10) rfl)
theorem m_23_11 : Cond.methodLink RX5 169 yX0_isEmpty ∈ wsL_law := inr_23 _ (List.mem_of_getElem? (i := 11) rfl)
theorem m_23_12 : Cond.instanceMethod yX0_isEmpty ∈ wsL_law := inr_23 _ (List.mem_of_getElem? (i := 12) rfl)
theorem m_23_13 : Cond.selects RX0 yX0_isEmpty yX0_isEmpty ∈ wsL_law := inr_23 _ (List.mem_of_getElem? (i := 13) rfl)
theorem m_23_14 : Cond.code yX0_isEmpty cX0_isEmpty 1 (some .boolean) ∈ wsL_law := inr_23 _ (List.mem_of_getElem? (i := 14) rfl)
theorem m_23_15 : Cond.methodLink RX5 172 yX0_firstPacket ∈ wsL_law := inr_23 _ (List.mem_of_getElem? (i := 15) rfl)
theorem m_23_16 : Cond.instanceMethod yX0_firstPacket ∈ wsL_law := inr_23 _ (List.mem_of_getElem? (i := 16) rfl)
theorem m_23_17 : Cond.selects RX0 yX0_firstPacket yX0_firstPacket ∈ wsL_law := inr_23 _ (List.mem_of_getElem? (i := 17) rfl)
theorem m_23_18 : Cond.code yX0_firstPacket cX0_firstPacket 1 (some .int) ∈ wsL_law := inr_23 _ (List.mem_of_getElem? (i := 18) rfl)
theorem m_23_19 : Cond.methodLink RX0 31 yX0_firstIn ∈ wsL_law := inr_23 _ (List.mem_of_getElem? (i := 19) rfl)
theorem m_23_20 : Cond.instanceMethod yX0_firstIn ∈ wsL_law := inr_23 _ (List.mem_of_getElem? (i := 20) rfl)
theorem m_23_21 : Cond.selects RX0 yX0_firstIn yX0_firstIn ∈ wsL_law := inr_23 _ (List.mem_of_getElem? (i := 21) rfl)
theorem m_23_22 : Cond.code yX0_firstIn cX0_firstIn 2 (some .int) ∈ wsL_law := inr_23 _ (List.mem_of_getElem? (i := 22) rfl)
theorem m_23_23 : Cond.methodLink RX5 175 yX0_firstTree ∈ wsL_law := inr_23 _ (List.mem_of_getElem? (i := 23) rfl)
theorem m_24_0 : Cond.instanceMethod yX0_firstTree ∈ wsL_law := inr_24 _ (List.mem_of_getElem? (i := 0) rfl)
theorem m_24_1 : Cond.selects RX0 yX0_firstTree yX0_firstTree ∈ wsL_law := inr_24 _ (List.mem_of_getElem? (i := 1) rfl)
theorem m_24_2 : Cond.code yX0_firstTree cX0_firstTree 1 (some .int) ∈ wsL_law := inr_24 _ (List.mem_of_getElem? (i := 2) rfl)
theorem m_24_3 : Cond.methodLink RX5 178 yX0_firstFrom ∈ wsL_law := inr_24 _ (List.mem_of_getElem? (i := 3) rfl)
theorem m_24_4 : Cond.instanceMethod yX0_firstFrom ∈ wsL_law := inr_24 _ (List.mem_of_getElem? (i := 4) rfl)
theorem m_24_5 : Cond.selects RX0 yX0_firstFrom yX0_firstFrom ∈ wsL_law := inr_24 _ (List.mem_of_getElem? (i := 5) rfl)
theorem m_24_6 : Cond.code yX0_firstFrom cX0_firstFrom 1 (some .int) ∈ wsL_law := inr_24 _ (List.mem_of_getElem? (i := 6) rfl)
theorem m_24_7 : Cond.methodLink RX5 181 yX0_firstTo ∈ wsL_law := inr_24 _ (List.mem_of_getElem? (i := 7) rfl)
theorem m_24_8 : Cond.instanceMethod yX0_firstTo ∈ wsL_law := inr_24 _ (List.mem_of_getElem? (i := 8) rfl)
theorem m_24_9 : Cond.selects RX0 yX0_firstTo yX0_firstTo ∈ wsL_law := inr_24 _ (List.mem_of_getElem? (i := 9) rfl)
theorem m_24_10 : Cond.code yX0_firstTo cX0_firstTo 1 (some .int) ∈ wsL_law := inr_24 _ (List.mem_of_getElem? (i := 10) rfl)
theorem m_24_11 : Cond.methodLink RX5 184 yX0_removeFirst ∈ wsL_law := inr_24 _ (List.mem_of_getElem? (i := 11) rfl)
theorem m_24_12 : Cond.instanceMethod yX0_removeFirst ∈ wsL_law := inr_24 _ (List.mem_of_getElem? (i := 12) rfl)
theorem m_24_13 : Cond.selects RX0 yX0_removeFirst yX0_removeFirst ∈ wsL_law := inr_24 _ (List.mem_of_getElem? (i := 13) rfl)
theorem m_24_14 : Cond.code yX0_removeFirst cX0_removeFirst 1 none ∈ wsL_law := inr_24 _ (List.mem_of_getElem? (i := 14) rfl)
theorem m_24_15 : Cond.methodLink RL 133 yX6_follow ∈ wsL_law := inr_24 _ (List.mem_of_getElem? (i := 15) rfl)
theorem m_24_16 : Cond.instanceMethod yX6_follow ∈ wsL_law := inr_24 _ (List.mem_of_getElem? (i := 16) rfl)
theorem m_24_17 : Cond.selects RX6 yX6_follow yX6_follow ∈ wsL_law := inr_24 _ (List.mem_of_getElem? (i := 17) rfl)
theorem m_24_18 : Cond.code yX6_follow cX6_follow 1 (some .int) ∈ wsL_law := inr_24 _ (List.mem_of_getElem? (i := 18) rfl)
theorem m_24_19 : Cond.methodLink RX6 128 yX6_follows ∈ wsL_law := inr_24 _ (List.mem_of_getElem? (i := 19) rfl)
theorem m_24_20 : Cond.instanceMethod yX6_follows ∈ wsL_law := inr_24 _ (List.mem_of_getElem? (i := 20) rfl)
theorem m_24_21 : Cond.selects RX6 yX6_follows yX6_follows ∈ wsL_law := inr_24 _ (List.mem_of_getElem? (i := 21) rfl)
theorem m_24_22 : Cond.code yX6_follows cX6_follows 7 (some .int) ∈ wsL_law := inr_24 _ (List.mem_of_getElem? (i := 22) rfl)
theorem m_24_23 : Cond.methodLink RL 134 yX5_followAll ∈ wsL_law := inr_24 _ (List.mem_of_getElem? (i := 23) rfl)
theorem m_25_0 : Cond.instanceMethod yX5_followAll ∈ wsL_law := inr_25 _ (List.mem_of_getElem? (i := 0) rfl)
theorem m_25_1 : Cond.selects RX5 yX5_followAll yX5_followAll ∈ wsL_law := inr_25 _ (List.mem_of_getElem? (i := 1) rfl)
theorem m_25_2 : Cond.code yX5_followAll cX5_followAll 2 (some .int) ∈ wsL_law := inr_25 _ (List.mem_of_getElem? (i := 2) rfl)
theorem m_25_3 : Cond.constant RX5 190 (1000000) ∈ wsL_law := inr_25 _ (List.mem_of_getElem? (i := 3) rfl)
theorem m_25_4 : Cond.methodLink RX5 191 yX5_follow ∈ wsL_law := inr_25 _ (List.mem_of_getElem? (i := 4) rfl)
theorem m_25_5 : Cond.methodLink RL 137 yX6_followAll ∈ wsL_law := inr_25 _ (List.mem_of_getElem? (i := 5) rfl)
theorem m_25_6 : Cond.instanceMethod yX6_followAll ∈ wsL_law := inr_25 _ (List.mem_of_getElem? (i := 6) rfl)
theorem m_25_7 : Cond.selects RX6 yX6_followAll yX6_followAll ∈ wsL_law := inr_25 _ (List.mem_of_getElem? (i := 7) rfl)
theorem m_25_8 : Cond.code yX6_followAll cX6_followAll 2 (some .int) ∈ wsL_law := inr_25 _ (List.mem_of_getElem? (i := 8) rfl)
theorem m_25_9 : Cond.methodLink RL 138 yX5_queued ∈ wsL_law := inr_25 _ (List.mem_of_getElem? (i := 9) rfl)
theorem m_25_10 : Cond.instanceMethod yX5_queued ∈ wsL_law := inr_25 _ (List.mem_of_getElem? (i := 10) rfl)
theorem m_25_11 : Cond.selects RX5 yX5_queued yX5_queued ∈ wsL_law := inr_25 _ (List.mem_of_getElem? (i := 11) rfl)
theorem m_25_12 : Cond.code yX5_queued cX5_queued 1 (some .int) ∈ wsL_law := inr_25 _ (List.mem_of_getElem? (i := 12) rfl)
theorem m_25_13 : Cond.methodLink RX5 194 yX0_count ∈ wsL_law := inr_25 _ (List.mem_of_getElem? (i := 13) rfl)
theorem m_25_14 : Cond.instanceMethod yX0_count ∈ wsL_law := inr_25 _ (List.mem_of_getElem? (i := 14) rfl)
theorem m_25_15 : Cond.selects RX0 yX0_count yX0_count ∈ wsL_law := inr_25 _ (List.mem_of_getElem? (i := 15) rfl)
theorem m_25_16 : Cond.code yX0_count cX0_count 1 (some .int) ∈ wsL_law := inr_25 _ (List.mem_of_getElem? (i := 16) rfl)
theorem m_25_17 : Cond.methodLink RL 141 yX6_queued ∈ wsL_law := inr_25 _ (List.mem_of_getElem? (i := 17) rfl)
theorem m_25_18 : Cond.instanceMethod yX6_queued ∈ wsL_law := inr_25 _ (List.mem_of_getElem? (i := 18) rfl)
theorem m_25_19 : Cond.selects RX6 yX6_queued yX6_queued ∈ wsL_law := inr_25 _ (List.mem_of_getElem? (i := 19) rfl)
theorem m_25_20 : Cond.code yX6_queued cX6_queued 1 (some .int) ∈ wsL_law := inr_25 _ (List.mem_of_getElem? (i := 20) rfl)
theorem m_25_21 : Cond.methodLink RL 142 yX5_nextTo ∈ wsL_law := inr_25 _ (List.mem_of_getElem? (i := 21) rfl)
theorem m_25_22 : Cond.instanceMethod yX5_nextTo ∈ wsL_law := inr_25 _ (List.mem_of_getElem? (i := 22) rfl)
theorem m_25_23 : Cond.selects RX5 yX5_nextTo yX5_nextTo ∈ wsL_law := inr_25 _ (List.mem_of_getElem? (i := 23) rfl)
theorem m_26_0 : Cond.code yX5_nextTo cX5_nextTo 1 (some .int) ∈ wsL_law := inr_26 _ (List.mem_of_getElem? (i := 0) rfl)
theorem m_26_1 : Cond.methodLink RL 145 yX6_nextTo ∈ wsL_law := inr_26 _ (List.mem_of_getElem? (i := 1) rfl)
theorem m_26_2 : Cond.instanceMethod yX6_nextTo ∈ wsL_law := inr_26 _ (List.mem_of_getElem? (i := 2) rfl)
theorem m_26_3 : Cond.selects RX6 yX6_nextTo yX6_nextTo ∈ wsL_law := inr_26 _ (List.mem_of_getElem? (i := 3) rfl)
theorem m_26_4 : Cond.code yX6_nextTo cX6_nextTo 1 (some .int) ∈ wsL_law := inr_26 _ (List.mem_of_getElem? (i := 4) rfl)
theorem m_26_5 : Cond.methodLink RL 146 yL_received ∈ wsL_law := inr_26 _ (List.mem_of_getElem? (i := 5) rfl)
theorem m_26_6 : Cond.static yL_received ∈ wsL_law := inr_26 _ (List.mem_of_getElem? (i := 6) rfl)
theorem m_26_7 : Cond.codeWith yL_received cL_received 4 (some .int) [(0, 9, 12, 13)] ∈ wsL_law := inr_26 _ (List.mem_of_getElem? (i := 7) rfl)
theorem m_26_8 : Cond.methodLink RL 58 yX5_received ∈ wsL_law := inr_26 _ (List.mem_of_getElem? (i := 8) rfl)
theorem m_26_9 : Cond.instanceMethod yX5_received ∈ wsL_law := inr_26 _ (List.mem_of_getElem? (i := 9) rfl)
theorem m_26_10 : Cond.selects RX5 yX5_received yX5_received ∈ wsL_law := inr_26 _ (List.mem_of_getElem? (i := 10) rfl)
theorem m_26_11 : Cond.code yX5_received cX5_received 2 (some .int) ∈ wsL_law := inr_26 _ (List.mem_of_getElem? (i := 11) rfl)
theorem m_26_12 : Cond.methodLink RX5 197 yX5_checkPacket ∈ wsL_law := inr_26 _ (List.mem_of_getElem? (i := 12) rfl)
theorem m_26_13 : Cond.instanceMethod yX5_checkPacket ∈ wsL_law := inr_26 _ (List.mem_of_getElem? (i := 13) rfl)
theorem m_26_14 : Cond.selects RX5 yX5_checkPacket yX5_checkPacket ∈ wsL_law := inr_26 _ (List.mem_of_getElem? (i := 14) rfl)
theorem m_26_15 : Cond.code yX5_checkPacket cX5_checkPacket 2 none ∈ wsL_law := inr_26 _ (List.mem_of_getElem? (i := 15) rfl)
theorem m_26_16 : Cond.methodLink RX5 244 yX3_isPacket ∈ wsL_law := inr_26 _ (List.mem_of_getElem? (i := 16) rfl)
theorem m_26_17 : Cond.methodLink RL 148 yX6_received ∈ wsL_law := inr_26 _ (List.mem_of_getElem? (i := 17) rfl)
theorem m_26_18 : Cond.instanceMethod yX6_received ∈ wsL_law := inr_26 _ (List.mem_of_getElem? (i := 18) rfl)
theorem m_26_19 : Cond.selects RX6 yX6_received yX6_received ∈ wsL_law := inr_26 _ (List.mem_of_getElem? (i := 19) rfl)
theorem m_26_20 : Cond.code yX6_received cX6_received 2 (some .int) ∈ wsL_law := inr_26 _ (List.mem_of_getElem? (i := 20) rfl)
theorem m_26_21 : Cond.methodLink RX6 132 yX6_isPacket ∈ wsL_law := inr_26 _ (List.mem_of_getElem? (i := 21) rfl)
theorem m_26_22 : Cond.instanceMethod yX6_isPacket ∈ wsL_law := inr_26 _ (List.mem_of_getElem? (i := 22) rfl)
theorem m_26_23 : Cond.selects RX6 yX6_isPacket yX6_isPacket ∈ wsL_law := inr_26 _ (List.mem_of_getElem? (i := 23) rfl)
theorem m_27_0 : Cond.code yX6_isPacket cX6_isPacket 2 (some .boolean) ∈ wsL_law := inr_27 _ (List.mem_of_getElem? (i := 0) rfl)
theorem m_27_1 : Cond.methodLink RL 149 yL_doubles ∈ wsL_law := inr_27 _ (List.mem_of_getElem? (i := 1) rfl)
theorem m_27_2 : Cond.static yL_doubles ∈ wsL_law := inr_27 _ (List.mem_of_getElem? (i := 2) rfl)
theorem m_27_3 : Cond.codeWith yL_doubles cL_doubles 4 (some .int) [(0, 9, 12, 13)] ∈ wsL_law := inr_27 _ (List.mem_of_getElem? (i := 3) rfl)
theorem m_27_4 : Cond.methodLink RL 61 yX5_doubles ∈ wsL_law := inr_27 _ (List.mem_of_getElem? (i := 4) rfl)
theorem m_27_5 : Cond.instanceMethod yX5_doubles ∈ wsL_law := inr_27 _ (List.mem_of_getElem? (i := 5) rfl)
theorem m_27_6 : Cond.selects RX5 yX5_doubles yX5_doubles ∈ wsL_law := inr_27 _ (List.mem_of_getElem? (i := 6) rfl)
theorem m_27_7 : Cond.code yX5_doubles cX5_doubles 2 (some .int) ∈ wsL_law := inr_27 _ (List.mem_of_getElem? (i := 7) rfl)
theorem m_27_8 : Cond.methodLink RX5 203 yX3_doublesOf ∈ wsL_law := inr_27 _ (List.mem_of_getElem? (i := 8) rfl)
theorem m_27_9 : Cond.instanceMethod yX3_doublesOf ∈ wsL_law := inr_27 _ (List.mem_of_getElem? (i := 9) rfl)
theorem m_27_10 : Cond.selects RX3 yX3_doublesOf yX3_doublesOf ∈ wsL_law := inr_27 _ (List.mem_of_getElem? (i := 10) rfl)
theorem m_27_11 : Cond.code yX3_doublesOf cX3_doublesOf 2 (some .int) ∈ wsL_law := inr_27 _ (List.mem_of_getElem? (i := 11) rfl)
theorem m_27_12 : Cond.methodLink RL 151 yX6_doubles ∈ wsL_law := inr_27 _ (List.mem_of_getElem? (i := 12) rfl)
theorem m_27_13 : Cond.instanceMethod yX6_doubles ∈ wsL_law := inr_27 _ (List.mem_of_getElem? (i := 13) rfl)
theorem m_27_14 : Cond.selects RX6 yX6_doubles yX6_doubles ∈ wsL_law := inr_27 _ (List.mem_of_getElem? (i := 14) rfl)
theorem m_27_15 : Cond.code yX6_doubles cX6_doubles 2 (some .int) ∈ wsL_law := inr_27 _ (List.mem_of_getElem? (i := 15) rfl)
theorem m_27_16 : Cond.methodLink RL 152 yX5_wasted ∈ wsL_law := inr_27 _ (List.mem_of_getElem? (i := 16) rfl)
theorem m_27_17 : Cond.instanceMethod yX5_wasted ∈ wsL_law := inr_27 _ (List.mem_of_getElem? (i := 17) rfl)
theorem m_27_18 : Cond.selects RX5 yX5_wasted yX5_wasted ∈ wsL_law := inr_27 _ (List.mem_of_getElem? (i := 18) rfl)
theorem m_27_19 : Cond.code yX5_wasted cX5_wasted 1 (some .int) ∈ wsL_law := inr_27 _ (List.mem_of_getElem? (i := 19) rfl)
theorem m_27_20 : Cond.methodLink RL 155 yX6_wasted ∈ wsL_law := inr_27 _ (List.mem_of_getElem? (i := 20) rfl)
theorem m_27_21 : Cond.instanceMethod yX6_wasted ∈ wsL_law := inr_27 _ (List.mem_of_getElem? (i := 21) rfl)
theorem m_27_22 : Cond.selects RX6 yX6_wasted yX6_wasted ∈ wsL_law := inr_27 _ (List.mem_of_getElem? (i := 22) rfl)
theorem m_27_23 : Cond.code yX6_wasted cX6_wasted 1 (some .int) ∈ wsL_law := inr_27 _ (List.mem_of_getElem? (i := 23) rfl)
theorem m_28_0 : Cond.methodLink RL 156 yL_pass ∈ wsL_law := inr_28 _ (List.mem_of_getElem? (i := 0) rfl)
theorem m_28_1 : Cond.static yL_pass ∈ wsL_law := inr_28 _ (List.mem_of_getElem? (i := 1) rfl)
theorem m_28_2 : Cond.codeWith yL_pass cL_pass 4 (some .int) [(0, 9, 12, 15)] ∈ wsL_law := inr_28 _ (List.mem_of_getElem? (i := 2) rfl)
theorem m_28_3 : Cond.methodLink RL 64 yX5_pass ∈ wsL_law := inr_28 _ (List.mem_of_getElem? (i := 3) rfl)
theorem m_28_4 : Cond.instanceMethod yX5_pass ∈ wsL_law := inr_28 _ (List.mem_of_getElem? (i := 4) rfl)
theorem m_28_5 : Cond.selects RX5 yX5_pass yX5_pass ∈ wsL_law := inr_28 _ (List.mem_of_getElem? (i := 5) rfl)
theorem m_28_6 : Cond.code yX5_pass cX5_pass 4 (some .int) ∈ wsL_law := inr_28 _ (List.mem_of_getElem? (i := 6) rfl)
theorem m_28_7 : Cond.methodLink RX5 208 yX2_removeDue ∈ wsL_law := inr_28 _ (List.mem_of_getElem? (i := 7) rfl)
theorem m_28_8 : Cond.instanceMethod yX2_removeDue ∈ wsL_law := inr_28 _ (List.mem_of_getElem? (i := 8) rfl)
theorem m_28_9 : Cond.selects RX2 yX2_removeDue yX2_removeDue ∈ wsL_law := inr_28 _ (List.mem_of_getElem? (i := 9) rfl)
theorem m_28_10 : Cond.code yX2_removeDue cX2_removeDue 5 (some .int) ∈ wsL_law := inr_28 _ (List.mem_of_getElem? (i := 10) rfl)
theorem m_28_11 : Cond.methodLink RX2 61 yX2_isDue ∈ wsL_law := inr_28 _ (List.mem_of_getElem? (i := 11) rfl)
theorem m_28_12 : Cond.instanceMethod yX2_isDue ∈ wsL_law := inr_28 _ (List.mem_of_getElem? (i := 12) rfl)
theorem m_28_13 : Cond.selects RX2 yX2_isDue yX2_isDue ∈ wsL_law := inr_28 _ (List.mem_of_getElem? (i := 13) rfl)
theorem m_28_14 : Cond.code yX2_isDue cX2_isDue 4 (some .boolean) ∈ wsL_law := inr_28 _ (List.mem_of_getElem? (i := 14) rfl)
theorem m_28_15 : Cond.methodLink RX2 65 yX2_remove ∈ wsL_law := inr_28 _ (List.mem_of_getElem? (i := 15) rfl)
theorem m_28_16 : Cond.instanceMethod yX2_remove ∈ wsL_law := inr_28 _ (List.mem_of_getElem? (i := 16) rfl)
theorem m_28_17 : Cond.selects RX2 yX2_remove yX2_remove ∈ wsL_law := inr_28 _ (List.mem_of_getElem? (i := 17) rfl)
theorem m_28_18 : Cond.code yX2_remove cX2_remove 5 none ∈ wsL_law := inr_28 _ (List.mem_of_getElem? (i := 18) rfl)
theorem m_28_19 : Cond.methodLink RX5 211 yX1_forgetAll ∈ wsL_law := inr_28 _ (List.mem_of_getElem? (i := 19) rfl)
theorem m_28_20 : Cond.instanceMethod yX1_forgetAll ∈ wsL_law := inr_28 _ (List.mem_of_getElem? (i := 20) rfl)
theorem m_28_21 : Cond.selects RX1 yX1_forgetAll yX1_forgetAll ∈ wsL_law := inr_28 _ (List.mem_of_getElem? (i := 21) rfl)
theorem m_28_22 : Cond.code yX1_forgetAll cX1_forgetAll 1 none ∈ wsL_law := inr_28 _ (List.mem_of_getElem? (i := 22) rfl)
theorem m_28_23 : Cond.methodLink RX1 23 yJ7_fill_53178 ∈ wsL_law := inr_28 _ (List.mem_of_getElem? (i := 23) rfl)
theorem m_29_0 : Cond.methodLink RL 158 yX6_pass ∈ wsL_law := inr_29 _ (List.mem_of_getElem? (i := 0) rfl)
theorem m_29_1 : Cond.instanceMethod yX6_pass ∈ wsL_law := inr_29 _ (List.mem_of_getElem? (i := 1) rfl)
theorem m_29_2 : Cond.selects RX6 yX6_pass yX6_pass ∈ wsL_law := inr_29 _ (List.mem_of_getElem? (i := 2) rfl)
theorem m_29_3 : Cond.code yX6_pass cX6_pass 5 (some .int) ∈ wsL_law := inr_29 _ (List.mem_of_getElem? (i := 3) rfl)
theorem m_29_4 : Cond.methodLink RX6 135 yX6_second ∈ wsL_law := inr_29 _ (List.mem_of_getElem? (i := 4) rfl)
theorem m_29_5 : Cond.instanceMethod yX6_second ∈ wsL_law := inr_29 _ (List.mem_of_getElem? (i := 5) rfl)
theorem m_29_6 : Cond.selects RX6 yX6_second yX6_second ∈ wsL_law := inr_29 _ (List.mem_of_getElem? (i := 6) rfl)
theorem m_29_7 : Cond.code yX6_second cX6_second 6 (some .int) ∈ wsL_law := inr_29 _ (List.mem_of_getElem? (i := 7) rfl)
theorem m_29_8 : Cond.methodLink RL 159 yX5_clock ∈ wsL_law := inr_29 _ (List.mem_of_getElem? (i := 8) rfl)
theorem m_29_9 : Cond.instanceMethod yX5_clock ∈ wsL_law := inr_29 _ (List.mem_of_getElem? (i := 9) rfl)
theorem m_29_10 : Cond.selects RX5 yX5_clock yX5_clock ∈ wsL_law := inr_29 _ (List.mem_of_getElem? (i := 10) rfl)
theorem m_29_11 : Cond.code yX5_clock cX5_clock 1 (some .int) ∈ wsL_law := inr_29 _ (List.mem_of_getElem? (i := 11) rfl)
theorem m_29_12 : Cond.methodLink RL 162 yX6_clock ∈ wsL_law := inr_29 _ (List.mem_of_getElem? (i := 12) rfl)
theorem m_29_13 : Cond.instanceMethod yX6_clock ∈ wsL_law := inr_29 _ (List.mem_of_getElem? (i := 13) rfl)
theorem m_29_14 : Cond.selects RX6 yX6_clock yX6_clock ∈ wsL_law := inr_29 _ (List.mem_of_getElem? (i := 14) rfl)
theorem m_29_15 : Cond.code yX6_clock cX6_clock 1 (some .int) ∈ wsL_law := inr_29 _ (List.mem_of_getElem? (i := 15) rfl)
theorem m_29_16 : Cond.methodLink RL 163 yL_floodMembers ∈ wsL_law := inr_29 _ (List.mem_of_getElem? (i := 16) rfl)
theorem m_29_17 : Cond.static yL_floodMembers ∈ wsL_law := inr_29 _ (List.mem_of_getElem? (i := 17) rfl)
theorem m_29_18 : Cond.codeWith yL_floodMembers cL_floodMembers 5 (some .int) [(0, 10, 13, 13)] ∈ wsL_law := inr_29 _ (List.mem_of_getElem? (i := 18) rfl)
theorem m_29_19 : Cond.methodLink RL 67 yX5_floodMembers ∈ wsL_law := inr_29 _ (List.mem_of_getElem? (i := 19) rfl)
theorem m_29_20 : Cond.instanceMethod yX5_floodMembers ∈ wsL_law := inr_29 _ (List.mem_of_getElem? (i := 20) rfl)
theorem m_29_21 : Cond.selects RX5 yX5_floodMembers yX5_floodMembers ∈ wsL_law := inr_29 _ (List.mem_of_getElem? (i := 21) rfl)
theorem m_29_22 : Cond.code yX5_floodMembers cX5_floodMembers 3 (some .int) ∈ wsL_law := inr_29 _ (List.mem_of_getElem? (i := 22) rfl)
theorem m_29_23 : Cond.methodLink RX5 214 yX5_floodedFrom ∈ wsL_law := inr_29 _ (List.mem_of_getElem? (i := 23) rfl)
theorem m_30_0 : Cond.instanceMethod yX5_floodedFrom ∈ wsL_law := inr_30 _ (List.mem_of_getElem? (i := 0) rfl)
theorem m_30_1 : Cond.selects RX5 yX5_floodedFrom yX5_floodedFrom ∈ wsL_law := inr_30 _ (List.mem_of_getElem? (i := 1) rfl)
theorem m_30_2 : Cond.code yX5_floodedFrom cX5_floodedFrom 4 (some .int) ∈ wsL_law := inr_30 _ (List.mem_of_getElem? (i := 2) rfl)
theorem m_30_3 : Cond.methodLink RL 165 yX6_floodMembers ∈ wsL_law := inr_30 _ (List.mem_of_getElem? (i := 3) rfl)
theorem m_30_4 : Cond.instanceMethod yX6_floodMembers ∈ wsL_law := inr_30 _ (List.mem_of_getElem? (i := 4) rfl)
theorem m_30_5 : Cond.selects RX6 yX6_floodMembers yX6_floodMembers ∈ wsL_law := inr_30 _ (List.mem_of_getElem? (i := 5) rfl)
theorem m_30_6 : Cond.code yX6_floodMembers cX6_floodMembers 5 (some .int) ∈ wsL_law := inr_30 _ (List.mem_of_getElem? (i := 6) rfl)
theorem m_30_7 : Cond.methodLink RL 166 yL_floodCopies ∈ wsL_law := inr_30 _ (List.mem_of_getElem? (i := 7) rfl)
theorem m_30_8 : Cond.static yL_floodCopies ∈ wsL_law := inr_30 _ (List.mem_of_getElem? (i := 8) rfl)
theorem m_30_9 : Cond.codeWith yL_floodCopies cL_floodCopies 4 (some .int) [(0, 9, 12, 13)] ∈ wsL_law := inr_30 _ (List.mem_of_getElem? (i := 9) rfl)
theorem m_30_10 : Cond.methodLink RL 70 yX5_floodCopies ∈ wsL_law := inr_30 _ (List.mem_of_getElem? (i := 10) rfl)
theorem m_30_11 : Cond.instanceMethod yX5_floodCopies ∈ wsL_law := inr_30 _ (List.mem_of_getElem? (i := 11) rfl)
theorem m_30_12 : Cond.selects RX5 yX5_floodCopies yX5_floodCopies ∈ wsL_law := inr_30 _ (List.mem_of_getElem? (i := 12) rfl)
theorem m_30_13 : Cond.code yX5_floodCopies cX5_floodCopies 5 (some .int) ∈ wsL_law := inr_30 _ (List.mem_of_getElem? (i := 13) rfl)
theorem m_30_14 : Cond.methodLink RX5 217 yX4_linksOf ∈ wsL_law := inr_30 _ (List.mem_of_getElem? (i := 14) rfl)
theorem m_30_15 : Cond.instanceMethod yX4_linksOf ∈ wsL_law := inr_30 _ (List.mem_of_getElem? (i := 15) rfl)
theorem m_30_16 : Cond.selects RX4 yX4_linksOf yX4_linksOf ∈ wsL_law := inr_30 _ (List.mem_of_getElem? (i := 16) rfl)
theorem m_30_17 : Cond.code yX4_linksOf cX4_linksOf 4 (some .int) ∈ wsL_law := inr_30 _ (List.mem_of_getElem? (i := 17) rfl)
theorem m_30_18 : Cond.methodLink RL 168 yX6_floodCopies ∈ wsL_law := inr_30 _ (List.mem_of_getElem? (i := 18) rfl)
theorem m_30_19 : Cond.instanceMethod yX6_floodCopies ∈ wsL_law := inr_30 _ (List.mem_of_getElem? (i := 19) rfl)
theorem m_30_20 : Cond.selects RX6 yX6_floodCopies yX6_floodCopies ∈ wsL_law := inr_30 _ (List.mem_of_getElem? (i := 20) rfl)
theorem m_30_21 : Cond.code yX6_floodCopies cX6_floodCopies 6 (some .int) ∈ wsL_law := inr_30 _ (List.mem_of_getElem? (i := 21) rfl)
end
section
theorem dX0_init_0 : decode cX0_init 0 = .ok (.aload_n 0, 1) := by decide +kernel
theorem dX0_init_1 : decode cX0_init 1 = .ok (.invokespecial 3, 3) := by decide +kernel
theorem dX0_init_4 : decode cX0_init 4 = .ok (.aload_n 0, 1) := by decide +kernel
theorem dX0_init_5 : decode cX0_init 5 = .ok (.sipush 200, 3) := by decide +kernel
theorem dX0_init_8 : decode cX0_init 8 = .ok (.newarray .int, 2) := by decide +kernel
theorem dX0_init_10 : decode cX0_init 10 = .ok (.putfield 9, 3) := by decide +kernel
theorem dX0_init_13 : decode cX0_init 13 = .ok (.aload_n 0, 1) := by decide +kernel
theorem dX0_init_14 : decode cX0_init 14 = .ok (.sipush 200, 3) := by decide +kernel
theorem dX0_init_17 : decode cX0_init 17 = .ok (.newarray .int, 2) := by decide +kernel
theorem dX0_init_19 : decode cX0_init 19 = .ok (.putfield 15, 3) := by decide +kernel
theorem dX0_init_22 : decode cX0_init 22 = .ok (.aload_n 0, 1) := by decide +kernel
theorem dX0_init_23 : decode cX0_init 23 = .ok (.sipush 200, 3) := by decide +kernel
theorem dX0_init_26 : decode cX0_init 26 = .ok (.newarray .int, 2) := by decide +kernel
theorem dX0_init_28 : decode cX0_init 28 = .ok (.putfield 18, 3) := by decide +kernel
theorem dX0_init_31 : decode cX0_init 31 = .ok (.aload_n 0, 1) := by decide +kernel
theorem dX0_init_32 : decode cX0_init 32 = .ok (.sipush 200, 3) := by decide +kernel
theorem dX0_init_35 : decode cX0_init 35 = .ok (.newarray .int, 2) := by decide +kernel
theorem dX0_init_37 : decode cX0_init 37 = .ok (.putfield 21, 3) := by decide +kernel
theorem dX0_init_40 : decode cX0_init 40 = .ok (.return_, 1) := by decide +kernel
theorem dX0_isEmpty_0 : decode cX0_isEmpty 0 = .ok (.aload_n 0, 1) := by decide +kernel
theorem dX0_isEmpty_1 : decode cX0_isEmpty 1 = .ok (.getfield 24, 3) := by decide +kernel
theorem dX0_isEmpty_4 : decode cX0_isEmpty 4 = .ok (.ifCond .ne 7, 3) := by decide +kernel
theorem dX0_isEmpty_7 : decode cX0_isEmpty 7 = .ok (.iconst 1, 1) := by decide +kernel
theorem dX0_isEmpty_8 : decode cX0_isEmpty 8 = .ok (.goto 4, 3) := by decide +kernel
theorem dX0_isEmpty_11 : decode cX0_isEmpty 11 = .ok (.iconst 0, 1) := by decide +kernel
theorem dX0_isEmpty_12 : decode cX0_isEmpty 12 = .ok (.ireturn, 1) := by decide +kernel
theorem dX0_count_0 : decode cX0_count 0 = .ok (.aload_n 0, 1) := by decide +kernel
theorem dX0_count_1 : decode cX0_count 1 = .ok (.getfield 24, 3) := by decide +kernel
theorem dX0_count_4 : decode cX0_count 4 = .ok (.ireturn, 1) := by decide +kernel
theorem dX0_put_0 : decode cX0_put 0 = .ok (.aload_n 0, 1) := by decide +kernel
theorem dX0_put_1 : decode cX0_put 1 = .ok (.getfield 24, 3) := by decide +kernel
theorem dX0_put_4 : decode cX0_put 4 = .ok (.sipush 200, 3) := by decide +kernel
theorem dX0_put_7 : decode cX0_put 7 = .ok (.if_icmp .lt 5, 3) := by decide +kernel
theorem dX0_put_10 : decode cX0_put 10 = .ok (.iconst 0, 1) := by decide +kernel
theorem dX0_put_11 : decode cX0_put 11 = .ok (.ireturn, 1) := by decide +kernel
theorem dX0_put_12 : decode cX0_put 12 = .ok (.aload_n 0, 1) := by decide +kernel
theorem dX0_put_13 : decode cX0_put 13 = .ok (.getfield 28, 3) := by decide +kernel
theorem dX0_put_16 : decode cX0_put 16 = .ok (.aload_n 0, 1) := by decide +kernel
theorem dX0_put_17 : decode cX0_put 17 = .ok (.getfield 24, 3) := by decide +kernel
theorem dX0_put_20 : decode cX0_put 20 = .ok (.iadd, 1) := by decide +kernel
theorem dX0_put_21 : decode cX0_put 21 = .ok (.sipush 200, 3) := by decide +kernel
theorem dX0_put_24 : decode cX0_put 24 = .ok (.irem, 1) := by decide +kernel
theorem dX0_put_25 : decode cX0_put 25 = .ok (.istore 5, 2) := by decide +kernel
theorem dX0_put_27 : decode cX0_put 27 = .ok (.aload_n 0, 1) := by decide +kernel
theorem dX0_put_28 : decode cX0_put 28 = .ok (.getfield 9, 3) := by decide +kernel
theorem dX0_put_31 : decode cX0_put 31 = .ok (.iload 5, 2) := by decide +kernel
theorem dX0_put_33 : decode cX0_put 33 = .ok (.iload_n 1, 1) := by decide +kernel
theorem dX0_put_34 : decode cX0_put 34 = .ok (.iastore, 1) := by decide +kernel
theorem dX0_put_35 : decode cX0_put 35 = .ok (.aload_n 0, 1) := by decide +kernel
theorem dX0_put_36 : decode cX0_put 36 = .ok (.getfield 15, 3) := by decide +kernel
theorem dX0_put_39 : decode cX0_put 39 = .ok (.iload 5, 2) := by decide +kernel
theorem dX0_put_41 : decode cX0_put 41 = .ok (.iload_n 2, 1) := by decide +kernel
theorem dX0_put_42 : decode cX0_put 42 = .ok (.iastore, 1) := by decide +kernel
theorem dX0_put_43 : decode cX0_put 43 = .ok (.aload_n 0, 1) := by decide +kernel
theorem dX0_put_44 : decode cX0_put 44 = .ok (.getfield 18, 3) := by decide +kernel
theorem dX0_put_47 : decode cX0_put 47 = .ok (.iload 5, 2) := by decide +kernel
theorem dX0_put_49 : decode cX0_put 49 = .ok (.iload_n 3, 1) := by decide +kernel
theorem dX0_put_50 : decode cX0_put 50 = .ok (.iastore, 1) := by decide +kernel
theorem dX0_put_51 : decode cX0_put 51 = .ok (.aload_n 0, 1) := by decide +kernel
theorem dX0_put_52 : decode cX0_put 52 = .ok (.getfield 21, 3) := by decide +kernel
theorem dX0_put_55 : decode cX0_put 55 = .ok (.iload 5, 2) := by decide +kernel
theorem dX0_put_57 : decode cX0_put 57 = .ok (.iload 4, 2) := by decide +kernel
theorem dX0_put_59 : decode cX0_put 59 = .ok (.iastore, 1) := by decide +kernel
theorem dX0_put_60 : decode cX0_put 60 = .ok (.aload_n 0, 1) := by decide +kernel
theorem dX0_put_61 : decode cX0_put 61 = .ok (.dup, 1) := by decide +kernel
theorem dX0_put_62 : decode cX0_put 62 = .ok (.getfield 24, 3) := by decide +kernel
theorem dX0_put_65 : decode cX0_put 65 = .ok (.iconst 1, 1) := by decide +kernel
theorem dX0_put_66 : decode cX0_put 66 = .ok (.iadd, 1) := by decide +kernel
theorem dX0_put_67 : decode cX0_put 67 = .ok (.putfield 24, 3) := by decide +kernel
theorem dX0_put_70 : decode cX0_put 70 = .ok (.iconst 1, 1) := by decide +kernel
theorem dX0_put_71 : decode cX0_put 71 = .ok (.ireturn, 1) := by decide +kernel
theorem dX0_removeFirst_0 : decode cX0_removeFirst 0 = .ok (.aload_n 0, 1) := by decide +kernel
theorem dX0_removeFirst_1 : decode cX0_removeFirst 1 = .ok (.getfield 24, 3) := by decide +kernel
theorem dX0_removeFirst_4 : decode cX0_removeFirst 4 = .ok (.ifCond .le 27, 3) := by decide +kernel
theorem dX0_removeFirst_7 : decode cX0_removeFirst 7 = .ok (.aload_n 0, 1) := by decide +kernel
theorem dX0_removeFirst_8 : decode cX0_removeFirst 8 = .ok (.aload_n 0, 1) := by decide +kernel
theorem dX0_removeFirst_9 : decode cX0_removeFirst 9 = .ok (.getfield 28, 3) := by decide +kernel
theorem dX0_removeFirst_12 : decode cX0_removeFirst 12 = .ok (.iconst 1, 1) := by decide +kernel
theorem dX0_removeFirst_13 : decode cX0_removeFirst 13 = .ok (.iadd, 1) := by decide +kernel
theorem dX0_removeFirst_14 : decode cX0_removeFirst 14 = .ok (.sipush 200, 3) := by decide +kernel
theorem dX0_removeFirst_17 : decode cX0_removeFirst 17 = .ok (.irem, 1) := by decide +kernel
theorem dX0_removeFirst_18 : decode cX0_removeFirst 18 = .ok (.putfield 28, 3) := by decide +kernel
theorem dX0_removeFirst_21 : decode cX0_removeFirst 21 = .ok (.aload_n 0, 1) := by decide +kernel
theorem dX0_removeFirst_22 : decode cX0_removeFirst 22 = .ok (.dup, 1) := by decide +kernel
theorem dX0_removeFirst_23 : decode cX0_removeFirst 23 = .ok (.getfield 24, 3) := by decide +kernel
theorem dX0_removeFirst_26 : decode cX0_removeFirst 26 = .ok (.iconst 1, 1) := by decide +kernel
theorem dX0_removeFirst_27 : decode cX0_removeFirst 27 = .ok (.isub, 1) := by decide +kernel
theorem dX0_removeFirst_28 : decode cX0_removeFirst 28 = .ok (.putfield 24, 3) := by decide +kernel
theorem dX0_removeFirst_31 : decode cX0_removeFirst 31 = .ok (.return_, 1) := by decide +kernel
theorem dX0_firstPacket_0 : decode cX0_firstPacket 0 = .ok (.aload_n 0, 1) := by decide +kernel
theorem dX0_firstPacket_1 : decode cX0_firstPacket 1 = .ok (.aload_n 0, 1) := by decide +kernel
theorem dX0_firstPacket_2 : decode cX0_firstPacket 2 = .ok (.getfield 9, 3) := by decide +kernel
theorem dX0_firstPacket_5 : decode cX0_firstPacket 5 = .ok (.invokevirtual 31, 3) := by decide +kernel
theorem dX0_firstPacket_8 : decode cX0_firstPacket 8 = .ok (.ireturn, 1) := by decide +kernel
theorem dX0_firstTree_0 : decode cX0_firstTree 0 = .ok (.aload_n 0, 1) := by decide +kernel
theorem dX0_firstTree_1 : decode cX0_firstTree 1 = .ok (.aload_n 0, 1) := by decide +kernel
theorem dX0_firstTree_2 : decode cX0_firstTree 2 = .ok (.getfield 15, 3) := by decide +kernel
theorem dX0_firstTree_5 : decode cX0_firstTree 5 = .ok (.invokevirtual 31, 3) := by decide +kernel
theorem dX0_firstTree_8 : decode cX0_firstTree 8 = .ok (.ireturn, 1) := by decide +kernel
theorem dX0_firstFrom_0 : decode cX0_firstFrom 0 = .ok (.aload_n 0, 1) := by decide +kernel
theorem dX0_firstFrom_1 : decode cX0_firstFrom 1 = .ok (.aload_n 0, 1) := by decide +kernel
theorem dX0_firstFrom_2 : decode cX0_firstFrom 2 = .ok (.getfield 18, 3) := by decide +kernel
theorem dX0_firstFrom_5 : decode cX0_firstFrom 5 = .ok (.invokevirtual 31, 3) := by decide +kernel
theorem dX0_firstFrom_8 : decode cX0_firstFrom 8 = .ok (.ireturn, 1) := by decide +kernel
theorem dX0_firstTo_0 : decode cX0_firstTo 0 = .ok (.aload_n 0, 1) := by decide +kernel
theorem dX0_firstTo_1 : decode cX0_firstTo 1 = .ok (.aload_n 0, 1) := by decide +kernel
theorem dX0_firstTo_2 : decode cX0_firstTo 2 = .ok (.getfield 21, 3) := by decide +kernel
theorem dX0_firstTo_5 : decode cX0_firstTo 5 = .ok (.invokevirtual 31, 3) := by decide +kernel
theorem dX0_firstTo_8 : decode cX0_firstTo 8 = .ok (.ireturn, 1) := by decide +kernel
theorem dX0_firstIn_0 : decode cX0_firstIn 0 = .ok (.aload_n 0, 1) := by decide +kernel
theorem dX0_firstIn_1 : decode cX0_firstIn 1 = .ok (.getfield 24, 3) := by decide +kernel
theorem dX0_firstIn_4 : decode cX0_firstIn 4 = .ok (.ifCond .le 28, 3) := by decide +kernel
theorem dX0_firstIn_7 : decode cX0_firstIn 7 = .ok (.aload_n 0, 1) := by decide +kernel
theorem dX0_firstIn_8 : decode cX0_firstIn 8 = .ok (.getfield 28, 3) := by decide +kernel
theorem dX0_firstIn_11 : decode cX0_firstIn 11 = .ok (.ifCond .lt 21, 3) := by decide +kernel
theorem dX0_firstIn_14 : decode cX0_firstIn 14 = .ok (.aload_n 0, 1) := by decide +kernel
theorem dX0_firstIn_15 : decode cX0_firstIn 15 = .ok (.getfield 28, 3) := by decide +kernel
theorem dX0_firstIn_18 : decode cX0_firstIn 18 = .ok (.aload_n 1, 1) := by decide +kernel
theorem dX0_firstIn_19 : decode cX0_firstIn 19 = .ok (.arraylength, 1) := by decide +kernel
theorem dX0_firstIn_20 : decode cX0_firstIn 20 = .ok (.if_icmp .ge 12, 3) := by decide +kernel
theorem dX0_firstIn_23 : decode cX0_firstIn 23 = .ok (.aload_n 1, 1) := by decide +kernel
theorem dX0_firstIn_24 : decode cX0_firstIn 24 = .ok (.aload_n 0, 1) := by decide +kernel
theorem dX0_firstIn_25 : decode cX0_firstIn 25 = .ok (.getfield 28, 3) := by decide +kernel
theorem dX0_firstIn_28 : decode cX0_firstIn 28 = .ok (.iaload, 1) := by decide +kernel
theorem dX0_firstIn_29 : decode cX0_firstIn 29 = .ok (.goto 4, 3) := by decide +kernel
theorem dX0_firstIn_32 : decode cX0_firstIn 32 = .ok (.iconst (-1), 1) := by decide +kernel
theorem dX0_firstIn_33 : decode cX0_firstIn 33 = .ok (.ireturn, 1) := by decide +kernel
end
section
/-! base: one word list for every method, a contract's start and end, calls -/
theorem ga_0 : wsL_law0.all goodWord = true := by decide +kernel
theorem ga_law : ∀ w ∈ wsL_law, goodWord w = true := by
  intro w h
  rcases List.mem_append.mp h with h | h
  · rcases List.mem_append.mp h with h | h
    · rcases List.mem_append.mp h with h | h
      · exact List.all_eq_true.mp ga_0 w h
      · exact (List.mem_filter.mp h).2
    · exact (List.mem_filter.mp h).2
  · exact (List.mem_filter.mp h).2
def WS (y : MethodName) (b : ByteArray) (n : Nat) (r : Option FieldType) : List Cond := .code y b n r :: wsL_law
theorem gd {y : MethodName} {b : ByteArray} {n : Nat} {r : Option FieldType} (h : Cond.code y b n r ∈ wsL_law) : GoodIn wsL_law (WS y b n r) :=
  fun w hw => (List.mem_cons.mp hw).elim (fun e => e ▸ ⟨h, good_of_word (ga_law _ h)⟩) (fun h => ⟨h, good_of_word (ga_law _ h)⟩)
/-- the links between nest mates -/
def NWl : List Cond := [.methodLinkNest RX2 30 yX5_sourceTree RX5, .methodLinkNest RX2 38 yX5_isTree RX5, .methodLinkNest RX5 25 yX3_init RX5, .methodLinkNest RX5 32 yX0_init RX5, .methodLinkNest RX5 39 yX1_init RX5, .methodLinkNest RX3 36 yX5_isRouter RX5, .methodLinkNest RX3 39 yX5_bit RX5, .methodLinkNest RX1 29 yX5_isRouter RX5, .methodLinkNest RX1 33 yX5_isGroup RX5, .methodLinkNest RX2 42 yX5_isRouter RX5, .methodLinkNest RX2 45 yX5_bit RX5, .methodLinkNest RX2 57 yX5_has RX5]
def NW (U : State) : Prop := ∀ w ∈ NWl, va_Nw w U
theorem NW.warm {s U : State} (hW : s.WarmedH U.vm) (h : NW s) : NW U := by
  intro w hw
  have h1 := h w hw
  simp only [NWl, List.mem_cons, List.not_mem_nil, or_false] at hw
  rcases hw with rfl | rfl | rfl | rfl | rfl | rfl | rfl | rfl | rfl | rfl | rfl | rfl <;> exact va_Nw.warmM hW h1
theorem NW.same {u U : State} (hv : u.vm = U.vm) (h : NW u) : NW U := by
  intro w hw
  have h1 := h w hw
  simp only [NWl, List.mem_cons, List.not_mem_nil, or_false] at hw
  rcases hw with rfl | rfl | rfl | rfl | rfl | rfl | rfl | rfl | rfl | rfl | rfl | rfl <;> exact va_Nw.same rfl hv h1
/-- the world at a method's start -/
def cPre (D : va_G) (tys : List (ClassId × FieldType)) (ws : va_W) (sz : Nat) (U : State) : Prop :=
  U.heap.size = sz ∧ va_P D vwCl ws U.heap ∧ va_K D vwCl tys U ∧ va_D (fun _ => True) ws ∧ NW U
theorem cPre_blind (as : List Value) (D : va_G) (tys : List (ClassId × FieldType)) (ws : va_W) (sz : Nat) : FrameBlind (va_Pc as (cPre D tys ws sz)) :=
  fun a U g mk h => ⟨h.1, h.2.1, h.2.2.1, va_K.moved (u := U) (U := U.calling g mk a) (Vm.Alike.refl U.vm) h.2.2.2.1, h.2.2.2.2.1, NW.same (u := U) (U := U.calling g mk a) rfl h.2.2.2.2.2⟩
/-- an int method's contract: it answers rv, its world ws becomes ws' -/
def MI (l : Launch) (y : MethodName) (b : ByteArray) (n : Nat) (rt : FieldType) (rm : Room) (D : va_G) (tys : List (ClassId × FieldType)) (as : List Value) (ws ws' : va_W) (rv : Int32) : Prop :=
  ∀ sz, Met l y (WS y b n (some rt)) rm (va_Pc as (cPre D tys ws sz)) (va_Qi (fun (r : Int32) (_ : Unit) => r = rv) (fun _ t => va_P D vwCl ws' t.heap) (va_A ws sz)) 0 0 (va_A ws sz)
/-- a void method's contract -/
def MV (l : Launch) (y : MethodName) (b : ByteArray) (n : Nat) (rm : Room) (D : va_G) (tys : List (ClassId × FieldType)) (as : List Value) (ws ws' : va_W) : Prop :=
  ∀ sz, Met l y (WS y b n none) rm (va_Pc as (cPre D tys ws sz)) (va_Qv (fun (_ : Unit) => True) (fun _ t => va_P D vwCl ws' t.heap) (va_A ws sz)) 0 0 (va_A ws sz)
/-- what stands during a body -/
def Bd (p : Program) (s : State) (m : MethodId) (meth : Method) (c : Code) (b : ByteArray) (n : Nat) (rt : Option FieldType) (own : String) (D : va_G) (tys : List (ClassId × FieldType)) (as : List Value) : Prop :=
  p.tables.exec = Jvm.exec ∧ c.code = b ∧ meth.sig.returnType = rt ∧ c.maxLocals = n ∧ s.vm.findClass own = some m.cls ∧ (∀ w ∈ wsL_law, w.before as.toArray s = true) ∧ meth.locks = false ∧ NW s ∧ va_K D vwCl tys s ∧ (meth.name = "<init>" ∨ True)
theorem MI.mk {l : Launch} {y : MethodName} {b : ByteArray} {n : Nat} {rt : FieldType} {rm : Room} {D : va_G} {tys : List (ClassId × FieldType)} {as : List Value} {ws ws' : va_W} {rv : Int32} (hrm : rm.cells = 0 ∧ rm.slots = 0) (hy : plainName y.cls = true) (hn : (lg_sl as).length ≤ n)
    (body : ∀ (p : Program) (e : Env) (s : State) (m : MethodId) (below : List Frame) (meth : Method) (c : Code) (A : Nat → Prop) (ls : Array Slot), Bd p s m meth c b n (some rt) y.cls D tys as → (∀ q, s.heap.size ≤ q → A q) → va_P D vwCl ws s.heap → va_D A ws → va_S A s.heap s.heap [] → lv_has ls n (lv_args 0 as) →
      W p l e rm s m as.toArray below meth c s.heap [] 0 0 (MQ below (va_Qi (fun (r : Int32) (_ : Unit) => r = rv) (fun _ t => va_P D vwCl ws' t.heap) A) as.toArray s 0 0 A) (F0 m 0 ls [])) : MI l y b n rt rm D tys as ws ws' rv := by
  intro sz
  refine Met.ofW (cc := b) (maxL := n) (ret := some rt) hy rfl ?_
  intro p e s m args below meth c s₁ B hml hv
  obtain ⟨rfl, hsz, hP, hK, hD0, hN⟩ := hv
  have hts := atoms_spec (ws := WS y b n (some rt)) B.pre
  subst hsz
  rw [lg_entry_eq]
  exact body p e s m below meth c (va_A ws s.heap.size) _ ⟨B.exec, B.bytes, B.returns, hml, findClass_of_methodNamed B.named, fun w h => hts w (List.mem_cons_of_mem _ h), B.notSynchronized, hN, hK, Or.inr trivial⟩ (fun q h => Or.inr h) hP hD0.self va_S.rf (lv_entry as hn)
theorem MV.mk {l : Launch} {y : MethodName} {b : ByteArray} {n : Nat} {rm : Room} {D : va_G} {tys : List (ClassId × FieldType)} {as : List Value} {ws ws' : va_W} (hrm : rm.cells = 0 ∧ rm.slots = 0) (hy : plainName y.cls = true) (hn : (lg_sl as).length ≤ n)
    (body : ∀ (p : Program) (e : Env) (s : State) (m : MethodId) (below : List Frame) (meth : Method) (c : Code) (A : Nat → Prop) (ls : Array Slot), Bd p s m meth c b n none y.cls D tys as → (∀ q, s.heap.size ≤ q → A q) → va_P D vwCl ws s.heap → va_D A ws → va_S A s.heap s.heap [] → lv_has ls n (lv_args 0 as) →
      W p l e rm s m as.toArray below meth c s.heap [] 0 0 (MQ below (va_Qv (fun (_ : Unit) => True) (fun _ t => va_P D vwCl ws' t.heap) A) as.toArray s 0 0 A) (F0 m 0 ls [])) : MV l y b n rm D tys as ws ws' := by
  intro sz
  refine Met.ofW (cc := b) (maxL := n) (ret := none) hy rfl ?_
  intro p e s m args below meth c s₁ B hml hv
  obtain ⟨rfl, hsz, hP, hK, hD0, hN⟩ := hv
  have hts := atoms_spec (ws := WS y b n none) B.pre
  subst hsz
  rw [lg_entry_eq]
  exact body p e s m below meth c (va_A ws s.heap.size) _ ⟨B.exec, B.bytes, B.returns, hml, findClass_of_methodNamed B.named, fun w h => hts w (List.mem_cons_of_mem _ h), B.notSynchronized, hN, hK, Or.inr trivial⟩ (fun q h => Or.inr h) hP hD0.self va_S.rf (lv_entry as hn)
/-- entries put at places -/
def putAt : va_W → List Nat → va_W → va_W
  | W, i :: is, e :: es => putAt (W.set i e) is es
  | W, _, _ => W
theorem putAt_get (is : List Nat) : ∀ (W es : va_W), va_nd is = true → is.length = es.length → (∀ i ∈ is, i < W.length) → ∀ (k : Nat) (q : Nat × va_E), (putAt W is es)[k]? = some q → (∃ j : Nat, is[j]? = some k ∧ es[j]? = some q) ∨ (k ∉ is ∧ W[k]? = some q) := by
  induction is with
  | nil => intro W es _ _ _ k q h; exact Or.inr ⟨List.not_mem_nil, by cases es <;> exact h⟩
  | cons i is ih =>
    intro W es hn hl hi k q h
    cases es with
    | nil => cases hl
    | cons e es =>
      simp only [va_nd, Bool.and_eq_true, decide_eq_true_eq] at hn
      rcases ih (W.set i e) es hn.2 (Nat.succ.inj hl) (fun j hj => by rw [List.length_set]; exact hi j (List.mem_cons_of_mem _ hj)) k q h with ⟨j, h1, h2⟩ | ⟨h1, h2⟩
      · exact Or.inl ⟨j + 1, h1, h2⟩
      · by_cases hk : k = i
        · subst hk
          rw [List.getElem?_set_self (hi k List.mem_cons_self)] at h2
          exact Or.inl ⟨0, rfl, h2⟩
        · rw [List.getElem?_set_ne (Ne.symm hk)] at h2
          exact Or.inr ⟨fun hm => (List.mem_cons.mp hm).elim hk h1, h2⟩
/-- behind a call: the callee's cells as it leaves them, the others as they were -/
theorem x_put {D : va_G} {W ws ws' : va_W} {is : List Nat} {H H1 : Heap} {A0 : Nat → Prop} (hP : va_P D vwCl W H) (hD : va_D A0 W) (hC : is.map (fun i => W[i]?) = ws.map some) (hf : ws'.map Prod.fst = ws.map Prod.fst) (hn : va_nd is = true)
    (hk : ∀ q : Nat, q < H.size → ¬ va_A ws H.size q → H1[q]? = H[q]?) (hP1 : va_P D vwCl ws' H1) : va_P D vwCl (putAt W is ws') H1 ∧ va_D A0 (putAt W is ws') := by
  have hlen : is.length = ws.length := by have := congrArg List.length hC; simpa using this
  have hlen' : ws'.length = ws.length := by have := congrArg List.length hf; simpa using this
  have at' : ∀ (j : Nat) (q : Nat × va_E), ws[j]? = some q → ∃ i, is[j]? = some i ∧ W[i]? = some q := by
    intro j q hq
    have h1 : (is.map (fun i => W[i]?))[j]? = some (some q) := by rw [hC, List.getElem?_map, hq]; rfl
    rw [List.getElem?_map] at h1
    cases hi : is[j]? with
    | none => rw [hi] at h1; cases h1
    | some i => rw [hi] at h1; exact ⟨i, rfl, Option.some.inj h1⟩
  have back : ∀ (j k : Nat), is[j]? = some k → ∃ q, ws[j]? = some q ∧ W[k]? = some q := by
    intro j k hj
    have hl : j < ws.length := by rw [← hlen]; exact (List.getElem?_eq_some_iff.mp hj).1
    obtain ⟨i, h1, h2⟩ := at' j ws[j] (List.getElem?_eq_getElem hl)
    rw [hj] at h1
    cases h1
    exact ⟨_, List.getElem?_eq_getElem hl, h2⟩
  have hin : ∀ i ∈ is, i < W.length := by
    intro i hi
    obtain ⟨j, hj⟩ := List.getElem?_of_mem hi
    obtain ⟨q, -, h⟩ := back j i hj
    exact (List.getElem?_eq_some_iff.mp h).1
  have fst' : ∀ (j : Nat) (q q' : Nat × va_E), ws[j]? = some q → ws'[j]? = some q' → q'.1 = q.1 := by
    intro j q q' h1 h2
    have e : (ws'.map Prod.fst)[j]? = (ws.map Prod.fst)[j]? := by rw [hf]
    rw [List.getElem?_map, List.getElem?_map, h1, h2] at e
    exact Option.some.inj e
  have key := putAt_get is W ws' hn (by rw [hlen, hlen']) hin
  refine ⟨fun k q hq => ?_, fun i j x y hx hy hxy => ?_, fun k q hq => ?_⟩
  · rcases key k q hq with ⟨j, h1, h2⟩ | ⟨h1, h2⟩
    · exact hP1 j q h2
    · have hl := (hP k q h2).lt
      refine (hP k q h2).kept (hk q.1 hl fun h => ?_)
      rcases h with ⟨j, e, h⟩ | h
      · obtain ⟨i, h3, h4⟩ := at' j (q.1, e) h
        have := hD.1 k i q (q.1, e) h2 h4 rfl
        subst this
        exact h1 (List.mem_of_getElem? h3)
      · omega
  · have un : ∀ (k : Nat) (q : Nat × va_E), (putAt W is ws')[k]? = some q → ∃ q0, W[k]? = some q0 ∧ q0.1 = q.1 := by
      intro k q hq
      rcases key k q hq with ⟨j, h1, h2⟩ | ⟨-, h2⟩
      · obtain ⟨q0, h3, h4⟩ := back j k h1
        exact ⟨q0, h4, (fst' j q0 q h3 h2).symm⟩
      · exact ⟨q, h2, rfl⟩
    obtain ⟨x0, a1, a2⟩ := un i x hx
    obtain ⟨y0, b1, b2⟩ := un j y hy
    exact hD.1 i j x0 y0 a1 b1 (a2.trans (hxy.trans b2.symm))
  · rcases key k q hq with ⟨j, h1, h2⟩ | ⟨-, h2⟩
    · obtain ⟨q0, h3, h4⟩ := back j k h1
      rw [fst' j q0 q h3 h2]
      exact hD.2 k q0 h4
    · exact hD.2 k q h2
section XC
variable {p : Program} {l : Launch} {e : Env} {R : Room} {s : State} {m : MethodId} {args : Array Value} {below : List Frame} {meth : Method} {c : Code} {H : Heap} {locs : List Loc} {cells slots : Nat} {Q : State → Prop}
variable {cc : ByteArray} {nL pc : Nat} {ls : Array Slot} {D : va_G} {A0 : Nat → Prop} {tys : List (ClassId × FieldType)} {W0 ws ws' : va_W} {H0 : Heap} {own : String}
variable {y : MethodName} {b : ByteArray} {n index : Nat} {rt : FieldType} {rm : Room} {as rest : List Value} {rv : Int32}
/-- the callee's words, all but its link -/
theorem x_cb (hrm : rm.cells = 0 ∧ rm.slots = 0) (k : Nat) (ht : ∀ w ∈ wsL_law, w.before args s = true) {r : Option FieldType} (hcode : Cond.code y b n r ∈ wsL_law) (hini : Cond.initialized y.cls ∈ wsL_law) (hl : Cond.methodLink own index y ∈ wsL_law)
    (hd : y.cls ≠ "java/lang/invoke/MethodHandle" ∧ y.cls ≠ "java/lang/invoke/VarHandle" ∧ (parseMethodDescriptor y.desc).map (fun d => d.parameters.length) = some k) (hR : rm.frames + 1 ≤ R.frames ∧ 8 + (n + 11) + rm.locals ≤ R.locals) :
    CallB R s args own index y b n r (WS y b n r) rm 0 0 k := callB_of k ht (gd hcode) rfl hrm.1 hrm.2 (ht _ hini) (ht _ hl) hd hR
theorem x_pre (hP : va_P D vwCl W0 H) (hD : va_D A0 W0) (hK : va_K D vwCl tys s) (hN : NW s) (is : List Nat) (hC : is.map (fun i => W0[i]?) = ws.map some) (hn : va_nd is = true) (hfm : is.filterMap (fun i => W0[i]?) = ws) :
    ∀ U : State, U.heap = H → s.WarmedH U.vm → cPre D tys ws H.size U := fun U hU hW => ⟨by rw [hU], by rw [hU]; exact hP.sub is hfm, va_K.moved hW.alike hK, (hD.sub is hn hC).weaken (fun _ _ _ _ => trivial), NW.warm hW hN⟩
theorem fm_of {is : List Nat} {W ws : va_W} (hC : is.map (fun i => W[i]?) = ws.map some) : is.filterMap (fun i => W[i]?) = ws := by
  have h : is.filterMap (fun i => W[i]?) = (is.map (fun i => W[i]?)).filterMap id := by rw [List.filterMap_map]; rfl
  rw [h, hC, List.filterMap_map]
  exact List.filterMap_some
theorem x_goi {free' : Addr → Prop} {mc ms : Nat} (hr : va_Run p l e R s m args below meth c H locs cells slots mc ms (F0 m pc ls (as.reverse ++ rest)) rest (va_Qi (fun (r : Int32) (_ : Unit) => r = rv) (fun _ t => va_P D vwCl ws' t.heap) (va_A ws H.size) as.toArray) (va_A ws H.size)) (hmc : mc = 0) (hms : ms = 0)
    (hP : va_P D vwCl W0 H) (hD : va_D A0 W0) (hS : va_S A0 H0 H locs) (hA : ∀ q, H0.size ≤ q → A0 q) (is : List Nat) (hC : is.map (fun i => W0[i]?) = ws.map some) (hf : ws'.map Prod.fst = ws.map Prod.fst) (hn : va_nd is = true)
    (kk : ∀ (H1 : Heap) (locs1 : List Loc), va_P D vwCl (putAt W0 is ws') H1 → va_D A0 (putAt W0 is ws') → va_S A0 H0 H1 locs1 → W p l e R s m args below meth c H1 locs1 cells slots Q (F0 m (pc + 3) ls (.int rv :: rest))) :
    W p l e R s m args below meth c H locs cells slots Q (F0 m pc ls (as.reverse ++ rest)) := by
  subst hmc; subst hms
  have hF := va_free (wc := ws) hD hS hA is hC
  refine va_calli hr hS (fun q _ h => hF q h) hF (fun r u t H1 locs1 ht hvm hw hB hz hk hS1 => ?_)
  rw [ht] at hB
  subst hw
  obtain ⟨hP1, hD1⟩ := x_put hP hD hC hf hn hk hB
  exact kk H1 locs1 hP1 hD1 hS1
theorem x_gov {mc ms : Nat} (hr : va_Run p l e R s m args below meth c H locs cells slots mc ms (F0 m pc ls (as.reverse ++ rest)) rest (va_Qv (fun (_ : Unit) => True) (fun _ t => va_P D vwCl ws' t.heap) (va_A ws H.size) as.toArray) (va_A ws H.size)) (hmc : mc = 0) (hms : ms = 0)
    (hP : va_P D vwCl W0 H) (hD : va_D A0 W0) (hS : va_S A0 H0 H locs) (hA : ∀ q, H0.size ≤ q → A0 q) (is : List Nat) (hC : is.map (fun i => W0[i]?) = ws.map some) (hf : ws'.map Prod.fst = ws.map Prod.fst) (hn : va_nd is = true)
    (kk : ∀ (H1 : Heap) (locs1 : List Loc), va_P D vwCl (putAt W0 is ws') H1 → va_D A0 (putAt W0 is ws') → va_S A0 H0 H1 locs1 → W p l e R s m args below meth c H1 locs1 cells slots Q (F0 m (pc + 3) ls rest)) :
    W p l e R s m args below meth c H locs cells slots Q (F0 m pc ls (as.reverse ++ rest)) := by
  subst hmc; subst hms
  have hF := va_free (wc := ws) hD hS hA is hC
  refine va_callv hr hS (fun q _ h => hF q h) hF (fun u t H1 locs1 ht hvm hw hB hz hk hS1 => ?_)
  rw [ht] at hB
  obtain ⟨hP1, hD1⟩ := x_put hP hD hC hf hn hk hB
  exact kk H1 locs1 hP1 hD1 hS1
end XC
end
section
/-! calls, one row each: what the callee's contract says goes on -/
section XK
variable {p : Program} {l : Launch} {e : Env} {R : Room} {s : State} {m : MethodId} {below : List Frame} {meth : Method} {c : Code} {H : Heap} {locs : List Loc} {cells slots : Nat} {Q : State → Prop}
variable {cc : ByteArray} {nL pc : Nat} {ls : Array Slot} {D : va_G} {A0 : Nat → Prop} {tys : List (ClassId × FieldType)} {W0 ws ws' : va_W} {H0 : Heap} {own : String} {rtO : Option FieldType}
variable {y : MethodName} {b : ByteArray} {n index k : Nat} {rt : FieldType} {rm : Room} {asM as rest st : List Value} {rv : Int32}
theorem kV_i (B : Bd p s m meth c cc nL rtO own D tys asM) (hls : ls.size = nL) {a : Nat} (hM : MI l y b n rt rm D tys (.ref a :: as) ws ws' rv) {C : String} {T : u_T} {N ci : Nat} (hcl : vwCl[ci]? = some (C, T, N))
    (cb : CallB R s asM.toArray own index y b n (some rt) (WS y b n (some rt)) rm 0 0 k) (hin : Cond.instanceMethod y ∈ wsL_law) (hse : Cond.selects C y y ∈ wsL_law)
    (hst : st = as.reverse ++ .ref a :: rest) (hk : as.length = k) (hP : va_P D vwCl W0 H) (hD : va_D A0 W0) (hS : va_S A0 H0 H locs) (hA : ∀ q, H0.size ≤ q → A0 q) (is : List Nat) (q0 : Nat) {fs : List Value} (he : W0[q0]? = some (a, .inr (ci, fs)))
    (hC : is.map (fun i => W0[i]?) = ws.map some) (hf : ws'.map Prod.fst = ws.map Prod.fst) (hn : va_nd is = true) (hw : (rest.map fun v => v.category).sum ≤ 8) (hroom : cells ≤ R.cells ∧ slots ≤ R.slots) (hdg : decode cc pc = .ok (.invokevirtual index, 3))
    (kk : ∀ (H1 : Heap) (locs1 : List Loc), va_P D vwCl (putAt W0 is ws') H1 → va_D A0 (putAt W0 is ws') → va_S A0 H0 H1 locs1 → W p l e R s m asM.toArray below meth c H1 locs1 cells slots Q (F0 m (pc + 3) ls (.int rv :: rest))) :
    W p l e R s m asM.toArray below meth c H locs cells slots Q (F0 m pc ls st) := by
  obtain ⟨hx, hb, -, hml, hown, hts, -, hN, hK, -⟩ := B
  subst hst
  have hr := va_runV (mc := 0) (ms := 0) (As := as) (rest := rest) (b := a) (C := C) (g := F0 m pc ls (as.reverse ++ .ref a :: rest)) (cells := cells) (slots := slots) (locs := locs) (l := l) (e := e) (below := below) (meth := meth) (H := H) ⟨hx, hb, hml, hown, hts⟩ (hM H.size) ⟨cb, hts _ hin, hts _ hse⟩
    ⟨cPre_blind _ D tys ws H.size, va_recv hK hP hcl he, fun U hU hW => ⟨rfl, x_pre hP hD hK hN is hC hn (fm_of hC) U hU hW⟩⟩ rfl hk hls rfl (lv_room hw) hdg ⟨hroom.1, hroom.2⟩
  have hF := va_free (wc := ws) hD hS hA is hC
  refine va_calli hr hS (fun q _ h => hF q h) hF (fun r u t H1 locs1 ht hvm hw hB hz hk hS1 => ?_)
  rw [ht] at hB
  subst hw
  obtain ⟨hP1, hD1⟩ := x_put hP hD hC hf hn hk hB
  exact kk H1 locs1 hP1 hD1 hS1
theorem kV_v (B : Bd p s m meth c cc nL rtO own D tys asM) (hls : ls.size = nL) {a : Nat} (hM : MV l y b n rm D tys (.ref a :: as) ws ws') {C : String} {T : u_T} {N ci : Nat} (hcl : vwCl[ci]? = some (C, T, N))
    (cb : CallB R s asM.toArray own index y b n none (WS y b n none) rm 0 0 k) (hin : Cond.instanceMethod y ∈ wsL_law) (hse : Cond.selects C y y ∈ wsL_law)
    (hst : st = as.reverse ++ .ref a :: rest) (hk : as.length = k) (hP : va_P D vwCl W0 H) (hD : va_D A0 W0) (hS : va_S A0 H0 H locs) (hA : ∀ q, H0.size ≤ q → A0 q) (is : List Nat) (q0 : Nat) {fs : List Value} (he : W0[q0]? = some (a, .inr (ci, fs)))
    (hC : is.map (fun i => W0[i]?) = ws.map some) (hf : ws'.map Prod.fst = ws.map Prod.fst) (hn : va_nd is = true) (hw : (rest.map fun v => v.category).sum ≤ 8) (hroom : cells ≤ R.cells ∧ slots ≤ R.slots) (hdg : decode cc pc = .ok (.invokevirtual index, 3))
    (kk : ∀ (H1 : Heap) (locs1 : List Loc), va_P D vwCl (putAt W0 is ws') H1 → va_D A0 (putAt W0 is ws') → va_S A0 H0 H1 locs1 → W p l e R s m asM.toArray below meth c H1 locs1 cells slots Q (F0 m (pc + 3) ls rest)) :
    W p l e R s m asM.toArray below meth c H locs cells slots Q (F0 m pc ls st) := by
  obtain ⟨hx, hb, -, hml, hown, hts, -, hN, hK, -⟩ := B
  subst hst
  have hr := va_runV (mc := 0) (ms := 0) (As := as) (rest := rest) (b := a) (C := C) (g := F0 m pc ls (as.reverse ++ .ref a :: rest)) (cells := cells) (slots := slots) (locs := locs) (l := l) (e := e) (below := below) (meth := meth) (H := H) ⟨hx, hb, hml, hown, hts⟩ (hM H.size) ⟨cb, hts _ hin, hts _ hse⟩
    ⟨cPre_blind _ D tys ws H.size, va_recv hK hP hcl he, fun U hU hW => ⟨rfl, x_pre hP hD hK hN is hC hn (fm_of hC) U hU hW⟩⟩ rfl hk hls rfl (lv_room hw) hdg ⟨hroom.1, hroom.2⟩
  have hF := va_free (wc := ws) hD hS hA is hC
  refine va_callv hr hS (fun q _ h => hF q h) hF (fun u t H1 locs1 ht hvm hw hB hz hk hS1 => ?_)
  rw [ht] at hB
  obtain ⟨hP1, hD1⟩ := x_put hP hD hC hf hn hk hB
  exact kk H1 locs1 hP1 hD1 hS1
theorem kS_i (B : Bd p s m meth c cc nL rtO own D tys asM) (hls : ls.size = nL) (hM : MI l y b n rt rm D tys as ws ws' rv)
    (cb : CallB R s asM.toArray own index y b n (some rt) (WS y b n (some rt)) rm 0 0 k) (hst' : Cond.static y ∈ wsL_law)
    (hst : st = as.reverse ++ rest) (hk : as.length = k) (hP : va_P D vwCl W0 H) (hD : va_D A0 W0) (hS : va_S A0 H0 H locs) (hA : ∀ q, H0.size ≤ q → A0 q) (is : List Nat)
    (hC : is.map (fun i => W0[i]?) = ws.map some) (hf : ws'.map Prod.fst = ws.map Prod.fst) (hn : va_nd is = true) (hw : (rest.map fun v => v.category).sum ≤ 8) (hroom : cells ≤ R.cells ∧ slots ≤ R.slots) (hdg : decode cc pc = .ok (.invokestatic index, 3))
    (kk : ∀ (H1 : Heap) (locs1 : List Loc), va_P D vwCl (putAt W0 is ws') H1 → va_D A0 (putAt W0 is ws') → va_S A0 H0 H1 locs1 → W p l e R s m asM.toArray below meth c H1 locs1 cells slots Q (F0 m (pc + 3) ls (.int rv :: rest))) :
    W p l e R s m asM.toArray below meth c H locs cells slots Q (F0 m pc ls st) := by
  obtain ⟨hx, hb, -, hml, hown, hts, -, hN, hK, -⟩ := B
  subst hst
  have hr := va_runS (mc := 0) (ms := 0) (As := as) (rest := rest) (g := F0 m pc ls (as.reverse ++ rest)) (cells := cells) (slots := slots) (locs := locs) (l := l) (e := e) (below := below) (meth := meth) (H := H) ⟨hx, hb, hml, hown, hts⟩ (hM H.size) ⟨cb, hts _ hst'⟩
    ⟨cPre_blind _ D tys ws H.size, fun U hU hW => ⟨rfl, x_pre hP hD hK hN is hC hn (fm_of hC) U hU hW⟩⟩ rfl hk hls rfl (lv_room hw) hdg ⟨hroom.1, hroom.2⟩
  have hF := va_free (wc := ws) hD hS hA is hC
  refine va_calli hr hS (fun q _ h => hF q h) hF (fun r u t H1 locs1 ht hvm hw hB hz hk hS1 => ?_)
  rw [ht] at hB
  subst hw
  obtain ⟨hP1, hD1⟩ := x_put hP hD hC hf hn hk hB
  exact kk H1 locs1 hP1 hD1 hS1
theorem kS_v (B : Bd p s m meth c cc nL rtO own D tys asM) (hls : ls.size = nL) (hM : MV l y b n rm D tys as ws ws')
    (cb : CallB R s asM.toArray own index y b n none (WS y b n none) rm 0 0 k) (hst' : Cond.static y ∈ wsL_law)
    (hst : st = as.reverse ++ rest) (hk : as.length = k) (hP : va_P D vwCl W0 H) (hD : va_D A0 W0) (hS : va_S A0 H0 H locs) (hA : ∀ q, H0.size ≤ q → A0 q) (is : List Nat)
    (hC : is.map (fun i => W0[i]?) = ws.map some) (hf : ws'.map Prod.fst = ws.map Prod.fst) (hn : va_nd is = true) (hw : (rest.map fun v => v.category).sum ≤ 8) (hroom : cells ≤ R.cells ∧ slots ≤ R.slots) (hdg : decode cc pc = .ok (.invokestatic index, 3))
    (kk : ∀ (H1 : Heap) (locs1 : List Loc), va_P D vwCl (putAt W0 is ws') H1 → va_D A0 (putAt W0 is ws') → va_S A0 H0 H1 locs1 → W p l e R s m asM.toArray below meth c H1 locs1 cells slots Q (F0 m (pc + 3) ls rest)) :
    W p l e R s m asM.toArray below meth c H locs cells slots Q (F0 m pc ls st) := by
  obtain ⟨hx, hb, -, hml, hown, hts, -, hN, hK, -⟩ := B
  subst hst
  have hr := va_runS (mc := 0) (ms := 0) (As := as) (rest := rest) (g := F0 m pc ls (as.reverse ++ rest)) (cells := cells) (slots := slots) (locs := locs) (l := l) (e := e) (below := below) (meth := meth) (H := H) ⟨hx, hb, hml, hown, hts⟩ (hM H.size) ⟨cb, hts _ hst'⟩
    ⟨cPre_blind _ D tys ws H.size, fun U hU hW => ⟨rfl, x_pre hP hD hK hN is hC hn (fm_of hC) U hU hW⟩⟩ rfl hk hls rfl (lv_room hw) hdg ⟨hroom.1, hroom.2⟩
  have hF := va_free (wc := ws) hD hS hA is hC
  refine va_callv hr hS (fun q _ h => hF q h) hF (fun u t H1 locs1 ht hvm hw hB hz hk hS1 => ?_)
  rw [ht] at hB
  obtain ⟨hP1, hD1⟩ := x_put hP hD hC hf hn hk hB
  exact kk H1 locs1 hP1 hD1 hS1
theorem x_cn {host : String} (hrm : rm.cells = 0 ∧ rm.slots = 0) (ht : ∀ w ∈ wsL_law, w.before asM.toArray s = true) (hN : NW s) {r : Option FieldType} (hcode : Cond.code y b n r ∈ wsL_law) (hini : Cond.initialized y.cls ∈ wsL_law) (hl : Cond.methodLinkNest own index y host ∈ NWl)
    (hd : y.cls ≠ "java/lang/invoke/MethodHandle" ∧ y.cls ≠ "java/lang/invoke/VarHandle" ∧ (parseMethodDescriptor y.desc).map (fun d => d.parameters.length) = some k) (hR : rm.frames + 1 ≤ R.frames ∧ 8 + (n + 11) + rm.locals ≤ R.locals) :
    va_CN R s asM.toArray own index y host b n r (WS y b n r) rm 0 0 k := va_cnB k ht (gd hcode) rfl hrm.1 hrm.2 (hN _ hl) (ht _ hini) hd hR
/-- a nest mate's private static method -/
theorem kN_i {host : String} (B : Bd p s m meth c cc nL rtO own D tys asM) (hls : ls.size = nL) (hM : MI l y b n rt rm D tys as ws ws' rv)
    (cb : va_CN R s asM.toArray own index y host b n (some rt) (WS y b n (some rt)) rm 0 0 k) (hst' : Cond.static y ∈ wsL_law)
    (hst : st = as.reverse ++ rest) (hk : as.length = k) (hP : va_P D vwCl W0 H) (hD : va_D A0 W0) (hS : va_S A0 H0 H locs) (hA : ∀ q, H0.size ≤ q → A0 q) (is : List Nat)
    (hC : is.map (fun i => W0[i]?) = ws.map some) (hf : ws'.map Prod.fst = ws.map Prod.fst) (hn : va_nd is = true) (hw : (rest.map fun v => v.category).sum ≤ 8) (hroom : cells ≤ R.cells ∧ slots ≤ R.slots) (hdg : decode cc pc = .ok (.invokestatic index, 3))
    (kk : ∀ (H1 : Heap) (locs1 : List Loc), va_P D vwCl (putAt W0 is ws') H1 → va_D A0 (putAt W0 is ws') → va_S A0 H0 H1 locs1 → W p l e R s m asM.toArray below meth c H1 locs1 cells slots Q (F0 m (pc + 3) ls (.int rv :: rest))) :
    W p l e R s m asM.toArray below meth c H locs cells slots Q (F0 m pc ls st) := by
  obtain ⟨hx, hb, -, hml, hown, hts, -, hN, hK, -⟩ := B
  subst hst
  have hr := va_runSN (mc := 0) (ms := 0) (As := as) (rest := rest) (g := F0 m pc ls (as.reverse ++ rest)) (cells := cells) (slots := slots) (locs := locs) (l := l) (e := e) (below := below) (meth := meth) (H := H) ⟨hx, hb, hml, hown, hts⟩ (hM H.size) ⟨cb, hts _ hst', trivial⟩
    ⟨cPre_blind _ D tys ws H.size, fun U hU hW => ⟨rfl, x_pre hP hD hK hN is hC hn (fm_of hC) U hU hW⟩⟩ rfl hk hls rfl (lv_room hw) hdg ⟨hroom.1, hroom.2⟩
  have hF := va_free (wc := ws) hD hS hA is hC
  refine va_calli hr hS (fun q _ h => hF q h) hF (fun r u t H1 locs1 ht hvm hw hB hz hk hS1 => ?_)
  rw [ht] at hB
  subst hw
  obtain ⟨hP1, hD1⟩ := x_put hP hD hC hf hn hk hB
  exact kk H1 locs1 hP1 hD1 hS1
/-- the ends -/
theorem eI {v : Int32} (B : Bd p s m meth c cc nL (some .int) own D tys asM) (hP : va_P D vwCl ws H) (hS : va_S A0 s.heap H locs) (hv : v = rv) (hw : ws = ws') (hdg : decode cc pc = .ok (.ireturn, 1)) :
    W p l e R s m asM.toArray below meth c H locs 0 0 (MQ below (va_Qi (fun (r : Int32) (_ : Unit) => r = rv) (fun _ t => va_P D vwCl ws' t.heap) A0) asM.toArray s 0 0 A0) (F0 m pc ls [.int v]) := by
  obtain ⟨hx, hb, hr, hml, hown, hts, hlocks, hN, hK, -⟩ := B
  subst hw
  exact W.iret (v := v) hx hb hr (fun t ht hW => ⟨⟨v, (), rfl, hv, by show va_P D vwCl ws t.heap; rw [ht]; exact hP⟩, hS.F ht⟩) hS.2.2 hdg hlocks
theorem eZ {v : Int32} (B : Bd p s m meth c cc nL (some .boolean) own D tys asM) (hP : va_P D vwCl ws H) (hS : va_S A0 s.heap H locs) (hz : narrow .boolean (.int v) = .int v) (hv : v = rv) (hw : ws = ws') (hdg : decode cc pc = .ok (.ireturn, 1)) :
    W p l e R s m asM.toArray below meth c H locs 0 0 (MQ below (va_Qi (fun (r : Int32) (_ : Unit) => r = rv) (fun _ t => va_P D vwCl ws' t.heap) A0) asM.toArray s 0 0 A0) (F0 m pc ls [.int v]) := by
  obtain ⟨hx, hb, hr, hml, hown, hts, hlocks, hN, hK, -⟩ := B
  subst hw
  exact W.zret (v := v) hx hb hr hz (fun t ht hW => ⟨⟨v, (), rfl, hv, by show va_P D vwCl ws t.heap; rw [ht]; exact hP⟩, hS.F ht⟩) hS.2.2 hdg hlocks
theorem eV (B : Bd p s m meth c cc nL none own D tys asM) (hP : va_P D vwCl ws H) (hS : va_S A0 s.heap H locs) (hw : ws = ws') (hdg : decode cc pc = .ok (.return_, 1)) :
    W p l e R s m asM.toArray below meth c H locs 0 0 (MQ below (va_Qv (fun (_ : Unit) => True) (fun _ t => va_P D vwCl ws' t.heap) A0) asM.toArray s 0 0 A0) (F0 m pc ls []) := by
  obtain ⟨hx, hb, hr, hml, hown, hts, hlocks, hN, hK, -⟩ := B
  subst hw
  exact W.vret hx hb hr (fun t ht hW => ⟨⟨(), rfl, trivial, by show va_P D vwCl ws t.heap; rw [ht]; exact hP⟩, hS.F ht⟩) hS.2.2 hdg hlocks
end XK
end
section
/-! worlds, rows over small naturals, a row a link -/
abbrev wC (cI : ClassId) (ad : Nat → Nat) (rc rl rh fr fw fc fg ps pg pr pd qp qt qf qo ct : Nat → Int32) (cand lim now was sent qfi qsz : Int32) : va_W := [(ad 0, .inr (5, [.ref (ad 1), .ref (ad 5), .ref (ad 10), .ref (ad 15), .ref (ad 20), .int cand, .int lim, .int now, .int was])), (ad 1, .inr (4, [.ref (ad 2), .ref (ad 3), .ref (ad 4)])), (ad 2, .inl (cI, 100, .inl rc)), (ad 3, .inl (cI, 100, .inl rl)), (ad 4, .inl (cI, 100, .inl rh)), (ad 5, .inr (2, [.ref (ad 6), .ref (ad 7), .ref (ad 8), .ref (ad 9)])), (ad 6, .inl (cI, 44, .inl fr)), (ad 7, .inl (cI, 44, .inl fw)), (ad 8, .inl (cI, 440, .inl fc)), (ad 9, .inl (cI, 440, .inl fg)), (ad 10, .inr (3, [.ref (ad 11), .ref (ad 12), .ref (ad 13), .ref (ad 14), .int sent])), (ad 11, .inl (cI, 200, .inl ps)), (ad 12, .inl (cI, 200, .inl pg)), (ad 13, .inl (cI, 200, .inl pr)), (ad 14, .inl (cI, 200, .inl pd)), (ad 15, .inr (0, [.ref (ad 16), .ref (ad 17), .ref (ad 18), .ref (ad 19), .int qfi, .int qsz])), (ad 16, .inl (cI, 200, .inl qp)), (ad 17, .inl (cI, 200, .inl qt)), (ad 18, .inl (cI, 200, .inl qf)), (ad 19, .inl (cI, 200, .inl qo)), (ad 20, .inr (1, [.ref (ad 21)])), (ad 21, .inl (cI, 400, .inl ct))]
abbrev wR (cI cZ : ClassId) (ad : Nat → Nat) (co fa ic me sw cn ab go cp so gr re db : Nat → Int32) (clk lim qd pk was thr : Int32) : va_W := [(ad 0, .inr (6, [.int clk, .int lim, .ref (ad 1), .ref (ad 2), .ref (ad 3), .ref (ad 4), .ref (ad 5), .ref (ad 6), .ref (ad 7), .ref (ad 8), .int qd, .ref (ad 9), .int pk, .ref (ad 10), .ref (ad 11), .ref (ad 12), .ref (ad 13), .int was, .int thr])), (ad 1, .inl (cI, 100, .inl co)), (ad 2, .inl (cI, 100, .inl fa)), (ad 3, .inl (cZ, 10, .inl ic)), (ad 4, .inl (cI, 4, .inl me)), (ad 5, .inl (cI, 40, .inl sw)), (ad 6, .inl (cI, 400, .inl cn)), (ad 7, .inl (cI, 440, .inl ab)), (ad 8, .inl (cI, 440, .inl go)), (ad 9, .inl (cI, 800, .inl cp)), (ad 10, .inl (cI, 200, .inl so)), (ad 11, .inl (cI, 200, .inl gr)), (ad 12, .inl (cI, 200, .inl re)), (ad 13, .inl (cI, 200, .inl db))]
def bI (b : Bool) : Int32 := if b = true then 1 else 0
theorem bI_0 (b : Bool) : bI b = 0 ↔ ¬ b = true := by cases b <;> decide
theorem bI_nar (b : Bool) : narrow .boolean (.int (bI b)) = .int (bI b) := by cases b <;> decide
theorem bI_i (b d : Bool) : bI b = bI d ↔ b = d := by cases b <;> cases d <;> decide
theorem bI_vp (b : Bool) : vp_nar .boolean (bI b) = bI b := by cases b <;> decide
theorem nI_m1 {n : Nat} (h : n < 2 ^ 31) : ¬ (-1 : Int32) = nI n := by
  intro e
  have h1 : (-1 : Int32).toInt = (nI n).toInt := congrArg Int32.toInt e
  rw [nI_toInt h] at h1
  have h2 : (-1 : Int32).toInt = -1 := by decide
  omega
theorem nI_m1' {n : Nat} (h : n < 2 ^ 31) : ¬ nI n = (-1 : Int32) := fun e => nI_m1 h e.symm
theorem nI_le0 {n : Nat} (h : n < 2 ^ 31) : nI n ≤ 0 ↔ n = 0 := by
  rw [show (0 : Int32) = nI 0 from rfl, nI_leI h (by omega)]
  omega
theorem va_D_same {A : Nat → Prop} {W0 W1 : va_W} (hf : W1.map Prod.fst = W0.map Prod.fst) (hD : va_D A W0) : va_D A W1 := by
  have un : ∀ (k : Nat) (q : Nat × va_E), W1[k]? = some q → ∃ q0, W0[k]? = some q0 ∧ q0.1 = q.1 := by
    intro k q hq
    have e : (W1.map Prod.fst)[k]? = (W0.map Prod.fst)[k]? := by rw [hf]
    rw [List.getElem?_map, List.getElem?_map, hq] at e
    cases h : W0[k]? with
    | none => rw [h] at e; cases e
    | some q0 => rw [h] at e; exact ⟨q0, rfl, (Option.some.inj e).symm⟩
  refine ⟨fun i j x y hx hy hxy => ?_, fun k q hq => ?_⟩
  · obtain ⟨x0, a1, a2⟩ := un i x hx
    obtain ⟨y0, b1, b2⟩ := un j y hy
    exact hD.1 i j x0 y0 a1 b1 (a2.trans (hxy.trans b2.symm))
  · obtain ⟨q0, a1, a2⟩ := un k q hq
    rw [← a2]
    exact hD.2 k q0 a1
section XR
variable {p : Program} {l : Launch} {e : Env} {R : Room} {s : State} {m : MethodId} {args : Array Value} {below : List Frame} {meth : Method} {c : Code} {H : Heap} {locs : List Loc} {cells slots : Nat} {Q : State → Prop}
variable {cc : ByteArray} {nL pc : Nat} {ls : Array Slot} {rest : List Value} {D : va_G} {A : Nat → Prop} {tys : List (ClassId × FieldType)} {ws : va_W} {H0 : Heap} {own : String} {rtO : Option FieldType} {asM : List Value}
theorem r_eq {x y : Int32} (h : x = y) (k : W p l e R s m args below meth c H locs cells slots Q (F0 m pc ls (.int y :: rest))) : W p l e R s m args below meth c H locs cells slots Q (F0 m pc ls (.int x :: rest)) := h ▸ k
theorem r_iadd {a b : Nat} (hx : p.tables.exec = Jvm.exec) (hb : c.code = cc) (d : decode cc pc = .ok (.iadd, 1)) (k : W p l e R s m args below meth c H locs cells slots Q (F0 m (pc + 1) ls (.int (nI (a + b)) :: rest))) : W p l e R s m args below meth c H locs cells slots Q (F0 m pc ls (.int (nI b) :: .int (nI a) :: rest)) := by
  refine lv_iadd hx hb d ?_
  rw [nI_add]
  exact k
theorem r_imul {a b : Nat} (hx : p.tables.exec = Jvm.exec) (hb : c.code = cc) (d : decode cc pc = .ok (.imul, 1)) (k : W p l e R s m args below meth c H locs cells slots Q (F0 m (pc + 1) ls (.int (nI (a * b)) :: rest))) : W p l e R s m args below meth c H locs cells slots Q (F0 m pc ls (.int (nI b) :: .int (nI a) :: rest)) := by
  refine lv_imul hx hb d ?_
  rw [pk_mul]
  exact k
theorem r_isub {a b : Nat} (hx : p.tables.exec = Jvm.exec) (hb : c.code = cc) (h1 : b ≤ a) (d : decode cc pc = .ok (.isub, 1)) (k : W p l e R s m args below meth c H locs cells slots Q (F0 m (pc + 1) ls (.int (nI (a - b)) :: rest))) : W p l e R s m args below meth c H locs cells slots Q (F0 m pc ls (.int (nI b) :: .int (nI a) :: rest)) := by
  refine lv_isub hx hb d ?_
  rw [pk_sub h1]
  exact k
theorem r_idiv {a b : Nat} (hx : p.tables.exec = Jvm.exec) (hb : c.code = cc) (ha : a < 2 ^ 31) (h0 : 0 < b) (hb2 : b < 2 ^ 31) (d : decode cc pc = .ok (.idiv, 1)) (k : W p l e R s m args below meth c H locs cells slots Q (F0 m (pc + 1) ls (.int (nI (a / b)) :: rest))) : W p l e R s m args below meth c H locs cells slots Q (F0 m pc ls (.int (nI b) :: .int (nI a) :: rest)) := by
  refine lv_idiv hx hb d (nI_ne0 h0 hb2) ?_
  rw [pk_div ha h0 hb2]
  exact k
theorem r_irem {a b : Nat} (hx : p.tables.exec = Jvm.exec) (hb : c.code = cc) (ha : a < 2 ^ 31) (h0 : 0 < b) (hb2 : b < 2 ^ 31) (d : decode cc pc = .ok (.irem, 1)) (k : W p l e R s m args below meth c H locs cells slots Q (F0 m (pc + 1) ls (.int (nI (a % b)) :: rest))) : W p l e R s m args below meth c H locs cells slots Q (F0 m pc ls (.int (nI b) :: .int (nI a) :: rest)) := by
  refine lv_irem hx hb d (nI_ne0 h0 hb2) ?_
  rw [pk_rem ha h0 hb2]
  exact k
theorem r_icmp_eq {a b : Nat} (hx : p.tables.exec = Jvm.exec) (hb : c.code = cc) (ha : a < 2 ^ 31) (hb2 : b < 2 ^ 31) {off : Int} {tgt : Nat} (d : decode cc pc = .ok (.if_icmp .eq off, 3)) (ht : (pc : Int) + off = (tgt : Int)) (kt : a = b → W p l e R s m args below meth c H locs cells slots Q (F0 m tgt ls rest)) (kf : ¬ a = b → W p l e R s m args below meth c H locs cells slots Q (F0 m (pc + 3) ls rest)) : W p l e R s m args below meth c H locs cells slots Q (F0 m pc ls (.int (nI b) :: .int (nI a) :: rest)) := lv_icmp_eq hx hb d ht (fun h => kt ((nI_eq ha hb2).mp h)) (fun h => kf (fun q => h ((nI_eq ha hb2).mpr q)))
theorem r_icmp_ne {a b : Nat} (hx : p.tables.exec = Jvm.exec) (hb : c.code = cc) (ha : a < 2 ^ 31) (hb2 : b < 2 ^ 31) {off : Int} {tgt : Nat} (d : decode cc pc = .ok (.if_icmp .ne off, 3)) (ht : (pc : Int) + off = (tgt : Int)) (kt : ¬ a = b → W p l e R s m args below meth c H locs cells slots Q (F0 m tgt ls rest)) (kf : a = b → W p l e R s m args below meth c H locs cells slots Q (F0 m (pc + 3) ls rest)) : W p l e R s m args below meth c H locs cells slots Q (F0 m pc ls (.int (nI b) :: .int (nI a) :: rest)) := lv_icmp_ne hx hb d ht (fun h => kt (fun q => h ((nI_eq ha hb2).mpr q))) (fun h => kf ((nI_eq ha hb2).mp h))
theorem r_icmp_ge {a b : Nat} (hx : p.tables.exec = Jvm.exec) (hb : c.code = cc) (ha : a < 2 ^ 31) (hb2 : b < 2 ^ 31) {off : Int} {tgt : Nat} (d : decode cc pc = .ok (.if_icmp .ge off, 3)) (ht : (pc : Int) + off = (tgt : Int)) (kt : b ≤ a → W p l e R s m args below meth c H locs cells slots Q (F0 m tgt ls rest)) (kf : ¬ b ≤ a → W p l e R s m args below meth c H locs cells slots Q (F0 m (pc + 3) ls rest)) : W p l e R s m args below meth c H locs cells slots Q (F0 m pc ls (.int (nI b) :: .int (nI a) :: rest)) := lv_icmp_ge hx hb d ht (fun h => kt ((nI_leI hb2 ha).mp h)) (fun h => kf (fun q => h ((nI_leI hb2 ha).mpr q)))
theorem r_icmp_lt {a b : Nat} (hx : p.tables.exec = Jvm.exec) (hb : c.code = cc) (ha : a < 2 ^ 31) (hb2 : b < 2 ^ 31) {off : Int} {tgt : Nat} (d : decode cc pc = .ok (.if_icmp .lt off, 3)) (ht : (pc : Int) + off = (tgt : Int)) (kt : a < b → W p l e R s m args below meth c H locs cells slots Q (F0 m tgt ls rest)) (kf : ¬ a < b → W p l e R s m args below meth c H locs cells slots Q (F0 m (pc + 3) ls rest)) : W p l e R s m args below meth c H locs cells slots Q (F0 m pc ls (.int (nI b) :: .int (nI a) :: rest)) := lv_icmp_lt hx hb d ht (fun h => kt ((nI_ltI ha hb2).mp h)) (fun h => kf (fun q => h ((nI_ltI ha hb2).mpr q)))
theorem r_icmp_gt {a b : Nat} (hx : p.tables.exec = Jvm.exec) (hb : c.code = cc) (ha : a < 2 ^ 31) (hb2 : b < 2 ^ 31) {off : Int} {tgt : Nat} (d : decode cc pc = .ok (.if_icmp .gt off, 3)) (ht : (pc : Int) + off = (tgt : Int)) (kt : b < a → W p l e R s m args below meth c H locs cells slots Q (F0 m tgt ls rest)) (kf : ¬ b < a → W p l e R s m args below meth c H locs cells slots Q (F0 m (pc + 3) ls rest)) : W p l e R s m args below meth c H locs cells slots Q (F0 m pc ls (.int (nI b) :: .int (nI a) :: rest)) := lv_icmp_gt hx hb d ht (fun h => kt ((nI_ltI hb2 ha).mp h)) (fun h => kf (fun q => h ((nI_ltI hb2 ha).mpr q)))
theorem r_icmp_le {a b : Nat} (hx : p.tables.exec = Jvm.exec) (hb : c.code = cc) (ha : a < 2 ^ 31) (hb2 : b < 2 ^ 31) {off : Int} {tgt : Nat} (d : decode cc pc = .ok (.if_icmp .le off, 3)) (ht : (pc : Int) + off = (tgt : Int)) (kt : a ≤ b → W p l e R s m args below meth c H locs cells slots Q (F0 m tgt ls rest)) (kf : ¬ a ≤ b → W p l e R s m args below meth c H locs cells slots Q (F0 m (pc + 3) ls rest)) : W p l e R s m args below meth c H locs cells slots Q (F0 m pc ls (.int (nI b) :: .int (nI a) :: rest)) := lv_icmp_le hx hb d ht (fun h => kt ((nI_leI ha hb2).mp h)) (fun h => kf (fun q => h ((nI_leI ha hb2).mpr q)))
theorem r_if_eq {a : Nat} (hx : p.tables.exec = Jvm.exec) (hb : c.code = cc) (ha : a < 2 ^ 31) {off : Int} {tgt : Nat} (d : decode cc pc = .ok (.ifCond .eq off, 3)) (ht : (pc : Int) + off = (tgt : Int)) (kt : a = 0 → W p l e R s m args below meth c H locs cells slots Q (F0 m tgt ls rest)) (kf : ¬ a = 0 → W p l e R s m args below meth c H locs cells slots Q (F0 m (pc + 3) ls rest)) : W p l e R s m args below meth c H locs cells slots Q (F0 m pc ls (.int (nI a) :: rest)) := lv_if_eq hx hb d ht (fun h => kt ((nI_eq (b := 0) ha (Nat.two_pow_pos 31)).mp h)) (fun h => kf (fun q => h ((nI_eq (b := 0) ha (Nat.two_pow_pos 31)).mpr q)))
theorem r_if_ne {a : Nat} (hx : p.tables.exec = Jvm.exec) (hb : c.code = cc) (ha : a < 2 ^ 31) {off : Int} {tgt : Nat} (d : decode cc pc = .ok (.ifCond .ne off, 3)) (ht : (pc : Int) + off = (tgt : Int)) (kt : ¬ a = 0 → W p l e R s m args below meth c H locs cells slots Q (F0 m tgt ls rest)) (kf : a = 0 → W p l e R s m args below meth c H locs cells slots Q (F0 m (pc + 3) ls rest)) : W p l e R s m args below meth c H locs cells slots Q (F0 m pc ls (.int (nI a) :: rest)) := lv_if_ne hx hb d ht (fun h => kt (fun q => h ((nI_eq (b := 0) ha (Nat.two_pow_pos 31)).mpr q))) (fun h => kf ((nI_eq (b := 0) ha (Nat.two_pow_pos 31)).mp h))
theorem r_if_le {a : Nat} (hx : p.tables.exec = Jvm.exec) (hb : c.code = cc) (ha : a < 2 ^ 31) {off : Int} {tgt : Nat} (d : decode cc pc = .ok (.ifCond .le off, 3)) (ht : (pc : Int) + off = (tgt : Int)) (kt : a = 0 → W p l e R s m args below meth c H locs cells slots Q (F0 m tgt ls rest)) (kf : ¬ a = 0 → W p l e R s m args below meth c H locs cells slots Q (F0 m (pc + 3) ls rest)) : W p l e R s m args below meth c H locs cells slots Q (F0 m pc ls (.int (nI a) :: rest)) := lv_if_le hx hb d ht (fun h => kt ((nI_le0 ha).mp h)) (fun h => kf (fun q => h ((nI_le0 ha).mpr q)))
theorem r_if_lt {a : Nat} (hx : p.tables.exec = Jvm.exec) (hb : c.code = cc) (ha : a < 2 ^ 31) {off : Int} {tgt : Nat} (d : decode cc pc = .ok (.ifCond .lt off, 3)) (ht : (pc : Int) + off = (tgt : Int)) (kf : W p l e R s m args below meth c H locs cells slots Q (F0 m (pc + 3) ls rest)) : W p l e R s m args below meth c H locs cells slots Q (F0 m pc ls (.int (nI a) :: rest)) := lv_if_lt hx hb d ht (fun h => absurd h (nI_pos ha)) (fun _ => kf)
theorem r_if_eq_b {b : Bool} (hx : p.tables.exec = Jvm.exec) (hb : c.code = cc) {off : Int} {tgt : Nat} (d : decode cc pc = .ok (.ifCond .eq off, 3)) (ht : (pc : Int) + off = (tgt : Int)) (kt : ¬ b = true → W p l e R s m args below meth c H locs cells slots Q (F0 m tgt ls rest)) (kf : b = true → W p l e R s m args below meth c H locs cells slots Q (F0 m (pc + 3) ls rest)) : W p l e R s m args below meth c H locs cells slots Q (F0 m pc ls (.int (bI b) :: rest)) := lv_if_eq hx hb d ht (fun h => kt ((bI_0 b).mp h)) (fun h => kf (Classical.not_not.mp (fun q => h ((bI_0 b).mpr q))))
theorem r_if_ne_b {b : Bool} (hx : p.tables.exec = Jvm.exec) (hb : c.code = cc) {off : Int} {tgt : Nat} (d : decode cc pc = .ok (.ifCond .ne off, 3)) (ht : (pc : Int) + off = (tgt : Int)) (kt : b = true → W p l e R s m args below meth c H locs cells slots Q (F0 m tgt ls rest)) (kf : ¬ b = true → W p l e R s m args below meth c H locs cells slots Q (F0 m (pc + 3) ls rest)) : W p l e R s m args below meth c H locs cells slots Q (F0 m pc ls (.int (bI b) :: rest)) := lv_if_ne hx hb d ht (fun h => kt (Classical.not_not.mp (fun q => h ((bI_0 b).mpr q)))) (fun h => kf ((bI_0 b).mp h))
theorem r_icmp_eq_b {a b : Bool} (hx : p.tables.exec = Jvm.exec) (hb : c.code = cc) {off : Int} {tgt : Nat} (d : decode cc pc = .ok (.if_icmp .eq off, 3)) (ht : (pc : Int) + off = (tgt : Int)) (kt : a = b → W p l e R s m args below meth c H locs cells slots Q (F0 m tgt ls rest)) (kf : ¬ a = b → W p l e R s m args below meth c H locs cells slots Q (F0 m (pc + 3) ls rest)) : W p l e R s m args below meth c H locs cells slots Q (F0 m pc ls (.int (bI b) :: .int (bI a) :: rest)) := lv_icmp_eq hx hb d ht (fun h => kt ((bI_i _ _).mp h)) (fun h => kf (fun q => h ((bI_i _ _).mpr q)))
theorem r_icmp_ne_b {a b : Bool} (hx : p.tables.exec = Jvm.exec) (hb : c.code = cc) {off : Int} {tgt : Nat} (d : decode cc pc = .ok (.if_icmp .ne off, 3)) (ht : (pc : Int) + off = (tgt : Int)) (kt : ¬ a = b → W p l e R s m args below meth c H locs cells slots Q (F0 m tgt ls rest)) (kf : a = b → W p l e R s m args below meth c H locs cells slots Q (F0 m (pc + 3) ls rest)) : W p l e R s m args below meth c H locs cells slots Q (F0 m pc ls (.int (bI b) :: .int (bI a) :: rest)) := lv_icmp_ne hx hb d ht (fun h => kt (fun q => h ((bI_i _ _).mpr q))) (fun h => kf ((bI_i _ _).mp h))
theorem r_iald {a : Nat} (hx : p.tables.exec = Jvm.exec) (hb : c.code = cc) (hK : va_K D vwCl tys s) (hP : va_P D vwCl ws H) (q0 t0 : Nat) {cA : ClassId} {n : Nat} {f : Nat → Int32} (ha : ws[q0]? = some (a, .inl (cA, n, .inl f))) (ht : tys[t0]? = some (cA, .int)) {j : Nat} (hj : j < n) (hn : n < 2 ^ 31) (d : decode cc pc = .ok (.iaload, 1)) (k : W p l e R s m args below meth c H locs cells slots Q (F0 m (pc + 1) ls (.int (f j) :: rest))) : W p l e R s m args below meth c H locs cells slots Q (F0 m pc ls (.int (nI j) :: .ref a :: rest)) := by
  refine va_iald hx hb hK hP q0 t0 ha ht (vp_in_nI hj hn) d ?_
  rw [nI_clamp (Nat.lt_trans hj hn)]
  exact k
theorem r_zald {a : Nat} (hx : p.tables.exec = Jvm.exec) (hb : c.code = cc) (hK : va_K D vwCl tys s) (hP : va_P D vwCl ws H) (q0 t0 : Nat) {cA : ClassId} {n : Nat} {f : Nat → Int32} (ha : ws[q0]? = some (a, .inl (cA, n, .inl f))) (ht : tys[t0]? = some (cA, .boolean)) {j : Nat} (hj : j < n) (hn : n < 2 ^ 31) (d : decode cc pc = .ok (.baload, 1)) (k : W p l e R s m args below meth c H locs cells slots Q (F0 m (pc + 1) ls (.int (f j) :: rest))) : W p l e R s m args below meth c H locs cells slots Q (F0 m pc ls (.int (nI j) :: .ref a :: rest)) := by
  refine va_zald hx hb hK hP q0 t0 ha ht (vp_in_nI hj hn) d ?_
  rw [nI_clamp (Nat.lt_trans hj hn)]
  exact k
theorem r_iast {a : Nat} (hx : p.tables.exec = Jvm.exec) (hb : c.code = cc) (hK : va_K D vwCl tys s) (hP : va_P D vwCl ws H) (hD : va_D A ws) (hS : va_S A H0 H locs) (q0 t0 : Nat) {cA : ClassId} {n : Nat} {f : Nat → Int32} (ha : ws[q0]? = some (a, .inl (cA, n, .inl f))) (ht : tys[t0]? = some (cA, .int)) {j : Nat} {x : Int32} (hj : j < n) (hn : n < 2 ^ 31) (d : decode cc pc = .ok (.iastore, 1)) (k : ∀ (H1 : Heap) (locs1 : List Loc), va_P D vwCl (ws.set q0 (a, .inl (cA, n, .inl (upd f j x)))) H1 → va_D A (ws.set q0 (a, .inl (cA, n, .inl (upd f j x)))) → va_S A H0 H1 locs1 → W p l e R s m args below meth c H1 locs1 cells slots Q (F0 m (pc + 1) ls rest)) : W p l e R s m args below meth c H locs cells slots Q (F0 m pc ls (.int x :: .int (nI j) :: .ref a :: rest)) := by
  refine va_iast hx hb hK hP hD hS q0 t0 ha ht (vp_in_nI hj hn) d ?_
  rw [nI_clamp (Nat.lt_trans hj hn)]
  exact k
theorem r_zast {a : Nat} (hx : p.tables.exec = Jvm.exec) (hb : c.code = cc) (hK : va_K D vwCl tys s) (hP : va_P D vwCl ws H) (hD : va_D A ws) (hS : va_S A H0 H locs) (q0 t0 : Nat) {cA : ClassId} {n : Nat} {f : Nat → Int32} (ha : ws[q0]? = some (a, .inl (cA, n, .inl f))) (ht : tys[t0]? = some (cA, .boolean)) {j : Nat} {x : Bool} (hj : j < n) (hn : n < 2 ^ 31) (d : decode cc pc = .ok (.bastore, 1)) (k : ∀ (H1 : Heap) (locs1 : List Loc), va_P D vwCl (ws.set q0 (a, .inl (cA, n, .inl (upd f j (bI x))))) H1 → va_D A (ws.set q0 (a, .inl (cA, n, .inl (upd f j (bI x))))) → va_S A H0 H1 locs1 → W p l e R s m args below meth c H1 locs1 cells slots Q (F0 m (pc + 1) ls rest)) : W p l e R s m args below meth c H locs cells slots Q (F0 m pc ls (.int (bI x) :: .int (nI j) :: .ref a :: rest)) := by
  refine va_zast hx hb hK hP hD hS q0 t0 ha ht (vp_in_nI hj hn) d ?_
  rw [nI_clamp (Nat.lt_trans hj hn), bI_vp]
  exact k
theorem g_X0_9 (B : Bd p s m meth c cc nL rtO RX0 D tys asM) {a : Nat} (hP : va_P D vwCl ws H) (q0 : Nat) {fs : List Value} (he : ws[q0]? = some (a, .inr (0, fs))) {v : Value} (hv : fs[0]? = some v) (d : decode cc pc = .ok (.getfield 9, 3)) (k : W p l e R s m asM.toArray below meth c H locs cells slots Q (F0 m (pc + 3) ls (v :: rest))) : W p l e R s m asM.toArray below meth c H locs cells slots Q (F0 m pc ls (.ref a :: rest)) := va_get B.1 B.2.1 B.2.2.2.2.2.1 inlX0 B.2.2.2.2.1 B.2.2.2.2.2.2.2.2.1 hP q0 he rfl 0 (by decide) (B.2.2.2.2.2.1 _ m_5_10) (fun _ h => h) hv d k
theorem g_X0_15 (B : Bd p s m meth c cc nL rtO RX0 D tys asM) {a : Nat} (hP : va_P D vwCl ws H) (q0 : Nat) {fs : List Value} (he : ws[q0]? = some (a, .inr (0, fs))) {v : Value} (hv : fs[1]? = some v) (d : decode cc pc = .ok (.getfield 15, 3)) (k : W p l e R s m asM.toArray below meth c H locs cells slots Q (F0 m (pc + 3) ls (v :: rest))) : W p l e R s m asM.toArray below meth c H locs cells slots Q (F0 m pc ls (.ref a :: rest)) := va_get B.1 B.2.1 B.2.2.2.2.2.1 inlX0 B.2.2.2.2.1 B.2.2.2.2.2.2.2.2.1 hP q0 he rfl 1 (by decide) (B.2.2.2.2.2.1 _ m_5_11) (fun _ h => h) hv d k
theorem g_X0_18 (B : Bd p s m meth c cc nL rtO RX0 D tys asM) {a : Nat} (hP : va_P D vwCl ws H) (q0 : Nat) {fs : List Value} (he : ws[q0]? = some (a, .inr (0, fs))) {v : Value} (hv : fs[2]? = some v) (d : decode cc pc = .ok (.getfield 18, 3)) (k : W p l e R s m asM.toArray below meth c H locs cells slots Q (F0 m (pc + 3) ls (v :: rest))) : W p l e R s m asM.toArray below meth c H locs cells slots Q (F0 m pc ls (.ref a :: rest)) := va_get B.1 B.2.1 B.2.2.2.2.2.1 inlX0 B.2.2.2.2.1 B.2.2.2.2.2.2.2.2.1 hP q0 he rfl 2 (by decide) (B.2.2.2.2.2.1 _ m_5_12) (fun _ h => h) hv d k
theorem g_X0_21 (B : Bd p s m meth c cc nL rtO RX0 D tys asM) {a : Nat} (hP : va_P D vwCl ws H) (q0 : Nat) {fs : List Value} (he : ws[q0]? = some (a, .inr (0, fs))) {v : Value} (hv : fs[3]? = some v) (d : decode cc pc = .ok (.getfield 21, 3)) (k : W p l e R s m asM.toArray below meth c H locs cells slots Q (F0 m (pc + 3) ls (v :: rest))) : W p l e R s m asM.toArray below meth c H locs cells slots Q (F0 m pc ls (.ref a :: rest)) := va_get B.1 B.2.1 B.2.2.2.2.2.1 inlX0 B.2.2.2.2.1 B.2.2.2.2.2.2.2.2.1 hP q0 he rfl 3 (by decide) (B.2.2.2.2.2.1 _ m_5_13) (fun _ h => h) hv d k
theorem g_X0_24 (B : Bd p s m meth c cc nL rtO RX0 D tys asM) {a : Nat} (hP : va_P D vwCl ws H) (q0 : Nat) {fs : List Value} (he : ws[q0]? = some (a, .inr (0, fs))) {v : Value} (hv : fs[5]? = some v) (d : decode cc pc = .ok (.getfield 24, 3)) (k : W p l e R s m asM.toArray below meth c H locs cells slots Q (F0 m (pc + 3) ls (v :: rest))) : W p l e R s m asM.toArray below meth c H locs cells slots Q (F0 m pc ls (.ref a :: rest)) := va_get B.1 B.2.1 B.2.2.2.2.2.1 inlX0 B.2.2.2.2.1 B.2.2.2.2.2.2.2.2.1 hP q0 he rfl 5 (by decide) (B.2.2.2.2.2.1 _ m_22_10) (fun _ h => h) hv d k
theorem p_X0_24 (B : Bd p s m meth c cc nL rtO RX0 D tys asM) {a : Nat} (hP : va_P D vwCl ws H) (hD : va_D A ws) (hS : va_S A H0 H locs) (q0 : Nat) {fs : List Value} (he : ws[q0]? = some (a, .inr (0, fs))) (hl : 5 < fs.length) {v : Int32} (d : decode cc pc = .ok (.putfield 24, 3)) (k : ∀ (H1 : Heap) (locs1 : List Loc), va_P D vwCl (ws.set q0 (a, .inr (0, fs.set 5 (.int v)))) H1 → va_D A (ws.set q0 (a, .inr (0, fs.set 5 (.int v)))) → va_S A H0 H1 locs1 → W p l e R s m asM.toArray below meth c H1 locs1 cells slots Q (F0 m (pc + 3) ls rest)) : W p l e R s m asM.toArray below meth c H locs cells slots Q (F0 m pc ls (.int v :: .ref a :: rest)) := va_put (ty := .int) B.1 B.2.1 B.2.2.2.2.2.1 inlX0 tyX0 tyX0_ok nmX0 B.2.2.2.2.1 B.2.2.2.2.2.2.2.2.1 hP hD hS q0 he rfl 5 (by decide) (B.2.2.2.2.2.1 _ m_22_10) (fun _ h => h) rfl (by decide +kernel) rfl rfl hl d k
theorem g_X0_28 (B : Bd p s m meth c cc nL rtO RX0 D tys asM) {a : Nat} (hP : va_P D vwCl ws H) (q0 : Nat) {fs : List Value} (he : ws[q0]? = some (a, .inr (0, fs))) {v : Value} (hv : fs[4]? = some v) (d : decode cc pc = .ok (.getfield 28, 3)) (k : W p l e R s m asM.toArray below meth c H locs cells slots Q (F0 m (pc + 3) ls (v :: rest))) : W p l e R s m asM.toArray below meth c H locs cells slots Q (F0 m pc ls (.ref a :: rest)) := va_get B.1 B.2.1 B.2.2.2.2.2.1 inlX0 B.2.2.2.2.1 B.2.2.2.2.2.2.2.2.1 hP q0 he rfl 4 (by decide) (B.2.2.2.2.2.1 _ m_22_11) (fun _ h => h) hv d k
theorem p_X0_28 (B : Bd p s m meth c cc nL rtO RX0 D tys asM) {a : Nat} (hP : va_P D vwCl ws H) (hD : va_D A ws) (hS : va_S A H0 H locs) (q0 : Nat) {fs : List Value} (he : ws[q0]? = some (a, .inr (0, fs))) (hl : 4 < fs.length) {v : Int32} (d : decode cc pc = .ok (.putfield 28, 3)) (k : ∀ (H1 : Heap) (locs1 : List Loc), va_P D vwCl (ws.set q0 (a, .inr (0, fs.set 4 (.int v)))) H1 → va_D A (ws.set q0 (a, .inr (0, fs.set 4 (.int v)))) → va_S A H0 H1 locs1 → W p l e R s m asM.toArray below meth c H1 locs1 cells slots Q (F0 m (pc + 3) ls rest)) : W p l e R s m asM.toArray below meth c H locs cells slots Q (F0 m pc ls (.int v :: .ref a :: rest)) := va_put (ty := .int) B.1 B.2.1 B.2.2.2.2.2.1 inlX0 tyX0 tyX0_ok nmX0 B.2.2.2.2.1 B.2.2.2.2.2.2.2.2.1 hP hD hS q0 he rfl 4 (by decide) (B.2.2.2.2.2.1 _ m_22_11) (fun _ h => h) rfl (by decide +kernel) rfl rfl hl d k
theorem g_X1_9 (B : Bd p s m meth c cc nL rtO RX1 D tys asM) {a : Nat} (hP : va_P D vwCl ws H) (q0 : Nat) {fs : List Value} (he : ws[q0]? = some (a, .inr (1, fs))) {v : Value} (hv : fs[0]? = some v) (d : decode cc pc = .ok (.getfield 9, 3)) (k : W p l e R s m asM.toArray below meth c H locs cells slots Q (F0 m (pc + 3) ls (v :: rest))) : W p l e R s m asM.toArray below meth c H locs cells slots Q (F0 m pc ls (.ref a :: rest)) := va_get B.1 B.2.1 B.2.2.2.2.2.1 inlX1 B.2.2.2.2.1 B.2.2.2.2.2.2.2.2.1 hP q0 he rfl 0 (by decide) (B.2.2.2.2.2.1 _ m_5_17) (fun _ h => h) hv d k
theorem g_X2_9 (B : Bd p s m meth c cc nL rtO RX2 D tys asM) {a : Nat} (hP : va_P D vwCl ws H) (q0 : Nat) {fs : List Value} (he : ws[q0]? = some (a, .inr (2, fs))) {v : Value} (hv : fs[0]? = some v) (d : decode cc pc = .ok (.getfield 9, 3)) (k : W p l e R s m asM.toArray below meth c H locs cells slots Q (F0 m (pc + 3) ls (v :: rest))) : W p l e R s m asM.toArray below meth c H locs cells slots Q (F0 m pc ls (.ref a :: rest)) := va_get B.1 B.2.1 B.2.2.2.2.2.1 inlX2 B.2.2.2.2.1 B.2.2.2.2.2.2.2.2.1 hP q0 he rfl 0 (by decide) (B.2.2.2.2.2.1 _ m_4_2) (fun _ h => h) hv d k
theorem g_X2_15 (B : Bd p s m meth c cc nL rtO RX2 D tys asM) {a : Nat} (hP : va_P D vwCl ws H) (q0 : Nat) {fs : List Value} (he : ws[q0]? = some (a, .inr (2, fs))) {v : Value} (hv : fs[1]? = some v) (d : decode cc pc = .ok (.getfield 15, 3)) (k : W p l e R s m asM.toArray below meth c H locs cells slots Q (F0 m (pc + 3) ls (v :: rest))) : W p l e R s m asM.toArray below meth c H locs cells slots Q (F0 m pc ls (.ref a :: rest)) := va_get B.1 B.2.1 B.2.2.2.2.2.1 inlX2 B.2.2.2.2.1 B.2.2.2.2.2.2.2.2.1 hP q0 he rfl 1 (by decide) (B.2.2.2.2.2.1 _ m_4_3) (fun _ h => h) hv d k
theorem g_X2_18 (B : Bd p s m meth c cc nL rtO RX2 D tys asM) {a : Nat} (hP : va_P D vwCl ws H) (q0 : Nat) {fs : List Value} (he : ws[q0]? = some (a, .inr (2, fs))) {v : Value} (hv : fs[2]? = some v) (d : decode cc pc = .ok (.getfield 18, 3)) (k : W p l e R s m asM.toArray below meth c H locs cells slots Q (F0 m (pc + 3) ls (v :: rest))) : W p l e R s m asM.toArray below meth c H locs cells slots Q (F0 m pc ls (.ref a :: rest)) := va_get B.1 B.2.1 B.2.2.2.2.2.1 inlX2 B.2.2.2.2.1 B.2.2.2.2.2.2.2.2.1 hP q0 he rfl 2 (by decide) (B.2.2.2.2.2.1 _ m_4_4) (fun _ h => h) hv d k
theorem g_X2_21 (B : Bd p s m meth c cc nL rtO RX2 D tys asM) {a : Nat} (hP : va_P D vwCl ws H) (q0 : Nat) {fs : List Value} (he : ws[q0]? = some (a, .inr (2, fs))) {v : Value} (hv : fs[3]? = some v) (d : decode cc pc = .ok (.getfield 21, 3)) (k : W p l e R s m asM.toArray below meth c H locs cells slots Q (F0 m (pc + 3) ls (v :: rest))) : W p l e R s m asM.toArray below meth c H locs cells slots Q (F0 m pc ls (.ref a :: rest)) := va_get B.1 B.2.1 B.2.2.2.2.2.1 inlX2 B.2.2.2.2.1 B.2.2.2.2.2.2.2.2.1 hP q0 he rfl 3 (by decide) (B.2.2.2.2.2.1 _ m_4_5) (fun _ h => h) hv d k
theorem g_X3_9 (B : Bd p s m meth c cc nL rtO RX3 D tys asM) {a : Nat} (hP : va_P D vwCl ws H) (q0 : Nat) {fs : List Value} (he : ws[q0]? = some (a, .inr (3, fs))) {v : Value} (hv : fs[0]? = some v) (d : decode cc pc = .ok (.getfield 9, 3)) (k : W p l e R s m asM.toArray below meth c H locs cells slots Q (F0 m (pc + 3) ls (v :: rest))) : W p l e R s m asM.toArray below meth c H locs cells slots Q (F0 m pc ls (.ref a :: rest)) := va_get B.1 B.2.1 B.2.2.2.2.2.1 inlX3 B.2.2.2.2.1 B.2.2.2.2.2.2.2.2.1 hP q0 he rfl 0 (by decide) (B.2.2.2.2.2.1 _ m_5_3) (fun _ h => h) hv d k
theorem g_X3_15 (B : Bd p s m meth c cc nL rtO RX3 D tys asM) {a : Nat} (hP : va_P D vwCl ws H) (q0 : Nat) {fs : List Value} (he : ws[q0]? = some (a, .inr (3, fs))) {v : Value} (hv : fs[1]? = some v) (d : decode cc pc = .ok (.getfield 15, 3)) (k : W p l e R s m asM.toArray below meth c H locs cells slots Q (F0 m (pc + 3) ls (v :: rest))) : W p l e R s m asM.toArray below meth c H locs cells slots Q (F0 m pc ls (.ref a :: rest)) := va_get B.1 B.2.1 B.2.2.2.2.2.1 inlX3 B.2.2.2.2.1 B.2.2.2.2.2.2.2.2.1 hP q0 he rfl 1 (by decide) (B.2.2.2.2.2.1 _ m_5_4) (fun _ h => h) hv d k
theorem g_X3_18 (B : Bd p s m meth c cc nL rtO RX3 D tys asM) {a : Nat} (hP : va_P D vwCl ws H) (q0 : Nat) {fs : List Value} (he : ws[q0]? = some (a, .inr (3, fs))) {v : Value} (hv : fs[2]? = some v) (d : decode cc pc = .ok (.getfield 18, 3)) (k : W p l e R s m asM.toArray below meth c H locs cells slots Q (F0 m (pc + 3) ls (v :: rest))) : W p l e R s m asM.toArray below meth c H locs cells slots Q (F0 m pc ls (.ref a :: rest)) := va_get B.1 B.2.1 B.2.2.2.2.2.1 inlX3 B.2.2.2.2.1 B.2.2.2.2.2.2.2.2.1 hP q0 he rfl 2 (by decide) (B.2.2.2.2.2.1 _ m_5_5) (fun _ h => h) hv d k
theorem g_X3_21 (B : Bd p s m meth c cc nL rtO RX3 D tys asM) {a : Nat} (hP : va_P D vwCl ws H) (q0 : Nat) {fs : List Value} (he : ws[q0]? = some (a, .inr (3, fs))) {v : Value} (hv : fs[3]? = some v) (d : decode cc pc = .ok (.getfield 21, 3)) (k : W p l e R s m asM.toArray below meth c H locs cells slots Q (F0 m (pc + 3) ls (v :: rest))) : W p l e R s m asM.toArray below meth c H locs cells slots Q (F0 m pc ls (.ref a :: rest)) := va_get B.1 B.2.1 B.2.2.2.2.2.1 inlX3 B.2.2.2.2.1 B.2.2.2.2.2.2.2.2.1 hP q0 he rfl 3 (by decide) (B.2.2.2.2.2.1 _ m_5_6) (fun _ h => h) hv d k
theorem g_X3_24 (B : Bd p s m meth c cc nL rtO RX3 D tys asM) {a : Nat} (hP : va_P D vwCl ws H) (q0 : Nat) {fs : List Value} (he : ws[q0]? = some (a, .inr (3, fs))) {v : Value} (hv : fs[4]? = some v) (d : decode cc pc = .ok (.getfield 24, 3)) (k : W p l e R s m asM.toArray below meth c H locs cells slots Q (F0 m (pc + 3) ls (v :: rest))) : W p l e R s m asM.toArray below meth c H locs cells slots Q (F0 m pc ls (.ref a :: rest)) := va_get B.1 B.2.1 B.2.2.2.2.2.1 inlX3 B.2.2.2.2.1 B.2.2.2.2.2.2.2.2.1 hP q0 he rfl 4 (by decide) (B.2.2.2.2.2.1 _ m_20_4) (fun _ h => h) hv d k
theorem p_X3_24 (B : Bd p s m meth c cc nL rtO RX3 D tys asM) {a : Nat} (hP : va_P D vwCl ws H) (hD : va_D A ws) (hS : va_S A H0 H locs) (q0 : Nat) {fs : List Value} (he : ws[q0]? = some (a, .inr (3, fs))) (hl : 4 < fs.length) {v : Int32} (d : decode cc pc = .ok (.putfield 24, 3)) (k : ∀ (H1 : Heap) (locs1 : List Loc), va_P D vwCl (ws.set q0 (a, .inr (3, fs.set 4 (.int v)))) H1 → va_D A (ws.set q0 (a, .inr (3, fs.set 4 (.int v)))) → va_S A H0 H1 locs1 → W p l e R s m asM.toArray below meth c H1 locs1 cells slots Q (F0 m (pc + 3) ls rest)) : W p l e R s m asM.toArray below meth c H locs cells slots Q (F0 m pc ls (.int v :: .ref a :: rest)) := va_put (ty := .int) B.1 B.2.1 B.2.2.2.2.2.1 inlX3 tyX3 tyX3_ok nmX3 B.2.2.2.2.1 B.2.2.2.2.2.2.2.2.1 hP hD hS q0 he rfl 4 (by decide) (B.2.2.2.2.2.1 _ m_20_4) (fun _ h => h) rfl (by decide +kernel) rfl rfl hl d k
theorem g_X4_9 (B : Bd p s m meth c cc nL rtO RX4 D tys asM) {a : Nat} (hP : va_P D vwCl ws H) (q0 : Nat) {fs : List Value} (he : ws[q0]? = some (a, .inr (4, fs))) {v : Value} (hv : fs[0]? = some v) (d : decode cc pc = .ok (.getfield 9, 3)) (k : W p l e R s m asM.toArray below meth c H locs cells slots Q (F0 m (pc + 3) ls (v :: rest))) : W p l e R s m asM.toArray below meth c H locs cells slots Q (F0 m pc ls (.ref a :: rest)) := va_get B.1 B.2.1 B.2.2.2.2.2.1 inlX4 B.2.2.2.2.1 B.2.2.2.2.2.2.2.2.1 hP q0 he rfl 0 (by decide) (B.2.2.2.2.2.1 _ m_2_15) (fun _ h => h) hv d k
theorem g_X4_15 (B : Bd p s m meth c cc nL rtO RX4 D tys asM) {a : Nat} (hP : va_P D vwCl ws H) (q0 : Nat) {fs : List Value} (he : ws[q0]? = some (a, .inr (4, fs))) {v : Value} (hv : fs[1]? = some v) (d : decode cc pc = .ok (.getfield 15, 3)) (k : W p l e R s m asM.toArray below meth c H locs cells slots Q (F0 m (pc + 3) ls (v :: rest))) : W p l e R s m asM.toArray below meth c H locs cells slots Q (F0 m pc ls (.ref a :: rest)) := va_get B.1 B.2.1 B.2.2.2.2.2.1 inlX4 B.2.2.2.2.1 B.2.2.2.2.2.2.2.2.1 hP q0 he rfl 1 (by decide) (B.2.2.2.2.2.1 _ m_2_16) (fun _ h => h) hv d k
theorem g_X4_18 (B : Bd p s m meth c cc nL rtO RX4 D tys asM) {a : Nat} (hP : va_P D vwCl ws H) (q0 : Nat) {fs : List Value} (he : ws[q0]? = some (a, .inr (4, fs))) {v : Value} (hv : fs[2]? = some v) (d : decode cc pc = .ok (.getfield 18, 3)) (k : W p l e R s m asM.toArray below meth c H locs cells slots Q (F0 m (pc + 3) ls (v :: rest))) : W p l e R s m asM.toArray below meth c H locs cells slots Q (F0 m pc ls (.ref a :: rest)) := va_get B.1 B.2.1 B.2.2.2.2.2.1 inlX4 B.2.2.2.2.1 B.2.2.2.2.2.2.2.2.1 hP q0 he rfl 2 (by decide) (B.2.2.2.2.2.1 _ m_2_17) (fun _ h => h) hv d k
theorem g_X5_12 (B : Bd p s m meth c cc nL rtO RX5 D tys asM) {a : Nat} (hP : va_P D vwCl ws H) (q0 : Nat) {fs : List Value} (he : ws[q0]? = some (a, .inr (5, fs))) {v : Value} (hv : fs[0]? = some v) (d : decode cc pc = .ok (.getfield 12, 3)) (k : W p l e R s m asM.toArray below meth c H locs cells slots Q (F0 m (pc + 3) ls (v :: rest))) : W p l e R s m asM.toArray below meth c H locs cells slots Q (F0 m pc ls (.ref a :: rest)) := va_get B.1 B.2.1 B.2.2.2.2.2.1 inlX5 B.2.2.2.2.1 B.2.2.2.2.2.2.2.2.1 hP q0 he rfl 0 (by decide) (B.2.2.2.2.2.1 _ m_1_16) (fun _ h => h) hv d k
theorem g_X5_19 (B : Bd p s m meth c cc nL rtO RX5 D tys asM) {a : Nat} (hP : va_P D vwCl ws H) (q0 : Nat) {fs : List Value} (he : ws[q0]? = some (a, .inr (5, fs))) {v : Value} (hv : fs[1]? = some v) (d : decode cc pc = .ok (.getfield 19, 3)) (k : W p l e R s m asM.toArray below meth c H locs cells slots Q (F0 m (pc + 3) ls (v :: rest))) : W p l e R s m asM.toArray below meth c H locs cells slots Q (F0 m pc ls (.ref a :: rest)) := va_get B.1 B.2.1 B.2.2.2.2.2.1 inlX5 B.2.2.2.2.1 B.2.2.2.2.2.2.2.2.1 hP q0 he rfl 1 (by decide) (B.2.2.2.2.2.1 _ m_1_20) (fun _ h => h) hv d k
theorem g_X5_26 (B : Bd p s m meth c cc nL rtO RX5 D tys asM) {a : Nat} (hP : va_P D vwCl ws H) (q0 : Nat) {fs : List Value} (he : ws[q0]? = some (a, .inr (5, fs))) {v : Value} (hv : fs[2]? = some v) (d : decode cc pc = .ok (.getfield 26, 3)) (k : W p l e R s m asM.toArray below meth c H locs cells slots Q (F0 m (pc + 3) ls (v :: rest))) : W p l e R s m asM.toArray below meth c H locs cells slots Q (F0 m pc ls (.ref a :: rest)) := va_get B.1 B.2.1 B.2.2.2.2.2.1 inlX5 B.2.2.2.2.1 B.2.2.2.2.2.2.2.2.1 hP q0 he rfl 2 (by decide) (B.2.2.2.2.2.1 _ m_2_0) (fun _ h => h) hv d k
theorem g_X5_33 (B : Bd p s m meth c cc nL rtO RX5 D tys asM) {a : Nat} (hP : va_P D vwCl ws H) (q0 : Nat) {fs : List Value} (he : ws[q0]? = some (a, .inr (5, fs))) {v : Value} (hv : fs[3]? = some v) (d : decode cc pc = .ok (.getfield 33, 3)) (k : W p l e R s m asM.toArray below meth c H locs cells slots Q (F0 m (pc + 3) ls (v :: rest))) : W p l e R s m asM.toArray below meth c H locs cells slots Q (F0 m pc ls (.ref a :: rest)) := va_get B.1 B.2.1 B.2.2.2.2.2.1 inlX5 B.2.2.2.2.1 B.2.2.2.2.2.2.2.2.1 hP q0 he rfl 3 (by decide) (B.2.2.2.2.2.1 _ m_2_4) (fun _ h => h) hv d k
theorem g_X5_40 (B : Bd p s m meth c cc nL rtO RX5 D tys asM) {a : Nat} (hP : va_P D vwCl ws H) (q0 : Nat) {fs : List Value} (he : ws[q0]? = some (a, .inr (5, fs))) {v : Value} (hv : fs[4]? = some v) (d : decode cc pc = .ok (.getfield 40, 3)) (k : W p l e R s m asM.toArray below meth c H locs cells slots Q (F0 m (pc + 3) ls (v :: rest))) : W p l e R s m asM.toArray below meth c H locs cells slots Q (F0 m pc ls (.ref a :: rest)) := va_get B.1 B.2.1 B.2.2.2.2.2.1 inlX5 B.2.2.2.2.1 B.2.2.2.2.2.2.2.2.1 hP q0 he rfl 4 (by decide) (B.2.2.2.2.2.1 _ m_2_8) (fun _ h => h) hv d k
theorem g_X5_44 (B : Bd p s m meth c cc nL rtO RX5 D tys asM) {a : Nat} (hP : va_P D vwCl ws H) (q0 : Nat) {fs : List Value} (he : ws[q0]? = some (a, .inr (5, fs))) {v : Value} (hv : fs[6]? = some v) (d : decode cc pc = .ok (.getfield 44, 3)) (k : W p l e R s m asM.toArray below meth c H locs cells slots Q (F0 m (pc + 3) ls (v :: rest))) : W p l e R s m asM.toArray below meth c H locs cells slots Q (F0 m pc ls (.ref a :: rest)) := va_get B.1 B.2.1 B.2.2.2.2.2.1 inlX5 B.2.2.2.2.1 B.2.2.2.2.2.2.2.2.1 hP q0 he rfl 6 (by decide) (B.2.2.2.2.2.1 _ m_2_9) (fun _ h => h) hv d k
theorem p_X5_44 (B : Bd p s m meth c cc nL rtO RX5 D tys asM) {a : Nat} (hP : va_P D vwCl ws H) (hD : va_D A ws) (hS : va_S A H0 H locs) (q0 : Nat) {fs : List Value} (he : ws[q0]? = some (a, .inr (5, fs))) (hl : 6 < fs.length) {v : Int32} (d : decode cc pc = .ok (.putfield 44, 3)) (k : ∀ (H1 : Heap) (locs1 : List Loc), va_P D vwCl (ws.set q0 (a, .inr (5, fs.set 6 (.int v)))) H1 → va_D A (ws.set q0 (a, .inr (5, fs.set 6 (.int v)))) → va_S A H0 H1 locs1 → W p l e R s m asM.toArray below meth c H1 locs1 cells slots Q (F0 m (pc + 3) ls rest)) : W p l e R s m asM.toArray below meth c H locs cells slots Q (F0 m pc ls (.int v :: .ref a :: rest)) := va_put (ty := .int) B.1 B.2.1 B.2.2.2.2.2.1 inlX5 tyX5 tyX5_ok nmX5 B.2.2.2.2.1 B.2.2.2.2.2.2.2.2.1 hP hD hS q0 he rfl 6 (by decide) (B.2.2.2.2.2.1 _ m_2_9) (fun _ h => h) rfl (by decide +kernel) rfl rfl hl d k
theorem g_X5_71 (B : Bd p s m meth c cc nL rtO RX5 D tys asM) {a : Nat} (hP : va_P D vwCl ws H) (q0 : Nat) {fs : List Value} (he : ws[q0]? = some (a, .inr (5, fs))) {v : Value} (hv : fs[5]? = some v) (d : decode cc pc = .ok (.getfield 71, 3)) (k : W p l e R s m asM.toArray below meth c H locs cells slots Q (F0 m (pc + 3) ls (v :: rest))) : W p l e R s m asM.toArray below meth c H locs cells slots Q (F0 m pc ls (.ref a :: rest)) := va_get B.1 B.2.1 B.2.2.2.2.2.1 inlX5 B.2.2.2.2.1 B.2.2.2.2.2.2.2.2.1 hP q0 he rfl 5 (by decide) (B.2.2.2.2.2.1 _ m_10_16) (fun _ h => h) hv d k
theorem p_X5_71 (B : Bd p s m meth c cc nL rtO RX5 D tys asM) {a : Nat} (hP : va_P D vwCl ws H) (hD : va_D A ws) (hS : va_S A H0 H locs) (q0 : Nat) {fs : List Value} (he : ws[q0]? = some (a, .inr (5, fs))) (hl : 5 < fs.length) {v : Int32} (d : decode cc pc = .ok (.putfield 71, 3)) (k : ∀ (H1 : Heap) (locs1 : List Loc), va_P D vwCl (ws.set q0 (a, .inr (5, fs.set 5 (.int v)))) H1 → va_D A (ws.set q0 (a, .inr (5, fs.set 5 (.int v)))) → va_S A H0 H1 locs1 → W p l e R s m asM.toArray below meth c H1 locs1 cells slots Q (F0 m (pc + 3) ls rest)) : W p l e R s m asM.toArray below meth c H locs cells slots Q (F0 m pc ls (.int v :: .ref a :: rest)) := va_put (ty := .int) B.1 B.2.1 B.2.2.2.2.2.1 inlX5 tyX5 tyX5_ok nmX5 B.2.2.2.2.1 B.2.2.2.2.2.2.2.2.1 hP hD hS q0 he rfl 5 (by decide) (B.2.2.2.2.2.1 _ m_10_16) (fun _ h => h) rfl (by decide +kernel) rfl rfl hl d k
theorem g_X5_128 (B : Bd p s m meth c cc nL rtO RX5 D tys asM) {a : Nat} (hP : va_P D vwCl ws H) (q0 : Nat) {fs : List Value} (he : ws[q0]? = some (a, .inr (5, fs))) {v : Value} (hv : fs[7]? = some v) (d : decode cc pc = .ok (.getfield 128, 3)) (k : W p l e R s m asM.toArray below meth c H locs cells slots Q (F0 m (pc + 3) ls (v :: rest))) : W p l e R s m asM.toArray below meth c H locs cells slots Q (F0 m pc ls (.ref a :: rest)) := va_get B.1 B.2.1 B.2.2.2.2.2.1 inlX5 B.2.2.2.2.1 B.2.2.2.2.2.2.2.2.1 hP q0 he rfl 7 (by decide) (B.2.2.2.2.2.1 _ m_15_14) (fun _ h => h) hv d k
theorem p_X5_128 (B : Bd p s m meth c cc nL rtO RX5 D tys asM) {a : Nat} (hP : va_P D vwCl ws H) (hD : va_D A ws) (hS : va_S A H0 H locs) (q0 : Nat) {fs : List Value} (he : ws[q0]? = some (a, .inr (5, fs))) (hl : 7 < fs.length) {v : Int32} (d : decode cc pc = .ok (.putfield 128, 3)) (k : ∀ (H1 : Heap) (locs1 : List Loc), va_P D vwCl (ws.set q0 (a, .inr (5, fs.set 7 (.int v)))) H1 → va_D A (ws.set q0 (a, .inr (5, fs.set 7 (.int v)))) → va_S A H0 H1 locs1 → W p l e R s m asM.toArray below meth c H1 locs1 cells slots Q (F0 m (pc + 3) ls rest)) : W p l e R s m asM.toArray below meth c H locs cells slots Q (F0 m pc ls (.int v :: .ref a :: rest)) := va_put (ty := .int) B.1 B.2.1 B.2.2.2.2.2.1 inlX5 tyX5 tyX5_ok nmX5 B.2.2.2.2.1 B.2.2.2.2.2.2.2.2.1 hP hD hS q0 he rfl 7 (by decide) (B.2.2.2.2.2.1 _ m_15_14) (fun _ h => h) rfl (by decide +kernel) rfl rfl hl d k
theorem g_X5_187 (B : Bd p s m meth c cc nL rtO RX5 D tys asM) {a : Nat} (hP : va_P D vwCl ws H) (q0 : Nat) {fs : List Value} (he : ws[q0]? = some (a, .inr (5, fs))) {v : Value} (hv : fs[8]? = some v) (d : decode cc pc = .ok (.getfield 187, 3)) (k : W p l e R s m asM.toArray below meth c H locs cells slots Q (F0 m (pc + 3) ls (v :: rest))) : W p l e R s m asM.toArray below meth c H locs cells slots Q (F0 m pc ls (.ref a :: rest)) := va_get B.1 B.2.1 B.2.2.2.2.2.1 inlX5 B.2.2.2.2.1 B.2.2.2.2.2.2.2.2.1 hP q0 he rfl 8 (by decide) (B.2.2.2.2.2.1 _ m_22_5) (fun _ h => h) hv d k
theorem p_X5_187 (B : Bd p s m meth c cc nL rtO RX5 D tys asM) {a : Nat} (hP : va_P D vwCl ws H) (hD : va_D A ws) (hS : va_S A H0 H locs) (q0 : Nat) {fs : List Value} (he : ws[q0]? = some (a, .inr (5, fs))) (hl : 8 < fs.length) {v : Int32} (d : decode cc pc = .ok (.putfield 187, 3)) (k : ∀ (H1 : Heap) (locs1 : List Loc), va_P D vwCl (ws.set q0 (a, .inr (5, fs.set 8 (.int v)))) H1 → va_D A (ws.set q0 (a, .inr (5, fs.set 8 (.int v)))) → va_S A H0 H1 locs1 → W p l e R s m asM.toArray below meth c H1 locs1 cells slots Q (F0 m (pc + 3) ls rest)) : W p l e R s m asM.toArray below meth c H locs cells slots Q (F0 m pc ls (.int v :: .ref a :: rest)) := va_put (ty := .int) B.1 B.2.1 B.2.2.2.2.2.1 inlX5 tyX5 tyX5_ok nmX5 B.2.2.2.2.1 B.2.2.2.2.2.2.2.2.1 hP hD hS q0 he rfl 8 (by decide) (B.2.2.2.2.2.1 _ m_22_5) (fun _ h => h) rfl (by decide +kernel) rfl rfl hl d k
theorem g_X6_7 (B : Bd p s m meth c cc nL rtO RX6 D tys asM) {a : Nat} (hP : va_P D vwCl ws H) (q0 : Nat) {fs : List Value} (he : ws[q0]? = some (a, .inr (6, fs))) {v : Value} (hv : fs[1]? = some v) (d : decode cc pc = .ok (.getfield 7, 3)) (k : W p l e R s m asM.toArray below meth c H locs cells slots Q (F0 m (pc + 3) ls (v :: rest))) : W p l e R s m asM.toArray below meth c H locs cells slots Q (F0 m pc ls (.ref a :: rest)) := va_get B.1 B.2.1 B.2.2.2.2.2.1 inlX6 B.2.2.2.2.1 B.2.2.2.2.2.2.2.2.1 hP q0 he rfl 1 (by decide) (B.2.2.2.2.2.1 _ m_5_22) (fun _ h => h) hv d k
theorem p_X6_7 (B : Bd p s m meth c cc nL rtO RX6 D tys asM) {a : Nat} (hP : va_P D vwCl ws H) (hD : va_D A ws) (hS : va_S A H0 H locs) (q0 : Nat) {fs : List Value} (he : ws[q0]? = some (a, .inr (6, fs))) (hl : 1 < fs.length) {v : Int32} (d : decode cc pc = .ok (.putfield 7, 3)) (k : ∀ (H1 : Heap) (locs1 : List Loc), va_P D vwCl (ws.set q0 (a, .inr (6, fs.set 1 (.int v)))) H1 → va_D A (ws.set q0 (a, .inr (6, fs.set 1 (.int v)))) → va_S A H0 H1 locs1 → W p l e R s m asM.toArray below meth c H1 locs1 cells slots Q (F0 m (pc + 3) ls rest)) : W p l e R s m asM.toArray below meth c H locs cells slots Q (F0 m pc ls (.int v :: .ref a :: rest)) := va_put (ty := .int) B.1 B.2.1 B.2.2.2.2.2.1 inlX6 tyX6 tyX6_ok nmX6 B.2.2.2.2.1 B.2.2.2.2.2.2.2.2.1 hP hD hS q0 he rfl 1 (by decide) (B.2.2.2.2.2.1 _ m_5_22) (fun _ h => h) rfl (by decide +kernel) rfl rfl hl d k
theorem g_X6_13 (B : Bd p s m meth c cc nL rtO RX6 D tys asM) {a : Nat} (hP : va_P D vwCl ws H) (q0 : Nat) {fs : List Value} (he : ws[q0]? = some (a, .inr (6, fs))) {v : Value} (hv : fs[2]? = some v) (d : decode cc pc = .ok (.getfield 13, 3)) (k : W p l e R s m asM.toArray below meth c H locs cells slots Q (F0 m (pc + 3) ls (v :: rest))) : W p l e R s m asM.toArray below meth c H locs cells slots Q (F0 m pc ls (.ref a :: rest)) := va_get B.1 B.2.1 B.2.2.2.2.2.1 inlX6 B.2.2.2.2.1 B.2.2.2.2.2.2.2.2.1 hP q0 he rfl 2 (by decide) (B.2.2.2.2.2.1 _ m_5_23) (fun _ h => h) hv d k
theorem g_X6_17 (B : Bd p s m meth c cc nL rtO RX6 D tys asM) {a : Nat} (hP : va_P D vwCl ws H) (q0 : Nat) {fs : List Value} (he : ws[q0]? = some (a, .inr (6, fs))) {v : Value} (hv : fs[3]? = some v) (d : decode cc pc = .ok (.getfield 17, 3)) (k : W p l e R s m asM.toArray below meth c H locs cells slots Q (F0 m (pc + 3) ls (v :: rest))) : W p l e R s m asM.toArray below meth c H locs cells slots Q (F0 m pc ls (.ref a :: rest)) := va_get B.1 B.2.1 B.2.2.2.2.2.1 inlX6 B.2.2.2.2.1 B.2.2.2.2.2.2.2.2.1 hP q0 he rfl 3 (by decide) (B.2.2.2.2.2.1 _ m_6_0) (fun _ h => h) hv d k
theorem g_X6_20 (B : Bd p s m meth c cc nL rtO RX6 D tys asM) {a : Nat} (hP : va_P D vwCl ws H) (q0 : Nat) {fs : List Value} (he : ws[q0]? = some (a, .inr (6, fs))) {v : Value} (hv : fs[4]? = some v) (d : decode cc pc = .ok (.getfield 20, 3)) (k : W p l e R s m asM.toArray below meth c H locs cells slots Q (F0 m (pc + 3) ls (v :: rest))) : W p l e R s m asM.toArray below meth c H locs cells slots Q (F0 m pc ls (.ref a :: rest)) := va_get B.1 B.2.1 B.2.2.2.2.2.1 inlX6 B.2.2.2.2.1 B.2.2.2.2.2.2.2.2.1 hP q0 he rfl 4 (by decide) (B.2.2.2.2.2.1 _ m_6_2) (fun _ h => h) hv d k
theorem g_X6_24 (B : Bd p s m meth c cc nL rtO RX6 D tys asM) {a : Nat} (hP : va_P D vwCl ws H) (q0 : Nat) {fs : List Value} (he : ws[q0]? = some (a, .inr (6, fs))) {v : Value} (hv : fs[5]? = some v) (d : decode cc pc = .ok (.getfield 24, 3)) (k : W p l e R s m asM.toArray below meth c H locs cells slots Q (F0 m (pc + 3) ls (v :: rest))) : W p l e R s m asM.toArray below meth c H locs cells slots Q (F0 m pc ls (.ref a :: rest)) := va_get B.1 B.2.1 B.2.2.2.2.2.1 inlX6 B.2.2.2.2.1 B.2.2.2.2.2.2.2.2.1 hP q0 he rfl 5 (by decide) (B.2.2.2.2.2.1 _ m_6_3) (fun _ h => h) hv d k
theorem g_X6_27 (B : Bd p s m meth c cc nL rtO RX6 D tys asM) {a : Nat} (hP : va_P D vwCl ws H) (q0 : Nat) {fs : List Value} (he : ws[q0]? = some (a, .inr (6, fs))) {v : Value} (hv : fs[6]? = some v) (d : decode cc pc = .ok (.getfield 27, 3)) (k : W p l e R s m asM.toArray below meth c H locs cells slots Q (F0 m (pc + 3) ls (v :: rest))) : W p l e R s m asM.toArray below meth c H locs cells slots Q (F0 m pc ls (.ref a :: rest)) := va_get B.1 B.2.1 B.2.2.2.2.2.1 inlX6 B.2.2.2.2.1 B.2.2.2.2.2.2.2.2.1 hP q0 he rfl 6 (by decide) (B.2.2.2.2.2.1 _ m_6_4) (fun _ h => h) hv d k
theorem g_X6_30 (B : Bd p s m meth c cc nL rtO RX6 D tys asM) {a : Nat} (hP : va_P D vwCl ws H) (q0 : Nat) {fs : List Value} (he : ws[q0]? = some (a, .inr (6, fs))) {v : Value} (hv : fs[7]? = some v) (d : decode cc pc = .ok (.getfield 30, 3)) (k : W p l e R s m asM.toArray below meth c H locs cells slots Q (F0 m (pc + 3) ls (v :: rest))) : W p l e R s m asM.toArray below meth c H locs cells slots Q (F0 m pc ls (.ref a :: rest)) := va_get B.1 B.2.1 B.2.2.2.2.2.1 inlX6 B.2.2.2.2.1 B.2.2.2.2.2.2.2.2.1 hP q0 he rfl 7 (by decide) (B.2.2.2.2.2.1 _ m_6_5) (fun _ h => h) hv d k
theorem g_X6_33 (B : Bd p s m meth c cc nL rtO RX6 D tys asM) {a : Nat} (hP : va_P D vwCl ws H) (q0 : Nat) {fs : List Value} (he : ws[q0]? = some (a, .inr (6, fs))) {v : Value} (hv : fs[8]? = some v) (d : decode cc pc = .ok (.getfield 33, 3)) (k : W p l e R s m asM.toArray below meth c H locs cells slots Q (F0 m (pc + 3) ls (v :: rest))) : W p l e R s m asM.toArray below meth c H locs cells slots Q (F0 m pc ls (.ref a :: rest)) := va_get B.1 B.2.1 B.2.2.2.2.2.1 inlX6 B.2.2.2.2.1 B.2.2.2.2.2.2.2.2.1 hP q0 he rfl 8 (by decide) (B.2.2.2.2.2.1 _ m_6_6) (fun _ h => h) hv d k
theorem g_X6_36 (B : Bd p s m meth c cc nL rtO RX6 D tys asM) {a : Nat} (hP : va_P D vwCl ws H) (q0 : Nat) {fs : List Value} (he : ws[q0]? = some (a, .inr (6, fs))) {v : Value} (hv : fs[9]? = some v) (d : decode cc pc = .ok (.getfield 36, 3)) (k : W p l e R s m asM.toArray below meth c H locs cells slots Q (F0 m (pc + 3) ls (v :: rest))) : W p l e R s m asM.toArray below meth c H locs cells slots Q (F0 m pc ls (.ref a :: rest)) := va_get B.1 B.2.1 B.2.2.2.2.2.1 inlX6 B.2.2.2.2.1 B.2.2.2.2.2.2.2.2.1 hP q0 he rfl 9 (by decide) (B.2.2.2.2.2.1 _ m_6_7) (fun _ h => h) hv d k
theorem g_X6_39 (B : Bd p s m meth c cc nL rtO RX6 D tys asM) {a : Nat} (hP : va_P D vwCl ws H) (q0 : Nat) {fs : List Value} (he : ws[q0]? = some (a, .inr (6, fs))) {v : Value} (hv : fs[11]? = some v) (d : decode cc pc = .ok (.getfield 39, 3)) (k : W p l e R s m asM.toArray below meth c H locs cells slots Q (F0 m (pc + 3) ls (v :: rest))) : W p l e R s m asM.toArray below meth c H locs cells slots Q (F0 m pc ls (.ref a :: rest)) := va_get B.1 B.2.1 B.2.2.2.2.2.1 inlX6 B.2.2.2.2.1 B.2.2.2.2.2.2.2.2.1 hP q0 he rfl 11 (by decide) (B.2.2.2.2.2.1 _ m_6_8) (fun _ h => h) hv d k
theorem g_X6_42 (B : Bd p s m meth c cc nL rtO RX6 D tys asM) {a : Nat} (hP : va_P D vwCl ws H) (q0 : Nat) {fs : List Value} (he : ws[q0]? = some (a, .inr (6, fs))) {v : Value} (hv : fs[13]? = some v) (d : decode cc pc = .ok (.getfield 42, 3)) (k : W p l e R s m asM.toArray below meth c H locs cells slots Q (F0 m (pc + 3) ls (v :: rest))) : W p l e R s m asM.toArray below meth c H locs cells slots Q (F0 m pc ls (.ref a :: rest)) := va_get B.1 B.2.1 B.2.2.2.2.2.1 inlX6 B.2.2.2.2.1 B.2.2.2.2.2.2.2.2.1 hP q0 he rfl 13 (by decide) (B.2.2.2.2.2.1 _ m_6_9) (fun _ h => h) hv d k
theorem g_X6_45 (B : Bd p s m meth c cc nL rtO RX6 D tys asM) {a : Nat} (hP : va_P D vwCl ws H) (q0 : Nat) {fs : List Value} (he : ws[q0]? = some (a, .inr (6, fs))) {v : Value} (hv : fs[14]? = some v) (d : decode cc pc = .ok (.getfield 45, 3)) (k : W p l e R s m asM.toArray below meth c H locs cells slots Q (F0 m (pc + 3) ls (v :: rest))) : W p l e R s m asM.toArray below meth c H locs cells slots Q (F0 m pc ls (.ref a :: rest)) := va_get B.1 B.2.1 B.2.2.2.2.2.1 inlX6 B.2.2.2.2.1 B.2.2.2.2.2.2.2.2.1 hP q0 he rfl 14 (by decide) (B.2.2.2.2.2.1 _ m_6_10) (fun _ h => h) hv d k
theorem g_X6_48 (B : Bd p s m meth c cc nL rtO RX6 D tys asM) {a : Nat} (hP : va_P D vwCl ws H) (q0 : Nat) {fs : List Value} (he : ws[q0]? = some (a, .inr (6, fs))) {v : Value} (hv : fs[15]? = some v) (d : decode cc pc = .ok (.getfield 48, 3)) (k : W p l e R s m asM.toArray below meth c H locs cells slots Q (F0 m (pc + 3) ls (v :: rest))) : W p l e R s m asM.toArray below meth c H locs cells slots Q (F0 m pc ls (.ref a :: rest)) := va_get B.1 B.2.1 B.2.2.2.2.2.1 inlX6 B.2.2.2.2.1 B.2.2.2.2.2.2.2.2.1 hP q0 he rfl 15 (by decide) (B.2.2.2.2.2.1 _ m_6_11) (fun _ h => h) hv d k
theorem g_X6_51 (B : Bd p s m meth c cc nL rtO RX6 D tys asM) {a : Nat} (hP : va_P D vwCl ws H) (q0 : Nat) {fs : List Value} (he : ws[q0]? = some (a, .inr (6, fs))) {v : Value} (hv : fs[16]? = some v) (d : decode cc pc = .ok (.getfield 51, 3)) (k : W p l e R s m asM.toArray below meth c H locs cells slots Q (F0 m (pc + 3) ls (v :: rest))) : W p l e R s m asM.toArray below meth c H locs cells slots Q (F0 m pc ls (.ref a :: rest)) := va_get B.1 B.2.1 B.2.2.2.2.2.1 inlX6 B.2.2.2.2.1 B.2.2.2.2.2.2.2.2.1 hP q0 he rfl 16 (by decide) (B.2.2.2.2.2.1 _ m_6_12) (fun _ h => h) hv d k
theorem g_X6_57 (B : Bd p s m meth c cc nL rtO RX6 D tys asM) {a : Nat} (hP : va_P D vwCl ws H) (q0 : Nat) {fs : List Value} (he : ws[q0]? = some (a, .inr (6, fs))) {v : Value} (hv : fs[18]? = some v) (d : decode cc pc = .ok (.getfield 57, 3)) (k : W p l e R s m asM.toArray below meth c H locs cells slots Q (F0 m (pc + 3) ls (v :: rest))) : W p l e R s m asM.toArray below meth c H locs cells slots Q (F0 m pc ls (.ref a :: rest)) := va_get B.1 B.2.1 B.2.2.2.2.2.1 inlX6 B.2.2.2.2.1 B.2.2.2.2.2.2.2.2.1 hP q0 he rfl 18 (by decide) (B.2.2.2.2.2.1 _ m_9_4) (fun _ h => h) hv d k
theorem p_X6_57 (B : Bd p s m meth c cc nL rtO RX6 D tys asM) {a : Nat} (hP : va_P D vwCl ws H) (hD : va_D A ws) (hS : va_S A H0 H locs) (q0 : Nat) {fs : List Value} (he : ws[q0]? = some (a, .inr (6, fs))) (hl : 18 < fs.length) {v : Int32} (d : decode cc pc = .ok (.putfield 57, 3)) (k : ∀ (H1 : Heap) (locs1 : List Loc), va_P D vwCl (ws.set q0 (a, .inr (6, fs.set 18 (.int v)))) H1 → va_D A (ws.set q0 (a, .inr (6, fs.set 18 (.int v)))) → va_S A H0 H1 locs1 → W p l e R s m asM.toArray below meth c H1 locs1 cells slots Q (F0 m (pc + 3) ls rest)) : W p l e R s m asM.toArray below meth c H locs cells slots Q (F0 m pc ls (.int v :: .ref a :: rest)) := va_put (ty := .int) B.1 B.2.1 B.2.2.2.2.2.1 inlX6 tyX6 tyX6_ok nmX6 B.2.2.2.2.1 B.2.2.2.2.2.2.2.2.1 hP hD hS q0 he rfl 18 (by decide) (B.2.2.2.2.2.1 _ m_9_4) (fun _ h => h) rfl (by decide +kernel) rfl rfl hl d k
theorem g_X6_79 (B : Bd p s m meth c cc nL rtO RX6 D tys asM) {a : Nat} (hP : va_P D vwCl ws H) (q0 : Nat) {fs : List Value} (he : ws[q0]? = some (a, .inr (6, fs))) {v : Value} (hv : fs[0]? = some v) (d : decode cc pc = .ok (.getfield 79, 3)) (k : W p l e R s m asM.toArray below meth c H locs cells slots Q (F0 m (pc + 3) ls (v :: rest))) : W p l e R s m asM.toArray below meth c H locs cells slots Q (F0 m pc ls (.ref a :: rest)) := va_get B.1 B.2.1 B.2.2.2.2.2.1 inlX6 B.2.2.2.2.1 B.2.2.2.2.2.2.2.2.1 hP q0 he rfl 0 (by decide) (B.2.2.2.2.2.1 _ m_17_3) (fun _ h => h) hv d k
theorem p_X6_79 (B : Bd p s m meth c cc nL rtO RX6 D tys asM) {a : Nat} (hP : va_P D vwCl ws H) (hD : va_D A ws) (hS : va_S A H0 H locs) (q0 : Nat) {fs : List Value} (he : ws[q0]? = some (a, .inr (6, fs))) (hl : 0 < fs.length) {v : Int32} (d : decode cc pc = .ok (.putfield 79, 3)) (k : ∀ (H1 : Heap) (locs1 : List Loc), va_P D vwCl (ws.set q0 (a, .inr (6, fs.set 0 (.int v)))) H1 → va_D A (ws.set q0 (a, .inr (6, fs.set 0 (.int v)))) → va_S A H0 H1 locs1 → W p l e R s m asM.toArray below meth c H1 locs1 cells slots Q (F0 m (pc + 3) ls rest)) : W p l e R s m asM.toArray below meth c H locs cells slots Q (F0 m pc ls (.int v :: .ref a :: rest)) := va_put (ty := .int) B.1 B.2.1 B.2.2.2.2.2.1 inlX6 tyX6 tyX6_ok nmX6 B.2.2.2.2.1 B.2.2.2.2.2.2.2.2.1 hP hD hS q0 he rfl 0 (by decide) (B.2.2.2.2.2.1 _ m_17_3) (fun _ h => h) rfl (by decide +kernel) rfl rfl hl d k
theorem g_X6_108 (B : Bd p s m meth c cc nL rtO RX6 D tys asM) {a : Nat} (hP : va_P D vwCl ws H) (q0 : Nat) {fs : List Value} (he : ws[q0]? = some (a, .inr (6, fs))) {v : Value} (hv : fs[10]? = some v) (d : decode cc pc = .ok (.getfield 108, 3)) (k : W p l e R s m asM.toArray below meth c H locs cells slots Q (F0 m (pc + 3) ls (v :: rest))) : W p l e R s m asM.toArray below meth c H locs cells slots Q (F0 m pc ls (.ref a :: rest)) := va_get B.1 B.2.1 B.2.2.2.2.2.1 inlX6 B.2.2.2.2.1 B.2.2.2.2.2.2.2.2.1 hP q0 he rfl 10 (by decide) (B.2.2.2.2.2.1 _ m_23_5) (fun _ h => h) hv d k
theorem p_X6_108 (B : Bd p s m meth c cc nL rtO RX6 D tys asM) {a : Nat} (hP : va_P D vwCl ws H) (hD : va_D A ws) (hS : va_S A H0 H locs) (q0 : Nat) {fs : List Value} (he : ws[q0]? = some (a, .inr (6, fs))) (hl : 10 < fs.length) {v : Int32} (d : decode cc pc = .ok (.putfield 108, 3)) (k : ∀ (H1 : Heap) (locs1 : List Loc), va_P D vwCl (ws.set q0 (a, .inr (6, fs.set 10 (.int v)))) H1 → va_D A (ws.set q0 (a, .inr (6, fs.set 10 (.int v)))) → va_S A H0 H1 locs1 → W p l e R s m asM.toArray below meth c H1 locs1 cells slots Q (F0 m (pc + 3) ls rest)) : W p l e R s m asM.toArray below meth c H locs cells slots Q (F0 m pc ls (.int v :: .ref a :: rest)) := va_put (ty := .int) B.1 B.2.1 B.2.2.2.2.2.1 inlX6 tyX6 tyX6_ok nmX6 B.2.2.2.2.1 B.2.2.2.2.2.2.2.2.1 hP hD hS q0 he rfl 10 (by decide) (B.2.2.2.2.2.1 _ m_23_5) (fun _ h => h) rfl (by decide +kernel) rfl rfl hl d k
theorem g_X6_111 (B : Bd p s m meth c cc nL rtO RX6 D tys asM) {a : Nat} (hP : va_P D vwCl ws H) (q0 : Nat) {fs : List Value} (he : ws[q0]? = some (a, .inr (6, fs))) {v : Value} (hv : fs[17]? = some v) (d : decode cc pc = .ok (.getfield 111, 3)) (k : W p l e R s m asM.toArray below meth c H locs cells slots Q (F0 m (pc + 3) ls (v :: rest))) : W p l e R s m asM.toArray below meth c H locs cells slots Q (F0 m pc ls (.ref a :: rest)) := va_get B.1 B.2.1 B.2.2.2.2.2.1 inlX6 B.2.2.2.2.1 B.2.2.2.2.2.2.2.2.1 hP q0 he rfl 17 (by decide) (B.2.2.2.2.2.1 _ m_23_6) (fun _ h => h) hv d k
theorem p_X6_111 (B : Bd p s m meth c cc nL rtO RX6 D tys asM) {a : Nat} (hP : va_P D vwCl ws H) (hD : va_D A ws) (hS : va_S A H0 H locs) (q0 : Nat) {fs : List Value} (he : ws[q0]? = some (a, .inr (6, fs))) (hl : 17 < fs.length) {v : Int32} (d : decode cc pc = .ok (.putfield 111, 3)) (k : ∀ (H1 : Heap) (locs1 : List Loc), va_P D vwCl (ws.set q0 (a, .inr (6, fs.set 17 (.int v)))) H1 → va_D A (ws.set q0 (a, .inr (6, fs.set 17 (.int v)))) → va_S A H0 H1 locs1 → W p l e R s m asM.toArray below meth c H1 locs1 cells slots Q (F0 m (pc + 3) ls rest)) : W p l e R s m asM.toArray below meth c H locs cells slots Q (F0 m pc ls (.int v :: .ref a :: rest)) := va_put (ty := .int) B.1 B.2.1 B.2.2.2.2.2.1 inlX6 tyX6 tyX6_ok nmX6 B.2.2.2.2.1 B.2.2.2.2.2.2.2.2.1 hP hD hS q0 he rfl 17 (by decide) (B.2.2.2.2.2.1 _ m_23_6) (fun _ h => h) rfl (by decide +kernel) rfl rfl hl d k
theorem g_X6_121 (B : Bd p s m meth c cc nL rtO RX6 D tys asM) {a : Nat} (hP : va_P D vwCl ws H) (q0 : Nat) {fs : List Value} (he : ws[q0]? = some (a, .inr (6, fs))) {v : Value} (hv : fs[12]? = some v) (d : decode cc pc = .ok (.getfield 121, 3)) (k : W p l e R s m asM.toArray below meth c H locs cells slots Q (F0 m (pc + 3) ls (v :: rest))) : W p l e R s m asM.toArray below meth c H locs cells slots Q (F0 m pc ls (.ref a :: rest)) := va_get B.1 B.2.1 B.2.2.2.2.2.1 inlX6 B.2.2.2.2.1 B.2.2.2.2.2.2.2.2.1 hP q0 he rfl 12 (by decide) (B.2.2.2.2.2.1 _ m_22_16) (fun _ h => h) hv d k
theorem p_X6_121 (B : Bd p s m meth c cc nL rtO RX6 D tys asM) {a : Nat} (hP : va_P D vwCl ws H) (hD : va_D A ws) (hS : va_S A H0 H locs) (q0 : Nat) {fs : List Value} (he : ws[q0]? = some (a, .inr (6, fs))) (hl : 12 < fs.length) {v : Int32} (d : decode cc pc = .ok (.putfield 121, 3)) (k : ∀ (H1 : Heap) (locs1 : List Loc), va_P D vwCl (ws.set q0 (a, .inr (6, fs.set 12 (.int v)))) H1 → va_D A (ws.set q0 (a, .inr (6, fs.set 12 (.int v)))) → va_S A H0 H1 locs1 → W p l e R s m asM.toArray below meth c H1 locs1 cells slots Q (F0 m (pc + 3) ls rest)) : W p l e R s m asM.toArray below meth c H locs cells slots Q (F0 m pc ls (.int v :: .ref a :: rest)) := va_put (ty := .int) B.1 B.2.1 B.2.2.2.2.2.1 inlX6 tyX6 tyX6_ok nmX6 B.2.2.2.2.1 B.2.2.2.2.2.2.2.2.1 hP hD hS q0 he rfl 12 (by decide) (B.2.2.2.2.2.1 _ m_22_16) (fun _ h => h) rfl (by decide +kernel) rfl rfl hl d k
end XR
section XL
variable {R rm : Room} {s : State} {asM : List Value}
theorem l_RL_73 (hts : ∀ w ∈ wsL_law, w.before asM.toArray s = true) (hrm : rm.cells = 0 ∧ rm.slots = 0) (hR : rm.frames + 1 ≤ R.frames ∧ 8 + (1 + 11) + rm.locals ≤ R.locals) : CallB R s asM.toArray RL 73 yX5_init cX5_init 1 none (WS yX5_init cX5_init 1 none) rm 0 0 0 := x_cb hrm 0 hts m_1_9 m_1_2 m_1_7 (by decide +kernel) hR
theorem l_RX5_11 (hts : ∀ w ∈ wsL_law, w.before asM.toArray s = true) (hrm : rm.cells = 0 ∧ rm.slots = 0) (hR : rm.frames + 1 ≤ R.frames ∧ 8 + (1 + 11) + rm.locals ≤ R.locals) : CallB R s asM.toArray RX5 11 yX4_init cX4_init 1 none (WS yX4_init cX4_init 1 none) rm 0 0 0 := x_cb hrm 0 hts m_2_12 m_1_15 m_2_10 (by decide +kernel) hR
theorem l_RX4_21 (hts : ∀ w ∈ wsL_law, w.before asM.toArray s = true) (hrm : rm.cells = 0 ∧ rm.slots = 0) (hR : rm.frames + 1 ≤ R.frames ∧ 8 + (4 + 11) + rm.locals ≤ R.locals) : CallB R s asM.toArray RX4 21 yX4_findLeast cX4_findLeast 4 none (WS yX4_findLeast cX4_findLeast 4 none) rm 0 0 0 := x_cb hrm 0 hts m_2_21 m_1_15 m_2_18 (by decide +kernel) hR
theorem l_RX4_36 (hts : ∀ w ∈ wsL_law, w.before asM.toArray s = true) (hrm : rm.cells = 0 ∧ rm.slots = 0) (hR : rm.frames + 1 ≤ R.frames ∧ 8 + (5 + 11) + rm.locals ≤ R.locals) : CallB R s asM.toArray RX4 36 yX4_shortenThrough cX4_shortenThrough 5 none (WS yX4_shortenThrough cX4_shortenThrough 5 none) rm 0 0 1 := x_cb hrm 1 hts m_3_2 m_1_15 m_2_23 (by decide +kernel) hR
theorem l_RX4_24 (hts : ∀ w ∈ wsL_law, w.before asM.toArray s = true) (hrm : rm.cells = 0 ∧ rm.slots = 0) (hR : rm.frames + 1 ≤ R.frames ∧ 8 + (3 + 11) + rm.locals ≤ R.locals) : CallB R s asM.toArray RX4 24 yX4_findHops cX4_findHops 3 none (WS yX4_findHops cX4_findHops 3 none) rm 0 0 0 := x_cb hrm 0 hts m_3_6 m_1_15 m_3_3 (by decide +kernel) hR
theorem l_RX4_40 (hts : ∀ w ∈ wsL_law, w.before asM.toArray s = true) (hrm : rm.cells = 0 ∧ rm.slots = 0) (hR : rm.frames + 1 ≤ R.frames ∧ 8 + (6 + 11) + rm.locals ≤ R.locals) : CallB R s asM.toArray RX4 40 yX4_firstHop cX4_firstHop 6 (some .int) (WS yX4_firstHop cX4_firstHop 6 (some .int)) rm 0 0 2 := x_cb hrm 2 hts m_3_10 m_1_15 m_3_7 (by decide +kernel) hR
theorem l_RX4_43 (hts : ∀ w ∈ wsL_law, w.before asM.toArray s = true) (hrm : rm.cells = 0 ∧ rm.slots = 0) (hR : rm.frames + 1 ≤ R.frames ∧ 8 + (4 + 11) + rm.locals ≤ R.locals) : CallB R s asM.toArray RX4 43 yX4_distanceOf cX4_distanceOf 4 (some .int) (WS yX4_distanceOf cX4_distanceOf 4 (some .int)) rm 0 0 2 := x_cb hrm 2 hts m_3_14 m_1_15 m_3_11 (by decide +kernel) hR
theorem l_RX4_27 (hts : ∀ w ∈ wsL_law, w.before asM.toArray s = true) (hrm : rm.cells = 0 ∧ rm.slots = 0) (hR : rm.frames + 1 ≤ R.frames ∧ 8 + (2 + 11) + rm.locals ≤ R.locals) : CallB R s asM.toArray RX4 27 yX4_arePair cX4_arePair 2 (some .boolean) (WS yX4_arePair cX4_arePair 2 (some .boolean)) rm 0 0 2 := x_cb hrm 2 hts m_3_17 m_1_15 m_3_15 (by decide +kernel) hR
theorem l_RX4_32 (hts : ∀ w ∈ wsL_law, w.before asM.toArray s = true) (hrm : rm.cells = 0 ∧ rm.slots = 0) (hR : rm.frames + 1 ≤ R.frames ∧ 8 + (3 + 11) + rm.locals ≤ R.locals) : CallB R s asM.toArray RX4 32 yX4_costOf cX4_costOf 3 (some .int) (WS yX4_costOf cX4_costOf 3 (some .int)) rm 0 0 2 := x_cb hrm 2 hts m_3_21 m_1_15 m_3_18 (by decide +kernel) hR
theorem l_RX5_18 (hts : ∀ w ∈ wsL_law, w.before asM.toArray s = true) (hrm : rm.cells = 0 ∧ rm.slots = 0) (hR : rm.frames + 1 ≤ R.frames ∧ 8 + (3 + 11) + rm.locals ≤ R.locals) : CallB R s asM.toArray RX5 18 yX2_init cX2_init 3 none (WS yX2_init cX2_init 3 none) rm 0 0 0 := x_cb hrm 0 hts m_4_0 m_1_19 m_3_22 (by decide +kernel) hR
theorem l_RX2_24 (hts : ∀ w ∈ wsL_law, w.before asM.toArray s = true) (hrm : rm.cells = 0 ∧ rm.slots = 0) (hR : rm.frames + 1 ≤ R.frames ∧ 8 + (4 + 11) + rm.locals ≤ R.locals) : CallB R s asM.toArray RX2 24 yJ7_fill_53178 cJ7_fill_53178 4 none (WS yJ7_fill_53178 cJ7_fill_53178 4 none) rm 0 0 2 := x_cb hrm 2 hts m_4_9 m_4_8 m_4_6 (by decide +kernel) hR
theorem l_RX5_252 (hts : ∀ w ∈ wsL_law, w.before asM.toArray s = true) (hrm : rm.cells = 0 ∧ rm.slots = 0) (hR : rm.frames + 1 ≤ R.frames ∧ 8 + (1 + 11) + rm.locals ≤ R.locals) : CallB R s asM.toArray RX5 252 yX5_isRouter cX5_isRouter 1 (some .boolean) (WS yX5_isRouter cX5_isRouter 1 (some .boolean)) rm 0 0 1 := x_cb hrm 1 hts m_4_14 m_1_2 m_4_12 (by decide +kernel) hR
theorem l_RX5_257 (hts : ∀ w ∈ wsL_law, w.before asM.toArray s = true) (hrm : rm.cells = 0 ∧ rm.slots = 0) (hR : rm.frames + 1 ≤ R.frames ∧ 8 + (1 + 11) + rm.locals ≤ R.locals) : CallB R s asM.toArray RX5 257 yX5_isGroup cX5_isGroup 1 (some .boolean) (WS yX5_isGroup cX5_isGroup 1 (some .boolean)) rm 0 0 1 := x_cb hrm 1 hts m_4_17 m_1_2 m_4_15 (by decide +kernel) hR
theorem l_RX2_34 (hts : ∀ w ∈ wsL_law, w.before asM.toArray s = true) (hrm : rm.cells = 0 ∧ rm.slots = 0) (hR : rm.frames + 1 ≤ R.frames ∧ 8 + (3 + 11) + rm.locals ≤ R.locals) : CallB R s asM.toArray RX2 34 yX2_setRoot cX2_setRoot 3 none (WS yX2_setRoot cX2_setRoot 3 none) rm 0 0 2 := x_cb hrm 2 hts m_4_21 m_1_19 m_4_18 (by decide +kernel) hR
theorem l_RL_76 (hts : ∀ w ∈ wsL_law, w.before asM.toArray s = true) (hrm : rm.cells = 0 ∧ rm.slots = 0) (hR : rm.frames + 1 ≤ R.frames ∧ 8 + (2 + 11) + rm.locals ≤ R.locals) : CallB R s asM.toArray RL 76 yX6_init cX6_init 2 none (WS yX6_init cX6_init 2 none) rm 0 0 0 := x_cb hrm 0 hts m_5_20 m_1_5 m_5_18 (by decide +kernel) hR
theorem l_RX6_54 (hts : ∀ w ∈ wsL_law, w.before asM.toArray s = true) (hrm : rm.cells = 0 ∧ rm.slots = 0) (hR : rm.frames + 1 ≤ R.frames ∧ 8 + (4 + 11) + rm.locals ≤ R.locals) : CallB R s asM.toArray RX6 54 yX6_measures cX6_measures 4 none (WS yX6_measures cX6_measures 4 none) rm 0 0 0 := x_cb hrm 0 hts m_6_16 m_1_5 m_6_13 (by decide +kernel) hR
theorem l_RL_7 (hts : ∀ w ∈ wsL_law, w.before asM.toArray s = true) (hrm : rm.cells = 0 ∧ rm.slots = 0) (hR : rm.frames + 1 ≤ R.frames ∧ 8 + (5 + 11) + rm.locals ≤ R.locals) : CallB R s asM.toArray RL 7 yX5_setLink cX5_setLink 5 (some .int) (WS yX5_setLink cX5_setLink 5 (some .int)) rm 0 0 3 := x_cb hrm 3 hts m_7_3 m_1_2 m_7_0 (by decide +kernel) hR
theorem l_RX5_48 (hts : ∀ w ∈ wsL_law, w.before asM.toArray s = true) (hrm : rm.cells = 0 ∧ rm.slots = 0) (hR : rm.frames + 1 ≤ R.frames ∧ 8 + (1 + 11) + rm.locals ≤ R.locals) : CallB R s asM.toArray RX5 48 yX5_checkRouter cX5_checkRouter 1 none (WS yX5_checkRouter cX5_checkRouter 1 none) rm 0 0 1 := x_cb hrm 1 hts m_7_8 m_1_2 m_7_6 (by decide +kernel) hR
theorem l_RX5_59 (hts : ∀ w ∈ wsL_law, w.before asM.toArray s = true) (hrm : rm.cells = 0 ∧ rm.slots = 0) (hR : rm.frames + 1 ≤ R.frames ∧ 8 + (3 + 11) + rm.locals ≤ R.locals) : CallB R s asM.toArray RX5 59 yX4_costOf cX4_costOf 3 (some .int) (WS yX4_costOf cX4_costOf 3 (some .int)) rm 0 0 2 := x_cb hrm 2 hts m_3_21 m_1_15 m_7_11 (by decide +kernel) hR
theorem l_RX5_63 (hts : ∀ w ∈ wsL_law, w.before asM.toArray s = true) (hrm : rm.cells = 0 ∧ rm.slots = 0) (hR : rm.frames + 1 ≤ R.frames ∧ 8 + (4 + 11) + rm.locals ≤ R.locals) : CallB R s asM.toArray RX5 63 yX4_change cX4_change 4 none (WS yX4_change cX4_change 4 none) rm 0 0 3 := x_cb hrm 3 hts m_7_15 m_1_15 m_7_12 (by decide +kernel) hR
theorem l_RX5_67 (hts : ∀ w ∈ wsL_law, w.before asM.toArray s = true) (hrm : rm.cells = 0 ∧ rm.slots = 0) (hR : rm.frames + 1 ≤ R.frames ∧ 8 + (4 + 11) + rm.locals ≤ R.locals) : CallB R s asM.toArray RX5 67 yX2_buildAnew cX2_buildAnew 4 none (WS yX2_buildAnew cX2_buildAnew 4 none) rm 0 0 1 := x_cb hrm 1 hts m_7_19 m_1_19 m_7_16 (by decide +kernel) hR
theorem l_RX5_78 (hts : ∀ w ∈ wsL_law, w.before asM.toArray s = true) (hrm : rm.cells = 0 ∧ rm.slots = 0) (hR : rm.frames + 1 ≤ R.frames ∧ 8 + (1 + 11) + rm.locals ≤ R.locals) : CallB R s asM.toArray RX5 78 yX5_bit cX5_bit 1 (some .int) (WS yX5_bit cX5_bit 1 (some .int)) rm 0 0 1 := x_cb hrm 1 hts m_8_0 m_1_2 m_7_22 (by decide +kernel) hR
theorem l_RX2_49 (hts : ∀ w ∈ wsL_law, w.before asM.toArray s = true) (hrm : rm.cells = 0 ∧ rm.slots = 0) (hR : rm.frames + 1 ≤ R.frames ∧ 8 + (8 + 11) + rm.locals ≤ R.locals) : CallB R s asM.toArray RX2 49 yX2_graft cX2_graft 8 none (WS yX2_graft cX2_graft 8 none) rm 0 0 3 := x_cb hrm 3 hts m_8_4 m_1_19 m_8_1 (by decide +kernel) hR
theorem l_RX2_71 (hts : ∀ w ∈ wsL_law, w.before asM.toArray s = true) (hrm : rm.cells = 0 ∧ rm.slots = 0) (hR : rm.frames + 1 ≤ R.frames ∧ 8 + (2 + 11) + rm.locals ≤ R.locals) : CallB R s asM.toArray RX2 71 yX2_rootOf cX2_rootOf 2 (some .int) (WS yX2_rootOf cX2_rootOf 2 (some .int)) rm 0 0 1 := x_cb hrm 1 hts m_8_8 m_1_19 m_8_5 (by decide +kernel) hR
theorem l_RX2_68 (hts : ∀ w ∈ wsL_law, w.before asM.toArray s = true) (hrm : rm.cells = 0 ∧ rm.slots = 0) (hR : rm.frames + 1 ≤ R.frames ∧ 8 + (3 + 11) + rm.locals ≤ R.locals) : CallB R s asM.toArray RX2 68 yX2_parentOf cX2_parentOf 3 (some .int) (WS yX2_parentOf cX2_parentOf 3 (some .int)) rm 0 0 2 := x_cb hrm 2 hts m_8_12 m_1_19 m_8_9 (by decide +kernel) hR
theorem l_RX2_74 (hts : ∀ w ∈ wsL_law, w.before asM.toArray s = true) (hrm : rm.cells = 0 ∧ rm.slots = 0) (hR : rm.frames + 1 ≤ R.frames ∧ 8 + (3 + 11) + rm.locals ≤ R.locals) : CallB R s asM.toArray RX2 74 yX4_hopOf cX4_hopOf 3 (some .int) (WS yX4_hopOf cX4_hopOf 3 (some .int)) rm 0 0 2 := x_cb hrm 2 hts m_8_16 m_1_15 m_8_13 (by decide +kernel) hR
theorem l_RL_82 (hts : ∀ w ∈ wsL_law, w.before asM.toArray s = true) (hrm : rm.cells = 0 ∧ rm.slots = 0) (hR : rm.frames + 1 ≤ R.frames ∧ 8 + (5 + 11) + rm.locals ≤ R.locals) : CallB R s asM.toArray RL 82 yX6_setLink cX6_setLink 5 (some .int) (WS yX6_setLink cX6_setLink 5 (some .int)) rm 0 0 3 := x_cb hrm 3 hts m_8_20 m_1_5 m_8_17 (by decide +kernel) hR
theorem l_RX6_86 (hts : ∀ w ∈ wsL_law, w.before asM.toArray s = true) (hrm : rm.cells = 0 ∧ rm.slots = 0) (hR : rm.frames + 1 ≤ R.frames ∧ 8 + (1 + 11) + rm.locals ≤ R.locals) : CallB R s asM.toArray RX6 86 yX6_isRouter cX6_isRouter 1 (some .boolean) (WS yX6_isRouter cX6_isRouter 1 (some .boolean)) rm 0 0 1 := x_cb hrm 1 hts m_8_23 m_1_5 m_8_21 (by decide +kernel) hR
theorem l_RX6_90 (hts : ∀ w ∈ wsL_law, w.before asM.toArray s = true) (hrm : rm.cells = 0 ∧ rm.slots = 0) (hR : rm.frames + 1 ≤ R.frames ∧ 8 + (2 + 11) + rm.locals ≤ R.locals) : CallB R s asM.toArray RX6 90 yX6_can cX6_can 2 (some .boolean) (WS yX6_can cX6_can 2 (some .boolean)) rm 0 0 1 := x_cb hrm 1 hts m_9_3 m_1_5 m_9_0 (by decide +kernel) hR
theorem l_RX6_93 (hts : ∀ w ∈ wsL_law, w.before asM.toArray s = true) (hrm : rm.cells = 0 ∧ rm.slots = 0) (hR : rm.frames + 1 ≤ R.frames ∧ 8 + (3 + 11) + rm.locals ≤ R.locals) : CallB R s asM.toArray RX6 93 yX6_buildsAnew cX6_buildsAnew 3 none (WS yX6_buildsAnew cX6_buildsAnew 3 none) rm 0 0 0 := x_cb hrm 0 hts m_9_8 m_1_5 m_9_5 (by decide +kernel) hR
theorem l_RX6_72 (hts : ∀ w ∈ wsL_law, w.before asM.toArray s = true) (hrm : rm.cells = 0 ∧ rm.slots = 0) (hR : rm.frames + 1 ≤ R.frames ∧ 8 + (4 + 11) + rm.locals ≤ R.locals) : CallB R s asM.toArray RX6 72 yX6_wants cX6_wants 4 (some .boolean) (WS yX6_wants cX6_wants 4 (some .boolean)) rm 0 0 2 := x_cb hrm 2 hts m_9_12 m_1_5 m_9_9 (by decide +kernel) hR
theorem l_RX6_82 (hts : ∀ w ∈ wsL_law, w.before asM.toArray s = true) (hrm : rm.cells = 0 ∧ rm.slots = 0) (hR : rm.frames + 1 ≤ R.frames ∧ 8 + (7 + 11) + rm.locals ≤ R.locals) : CallB R s asM.toArray RX6 82 yX6_graft cX6_graft 7 none (WS yX6_graft cX6_graft 7 none) rm 0 0 2 := x_cb hrm 2 hts m_9_16 m_1_5 m_9_13 (by decide +kernel) hR
theorem l_RX6_65 (hts : ∀ w ∈ wsL_law, w.before asM.toArray s = true) (hrm : rm.cells = 0 ∧ rm.slots = 0) (hR : rm.frames + 1 ≤ R.frames ∧ 8 + (2 + 11) + rm.locals ≤ R.locals) : CallB R s asM.toArray RX6 65 yX6_root cX6_root 2 (some .int) (WS yX6_root cX6_root 2 (some .int)) rm 0 0 1 := x_cb hrm 1 hts m_9_20 m_1_5 m_9_17 (by decide +kernel) hR
theorem l_RX6_61 (hts : ∀ w ∈ wsL_law, w.before asM.toArray s = true) (hrm : rm.cells = 0 ∧ rm.slots = 0) (hR : rm.frames + 1 ≤ R.frames ∧ 8 + (7 + 11) + rm.locals ≤ R.locals) : CallB R s asM.toArray RX6 61 yX6_meets cX6_meets 7 (some .int) (WS yX6_meets cX6_meets 7 (some .int)) rm 0 0 1 := x_cb hrm 1 hts m_10_0 m_1_5 m_9_21 (by decide +kernel) hR
theorem l_RX6_68 (hts : ∀ w ∈ wsL_law, w.before asM.toArray s = true) (hrm : rm.cells = 0 ∧ rm.slots = 0) (hR : rm.frames + 1 ≤ R.frames ∧ 8 + (7 + 11) + rm.locals ≤ R.locals) : CallB R s asM.toArray RX6 68 yX6_hop cX6_hop 7 (some .int) (WS yX6_hop cX6_hop 7 (some .int)) rm 0 0 2 := x_cb hrm 2 hts m_10_4 m_1_5 m_10_1 (by decide +kernel) hR
theorem l_RL_83 (hts : ∀ w ∈ wsL_law, w.before asM.toArray s = true) (hrm : rm.cells = 0 ∧ rm.slots = 0) (hR : rm.frames + 1 ≤ R.frames ∧ 8 + (1 + 11) + rm.locals ≤ R.locals) : CallB R s asM.toArray RL 83 yX6_thrown cX6_thrown 1 (some .int) (WS yX6_thrown cX6_thrown 1 (some .int)) rm 0 0 0 := x_cb hrm 0 hts m_10_8 m_1_5 m_10_5 (by decide +kernel) hR
theorem l_RL_17 (hts : ∀ w ∈ wsL_law, w.before asM.toArray s = true) (hrm : rm.cells = 0 ∧ rm.slots = 0) (hR : rm.frames + 1 ≤ R.frames ∧ 8 + (4 + 11) + rm.locals ≤ R.locals) : CallB R s asM.toArray RL 17 yX5_setCandidate cX5_setCandidate 4 (some .boolean) (WS yX5_setCandidate cX5_setCandidate 4 (some .boolean)) rm 0 0 2 := x_cb hrm 2 hts m_10_15 m_1_2 m_10_12 (by decide +kernel) hR
theorem l_RX5_74 (hts : ∀ w ∈ wsL_law, w.before asM.toArray s = true) (hrm : rm.cells = 0 ∧ rm.slots = 0) (hR : rm.frames + 1 ≤ R.frames ∧ 8 + (2 + 11) + rm.locals ≤ R.locals) : CallB R s asM.toArray RX5 74 yX5_has cX5_has 2 (some .boolean) (WS yX5_has cX5_has 2 (some .boolean)) rm 0 0 2 := x_cb hrm 2 hts m_7_21 m_1_2 m_10_17 (by decide +kernel) hR
theorem l_RX5_82 (hts : ∀ w ∈ wsL_law, w.before asM.toArray s = true) (hrm : rm.cells = 0 ∧ rm.slots = 0) (hR : rm.frames + 1 ≤ R.frames ∧ 8 + (1 + 11) + rm.locals ≤ R.locals) : CallB R s asM.toArray RX5 82 yX5_sharedTree cX5_sharedTree 1 (some .int) (WS yX5_sharedTree cX5_sharedTree 1 (some .int)) rm 0 0 1 := x_cb hrm 1 hts m_10_20 m_1_2 m_10_18 (by decide +kernel) hR
theorem l_RX5_85 (hts : ∀ w ∈ wsL_law, w.before asM.toArray s = true) (hrm : rm.cells = 0 ∧ rm.slots = 0) (hR : rm.frames + 1 ≤ R.frames ∧ 8 + (6 + 11) + rm.locals ≤ R.locals) : CallB R s asM.toArray RX5 85 yX5_bestCandidate cX5_bestCandidate 6 (some .int) (WS yX5_bestCandidate cX5_bestCandidate 6 (some .int)) rm 0 0 1 := x_cb hrm 1 hts m_11_0 m_1_2 m_10_21 (by decide +kernel) hR
theorem l_RX5_88 (hts : ∀ w ∈ wsL_law, w.before asM.toArray s = true) (hrm : rm.cells = 0 ∧ rm.slots = 0) (hR : rm.frames + 1 ≤ R.frames ∧ 8 + (3 + 11) + rm.locals ≤ R.locals) : CallB R s asM.toArray RX5 88 yX2_setRoot cX2_setRoot 3 none (WS yX2_setRoot cX2_setRoot 3 none) rm 0 0 2 := x_cb hrm 2 hts m_4_21 m_1_19 m_11_1 (by decide +kernel) hR
theorem l_RL_90 (hts : ∀ w ∈ wsL_law, w.before asM.toArray s = true) (hrm : rm.cells = 0 ∧ rm.slots = 0) (hR : rm.frames + 1 ≤ R.frames ∧ 8 + (3 + 11) + rm.locals ≤ R.locals) : CallB R s asM.toArray RL 90 yX6_setCandidate cX6_setCandidate 3 (some .boolean) (WS yX6_setCandidate cX6_setCandidate 3 (some .boolean)) rm 0 0 2 := x_cb hrm 2 hts m_11_5 m_1_5 m_11_2 (by decide +kernel) hR
theorem l_RL_21 (hts : ∀ w ∈ wsL_law, w.before asM.toArray s = true) (hrm : rm.cells = 0 ∧ rm.slots = 0) (hR : rm.frames + 1 ≤ R.frames ∧ 8 + (3 + 11) + rm.locals ≤ R.locals) : CallB R s asM.toArray RL 21 yX5_setLimit cX5_setLimit 3 (some .int) (WS yX5_setLimit cX5_setLimit 3 (some .int)) rm 0 0 1 := x_cb hrm 1 hts m_11_12 m_1_2 m_11_9 (by decide +kernel) hR
theorem l_RL_94 (hts : ∀ w ∈ wsL_law, w.before asM.toArray s = true) (hrm : rm.cells = 0 ∧ rm.slots = 0) (hR : rm.frames + 1 ≤ R.frames ∧ 8 + (3 + 11) + rm.locals ≤ R.locals) : CallB R s asM.toArray RL 94 yX6_setLimit cX6_setLimit 3 (some .int) (WS yX6_setLimit cX6_setLimit 3 (some .int)) rm 0 0 1 := x_cb hrm 1 hts m_11_16 m_1_5 m_11_13 (by decide +kernel) hR
theorem l_RL_25 (hts : ∀ w ∈ wsL_law, w.before asM.toArray s = true) (hrm : rm.cells = 0 ∧ rm.slots = 0) (hR : rm.frames + 1 ≤ R.frames ∧ 8 + (3 + 11) + rm.locals ≤ R.locals) : CallB R s asM.toArray RL 25 yX5_distance cX5_distance 3 (some .int) (WS yX5_distance cX5_distance 3 (some .int)) rm 0 0 2 := x_cb hrm 2 hts m_11_23 m_1_2 m_11_20 (by decide +kernel) hR
theorem l_RX5_94 (hts : ∀ w ∈ wsL_law, w.before asM.toArray s = true) (hrm : rm.cells = 0 ∧ rm.slots = 0) (hR : rm.frames + 1 ≤ R.frames ∧ 8 + (4 + 11) + rm.locals ≤ R.locals) : CallB R s asM.toArray RX5 94 yX4_distanceOf cX4_distanceOf 4 (some .int) (WS yX4_distanceOf cX4_distanceOf 4 (some .int)) rm 0 0 2 := x_cb hrm 2 hts m_3_14 m_1_15 m_12_0 (by decide +kernel) hR
theorem l_RL_98 (hts : ∀ w ∈ wsL_law, w.before asM.toArray s = true) (hrm : rm.cells = 0 ∧ rm.slots = 0) (hR : rm.frames + 1 ≤ R.frames ∧ 8 + (4 + 11) + rm.locals ≤ R.locals) : CallB R s asM.toArray RL 98 yX6_distance cX6_distance 4 (some .int) (WS yX6_distance cX6_distance 4 (some .int)) rm 0 0 2 := x_cb hrm 2 hts m_12_4 m_1_5 m_12_1 (by decide +kernel) hR
theorem l_RL_29 (hts : ∀ w ∈ wsL_law, w.before asM.toArray s = true) (hrm : rm.cells = 0 ∧ rm.slots = 0) (hR : rm.frames + 1 ≤ R.frames ∧ 8 + (3 + 11) + rm.locals ≤ R.locals) : CallB R s asM.toArray RL 29 yX5_nextHop cX5_nextHop 3 (some .int) (WS yX5_nextHop cX5_nextHop 3 (some .int)) rm 0 0 2 := x_cb hrm 2 hts m_12_11 m_1_2 m_12_8 (by decide +kernel) hR
theorem l_RX5_97 (hts : ∀ w ∈ wsL_law, w.before asM.toArray s = true) (hrm : rm.cells = 0 ∧ rm.slots = 0) (hR : rm.frames + 1 ≤ R.frames ∧ 8 + (3 + 11) + rm.locals ≤ R.locals) : CallB R s asM.toArray RX5 97 yX4_hopOf cX4_hopOf 3 (some .int) (WS yX4_hopOf cX4_hopOf 3 (some .int)) rm 0 0 2 := x_cb hrm 2 hts m_8_16 m_1_15 m_12_12 (by decide +kernel) hR
theorem l_RL_101 (hts : ∀ w ∈ wsL_law, w.before asM.toArray s = true) (hrm : rm.cells = 0 ∧ rm.slots = 0) (hR : rm.frames + 1 ≤ R.frames ∧ 8 + (3 + 11) + rm.locals ≤ R.locals) : CallB R s asM.toArray RL 101 yX6_nextHop cX6_nextHop 3 (some .int) (WS yX6_nextHop cX6_nextHop 3 (some .int)) rm 0 0 2 := x_cb hrm 2 hts m_12_16 m_1_5 m_12_13 (by decide +kernel) hR
theorem l_RL_32 (hts : ∀ w ∈ wsL_law, w.before asM.toArray s = true) (hrm : rm.cells = 0 ∧ rm.slots = 0) (hR : rm.frames + 1 ≤ R.frames ∧ 8 + (2 + 11) + rm.locals ≤ R.locals) : CallB R s asM.toArray RL 32 yX5_rendezvous cX5_rendezvous 2 (some .int) (WS yX5_rendezvous cX5_rendezvous 2 (some .int)) rm 0 0 1 := x_cb hrm 1 hts m_12_23 m_1_2 m_12_20 (by decide +kernel) hR
theorem l_RX5_100 (hts : ∀ w ∈ wsL_law, w.before asM.toArray s = true) (hrm : rm.cells = 0 ∧ rm.slots = 0) (hR : rm.frames + 1 ≤ R.frames ∧ 8 + (1 + 11) + rm.locals ≤ R.locals) : CallB R s asM.toArray RX5 100 yX5_checkGroup cX5_checkGroup 1 none (WS yX5_checkGroup cX5_checkGroup 1 none) rm 0 0 1 := x_cb hrm 1 hts m_13_2 m_1_2 m_13_0 (by decide +kernel) hR
theorem l_RX5_103 (hts : ∀ w ∈ wsL_law, w.before asM.toArray s = true) (hrm : rm.cells = 0 ∧ rm.slots = 0) (hR : rm.frames + 1 ≤ R.frames ∧ 8 + (2 + 11) + rm.locals ≤ R.locals) : CallB R s asM.toArray RX5 103 yX2_rootOf cX2_rootOf 2 (some .int) (WS yX2_rootOf cX2_rootOf 2 (some .int)) rm 0 0 1 := x_cb hrm 1 hts m_8_8 m_1_19 m_13_3 (by decide +kernel) hR
theorem l_RL_104 (hts : ∀ w ∈ wsL_law, w.before asM.toArray s = true) (hrm : rm.cells = 0 ∧ rm.slots = 0) (hR : rm.frames + 1 ≤ R.frames ∧ 8 + (2 + 11) + rm.locals ≤ R.locals) : CallB R s asM.toArray RL 104 yX6_rendezvous cX6_rendezvous 2 (some .int) (WS yX6_rendezvous cX6_rendezvous 2 (some .int)) rm 0 0 1 := x_cb hrm 1 hts m_13_7 m_1_5 m_13_4 (by decide +kernel) hR
theorem l_RX6_96 (hts : ∀ w ∈ wsL_law, w.before asM.toArray s = true) (hrm : rm.cells = 0 ∧ rm.slots = 0) (hR : rm.frames + 1 ≤ R.frames ∧ 8 + (1 + 11) + rm.locals ≤ R.locals) : CallB R s asM.toArray RX6 96 yX6_isGroup cX6_isGroup 1 (some .boolean) (WS yX6_isGroup cX6_isGroup 1 (some .boolean)) rm 0 0 1 := x_cb hrm 1 hts m_13_10 m_1_5 m_13_8 (by decide +kernel) hR
theorem l_RL_35 (hts : ∀ w ∈ wsL_law, w.before asM.toArray s = true) (hrm : rm.cells = 0 ∧ rm.slots = 0) (hR : rm.frames + 1 ≤ R.frames ∧ 8 + (3 + 11) + rm.locals ≤ R.locals) : CallB R s asM.toArray RL 35 yX5_join cX5_join 3 (some .int) (WS yX5_join cX5_join 3 (some .int)) rm 0 0 2 := x_cb hrm 2 hts m_13_18 m_1_2 m_13_15 (by decide +kernel) hR
theorem l_RX5_106 (hts : ∀ w ∈ wsL_law, w.before asM.toArray s = true) (hrm : rm.cells = 0 ∧ rm.slots = 0) (hR : rm.frames + 1 ≤ R.frames ∧ 8 + (3 + 11) + rm.locals ≤ R.locals) : CallB R s asM.toArray RX5 106 yX5_isMember cX5_isMember 3 (some .boolean) (WS yX5_isMember cX5_isMember 3 (some .boolean)) rm 0 0 2 := x_cb hrm 2 hts m_14_0 m_1_2 m_13_21 (by decide +kernel) hR
theorem l_RX5_118 (hts : ∀ w ∈ wsL_law, w.before asM.toArray s = true) (hrm : rm.cells = 0 ∧ rm.slots = 0) (hR : rm.frames + 1 ≤ R.frames ∧ 8 + (2 + 11) + rm.locals ≤ R.locals) : CallB R s asM.toArray RX5 118 yX5_membersOf cX5_membersOf 2 (some .int) (WS yX5_membersOf cX5_membersOf 2 (some .int)) rm 0 0 1 := x_cb hrm 1 hts m_14_4 m_1_2 m_14_1 (by decide +kernel) hR
theorem l_RX5_140 (hts : ∀ w ∈ wsL_law, w.before asM.toArray s = true) (hrm : rm.cells = 0 ∧ rm.slots = 0) (hR : rm.frames + 1 ≤ R.frames ∧ 8 + (2 + 11) + rm.locals ≤ R.locals) : CallB R s asM.toArray RX5 140 yX2_wantingOf cX2_wantingOf 2 (some .int) (WS yX2_wantingOf cX2_wantingOf 2 (some .int)) rm 0 0 1 := x_cb hrm 1 hts m_14_8 m_1_19 m_14_5 (by decide +kernel) hR
theorem l_RX5_114 (hts : ∀ w ∈ wsL_law, w.before asM.toArray s = true) (hrm : rm.cells = 0 ∧ rm.slots = 0) (hR : rm.frames + 1 ≤ R.frames ∧ 8 + (4 + 11) + rm.locals ≤ R.locals) : CallB R s asM.toArray RX5 114 yX2_want cX2_want 4 none (WS yX2_want cX2_want 4 none) rm 0 0 3 := x_cb hrm 3 hts m_14_12 m_1_19 m_14_9 (by decide +kernel) hR
theorem l_RX5_121 (hts : ∀ w ∈ wsL_law, w.before asM.toArray s = true) (hrm : rm.cells = 0 ∧ rm.slots = 0) (hR : rm.frames + 1 ≤ R.frames ∧ 8 + (1 + 11) + rm.locals ≤ R.locals) : CallB R s asM.toArray RX5 121 yJ6_bitCount_0f7a4 cJ6_bitCount_0f7a4 1 (some .int) (WS yJ6_bitCount_0f7a4 cJ6_bitCount_0f7a4 1 (some .int)) rm 0 0 1 := x_cb hrm 1 hts m_14_16 m_14_15 m_14_13 (by decide +kernel) hR
theorem l_RL_107 (hts : ∀ w ∈ wsL_law, w.before asM.toArray s = true) (hrm : rm.cells = 0 ∧ rm.slots = 0) (hR : rm.frames + 1 ≤ R.frames ∧ 8 + (3 + 11) + rm.locals ≤ R.locals) : CallB R s asM.toArray RL 107 yX6_join cX6_join 3 (some .int) (WS yX6_join cX6_join 3 (some .int)) rm 0 0 2 := x_cb hrm 2 hts m_14_23 m_1_5 m_14_20 (by decide +kernel) hR
theorem l_RX6_99 (hts : ∀ w ∈ wsL_law, w.before asM.toArray s = true) (hrm : rm.cells = 0 ∧ rm.slots = 0) (hR : rm.frames + 1 ≤ R.frames ∧ 8 + (3 + 11) + rm.locals ≤ R.locals) : CallB R s asM.toArray RX6 99 yX6_isMember cX6_isMember 3 (some .boolean) (WS yX6_isMember cX6_isMember 3 (some .boolean)) rm 0 0 2 := x_cb hrm 2 hts m_15_3 m_1_5 m_15_0 (by decide +kernel) hR
theorem l_RX6_102 (hts : ∀ w ∈ wsL_law, w.before asM.toArray s = true) (hrm : rm.cells = 0 ∧ rm.slots = 0) (hR : rm.frames + 1 ≤ R.frames ∧ 8 + (3 + 11) + rm.locals ≤ R.locals) : CallB R s asM.toArray RX6 102 yX6_many cX6_many 3 (some .int) (WS yX6_many cX6_many 3 (some .int)) rm 0 0 1 := x_cb hrm 1 hts m_15_6 m_1_5 m_15_4 (by decide +kernel) hR
theorem l_RL_40 (hts : ∀ w ∈ wsL_law, w.before asM.toArray s = true) (hrm : rm.cells = 0 ∧ rm.slots = 0) (hR : rm.frames + 1 ≤ R.frames ∧ 8 + (4 + 11) + rm.locals ≤ R.locals) : CallB R s asM.toArray RL 40 yX5_leave cX5_leave 4 (some .int) (WS yX5_leave cX5_leave 4 (some .int)) rm 0 0 2 := x_cb hrm 2 hts m_15_13 m_1_2 m_15_10 (by decide +kernel) hR
theorem l_RX5_131 (hts : ∀ w ∈ wsL_law, w.before asM.toArray s = true) (hrm : rm.cells = 0 ∧ rm.slots = 0) (hR : rm.frames + 1 ≤ R.frames ∧ 8 + (4 + 11) + rm.locals ≤ R.locals) : CallB R s asM.toArray RX5 131 yX2_unwant cX2_unwant 4 none (WS yX2_unwant cX2_unwant 4 none) rm 0 0 3 := x_cb hrm 3 hts m_15_18 m_1_19 m_15_15 (by decide +kernel) hR
theorem l_RX2_53 (hts : ∀ w ∈ wsL_law, w.before asM.toArray s = true) (hrm : rm.cells = 0 ∧ rm.slots = 0) (hR : rm.frames + 1 ≤ R.frames ∧ 8 + (5 + 11) + rm.locals ≤ R.locals) : CallB R s asM.toArray RX2 53 yX2_letLeave cX2_letLeave 5 none (WS yX2_letLeave cX2_letLeave 5 none) rm 0 0 3 := x_cb hrm 3 hts m_15_22 m_1_19 m_15_19 (by decide +kernel) hR
theorem l_RX2_79 (hts : ∀ w ∈ wsL_law, w.before asM.toArray s = true) (hrm : rm.cells = 0 ∧ rm.slots = 0) (hR : rm.frames + 1 ≤ R.frames ∧ 8 + (3 + 11) + rm.locals ≤ R.locals) : CallB R s asM.toArray RX2 79 yX2_isNeeded cX2_isNeeded 3 (some .boolean) (WS yX2_isNeeded cX2_isNeeded 3 (some .boolean)) rm 0 0 2 := x_cb hrm 2 hts m_16_2 m_1_19 m_15_23 (by decide +kernel) hR
theorem l_RX2_82 (hts : ∀ w ∈ wsL_law, w.before asM.toArray s = true) (hrm : rm.cells = 0 ∧ rm.slots = 0) (hR : rm.frames + 1 ≤ R.frames ∧ 8 + (2 + 11) + rm.locals ≤ R.locals) : CallB R s asM.toArray RX2 82 yX2_wantingOf cX2_wantingOf 2 (some .int) (WS yX2_wantingOf cX2_wantingOf 2 (some .int)) rm 0 0 1 := x_cb hrm 1 hts m_14_8 m_1_19 m_16_3 (by decide +kernel) hR
theorem l_RX2_85 (hts : ∀ w ∈ wsL_law, w.before asM.toArray s = true) (hrm : rm.cells = 0 ∧ rm.slots = 0) (hR : rm.frames + 1 ≤ R.frames ∧ 8 + (5 + 11) + rm.locals ≤ R.locals) : CallB R s asM.toArray RX2 85 yX2_branchesFrom cX2_branchesFrom 5 (some .int) (WS yX2_branchesFrom cX2_branchesFrom 5 (some .int)) rm 0 0 2 := x_cb hrm 2 hts m_16_7 m_1_19 m_16_4 (by decide +kernel) hR
theorem l_RX5_134 (hts : ∀ w ∈ wsL_law, w.before asM.toArray s = true) (hrm : rm.cells = 0 ∧ rm.slots = 0) (hR : rm.frames + 1 ≤ R.frames ∧ 8 + (2 + 11) + rm.locals ≤ R.locals) : CallB R s asM.toArray RX5 134 yX5_sourceTree cX5_sourceTree 2 (some .int) (WS yX5_sourceTree cX5_sourceTree 2 (some .int)) rm 0 0 2 := x_cb hrm 2 hts m_4_11 m_1_2 m_16_8 (by decide +kernel) hR
theorem l_RX5_137 (hts : ∀ w ∈ wsL_law, w.before asM.toArray s = true) (hrm : rm.cells = 0 ∧ rm.slots = 0) (hR : rm.frames + 1 ≤ R.frames ∧ 8 + (4 + 11) + rm.locals ≤ R.locals) : CallB R s asM.toArray RX5 137 yX1_forget cX1_forget 4 none (WS yX1_forget cX1_forget 4 none) rm 0 0 3 := x_cb hrm 3 hts m_16_12 m_2_7 m_16_9 (by decide +kernel) hR
theorem l_RX1_15 (hts : ∀ w ∈ wsL_law, w.before asM.toArray s = true) (hrm : rm.cells = 0 ∧ rm.slots = 0) (hR : rm.frames + 1 ≤ R.frames ∧ 8 + (3 + 11) + rm.locals ≤ R.locals) : CallB R s asM.toArray RX1 15 yX1_isPlace cX1_isPlace 3 (some .boolean) (WS yX1_isPlace cX1_isPlace 3 (some .boolean)) rm 0 0 3 := x_cb hrm 3 hts m_16_15 m_2_7 m_16_13 (by decide +kernel) hR
theorem l_RX1_19 (hts : ∀ w ∈ wsL_law, w.before asM.toArray s = true) (hrm : rm.cells = 0 ∧ rm.slots = 0) (hR : rm.frames + 1 ≤ R.frames ∧ 8 + (3 + 11) + rm.locals ≤ R.locals) : CallB R s asM.toArray RX1 19 yX1_placeOf cX1_placeOf 3 (some .int) (WS yX1_placeOf cX1_placeOf 3 (some .int)) rm 0 0 3 := x_cb hrm 3 hts m_16_18 m_2_7 m_16_16 (by decide +kernel) hR
theorem l_RL_110 (hts : ∀ w ∈ wsL_law, w.before asM.toArray s = true) (hrm : rm.cells = 0 ∧ rm.slots = 0) (hR : rm.frames + 1 ≤ R.frames ∧ 8 + (4 + 11) + rm.locals ≤ R.locals) : CallB R s asM.toArray RL 110 yX6_leave cX6_leave 4 (some .int) (WS yX6_leave cX6_leave 4 (some .int)) rm 0 0 2 := x_cb hrm 2 hts m_16_22 m_1_5 m_16_19 (by decide +kernel) hR
theorem l_RX6_105 (hts : ∀ w ∈ wsL_law, w.before asM.toArray s = true) (hrm : rm.cells = 0 ∧ rm.slots = 0) (hR : rm.frames + 1 ≤ R.frames ∧ 8 + (4 + 11) + rm.locals ≤ R.locals) : CallB R s asM.toArray RX6 105 yX6_looks cX6_looks 4 none (WS yX6_looks cX6_looks 4 none) rm 0 0 2 := x_cb hrm 2 hts m_17_2 m_1_5 m_16_23 (by decide +kernel) hR
theorem l_RX6_76 (hts : ∀ w ∈ wsL_law, w.before asM.toArray s = true) (hrm : rm.cells = 0 ∧ rm.slots = 0) (hR : rm.frames + 1 ≤ R.frames ∧ 8 + (5 + 11) + rm.locals ≤ R.locals) : CallB R s asM.toArray RX6 76 yX6_below cX6_below 5 (some .int) (WS yX6_below cX6_below 5 (some .int)) rm 0 0 2 := x_cb hrm 2 hts m_17_7 m_1_5 m_17_4 (by decide +kernel) hR
theorem l_RL_43 (hts : ∀ w ∈ wsL_law, w.before asM.toArray s = true) (hrm : rm.cells = 0 ∧ rm.slots = 0) (hR : rm.frames + 1 ≤ R.frames ∧ 8 + (2 + 11) + rm.locals ≤ R.locals) : CallB R s asM.toArray RL 43 yX5_members cX5_members 2 (some .int) (WS yX5_members cX5_members 2 (some .int)) rm 0 0 1 := x_cb hrm 1 hts m_17_14 m_1_2 m_17_11 (by decide +kernel) hR
theorem l_RL_113 (hts : ∀ w ∈ wsL_law, w.before asM.toArray s = true) (hrm : rm.cells = 0 ∧ rm.slots = 0) (hR : rm.frames + 1 ≤ R.frames ∧ 8 + (2 + 11) + rm.locals ≤ R.locals) : CallB R s asM.toArray RL 113 yX6_members cX6_members 2 (some .int) (WS yX6_members cX6_members 2 (some .int)) rm 0 0 1 := x_cb hrm 1 hts m_17_18 m_1_5 m_17_15 (by decide +kernel) hR
theorem l_RL_46 (hts : ∀ w ∈ wsL_law, w.before asM.toArray s = true) (hrm : rm.cells = 0 ∧ rm.slots = 0) (hR : rm.frames + 1 ≤ R.frames ∧ 8 + (3 + 11) + rm.locals ≤ R.locals) : CallB R s asM.toArray RL 46 yX5_switched cX5_switched 3 (some .int) (WS yX5_switched cX5_switched 3 (some .int)) rm 0 0 2 := x_cb hrm 2 hts m_18_1 m_1_2 m_17_22 (by decide +kernel) hR
theorem l_RL_116 (hts : ∀ w ∈ wsL_law, w.before asM.toArray s = true) (hrm : rm.cells = 0 ∧ rm.slots = 0) (hR : rm.frames + 1 ≤ R.frames ∧ 8 + (3 + 11) + rm.locals ≤ R.locals) : CallB R s asM.toArray RL 116 yX6_switched cX6_switched 3 (some .int) (WS yX6_switched cX6_switched 3 (some .int)) rm 0 0 2 := x_cb hrm 2 hts m_18_5 m_1_5 m_18_2 (by decide +kernel) hR
theorem l_RL_49 (hts : ∀ w ∈ wsL_law, w.before asM.toArray s = true) (hrm : rm.cells = 0 ∧ rm.slots = 0) (hR : rm.frames + 1 ≤ R.frames ∧ 8 + (3 + 11) + rm.locals ≤ R.locals) : CallB R s asM.toArray RL 49 yX5_branches cX5_branches 3 (some .int) (WS yX5_branches cX5_branches 3 (some .int)) rm 0 0 2 := x_cb hrm 2 hts m_18_12 m_1_2 m_18_9 (by decide +kernel) hR
theorem l_RX5_143 (hts : ∀ w ∈ wsL_law, w.before asM.toArray s = true) (hrm : rm.cells = 0 ∧ rm.slots = 0) (hR : rm.frames + 1 ≤ R.frames ∧ 8 + (5 + 11) + rm.locals ≤ R.locals) : CallB R s asM.toArray RX5 143 yX2_branchesFrom cX2_branchesFrom 5 (some .int) (WS yX2_branchesFrom cX2_branchesFrom 5 (some .int)) rm 0 0 2 := x_cb hrm 2 hts m_16_7 m_1_19 m_18_13 (by decide +kernel) hR
theorem l_RL_119 (hts : ∀ w ∈ wsL_law, w.before asM.toArray s = true) (hrm : rm.cells = 0 ∧ rm.slots = 0) (hR : rm.frames + 1 ≤ R.frames ∧ 8 + (3 + 11) + rm.locals ≤ R.locals) : CallB R s asM.toArray RL 119 yX6_branches cX6_branches 3 (some .int) (WS yX6_branches cX6_branches 3 (some .int)) rm 0 0 2 := x_cb hrm 2 hts m_18_17 m_1_5 m_18_14 (by decide +kernel) hR
theorem l_RL_52 (hts : ∀ w ∈ wsL_law, w.before asM.toArray s = true) (hrm : rm.cells = 0 ∧ rm.slots = 0) (hR : rm.frames + 1 ≤ R.frames ∧ 8 + (4 + 11) + rm.locals ≤ R.locals) : CallB R s asM.toArray RL 52 yX5_sourceBranches cX5_sourceBranches 4 (some .int) (WS yX5_sourceBranches cX5_sourceBranches 4 (some .int)) rm 0 0 3 := x_cb hrm 3 hts m_19_0 m_1_2 m_18_21 (by decide +kernel) hR
theorem l_RL_122 (hts : ∀ w ∈ wsL_law, w.before asM.toArray s = true) (hrm : rm.cells = 0 ∧ rm.slots = 0) (hR : rm.frames + 1 ≤ R.frames ∧ 8 + (4 + 11) + rm.locals ≤ R.locals) : CallB R s asM.toArray RL 122 yX6_sourceBranches cX6_sourceBranches 4 (some .int) (WS yX6_sourceBranches cX6_sourceBranches 4 (some .int)) rm 0 0 3 := x_cb hrm 3 hts m_19_4 m_1_5 m_19_1 (by decide +kernel) hR
theorem l_RL_123 (hts : ∀ w ∈ wsL_law, w.before asM.toArray s = true) (hrm : rm.cells = 0 ∧ rm.slots = 0) (hR : rm.frames + 1 ≤ R.frames ∧ 8 + (1 + 11) + rm.locals ≤ R.locals) : CallB R s asM.toArray RL 123 yX5_leaving cX5_leaving 1 (some .int) (WS yX5_leaving cX5_leaving 1 (some .int)) rm 0 0 0 := x_cb hrm 0 hts m_19_8 m_1_2 m_19_5 (by decide +kernel) hR
theorem l_RX5_146 (hts : ∀ w ∈ wsL_law, w.before asM.toArray s = true) (hrm : rm.cells = 0 ∧ rm.slots = 0) (hR : rm.frames + 1 ≤ R.frames ∧ 8 + (3 + 11) + rm.locals ≤ R.locals) : CallB R s asM.toArray RX5 146 yX2_leavingBranches cX2_leavingBranches 3 (some .int) (WS yX2_leavingBranches cX2_leavingBranches 3 (some .int)) rm 0 0 0 := x_cb hrm 0 hts m_19_12 m_1_19 m_19_9 (by decide +kernel) hR
theorem l_RL_126 (hts : ∀ w ∈ wsL_law, w.before asM.toArray s = true) (hrm : rm.cells = 0 ∧ rm.slots = 0) (hR : rm.frames + 1 ≤ R.frames ∧ 8 + (3 + 11) + rm.locals ≤ R.locals) : CallB R s asM.toArray RL 126 yX6_leaving cX6_leaving 3 (some .int) (WS yX6_leaving cX6_leaving 3 (some .int)) rm 0 0 0 := x_cb hrm 0 hts m_19_16 m_1_5 m_19_13 (by decide +kernel) hR
theorem l_RL_55 (hts : ∀ w ∈ wsL_law, w.before asM.toArray s = true) (hrm : rm.cells = 0 ∧ rm.slots = 0) (hR : rm.frames + 1 ≤ R.frames ∧ 8 + (5 + 11) + rm.locals ≤ R.locals) : CallB R s asM.toArray RL 55 yX5_send cX5_send 5 (some .int) (WS yX5_send cX5_send 5 (some .int)) rm 0 0 2 := x_cb hrm 2 hts m_19_23 m_1_2 m_19_20 (by decide +kernel) hR
theorem l_RX5_150 (hts : ∀ w ∈ wsL_law, w.before asM.toArray s = true) (hrm : rm.cells = 0 ∧ rm.slots = 0) (hR : rm.frames + 1 ≤ R.frames ∧ 8 + (1 + 11) + rm.locals ≤ R.locals) : CallB R s asM.toArray RX5 150 yX3_isFull cX3_isFull 1 (some .boolean) (WS yX3_isFull cX3_isFull 1 (some .boolean)) rm 0 0 0 := x_cb hrm 0 hts m_20_3 m_1_23 m_20_0 (by decide +kernel) hR
theorem l_RX5_156 (hts : ∀ w ∈ wsL_law, w.before asM.toArray s = true) (hrm : rm.cells = 0 ∧ rm.slots = 0) (hR : rm.frames + 1 ≤ R.frames ∧ 8 + (4 + 11) + rm.locals ≤ R.locals) : CallB R s asM.toArray RX5 156 yX3_add cX3_add 4 (some .int) (WS yX3_add cX3_add 4 (some .int)) rm 0 0 2 := x_cb hrm 2 hts m_20_8 m_1_23 m_20_5 (by decide +kernel) hR
theorem l_RX3_28 (hts : ∀ w ∈ wsL_law, w.before asM.toArray s = true) (hrm : rm.cells = 0 ∧ rm.slots = 0) (hR : rm.frames + 1 ≤ R.frames ∧ 8 + (1 + 11) + rm.locals ≤ R.locals) : CallB R s asM.toArray RX3 28 yX3_isFull cX3_isFull 1 (some .boolean) (WS yX3_isFull cX3_isFull 1 (some .boolean)) rm 0 0 0 := x_cb hrm 0 hts m_20_3 m_1_23 m_20_9 (by decide +kernel) hR
theorem l_RX5_159 (hts : ∀ w ∈ wsL_law, w.before asM.toArray s = true) (hrm : rm.cells = 0 ∧ rm.slots = 0) (hR : rm.frames + 1 ≤ R.frames ∧ 8 + (3 + 11) + rm.locals ≤ R.locals) : CallB R s asM.toArray RX5 159 yX3_receive cX3_receive 3 none (WS yX3_receive cX3_receive 3 none) rm 0 0 2 := x_cb hrm 2 hts m_20_13 m_1_23 m_20_10 (by decide +kernel) hR
theorem l_RX3_32 (hts : ∀ w ∈ wsL_law, w.before asM.toArray s = true) (hrm : rm.cells = 0 ∧ rm.slots = 0) (hR : rm.frames + 1 ≤ R.frames ∧ 8 + (2 + 11) + rm.locals ≤ R.locals) : CallB R s asM.toArray RX3 32 yX3_isPacket cX3_isPacket 2 (some .boolean) (WS yX3_isPacket cX3_isPacket 2 (some .boolean)) rm 0 0 1 := x_cb hrm 1 hts m_20_17 m_1_23 m_20_14 (by decide +kernel) hR
theorem l_RX5_162 (hts : ∀ w ∈ wsL_law, w.before asM.toArray s = true) (hrm : rm.cells = 0 ∧ rm.slots = 0) (hR : rm.frames + 1 ≤ R.frames ∧ 8 + (9 + 11) + rm.locals ≤ R.locals) : CallB R s asM.toArray RX5 162 yX5_getPacket cX5_getPacket 9 (some .boolean) (WS yX5_getPacket cX5_getPacket 9 (some .boolean)) rm 0 0 3 := x_cb hrm 3 hts m_20_21 m_1_2 m_20_18 (by decide +kernel) hR
theorem l_RX5_220 (hts : ∀ w ∈ wsL_law, w.before asM.toArray s = true) (hrm : rm.cells = 0 ∧ rm.slots = 0) (hR : rm.frames + 1 ≤ R.frames ∧ 8 + (2 + 11) + rm.locals ≤ R.locals) : CallB R s asM.toArray RX5 220 yX3_groupOf cX3_groupOf 2 (some .int) (WS yX3_groupOf cX3_groupOf 2 (some .int)) rm 0 0 1 := x_cb hrm 1 hts m_21_1 m_1_23 m_20_22 (by decide +kernel) hR
theorem l_RX5_200 (hts : ∀ w ∈ wsL_law, w.before asM.toArray s = true) (hrm : rm.cells = 0 ∧ rm.slots = 0) (hR : rm.frames + 1 ≤ R.frames ∧ 8 + (2 + 11) + rm.locals ≤ R.locals) : CallB R s asM.toArray RX5 200 yX3_receiversOf cX3_receiversOf 2 (some .int) (WS yX3_receiversOf cX3_receiversOf 2 (some .int)) rm 0 0 1 := x_cb hrm 1 hts m_21_5 m_1_23 m_21_2 (by decide +kernel) hR
theorem l_RX5_223 (hts : ∀ w ∈ wsL_law, w.before asM.toArray s = true) (hrm : rm.cells = 0 ∧ rm.slots = 0) (hR : rm.frames + 1 ≤ R.frames ∧ 8 + (2 + 11) + rm.locals ≤ R.locals) : CallB R s asM.toArray RX5 223 yX3_addDouble cX3_addDouble 2 none (WS yX3_addDouble cX3_addDouble 2 none) rm 0 0 1 := x_cb hrm 1 hts m_21_9 m_1_23 m_21_6 (by decide +kernel) hR
theorem l_RX5_226 (hts : ∀ w ∈ wsL_law, w.before asM.toArray s = true) (hrm : rm.cells = 0 ∧ rm.slots = 0) (hR : rm.frames + 1 ≤ R.frames ∧ 8 + (2 + 11) + rm.locals ≤ R.locals) : CallB R s asM.toArray RX5 226 yX3_sourceOf cX3_sourceOf 2 (some .int) (WS yX3_sourceOf cX3_sourceOf 2 (some .int)) rm 0 0 1 := x_cb hrm 1 hts m_21_13 m_1_23 m_21_10 (by decide +kernel) hR
theorem l_RX5_229 (hts : ∀ w ∈ wsL_law, w.before asM.toArray s = true) (hrm : rm.cells = 0 ∧ rm.slots = 0) (hR : rm.frames + 1 ≤ R.frames ∧ 8 + (1 + 11) + rm.locals ≤ R.locals) : CallB R s asM.toArray RX5 229 yX5_isShared cX5_isShared 1 (some .boolean) (WS yX5_isShared cX5_isShared 1 (some .boolean)) rm 0 0 1 := x_cb hrm 1 hts m_21_16 m_1_2 m_21_14 (by decide +kernel) hR
theorem l_RX5_233 (hts : ∀ w ∈ wsL_law, w.before asM.toArray s = true) (hrm : rm.cells = 0 ∧ rm.slots = 0) (hR : rm.frames + 1 ≤ R.frames ∧ 8 + (6 + 11) + rm.locals ≤ R.locals) : CallB R s asM.toArray RX5 233 yX5_countSaysSwitch cX5_countSaysSwitch 6 (some .boolean) (WS yX5_countSaysSwitch cX5_countSaysSwitch 6 (some .boolean)) rm 0 0 3 := x_cb hrm 3 hts m_21_20 m_1_2 m_21_17 (by decide +kernel) hR
theorem l_RX5_236 (hts : ∀ w ∈ wsL_law, w.before asM.toArray s = true) (hrm : rm.cells = 0 ∧ rm.slots = 0) (hR : rm.frames + 1 ≤ R.frames ∧ 8 + (5 + 11) + rm.locals ≤ R.locals) : CallB R s asM.toArray RX5 236 yX1_raise cX1_raise 5 (some .int) (WS yX1_raise cX1_raise 5 (some .int)) rm 0 0 3 := x_cb hrm 3 hts m_22_0 m_2_7 m_21_21 (by decide +kernel) hR
theorem l_RX5_166 (hts : ∀ w ∈ wsL_law, w.before asM.toArray s = true) (hrm : rm.cells = 0 ∧ rm.slots = 0) (hR : rm.frames + 1 ≤ R.frames ∧ 8 + (6 + 11) + rm.locals ≤ R.locals) : CallB R s asM.toArray RX5 166 yX5_goOn cX5_goOn 6 none (WS yX5_goOn cX5_goOn 6 none) rm 0 0 3 := x_cb hrm 3 hts m_22_4 m_1_2 m_22_1 (by decide +kernel) hR
theorem l_RX5_240 (hts : ∀ w ∈ wsL_law, w.before asM.toArray s = true) (hrm : rm.cells = 0 ∧ rm.slots = 0) (hR : rm.frames + 1 ≤ R.frames ∧ 8 + (6 + 11) + rm.locals ≤ R.locals) : CallB R s asM.toArray RX5 240 yX0_put cX0_put 6 (some .boolean) (WS yX0_put cX0_put 6 (some .boolean)) rm 0 0 4 := x_cb hrm 4 hts m_22_9 m_2_3 m_22_6 (by decide +kernel) hR
theorem l_RL_129 (hts : ∀ w ∈ wsL_law, w.before asM.toArray s = true) (hrm : rm.cells = 0 ∧ rm.slots = 0) (hR : rm.frames + 1 ≤ R.frames ∧ 8 + (6 + 11) + rm.locals ≤ R.locals) : CallB R s asM.toArray RL 129 yX6_send cX6_send 6 (some .int) (WS yX6_send cX6_send 6 (some .int)) rm 0 0 2 := x_cb hrm 2 hts m_22_15 m_1_5 m_22_12 (by decide +kernel) hR
theorem l_RX6_124 (hts : ∀ w ∈ wsL_law, w.before asM.toArray s = true) (hrm : rm.cells = 0 ∧ rm.slots = 0) (hR : rm.frames + 1 ≤ R.frames ∧ 8 + (6 + 11) + rm.locals ≤ R.locals) : CallB R s asM.toArray RX6 124 yX6_gets cX6_gets 6 (some .boolean) (WS yX6_gets cX6_gets 6 (some .boolean)) rm 0 0 3 := x_cb hrm 3 hts m_22_20 m_1_5 m_22_17 (by decide +kernel) hR
theorem l_RX6_114 (hts : ∀ w ∈ wsL_law, w.before asM.toArray s = true) (hrm : rm.cells = 0 ∧ rm.slots = 0) (hR : rm.frames + 1 ≤ R.frames ∧ 8 + (5 + 11) + rm.locals ≤ R.locals) : CallB R s asM.toArray RX6 114 yX6_counts cX6_counts 5 none (WS yX6_counts cX6_counts 5 none) rm 0 0 3 := x_cb hrm 3 hts m_23_0 m_1_5 m_22_21 (by decide +kernel) hR
theorem l_RX6_118 (hts : ∀ w ∈ wsL_law, w.before asM.toArray s = true) (hrm : rm.cells = 0 ∧ rm.slots = 0) (hR : rm.frames + 1 ≤ R.frames ∧ 8 + (6 + 11) + rm.locals ≤ R.locals) : CallB R s asM.toArray RX6 118 yX6_goesOn cX6_goesOn 6 none (WS yX6_goesOn cX6_goesOn 6 none) rm 0 0 3 := x_cb hrm 3 hts m_23_4 m_1_5 m_23_1 (by decide +kernel) hR
theorem l_RL_130 (hts : ∀ w ∈ wsL_law, w.before asM.toArray s = true) (hrm : rm.cells = 0 ∧ rm.slots = 0) (hR : rm.frames + 1 ≤ R.frames ∧ 8 + (5 + 11) + rm.locals ≤ R.locals) : CallB R s asM.toArray RL 130 yX5_follow cX5_follow 5 (some .int) (WS yX5_follow cX5_follow 5 (some .int)) rm 0 0 0 := x_cb hrm 0 hts m_23_10 m_1_2 m_23_7 (by decide +kernel) hR
theorem l_RX5_169 (hts : ∀ w ∈ wsL_law, w.before asM.toArray s = true) (hrm : rm.cells = 0 ∧ rm.slots = 0) (hR : rm.frames + 1 ≤ R.frames ∧ 8 + (1 + 11) + rm.locals ≤ R.locals) : CallB R s asM.toArray RX5 169 yX0_isEmpty cX0_isEmpty 1 (some .boolean) (WS yX0_isEmpty cX0_isEmpty 1 (some .boolean)) rm 0 0 0 := x_cb hrm 0 hts m_23_14 m_2_3 m_23_11 (by decide +kernel) hR
theorem l_RX5_172 (hts : ∀ w ∈ wsL_law, w.before asM.toArray s = true) (hrm : rm.cells = 0 ∧ rm.slots = 0) (hR : rm.frames + 1 ≤ R.frames ∧ 8 + (1 + 11) + rm.locals ≤ R.locals) : CallB R s asM.toArray RX5 172 yX0_firstPacket cX0_firstPacket 1 (some .int) (WS yX0_firstPacket cX0_firstPacket 1 (some .int)) rm 0 0 0 := x_cb hrm 0 hts m_23_18 m_2_3 m_23_15 (by decide +kernel) hR
theorem l_RX0_31 (hts : ∀ w ∈ wsL_law, w.before asM.toArray s = true) (hrm : rm.cells = 0 ∧ rm.slots = 0) (hR : rm.frames + 1 ≤ R.frames ∧ 8 + (2 + 11) + rm.locals ≤ R.locals) : CallB R s asM.toArray RX0 31 yX0_firstIn cX0_firstIn 2 (some .int) (WS yX0_firstIn cX0_firstIn 2 (some .int)) rm 0 0 1 := x_cb hrm 1 hts m_23_22 m_2_3 m_23_19 (by decide +kernel) hR
theorem l_RX5_175 (hts : ∀ w ∈ wsL_law, w.before asM.toArray s = true) (hrm : rm.cells = 0 ∧ rm.slots = 0) (hR : rm.frames + 1 ≤ R.frames ∧ 8 + (1 + 11) + rm.locals ≤ R.locals) : CallB R s asM.toArray RX5 175 yX0_firstTree cX0_firstTree 1 (some .int) (WS yX0_firstTree cX0_firstTree 1 (some .int)) rm 0 0 0 := x_cb hrm 0 hts m_24_2 m_2_3 m_23_23 (by decide +kernel) hR
theorem l_RX5_178 (hts : ∀ w ∈ wsL_law, w.before asM.toArray s = true) (hrm : rm.cells = 0 ∧ rm.slots = 0) (hR : rm.frames + 1 ≤ R.frames ∧ 8 + (1 + 11) + rm.locals ≤ R.locals) : CallB R s asM.toArray RX5 178 yX0_firstFrom cX0_firstFrom 1 (some .int) (WS yX0_firstFrom cX0_firstFrom 1 (some .int)) rm 0 0 0 := x_cb hrm 0 hts m_24_6 m_2_3 m_24_3 (by decide +kernel) hR
theorem l_RX5_181 (hts : ∀ w ∈ wsL_law, w.before asM.toArray s = true) (hrm : rm.cells = 0 ∧ rm.slots = 0) (hR : rm.frames + 1 ≤ R.frames ∧ 8 + (1 + 11) + rm.locals ≤ R.locals) : CallB R s asM.toArray RX5 181 yX0_firstTo cX0_firstTo 1 (some .int) (WS yX0_firstTo cX0_firstTo 1 (some .int)) rm 0 0 0 := x_cb hrm 0 hts m_24_10 m_2_3 m_24_7 (by decide +kernel) hR
theorem l_RX5_184 (hts : ∀ w ∈ wsL_law, w.before asM.toArray s = true) (hrm : rm.cells = 0 ∧ rm.slots = 0) (hR : rm.frames + 1 ≤ R.frames ∧ 8 + (1 + 11) + rm.locals ≤ R.locals) : CallB R s asM.toArray RX5 184 yX0_removeFirst cX0_removeFirst 1 none (WS yX0_removeFirst cX0_removeFirst 1 none) rm 0 0 0 := x_cb hrm 0 hts m_24_14 m_2_3 m_24_11 (by decide +kernel) hR
theorem l_RL_133 (hts : ∀ w ∈ wsL_law, w.before asM.toArray s = true) (hrm : rm.cells = 0 ∧ rm.slots = 0) (hR : rm.frames + 1 ≤ R.frames ∧ 8 + (1 + 11) + rm.locals ≤ R.locals) : CallB R s asM.toArray RL 133 yX6_follow cX6_follow 1 (some .int) (WS yX6_follow cX6_follow 1 (some .int)) rm 0 0 0 := x_cb hrm 0 hts m_24_18 m_1_5 m_24_15 (by decide +kernel) hR
theorem l_RX6_128 (hts : ∀ w ∈ wsL_law, w.before asM.toArray s = true) (hrm : rm.cells = 0 ∧ rm.slots = 0) (hR : rm.frames + 1 ≤ R.frames ∧ 8 + (7 + 11) + rm.locals ≤ R.locals) : CallB R s asM.toArray RX6 128 yX6_follows cX6_follows 7 (some .int) (WS yX6_follows cX6_follows 7 (some .int)) rm 0 0 0 := x_cb hrm 0 hts m_24_22 m_1_5 m_24_19 (by decide +kernel) hR
theorem l_RL_134 (hts : ∀ w ∈ wsL_law, w.before asM.toArray s = true) (hrm : rm.cells = 0 ∧ rm.slots = 0) (hR : rm.frames + 1 ≤ R.frames ∧ 8 + (2 + 11) + rm.locals ≤ R.locals) : CallB R s asM.toArray RL 134 yX5_followAll cX5_followAll 2 (some .int) (WS yX5_followAll cX5_followAll 2 (some .int)) rm 0 0 0 := x_cb hrm 0 hts m_25_2 m_1_2 m_24_23 (by decide +kernel) hR
theorem l_RX5_191 (hts : ∀ w ∈ wsL_law, w.before asM.toArray s = true) (hrm : rm.cells = 0 ∧ rm.slots = 0) (hR : rm.frames + 1 ≤ R.frames ∧ 8 + (5 + 11) + rm.locals ≤ R.locals) : CallB R s asM.toArray RX5 191 yX5_follow cX5_follow 5 (some .int) (WS yX5_follow cX5_follow 5 (some .int)) rm 0 0 0 := x_cb hrm 0 hts m_23_10 m_1_2 m_25_4 (by decide +kernel) hR
theorem l_RL_137 (hts : ∀ w ∈ wsL_law, w.before asM.toArray s = true) (hrm : rm.cells = 0 ∧ rm.slots = 0) (hR : rm.frames + 1 ≤ R.frames ∧ 8 + (2 + 11) + rm.locals ≤ R.locals) : CallB R s asM.toArray RL 137 yX6_followAll cX6_followAll 2 (some .int) (WS yX6_followAll cX6_followAll 2 (some .int)) rm 0 0 0 := x_cb hrm 0 hts m_25_8 m_1_5 m_25_5 (by decide +kernel) hR
theorem l_RL_138 (hts : ∀ w ∈ wsL_law, w.before asM.toArray s = true) (hrm : rm.cells = 0 ∧ rm.slots = 0) (hR : rm.frames + 1 ≤ R.frames ∧ 8 + (1 + 11) + rm.locals ≤ R.locals) : CallB R s asM.toArray RL 138 yX5_queued cX5_queued 1 (some .int) (WS yX5_queued cX5_queued 1 (some .int)) rm 0 0 0 := x_cb hrm 0 hts m_25_12 m_1_2 m_25_9 (by decide +kernel) hR
theorem l_RX5_194 (hts : ∀ w ∈ wsL_law, w.before asM.toArray s = true) (hrm : rm.cells = 0 ∧ rm.slots = 0) (hR : rm.frames + 1 ≤ R.frames ∧ 8 + (1 + 11) + rm.locals ≤ R.locals) : CallB R s asM.toArray RX5 194 yX0_count cX0_count 1 (some .int) (WS yX0_count cX0_count 1 (some .int)) rm 0 0 0 := x_cb hrm 0 hts m_25_16 m_2_3 m_25_13 (by decide +kernel) hR
theorem l_RL_141 (hts : ∀ w ∈ wsL_law, w.before asM.toArray s = true) (hrm : rm.cells = 0 ∧ rm.slots = 0) (hR : rm.frames + 1 ≤ R.frames ∧ 8 + (1 + 11) + rm.locals ≤ R.locals) : CallB R s asM.toArray RL 141 yX6_queued cX6_queued 1 (some .int) (WS yX6_queued cX6_queued 1 (some .int)) rm 0 0 0 := x_cb hrm 0 hts m_25_20 m_1_5 m_25_17 (by decide +kernel) hR
theorem l_RL_142 (hts : ∀ w ∈ wsL_law, w.before asM.toArray s = true) (hrm : rm.cells = 0 ∧ rm.slots = 0) (hR : rm.frames + 1 ≤ R.frames ∧ 8 + (1 + 11) + rm.locals ≤ R.locals) : CallB R s asM.toArray RL 142 yX5_nextTo cX5_nextTo 1 (some .int) (WS yX5_nextTo cX5_nextTo 1 (some .int)) rm 0 0 0 := x_cb hrm 0 hts m_26_0 m_1_2 m_25_21 (by decide +kernel) hR
theorem l_RL_145 (hts : ∀ w ∈ wsL_law, w.before asM.toArray s = true) (hrm : rm.cells = 0 ∧ rm.slots = 0) (hR : rm.frames + 1 ≤ R.frames ∧ 8 + (1 + 11) + rm.locals ≤ R.locals) : CallB R s asM.toArray RL 145 yX6_nextTo cX6_nextTo 1 (some .int) (WS yX6_nextTo cX6_nextTo 1 (some .int)) rm 0 0 0 := x_cb hrm 0 hts m_26_4 m_1_5 m_26_1 (by decide +kernel) hR
theorem l_RL_58 (hts : ∀ w ∈ wsL_law, w.before asM.toArray s = true) (hrm : rm.cells = 0 ∧ rm.slots = 0) (hR : rm.frames + 1 ≤ R.frames ∧ 8 + (2 + 11) + rm.locals ≤ R.locals) : CallB R s asM.toArray RL 58 yX5_received cX5_received 2 (some .int) (WS yX5_received cX5_received 2 (some .int)) rm 0 0 1 := x_cb hrm 1 hts m_26_11 m_1_2 m_26_8 (by decide +kernel) hR
theorem l_RX5_197 (hts : ∀ w ∈ wsL_law, w.before asM.toArray s = true) (hrm : rm.cells = 0 ∧ rm.slots = 0) (hR : rm.frames + 1 ≤ R.frames ∧ 8 + (2 + 11) + rm.locals ≤ R.locals) : CallB R s asM.toArray RX5 197 yX5_checkPacket cX5_checkPacket 2 none (WS yX5_checkPacket cX5_checkPacket 2 none) rm 0 0 1 := x_cb hrm 1 hts m_26_15 m_1_2 m_26_12 (by decide +kernel) hR
theorem l_RX5_244 (hts : ∀ w ∈ wsL_law, w.before asM.toArray s = true) (hrm : rm.cells = 0 ∧ rm.slots = 0) (hR : rm.frames + 1 ≤ R.frames ∧ 8 + (2 + 11) + rm.locals ≤ R.locals) : CallB R s asM.toArray RX5 244 yX3_isPacket cX3_isPacket 2 (some .boolean) (WS yX3_isPacket cX3_isPacket 2 (some .boolean)) rm 0 0 1 := x_cb hrm 1 hts m_20_17 m_1_23 m_26_16 (by decide +kernel) hR
theorem l_RL_148 (hts : ∀ w ∈ wsL_law, w.before asM.toArray s = true) (hrm : rm.cells = 0 ∧ rm.slots = 0) (hR : rm.frames + 1 ≤ R.frames ∧ 8 + (2 + 11) + rm.locals ≤ R.locals) : CallB R s asM.toArray RL 148 yX6_received cX6_received 2 (some .int) (WS yX6_received cX6_received 2 (some .int)) rm 0 0 1 := x_cb hrm 1 hts m_26_20 m_1_5 m_26_17 (by decide +kernel) hR
theorem l_RX6_132 (hts : ∀ w ∈ wsL_law, w.before asM.toArray s = true) (hrm : rm.cells = 0 ∧ rm.slots = 0) (hR : rm.frames + 1 ≤ R.frames ∧ 8 + (2 + 11) + rm.locals ≤ R.locals) : CallB R s asM.toArray RX6 132 yX6_isPacket cX6_isPacket 2 (some .boolean) (WS yX6_isPacket cX6_isPacket 2 (some .boolean)) rm 0 0 1 := x_cb hrm 1 hts m_27_0 m_1_5 m_26_21 (by decide +kernel) hR
theorem l_RL_61 (hts : ∀ w ∈ wsL_law, w.before asM.toArray s = true) (hrm : rm.cells = 0 ∧ rm.slots = 0) (hR : rm.frames + 1 ≤ R.frames ∧ 8 + (2 + 11) + rm.locals ≤ R.locals) : CallB R s asM.toArray RL 61 yX5_doubles cX5_doubles 2 (some .int) (WS yX5_doubles cX5_doubles 2 (some .int)) rm 0 0 1 := x_cb hrm 1 hts m_27_7 m_1_2 m_27_4 (by decide +kernel) hR
theorem l_RX5_203 (hts : ∀ w ∈ wsL_law, w.before asM.toArray s = true) (hrm : rm.cells = 0 ∧ rm.slots = 0) (hR : rm.frames + 1 ≤ R.frames ∧ 8 + (2 + 11) + rm.locals ≤ R.locals) : CallB R s asM.toArray RX5 203 yX3_doublesOf cX3_doublesOf 2 (some .int) (WS yX3_doublesOf cX3_doublesOf 2 (some .int)) rm 0 0 1 := x_cb hrm 1 hts m_27_11 m_1_23 m_27_8 (by decide +kernel) hR
theorem l_RL_151 (hts : ∀ w ∈ wsL_law, w.before asM.toArray s = true) (hrm : rm.cells = 0 ∧ rm.slots = 0) (hR : rm.frames + 1 ≤ R.frames ∧ 8 + (2 + 11) + rm.locals ≤ R.locals) : CallB R s asM.toArray RL 151 yX6_doubles cX6_doubles 2 (some .int) (WS yX6_doubles cX6_doubles 2 (some .int)) rm 0 0 1 := x_cb hrm 1 hts m_27_15 m_1_5 m_27_12 (by decide +kernel) hR
theorem l_RL_152 (hts : ∀ w ∈ wsL_law, w.before asM.toArray s = true) (hrm : rm.cells = 0 ∧ rm.slots = 0) (hR : rm.frames + 1 ≤ R.frames ∧ 8 + (1 + 11) + rm.locals ≤ R.locals) : CallB R s asM.toArray RL 152 yX5_wasted cX5_wasted 1 (some .int) (WS yX5_wasted cX5_wasted 1 (some .int)) rm 0 0 0 := x_cb hrm 0 hts m_27_19 m_1_2 m_27_16 (by decide +kernel) hR
theorem l_RL_155 (hts : ∀ w ∈ wsL_law, w.before asM.toArray s = true) (hrm : rm.cells = 0 ∧ rm.slots = 0) (hR : rm.frames + 1 ≤ R.frames ∧ 8 + (1 + 11) + rm.locals ≤ R.locals) : CallB R s asM.toArray RL 155 yX6_wasted cX6_wasted 1 (some .int) (WS yX6_wasted cX6_wasted 1 (some .int)) rm 0 0 0 := x_cb hrm 0 hts m_27_23 m_1_5 m_27_20 (by decide +kernel) hR
theorem l_RL_64 (hts : ∀ w ∈ wsL_law, w.before asM.toArray s = true) (hrm : rm.cells = 0 ∧ rm.slots = 0) (hR : rm.frames + 1 ≤ R.frames ∧ 8 + (4 + 11) + rm.locals ≤ R.locals) : CallB R s asM.toArray RL 64 yX5_pass cX5_pass 4 (some .int) (WS yX5_pass cX5_pass 4 (some .int)) rm 0 0 1 := x_cb hrm 1 hts m_28_6 m_1_2 m_28_3 (by decide +kernel) hR
theorem l_RX5_208 (hts : ∀ w ∈ wsL_law, w.before asM.toArray s = true) (hrm : rm.cells = 0 ∧ rm.slots = 0) (hR : rm.frames + 1 ≤ R.frames ∧ 8 + (5 + 11) + rm.locals ≤ R.locals) : CallB R s asM.toArray RX5 208 yX2_removeDue cX2_removeDue 5 (some .int) (WS yX2_removeDue cX2_removeDue 5 (some .int)) rm 0 0 1 := x_cb hrm 1 hts m_28_10 m_1_19 m_28_7 (by decide +kernel) hR
theorem l_RX2_61 (hts : ∀ w ∈ wsL_law, w.before asM.toArray s = true) (hrm : rm.cells = 0 ∧ rm.slots = 0) (hR : rm.frames + 1 ≤ R.frames ∧ 8 + (4 + 11) + rm.locals ≤ R.locals) : CallB R s asM.toArray RX2 61 yX2_isDue cX2_isDue 4 (some .boolean) (WS yX2_isDue cX2_isDue 4 (some .boolean)) rm 0 0 3 := x_cb hrm 3 hts m_28_14 m_1_19 m_28_11 (by decide +kernel) hR
theorem l_RX2_65 (hts : ∀ w ∈ wsL_law, w.before asM.toArray s = true) (hrm : rm.cells = 0 ∧ rm.slots = 0) (hR : rm.frames + 1 ≤ R.frames ∧ 8 + (5 + 11) + rm.locals ≤ R.locals) : CallB R s asM.toArray RX2 65 yX2_remove cX2_remove 5 none (WS yX2_remove cX2_remove 5 none) rm 0 0 3 := x_cb hrm 3 hts m_28_18 m_1_19 m_28_15 (by decide +kernel) hR
theorem l_RX5_211 (hts : ∀ w ∈ wsL_law, w.before asM.toArray s = true) (hrm : rm.cells = 0 ∧ rm.slots = 0) (hR : rm.frames + 1 ≤ R.frames ∧ 8 + (1 + 11) + rm.locals ≤ R.locals) : CallB R s asM.toArray RX5 211 yX1_forgetAll cX1_forgetAll 1 none (WS yX1_forgetAll cX1_forgetAll 1 none) rm 0 0 0 := x_cb hrm 0 hts m_28_22 m_2_7 m_28_19 (by decide +kernel) hR
theorem l_RX1_23 (hts : ∀ w ∈ wsL_law, w.before asM.toArray s = true) (hrm : rm.cells = 0 ∧ rm.slots = 0) (hR : rm.frames + 1 ≤ R.frames ∧ 8 + (4 + 11) + rm.locals ≤ R.locals) : CallB R s asM.toArray RX1 23 yJ7_fill_53178 cJ7_fill_53178 4 none (WS yJ7_fill_53178 cJ7_fill_53178 4 none) rm 0 0 2 := x_cb hrm 2 hts m_4_9 m_4_8 m_28_23 (by decide +kernel) hR
theorem l_RL_158 (hts : ∀ w ∈ wsL_law, w.before asM.toArray s = true) (hrm : rm.cells = 0 ∧ rm.slots = 0) (hR : rm.frames + 1 ≤ R.frames ∧ 8 + (5 + 11) + rm.locals ≤ R.locals) : CallB R s asM.toArray RL 158 yX6_pass cX6_pass 5 (some .int) (WS yX6_pass cX6_pass 5 (some .int)) rm 0 0 1 := x_cb hrm 1 hts m_29_3 m_1_5 m_29_0 (by decide +kernel) hR
theorem l_RX6_135 (hts : ∀ w ∈ wsL_law, w.before asM.toArray s = true) (hrm : rm.cells = 0 ∧ rm.slots = 0) (hR : rm.frames + 1 ≤ R.frames ∧ 8 + (6 + 11) + rm.locals ≤ R.locals) : CallB R s asM.toArray RX6 135 yX6_second cX6_second 6 (some .int) (WS yX6_second cX6_second 6 (some .int)) rm 0 0 0 := x_cb hrm 0 hts m_29_7 m_1_5 m_29_4 (by decide +kernel) hR
theorem l_RL_159 (hts : ∀ w ∈ wsL_law, w.before asM.toArray s = true) (hrm : rm.cells = 0 ∧ rm.slots = 0) (hR : rm.frames + 1 ≤ R.frames ∧ 8 + (1 + 11) + rm.locals ≤ R.locals) : CallB R s asM.toArray RL 159 yX5_clock cX5_clock 1 (some .int) (WS yX5_clock cX5_clock 1 (some .int)) rm 0 0 0 := x_cb hrm 0 hts m_29_11 m_1_2 m_29_8 (by decide +kernel) hR
theorem l_RL_162 (hts : ∀ w ∈ wsL_law, w.before asM.toArray s = true) (hrm : rm.cells = 0 ∧ rm.slots = 0) (hR : rm.frames + 1 ≤ R.frames ∧ 8 + (1 + 11) + rm.locals ≤ R.locals) : CallB R s asM.toArray RL 162 yX6_clock cX6_clock 1 (some .int) (WS yX6_clock cX6_clock 1 (some .int)) rm 0 0 0 := x_cb hrm 0 hts m_29_15 m_1_5 m_29_12 (by decide +kernel) hR
theorem l_RL_67 (hts : ∀ w ∈ wsL_law, w.before asM.toArray s = true) (hrm : rm.cells = 0 ∧ rm.slots = 0) (hR : rm.frames + 1 ≤ R.frames ∧ 8 + (3 + 11) + rm.locals ≤ R.locals) : CallB R s asM.toArray RL 67 yX5_floodMembers cX5_floodMembers 3 (some .int) (WS yX5_floodMembers cX5_floodMembers 3 (some .int)) rm 0 0 2 := x_cb hrm 2 hts m_29_22 m_1_2 m_29_19 (by decide +kernel) hR
theorem l_RX5_214 (hts : ∀ w ∈ wsL_law, w.before asM.toArray s = true) (hrm : rm.cells = 0 ∧ rm.slots = 0) (hR : rm.frames + 1 ≤ R.frames ∧ 8 + (4 + 11) + rm.locals ≤ R.locals) : CallB R s asM.toArray RX5 214 yX5_floodedFrom cX5_floodedFrom 4 (some .int) (WS yX5_floodedFrom cX5_floodedFrom 4 (some .int)) rm 0 0 1 := x_cb hrm 1 hts m_30_2 m_1_2 m_29_23 (by decide +kernel) hR
theorem l_RL_165 (hts : ∀ w ∈ wsL_law, w.before asM.toArray s = true) (hrm : rm.cells = 0 ∧ rm.slots = 0) (hR : rm.frames + 1 ≤ R.frames ∧ 8 + (5 + 11) + rm.locals ≤ R.locals) : CallB R s asM.toArray RL 165 yX6_floodMembers cX6_floodMembers 5 (some .int) (WS yX6_floodMembers cX6_floodMembers 5 (some .int)) rm 0 0 2 := x_cb hrm 2 hts m_30_6 m_1_5 m_30_3 (by decide +kernel) hR
theorem l_RL_70 (hts : ∀ w ∈ wsL_law, w.before asM.toArray s = true) (hrm : rm.cells = 0 ∧ rm.slots = 0) (hR : rm.frames + 1 ≤ R.frames ∧ 8 + (5 + 11) + rm.locals ≤ R.locals) : CallB R s asM.toArray RL 70 yX5_floodCopies cX5_floodCopies 5 (some .int) (WS yX5_floodCopies cX5_floodCopies 5 (some .int)) rm 0 0 1 := x_cb hrm 1 hts m_30_13 m_1_2 m_30_10 (by decide +kernel) hR
theorem l_RX5_217 (hts : ∀ w ∈ wsL_law, w.before asM.toArray s = true) (hrm : rm.cells = 0 ∧ rm.slots = 0) (hR : rm.frames + 1 ≤ R.frames ∧ 8 + (4 + 11) + rm.locals ≤ R.locals) : CallB R s asM.toArray RX5 217 yX4_linksOf cX4_linksOf 4 (some .int) (WS yX4_linksOf cX4_linksOf 4 (some .int)) rm 0 0 1 := x_cb hrm 1 hts m_30_17 m_1_15 m_30_14 (by decide +kernel) hR
theorem l_RL_168 (hts : ∀ w ∈ wsL_law, w.before asM.toArray s = true) (hrm : rm.cells = 0 ∧ rm.slots = 0) (hR : rm.frames + 1 ≤ R.frames ∧ 8 + (6 + 11) + rm.locals ≤ R.locals) : CallB R s asM.toArray RL 168 yX6_floodCopies cX6_floodCopies 6 (some .int) (WS yX6_floodCopies cX6_floodCopies 6 (some .int)) rm 0 0 1 := x_cb hrm 1 hts m_30_21 m_1_5 m_30_18 (by decide +kernel) hR
theorem l_RX2_30 (hts : ∀ w ∈ wsL_law, w.before asM.toArray s = true) (hN : NW s) (hrm : rm.cells = 0 ∧ rm.slots = 0) (hR : rm.frames + 1 ≤ R.frames ∧ 8 + (2 + 11) + rm.locals ≤ R.locals) : va_CN R s asM.toArray RX2 30 yX5_sourceTree RX5 cX5_sourceTree 2 (some .int) (WS yX5_sourceTree cX5_sourceTree 2 (some .int)) rm 0 0 2 := x_cn hrm hts hN m_4_11 m_1_2 (List.mem_of_getElem? (i := 0) rfl) (by decide +kernel) hR
theorem l_RX2_38 (hts : ∀ w ∈ wsL_law, w.before asM.toArray s = true) (hN : NW s) (hrm : rm.cells = 0 ∧ rm.slots = 0) (hR : rm.frames + 1 ≤ R.frames ∧ 8 + (1 + 11) + rm.locals ≤ R.locals) : va_CN R s asM.toArray RX2 38 yX5_isTree RX5 cX5_isTree 1 (some .boolean) (WS yX5_isTree cX5_isTree 1 (some .boolean)) rm 0 0 1 := x_cn hrm hts hN m_4_23 m_1_2 (List.mem_of_getElem? (i := 1) rfl) (by decide +kernel) hR
theorem l_RX5_25 (hts : ∀ w ∈ wsL_law, w.before asM.toArray s = true) (hN : NW s) (hrm : rm.cells = 0 ∧ rm.slots = 0) (hR : rm.frames + 1 ≤ R.frames ∧ 8 + (1 + 11) + rm.locals ≤ R.locals) : va_CN R s asM.toArray RX5 25 yX3_init RX5 cX3_init 1 none (WS yX3_init cX3_init 1 none) rm 0 0 0 := x_cn hrm hts hN m_5_1 m_1_23 (List.mem_of_getElem? (i := 2) rfl) (by decide +kernel) hR
theorem l_RX5_32 (hts : ∀ w ∈ wsL_law, w.before asM.toArray s = true) (hN : NW s) (hrm : rm.cells = 0 ∧ rm.slots = 0) (hR : rm.frames + 1 ≤ R.frames ∧ 8 + (1 + 11) + rm.locals ≤ R.locals) : va_CN R s asM.toArray RX5 32 yX0_init RX5 cX0_init 1 none (WS yX0_init cX0_init 1 none) rm 0 0 0 := x_cn hrm hts hN m_5_8 m_2_3 (List.mem_of_getElem? (i := 3) rfl) (by decide +kernel) hR
theorem l_RX5_39 (hts : ∀ w ∈ wsL_law, w.before asM.toArray s = true) (hN : NW s) (hrm : rm.cells = 0 ∧ rm.slots = 0) (hR : rm.frames + 1 ≤ R.frames ∧ 8 + (1 + 11) + rm.locals ≤ R.locals) : va_CN R s asM.toArray RX5 39 yX1_init RX5 cX1_init 1 none (WS yX1_init cX1_init 1 none) rm 0 0 0 := x_cn hrm hts hN m_5_15 m_2_7 (List.mem_of_getElem? (i := 4) rfl) (by decide +kernel) hR
theorem l_RX3_36 (hts : ∀ w ∈ wsL_law, w.before asM.toArray s = true) (hN : NW s) (hrm : rm.cells = 0 ∧ rm.slots = 0) (hR : rm.frames + 1 ≤ R.frames ∧ 8 + (1 + 11) + rm.locals ≤ R.locals) : va_CN R s asM.toArray RX3 36 yX5_isRouter RX5 cX5_isRouter 1 (some .boolean) (WS yX5_isRouter cX5_isRouter 1 (some .boolean)) rm 0 0 1 := x_cn hrm hts hN m_4_14 m_1_2 (List.mem_of_getElem? (i := 5) rfl) (by decide +kernel) hR
theorem l_RX3_39 (hts : ∀ w ∈ wsL_law, w.before asM.toArray s = true) (hN : NW s) (hrm : rm.cells = 0 ∧ rm.slots = 0) (hR : rm.frames + 1 ≤ R.frames ∧ 8 + (1 + 11) + rm.locals ≤ R.locals) : va_CN R s asM.toArray RX3 39 yX5_bit RX5 cX5_bit 1 (some .int) (WS yX5_bit cX5_bit 1 (some .int)) rm 0 0 1 := x_cn hrm hts hN m_8_0 m_1_2 (List.mem_of_getElem? (i := 6) rfl) (by decide +kernel) hR
theorem l_RX1_29 (hts : ∀ w ∈ wsL_law, w.before asM.toArray s = true) (hN : NW s) (hrm : rm.cells = 0 ∧ rm.slots = 0) (hR : rm.frames + 1 ≤ R.frames ∧ 8 + (1 + 11) + rm.locals ≤ R.locals) : va_CN R s asM.toArray RX1 29 yX5_isRouter RX5 cX5_isRouter 1 (some .boolean) (WS yX5_isRouter cX5_isRouter 1 (some .boolean)) rm 0 0 1 := x_cn hrm hts hN m_4_14 m_1_2 (List.mem_of_getElem? (i := 7) rfl) (by decide +kernel) hR
theorem l_RX1_33 (hts : ∀ w ∈ wsL_law, w.before asM.toArray s = true) (hN : NW s) (hrm : rm.cells = 0 ∧ rm.slots = 0) (hR : rm.frames + 1 ≤ R.frames ∧ 8 + (1 + 11) + rm.locals ≤ R.locals) : va_CN R s asM.toArray RX1 33 yX5_isGroup RX5 cX5_isGroup 1 (some .boolean) (WS yX5_isGroup cX5_isGroup 1 (some .boolean)) rm 0 0 1 := x_cn hrm hts hN m_4_17 m_1_2 (List.mem_of_getElem? (i := 8) rfl) (by decide +kernel) hR
theorem l_RX2_42 (hts : ∀ w ∈ wsL_law, w.before asM.toArray s = true) (hN : NW s) (hrm : rm.cells = 0 ∧ rm.slots = 0) (hR : rm.frames + 1 ≤ R.frames ∧ 8 + (1 + 11) + rm.locals ≤ R.locals) : va_CN R s asM.toArray RX2 42 yX5_isRouter RX5 cX5_isRouter 1 (some .boolean) (WS yX5_isRouter cX5_isRouter 1 (some .boolean)) rm 0 0 1 := x_cn hrm hts hN m_4_14 m_1_2 (List.mem_of_getElem? (i := 9) rfl) (by decide +kernel) hR
theorem l_RX2_45 (hts : ∀ w ∈ wsL_law, w.before asM.toArray s = true) (hN : NW s) (hrm : rm.cells = 0 ∧ rm.slots = 0) (hR : rm.frames + 1 ≤ R.frames ∧ 8 + (1 + 11) + rm.locals ≤ R.locals) : va_CN R s asM.toArray RX2 45 yX5_bit RX5 cX5_bit 1 (some .int) (WS yX5_bit cX5_bit 1 (some .int)) rm 0 0 1 := x_cn hrm hts hN m_8_0 m_1_2 (List.mem_of_getElem? (i := 10) rfl) (by decide +kernel) hR
theorem l_RX2_57 (hts : ∀ w ∈ wsL_law, w.before asM.toArray s = true) (hN : NW s) (hrm : rm.cells = 0 ∧ rm.slots = 0) (hR : rm.frames + 1 ≤ R.frames ∧ 8 + (2 + 11) + rm.locals ≤ R.locals) : va_CN R s asM.toArray RX2 57 yX5_has RX5 cX5_has 2 (some .boolean) (WS yX5_has cX5_has 2 (some .boolean)) rm 0 0 2 := x_cn hrm hts hN m_7_21 m_1_2 (List.mem_of_getElem? (i := 11) rfl) (by decide +kernel) hR
end XL
end
section
/-! calls whose callee has the caller's whole world -/
abbrev QI (below : List Frame) (s : State) (A : Nat → Prop) (D : va_G) (asM : List Value) (ws' : va_W) (rv : Int32) : State → Prop := MQ below (va_Qi (fun (r : Int32) (_ : Unit) => r = rv) (fun _ t => va_P D vwCl ws' t.heap) A) asM.toArray s 0 0 A
abbrev QV (below : List Frame) (s : State) (A : Nat → Prop) (D : va_G) (asM : List Value) (ws' : va_W) : State → Prop := MQ below (va_Qv (fun (_ : Unit) => True) (fun _ t => va_P D vwCl ws' t.heap) A) asM.toArray s 0 0 A
section XF
variable {p : Program} {l : Launch} {e : Env} {R : Room} {s : State} {m : MethodId} {below : List Frame} {meth : Method} {c : Code} {H : Heap} {locs : List Loc} {Q : State → Prop}
variable {cc : ByteArray} {nL pc : Nat} {ls : Array Slot} {D : va_G} {A0 : Nat → Prop} {tys : List (ClassId × FieldType)} {W0 W1 : va_W} {H0 : Heap} {own : String} {rtO : Option FieldType}
variable {y : MethodName} {b : ByteArray} {n index k : Nat} {rt : FieldType} {rm : Room} {asM as rest st : List Value} {rv : Int32}
theorem x_sub {W0 : va_W} {H : Heap} (hD : va_D A0 W0) (hS : va_S A0 H0 H locs) (hA : ∀ q, H0.size ≤ q → A0 q) : ∀ q, va_A W0 H.size q → A0 q := by
  intro q h
  rcases h with ⟨k, e, h⟩ | h
  · exact hD.2 k (q, e) h
  · exact hA q (Nat.le_trans hS.1 h)
theorem x_preF (hP : va_P D vwCl W0 H) (hD : va_D A0 W0) (hK : va_K D vwCl tys s) (hN : NW s) :
    ∀ U : State, U.heap = H → s.WarmedH U.vm → cPre D tys W0 H.size U := fun U hU hW => ⟨by rw [hU], by rw [hU]; exact hP, va_K.moved hW.alike hK, hD.weaken (fun _ _ _ _ => trivial), NW.warm hW hN⟩
theorem fV_i (B : Bd p s m meth c cc nL rtO own D tys asM) (hls : ls.size = nL) {a : Nat} (hM : MI l y b n rt rm D tys (.ref a :: as) W0 W1 rv) {C : String} {T : u_T} {N ci : Nat} (hcl : vwCl[ci]? = some (C, T, N))
    (cb : CallB R s asM.toArray own index y b n (some rt) (WS y b n (some rt)) rm 0 0 k) (hin : Cond.instanceMethod y ∈ wsL_law) (hse : Cond.selects C y y ∈ wsL_law)
    (hst : st = as.reverse ++ .ref a :: rest) (hk : as.length = k) (hP : va_P D vwCl W0 H) (hD : va_D A0 W0) (hS : va_S A0 H0 H locs) (hA : ∀ q, H0.size ≤ q → A0 q) (q0 : Nat) {fs : List Value} (he : W0[q0]? = some (a, .inr (ci, fs)))
    (hf : W1.map Prod.fst = W0.map Prod.fst) (hw : (rest.map fun v => v.category).sum ≤ 8) (hdg : decode cc pc = .ok (.invokevirtual index, 3))
    (kk : ∀ (H1 : Heap) (locs1 : List Loc), va_P D vwCl W1 H1 → va_D A0 W1 → va_S A0 H0 H1 locs1 → W p l e R s m asM.toArray below meth c H1 locs1 0 0 Q (F0 m (pc + 3) ls (.int rv :: rest))) :
    W p l e R s m asM.toArray below meth c H locs 0 0 Q (F0 m pc ls st) := by
  obtain ⟨hx, hb, -, hml, hown, hts, -, hN, hK, -⟩ := B
  subst hst
  have hr := va_runV (mc := 0) (ms := 0) (As := as) (rest := rest) (b := a) (C := C) (g := F0 m pc ls (as.reverse ++ .ref a :: rest)) (cells := 0) (slots := 0) (locs := locs) (l := l) (e := e) (below := below) (meth := meth) (H := H) ⟨hx, hb, hml, hown, hts⟩ (hM H.size) ⟨cb, hts _ hin, hts _ hse⟩
    ⟨cPre_blind _ D tys W0 H.size, va_recv hK hP hcl he, fun U hU hW => ⟨rfl, x_preF hP hD hK hN U hU hW⟩⟩ rfl hk hls rfl (lv_room hw) hdg ⟨Nat.zero_le _, Nat.zero_le _⟩
  have hF := x_sub hD hS hA
  refine va_calli hr hS (fun q _ h => hF q h) hF (fun r u t H1 locs1 ht hvm hw hB hz hk hS1 => ?_)
  rw [ht] at hB
  subst hw
  exact kk H1 locs1 hB (va_D_same hf hD) hS1
theorem fV_v (B : Bd p s m meth c cc nL rtO own D tys asM) (hls : ls.size = nL) {a : Nat} (hM : MV l y b n rm D tys (.ref a :: as) W0 W1) {C : String} {T : u_T} {N ci : Nat} (hcl : vwCl[ci]? = some (C, T, N))
    (cb : CallB R s asM.toArray own index y b n none (WS y b n none) rm 0 0 k) (hin : Cond.instanceMethod y ∈ wsL_law) (hse : Cond.selects C y y ∈ wsL_law)
    (hst : st = as.reverse ++ .ref a :: rest) (hk : as.length = k) (hP : va_P D vwCl W0 H) (hD : va_D A0 W0) (hS : va_S A0 H0 H locs) (hA : ∀ q, H0.size ≤ q → A0 q) (q0 : Nat) {fs : List Value} (he : W0[q0]? = some (a, .inr (ci, fs)))
    (hf : W1.map Prod.fst = W0.map Prod.fst) (hw : (rest.map fun v => v.category).sum ≤ 8) (hdg : decode cc pc = .ok (.invokevirtual index, 3))
    (kk : ∀ (H1 : Heap) (locs1 : List Loc), va_P D vwCl W1 H1 → va_D A0 W1 → va_S A0 H0 H1 locs1 → W p l e R s m asM.toArray below meth c H1 locs1 0 0 Q (F0 m (pc + 3) ls rest)) :
    W p l e R s m asM.toArray below meth c H locs 0 0 Q (F0 m pc ls st) := by
  obtain ⟨hx, hb, -, hml, hown, hts, -, hN, hK, -⟩ := B
  subst hst
  have hr := va_runV (mc := 0) (ms := 0) (As := as) (rest := rest) (b := a) (C := C) (g := F0 m pc ls (as.reverse ++ .ref a :: rest)) (cells := 0) (slots := 0) (locs := locs) (l := l) (e := e) (below := below) (meth := meth) (H := H) ⟨hx, hb, hml, hown, hts⟩ (hM H.size) ⟨cb, hts _ hin, hts _ hse⟩
    ⟨cPre_blind _ D tys W0 H.size, va_recv hK hP hcl he, fun U hU hW => ⟨rfl, x_preF hP hD hK hN U hU hW⟩⟩ rfl hk hls rfl (lv_room hw) hdg ⟨Nat.zero_le _, Nat.zero_le _⟩
  have hF := x_sub hD hS hA
  refine va_callv hr hS (fun q _ h => hF q h) hF (fun u t H1 locs1 ht hvm hw hB hz hk hS1 => ?_)
  rw [ht] at hB
  exact kk H1 locs1 hB (va_D_same hf hD) hS1
theorem fS_i (B : Bd p s m meth c cc nL rtO own D tys asM) (hls : ls.size = nL) (hM : MI l y b n rt rm D tys as W0 W1 rv)
    (cb : CallB R s asM.toArray own index y b n (some rt) (WS y b n (some rt)) rm 0 0 k) (hst' : Cond.static y ∈ wsL_law)
    (hst : st = as.reverse ++ rest) (hk : as.length = k) (hP : va_P D vwCl W0 H) (hD : va_D A0 W0) (hS : va_S A0 H0 H locs) (hA : ∀ q, H0.size ≤ q → A0 q)
    (hf : W1.map Prod.fst = W0.map Prod.fst) (hw : (rest.map fun v => v.category).sum ≤ 8) (hdg : decode cc pc = .ok (.invokestatic index, 3))
    (kk : ∀ (H1 : Heap) (locs1 : List Loc), va_P D vwCl W1 H1 → va_D A0 W1 → va_S A0 H0 H1 locs1 → W p l e R s m asM.toArray below meth c H1 locs1 0 0 Q (F0 m (pc + 3) ls (.int rv :: rest))) :
    W p l e R s m asM.toArray below meth c H locs 0 0 Q (F0 m pc ls st) := by
  obtain ⟨hx, hb, -, hml, hown, hts, -, hN, hK, -⟩ := B
  subst hst
  have hr := va_runS (mc := 0) (ms := 0) (As := as) (rest := rest) (g := F0 m pc ls (as.reverse ++ rest)) (cells := 0) (slots := 0) (locs := locs) (l := l) (e := e) (below := below) (meth := meth) (H := H) ⟨hx, hb, hml, hown, hts⟩ (hM H.size) ⟨cb, hts _ hst'⟩
    ⟨cPre_blind _ D tys W0 H.size, fun U hU hW => ⟨rfl, x_preF hP hD hK hN U hU hW⟩⟩ rfl hk hls rfl (lv_room hw) hdg ⟨Nat.zero_le _, Nat.zero_le _⟩
  have hF := x_sub hD hS hA
  refine va_calli hr hS (fun q _ h => hF q h) hF (fun r u t H1 locs1 ht hvm hw hB hz hk hS1 => ?_)
  rw [ht] at hB
  subst hw
  exact kk H1 locs1 hB (va_D_same hf hD) hS1
theorem fS_v (B : Bd p s m meth c cc nL rtO own D tys asM) (hls : ls.size = nL) (hM : MV l y b n rm D tys as W0 W1)
    (cb : CallB R s asM.toArray own index y b n none (WS y b n none) rm 0 0 k) (hst' : Cond.static y ∈ wsL_law)
    (hst : st = as.reverse ++ rest) (hk : as.length = k) (hP : va_P D vwCl W0 H) (hD : va_D A0 W0) (hS : va_S A0 H0 H locs) (hA : ∀ q, H0.size ≤ q → A0 q)
    (hf : W1.map Prod.fst = W0.map Prod.fst) (hw : (rest.map fun v => v.category).sum ≤ 8) (hdg : decode cc pc = .ok (.invokestatic index, 3))
    (kk : ∀ (H1 : Heap) (locs1 : List Loc), va_P D vwCl W1 H1 → va_D A0 W1 → va_S A0 H0 H1 locs1 → W p l e R s m asM.toArray below meth c H1 locs1 0 0 Q (F0 m (pc + 3) ls rest)) :
    W p l e R s m asM.toArray below meth c H locs 0 0 Q (F0 m pc ls st) := by
  obtain ⟨hx, hb, -, hml, hown, hts, -, hN, hK, -⟩ := B
  subst hst
  have hr := va_runS (mc := 0) (ms := 0) (As := as) (rest := rest) (g := F0 m pc ls (as.reverse ++ rest)) (cells := 0) (slots := 0) (locs := locs) (l := l) (e := e) (below := below) (meth := meth) (H := H) ⟨hx, hb, hml, hown, hts⟩ (hM H.size) ⟨cb, hts _ hst'⟩
    ⟨cPre_blind _ D tys W0 H.size, fun U hU hW => ⟨rfl, x_preF hP hD hK hN U hU hW⟩⟩ rfl hk hls rfl (lv_room hw) hdg ⟨Nat.zero_le _, Nat.zero_le _⟩
  have hF := x_sub hD hS hA
  refine va_callv hr hS (fun q _ h => hF q h) hF (fun u t H1 locs1 ht hvm hw hB hz hk hS1 => ?_)
  rw [ht] at hB
  exact kk H1 locs1 hB (va_D_same hf hD) hS1
theorem fN_i {host : String} (B : Bd p s m meth c cc nL rtO own D tys asM) (hls : ls.size = nL) (hM : MI l y b n rt rm D tys as W0 W1 rv)
    (cb : va_CN R s asM.toArray own index y host b n (some rt) (WS y b n (some rt)) rm 0 0 k) (hst' : Cond.static y ∈ wsL_law)
    (hst : st = as.reverse ++ rest) (hk : as.length = k) (hP : va_P D vwCl W0 H) (hD : va_D A0 W0) (hS : va_S A0 H0 H locs) (hA : ∀ q, H0.size ≤ q → A0 q)
    (hf : W1.map Prod.fst = W0.map Prod.fst) (hw : (rest.map fun v => v.category).sum ≤ 8) (hdg : decode cc pc = .ok (.invokestatic index, 3))
    (kk : ∀ (H1 : Heap) (locs1 : List Loc), va_P D vwCl W1 H1 → va_D A0 W1 → va_S A0 H0 H1 locs1 → W p l e R s m asM.toArray below meth c H1 locs1 0 0 Q (F0 m (pc + 3) ls (.int rv :: rest))) :
    W p l e R s m asM.toArray below meth c H locs 0 0 Q (F0 m pc ls st) := by
  obtain ⟨hx, hb, -, hml, hown, hts, -, hN, hK, -⟩ := B
  subst hst
  have hr := va_runSN (mc := 0) (ms := 0) (As := as) (rest := rest) (g := F0 m pc ls (as.reverse ++ rest)) (cells := 0) (slots := 0) (locs := locs) (l := l) (e := e) (below := below) (meth := meth) (H := H) ⟨hx, hb, hml, hown, hts⟩ (hM H.size) ⟨cb, hts _ hst', trivial⟩
    ⟨cPre_blind _ D tys W0 H.size, fun U hU hW => ⟨rfl, x_preF hP hD hK hN U hU hW⟩⟩ rfl hk hls rfl (lv_room hw) hdg ⟨Nat.zero_le _, Nat.zero_le _⟩
  have hF := x_sub hD hS hA
  refine va_calli hr hS (fun q _ h => hF q h) hF (fun r u t H1 locs1 ht hvm hw hB hz hk hS1 => ?_)
  rw [ht] at hB
  subst hw
  exact kk H1 locs1 hB (va_D_same hf hD) hS1
end XF
end
section
abbrev TY (cI cZ : ClassId) : List (ClassId × FieldType) := [(cI, .int), (cZ, .boolean)]
def f_X0_isEmpty (qsz : Nat) : Bool :=
  if qsz = 0 then true else false
set_option maxHeartbeats 4000000 in
set_option maxRecDepth 100000 in
theorem c_X0_isEmpty (l : Launch) (D : va_G) (cI cZ : ClassId) (ad : Nat → Nat) (rc rl rh fr fw fc fg ps pg pr pd qp qt qf qo ct : Nat → Int32) (cand : Int32) (lim : Int32) (now : Int32) (was : Int32) (sent : Nat) (qfi : Nat) (qsz : Nat) (hqsz : qsz ≤ 200) : MI l yX0_isEmpty cX0_isEmpty 1 .boolean { frames := 0, cells := 0, slots := 0, locals := 0 } D (TY cI cZ) [.ref (ad 15)] (wC cI ad rc rl rh fr fw fc fg ps pg pr pd qp qt qf qo ct cand lim now was (nI sent) (nI qfi) (nI qsz)) (wC cI ad rc rl rh fr fw fc fg ps pg pr pd qp qt qf qo ct cand lim now was (nI sent) (nI qfi) (nI qsz)) (bI (f_X0_isEmpty qsz)) := by
  refine MI.mk ⟨rfl, rfl⟩ (by decide +kernel) (Nat.le_of_ble_eq_true rfl) ?_
  intro p e s m below meth c A ls B hA hP hD hS hl
  have hx := B.1
  have hb := B.2.1
  have hts := B.2.2.2.2.2.1
  have hN := B.2.2.2.2.2.2.2.1
  have hK := B.2.2.2.2.2.2.2.2.1
  have hl : lv_has ls 1 [(0, .ref (ad 15))] := hl
  have hf := f_X0_isEmpty.eq_1 qsz
  refine lv_aload_n hx hb dX0_isEmpty_0 rfl (lv_at hl 0 rfl) ?_
  refine g_X0_24 B hP 15 rfl rfl dX0_isEmpty_1 ?_
  refine r_if_ne (tgt := 11) hx hb (by omega) dX0_isEmpty_4 (by decide) (fun c1 => ?_) (fun c1 => ?_)
  · have hf := hf.trans (if_neg c1)
    refine lv_iconst (v := nI 0) hx hb dX0_isEmpty_11 (by decide) ?_
    exact eZ B hP hS (by decide) ((congrArg (fun (u : Bool) => bI u) hf).symm) rfl dX0_isEmpty_12
  · have hf := hf.trans (if_pos c1)
    refine lv_iconst (v := nI 1) hx hb dX0_isEmpty_7 (by decide) ?_
    refine lv_goto (tgt := 12) hx hb dX0_isEmpty_8 (by decide) ?_
    exact eZ B hP hS (by decide) ((congrArg (fun (u : Bool) => bI u) hf).symm) rfl dX0_isEmpty_12
set_option maxHeartbeats 4000000 in
set_option maxRecDepth 100000 in
theorem c_X0_count (l : Launch) (D : va_G) (cI cZ : ClassId) (ad : Nat → Nat) (rc rl rh fr fw fc fg ps pg pr pd qp qt qf qo ct : Nat → Int32) (cand : Int32) (lim : Int32) (now : Int32) (was : Int32) (sent : Nat) (qfi : Nat) (qsz : Nat) (hqsz : qsz ≤ 200) : MI l yX0_count cX0_count 1 .int { frames := 0, cells := 0, slots := 0, locals := 0 } D (TY cI cZ) [.ref (ad 15)] (wC cI ad rc rl rh fr fw fc fg ps pg pr pd qp qt qf qo ct cand lim now was (nI sent) (nI qfi) (nI qsz)) (wC cI ad rc rl rh fr fw fc fg ps pg pr pd qp qt qf qo ct cand lim now was (nI sent) (nI qfi) (nI qsz)) (nI qsz) := by
  refine MI.mk ⟨rfl, rfl⟩ (by decide +kernel) (Nat.le_of_ble_eq_true rfl) ?_
  intro p e s m below meth c A ls B hA hP hD hS hl
  have hx := B.1
  have hb := B.2.1
  have hts := B.2.2.2.2.2.1
  have hN := B.2.2.2.2.2.2.2.1
  have hK := B.2.2.2.2.2.2.2.2.1
  have hl : lv_has ls 1 [(0, .ref (ad 15))] := hl
  refine lv_aload_n hx hb dX0_count_0 rfl (lv_at hl 0 rfl) ?_
  refine g_X0_24 B hP 15 rfl rfl dX0_count_1 ?_
  exact eI B hP hS rfl rfl dX0_count_4
def f_X0_put (p0 : Int32) (p1 : Int32) (p2 : Int32) (p3 : Int32) (qp : Nat → Int32) (qt : Nat → Int32) (qf : Nat → Int32) (qo : Nat → Int32) (qfi : Nat) (qsz : Nat) : Bool × (Nat → Int32) × (Nat → Int32) × (Nat → Int32) × (Nat → Int32) × Nat :=
  if qsz < 200 then (true, upd qp ((qfi + qsz) % 200) p0, upd qt ((qfi + qsz) % 200) p1, upd qf ((qfi + qsz) % 200) p2, upd qo ((qfi + qsz) % 200) p3, qsz + 1) else (false, qp, qt, qf, qo, qsz)
set_option maxHeartbeats 4000000 in
set_option maxRecDepth 100000 in
theorem c_X0_put (l : Launch) (D : va_G) (cI cZ : ClassId) (ad : Nat → Nat) (rc rl rh fr fw fc fg ps pg pr pd qp qt qf qo ct : Nat → Int32) (cand : Int32) (lim : Int32) (now : Int32) (was : Int32) (sent : Nat) (qfi : Nat) (qsz : Nat) (p0 : Int32) (p1 : Int32) (p2 : Int32) (p3 : Int32) (hqfi : qfi ≤ 199) (hqsz : qsz ≤ 200) : MI l yX0_put cX0_put 6 .boolean { frames := 0, cells := 0, slots := 0, locals := 0 } D (TY cI cZ) [.ref (ad 15), .int p0, .int p1, .int p2, .int p3] (wC cI ad rc rl rh fr fw fc fg ps pg pr pd qp qt qf qo ct cand lim now was (nI sent) (nI qfi) (nI qsz)) (wC cI ad rc rl rh fr fw fc fg ps pg pr pd ((f_X0_put p0 p1 p2 p3 qp qt qf qo qfi qsz).2.1) ((f_X0_put p0 p1 p2 p3 qp qt qf qo qfi qsz).2.2.1) ((f_X0_put p0 p1 p2 p3 qp qt qf qo qfi qsz).2.2.2.1) ((f_X0_put p0 p1 p2 p3 qp qt qf qo qfi qsz).2.2.2.2.1) ct cand lim now was (nI sent) (nI qfi) (nI ((f_X0_put p0 p1 p2 p3 qp qt qf qo qfi qsz).2.2.2.2.2))) (bI ((f_X0_put p0 p1 p2 p3 qp qt qf qo qfi qsz).1)) := by
  refine MI.mk ⟨rfl, rfl⟩ (by decide +kernel) (Nat.le_of_ble_eq_true rfl) ?_
  intro p e s m below meth c A ls B hA hP hD hS hl
  have hx := B.1
  have hb := B.2.1
  have hts := B.2.2.2.2.2.1
  have hN := B.2.2.2.2.2.2.2.1
  have hK := B.2.2.2.2.2.2.2.2.1
  have hl : lv_has ls 6 [(0, .ref (ad 15)), (1, .int p0), (2, .int p1), (3, .int p2), (4, .int p3)] := hl
  have hf := f_X0_put.eq_1 p0 p1 p2 p3 qp qt qf qo qfi qsz
  refine lv_aload_n hx hb dX0_put_0 rfl (lv_at hl 0 rfl) ?_
  refine g_X0_24 B hP 15 rfl rfl dX0_put_1 ?_
  refine lv_sipush (v := nI 200) hx hb dX0_put_4 (by decide) ?_
  refine r_icmp_lt (tgt := 12) hx hb (by omega) (by omega) dX0_put_7 (by decide) (fun c1 => ?_) (fun c1 => ?_)
  · have hf := hf.trans (if_pos c1)
    refine lv_aload_n hx hb dX0_put_12 rfl (lv_at hl 0 rfl) ?_
    refine g_X0_28 B hP 15 rfl rfl dX0_put_13 ?_
    refine lv_aload_n hx hb dX0_put_16 rfl (lv_at hl 0 rfl) ?_
    refine g_X0_24 B hP 15 rfl rfl dX0_put_17 ?_
    refine r_iadd hx hb dX0_put_20 ?_
    refine lv_sipush (v := nI 200) hx hb dX0_put_21 (by decide) ?_
    refine r_irem hx hb (by omega) (by omega) (by omega) dX0_put_24 ?_
    refine lv_istore (lv' := [(5, .int (nI ((qfi + qsz) % 200))), (0, .ref (ad 15)), (1, .int p0), (2, .int p1), (3, .int p2), (4, .int p3)]) hx hb dX0_put_25 hl (by decide) rfl (fun ls hl => ?_)
    refine lv_aload_n hx hb dX0_put_27 rfl (lv_at hl 1 rfl) ?_
    refine g_X0_9 B hP 15 rfl rfl dX0_put_28 ?_
    refine lv_iload hx hb dX0_put_31 (lv_at hl 0 rfl) ?_
    refine lv_iload_n hx hb dX0_put_33 rfl (lv_at hl 2 rfl) ?_
    refine r_iast hx hb hK hP hD hS 16 0 rfl rfl (by omega) (by decide) dX0_put_34 (fun H locs hP hD hS => ?_)
    have hP : va_P D vwCl (wC cI ad rc rl rh fr fw fc fg ps pg pr pd (upd qp ((qfi + qsz) % 200) p0) qt qf qo ct cand lim now was (nI sent) (nI qfi) (nI qsz)) H := hP
    have hD : va_D A (wC cI ad rc rl rh fr fw fc fg ps pg pr pd (upd qp ((qfi + qsz) % 200) p0) qt qf qo ct cand lim now was (nI sent) (nI qfi) (nI qsz)) := hD
    refine lv_aload_n hx hb dX0_put_35 rfl (lv_at hl 1 rfl) ?_
    refine g_X0_15 B hP 15 rfl rfl dX0_put_36 ?_
    refine lv_iload hx hb dX0_put_39 (lv_at hl 0 rfl) ?_
    refine lv_iload_n hx hb dX0_put_41 rfl (lv_at hl 3 rfl) ?_
    refine r_iast hx hb hK hP hD hS 17 0 rfl rfl (by omega) (by decide) dX0_put_42 (fun H locs hP hD hS => ?_)
    have hP : va_P D vwCl (wC cI ad rc rl rh fr fw fc fg ps pg pr pd (upd qp ((qfi + qsz) % 200) p0) (upd qt ((qfi + qsz) % 200) p1) qf qo ct cand lim now was (nI sent) (nI qfi) (nI qsz)) H := hP
    have hD : va_D A (wC cI ad rc rl rh fr fw fc fg ps pg pr pd (upd qp ((qfi + qsz) % 200) p0) (upd qt ((qfi + qsz) % 200) p1) qf qo ct cand lim now was (nI sent) (nI qfi) (nI qsz)) := hD
    refine lv_aload_n hx hb dX0_put_43 rfl (lv_at hl 1 rfl) ?_
    refine g_X0_18 B hP 15 rfl rfl dX0_put_44 ?_
    refine lv_iload hx hb dX0_put_47 (lv_at hl 0 rfl) ?_
    refine lv_iload_n hx hb dX0_put_49 rfl (lv_at hl 4 rfl) ?_
    refine r_iast hx hb hK hP hD hS 18 0 rfl rfl (by omega) (by decide) dX0_put_50 (fun H locs hP hD hS => ?_)
    have hP : va_P D vwCl (wC cI ad rc rl rh fr fw fc fg ps pg pr pd (upd qp ((qfi + qsz) % 200) p0) (upd qt ((qfi + qsz) % 200) p1) (upd qf ((qfi + qsz) % 200) p2) qo ct cand lim now was (nI sent) (nI qfi) (nI qsz)) H := hP
    have hD : va_D A (wC cI ad rc rl rh fr fw fc fg ps pg pr pd (upd qp ((qfi + qsz) % 200) p0) (upd qt ((qfi + qsz) % 200) p1) (upd qf ((qfi + qsz) % 200) p2) qo ct cand lim now was (nI sent) (nI qfi) (nI qsz)) := hD
    refine lv_aload_n hx hb dX0_put_51 rfl (lv_at hl 1 rfl) ?_
    refine g_X0_21 B hP 15 rfl rfl dX0_put_52 ?_
    refine lv_iload hx hb dX0_put_55 (lv_at hl 0 rfl) ?_
    refine lv_iload hx hb dX0_put_57 (lv_at hl 5 rfl) ?_
    refine r_iast hx hb hK hP hD hS 19 0 rfl rfl (by omega) (by decide) dX0_put_59 (fun H locs hP hD hS => ?_)
    have hP : va_P D vwCl (wC cI ad rc rl rh fr fw fc fg ps pg pr pd (upd qp ((qfi + qsz) % 200) p0) (upd qt ((qfi + qsz) % 200) p1) (upd qf ((qfi + qsz) % 200) p2) (upd qo ((qfi + qsz) % 200) p3) ct cand lim now was (nI sent) (nI qfi) (nI qsz)) H := hP
    have hD : va_D A (wC cI ad rc rl rh fr fw fc fg ps pg pr pd (upd qp ((qfi + qsz) % 200) p0) (upd qt ((qfi + qsz) % 200) p1) (upd qf ((qfi + qsz) % 200) p2) (upd qo ((qfi + qsz) % 200) p3) ct cand lim now was (nI sent) (nI qfi) (nI qsz)) := hD
    refine lv_aload_n hx hb dX0_put_60 rfl (lv_at hl 1 rfl) ?_
    refine lv_dup hx hb dX0_put_61 rfl ?_
    refine g_X0_24 B hP 15 rfl rfl dX0_put_62 ?_
    refine lv_iconst (v := nI 1) hx hb dX0_put_65 (by decide) ?_
    refine r_iadd hx hb dX0_put_66 ?_
    refine p_X0_24 B hP hD hS 15 rfl (Nat.le_of_ble_eq_true rfl) dX0_put_67 (fun H locs hP hD hS => ?_)
    have hP : va_P D vwCl (wC cI ad rc rl rh fr fw fc fg ps pg pr pd (upd qp ((qfi + qsz) % 200) p0) (upd qt ((qfi + qsz) % 200) p1) (upd qf ((qfi + qsz) % 200) p2) (upd qo ((qfi + qsz) % 200) p3) ct cand lim now was (nI sent) (nI qfi) (nI (qsz + 1))) H := hP
    have hD : va_D A (wC cI ad rc rl rh fr fw fc fg ps pg pr pd (upd qp ((qfi + qsz) % 200) p0) (upd qt ((qfi + qsz) % 200) p1) (upd qf ((qfi + qsz) % 200) p2) (upd qo ((qfi + qsz) % 200) p3) ct cand lim now was (nI sent) (nI qfi) (nI (qsz + 1))) := hD
    refine lv_iconst (v := nI 1) hx hb dX0_put_70 (by decide) ?_
    exact eZ B hP hS (by decide) ((congrArg (fun (u : Bool × (Nat → Int32) × (Nat → Int32) × (Nat → Int32) × (Nat → Int32) × Nat) => bI u.1) hf).symm) ((congrArg (fun (u : Bool × (Nat → Int32) × (Nat → Int32) × (Nat → Int32) × (Nat → Int32) × Nat) => wC cI ad rc rl rh fr fw fc fg ps pg pr pd u.2.1 u.2.2.1 u.2.2.2.1 u.2.2.2.2.1 ct cand lim now was (nI sent) (nI qfi) (nI u.2.2.2.2.2)) hf).symm) dX0_put_71
  · have hf := hf.trans (if_neg c1)
    refine lv_iconst (v := nI 0) hx hb dX0_put_10 (by decide) ?_
    exact eZ B hP hS (by decide) ((congrArg (fun (u : Bool × (Nat → Int32) × (Nat → Int32) × (Nat → Int32) × (Nat → Int32) × Nat) => bI u.1) hf).symm) ((congrArg (fun (u : Bool × (Nat → Int32) × (Nat → Int32) × (Nat → Int32) × (Nat → Int32) × Nat) => wC cI ad rc rl rh fr fw fc fg ps pg pr pd u.2.1 u.2.2.1 u.2.2.2.1 u.2.2.2.2.1 ct cand lim now was (nI sent) (nI qfi) (nI u.2.2.2.2.2)) hf).symm) dX0_put_11
def f_X0_removeFirst (qfi : Nat) (qsz : Nat) : Nat × Nat :=
  if qsz = 0 then (qfi, qsz) else ((qfi + 1) % 200, qsz - 1)
set_option maxHeartbeats 4000000 in
set_option maxRecDepth 100000 in
theorem c_X0_removeFirst (l : Launch) (D : va_G) (cI cZ : ClassId) (ad : Nat → Nat) (rc rl rh fr fw fc fg ps pg pr pd qp qt qf qo ct : Nat → Int32) (cand : Int32) (lim : Int32) (now : Int32) (was : Int32) (sent : Nat) (qfi : Nat) (qsz : Nat) (hqfi : qfi ≤ 199) (hqsz : qsz ≤ 200) : MV l yX0_removeFirst cX0_removeFirst 1 { frames := 0, cells := 0, slots := 0, locals := 0 } D (TY cI cZ) [.ref (ad 15)] (wC cI ad rc rl rh fr fw fc fg ps pg pr pd qp qt qf qo ct cand lim now was (nI sent) (nI qfi) (nI qsz)) (wC cI ad rc rl rh fr fw fc fg ps pg pr pd qp qt qf qo ct cand lim now was (nI sent) (nI ((f_X0_removeFirst qfi qsz).1)) (nI ((f_X0_removeFirst qfi qsz).2))) := by
  refine MV.mk ⟨rfl, rfl⟩ (by decide +kernel) (Nat.le_of_ble_eq_true rfl) ?_
  intro p e s m below meth c A ls B hA hP hD hS hl
  have hx := B.1
  have hb := B.2.1
  have hts := B.2.2.2.2.2.1
  have hN := B.2.2.2.2.2.2.2.1
  have hK := B.2.2.2.2.2.2.2.2.1
  have hl : lv_has ls 1 [(0, .ref (ad 15))] := hl
  have hf := f_X0_removeFirst.eq_1 qfi qsz
  refine lv_aload_n hx hb dX0_removeFirst_0 rfl (lv_at hl 0 rfl) ?_
  refine g_X0_24 B hP 15 rfl rfl dX0_removeFirst_1 ?_
  refine r_if_le (tgt := 31) hx hb (by omega) dX0_removeFirst_4 (by decide) (fun c1 => ?_) (fun c1 => ?_)
  · have hf := hf.trans (if_pos c1)
    exact eV B hP hS ((congrArg (fun (u : Nat × Nat) => wC cI ad rc rl rh fr fw fc fg ps pg pr pd qp qt qf qo ct cand lim now was (nI sent) (nI u.1) (nI u.2)) hf).symm) dX0_removeFirst_31
  · have hf := hf.trans (if_neg c1)
    refine lv_aload_n hx hb dX0_removeFirst_7 rfl (lv_at hl 0 rfl) ?_
    refine lv_aload_n hx hb dX0_removeFirst_8 rfl (lv_at hl 0 rfl) ?_
    refine g_X0_28 B hP 15 rfl rfl dX0_removeFirst_9 ?_
    refine lv_iconst (v := nI 1) hx hb dX0_removeFirst_12 (by decide) ?_
    refine r_iadd hx hb dX0_removeFirst_13 ?_
    refine lv_sipush (v := nI 200) hx hb dX0_removeFirst_14 (by decide) ?_
    refine r_irem hx hb (by omega) (by omega) (by omega) dX0_removeFirst_17 ?_
    refine p_X0_28 B hP hD hS 15 rfl (Nat.le_of_ble_eq_true rfl) dX0_removeFirst_18 (fun H locs hP hD hS => ?_)
    have hP : va_P D vwCl (wC cI ad rc rl rh fr fw fc fg ps pg pr pd qp qt qf qo ct cand lim now was (nI sent) (nI ((qfi + 1) % 200)) (nI qsz)) H := hP
    have hD : va_D A (wC cI ad rc rl rh fr fw fc fg ps pg pr pd qp qt qf qo ct cand lim now was (nI sent) (nI ((qfi + 1) % 200)) (nI qsz)) := hD
    refine lv_aload_n hx hb dX0_removeFirst_21 rfl (lv_at hl 0 rfl) ?_
    refine lv_dup hx hb dX0_removeFirst_22 rfl ?_
    refine g_X0_24 B hP 15 rfl rfl dX0_removeFirst_23 ?_
    refine lv_iconst (v := nI 1) hx hb dX0_removeFirst_26 (by decide) ?_
    refine r_isub hx hb (by omega) dX0_removeFirst_27 ?_
    refine p_X0_24 B hP hD hS 15 rfl (Nat.le_of_ble_eq_true rfl) dX0_removeFirst_28 (fun H locs hP hD hS => ?_)
    have hP : va_P D vwCl (wC cI ad rc rl rh fr fw fc fg ps pg pr pd qp qt qf qo ct cand lim now was (nI sent) (nI ((qfi + 1) % 200)) (nI (qsz - 1))) H := hP
    have hD : va_D A (wC cI ad rc rl rh fr fw fc fg ps pg pr pd qp qt qf qo ct cand lim now was (nI sent) (nI ((qfi + 1) % 200)) (nI (qsz - 1))) := hD
    exact eV B hP hS ((congrArg (fun (u : Nat × Nat) => wC cI ad rc rl rh fr fw fc fg ps pg pr pd qp qt qf qo ct cand lim now was (nI sent) (nI u.1) (nI u.2)) hf).symm) dX0_removeFirst_31
def f_X0_firstIn_qp (qp : Nat → Int32) (qfi : Nat) (qsz : Nat) : Int32 :=
  if qsz = 0 then -1 else qp qfi
set_option maxHeartbeats 4000000 in
set_option maxRecDepth 100000 in
theorem c_X0_firstIn_qp (l : Launch) (D : va_G) (cI cZ : ClassId) (ad : Nat → Nat) (rc rl rh fr fw fc fg ps pg pr pd qp qt qf qo ct : Nat → Int32) (cand : Int32) (lim : Int32) (now : Int32) (was : Int32) (sent : Nat) (qfi : Nat) (qsz : Nat) (hqfi : qfi ≤ 199) (hqsz : qsz ≤ 200) : MI l yX0_firstIn cX0_firstIn 2 .int { frames := 0, cells := 0, slots := 0, locals := 0 } D (TY cI cZ) [.ref (ad 15), .ref (ad 16)] (wC cI ad rc rl rh fr fw fc fg ps pg pr pd qp qt qf qo ct cand lim now was (nI sent) (nI qfi) (nI qsz)) (wC cI ad rc rl rh fr fw fc fg ps pg pr pd qp qt qf qo ct cand lim now was (nI sent) (nI qfi) (nI qsz)) (f_X0_firstIn_qp qp qfi qsz) := by
  refine MI.mk ⟨rfl, rfl⟩ (by decide +kernel) (Nat.le_of_ble_eq_true rfl) ?_
  intro p e s m below meth c A ls B hA hP hD hS hl
  have hx := B.1
  have hb := B.2.1
  have hts := B.2.2.2.2.2.1
  have hN := B.2.2.2.2.2.2.2.1
  have hK := B.2.2.2.2.2.2.2.2.1
  have hl : lv_has ls 2 [(0, .ref (ad 15)), (1, .ref (ad 16))] := hl
  have hf := f_X0_firstIn_qp.eq_1 qp qfi qsz
  refine lv_aload_n hx hb dX0_firstIn_0 rfl (lv_at hl 0 rfl) ?_
  refine g_X0_24 B hP 15 rfl rfl dX0_firstIn_1 ?_
  refine r_if_le (tgt := 32) hx hb (by omega) dX0_firstIn_4 (by decide) (fun c1 => ?_) (fun c1 => ?_)
  · have hf := hf.trans (if_pos c1)
    refine lv_iconst (v := -1) hx hb dX0_firstIn_32 (by decide) ?_
    exact eI B hP hS ((congrArg (fun (u : Int32) => u) hf).symm) rfl dX0_firstIn_33
  · have hf := hf.trans (if_neg c1)
    refine lv_aload_n hx hb dX0_firstIn_7 rfl (lv_at hl 0 rfl) ?_
    refine g_X0_28 B hP 15 rfl rfl dX0_firstIn_8 ?_
    refine r_if_lt (tgt := 32) hx hb (by omega) dX0_firstIn_11 (by decide) ?_
    refine lv_aload_n hx hb dX0_firstIn_14 rfl (lv_at hl 0 rfl) ?_
    refine g_X0_28 B hP 15 rfl rfl dX0_firstIn_15 ?_
    refine lv_aload_n hx hb dX0_firstIn_18 rfl (lv_at hl 1 rfl) ?_
    refine va_alen (v := nI 200) hx hb hK hP 16 0 rfl rfl rfl dX0_firstIn_19 ?_
    refine r_icmp_ge (tgt := 32) hx hb (by omega) (by omega) dX0_firstIn_20 (by decide) (fun c => absurd c (by omega)) (fun _ => ?_)
    refine lv_aload_n hx hb dX0_firstIn_23 rfl (lv_at hl 1 rfl) ?_
    refine lv_aload_n hx hb dX0_firstIn_24 rfl (lv_at hl 0 rfl) ?_
    refine g_X0_28 B hP 15 rfl rfl dX0_firstIn_25 ?_
    refine r_iald hx hb hK hP 16 0 rfl rfl (by omega) (by decide) dX0_firstIn_28 ?_
    refine lv_goto (tgt := 33) hx hb dX0_firstIn_29 (by decide) ?_
    exact eI B hP hS ((congrArg (fun (u : Int32) => u) hf).symm) rfl dX0_firstIn_33
def f_X0_firstIn_qt (qt : Nat → Int32) (qfi : Nat) (qsz : Nat) : Int32 :=
  if qsz = 0 then -1 else qt qfi
set_option maxHeartbeats 4000000 in
set_option maxRecDepth 100000 in
theorem c_X0_firstIn_qt (l : Launch) (D : va_G) (cI cZ : ClassId) (ad : Nat → Nat) (rc rl rh fr fw fc fg ps pg pr pd qp qt qf qo ct : Nat → Int32) (cand : Int32) (lim : Int32) (now : Int32) (was : Int32) (sent : Nat) (qfi : Nat) (qsz : Nat) (hqfi : qfi ≤ 199) (hqsz : qsz ≤ 200) : MI l yX0_firstIn cX0_firstIn 2 .int { frames := 0, cells := 0, slots := 0, locals := 0 } D (TY cI cZ) [.ref (ad 15), .ref (ad 17)] (wC cI ad rc rl rh fr fw fc fg ps pg pr pd qp qt qf qo ct cand lim now was (nI sent) (nI qfi) (nI qsz)) (wC cI ad rc rl rh fr fw fc fg ps pg pr pd qp qt qf qo ct cand lim now was (nI sent) (nI qfi) (nI qsz)) (f_X0_firstIn_qt qt qfi qsz) := by
  refine MI.mk ⟨rfl, rfl⟩ (by decide +kernel) (Nat.le_of_ble_eq_true rfl) ?_
  intro p e s m below meth c A ls B hA hP hD hS hl
  have hx := B.1
  have hb := B.2.1
  have hts := B.2.2.2.2.2.1
  have hN := B.2.2.2.2.2.2.2.1
  have hK := B.2.2.2.2.2.2.2.2.1
  have hl : lv_has ls 2 [(0, .ref (ad 15)), (1, .ref (ad 17))] := hl
  have hf := f_X0_firstIn_qt.eq_1 qt qfi qsz
  refine lv_aload_n hx hb dX0_firstIn_0 rfl (lv_at hl 0 rfl) ?_
  refine g_X0_24 B hP 15 rfl rfl dX0_firstIn_1 ?_
  refine r_if_le (tgt := 32) hx hb (by omega) dX0_firstIn_4 (by decide) (fun c1 => ?_) (fun c1 => ?_)
  · have hf := hf.trans (if_pos c1)
    refine lv_iconst (v := -1) hx hb dX0_firstIn_32 (by decide) ?_
    exact eI B hP hS ((congrArg (fun (u : Int32) => u) hf).symm) rfl dX0_firstIn_33
  · have hf := hf.trans (if_neg c1)
    refine lv_aload_n hx hb dX0_firstIn_7 rfl (lv_at hl 0 rfl) ?_
    refine g_X0_28 B hP 15 rfl rfl dX0_firstIn_8 ?_
    refine r_if_lt (tgt := 32) hx hb (by omega) dX0_firstIn_11 (by decide) ?_
    refine lv_aload_n hx hb dX0_firstIn_14 rfl (lv_at hl 0 rfl) ?_
    refine g_X0_28 B hP 15 rfl rfl dX0_firstIn_15 ?_
    refine lv_aload_n hx hb dX0_firstIn_18 rfl (lv_at hl 1 rfl) ?_
    refine va_alen (v := nI 200) hx hb hK hP 17 0 rfl rfl rfl dX0_firstIn_19 ?_
    refine r_icmp_ge (tgt := 32) hx hb (by omega) (by omega) dX0_firstIn_20 (by decide) (fun c => absurd c (by omega)) (fun _ => ?_)
    refine lv_aload_n hx hb dX0_firstIn_23 rfl (lv_at hl 1 rfl) ?_
    refine lv_aload_n hx hb dX0_firstIn_24 rfl (lv_at hl 0 rfl) ?_
    refine g_X0_28 B hP 15 rfl rfl dX0_firstIn_25 ?_
    refine r_iald hx hb hK hP 17 0 rfl rfl (by omega) (by decide) dX0_firstIn_28 ?_
    refine lv_goto (tgt := 33) hx hb dX0_firstIn_29 (by decide) ?_
    exact eI B hP hS ((congrArg (fun (u : Int32) => u) hf).symm) rfl dX0_firstIn_33
def f_X0_firstIn_qf (qf : Nat → Int32) (qfi : Nat) (qsz : Nat) : Int32 :=
  if qsz = 0 then -1 else qf qfi
set_option maxHeartbeats 4000000 in
set_option maxRecDepth 100000 in
theorem c_X0_firstIn_qf (l : Launch) (D : va_G) (cI cZ : ClassId) (ad : Nat → Nat) (rc rl rh fr fw fc fg ps pg pr pd qp qt qf qo ct : Nat → Int32) (cand : Int32) (lim : Int32) (now : Int32) (was : Int32) (sent : Nat) (qfi : Nat) (qsz : Nat) (hqfi : qfi ≤ 199) (hqsz : qsz ≤ 200) : MI l yX0_firstIn cX0_firstIn 2 .int { frames := 0, cells := 0, slots := 0, locals := 0 } D (TY cI cZ) [.ref (ad 15), .ref (ad 18)] (wC cI ad rc rl rh fr fw fc fg ps pg pr pd qp qt qf qo ct cand lim now was (nI sent) (nI qfi) (nI qsz)) (wC cI ad rc rl rh fr fw fc fg ps pg pr pd qp qt qf qo ct cand lim now was (nI sent) (nI qfi) (nI qsz)) (f_X0_firstIn_qf qf qfi qsz) := by
  refine MI.mk ⟨rfl, rfl⟩ (by decide +kernel) (Nat.le_of_ble_eq_true rfl) ?_
  intro p e s m below meth c A ls B hA hP hD hS hl
  have hx := B.1
  have hb := B.2.1
  have hts := B.2.2.2.2.2.1
  have hN := B.2.2.2.2.2.2.2.1
  have hK := B.2.2.2.2.2.2.2.2.1
  have hl : lv_has ls 2 [(0, .ref (ad 15)), (1, .ref (ad 18))] := hl
  have hf := f_X0_firstIn_qf.eq_1 qf qfi qsz
  refine lv_aload_n hx hb dX0_firstIn_0 rfl (lv_at hl 0 rfl) ?_
  refine g_X0_24 B hP 15 rfl rfl dX0_firstIn_1 ?_
  refine r_if_le (tgt := 32) hx hb (by omega) dX0_firstIn_4 (by decide) (fun c1 => ?_) (fun c1 => ?_)
  · have hf := hf.trans (if_pos c1)
    refine lv_iconst (v := -1) hx hb dX0_firstIn_32 (by decide) ?_
    exact eI B hP hS ((congrArg (fun (u : Int32) => u) hf).symm) rfl dX0_firstIn_33
  · have hf := hf.trans (if_neg c1)
    refine lv_aload_n hx hb dX0_firstIn_7 rfl (lv_at hl 0 rfl) ?_
    refine g_X0_28 B hP 15 rfl rfl dX0_firstIn_8 ?_
    refine r_if_lt (tgt := 32) hx hb (by omega) dX0_firstIn_11 (by decide) ?_
    refine lv_aload_n hx hb dX0_firstIn_14 rfl (lv_at hl 0 rfl) ?_
    refine g_X0_28 B hP 15 rfl rfl dX0_firstIn_15 ?_
    refine lv_aload_n hx hb dX0_firstIn_18 rfl (lv_at hl 1 rfl) ?_
    refine va_alen (v := nI 200) hx hb hK hP 18 0 rfl rfl rfl dX0_firstIn_19 ?_
    refine r_icmp_ge (tgt := 32) hx hb (by omega) (by omega) dX0_firstIn_20 (by decide) (fun c => absurd c (by omega)) (fun _ => ?_)
    refine lv_aload_n hx hb dX0_firstIn_23 rfl (lv_at hl 1 rfl) ?_
    refine lv_aload_n hx hb dX0_firstIn_24 rfl (lv_at hl 0 rfl) ?_
    refine g_X0_28 B hP 15 rfl rfl dX0_firstIn_25 ?_
    refine r_iald hx hb hK hP 18 0 rfl rfl (by omega) (by decide) dX0_firstIn_28 ?_
    refine lv_goto (tgt := 33) hx hb dX0_firstIn_29 (by decide) ?_
    exact eI B hP hS ((congrArg (fun (u : Int32) => u) hf).symm) rfl dX0_firstIn_33
def f_X0_firstIn_qo (qo : Nat → Int32) (qfi : Nat) (qsz : Nat) : Int32 :=
  if qsz = 0 then -1 else qo qfi
set_option maxHeartbeats 4000000 in
set_option maxRecDepth 100000 in
theorem c_X0_firstIn_qo (l : Launch) (D : va_G) (cI cZ : ClassId) (ad : Nat → Nat) (rc rl rh fr fw fc fg ps pg pr pd qp qt qf qo ct : Nat → Int32) (cand : Int32) (lim : Int32) (now : Int32) (was : Int32) (sent : Nat) (qfi : Nat) (qsz : Nat) (hqfi : qfi ≤ 199) (hqsz : qsz ≤ 200) : MI l yX0_firstIn cX0_firstIn 2 .int { frames := 0, cells := 0, slots := 0, locals := 0 } D (TY cI cZ) [.ref (ad 15), .ref (ad 19)] (wC cI ad rc rl rh fr fw fc fg ps pg pr pd qp qt qf qo ct cand lim now was (nI sent) (nI qfi) (nI qsz)) (wC cI ad rc rl rh fr fw fc fg ps pg pr pd qp qt qf qo ct cand lim now was (nI sent) (nI qfi) (nI qsz)) (f_X0_firstIn_qo qo qfi qsz) := by
  refine MI.mk ⟨rfl, rfl⟩ (by decide +kernel) (Nat.le_of_ble_eq_true rfl) ?_
  intro p e s m below meth c A ls B hA hP hD hS hl
  have hx := B.1
  have hb := B.2.1
  have hts := B.2.2.2.2.2.1
  have hN := B.2.2.2.2.2.2.2.1
  have hK := B.2.2.2.2.2.2.2.2.1
  have hl : lv_has ls 2 [(0, .ref (ad 15)), (1, .ref (ad 19))] := hl
  have hf := f_X0_firstIn_qo.eq_1 qo qfi qsz
  refine lv_aload_n hx hb dX0_firstIn_0 rfl (lv_at hl 0 rfl) ?_
  refine g_X0_24 B hP 15 rfl rfl dX0_firstIn_1 ?_
  refine r_if_le (tgt := 32) hx hb (by omega) dX0_firstIn_4 (by decide) (fun c1 => ?_) (fun c1 => ?_)
  · have hf := hf.trans (if_pos c1)
    refine lv_iconst (v := -1) hx hb dX0_firstIn_32 (by decide) ?_
    exact eI B hP hS ((congrArg (fun (u : Int32) => u) hf).symm) rfl dX0_firstIn_33
  · have hf := hf.trans (if_neg c1)
    refine lv_aload_n hx hb dX0_firstIn_7 rfl (lv_at hl 0 rfl) ?_
    refine g_X0_28 B hP 15 rfl rfl dX0_firstIn_8 ?_
    refine r_if_lt (tgt := 32) hx hb (by omega) dX0_firstIn_11 (by decide) ?_
    refine lv_aload_n hx hb dX0_firstIn_14 rfl (lv_at hl 0 rfl) ?_
    refine g_X0_28 B hP 15 rfl rfl dX0_firstIn_15 ?_
    refine lv_aload_n hx hb dX0_firstIn_18 rfl (lv_at hl 1 rfl) ?_
    refine va_alen (v := nI 200) hx hb hK hP 19 0 rfl rfl rfl dX0_firstIn_19 ?_
    refine r_icmp_ge (tgt := 32) hx hb (by omega) (by omega) dX0_firstIn_20 (by decide) (fun c => absurd c (by omega)) (fun _ => ?_)
    refine lv_aload_n hx hb dX0_firstIn_23 rfl (lv_at hl 1 rfl) ?_
    refine lv_aload_n hx hb dX0_firstIn_24 rfl (lv_at hl 0 rfl) ?_
    refine g_X0_28 B hP 15 rfl rfl dX0_firstIn_25 ?_
    refine r_iald hx hb hK hP 19 0 rfl rfl (by omega) (by decide) dX0_firstIn_28 ?_
    refine lv_goto (tgt := 33) hx hb dX0_firstIn_29 (by decide) ?_
    exact eI B hP hS ((congrArg (fun (u : Int32) => u) hf).symm) rfl dX0_firstIn_33
set_option maxHeartbeats 4000000 in
set_option maxRecDepth 100000 in
theorem c_X0_firstPacket (l : Launch) (D : va_G) (cI cZ : ClassId) (ad : Nat → Nat) (rc rl rh fr fw fc fg ps pg pr pd qp qt qf qo ct : Nat → Int32) (cand : Int32) (lim : Int32) (now : Int32) (was : Int32) (sent : Nat) (qfi : Nat) (qsz : Nat) (hqfi : qfi ≤ 199) (hqsz : qsz ≤ 200) : MI l yX0_firstPacket cX0_firstPacket 1 .int { frames := 1, cells := 0, slots := 0, locals := 21 } D (TY cI cZ) [.ref (ad 15)] (wC cI ad rc rl rh fr fw fc fg ps pg pr pd qp qt qf qo ct cand lim now was (nI sent) (nI qfi) (nI qsz)) (wC cI ad rc rl rh fr fw fc fg ps pg pr pd qp qt qf qo ct cand lim now was (nI sent) (nI qfi) (nI qsz)) (f_X0_firstIn_qp qp qfi qsz) := by
  refine MI.mk ⟨rfl, rfl⟩ (by decide +kernel) (Nat.le_of_ble_eq_true rfl) ?_
  intro p e s m below meth c A ls B hA hP hD hS hl
  have hx := B.1
  have hb := B.2.1
  have hts := B.2.2.2.2.2.1
  have hN := B.2.2.2.2.2.2.2.1
  have hK := B.2.2.2.2.2.2.2.2.1
  have hl : lv_has ls 1 [(0, .ref (ad 15))] := hl
  refine lv_aload_n hx hb dX0_firstPacket_0 rfl (lv_at hl 0 rfl) ?_
  refine lv_aload_n hx hb dX0_firstPacket_1 rfl (lv_at hl 0 rfl) ?_
  refine g_X0_9 B hP 15 rfl rfl dX0_firstPacket_2 ?_
  refine fV_i (ci := 0) (as := [.ref (ad 16)]) (rest := []) B hl.1 (c_X0_firstIn_qp l D cI cZ ad rc rl rh fr fw fc fg ps pg pr pd qp qt qf qo ct cand lim now was sent qfi qsz (by omega) (by omega)) rfl (l_RX0_31 hts ⟨rfl, rfl⟩ ⟨Nat.le_of_ble_eq_true rfl, Nat.le_of_ble_eq_true rfl⟩) m_23_20 m_23_21 rfl rfl hP hD hS hA 15 rfl rfl (Nat.le_of_ble_eq_true rfl) dX0_firstPacket_5 (fun H locs hP hD hS => ?_)
  exact eI B hP hS rfl rfl dX0_firstPacket_8
set_option maxHeartbeats 4000000 in
set_option maxRecDepth 100000 in
theorem c_X0_firstTree (l : Launch) (D : va_G) (cI cZ : ClassId) (ad : Nat → Nat) (rc rl rh fr fw fc fg ps pg pr pd qp qt qf qo ct : Nat → Int32) (cand : Int32) (lim : Int32) (now : Int32) (was : Int32) (sent : Nat) (qfi : Nat) (qsz : Nat) (hqfi : qfi ≤ 199) (hqsz : qsz ≤ 200) : MI l yX0_firstTree cX0_firstTree 1 .int { frames := 1, cells := 0, slots := 0, locals := 21 } D (TY cI cZ) [.ref (ad 15)] (wC cI ad rc rl rh fr fw fc fg ps pg pr pd qp qt qf qo ct cand lim now was (nI sent) (nI qfi) (nI qsz)) (wC cI ad rc rl rh fr fw fc fg ps pg pr pd qp qt qf qo ct cand lim now was (nI sent) (nI qfi) (nI qsz)) (f_X0_firstIn_qt qt qfi qsz) := by
  refine MI.mk ⟨rfl, rfl⟩ (by decide +kernel) (Nat.le_of_ble_eq_true rfl) ?_
  intro p e s m below meth c A ls B hA hP hD hS hl
  have hx := B.1
  have hb := B.2.1
  have hts := B.2.2.2.2.2.1
  have hN := B.2.2.2.2.2.2.2.1
  have hK := B.2.2.2.2.2.2.2.2.1
  have hl : lv_has ls 1 [(0, .ref (ad 15))] := hl
  refine lv_aload_n hx hb dX0_firstTree_0 rfl (lv_at hl 0 rfl) ?_
  refine lv_aload_n hx hb dX0_firstTree_1 rfl (lv_at hl 0 rfl) ?_
  refine g_X0_15 B hP 15 rfl rfl dX0_firstTree_2 ?_
  refine fV_i (ci := 0) (as := [.ref (ad 17)]) (rest := []) B hl.1 (c_X0_firstIn_qt l D cI cZ ad rc rl rh fr fw fc fg ps pg pr pd qp qt qf qo ct cand lim now was sent qfi qsz (by omega) (by omega)) rfl (l_RX0_31 hts ⟨rfl, rfl⟩ ⟨Nat.le_of_ble_eq_true rfl, Nat.le_of_ble_eq_true rfl⟩) m_23_20 m_23_21 rfl rfl hP hD hS hA 15 rfl rfl (Nat.le_of_ble_eq_true rfl) dX0_firstTree_5 (fun H locs hP hD hS => ?_)
  exact eI B hP hS rfl rfl dX0_firstTree_8
set_option maxHeartbeats 4000000 in
set_option maxRecDepth 100000 in
theorem c_X0_firstFrom (l : Launch) (D : va_G) (cI cZ : ClassId) (ad : Nat → Nat) (rc rl rh fr fw fc fg ps pg pr pd qp qt qf qo ct : Nat → Int32) (cand : Int32) (lim : Int32) (now : Int32) (was : Int32) (sent : Nat) (qfi : Nat) (qsz : Nat) (hqfi : qfi ≤ 199) (hqsz : qsz ≤ 200) : MI l yX0_firstFrom cX0_firstFrom 1 .int { frames := 1, cells := 0, slots := 0, locals := 21 } D (TY cI cZ) [.ref (ad 15)] (wC cI ad rc rl rh fr fw fc fg ps pg pr pd qp qt qf qo ct cand lim now was (nI sent) (nI qfi) (nI qsz)) (wC cI ad rc rl rh fr fw fc fg ps pg pr pd qp qt qf qo ct cand lim now was (nI sent) (nI qfi) (nI qsz)) (f_X0_firstIn_qf qf qfi qsz) := by
  refine MI.mk ⟨rfl, rfl⟩ (by decide +kernel) (Nat.le_of_ble_eq_true rfl) ?_
  intro p e s m below meth c A ls B hA hP hD hS hl
  have hx := B.1
  have hb := B.2.1
  have hts := B.2.2.2.2.2.1
  have hN := B.2.2.2.2.2.2.2.1
  have hK := B.2.2.2.2.2.2.2.2.1
  have hl : lv_has ls 1 [(0, .ref (ad 15))] := hl
  refine lv_aload_n hx hb dX0_firstFrom_0 rfl (lv_at hl 0 rfl) ?_
  refine lv_aload_n hx hb dX0_firstFrom_1 rfl (lv_at hl 0 rfl) ?_
  refine g_X0_18 B hP 15 rfl rfl dX0_firstFrom_2 ?_
  refine fV_i (ci := 0) (as := [.ref (ad 18)]) (rest := []) B hl.1 (c_X0_firstIn_qf l D cI cZ ad rc rl rh fr fw fc fg ps pg pr pd qp qt qf qo ct cand lim now was sent qfi qsz (by omega) (by omega)) rfl (l_RX0_31 hts ⟨rfl, rfl⟩ ⟨Nat.le_of_ble_eq_true rfl, Nat.le_of_ble_eq_true rfl⟩) m_23_20 m_23_21 rfl rfl hP hD hS hA 15 rfl rfl (Nat.le_of_ble_eq_true rfl) dX0_firstFrom_5 (fun H locs hP hD hS => ?_)
  exact eI B hP hS rfl rfl dX0_firstFrom_8
set_option maxHeartbeats 4000000 in
set_option maxRecDepth 100000 in
theorem c_X0_firstTo (l : Launch) (D : va_G) (cI cZ : ClassId) (ad : Nat → Nat) (rc rl rh fr fw fc fg ps pg pr pd qp qt qf qo ct : Nat → Int32) (cand : Int32) (lim : Int32) (now : Int32) (was : Int32) (sent : Nat) (qfi : Nat) (qsz : Nat) (hqfi : qfi ≤ 199) (hqsz : qsz ≤ 200) : MI l yX0_firstTo cX0_firstTo 1 .int { frames := 1, cells := 0, slots := 0, locals := 21 } D (TY cI cZ) [.ref (ad 15)] (wC cI ad rc rl rh fr fw fc fg ps pg pr pd qp qt qf qo ct cand lim now was (nI sent) (nI qfi) (nI qsz)) (wC cI ad rc rl rh fr fw fc fg ps pg pr pd qp qt qf qo ct cand lim now was (nI sent) (nI qfi) (nI qsz)) (f_X0_firstIn_qo qo qfi qsz) := by
  refine MI.mk ⟨rfl, rfl⟩ (by decide +kernel) (Nat.le_of_ble_eq_true rfl) ?_
  intro p e s m below meth c A ls B hA hP hD hS hl
  have hx := B.1
  have hb := B.2.1
  have hts := B.2.2.2.2.2.1
  have hN := B.2.2.2.2.2.2.2.1
  have hK := B.2.2.2.2.2.2.2.2.1
  have hl : lv_has ls 1 [(0, .ref (ad 15))] := hl
  refine lv_aload_n hx hb dX0_firstTo_0 rfl (lv_at hl 0 rfl) ?_
  refine lv_aload_n hx hb dX0_firstTo_1 rfl (lv_at hl 0 rfl) ?_
  refine g_X0_21 B hP 15 rfl rfl dX0_firstTo_2 ?_
  refine fV_i (ci := 0) (as := [.ref (ad 19)]) (rest := []) B hl.1 (c_X0_firstIn_qo l D cI cZ ad rc rl rh fr fw fc fg ps pg pr pd qp qt qf qo ct cand lim now was sent qfi qsz (by omega) (by omega)) rfl (l_RX0_31 hts ⟨rfl, rfl⟩ ⟨Nat.le_of_ble_eq_true rfl, Nat.le_of_ble_eq_true rfl⟩) m_23_20 m_23_21 rfl rfl hP hD hS hA 15 rfl rfl (Nat.le_of_ble_eq_true rfl) dX0_firstTo_5 (fun H locs hP hD hS => ?_)
  exact eI B hP hS rfl rfl dX0_firstTo_8
end
