/-! base: one word list for every method, a contract's start and end, calls -/
theorem ga_0 : wsL_law0.all goodWord = true := by decide +kernel
theorem ga_law : ∀ w ∈ wsL_law, goodWord w = true := by
  intro w h
  rcases List.mem_append.mp h with h | h
  · rcases List.mem_append.mp h with h | h
    · rcases List.mem_append.mp h with h | h
      · exact List.all_eq_true.mp ga_0 w h
      · exact (List.mem_filter.mp h).2
    · exact (List.mem_filter.mp h).2
  · exact (List.mem_filter.mp h).2
def WS (y : MethodName) (b : ByteArray) (n : Nat) (r : Option FieldType) : List Cond := .code y b n r :: wsL_law
theorem gd {y : MethodName} {b : ByteArray} {n : Nat} {r : Option FieldType} (h : Cond.code y b n r ∈ wsL_law) : GoodIn wsL_law (WS y b n r) :=
  fun w hw => (List.mem_cons.mp hw).elim (fun e => e ▸ ⟨h, good_of_word (ga_law _ h)⟩) (fun h => ⟨h, good_of_word (ga_law _ h)⟩)
/-- the links between nest mates -/
def NWl : List Cond := [.methodLinkNest RX2 30 yX5_sourceTree RX5, .methodLinkNest RX2 38 yX5_isTree RX5, .methodLinkNest RX5 25 yX3_init RX5, .methodLinkNest RX5 32 yX0_init RX5, .methodLinkNest RX5 39 yX1_init RX5, .methodLinkNest RX3 36 yX5_isRouter RX5, .methodLinkNest RX3 39 yX5_bit RX5, .methodLinkNest RX1 29 yX5_isRouter RX5, .methodLinkNest RX1 33 yX5_isGroup RX5, .methodLinkNest RX2 42 yX5_isRouter RX5, .methodLinkNest RX2 45 yX5_bit RX5, .methodLinkNest RX2 57 yX5_has RX5]
def NW (U : State) : Prop := ∀ w ∈ NWl, va_Nw w U
theorem NW.warm {s U : State} (hW : s.WarmedH U.vm) (h : NW s) : NW U := by
  intro w hw
  have h1 := h w hw
  simp only [NWl, List.mem_cons, List.not_mem_nil, or_false] at hw
  rcases hw with rfl | rfl | rfl | rfl | rfl | rfl | rfl | rfl | rfl | rfl | rfl | rfl <;> exact va_Nw.warmM hW h1
theorem NW.same {u U : State} (hv : u.vm = U.vm) (h : NW u) : NW U := by
  intro w hw
  have h1 := h w hw
  simp only [NWl, List.mem_cons, List.not_mem_nil, or_false] at hw
  rcases hw with rfl | rfl | rfl | rfl | rfl | rfl | rfl | rfl | rfl | rfl | rfl | rfl <;> exact va_Nw.same rfl hv h1
/-- the world at a method's start -/
def cPre (D : va_G) (tys : List (ClassId × FieldType)) (ws : va_W) (sz : Nat) (U : State) : Prop :=
  U.heap.size = sz ∧ va_P D vwCl ws U.heap ∧ va_K D vwCl tys U ∧ va_D (fun _ => True) ws ∧ NW U
theorem cPre_blind (as : List Value) (D : va_G) (tys : List (ClassId × FieldType)) (ws : va_W) (sz : Nat) : FrameBlind (va_Pc as (cPre D tys ws sz)) :=
  fun a U g mk h => ⟨h.1, h.2.1, h.2.2.1, va_K.moved (u := U) (U := U.calling g mk a) (Vm.Alike.refl U.vm) h.2.2.2.1, h.2.2.2.2.1, NW.same (u := U) (U := U.calling g mk a) rfl h.2.2.2.2.2⟩
/-- an int method's contract: it answers rv, its world ws becomes ws' -/
def MI (l : Launch) (y : MethodName) (b : ByteArray) (n : Nat) (rt : FieldType) (rm : Room) (D : va_G) (tys : List (ClassId × FieldType)) (as : List Value) (ws ws' : va_W) (rv : Int32) : Prop :=
  ∀ sz, Met l y (WS y b n (some rt)) rm (va_Pc as (cPre D tys ws sz)) (va_Qi (fun (r : Int32) (_ : Unit) => r = rv) (fun _ t => va_P D vwCl ws' t.heap) (va_A ws sz)) 0 0 (va_A ws sz)
/-- a void method's contract -/
def MV (l : Launch) (y : MethodName) (b : ByteArray) (n : Nat) (rm : Room) (D : va_G) (tys : List (ClassId × FieldType)) (as : List Value) (ws ws' : va_W) : Prop :=
  ∀ sz, Met l y (WS y b n none) rm (va_Pc as (cPre D tys ws sz)) (va_Qv (fun (_ : Unit) => True) (fun _ t => va_P D vwCl ws' t.heap) (va_A ws sz)) 0 0 (va_A ws sz)
/-- what stands during a body -/
def Bd (p : Program) (s : State) (m : MethodId) (meth : Method) (c : Code) (b : ByteArray) (n : Nat) (rt : Option FieldType) (own : String) (D : va_G) (tys : List (ClassId × FieldType)) (as : List Value) : Prop :=
  p.tables.exec = Jvm.exec ∧ c.code = b ∧ meth.sig.returnType = rt ∧ c.maxLocals = n ∧ s.vm.findClass own = some m.cls ∧ (∀ w ∈ wsL_law, w.before as.toArray s = true) ∧ meth.locks = false ∧ NW s ∧ va_K D vwCl tys s ∧ (meth.name = "<init>" ∨ True)
theorem MI.mk {l : Launch} {y : MethodName} {b : ByteArray} {n : Nat} {rt : FieldType} {rm : Room} {D : va_G} {tys : List (ClassId × FieldType)} {as : List Value} {ws ws' : va_W} {rv : Int32} (hrm : rm.cells = 0 ∧ rm.slots = 0) (hy : plainName y.cls = true) (hn : (lg_sl as).length ≤ n)
    (body : ∀ (p : Program) (e : Env) (s : State) (m : MethodId) (below : List Frame) (meth : Method) (c : Code) (A : Nat → Prop) (ls : Array Slot), Bd p s m meth c b n (some rt) y.cls D tys as → (∀ q, s.heap.size ≤ q → A q) → va_P D vwCl ws s.heap → va_D A ws → va_S A s.heap s.heap [] → lv_has ls n (lv_args 0 as) →
      W p l e rm s m as.toArray below meth c s.heap [] 0 0 (MQ below (va_Qi (fun (r : Int32) (_ : Unit) => r = rv) (fun _ t => va_P D vwCl ws' t.heap) A) as.toArray s 0 0 A) (F0 m 0 ls [])) : MI l y b n rt rm D tys as ws ws' rv := by
  intro sz
  refine Met.ofW (cc := b) (maxL := n) (ret := some rt) hy rfl ?_
  intro p e s m args below meth c s₁ B hml hv
  obtain ⟨rfl, hsz, hP, hK, hD0, hN⟩ := hv
  have hts := atoms_spec (ws := WS y b n (some rt)) B.pre
  subst hsz
  rw [lg_entry_eq]
  exact body p e s m below meth c (va_A ws s.heap.size) _ ⟨B.exec, B.bytes, B.returns, hml, findClass_of_methodNamed B.named, fun w h => hts w (List.mem_cons_of_mem _ h), B.notSynchronized, hN, hK, Or.inr trivial⟩ (fun q h => Or.inr h) hP hD0.self va_S.rf (lv_entry as hn)
theorem MV.mk {l : Launch} {y : MethodName} {b : ByteArray} {n : Nat} {rm : Room} {D : va_G} {tys : List (ClassId × FieldType)} {as : List Value} {ws ws' : va_W} (hrm : rm.cells = 0 ∧ rm.slots = 0) (hy : plainName y.cls = true) (hn : (lg_sl as).length ≤ n)
    (body : ∀ (p : Program) (e : Env) (s : State) (m : MethodId) (below : List Frame) (meth : Method) (c : Code) (A : Nat → Prop) (ls : Array Slot), Bd p s m meth c b n none y.cls D tys as → (∀ q, s.heap.size ≤ q → A q) → va_P D vwCl ws s.heap → va_D A ws → va_S A s.heap s.heap [] → lv_has ls n (lv_args 0 as) →
      W p l e rm s m as.toArray below meth c s.heap [] 0 0 (MQ below (va_Qv (fun (_ : Unit) => True) (fun _ t => va_P D vwCl ws' t.heap) A) as.toArray s 0 0 A) (F0 m 0 ls [])) : MV l y b n rm D tys as ws ws' := by
  intro sz
  refine Met.ofW (cc := b) (maxL := n) (ret := none) hy rfl ?_
  intro p e s m args below meth c s₁ B hml hv
  obtain ⟨rfl, hsz, hP, hK, hD0, hN⟩ := hv
  have hts := atoms_spec (ws := WS y b n none) B.pre
  subst hsz
  rw [lg_entry_eq]
  exact body p e s m below meth c (va_A ws s.heap.size) _ ⟨B.exec, B.bytes, B.returns, hml, findClass_of_methodNamed B.named, fun w h => hts w (List.mem_cons_of_mem _ h), B.notSynchronized, hN, hK, Or.inr trivial⟩ (fun q h => Or.inr h) hP hD0.self va_S.rf (lv_entry as hn)
/-- entries put at places -/
def putAt : va_W → List Nat → va_W → va_W
  | W, i :: is, e :: es => putAt (W.set i e) is es
  | W, _, _ => W
theorem putAt_get (is : List Nat) : ∀ (W es : va_W), va_nd is = true → is.length = es.length → (∀ i ∈ is, i < W.length) → ∀ (k : Nat) (q : Nat × va_E), (putAt W is es)[k]? = some q → (∃ j : Nat, is[j]? = some k ∧ es[j]? = some q) ∨ (k ∉ is ∧ W[k]? = some q) := by
  induction is with
  | nil => intro W es _ _ _ k q h; exact Or.inr ⟨List.not_mem_nil, by cases es <;> exact h⟩
  | cons i is ih =>
    intro W es hn hl hi k q h
    cases es with
    | nil => cases hl
    | cons e es =>
      simp only [va_nd, Bool.and_eq_true, decide_eq_true_eq] at hn
      rcases ih (W.set i e) es hn.2 (Nat.succ.inj hl) (fun j hj => by rw [List.length_set]; exact hi j (List.mem_cons_of_mem _ hj)) k q h with ⟨j, h1, h2⟩ | ⟨h1, h2⟩
      · exact Or.inl ⟨j + 1, h1, h2⟩
      · by_cases hk : k = i
        · subst hk
          rw [List.getElem?_set_self (hi k List.mem_cons_self)] at h2
          exact Or.inl ⟨0, rfl, h2⟩
        · rw [List.getElem?_set_ne (Ne.symm hk)] at h2
          exact Or.inr ⟨fun hm => (List.mem_cons.mp hm).elim hk h1, h2⟩
/-- behind a call: the callee's cells as it leaves them, the others as they were -/
theorem x_put {D : va_G} {W ws ws' : va_W} {is : List Nat} {H H1 : Heap} {A0 : Nat → Prop} (hP : va_P D vwCl W H) (hD : va_D A0 W) (hC : is.map (fun i => W[i]?) = ws.map some) (hf : ws'.map Prod.fst = ws.map Prod.fst) (hn : va_nd is = true)
    (hk : ∀ q : Nat, q < H.size → ¬ va_A ws H.size q → H1[q]? = H[q]?) (hP1 : va_P D vwCl ws' H1) : va_P D vwCl (putAt W is ws') H1 ∧ va_D A0 (putAt W is ws') := by
  have hlen : is.length = ws.length := by have := congrArg List.length hC; simpa using this
  have hlen' : ws'.length = ws.length := by have := congrArg List.length hf; simpa using this
  have at' : ∀ (j : Nat) (q : Nat × va_E), ws[j]? = some q → ∃ i, is[j]? = some i ∧ W[i]? = some q := by
    intro j q hq
    have h1 : (is.map (fun i => W[i]?))[j]? = some (some q) := by rw [hC, List.getElem?_map, hq]; rfl
    rw [List.getElem?_map] at h1
    cases hi : is[j]? with
    | none => rw [hi] at h1; cases h1
    | some i => rw [hi] at h1; exact ⟨i, rfl, Option.some.inj h1⟩
  have back : ∀ (j k : Nat), is[j]? = some k → ∃ q, ws[j]? = some q ∧ W[k]? = some q := by
    intro j k hj
    have hl : j < ws.length := by rw [← hlen]; exact (List.getElem?_eq_some_iff.mp hj).1
    obtain ⟨i, h1, h2⟩ := at' j ws[j] (List.getElem?_eq_getElem hl)
    rw [hj] at h1
    cases h1
    exact ⟨_, List.getElem?_eq_getElem hl, h2⟩
  have hin : ∀ i ∈ is, i < W.length := by
    intro i hi
    obtain ⟨j, hj⟩ := List.getElem?_of_mem hi
    obtain ⟨q, -, h⟩ := back j i hj
    exact (List.getElem?_eq_some_iff.mp h).1
  have fst' : ∀ (j : Nat) (q q' : Nat × va_E), ws[j]? = some q → ws'[j]? = some q' → q'.1 = q.1 := by
    intro j q q' h1 h2
    have e : (ws'.map Prod.fst)[j]? = (ws.map Prod.fst)[j]? := by rw [hf]
    rw [List.getElem?_map, List.getElem?_map, h1, h2] at e
    exact Option.some.inj e
  have key := putAt_get is W ws' hn (by rw [hlen, hlen']) hin
  refine ⟨fun k q hq => ?_, fun i j x y hx hy hxy => ?_, fun k q hq => ?_⟩
  · rcases key k q hq with ⟨j, h1, h2⟩ | ⟨h1, h2⟩
    · exact hP1 j q h2
    · have hl := (hP k q h2).lt
      refine (hP k q h2).kept (hk q.1 hl fun h => ?_)
      rcases h with ⟨j, e, h⟩ | h
      · obtain ⟨i, h3, h4⟩ := at' j (q.1, e) h
        have := hD.1 k i q (q.1, e) h2 h4 rfl
        subst this
        exact h1 (List.mem_of_getElem? h3)
      · omega
  · have un : ∀ (k : Nat) (q : Nat × va_E), (putAt W is ws')[k]? = some q → ∃ q0, W[k]? = some q0 ∧ q0.1 = q.1 := by
      intro k q hq
      rcases key k q hq with ⟨j, h1, h2⟩ | ⟨-, h2⟩
      · obtain ⟨q0, h3, h4⟩ := back j k h1
        exact ⟨q0, h4, (fst' j q0 q h3 h2).symm⟩
      · exact ⟨q, h2, rfl⟩
    obtain ⟨x0, a1, a2⟩ := un i x hx
    obtain ⟨y0, b1, b2⟩ := un j y hy
    exact hD.1 i j x0 y0 a1 b1 (a2.trans (hxy.trans b2.symm))
  · rcases key k q hq with ⟨j, h1, h2⟩ | ⟨-, h2⟩
    · obtain ⟨q0, h3, h4⟩ := back j k h1
      rw [fst' j q0 q h3 h2]
      exact hD.2 k q0 h4
    · exact hD.2 k q h2
section XC
variable {p : Program} {l : Launch} {e : Env} {R : Room} {s : State} {m : MethodId} {args : Array Value} {below : List Frame} {meth : Method} {c : Code} {H : Heap} {locs : List Loc} {cells slots : Nat} {Q : State → Prop}
variable {cc : ByteArray} {nL pc : Nat} {ls : Array Slot} {D : va_G} {A0 : Nat → Prop} {tys : List (ClassId × FieldType)} {W0 ws ws' : va_W} {H0 : Heap} {own : String}
variable {y : MethodName} {b : ByteArray} {n index : Nat} {rt : FieldType} {rm : Room} {as rest : List Value} {rv : Int32}
/-- the callee's words, all but its link -/
theorem x_cb (hrm : rm.cells = 0 ∧ rm.slots = 0) (k : Nat) (ht : ∀ w ∈ wsL_law, w.before args s = true) {r : Option FieldType} (hcode : Cond.code y b n r ∈ wsL_law) (hini : Cond.initialized y.cls ∈ wsL_law) (hl : Cond.methodLink own index y ∈ wsL_law)
    (hd : y.cls ≠ "java/lang/invoke/MethodHandle" ∧ y.cls ≠ "java/lang/invoke/VarHandle" ∧ (parseMethodDescriptor y.desc).map (fun d => d.parameters.length) = some k) (hR : rm.frames + 1 ≤ R.frames ∧ 8 + (n + 11) + rm.locals ≤ R.locals) :
    CallB R s args own index y b n r (WS y b n r) rm 0 0 k := callB_of k ht (gd hcode) rfl hrm.1 hrm.2 (ht _ hini) (ht _ hl) hd hR
theorem x_pre (hP : va_P D vwCl W0 H) (hD : va_D A0 W0) (hK : va_K D vwCl tys s) (hN : NW s) (is : List Nat) (hC : is.map (fun i => W0[i]?) = ws.map some) (hn : va_nd is = true) (hfm : is.filterMap (fun i => W0[i]?) = ws) :
    ∀ U : State, U.heap = H → s.WarmedH U.vm → cPre D tys ws H.size U := fun U hU hW => ⟨by rw [hU], by rw [hU]; exact hP.sub is hfm, va_K.moved hW.alike hK, (hD.sub is hn hC).weaken (fun _ _ _ _ => trivial), NW.warm hW hN⟩
theorem fm_of {is : List Nat} {W ws : va_W} (hC : is.map (fun i => W[i]?) = ws.map some) : is.filterMap (fun i => W[i]?) = ws := by
  have h : is.filterMap (fun i => W[i]?) = (is.map (fun i => W[i]?)).filterMap id := by rw [List.filterMap_map]; rfl
  rw [h, hC, List.filterMap_map]
  exact List.filterMap_some
theorem x_goi {free' : Addr → Prop} {mc ms : Nat} (hr : va_Run p l e R s m args below meth c H locs cells slots mc ms (F0 m pc ls (as.reverse ++ rest)) rest (va_Qi (fun (r : Int32) (_ : Unit) => r = rv) (fun _ t => va_P D vwCl ws' t.heap) (va_A ws H.size) as.toArray) (va_A ws H.size)) (hmc : mc = 0) (hms : ms = 0)
    (hP : va_P D vwCl W0 H) (hD : va_D A0 W0) (hS : va_S A0 H0 H locs) (hA : ∀ q, H0.size ≤ q → A0 q) (is : List Nat) (hC : is.map (fun i => W0[i]?) = ws.map some) (hf : ws'.map Prod.fst = ws.map Prod.fst) (hn : va_nd is = true)
    (kk : ∀ (H1 : Heap) (locs1 : List Loc), va_P D vwCl (putAt W0 is ws') H1 → va_D A0 (putAt W0 is ws') → va_S A0 H0 H1 locs1 → W p l e R s m args below meth c H1 locs1 cells slots Q (F0 m (pc + 3) ls (.int rv :: rest))) :
    W p l e R s m args below meth c H locs cells slots Q (F0 m pc ls (as.reverse ++ rest)) := by
  subst hmc; subst hms
  have hF := va_free (wc := ws) hD hS hA is hC
  refine va_calli hr hS (fun q _ h => hF q h) hF (fun r u t H1 locs1 ht hvm hw hB hz hk hS1 => ?_)
  rw [ht] at hB
  subst hw
  obtain ⟨hP1, hD1⟩ := x_put hP hD hC hf hn hk hB
  exact kk H1 locs1 hP1 hD1 hS1
theorem x_gov {mc ms : Nat} (hr : va_Run p l e R s m args below meth c H locs cells slots mc ms (F0 m pc ls (as.reverse ++ rest)) rest (va_Qv (fun (_ : Unit) => True) (fun _ t => va_P D vwCl ws' t.heap) (va_A ws H.size) as.toArray) (va_A ws H.size)) (hmc : mc = 0) (hms : ms = 0)
    (hP : va_P D vwCl W0 H) (hD : va_D A0 W0) (hS : va_S A0 H0 H locs) (hA : ∀ q, H0.size ≤ q → A0 q) (is : List Nat) (hC : is.map (fun i => W0[i]?) = ws.map some) (hf : ws'.map Prod.fst = ws.map Prod.fst) (hn : va_nd is = true)
    (kk : ∀ (H1 : Heap) (locs1 : List Loc), va_P D vwCl (putAt W0 is ws') H1 → va_D A0 (putAt W0 is ws') → va_S A0 H0 H1 locs1 → W p l e R s m args below meth c H1 locs1 cells slots Q (F0 m (pc + 3) ls rest)) :
    W p l e R s m args below meth c H locs cells slots Q (F0 m pc ls (as.reverse ++ rest)) := by
  subst hmc; subst hms
  have hF := va_free (wc := ws) hD hS hA is hC
  refine va_callv hr hS (fun q _ h => hF q h) hF (fun u t H1 locs1 ht hvm hw hB hz hk hS1 => ?_)
  rw [ht] at hB
  obtain ⟨hP1, hD1⟩ := x_put hP hD hC hf hn hk hB
  exact kk H1 locs1 hP1 hD1 hS1
end XC
