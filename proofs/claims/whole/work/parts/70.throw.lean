/-! throws: what they stand on; a throw; a callee that throws -/
def XW (X : String) : List Cond := [.declares (Bundle.initS "java/lang/RuntimeException"), .declares (Bundle.initS "java/lang/Exception"), .declares (Bundle.initS Bundle.tN), .castable X X]
def XN : List String := ["java/lang/RuntimeException", "java/lang/Exception"]
theorem XW_warm {X : String} {s U : State} (hW : s.WarmedH U.vm) (h : ∀ w ∈ XW X, w.before #[] s = true) : ∀ w ∈ XW X, w.before #[] U = true := by
  intro w hw
  have h1 := h w hw
  have e : (s.setVm U.vm).vm = U.vm := rfl
  simp only [XW, List.mem_cons, List.not_mem_nil, or_false] at hw
  rcases hw with rfl | rfl | rfl | rfl
  · exact va_tabs rfl e (by rw [Cond.declares_setVm hW.alike]; exact h1)
  · exact va_tabs rfl e (by rw [Cond.declares_setVm hW.alike]; exact h1)
  · exact va_tabs rfl e (by rw [Cond.declares_setVm hW.alike]; exact h1)
  · exact va_tabs rfl e (by rw [Cond.castable_setVm hW.alike]; exact h1)
theorem XW_same {X : String} {s U : State} {A A' : Array Value} (hv : s.vm = U.vm) (h : ∀ w ∈ XW X, w.before A s = true) : ∀ w ∈ XW X, w.before A' U = true := by
  intro w hw
  have h1 := h w hw
  simp only [XW, List.mem_cons, List.not_mem_nil, or_false] at hw
  rcases hw with rfl | rfl | rfl | rfl <;> exact va_tabs rfl hv h1
def XT : List (Nat × String) := [(54, "no such link or cost"), (92, "no such limit"), (111, "a member already"), (126, "no member"), (154, "200 packets were sent"), (206, "no such number of seconds"), (249, "no such packet"), (255, "no such router"), (260, "no such group")]
def XX : List (String × Nat) := [("java/lang/IllegalArgumentException", 56), ("java/lang/IndexOutOfBoundsException", 251), ("java/lang/IllegalStateException", 113)]
def XQ (A : Nat → Prop) (U : State) (H : Heap) : Prop :=
  vx_Zq Bundle.tN "UNASSIGNED_STACK" Bundle.steD A U H ∧ vx_Zq Bundle.tN "SUPPRESSED_SENTINEL" Bundle.listD A U H ∧ (∀ q ∈ XT, ∃ sa, vk_R RX5 q.1 q.2 sa U) ∧ ∀ q ∈ XX, ∀ w ∈ XW q.1, w.before #[] U = true
theorem XQ.kept {A : Nat → Prop} {U : State} {H H1 : Heap} (h : XQ A U H) (hq : ∀ a : Nat, a < H.size → ¬ A a → H1[a]? = H[a]?) : XQ A U H1 := ⟨h.1.kept hq, h.2.1.kept hq, h.2.2⟩
theorem XQ.narrow {A B : Nat → Prop} {U : State} {H : Heap} (h : XQ A U H) (hAB : ∀ q, B q → A q) : XQ B U H := ⟨h.1.narrow hAB, h.2.1.narrow hAB, h.2.2⟩
theorem XQ.warm {A : Nat → Prop} {s U : State} {H : Heap} (hW : s.WarmedH U.vm) (h : XQ A s H) : XQ A U H :=
  ⟨vx_Zq.moved hW.alike h.1, vx_Zq.moved hW.alike h.2.1, fun q hq => by obtain ⟨sa, h1⟩ := h.2.2.1 q hq; exact ⟨sa, vk_R.warm hW h1⟩, fun q hq => XW_warm hW (h.2.2.2 q hq)⟩
theorem XQ.same {A : Nat → Prop} {u U : State} {H : Heap} (hv : u.vm = U.vm) (h : XQ A u H) : XQ A U H :=
  ⟨vx_Zq.moved (by rw [hv]; exact Vm.Alike.refl U.vm) h.1, vx_Zq.moved (by rw [hv]; exact Vm.Alike.refl U.vm) h.2.1, fun q hq => by obtain ⟨sa, h1⟩ := h.2.2.1 q hq; exact ⟨sa, vk_R.same hv.symm h1⟩, fun q hq => XW_same hv (h.2.2.2 q hq)⟩
/-- the words of a throw of X -/
theorem xw_all : XX.all (fun q => ((vx_atS RX5 q.2 q.1 XN).filter (fun w => !goodWord w)).all (fun w => decide (w ∈ XW q.1)) && (vx_atS RX5 q.2 q.1 XN).all vx_ot) = true := by decide +kernel
theorem xw_in : ∀ q ∈ XX, ∀ w ∈ (vx_atS RX5 q.2 q.1 XN).filter goodWord, w ∈ wsL_law := by
  intro q hq
  simp only [XX, List.mem_cons, List.not_mem_nil, or_false] at hq
  rcases hq with rfl | rfl | rfl
  · exact fun w h => List.mem_append_left _ (List.mem_append_left _ (List.mem_append_right _ h))
  · exact fun w h => List.mem_append_left _ (List.mem_append_right _ h)
  · exact fun w h => List.mem_append_right _ h
theorem xw_at {q : String × Nat} (hq : q ∈ XX) {args : Array Value} {s : State} (ht : ∀ w ∈ wsL_law, w.before args s = true) (hX : ∀ w ∈ XW q.1, w.before #[] s = true) : ∀ w ∈ vx_atS RX5 q.2 q.1 XN, w.before args s = true := by
  have h := List.all_eq_true.mp xw_all q hq
  rw [Bool.and_eq_true] at h
  exact vx_hat (B := XW q.1) (fun w hw => ht w (xw_in q hq w hw)) (fun w hw => of_decide_eq_true (List.all_eq_true.mp h.1 w hw)) (XW_same rfl hX)
def xPre (D : va_G) (tys : List (ClassId × FieldType)) (ws : va_W) (sz : Nat) (U : State) : Prop := cPre D tys ws sz U ∧ XQ (va_A ws sz) U U.heap
theorem xPre_blind (as : List Value) (D : va_G) (tys : List (ClassId × FieldType)) (ws : va_W) (sz : Nat) : FrameBlind (va_Pc as (xPre D tys ws sz)) :=
  fun a U g mk h => ⟨h.1, (cPre_blind as D tys ws sz a U g mk ⟨h.1, h.2.1⟩).2, XQ.same (u := U) (U := U.calling g mk a) rfl h.2.2⟩
abbrev XC (D : va_G) (ws : va_W) (E : String) (A : Nat → Prop) : String → State → State → Prop := vx_X (fun (_ : Unit) => True) (fun E' _ t => E' = E ∧ va_P D vwCl ws t.heap) A
/-- an int method that throws E -/
def MXi (l : Launch) (y : MethodName) (b : ByteArray) (n : Nat) (rt : FieldType) (rm : Room) (D : va_G) (tys : List (ClassId × FieldType)) (as : List Value) (ws : va_W) (E : String) : Prop :=
  ∀ sz, vx_Met l y (WS y b n (some rt)) rm (va_Pc as (xPre D tys ws sz)) (va_Qi (fun (_ : Int32) (_ : Unit) => False) (fun _ _ => True) (va_A ws sz)) (XC D ws E (va_A ws sz)) 1 6 (va_A ws sz)
/-- a void method that throws E -/
def MXv (l : Launch) (y : MethodName) (b : ByteArray) (n : Nat) (rm : Room) (D : va_G) (tys : List (ClassId × FieldType)) (as : List Value) (ws : va_W) (E : String) : Prop :=
  ∀ sz, vx_Met l y (WS y b n none) rm (va_Pc as (xPre D tys ws sz)) (va_Qv (fun (_ : Unit) => False) (fun _ _ => True) (va_A ws sz)) (XC D ws E (va_A ws sz)) 1 6 (va_A ws sz)
abbrev QX (below : List Frame) (s : State) (A : Nat → Prop) (D : va_G) (asM : List Value) (Qc : Array Value → State → Outcome → State → Prop) (ws : va_W) (E : String) : State → Prop := vx_MQ below Qc (XC D ws E A) asM.toArray s 1 6 A
theorem MXi.mk {l : Launch} {y : MethodName} {b : ByteArray} {n : Nat} {rt : FieldType} {rm : Room} {D : va_G} {tys : List (ClassId × FieldType)} {as : List Value} {ws : va_W} {E : String} (hy : plainName y.cls = true) (hn : (lg_sl as).length ≤ n)
    (body : ∀ (p : Program) (e : Env) (s : State) (m : MethodId) (below : List Frame) (meth : Method) (c : Code) (A : Nat → Prop) (ls : Array Slot), Bd p s m meth c b n (some rt) y.cls D tys as → (∀ x ∈ c.exceptionTable.toList, False) → XQ A s s.heap → (∀ q, s.heap.size ≤ q → A q) → va_P D vwCl ws s.heap → va_D A ws → va_S A s.heap s.heap [] → lv_has ls n (lv_args 0 as) →
      W p l e rm s m as.toArray below meth c s.heap [] 0 0 (QX below s A D as (va_Qi (fun (_ : Int32) (_ : Unit) => False) (fun _ _ => True) A) ws E) (F0 m 0 ls [])) : MXi l y b n rt rm D tys as ws E := by
  intro sz
  refine vx_ofW (cc := b) (maxL := n) (ret := some rt) hy rfl ?_
  intro p e s m args below meth c s₁ B hml hno hv
  obtain ⟨rfl, ⟨hsz, hP, hK, hD0, hN⟩, hX⟩ := hv
  have hts := atoms_spec (ws := WS y b n (some rt)) B.pre
  subst hsz
  rw [lg_entry_eq]
  exact body p e s m below meth c (va_A ws s.heap.size) _ ⟨B.exec, B.bytes, B.returns, hml, findClass_of_methodNamed B.named, fun w h => hts w (List.mem_cons_of_mem _ h), B.notSynchronized, hN, hK, Or.inr trivial⟩ hno hX (fun q h => Or.inr h) hP hD0.self va_S.rf (lv_entry as hn)
theorem MXv.mk {l : Launch} {y : MethodName} {b : ByteArray} {n : Nat} {rm : Room} {D : va_G} {tys : List (ClassId × FieldType)} {as : List Value} {ws : va_W} {E : String} (hy : plainName y.cls = true) (hn : (lg_sl as).length ≤ n)
    (body : ∀ (p : Program) (e : Env) (s : State) (m : MethodId) (below : List Frame) (meth : Method) (c : Code) (A : Nat → Prop) (ls : Array Slot), Bd p s m meth c b n none y.cls D tys as → (∀ x ∈ c.exceptionTable.toList, False) → XQ A s s.heap → (∀ q, s.heap.size ≤ q → A q) → va_P D vwCl ws s.heap → va_D A ws → va_S A s.heap s.heap [] → lv_has ls n (lv_args 0 as) →
      W p l e rm s m as.toArray below meth c s.heap [] 0 0 (QX below s A D as (va_Qv (fun (_ : Unit) => False) (fun _ _ => True) A) ws E) (F0 m 0 ls [])) : MXv l y b n rm D tys as ws E := by
  intro sz
  refine vx_ofW (cc := b) (maxL := n) (ret := none) hy rfl ?_
  intro p e s m args below meth c s₁ B hml hno hv
  obtain ⟨rfl, ⟨hsz, hP, hK, hD0, hN⟩, hX⟩ := hv
  have hts := atoms_spec (ws := WS y b n none) B.pre
  subst hsz
  rw [lg_entry_eq]
  exact body p e s m below meth c (va_A ws s.heap.size) _ ⟨B.exec, B.bytes, B.returns, hml, findClass_of_methodNamed B.named, fun w h => hts w (List.mem_cons_of_mem _ h), B.notSynchronized, hN, hK, Or.inr trivial⟩ hno hX (fun q h => Or.inr h) hP hD0.self va_S.rf (lv_entry as hn)
section XE
variable {p : Program} {l : Launch} {e : Env} {R : Room} {s : State} {m : MethodId} {below : List Frame} {meth : Method} {c : Code} {H : Heap} {locs : List Loc}
variable {cc : ByteArray} {nL pc : Nat} {ls : Array Slot} {D : va_G} {A0 : Nat → Prop} {tys : List (ClassId × FieldType)} {ws : va_W} {rtO : Option FieldType}
variable {y : MethodName} {b : ByteArray} {n index k : Nat} {rt : FieldType} {rm : Room} {asM as rest st : List Value} {E : String} {Qc : Array Value → State → Outcome → State → Prop}
/-- throw new E("text") -/
theorem eT (B : Bd p s m meth c cc nL rtO RX5 D tys asM) (hls : ls.size = nL) (hst : l.stackTraces = false) (hno : ∀ x ∈ c.exceptionTable.toList, False) (hX : XQ A0 s s.heap) (hP : va_P D vwCl ws H) (hS : va_S A0 s.heap H locs)
    {ik is ic : Nat} {text : String} (hq : (E, ic) ∈ XX) (ht : (is, text) ∈ XT) (hcl : Cond.classLink RX5 ik E ∈ wsL_law) (hin : Cond.initialized E ∈ wsL_law)
    (d0 : decode cc pc = .ok (.new ik, 3)) (d3 : decode cc (pc + 3) = .ok (.dup, 1)) (d4 : decode cc (pc + 4) = .ok (.ldc is, 2)) (d6 : decode cc (pc + 6) = .ok (.invokespecial ic, 3)) (d9 : decode cc (pc + 9) = .ok (.athrow, 1))
    (hw : (rest.map fun v => v.category).sum ≤ 8) (hR : 6 ≤ R.frames ∧ 90 ≤ R.locals ∧ 1 ≤ R.cells ∧ 6 ≤ R.slots) :
    W p l e R s m asM.toArray below meth c H locs 0 0 (QX below s A0 D asM Qc ws E) (F0 m pc ls rest) := by
  obtain ⟨hx, hb, hr, hml, hown, hts, hlocks, hN, hK, -⟩ := B
  obtain ⟨sa, hsa⟩ := hX.2.2.1 _ ht
  have hat := xw_at hq hts (hX.2.2.2 _ hq)
  have hall := List.all_eq_true.mp xw_all (E, ic) hq
  rw [Bool.and_eq_true] at hall
  have hfit : Bundle.fit E = true ∧ (Cond.classLink RX5 ik E |> vx_ot) = true := ⟨by
    simp only [XX, List.mem_cons, List.not_mem_nil, or_false, Prod.mk.injEq] at hq
    rcases hq with ⟨rfl, _⟩ | ⟨rfl, _⟩ | ⟨rfl, _⟩ <;> decide +kernel, rfl⟩
  refine vx_throwS (own := RX5) (cls := E) (text := text) (names := XN) (sa := sa) hx hb hst hown hfit.1 (by decide +kernel) (hts _ hcl) (hts _ hin) hsa hat (fun w hw => ?_) hX.1 hX.2.1 hS (hls.trans hml.symm) d0 d3 d4 d6 d9 (fun x hx => absurd (hno x hx) id) ?_ ?_ ?_ ?_ hlocks (fun t hW hz hk => ?_) hS.2.2 (Nat.le_refl _) (Nat.le_refl _)
  · rcases List.mem_cons.mp hw with rfl | hw
    · rfl
    · rcases List.mem_cons.mp hw with rfl | hw
      · rfl
      · exact List.all_eq_true.mp hall.2 w hw
  · show 2 + 3 < R.frames; omega
  · show (rest.map fun v => v.category).sum + (13 * (2 + 1) + 43) ≤ R.locals; omega
  · omega
  · omega
  · refine ⟨(), trivial, ⟨rfl, hP.kept (fun k q hk' => hk q.1 (vx_lt hP hk'))⟩, Nat.le_trans hS.1 hz, fun q h1 h2 => ?_⟩
    rw [hk q (Nat.lt_of_lt_of_le h1 hS.1)]
    exact hS.2.1 q h1 h2
/-- throw new E("text"), the text by a wide index -/
theorem eTW (B : Bd p s m meth c cc nL rtO RX5 D tys asM) (hls : ls.size = nL) (hst : l.stackTraces = false) (hno : ∀ x ∈ c.exceptionTable.toList, False) (hX : XQ A0 s s.heap) (hP : va_P D vwCl ws H) (hS : va_S A0 s.heap H locs)
    {ik is ic : Nat} {text : String} (hq : (E, ic) ∈ XX) (ht : (is, text) ∈ XT) (hcl : Cond.classLink RX5 ik E ∈ wsL_law) (hin : Cond.initialized E ∈ wsL_law)
    (d0 : decode cc pc = .ok (.new ik, 3)) (d3 : decode cc (pc + 3) = .ok (.dup, 1)) (d4 : decode cc (pc + 4) = .ok (.ldc_w is, 3)) (d6 : decode cc (pc + 7) = .ok (.invokespecial ic, 3)) (d9 : decode cc (pc + 10) = .ok (.athrow, 1))
    (hw : (rest.map fun v => v.category).sum ≤ 8) (hR : 6 ≤ R.frames ∧ 90 ≤ R.locals ∧ 1 ≤ R.cells ∧ 6 ≤ R.slots) :
    W p l e R s m asM.toArray below meth c H locs 0 0 (QX below s A0 D asM Qc ws E) (F0 m pc ls rest) := by
  obtain ⟨hx, hb, hr, hml, hown, hts, hlocks, hN, hK, -⟩ := B
  obtain ⟨sa, hsa⟩ := hX.2.2.1 _ ht
  have hat := xw_at hq hts (hX.2.2.2 _ hq)
  have hall := List.all_eq_true.mp xw_all (E, ic) hq
  rw [Bool.and_eq_true] at hall
  have hfit : Bundle.fit E = true ∧ (Cond.classLink RX5 ik E |> vx_ot) = true := ⟨by
    simp only [XX, List.mem_cons, List.not_mem_nil, or_false, Prod.mk.injEq] at hq
    rcases hq with ⟨rfl, _⟩ | ⟨rfl, _⟩ | ⟨rfl, _⟩ <;> decide +kernel, rfl⟩
  refine vx_throwSW (own := RX5) (cls := E) (text := text) (names := XN) (sa := sa) hx hb hst hown hfit.1 (by decide +kernel) (hts _ hcl) (hts _ hin) hsa hat (fun w hw => ?_) hX.1 hX.2.1 hS (hls.trans hml.symm) d0 d3 d4 d6 d9 (fun x hx => absurd (hno x hx) id) ?_ ?_ ?_ ?_ hlocks (fun t hW hz hk => ?_) hS.2.2 (Nat.le_refl _) (Nat.le_refl _)
  · rcases List.mem_cons.mp hw with rfl | hw
    · rfl
    · rcases List.mem_cons.mp hw with rfl | hw
      · rfl
      · exact List.all_eq_true.mp hall.2 w hw
  · show 2 + 3 < R.frames; omega
  · show (rest.map fun v => v.category).sum + (13 * (2 + 1) + 43) ≤ R.locals; omega
  · omega
  · omega
  · refine ⟨(), trivial, ⟨rfl, hP.kept (fun k q hk' => hk q.1 (vx_lt hP hk'))⟩, Nat.le_trans hS.1 hz, fun q h1 h2 => ?_⟩
    rw [hk q (Nat.lt_of_lt_of_le h1 hS.1)]
    exact hS.2.1 q h1 h2
/-- what a callee threw goes on -/
theorem eXo (B : Bd p s m meth c cc nL rtO RX5 D tys asM) (hno : ∀ x ∈ c.exceptionTable.toList, False) {ce : Cell} {q : Addr} (hP : va_P D vwCl ws H) (hS : va_S A0 s.heap H locs) (hcell : H[q]? = some ce) (hv : ce.vm = .none) (hcl : s.vm.findClass E = some ce.cls) :
    vx_W p l e R s m asM.toArray below meth c H locs 1 6 (QX below s A0 D asM Qc ws E) (F0 m pc ls rest) q := by
  obtain ⟨hx, hb, hr, hml, hown, hts, hlocks, hN, hK, -⟩ := B
  exact vx_out (fun x hx => absurd (hno x hx) id) hlocks hcell hv hcl (fun t ht hW => ⟨(), trivial, ⟨rfl, by rw [ht]; exact hP⟩, hS.F ht⟩) hS.2.2 (Nat.le_refl _) (Nat.le_refl _)
theorem x_cbx {own : String} {args : Array Value} (hrm : rm.cells = 1 ∧ rm.slots = 6) (k : Nat) (ht : ∀ w ∈ wsL_law, w.before args s = true) {r : Option FieldType} (hcode : Cond.code y b n r ∈ wsL_law) (hini : Cond.initialized y.cls ∈ wsL_law) (hl : Cond.methodLink own index y ∈ wsL_law)
    (hd : y.cls ≠ "java/lang/invoke/MethodHandle" ∧ y.cls ≠ "java/lang/invoke/VarHandle" ∧ (parseMethodDescriptor y.desc).map (fun d => d.parameters.length) = some k) (hR : rm.frames + 1 ≤ R.frames ∧ 8 + (n + 11) + rm.locals ≤ R.locals) :
    CallB R s args own index y b n r (WS y b n r) rm 1 6 k := callB_of k ht (gd hcode) rfl hrm.1 hrm.2 (ht _ hini) (ht _ hl) hd hR
theorem x_preX {H0 : Heap} (hX : XQ A0 s s.heap) (hP : va_P D vwCl ws H) (hD : va_D A0 ws) (hS : va_S A0 s.heap H locs) (hA : ∀ q, s.heap.size ≤ q → A0 q) (hK : va_K D vwCl tys s) (hN : NW s) :
    ∀ U : State, U.heap = H → s.WarmedH U.vm → xPre D tys ws H.size U := fun U hU hW => ⟨x_preF hP hD hK hN U hU hW, by
    rw [hU]
    exact XQ.warm hW ((hX.kept hS.2.1).narrow (x_sub hD hS hA))⟩
/-- a static void callee throws -/
theorem fXS_v (B : Bd p s m meth c cc nL rtO RX5 D tys asM) (hls : ls.size = nL) (hM : MXv l y b n rm D tys as ws E) (cb : CallB R s asM.toArray RX5 index y b n none (WS y b n none) rm 1 6 k) (hst' : Cond.static y ∈ wsL_law)
    (hst : st = as.reverse ++ rest) (hk : as.length = k) (hno : ∀ x ∈ c.exceptionTable.toList, False) (hX : XQ A0 s s.heap) (hP : va_P D vwCl ws H) (hD : va_D A0 ws) (hS : va_S A0 s.heap H locs) (hA : ∀ q, s.heap.size ≤ q → A0 q)
    (hw : (rest.map fun v => v.category).sum ≤ 8) (hR : 1 ≤ R.cells ∧ 6 ≤ R.slots) (hdg : decode cc pc = .ok (.invokestatic index, 3)) :
    W p l e R s m asM.toArray below meth c H locs 0 0 (QX below s A0 D asM Qc ws E) (F0 m pc ls st) := by
  have B0 := B
  obtain ⟨hx, hb, -, hml, hown, hts, -, hN, hK, -⟩ := B
  subst hst
  have hr := vx_runS (mc := 1) (ms := 6) (As := as) (rest := rest) (g := F0 m pc ls (as.reverse ++ rest)) (cells := 0) (slots := 0) (locs := locs) (l := l) (e := e) (below := below) (meth := meth) (H := H) ⟨hx, hb, hml, hown, hts⟩ (hM H.size) ⟨cb, hts _ hst'⟩
    ⟨xPre_blind _ D tys ws H.size, fun U hU hW => ⟨rfl, x_preX (H0 := H) hX hP hD hS hA hK hN U hU hW⟩⟩ rfl hk hls rfl (lv_room hw) hdg ⟨by omega, by omega⟩
  have hF := x_sub hD hS hA
  exact vx_callv hr hS (fun q _ h => hF q h) hF (fun q _ h => hF q h) (fun E' ce q9 u t H1 locs1 ht hvm _ hB hz hk hS1 hce hcv hcl => by
    obtain ⟨rfl, hP1⟩ := hB
    rw [ht] at hP1
    exact eXo B0 hno hP1 hS1 hce hcv hcl) (fun u t H1 locs1 ht hvm hw _ _ _ _ => absurd hw id)
/-- an instance's void callee throws -/
theorem fXV_v (B : Bd p s m meth c cc nL rtO RX5 D tys asM) (hls : ls.size = nL) {a : Nat} (hM : MXv l y b n rm D tys (.ref a :: as) ws E) {C : String} {T : u_T} {N ci : Nat} (hcl : vwCl[ci]? = some (C, T, N))
    (cb : CallB R s asM.toArray RX5 index y b n none (WS y b n none) rm 1 6 k) (hin : Cond.instanceMethod y ∈ wsL_law) (hse : Cond.selects C y y ∈ wsL_law)
    (hst : st = as.reverse ++ .ref a :: rest) (hk : as.length = k) (hno : ∀ x ∈ c.exceptionTable.toList, False) (hX : XQ A0 s s.heap) (hP : va_P D vwCl ws H) (hD : va_D A0 ws) (hS : va_S A0 s.heap H locs) (hA : ∀ q, s.heap.size ≤ q → A0 q) (q0 : Nat) {fs : List Value} (he : ws[q0]? = some (a, .inr (ci, fs)))
    (hw : (rest.map fun v => v.category).sum ≤ 8) (hR : 1 ≤ R.cells ∧ 6 ≤ R.slots) (hdg : decode cc pc = .ok (.invokevirtual index, 3)) :
    W p l e R s m asM.toArray below meth c H locs 0 0 (QX below s A0 D asM Qc ws E) (F0 m pc ls st) := by
  have B0 := B
  obtain ⟨hx, hb, -, hml, hown, hts, -, hN, hK, -⟩ := B
  subst hst
  have hr := vx_runV (mc := 1) (ms := 6) (As := as) (rest := rest) (b := a) (C := C) (g := F0 m pc ls (as.reverse ++ .ref a :: rest)) (cells := 0) (slots := 0) (locs := locs) (l := l) (e := e) (below := below) (meth := meth) (H := H) ⟨hx, hb, hml, hown, hts⟩ (hM H.size) ⟨cb, hts _ hin, hts _ hse⟩
    ⟨xPre_blind _ D tys ws H.size, va_recv hK hP hcl he, fun U hU hW => ⟨rfl, x_preX (H0 := H) hX hP hD hS hA hK hN U hU hW⟩⟩ rfl hk hls rfl (lv_room hw) hdg ⟨by omega, by omega⟩
  have hF := x_sub hD hS hA
  exact vx_callv hr hS (fun q _ h => hF q h) hF (fun q _ h => hF q h) (fun E' ce q9 u t H1 locs1 ht hvm _ hB hz hk hS1 hce hcv hcl => by
    obtain ⟨rfl, hP1⟩ := hB
    rw [ht] at hP1
    exact eXo B0 hno hP1 hS1 hce hcv hcl) (fun u t H1 locs1 ht hvm hw _ _ _ _ => absurd hw id)
end XE
