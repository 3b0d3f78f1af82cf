/-! a method with a table: its callee throws, it catches; its contract -/
theorem putAt_id : ∀ (is : List Nat) (W ws : va_W), is.map (fun i => W[i]?) = ws.map some → putAt W is ws = W := by
  intro is
  induction is with
  | nil => intro W ws _; cases ws <;> rfl
  | cons i is ih =>
    intro W ws h
    cases ws with
    | nil => cases h
    | cons e es =>
      rw [List.map_cons, List.map_cons, List.cons.injEq] at h
      have hs : W.set i e = W := by
        apply List.ext_getElem?
        intro j
        by_cases q : i = j
        · subst q
          have hl : i < W.length := (List.getElem?_eq_some_iff.mp h.1).1
          rw [List.getElem?_set_self hl, h.1]
        · rw [List.getElem?_set_ne q]
      show putAt (W.set i e) is es = W
      rw [hs]
      exact ih W es h.2
def XNC : List (String × String) := [("java/lang/IllegalArgumentException", "java/lang/IndexOutOfBoundsException"), ("java/lang/IllegalStateException", "java/lang/IndexOutOfBoundsException")]
def XNc (U : State) : Prop := ∀ q ∈ XNC, va_Nc q.1 q.2 U
def hPre (D : va_G) (tys : List (ClassId × FieldType)) (ws : va_W) (sz : Nat) (U : State) : Prop := xPre D tys ws sz U ∧ XNc U
theorem hPre_blind (as : List Value) (D : va_G) (tys : List (ClassId × FieldType)) (ws : va_W) (sz : Nat) : FrameBlind (va_Pc as (hPre D tys ws sz)) :=
  fun a U g mk h => ⟨h.1, (xPre_blind as D tys ws sz a U g mk ⟨h.1, h.2.1⟩).2, fun q hq => va_Nc.moved (u := U) (U := U.calling g mk a) (Vm.Alike.refl U.vm) (h.2.2 q hq)⟩
abbrev XF (A : Nat → Prop) : String → State → State → Prop := vx_X (fun (_ : Unit) => False) (fun _ _ _ => True) A
/-- a static int method with a table: it answers rv -/
def MH (l : Launch) (y : MethodName) (b : ByteArray) (n : Nat) (hh : List (Nat × Nat × Nat × Nat)) (rm : Room) (D : va_G) (tys : List (ClassId × FieldType)) (as : List Value) (ws ws' : va_W) (rv : Int32) : Prop :=
  ∀ sz, vx_Met l y (.codeWith y b n (some .int) hh :: wsL_law) rm (va_Pc as (hPre D tys ws sz)) (va_Qi (fun (r : Int32) (_ : Unit) => r = rv) (fun _ t => va_P D vwCl ws' t.heap) (va_A ws sz)) (XF (va_A ws sz)) 1 6 (va_A ws sz)
abbrev QH (below : List Frame) (s : State) (A : Nat → Prop) (D : va_G) (asM : List Value) (ws' : va_W) (rv : Int32) : State → Prop := vx_MQ below (va_Qi (fun (r : Int32) (_ : Unit) => r = rv) (fun _ t => va_P D vwCl ws' t.heap) A) (XF A) asM.toArray s 1 6 A
theorem MH.mk {l : Launch} {y : MethodName} {b : ByteArray} {n : Nat} {hh : List (Nat × Nat × Nat × Nat)} {rm : Room} {D : va_G} {tys : List (ClassId × FieldType)} {as : List Value} {ws ws' : va_W} {rv : Int32} (hy : plainName y.cls = true) (hn : (lg_sl as).length ≤ n)
    (body : ∀ (p : Program) (e : Env) (s : State) (m : MethodId) (below : List Frame) (meth : Method) (c : Code) (A : Nat → Prop) (ls : Array Slot), Bd p s m meth c b n (some .int) y.cls D tys as → c.exceptionTable.toList = tableOf hh → XQ A s s.heap → XNc s → (∀ q, s.heap.size ≤ q → A q) → va_P D vwCl ws s.heap → va_D A ws → va_S A s.heap s.heap [] → lv_has ls n (lv_args 0 as) →
      W p l e rm s m as.toArray below meth c s.heap [] 0 0 (QH below s A D as ws' rv) (F0 m 0 ls [])) : MH l y b n hh rm D tys as ws ws' rv := by
  intro sz
  refine vx_ofWH (cc := b) (maxL := n) (ret := some .int) (hh := hh) hy rfl ?_
  intro p e s m args below meth c s₁ B hml hv
  obtain ⟨rfl, ⟨⟨hsz, hP, hK, hD0, hN⟩, hX⟩, hNc⟩ := hv
  have hts := atoms_spec (ws := .codeWith y b n (some .int) hh :: wsL_law) B.pre
  have htab := vx_table (x := y) B (hts _ List.mem_cons_self)
  subst hsz
  rw [lg_entry_eq]
  exact body p e s m below meth c (va_A ws s.heap.size) _ ⟨B.exec, B.bytes, B.returns, hml, findClass_of_methodNamed B.named, fun w h => hts w (List.mem_cons_of_mem _ h), B.notSynchronized, hN, hK, Or.inr trivial⟩ htab hX hNc (fun q h => Or.inr h) hP hD0.self va_S.rf (lv_entry as hn)
section XH
variable {p : Program} {l : Launch} {e : Env} {R : Room} {s : State} {m : MethodId} {below : List Frame} {meth : Method} {c : Code} {H : Heap} {locs : List Loc} {Q : State → Prop} {cells slots : Nat}
variable {cc : ByteArray} {nL pc : Nat} {ls : Array Slot} {D : va_G} {A0 : Nat → Prop} {tys tys' : List (ClassId × FieldType)} {W0 wc ws ws' : va_W} {rtO : Option FieldType} {own : String}
variable {y : MethodName} {b : ByteArray} {n index k : Nat} {rt : FieldType} {rm : Room} {asM as rest st : List Value} {E : String} {rv : Int32}
theorem Bd.less (B : Bd p s m meth c cc nL rtO own D (tys ++ tys') asM) : Bd p s m meth c cc nL rtO own D tys asM := by
  obtain ⟨h1, h2, h3, h4, h5, h6, h7, h8, hK, h9⟩ := B
  exact ⟨h1, h2, h3, h4, h5, h6, h7, h8, ⟨hK.1, fun k q hq => hK.2 k q (by rw [List.getElem?_append_left (List.getElem?_eq_some_iff.mp hq).1]; exact hq)⟩, h9⟩
/-- an instance's int callee throws E, this method's row x catches it -/
theorem kXi (B : Bd p s m meth c cc nL rtO RL D tys asM) (hls : ls.size = nL) {a : Nat} (hM : MXi l y b n rt rm D tys (.ref a :: as) wc E) {C : String} {T : u_T} {N ci : Nat} (hcl : vwCl[ci]? = some (C, T, N))
    (cb : CallB R s asM.toArray RL index y b n (some rt) (WS y b n (some rt)) rm 1 6 k) (hin : Cond.instanceMethod y ∈ wsL_law) (hse : Cond.selects C y y ∈ wsL_law)
    (hst : st = as.reverse ++ .ref a :: rest) (hk : as.length = k) (hX : XQ A0 s s.heap) (hP : va_P D vwCl W0 H) (hD : va_D A0 W0) (hS : va_S A0 s.heap H locs) (hA : ∀ q, s.heap.size ≤ q → A0 q) (is : List Nat) (q0 : Nat) {fs : List Value} (he : W0[q0]? = some (a, .inr (ci, fs)))
    (hC : is.map (fun i => W0[i]?) = wc.map some) (hn : va_nd is = true) (hw : (rest.map fun v => v.category).sum ≤ 8) (hR : 1 ≤ R.cells ∧ 6 ≤ R.slots) (hdg : decode cc pc = .ok (.invokevirtual index, 3))
    (pre : List ExceptionTableEntry) (x : ExceptionTableEntry) (suf : List ExceptionTableEntry) (hsplit : c.exceptionTable.toList = pre ++ x :: suf)
    (hpass : ∀ z ∈ pre, covers z pc = false ∨ (z.catchType ≠ 0 ∧ ∃ nm : String, (Cond.classLink RL z.catchType nm).before asM.toArray s = true ∧ va_Nc E nm s)) (hcov : covers x pc = true) (h0 : x.catchType ≠ 0) (hlink : Cond.classLink RL x.catchType E ∈ wsL_law) (hXe : ∀ w ∈ XW E, w.before #[] s = true)
    (kk : ∀ (H1 : Heap) (locs1 : List Loc) (q : Addr), va_P D vwCl W0 H1 → va_D A0 W0 → va_S A0 s.heap H1 locs1 → W p l e R s m asM.toArray below meth c H1 locs1 1 6 Q (F0 m x.handlerPc ls [.ref q])) :
    W p l e R s m asM.toArray below meth c H locs 0 0 Q (F0 m pc ls st) := by
  obtain ⟨hx, hb, -, hml, hown, hts, -, hN, hK, -⟩ := B
  subst hst
  have hF := va_free (wc := wc) hD hS hA is hC
  have hr := vx_runV (mc := 1) (ms := 6) (As := as) (rest := rest) (b := a) (C := C) (g := F0 m pc ls (as.reverse ++ .ref a :: rest)) (cells := 0) (slots := 0) (locs := locs) (l := l) (e := e) (below := below) (meth := meth) (H := H) ⟨hx, hb, hml, hown, hts⟩ (hM H.size) ⟨cb, hts _ hin, hts _ hse⟩
    ⟨xPre_blind _ D tys wc H.size, va_recv hK hP hcl he, fun U hU hW => ⟨rfl, x_pre hP hD hK hN is hC hn (fm_of hC) U hU hW, by rw [hU]; exact XQ.warm hW ((hX.kept hS.2.1).narrow hF)⟩⟩ rfl hk hls rfl (lv_room hw) hdg ⟨by omega, by omega⟩
  exact vx_calli hr hS (fun q _ h => hF q h) hF (fun q _ h => hF q h) (fun E' ce q9 u t H1 locs1 ht hvm _ hB hz hk hS1 hce hcv hcl9 => by
    obtain ⟨rfl, hP1⟩ := hB
    rw [ht] at hP1
    obtain ⟨hP2, hD2⟩ := x_put hP hD hC rfl hn hk hP1
    rw [putAt_id is W0 wc hC] at hP2
    exact vx_catch hown pre x suf hsplit hpass hcov h0 (hts _ hlink) (va_tabs (A' := asM.toArray) rfl rfl (hXe (.castable E' E') (by simp [XW]))) hce hcv hcl9 (kk H1 locs1 q9 hP2 hD hS1)) (fun r u t H1 locs1 ht hvm hw _ _ _ _ => absurd hw id)
/-- it returns: no cell was made, or one -/
theorem eH1 {v : Int32} (B : Bd p s m meth c cc nL (some .int) own D tys asM) (hP : va_P D vwCl ws H) (hS : va_S A0 s.heap H locs) (hv : v = rv) (hw : ws = ws') (hdg : decode cc pc = .ok (.ireturn, 1)) :
    W p l e R s m asM.toArray below meth c H locs 1 6 (QH below s A0 D asM ws' rv) (F0 m pc ls [.int v]) := by
  obtain ⟨hx, hb, hr, hml, hown, hts, hlocks, hN, hK, -⟩ := B
  subst hw
  exact vx_ret (W.iret (v := v) hx hb hr (fun t ht hW => ⟨⟨v, (), rfl, hv, by show va_P D vwCl ws t.heap; rw [ht]; exact hP⟩, hS.F ht⟩) hS.2.2 hdg hlocks)
theorem w_widen {g : JFrame} {k n : Nat} (h1 : cells ≤ k) (h2 : slots ≤ n) (kk : W p l e R s m asM.toArray below meth c H locs k n Q g) : W p l e R s m asM.toArray below meth c H locs cells slots Q g := fun T hT X => kk T hT (stand_widen X h1 h2)
theorem eH0 {v : Int32} (B : Bd p s m meth c cc nL (some .int) own D tys asM) (hP : va_P D vwCl ws H) (hS : va_S A0 s.heap H locs) (hv : v = rv) (hw : ws = ws') (hdg : decode cc pc = .ok (.ireturn, 1)) :
    W p l e R s m asM.toArray below meth c H locs 0 0 (QH below s A0 D asM ws' rv) (F0 m pc ls [.int v]) := w_widen (Nat.zero_le _) (Nat.zero_le _) (eH1 B hP hS hv hw hdg)
end XH
