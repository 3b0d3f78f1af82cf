/-! constructors: base -/
def adL (L : List Nat) (i : Nat) : Nat := L.getD i 0
/-- a constructor's contract: it leaves a world w1 with Post w1; mc cells, ms slots are new at most -/
def MC (l : Launch) (y : MethodName) (b : ByteArray) (n : Nat) (rm : Room) (D : va_G) (tys : List (ClassId × FieldType)) (as : List Value) (ws : va_W) (Post : va_W → Prop) (mc ms : Nat) : Prop :=
  ∀ sz, Met l y (WS y b n none) rm (va_Pc as (cPre D tys ws sz)) (va_Qv Post (fun w1 t => va_P D vwCl w1 t.heap ∧ va_D (va_A ws sz) w1) (va_A ws sz)) mc ms (va_A ws sz)
theorem MC.mk {l : Launch} {y : MethodName} {b : ByteArray} {n : Nat} {rm : Room} {D : va_G} {tys : List (ClassId × FieldType)} {as : List Value} {ws : va_W} {Post : va_W → Prop} {mc ms : Nat} (hy : plainName y.cls = true) (hn : (lg_sl as).length ≤ n)
    (body : ∀ (p : Program) (e : Env) (s : State) (m : MethodId) (below : List Frame) (meth : Method) (c : Code) (A : Nat → Prop) (ls : Array Slot), Bd p s m meth c b n none y.cls D tys as → meth.name = y.name → (∀ q, s.heap.size ≤ q → A q) → va_P D vwCl ws s.heap → va_D A ws → va_S A s.heap s.heap [] → lv_has ls n (lv_args 0 as) →
      W p l e rm s m as.toArray below meth c s.heap [] 0 0 (MQ below (va_Qv Post (fun w1 t => va_P D vwCl w1 t.heap ∧ va_D A w1) A) as.toArray s mc ms A) (F0 m 0 ls [])) : MC l y b n rm D tys as ws Post mc ms := by
  intro sz
  refine Met.ofW (cc := b) (maxL := n) (ret := none) hy rfl ?_
  intro p e s m args below meth c s₁ B hml hv
  obtain ⟨rfl, hsz, hP, hK, hD0, hN⟩ := hv
  have hts := atoms_spec (ws := WS y b n none) B.pre
  subst hsz
  rw [lg_entry_eq]
  exact body p e s m below meth c (va_A ws s.heap.size) _ ⟨B.exec, B.bytes, B.returns, hml, findClass_of_methodNamed B.named, fun w h => hts w (List.mem_cons_of_mem _ h), B.notSynchronized, hN, hK, Or.inr trivial⟩ (name_of_methodNamed B.named B.method).1 (fun q h => Or.inr h) hP hD0.self va_S.rf (lv_entry as hn)
section XI
variable {p : Program} {l : Launch} {e : Env} {R : Room} {s : State} {m : MethodId} {below : List Frame} {meth : Method} {c : Code} {H : Heap} {locs : List Loc} {Q : State → Prop} {cells slots : Nat}
variable {cc : ByteArray} {nL pc : Nat} {ls : Array Slot} {D : va_G} {A0 : Nat → Prop} {tys : List (ClassId × FieldType)} {W0 ws : va_W} {rtO : Option FieldType} {own : String} {asM rest : List Value} {H0 : Heap}
/-- Object's constructor -/
theorem rObj (B : Bd p s m meth c cc nL rtO own D tys asM) (hls : ls.size = nL) {idx : Nat} {a : Nat} (hl : Cond.methodLink own idx objectInit ∈ wsL_law) (hw : (rest.map fun v => v.category).sum + 12 ≤ R.locals) (hf : 1 ≤ R.frames) (d : decode cc pc = .ok (.invokespecial idx, 3))
    (kk : W p l e R s m asM.toArray below meth c H locs cells slots Q (F0 m (pc + 3) ls rest)) : W p l e R s m asM.toArray below meth c H locs cells slots Q (F0 m pc ls (.ref a :: rest)) := by
  obtain ⟨hx, hb, -, hml, hown, hts, -, hN, hK, -⟩ := B
  refine W.objInit hx hb hown (hts _ hl) (hts _ m_1_13) (hts _ m_1_14) rfl (hls.trans hml.symm) rfl d hf ?_ kk
  show 2 * 0 + (rest.map fun v => v.category).sum + 12 ≤ R.locals
  omega
/-- an array of ints or booleans, all 0 -/
theorem rArr (B : Bd p s m meth c cc nL rtO own D tys asM) {atype : ArrayType} {ty : FieldType} (hty : newarray.typeOf atype = ty) (hra : ∀ (c9 : ClassId) (U : State), va_RA U c9 ty → U.vm.findClass ("[" ++ ty.toString) = some c9) (harr : Cond.arrayClass ty ∈ wsL_law) {t0 : Nat} {cA : ClassId} (ht : tys[t0]? = some (cA, ty)) (hP : va_P D vwCl W0 H) (hD : va_D A0 W0) (hS : va_S A0 H0 H locs) (hA : ∀ q, H0.size ≤ q → A0 q)
    {N : Nat} {a0 : vp_A} (ha : ∀ cA : ClassId, vp_cell cA a0 = arrV cA N (fun _ => defaultValue ty)) (hN : N < 100000) (hbytes : N * componentBytes ty ≤ 536870912) (hcells : cells + 1 ≤ R.cells) (hslots : slots + N ≤ R.slots) (d : decode cc pc = .ok (.newarray atype, 2))
    (kk : ∀ (q : Nat) (H1 : Heap), va_P D vwCl (W0 ++ [(q, .inl (cA, a0))]) H1 → va_D A0 (W0 ++ [(q, .inl (cA, a0))]) → va_S A0 H0 H1 locs → W p l e R s m asM.toArray below meth c H1 locs (cells + 1) (slots + N) Q (F0 m (pc + 2) ls (.ref q :: rest))) :
    W p l e R s m asM.toArray below meth c H locs cells slots Q (F0 m pc ls (.int (nI N) :: rest)) := by
  obtain ⟨hx, hb, -, hml, hown, hts, -, -, hK, -⟩ := B
  refine va_newa hx hb (by rw [hty]; exact hts _ harr) hty hK hP hD hS hA ha (by rw [show (0 : Int32) = nI 0 from rfl, nI_ltI (by omega) (by omega)]; omega) (nI_clamp (by omega)) hbytes hcells hslots d (fun q cA' H1 hK1 hP1 hD1 hS1 => ?_)
  have e : cA' = cA := by
    have h1 := (hK1.2 tys.length (cA', ty) (by rw [List.getElem?_append_right (Nat.le_refl _), Nat.sub_self]; rfl)).2
    have h2 := (hK.2 t0 (cA, ty) ht).2
    exact Option.some.inj ((hra _ _ h1).symm.trans (hra _ _ h2))
  subst e
  exact kk q H1 hP1 hD1 hS1
end XI
