/-! calls, one row each: what the callee's contract says goes on -/
section XK
variable {p : Program} {l : Launch} {e : Env} {R : Room} {s : State} {m : MethodId} {below : List Frame} {meth : Method} {c : Code} {H : Heap} {locs : List Loc} {cells slots : Nat} {Q : State → Prop}
variable {cc : ByteArray} {nL pc : Nat} {ls : Array Slot} {D : va_G} {A0 : Nat → Prop} {tys : List (ClassId × FieldType)} {W0 ws ws' : va_W} {H0 : Heap} {own : String} {rtO : Option FieldType}
variable {y : MethodName} {b : ByteArray} {n index k : Nat} {rt : FieldType} {rm : Room} {asM as rest st : List Value} {rv : Int32}
theorem kV_i (B : Bd p s m meth c cc nL rtO own D tys asM) (hls : ls.size = nL) {a : Nat} (hM : MI l y b n rt rm D tys (.ref a :: as) ws ws' rv) {C : String} {T : u_T} {N ci : Nat} (hcl : vwCl[ci]? = some (C, T, N))
    (cb : CallB R s asM.toArray own index y b n (some rt) (WS y b n (some rt)) rm 0 0 k) (hin : Cond.instanceMethod y ∈ wsL_law) (hse : Cond.selects C y y ∈ wsL_law)
    (hst : st = as.reverse ++ .ref a :: rest) (hk : as.length = k) (hP : va_P D vwCl W0 H) (hD : va_D A0 W0) (hS : va_S A0 H0 H locs) (hA : ∀ q, H0.size ≤ q → A0 q) (is : List Nat) (q0 : Nat) {fs : List Value} (he : W0[q0]? = some (a, .inr (ci, fs)))
    (hC : is.map (fun i => W0[i]?) = ws.map some) (hf : ws'.map Prod.fst = ws.map Prod.fst) (hn : va_nd is = true) (hw : (rest.map fun v => v.category).sum ≤ 8) (hroom : cells ≤ R.cells ∧ slots ≤ R.slots) (hdg : decode cc pc = .ok (.invokevirtual index, 3))
    (kk : ∀ (H1 : Heap) (locs1 : List Loc), va_P D vwCl (putAt W0 is ws') H1 → va_D A0 (putAt W0 is ws') → va_S A0 H0 H1 locs1 → W p l e R s m asM.toArray below meth c H1 locs1 cells slots Q (F0 m (pc + 3) ls (.int rv :: rest))) :
    W p l e R s m asM.toArray below meth c H locs cells slots Q (F0 m pc ls st) := by
  obtain ⟨hx, hb, -, hml, hown, hts, -, hN, hK, -⟩ := B
  subst hst
  have hr := va_runV (mc := 0) (ms := 0) (As := as) (rest := rest) (b := a) (C := C) (g := F0 m pc ls (as.reverse ++ .ref a :: rest)) (cells := cells) (slots := slots) (locs := locs) (l := l) (e := e) (below := below) (meth := meth) (H := H) ⟨hx, hb, hml, hown, hts⟩ (hM H.size) ⟨cb, hts _ hin, hts _ hse⟩
    ⟨cPre_blind _ D tys ws H.size, va_recv hK hP hcl he, fun U hU hW => ⟨rfl, x_pre hP hD hK hN is hC hn (fm_of hC) U hU hW⟩⟩ rfl hk hls rfl (lv_room hw) hdg ⟨hroom.1, hroom.2⟩
  have hF := va_free (wc := ws) hD hS hA is hC
  refine va_calli hr hS (fun q _ h => hF q h) hF (fun r u t H1 locs1 ht hvm hw hB hz hk hS1 => ?_)
  rw [ht] at hB
  subst hw
  obtain ⟨hP1, hD1⟩ := x_put hP hD hC hf hn hk hB
  exact kk H1 locs1 hP1 hD1 hS1
theorem kV_v (B : Bd p s m meth c cc nL rtO own D tys asM) (hls : ls.size = nL) {a : Nat} (hM : MV l y b n rm D tys (.ref a :: as) ws ws') {C : String} {T : u_T} {N ci : Nat} (hcl : vwCl[ci]? = some (C, T, N))
    (cb : CallB R s asM.toArray own index y b n none (WS y b n none) rm 0 0 k) (hin : Cond.instanceMethod y ∈ wsL_law) (hse : Cond.selects C y y ∈ wsL_law)
    (hst : st = as.reverse ++ .ref a :: rest) (hk : as.length = k) (hP : va_P D vwCl W0 H) (hD : va_D A0 W0) (hS : va_S A0 H0 H locs) (hA : ∀ q, H0.size ≤ q → A0 q) (is : List Nat) (q0 : Nat) {fs : List Value} (he : W0[q0]? = some (a, .inr (ci, fs)))
    (hC : is.map (fun i => W0[i]?) = ws.map some) (hf : ws'.map Prod.fst = ws.map Prod.fst) (hn : va_nd is = true) (hw : (rest.map fun v => v.category).sum ≤ 8) (hroom : cells ≤ R.cells ∧ slots ≤ R.slots) (hdg : decode cc pc = .ok (.invokevirtual index, 3))
    (kk : ∀ (H1 : Heap) (locs1 : List Loc), va_P D vwCl (putAt W0 is ws') H1 → va_D A0 (putAt W0 is ws') → va_S A0 H0 H1 locs1 → W p l e R s m asM.toArray below meth c H1 locs1 cells slots Q (F0 m (pc + 3) ls rest)) :
    W p l e R s m asM.toArray below meth c H locs cells slots Q (F0 m pc ls st) := by
  obtain ⟨hx, hb, -, hml, hown, hts, -, hN, hK, -⟩ := B
  subst hst
  have hr := va_runV (mc := 0) (ms := 0) (As := as) (rest := rest) (b := a) (C := C) (g := F0 m pc ls (as.reverse ++ .ref a :: rest)) (cells := cells) (slots := slots) (locs := locs) (l := l) (e := e) (below := below) (meth := meth) (H := H) ⟨hx, hb, hml, hown, hts⟩ (hM H.size) ⟨cb, hts _ hin, hts _ hse⟩
    ⟨cPre_blind _ D tys ws H.size, va_recv hK hP hcl he, fun U hU hW => ⟨rfl, x_pre hP hD hK hN is hC hn (fm_of hC) U hU hW⟩⟩ rfl hk hls rfl (lv_room hw) hdg ⟨hroom.1, hroom.2⟩
  have hF := va_free (wc := ws) hD hS hA is hC
  refine va_callv hr hS (fun q _ h => hF q h) hF (fun u t H1 locs1 ht hvm hw hB hz hk hS1 => ?_)
  rw [ht] at hB
  obtain ⟨hP1, hD1⟩ := x_put hP hD hC hf hn hk hB
  exact kk H1 locs1 hP1 hD1 hS1
theorem kS_i (B : Bd p s m meth c cc nL rtO own D tys asM) (hls : ls.size = nL) (hM : MI l y b n rt rm D tys as ws ws' rv)
    (cb : CallB R s asM.toArray own index y b n (some rt) (WS y b n (some rt)) rm 0 0 k) (hst' : Cond.static y ∈ wsL_law)
    (hst : st = as.reverse ++ rest) (hk : as.length = k) (hP : va_P D vwCl W0 H) (hD : va_D A0 W0) (hS : va_S A0 H0 H locs) (hA : ∀ q, H0.size ≤ q → A0 q) (is : List Nat)
    (hC : is.map (fun i => W0[i]?) = ws.map some) (hf : ws'.map Prod.fst = ws.map Prod.fst) (hn : va_nd is = true) (hw : (rest.map fun v => v.category).sum ≤ 8) (hroom : cells ≤ R.cells ∧ slots ≤ R.slots) (hdg : decode cc pc = .ok (.invokestatic index, 3))
    (kk : ∀ (H1 : Heap) (locs1 : List Loc), va_P D vwCl (putAt W0 is ws') H1 → va_D A0 (putAt W0 is ws') → va_S A0 H0 H1 locs1 → W p l e R s m asM.toArray below meth c H1 locs1 cells slots Q (F0 m (pc + 3) ls (.int rv :: rest))) :
    W p l e R s m asM.toArray below meth c H locs cells slots Q (F0 m pc ls st) := by
  obtain ⟨hx, hb, -, hml, hown, hts, -, hN, hK, -⟩ := B
  subst hst
  have hr := va_runS (mc := 0) (ms := 0) (As := as) (rest := rest) (g := F0 m pc ls (as.reverse ++ rest)) (cells := cells) (slots := slots) (locs := locs) (l := l) (e := e) (below := below) (meth := meth) (H := H) ⟨hx, hb, hml, hown, hts⟩ (hM H.size) ⟨cb, hts _ hst'⟩
    ⟨cPre_blind _ D tys ws H.size, fun U hU hW => ⟨rfl, x_pre hP hD hK hN is hC hn (fm_of hC) U hU hW⟩⟩ rfl hk hls rfl (lv_room hw) hdg ⟨hroom.1, hroom.2⟩
  have hF := va_free (wc := ws) hD hS hA is hC
  refine va_calli hr hS (fun q _ h => hF q h) hF (fun r u t H1 locs1 ht hvm hw hB hz hk hS1 => ?_)
  rw [ht] at hB
  subst hw
  obtain ⟨hP1, hD1⟩ := x_put hP hD hC hf hn hk hB
  exact kk H1 locs1 hP1 hD1 hS1
theorem kS_v (B : Bd p s m meth c cc nL rtO own D tys asM) (hls : ls.size = nL) (hM : MV l y b n rm D tys as ws ws')
    (cb : CallB R s asM.toArray own index y b n none (WS y b n none) rm 0 0 k) (hst' : Cond.static y ∈ wsL_law)
    (hst : st = as.reverse ++ rest) (hk : as.length = k) (hP : va_P D vwCl W0 H) (hD : va_D A0 W0) (hS : va_S A0 H0 H locs) (hA : ∀ q, H0.size ≤ q → A0 q) (is : List Nat)
    (hC : is.map (fun i => W0[i]?) = ws.map some) (hf : ws'.map Prod.fst = ws.map Prod.fst) (hn : va_nd is = true) (hw : (rest.map fun v => v.category).sum ≤ 8) (hroom : cells ≤ R.cells ∧ slots ≤ R.slots) (hdg : decode cc pc = .ok (.invokestatic index, 3))
    (kk : ∀ (H1 : Heap) (locs1 : List Loc), va_P D vwCl (putAt W0 is ws') H1 → va_D A0 (putAt W0 is ws') → va_S A0 H0 H1 locs1 → W p l e R s m asM.toArray below meth c H1 locs1 cells slots Q (F0 m (pc + 3) ls rest)) :
    W p l e R s m asM.toArray below meth c H locs cells slots Q (F0 m pc ls st) := by
  obtain ⟨hx, hb, -, hml, hown, hts, -, hN, hK, -⟩ := B
  subst hst
  have hr := va_runS (mc := 0) (ms := 0) (As := as) (rest := rest) (g := F0 m pc ls (as.reverse ++ rest)) (cells := cells) (slots := slots) (locs := locs) (l := l) (e := e) (below := below) (meth := meth) (H := H) ⟨hx, hb, hml, hown, hts⟩ (hM H.size) ⟨cb, hts _ hst'⟩
    ⟨cPre_blind _ D tys ws H.size, fun U hU hW => ⟨rfl, x_pre hP hD hK hN is hC hn (fm_of hC) U hU hW⟩⟩ rfl hk hls rfl (lv_room hw) hdg ⟨hroom.1, hroom.2⟩
  have hF := va_free (wc := ws) hD hS hA is hC
  refine va_callv hr hS (fun q _ h => hF q h) hF (fun u t H1 locs1 ht hvm hw hB hz hk hS1 => ?_)
  rw [ht] at hB
  obtain ⟨hP1, hD1⟩ := x_put hP hD hC hf hn hk hB
  exact kk H1 locs1 hP1 hD1 hS1
theorem x_cn {host : String} (hrm : rm.cells = 0 ∧ rm.slots = 0) (ht : ∀ w ∈ wsL_law, w.before asM.toArray s = true) (hN : NW s) {r : Option FieldType} (hcode : Cond.code y b n r ∈ wsL_law) (hini : Cond.initialized y.cls ∈ wsL_law) (hl : Cond.methodLinkNest own index y host ∈ NWl)
    (hd : y.cls ≠ "java/lang/invoke/MethodHandle" ∧ y.cls ≠ "java/lang/invoke/VarHandle" ∧ (parseMethodDescriptor y.desc).map (fun d => d.parameters.length) = some k) (hR : rm.frames + 1 ≤ R.frames ∧ 8 + (n + 11) + rm.locals ≤ R.locals) :
    va_CN R s asM.toArray own index y host b n r (WS y b n r) rm 0 0 k := va_cnB k ht (gd hcode) rfl hrm.1 hrm.2 (hN _ hl) (ht _ hini) hd hR
/-- a nest mate's private static method -/
theorem kN_i {host : String} (B : Bd p s m meth c cc nL rtO own D tys asM) (hls : ls.size = nL) (hM : MI l y b n rt rm D tys as ws ws' rv)
    (cb : va_CN R s asM.toArray own index y host b n (some rt) (WS y b n (some rt)) rm 0 0 k) (hst' : Cond.static y ∈ wsL_law)
    (hst : st = as.reverse ++ rest) (hk : as.length = k) (hP : va_P D vwCl W0 H) (hD : va_D A0 W0) (hS : va_S A0 H0 H locs) (hA : ∀ q, H0.size ≤ q → A0 q) (is : List Nat)
    (hC : is.map (fun i => W0[i]?) = ws.map some) (hf : ws'.map Prod.fst = ws.map Prod.fst) (hn : va_nd is = true) (hw : (rest.map fun v => v.category).sum ≤ 8) (hroom : cells ≤ R.cells ∧ slots ≤ R.slots) (hdg : decode cc pc = .ok (.invokestatic index, 3))
    (kk : ∀ (H1 : Heap) (locs1 : List Loc), va_P D vwCl (putAt W0 is ws') H1 → va_D A0 (putAt W0 is ws') → va_S A0 H0 H1 locs1 → W p l e R s m asM.toArray below meth c H1 locs1 cells slots Q (F0 m (pc + 3) ls (.int rv :: rest))) :
    W p l e R s m asM.toArray below meth c H locs cells slots Q (F0 m pc ls st) := by
  obtain ⟨hx, hb, -, hml, hown, hts, -, hN, hK, -⟩ := B
  subst hst
  have hr := va_runSN (mc := 0) (ms := 0) (As := as) (rest := rest) (g := F0 m pc ls (as.reverse ++ rest)) (cells := cells) (slots := slots) (locs := locs) (l := l) (e := e) (below := below) (meth := meth) (H := H) ⟨hx, hb, hml, hown, hts⟩ (hM H.size) ⟨cb, hts _ hst', trivial⟩
    ⟨cPre_blind _ D tys ws H.size, fun U hU hW => ⟨rfl, x_pre hP hD hK hN is hC hn (fm_of hC) U hU hW⟩⟩ rfl hk hls rfl (lv_room hw) hdg ⟨hroom.1, hroom.2⟩
  have hF := va_free (wc := ws) hD hS hA is hC
  refine va_calli hr hS (fun q _ h => hF q h) hF (fun r u t H1 locs1 ht hvm hw hB hz hk hS1 => ?_)
  rw [ht] at hB
  subst hw
  obtain ⟨hP1, hD1⟩ := x_put hP hD hC hf hn hk hB
  exact kk H1 locs1 hP1 hD1 hS1
/-- the ends -/
theorem eI {v : Int32} (B : Bd p s m meth c cc nL (some .int) own D tys asM) (hP : va_P D vwCl ws H) (hS : va_S A0 s.heap H locs) (hv : v = rv) (hw : ws = ws') (hdg : decode cc pc = .ok (.ireturn, 1)) :
    W p l e R s m asM.toArray below meth c H locs 0 0 (MQ below (va_Qi (fun (r : Int32) (_ : Unit) => r = rv) (fun _ t => va_P D vwCl ws' t.heap) A0) asM.toArray s 0 0 A0) (F0 m pc ls [.int v]) := by
  obtain ⟨hx, hb, hr, hml, hown, hts, hlocks, hN, hK, -⟩ := B
  subst hw
  exact W.iret (v := v) hx hb hr (fun t ht hW => ⟨⟨v, (), rfl, hv, by show va_P D vwCl ws t.heap; rw [ht]; exact hP⟩, hS.F ht⟩) hS.2.2 hdg hlocks
theorem eZ {v : Int32} (B : Bd p s m meth c cc nL (some .boolean) own D tys asM) (hP : va_P D vwCl ws H) (hS : va_S A0 s.heap H locs) (hz : narrow .boolean (.int v) = .int v) (hv : v = rv) (hw : ws = ws') (hdg : decode cc pc = .ok (.ireturn, 1)) :
    W p l e R s m asM.toArray below meth c H locs 0 0 (MQ below (va_Qi (fun (r : Int32) (_ : Unit) => r = rv) (fun _ t => va_P D vwCl ws' t.heap) A0) asM.toArray s 0 0 A0) (F0 m pc ls [.int v]) := by
  obtain ⟨hx, hb, hr, hml, hown, hts, hlocks, hN, hK, -⟩ := B
  subst hw
  exact W.zret (v := v) hx hb hr hz (fun t ht hW => ⟨⟨v, (), rfl, hv, by show va_P D vwCl ws t.heap; rw [ht]; exact hP⟩, hS.F ht⟩) hS.2.2 hdg hlocks
theorem eV (B : Bd p s m meth c cc nL none own D tys asM) (hP : va_P D vwCl ws H) (hS : va_S A0 s.heap H locs) (hw : ws = ws') (hdg : decode cc pc = .ok (.return_, 1)) :
    W p l e R s m asM.toArray below meth c H locs 0 0 (MQ below (va_Qv (fun (_ : Unit) => True) (fun _ t => va_P D vwCl ws' t.heap) A0) asM.toArray s 0 0 A0) (F0 m pc ls []) := by
  obtain ⟨hx, hb, hr, hml, hown, hts, hlocks, hN, hK, -⟩ := B
  subst hw
  exact W.vret hx hb hr (fun t ht hW => ⟨⟨(), rfl, trivial, by show va_P D vwCl ws t.heap; rw [ht]; exact hP⟩, hS.F ht⟩) hS.2.2 hdg hlocks
end XK
