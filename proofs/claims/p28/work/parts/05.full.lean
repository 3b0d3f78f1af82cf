/-! calls whose callee has the caller's whole world -/
abbrev QI (below : List Frame) (s : State) (A : Nat → Prop) (D : va_G) (asM : List Value) (ws' : va_W) (rv : Int32) : State → Prop := MQ below (va_Qi (fun (r : Int32) (_ : Unit) => r = rv) (fun _ t => va_P D vwCl ws' t.heap) A) asM.toArray s 0 0 A
abbrev QV (below : List Frame) (s : State) (A : Nat → Prop) (D : va_G) (asM : List Value) (ws' : va_W) : State → Prop := MQ below (va_Qv (fun (_ : Unit) => True) (fun _ t => va_P D vwCl ws' t.heap) A) asM.toArray s 0 0 A
section XF
variable {p : Program} {l : Launch} {e : Env} {R : Room} {s : State} {m : MethodId} {below : List Frame} {meth : Method} {c : Code} {H : Heap} {locs : List Loc} {Q : State → Prop}
variable {cc : ByteArray} {nL pc : Nat} {ls : Array Slot} {D : va_G} {A0 : Nat → Prop} {tys : List (ClassId × FieldType)} {W0 W1 : va_W} {H0 : Heap} {own : String} {rtO : Option FieldType}
variable {y : MethodName} {b : ByteArray} {n index k : Nat} {rt : FieldType} {rm : Room} {asM as rest st : List Value} {rv : Int32}
theorem x_sub {W0 : va_W} {H : Heap} (hD : va_D A0 W0) (hS : va_S A0 H0 H locs) (hA : ∀ q, H0.size ≤ q → A0 q) : ∀ q, va_A W0 H.size q → A0 q := by
  intro q h
  rcases h with ⟨k, e, h⟩ | h
  · exact hD.2 k (q, e) h
  · exact hA q (Nat.le_trans hS.1 h)
theorem x_preF (hP : va_P D vwCl W0 H) (hD : va_D A0 W0) (hK : va_K D vwCl tys s) (hN : NW s) :
    ∀ U : State, U.heap = H → s.WarmedH U.vm → cPre D tys W0 H.size U := fun U hU hW => ⟨by rw [hU], by rw [hU]; exact hP, va_K.moved hW.alike hK, hD.weaken (fun _ _ _ _ => trivial), NW.warm hW hN⟩
theorem fV_i (B : Bd p s m meth c cc nL rtO own D tys asM) (hls : ls.size = nL) {a : Nat} (hM : MI l y b n rt rm D tys (.ref a :: as) W0 W1 rv) {C : String} {T : u_T} {N ci : Nat} (hcl : vwCl[ci]? = some (C, T, N))
    (cb : CallB R s asM.toArray own index y b n (some rt) (WS y b n (some rt)) rm 0 0 k) (hin : Cond.instanceMethod y ∈ wsL_law) (hse : Cond.selects C y y ∈ wsL_law)
    (hst : st = as.reverse ++ .ref a :: rest) (hk : as.length = k) (hP : va_P D vwCl W0 H) (hD : va_D A0 W0) (hS : va_S A0 H0 H locs) (hA : ∀ q, H0.size ≤ q → A0 q) (q0 : Nat) {fs : List Value} (he : W0[q0]? = some (a, .inr (ci, fs)))
    (hf : W1.map Prod.fst = W0.map Prod.fst) (hw : (rest.map fun v => v.category).sum ≤ 8) (hdg : decode cc pc = .ok (.invokevirtual index, 3))
    (kk : ∀ (H1 : Heap) (locs1 : List Loc), va_P D vwCl W1 H1 → va_D A0 W1 → va_S A0 H0 H1 locs1 → W p l e R s m asM.toArray below meth c H1 locs1 0 0 Q (F0 m (pc + 3) ls (.int rv :: rest))) :
    W p l e R s m asM.toArray below meth c H locs 0 0 Q (F0 m pc ls st) := by
  obtain ⟨hx, hb, -, hml, hown, hts, -, hN, hK, -⟩ := B
  subst hst
  have hr := va_runV (mc := 0) (ms := 0) (As := as) (rest := rest) (b := a) (C := C) (g := F0 m pc ls (as.reverse ++ .ref a :: rest)) (cells := 0) (slots := 0) (locs := locs) (l := l) (e := e) (below := below) (meth := meth) (H := H) ⟨hx, hb, hml, hown, hts⟩ (hM H.size) ⟨cb, hts _ hin, hts _ hse⟩
    ⟨cPre_blind _ D tys W0 H.size, va_recv hK hP hcl he, fun U hU hW => ⟨rfl, x_preF hP hD hK hN U hU hW⟩⟩ rfl hk hls rfl (lv_room hw) hdg ⟨Nat.zero_le _, Nat.zero_le _⟩
  have hF := x_sub hD hS hA
  refine va_calli hr hS (fun q _ h => hF q h) hF (fun r u t H1 locs1 ht hvm hw hB hz hk hS1 => ?_)
  rw [ht] at hB
  subst hw
  exact kk H1 locs1 hB (va_D_same hf hD) hS1
theorem fV_v (B : Bd p s m meth c cc nL rtO own D tys asM) (hls : ls.size = nL) {a : Nat} (hM : MV l y b n rm D tys (.ref a :: as) W0 W1) {C : String} {T : u_T} {N ci : Nat} (hcl : vwCl[ci]? = some (C, T, N))
    (cb : CallB R s asM.toArray own index y b n none (WS y b n none) rm 0 0 k) (hin : Cond.instanceMethod y ∈ wsL_law) (hse : Cond.selects C y y ∈ wsL_law)
    (hst : st = as.reverse ++ .ref a :: rest) (hk : as.length = k) (hP : va_P D vwCl W0 H) (hD : va_D A0 W0) (hS : va_S A0 H0 H locs) (hA : ∀ q, H0.size ≤ q → A0 q) (q0 : Nat) {fs : List Value} (he : W0[q0]? = some (a, .inr (ci, fs)))
    (hf : W1.map Prod.fst = W0.map Prod.fst) (hw : (rest.map fun v => v.category).sum ≤ 8) (hdg : decode cc pc = .ok (.invokevirtual index, 3))
    (kk : ∀ (H1 : Heap) (locs1 : List Loc), va_P D vwCl W1 H1 → va_D A0 W1 → va_S A0 H0 H1 locs1 → W p l e R s m asM.toArray below meth c H1 locs1 0 0 Q (F0 m (pc + 3) ls rest)) :
    W p l e R s m asM.toArray below meth c H locs 0 0 Q (F0 m pc ls st) := by
  obtain ⟨hx, hb, -, hml, hown, hts, -, hN, hK, -⟩ := B
  subst hst
  have hr := va_runV (mc := 0) (ms := 0) (As := as) (rest := rest) (b := a) (C := C) (g := F0 m pc ls (as.reverse ++ .ref a :: rest)) (cells := 0) (slots := 0) (locs := locs) (l := l) (e := e) (below := below) (meth := meth) (H := H) ⟨hx, hb, hml, hown, hts⟩ (hM H.size) ⟨cb, hts _ hin, hts _ hse⟩
    ⟨cPre_blind _ D tys W0 H.size, va_recv hK hP hcl he, fun U hU hW => ⟨rfl, x_preF hP hD hK hN U hU hW⟩⟩ rfl hk hls rfl (lv_room hw) hdg ⟨Nat.zero_le _, Nat.zero_le _⟩
  have hF := x_sub hD hS hA
  refine va_callv hr hS (fun q _ h => hF q h) hF (fun u t H1 locs1 ht hvm hw hB hz hk hS1 => ?_)
  rw [ht] at hB
  exact kk H1 locs1 hB (va_D_same hf hD) hS1
theorem fS_i (B : Bd p s m meth c cc nL rtO own D tys asM) (hls : ls.size = nL) (hM : MI l y b n rt rm D tys as W0 W1 rv)
    (cb : CallB R s asM.toArray own index y b n (some rt) (WS y b n (some rt)) rm 0 0 k) (hst' : Cond.static y ∈ wsL_law)
    (hst : st = as.reverse ++ rest) (hk : as.length = k) (hP : va_P D vwCl W0 H) (hD : va_D A0 W0) (hS : va_S A0 H0 H locs) (hA : ∀ q, H0.size ≤ q → A0 q)
    (hf : W1.map Prod.fst = W0.map Prod.fst) (hw : (rest.map fun v => v.category).sum ≤ 8) (hdg : decode cc pc = .ok (.invokestatic index, 3))
    (kk : ∀ (H1 : Heap) (locs1 : List Loc), va_P D vwCl W1 H1 → va_D A0 W1 → va_S A0 H0 H1 locs1 → W p l e R s m asM.toArray below meth c H1 locs1 0 0 Q (F0 m (pc + 3) ls (.int rv :: rest))) :
    W p l e R s m asM.toArray below meth c H locs 0 0 Q (F0 m pc ls st) := by
  obtain ⟨hx, hb, -, hml, hown, hts, -, hN, hK, -⟩ := B
  subst hst
  have hr := va_runS (mc := 0) (ms := 0) (As := as) (rest := rest) (g := F0 m pc ls (as.reverse ++ rest)) (cells := 0) (slots := 0) (locs := locs) (l := l) (e := e) (below := below) (meth := meth) (H := H) ⟨hx, hb, hml, hown, hts⟩ (hM H.size) ⟨cb, hts _ hst'⟩
    ⟨cPre_blind _ D tys W0 H.size, fun U hU hW => ⟨rfl, x_preF hP hD hK hN U hU hW⟩⟩ rfl hk hls rfl (lv_room hw) hdg ⟨Nat.zero_le _, Nat.zero_le _⟩
  have hF := x_sub hD hS hA
  refine va_calli hr hS (fun q _ h => hF q h) hF (fun r u t H1 locs1 ht hvm hw hB hz hk hS1 => ?_)
  rw [ht] at hB
  subst hw
  exact kk H1 locs1 hB (va_D_same hf hD) hS1
theorem fS_v (B : Bd p s m meth c cc nL rtO own D tys asM) (hls : ls.size = nL) (hM : MV l y b n rm D tys as W0 W1)
    (cb : CallB R s asM.toArray own index y b n none (WS y b n none) rm 0 0 k) (hst' : Cond.static y ∈ wsL_law)
    (hst : st = as.reverse ++ rest) (hk : as.length = k) (hP : va_P D vwCl W0 H) (hD : va_D A0 W0) (hS : va_S A0 H0 H locs) (hA : ∀ q, H0.size ≤ q → A0 q)
    (hf : W1.map Prod.fst = W0.map Prod.fst) (hw : (rest.map fun v => v.category).sum ≤ 8) (hdg : decode cc pc = .ok (.invokestatic index, 3))
    (kk : ∀ (H1 : Heap) (locs1 : List Loc), va_P D vwCl W1 H1 → va_D A0 W1 → va_S A0 H0 H1 locs1 → W p l e R s m asM.toArray below meth c H1 locs1 0 0 Q (F0 m (pc + 3) ls rest)) :
    W p l e R s m asM.toArray below meth c H locs 0 0 Q (F0 m pc ls st) := by
  obtain ⟨hx, hb, -, hml, hown, hts, -, hN, hK, -⟩ := B
  subst hst
  have hr := va_runS (mc := 0) (ms := 0) (As := as) (rest := rest) (g := F0 m pc ls (as.reverse ++ rest)) (cells := 0) (slots := 0) (locs := locs) (l := l) (e := e) (below := below) (meth := meth) (H := H) ⟨hx, hb, hml, hown, hts⟩ (hM H.size) ⟨cb, hts _ hst'⟩
    ⟨cPre_blind _ D tys W0 H.size, fun U hU hW => ⟨rfl, x_preF hP hD hK hN U hU hW⟩⟩ rfl hk hls rfl (lv_room hw) hdg ⟨Nat.zero_le _, Nat.zero_le _⟩
  have hF := x_sub hD hS hA
  refine va_callv hr hS (fun q _ h => hF q h) hF (fun u t H1 locs1 ht hvm hw hB hz hk hS1 => ?_)
  rw [ht] at hB
  exact kk H1 locs1 hB (va_D_same hf hD) hS1
theorem fN_i {host : String} (B : Bd p s m meth c cc nL rtO own D tys asM) (hls : ls.size = nL) (hM : MI l y b n rt rm D tys as W0 W1 rv)
    (cb : va_CN R s asM.toArray own index y host b n (some rt) (WS y b n (some rt)) rm 0 0 k) (hst' : Cond.static y ∈ wsL_law)
    (hst : st = as.reverse ++ rest) (hk : as.length = k) (hP : va_P D vwCl W0 H) (hD : va_D A0 W0) (hS : va_S A0 H0 H locs) (hA : ∀ q, H0.size ≤ q → A0 q)
    (hf : W1.map Prod.fst = W0.map Prod.fst) (hw : (rest.map fun v => v.category).sum ≤ 8) (hdg : decode cc pc = .ok (.invokestatic index, 3))
    (kk : ∀ (H1 : Heap) (locs1 : List Loc), va_P D vwCl W1 H1 → va_D A0 W1 → va_S A0 H0 H1 locs1 → W p l e R s m asM.toArray below meth c H1 locs1 0 0 Q (F0 m (pc + 3) ls (.int rv :: rest))) :
    W p l e R s m asM.toArray below meth c H locs 0 0 Q (F0 m pc ls st) := by
  obtain ⟨hx, hb, -, hml, hown, hts, -, hN, hK, -⟩ := B
  subst hst
  have hr := va_runSN (mc := 0) (ms := 0) (As := as) (rest := rest) (g := F0 m pc ls (as.reverse ++ rest)) (cells := 0) (slots := 0) (locs := locs) (l := l) (e := e) (below := below) (meth := meth) (H := H) ⟨hx, hb, hml, hown, hts⟩ (hM H.size) ⟨cb, hts _ hst', trivial⟩
    ⟨cPre_blind _ D tys W0 H.size, fun U hU hW => ⟨rfl, x_preF hP hD hK hN U hU hW⟩⟩ rfl hk hls rfl (lv_room hw) hdg ⟨Nat.zero_le _, Nat.zero_le _⟩
  have hF := x_sub hD hS hA
  refine va_calli hr hS (fun q _ h => hF q h) hF (fun r u t H1 locs1 ht hvm hw hB hz hk hS1 => ?_)
  rw [ht] at hB
  subst hw
  exact kk H1 locs1 hB (va_D_same hf hD) hS1
end XF
