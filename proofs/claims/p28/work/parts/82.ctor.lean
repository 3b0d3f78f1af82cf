/-! constructors that are called -/
section XJ
variable {p : Program} {l : Launch} {e : Env} {R : Room} {s : State} {m : MethodId} {below : List Frame} {meth : Method} {c : Code} {H : Heap} {locs : List Loc} {Q : State → Prop} {cells slots mc ms : Nat}
variable {cc : ByteArray} {nL pc : Nat} {ls : Array Slot} {D : va_G} {A0 : Nat → Prop} {tys : List (ClassId × FieldType)} {W0 wo wr : va_W} {rtO : Option FieldType} {own host : String} {asM rest : List Value} {H0 : Heap}
variable {y : MethodName} {b : ByteArray} {n index : Nat} {rm : Room} {Post : va_W → Prop}
theorem rInit_go (B : Bd p s m meth c cc nL rtO own D tys asM) {a : Nat} (hr : va_Run p l e R s m asM.toArray below meth c H locs cells slots mc ms (F0 m pc ls (.ref a :: rest)) rest (va_Qv Post (fun w1 t => va_P D vwCl w1 t.heap ∧ va_D (va_A wo H.size) w1) (va_A wo H.size) [Value.ref a].toArray) (va_A wo H.size))
    (hP : va_P D vwCl W0 H) (hD : va_D A0 W0) (hS : va_S A0 H0 H locs) (hA : ∀ q, H0.size ≤ q → A0 q) (isC isR : List Nat) (hC : isC.map (fun i => W0[i]?) = wo.map some) (hR : isR.map (fun i => W0[i]?) = wr.map some) (hn : va_nd isR = true) (hdis : ∀ i ∈ isR, i ∉ isC)
    (kk : ∀ (w1 : va_W) (H1 : Heap) (locs1 : List Loc), Post w1 → va_P D vwCl (wr ++ w1) H1 → va_D A0 (wr ++ w1) → va_S A0 H0 H1 locs1 → W p l e R s m asM.toArray below meth c H1 locs1 (cells + mc) (slots + ms) Q (F0 m (pc + 3) ls rest)) :
    W p l e R s m asM.toArray below meth c H locs cells slots Q (F0 m pc ls (.ref a :: rest)) := by
  have hF := va_free (wc := wo) hD hS hA isC hC
  refine va_callv hr hS (fun q _ h => hF q h) hF (fun u t H1 locs1 ht hvm hw hB hz hk hS1 => ?_)
  obtain ⟨hP1, hD1⟩ := hB
  rw [ht] at hP1
  obtain ⟨hP2, hD2⟩ := va_join hP hD isC isR hC hR hn hdis hk hF hP1 hD1
  exact kk u H1 locs1 hw hP2 hD2 hS1
theorem rInit (B : Bd p s m meth c cc nL rtO own D tys asM) (hls : ls.size = nL) {a : Nat} (hM : MC l y b n rm D tys [.ref a] wo Post mc ms) (cb : CallB R s asM.toArray own index y b n none (WS y b n none) rm mc ms 0) (hy : y.name = "<init>") (hin : Cond.instanceMethod y ∈ wsL_law)
    (hP : va_P D vwCl W0 H) (hD : va_D A0 W0) (hS : va_S A0 H0 H locs) (hA : ∀ q, H0.size ≤ q → A0 q) (isC isR : List Nat) (hC : isC.map (fun i => W0[i]?) = wo.map some) (hnC : va_nd isC = true) (hR : isR.map (fun i => W0[i]?) = wr.map some) (hn : va_nd isR = true) (hdis : ∀ i ∈ isR, i ∉ isC)
    (hw : (rest.map fun v => v.category).sum ≤ 8) (hroom : cells + mc ≤ R.cells ∧ slots + ms ≤ R.slots) (hdg : decode cc pc = .ok (.invokespecial index, 3))
    (kk : ∀ (w1 : va_W) (H1 : Heap) (locs1 : List Loc), Post w1 → va_P D vwCl (wr ++ w1) H1 → va_D A0 (wr ++ w1) → va_S A0 H0 H1 locs1 → W p l e R s m asM.toArray below meth c H1 locs1 (cells + mc) (slots + ms) Q (F0 m (pc + 3) ls rest)) :
    W p l e R s m asM.toArray below meth c H locs cells slots Q (F0 m pc ls (.ref a :: rest)) := by
  have B0 := B
  obtain ⟨hx, hb, -, hml, hown, hts, -, hN, hK, -⟩ := B
  exact rInit_go B0 (va_runI (mc := mc) (ms := ms) (As := []) (rest := rest) (b := a) (g := F0 m pc ls (.ref a :: rest)) (cells := cells) (slots := slots) (locs := locs) (l := l) (e := e) (below := below) (meth := meth) (H := H) ⟨hx, hb, hml, hown, hts⟩ (hM H.size) ⟨cb, hy, hts _ hin⟩
    ⟨cPre_blind _ D tys wo H.size, fun U hU hW => ⟨rfl, x_pre hP hD hK hN isC hC hnC (fm_of hC) U hU hW⟩⟩ rfl rfl hls rfl (lv_room hw) hdg hroom) hP hD hS hA isC isR hC hR hn hdis kk
theorem rInitN (B : Bd p s m meth c cc nL rtO own D tys asM) (hls : ls.size = nL) {a : Nat} (hM : MC l y b n rm D tys [.ref a] wo Post mc ms) (cb : va_CN R s asM.toArray own index y host b n none (WS y b n none) rm mc ms 0) (hy : y.name = "<init>") (hin : Cond.instanceMethod y ∈ wsL_law)
    (hP : va_P D vwCl W0 H) (hD : va_D A0 W0) (hS : va_S A0 H0 H locs) (hA : ∀ q, H0.size ≤ q → A0 q) (isC isR : List Nat) (hC : isC.map (fun i => W0[i]?) = wo.map some) (hnC : va_nd isC = true) (hR : isR.map (fun i => W0[i]?) = wr.map some) (hn : va_nd isR = true) (hdis : ∀ i ∈ isR, i ∉ isC)
    (hw : (rest.map fun v => v.category).sum ≤ 8) (hroom : cells + mc ≤ R.cells ∧ slots + ms ≤ R.slots) (hdg : decode cc pc = .ok (.invokespecial index, 3))
    (kk : ∀ (w1 : va_W) (H1 : Heap) (locs1 : List Loc), Post w1 → va_P D vwCl (wr ++ w1) H1 → va_D A0 (wr ++ w1) → va_S A0 H0 H1 locs1 → W p l e R s m asM.toArray below meth c H1 locs1 (cells + mc) (slots + ms) Q (F0 m (pc + 3) ls rest)) :
    W p l e R s m asM.toArray below meth c H locs cells slots Q (F0 m pc ls (.ref a :: rest)) := by
  have B0 := B
  obtain ⟨hx, hb, -, hml, hown, hts, -, hN, hK, -⟩ := B
  exact rInit_go B0 (va_runIN (mc := mc) (ms := ms) (As := []) (rest := rest) (b := a) (g := F0 m pc ls (.ref a :: rest)) (cells := cells) (slots := slots) (locs := locs) (l := l) (e := e) (below := below) (meth := meth) (H := H) ⟨hx, hb, hml, hown, hts⟩ (hM H.size) ⟨cb, hy, hts _ hin⟩
    ⟨cPre_blind _ D tys wo H.size, fun U hU hW => ⟨rfl, x_pre hP hD hK hN isC hC hnC (fm_of hC) U hU hW⟩⟩ rfl rfl hls rfl (lv_room hw) hdg hroom) hP hD hS hA isC isR hC hR hn hdis kk
end XJ
