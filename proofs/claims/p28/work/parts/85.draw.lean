/-! the law's script, and methods that read it -/
def sPre (D : va_G) (tys : List (ClassId × FieldType)) (sb L : Nat) (xs : Nat → Int32) (sz : Nat) (U : State) : Prop := cPre D tys [] sz U ∧ va_X sb L xs U U.heap ∧ sb < sz
theorem sPre_blind (as : List Value) (D : va_G) (tys : List (ClassId × FieldType)) (sb L : Nat) (xs : Nat → Int32) (sz : Nat) : FrameBlind (va_Pc as (sPre D tys sb L xs sz)) :=
  fun a U g mk h => ⟨h.1, (cPre_blind as D tys [] sz a U g mk ⟨h.1, h.2.1⟩).2, va_X.moved (u := U) (U := U.calling g mk a) (Vm.Alike.refl U.vm) h.2.2.1, h.2.2.2⟩
/-- the contract of an int method that reads the script and changes nothing that was there: P holds of what it answers; mc cells, ms slots are new -/
def MX (l : Launch) (y : MethodName) (b : ByteArray) (n : Nat) (rt : FieldType) (rm : Room) (D : va_G) (tys : List (ClassId × FieldType)) (as : List Value) (sb L : Nat) (xs : Nat → Int32) (P : Int32 → Prop) (mc ms : Nat) : Prop :=
  ∀ sz, Met l y (WS y b n (some rt)) rm (va_Pc as (sPre D tys sb L xs sz)) (va_Qi (fun (r : Int32) (_ : Unit) => P r) (fun _ _ => True) (fun q => sz ≤ q)) mc ms (fun q => sz ≤ q)
theorem MX.mk {l : Launch} {y : MethodName} {b : ByteArray} {n : Nat} {rt : FieldType} {rm : Room} {D : va_G} {tys : List (ClassId × FieldType)} {as : List Value} {sb L : Nat} {xs : Nat → Int32} {P : Int32 → Prop} {mc ms : Nat} (hy : plainName y.cls = true) (hn : (lg_sl as).length ≤ n)
    (body : ∀ (p : Program) (e : Env) (s : State) (m : MethodId) (below : List Frame) (meth : Method) (c : Code) (ls : Array Slot), Bd p s m meth c b n (some rt) y.cls D tys as → va_X sb L xs s s.heap → sb < s.heap.size → lv_has ls n (lv_args 0 as) →
      W p l e rm s m as.toArray below meth c s.heap [] 0 0 (MQ below (va_Qi (fun (r : Int32) (_ : Unit) => P r) (fun _ _ => True) (fun q => s.heap.size ≤ q)) as.toArray s mc ms (fun q => s.heap.size ≤ q)) (F0 m 0 ls [])) : MX l y b n rt rm D tys as sb L xs P mc ms := by
  intro sz
  refine Met.ofW (cc := b) (maxL := n) (ret := some rt) hy rfl ?_
  intro p e s m args below meth c s₁ B hml hv
  obtain ⟨rfl, ⟨hsz, hP, hK, hD0, hN⟩, hX, hb⟩ := hv
  have hts := atoms_spec (ws := WS y b n (some rt)) B.pre
  subst hsz
  rw [lg_entry_eq]
  exact body p e s m below meth c _ ⟨B.exec, B.bytes, B.returns, hml, findClass_of_methodNamed B.named, fun w h => hts w (List.mem_cons_of_mem _ h), B.notSynchronized, hN, hK, Or.inr trivial⟩ hX hb (lv_entry as hn)
section XS
variable {p : Program} {l : Launch} {e : Env} {R : Room} {s : State} {m : MethodId} {below : List Frame} {meth : Method} {c : Code} {H : Heap} {locs : List Loc} {cells slots mc ms : Nat} {Q : State → Prop}
variable {cc : ByteArray} {nL pc : Nat} {ls : Array Slot} {D : va_G} {A0 : Nat → Prop} {tys : List (ClassId × FieldType)} {W0 W1 : va_W} {H0 : Heap} {own : String} {rtO : Option FieldType}
variable {y : MethodName} {b : ByteArray} {n index k : Nat} {rt : FieldType} {rm : Room} {asM as rest st : List Value} {rv : Int32} {sb L : Nat} {xs : Nat → Int32} {P : Int32 → Prop}
theorem x_cbm {r : Option FieldType} (hrm : rm.cells = mc ∧ rm.slots = ms) (k : Nat) (ht : ∀ w ∈ wsL_law, w.before asM.toArray s = true) (hcode : Cond.code y b n r ∈ wsL_law) (hini : Cond.initialized y.cls ∈ wsL_law) (hl : Cond.methodLink own index y ∈ wsL_law)
    (hd : y.cls ≠ "java/lang/invoke/MethodHandle" ∧ y.cls ≠ "java/lang/invoke/VarHandle" ∧ (parseMethodDescriptor y.desc).map (fun d => d.parameters.length) = some k) (hR : rm.frames + 1 ≤ R.frames ∧ 8 + (n + 11) + rm.locals ≤ R.locals) :
    CallB R s asM.toArray own index y b n r (WS y b n r) rm mc ms k := callB_of k ht (gd hcode) rfl hrm.1 hrm.2 (ht _ hini) (ht _ hl) hd hR
/-- a static method that reads the script is called -/
theorem kX (B : Bd p s m meth c cc nL rtO own D tys asM) (hls : ls.size = nL) (hM : MX l y b n rt rm D tys as sb L xs P mc ms)
    (cb : CallB R s asM.toArray own index y b n (some rt) (WS y b n (some rt)) rm mc ms k) (hst' : Cond.static y ∈ wsL_law)
    (hst : st = as.reverse ++ rest) (hk : as.length = k) (hX : va_X sb L xs s H0) (hbl : sb < H0.size) (hbA : ¬ A0 sb) (hP : va_P D vwCl W0 H) (hS : va_S A0 H0 H locs) (hA : ∀ q, H0.size ≤ q → A0 q)
    (hw : (rest.map fun v => v.category).sum ≤ 8) (hroom : cells + mc ≤ R.cells ∧ slots + ms ≤ R.slots) (hdg : decode cc pc = .ok (.invokestatic index, 3))
    (kk : ∀ (r : Int32) (H1 : Heap) (locs1 : List Loc), P r → va_P D vwCl W0 H1 → va_S A0 H0 H1 locs1 → W p l e R s m asM.toArray below meth c H1 locs1 (cells + mc) (slots + ms) Q (F0 m (pc + 3) ls (.int r :: rest))) :
    W p l e R s m asM.toArray below meth c H locs cells slots Q (F0 m pc ls st) := by
  obtain ⟨hx, hb, -, hml, hown, hts, -, hN, hK, -⟩ := B
  subst hst
  have hr := va_runS (mc := mc) (ms := ms) (As := as) (rest := rest) (g := F0 m pc ls (as.reverse ++ rest)) (cells := cells) (slots := slots) (locs := locs) (l := l) (e := e) (below := below) (meth := meth) (H := H) ⟨hx, hb, hml, hown, hts⟩ (hM H.size) ⟨cb, hts _ hst'⟩
    ⟨sPre_blind _ D tys sb L xs H.size, fun U hU hW => ⟨rfl, ⟨by rw [hU], fun k q h => by simp at h, va_K.moved hW.alike hK, ⟨fun i j p q h => by simp at h, fun k q h => by simp at h⟩, NW.warm hW hN⟩, by rw [hU]; exact (va_X.moved hW.alike hX).kept (hS.2.1 sb hbl hbA), Nat.lt_of_lt_of_le hbl hS.1⟩⟩ rfl hk hls rfl (lv_room hw) hdg hroom
  refine va_calli hr hS (fun q h1 h2 => absurd h1 (Nat.not_lt.mpr h2)) (fun q h => hA q (Nat.le_trans hS.1 h)) (fun r u t H1 locs1 ht hvm hw hB hz hk hS1 => ?_)
  exact kk r H1 locs1 hw (hP.kept (fun k q hq => hk q.1 (hP k q hq).lt (Nat.not_le.mpr (hP k q hq).lt))) hS1
/-- a static method that has the caller's whole world, among new cells -/
theorem fS_g (B : Bd p s m meth c cc nL rtO own D tys asM) (hls : ls.size = nL) (hM : MI l y b n rt rm D tys as W0 W1 rv)
    (cb : CallB R s asM.toArray own index y b n (some rt) (WS y b n (some rt)) rm 0 0 k) (hst' : Cond.static y ∈ wsL_law)
    (hst : st = as.reverse ++ rest) (hk : as.length = k) (hP : va_P D vwCl W0 H) (hD : va_D A0 W0) (hS : va_S A0 H0 H locs) (hA : ∀ q, H0.size ≤ q → A0 q)
    (hf : W1.map Prod.fst = W0.map Prod.fst) (hw : (rest.map fun v => v.category).sum ≤ 8) (hroom : cells ≤ R.cells ∧ slots ≤ R.slots) (hdg : decode cc pc = .ok (.invokestatic index, 3))
    (kk : ∀ (H1 : Heap) (locs1 : List Loc), va_P D vwCl W1 H1 → va_D A0 W1 → va_S A0 H0 H1 locs1 → W p l e R s m asM.toArray below meth c H1 locs1 cells slots Q (F0 m (pc + 3) ls (.int rv :: rest))) :
    W p l e R s m asM.toArray below meth c H locs cells slots Q (F0 m pc ls st) := by
  obtain ⟨hx, hb, -, hml, hown, hts, -, hN, hK, -⟩ := B
  subst hst
  have hr := va_runS (mc := 0) (ms := 0) (As := as) (rest := rest) (g := F0 m pc ls (as.reverse ++ rest)) (cells := cells) (slots := slots) (locs := locs) (l := l) (e := e) (below := below) (meth := meth) (H := H) ⟨hx, hb, hml, hown, hts⟩ (hM H.size) ⟨cb, hts _ hst'⟩
    ⟨cPre_blind _ D tys W0 H.size, fun U hU hW => ⟨rfl, x_preF hP hD hK hN U hU hW⟩⟩ rfl hk hls rfl (lv_room hw) hdg ⟨hroom.1, hroom.2⟩
  have hF := x_sub hD hS hA
  refine va_calli hr hS (fun q _ h => hF q h) hF (fun r u t H1 locs1 ht hvm hw hB hz hk hS1 => ?_)
  rw [ht] at hB
  subst hw
  exact kk H1 locs1 hB (va_D_same hf hD) hS1
end XS
/-- one draw -/
theorem and_most (v : Int32) : ∃ n : Nat, n < 2147483648 ∧ v &&& nI 2147483647 = nI n := by
  refine ⟨(v &&& nI 2147483647).toBitVec.toNat, ?_, ?_⟩
  · show (v.toBitVec &&& 2147483647#32).toNat < 2147483648
    rw [BitVec.toNat_and]
    exact Nat.lt_of_le_of_lt Nat.and_le_right (by decide)
  · apply Int32.toBitVec_inj.mp
    show _ = BitVec.ofNat 32 _
    rw [BitVec.ofNat_toNat, BitVec.setWidth_eq]
set_option maxHeartbeats 4000000 in
theorem c_L_draw (l : Launch) (D : va_G) (cI cZ : ClassId) (sb L : Nat) (xs : Nat → Int32) (a M : Nat) (ha : a < 2000) (hL : L ≤ 260) (h0 : 0 < M) (hM : M < 2147483648) : MX l yL_draw cL_draw 4 .int { frames := 0, cells := 0, slots := 0, locals := 0 } D (TY cI cZ) [.ref sb, .int (nI a), .int (nI M)] sb L xs (fun r => ∃ n : Nat, n < M ∧ r = nI n) 0 0 := by
  refine MX.mk (by decide +kernel) (Nat.le_of_ble_eq_true rfl) ?_
  intro p e s m below meth c ls B hX hbl hl
  have hx := B.1
  have hb := B.2.1
  have hts := B.2.2.2.2.2.1
  have hS : va_S (fun q : Nat => s.heap.size ≤ q) s.heap s.heap [] := va_S.rf
  have hbA : ¬ (fun q : Nat => s.heap.size ≤ q) sb := Nat.not_le.mpr hbl
  have hl : lv_has ls 4 [(0, .ref sb), (1, .int (nI a)), (2, .int (nI M))] := hl
  have key : ∀ v : Int32, W p l e { frames := 0, cells := 0, slots := 0, locals := 0 } s m [Value.ref sb, .int (nI a), .int (nI M)].toArray below meth c s.heap [] 0 0 (MQ below (va_Qi (fun (r : Int32) (_ : Unit) => ∃ n : Nat, n < M ∧ r = nI n) (fun _ _ => True) (fun q => s.heap.size ≤ q)) [Value.ref sb, .int (nI a), .int (nI M)].toArray s 0 0 (fun q => s.heap.size ≤ q)) (F0 m 22 ls [.int v]) := by
    intro v
    refine lv_istore_n (lv' := [(3, .int v), (0, .ref sb), (1, .int (nI a)), (2, .int (nI M))]) hx hb dL_draw_22 rfl hl (by decide) rfl (fun ls hl => ?_)
    refine lv_iload_n hx hb dL_draw_23 rfl (lv_at hl 0 rfl) ?_
    refine lv_ldc (v := nI 2147483647) hx hb B.2.2.2.2.1 (hts _ m_6_0) dL_draw_24 ?_
    refine lv_iand hx hb dL_draw_26 ?_
    obtain ⟨n, hn, e⟩ := and_most v
    rw [e]
    refine lv_iload_n hx hb dL_draw_27 rfl (lv_at hl 3 rfl) ?_
    refine r_irem hx hb (by omega) (by omega) (by omega) dL_draw_28 ?_
    exact W.iret (v := nI (n % M)) hx hb B.2.2.1 (fun t ht hW => ⟨⟨_, (), rfl, ⟨n % M, Nat.mod_lt _ h0, rfl⟩, trivial⟩, hS.F ht⟩) hS.2.2 dL_draw_29 B.2.2.2.2.2.2.1
  refine lv_iload_n hx hb dL_draw_0 rfl (lv_at hl 1 rfl) ?_
  refine lv_aload_n hx hb dL_draw_1 rfl (lv_at hl 0 rfl) ?_
  refine va_slen hx hb hX hbl hbA hS dL_draw_2 ?_
  refine r_icmp_ge (tgt := 12) (b := L) hx hb (by omega) (by omega) dL_draw_3 (by decide) (fun _ => ?_) (fun h => ?_)
  · refine lv_ldc (v := 903604161) hx hb B.2.2.2.2.1 (hts _ m_5_22) dL_draw_12 ?_
    refine lv_iload_n hx hb dL_draw_14 rfl (lv_at hl 1 rfl) ?_
    refine lv_bipush (v := nI 37) hx hb dL_draw_15 (by decide) ?_
    refine lv_iadd hx hb dL_draw_17 ?_
    refine lv_imul hx hb dL_draw_18 ?_
    refine lv_ldc (v := 1301456627) hx hb B.2.2.2.2.1 (hts _ m_5_23) dL_draw_19 ?_
    refine lv_iadd hx hb dL_draw_21 ?_
    exact key _
  · refine lv_aload_n hx hb dL_draw_6 rfl (lv_at hl 0 rfl) ?_
    refine lv_iload_n hx hb dL_draw_7 rfl (lv_at hl 1 rfl) ?_
    refine va_sld hx hb hX hbl hbA hS (vp_in_nI (show a < L by omega) (by omega)) dL_draw_8 ?_
    refine lv_goto (tgt := 22) hx hb dL_draw_9 (by decide) ?_
    exact key _
