/-! the law's loop: base -/
abbrev LW (cJ : ClassId) (ao : Nat) (fo : Nat → Int64) (wc wr : va_W) : va_W := (wc ++ [oE cJ ao fo]) ++ wr
theorem rg_R (pre wr : va_W) (n k : Nat) (hn : pre.length = n) (hk : wr.length = k) : (List.range' n k).map (fun i => (pre ++ wr)[i]?) = wr.map some := by
  apply List.ext_getElem?
  intro j
  rw [List.getElem?_map, List.getElem?_map]
  by_cases q : j < k
  · rw [List.getElem?_range' q, List.getElem?_eq_getElem (by omega : j < wr.length)]
    show some ((pre ++ wr)[n + 1 * j]?) = some (some wr[j])
    rw [List.getElem?_append_right (by omega), show n + 1 * j - pre.length = j by omega, List.getElem?_eq_getElem (by omega : j < wr.length)]
  · rw [List.getElem?_eq_none (by rw [List.length_range']; omega), List.getElem?_eq_none (by omega)]
    rfl
theorem and31 (x : Int32) : ∃ t, t < 32 ∧ x &&& nI 31 = nI t := by
  refine ⟨(x &&& nI 31).toBitVec.toNat, ?_, ?_⟩
  · rw [Int32.toBitVec_and, BitVec.toNat_and]
    exact Nat.lt_of_le_of_lt Nat.and_le_right (by decide)
  · apply Int32.toBitVec_inj.mp
    show _ = BitVec.ofNat 32 _
    rw [BitVec.ofNat_toNat, BitVec.setWidth_eq]
theorem sub4 {L i : Nat} (hL : L ≤ 2048) (hi : i ≤ 4096) : (nI L - nI 4 < nI i) ↔ L < i + 4 := by
  rw [Int32.lt_iff_toInt_lt, Int32.toInt_sub, nI_toInt (by omega), nI_toInt (by omega), nI_toInt (by omega)]
  rw [Int.bmod_eq_of_le (by omega) (by omega)]
  omega
theorem lcmp0 {x y : Int64} (h : x = y) : lg_cmp x y = 0 := by
  subst h
  have h1 : ¬ x < x := fun h => absurd (Int64.lt_iff_toInt_lt.mp h) (by omega)
  simp [lg_cmp, h1]
theorem REL.facts {cI cZ : ClassId} {ad ad2 : Nat → Nat} {c k : Nat} {wc wr : va_W} (h : REL cI cZ ad ad2 c k wc wr) : wc.length = 22 ∧ wr.length = 14 ∧ (∃ fs, wc[0]? = some (ad 0, .inr (5, fs))) ∧ (∃ fs, wr[0]? = some (ad2 0, .inr (6, fs))) ∧
    ∀ (l : Launch) (D : va_G), MI l yX6_thrown cX6_thrown 1 .int { frames := 0, cells := 0, slots := 0, locals := 0 } D (TY cI cZ) [.ref (ad2 0)] wr wr (nI k) := by
  obtain ⟨rc, rl, rh, fr, fw, fc, fg, ps, pg, pr, pd, qp, qt, qf, qo, ct, cand, lim, now, was, sent, qfi, qsz, co, fa, ic, me, sw, cn, ab, go, cp, so, gr, re, db, rclk, rlim, rqd, rpk, rwas, rfl, rfl, -⟩ := h
  exact ⟨rfl, rfl, ⟨_, rfl⟩, ⟨_, rfl⟩, fun l D => c_X6_thrown l D cI cZ ad2 co fa ic me sw cn ab go cp so gr re db rclk rlim rqd rpk rwas (nI k)⟩
/-- what stands while the law runs -/
def LCX (p : Program) (s : State) (m : MethodId) (meth : Method) (c : Code) (D : va_G) (A0 : Nat → Prop) (cI cZ cJ : ClassId) (b L : Nat) (xs : Nat → Int32) : Prop :=
  Bd p s m meth c cL_law 7 (some .boolean) RL D (TYH cI cZ cJ) [.ref b] ∧ XQ A0 s s.heap ∧ XNc s ∧ (∀ q, s.heap.size ≤ q → A0 q) ∧ va_X b L xs s s.heap ∧ b < s.heap.size ∧ ¬ A0 b ∧ L ≤ 2048
/-- what a case of the switch goes on to -/
def LGO (p : Program) (l : Launch) (e : Env) (s : State) (m : MethodId) (below : List Frame) (meth : Method) (c : Code) (D : va_G) (A0 : Nat → Prop) (cI cZ cJ : ClassId) (b ao : Nat) (ad ad2 : Nat → Nat) (Q : State → Prop) (c0 i cells slots : Nat) : Prop :=
  ∀ (H1 : Heap) (locs1 : List Loc) (wc1 wr1 : va_W) (fo1 : Nat → Int64) (c1 k1 : Nat) (ls1 : Array Slot), REL cI cZ ad ad2 c1 k1 wc1 wr1 → c1 ≤ c0 + 100 → va_P D vwCl (LW cJ ao fo1 wc1 wr1) H1 → va_D A0 (LW cJ ao fo1 wc1 wr1) → va_S A0 s.heap H1 locs1 →
    lv_has ls1 7 [(0, .ref b), (1, .ref (ad 0)), (2, .ref (ad2 0)), (3, .ref ao), (4, .int (nI i))] → W p l e room_1 s m [Value.ref b].toArray below meth c H1 locs1 (cells + 1) (slots + 6) Q (F0 m 1430 ls1 [])
section LB
variable {p : Program} {l : Launch} {e : Env} {s : State} {m : MethodId} {below : List Frame} {meth : Method} {c : Code} {H : Heap} {locs : List Loc} {Q : State → Prop} {cells slots : Nat}
variable {pc : Nat} {ls : Array Slot} {D : va_G} {A0 : Nat → Prop} {cI cZ cJ : ClassId} {ao : Nat} {fo fo1 : Nat → Int64} {wc wc1 wr wr1 : va_W} {asM as rest st : List Value} {rtO : Option FieldType}
variable {y : MethodName} {b : ByteArray} {n index k : Nat} {hh : List (Nat × Nat × Nat × Nat)} {rt : FieldType} {rm : Room} {rv : Int32} {ad ad2 : Nat → Nat}
theorem kLH (B : Bd p s m meth c cL_law 7 rtO RL D (TYH cI cZ cJ) asM) (hls : ls.size = 7) (hM : MH l y b n hh HR D (TYH cI cZ cJ) as (wc ++ [oE cJ ao fo]) (wc1 ++ [oE cJ ao fo1]) rv)
    (hcode : Cond.codeWith y b n (some .int) hh ∈ wsL_law) (hsta : Cond.static y ∈ wsL_law) (hcl : y.cls = RL) (hlink : Cond.methodLink RL index y ∈ wsL_law) (hd : (parseMethodDescriptor y.desc).map (fun d => d.parameters.length) = some k) (hn6 : n ≤ 6)
    (hst : st = as.reverse) (hk : as.length = k) (hX : XQ A0 s s.heap) (hNc : XNc s) (hP : va_P D vwCl (LW cJ ao fo wc wr) H) (hD : va_D A0 (LW cJ ao fo wc wr)) (hS : va_S A0 s.heap H locs) (hA : ∀ q, s.heap.size ≤ q → A0 q) (hlen : wc.length = 22) (hf : wc1.map Prod.fst = wc.map Prod.fst)
    (hroom : cells + 1 ≤ room_1.cells ∧ slots + 6 ≤ room_1.slots) (hdg : decode cL_law pc = .ok (.invokestatic index, 3))
    (kk : ∀ (H1 : Heap) (locs1 : List Loc), va_P D vwCl (LW cJ ao fo1 wc1 wr) H1 → va_D A0 (LW cJ ao fo1 wc1 wr) → va_S A0 s.heap H1 locs1 → W p l e room_1 s m asM.toArray below meth c H1 locs1 (cells + 1) (slots + 6) Q (F0 m (pc + 3) ls [.int rv])) :
    W p l e room_1 s m asM.toArray below meth c H locs cells slots Q (F0 m pc ls st) := by
  have hts := B.2.2.2.2.2.1
  have hlen1 := len_f hf hlen
  have hG : GoodIn wsL_law (va_wsS RL index y (.codeWith y b n (some .int) hh :: wsL_law)) := by
    intro w hw
    have hin : w ∈ wsL_law := by
      unfold va_wsS at hw
      rcases List.mem_cons.mp hw with rfl | hw
      · exact hlink
      · rcases List.mem_cons.mp hw with rfl | hw
        · exact hsta
        · rcases List.mem_cons.mp hw with rfl | hw
          · rw [hcl]; exact m_6_20
          · rcases List.mem_cons.mp hw with rfl | hw
            · exact hcode
            · exact hw
    exact ⟨hin, good_of_word (ga_law _ hin)⟩
  refine kH (R := room_1) B hls hM (vx_cwSW k hts hG rfl rfl rfl ⟨by rw [hcl]; decide, by rw [hcl]; decide, hd⟩ ⟨Nat.le_of_ble_eq_true rfl, ?_⟩) (rest := []) (by rw [hst, List.append_nil]) hk hX hNc hP hD hS hA (List.range 23) (rg_C _ _ 23 (by rw [List.length_append, hlen]; rfl)) ?_ (by decide) (Nat.zero_le _) hroom hdg (fun H1 locs1 hP1 hD1 hS1 => ?_)
  · show 8 + (n + 11) + 363 ≤ 388
    omega
  · rw [List.map_append, List.map_append, hf]; rfl
  · have e : putAt (LW cJ ao fo wc wr) (List.range 23) (wc1 ++ [oE cJ ao fo1]) = LW cJ ao fo1 wc1 wr := by
      have h1 := rg_put_L (wc1 ++ [oE cJ ao fo1]) (wc ++ [oE cJ ao fo]) [] wr (by rw [List.length_append, List.length_append, hlen, hlen1]; rfl)
      rw [List.length_append, hlen] at h1
      rw [List.range_eq_range']
      exact h1
    rw [e] at hP1 hD1
    exact kk H1 locs1 hP1 hD1 hS1
theorem kLR (B : Bd p s m meth c cL_law 7 rtO RL D (TYH cI cZ cJ) asM) (hls : ls.size = 7) (hM : MI l y b n rt rm D (TY cI cZ) (.ref (ad2 0) :: as) wr wr1 rv) (hg : RmG rm n)
    (hcode : Cond.code y b n (some rt) ∈ wsL_law) (hini : Cond.initialized y.cls ∈ wsL_law) (hlink : Cond.methodLink RL index y ∈ wsL_law) (hin : Cond.instanceMethod y ∈ wsL_law) (hse : Cond.selects RX6 y y ∈ wsL_law)
    (hd : y.cls ≠ "java/lang/invoke/MethodHandle" ∧ y.cls ≠ "java/lang/invoke/VarHandle" ∧ (parseMethodDescriptor y.desc).map (fun d => d.parameters.length) = some k)
    (hst : st = as.reverse ++ .ref (ad2 0) :: rest) (hk : as.length = k) (hP : va_P D vwCl (LW cJ ao fo wc wr) H) (hD : va_D A0 (LW cJ ao fo wc wr)) (hS : va_S A0 s.heap H locs) (hA : ∀ q, s.heap.size ≤ q → A0 q) (hlen : wc.length = 22) (hlr : wr.length = 14) (h0 : ∃ fs, wr[0]? = some (ad2 0, .inr (6, fs))) (hf : wr1.map Prod.fst = wr.map Prod.fst)
    (hw : (rest.map fun v => v.category).sum ≤ 8) (hroom : cells ≤ room_1.cells ∧ slots ≤ room_1.slots) (hdg : decode cL_law pc = .ok (.invokevirtual index, 3))
    (kk : ∀ (H1 : Heap) (locs1 : List Loc), va_P D vwCl (LW cJ ao fo wc wr1) H1 → va_D A0 (LW cJ ao fo wc wr1) → va_S A0 s.heap H1 locs1 → W p l e room_1 s m asM.toArray below meth c H1 locs1 cells slots Q (F0 m (pc + 3) ls (.int rv :: rest))) :
    W p l e room_1 s m asM.toArray below meth c H locs cells slots Q (F0 m pc ls st) := by
  have hts := B.2.2.2.2.2.1
  obtain ⟨fs, h0⟩ := h0
  have hp : (wc ++ [oE cJ ao fo]).length = 23 := by rw [List.length_append, hlen]; rfl
  have hlr1 : wr1.length = 14 := by have := congrArg List.length hf; simpa [hlr] using this
  refine kV_i (R := room_1) (ci := 6) (fs := fs) (Bd.less B) hls hM rfl (x_cb hg.1 k hts hcode hini hlink hd ⟨?_, ?_⟩) hin hse hst hk hP hD hS hA (List.range' 23 14) 23 ?_ (rg_R _ _ 23 14 hp hlr) hf (by decide) hw hroom hdg (fun H1 locs1 hP1 hD1 hS1 => ?_)
  · have := hg.2.1
    show rm.frames + 1 ≤ 11
    omega
  · have := hg.2.2
    show 8 + (n + 11) + rm.locals ≤ 388
    omega
  · show (wc ++ [oE cJ ao fo] ++ wr)[23]? = _
    rw [List.getElem?_append_right (by omega), hp]
    exact h0
  · have e : putAt (LW cJ ao fo wc wr) (List.range' 23 14) wr1 = LW cJ ao fo wc wr1 := by
      have h1 := rg_put_L wr1 wr (wc ++ [oE cJ ao fo]) [] (hlr1.trans hlr.symm)
      rw [hp, hlr, List.append_nil, List.append_nil] at h1
      exact h1
    rw [e] at hP1 hD1
    exact kk H1 locs1 hP1 hD1 hS1
theorem kLC (B : Bd p s m meth c cL_law 7 rtO RL D (TYH cI cZ cJ) asM) (hls : ls.size = 7) (hM : MI l y b n rt rm D (TY cI cZ) (.ref (ad 0) :: as) wc wc1 rv) (hg : RmG rm n)
    (hcode : Cond.code y b n (some rt) ∈ wsL_law) (hini : Cond.initialized y.cls ∈ wsL_law) (hlink : Cond.methodLink RL index y ∈ wsL_law) (hin : Cond.instanceMethod y ∈ wsL_law) (hse : Cond.selects RX5 y y ∈ wsL_law)
    (hd : y.cls ≠ "java/lang/invoke/MethodHandle" ∧ y.cls ≠ "java/lang/invoke/VarHandle" ∧ (parseMethodDescriptor y.desc).map (fun d => d.parameters.length) = some k)
    (hst : st = as.reverse ++ .ref (ad 0) :: rest) (hk : as.length = k) (hP : va_P D vwCl (LW cJ ao fo wc wr) H) (hD : va_D A0 (LW cJ ao fo wc wr)) (hS : va_S A0 s.heap H locs) (hA : ∀ q, s.heap.size ≤ q → A0 q) (hlen : wc.length = 22) (h0 : ∃ fs, wc[0]? = some (ad 0, .inr (5, fs))) (hf : wc1.map Prod.fst = wc.map Prod.fst)
    (hw : (rest.map fun v => v.category).sum ≤ 8) (hroom : cells ≤ room_1.cells ∧ slots ≤ room_1.slots) (hdg : decode cL_law pc = .ok (.invokevirtual index, 3))
    (kk : ∀ (H1 : Heap) (locs1 : List Loc), va_P D vwCl (LW cJ ao fo wc1 wr) H1 → va_D A0 (LW cJ ao fo wc1 wr) → va_S A0 s.heap H1 locs1 → W p l e room_1 s m asM.toArray below meth c H1 locs1 cells slots Q (F0 m (pc + 3) ls (.int rv :: rest))) :
    W p l e room_1 s m asM.toArray below meth c H locs cells slots Q (F0 m pc ls st) := by
  have hts := B.2.2.2.2.2.1
  obtain ⟨fs, h0⟩ := h0
  have hlen1 := len_f hf hlen
  have ea : LW cJ ao fo wc wr = wc ++ ([oE cJ ao fo] ++ wr) := List.append_assoc _ _ _
  have eb : LW cJ ao fo wc1 wr = wc1 ++ ([oE cJ ao fo] ++ wr) := List.append_assoc _ _ _
  rw [ea] at hP hD
  rw [eb] at kk
  refine kV_i (R := room_1) (ci := 5) (fs := fs) (Bd.less B) hls hM rfl (x_cb hg.1 k hts hcode hini hlink hd ⟨?_, ?_⟩) hin hse hst hk hP hD hS hA (List.range 22) 0 ?_ (rg_C _ _ 22 hlen) hf (by decide) hw hroom hdg (fun H1 locs1 hP1 hD1 hS1 => ?_)
  · have := hg.2.1
    show rm.frames + 1 ≤ 11
    omega
  · have := hg.2.2
    show 8 + (n + 11) + rm.locals ≤ 388
    omega
  · rw [List.getElem?_append_left (by omega)]
    exact h0
  · rw [rg_put hlen hlen1] at hP1 hD1
    exact kk H1 locs1 hP1 hD1 hS1
end LB
/-- the helper and the reference's call, both answers -/
def SP (l : Launch) (D : va_G) (cI cZ cJ : ClassId) (ad ad2 : Nat → Nat) (ao c : Nat) (yH : MethodName) (bH : ByteArray) (nH : Nat) (hh : List (Nat × Nat × Nat × Nat)) (y6 : MethodName) (b6 : ByteArray) (n6 : Nat) (rt : FieldType) (asH ps : List Value) (fo : Nat → Int64) (wc wr : va_W) (Pf : Int32 → Int64 → Prop) : Prop :=
  ∃ (wc1 wr1 : va_W) (fo1 : Nat → Int64) (v : Int32) (k1 c1 : Nat) (rm6 : Room), MH l yH bH nH hh HR D (TYH cI cZ cJ) asH (wc ++ [oE cJ ao fo]) (wc1 ++ [oE cJ ao fo1]) (nI k1) ∧ RmG rm6 n6 ∧ MI l y6 b6 n6 rt rm6 D (TY cI cZ) (.ref (ad2 0) :: ps) wr wr1 v ∧
    REL cI cZ ad ad2 c1 k1 wc1 wr1 ∧ wc1.map Prod.fst = wc.map Prod.fst ∧ wr1.map Prod.fst = wr.map Prod.fst ∧ c1 ≤ c + 100 ∧ k1 < 3 ∧ (k1 = 0 → Pf v (fo1 (nI 0).toNatClampNeg))
abbrev PfI : Int32 → Int64 → Prop := fun v z => z = v.toInt64
abbrev PfZ : Int32 → Int64 → Prop := fun v z => ∃ b : Bool, v = bI b ∧ z = if b = true then 1 else 0
theorem fo_at (f : Nat → Int64) (k : Nat) (x : Int64) : vp_updL f k x k = x := if_pos rfl
