/-! the law's cases -/
theorem at_22 {wc wr : va_W} {x : Nat × va_E} (h : wc.length = 22) : ((wc ++ [x]) ++ wr)[22]? = some x := by
  rw [List.getElem?_append_left (by rw [List.length_append, h, List.length_singleton]; omega)]
  exact at_tl h
set_option maxHeartbeats 4000000 in
theorem lo_setLink {p : Program} {l : Launch} {e : Env} {s : State} {m : MethodId} {below : List Frame} {meth : Method} {c : Code} {H : Heap} {locs : List Loc} {Q : State → Prop} {cells slots : Nat} {ls : Array Slot} {D : va_G} {A0 : Nat → Prop} {cI cZ cJ : ClassId} {b L ao i c0 k : Nat} {xs : Nat → Int32} {fo : Nat → Int64} {wc wr : va_W} {ad ad2 : Nat → Nat} (C : LCX p s m meth c D A0 cI cZ cJ b L xs) (hst : l.stackTraces = false) (hi : i + 4 ≤ L) (hc : c0 + 200 < 2 ^ 31) (hR : REL cI cZ ad ad2 c0 k wc wr) (hP : va_P D vwCl (LW cJ ao fo wc wr) H) (hD : va_D A0 (LW cJ ao fo wc wr)) (hS : va_S A0 s.heap H locs) (hroom : cells + 1 ≤ room_1.cells ∧ slots + 6 ≤ room_1.slots) (hl : lv_has ls 7 [(0, .ref b), (1, .ref (ad 0)), (2, .ref (ad2 0)), (3, .ref ao), (4, .int (nI i))]) (kk : LGO p l e s m below meth c D A0 cI cZ cJ b ao ad ad2 Q c0 i cells slots) : W p l e room_1 s m [Value.ref b].toArray below meth c H locs cells slots Q (F0 m 152 ls []) := by
  obtain ⟨B, hX, hNc, hA, hxs, hbl, hbA, hL⟩ := C
  have hx := B.1
  have hb := B.2.1
  have hK := B.2.2.2.2.2.2.2.2.1
  obtain ⟨hlen, hlr, -, h06, -⟩ := hR.facts
  have v1 : vp_in (nI (i + 1)) L := vp_in_nI (by omega) (by omega)
  have v2 : vp_in (nI (i + 2)) L := vp_in_nI (by omega) (by omega)
  have v3 : vp_in (nI (i + 3)) L := vp_in_nI (by omega) (by omega)
  obtain ⟨wc1, wr1, fo1, v, k1, c1, rm6, hM, hg, hM6, hR1, f5, f6, hc1, hk1, hv⟩ := sp_setLink (D := D) cJ ao fo hst hc hR (xs (nI (i + 1)).toNatClampNeg) (xs (nI (i + 2)).toNatClampNeg) (xs (nI (i + 3)).toNatClampNeg)
  obtain ⟨hlen1, hlr1, -, h061, hT1⟩ := hR1.facts
  refine lv_aload_n hx hb dL_law_152 rfl (lv_at hl 1 rfl) ?_
  refine lv_aload_n hx hb dL_law_153 rfl (lv_at hl 0 rfl) ?_
  refine lv_iload hx hb dL_law_154 (lv_at hl 4 rfl) ?_
  refine lv_iconst (v := nI 1) hx hb dL_law_156 (by decide) ?_
  refine r_iadd hx hb dL_law_157 ?_
  refine va_sld hx hb hxs hbl hbA hS v1 dL_law_158 ?_
  refine lv_aload_n hx hb dL_law_159 rfl (lv_at hl 0 rfl) ?_
  refine lv_iload hx hb dL_law_160 (lv_at hl 4 rfl) ?_
  refine lv_iconst (v := nI 2) hx hb dL_law_162 (by decide) ?_
  refine r_iadd hx hb dL_law_163 ?_
  refine va_sld hx hb hxs hbl hbA hS v2 dL_law_164 ?_
  refine lv_aload_n hx hb dL_law_165 rfl (lv_at hl 0 rfl) ?_
  refine lv_iload hx hb dL_law_166 (lv_at hl 4 rfl) ?_
  refine lv_iconst (v := nI 3) hx hb dL_law_168 (by decide) ?_
  refine r_iadd hx hb dL_law_169 ?_
  refine va_sld hx hb hxs hbl hbA hS v3 dL_law_170 ?_
  refine lv_aload_n hx hb dL_law_171 rfl (lv_at hl 3 rfl) ?_
  refine kLH (k := 5) (wr := wr) (as := [.ref (ad 0), .int (xs (nI (i + 1)).toNatClampNeg), .int (xs (nI (i + 2)).toNatClampNeg), .int (xs (nI (i + 3)).toNatClampNeg), .ref ao]) B hl.1 hM m_6_21 m_6_19 rfl m_6_18 (by decide +kernel) (Nat.le_of_ble_eq_true rfl) rfl rfl hX hNc hP hD hS hA hlen f5 hroom dL_law_172 (fun H locs hP hD hS => ?_)
  refine lv_istore (lv' := [(5, .int (nI k1)), (0, .ref b), (1, .ref (ad 0)), (2, .ref (ad2 0)), (3, .ref ao), (4, .int (nI i))]) hx hb dL_law_175 hl (by decide) rfl (fun ls hl => ?_)
  refine lv_aload_n hx hb dL_law_177 rfl (lv_at hl 3 rfl) ?_
  refine lv_aload_n hx hb dL_law_178 rfl (lv_at hl 1 rfl) ?_
  refine lv_iload hx hb dL_law_179 (lv_at hl 5 rfl) ?_
  refine lv_iconst (v := nI 1) hx hb dL_law_181 (by decide) ?_
  refine r_iadd hx hb dL_law_182 ?_
  refine va_sld hx hb hxs hbl hbA hS v1 dL_law_183 ?_
  refine lv_aload_n hx hb dL_law_184 rfl (lv_at hl 1 rfl) ?_
  refine lv_iload hx hb dL_law_185 (lv_at hl 5 rfl) ?_
  refine lv_iconst (v := nI 2) hx hb dL_law_187 (by decide) ?_
  refine r_iadd hx hb dL_law_188 ?_
  refine va_sld hx hb hxs hbl hbA hS v2 dL_law_189 ?_
  refine lv_aload_n hx hb dL_law_190 rfl (lv_at hl 1 rfl) ?_
  refine lv_iload hx hb dL_law_191 (lv_at hl 5 rfl) ?_
  refine lv_iconst (v := nI 3) hx hb dL_law_193 (by decide) ?_
  refine r_iadd hx hb dL_law_194 ?_
  refine va_sld hx hb hxs hbl hbA hS v3 dL_law_195 ?_
  refine kLR (k := 3) (wc := wc1) (as := [.int (xs (nI (i + 1)).toNatClampNeg), .int (xs (nI (i + 2)).toNatClampNeg), .int (xs (nI (i + 3)).toNatClampNeg)]) (rest := []) B hl.1 hM6 hg m_8_20 m_1_5 m_8_17 m_8_18 m_8_19 (by decide +kernel) rfl rfl hP hD hS hA hlen1 hlr h06 f6 (Nat.le_of_ble_eq_true rfl) hroom dL_law_196 (fun H locs hP hD hS => ?_)
  refine lv_istore (lv' := [(6, .int v), (5, .int (nI k1)), (0, .ref b), (1, .ref (ad 0)), (2, .ref (ad2 0)), (3, .ref ao), (4, .int (nI i))]) hx hb dL_law_199 hl (by decide) rfl (fun ls hl => ?_)
  refine lv_aload_n hx hb dL_law_201 rfl (lv_at hl 4 rfl) ?_
  refine kLR (k := 0) (wc := wc1) (as := []) (rest := []) B hl.1 (hT1 l D) ⟨⟨rfl, rfl⟩, Nat.le_of_ble_eq_true rfl, Nat.le_of_ble_eq_true rfl⟩ m_10_8 m_1_5 m_10_5 m_10_6 m_10_7 (by decide +kernel) rfl rfl hP hD hS hA hlen1 hlr1 h061 rfl (Nat.le_of_ble_eq_true rfl) hroom dL_law_202 (fun H locs hP hD hS => ?_)
  refine lv_iload hx hb dL_law_205 (lv_at hl 1 rfl) ?_
  refine lv_icmp_eq (tgt := 212) hx hb dL_law_207 (by decide) (fun _ => ?_) (fun q9 => absurd rfl q9)
  refine lv_iload hx hb dL_law_212 (lv_at hl 1 rfl) ?_
  refine r_if_ne (a := k1) (tgt := 229) hx hb (by omega) dL_law_214 (by decide) (fun _ => ?_) (fun q9 => ?_)
  · refine lv_goto (tgt := 1430) hx hb dL_law_229 (by decide) ?_
    exact kk _ _ _ _ _ _ _ _ hR1 hc1 hP hD hS (lv_sub hl [2, 3, 4, 5, 6] rfl)
  · refine lv_aload_n hx hb dL_law_217 rfl (lv_at hl 5 rfl) ?_
    refine lv_iconst (v := nI 0) hx hb dL_law_218 (by decide) ?_
    refine va_lald hx hb hK hP 22 2 (at_22 hlen1) rfl vin0 dL_law_219 ?_
    refine lv_iload hx hb dL_law_220 (lv_at hl 0 rfl) ?_
    refine lv_i2l (v := v.toInt64) hx hb dL_law_222 rfl ?_
    refine W.lcmp hx hb dL_law_223 ?_
    refine lv_if_eq (tgt := 229) hx hb dL_law_224 (by decide) (fun _ => ?_) (fun q8 => absurd (lcmp0 (hv q9)) q8)
    refine lv_goto (tgt := 1430) hx hb dL_law_229 (by decide) ?_
    exact kk _ _ _ _ _ _ _ _ hR1 hc1 hP hD hS (lv_sub hl [2, 3, 4, 5, 6] rfl)
set_option maxHeartbeats 4000000 in
theorem lo_setCandidate {p : Program} {l : Launch} {e : Env} {s : State} {m : MethodId} {below : List Frame} {meth : Method} {c : Code} {H : Heap} {locs : List Loc} {Q : State → Prop} {cells slots : Nat} {ls : Array Slot} {D : va_G} {A0 : Nat → Prop} {cI cZ cJ : ClassId} {b L ao i c0 k : Nat} {xs : Nat → Int32} {fo : Nat → Int64} {wc wr : va_W} {ad ad2 : Nat → Nat} (C : LCX p s m meth c D A0 cI cZ cJ b L xs) (hst : l.stackTraces = false) (hi : i + 4 ≤ L) (hc : c0 + 200 < 2 ^ 31) (hR : REL cI cZ ad ad2 c0 k wc wr) (hP : va_P D vwCl (LW cJ ao fo wc wr) H) (hD : va_D A0 (LW cJ ao fo wc wr)) (hS : va_S A0 s.heap H locs) (hroom : cells + 1 ≤ room_1.cells ∧ slots + 6 ≤ room_1.slots) (hl : lv_has ls 7 [(0, .ref b), (1, .ref (ad 0)), (2, .ref (ad2 0)), (3, .ref ao), (4, .int (nI i))]) (kk : LGO p l e s m below meth c D A0 cI cZ cJ b ao ad ad2 Q c0 i cells slots) : W p l e room_1 s m [Value.ref b].toArray below meth c H locs cells slots Q (F0 m 232 ls []) := by
  obtain ⟨B, hX, hNc, hA, hxs, hbl, hbA, hL⟩ := C
  have hx := B.1
  have hb := B.2.1
  have hK := B.2.2.2.2.2.2.2.2.1
  obtain ⟨hlen, hlr, -, h06, -⟩ := hR.facts
  have v1 : vp_in (nI (i + 1)) L := vp_in_nI (by omega) (by omega)
  have v2 : vp_in (nI (i + 2)) L := vp_in_nI (by omega) (by omega)
  by_cases z : xs (nI (i + 2)).toNatClampNeg = 0
  · obtain ⟨wc1, wr1, fo1, v, k1, c1, rm6, hM, hg, hM6, hR1, f5, f6, hc1, hk1, hv⟩ := sp_setCandidate (D := D) cJ ao fo hst hc hR (xs (nI (i + 1)).toNatClampNeg) false
    obtain ⟨hlen1, hlr1, -, h061, hT1⟩ := hR1.facts
    refine lv_aload_n hx hb dL_law_232 rfl (lv_at hl 1 rfl) ?_
    refine lv_aload_n hx hb dL_law_233 rfl (lv_at hl 0 rfl) ?_
    refine lv_iload hx hb dL_law_234 (lv_at hl 4 rfl) ?_
    refine lv_iconst (v := nI 1) hx hb dL_law_236 (by decide) ?_
    refine r_iadd hx hb dL_law_237 ?_
    refine va_sld hx hb hxs hbl hbA hS v1 dL_law_238 ?_
    refine lv_aload_n hx hb dL_law_239 rfl (lv_at hl 0 rfl) ?_
    refine lv_iload hx hb dL_law_240 (lv_at hl 4 rfl) ?_
    refine lv_iconst (v := nI 2) hx hb dL_law_242 (by decide) ?_
    refine r_iadd hx hb dL_law_243 ?_
    refine va_sld hx hb hxs hbl hbA hS v2 dL_law_244 ?_
    refine lv_if_eq (tgt := 252) hx hb dL_law_245 (by decide) (fun _ => ?_) (fun q9 => absurd z q9)
    refine lv_iconst (v := bI false) hx hb dL_law_252 (by decide) ?_
    refine lv_aload_n hx hb dL_law_253 rfl (lv_at hl 3 rfl) ?_
    refine kLH (k := 4) (wr := wr) (as := [.ref (ad 0), .int (xs (nI (i + 1)).toNatClampNeg), .int (bI false), .ref ao]) B hl.1 hM m_10_11 m_10_10 rfl m_10_9 (by decide +kernel) (Nat.le_of_ble_eq_true rfl) rfl rfl hX hNc hP hD hS hA hlen f5 hroom dL_law_254 (fun H locs hP hD hS => ?_)
    refine lv_istore (lv' := [(5, .int (nI k1)), (0, .ref b), (1, .ref (ad 0)), (2, .ref (ad2 0)), (3, .ref ao), (4, .int (nI i))]) hx hb dL_law_257 hl (by decide) rfl (fun ls hl => ?_)
    refine lv_aload_n hx hb dL_law_259 rfl (lv_at hl 3 rfl) ?_
    refine lv_aload_n hx hb dL_law_260 rfl (lv_at hl 1 rfl) ?_
    refine lv_iload hx hb dL_law_261 (lv_at hl 5 rfl) ?_
    refine lv_iconst (v := nI 1) hx hb dL_law_263 (by decide) ?_
    refine r_iadd hx hb dL_law_264 ?_
    refine va_sld hx hb hxs hbl hbA hS v1 dL_law_265 ?_
    refine lv_aload_n hx hb dL_law_266 rfl (lv_at hl 1 rfl) ?_
    refine lv_iload hx hb dL_law_267 (lv_at hl 5 rfl) ?_
    refine lv_iconst (v := nI 2) hx hb dL_law_269 (by decide) ?_
    refine r_iadd hx hb dL_law_270 ?_
    refine va_sld hx hb hxs hbl hbA hS v2 dL_law_271 ?_
    refine lv_if_eq (tgt := 279) hx hb dL_law_272 (by decide) (fun _ => ?_) (fun q9 => absurd z q9)
    refine lv_iconst (v := bI false) hx hb dL_law_279 (by decide) ?_
    refine kLR (k := 2) (wc := wc1) (as := [.int (xs (nI (i + 1)).toNatClampNeg), .int (bI false)]) (rest := []) B hl.1 hM6 hg m_11_5 m_1_5 m_11_2 m_11_3 m_11_4 (by decide +kernel) rfl rfl hP hD hS hA hlen1 hlr h06 f6 (Nat.le_of_ble_eq_true rfl) hroom dL_law_280 (fun H locs hP hD hS => ?_)
    refine lv_istore (lv' := [(6, .int v), (5, .int (nI k1)), (0, .ref b), (1, .ref (ad 0)), (2, .ref (ad2 0)), (3, .ref ao), (4, .int (nI i))]) hx hb dL_law_283 hl (by decide) rfl (fun ls hl => ?_)
    refine lv_aload_n hx hb dL_law_285 rfl (lv_at hl 4 rfl) ?_
    refine kLR (k := 0) (wc := wc1) (as := []) (rest := []) B hl.1 (hT1 l D) ⟨⟨rfl, rfl⟩, Nat.le_of_ble_eq_true rfl, Nat.le_of_ble_eq_true rfl⟩ m_10_8 m_1_5 m_10_5 m_10_6 m_10_7 (by decide +kernel) rfl rfl hP hD hS hA hlen1 hlr1 h061 rfl (Nat.le_of_ble_eq_true rfl) hroom dL_law_286 (fun H locs hP hD hS => ?_)
    refine lv_iload hx hb dL_law_289 (lv_at hl 1 rfl) ?_
    refine lv_icmp_eq (tgt := 296) hx hb dL_law_291 (by decide) (fun _ => ?_) (fun q9 => absurd rfl q9)
    refine lv_iload hx hb dL_law_296 (lv_at hl 1 rfl) ?_
    refine r_if_ne (a := k1) (tgt := 320) hx hb (by omega) dL_law_298 (by decide) (fun _ => ?_) (fun q9 => ?_)
    · refine lv_goto (tgt := 1430) hx hb dL_law_320 (by decide) ?_
      exact kk _ _ _ _ _ _ _ _ hR1 hc1 hP hD hS (lv_sub hl [2, 3, 4, 5, 6] rfl)
    · obtain ⟨b9, rfl, e9⟩ := hv q9
      refine lv_aload_n hx hb dL_law_301 rfl (lv_at hl 5 rfl) ?_
      refine lv_iconst (v := nI 0) hx hb dL_law_302 (by decide) ?_
      refine va_lald hx hb hK hP 22 2 (at_22 hlen1) rfl vin0 dL_law_303 ?_
      refine lv_iload hx hb dL_law_304 (lv_at hl 0 rfl) ?_
      refine r_if_eq_b (b := b9) (tgt := 313) hx hb dL_law_306 (by decide) (fun z9 => ?_) (fun z9 => ?_)
      · refine lv_lconst (v := 0) hx hb dL_law_313 (by decide) ?_
        refine W.lcmp hx hb dL_law_314 ?_
        refine lv_if_eq (tgt := 320) hx hb dL_law_315 (by decide) (fun _ => ?_) (fun q8 => absurd (lcmp0 (e9.trans (if_neg z9))) q8)
        refine lv_goto (tgt := 1430) hx hb dL_law_320 (by decide) ?_
        exact kk _ _ _ _ _ _ _ _ hR1 hc1 hP hD hS (lv_sub hl [2, 3, 4, 5, 6] rfl)
      · refine lv_lconst (v := 1) hx hb dL_law_309 (by decide) ?_
        refine lv_goto (tgt := 314) hx hb dL_law_310 (by decide) ?_
        refine W.lcmp hx hb dL_law_314 ?_
        refine lv_if_eq (tgt := 320) hx hb dL_law_315 (by decide) (fun _ => ?_) (fun q8 => absurd (lcmp0 (e9.trans (if_pos z9))) q8)
        refine lv_goto (tgt := 1430) hx hb dL_law_320 (by decide) ?_
        exact kk _ _ _ _ _ _ _ _ hR1 hc1 hP hD hS (lv_sub hl [2, 3, 4, 5, 6] rfl)
  · obtain ⟨wc1, wr1, fo1, v, k1, c1, rm6, hM, hg, hM6, hR1, f5, f6, hc1, hk1, hv⟩ := sp_setCandidate (D := D) cJ ao fo hst hc hR (xs (nI (i + 1)).toNatClampNeg) true
    obtain ⟨hlen1, hlr1, -, h061, hT1⟩ := hR1.facts
    refine lv_aload_n hx hb dL_law_232 rfl (lv_at hl 1 rfl) ?_
    refine lv_aload_n hx hb dL_law_233 rfl (lv_at hl 0 rfl) ?_
    refine lv_iload hx hb dL_law_234 (lv_at hl 4 rfl) ?_
    refine lv_iconst (v := nI 1) hx hb dL_law_236 (by decide) ?_
    refine r_iadd hx hb dL_law_237 ?_
    refine va_sld hx hb hxs hbl hbA hS v1 dL_law_238 ?_
    refine lv_aload_n hx hb dL_law_239 rfl (lv_at hl 0 rfl) ?_
    refine lv_iload hx hb dL_law_240 (lv_at hl 4 rfl) ?_
    refine lv_iconst (v := nI 2) hx hb dL_law_242 (by decide) ?_
    refine r_iadd hx hb dL_law_243 ?_
    refine va_sld hx hb hxs hbl hbA hS v2 dL_law_244 ?_
    refine lv_if_eq (tgt := 252) hx hb dL_law_245 (by decide) (fun q9 => absurd q9 z) (fun _ => ?_)
    refine lv_iconst (v := bI true) hx hb dL_law_248 (by decide) ?_
    refine lv_goto (tgt := 253) hx hb dL_law_249 (by decide) ?_
    refine lv_aload_n hx hb dL_law_253 rfl (lv_at hl 3 rfl) ?_
    refine kLH (k := 4) (wr := wr) (as := [.ref (ad 0), .int (xs (nI (i + 1)).toNatClampNeg), .int (bI true), .ref ao]) B hl.1 hM m_10_11 m_10_10 rfl m_10_9 (by decide +kernel) (Nat.le_of_ble_eq_true rfl) rfl rfl hX hNc hP hD hS hA hlen f5 hroom dL_law_254 (fun H locs hP hD hS => ?_)
    refine lv_istore (lv' := [(5, .int (nI k1)), (0, .ref b), (1, .ref (ad 0)), (2, .ref (ad2 0)), (3, .ref ao), (4, .int (nI i))]) hx hb dL_law_257 hl (by decide) rfl (fun ls hl => ?_)
    refine lv_aload_n hx hb dL_law_259 rfl (lv_at hl 3 rfl) ?_
    refine lv_aload_n hx hb dL_law_260 rfl (lv_at hl 1 rfl) ?_
    refine lv_iload hx hb dL_law_261 (lv_at hl 5 rfl) ?_
    refine lv_iconst (v := nI 1) hx hb dL_law_263 (by decide) ?_
    refine r_iadd hx hb dL_law_264 ?_
    refine va_sld hx hb hxs hbl hbA hS v1 dL_law_265 ?_
    refine lv_aload_n hx hb dL_law_266 rfl (lv_at hl 1 rfl) ?_
    refine lv_iload hx hb dL_law_267 (lv_at hl 5 rfl) ?_
    refine lv_iconst (v := nI 2) hx hb dL_law_269 (by decide) ?_
    refine r_iadd hx hb dL_law_270 ?_
    refine va_sld hx hb hxs hbl hbA hS v2 dL_law_271 ?_
    refine lv_if_eq (tgt := 279) hx hb dL_law_272 (by decide) (fun q9 => absurd q9 z) (fun _ => ?_)
    refine lv_iconst (v := bI true) hx hb dL_law_275 (by decide) ?_
    refine lv_goto (tgt := 280) hx hb dL_law_276 (by decide) ?_
    refine kLR (k := 2) (wc := wc1) (as := [.int (xs (nI (i + 1)).toNatClampNeg), .int (bI true)]) (rest := []) B hl.1 hM6 hg m_11_5 m_1_5 m_11_2 m_11_3 m_11_4 (by decide +kernel) rfl rfl hP hD hS hA hlen1 hlr h06 f6 (Nat.le_of_ble_eq_true rfl) hroom dL_law_280 (fun H locs hP hD hS => ?_)
    refine lv_istore (lv' := [(6, .int v), (5, .int (nI k1)), (0, .ref b), (1, .ref (ad 0)), (2, .ref (ad2 0)), (3, .ref ao), (4, .int (nI i))]) hx hb dL_law_283 hl (by decide) rfl (fun ls hl => ?_)
    refine lv_aload_n hx hb dL_law_285 rfl (lv_at hl 4 rfl) ?_
    refine kLR (k := 0) (wc := wc1) (as := []) (rest := []) B hl.1 (hT1 l D) ⟨⟨rfl, rfl⟩, Nat.le_of_ble_eq_true rfl, Nat.le_of_ble_eq_true rfl⟩ m_10_8 m_1_5 m_10_5 m_10_6 m_10_7 (by decide +kernel) rfl rfl hP hD hS hA hlen1 hlr1 h061 rfl (Nat.le_of_ble_eq_true rfl) hroom dL_law_286 (fun H locs hP hD hS => ?_)
    refine lv_iload hx hb dL_law_289 (lv_at hl 1 rfl) ?_
    refine lv_icmp_eq (tgt := 296) hx hb dL_law_291 (by decide) (fun _ => ?_) (fun q9 => absurd rfl q9)
    refine lv_iload hx hb dL_law_296 (lv_at hl 1 rfl) ?_
    refine r_if_ne (a := k1) (tgt := 320) hx hb (by omega) dL_law_298 (by decide) (fun _ => ?_) (fun q9 => ?_)
    · refine lv_goto (tgt := 1430) hx hb dL_law_320 (by decide) ?_
      exact kk _ _ _ _ _ _ _ _ hR1 hc1 hP hD hS (lv_sub hl [2, 3, 4, 5, 6] rfl)
    · obtain ⟨b9, rfl, e9⟩ := hv q9
      refine lv_aload_n hx hb dL_law_301 rfl (lv_at hl 5 rfl) ?_
      refine lv_iconst (v := nI 0) hx hb dL_law_302 (by decide) ?_
      refine va_lald hx hb hK hP 22 2 (at_22 hlen1) rfl vin0 dL_law_303 ?_
      refine lv_iload hx hb dL_law_304 (lv_at hl 0 rfl) ?_
      refine r_if_eq_b (b := b9) (tgt := 313) hx hb dL_law_306 (by decide) (fun z9 => ?_) (fun z9 => ?_)
      · refine lv_lconst (v := 0) hx hb dL_law_313 (by decide) ?_
        refine W.lcmp hx hb dL_law_314 ?_
        refine lv_if_eq (tgt := 320) hx hb dL_law_315 (by decide) (fun _ => ?_) (fun q8 => absurd (lcmp0 (e9.trans (if_neg z9))) q8)
        refine lv_goto (tgt := 1430) hx hb dL_law_320 (by decide) ?_
        exact kk _ _ _ _ _ _ _ _ hR1 hc1 hP hD hS (lv_sub hl [2, 3, 4, 5, 6] rfl)
      · refine lv_lconst (v := 1) hx hb dL_law_309 (by decide) ?_
        refine lv_goto (tgt := 314) hx hb dL_law_310 (by decide) ?_
        refine W.lcmp hx hb dL_law_314 ?_
        refine lv_if_eq (tgt := 320) hx hb dL_law_315 (by decide) (fun _ => ?_) (fun q8 => absurd (lcmp0 (e9.trans (if_pos z9))) q8)
        refine lv_goto (tgt := 1430) hx hb dL_law_320 (by decide) ?_
        exact kk _ _ _ _ _ _ _ _ hR1 hc1 hP hD hS (lv_sub hl [2, 3, 4, 5, 6] rfl)
set_option maxHeartbeats 4000000 in
theorem lo_setLimit {p : Program} {l : Launch} {e : Env} {s : State} {m : MethodId} {below : List Frame} {meth : Method} {c : Code} {H : Heap} {locs : List Loc} {Q : State → Prop} {cells slots : Nat} {ls : Array Slot} {D : va_G} {A0 : Nat → Prop} {cI cZ cJ : ClassId} {b L ao i c0 k : Nat} {xs : Nat → Int32} {fo : Nat → Int64} {wc wr : va_W} {ad ad2 : Nat → Nat} (C : LCX p s m meth c D A0 cI cZ cJ b L xs) (hst : l.stackTraces = false) (hi : i + 4 ≤ L) (hc : c0 + 200 < 2 ^ 31) (hR : REL cI cZ ad ad2 c0 k wc wr) (hP : va_P D vwCl (LW cJ ao fo wc wr) H) (hD : va_D A0 (LW cJ ao fo wc wr)) (hS : va_S A0 s.heap H locs) (hroom : cells + 1 ≤ room_1.cells ∧ slots + 6 ≤ room_1.slots) (hl : lv_has ls 7 [(0, .ref b), (1, .ref (ad 0)), (2, .ref (ad2 0)), (3, .ref ao), (4, .int (nI i))]) (kk : LGO p l e s m below meth c D A0 cI cZ cJ b ao ad ad2 Q c0 i cells slots) : W p l e room_1 s m [Value.ref b].toArray below meth c H locs cells slots Q (F0 m 323 ls []) := by
  obtain ⟨B, hX, hNc, hA, hxs, hbl, hbA, hL⟩ := C
  have hx := B.1
  have hb := B.2.1
  have hK := B.2.2.2.2.2.2.2.2.1
  obtain ⟨hlen, hlr, -, h06, -⟩ := hR.facts
  have v1 : vp_in (nI (i + 1)) L := vp_in_nI (by omega) (by omega)
  obtain ⟨wc1, wr1, fo1, v, k1, c1, rm6, hM, hg, hM6, hR1, f5, f6, hc1, hk1, hv⟩ := sp_setLimit (D := D) cJ ao fo hst hc hR (xs (nI (i + 1)).toNatClampNeg)
  obtain ⟨hlen1, hlr1, -, h061, hT1⟩ := hR1.facts
  refine lv_aload_n hx hb dL_law_323 rfl (lv_at hl 1 rfl) ?_
  refine lv_aload_n hx hb dL_law_324 rfl (lv_at hl 0 rfl) ?_
  refine lv_iload hx hb dL_law_325 (lv_at hl 4 rfl) ?_
  refine lv_iconst (v := nI 1) hx hb dL_law_327 (by decide) ?_
  refine r_iadd hx hb dL_law_328 ?_
  refine va_sld hx hb hxs hbl hbA hS v1 dL_law_329 ?_
  refine lv_aload_n hx hb dL_law_330 rfl (lv_at hl 3 rfl) ?_
  refine kLH (k := 3) (wr := wr) (as := [.ref (ad 0), .int (xs (nI (i + 1)).toNatClampNeg), .ref ao]) B hl.1 hM m_11_8 m_11_7 rfl m_11_6 (by decide +kernel) (Nat.le_of_ble_eq_true rfl) rfl rfl hX hNc hP hD hS hA hlen f5 hroom dL_law_331 (fun H locs hP hD hS => ?_)
  refine lv_istore (lv' := [(5, .int (nI k1)), (0, .ref b), (1, .ref (ad 0)), (2, .ref (ad2 0)), (3, .ref ao), (4, .int (nI i))]) hx hb dL_law_334 hl (by decide) rfl (fun ls hl => ?_)
  refine lv_aload_n hx hb dL_law_336 rfl (lv_at hl 3 rfl) ?_
  refine lv_aload_n hx hb dL_law_337 rfl (lv_at hl 1 rfl) ?_
  refine lv_iload hx hb dL_law_338 (lv_at hl 5 rfl) ?_
  refine lv_iconst (v := nI 1) hx hb dL_law_340 (by decide) ?_
  refine r_iadd hx hb dL_law_341 ?_
  refine va_sld hx hb hxs hbl hbA hS v1 dL_law_342 ?_
  refine kLR (k := 1) (wc := wc1) (as := [.int (xs (nI (i + 1)).toNatClampNeg)]) (rest := []) B hl.1 hM6 hg m_11_16 m_1_5 m_11_13 m_11_14 m_11_15 (by decide +kernel) rfl rfl hP hD hS hA hlen1 hlr h06 f6 (Nat.le_of_ble_eq_true rfl) hroom dL_law_343 (fun H locs hP hD hS => ?_)
  refine lv_istore (lv' := [(6, .int v), (5, .int (nI k1)), (0, .ref b), (1, .ref (ad 0)), (2, .ref (ad2 0)), (3, .ref ao), (4, .int (nI i))]) hx hb dL_law_346 hl (by decide) rfl (fun ls hl => ?_)
  refine lv_aload_n hx hb dL_law_348 rfl (lv_at hl 4 rfl) ?_
  refine kLR (k := 0) (wc := wc1) (as := []) (rest := []) B hl.1 (hT1 l D) ⟨⟨rfl, rfl⟩, Nat.le_of_ble_eq_true rfl, Nat.le_of_ble_eq_true rfl⟩ m_10_8 m_1_5 m_10_5 m_10_6 m_10_7 (by decide +kernel) rfl rfl hP hD hS hA hlen1 hlr1 h061 rfl (Nat.le_of_ble_eq_true rfl) hroom dL_law_349 (fun H locs hP hD hS => ?_)
  refine lv_iload hx hb dL_law_352 (lv_at hl 1 rfl) ?_
  refine lv_icmp_eq (tgt := 359) hx hb dL_law_354 (by decide) (fun _ => ?_) (fun q9 => absurd rfl q9)
  refine lv_iload hx hb dL_law_359 (lv_at hl 1 rfl) ?_
  refine r_if_ne (a := k1) (tgt := 376) hx hb (by omega) dL_law_361 (by decide) (fun _ => ?_) (fun q9 => ?_)
  · refine lv_goto (tgt := 1430) hx hb dL_law_376 (by decide) ?_
    exact kk _ _ _ _ _ _ _ _ hR1 hc1 hP hD hS (lv_sub hl [2, 3, 4, 5, 6] rfl)
  · refine lv_aload_n hx hb dL_law_364 rfl (lv_at hl 5 rfl) ?_
    refine lv_iconst (v := nI 0) hx hb dL_law_365 (by decide) ?_
    refine va_lald hx hb hK hP 22 2 (at_22 hlen1) rfl vin0 dL_law_366 ?_
    refine lv_iload hx hb dL_law_367 (lv_at hl 0 rfl) ?_
    refine lv_i2l (v := v.toInt64) hx hb dL_law_369 rfl ?_
    refine W.lcmp hx hb dL_law_370 ?_
    refine lv_if_eq (tgt := 376) hx hb dL_law_371 (by decide) (fun _ => ?_) (fun q8 => absurd (lcmp0 (hv q9)) q8)
    refine lv_goto (tgt := 1430) hx hb dL_law_376 (by decide) ?_
    exact kk _ _ _ _ _ _ _ _ hR1 hc1 hP hD hS (lv_sub hl [2, 3, 4, 5, 6] rfl)
set_option maxHeartbeats 4000000 in
theorem lo_distance {p : Program} {l : Launch} {e : Env} {s : State} {m : MethodId} {below : List Frame} {meth : Method} {c : Code} {H : Heap} {locs : List Loc} {Q : State → Prop} {cells slots : Nat} {ls : Array Slot} {D : va_G} {A0 : Nat → Prop} {cI cZ cJ : ClassId} {b L ao i c0 k : Nat} {xs : Nat → Int32} {fo : Nat → Int64} {wc wr : va_W} {ad ad2 : Nat → Nat} (C : LCX p s m meth c D A0 cI cZ cJ b L xs) (hst : l.stackTraces = false) (hi : i + 4 ≤ L) (hc : c0 + 200 < 2 ^ 31) (hR : REL cI cZ ad ad2 c0 k wc wr) (hP : va_P D vwCl (LW cJ ao fo wc wr) H) (hD : va_D A0 (LW cJ ao fo wc wr)) (hS : va_S A0 s.heap H locs) (hroom : cells + 1 ≤ room_1.cells ∧ slots + 6 ≤ room_1.slots) (hl : lv_has ls 7 [(0, .ref b), (1, .ref (ad 0)), (2, .ref (ad2 0)), (3, .ref ao), (4, .int (nI i))]) (kk : LGO p l e s m below meth c D A0 cI cZ cJ b ao ad ad2 Q c0 i cells slots) : W p l e room_1 s m [Value.ref b].toArray below meth c H locs cells slots Q (F0 m 379 ls []) := by
  obtain ⟨B, hX, hNc, hA, hxs, hbl, hbA, hL⟩ := C
  have hx := B.1
  have hb := B.2.1
  have hK := B.2.2.2.2.2.2.2.2.1
  obtain ⟨hlen, hlr, -, h06, -⟩ := hR.facts
  have v1 : vp_in (nI (i + 1)) L := vp_in_nI (by omega) (by omega)
  have v2 : vp_in (nI (i + 2)) L := vp_in_nI (by omega) (by omega)
  obtain ⟨wc1, wr1, fo1, v, k1, c1, rm6, hM, hg, hM6, hR1, f5, f6, hc1, hk1, hv⟩ := sp_distance (D := D) cJ ao fo hst hc hR (xs (nI (i + 1)).toNatClampNeg) (xs (nI (i + 2)).toNatClampNeg)
  obtain ⟨hlen1, hlr1, -, h061, hT1⟩ := hR1.facts
  refine lv_aload_n hx hb dL_law_379 rfl (lv_at hl 1 rfl) ?_
  refine lv_aload_n hx hb dL_law_380 rfl (lv_at hl 0 rfl) ?_
  refine lv_iload hx hb dL_law_381 (lv_at hl 4 rfl) ?_
  refine lv_iconst (v := nI 1) hx hb dL_law_383 (by decide) ?_
  refine r_iadd hx hb dL_law_384 ?_
  refine va_sld hx hb hxs hbl hbA hS v1 dL_law_385 ?_
  refine lv_aload_n hx hb dL_law_386 rfl (lv_at hl 0 rfl) ?_
  refine lv_iload hx hb dL_law_387 (lv_at hl 4 rfl) ?_
  refine lv_iconst (v := nI 2) hx hb dL_law_389 (by decide) ?_
  refine r_iadd hx hb dL_law_390 ?_
  refine va_sld hx hb hxs hbl hbA hS v2 dL_law_391 ?_
  refine lv_aload_n hx hb dL_law_392 rfl (lv_at hl 3 rfl) ?_
  refine kLH (k := 4) (wr := wr) (as := [.ref (ad 0), .int (xs (nI (i + 1)).toNatClampNeg), .int (xs (nI (i + 2)).toNatClampNeg), .ref ao]) B hl.1 hM m_11_19 m_11_18 rfl m_11_17 (by decide +kernel) (Nat.le_of_ble_eq_true rfl) rfl rfl hX hNc hP hD hS hA hlen f5 hroom dL_law_393 (fun H locs hP hD hS => ?_)
  refine lv_istore (lv' := [(5, .int (nI k1)), (0, .ref b), (1, .ref (ad 0)), (2, .ref (ad2 0)), (3, .ref ao), (4, .int (nI i))]) hx hb dL_law_396 hl (by decide) rfl (fun ls hl => ?_)
  refine lv_aload_n hx hb dL_law_398 rfl (lv_at hl 3 rfl) ?_
  refine lv_aload_n hx hb dL_law_399 rfl (lv_at hl 1 rfl) ?_
  refine lv_iload hx hb dL_law_400 (lv_at hl 5 rfl) ?_
  refine lv_iconst (v := nI 1) hx hb dL_law_402 (by decide) ?_
  refine r_iadd hx hb dL_law_403 ?_
  refine va_sld hx hb hxs hbl hbA hS v1 dL_law_404 ?_
  refine lv_aload_n hx hb dL_law_405 rfl (lv_at hl 1 rfl) ?_
  refine lv_iload hx hb dL_law_406 (lv_at hl 5 rfl) ?_
  refine lv_iconst (v := nI 2) hx hb dL_law_408 (by decide) ?_
  refine r_iadd hx hb dL_law_409 ?_
  refine va_sld hx hb hxs hbl hbA hS v2 dL_law_410 ?_
  refine kLR (k := 2) (wc := wc1) (as := [.int (xs (nI (i + 1)).toNatClampNeg), .int (xs (nI (i + 2)).toNatClampNeg)]) (rest := []) B hl.1 hM6 hg m_12_4 m_1_5 m_12_1 m_12_2 m_12_3 (by decide +kernel) rfl rfl hP hD hS hA hlen1 hlr h06 f6 (Nat.le_of_ble_eq_true rfl) hroom dL_law_411 (fun H locs hP hD hS => ?_)
  refine lv_istore (lv' := [(6, .int v), (5, .int (nI k1)), (0, .ref b), (1, .ref (ad 0)), (2, .ref (ad2 0)), (3, .ref ao), (4, .int (nI i))]) hx hb dL_law_414 hl (by decide) rfl (fun ls hl => ?_)
  refine lv_aload_n hx hb dL_law_416 rfl (lv_at hl 4 rfl) ?_
  refine kLR (k := 0) (wc := wc1) (as := []) (rest := []) B hl.1 (hT1 l D) ⟨⟨rfl, rfl⟩, Nat.le_of_ble_eq_true rfl, Nat.le_of_ble_eq_true rfl⟩ m_10_8 m_1_5 m_10_5 m_10_6 m_10_7 (by decide +kernel) rfl rfl hP hD hS hA hlen1 hlr1 h061 rfl (Nat.le_of_ble_eq_true rfl) hroom dL_law_417 (fun H locs hP hD hS => ?_)
  refine lv_iload hx hb dL_law_420 (lv_at hl 1 rfl) ?_
  refine lv_icmp_eq (tgt := 427) hx hb dL_law_422 (by decide) (fun _ => ?_) (fun q9 => absurd rfl q9)
  refine lv_iload hx hb dL_law_427 (lv_at hl 1 rfl) ?_
  refine r_if_ne (a := k1) (tgt := 444) hx hb (by omega) dL_law_429 (by decide) (fun _ => ?_) (fun q9 => ?_)
  · refine lv_goto (tgt := 1430) hx hb dL_law_444 (by decide) ?_
    exact kk _ _ _ _ _ _ _ _ hR1 hc1 hP hD hS (lv_sub hl [2, 3, 4, 5, 6] rfl)
  · refine lv_aload_n hx hb dL_law_432 rfl (lv_at hl 5 rfl) ?_
    refine lv_iconst (v := nI 0) hx hb dL_law_433 (by decide) ?_
    refine va_lald hx hb hK hP 22 2 (at_22 hlen1) rfl vin0 dL_law_434 ?_
    refine lv_iload hx hb dL_law_435 (lv_at hl 0 rfl) ?_
    refine lv_i2l (v := v.toInt64) hx hb dL_law_437 rfl ?_
    refine W.lcmp hx hb dL_law_438 ?_
    refine lv_if_eq (tgt := 444) hx hb dL_law_439 (by decide) (fun _ => ?_) (fun q8 => absurd (lcmp0 (hv q9)) q8)
    refine lv_goto (tgt := 1430) hx hb dL_law_444 (by decide) ?_
    exact kk _ _ _ _ _ _ _ _ hR1 hc1 hP hD hS (lv_sub hl [2, 3, 4, 5, 6] rfl)
set_option maxHeartbeats 4000000 in
theorem lo_nextHop {p : Program} {l : Launch} {e : Env} {s : State} {m : MethodId} {below : List Frame} {meth : Method} {c : Code} {H : Heap} {locs : List Loc} {Q : State → Prop} {cells slots : Nat} {ls : Array Slot} {D : va_G} {A0 : Nat → Prop} {cI cZ cJ : ClassId} {b L ao i c0 k : Nat} {xs : Nat → Int32} {fo : Nat → Int64} {wc wr : va_W} {ad ad2 : Nat → Nat} (C : LCX p s m meth c D A0 cI cZ cJ b L xs) (hst : l.stackTraces = false) (hi : i + 4 ≤ L) (hc : c0 + 200 < 2 ^ 31) (hR : REL cI cZ ad ad2 c0 k wc wr) (hP : va_P D vwCl (LW cJ ao fo wc wr) H) (hD : va_D A0 (LW cJ ao fo wc wr)) (hS : va_S A0 s.heap H locs) (hroom : cells + 1 ≤ room_1.cells ∧ slots + 6 ≤ room_1.slots) (hl : lv_has ls 7 [(0, .ref b), (1, .ref (ad 0)), (2, .ref (ad2 0)), (3, .ref ao), (4, .int (nI i))]) (kk : LGO p l e s m below meth c D A0 cI cZ cJ b ao ad ad2 Q c0 i cells slots) : W p l e room_1 s m [Value.ref b].toArray below meth c H locs cells slots Q (F0 m 447 ls []) := by
  obtain ⟨B, hX, hNc, hA, hxs, hbl, hbA, hL⟩ := C
  have hx := B.1
  have hb := B.2.1
  have hK := B.2.2.2.2.2.2.2.2.1
  obtain ⟨hlen, hlr, -, h06, -⟩ := hR.facts
  have v1 : vp_in (nI (i + 1)) L := vp_in_nI (by omega) (by omega)
  have v2 : vp_in (nI (i + 2)) L := vp_in_nI (by omega) (by omega)
  obtain ⟨wc1, wr1, fo1, v, k1, c1, rm6, hM, hg, hM6, hR1, f5, f6, hc1, hk1, hv⟩ := sp_nextHop (D := D) cJ ao fo hst hc hR (xs (nI (i + 1)).toNatClampNeg) (xs (nI (i + 2)).toNatClampNeg)
  obtain ⟨hlen1, hlr1, -, h061, hT1⟩ := hR1.facts
  refine lv_aload_n hx hb dL_law_447 rfl (lv_at hl 1 rfl) ?_
  refine lv_aload_n hx hb dL_law_448 rfl (lv_at hl 0 rfl) ?_
  refine lv_iload hx hb dL_law_449 (lv_at hl 4 rfl) ?_
  refine lv_iconst (v := nI 1) hx hb dL_law_451 (by decide) ?_
  refine r_iadd hx hb dL_law_452 ?_
  refine va_sld hx hb hxs hbl hbA hS v1 dL_law_453 ?_
  refine lv_aload_n hx hb dL_law_454 rfl (lv_at hl 0 rfl) ?_
  refine lv_iload hx hb dL_law_455 (lv_at hl 4 rfl) ?_
  refine lv_iconst (v := nI 2) hx hb dL_law_457 (by decide) ?_
  refine r_iadd hx hb dL_law_458 ?_
  refine va_sld hx hb hxs hbl hbA hS v2 dL_law_459 ?_
  refine lv_aload_n hx hb dL_law_460 rfl (lv_at hl 3 rfl) ?_
  refine kLH (k := 4) (wr := wr) (as := [.ref (ad 0), .int (xs (nI (i + 1)).toNatClampNeg), .int (xs (nI (i + 2)).toNatClampNeg), .ref ao]) B hl.1 hM m_12_7 m_12_6 rfl m_12_5 (by decide +kernel) (Nat.le_of_ble_eq_true rfl) rfl rfl hX hNc hP hD hS hA hlen f5 hroom dL_law_461 (fun H locs hP hD hS => ?_)
  refine lv_istore (lv' := [(5, .int (nI k1)), (0, .ref b), (1, .ref (ad 0)), (2, .ref (ad2 0)), (3, .ref ao), (4, .int (nI i))]) hx hb dL_law_464 hl (by decide) rfl (fun ls hl => ?_)
  refine lv_aload_n hx hb dL_law_466 rfl (lv_at hl 3 rfl) ?_
  refine lv_aload_n hx hb dL_law_467 rfl (lv_at hl 1 rfl) ?_
  refine lv_iload hx hb dL_law_468 (lv_at hl 5 rfl) ?_
  refine lv_iconst (v := nI 1) hx hb dL_law_470 (by decide) ?_
  refine r_iadd hx hb dL_law_471 ?_
  refine va_sld hx hb hxs hbl hbA hS v1 dL_law_472 ?_
  refine lv_aload_n hx hb dL_law_473 rfl (lv_at hl 1 rfl) ?_
  refine lv_iload hx hb dL_law_474 (lv_at hl 5 rfl) ?_
  refine lv_iconst (v := nI 2) hx hb dL_law_476 (by decide) ?_
  refine r_iadd hx hb dL_law_477 ?_
  refine va_sld hx hb hxs hbl hbA hS v2 dL_law_478 ?_
  refine kLR (k := 2) (wc := wc1) (as := [.int (xs (nI (i + 1)).toNatClampNeg), .int (xs (nI (i + 2)).toNatClampNeg)]) (rest := []) B hl.1 hM6 hg m_12_16 m_1_5 m_12_13 m_12_14 m_12_15 (by decide +kernel) rfl rfl hP hD hS hA hlen1 hlr h06 f6 (Nat.le_of_ble_eq_true rfl) hroom dL_law_479 (fun H locs hP hD hS => ?_)
  refine lv_istore (lv' := [(6, .int v), (5, .int (nI k1)), (0, .ref b), (1, .ref (ad 0)), (2, .ref (ad2 0)), (3, .ref ao), (4, .int (nI i))]) hx hb dL_law_482 hl (by decide) rfl (fun ls hl => ?_)
  refine lv_aload_n hx hb dL_law_484 rfl (lv_at hl 4 rfl) ?_
  refine kLR (k := 0) (wc := wc1) (as := []) (rest := []) B hl.1 (hT1 l D) ⟨⟨rfl, rfl⟩, Nat.le_of_ble_eq_true rfl, Nat.le_of_ble_eq_true rfl⟩ m_10_8 m_1_5 m_10_5 m_10_6 m_10_7 (by decide +kernel) rfl rfl hP hD hS hA hlen1 hlr1 h061 rfl (Nat.le_of_ble_eq_true rfl) hroom dL_law_485 (fun H locs hP hD hS => ?_)
  refine lv_iload hx hb dL_law_488 (lv_at hl 1 rfl) ?_
  refine lv_icmp_eq (tgt := 495) hx hb dL_law_490 (by decide) (fun _ => ?_) (fun q9 => absurd rfl q9)
  refine lv_iload hx hb dL_law_495 (lv_at hl 1 rfl) ?_
  refine r_if_ne (a := k1) (tgt := 512) hx hb (by omega) dL_law_497 (by decide) (fun _ => ?_) (fun q9 => ?_)
  · refine lv_goto (tgt := 1430) hx hb dL_law_512 (by decide) ?_
    exact kk _ _ _ _ _ _ _ _ hR1 hc1 hP hD hS (lv_sub hl [2, 3, 4, 5, 6] rfl)
  · refine lv_aload_n hx hb dL_law_500 rfl (lv_at hl 5 rfl) ?_
    refine lv_iconst (v := nI 0) hx hb dL_law_501 (by decide) ?_
    refine va_lald hx hb hK hP 22 2 (at_22 hlen1) rfl vin0 dL_law_502 ?_
    refine lv_iload hx hb dL_law_503 (lv_at hl 0 rfl) ?_
    refine lv_i2l (v := v.toInt64) hx hb dL_law_505 rfl ?_
    refine W.lcmp hx hb dL_law_506 ?_
    refine lv_if_eq (tgt := 512) hx hb dL_law_507 (by decide) (fun _ => ?_) (fun q8 => absurd (lcmp0 (hv q9)) q8)
    refine lv_goto (tgt := 1430) hx hb dL_law_512 (by decide) ?_
    exact kk _ _ _ _ _ _ _ _ hR1 hc1 hP hD hS (lv_sub hl [2, 3, 4, 5, 6] rfl)
set_option maxHeartbeats 4000000 in
theorem lo_rendezvous {p : Program} {l : Launch} {e : Env} {s : State} {m : MethodId} {below : List Frame} {meth : Method} {c : Code} {H : Heap} {locs : List Loc} {Q : State → Prop} {cells slots : Nat} {ls : Array Slot} {D : va_G} {A0 : Nat → Prop} {cI cZ cJ : ClassId} {b L ao i c0 k : Nat} {xs : Nat → Int32} {fo : Nat → Int64} {wc wr : va_W} {ad ad2 : Nat → Nat} (C : LCX p s m meth c D A0 cI cZ cJ b L xs) (hst : l.stackTraces = false) (hi : i + 4 ≤ L) (hc : c0 + 200 < 2 ^ 31) (hR : REL cI cZ ad ad2 c0 k wc wr) (hP : va_P D vwCl (LW cJ ao fo wc wr) H) (hD : va_D A0 (LW cJ ao fo wc wr)) (hS : va_S A0 s.heap H locs) (hroom : cells + 1 ≤ room_1.cells ∧ slots + 6 ≤ room_1.slots) (hl : lv_has ls 7 [(0, .ref b), (1, .ref (ad 0)), (2, .ref (ad2 0)), (3, .ref ao), (4, .int (nI i))]) (kk : LGO p l e s m below meth c D A0 cI cZ cJ b ao ad ad2 Q c0 i cells slots) : W p l e room_1 s m [Value.ref b].toArray below meth c H locs cells slots Q (F0 m 515 ls []) := by
  obtain ⟨B, hX, hNc, hA, hxs, hbl, hbA, hL⟩ := C
  have hx := B.1
  have hb := B.2.1
  have hK := B.2.2.2.2.2.2.2.2.1
  obtain ⟨hlen, hlr, -, h06, -⟩ := hR.facts
  have v1 : vp_in (nI (i + 1)) L := vp_in_nI (by omega) (by omega)
  obtain ⟨wc1, wr1, fo1, v, k1, c1, rm6, hM, hg, hM6, hR1, f5, f6, hc1, hk1, hv⟩ := sp_rendezvous (D := D) cJ ao fo hst hc hR (xs (nI (i + 1)).toNatClampNeg)
  obtain ⟨hlen1, hlr1, -, h061, hT1⟩ := hR1.facts
  refine lv_aload_n hx hb dL_law_515 rfl (lv_at hl 1 rfl) ?_
  refine lv_aload_n hx hb dL_law_516 rfl (lv_at hl 0 rfl) ?_
  refine lv_iload hx hb dL_law_517 (lv_at hl 4 rfl) ?_
  refine lv_iconst (v := nI 1) hx hb dL_law_519 (by decide) ?_
  refine r_iadd hx hb dL_law_520 ?_
  refine va_sld hx hb hxs hbl hbA hS v1 dL_law_521 ?_
  refine lv_aload_n hx hb dL_law_522 rfl (lv_at hl 3 rfl) ?_
  refine kLH (k := 3) (wr := wr) (as := [.ref (ad 0), .int (xs (nI (i + 1)).toNatClampNeg), .ref ao]) B hl.1 hM m_12_19 m_12_18 rfl m_12_17 (by decide +kernel) (Nat.le_of_ble_eq_true rfl) rfl rfl hX hNc hP hD hS hA hlen f5 hroom dL_law_523 (fun H locs hP hD hS => ?_)
  refine lv_istore (lv' := [(5, .int (nI k1)), (0, .ref b), (1, .ref (ad 0)), (2, .ref (ad2 0)), (3, .ref ao), (4, .int (nI i))]) hx hb dL_law_526 hl (by decide) rfl (fun ls hl => ?_)
  refine lv_aload_n hx hb dL_law_528 rfl (lv_at hl 3 rfl) ?_
  refine lv_aload_n hx hb dL_law_529 rfl (lv_at hl 1 rfl) ?_
  refine lv_iload hx hb dL_law_530 (lv_at hl 5 rfl) ?_
  refine lv_iconst (v := nI 1) hx hb dL_law_532 (by decide) ?_
  refine r_iadd hx hb dL_law_533 ?_
  refine va_sld hx hb hxs hbl hbA hS v1 dL_law_534 ?_
  refine kLR (k := 1) (wc := wc1) (as := [.int (xs (nI (i + 1)).toNatClampNeg)]) (rest := []) B hl.1 hM6 hg m_13_7 m_1_5 m_13_4 m_13_5 m_13_6 (by decide +kernel) rfl rfl hP hD hS hA hlen1 hlr h06 f6 (Nat.le_of_ble_eq_true rfl) hroom dL_law_535 (fun H locs hP hD hS => ?_)
  refine lv_istore (lv' := [(6, .int v), (5, .int (nI k1)), (0, .ref b), (1, .ref (ad 0)), (2, .ref (ad2 0)), (3, .ref ao), (4, .int (nI i))]) hx hb dL_law_538 hl (by decide) rfl (fun ls hl => ?_)
  refine lv_aload_n hx hb dL_law_540 rfl (lv_at hl 4 rfl) ?_
  refine kLR (k := 0) (wc := wc1) (as := []) (rest := []) B hl.1 (hT1 l D) ⟨⟨rfl, rfl⟩, Nat.le_of_ble_eq_true rfl, Nat.le_of_ble_eq_true rfl⟩ m_10_8 m_1_5 m_10_5 m_10_6 m_10_7 (by decide +kernel) rfl rfl hP hD hS hA hlen1 hlr1 h061 rfl (Nat.le_of_ble_eq_true rfl) hroom dL_law_541 (fun H locs hP hD hS => ?_)
  refine lv_iload hx hb dL_law_544 (lv_at hl 1 rfl) ?_
  refine lv_icmp_eq (tgt := 551) hx hb dL_law_546 (by decide) (fun _ => ?_) (fun q9 => absurd rfl q9)
  refine lv_iload hx hb dL_law_551 (lv_at hl 1 rfl) ?_
  refine r_if_ne (a := k1) (tgt := 568) hx hb (by omega) dL_law_553 (by decide) (fun _ => ?_) (fun q9 => ?_)
  · refine lv_goto (tgt := 1430) hx hb dL_law_568 (by decide) ?_
    exact kk _ _ _ _ _ _ _ _ hR1 hc1 hP hD hS (lv_sub hl [2, 3, 4, 5, 6] rfl)
  · refine lv_aload_n hx hb dL_law_556 rfl (lv_at hl 5 rfl) ?_
    refine lv_iconst (v := nI 0) hx hb dL_law_557 (by decide) ?_
    refine va_lald hx hb hK hP 22 2 (at_22 hlen1) rfl vin0 dL_law_558 ?_
    refine lv_iload hx hb dL_law_559 (lv_at hl 0 rfl) ?_
    refine lv_i2l (v := v.toInt64) hx hb dL_law_561 rfl ?_
    refine W.lcmp hx hb dL_law_562 ?_
    refine lv_if_eq (tgt := 568) hx hb dL_law_563 (by decide) (fun _ => ?_) (fun q8 => absurd (lcmp0 (hv q9)) q8)
    refine lv_goto (tgt := 1430) hx hb dL_law_568 (by decide) ?_
    exact kk _ _ _ _ _ _ _ _ hR1 hc1 hP hD hS (lv_sub hl [2, 3, 4, 5, 6] rfl)
