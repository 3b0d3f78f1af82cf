/-! the law's helpers -/
abbrev HR : Room := { frames := 10, cells := 1, slots := 6, locals := 363 }
abbrev oE (cJ : ClassId) (ao : Nat) (fo : Nat → Int64) : Nat × va_E := (ao, .inl (cJ, 1, .inr (.inl fo)))
abbrev TYH (cI cZ cJ : ClassId) : List (ClassId × FieldType) := TY cI cZ ++ [(cJ, .long)]
theorem rg_C (wc tl : va_W) : ∀ (n : Nat), wc.length = n → (List.range n).map (fun i => (wc ++ tl)[i]?) = wc.map some := by
  intro n hn
  apply List.ext_getElem?
  intro j
  rw [List.getElem?_map, List.getElem?_map]
  by_cases q : j < n
  · rw [List.getElem?_range q, List.getElem?_eq_getElem (by omega)]
    show some ((wc ++ tl)[j]?) = some (some wc[j])
    rw [List.getElem?_append_left (by omega), List.getElem?_eq_getElem (by omega)]
  · rw [List.getElem?_eq_none (by rw [List.length_range]; omega), List.getElem?_eq_none (by omega)]
    rfl
theorem rg_put_L : ∀ (wc' wc pre tl : va_W), wc'.length = wc.length → putAt (pre ++ wc ++ tl) (List.range' pre.length wc.length) wc' = pre ++ wc' ++ tl := by
  intro wc'
  induction wc' with
  | nil =>
    intro wc pre tl h
    cases wc with
    | nil => rfl
    | cons x xs => cases h
  | cons e es ih =>
    intro wc pre tl h
    cases wc with
    | nil => cases h
    | cons x xs =>
      rw [List.length_cons, List.range'_succ]
      show putAt ((pre ++ x :: xs ++ tl).set pre.length e) (List.range' (pre.length + 1) xs.length) es = pre ++ e :: es ++ tl
      have hs : (pre ++ x :: xs ++ tl).set pre.length e = (pre ++ [e]) ++ xs ++ tl := by
        rw [List.append_assoc, List.set_append_right _ _ (Nat.le_refl _), Nat.sub_self]
        simp
      have h2 := ih xs (pre ++ [e]) tl (Nat.succ.inj h)
      rw [List.length_append, List.length_singleton] at h2
      rw [hs, h2]
      simp
theorem rg_put {wc wc' tl : va_W} (h : wc.length = 22) (h' : wc'.length = 22) : putAt (wc ++ tl) (List.range 22) wc' = wc' ++ tl := by
  have h1 := rg_put_L wc' wc [] tl (h'.trans h.symm)
  rw [h] at h1
  rw [List.range_eq_range']
  exact h1
theorem set_tl {wc : va_W} {x y : Nat × va_E} (h : wc.length = 22) : (wc ++ [x]).set 22 y = wc ++ [y] := by
  rw [List.set_append_right _ _ (by omega), h]; rfl
theorem at_tl {wc : va_W} {x : Nat × va_E} (h : wc.length = 22) : (wc ++ [x])[22]? = some x := by
  rw [List.getElem?_append_right (by omega), h]; rfl
theorem vin0 : vp_in (nI 0) 1 := by unfold vp_in; decide
theorem len_f {a b : va_W} (h : a.map Prod.fst = b.map Prod.fst) (hb : b.length = 22) : a.length = 22 := by
  have := congrArg List.length h
  simpa [hb] using this
set_option maxHeartbeats 4000000 in
theorem h_setLink (l : Launch) (D : va_G) (cI cZ cJ : ClassId) (a ao : Nat) (fo : Nat → Int64) (fs : List Value) (p0 p1 p2 : Int32) (wc wc1 : va_W) (rv : Int32) (rm : Room) (hlen : wc.length = 22) (h0 : wc[0]? = some (a, .inr (5, fs))) (hfst : wc1.map Prod.fst = wc.map Prod.fst) (hrm : rm.cells = 0 ∧ rm.slots = 0) (hfr : rm.frames + 1 ≤ HR.frames) (hlo : 8 + (5 + 11) + rm.locals ≤ HR.locals) (hM : MI l yX5_setLink cX5_setLink 5 .int rm D (TY cI cZ) [.ref a, .int p0, .int p1, .int p2] wc wc1 rv) : MH l yL_setLink cL_setLink 6 [(0, 12, 15, 13), (0, 12, 19, 15)] HR D (TYH cI cZ cJ) [.ref a, .int p0, .int p1, .int p2, .ref ao] (wc ++ [oE cJ ao fo]) (wc1 ++ [oE cJ ao (vp_updL fo (nI 0).toNatClampNeg rv.toInt64)]) (nI 0) := by
  refine MH.mk (by decide +kernel) (Nat.le_of_ble_eq_true rfl) ?_
  intro p e s m below meth c A ls B htab hX hNc hA hP hD hS hl
  have hx := B.1
  have hb := B.2.1
  have hts := B.2.2.2.2.2.1
  have hK := B.2.2.2.2.2.2.2.2.1
  have hl : lv_has ls 6 [(0, .ref a), (1, .int p0), (2, .int p1), (3, .int p2), (4, .ref ao)] := hl
  refine lv_aload hx hb dL_setLink_0 (lv_at hl 4 rfl) ?_
  refine lv_iconst (v := nI 0) hx hb dL_setLink_2 (by decide) ?_
  refine lv_aload_n hx hb dL_setLink_3 rfl (lv_at hl 0 rfl) ?_
  refine lv_iload_n hx hb dL_setLink_4 rfl (lv_at hl 1 rfl) ?_
  refine lv_iload_n hx hb dL_setLink_5 rfl (lv_at hl 2 rfl) ?_
  refine lv_iload_n hx hb dL_setLink_6 rfl (lv_at hl 3 rfl) ?_
  refine kV_i (ci := 5) (as := [.int p0, .int p1, .int p2]) (rest := [.int (nI 0), .ref ao]) (Bd.less B) hl.1 hM rfl (x_cb hrm 3 hts m_7_3 m_1_2 m_7_0 (by decide +kernel) ⟨hfr, hlo⟩) m_7_1 m_7_2 rfl rfl hP hD hS hA (List.range 22) 0 (by rw [List.getElem?_append_left (by omega)]; exact h0) (rg_C wc _ 22 hlen) hfst (by decide) (Nat.le_of_ble_eq_true rfl) ⟨Nat.le_of_ble_eq_true rfl, Nat.le_of_ble_eq_true rfl⟩ dL_setLink_7 (fun H locs hP hD hS => ?_)
  rw [rg_put hlen (len_f hfst hlen)] at hP hD
  refine lv_i2l (v := rv.toInt64) hx hb dL_setLink_10 rfl ?_
  refine va_last hx hb hK hP hD hS 22 2 (at_tl (len_f hfst hlen)) rfl vin0 dL_setLink_11 (fun H locs hP hD hS => ?_)
  rw [set_tl (len_f hfst hlen)] at hP hD
  refine lv_goto (tgt := 23) hx hb dL_setLink_12 (by decide) ?_
  refine lv_iconst (v := nI 0) hx hb dL_setLink_23 (by decide) ?_
  exact eH0 B hP hS rfl rfl dL_setLink_24
set_option maxHeartbeats 4000000 in
theorem h_setLink_x1 (l : Launch) (D : va_G) (cI cZ cJ : ClassId) (a ao : Nat) (fo : Nat → Int64) (fs : List Value) (p0 p1 p2 : Int32) (wc : va_W) (rm : Room) (hlen : wc.length = 22) (h0 : wc[0]? = some (a, .inr (5, fs))) (hrm : rm.cells = 1 ∧ rm.slots = 6) (hfr : rm.frames + 1 ≤ HR.frames) (hlo : 8 + (5 + 11) + rm.locals ≤ HR.locals) (hM : MXi l yX5_setLink cX5_setLink 5 .int rm D (TY cI cZ) [.ref a, .int p0, .int p1, .int p2] wc "java/lang/IndexOutOfBoundsException") : MH l yL_setLink cL_setLink 6 [(0, 12, 15, 13), (0, 12, 19, 15)] HR D (TYH cI cZ cJ) [.ref a, .int p0, .int p1, .int p2, .ref ao] (wc ++ [oE cJ ao fo]) (wc ++ [oE cJ ao fo]) (nI 1) := by
  refine MH.mk (by decide +kernel) (Nat.le_of_ble_eq_true rfl) ?_
  intro p e s m below meth c A ls B htab hX hNc hA hP hD hS hl
  have hx := B.1
  have hb := B.2.1
  have hts := B.2.2.2.2.2.1
  have hK := B.2.2.2.2.2.2.2.2.1
  have hl : lv_has ls 6 [(0, .ref a), (1, .int p0), (2, .int p1), (3, .int p2), (4, .ref ao)] := hl
  refine lv_aload hx hb dL_setLink_0 (lv_at hl 4 rfl) ?_
  refine lv_iconst (v := nI 0) hx hb dL_setLink_2 (by decide) ?_
  refine lv_aload_n hx hb dL_setLink_3 rfl (lv_at hl 0 rfl) ?_
  refine lv_iload_n hx hb dL_setLink_4 rfl (lv_at hl 1 rfl) ?_
  refine lv_iload_n hx hb dL_setLink_5 rfl (lv_at hl 2 rfl) ?_
  refine lv_iload_n hx hb dL_setLink_6 rfl (lv_at hl 3 rfl) ?_
  refine kXi (ci := 5) (as := [.int p0, .int p1, .int p2]) (rest := [.int (nI 0), .ref ao]) (Bd.less B) hl.1 hM rfl (x_cbx hrm 3 hts m_7_3 m_1_2 m_7_0 (by decide +kernel) ⟨hfr, hlo⟩) m_7_1 m_7_2 rfl rfl hX hP hD hS hA (List.range 22) 0 (by rw [List.getElem?_append_left (by omega)]; exact h0) (rg_C wc _ 22 hlen) (by decide) (Nat.le_of_ble_eq_true rfl) ⟨Nat.le_of_ble_eq_true rfl, Nat.le_of_ble_eq_true rfl⟩ dL_setLink_7 [] ⟨0, 12, 15, 13⟩ [⟨0, 12, 19, 15⟩] htab (fun z hz => nomatch hz) (by decide) (show ¬ 13 = 0 by decide) m_6_22 (hX.2.2.2 (_, _) (List.mem_of_getElem? (i := 1) rfl)) (fun H locs q9 hP hD hS => ?_)
  refine lv_astore (lv' := [(5, .ref q9), (0, .ref a), (1, .int p0), (2, .int p1), (3, .int p2), (4, .ref ao)]) hx hb dL_setLink_15 hl (by decide) rfl (fun ls hl => ?_)
  refine lv_iconst (v := nI 1) hx hb dL_setLink_17 (by decide) ?_
  exact eH1 B hP hS rfl rfl dL_setLink_18
set_option maxHeartbeats 4000000 in
theorem h_setLink_x2 (l : Launch) (D : va_G) (cI cZ cJ : ClassId) (a ao : Nat) (fo : Nat → Int64) (fs : List Value) (p0 p1 p2 : Int32) (wc : va_W) (rm : Room) (hlen : wc.length = 22) (h0 : wc[0]? = some (a, .inr (5, fs))) (hrm : rm.cells = 1 ∧ rm.slots = 6) (hfr : rm.frames + 1 ≤ HR.frames) (hlo : 8 + (5 + 11) + rm.locals ≤ HR.locals) (hM : MXi l yX5_setLink cX5_setLink 5 .int rm D (TY cI cZ) [.ref a, .int p0, .int p1, .int p2] wc "java/lang/IllegalArgumentException") : MH l yL_setLink cL_setLink 6 [(0, 12, 15, 13), (0, 12, 19, 15)] HR D (TYH cI cZ cJ) [.ref a, .int p0, .int p1, .int p2, .ref ao] (wc ++ [oE cJ ao fo]) (wc ++ [oE cJ ao fo]) (nI 2) := by
  refine MH.mk (by decide +kernel) (Nat.le_of_ble_eq_true rfl) ?_
  intro p e s m below meth c A ls B htab hX hNc hA hP hD hS hl
  have hx := B.1
  have hb := B.2.1
  have hts := B.2.2.2.2.2.1
  have hK := B.2.2.2.2.2.2.2.2.1
  have hl : lv_has ls 6 [(0, .ref a), (1, .int p0), (2, .int p1), (3, .int p2), (4, .ref ao)] := hl
  refine lv_aload hx hb dL_setLink_0 (lv_at hl 4 rfl) ?_
  refine lv_iconst (v := nI 0) hx hb dL_setLink_2 (by decide) ?_
  refine lv_aload_n hx hb dL_setLink_3 rfl (lv_at hl 0 rfl) ?_
  refine lv_iload_n hx hb dL_setLink_4 rfl (lv_at hl 1 rfl) ?_
  refine lv_iload_n hx hb dL_setLink_5 rfl (lv_at hl 2 rfl) ?_
  refine lv_iload_n hx hb dL_setLink_6 rfl (lv_at hl 3 rfl) ?_
  refine kXi (ci := 5) (as := [.int p0, .int p1, .int p2]) (rest := [.int (nI 0), .ref ao]) (Bd.less B) hl.1 hM rfl (x_cbx hrm 3 hts m_7_3 m_1_2 m_7_0 (by decide +kernel) ⟨hfr, hlo⟩) m_7_1 m_7_2 rfl rfl hX hP hD hS hA (List.range 22) 0 (by rw [List.getElem?_append_left (by omega)]; exact h0) (rg_C wc _ 22 hlen) (by decide) (Nat.le_of_ble_eq_true rfl) ⟨Nat.le_of_ble_eq_true rfl, Nat.le_of_ble_eq_true rfl⟩ dL_setLink_7 [⟨0, 12, 15, 13⟩] ⟨0, 12, 19, 15⟩ [] htab (fun z hz => by rw [List.mem_singleton.mp hz]; exact Or.inr ⟨(show ¬ 13 = 0 by decide), "java/lang/IndexOutOfBoundsException", hts _ m_6_22, hNc (_, _) (List.mem_of_getElem? (i := 0) rfl)⟩) (by decide) (show ¬ 15 = 0 by decide) m_6_23 (hX.2.2.2 (_, _) (List.mem_of_getElem? (i := 0) rfl)) (fun H locs q9 hP hD hS => ?_)
  refine lv_astore (lv' := [(5, .ref q9), (0, .ref a), (1, .int p0), (2, .int p1), (3, .int p2), (4, .ref ao)]) hx hb dL_setLink_19 hl (by decide) rfl (fun ls hl => ?_)
  refine lv_iconst (v := nI 2) hx hb dL_setLink_21 (by decide) ?_
  exact eH1 B hP hS rfl rfl dL_setLink_22
set_option maxHeartbeats 4000000 in
theorem h_setCandidate (l : Launch) (D : va_G) (cI cZ cJ : ClassId) (a ao : Nat) (fo : Nat → Int64) (fs : List Value) (p0 p1 : Int32) (wc wc1 : va_W) (b : Bool) (rm : Room) (hlen : wc.length = 22) (h0 : wc[0]? = some (a, .inr (5, fs))) (hfst : wc1.map Prod.fst = wc.map Prod.fst) (hrm : rm.cells = 0 ∧ rm.slots = 0) (hfr : rm.frames + 1 ≤ HR.frames) (hlo : 8 + (4 + 11) + rm.locals ≤ HR.locals) (hM : MI l yX5_setCandidate cX5_setCandidate 4 .boolean rm D (TY cI cZ) [.ref a, .int p0, .int p1] wc wc1 (bI b)) : MH l yL_setCandidate cL_setCandidate 5 [(0, 17, 20, 13)] HR D (TYH cI cZ cJ) [.ref a, .int p0, .int p1, .ref ao] (wc ++ [oE cJ ao fo]) (wc1 ++ [oE cJ ao (vp_updL fo (nI 0).toNatClampNeg (if b = true then 1 else 0))]) (nI 0) := by
  refine MH.mk (by decide +kernel) (Nat.le_of_ble_eq_true rfl) ?_
  intro p e s m below meth c A ls B htab hX hNc hA hP hD hS hl
  have hx := B.1
  have hb := B.2.1
  have hts := B.2.2.2.2.2.1
  have hK := B.2.2.2.2.2.2.2.2.1
  have hl : lv_has ls 5 [(0, .ref a), (1, .int p0), (2, .int p1), (3, .ref ao)] := hl
  refine lv_aload_n hx hb dL_setCandidate_0 rfl (lv_at hl 3 rfl) ?_
  refine lv_iconst (v := nI 0) hx hb dL_setCandidate_1 (by decide) ?_
  refine lv_aload_n hx hb dL_setCandidate_2 rfl (lv_at hl 0 rfl) ?_
  refine lv_iload_n hx hb dL_setCandidate_3 rfl (lv_at hl 1 rfl) ?_
  refine lv_iload_n hx hb dL_setCandidate_4 rfl (lv_at hl 2 rfl) ?_
  refine kV_i (ci := 5) (as := [.int p0, .int p1]) (rest := [.int (nI 0), .ref ao]) (Bd.less B) hl.1 hM rfl (x_cb hrm 2 hts m_10_15 m_1_2 m_10_12 (by decide +kernel) ⟨hfr, hlo⟩) m_10_13 m_10_14 rfl rfl hP hD hS hA (List.range 22) 0 (by rw [List.getElem?_append_left (by omega)]; exact h0) (rg_C wc _ 22 hlen) hfst (by decide) (Nat.le_of_ble_eq_true rfl) ⟨Nat.le_of_ble_eq_true rfl, Nat.le_of_ble_eq_true rfl⟩ dL_setCandidate_5 (fun H locs hP hD hS => ?_)
  rw [rg_put hlen (len_f hfst hlen)] at hP hD
  refine r_if_eq_b (tgt := 15) hx hb dL_setCandidate_8 (by decide) (fun c1 => ?_) (fun c1 => ?_)
  · rw [if_neg c1]
    refine lv_lconst (v := 0) hx hb dL_setCandidate_15 (by decide) ?_
    refine va_last hx hb hK hP hD hS 22 2 (at_tl (len_f hfst hlen)) rfl vin0 dL_setCandidate_16 (fun H locs hP hD hS => ?_)
    rw [set_tl (len_f hfst hlen)] at hP hD
    refine lv_goto (tgt := 24) hx hb dL_setCandidate_17 (by decide) ?_
    refine lv_iconst (v := nI 0) hx hb dL_setCandidate_24 (by decide) ?_
    exact eH0 B hP hS rfl rfl dL_setCandidate_25
  · rw [if_pos c1]
    refine lv_lconst (v := 1) hx hb dL_setCandidate_11 (by decide) ?_
    refine lv_goto (tgt := 16) hx hb dL_setCandidate_12 (by decide) ?_
    refine va_last hx hb hK hP hD hS 22 2 (at_tl (len_f hfst hlen)) rfl vin0 dL_setCandidate_16 (fun H locs hP hD hS => ?_)
    rw [set_tl (len_f hfst hlen)] at hP hD
    refine lv_goto (tgt := 24) hx hb dL_setCandidate_17 (by decide) ?_
    refine lv_iconst (v := nI 0) hx hb dL_setCandidate_24 (by decide) ?_
    exact eH0 B hP hS rfl rfl dL_setCandidate_25
set_option maxHeartbeats 4000000 in
theorem h_setCandidate_x1 (l : Launch) (D : va_G) (cI cZ cJ : ClassId) (a ao : Nat) (fo : Nat → Int64) (fs : List Value) (p0 p1 : Int32) (wc : va_W) (rm : Room) (hlen : wc.length = 22) (h0 : wc[0]? = some (a, .inr (5, fs))) (hrm : rm.cells = 1 ∧ rm.slots = 6) (hfr : rm.frames + 1 ≤ HR.frames) (hlo : 8 + (4 + 11) + rm.locals ≤ HR.locals) (hM : MXi l yX5_setCandidate cX5_setCandidate 4 .boolean rm D (TY cI cZ) [.ref a, .int p0, .int p1] wc "java/lang/IndexOutOfBoundsException") : MH l yL_setCandidate cL_setCandidate 5 [(0, 17, 20, 13)] HR D (TYH cI cZ cJ) [.ref a, .int p0, .int p1, .ref ao] (wc ++ [oE cJ ao fo]) (wc ++ [oE cJ ao fo]) (nI 1) := by
  refine MH.mk (by decide +kernel) (Nat.le_of_ble_eq_true rfl) ?_
  intro p e s m below meth c A ls B htab hX hNc hA hP hD hS hl
  have hx := B.1
  have hb := B.2.1
  have hts := B.2.2.2.2.2.1
  have hK := B.2.2.2.2.2.2.2.2.1
  have hl : lv_has ls 5 [(0, .ref a), (1, .int p0), (2, .int p1), (3, .ref ao)] := hl
  refine lv_aload_n hx hb dL_setCandidate_0 rfl (lv_at hl 3 rfl) ?_
  refine lv_iconst (v := nI 0) hx hb dL_setCandidate_1 (by decide) ?_
  refine lv_aload_n hx hb dL_setCandidate_2 rfl (lv_at hl 0 rfl) ?_
  refine lv_iload_n hx hb dL_setCandidate_3 rfl (lv_at hl 1 rfl) ?_
  refine lv_iload_n hx hb dL_setCandidate_4 rfl (lv_at hl 2 rfl) ?_
  refine kXi (ci := 5) (as := [.int p0, .int p1]) (rest := [.int (nI 0), .ref ao]) (Bd.less B) hl.1 hM rfl (x_cbx hrm 2 hts m_10_15 m_1_2 m_10_12 (by decide +kernel) ⟨hfr, hlo⟩) m_10_13 m_10_14 rfl rfl hX hP hD hS hA (List.range 22) 0 (by rw [List.getElem?_append_left (by omega)]; exact h0) (rg_C wc _ 22 hlen) (by decide) (Nat.le_of_ble_eq_true rfl) ⟨Nat.le_of_ble_eq_true rfl, Nat.le_of_ble_eq_true rfl⟩ dL_setCandidate_5 [] ⟨0, 17, 20, 13⟩ [] htab (fun z hz => nomatch hz) (by decide) (show ¬ 13 = 0 by decide) m_6_22 (hX.2.2.2 (_, _) (List.mem_of_getElem? (i := 1) rfl)) (fun H locs q9 hP hD hS => ?_)
  refine lv_astore (lv' := [(4, .ref q9), (0, .ref a), (1, .int p0), (2, .int p1), (3, .ref ao)]) hx hb dL_setCandidate_20 hl (by decide) rfl (fun ls hl => ?_)
  refine lv_iconst (v := nI 1) hx hb dL_setCandidate_22 (by decide) ?_
  exact eH1 B hP hS rfl rfl dL_setCandidate_23
set_option maxHeartbeats 4000000 in
theorem h_setLimit (l : Launch) (D : va_G) (cI cZ cJ : ClassId) (a ao : Nat) (fo : Nat → Int64) (fs : List Value) (p0 : Int32) (wc wc1 : va_W) (rv : Int32) (rm : Room) (hlen : wc.length = 22) (h0 : wc[0]? = some (a, .inr (5, fs))) (hfst : wc1.map Prod.fst = wc.map Prod.fst) (hrm : rm.cells = 0 ∧ rm.slots = 0) (hfr : rm.frames + 1 ≤ HR.frames) (hlo : 8 + (3 + 11) + rm.locals ≤ HR.locals) (hM : MI l yX5_setLimit cX5_setLimit 3 .int rm D (TY cI cZ) [.ref a, .int p0] wc wc1 rv) : MH l yL_setLimit cL_setLimit 4 [(0, 9, 12, 15)] HR D (TYH cI cZ cJ) [.ref a, .int p0, .ref ao] (wc ++ [oE cJ ao fo]) (wc1 ++ [oE cJ ao (vp_updL fo (nI 0).toNatClampNeg rv.toInt64)]) (nI 0) := by
  refine MH.mk (by decide +kernel) (Nat.le_of_ble_eq_true rfl) ?_
  intro p e s m below meth c A ls B htab hX hNc hA hP hD hS hl
  have hx := B.1
  have hb := B.2.1
  have hts := B.2.2.2.2.2.1
  have hK := B.2.2.2.2.2.2.2.2.1
  have hl : lv_has ls 4 [(0, .ref a), (1, .int p0), (2, .ref ao)] := hl
  refine lv_aload_n hx hb dL_setLimit_0 rfl (lv_at hl 2 rfl) ?_
  refine lv_iconst (v := nI 0) hx hb dL_setLimit_1 (by decide) ?_
  refine lv_aload_n hx hb dL_setLimit_2 rfl (lv_at hl 0 rfl) ?_
  refine lv_iload_n hx hb dL_setLimit_3 rfl (lv_at hl 1 rfl) ?_
  refine kV_i (ci := 5) (as := [.int p0]) (rest := [.int (nI 0), .ref ao]) (Bd.less B) hl.1 hM rfl (x_cb hrm 1 hts m_11_12 m_1_2 m_11_9 (by decide +kernel) ⟨hfr, hlo⟩) m_11_10 m_11_11 rfl rfl hP hD hS hA (List.range 22) 0 (by rw [List.getElem?_append_left (by omega)]; exact h0) (rg_C wc _ 22 hlen) hfst (by decide) (Nat.le_of_ble_eq_true rfl) ⟨Nat.le_of_ble_eq_true rfl, Nat.le_of_ble_eq_true rfl⟩ dL_setLimit_4 (fun H locs hP hD hS => ?_)
  rw [rg_put hlen (len_f hfst hlen)] at hP hD
  refine lv_i2l (v := rv.toInt64) hx hb dL_setLimit_7 rfl ?_
  refine va_last hx hb hK hP hD hS 22 2 (at_tl (len_f hfst hlen)) rfl vin0 dL_setLimit_8 (fun H locs hP hD hS => ?_)
  rw [set_tl (len_f hfst hlen)] at hP hD
  refine lv_goto (tgt := 15) hx hb dL_setLimit_9 (by decide) ?_
  refine lv_iconst (v := nI 0) hx hb dL_setLimit_15 (by decide) ?_
  exact eH0 B hP hS rfl rfl dL_setLimit_16
set_option maxHeartbeats 4000000 in
theorem h_setLimit_x1 (l : Launch) (D : va_G) (cI cZ cJ : ClassId) (a ao : Nat) (fo : Nat → Int64) (fs : List Value) (p0 : Int32) (wc : va_W) (rm : Room) (hlen : wc.length = 22) (h0 : wc[0]? = some (a, .inr (5, fs))) (hrm : rm.cells = 1 ∧ rm.slots = 6) (hfr : rm.frames + 1 ≤ HR.frames) (hlo : 8 + (3 + 11) + rm.locals ≤ HR.locals) (hM : MXi l yX5_setLimit cX5_setLimit 3 .int rm D (TY cI cZ) [.ref a, .int p0] wc "java/lang/IllegalArgumentException") : MH l yL_setLimit cL_setLimit 4 [(0, 9, 12, 15)] HR D (TYH cI cZ cJ) [.ref a, .int p0, .ref ao] (wc ++ [oE cJ ao fo]) (wc ++ [oE cJ ao fo]) (nI 1) := by
  refine MH.mk (by decide +kernel) (Nat.le_of_ble_eq_true rfl) ?_
  intro p e s m below meth c A ls B htab hX hNc hA hP hD hS hl
  have hx := B.1
  have hb := B.2.1
  have hts := B.2.2.2.2.2.1
  have hK := B.2.2.2.2.2.2.2.2.1
  have hl : lv_has ls 4 [(0, .ref a), (1, .int p0), (2, .ref ao)] := hl
  refine lv_aload_n hx hb dL_setLimit_0 rfl (lv_at hl 2 rfl) ?_
  refine lv_iconst (v := nI 0) hx hb dL_setLimit_1 (by decide) ?_
  refine lv_aload_n hx hb dL_setLimit_2 rfl (lv_at hl 0 rfl) ?_
  refine lv_iload_n hx hb dL_setLimit_3 rfl (lv_at hl 1 rfl) ?_
  refine kXi (ci := 5) (as := [.int p0]) (rest := [.int (nI 0), .ref ao]) (Bd.less B) hl.1 hM rfl (x_cbx hrm 1 hts m_11_12 m_1_2 m_11_9 (by decide +kernel) ⟨hfr, hlo⟩) m_11_10 m_11_11 rfl rfl hX hP hD hS hA (List.range 22) 0 (by rw [List.getElem?_append_left (by omega)]; exact h0) (rg_C wc _ 22 hlen) (by decide) (Nat.le_of_ble_eq_true rfl) ⟨Nat.le_of_ble_eq_true rfl, Nat.le_of_ble_eq_true rfl⟩ dL_setLimit_4 [] ⟨0, 9, 12, 15⟩ [] htab (fun z hz => nomatch hz) (by decide) (show ¬ 15 = 0 by decide) m_6_23 (hX.2.2.2 (_, _) (List.mem_of_getElem? (i := 0) rfl)) (fun H locs q9 hP hD hS => ?_)
  refine lv_astore_n (lv' := [(3, .ref q9), (0, .ref a), (1, .int p0), (2, .ref ao)]) hx hb dL_setLimit_12 rfl hl (by decide) rfl (fun ls hl => ?_)
  refine lv_iconst (v := nI 1) hx hb dL_setLimit_13 (by decide) ?_
  exact eH1 B hP hS rfl rfl dL_setLimit_14
set_option maxHeartbeats 4000000 in
theorem h_distance (l : Launch) (D : va_G) (cI cZ cJ : ClassId) (a ao : Nat) (fo : Nat → Int64) (fs : List Value) (p0 p1 : Int32) (wc wc1 : va_W) (rv : Int32) (rm : Room) (hlen : wc.length = 22) (h0 : wc[0]? = some (a, .inr (5, fs))) (hfst : wc1.map Prod.fst = wc.map Prod.fst) (hrm : rm.cells = 0 ∧ rm.slots = 0) (hfr : rm.frames + 1 ≤ HR.frames) (hlo : 8 + (3 + 11) + rm.locals ≤ HR.locals) (hM : MI l yX5_distance cX5_distance 3 .int rm D (TY cI cZ) [.ref a, .int p0, .int p1] wc wc1 rv) : MH l yL_distance cL_distance 5 [(0, 10, 13, 13)] HR D (TYH cI cZ cJ) [.ref a, .int p0, .int p1, .ref ao] (wc ++ [oE cJ ao fo]) (wc1 ++ [oE cJ ao (vp_updL fo (nI 0).toNatClampNeg rv.toInt64)]) (nI 0) := by
  refine MH.mk (by decide +kernel) (Nat.le_of_ble_eq_true rfl) ?_
  intro p e s m below meth c A ls B htab hX hNc hA hP hD hS hl
  have hx := B.1
  have hb := B.2.1
  have hts := B.2.2.2.2.2.1
  have hK := B.2.2.2.2.2.2.2.2.1
  have hl : lv_has ls 5 [(0, .ref a), (1, .int p0), (2, .int p1), (3, .ref ao)] := hl
  refine lv_aload_n hx hb dL_distance_0 rfl (lv_at hl 3 rfl) ?_
  refine lv_iconst (v := nI 0) hx hb dL_distance_1 (by decide) ?_
  refine lv_aload_n hx hb dL_distance_2 rfl (lv_at hl 0 rfl) ?_
  refine lv_iload_n hx hb dL_distance_3 rfl (lv_at hl 1 rfl) ?_
  refine lv_iload_n hx hb dL_distance_4 rfl (lv_at hl 2 rfl) ?_
  refine kV_i (ci := 5) (as := [.int p0, .int p1]) (rest := [.int (nI 0), .ref ao]) (Bd.less B) hl.1 hM rfl (x_cb hrm 2 hts m_11_23 m_1_2 m_11_20 (by decide +kernel) ⟨hfr, hlo⟩) m_11_21 m_11_22 rfl rfl hP hD hS hA (List.range 22) 0 (by rw [List.getElem?_append_left (by omega)]; exact h0) (rg_C wc _ 22 hlen) hfst (by decide) (Nat.le_of_ble_eq_true rfl) ⟨Nat.le_of_ble_eq_true rfl, Nat.le_of_ble_eq_true rfl⟩ dL_distance_5 (fun H locs hP hD hS => ?_)
  rw [rg_put hlen (len_f hfst hlen)] at hP hD
  refine lv_i2l (v := rv.toInt64) hx hb dL_distance_8 rfl ?_
  refine va_last hx hb hK hP hD hS 22 2 (at_tl (len_f hfst hlen)) rfl vin0 dL_distance_9 (fun H locs hP hD hS => ?_)
  rw [set_tl (len_f hfst hlen)] at hP hD
  refine lv_goto (tgt := 17) hx hb dL_distance_10 (by decide) ?_
  refine lv_iconst (v := nI 0) hx hb dL_distance_17 (by decide) ?_
  exact eH0 B hP hS rfl rfl dL_distance_18
set_option maxHeartbeats 4000000 in
theorem h_distance_x1 (l : Launch) (D : va_G) (cI cZ cJ : ClassId) (a ao : Nat) (fo : Nat → Int64) (fs : List Value) (p0 p1 : Int32) (wc : va_W) (rm : Room) (hlen : wc.length = 22) (h0 : wc[0]? = some (a, .inr (5, fs))) (hrm : rm.cells = 1 ∧ rm.slots = 6) (hfr : rm.frames + 1 ≤ HR.frames) (hlo : 8 + (3 + 11) + rm.locals ≤ HR.locals) (hM : MXi l yX5_distance cX5_distance 3 .int rm D (TY cI cZ) [.ref a, .int p0, .int p1] wc "java/lang/IndexOutOfBoundsException") : MH l yL_distance cL_distance 5 [(0, 10, 13, 13)] HR D (TYH cI cZ cJ) [.ref a, .int p0, .int p1, .ref ao] (wc ++ [oE cJ ao fo]) (wc ++ [oE cJ ao fo]) (nI 1) := by
  refine MH.mk (by decide +kernel) (Nat.le_of_ble_eq_true rfl) ?_
  intro p e s m below meth c A ls B htab hX hNc hA hP hD hS hl
  have hx := B.1
  have hb := B.2.1
  have hts := B.2.2.2.2.2.1
  have hK := B.2.2.2.2.2.2.2.2.1
  have hl : lv_has ls 5 [(0, .ref a), (1, .int p0), (2, .int p1), (3, .ref ao)] := hl
  refine lv_aload_n hx hb dL_distance_0 rfl (lv_at hl 3 rfl) ?_
  refine lv_iconst (v := nI 0) hx hb dL_distance_1 (by decide) ?_
  refine lv_aload_n hx hb dL_distance_2 rfl (lv_at hl 0 rfl) ?_
  refine lv_iload_n hx hb dL_distance_3 rfl (lv_at hl 1 rfl) ?_
  refine lv_iload_n hx hb dL_distance_4 rfl (lv_at hl 2 rfl) ?_
  refine kXi (ci := 5) (as := [.int p0, .int p1]) (rest := [.int (nI 0), .ref ao]) (Bd.less B) hl.1 hM rfl (x_cbx hrm 2 hts m_11_23 m_1_2 m_11_20 (by decide +kernel) ⟨hfr, hlo⟩) m_11_21 m_11_22 rfl rfl hX hP hD hS hA (List.range 22) 0 (by rw [List.getElem?_append_left (by omega)]; exact h0) (rg_C wc _ 22 hlen) (by decide) (Nat.le_of_ble_eq_true rfl) ⟨Nat.le_of_ble_eq_true rfl, Nat.le_of_ble_eq_true rfl⟩ dL_distance_5 [] ⟨0, 10, 13, 13⟩ [] htab (fun z hz => nomatch hz) (by decide) (show ¬ 13 = 0 by decide) m_6_22 (hX.2.2.2 (_, _) (List.mem_of_getElem? (i := 1) rfl)) (fun H locs q9 hP hD hS => ?_)
  refine lv_astore (lv' := [(4, .ref q9), (0, .ref a), (1, .int p0), (2, .int p1), (3, .ref ao)]) hx hb dL_distance_13 hl (by decide) rfl (fun ls hl => ?_)
  refine lv_iconst (v := nI 1) hx hb dL_distance_15 (by decide) ?_
  exact eH1 B hP hS rfl rfl dL_distance_16
set_option maxHeartbeats 4000000 in
theorem h_nextHop (l : Launch) (D : va_G) (cI cZ cJ : ClassId) (a ao : Nat) (fo : Nat → Int64) (fs : List Value) (p0 p1 : Int32) (wc wc1 : va_W) (rv : Int32) (rm : Room) (hlen : wc.length = 22) (h0 : wc[0]? = some (a, .inr (5, fs))) (hfst : wc1.map Prod.fst = wc.map Prod.fst) (hrm : rm.cells = 0 ∧ rm.slots = 0) (hfr : rm.frames + 1 ≤ HR.frames) (hlo : 8 + (3 + 11) + rm.locals ≤ HR.locals) (hM : MI l yX5_nextHop cX5_nextHop 3 .int rm D (TY cI cZ) [.ref a, .int p0, .int p1] wc wc1 rv) : MH l yL_nextHop cL_nextHop 5 [(0, 10, 13, 13)] HR D (TYH cI cZ cJ) [.ref a, .int p0, .int p1, .ref ao] (wc ++ [oE cJ ao fo]) (wc1 ++ [oE cJ ao (vp_updL fo (nI 0).toNatClampNeg rv.toInt64)]) (nI 0) := by
  refine MH.mk (by decide +kernel) (Nat.le_of_ble_eq_true rfl) ?_
  intro p e s m below meth c A ls B htab hX hNc hA hP hD hS hl
  have hx := B.1
  have hb := B.2.1
  have hts := B.2.2.2.2.2.1
  have hK := B.2.2.2.2.2.2.2.2.1
  have hl : lv_has ls 5 [(0, .ref a), (1, .int p0), (2, .int p1), (3, .ref ao)] := hl
  refine lv_aload_n hx hb dL_nextHop_0 rfl (lv_at hl 3 rfl) ?_
  refine lv_iconst (v := nI 0) hx hb dL_nextHop_1 (by decide) ?_
  refine lv_aload_n hx hb dL_nextHop_2 rfl (lv_at hl 0 rfl) ?_
  refine lv_iload_n hx hb dL_nextHop_3 rfl (lv_at hl 1 rfl) ?_
  refine lv_iload_n hx hb dL_nextHop_4 rfl (lv_at hl 2 rfl) ?_
  refine kV_i (ci := 5) (as := [.int p0, .int p1]) (rest := [.int (nI 0), .ref ao]) (Bd.less B) hl.1 hM rfl (x_cb hrm 2 hts m_12_11 m_1_2 m_12_8 (by decide +kernel) ⟨hfr, hlo⟩) m_12_9 m_12_10 rfl rfl hP hD hS hA (List.range 22) 0 (by rw [List.getElem?_append_left (by omega)]; exact h0) (rg_C wc _ 22 hlen) hfst (by decide) (Nat.le_of_ble_eq_true rfl) ⟨Nat.le_of_ble_eq_true rfl, Nat.le_of_ble_eq_true rfl⟩ dL_nextHop_5 (fun H locs hP hD hS => ?_)
  rw [rg_put hlen (len_f hfst hlen)] at hP hD
  refine lv_i2l (v := rv.toInt64) hx hb dL_nextHop_8 rfl ?_
  refine va_last hx hb hK hP hD hS 22 2 (at_tl (len_f hfst hlen)) rfl vin0 dL_nextHop_9 (fun H locs hP hD hS => ?_)
  rw [set_tl (len_f hfst hlen)] at hP hD
  refine lv_goto (tgt := 17) hx hb dL_nextHop_10 (by decide) ?_
  refine lv_iconst (v := nI 0) hx hb dL_nextHop_17 (by decide) ?_
  exact eH0 B hP hS rfl rfl dL_nextHop_18
set_option maxHeartbeats 4000000 in
theorem h_nextHop_x1 (l : Launch) (D : va_G) (cI cZ cJ : ClassId) (a ao : Nat) (fo : Nat → Int64) (fs : List Value) (p0 p1 : Int32) (wc : va_W) (rm : Room) (hlen : wc.length = 22) (h0 : wc[0]? = some (a, .inr (5, fs))) (hrm : rm.cells = 1 ∧ rm.slots = 6) (hfr : rm.frames + 1 ≤ HR.frames) (hlo : 8 + (3 + 11) + rm.locals ≤ HR.locals) (hM : MXi l yX5_nextHop cX5_nextHop 3 .int rm D (TY cI cZ) [.ref a, .int p0, .int p1] wc "java/lang/IndexOutOfBoundsException") : MH l yL_nextHop cL_nextHop 5 [(0, 10, 13, 13)] HR D (TYH cI cZ cJ) [.ref a, .int p0, .int p1, .ref ao] (wc ++ [oE cJ ao fo]) (wc ++ [oE cJ ao fo]) (nI 1) := by
  refine MH.mk (by decide +kernel) (Nat.le_of_ble_eq_true rfl) ?_
  intro p e s m below meth c A ls B htab hX hNc hA hP hD hS hl
  have hx := B.1
  have hb := B.2.1
  have hts := B.2.2.2.2.2.1
  have hK := B.2.2.2.2.2.2.2.2.1
  have hl : lv_has ls 5 [(0, .ref a), (1, .int p0), (2, .int p1), (3, .ref ao)] := hl
  refine lv_aload_n hx hb dL_nextHop_0 rfl (lv_at hl 3 rfl) ?_
  refine lv_iconst (v := nI 0) hx hb dL_nextHop_1 (by decide) ?_
  refine lv_aload_n hx hb dL_nextHop_2 rfl (lv_at hl 0 rfl) ?_
  refine lv_iload_n hx hb dL_nextHop_3 rfl (lv_at hl 1 rfl) ?_
  refine lv_iload_n hx hb dL_nextHop_4 rfl (lv_at hl 2 rfl) ?_
  refine kXi (ci := 5) (as := [.int p0, .int p1]) (rest := [.int (nI 0), .ref ao]) (Bd.less B) hl.1 hM rfl (x_cbx hrm 2 hts m_12_11 m_1_2 m_12_8 (by decide +kernel) ⟨hfr, hlo⟩) m_12_9 m_12_10 rfl rfl hX hP hD hS hA (List.range 22) 0 (by rw [List.getElem?_append_left (by omega)]; exact h0) (rg_C wc _ 22 hlen) (by decide) (Nat.le_of_ble_eq_true rfl) ⟨Nat.le_of_ble_eq_true rfl, Nat.le_of_ble_eq_true rfl⟩ dL_nextHop_5 [] ⟨0, 10, 13, 13⟩ [] htab (fun z hz => nomatch hz) (by decide) (show ¬ 13 = 0 by decide) m_6_22 (hX.2.2.2 (_, _) (List.mem_of_getElem? (i := 1) rfl)) (fun H locs q9 hP hD hS => ?_)
  refine lv_astore (lv' := [(4, .ref q9), (0, .ref a), (1, .int p0), (2, .int p1), (3, .ref ao)]) hx hb dL_nextHop_13 hl (by decide) rfl (fun ls hl => ?_)
  refine lv_iconst (v := nI 1) hx hb dL_nextHop_15 (by decide) ?_
  exact eH1 B hP hS rfl rfl dL_nextHop_16
set_option maxHeartbeats 4000000 in
theorem h_rendezvous (l : Launch) (D : va_G) (cI cZ cJ : ClassId) (a ao : Nat) (fo : Nat → Int64) (fs : List Value) (p0 : Int32) (wc wc1 : va_W) (rv : Int32) (rm : Room) (hlen : wc.length = 22) (h0 : wc[0]? = some (a, .inr (5, fs))) (hfst : wc1.map Prod.fst = wc.map Prod.fst) (hrm : rm.cells = 0 ∧ rm.slots = 0) (hfr : rm.frames + 1 ≤ HR.frames) (hlo : 8 + (2 + 11) + rm.locals ≤ HR.locals) (hM : MI l yX5_rendezvous cX5_rendezvous 2 .int rm D (TY cI cZ) [.ref a, .int p0] wc wc1 rv) : MH l yL_rendezvous cL_rendezvous 4 [(0, 9, 12, 13)] HR D (TYH cI cZ cJ) [.ref a, .int p0, .ref ao] (wc ++ [oE cJ ao fo]) (wc1 ++ [oE cJ ao (vp_updL fo (nI 0).toNatClampNeg rv.toInt64)]) (nI 0) := by
  refine MH.mk (by decide +kernel) (Nat.le_of_ble_eq_true rfl) ?_
  intro p e s m below meth c A ls B htab hX hNc hA hP hD hS hl
  have hx := B.1
  have hb := B.2.1
  have hts := B.2.2.2.2.2.1
  have hK := B.2.2.2.2.2.2.2.2.1
  have hl : lv_has ls 4 [(0, .ref a), (1, .int p0), (2, .ref ao)] := hl
  refine lv_aload_n hx hb dL_rendezvous_0 rfl (lv_at hl 2 rfl) ?_
  refine lv_iconst (v := nI 0) hx hb dL_rendezvous_1 (by decide) ?_
  refine lv_aload_n hx hb dL_rendezvous_2 rfl (lv_at hl 0 rfl) ?_
  refine lv_iload_n hx hb dL_rendezvous_3 rfl (lv_at hl 1 rfl) ?_
  refine kV_i (ci := 5) (as := [.int p0]) (rest := [.int (nI 0), .ref ao]) (Bd.less B) hl.1 hM rfl (x_cb hrm 1 hts m_12_23 m_1_2 m_12_20 (by decide +kernel) ⟨hfr, hlo⟩) m_12_21 m_12_22 rfl rfl hP hD hS hA (List.range 22) 0 (by rw [List.getElem?_append_left (by omega)]; exact h0) (rg_C wc _ 22 hlen) hfst (by decide) (Nat.le_of_ble_eq_true rfl) ⟨Nat.le_of_ble_eq_true rfl, Nat.le_of_ble_eq_true rfl⟩ dL_rendezvous_4 (fun H locs hP hD hS => ?_)
  rw [rg_put hlen (len_f hfst hlen)] at hP hD
  refine lv_i2l (v := rv.toInt64) hx hb dL_rendezvous_7 rfl ?_
  refine va_last hx hb hK hP hD hS 22 2 (at_tl (len_f hfst hlen)) rfl vin0 dL_rendezvous_8 (fun H locs hP hD hS => ?_)
  rw [set_tl (len_f hfst hlen)] at hP hD
  refine lv_goto (tgt := 15) hx hb dL_rendezvous_9 (by decide) ?_
  refine lv_iconst (v := nI 0) hx hb dL_rendezvous_15 (by decide) ?_
  exact eH0 B hP hS rfl rfl dL_rendezvous_16
set_option maxHeartbeats 4000000 in
theorem h_rendezvous_x1 (l : Launch) (D : va_G) (cI cZ cJ : ClassId) (a ao : Nat) (fo : Nat → Int64) (fs : List Value) (p0 : Int32) (wc : va_W) (rm : Room) (hlen : wc.length = 22) (h0 : wc[0]? = some (a, .inr (5, fs))) (hrm : rm.cells = 1 ∧ rm.slots = 6) (hfr : rm.frames + 1 ≤ HR.frames) (hlo : 8 + (2 + 11) + rm.locals ≤ HR.locals) (hM : MXi l yX5_rendezvous cX5_rendezvous 2 .int rm D (TY cI cZ) [.ref a, .int p0] wc "java/lang/IndexOutOfBoundsException") : MH l yL_rendezvous cL_rendezvous 4 [(0, 9, 12, 13)] HR D (TYH cI cZ cJ) [.ref a, .int p0, .ref ao] (wc ++ [oE cJ ao fo]) (wc ++ [oE cJ ao fo]) (nI 1) := by
  refine MH.mk (by decide +kernel) (Nat.le_of_ble_eq_true rfl) ?_
  intro p e s m below meth c A ls B htab hX hNc hA hP hD hS hl
  have hx := B.1
  have hb := B.2.1
  have hts := B.2.2.2.2.2.1
  have hK := B.2.2.2.2.2.2.2.2.1
  have hl : lv_has ls 4 [(0, .ref a), (1, .int p0), (2, .ref ao)] := hl
  refine lv_aload_n hx hb dL_rendezvous_0 rfl (lv_at hl 2 rfl) ?_
  refine lv_iconst (v := nI 0) hx hb dL_rendezvous_1 (by decide) ?_
  refine lv_aload_n hx hb dL_rendezvous_2 rfl (lv_at hl 0 rfl) ?_
  refine lv_iload_n hx hb dL_rendezvous_3 rfl (lv_at hl 1 rfl) ?_
  refine kXi (ci := 5) (as := [.int p0]) (rest := [.int (nI 0), .ref ao]) (Bd.less B) hl.1 hM rfl (x_cbx hrm 1 hts m_12_23 m_1_2 m_12_20 (by decide +kernel) ⟨hfr, hlo⟩) m_12_21 m_12_22 rfl rfl hX hP hD hS hA (List.range 22) 0 (by rw [List.getElem?_append_left (by omega)]; exact h0) (rg_C wc _ 22 hlen) (by decide) (Nat.le_of_ble_eq_true rfl) ⟨Nat.le_of_ble_eq_true rfl, Nat.le_of_ble_eq_true rfl⟩ dL_rendezvous_4 [] ⟨0, 9, 12, 13⟩ [] htab (fun z hz => nomatch hz) (by decide) (show ¬ 13 = 0 by decide) m_6_22 (hX.2.2.2 (_, _) (List.mem_of_getElem? (i := 1) rfl)) (fun H locs q9 hP hD hS => ?_)
  refine lv_astore_n (lv' := [(3, .ref q9), (0, .ref a), (1, .int p0), (2, .ref ao)]) hx hb dL_rendezvous_12 rfl hl (by decide) rfl (fun ls hl => ?_)
  refine lv_iconst (v := nI 1) hx hb dL_rendezvous_13 (by decide) ?_
  exact eH1 B hP hS rfl rfl dL_rendezvous_14
set_option maxHeartbeats 4000000 in
theorem h_join (l : Launch) (D : va_G) (cI cZ cJ : ClassId) (a ao : Nat) (fo : Nat → Int64) (fs : List Value) (p0 p1 : Int32) (wc wc1 : va_W) (rv : Int32) (rm : Room) (hlen : wc.length = 22) (h0 : wc[0]? = some (a, .inr (5, fs))) (hfst : wc1.map Prod.fst = wc.map Prod.fst) (hrm : rm.cells = 0 ∧ rm.slots = 0) (hfr : rm.frames + 1 ≤ HR.frames) (hlo : 8 + (3 + 11) + rm.locals ≤ HR.locals) (hM : MI l yX5_join cX5_join 3 .int rm D (TY cI cZ) [.ref a, .int p0, .int p1] wc wc1 rv) : MH l yL_join cL_join 5 [(0, 10, 13, 13), (0, 10, 17, 38)] HR D (TYH cI cZ cJ) [.ref a, .int p0, .int p1, .ref ao] (wc ++ [oE cJ ao fo]) (wc1 ++ [oE cJ ao (vp_updL fo (nI 0).toNatClampNeg rv.toInt64)]) (nI 0) := by
  refine MH.mk (by decide +kernel) (Nat.le_of_ble_eq_true rfl) ?_
  intro p e s m below meth c A ls B htab hX hNc hA hP hD hS hl
  have hx := B.1
  have hb := B.2.1
  have hts := B.2.2.2.2.2.1
  have hK := B.2.2.2.2.2.2.2.2.1
  have hl : lv_has ls 5 [(0, .ref a), (1, .int p0), (2, .int p1), (3, .ref ao)] := hl
  refine lv_aload_n hx hb dL_join_0 rfl (lv_at hl 3 rfl) ?_
  refine lv_iconst (v := nI 0) hx hb dL_join_1 (by decide) ?_
  refine lv_aload_n hx hb dL_join_2 rfl (lv_at hl 0 rfl) ?_
  refine lv_iload_n hx hb dL_join_3 rfl (lv_at hl 1 rfl) ?_
  refine lv_iload_n hx hb dL_join_4 rfl (lv_at hl 2 rfl) ?_
  refine kV_i (ci := 5) (as := [.int p0, .int p1]) (rest := [.int (nI 0), .ref ao]) (Bd.less B) hl.1 hM rfl (x_cb hrm 2 hts m_13_18 m_1_2 m_13_15 (by decide +kernel) ⟨hfr, hlo⟩) m_13_16 m_13_17 rfl rfl hP hD hS hA (List.range 22) 0 (by rw [List.getElem?_append_left (by omega)]; exact h0) (rg_C wc _ 22 hlen) hfst (by decide) (Nat.le_of_ble_eq_true rfl) ⟨Nat.le_of_ble_eq_true rfl, Nat.le_of_ble_eq_true rfl⟩ dL_join_5 (fun H locs hP hD hS => ?_)
  rw [rg_put hlen (len_f hfst hlen)] at hP hD
  refine lv_i2l (v := rv.toInt64) hx hb dL_join_8 rfl ?_
  refine va_last hx hb hK hP hD hS 22 2 (at_tl (len_f hfst hlen)) rfl vin0 dL_join_9 (fun H locs hP hD hS => ?_)
  rw [set_tl (len_f hfst hlen)] at hP hD
  refine lv_goto (tgt := 21) hx hb dL_join_10 (by decide) ?_
  refine lv_iconst (v := nI 0) hx hb dL_join_21 (by decide) ?_
  exact eH0 B hP hS rfl rfl dL_join_22
set_option maxHeartbeats 4000000 in
theorem h_join_x1 (l : Launch) (D : va_G) (cI cZ cJ : ClassId) (a ao : Nat) (fo : Nat → Int64) (fs : List Value) (p0 p1 : Int32) (wc : va_W) (rm : Room) (hlen : wc.length = 22) (h0 : wc[0]? = some (a, .inr (5, fs))) (hrm : rm.cells = 1 ∧ rm.slots = 6) (hfr : rm.frames + 1 ≤ HR.frames) (hlo : 8 + (3 + 11) + rm.locals ≤ HR.locals) (hM : MXi l yX5_join cX5_join 3 .int rm D (TY cI cZ) [.ref a, .int p0, .int p1] wc "java/lang/IndexOutOfBoundsException") : MH l yL_join cL_join 5 [(0, 10, 13, 13), (0, 10, 17, 38)] HR D (TYH cI cZ cJ) [.ref a, .int p0, .int p1, .ref ao] (wc ++ [oE cJ ao fo]) (wc ++ [oE cJ ao fo]) (nI 1) := by
  refine MH.mk (by decide +kernel) (Nat.le_of_ble_eq_true rfl) ?_
  intro p e s m below meth c A ls B htab hX hNc hA hP hD hS hl
  have hx := B.1
  have hb := B.2.1
  have hts := B.2.2.2.2.2.1
  have hK := B.2.2.2.2.2.2.2.2.1
  have hl : lv_has ls 5 [(0, .ref a), (1, .int p0), (2, .int p1), (3, .ref ao)] := hl
  refine lv_aload_n hx hb dL_join_0 rfl (lv_at hl 3 rfl) ?_
  refine lv_iconst (v := nI 0) hx hb dL_join_1 (by decide) ?_
  refine lv_aload_n hx hb dL_join_2 rfl (lv_at hl 0 rfl) ?_
  refine lv_iload_n hx hb dL_join_3 rfl (lv_at hl 1 rfl) ?_
  refine lv_iload_n hx hb dL_join_4 rfl (lv_at hl 2 rfl) ?_
  refine kXi (ci := 5) (as := [.int p0, .int p1]) (rest := [.int (nI 0), .ref ao]) (Bd.less B) hl.1 hM rfl (x_cbx hrm 2 hts m_13_18 m_1_2 m_13_15 (by decide +kernel) ⟨hfr, hlo⟩) m_13_16 m_13_17 rfl rfl hX hP hD hS hA (List.range 22) 0 (by rw [List.getElem?_append_left (by omega)]; exact h0) (rg_C wc _ 22 hlen) (by decide) (Nat.le_of_ble_eq_true rfl) ⟨Nat.le_of_ble_eq_true rfl, Nat.le_of_ble_eq_true rfl⟩ dL_join_5 [] ⟨0, 10, 13, 13⟩ [⟨0, 10, 17, 38⟩] htab (fun z hz => nomatch hz) (by decide) (show ¬ 13 = 0 by decide) m_6_22 (hX.2.2.2 (_, _) (List.mem_of_getElem? (i := 1) rfl)) (fun H locs q9 hP hD hS => ?_)
  refine lv_astore (lv' := [(4, .ref q9), (0, .ref a), (1, .int p0), (2, .int p1), (3, .ref ao)]) hx hb dL_join_13 hl (by decide) rfl (fun ls hl => ?_)
  refine lv_iconst (v := nI 1) hx hb dL_join_15 (by decide) ?_
  exact eH1 B hP hS rfl rfl dL_join_16
set_option maxHeartbeats 4000000 in
theorem h_join_x2 (l : Launch) (D : va_G) (cI cZ cJ : ClassId) (a ao : Nat) (fo : Nat → Int64) (fs : List Value) (p0 p1 : Int32) (wc : va_W) (rm : Room) (hlen : wc.length = 22) (h0 : wc[0]? = some (a, .inr (5, fs))) (hrm : rm.cells = 1 ∧ rm.slots = 6) (hfr : rm.frames + 1 ≤ HR.frames) (hlo : 8 + (3 + 11) + rm.locals ≤ HR.locals) (hM : MXi l yX5_join cX5_join 3 .int rm D (TY cI cZ) [.ref a, .int p0, .int p1] wc "java/lang/IllegalStateException") : MH l yL_join cL_join 5 [(0, 10, 13, 13), (0, 10, 17, 38)] HR D (TYH cI cZ cJ) [.ref a, .int p0, .int p1, .ref ao] (wc ++ [oE cJ ao fo]) (wc ++ [oE cJ ao fo]) (nI 2) := by
  refine MH.mk (by decide +kernel) (Nat.le_of_ble_eq_true rfl) ?_
  intro p e s m below meth c A ls B htab hX hNc hA hP hD hS hl
  have hx := B.1
  have hb := B.2.1
  have hts := B.2.2.2.2.2.1
  have hK := B.2.2.2.2.2.2.2.2.1
  have hl : lv_has ls 5 [(0, .ref a), (1, .int p0), (2, .int p1), (3, .ref ao)] := hl
  refine lv_aload_n hx hb dL_join_0 rfl (lv_at hl 3 rfl) ?_
  refine lv_iconst (v := nI 0) hx hb dL_join_1 (by decide) ?_
  refine lv_aload_n hx hb dL_join_2 rfl (lv_at hl 0 rfl) ?_
  refine lv_iload_n hx hb dL_join_3 rfl (lv_at hl 1 rfl) ?_
  refine lv_iload_n hx hb dL_join_4 rfl (lv_at hl 2 rfl) ?_
  refine kXi (ci := 5) (as := [.int p0, .int p1]) (rest := [.int (nI 0), .ref ao]) (Bd.less B) hl.1 hM rfl (x_cbx hrm 2 hts m_13_18 m_1_2 m_13_15 (by decide +kernel) ⟨hfr, hlo⟩) m_13_16 m_13_17 rfl rfl hX hP hD hS hA (List.range 22) 0 (by rw [List.getElem?_append_left (by omega)]; exact h0) (rg_C wc _ 22 hlen) (by decide) (Nat.le_of_ble_eq_true rfl) ⟨Nat.le_of_ble_eq_true rfl, Nat.le_of_ble_eq_true rfl⟩ dL_join_5 [⟨0, 10, 13, 13⟩] ⟨0, 10, 17, 38⟩ [] htab (fun z hz => by rw [List.mem_singleton.mp hz]; exact Or.inr ⟨(show ¬ 13 = 0 by decide), "java/lang/IndexOutOfBoundsException", hts _ m_6_22, hNc (_, _) (List.mem_of_getElem? (i := 1) rfl)⟩) (by decide) (show ¬ 38 = 0 by decide) m_13_14 (hX.2.2.2 (_, _) (List.mem_of_getElem? (i := 2) rfl)) (fun H locs q9 hP hD hS => ?_)
  refine lv_astore (lv' := [(4, .ref q9), (0, .ref a), (1, .int p0), (2, .int p1), (3, .ref ao)]) hx hb dL_join_17 hl (by decide) rfl (fun ls hl => ?_)
  refine lv_iconst (v := nI 2) hx hb dL_join_19 (by decide) ?_
  exact eH1 B hP hS rfl rfl dL_join_20
set_option maxHeartbeats 4000000 in
theorem h_leave (l : Launch) (D : va_G) (cI cZ cJ : ClassId) (a ao : Nat) (fo : Nat → Int64) (fs : List Value) (p0 p1 : Int32) (wc wc1 : va_W) (rv : Int32) (rm : Room) (hlen : wc.length = 22) (h0 : wc[0]? = some (a, .inr (5, fs))) (hfst : wc1.map Prod.fst = wc.map Prod.fst) (hrm : rm.cells = 0 ∧ rm.slots = 0) (hfr : rm.frames + 1 ≤ HR.frames) (hlo : 8 + (4 + 11) + rm.locals ≤ HR.locals) (hM : MI l yX5_leave cX5_leave 4 .int rm D (TY cI cZ) [.ref a, .int p0, .int p1] wc wc1 rv) : MH l yL_leave cL_leave 5 [(0, 10, 13, 13), (0, 10, 17, 38)] HR D (TYH cI cZ cJ) [.ref a, .int p0, .int p1, .ref ao] (wc ++ [oE cJ ao fo]) (wc1 ++ [oE cJ ao (vp_updL fo (nI 0).toNatClampNeg rv.toInt64)]) (nI 0) := by
  refine MH.mk (by decide +kernel) (Nat.le_of_ble_eq_true rfl) ?_
  intro p e s m below meth c A ls B htab hX hNc hA hP hD hS hl
  have hx := B.1
  have hb := B.2.1
  have hts := B.2.2.2.2.2.1
  have hK := B.2.2.2.2.2.2.2.2.1
  have hl : lv_has ls 5 [(0, .ref a), (1, .int p0), (2, .int p1), (3, .ref ao)] := hl
  refine lv_aload_n hx hb dL_leave_0 rfl (lv_at hl 3 rfl) ?_
  refine lv_iconst (v := nI 0) hx hb dL_leave_1 (by decide) ?_
  refine lv_aload_n hx hb dL_leave_2 rfl (lv_at hl 0 rfl) ?_
  refine lv_iload_n hx hb dL_leave_3 rfl (lv_at hl 1 rfl) ?_
  refine lv_iload_n hx hb dL_leave_4 rfl (lv_at hl 2 rfl) ?_
  refine kV_i (ci := 5) (as := [.int p0, .int p1]) (rest := [.int (nI 0), .ref ao]) (Bd.less B) hl.1 hM rfl (x_cb hrm 2 hts m_15_13 m_1_2 m_15_10 (by decide +kernel) ⟨hfr, hlo⟩) m_15_11 m_15_12 rfl rfl hP hD hS hA (List.range 22) 0 (by rw [List.getElem?_append_left (by omega)]; exact h0) (rg_C wc _ 22 hlen) hfst (by decide) (Nat.le_of_ble_eq_true rfl) ⟨Nat.le_of_ble_eq_true rfl, Nat.le_of_ble_eq_true rfl⟩ dL_leave_5 (fun H locs hP hD hS => ?_)
  rw [rg_put hlen (len_f hfst hlen)] at hP hD
  refine lv_i2l (v := rv.toInt64) hx hb dL_leave_8 rfl ?_
  refine va_last hx hb hK hP hD hS 22 2 (at_tl (len_f hfst hlen)) rfl vin0 dL_leave_9 (fun H locs hP hD hS => ?_)
  rw [set_tl (len_f hfst hlen)] at hP hD
  refine lv_goto (tgt := 21) hx hb dL_leave_10 (by decide) ?_
  refine lv_iconst (v := nI 0) hx hb dL_leave_21 (by decide) ?_
  exact eH0 B hP hS rfl rfl dL_leave_22
set_option maxHeartbeats 4000000 in
theorem h_leave_x1 (l : Launch) (D : va_G) (cI cZ cJ : ClassId) (a ao : Nat) (fo : Nat → Int64) (fs : List Value) (p0 p1 : Int32) (wc : va_W) (rm : Room) (hlen : wc.length = 22) (h0 : wc[0]? = some (a, .inr (5, fs))) (hrm : rm.cells = 1 ∧ rm.slots = 6) (hfr : rm.frames + 1 ≤ HR.frames) (hlo : 8 + (4 + 11) + rm.locals ≤ HR.locals) (hM : MXi l yX5_leave cX5_leave 4 .int rm D (TY cI cZ) [.ref a, .int p0, .int p1] wc "java/lang/IndexOutOfBoundsException") : MH l yL_leave cL_leave 5 [(0, 10, 13, 13), (0, 10, 17, 38)] HR D (TYH cI cZ cJ) [.ref a, .int p0, .int p1, .ref ao] (wc ++ [oE cJ ao fo]) (wc ++ [oE cJ ao fo]) (nI 1) := by
  refine MH.mk (by decide +kernel) (Nat.le_of_ble_eq_true rfl) ?_
  intro p e s m below meth c A ls B htab hX hNc hA hP hD hS hl
  have hx := B.1
  have hb := B.2.1
  have hts := B.2.2.2.2.2.1
  have hK := B.2.2.2.2.2.2.2.2.1
  have hl : lv_has ls 5 [(0, .ref a), (1, .int p0), (2, .int p1), (3, .ref ao)] := hl
  refine lv_aload_n hx hb dL_leave_0 rfl (lv_at hl 3 rfl) ?_
  refine lv_iconst (v := nI 0) hx hb dL_leave_1 (by decide) ?_
  refine lv_aload_n hx hb dL_leave_2 rfl (lv_at hl 0 rfl) ?_
  refine lv_iload_n hx hb dL_leave_3 rfl (lv_at hl 1 rfl) ?_
  refine lv_iload_n hx hb dL_leave_4 rfl (lv_at hl 2 rfl) ?_
  refine kXi (ci := 5) (as := [.int p0, .int p1]) (rest := [.int (nI 0), .ref ao]) (Bd.less B) hl.1 hM rfl (x_cbx hrm 2 hts m_15_13 m_1_2 m_15_10 (by decide +kernel) ⟨hfr, hlo⟩) m_15_11 m_15_12 rfl rfl hX hP hD hS hA (List.range 22) 0 (by rw [List.getElem?_append_left (by omega)]; exact h0) (rg_C wc _ 22 hlen) (by decide) (Nat.le_of_ble_eq_true rfl) ⟨Nat.le_of_ble_eq_true rfl, Nat.le_of_ble_eq_true rfl⟩ dL_leave_5 [] ⟨0, 10, 13, 13⟩ [⟨0, 10, 17, 38⟩] htab (fun z hz => nomatch hz) (by decide) (show ¬ 13 = 0 by decide) m_6_22 (hX.2.2.2 (_, _) (List.mem_of_getElem? (i := 1) rfl)) (fun H locs q9 hP hD hS => ?_)
  refine lv_astore (lv' := [(4, .ref q9), (0, .ref a), (1, .int p0), (2, .int p1), (3, .ref ao)]) hx hb dL_leave_13 hl (by decide) rfl (fun ls hl => ?_)
  refine lv_iconst (v := nI 1) hx hb dL_leave_15 (by decide) ?_
  exact eH1 B hP hS rfl rfl dL_leave_16
set_option maxHeartbeats 4000000 in
theorem h_leave_x2 (l : Launch) (D : va_G) (cI cZ cJ : ClassId) (a ao : Nat) (fo : Nat → Int64) (fs : List Value) (p0 p1 : Int32) (wc : va_W) (rm : Room) (hlen : wc.length = 22) (h0 : wc[0]? = some (a, .inr (5, fs))) (hrm : rm.cells = 1 ∧ rm.slots = 6) (hfr : rm.frames + 1 ≤ HR.frames) (hlo : 8 + (4 + 11) + rm.locals ≤ HR.locals) (hM : MXi l yX5_leave cX5_leave 4 .int rm D (TY cI cZ) [.ref a, .int p0, .int p1] wc "java/lang/IllegalStateException") : MH l yL_leave cL_leave 5 [(0, 10, 13, 13), (0, 10, 17, 38)] HR D (TYH cI cZ cJ) [.ref a, .int p0, .int p1, .ref ao] (wc ++ [oE cJ ao fo]) (wc ++ [oE cJ ao fo]) (nI 2) := by
  refine MH.mk (by decide +kernel) (Nat.le_of_ble_eq_true rfl) ?_
  intro p e s m below meth c A ls B htab hX hNc hA hP hD hS hl
  have hx := B.1
  have hb := B.2.1
  have hts := B.2.2.2.2.2.1
  have hK := B.2.2.2.2.2.2.2.2.1
  have hl : lv_has ls 5 [(0, .ref a), (1, .int p0), (2, .int p1), (3, .ref ao)] := hl
  refine lv_aload_n hx hb dL_leave_0 rfl (lv_at hl 3 rfl) ?_
  refine lv_iconst (v := nI 0) hx hb dL_leave_1 (by decide) ?_
  refine lv_aload_n hx hb dL_leave_2 rfl (lv_at hl 0 rfl) ?_
  refine lv_iload_n hx hb dL_leave_3 rfl (lv_at hl 1 rfl) ?_
  refine lv_iload_n hx hb dL_leave_4 rfl (lv_at hl 2 rfl) ?_
  refine kXi (ci := 5) (as := [.int p0, .int p1]) (rest := [.int (nI 0), .ref ao]) (Bd.less B) hl.1 hM rfl (x_cbx hrm 2 hts m_15_13 m_1_2 m_15_10 (by decide +kernel) ⟨hfr, hlo⟩) m_15_11 m_15_12 rfl rfl hX hP hD hS hA (List.range 22) 0 (by rw [List.getElem?_append_left (by omega)]; exact h0) (rg_C wc _ 22 hlen) (by decide) (Nat.le_of_ble_eq_true rfl) ⟨Nat.le_of_ble_eq_true rfl, Nat.le_of_ble_eq_true rfl⟩ dL_leave_5 [⟨0, 10, 13, 13⟩] ⟨0, 10, 17, 38⟩ [] htab (fun z hz => by rw [List.mem_singleton.mp hz]; exact Or.inr ⟨(show ¬ 13 = 0 by decide), "java/lang/IndexOutOfBoundsException", hts _ m_6_22, hNc (_, _) (List.mem_of_getElem? (i := 1) rfl)⟩) (by decide) (show ¬ 38 = 0 by decide) m_13_14 (hX.2.2.2 (_, _) (List.mem_of_getElem? (i := 2) rfl)) (fun H locs q9 hP hD hS => ?_)
  refine lv_astore (lv' := [(4, .ref q9), (0, .ref a), (1, .int p0), (2, .int p1), (3, .ref ao)]) hx hb dL_leave_17 hl (by decide) rfl (fun ls hl => ?_)
  refine lv_iconst (v := nI 2) hx hb dL_leave_19 (by decide) ?_
  exact eH1 B hP hS rfl rfl dL_leave_20
set_option maxHeartbeats 4000000 in
theorem h_members (l : Launch) (D : va_G) (cI cZ cJ : ClassId) (a ao : Nat) (fo : Nat → Int64) (fs : List Value) (p0 : Int32) (wc wc1 : va_W) (rv : Int32) (rm : Room) (hlen : wc.length = 22) (h0 : wc[0]? = some (a, .inr (5, fs))) (hfst : wc1.map Prod.fst = wc.map Prod.fst) (hrm : rm.cells = 0 ∧ rm.slots = 0) (hfr : rm.frames + 1 ≤ HR.frames) (hlo : 8 + (2 + 11) + rm.locals ≤ HR.locals) (hM : MI l yX5_members cX5_members 2 .int rm D (TY cI cZ) [.ref a, .int p0] wc wc1 rv) : MH l yL_members cL_members 4 [(0, 9, 12, 13)] HR D (TYH cI cZ cJ) [.ref a, .int p0, .ref ao] (wc ++ [oE cJ ao fo]) (wc1 ++ [oE cJ ao (vp_updL fo (nI 0).toNatClampNeg rv.toInt64)]) (nI 0) := by
  refine MH.mk (by decide +kernel) (Nat.le_of_ble_eq_true rfl) ?_
  intro p e s m below meth c A ls B htab hX hNc hA hP hD hS hl
  have hx := B.1
  have hb := B.2.1
  have hts := B.2.2.2.2.2.1
  have hK := B.2.2.2.2.2.2.2.2.1
  have hl : lv_has ls 4 [(0, .ref a), (1, .int p0), (2, .ref ao)] := hl
  refine lv_aload_n hx hb dL_members_0 rfl (lv_at hl 2 rfl) ?_
  refine lv_iconst (v := nI 0) hx hb dL_members_1 (by decide) ?_
  refine lv_aload_n hx hb dL_members_2 rfl (lv_at hl 0 rfl) ?_
  refine lv_iload_n hx hb dL_members_3 rfl (lv_at hl 1 rfl) ?_
  refine kV_i (ci := 5) (as := [.int p0]) (rest := [.int (nI 0), .ref ao]) (Bd.less B) hl.1 hM rfl (x_cb hrm 1 hts m_17_14 m_1_2 m_17_11 (by decide +kernel) ⟨hfr, hlo⟩) m_17_12 m_17_13 rfl rfl hP hD hS hA (List.range 22) 0 (by rw [List.getElem?_append_left (by omega)]; exact h0) (rg_C wc _ 22 hlen) hfst (by decide) (Nat.le_of_ble_eq_true rfl) ⟨Nat.le_of_ble_eq_true rfl, Nat.le_of_ble_eq_true rfl⟩ dL_members_4 (fun H locs hP hD hS => ?_)
  rw [rg_put hlen (len_f hfst hlen)] at hP hD
  refine lv_i2l (v := rv.toInt64) hx hb dL_members_7 rfl ?_
  refine va_last hx hb hK hP hD hS 22 2 (at_tl (len_f hfst hlen)) rfl vin0 dL_members_8 (fun H locs hP hD hS => ?_)
  rw [set_tl (len_f hfst hlen)] at hP hD
  refine lv_goto (tgt := 15) hx hb dL_members_9 (by decide) ?_
  refine lv_iconst (v := nI 0) hx hb dL_members_15 (by decide) ?_
  exact eH0 B hP hS rfl rfl dL_members_16
set_option maxHeartbeats 4000000 in
theorem h_members_x1 (l : Launch) (D : va_G) (cI cZ cJ : ClassId) (a ao : Nat) (fo : Nat → Int64) (fs : List Value) (p0 : Int32) (wc : va_W) (rm : Room) (hlen : wc.length = 22) (h0 : wc[0]? = some (a, .inr (5, fs))) (hrm : rm.cells = 1 ∧ rm.slots = 6) (hfr : rm.frames + 1 ≤ HR.frames) (hlo : 8 + (2 + 11) + rm.locals ≤ HR.locals) (hM : MXi l yX5_members cX5_members 2 .int rm D (TY cI cZ) [.ref a, .int p0] wc "java/lang/IndexOutOfBoundsException") : MH l yL_members cL_members 4 [(0, 9, 12, 13)] HR D (TYH cI cZ cJ) [.ref a, .int p0, .ref ao] (wc ++ [oE cJ ao fo]) (wc ++ [oE cJ ao fo]) (nI 1) := by
  refine MH.mk (by decide +kernel) (Nat.le_of_ble_eq_true rfl) ?_
  intro p e s m below meth c A ls B htab hX hNc hA hP hD hS hl
  have hx := B.1
  have hb := B.2.1
  have hts := B.2.2.2.2.2.1
  have hK := B.2.2.2.2.2.2.2.2.1
  have hl : lv_has ls 4 [(0, .ref a), (1, .int p0), (2, .ref ao)] := hl
  refine lv_aload_n hx hb dL_members_0 rfl (lv_at hl 2 rfl) ?_
  refine lv_iconst (v := nI 0) hx hb dL_members_1 (by decide) ?_
  refine lv_aload_n hx hb dL_members_2 rfl (lv_at hl 0 rfl) ?_
  refine lv_iload_n hx hb dL_members_3 rfl (lv_at hl 1 rfl) ?_
  refine kXi (ci := 5) (as := [.int p0]) (rest := [.int (nI 0), .ref ao]) (Bd.less B) hl.1 hM rfl (x_cbx hrm 1 hts m_17_14 m_1_2 m_17_11 (by decide +kernel) ⟨hfr, hlo⟩) m_17_12 m_17_13 rfl rfl hX hP hD hS hA (List.range 22) 0 (by rw [List.getElem?_append_left (by omega)]; exact h0) (rg_C wc _ 22 hlen) (by decide) (Nat.le_of_ble_eq_true rfl) ⟨Nat.le_of_ble_eq_true rfl, Nat.le_of_ble_eq_true rfl⟩ dL_members_4 [] ⟨0, 9, 12, 13⟩ [] htab (fun z hz => nomatch hz) (by decide) (show ¬ 13 = 0 by decide) m_6_22 (hX.2.2.2 (_, _) (List.mem_of_getElem? (i := 1) rfl)) (fun H locs q9 hP hD hS => ?_)
  refine lv_astore_n (lv' := [(3, .ref q9), (0, .ref a), (1, .int p0), (2, .ref ao)]) hx hb dL_members_12 rfl hl (by decide) rfl (fun ls hl => ?_)
  refine lv_iconst (v := nI 1) hx hb dL_members_13 (by decide) ?_
  exact eH1 B hP hS rfl rfl dL_members_14
set_option maxHeartbeats 4000000 in
theorem h_switched (l : Launch) (D : va_G) (cI cZ cJ : ClassId) (a ao : Nat) (fo : Nat → Int64) (fs : List Value) (p0 p1 : Int32) (wc wc1 : va_W) (rv : Int32) (rm : Room) (hlen : wc.length = 22) (h0 : wc[0]? = some (a, .inr (5, fs))) (hfst : wc1.map Prod.fst = wc.map Prod.fst) (hrm : rm.cells = 0 ∧ rm.slots = 0) (hfr : rm.frames + 1 ≤ HR.frames) (hlo : 8 + (3 + 11) + rm.locals ≤ HR.locals) (hM : MI l yX5_switched cX5_switched 3 .int rm D (TY cI cZ) [.ref a, .int p0, .int p1] wc wc1 rv) : MH l yL_switched cL_switched 5 [(0, 10, 13, 13)] HR D (TYH cI cZ cJ) [.ref a, .int p0, .int p1, .ref ao] (wc ++ [oE cJ ao fo]) (wc1 ++ [oE cJ ao (vp_updL fo (nI 0).toNatClampNeg rv.toInt64)]) (nI 0) := by
  refine MH.mk (by decide +kernel) (Nat.le_of_ble_eq_true rfl) ?_
  intro p e s m below meth c A ls B htab hX hNc hA hP hD hS hl
  have hx := B.1
  have hb := B.2.1
  have hts := B.2.2.2.2.2.1
  have hK := B.2.2.2.2.2.2.2.2.1
  have hl : lv_has ls 5 [(0, .ref a), (1, .int p0), (2, .int p1), (3, .ref ao)] := hl
  refine lv_aload_n hx hb dL_switched_0 rfl (lv_at hl 3 rfl) ?_
  refine lv_iconst (v := nI 0) hx hb dL_switched_1 (by decide) ?_
  refine lv_aload_n hx hb dL_switched_2 rfl (lv_at hl 0 rfl) ?_
  refine lv_iload_n hx hb dL_switched_3 rfl (lv_at hl 1 rfl) ?_
  refine lv_iload_n hx hb dL_switched_4 rfl (lv_at hl 2 rfl) ?_
  refine kV_i (ci := 5) (as := [.int p0, .int p1]) (rest := [.int (nI 0), .ref ao]) (Bd.less B) hl.1 hM rfl (x_cb hrm 2 hts m_18_1 m_1_2 m_17_22 (by decide +kernel) ⟨hfr, hlo⟩) m_17_23 m_18_0 rfl rfl hP hD hS hA (List.range 22) 0 (by rw [List.getElem?_append_left (by omega)]; exact h0) (rg_C wc _ 22 hlen) hfst (by decide) (Nat.le_of_ble_eq_true rfl) ⟨Nat.le_of_ble_eq_true rfl, Nat.le_of_ble_eq_true rfl⟩ dL_switched_5 (fun H locs hP hD hS => ?_)
  rw [rg_put hlen (len_f hfst hlen)] at hP hD
  refine lv_i2l (v := rv.toInt64) hx hb dL_switched_8 rfl ?_
  refine va_last hx hb hK hP hD hS 22 2 (at_tl (len_f hfst hlen)) rfl vin0 dL_switched_9 (fun H locs hP hD hS => ?_)
  rw [set_tl (len_f hfst hlen)] at hP hD
  refine lv_goto (tgt := 17) hx hb dL_switched_10 (by decide) ?_
  refine lv_iconst (v := nI 0) hx hb dL_switched_17 (by decide) ?_
  exact eH0 B hP hS rfl rfl dL_switched_18
set_option maxHeartbeats 4000000 in
theorem h_switched_x1 (l : Launch) (D : va_G) (cI cZ cJ : ClassId) (a ao : Nat) (fo : Nat → Int64) (fs : List Value) (p0 p1 : Int32) (wc : va_W) (rm : Room) (hlen : wc.length = 22) (h0 : wc[0]? = some (a, .inr (5, fs))) (hrm : rm.cells = 1 ∧ rm.slots = 6) (hfr : rm.frames + 1 ≤ HR.frames) (hlo : 8 + (3 + 11) + rm.locals ≤ HR.locals) (hM : MXi l yX5_switched cX5_switched 3 .int rm D (TY cI cZ) [.ref a, .int p0, .int p1] wc "java/lang/IndexOutOfBoundsException") : MH l yL_switched cL_switched 5 [(0, 10, 13, 13)] HR D (TYH cI cZ cJ) [.ref a, .int p0, .int p1, .ref ao] (wc ++ [oE cJ ao fo]) (wc ++ [oE cJ ao fo]) (nI 1) := by
  refine MH.mk (by decide +kernel) (Nat.le_of_ble_eq_true rfl) ?_
  intro p e s m below meth c A ls B htab hX hNc hA hP hD hS hl
  have hx := B.1
  have hb := B.2.1
  have hts := B.2.2.2.2.2.1
  have hK := B.2.2.2.2.2.2.2.2.1
  have hl : lv_has ls 5 [(0, .ref a), (1, .int p0), (2, .int p1), (3, .ref ao)] := hl
  refine lv_aload_n hx hb dL_switched_0 rfl (lv_at hl 3 rfl) ?_
  refine lv_iconst (v := nI 0) hx hb dL_switched_1 (by decide) ?_
  refine lv_aload_n hx hb dL_switched_2 rfl (lv_at hl 0 rfl) ?_
  refine lv_iload_n hx hb dL_switched_3 rfl (lv_at hl 1 rfl) ?_
  refine lv_iload_n hx hb dL_switched_4 rfl (lv_at hl 2 rfl) ?_
  refine kXi (ci := 5) (as := [.int p0, .int p1]) (rest := [.int (nI 0), .ref ao]) (Bd.less B) hl.1 hM rfl (x_cbx hrm 2 hts m_18_1 m_1_2 m_17_22 (by decide +kernel) ⟨hfr, hlo⟩) m_17_23 m_18_0 rfl rfl hX hP hD hS hA (List.range 22) 0 (by rw [List.getElem?_append_left (by omega)]; exact h0) (rg_C wc _ 22 hlen) (by decide) (Nat.le_of_ble_eq_true rfl) ⟨Nat.le_of_ble_eq_true rfl, Nat.le_of_ble_eq_true rfl⟩ dL_switched_5 [] ⟨0, 10, 13, 13⟩ [] htab (fun z hz => nomatch hz) (by decide) (show ¬ 13 = 0 by decide) m_6_22 (hX.2.2.2 (_, _) (List.mem_of_getElem? (i := 1) rfl)) (fun H locs q9 hP hD hS => ?_)
  refine lv_astore (lv' := [(4, .ref q9), (0, .ref a), (1, .int p0), (2, .int p1), (3, .ref ao)]) hx hb dL_switched_13 hl (by decide) rfl (fun ls hl => ?_)
  refine lv_iconst (v := nI 1) hx hb dL_switched_15 (by decide) ?_
  exact eH1 B hP hS rfl rfl dL_switched_16
set_option maxHeartbeats 4000000 in
theorem h_branches (l : Launch) (D : va_G) (cI cZ cJ : ClassId) (a ao : Nat) (fo : Nat → Int64) (fs : List Value) (p0 p1 : Int32) (wc wc1 : va_W) (rv : Int32) (rm : Room) (hlen : wc.length = 22) (h0 : wc[0]? = some (a, .inr (5, fs))) (hfst : wc1.map Prod.fst = wc.map Prod.fst) (hrm : rm.cells = 0 ∧ rm.slots = 0) (hfr : rm.frames + 1 ≤ HR.frames) (hlo : 8 + (3 + 11) + rm.locals ≤ HR.locals) (hM : MI l yX5_branches cX5_branches 3 .int rm D (TY cI cZ) [.ref a, .int p0, .int p1] wc wc1 rv) : MH l yL_branches cL_branches 5 [(0, 10, 13, 13)] HR D (TYH cI cZ cJ) [.ref a, .int p0, .int p1, .ref ao] (wc ++ [oE cJ ao fo]) (wc1 ++ [oE cJ ao (vp_updL fo (nI 0).toNatClampNeg rv.toInt64)]) (nI 0) := by
  refine MH.mk (by decide +kernel) (Nat.le_of_ble_eq_true rfl) ?_
  intro p e s m below meth c A ls B htab hX hNc hA hP hD hS hl
  have hx := B.1
  have hb := B.2.1
  have hts := B.2.2.2.2.2.1
  have hK := B.2.2.2.2.2.2.2.2.1
  have hl : lv_has ls 5 [(0, .ref a), (1, .int p0), (2, .int p1), (3, .ref ao)] := hl
  refine lv_aload_n hx hb dL_branches_0 rfl (lv_at hl 3 rfl) ?_
  refine lv_iconst (v := nI 0) hx hb dL_branches_1 (by decide) ?_
  refine lv_aload_n hx hb dL_branches_2 rfl (lv_at hl 0 rfl) ?_
  refine lv_iload_n hx hb dL_branches_3 rfl (lv_at hl 1 rfl) ?_
  refine lv_iload_n hx hb dL_branches_4 rfl (lv_at hl 2 rfl) ?_
  refine kV_i (ci := 5) (as := [.int p0, .int p1]) (rest := [.int (nI 0), .ref ao]) (Bd.less B) hl.1 hM rfl (x_cb hrm 2 hts m_18_12 m_1_2 m_18_9 (by decide +kernel) ⟨hfr, hlo⟩) m_18_10 m_18_11 rfl rfl hP hD hS hA (List.range 22) 0 (by rw [List.getElem?_append_left (by omega)]; exact h0) (rg_C wc _ 22 hlen) hfst (by decide) (Nat.le_of_ble_eq_true rfl) ⟨Nat.le_of_ble_eq_true rfl, Nat.le_of_ble_eq_true rfl⟩ dL_branches_5 (fun H locs hP hD hS => ?_)
  rw [rg_put hlen (len_f hfst hlen)] at hP hD
  refine lv_i2l (v := rv.toInt64) hx hb dL_branches_8 rfl ?_
  refine va_last hx hb hK hP hD hS 22 2 (at_tl (len_f hfst hlen)) rfl vin0 dL_branches_9 (fun H locs hP hD hS => ?_)
  rw [set_tl (len_f hfst hlen)] at hP hD
  refine lv_goto (tgt := 17) hx hb dL_branches_10 (by decide) ?_
  refine lv_iconst (v := nI 0) hx hb dL_branches_17 (by decide) ?_
  exact eH0 B hP hS rfl rfl dL_branches_18
set_option maxHeartbeats 4000000 in
theorem h_branches_x1 (l : Launch) (D : va_G) (cI cZ cJ : ClassId) (a ao : Nat) (fo : Nat → Int64) (fs : List Value) (p0 p1 : Int32) (wc : va_W) (rm : Room) (hlen : wc.length = 22) (h0 : wc[0]? = some (a, .inr (5, fs))) (hrm : rm.cells = 1 ∧ rm.slots = 6) (hfr : rm.frames + 1 ≤ HR.frames) (hlo : 8 + (3 + 11) + rm.locals ≤ HR.locals) (hM : MXi l yX5_branches cX5_branches 3 .int rm D (TY cI cZ) [.ref a, .int p0, .int p1] wc "java/lang/IndexOutOfBoundsException") : MH l yL_branches cL_branches 5 [(0, 10, 13, 13)] HR D (TYH cI cZ cJ) [.ref a, .int p0, .int p1, .ref ao] (wc ++ [oE cJ ao fo]) (wc ++ [oE cJ ao fo]) (nI 1) := by
  refine MH.mk (by decide +kernel) (Nat.le_of_ble_eq_true rfl) ?_
  intro p e s m below meth c A ls B htab hX hNc hA hP hD hS hl
  have hx := B.1
  have hb := B.2.1
  have hts := B.2.2.2.2.2.1
  have hK := B.2.2.2.2.2.2.2.2.1
  have hl : lv_has ls 5 [(0, .ref a), (1, .int p0), (2, .int p1), (3, .ref ao)] := hl
  refine lv_aload_n hx hb dL_branches_0 rfl (lv_at hl 3 rfl) ?_
  refine lv_iconst (v := nI 0) hx hb dL_branches_1 (by decide) ?_
  refine lv_aload_n hx hb dL_branches_2 rfl (lv_at hl 0 rfl) ?_
  refine lv_iload_n hx hb dL_branches_3 rfl (lv_at hl 1 rfl) ?_
  refine lv_iload_n hx hb dL_branches_4 rfl (lv_at hl 2 rfl) ?_
  refine kXi (ci := 5) (as := [.int p0, .int p1]) (rest := [.int (nI 0), .ref ao]) (Bd.less B) hl.1 hM rfl (x_cbx hrm 2 hts m_18_12 m_1_2 m_18_9 (by decide +kernel) ⟨hfr, hlo⟩) m_18_10 m_18_11 rfl rfl hX hP hD hS hA (List.range 22) 0 (by rw [List.getElem?_append_left (by omega)]; exact h0) (rg_C wc _ 22 hlen) (by decide) (Nat.le_of_ble_eq_true rfl) ⟨Nat.le_of_ble_eq_true rfl, Nat.le_of_ble_eq_true rfl⟩ dL_branches_5 [] ⟨0, 10, 13, 13⟩ [] htab (fun z hz => nomatch hz) (by decide) (show ¬ 13 = 0 by decide) m_6_22 (hX.2.2.2 (_, _) (List.mem_of_getElem? (i := 1) rfl)) (fun H locs q9 hP hD hS => ?_)
  refine lv_astore (lv' := [(4, .ref q9), (0, .ref a), (1, .int p0), (2, .int p1), (3, .ref ao)]) hx hb dL_branches_13 hl (by decide) rfl (fun ls hl => ?_)
  refine lv_iconst (v := nI 1) hx hb dL_branches_15 (by decide) ?_
  exact eH1 B hP hS rfl rfl dL_branches_16
set_option maxHeartbeats 4000000 in
theorem h_sourceBranches (l : Launch) (D : va_G) (cI cZ cJ : ClassId) (a ao : Nat) (fo : Nat → Int64) (fs : List Value) (p0 p1 p2 : Int32) (wc wc1 : va_W) (rv : Int32) (rm : Room) (hlen : wc.length = 22) (h0 : wc[0]? = some (a, .inr (5, fs))) (hfst : wc1.map Prod.fst = wc.map Prod.fst) (hrm : rm.cells = 0 ∧ rm.slots = 0) (hfr : rm.frames + 1 ≤ HR.frames) (hlo : 8 + (4 + 11) + rm.locals ≤ HR.locals) (hM : MI l yX5_sourceBranches cX5_sourceBranches 4 .int rm D (TY cI cZ) [.ref a, .int p0, .int p1, .int p2] wc wc1 rv) : MH l yL_sourceBranches cL_sourceBranches 6 [(0, 12, 15, 13)] HR D (TYH cI cZ cJ) [.ref a, .int p0, .int p1, .int p2, .ref ao] (wc ++ [oE cJ ao fo]) (wc1 ++ [oE cJ ao (vp_updL fo (nI 0).toNatClampNeg rv.toInt64)]) (nI 0) := by
  refine MH.mk (by decide +kernel) (Nat.le_of_ble_eq_true rfl) ?_
  intro p e s m below meth c A ls B htab hX hNc hA hP hD hS hl
  have hx := B.1
  have hb := B.2.1
  have hts := B.2.2.2.2.2.1
  have hK := B.2.2.2.2.2.2.2.2.1
  have hl : lv_has ls 6 [(0, .ref a), (1, .int p0), (2, .int p1), (3, .int p2), (4, .ref ao)] := hl
  refine lv_aload hx hb dL_sourceBranches_0 (lv_at hl 4 rfl) ?_
  refine lv_iconst (v := nI 0) hx hb dL_sourceBranches_2 (by decide) ?_
  refine lv_aload_n hx hb dL_sourceBranches_3 rfl (lv_at hl 0 rfl) ?_
  refine lv_iload_n hx hb dL_sourceBranches_4 rfl (lv_at hl 1 rfl) ?_
  refine lv_iload_n hx hb dL_sourceBranches_5 rfl (lv_at hl 2 rfl) ?_
  refine lv_iload_n hx hb dL_sourceBranches_6 rfl (lv_at hl 3 rfl) ?_
  refine kV_i (ci := 5) (as := [.int p0, .int p1, .int p2]) (rest := [.int (nI 0), .ref ao]) (Bd.less B) hl.1 hM rfl (x_cb hrm 3 hts m_19_0 m_1_2 m_18_21 (by decide +kernel) ⟨hfr, hlo⟩) m_18_22 m_18_23 rfl rfl hP hD hS hA (List.range 22) 0 (by rw [List.getElem?_append_left (by omega)]; exact h0) (rg_C wc _ 22 hlen) hfst (by decide) (Nat.le_of_ble_eq_true rfl) ⟨Nat.le_of_ble_eq_true rfl, Nat.le_of_ble_eq_true rfl⟩ dL_sourceBranches_7 (fun H locs hP hD hS => ?_)
  rw [rg_put hlen (len_f hfst hlen)] at hP hD
  refine lv_i2l (v := rv.toInt64) hx hb dL_sourceBranches_10 rfl ?_
  refine va_last hx hb hK hP hD hS 22 2 (at_tl (len_f hfst hlen)) rfl vin0 dL_sourceBranches_11 (fun H locs hP hD hS => ?_)
  rw [set_tl (len_f hfst hlen)] at hP hD
  refine lv_goto (tgt := 19) hx hb dL_sourceBranches_12 (by decide) ?_
  refine lv_iconst (v := nI 0) hx hb dL_sourceBranches_19 (by decide) ?_
  exact eH0 B hP hS rfl rfl dL_sourceBranches_20
set_option maxHeartbeats 4000000 in
theorem h_sourceBranches_x1 (l : Launch) (D : va_G) (cI cZ cJ : ClassId) (a ao : Nat) (fo : Nat → Int64) (fs : List Value) (p0 p1 p2 : Int32) (wc : va_W) (rm : Room) (hlen : wc.length = 22) (h0 : wc[0]? = some (a, .inr (5, fs))) (hrm : rm.cells = 1 ∧ rm.slots = 6) (hfr : rm.frames + 1 ≤ HR.frames) (hlo : 8 + (4 + 11) + rm.locals ≤ HR.locals) (hM : MXi l yX5_sourceBranches cX5_sourceBranches 4 .int rm D (TY cI cZ) [.ref a, .int p0, .int p1, .int p2] wc "java/lang/IndexOutOfBoundsException") : MH l yL_sourceBranches cL_sourceBranches 6 [(0, 12, 15, 13)] HR D (TYH cI cZ cJ) [.ref a, .int p0, .int p1, .int p2, .ref ao] (wc ++ [oE cJ ao fo]) (wc ++ [oE cJ ao fo]) (nI 1) := by
  refine MH.mk (by decide +kernel) (Nat.le_of_ble_eq_true rfl) ?_
  intro p e s m below meth c A ls B htab hX hNc hA hP hD hS hl
  have hx := B.1
  have hb := B.2.1
  have hts := B.2.2.2.2.2.1
  have hK := B.2.2.2.2.2.2.2.2.1
  have hl : lv_has ls 6 [(0, .ref a), (1, .int p0), (2, .int p1), (3, .int p2), (4, .ref ao)] := hl
  refine lv_aload hx hb dL_sourceBranches_0 (lv_at hl 4 rfl) ?_
  refine lv_iconst (v := nI 0) hx hb dL_sourceBranches_2 (by decide) ?_
  refine lv_aload_n hx hb dL_sourceBranches_3 rfl (lv_at hl 0 rfl) ?_
  refine lv_iload_n hx hb dL_sourceBranches_4 rfl (lv_at hl 1 rfl) ?_
  refine lv_iload_n hx hb dL_sourceBranches_5 rfl (lv_at hl 2 rfl) ?_
  refine lv_iload_n hx hb dL_sourceBranches_6 rfl (lv_at hl 3 rfl) ?_
  refine kXi (ci := 5) (as := [.int p0, .int p1, .int p2]) (rest := [.int (nI 0), .ref ao]) (Bd.less B) hl.1 hM rfl (x_cbx hrm 3 hts m_19_0 m_1_2 m_18_21 (by decide +kernel) ⟨hfr, hlo⟩) m_18_22 m_18_23 rfl rfl hX hP hD hS hA (List.range 22) 0 (by rw [List.getElem?_append_left (by omega)]; exact h0) (rg_C wc _ 22 hlen) (by decide) (Nat.le_of_ble_eq_true rfl) ⟨Nat.le_of_ble_eq_true rfl, Nat.le_of_ble_eq_true rfl⟩ dL_sourceBranches_7 [] ⟨0, 12, 15, 13⟩ [] htab (fun z hz => nomatch hz) (by decide) (show ¬ 13 = 0 by decide) m_6_22 (hX.2.2.2 (_, _) (List.mem_of_getElem? (i := 1) rfl)) (fun H locs q9 hP hD hS => ?_)
  refine lv_astore (lv' := [(5, .ref q9), (0, .ref a), (1, .int p0), (2, .int p1), (3, .int p2), (4, .ref ao)]) hx hb dL_sourceBranches_15 hl (by decide) rfl (fun ls hl => ?_)
  refine lv_iconst (v := nI 1) hx hb dL_sourceBranches_17 (by decide) ?_
  exact eH1 B hP hS rfl rfl dL_sourceBranches_18
set_option maxHeartbeats 4000000 in
theorem h_send (l : Launch) (D : va_G) (cI cZ cJ : ClassId) (a ao : Nat) (fo : Nat → Int64) (fs : List Value) (p0 p1 : Int32) (wc wc1 : va_W) (rv : Int32) (rm : Room) (hlen : wc.length = 22) (h0 : wc[0]? = some (a, .inr (5, fs))) (hfst : wc1.map Prod.fst = wc.map Prod.fst) (hrm : rm.cells = 0 ∧ rm.slots = 0) (hfr : rm.frames + 1 ≤ HR.frames) (hlo : 8 + (5 + 11) + rm.locals ≤ HR.locals) (hM : MI l yX5_send cX5_send 5 .int rm D (TY cI cZ) [.ref a, .int p0, .int p1] wc wc1 rv) : MH l yL_send cL_send 5 [(0, 10, 13, 13), (0, 10, 17, 38)] HR D (TYH cI cZ cJ) [.ref a, .int p0, .int p1, .ref ao] (wc ++ [oE cJ ao fo]) (wc1 ++ [oE cJ ao (vp_updL fo (nI 0).toNatClampNeg rv.toInt64)]) (nI 0) := by
  refine MH.mk (by decide +kernel) (Nat.le_of_ble_eq_true rfl) ?_
  intro p e s m below meth c A ls B htab hX hNc hA hP hD hS hl
  have hx := B.1
  have hb := B.2.1
  have hts := B.2.2.2.2.2.1
  have hK := B.2.2.2.2.2.2.2.2.1
  have hl : lv_has ls 5 [(0, .ref a), (1, .int p0), (2, .int p1), (3, .ref ao)] := hl
  refine lv_aload_n hx hb dL_send_0 rfl (lv_at hl 3 rfl) ?_
  refine lv_iconst (v := nI 0) hx hb dL_send_1 (by decide) ?_
  refine lv_aload_n hx hb dL_send_2 rfl (lv_at hl 0 rfl) ?_
  refine lv_iload_n hx hb dL_send_3 rfl (lv_at hl 1 rfl) ?_
  refine lv_iload_n hx hb dL_send_4 rfl (lv_at hl 2 rfl) ?_
  refine kV_i (ci := 5) (as := [.int p0, .int p1]) (rest := [.int (nI 0), .ref ao]) (Bd.less B) hl.1 hM rfl (x_cb hrm 2 hts m_19_23 m_1_2 m_19_20 (by decide +kernel) ⟨hfr, hlo⟩) m_19_21 m_19_22 rfl rfl hP hD hS hA (List.range 22) 0 (by rw [List.getElem?_append_left (by omega)]; exact h0) (rg_C wc _ 22 hlen) hfst (by decide) (Nat.le_of_ble_eq_true rfl) ⟨Nat.le_of_ble_eq_true rfl, Nat.le_of_ble_eq_true rfl⟩ dL_send_5 (fun H locs hP hD hS => ?_)
  rw [rg_put hlen (len_f hfst hlen)] at hP hD
  refine lv_i2l (v := rv.toInt64) hx hb dL_send_8 rfl ?_
  refine va_last hx hb hK hP hD hS 22 2 (at_tl (len_f hfst hlen)) rfl vin0 dL_send_9 (fun H locs hP hD hS => ?_)
  rw [set_tl (len_f hfst hlen)] at hP hD
  refine lv_goto (tgt := 21) hx hb dL_send_10 (by decide) ?_
  refine lv_iconst (v := nI 0) hx hb dL_send_21 (by decide) ?_
  exact eH0 B hP hS rfl rfl dL_send_22
set_option maxHeartbeats 4000000 in
theorem h_send_x1 (l : Launch) (D : va_G) (cI cZ cJ : ClassId) (a ao : Nat) (fo : Nat → Int64) (fs : List Value) (p0 p1 : Int32) (wc : va_W) (rm : Room) (hlen : wc.length = 22) (h0 : wc[0]? = some (a, .inr (5, fs))) (hrm : rm.cells = 1 ∧ rm.slots = 6) (hfr : rm.frames + 1 ≤ HR.frames) (hlo : 8 + (5 + 11) + rm.locals ≤ HR.locals) (hM : MXi l yX5_send cX5_send 5 .int rm D (TY cI cZ) [.ref a, .int p0, .int p1] wc "java/lang/IndexOutOfBoundsException") : MH l yL_send cL_send 5 [(0, 10, 13, 13), (0, 10, 17, 38)] HR D (TYH cI cZ cJ) [.ref a, .int p0, .int p1, .ref ao] (wc ++ [oE cJ ao fo]) (wc ++ [oE cJ ao fo]) (nI 1) := by
  refine MH.mk (by decide +kernel) (Nat.le_of_ble_eq_true rfl) ?_
  intro p e s m below meth c A ls B htab hX hNc hA hP hD hS hl
  have hx := B.1
  have hb := B.2.1
  have hts := B.2.2.2.2.2.1
  have hK := B.2.2.2.2.2.2.2.2.1
  have hl : lv_has ls 5 [(0, .ref a), (1, .int p0), (2, .int p1), (3, .ref ao)] := hl
  refine lv_aload_n hx hb dL_send_0 rfl (lv_at hl 3 rfl) ?_
  refine lv_iconst (v := nI 0) hx hb dL_send_1 (by decide) ?_
  refine lv_aload_n hx hb dL_send_2 rfl (lv_at hl 0 rfl) ?_
  refine lv_iload_n hx hb dL_send_3 rfl (lv_at hl 1 rfl) ?_
  refine lv_iload_n hx hb dL_send_4 rfl (lv_at hl 2 rfl) ?_
  refine kXi (ci := 5) (as := [.int p0, .int p1]) (rest := [.int (nI 0), .ref ao]) (Bd.less B) hl.1 hM rfl (x_cbx hrm 2 hts m_19_23 m_1_2 m_19_20 (by decide +kernel) ⟨hfr, hlo⟩) m_19_21 m_19_22 rfl rfl hX hP hD hS hA (List.range 22) 0 (by rw [List.getElem?_append_left (by omega)]; exact h0) (rg_C wc _ 22 hlen) (by decide) (Nat.le_of_ble_eq_true rfl) ⟨Nat.le_of_ble_eq_true rfl, Nat.le_of_ble_eq_true rfl⟩ dL_send_5 [] ⟨0, 10, 13, 13⟩ [⟨0, 10, 17, 38⟩] htab (fun z hz => nomatch hz) (by decide) (show ¬ 13 = 0 by decide) m_6_22 (hX.2.2.2 (_, _) (List.mem_of_getElem? (i := 1) rfl)) (fun H locs q9 hP hD hS => ?_)
  refine lv_astore (lv' := [(4, .ref q9), (0, .ref a), (1, .int p0), (2, .int p1), (3, .ref ao)]) hx hb dL_send_13 hl (by decide) rfl (fun ls hl => ?_)
  refine lv_iconst (v := nI 1) hx hb dL_send_15 (by decide) ?_
  exact eH1 B hP hS rfl rfl dL_send_16
set_option maxHeartbeats 4000000 in
theorem h_send_x2 (l : Launch) (D : va_G) (cI cZ cJ : ClassId) (a ao : Nat) (fo : Nat → Int64) (fs : List Value) (p0 p1 : Int32) (wc : va_W) (rm : Room) (hlen : wc.length = 22) (h0 : wc[0]? = some (a, .inr (5, fs))) (hrm : rm.cells = 1 ∧ rm.slots = 6) (hfr : rm.frames + 1 ≤ HR.frames) (hlo : 8 + (5 + 11) + rm.locals ≤ HR.locals) (hM : MXi l yX5_send cX5_send 5 .int rm D (TY cI cZ) [.ref a, .int p0, .int p1] wc "java/lang/IllegalStateException") : MH l yL_send cL_send 5 [(0, 10, 13, 13), (0, 10, 17, 38)] HR D (TYH cI cZ cJ) [.ref a, .int p0, .int p1, .ref ao] (wc ++ [oE cJ ao fo]) (wc ++ [oE cJ ao fo]) (nI 2) := by
  refine MH.mk (by decide +kernel) (Nat.le_of_ble_eq_true rfl) ?_
  intro p e s m below meth c A ls B htab hX hNc hA hP hD hS hl
  have hx := B.1
  have hb := B.2.1
  have hts := B.2.2.2.2.2.1
  have hK := B.2.2.2.2.2.2.2.2.1
  have hl : lv_has ls 5 [(0, .ref a), (1, .int p0), (2, .int p1), (3, .ref ao)] := hl
  refine lv_aload_n hx hb dL_send_0 rfl (lv_at hl 3 rfl) ?_
  refine lv_iconst (v := nI 0) hx hb dL_send_1 (by decide) ?_
  refine lv_aload_n hx hb dL_send_2 rfl (lv_at hl 0 rfl) ?_
  refine lv_iload_n hx hb dL_send_3 rfl (lv_at hl 1 rfl) ?_
  refine lv_iload_n hx hb dL_send_4 rfl (lv_at hl 2 rfl) ?_
  refine kXi (ci := 5) (as := [.int p0, .int p1]) (rest := [.int (nI 0), .ref ao]) (Bd.less B) hl.1 hM rfl (x_cbx hrm 2 hts m_19_23 m_1_2 m_19_20 (by decide +kernel) ⟨hfr, hlo⟩) m_19_21 m_19_22 rfl rfl hX hP hD hS hA (List.range 22) 0 (by rw [List.getElem?_append_left (by omega)]; exact h0) (rg_C wc _ 22 hlen) (by decide) (Nat.le_of_ble_eq_true rfl) ⟨Nat.le_of_ble_eq_true rfl, Nat.le_of_ble_eq_true rfl⟩ dL_send_5 [⟨0, 10, 13, 13⟩] ⟨0, 10, 17, 38⟩ [] htab (fun z hz => by rw [List.mem_singleton.mp hz]; exact Or.inr ⟨(show ¬ 13 = 0 by decide), "java/lang/IndexOutOfBoundsException", hts _ m_6_22, hNc (_, _) (List.mem_of_getElem? (i := 1) rfl)⟩) (by decide) (show ¬ 38 = 0 by decide) m_13_14 (hX.2.2.2 (_, _) (List.mem_of_getElem? (i := 2) rfl)) (fun H locs q9 hP hD hS => ?_)
  refine lv_astore (lv' := [(4, .ref q9), (0, .ref a), (1, .int p0), (2, .int p1), (3, .ref ao)]) hx hb dL_send_17 hl (by decide) rfl (fun ls hl => ?_)
  refine lv_iconst (v := nI 2) hx hb dL_send_19 (by decide) ?_
  exact eH1 B hP hS rfl rfl dL_send_20
set_option maxHeartbeats 4000000 in
theorem h_received (l : Launch) (D : va_G) (cI cZ cJ : ClassId) (a ao : Nat) (fo : Nat → Int64) (fs : List Value) (p0 : Int32) (wc wc1 : va_W) (rv : Int32) (rm : Room) (hlen : wc.length = 22) (h0 : wc[0]? = some (a, .inr (5, fs))) (hfst : wc1.map Prod.fst = wc.map Prod.fst) (hrm : rm.cells = 0 ∧ rm.slots = 0) (hfr : rm.frames + 1 ≤ HR.frames) (hlo : 8 + (2 + 11) + rm.locals ≤ HR.locals) (hM : MI l yX5_received cX5_received 2 .int rm D (TY cI cZ) [.ref a, .int p0] wc wc1 rv) : MH l yL_received cL_received 4 [(0, 9, 12, 13)] HR D (TYH cI cZ cJ) [.ref a, .int p0, .ref ao] (wc ++ [oE cJ ao fo]) (wc1 ++ [oE cJ ao (vp_updL fo (nI 0).toNatClampNeg rv.toInt64)]) (nI 0) := by
  refine MH.mk (by decide +kernel) (Nat.le_of_ble_eq_true rfl) ?_
  intro p e s m below meth c A ls B htab hX hNc hA hP hD hS hl
  have hx := B.1
  have hb := B.2.1
  have hts := B.2.2.2.2.2.1
  have hK := B.2.2.2.2.2.2.2.2.1
  have hl : lv_has ls 4 [(0, .ref a), (1, .int p0), (2, .ref ao)] := hl
  refine lv_aload_n hx hb dL_received_0 rfl (lv_at hl 2 rfl) ?_
  refine lv_iconst (v := nI 0) hx hb dL_received_1 (by decide) ?_
  refine lv_aload_n hx hb dL_received_2 rfl (lv_at hl 0 rfl) ?_
  refine lv_iload_n hx hb dL_received_3 rfl (lv_at hl 1 rfl) ?_
  refine kV_i (ci := 5) (as := [.int p0]) (rest := [.int (nI 0), .ref ao]) (Bd.less B) hl.1 hM rfl (x_cb hrm 1 hts m_26_11 m_1_2 m_26_8 (by decide +kernel) ⟨hfr, hlo⟩) m_26_9 m_26_10 rfl rfl hP hD hS hA (List.range 22) 0 (by rw [List.getElem?_append_left (by omega)]; exact h0) (rg_C wc _ 22 hlen) hfst (by decide) (Nat.le_of_ble_eq_true rfl) ⟨Nat.le_of_ble_eq_true rfl, Nat.le_of_ble_eq_true rfl⟩ dL_received_4 (fun H locs hP hD hS => ?_)
  rw [rg_put hlen (len_f hfst hlen)] at hP hD
  refine lv_i2l (v := rv.toInt64) hx hb dL_received_7 rfl ?_
  refine va_last hx hb hK hP hD hS 22 2 (at_tl (len_f hfst hlen)) rfl vin0 dL_received_8 (fun H locs hP hD hS => ?_)
  rw [set_tl (len_f hfst hlen)] at hP hD
  refine lv_goto (tgt := 15) hx hb dL_received_9 (by decide) ?_
  refine lv_iconst (v := nI 0) hx hb dL_received_15 (by decide) ?_
  exact eH0 B hP hS rfl rfl dL_received_16
set_option maxHeartbeats 4000000 in
theorem h_received_x1 (l : Launch) (D : va_G) (cI cZ cJ : ClassId) (a ao : Nat) (fo : Nat → Int64) (fs : List Value) (p0 : Int32) (wc : va_W) (rm : Room) (hlen : wc.length = 22) (h0 : wc[0]? = some (a, .inr (5, fs))) (hrm : rm.cells = 1 ∧ rm.slots = 6) (hfr : rm.frames + 1 ≤ HR.frames) (hlo : 8 + (2 + 11) + rm.locals ≤ HR.locals) (hM : MXi l yX5_received cX5_received 2 .int rm D (TY cI cZ) [.ref a, .int p0] wc "java/lang/IndexOutOfBoundsException") : MH l yL_received cL_received 4 [(0, 9, 12, 13)] HR D (TYH cI cZ cJ) [.ref a, .int p0, .ref ao] (wc ++ [oE cJ ao fo]) (wc ++ [oE cJ ao fo]) (nI 1) := by
  refine MH.mk (by decide +kernel) (Nat.le_of_ble_eq_true rfl) ?_
  intro p e s m below meth c A ls B htab hX hNc hA hP hD hS hl
  have hx := B.1
  have hb := B.2.1
  have hts := B.2.2.2.2.2.1
  have hK := B.2.2.2.2.2.2.2.2.1
  have hl : lv_has ls 4 [(0, .ref a), (1, .int p0), (2, .ref ao)] := hl
  refine lv_aload_n hx hb dL_received_0 rfl (lv_at hl 2 rfl) ?_
  refine lv_iconst (v := nI 0) hx hb dL_received_1 (by decide) ?_
  refine lv_aload_n hx hb dL_received_2 rfl (lv_at hl 0 rfl) ?_
  refine lv_iload_n hx hb dL_received_3 rfl (lv_at hl 1 rfl) ?_
  refine kXi (ci := 5) (as := [.int p0]) (rest := [.int (nI 0), .ref ao]) (Bd.less B) hl.1 hM rfl (x_cbx hrm 1 hts m_26_11 m_1_2 m_26_8 (by decide +kernel) ⟨hfr, hlo⟩) m_26_9 m_26_10 rfl rfl hX hP hD hS hA (List.range 22) 0 (by rw [List.getElem?_append_left (by omega)]; exact h0) (rg_C wc _ 22 hlen) (by decide) (Nat.le_of_ble_eq_true rfl) ⟨Nat.le_of_ble_eq_true rfl, Nat.le_of_ble_eq_true rfl⟩ dL_received_4 [] ⟨0, 9, 12, 13⟩ [] htab (fun z hz => nomatch hz) (by decide) (show ¬ 13 = 0 by decide) m_6_22 (hX.2.2.2 (_, _) (List.mem_of_getElem? (i := 1) rfl)) (fun H locs q9 hP hD hS => ?_)
  refine lv_astore_n (lv' := [(3, .ref q9), (0, .ref a), (1, .int p0), (2, .ref ao)]) hx hb dL_received_12 rfl hl (by decide) rfl (fun ls hl => ?_)
  refine lv_iconst (v := nI 1) hx hb dL_received_13 (by decide) ?_
  exact eH1 B hP hS rfl rfl dL_received_14
set_option maxHeartbeats 4000000 in
theorem h_doubles (l : Launch) (D : va_G) (cI cZ cJ : ClassId) (a ao : Nat) (fo : Nat → Int64) (fs : List Value) (p0 : Int32) (wc wc1 : va_W) (rv : Int32) (rm : Room) (hlen : wc.length = 22) (h0 : wc[0]? = some (a, .inr (5, fs))) (hfst : wc1.map Prod.fst = wc.map Prod.fst) (hrm : rm.cells = 0 ∧ rm.slots = 0) (hfr : rm.frames + 1 ≤ HR.frames) (hlo : 8 + (2 + 11) + rm.locals ≤ HR.locals) (hM : MI l yX5_doubles cX5_doubles 2 .int rm D (TY cI cZ) [.ref a, .int p0] wc wc1 rv) : MH l yL_doubles cL_doubles 4 [(0, 9, 12, 13)] HR D (TYH cI cZ cJ) [.ref a, .int p0, .ref ao] (wc ++ [oE cJ ao fo]) (wc1 ++ [oE cJ ao (vp_updL fo (nI 0).toNatClampNeg rv.toInt64)]) (nI 0) := by
  refine MH.mk (by decide +kernel) (Nat.le_of_ble_eq_true rfl) ?_
  intro p e s m below meth c A ls B htab hX hNc hA hP hD hS hl
  have hx := B.1
  have hb := B.2.1
  have hts := B.2.2.2.2.2.1
  have hK := B.2.2.2.2.2.2.2.2.1
  have hl : lv_has ls 4 [(0, .ref a), (1, .int p0), (2, .ref ao)] := hl
  refine lv_aload_n hx hb dL_doubles_0 rfl (lv_at hl 2 rfl) ?_
  refine lv_iconst (v := nI 0) hx hb dL_doubles_1 (by decide) ?_
  refine lv_aload_n hx hb dL_doubles_2 rfl (lv_at hl 0 rfl) ?_
  refine lv_iload_n hx hb dL_doubles_3 rfl (lv_at hl 1 rfl) ?_
  refine kV_i (ci := 5) (as := [.int p0]) (rest := [.int (nI 0), .ref ao]) (Bd.less B) hl.1 hM rfl (x_cb hrm 1 hts m_27_7 m_1_2 m_27_4 (by decide +kernel) ⟨hfr, hlo⟩) m_27_5 m_27_6 rfl rfl hP hD hS hA (List.range 22) 0 (by rw [List.getElem?_append_left (by omega)]; exact h0) (rg_C wc _ 22 hlen) hfst (by decide) (Nat.le_of_ble_eq_true rfl) ⟨Nat.le_of_ble_eq_true rfl, Nat.le_of_ble_eq_true rfl⟩ dL_doubles_4 (fun H locs hP hD hS => ?_)
  rw [rg_put hlen (len_f hfst hlen)] at hP hD
  refine lv_i2l (v := rv.toInt64) hx hb dL_doubles_7 rfl ?_
  refine va_last hx hb hK hP hD hS 22 2 (at_tl (len_f hfst hlen)) rfl vin0 dL_doubles_8 (fun H locs hP hD hS => ?_)
  rw [set_tl (len_f hfst hlen)] at hP hD
  refine lv_goto (tgt := 15) hx hb dL_doubles_9 (by decide) ?_
  refine lv_iconst (v := nI 0) hx hb dL_doubles_15 (by decide) ?_
  exact eH0 B hP hS rfl rfl dL_doubles_16
set_option maxHeartbeats 4000000 in
theorem h_doubles_x1 (l : Launch) (D : va_G) (cI cZ cJ : ClassId) (a ao : Nat) (fo : Nat → Int64) (fs : List Value) (p0 : Int32) (wc : va_W) (rm : Room) (hlen : wc.length = 22) (h0 : wc[0]? = some (a, .inr (5, fs))) (hrm : rm.cells = 1 ∧ rm.slots = 6) (hfr : rm.frames + 1 ≤ HR.frames) (hlo : 8 + (2 + 11) + rm.locals ≤ HR.locals) (hM : MXi l yX5_doubles cX5_doubles 2 .int rm D (TY cI cZ) [.ref a, .int p0] wc "java/lang/IndexOutOfBoundsException") : MH l yL_doubles cL_doubles 4 [(0, 9, 12, 13)] HR D (TYH cI cZ cJ) [.ref a, .int p0, .ref ao] (wc ++ [oE cJ ao fo]) (wc ++ [oE cJ ao fo]) (nI 1) := by
  refine MH.mk (by decide +kernel) (Nat.le_of_ble_eq_true rfl) ?_
  intro p e s m below meth c A ls B htab hX hNc hA hP hD hS hl
  have hx := B.1
  have hb := B.2.1
  have hts := B.2.2.2.2.2.1
  have hK := B.2.2.2.2.2.2.2.2.1
  have hl : lv_has ls 4 [(0, .ref a), (1, .int p0), (2, .ref ao)] := hl
  refine lv_aload_n hx hb dL_doubles_0 rfl (lv_at hl 2 rfl) ?_
  refine lv_iconst (v := nI 0) hx hb dL_doubles_1 (by decide) ?_
  refine lv_aload_n hx hb dL_doubles_2 rfl (lv_at hl 0 rfl) ?_
  refine lv_iload_n hx hb dL_doubles_3 rfl (lv_at hl 1 rfl) ?_
  refine kXi (ci := 5) (as := [.int p0]) (rest := [.int (nI 0), .ref ao]) (Bd.less B) hl.1 hM rfl (x_cbx hrm 1 hts m_27_7 m_1_2 m_27_4 (by decide +kernel) ⟨hfr, hlo⟩) m_27_5 m_27_6 rfl rfl hX hP hD hS hA (List.range 22) 0 (by rw [List.getElem?_append_left (by omega)]; exact h0) (rg_C wc _ 22 hlen) (by decide) (Nat.le_of_ble_eq_true rfl) ⟨Nat.le_of_ble_eq_true rfl, Nat.le_of_ble_eq_true rfl⟩ dL_doubles_4 [] ⟨0, 9, 12, 13⟩ [] htab (fun z hz => nomatch hz) (by decide) (show ¬ 13 = 0 by decide) m_6_22 (hX.2.2.2 (_, _) (List.mem_of_getElem? (i := 1) rfl)) (fun H locs q9 hP hD hS => ?_)
  refine lv_astore_n (lv' := [(3, .ref q9), (0, .ref a), (1, .int p0), (2, .ref ao)]) hx hb dL_doubles_12 rfl hl (by decide) rfl (fun ls hl => ?_)
  refine lv_iconst (v := nI 1) hx hb dL_doubles_13 (by decide) ?_
  exact eH1 B hP hS rfl rfl dL_doubles_14
set_option maxHeartbeats 4000000 in
theorem h_pass (l : Launch) (D : va_G) (cI cZ cJ : ClassId) (a ao : Nat) (fo : Nat → Int64) (fs : List Value) (p0 : Int32) (wc wc1 : va_W) (rv : Int32) (rm : Room) (hlen : wc.length = 22) (h0 : wc[0]? = some (a, .inr (5, fs))) (hfst : wc1.map Prod.fst = wc.map Prod.fst) (hrm : rm.cells = 0 ∧ rm.slots = 0) (hfr : rm.frames + 1 ≤ HR.frames) (hlo : 8 + (4 + 11) + rm.locals ≤ HR.locals) (hM : MI l yX5_pass cX5_pass 4 .int rm D (TY cI cZ) [.ref a, .int p0] wc wc1 rv) : MH l yL_pass cL_pass 4 [(0, 9, 12, 15)] HR D (TYH cI cZ cJ) [.ref a, .int p0, .ref ao] (wc ++ [oE cJ ao fo]) (wc1 ++ [oE cJ ao (vp_updL fo (nI 0).toNatClampNeg rv.toInt64)]) (nI 0) := by
  refine MH.mk (by decide +kernel) (Nat.le_of_ble_eq_true rfl) ?_
  intro p e s m below meth c A ls B htab hX hNc hA hP hD hS hl
  have hx := B.1
  have hb := B.2.1
  have hts := B.2.2.2.2.2.1
  have hK := B.2.2.2.2.2.2.2.2.1
  have hl : lv_has ls 4 [(0, .ref a), (1, .int p0), (2, .ref ao)] := hl
  refine lv_aload_n hx hb dL_pass_0 rfl (lv_at hl 2 rfl) ?_
  refine lv_iconst (v := nI 0) hx hb dL_pass_1 (by decide) ?_
  refine lv_aload_n hx hb dL_pass_2 rfl (lv_at hl 0 rfl) ?_
  refine lv_iload_n hx hb dL_pass_3 rfl (lv_at hl 1 rfl) ?_
  refine kV_i (ci := 5) (as := [.int p0]) (rest := [.int (nI 0), .ref ao]) (Bd.less B) hl.1 hM rfl (x_cb hrm 1 hts m_28_6 m_1_2 m_28_3 (by decide +kernel) ⟨hfr, hlo⟩) m_28_4 m_28_5 rfl rfl hP hD hS hA (List.range 22) 0 (by rw [List.getElem?_append_left (by omega)]; exact h0) (rg_C wc _ 22 hlen) hfst (by decide) (Nat.le_of_ble_eq_true rfl) ⟨Nat.le_of_ble_eq_true rfl, Nat.le_of_ble_eq_true rfl⟩ dL_pass_4 (fun H locs hP hD hS => ?_)
  rw [rg_put hlen (len_f hfst hlen)] at hP hD
  refine lv_i2l (v := rv.toInt64) hx hb dL_pass_7 rfl ?_
  refine va_last hx hb hK hP hD hS 22 2 (at_tl (len_f hfst hlen)) rfl vin0 dL_pass_8 (fun H locs hP hD hS => ?_)
  rw [set_tl (len_f hfst hlen)] at hP hD
  refine lv_goto (tgt := 15) hx hb dL_pass_9 (by decide) ?_
  refine lv_iconst (v := nI 0) hx hb dL_pass_15 (by decide) ?_
  exact eH0 B hP hS rfl rfl dL_pass_16
set_option maxHeartbeats 4000000 in
theorem h_pass_x1 (l : Launch) (D : va_G) (cI cZ cJ : ClassId) (a ao : Nat) (fo : Nat → Int64) (fs : List Value) (p0 : Int32) (wc : va_W) (rm : Room) (hlen : wc.length = 22) (h0 : wc[0]? = some (a, .inr (5, fs))) (hrm : rm.cells = 1 ∧ rm.slots = 6) (hfr : rm.frames + 1 ≤ HR.frames) (hlo : 8 + (4 + 11) + rm.locals ≤ HR.locals) (hM : MXi l yX5_pass cX5_pass 4 .int rm D (TY cI cZ) [.ref a, .int p0] wc "java/lang/IllegalArgumentException") : MH l yL_pass cL_pass 4 [(0, 9, 12, 15)] HR D (TYH cI cZ cJ) [.ref a, .int p0, .ref ao] (wc ++ [oE cJ ao fo]) (wc ++ [oE cJ ao fo]) (nI 1) := by
  refine MH.mk (by decide +kernel) (Nat.le_of_ble_eq_true rfl) ?_
  intro p e s m below meth c A ls B htab hX hNc hA hP hD hS hl
  have hx := B.1
  have hb := B.2.1
  have hts := B.2.2.2.2.2.1
  have hK := B.2.2.2.2.2.2.2.2.1
  have hl : lv_has ls 4 [(0, .ref a), (1, .int p0), (2, .ref ao)] := hl
  refine lv_aload_n hx hb dL_pass_0 rfl (lv_at hl 2 rfl) ?_
  refine lv_iconst (v := nI 0) hx hb dL_pass_1 (by decide) ?_
  refine lv_aload_n hx hb dL_pass_2 rfl (lv_at hl 0 rfl) ?_
  refine lv_iload_n hx hb dL_pass_3 rfl (lv_at hl 1 rfl) ?_
  refine kXi (ci := 5) (as := [.int p0]) (rest := [.int (nI 0), .ref ao]) (Bd.less B) hl.1 hM rfl (x_cbx hrm 1 hts m_28_6 m_1_2 m_28_3 (by decide +kernel) ⟨hfr, hlo⟩) m_28_4 m_28_5 rfl rfl hX hP hD hS hA (List.range 22) 0 (by rw [List.getElem?_append_left (by omega)]; exact h0) (rg_C wc _ 22 hlen) (by decide) (Nat.le_of_ble_eq_true rfl) ⟨Nat.le_of_ble_eq_true rfl, Nat.le_of_ble_eq_true rfl⟩ dL_pass_4 [] ⟨0, 9, 12, 15⟩ [] htab (fun z hz => nomatch hz) (by decide) (show ¬ 15 = 0 by decide) m_6_23 (hX.2.2.2 (_, _) (List.mem_of_getElem? (i := 0) rfl)) (fun H locs q9 hP hD hS => ?_)
  refine lv_astore_n (lv' := [(3, .ref q9), (0, .ref a), (1, .int p0), (2, .ref ao)]) hx hb dL_pass_12 rfl hl (by decide) rfl (fun ls hl => ?_)
  refine lv_iconst (v := nI 1) hx hb dL_pass_13 (by decide) ?_
  exact eH1 B hP hS rfl rfl dL_pass_14
set_option maxHeartbeats 4000000 in
theorem h_floodMembers (l : Launch) (D : va_G) (cI cZ cJ : ClassId) (a ao : Nat) (fo : Nat → Int64) (fs : List Value) (p0 p1 : Int32) (wc wc1 : va_W) (rv : Int32) (rm : Room) (hlen : wc.length = 22) (h0 : wc[0]? = some (a, .inr (5, fs))) (hfst : wc1.map Prod.fst = wc.map Prod.fst) (hrm : rm.cells = 0 ∧ rm.slots = 0) (hfr : rm.frames + 1 ≤ HR.frames) (hlo : 8 + (3 + 11) + rm.locals ≤ HR.locals) (hM : MI l yX5_floodMembers cX5_floodMembers 3 .int rm D (TY cI cZ) [.ref a, .int p0, .int p1] wc wc1 rv) : MH l yL_floodMembers cL_floodMembers 5 [(0, 10, 13, 13)] HR D (TYH cI cZ cJ) [.ref a, .int p0, .int p1, .ref ao] (wc ++ [oE cJ ao fo]) (wc1 ++ [oE cJ ao (vp_updL fo (nI 0).toNatClampNeg rv.toInt64)]) (nI 0) := by
  refine MH.mk (by decide +kernel) (Nat.le_of_ble_eq_true rfl) ?_
  intro p e s m below meth c A ls B htab hX hNc hA hP hD hS hl
  have hx := B.1
  have hb := B.2.1
  have hts := B.2.2.2.2.2.1
  have hK := B.2.2.2.2.2.2.2.2.1
  have hl : lv_has ls 5 [(0, .ref a), (1, .int p0), (2, .int p1), (3, .ref ao)] := hl
  refine lv_aload_n hx hb dL_floodMembers_0 rfl (lv_at hl 3 rfl) ?_
  refine lv_iconst (v := nI 0) hx hb dL_floodMembers_1 (by decide) ?_
  refine lv_aload_n hx hb dL_floodMembers_2 rfl (lv_at hl 0 rfl) ?_
  refine lv_iload_n hx hb dL_floodMembers_3 rfl (lv_at hl 1 rfl) ?_
  refine lv_iload_n hx hb dL_floodMembers_4 rfl (lv_at hl 2 rfl) ?_
  refine kV_i (ci := 5) (as := [.int p0, .int p1]) (rest := [.int (nI 0), .ref ao]) (Bd.less B) hl.1 hM rfl (x_cb hrm 2 hts m_29_18 m_1_2 m_29_15 (by decide +kernel) ⟨hfr, hlo⟩) m_29_16 m_29_17 rfl rfl hP hD hS hA (List.range 22) 0 (by rw [List.getElem?_append_left (by omega)]; exact h0) (rg_C wc _ 22 hlen) hfst (by decide) (Nat.le_of_ble_eq_true rfl) ⟨Nat.le_of_ble_eq_true rfl, Nat.le_of_ble_eq_true rfl⟩ dL_floodMembers_5 (fun H locs hP hD hS => ?_)
  rw [rg_put hlen (len_f hfst hlen)] at hP hD
  refine lv_i2l (v := rv.toInt64) hx hb dL_floodMembers_8 rfl ?_
  refine va_last hx hb hK hP hD hS 22 2 (at_tl (len_f hfst hlen)) rfl vin0 dL_floodMembers_9 (fun H locs hP hD hS => ?_)
  rw [set_tl (len_f hfst hlen)] at hP hD
  refine lv_goto (tgt := 17) hx hb dL_floodMembers_10 (by decide) ?_
  refine lv_iconst (v := nI 0) hx hb dL_floodMembers_17 (by decide) ?_
  exact eH0 B hP hS rfl rfl dL_floodMembers_18
set_option maxHeartbeats 4000000 in
theorem h_floodMembers_x1 (l : Launch) (D : va_G) (cI cZ cJ : ClassId) (a ao : Nat) (fo : Nat → Int64) (fs : List Value) (p0 p1 : Int32) (wc : va_W) (rm : Room) (hlen : wc.length = 22) (h0 : wc[0]? = some (a, .inr (5, fs))) (hrm : rm.cells = 1 ∧ rm.slots = 6) (hfr : rm.frames + 1 ≤ HR.frames) (hlo : 8 + (3 + 11) + rm.locals ≤ HR.locals) (hM : MXi l yX5_floodMembers cX5_floodMembers 3 .int rm D (TY cI cZ) [.ref a, .int p0, .int p1] wc "java/lang/IndexOutOfBoundsException") : MH l yL_floodMembers cL_floodMembers 5 [(0, 10, 13, 13)] HR D (TYH cI cZ cJ) [.ref a, .int p0, .int p1, .ref ao] (wc ++ [oE cJ ao fo]) (wc ++ [oE cJ ao fo]) (nI 1) := by
  refine MH.mk (by decide +kernel) (Nat.le_of_ble_eq_true rfl) ?_
  intro p e s m below meth c A ls B htab hX hNc hA hP hD hS hl
  have hx := B.1
  have hb := B.2.1
  have hts := B.2.2.2.2.2.1
  have hK := B.2.2.2.2.2.2.2.2.1
  have hl : lv_has ls 5 [(0, .ref a), (1, .int p0), (2, .int p1), (3, .ref ao)] := hl
  refine lv_aload_n hx hb dL_floodMembers_0 rfl (lv_at hl 3 rfl) ?_
  refine lv_iconst (v := nI 0) hx hb dL_floodMembers_1 (by decide) ?_
  refine lv_aload_n hx hb dL_floodMembers_2 rfl (lv_at hl 0 rfl) ?_
  refine lv_iload_n hx hb dL_floodMembers_3 rfl (lv_at hl 1 rfl) ?_
  refine lv_iload_n hx hb dL_floodMembers_4 rfl (lv_at hl 2 rfl) ?_
  refine kXi (ci := 5) (as := [.int p0, .int p1]) (rest := [.int (nI 0), .ref ao]) (Bd.less B) hl.1 hM rfl (x_cbx hrm 2 hts m_29_18 m_1_2 m_29_15 (by decide +kernel) ⟨hfr, hlo⟩) m_29_16 m_29_17 rfl rfl hX hP hD hS hA (List.range 22) 0 (by rw [List.getElem?_append_left (by omega)]; exact h0) (rg_C wc _ 22 hlen) (by decide) (Nat.le_of_ble_eq_true rfl) ⟨Nat.le_of_ble_eq_true rfl, Nat.le_of_ble_eq_true rfl⟩ dL_floodMembers_5 [] ⟨0, 10, 13, 13⟩ [] htab (fun z hz => nomatch hz) (by decide) (show ¬ 13 = 0 by decide) m_6_22 (hX.2.2.2 (_, _) (List.mem_of_getElem? (i := 1) rfl)) (fun H locs q9 hP hD hS => ?_)
  refine lv_astore (lv' := [(4, .ref q9), (0, .ref a), (1, .int p0), (2, .int p1), (3, .ref ao)]) hx hb dL_floodMembers_13 hl (by decide) rfl (fun ls hl => ?_)
  refine lv_iconst (v := nI 1) hx hb dL_floodMembers_15 (by decide) ?_
  exact eH1 B hP hS rfl rfl dL_floodMembers_16
set_option maxHeartbeats 4000000 in
theorem h_floodCopies (l : Launch) (D : va_G) (cI cZ cJ : ClassId) (a ao : Nat) (fo : Nat → Int64) (fs : List Value) (p0 : Int32) (wc wc1 : va_W) (rv : Int32) (rm : Room) (hlen : wc.length = 22) (h0 : wc[0]? = some (a, .inr (5, fs))) (hfst : wc1.map Prod.fst = wc.map Prod.fst) (hrm : rm.cells = 0 ∧ rm.slots = 0) (hfr : rm.frames + 1 ≤ HR.frames) (hlo : 8 + (5 + 11) + rm.locals ≤ HR.locals) (hM : MI l yX5_floodCopies cX5_floodCopies 5 .int rm D (TY cI cZ) [.ref a, .int p0] wc wc1 rv) : MH l yL_floodCopies cL_floodCopies 4 [(0, 9, 12, 13)] HR D (TYH cI cZ cJ) [.ref a, .int p0, .ref ao] (wc ++ [oE cJ ao fo]) (wc1 ++ [oE cJ ao (vp_updL fo (nI 0).toNatClampNeg rv.toInt64)]) (nI 0) := by
  refine MH.mk (by decide +kernel) (Nat.le_of_ble_eq_true rfl) ?_
  intro p e s m below meth c A ls B htab hX hNc hA hP hD hS hl
  have hx := B.1
  have hb := B.2.1
  have hts := B.2.2.2.2.2.1
  have hK := B.2.2.2.2.2.2.2.2.1
  have hl : lv_has ls 4 [(0, .ref a), (1, .int p0), (2, .ref ao)] := hl
  refine lv_aload_n hx hb dL_floodCopies_0 rfl (lv_at hl 2 rfl) ?_
  refine lv_iconst (v := nI 0) hx hb dL_floodCopies_1 (by decide) ?_
  refine lv_aload_n hx hb dL_floodCopies_2 rfl (lv_at hl 0 rfl) ?_
  refine lv_iload_n hx hb dL_floodCopies_3 rfl (lv_at hl 1 rfl) ?_
  refine kV_i (ci := 5) (as := [.int p0]) (rest := [.int (nI 0), .ref ao]) (Bd.less B) hl.1 hM rfl (x_cb hrm 1 hts m_30_9 m_1_2 m_30_6 (by decide +kernel) ⟨hfr, hlo⟩) m_30_7 m_30_8 rfl rfl hP hD hS hA (List.range 22) 0 (by rw [List.getElem?_append_left (by omega)]; exact h0) (rg_C wc _ 22 hlen) hfst (by decide) (Nat.le_of_ble_eq_true rfl) ⟨Nat.le_of_ble_eq_true rfl, Nat.le_of_ble_eq_true rfl⟩ dL_floodCopies_4 (fun H locs hP hD hS => ?_)
  rw [rg_put hlen (len_f hfst hlen)] at hP hD
  refine lv_i2l (v := rv.toInt64) hx hb dL_floodCopies_7 rfl ?_
  refine va_last hx hb hK hP hD hS 22 2 (at_tl (len_f hfst hlen)) rfl vin0 dL_floodCopies_8 (fun H locs hP hD hS => ?_)
  rw [set_tl (len_f hfst hlen)] at hP hD
  refine lv_goto (tgt := 15) hx hb dL_floodCopies_9 (by decide) ?_
  refine lv_iconst (v := nI 0) hx hb dL_floodCopies_15 (by decide) ?_
  exact eH0 B hP hS rfl rfl dL_floodCopies_16
set_option maxHeartbeats 4000000 in
theorem h_floodCopies_x1 (l : Launch) (D : va_G) (cI cZ cJ : ClassId) (a ao : Nat) (fo : Nat → Int64) (fs : List Value) (p0 : Int32) (wc : va_W) (rm : Room) (hlen : wc.length = 22) (h0 : wc[0]? = some (a, .inr (5, fs))) (hrm : rm.cells = 1 ∧ rm.slots = 6) (hfr : rm.frames + 1 ≤ HR.frames) (hlo : 8 + (5 + 11) + rm.locals ≤ HR.locals) (hM : MXi l yX5_floodCopies cX5_floodCopies 5 .int rm D (TY cI cZ) [.ref a, .int p0] wc "java/lang/IndexOutOfBoundsException") : MH l yL_floodCopies cL_floodCopies 4 [(0, 9, 12, 13)] HR D (TYH cI cZ cJ) [.ref a, .int p0, .ref ao] (wc ++ [oE cJ ao fo]) (wc ++ [oE cJ ao fo]) (nI 1) := by
  refine MH.mk (by decide +kernel) (Nat.le_of_ble_eq_true rfl) ?_
  intro p e s m below meth c A ls B htab hX hNc hA hP hD hS hl
  have hx := B.1
  have hb := B.2.1
  have hts := B.2.2.2.2.2.1
  have hK := B.2.2.2.2.2.2.2.2.1
  have hl : lv_has ls 4 [(0, .ref a), (1, .int p0), (2, .ref ao)] := hl
  refine lv_aload_n hx hb dL_floodCopies_0 rfl (lv_at hl 2 rfl) ?_
  refine lv_iconst (v := nI 0) hx hb dL_floodCopies_1 (by decide) ?_
  refine lv_aload_n hx hb dL_floodCopies_2 rfl (lv_at hl 0 rfl) ?_
  refine lv_iload_n hx hb dL_floodCopies_3 rfl (lv_at hl 1 rfl) ?_
  refine kXi (ci := 5) (as := [.int p0]) (rest := [.int (nI 0), .ref ao]) (Bd.less B) hl.1 hM rfl (x_cbx hrm 1 hts m_30_9 m_1_2 m_30_6 (by decide +kernel) ⟨hfr, hlo⟩) m_30_7 m_30_8 rfl rfl hX hP hD hS hA (List.range 22) 0 (by rw [List.getElem?_append_left (by omega)]; exact h0) (rg_C wc _ 22 hlen) (by decide) (Nat.le_of_ble_eq_true rfl) ⟨Nat.le_of_ble_eq_true rfl, Nat.le_of_ble_eq_true rfl⟩ dL_floodCopies_4 [] ⟨0, 9, 12, 13⟩ [] htab (fun z hz => nomatch hz) (by decide) (show ¬ 13 = 0 by decide) m_6_22 (hX.2.2.2 (_, _) (List.mem_of_getElem? (i := 1) rfl)) (fun H locs q9 hP hD hS => ?_)
  refine lv_astore_n (lv' := [(3, .ref q9), (0, .ref a), (1, .int p0), (2, .ref ao)]) hx hb dL_floodCopies_12 rfl hl (by decide) rfl (fun ls hl => ?_)
  refine lv_iconst (v := nI 1) hx hb dL_floodCopies_13 (by decide) ?_
  exact eH1 B hP hS rfl rfl dL_floodCopies_14
