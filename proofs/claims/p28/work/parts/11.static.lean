set_option maxHeartbeats 4000000 in
set_option maxRecDepth 100000 in
theorem c_X5_isRouter (l : Launch) (D : va_G) (cI cZ : ClassId) (ws : va_W) (r : Nat) (hr : r < 10) : MI l yX5_isRouter cX5_isRouter 1 .boolean { frames := 0, cells := 0, slots := 0, locals := 0 } D (TY cI cZ) [.int (nI r)] (ws) (ws) (nI 1) := by
  refine MI.mk ⟨rfl, rfl⟩ (by decide +kernel) (Nat.le_of_ble_eq_true rfl) ?_
  intro p e s m below meth c A ls B hA hP hD hS hl
  have hx := B.1
  have hb := B.2.1
  have hts := B.2.2.2.2.2.1
  have hN := B.2.2.2.2.2.2.2.1
  have hK := B.2.2.2.2.2.2.2.2.1
  have hl : lv_has ls 1 [(0, .int (nI r))] := hl
  refine lv_iload_n hx hb dX5_isRouter_0 rfl (lv_at hl 0 rfl) ?_
  refine r_if_lt (tgt := 14) hx hb (by omega) dX5_isRouter_1 (by decide) ?_
  refine lv_iload_n hx hb dX5_isRouter_4 rfl (lv_at hl 0 rfl) ?_
  refine lv_bipush (v := nI 10) hx hb dX5_isRouter_5 (by decide) ?_
  refine r_icmp_ge (tgt := 14) hx hb (by omega) (by omega) dX5_isRouter_7 (by decide) (fun c => absurd c (by omega)) (fun _ => ?_)
  refine lv_iconst (v := nI 1) hx hb dX5_isRouter_10 (by decide) ?_
  refine lv_goto (tgt := 15) hx hb dX5_isRouter_11 (by decide) ?_
  exact eZ B hP hS (by decide) rfl rfl dX5_isRouter_15
def f_X5_isRouter_r (r : Int32) : Bool :=
  if r < 0 then false else if (nI 10) ≤ r then false else true
set_option maxHeartbeats 4000000 in
set_option maxRecDepth 100000 in
theorem c_X5_isRouter_r (l : Launch) (D : va_G) (cI cZ : ClassId) (ws : va_W) (r : Int32) : MI l yX5_isRouter cX5_isRouter 1 .boolean { frames := 0, cells := 0, slots := 0, locals := 0 } D (TY cI cZ) [.int r] (ws) (ws) (bI (f_X5_isRouter_r r)) := by
  refine MI.mk ⟨rfl, rfl⟩ (by decide +kernel) (Nat.le_of_ble_eq_true rfl) ?_
  intro p e s m below meth c A ls B hA hP hD hS hl
  have hx := B.1
  have hb := B.2.1
  have hts := B.2.2.2.2.2.1
  have hN := B.2.2.2.2.2.2.2.1
  have hK := B.2.2.2.2.2.2.2.2.1
  have hl : lv_has ls 1 [(0, .int r)] := hl
  have hf := f_X5_isRouter_r.eq_1 r
  refine lv_iload_n hx hb dX5_isRouter_0 rfl (lv_at hl 0 rfl) ?_
  refine lv_if_lt (tgt := 14) hx hb dX5_isRouter_1 (by decide) (fun c1 => ?_) (fun c1 => ?_)
  · have hf := hf.trans (if_pos c1)
    refine lv_iconst (v := nI 0) hx hb dX5_isRouter_14 (by decide) ?_
    exact eZ B hP hS (by decide) ((congrArg (fun (u : Bool) => bI u) hf).symm) rfl dX5_isRouter_15
  · have hf := hf.trans (if_neg c1)
    refine lv_iload_n hx hb dX5_isRouter_4 rfl (lv_at hl 0 rfl) ?_
    refine lv_bipush (v := nI 10) hx hb dX5_isRouter_5 (by decide) ?_
    refine lv_icmp_ge (tgt := 14) hx hb dX5_isRouter_7 (by decide) (fun c2 => ?_) (fun c2 => ?_)
    · have hf := hf.trans (if_pos c2)
      refine lv_iconst (v := nI 0) hx hb dX5_isRouter_14 (by decide) ?_
      exact eZ B hP hS (by decide) ((congrArg (fun (u : Bool) => bI u) hf).symm) rfl dX5_isRouter_15
    · have hf := hf.trans (if_neg c2)
      refine lv_iconst (v := nI 1) hx hb dX5_isRouter_10 (by decide) ?_
      refine lv_goto (tgt := 15) hx hb dX5_isRouter_11 (by decide) ?_
      exact eZ B hP hS (by decide) ((congrArg (fun (u : Bool) => bI u) hf).symm) rfl dX5_isRouter_15
set_option maxHeartbeats 4000000 in
set_option maxRecDepth 100000 in
theorem c_X5_isGroup (l : Launch) (D : va_G) (cI cZ : ClassId) (ws : va_W) (g : Nat) (hg : g < 4) : MI l yX5_isGroup cX5_isGroup 1 .boolean { frames := 0, cells := 0, slots := 0, locals := 0 } D (TY cI cZ) [.int (nI g)] (ws) (ws) (nI 1) := by
  refine MI.mk ⟨rfl, rfl⟩ (by decide +kernel) (Nat.le_of_ble_eq_true rfl) ?_
  intro p e s m below meth c A ls B hA hP hD hS hl
  have hx := B.1
  have hb := B.2.1
  have hts := B.2.2.2.2.2.1
  have hN := B.2.2.2.2.2.2.2.1
  have hK := B.2.2.2.2.2.2.2.2.1
  have hl : lv_has ls 1 [(0, .int (nI g))] := hl
  refine lv_iload_n hx hb dX5_isGroup_0 rfl (lv_at hl 0 rfl) ?_
  refine r_if_lt (tgt := 13) hx hb (by omega) dX5_isGroup_1 (by decide) ?_
  refine lv_iload_n hx hb dX5_isGroup_4 rfl (lv_at hl 0 rfl) ?_
  refine lv_iconst (v := nI 4) hx hb dX5_isGroup_5 (by decide) ?_
  refine r_icmp_ge (tgt := 13) hx hb (by omega) (by omega) dX5_isGroup_6 (by decide) (fun c => absurd c (by omega)) (fun _ => ?_)
  refine lv_iconst (v := nI 1) hx hb dX5_isGroup_9 (by decide) ?_
  refine lv_goto (tgt := 14) hx hb dX5_isGroup_10 (by decide) ?_
  exact eZ B hP hS (by decide) rfl rfl dX5_isGroup_14
set_option maxHeartbeats 4000000 in
set_option maxRecDepth 100000 in
theorem c_X5_isTree (l : Launch) (D : va_G) (cI cZ : ClassId) (ws : va_W) (t : Nat) (ht : t < 44) : MI l yX5_isTree cX5_isTree 1 .boolean { frames := 0, cells := 0, slots := 0, locals := 0 } D (TY cI cZ) [.int (nI t)] (ws) (ws) (nI 1) := by
  refine MI.mk ⟨rfl, rfl⟩ (by decide +kernel) (Nat.le_of_ble_eq_true rfl) ?_
  intro p e s m below meth c A ls B hA hP hD hS hl
  have hx := B.1
  have hb := B.2.1
  have hts := B.2.2.2.2.2.1
  have hN := B.2.2.2.2.2.2.2.1
  have hK := B.2.2.2.2.2.2.2.2.1
  have hl : lv_has ls 1 [(0, .int (nI t))] := hl
  refine lv_iload_n hx hb dX5_isTree_0 rfl (lv_at hl 0 rfl) ?_
  refine r_if_lt (tgt := 14) hx hb (by omega) dX5_isTree_1 (by decide) ?_
  refine lv_iload_n hx hb dX5_isTree_4 rfl (lv_at hl 0 rfl) ?_
  refine lv_bipush (v := nI 44) hx hb dX5_isTree_5 (by decide) ?_
  refine r_icmp_ge (tgt := 14) hx hb (by omega) (by omega) dX5_isTree_7 (by decide) (fun c => absurd c (by omega)) (fun _ => ?_)
  refine lv_iconst (v := nI 1) hx hb dX5_isTree_10 (by decide) ?_
  refine lv_goto (tgt := 15) hx hb dX5_isTree_11 (by decide) ?_
  exact eZ B hP hS (by decide) rfl rfl dX5_isTree_15
def f_X5_isShared (t : Nat) : Bool :=
  if 4 ≤ t then false else true
set_option maxHeartbeats 4000000 in
set_option maxRecDepth 100000 in
theorem c_X5_isShared (l : Launch) (D : va_G) (cI cZ : ClassId) (ws : va_W) (t : Nat) (ht : t < 44) : MI l yX5_isShared cX5_isShared 1 .boolean { frames := 0, cells := 0, slots := 0, locals := 0 } D (TY cI cZ) [.int (nI t)] (ws) (ws) (bI (f_X5_isShared t)) := by
  refine MI.mk ⟨rfl, rfl⟩ (by decide +kernel) (Nat.le_of_ble_eq_true rfl) ?_
  intro p e s m below meth c A ls B hA hP hD hS hl
  have hx := B.1
  have hb := B.2.1
  have hts := B.2.2.2.2.2.1
  have hN := B.2.2.2.2.2.2.2.1
  have hK := B.2.2.2.2.2.2.2.2.1
  have hl : lv_has ls 1 [(0, .int (nI t))] := hl
  have hf := f_X5_isShared.eq_1 t
  refine lv_iload_n hx hb dX5_isShared_0 rfl (lv_at hl 0 rfl) ?_
  refine r_if_lt (tgt := 13) hx hb (by omega) dX5_isShared_1 (by decide) ?_
  refine lv_iload_n hx hb dX5_isShared_4 rfl (lv_at hl 0 rfl) ?_
  refine lv_iconst (v := nI 4) hx hb dX5_isShared_5 (by decide) ?_
  refine r_icmp_ge (tgt := 13) hx hb (by omega) (by omega) dX5_isShared_6 (by decide) (fun c1 => ?_) (fun c1 => ?_)
  · have hf := hf.trans (if_pos c1)
    refine lv_iconst (v := nI 0) hx hb dX5_isShared_13 (by decide) ?_
    exact eZ B hP hS (by decide) ((congrArg (fun (u : Bool) => bI u) hf).symm) rfl dX5_isShared_14
  · have hf := hf.trans (if_neg c1)
    refine lv_iconst (v := nI 1) hx hb dX5_isShared_9 (by decide) ?_
    refine lv_goto (tgt := 14) hx hb dX5_isShared_10 (by decide) ?_
    exact eZ B hP hS (by decide) ((congrArg (fun (u : Bool) => bI u) hf).symm) rfl dX5_isShared_14
set_option maxHeartbeats 4000000 in
set_option maxRecDepth 100000 in
theorem c_X5_sharedTree (l : Launch) (D : va_G) (cI cZ : ClassId) (ws : va_W) (g : Nat) (hg : g < 4) : MI l yX5_sharedTree cX5_sharedTree 1 .int { frames := 1, cells := 0, slots := 0, locals := 20 } D (TY cI cZ) [.int (nI g)] (ws) (ws) (nI g) := by
  refine MI.mk ⟨rfl, rfl⟩ (by decide +kernel) (Nat.le_of_ble_eq_true rfl) ?_
  intro p e s m below meth c A ls B hA hP hD hS hl
  have hx := B.1
  have hb := B.2.1
  have hts := B.2.2.2.2.2.1
  have hN := B.2.2.2.2.2.2.2.1
  have hK := B.2.2.2.2.2.2.2.2.1
  have hl : lv_has ls 1 [(0, .int (nI g))] := hl
  refine lv_iload_n hx hb dX5_sharedTree_0 rfl (lv_at hl 0 rfl) ?_
  refine fS_i (as := [.int (nI g)]) (rest := []) B hl.1 (c_X5_isGroup l D cI cZ (ws) g (by omega)) (l_RX5_257 hts ⟨rfl, rfl⟩ ⟨Nat.le_of_ble_eq_true rfl, Nat.le_of_ble_eq_true rfl⟩) m_4_17 rfl rfl hP hD hS hA rfl (Nat.le_of_ble_eq_true rfl) dX5_sharedTree_1 (fun H locs hP hD hS => ?_)
  refine r_if_eq (tgt := 11) hx hb (by omega) dX5_sharedTree_4 (by decide) (fun c => absurd c (by omega)) (fun _ => ?_)
  refine lv_iload_n hx hb dX5_sharedTree_7 rfl (lv_at hl 0 rfl) ?_
  refine lv_goto (tgt := 12) hx hb dX5_sharedTree_8 (by decide) ?_
  exact eI B hP hS rfl rfl dX5_sharedTree_12
set_option maxHeartbeats 4000000 in
set_option maxRecDepth 100000 in
theorem c_X5_sourceTree (l : Launch) (D : va_G) (cI cZ : ClassId) (ws : va_W) (s_ : Nat) (g : Nat) (hs_ : s_ < 10) (hg : g < 4) : MI l yX5_sourceTree cX5_sourceTree 2 .int { frames := 1, cells := 0, slots := 0, locals := 20 } D (TY cI cZ) [.int (nI s_), .int (nI g)] (ws) (ws) (nI ((4 + (g * 10)) + s_)) := by
  refine MI.mk ⟨rfl, rfl⟩ (by decide +kernel) (Nat.le_of_ble_eq_true rfl) ?_
  intro p e s m below meth c A ls B hA hP hD hS hl
  have hx := B.1
  have hb := B.2.1
  have hts := B.2.2.2.2.2.1
  have hN := B.2.2.2.2.2.2.2.1
  have hK := B.2.2.2.2.2.2.2.2.1
  have hl : lv_has ls 2 [(0, .int (nI s_)), (1, .int (nI g))] := hl
  refine lv_iload_n hx hb dX5_sourceTree_0 rfl (lv_at hl 0 rfl) ?_
  refine fS_i (as := [.int (nI s_)]) (rest := []) B hl.1 (c_X5_isRouter l D cI cZ (ws) s_ (by omega)) (l_RX5_252 hts ⟨rfl, rfl⟩ ⟨Nat.le_of_ble_eq_true rfl, Nat.le_of_ble_eq_true rfl⟩) m_4_14 rfl rfl hP hD hS hA rfl (Nat.le_of_ble_eq_true rfl) dX5_sourceTree_1 (fun H locs hP hD hS => ?_)
  refine r_if_eq (tgt := 25) hx hb (by omega) dX5_sourceTree_4 (by decide) (fun c => absurd c (by omega)) (fun _ => ?_)
  refine lv_iload_n hx hb dX5_sourceTree_7 rfl (lv_at hl 1 rfl) ?_
  refine fS_i (as := [.int (nI g)]) (rest := []) B hl.1 (c_X5_isGroup l D cI cZ (ws) g (by omega)) (l_RX5_257 hts ⟨rfl, rfl⟩ ⟨Nat.le_of_ble_eq_true rfl, Nat.le_of_ble_eq_true rfl⟩) m_4_17 rfl rfl hP hD hS hA rfl (Nat.le_of_ble_eq_true rfl) dX5_sourceTree_8 (fun H locs hP hD hS => ?_)
  refine r_if_eq (tgt := 25) hx hb (by omega) dX5_sourceTree_11 (by decide) (fun c => absurd c (by omega)) (fun _ => ?_)
  refine lv_iconst (v := nI 4) hx hb dX5_sourceTree_14 (by decide) ?_
  refine lv_iload_n hx hb dX5_sourceTree_15 rfl (lv_at hl 1 rfl) ?_
  refine lv_bipush (v := nI 10) hx hb dX5_sourceTree_16 (by decide) ?_
  refine r_imul hx hb dX5_sourceTree_18 ?_
  refine r_iadd hx hb dX5_sourceTree_19 ?_
  refine lv_iload_n hx hb dX5_sourceTree_20 rfl (lv_at hl 0 rfl) ?_
  refine r_iadd hx hb dX5_sourceTree_21 ?_
  refine lv_goto (tgt := 26) hx hb dX5_sourceTree_22 (by decide) ?_
  exact eI B hP hS rfl rfl dX5_sourceTree_26
set_option maxHeartbeats 4000000 in
set_option maxRecDepth 100000 in
theorem c_X5_bit (l : Launch) (D : va_G) (cI cZ : ClassId) (ws : va_W) (r : Nat) (hr : r < 10) : MI l yX5_bit cX5_bit 1 .int { frames := 0, cells := 0, slots := 0, locals := 0 } D (TY cI cZ) [.int (nI r)] (ws) (ws) ((nI 1) <<< ((nI r) &&& 31)) := by
  refine MI.mk ⟨rfl, rfl⟩ (by decide +kernel) (Nat.le_of_ble_eq_true rfl) ?_
  intro p e s m below meth c A ls B hA hP hD hS hl
  have hx := B.1
  have hb := B.2.1
  have hts := B.2.2.2.2.2.1
  have hN := B.2.2.2.2.2.2.2.1
  have hK := B.2.2.2.2.2.2.2.2.1
  have hl : lv_has ls 1 [(0, .int (nI r))] := hl
  refine lv_iconst (v := nI 1) hx hb dX5_bit_0 (by decide) ?_
  refine lv_iload_n hx hb dX5_bit_1 rfl (lv_at hl 0 rfl) ?_
  refine lv_ishl hx hb dX5_bit_2 ?_
  exact eI B hP hS rfl rfl dX5_bit_3
def f_X5_has (set : Int32) (r : Nat) : Bool :=
  if (set &&& ((nI 1) <<< ((nI r) &&& 31))) = 0 then false else true
set_option maxHeartbeats 4000000 in
set_option maxRecDepth 100000 in
theorem c_X5_has (l : Launch) (D : va_G) (cI cZ : ClassId) (ws : va_W) (set : Int32) (r : Nat) (hr : r < 10) : MI l yX5_has cX5_has 2 .boolean { frames := 1, cells := 0, slots := 0, locals := 20 } D (TY cI cZ) [.int set, .int (nI r)] (ws) (ws) (bI (f_X5_has set r)) := by
  refine MI.mk ⟨rfl, rfl⟩ (by decide +kernel) (Nat.le_of_ble_eq_true rfl) ?_
  intro p e s m below meth c A ls B hA hP hD hS hl
  have hx := B.1
  have hb := B.2.1
  have hts := B.2.2.2.2.2.1
  have hN := B.2.2.2.2.2.2.2.1
  have hK := B.2.2.2.2.2.2.2.2.1
  have hl : lv_has ls 2 [(0, .int set), (1, .int (nI r))] := hl
  have hf := f_X5_has.eq_1 set r
  refine lv_iload_n hx hb dX5_has_0 rfl (lv_at hl 1 rfl) ?_
  refine fS_i (as := [.int (nI r)]) (rest := []) B hl.1 (c_X5_isRouter l D cI cZ (ws) r (by omega)) (l_RX5_252 hts ⟨rfl, rfl⟩ ⟨Nat.le_of_ble_eq_true rfl, Nat.le_of_ble_eq_true rfl⟩) m_4_14 rfl rfl hP hD hS hA rfl (Nat.le_of_ble_eq_true rfl) dX5_has_1 (fun H locs hP hD hS => ?_)
  refine r_if_eq (tgt := 20) hx hb (by omega) dX5_has_4 (by decide) (fun c => absurd c (by omega)) (fun _ => ?_)
  refine lv_iload_n hx hb dX5_has_7 rfl (lv_at hl 0 rfl) ?_
  refine lv_iload_n hx hb dX5_has_8 rfl (lv_at hl 1 rfl) ?_
  refine fS_i (as := [.int (nI r)]) (rest := [.int set]) B hl.1 (c_X5_bit l D cI cZ (ws) r (by omega)) (l_RX5_78 hts ⟨rfl, rfl⟩ ⟨Nat.le_of_ble_eq_true rfl, Nat.le_of_ble_eq_true rfl⟩) m_7_17 rfl rfl hP hD hS hA rfl (Nat.le_of_ble_eq_true rfl) dX5_has_9 (fun H locs hP hD hS => ?_)
  refine lv_iand hx hb dX5_has_12 ?_
  refine lv_if_eq (tgt := 20) hx hb dX5_has_13 (by decide) (fun c1 => ?_) (fun c1 => ?_)
  · have hf := hf.trans (if_pos c1)
    refine lv_iconst (v := nI 0) hx hb dX5_has_20 (by decide) ?_
    exact eZ B hP hS (by decide) ((congrArg (fun (u : Bool) => bI u) hf).symm) rfl dX5_has_21
  · have hf := hf.trans (if_neg c1)
    refine lv_iconst (v := nI 1) hx hb dX5_has_16 (by decide) ?_
    refine lv_goto (tgt := 21) hx hb dX5_has_17 (by decide) ?_
    exact eZ B hP hS (by decide) ((congrArg (fun (u : Bool) => bI u) hf).symm) rfl dX5_has_21
theorem nat_of {x : Int32} {n : Nat} (hn : n < 2 ^ 31) (h0 : ¬ x < 0) (h : ¬ nI n ≤ x) : x = nI x.toNatClampNeg ∧ x.toNatClampNeg < n := by
  obtain ⟨j, hj, rfl⟩ := nI_of h0
  rw [nI_clamp hj]
  refine ⟨rfl, ?_⟩
  rw [nI_leI hn hj] at h
  omega
theorem isRouter_r {x : Int32} (h : f_X5_isRouter_r x = true) : x = nI x.toNatClampNeg ∧ x.toNatClampNeg < 10 := by
  unfold f_X5_isRouter_r at h
  by_cases h1 : x < 0
  · rw [if_pos h1] at h; cases h
  · rw [if_neg h1] at h
    by_cases h2 : nI 10 ≤ x
    · rw [if_pos h2] at h; cases h
    · exact nat_of (by decide) h1 h2
theorem cell_eq {cI : ClassId} {n : Nat} {f g : Nat → Int32} (h : ∀ j, j < n → f j = g j) : vp_cell cI (n, .inl f) = vp_cell cI (n, .inl g) := by
  rw [vp_cell_i, vp_cell_i]
  unfold arrV
  congr 1
  congr 1
  funext j
  show Value.int (f j.val) = Value.int (g j.val)
  rw [h j.val j.isLt]
theorem va_ext {D : va_G} {ws : va_W} {H : Heap} {q0 n : Nat} {a : Nat} {cI : ClassId} {f g : Nat → Int32} (h : ∀ j, j < n → f j = g j) (hP : va_P D vwCl (ws.set q0 (a, .inl (cI, n, .inl f))) H) : va_P D vwCl (ws.set q0 (a, .inl (cI, n, .inl g))) H := by
  intro k q hq
  by_cases hk : k = q0
  · subst hk
    by_cases hl : k < ws.length
    · rw [List.getElem?_set_self hl] at hq
      cases hq
      have h1 := hP k (a, .inl (cI, n, .inl f)) (List.getElem?_set_self hl)
      show H[a]? = some (vp_cell cI (n, .inl g))
      rw [← cell_eq h]
      exact h1
    · rw [List.getElem?_eq_none (by rw [List.length_set]; omega)] at hq
      cases hq
  · rw [List.getElem?_set_ne (Ne.symm hk)] at hq
    exact hP k q (by rw [List.getElem?_set_ne (Ne.symm hk)]; exact hq)
theorem set_self {ws : va_W} {q0 : Nat} {x : Nat × va_E} (h : ws[q0]? = some x) : ws.set q0 x = ws := by
  apply List.ext_getElem?
  intro k
  by_cases hk : k = q0
  · subst hk
    rw [List.getElem?_set_self (List.getElem?_eq_some_iff.mp h).1, h]
  · rw [List.getElem?_set_ne (Ne.symm hk)]
set_option maxHeartbeats 4000000 in
set_option maxRecDepth 100000 in
theorem c_fill (l : Launch) (D : va_G) (cI cZ : ClassId) (ws : va_W) (q0 n : Nat) (f : Nat → Int32) (a : Nat) (v : Int32) (he : ws[q0]? = some (a, .inl (cI, n, .inl f))) (hn : n < 2 ^ 31) : MV l yJ7_fill_53178 cJ7_fill_53178 4 { frames := 0, cells := 0, slots := 0, locals := 0 } D (TY cI cZ) [.ref a, .int v] ws (ws.set q0 (a, .inl (cI, n, .inl (fun _ => v)))) := by
  refine MV.mk ⟨rfl, rfl⟩ (by decide +kernel) (Nat.le_of_ble_eq_true rfl) ?_
  intro p e s m below meth c A ls B hA hP hD hS hl
  have hx := B.1
  have hb := B.2.1
  have hK := B.2.2.2.2.2.2.2.2.1
  have hlt : q0 < ws.length := (List.getElem?_eq_some_iff.mp he).1
  have hl : lv_has ls 4 [(0, .ref a), (1, .int v)] := hl
  refine lv_iconst (v := nI 0) hx hb dJ7_fill_53178_0 (by decide) ?_
  refine lv_istore_n (lv' := [(2, .int (nI 0)), (0, .ref a), (1, .int v)]) hx hb dJ7_fill_53178_1 rfl hl (by decide) rfl (fun ls hl => ?_)
  refine lv_aload_n hx hb dJ7_fill_53178_2 rfl (lv_at hl 1 rfl) ?_
  refine va_alen (v := nI n) hx hb hK hP q0 0 he rfl rfl dJ7_fill_53178_3 ?_
  refine lv_istore_n (lv' := [(3, .int (nI n)), (2, .int (nI 0)), (0, .ref a), (1, .int v)]) hx hb dJ7_fill_53178_4 rfl hl (by decide) rfl (fun ls hl => ?_)
  have L5 : ∀ (n5 k5 : Nat) (g : Nat → Int32), k5 + n5 = n → (∀ j, j < k5 → g j = v) → ∀ (H : Heap) (locs : List Loc), va_P D vwCl (ws.set q0 (a, .inl (cI, n, .inl g))) H → va_D A (ws.set q0 (a, .inl (cI, n, .inl g))) → va_S A s.heap H locs → ∀ ls : Array Slot, lv_has ls 4 [(0, .ref a), (1, .int v), (2, .int (nI k5)), (3, .int (nI n))] → W p l e { frames := 0, cells := 0, slots := 0, locals := 0 } s m [.ref a, .int v].toArray below meth c H locs 0 0 (QV below s A D [.ref a, .int v] (ws.set q0 (a, .inl (cI, n, .inl (fun _ => v))))) (F0 m 5 ls []) := by
    intro n5
    induction n5 with
    | zero =>
      intro k5 g hk hg H locs hP hD hS ls hl
      refine lv_iload_n hx hb dJ7_fill_53178_5 rfl (lv_at hl 2 rfl) ?_
      refine lv_iload_n hx hb dJ7_fill_53178_6 rfl (lv_at hl 3 rfl) ?_
      refine r_icmp_ge (tgt := 20) hx hb (by omega) (by omega) dJ7_fill_53178_7 (by decide) (fun _ => ?_) (fun c => absurd c (by omega))
      exact eV B (va_ext (fun j hj => hg j (by omega)) hP) hS rfl dJ7_fill_53178_20
    | succ n5 ih =>
      intro k5 g hk hg H locs hP hD hS ls hl
      refine lv_iload_n hx hb dJ7_fill_53178_5 rfl (lv_at hl 2 rfl) ?_
      refine lv_iload_n hx hb dJ7_fill_53178_6 rfl (lv_at hl 3 rfl) ?_
      refine r_icmp_ge (tgt := 20) hx hb (by omega) (by omega) dJ7_fill_53178_7 (by decide) (fun c => absurd c (by omega)) (fun _ => ?_)
      refine lv_aload_n hx hb dJ7_fill_53178_10 rfl (lv_at hl 0 rfl) ?_
      refine lv_iload_n hx hb dJ7_fill_53178_11 rfl (lv_at hl 2 rfl) ?_
      refine lv_iload_n hx hb dJ7_fill_53178_12 rfl (lv_at hl 1 rfl) ?_
      refine r_iast hx hb hK hP hD hS q0 0 (List.getElem?_set_self hlt) rfl (by omega) hn dJ7_fill_53178_13 (fun H locs hP hD hS => ?_)
      rw [List.set_set] at hP hD
      refine lv_iinc (v := nI (k5 + 1)) (lv' := [(2, .int (nI (k5 + 1))), (0, .ref a), (1, .int v), (3, .int (nI n))]) hx hb dJ7_fill_53178_14 hl (k := 2) rfl (nI_add _ _) (by decide) rfl (fun ls hl => ?_)
      refine lv_goto (tgt := 5) hx hb dJ7_fill_53178_17 (by decide) ?_
      refine ih (k5 + 1) (upd g k5 v) (by omega) (fun j hj => ?_) H locs hP hD hS _ (lv_sub hl [1, 2, 0, 3] rfl)
      by_cases h : j = k5
      · subst h; exact pk_us
      · rw [pk_un h]; exact hg j (by omega)
  have hP' : va_P D vwCl (ws.set q0 (a, .inl (cI, n, .inl f))) s.heap := by rw [set_self he]; exact hP
  have hD' : va_D A (ws.set q0 (a, .inl (cI, n, .inl f))) := by rw [set_self he]; exact hD
  exact L5 n 0 f (by omega) (fun j hj => absurd hj (Nat.not_lt_zero j)) _ _ hP' hD' hS _ (lv_sub hl [2, 3, 1, 0] rfl)
