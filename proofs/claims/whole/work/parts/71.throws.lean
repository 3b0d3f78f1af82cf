def f_X5_isGroup_r (g : Int32) : Bool :=
  if g < 0 then false else if (nI 4) ≤ g then false else true
set_option maxHeartbeats 4000000 in
set_option maxRecDepth 100000 in
theorem c_X5_isGroup_r (l : Launch) (D : va_G) (cI cZ : ClassId) (ws : va_W) (g : Int32) : MI l yX5_isGroup cX5_isGroup 1 .boolean { frames := 0, cells := 0, slots := 0, locals := 0 } D (TY cI cZ) [.int g] (ws) (ws) (bI (f_X5_isGroup_r g)) := by
  refine MI.mk ⟨rfl, rfl⟩ (by decide +kernel) (Nat.le_of_ble_eq_true rfl) ?_
  intro p e s m below meth c A ls B hA hP hD hS hl
  have hx := B.1
  have hb := B.2.1
  have hts := B.2.2.2.2.2.1
  have hN := B.2.2.2.2.2.2.2.1
  have hK := B.2.2.2.2.2.2.2.2.1
  have hl : lv_has ls 1 [(0, .int g)] := hl
  have hf := f_X5_isGroup_r.eq_1 g
  refine lv_iload_n hx hb dX5_isGroup_0 rfl (lv_at hl 0 rfl) ?_
  refine lv_if_lt (tgt := 13) hx hb dX5_isGroup_1 (by decide) (fun c1 => ?_) (fun c1 => ?_)
  · have hf := hf.trans (if_pos c1)
    refine lv_iconst (v := nI 0) hx hb dX5_isGroup_13 (by decide) ?_
    exact eZ B hP hS (by decide) ((congrArg (fun (u : Bool) => bI u) hf).symm) rfl dX5_isGroup_14
  · have hf := hf.trans (if_neg c1)
    refine lv_iload_n hx hb dX5_isGroup_4 rfl (lv_at hl 0 rfl) ?_
    refine lv_iconst (v := nI 4) hx hb dX5_isGroup_5 (by decide) ?_
    refine lv_icmp_ge (tgt := 13) hx hb dX5_isGroup_6 (by decide) (fun c2 => ?_) (fun c2 => ?_)
    · have hf := hf.trans (if_pos c2)
      refine lv_iconst (v := nI 0) hx hb dX5_isGroup_13 (by decide) ?_
      exact eZ B hP hS (by decide) ((congrArg (fun (u : Bool) => bI u) hf).symm) rfl dX5_isGroup_14
    · have hf := hf.trans (if_neg c2)
      refine lv_iconst (v := nI 1) hx hb dX5_isGroup_9 (by decide) ?_
      refine lv_goto (tgt := 14) hx hb dX5_isGroup_10 (by decide) ?_
      exact eZ B hP hS (by decide) ((congrArg (fun (u : Bool) => bI u) hf).symm) rfl dX5_isGroup_14
set_option maxHeartbeats 4000000 in
set_option maxRecDepth 100000 in
theorem c_X5_checkRouter_x (l : Launch) (D : va_G) (cI cZ : ClassId) (ws : va_W) (r : Int32) (hst : l.stackTraces = false) (hbad : ¬ (f_X5_isRouter_r r) = true) : MXv l yX5_checkRouter cX5_checkRouter 1 { frames := 6, cells := 1, slots := 6, locals := 90 } D (TY cI cZ) [.int r] (ws) "java/lang/IndexOutOfBoundsException" := by
  refine MXv.mk (by decide +kernel) (Nat.le_of_ble_eq_true rfl) ?_
  intro p e s m below meth c A ls B hno hX hA hP hD hS hl
  have hx := B.1
  have hb := B.2.1
  have hts := B.2.2.2.2.2.1
  have hN := B.2.2.2.2.2.2.2.1
  have hK := B.2.2.2.2.2.2.2.2.1
  have hl : lv_has ls 1 [(0, .int r)] := hl
  refine lv_iload_n hx hb dX5_checkRouter_0 rfl (lv_at hl 0 rfl) ?_
  refine fS_i (as := [.int r]) (rest := []) B hl.1 (c_X5_isRouter_r l D cI cZ (ws) r) (l_RX5_252 hts ⟨rfl, rfl⟩ ⟨Nat.le_of_ble_eq_true rfl, Nat.le_of_ble_eq_true rfl⟩) m_4_13 rfl rfl hP hD hS hA rfl (Nat.le_of_ble_eq_true rfl) dX5_checkRouter_1 (fun H locs hP hD hS => ?_)
  refine r_if_ne_b (tgt := 17) hx hb dX5_checkRouter_4 (by decide) (fun c => absurd c hbad) (fun _ => ?_)
  exact eT (E := "java/lang/IndexOutOfBoundsException") (ik := 247) (is := 255) (ic := 251) (text := "no such router") (rest := []) B hl.1 hst hno hX hP hS (List.mem_of_getElem? (i := 1) rfl) (List.mem_of_getElem? (i := 7) rfl) m_7_9 m_7_10 dX5_checkRouter_7 dX5_checkRouter_10 dX5_checkRouter_11 dX5_checkRouter_13 dX5_checkRouter_16 (Nat.le_of_ble_eq_true rfl) ⟨Nat.le_of_ble_eq_true rfl, Nat.le_of_ble_eq_true rfl, Nat.le_of_ble_eq_true rfl, Nat.le_of_ble_eq_true rfl⟩
set_option maxHeartbeats 4000000 in
set_option maxRecDepth 100000 in
theorem c_X5_checkGroup_x (l : Launch) (D : va_G) (cI cZ : ClassId) (ws : va_W) (g : Int32) (hst : l.stackTraces = false) (hbad : ¬ (f_X5_isGroup_r g) = true) : MXv l yX5_checkGroup cX5_checkGroup 1 { frames := 6, cells := 1, slots := 6, locals := 90 } D (TY cI cZ) [.int g] (ws) "java/lang/IndexOutOfBoundsException" := by
  refine MXv.mk (by decide +kernel) (Nat.le_of_ble_eq_true rfl) ?_
  intro p e s m below meth c A ls B hno hX hA hP hD hS hl
  have hx := B.1
  have hb := B.2.1
  have hts := B.2.2.2.2.2.1
  have hN := B.2.2.2.2.2.2.2.1
  have hK := B.2.2.2.2.2.2.2.2.1
  have hl : lv_has ls 1 [(0, .int g)] := hl
  refine lv_iload_n hx hb dX5_checkGroup_0 rfl (lv_at hl 0 rfl) ?_
  refine fS_i (as := [.int g]) (rest := []) B hl.1 (c_X5_isGroup_r l D cI cZ (ws) g) (l_RX5_257 hts ⟨rfl, rfl⟩ ⟨Nat.le_of_ble_eq_true rfl, Nat.le_of_ble_eq_true rfl⟩) m_4_16 rfl rfl hP hD hS hA rfl (Nat.le_of_ble_eq_true rfl) dX5_checkGroup_1 (fun H locs hP hD hS => ?_)
  refine r_if_ne_b (tgt := 18) hx hb dX5_checkGroup_4 (by decide) (fun c => absurd c hbad) (fun _ => ?_)
  exact eTW (E := "java/lang/IndexOutOfBoundsException") (ik := 247) (is := 260) (ic := 251) (text := "no such group") (rest := []) B hl.1 hst hno hX hP hS (List.mem_of_getElem? (i := 1) rfl) (List.mem_of_getElem? (i := 8) rfl) m_7_9 m_7_10 dX5_checkGroup_7 dX5_checkGroup_10 dX5_checkGroup_11 dX5_checkGroup_14 dX5_checkGroup_17 (Nat.le_of_ble_eq_true rfl) ⟨Nat.le_of_ble_eq_true rfl, Nat.le_of_ble_eq_true rfl, Nat.le_of_ble_eq_true rfl, Nat.le_of_ble_eq_true rfl⟩
set_option maxHeartbeats 4000000 in
set_option maxRecDepth 100000 in
theorem c_X5_checkPacket_x (l : Launch) (D : va_G) (cI cZ : ClassId) (ad : Nat → Nat) (rc rl rh fr fw fc fg ps pg pr pd qp qt qf qo ct : Nat → Int32) (cand : Int32) (lim : Int32) (now : Int32) (was : Int32) (sent : Nat) (qfi : Nat) (qsz : Nat) (pk : Int32) (hsent : sent ≤ 200) (hst : l.stackTraces = false) (hbad : ¬ (f_X3_isPacket_r pk sent) = true) : MXv l yX5_checkPacket cX5_checkPacket 2 { frames := 6, cells := 1, slots := 6, locals := 90 } D (TY cI cZ) [.ref (ad 0), .int pk] (wC cI ad rc rl rh fr fw fc fg ps pg pr pd qp qt qf qo ct cand lim now was (nI sent) (nI qfi) (nI qsz)) "java/lang/IndexOutOfBoundsException" := by
  refine MXv.mk (by decide +kernel) (Nat.le_of_ble_eq_true rfl) ?_
  intro p e s m below meth c A ls B hno hX hA hP hD hS hl
  have hx := B.1
  have hb := B.2.1
  have hts := B.2.2.2.2.2.1
  have hN := B.2.2.2.2.2.2.2.1
  have hK := B.2.2.2.2.2.2.2.2.1
  have hl : lv_has ls 2 [(0, .ref (ad 0)), (1, .int pk)] := hl
  refine lv_aload_n hx hb dX5_checkPacket_0 rfl (lv_at hl 0 rfl) ?_
  refine g_X5_26 B hP 0 rfl rfl dX5_checkPacket_1 ?_
  refine lv_iload_n hx hb dX5_checkPacket_4 rfl (lv_at hl 1 rfl) ?_
  refine fV_i (ci := 3) (as := [.int pk]) (rest := []) B hl.1 (c_X3_isPacket_r l D cI cZ ad rc rl rh fr fw fc fg ps pg pr pd qp qt qf qo ct cand lim now was sent qfi qsz pk (by omega)) rfl (l_RX5_244 hts ⟨rfl, rfl⟩ ⟨Nat.le_of_ble_eq_true rfl, Nat.le_of_ble_eq_true rfl⟩) m_20_15 m_20_16 rfl rfl hP hD hS hA 10 rfl wfC (Nat.le_of_ble_eq_true rfl) dX5_checkPacket_5 (fun H locs hP hD hS => ?_)
  refine r_if_ne_b (tgt := 21) hx hb dX5_checkPacket_8 (by decide) (fun c => absurd c hbad) (fun _ => ?_)
  exact eT (E := "java/lang/IndexOutOfBoundsException") (ik := 247) (is := 249) (ic := 251) (text := "no such packet") (rest := []) B hl.1 hst hno hX hP hS (List.mem_of_getElem? (i := 1) rfl) (List.mem_of_getElem? (i := 6) rfl) m_7_9 m_7_10 dX5_checkPacket_11 dX5_checkPacket_14 dX5_checkPacket_15 dX5_checkPacket_17 dX5_checkPacket_20 (Nat.le_of_ble_eq_true rfl) ⟨Nat.le_of_ble_eq_true rfl, Nat.le_of_ble_eq_true rfl, Nat.le_of_ble_eq_true rfl, Nat.le_of_ble_eq_true rfl⟩
set_option maxHeartbeats 4000000 in
set_option maxRecDepth 100000 in
theorem c_X5_setLink_b1 (l : Launch) (D : va_G) (cI cZ : ClassId) (ad : Nat → Nat) (rc rl rh fr fw fc fg ps pg pr pd qp qt qf qo ct : Nat → Int32) (cand : Int32) (lim : Int32) (now : Int32) (was : Int32) (sent : Nat) (qfi : Nat) (qsz : Nat) (r : Int32) (o : Int32) (c_ : Int32) (hst : l.stackTraces = false) (hbad : ¬ (f_X5_isRouter_r r) = true) : MXi l yX5_setLink cX5_setLink 5 .int { frames := 7, cells := 1, slots := 6, locals := 110 } D (TY cI cZ) [.ref (ad 0), .int r, .int o, .int c_] (wC cI ad rc rl rh fr fw fc fg ps pg pr pd qp qt qf qo ct cand lim now was (nI sent) (nI qfi) (nI qsz)) "java/lang/IndexOutOfBoundsException" := by
  refine MXi.mk (by decide +kernel) (Nat.le_of_ble_eq_true rfl) ?_
  intro p e s m below meth c A ls B hno hX hA hP hD hS hl
  have hx := B.1
  have hb := B.2.1
  have hts := B.2.2.2.2.2.1
  have hN := B.2.2.2.2.2.2.2.1
  have hK := B.2.2.2.2.2.2.2.2.1
  have hl : lv_has ls 5 [(0, .ref (ad 0)), (1, .int r), (2, .int o), (3, .int c_)] := hl
  refine lv_iload_n hx hb dX5_setLink_0 rfl (lv_at hl 1 rfl) ?_
  exact fXS_v (as := [.int r]) (rest := []) B hl.1 (c_X5_checkRouter_x l D cI cZ (wC cI ad rc rl rh fr fw fc fg ps pg pr pd qp qt qf qo ct cand lim now was (nI sent) (nI qfi) (nI qsz)) r hst hbad) (x_cbx ⟨rfl, rfl⟩ 1 hts m_7_8 m_1_2 m_7_6 (by decide +kernel) ⟨Nat.le_of_ble_eq_true rfl, Nat.le_of_ble_eq_true rfl⟩) m_7_7 rfl rfl hno hX hP hD hS hA (Nat.le_of_ble_eq_true rfl) ⟨Nat.le_of_ble_eq_true rfl, Nat.le_of_ble_eq_true rfl⟩ dX5_setLink_1
set_option maxHeartbeats 4000000 in
set_option maxRecDepth 100000 in
theorem c_X5_setLink_b2 (l : Launch) (D : va_G) (cI cZ : ClassId) (ad : Nat → Nat) (rc rl rh fr fw fc fg ps pg pr pd qp qt qf qo ct : Nat → Int32) (cand : Int32) (lim : Int32) (now : Int32) (was : Int32) (sent : Nat) (qfi : Nat) (qsz : Nat) (r : Nat) (o : Int32) (c_ : Int32) (hr : r < 10) (hst : l.stackTraces = false) (hbad : ¬ (f_X5_isRouter_r o) = true) : MXi l yX5_setLink cX5_setLink 5 .int { frames := 7, cells := 1, slots := 6, locals := 110 } D (TY cI cZ) [.ref (ad 0), .int (nI r), .int o, .int c_] (wC cI ad rc rl rh fr fw fc fg ps pg pr pd qp qt qf qo ct cand lim now was (nI sent) (nI qfi) (nI qsz)) "java/lang/IndexOutOfBoundsException" := by
  refine MXi.mk (by decide +kernel) (Nat.le_of_ble_eq_true rfl) ?_
  intro p e s m below meth c A ls B hno hX hA hP hD hS hl
  have hx := B.1
  have hb := B.2.1
  have hts := B.2.2.2.2.2.1
  have hN := B.2.2.2.2.2.2.2.1
  have hK := B.2.2.2.2.2.2.2.2.1
  have hl : lv_has ls 5 [(0, .ref (ad 0)), (1, .int (nI r)), (2, .int o), (3, .int c_)] := hl
  refine lv_iload_n hx hb dX5_setLink_0 rfl (lv_at hl 1 rfl) ?_
  refine fS_v (as := [.int (nI r)]) (rest := []) B hl.1 (c_X5_checkRouter l D cI cZ (wC cI ad rc rl rh fr fw fc fg ps pg pr pd qp qt qf qo ct cand lim now was (nI sent) (nI qfi) (nI qsz)) r (by omega)) (l_RX5_48 hts ⟨rfl, rfl⟩ ⟨Nat.le_of_ble_eq_true rfl, Nat.le_of_ble_eq_true rfl⟩) m_7_7 rfl rfl hP hD hS hA rfl (Nat.le_of_ble_eq_true rfl) dX5_setLink_1 (fun H locs hP hD hS => ?_)
  refine lv_iload_n hx hb dX5_setLink_4 rfl (lv_at hl 2 rfl) ?_
  exact fXS_v (as := [.int o]) (rest := []) B hl.1 (c_X5_checkRouter_x l D cI cZ (wC cI ad rc rl rh fr fw fc fg ps pg pr pd qp qt qf qo ct cand lim now was (nI sent) (nI qfi) (nI qsz)) o hst hbad) (x_cbx ⟨rfl, rfl⟩ 1 hts m_7_8 m_1_2 m_7_6 (by decide +kernel) ⟨Nat.le_of_ble_eq_true rfl, Nat.le_of_ble_eq_true rfl⟩) m_7_7 rfl rfl hno hX hP hD hS hA (Nat.le_of_ble_eq_true rfl) ⟨Nat.le_of_ble_eq_true rfl, Nat.le_of_ble_eq_true rfl⟩ dX5_setLink_5
set_option maxHeartbeats 4000000 in
set_option maxRecDepth 100000 in
theorem c_X5_setLink_b3 (l : Launch) (D : va_G) (cI cZ : ClassId) (ad : Nat → Nat) (rc rl rh fr fw fc fg ps pg pr pd qp qt qf qo ct : Nat → Int32) (cand : Int32) (lim : Int32) (now : Int32) (was : Int32) (sent : Nat) (qfi : Nat) (qsz : Nat) (r : Nat) (o : Nat) (c_ : Int32) (hr : r < 10) (ho : o < 10) (hst : l.stackTraces = false) (hc0 : r = o) : MXi l yX5_setLink cX5_setLink 5 .int { frames := 6, cells := 1, slots := 6, locals := 90 } D (TY cI cZ) [.ref (ad 0), .int (nI r), .int (nI o), .int c_] (wC cI ad rc rl rh fr fw fc fg ps pg pr pd qp qt qf qo ct cand lim now was (nI sent) (nI qfi) (nI qsz)) "java/lang/IllegalArgumentException" := by
  refine MXi.mk (by decide +kernel) (Nat.le_of_ble_eq_true rfl) ?_
  intro p e s m below meth c A ls B hno hX hA hP hD hS hl
  have hx := B.1
  have hb := B.2.1
  have hts := B.2.2.2.2.2.1
  have hN := B.2.2.2.2.2.2.2.1
  have hK := B.2.2.2.2.2.2.2.2.1
  have hl : lv_has ls 5 [(0, .ref (ad 0)), (1, .int (nI r)), (2, .int (nI o)), (3, .int c_)] := hl
  refine lv_iload_n hx hb dX5_setLink_0 rfl (lv_at hl 1 rfl) ?_
  refine fS_v (as := [.int (nI r)]) (rest := []) B hl.1 (c_X5_checkRouter l D cI cZ (wC cI ad rc rl rh fr fw fc fg ps pg pr pd qp qt qf qo ct cand lim now was (nI sent) (nI qfi) (nI qsz)) r (by omega)) (l_RX5_48 hts ⟨rfl, rfl⟩ ⟨Nat.le_of_ble_eq_true rfl, Nat.le_of_ble_eq_true rfl⟩) m_7_7 rfl rfl hP hD hS hA rfl (Nat.le_of_ble_eq_true rfl) dX5_setLink_1 (fun H locs hP hD hS => ?_)
  refine lv_iload_n hx hb dX5_setLink_4 rfl (lv_at hl 2 rfl) ?_
  refine fS_v (as := [.int (nI o)]) (rest := []) B hl.1 (c_X5_checkRouter l D cI cZ (wC cI ad rc rl rh fr fw fc fg ps pg pr pd qp qt qf qo ct cand lim now was (nI sent) (nI qfi) (nI qsz)) o (by omega)) (l_RX5_48 hts ⟨rfl, rfl⟩ ⟨Nat.le_of_ble_eq_true rfl, Nat.le_of_ble_eq_true rfl⟩) m_7_7 rfl rfl hP hD hS hA rfl (Nat.le_of_ble_eq_true rfl) dX5_setLink_5 (fun H locs hP hD hS => ?_)
  refine lv_iload_n hx hb dX5_setLink_8 rfl (lv_at hl 1 rfl) ?_
  refine lv_iload_n hx hb dX5_setLink_9 rfl (lv_at hl 2 rfl) ?_
  refine r_icmp_eq (tgt := 23) hx hb (by omega) (by omega) dX5_setLink_10 (by decide) (fun _ => ?_) (fun c => absurd hc0 c)
  exact eT (E := "java/lang/IllegalArgumentException") (ik := 52) (is := 54) (ic := 56) (text := "no such link or cost") (rest := []) B hl.1 hst hno hX hP hS (List.mem_of_getElem? (i := 0) rfl) (List.mem_of_getElem? (i := 0) rfl) m_7_4 m_7_5 dX5_setLink_23 dX5_setLink_26 dX5_setLink_27 dX5_setLink_29 dX5_setLink_32 (Nat.le_of_ble_eq_true rfl) ⟨Nat.le_of_ble_eq_true rfl, Nat.le_of_ble_eq_true rfl, Nat.le_of_ble_eq_true rfl, Nat.le_of_ble_eq_true rfl⟩
set_option maxHeartbeats 4000000 in
set_option maxRecDepth 100000 in
theorem c_X5_setLink_b4 (l : Launch) (D : va_G) (cI cZ : ClassId) (ad : Nat → Nat) (rc rl rh fr fw fc fg ps pg pr pd qp qt qf qo ct : Nat → Int32) (cand : Int32) (lim : Int32) (now : Int32) (was : Int32) (sent : Nat) (qfi : Nat) (qsz : Nat) (r : Nat) (o : Nat) (c_ : Int32) (hr : r < 10) (ho : o < 10) (hst : l.stackTraces = false) (hc0 : ¬ (r = o)) (hc1 : c_ < 0) : MXi l yX5_setLink cX5_setLink 5 .int { frames := 6, cells := 1, slots := 6, locals := 90 } D (TY cI cZ) [.ref (ad 0), .int (nI r), .int (nI o), .int c_] (wC cI ad rc rl rh fr fw fc fg ps pg pr pd qp qt qf qo ct cand lim now was (nI sent) (nI qfi) (nI qsz)) "java/lang/IllegalArgumentException" := by
  refine MXi.mk (by decide +kernel) (Nat.le_of_ble_eq_true rfl) ?_
  intro p e s m below meth c A ls B hno hX hA hP hD hS hl
  have hx := B.1
  have hb := B.2.1
  have hts := B.2.2.2.2.2.1
  have hN := B.2.2.2.2.2.2.2.1
  have hK := B.2.2.2.2.2.2.2.2.1
  have hl : lv_has ls 5 [(0, .ref (ad 0)), (1, .int (nI r)), (2, .int (nI o)), (3, .int c_)] := hl
  refine lv_iload_n hx hb dX5_setLink_0 rfl (lv_at hl 1 rfl) ?_
  refine fS_v (as := [.int (nI r)]) (rest := []) B hl.1 (c_X5_checkRouter l D cI cZ (wC cI ad rc rl rh fr fw fc fg ps pg pr pd qp qt qf qo ct cand lim now was (nI sent) (nI qfi) (nI qsz)) r (by omega)) (l_RX5_48 hts ⟨rfl, rfl⟩ ⟨Nat.le_of_ble_eq_true rfl, Nat.le_of_ble_eq_true rfl⟩) m_7_7 rfl rfl hP hD hS hA rfl (Nat.le_of_ble_eq_true rfl) dX5_setLink_1 (fun H locs hP hD hS => ?_)
  refine lv_iload_n hx hb dX5_setLink_4 rfl (lv_at hl 2 rfl) ?_
  refine fS_v (as := [.int (nI o)]) (rest := []) B hl.1 (c_X5_checkRouter l D cI cZ (wC cI ad rc rl rh fr fw fc fg ps pg pr pd qp qt qf qo ct cand lim now was (nI sent) (nI qfi) (nI qsz)) o (by omega)) (l_RX5_48 hts ⟨rfl, rfl⟩ ⟨Nat.le_of_ble_eq_true rfl, Nat.le_of_ble_eq_true rfl⟩) m_7_7 rfl rfl hP hD hS hA rfl (Nat.le_of_ble_eq_true rfl) dX5_setLink_5 (fun H locs hP hD hS => ?_)
  refine lv_iload_n hx hb dX5_setLink_8 rfl (lv_at hl 1 rfl) ?_
  refine lv_iload_n hx hb dX5_setLink_9 rfl (lv_at hl 2 rfl) ?_
  refine r_icmp_eq (tgt := 23) hx hb (by omega) (by omega) dX5_setLink_10 (by decide) (fun c => absurd c hc0) (fun _ => ?_)
  refine lv_iload_n hx hb dX5_setLink_13 rfl (lv_at hl 3 rfl) ?_
  refine lv_if_lt (tgt := 23) hx hb dX5_setLink_14 (by decide) (fun _ => ?_) (fun c => absurd hc1 c)
  exact eT (E := "java/lang/IllegalArgumentException") (ik := 52) (is := 54) (ic := 56) (text := "no such link or cost") (rest := []) B hl.1 hst hno hX hP hS (List.mem_of_getElem? (i := 0) rfl) (List.mem_of_getElem? (i := 0) rfl) m_7_4 m_7_5 dX5_setLink_23 dX5_setLink_26 dX5_setLink_27 dX5_setLink_29 dX5_setLink_32 (Nat.le_of_ble_eq_true rfl) ⟨Nat.le_of_ble_eq_true rfl, Nat.le_of_ble_eq_true rfl, Nat.le_of_ble_eq_true rfl, Nat.le_of_ble_eq_true rfl⟩
set_option maxHeartbeats 4000000 in
set_option maxRecDepth 100000 in
theorem c_X5_setLink_b5 (l : Launch) (D : va_G) (cI cZ : ClassId) (ad : Nat → Nat) (rc rl rh fr fw fc fg ps pg pr pd qp qt qf qo ct : Nat → Int32) (cand : Int32) (lim : Int32) (now : Int32) (was : Int32) (sent : Nat) (qfi : Nat) (qsz : Nat) (r : Nat) (o : Nat) (c_ : Int32) (hr : r < 10) (ho : o < 10) (hst : l.stackTraces = false) (hc0 : ¬ (r = o)) (hc1 : ¬ (c_ < 0)) (hc2 : ¬ (c_ ≤ (nI 20))) : MXi l yX5_setLink cX5_setLink 5 .int { frames := 6, cells := 1, slots := 6, locals := 90 } D (TY cI cZ) [.ref (ad 0), .int (nI r), .int (nI o), .int c_] (wC cI ad rc rl rh fr fw fc fg ps pg pr pd qp qt qf qo ct cand lim now was (nI sent) (nI qfi) (nI qsz)) "java/lang/IllegalArgumentException" := by
  refine MXi.mk (by decide +kernel) (Nat.le_of_ble_eq_true rfl) ?_
  intro p e s m below meth c A ls B hno hX hA hP hD hS hl
  have hx := B.1
  have hb := B.2.1
  have hts := B.2.2.2.2.2.1
  have hN := B.2.2.2.2.2.2.2.1
  have hK := B.2.2.2.2.2.2.2.2.1
  have hl : lv_has ls 5 [(0, .ref (ad 0)), (1, .int (nI r)), (2, .int (nI o)), (3, .int c_)] := hl
  refine lv_iload_n hx hb dX5_setLink_0 rfl (lv_at hl 1 rfl) ?_
  refine fS_v (as := [.int (nI r)]) (rest := []) B hl.1 (c_X5_checkRouter l D cI cZ (wC cI ad rc rl rh fr fw fc fg ps pg pr pd qp qt qf qo ct cand lim now was (nI sent) (nI qfi) (nI qsz)) r (by omega)) (l_RX5_48 hts ⟨rfl, rfl⟩ ⟨Nat.le_of_ble_eq_true rfl, Nat.le_of_ble_eq_true rfl⟩) m_7_7 rfl rfl hP hD hS hA rfl (Nat.le_of_ble_eq_true rfl) dX5_setLink_1 (fun H locs hP hD hS => ?_)
  refine lv_iload_n hx hb dX5_setLink_4 rfl (lv_at hl 2 rfl) ?_
  refine fS_v (as := [.int (nI o)]) (rest := []) B hl.1 (c_X5_checkRouter l D cI cZ (wC cI ad rc rl rh fr fw fc fg ps pg pr pd qp qt qf qo ct cand lim now was (nI sent) (nI qfi) (nI qsz)) o (by omega)) (l_RX5_48 hts ⟨rfl, rfl⟩ ⟨Nat.le_of_ble_eq_true rfl, Nat.le_of_ble_eq_true rfl⟩) m_7_7 rfl rfl hP hD hS hA rfl (Nat.le_of_ble_eq_true rfl) dX5_setLink_5 (fun H locs hP hD hS => ?_)
  refine lv_iload_n hx hb dX5_setLink_8 rfl (lv_at hl 1 rfl) ?_
  refine lv_iload_n hx hb dX5_setLink_9 rfl (lv_at hl 2 rfl) ?_
  refine r_icmp_eq (tgt := 23) hx hb (by omega) (by omega) dX5_setLink_10 (by decide) (fun c => absurd c hc0) (fun _ => ?_)
  refine lv_iload_n hx hb dX5_setLink_13 rfl (lv_at hl 3 rfl) ?_
  refine lv_if_lt (tgt := 23) hx hb dX5_setLink_14 (by decide) (fun c => absurd c hc1) (fun _ => ?_)
  refine lv_iload_n hx hb dX5_setLink_17 rfl (lv_at hl 3 rfl) ?_
  refine lv_bipush (v := nI 20) hx hb dX5_setLink_18 (by decide) ?_
  refine lv_icmp_le (tgt := 33) hx hb dX5_setLink_20 (by decide) (fun c => absurd c hc2) (fun _ => ?_)
  exact eT (E := "java/lang/IllegalArgumentException") (ik := 52) (is := 54) (ic := 56) (text := "no such link or cost") (rest := []) B hl.1 hst hno hX hP hS (List.mem_of_getElem? (i := 0) rfl) (List.mem_of_getElem? (i := 0) rfl) m_7_4 m_7_5 dX5_setLink_23 dX5_setLink_26 dX5_setLink_27 dX5_setLink_29 dX5_setLink_32 (Nat.le_of_ble_eq_true rfl) ⟨Nat.le_of_ble_eq_true rfl, Nat.le_of_ble_eq_true rfl, Nat.le_of_ble_eq_true rfl, Nat.le_of_ble_eq_true rfl⟩
set_option maxHeartbeats 4000000 in
set_option maxRecDepth 100000 in
theorem c_X5_setCandidate_b1 (l : Launch) (D : va_G) (cI cZ : ClassId) (ad : Nat → Nat) (rc rl rh fr fw fc fg ps pg pr pd qp qt qf qo ct : Nat → Int32) (cand : Int32) (lim : Int32) (now : Int32) (was : Int32) (sent : Nat) (qfi : Nat) (qsz : Nat) (r : Int32) (on : Bool) (hst : l.stackTraces = false) (hbad : ¬ (f_X5_isRouter_r r) = true) : MXi l yX5_setCandidate cX5_setCandidate 4 .boolean { frames := 7, cells := 1, slots := 6, locals := 110 } D (TY cI cZ) [.ref (ad 0), .int r, .int (bI on)] (wC cI ad rc rl rh fr fw fc fg ps pg pr pd qp qt qf qo ct cand lim now was (nI sent) (nI qfi) (nI qsz)) "java/lang/IndexOutOfBoundsException" := by
  refine MXi.mk (by decide +kernel) (Nat.le_of_ble_eq_true rfl) ?_
  intro p e s m below meth c A ls B hno hX hA hP hD hS hl
  have hx := B.1
  have hb := B.2.1
  have hts := B.2.2.2.2.2.1
  have hN := B.2.2.2.2.2.2.2.1
  have hK := B.2.2.2.2.2.2.2.2.1
  have hl : lv_has ls 4 [(0, .ref (ad 0)), (1, .int r), (2, .int (bI on))] := hl
  refine lv_iload_n hx hb dX5_setCandidate_0 rfl (lv_at hl 1 rfl) ?_
  exact fXS_v (as := [.int r]) (rest := []) B hl.1 (c_X5_checkRouter_x l D cI cZ (wC cI ad rc rl rh fr fw fc fg ps pg pr pd qp qt qf qo ct cand lim now was (nI sent) (nI qfi) (nI qsz)) r hst hbad) (x_cbx ⟨rfl, rfl⟩ 1 hts m_7_8 m_1_2 m_7_6 (by decide +kernel) ⟨Nat.le_of_ble_eq_true rfl, Nat.le_of_ble_eq_true rfl⟩) m_7_7 rfl rfl hno hX hP hD hS hA (Nat.le_of_ble_eq_true rfl) ⟨Nat.le_of_ble_eq_true rfl, Nat.le_of_ble_eq_true rfl⟩ dX5_setCandidate_1
set_option maxHeartbeats 4000000 in
set_option maxRecDepth 100000 in
theorem c_X5_setLimit_b1 (l : Launch) (D : va_G) (cI cZ : ClassId) (ad : Nat → Nat) (rc rl rh fr fw fc fg ps pg pr pd qp qt qf qo ct : Nat → Int32) (cand : Int32) (lim : Int32) (now : Int32) (was : Int32) (sent : Nat) (qfi : Nat) (qsz : Nat) (li : Int32) (hst : l.stackTraces = false) (hc0 : li < (nI 1)) : MXi l yX5_setLimit cX5_setLimit 3 .int { frames := 6, cells := 1, slots := 6, locals := 90 } D (TY cI cZ) [.ref (ad 0), .int li] (wC cI ad rc rl rh fr fw fc fg ps pg pr pd qp qt qf qo ct cand lim now was (nI sent) (nI qfi) (nI qsz)) "java/lang/IllegalArgumentException" := by
  refine MXi.mk (by decide +kernel) (Nat.le_of_ble_eq_true rfl) ?_
  intro p e s m below meth c A ls B hno hX hA hP hD hS hl
  have hx := B.1
  have hb := B.2.1
  have hts := B.2.2.2.2.2.1
  have hN := B.2.2.2.2.2.2.2.1
  have hK := B.2.2.2.2.2.2.2.2.1
  have hl : lv_has ls 3 [(0, .ref (ad 0)), (1, .int li)] := hl
  refine lv_iload_n hx hb dX5_setLimit_0 rfl (lv_at hl 1 rfl) ?_
  refine lv_iconst (v := nI 1) hx hb dX5_setLimit_1 (by decide) ?_
  refine lv_icmp_lt (tgt := 11) hx hb dX5_setLimit_2 (by decide) (fun _ => ?_) (fun c => absurd hc0 c)
  exact eT (E := "java/lang/IllegalArgumentException") (ik := 52) (is := 92) (ic := 56) (text := "no such limit") (rest := []) B hl.1 hst hno hX hP hS (List.mem_of_getElem? (i := 0) rfl) (List.mem_of_getElem? (i := 1) rfl) m_7_4 m_7_5 dX5_setLimit_11 dX5_setLimit_14 dX5_setLimit_15 dX5_setLimit_17 dX5_setLimit_20 (Nat.le_of_ble_eq_true rfl) ⟨Nat.le_of_ble_eq_true rfl, Nat.le_of_ble_eq_true rfl, Nat.le_of_ble_eq_true rfl, Nat.le_of_ble_eq_true rfl⟩
set_option maxHeartbeats 4000000 in
set_option maxRecDepth 100000 in
theorem c_X5_setLimit_b2 (l : Launch) (D : va_G) (cI cZ : ClassId) (ad : Nat → Nat) (rc rl rh fr fw fc fg ps pg pr pd qp qt qf qo ct : Nat → Int32) (cand : Int32) (lim : Int32) (now : Int32) (was : Int32) (sent : Nat) (qfi : Nat) (qsz : Nat) (li : Int32) (hst : l.stackTraces = false) (hc0 : ¬ (li < (nI 1))) (hc1 : ¬ (li ≤ (nI 100))) : MXi l yX5_setLimit cX5_setLimit 3 .int { frames := 6, cells := 1, slots := 6, locals := 90 } D (TY cI cZ) [.ref (ad 0), .int li] (wC cI ad rc rl rh fr fw fc fg ps pg pr pd qp qt qf qo ct cand lim now was (nI sent) (nI qfi) (nI qsz)) "java/lang/IllegalArgumentException" := by
  refine MXi.mk (by decide +kernel) (Nat.le_of_ble_eq_true rfl) ?_
  intro p e s m below meth c A ls B hno hX hA hP hD hS hl
  have hx := B.1
  have hb := B.2.1
  have hts := B.2.2.2.2.2.1
  have hN := B.2.2.2.2.2.2.2.1
  have hK := B.2.2.2.2.2.2.2.2.1
  have hl : lv_has ls 3 [(0, .ref (ad 0)), (1, .int li)] := hl
  refine lv_iload_n hx hb dX5_setLimit_0 rfl (lv_at hl 1 rfl) ?_
  refine lv_iconst (v := nI 1) hx hb dX5_setLimit_1 (by decide) ?_
  refine lv_icmp_lt (tgt := 11) hx hb dX5_setLimit_2 (by decide) (fun c => absurd c hc0) (fun _ => ?_)
  refine lv_iload_n hx hb dX5_setLimit_5 rfl (lv_at hl 1 rfl) ?_
  refine lv_bipush (v := nI 100) hx hb dX5_setLimit_6 (by decide) ?_
  refine lv_icmp_le (tgt := 21) hx hb dX5_setLimit_8 (by decide) (fun c => absurd c hc1) (fun _ => ?_)
  exact eT (E := "java/lang/IllegalArgumentException") (ik := 52) (is := 92) (ic := 56) (text := "no such limit") (rest := []) B hl.1 hst hno hX hP hS (List.mem_of_getElem? (i := 0) rfl) (List.mem_of_getElem? (i := 1) rfl) m_7_4 m_7_5 dX5_setLimit_11 dX5_setLimit_14 dX5_setLimit_15 dX5_setLimit_17 dX5_setLimit_20 (Nat.le_of_ble_eq_true rfl) ⟨Nat.le_of_ble_eq_true rfl, Nat.le_of_ble_eq_true rfl, Nat.le_of_ble_eq_true rfl, Nat.le_of_ble_eq_true rfl⟩
set_option maxHeartbeats 4000000 in
set_option maxRecDepth 100000 in
theorem c_X5_distance_b1 (l : Launch) (D : va_G) (cI cZ : ClassId) (ad : Nat → Nat) (rc rl rh fr fw fc fg ps pg pr pd qp qt qf qo ct : Nat → Int32) (cand : Int32) (lim : Int32) (now : Int32) (was : Int32) (sent : Nat) (qfi : Nat) (qsz : Nat) (r : Int32) (o : Int32) (hst : l.stackTraces = false) (hbad : ¬ (f_X5_isRouter_r r) = true) : MXi l yX5_distance cX5_distance 3 .int { frames := 7, cells := 1, slots := 6, locals := 110 } D (TY cI cZ) [.ref (ad 0), .int r, .int o] (wC cI ad rc rl rh fr fw fc fg ps pg pr pd qp qt qf qo ct cand lim now was (nI sent) (nI qfi) (nI qsz)) "java/lang/IndexOutOfBoundsException" := by
  refine MXi.mk (by decide +kernel) (Nat.le_of_ble_eq_true rfl) ?_
  intro p e s m below meth c A ls B hno hX hA hP hD hS hl
  have hx := B.1
  have hb := B.2.1
  have hts := B.2.2.2.2.2.1
  have hN := B.2.2.2.2.2.2.2.1
  have hK := B.2.2.2.2.2.2.2.2.1
  have hl : lv_has ls 3 [(0, .ref (ad 0)), (1, .int r), (2, .int o)] := hl
  refine lv_iload_n hx hb dX5_distance_0 rfl (lv_at hl 1 rfl) ?_
  exact fXS_v (as := [.int r]) (rest := []) B hl.1 (c_X5_checkRouter_x l D cI cZ (wC cI ad rc rl rh fr fw fc fg ps pg pr pd qp qt qf qo ct cand lim now was (nI sent) (nI qfi) (nI qsz)) r hst hbad) (x_cbx ⟨rfl, rfl⟩ 1 hts m_7_8 m_1_2 m_7_6 (by decide +kernel) ⟨Nat.le_of_ble_eq_true rfl, Nat.le_of_ble_eq_true rfl⟩) m_7_7 rfl rfl hno hX hP hD hS hA (Nat.le_of_ble_eq_true rfl) ⟨Nat.le_of_ble_eq_true rfl, Nat.le_of_ble_eq_true rfl⟩ dX5_distance_1
set_option maxHeartbeats 4000000 in
set_option maxRecDepth 100000 in
theorem c_X5_nextHop_b1 (l : Launch) (D : va_G) (cI cZ : ClassId) (ad : Nat → Nat) (rc rl rh fr fw fc fg ps pg pr pd qp qt qf qo ct : Nat → Int32) (cand : Int32) (lim : Int32) (now : Int32) (was : Int32) (sent : Nat) (qfi : Nat) (qsz : Nat) (r : Int32) (o : Int32) (hst : l.stackTraces = false) (hbad : ¬ (f_X5_isRouter_r r) = true) : MXi l yX5_nextHop cX5_nextHop 3 .int { frames := 7, cells := 1, slots := 6, locals := 110 } D (TY cI cZ) [.ref (ad 0), .int r, .int o] (wC cI ad rc rl rh fr fw fc fg ps pg pr pd qp qt qf qo ct cand lim now was (nI sent) (nI qfi) (nI qsz)) "java/lang/IndexOutOfBoundsException" := by
  refine MXi.mk (by decide +kernel) (Nat.le_of_ble_eq_true rfl) ?_
  intro p e s m below meth c A ls B hno hX hA hP hD hS hl
  have hx := B.1
  have hb := B.2.1
  have hts := B.2.2.2.2.2.1
  have hN := B.2.2.2.2.2.2.2.1
  have hK := B.2.2.2.2.2.2.2.2.1
  have hl : lv_has ls 3 [(0, .ref (ad 0)), (1, .int r), (2, .int o)] := hl
  refine lv_iload_n hx hb dX5_nextHop_0 rfl (lv_at hl 1 rfl) ?_
  exact fXS_v (as := [.int r]) (rest := []) B hl.1 (c_X5_checkRouter_x l D cI cZ (wC cI ad rc rl rh fr fw fc fg ps pg pr pd qp qt qf qo ct cand lim now was (nI sent) (nI qfi) (nI qsz)) r hst hbad) (x_cbx ⟨rfl, rfl⟩ 1 hts m_7_8 m_1_2 m_7_6 (by decide +kernel) ⟨Nat.le_of_ble_eq_true rfl, Nat.le_of_ble_eq_true rfl⟩) m_7_7 rfl rfl hno hX hP hD hS hA (Nat.le_of_ble_eq_true rfl) ⟨Nat.le_of_ble_eq_true rfl, Nat.le_of_ble_eq_true rfl⟩ dX5_nextHop_1
set_option maxHeartbeats 4000000 in
set_option maxRecDepth 100000 in
theorem c_X5_distance_b2 (l : Launch) (D : va_G) (cI cZ : ClassId) (ad : Nat → Nat) (rc rl rh fr fw fc fg ps pg pr pd qp qt qf qo ct : Nat → Int32) (cand : Int32) (lim : Int32) (now : Int32) (was : Int32) (sent : Nat) (qfi : Nat) (qsz : Nat) (r : Nat) (o : Int32) (hr : r < 10) (hst : l.stackTraces = false) (hbad : ¬ (f_X5_isRouter_r o) = true) : MXi l yX5_distance cX5_distance 3 .int { frames := 7, cells := 1, slots := 6, locals := 110 } D (TY cI cZ) [.ref (ad 0), .int (nI r), .int o] (wC cI ad rc rl rh fr fw fc fg ps pg pr pd qp qt qf qo ct cand lim now was (nI sent) (nI qfi) (nI qsz)) "java/lang/IndexOutOfBoundsException" := by
  refine MXi.mk (by decide +kernel) (Nat.le_of_ble_eq_true rfl) ?_
  intro p e s m below meth c A ls B hno hX hA hP hD hS hl
  have hx := B.1
  have hb := B.2.1
  have hts := B.2.2.2.2.2.1
  have hN := B.2.2.2.2.2.2.2.1
  have hK := B.2.2.2.2.2.2.2.2.1
  have hl : lv_has ls 3 [(0, .ref (ad 0)), (1, .int (nI r)), (2, .int o)] := hl
  refine lv_iload_n hx hb dX5_distance_0 rfl (lv_at hl 1 rfl) ?_
  refine fS_v (as := [.int (nI r)]) (rest := []) B hl.1 (c_X5_checkRouter l D cI cZ (wC cI ad rc rl rh fr fw fc fg ps pg pr pd qp qt qf qo ct cand lim now was (nI sent) (nI qfi) (nI qsz)) r (by omega)) (l_RX5_48 hts ⟨rfl, rfl⟩ ⟨Nat.le_of_ble_eq_true rfl, Nat.le_of_ble_eq_true rfl⟩) m_7_7 rfl rfl hP hD hS hA rfl (Nat.le_of_ble_eq_true rfl) dX5_distance_1 (fun H locs hP hD hS => ?_)
  refine lv_iload_n hx hb dX5_distance_4 rfl (lv_at hl 2 rfl) ?_
  exact fXS_v (as := [.int o]) (rest := []) B hl.1 (c_X5_checkRouter_x l D cI cZ (wC cI ad rc rl rh fr fw fc fg ps pg pr pd qp qt qf qo ct cand lim now was (nI sent) (nI qfi) (nI qsz)) o hst hbad) (x_cbx ⟨rfl, rfl⟩ 1 hts m_7_8 m_1_2 m_7_6 (by decide +kernel) ⟨Nat.le_of_ble_eq_true rfl, Nat.le_of_ble_eq_true rfl⟩) m_7_7 rfl rfl hno hX hP hD hS hA (Nat.le_of_ble_eq_true rfl) ⟨Nat.le_of_ble_eq_true rfl, Nat.le_of_ble_eq_true rfl⟩ dX5_distance_5
set_option maxHeartbeats 4000000 in
set_option maxRecDepth 100000 in
theorem c_X5_nextHop_b2 (l : Launch) (D : va_G) (cI cZ : ClassId) (ad : Nat → Nat) (rc rl rh fr fw fc fg ps pg pr pd qp qt qf qo ct : Nat → Int32) (cand : Int32) (lim : Int32) (now : Int32) (was : Int32) (sent : Nat) (qfi : Nat) (qsz : Nat) (r : Nat) (o : Int32) (hr : r < 10) (hst : l.stackTraces = false) (hbad : ¬ (f_X5_isRouter_r o) = true) : MXi l yX5_nextHop cX5_nextHop 3 .int { frames := 7, cells := 1, slots := 6, locals := 110 } D (TY cI cZ) [.ref (ad 0), .int (nI r), .int o] (wC cI ad rc rl rh fr fw fc fg ps pg pr pd qp qt qf qo ct cand lim now was (nI sent) (nI qfi) (nI qsz)) "java/lang/IndexOutOfBoundsException" := by
  refine MXi.mk (by decide +kernel) (Nat.le_of_ble_eq_true rfl) ?_
  intro p e s m below meth c A ls B hno hX hA hP hD hS hl
  have hx := B.1
  have hb := B.2.1
  have hts := B.2.2.2.2.2.1
  have hN := B.2.2.2.2.2.2.2.1
  have hK := B.2.2.2.2.2.2.2.2.1
  have hl : lv_has ls 3 [(0, .ref (ad 0)), (1, .int (nI r)), (2, .int o)] := hl
  refine lv_iload_n hx hb dX5_nextHop_0 rfl (lv_at hl 1 rfl) ?_
  refine fS_v (as := [.int (nI r)]) (rest := []) B hl.1 (c_X5_checkRouter l D cI cZ (wC cI ad rc rl rh fr fw fc fg ps pg pr pd qp qt qf qo ct cand lim now was (nI sent) (nI qfi) (nI qsz)) r (by omega)) (l_RX5_48 hts ⟨rfl, rfl⟩ ⟨Nat.le_of_ble_eq_true rfl, Nat.le_of_ble_eq_true rfl⟩) m_7_7 rfl rfl hP hD hS hA rfl (Nat.le_of_ble_eq_true rfl) dX5_nextHop_1 (fun H locs hP hD hS => ?_)
  refine lv_iload_n hx hb dX5_nextHop_4 rfl (lv_at hl 2 rfl) ?_
  exact fXS_v (as := [.int o]) (rest := []) B hl.1 (c_X5_checkRouter_x l D cI cZ (wC cI ad rc rl rh fr fw fc fg ps pg pr pd qp qt qf qo ct cand lim now was (nI sent) (nI qfi) (nI qsz)) o hst hbad) (x_cbx ⟨rfl, rfl⟩ 1 hts m_7_8 m_1_2 m_7_6 (by decide +kernel) ⟨Nat.le_of_ble_eq_true rfl, Nat.le_of_ble_eq_true rfl⟩) m_7_7 rfl rfl hno hX hP hD hS hA (Nat.le_of_ble_eq_true rfl) ⟨Nat.le_of_ble_eq_true rfl, Nat.le_of_ble_eq_true rfl⟩ dX5_nextHop_5
set_option maxHeartbeats 4000000 in
set_option maxRecDepth 100000 in
theorem c_X5_rendezvous_b1 (l : Launch) (D : va_G) (cI cZ : ClassId) (ad : Nat → Nat) (rc rl rh fr fw fc fg ps pg pr pd qp qt qf qo ct : Nat → Int32) (cand : Int32) (lim : Int32) (now : Int32) (was : Int32) (sent : Nat) (qfi : Nat) (qsz : Nat) (g : Int32) (hst : l.stackTraces = false) (hbad : ¬ (f_X5_isGroup_r g) = true) : MXi l yX5_rendezvous cX5_rendezvous 2 .int { frames := 7, cells := 1, slots := 6, locals := 110 } D (TY cI cZ) [.ref (ad 0), .int g] (wC cI ad rc rl rh fr fw fc fg ps pg pr pd qp qt qf qo ct cand lim now was (nI sent) (nI qfi) (nI qsz)) "java/lang/IndexOutOfBoundsException" := by
  refine MXi.mk (by decide +kernel) (Nat.le_of_ble_eq_true rfl) ?_
  intro p e s m below meth c A ls B hno hX hA hP hD hS hl
  have hx := B.1
  have hb := B.2.1
  have hts := B.2.2.2.2.2.1
  have hN := B.2.2.2.2.2.2.2.1
  have hK := B.2.2.2.2.2.2.2.2.1
  have hl : lv_has ls 2 [(0, .ref (ad 0)), (1, .int g)] := hl
  refine lv_iload_n hx hb dX5_rendezvous_0 rfl (lv_at hl 1 rfl) ?_
  exact fXS_v (as := [.int g]) (rest := []) B hl.1 (c_X5_checkGroup_x l D cI cZ (wC cI ad rc rl rh fr fw fc fg ps pg pr pd qp qt qf qo ct cand lim now was (nI sent) (nI qfi) (nI qsz)) g hst hbad) (x_cbx ⟨rfl, rfl⟩ 1 hts m_13_2 m_1_2 m_13_0 (by decide +kernel) ⟨Nat.le_of_ble_eq_true rfl, Nat.le_of_ble_eq_true rfl⟩) m_13_1 rfl rfl hno hX hP hD hS hA (Nat.le_of_ble_eq_true rfl) ⟨Nat.le_of_ble_eq_true rfl, Nat.le_of_ble_eq_true rfl⟩ dX5_rendezvous_1
set_option maxHeartbeats 4000000 in
set_option maxRecDepth 100000 in
theorem c_X5_members_b1 (l : Launch) (D : va_G) (cI cZ : ClassId) (ad : Nat → Nat) (rc rl rh fr fw fc fg ps pg pr pd qp qt qf qo ct : Nat → Int32) (cand : Int32) (lim : Int32) (now : Int32) (was : Int32) (sent : Nat) (qfi : Nat) (qsz : Nat) (g : Int32) (hst : l.stackTraces = false) (hbad : ¬ (f_X5_isGroup_r g) = true) : MXi l yX5_members cX5_members 2 .int { frames := 7, cells := 1, slots := 6, locals := 110 } D (TY cI cZ) [.ref (ad 0), .int g] (wC cI ad rc rl rh fr fw fc fg ps pg pr pd qp qt qf qo ct cand lim now was (nI sent) (nI qfi) (nI qsz)) "java/lang/IndexOutOfBoundsException" := by
  refine MXi.mk (by decide +kernel) (Nat.le_of_ble_eq_true rfl) ?_
  intro p e s m below meth c A ls B hno hX hA hP hD hS hl
  have hx := B.1
  have hb := B.2.1
  have hts := B.2.2.2.2.2.1
  have hN := B.2.2.2.2.2.2.2.1
  have hK := B.2.2.2.2.2.2.2.2.1
  have hl : lv_has ls 2 [(0, .ref (ad 0)), (1, .int g)] := hl
  refine lv_iload_n hx hb dX5_members_0 rfl (lv_at hl 1 rfl) ?_
  exact fXS_v (as := [.int g]) (rest := []) B hl.1 (c_X5_checkGroup_x l D cI cZ (wC cI ad rc rl rh fr fw fc fg ps pg pr pd qp qt qf qo ct cand lim now was (nI sent) (nI qfi) (nI qsz)) g hst hbad) (x_cbx ⟨rfl, rfl⟩ 1 hts m_13_2 m_1_2 m_13_0 (by decide +kernel) ⟨Nat.le_of_ble_eq_true rfl, Nat.le_of_ble_eq_true rfl⟩) m_13_1 rfl rfl hno hX hP hD hS hA (Nat.le_of_ble_eq_true rfl) ⟨Nat.le_of_ble_eq_true rfl, Nat.le_of_ble_eq_true rfl⟩ dX5_members_1
set_option maxHeartbeats 4000000 in
set_option maxRecDepth 100000 in
theorem c_X5_join_b1 (l : Launch) (D : va_G) (cI cZ : ClassId) (ad : Nat → Nat) (rc rl rh fr fw fc fg ps pg pr pd qp qt qf qo ct : Nat → Int32) (cand : Int32) (lim : Int32) (now : Int32) (was : Int32) (sent : Nat) (qfi : Nat) (qsz : Nat) (r : Int32) (g : Int32) (hst : l.stackTraces = false) (hbad : ¬ (f_X5_isRouter_r r) = true) : MXi l yX5_join cX5_join 3 .int { frames := 7, cells := 1, slots := 6, locals := 110 } D (TY cI cZ) [.ref (ad 0), .int r, .int g] (wC cI ad rc rl rh fr fw fc fg ps pg pr pd qp qt qf qo ct cand lim now was (nI sent) (nI qfi) (nI qsz)) "java/lang/IndexOutOfBoundsException" := by
  refine MXi.mk (by decide +kernel) (Nat.le_of_ble_eq_true rfl) ?_
  intro p e s m below meth c A ls B hno hX hA hP hD hS hl
  have hx := B.1
  have hb := B.2.1
  have hts := B.2.2.2.2.2.1
  have hN := B.2.2.2.2.2.2.2.1
  have hK := B.2.2.2.2.2.2.2.2.1
  have hl : lv_has ls 3 [(0, .ref (ad 0)), (1, .int r), (2, .int g)] := hl
  refine lv_iload_n hx hb dX5_join_0 rfl (lv_at hl 1 rfl) ?_
  exact fXS_v (as := [.int r]) (rest := []) B hl.1 (c_X5_checkRouter_x l D cI cZ (wC cI ad rc rl rh fr fw fc fg ps pg pr pd qp qt qf qo ct cand lim now was (nI sent) (nI qfi) (nI qsz)) r hst hbad) (x_cbx ⟨rfl, rfl⟩ 1 hts m_7_8 m_1_2 m_7_6 (by decide +kernel) ⟨Nat.le_of_ble_eq_true rfl, Nat.le_of_ble_eq_true rfl⟩) m_7_7 rfl rfl hno hX hP hD hS hA (Nat.le_of_ble_eq_true rfl) ⟨Nat.le_of_ble_eq_true rfl, Nat.le_of_ble_eq_true rfl⟩ dX5_join_1
set_option maxHeartbeats 4000000 in
set_option maxRecDepth 100000 in
theorem c_X5_leave_b1 (l : Launch) (D : va_G) (cI cZ : ClassId) (ad : Nat → Nat) (rc rl rh fr fw fc fg ps pg pr pd qp qt qf qo ct : Nat → Int32) (cand : Int32) (lim : Int32) (now : Int32) (was : Int32) (sent : Nat) (qfi : Nat) (qsz : Nat) (r : Int32) (g : Int32) (hst : l.stackTraces = false) (hbad : ¬ (f_X5_isRouter_r r) = true) : MXi l yX5_leave cX5_leave 4 .int { frames := 7, cells := 1, slots := 6, locals := 110 } D (TY cI cZ) [.ref (ad 0), .int r, .int g] (wC cI ad rc rl rh fr fw fc fg ps pg pr pd qp qt qf qo ct cand lim now was (nI sent) (nI qfi) (nI qsz)) "java/lang/IndexOutOfBoundsException" := by
  refine MXi.mk (by decide +kernel) (Nat.le_of_ble_eq_true rfl) ?_
  intro p e s m below meth c A ls B hno hX hA hP hD hS hl
  have hx := B.1
  have hb := B.2.1
  have hts := B.2.2.2.2.2.1
  have hN := B.2.2.2.2.2.2.2.1
  have hK := B.2.2.2.2.2.2.2.2.1
  have hl : lv_has ls 4 [(0, .ref (ad 0)), (1, .int r), (2, .int g)] := hl
  refine lv_iload_n hx hb dX5_leave_0 rfl (lv_at hl 1 rfl) ?_
  exact fXS_v (as := [.int r]) (rest := []) B hl.1 (c_X5_checkRouter_x l D cI cZ (wC cI ad rc rl rh fr fw fc fg ps pg pr pd qp qt qf qo ct cand lim now was (nI sent) (nI qfi) (nI qsz)) r hst hbad) (x_cbx ⟨rfl, rfl⟩ 1 hts m_7_8 m_1_2 m_7_6 (by decide +kernel) ⟨Nat.le_of_ble_eq_true rfl, Nat.le_of_ble_eq_true rfl⟩) m_7_7 rfl rfl hno hX hP hD hS hA (Nat.le_of_ble_eq_true rfl) ⟨Nat.le_of_ble_eq_true rfl, Nat.le_of_ble_eq_true rfl⟩ dX5_leave_1
set_option maxHeartbeats 4000000 in
set_option maxRecDepth 100000 in
theorem c_X5_switched_b1 (l : Launch) (D : va_G) (cI cZ : ClassId) (ad : Nat → Nat) (rc rl rh fr fw fc fg ps pg pr pd qp qt qf qo ct : Nat → Int32) (cand : Int32) (lim : Int32) (now : Int32) (was : Int32) (sent : Nat) (qfi : Nat) (qsz : Nat) (r : Int32) (g : Int32) (hst : l.stackTraces = false) (hbad : ¬ (f_X5_isRouter_r r) = true) : MXi l yX5_switched cX5_switched 3 .int { frames := 7, cells := 1, slots := 6, locals := 110 } D (TY cI cZ) [.ref (ad 0), .int r, .int g] (wC cI ad rc rl rh fr fw fc fg ps pg pr pd qp qt qf qo ct cand lim now was (nI sent) (nI qfi) (nI qsz)) "java/lang/IndexOutOfBoundsException" := by
  refine MXi.mk (by decide +kernel) (Nat.le_of_ble_eq_true rfl) ?_
  intro p e s m below meth c A ls B hno hX hA hP hD hS hl
  have hx := B.1
  have hb := B.2.1
  have hts := B.2.2.2.2.2.1
  have hN := B.2.2.2.2.2.2.2.1
  have hK := B.2.2.2.2.2.2.2.2.1
  have hl : lv_has ls 3 [(0, .ref (ad 0)), (1, .int r), (2, .int g)] := hl
  refine lv_iload_n hx hb dX5_switched_0 rfl (lv_at hl 1 rfl) ?_
  exact fXS_v (as := [.int r]) (rest := []) B hl.1 (c_X5_checkRouter_x l D cI cZ (wC cI ad rc rl rh fr fw fc fg ps pg pr pd qp qt qf qo ct cand lim now was (nI sent) (nI qfi) (nI qsz)) r hst hbad) (x_cbx ⟨rfl, rfl⟩ 1 hts m_7_8 m_1_2 m_7_6 (by decide +kernel) ⟨Nat.le_of_ble_eq_true rfl, Nat.le_of_ble_eq_true rfl⟩) m_7_7 rfl rfl hno hX hP hD hS hA (Nat.le_of_ble_eq_true rfl) ⟨Nat.le_of_ble_eq_true rfl, Nat.le_of_ble_eq_true rfl⟩ dX5_switched_1
set_option maxHeartbeats 4000000 in
set_option maxRecDepth 100000 in
theorem c_X5_branches_b1 (l : Launch) (D : va_G) (cI cZ : ClassId) (ad : Nat → Nat) (rc rl rh fr fw fc fg ps pg pr pd qp qt qf qo ct : Nat → Int32) (cand : Int32) (lim : Int32) (now : Int32) (was : Int32) (sent : Nat) (qfi : Nat) (qsz : Nat) (r : Int32) (g : Int32) (hst : l.stackTraces = false) (hbad : ¬ (f_X5_isRouter_r r) = true) : MXi l yX5_branches cX5_branches 3 .int { frames := 7, cells := 1, slots := 6, locals := 110 } D (TY cI cZ) [.ref (ad 0), .int r, .int g] (wC cI ad rc rl rh fr fw fc fg ps pg pr pd qp qt qf qo ct cand lim now was (nI sent) (nI qfi) (nI qsz)) "java/lang/IndexOutOfBoundsException" := by
  refine MXi.mk (by decide +kernel) (Nat.le_of_ble_eq_true rfl) ?_
  intro p e s m below meth c A ls B hno hX hA hP hD hS hl
  have hx := B.1
  have hb := B.2.1
  have hts := B.2.2.2.2.2.1
  have hN := B.2.2.2.2.2.2.2.1
  have hK := B.2.2.2.2.2.2.2.2.1
  have hl : lv_has ls 3 [(0, .ref (ad 0)), (1, .int r), (2, .int g)] := hl
  refine lv_iload_n hx hb dX5_branches_0 rfl (lv_at hl 1 rfl) ?_
  exact fXS_v (as := [.int r]) (rest := []) B hl.1 (c_X5_checkRouter_x l D cI cZ (wC cI ad rc rl rh fr fw fc fg ps pg pr pd qp qt qf qo ct cand lim now was (nI sent) (nI qfi) (nI qsz)) r hst hbad) (x_cbx ⟨rfl, rfl⟩ 1 hts m_7_8 m_1_2 m_7_6 (by decide +kernel) ⟨Nat.le_of_ble_eq_true rfl, Nat.le_of_ble_eq_true rfl⟩) m_7_7 rfl rfl hno hX hP hD hS hA (Nat.le_of_ble_eq_true rfl) ⟨Nat.le_of_ble_eq_true rfl, Nat.le_of_ble_eq_true rfl⟩ dX5_branches_1
set_option maxHeartbeats 4000000 in
set_option maxRecDepth 100000 in
theorem c_X5_send_b1 (l : Launch) (D : va_G) (cI cZ : ClassId) (ad : Nat → Nat) (rc rl rh fr fw fc fg ps pg pr pd qp qt qf qo ct : Nat → Int32) (cand : Int32) (lim : Int32) (now : Int32) (was : Int32) (sent : Nat) (qfi : Nat) (qsz : Nat) (r : Int32) (g : Int32) (hst : l.stackTraces = false) (hbad : ¬ (f_X5_isRouter_r r) = true) : MXi l yX5_send cX5_send 5 .int { frames := 7, cells := 1, slots := 6, locals := 110 } D (TY cI cZ) [.ref (ad 0), .int r, .int g] (wC cI ad rc rl rh fr fw fc fg ps pg pr pd qp qt qf qo ct cand lim now was (nI sent) (nI qfi) (nI qsz)) "java/lang/IndexOutOfBoundsException" := by
  refine MXi.mk (by decide +kernel) (Nat.le_of_ble_eq_true rfl) ?_
  intro p e s m below meth c A ls B hno hX hA hP hD hS hl
  have hx := B.1
  have hb := B.2.1
  have hts := B.2.2.2.2.2.1
  have hN := B.2.2.2.2.2.2.2.1
  have hK := B.2.2.2.2.2.2.2.2.1
  have hl : lv_has ls 5 [(0, .ref (ad 0)), (1, .int r), (2, .int g)] := hl
  refine lv_iload_n hx hb dX5_send_0 rfl (lv_at hl 1 rfl) ?_
  exact fXS_v (as := [.int r]) (rest := []) B hl.1 (c_X5_checkRouter_x l D cI cZ (wC cI ad rc rl rh fr fw fc fg ps pg pr pd qp qt qf qo ct cand lim now was (nI sent) (nI qfi) (nI qsz)) r hst hbad) (x_cbx ⟨rfl, rfl⟩ 1 hts m_7_8 m_1_2 m_7_6 (by decide +kernel) ⟨Nat.le_of_ble_eq_true rfl, Nat.le_of_ble_eq_true rfl⟩) m_7_7 rfl rfl hno hX hP hD hS hA (Nat.le_of_ble_eq_true rfl) ⟨Nat.le_of_ble_eq_true rfl, Nat.le_of_ble_eq_true rfl⟩ dX5_send_1
set_option maxHeartbeats 4000000 in
set_option maxRecDepth 100000 in
theorem c_X5_floodMembers_b1 (l : Launch) (D : va_G) (cI cZ : ClassId) (ad : Nat → Nat) (rc rl rh fr fw fc fg ps pg pr pd qp qt qf qo ct : Nat → Int32) (cand : Int32) (lim : Int32) (now : Int32) (was : Int32) (sent : Nat) (qfi : Nat) (qsz : Nat) (r : Int32) (g : Int32) (hst : l.stackTraces = false) (hbad : ¬ (f_X5_isRouter_r r) = true) : MXi l yX5_floodMembers cX5_floodMembers 3 .int { frames := 7, cells := 1, slots := 6, locals := 110 } D (TY cI cZ) [.ref (ad 0), .int r, .int g] (wC cI ad rc rl rh fr fw fc fg ps pg pr pd qp qt qf qo ct cand lim now was (nI sent) (nI qfi) (nI qsz)) "java/lang/IndexOutOfBoundsException" := by
  refine MXi.mk (by decide +kernel) (Nat.le_of_ble_eq_true rfl) ?_
  intro p e s m below meth c A ls B hno hX hA hP hD hS hl
  have hx := B.1
  have hb := B.2.1
  have hts := B.2.2.2.2.2.1
  have hN := B.2.2.2.2.2.2.2.1
  have hK := B.2.2.2.2.2.2.2.2.1
  have hl : lv_has ls 3 [(0, .ref (ad 0)), (1, .int r), (2, .int g)] := hl
  refine lv_iload_n hx hb dX5_floodMembers_0 rfl (lv_at hl 1 rfl) ?_
  exact fXS_v (as := [.int r]) (rest := []) B hl.1 (c_X5_checkRouter_x l D cI cZ (wC cI ad rc rl rh fr fw fc fg ps pg pr pd qp qt qf qo ct cand lim now was (nI sent) (nI qfi) (nI qsz)) r hst hbad) (x_cbx ⟨rfl, rfl⟩ 1 hts m_7_8 m_1_2 m_7_6 (by decide +kernel) ⟨Nat.le_of_ble_eq_true rfl, Nat.le_of_ble_eq_true rfl⟩) m_7_7 rfl rfl hno hX hP hD hS hA (Nat.le_of_ble_eq_true rfl) ⟨Nat.le_of_ble_eq_true rfl, Nat.le_of_ble_eq_true rfl⟩ dX5_floodMembers_1
set_option maxHeartbeats 4000000 in
set_option maxRecDepth 100000 in
theorem c_X5_join_b2 (l : Launch) (D : va_G) (cI cZ : ClassId) (ad : Nat → Nat) (rc rl rh fr fw fc fg ps pg pr pd qp qt qf qo ct : Nat → Int32) (cand : Int32) (lim : Int32) (now : Int32) (was : Int32) (sent : Nat) (qfi : Nat) (qsz : Nat) (r : Nat) (g : Int32) (hr : r < 10) (hst : l.stackTraces = false) (hbad : ¬ (f_X5_isGroup_r g) = true) : MXi l yX5_join cX5_join 3 .int { frames := 7, cells := 1, slots := 6, locals := 110 } D (TY cI cZ) [.ref (ad 0), .int (nI r), .int g] (wC cI ad rc rl rh fr fw fc fg ps pg pr pd qp qt qf qo ct cand lim now was (nI sent) (nI qfi) (nI qsz)) "java/lang/IndexOutOfBoundsException" := by
  refine MXi.mk (by decide +kernel) (Nat.le_of_ble_eq_true rfl) ?_
  intro p e s m below meth c A ls B hno hX hA hP hD hS hl
  have hx := B.1
  have hb := B.2.1
  have hts := B.2.2.2.2.2.1
  have hN := B.2.2.2.2.2.2.2.1
  have hK := B.2.2.2.2.2.2.2.2.1
  have hl : lv_has ls 3 [(0, .ref (ad 0)), (1, .int (nI r)), (2, .int g)] := hl
  refine lv_iload_n hx hb dX5_join_0 rfl (lv_at hl 1 rfl) ?_
  refine fS_v (as := [.int (nI r)]) (rest := []) B hl.1 (c_X5_checkRouter l D cI cZ (wC cI ad rc rl rh fr fw fc fg ps pg pr pd qp qt qf qo ct cand lim now was (nI sent) (nI qfi) (nI qsz)) r (by omega)) (l_RX5_48 hts ⟨rfl, rfl⟩ ⟨Nat.le_of_ble_eq_true rfl, Nat.le_of_ble_eq_true rfl⟩) m_7_7 rfl rfl hP hD hS hA rfl (Nat.le_of_ble_eq_true rfl) dX5_join_1 (fun H locs hP hD hS => ?_)
  refine lv_iload_n hx hb dX5_join_4 rfl (lv_at hl 2 rfl) ?_
  exact fXS_v (as := [.int g]) (rest := []) B hl.1 (c_X5_checkGroup_x l D cI cZ (wC cI ad rc rl rh fr fw fc fg ps pg pr pd qp qt qf qo ct cand lim now was (nI sent) (nI qfi) (nI qsz)) g hst hbad) (x_cbx ⟨rfl, rfl⟩ 1 hts m_13_2 m_1_2 m_13_0 (by decide +kernel) ⟨Nat.le_of_ble_eq_true rfl, Nat.le_of_ble_eq_true rfl⟩) m_13_1 rfl rfl hno hX hP hD hS hA (Nat.le_of_ble_eq_true rfl) ⟨Nat.le_of_ble_eq_true rfl, Nat.le_of_ble_eq_true rfl⟩ dX5_join_5
set_option maxHeartbeats 4000000 in
set_option maxRecDepth 100000 in
theorem c_X5_leave_b2 (l : Launch) (D : va_G) (cI cZ : ClassId) (ad : Nat → Nat) (rc rl rh fr fw fc fg ps pg pr pd qp qt qf qo ct : Nat → Int32) (cand : Int32) (lim : Int32) (now : Int32) (was : Int32) (sent : Nat) (qfi : Nat) (qsz : Nat) (r : Nat) (g : Int32) (hr : r < 10) (hst : l.stackTraces = false) (hbad : ¬ (f_X5_isGroup_r g) = true) : MXi l yX5_leave cX5_leave 4 .int { frames := 7, cells := 1, slots := 6, locals := 110 } D (TY cI cZ) [.ref (ad 0), .int (nI r), .int g] (wC cI ad rc rl rh fr fw fc fg ps pg pr pd qp qt qf qo ct cand lim now was (nI sent) (nI qfi) (nI qsz)) "java/lang/IndexOutOfBoundsException" := by
  refine MXi.mk (by decide +kernel) (Nat.le_of_ble_eq_true rfl) ?_
  intro p e s m below meth c A ls B hno hX hA hP hD hS hl
  have hx := B.1
  have hb := B.2.1
  have hts := B.2.2.2.2.2.1
  have hN := B.2.2.2.2.2.2.2.1
  have hK := B.2.2.2.2.2.2.2.2.1
  have hl : lv_has ls 4 [(0, .ref (ad 0)), (1, .int (nI r)), (2, .int g)] := hl
  refine lv_iload_n hx hb dX5_leave_0 rfl (lv_at hl 1 rfl) ?_
  refine fS_v (as := [.int (nI r)]) (rest := []) B hl.1 (c_X5_checkRouter l D cI cZ (wC cI ad rc rl rh fr fw fc fg ps pg pr pd qp qt qf qo ct cand lim now was (nI sent) (nI qfi) (nI qsz)) r (by omega)) (l_RX5_48 hts ⟨rfl, rfl⟩ ⟨Nat.le_of_ble_eq_true rfl, Nat.le_of_ble_eq_true rfl⟩) m_7_7 rfl rfl hP hD hS hA rfl (Nat.le_of_ble_eq_true rfl) dX5_leave_1 (fun H locs hP hD hS => ?_)
  refine lv_iload_n hx hb dX5_leave_4 rfl (lv_at hl 2 rfl) ?_
  exact fXS_v (as := [.int g]) (rest := []) B hl.1 (c_X5_checkGroup_x l D cI cZ (wC cI ad rc rl rh fr fw fc fg ps pg pr pd qp qt qf qo ct cand lim now was (nI sent) (nI qfi) (nI qsz)) g hst hbad) (x_cbx ⟨rfl, rfl⟩ 1 hts m_13_2 m_1_2 m_13_0 (by decide +kernel) ⟨Nat.le_of_ble_eq_true rfl, Nat.le_of_ble_eq_true rfl⟩) m_13_1 rfl rfl hno hX hP hD hS hA (Nat.le_of_ble_eq_true rfl) ⟨Nat.le_of_ble_eq_true rfl, Nat.le_of_ble_eq_true rfl⟩ dX5_leave_5
set_option maxHeartbeats 4000000 in
set_option maxRecDepth 100000 in
theorem c_X5_switched_b2 (l : Launch) (D : va_G) (cI cZ : ClassId) (ad : Nat → Nat) (rc rl rh fr fw fc fg ps pg pr pd qp qt qf qo ct : Nat → Int32) (cand : Int32) (lim : Int32) (now : Int32) (was : Int32) (sent : Nat) (qfi : Nat) (qsz : Nat) (r : Nat) (g : Int32) (hr : r < 10) (hst : l.stackTraces = false) (hbad : ¬ (f_X5_isGroup_r g) = true) : MXi l yX5_switched cX5_switched 3 .int { frames := 7, cells := 1, slots := 6, locals := 110 } D (TY cI cZ) [.ref (ad 0), .int (nI r), .int g] (wC cI ad rc rl rh fr fw fc fg ps pg pr pd qp qt qf qo ct cand lim now was (nI sent) (nI qfi) (nI qsz)) "java/lang/IndexOutOfBoundsException" := by
  refine MXi.mk (by decide +kernel) (Nat.le_of_ble_eq_true rfl) ?_
  intro p e s m below meth c A ls B hno hX hA hP hD hS hl
  have hx := B.1
  have hb := B.2.1
  have hts := B.2.2.2.2.2.1
  have hN := B.2.2.2.2.2.2.2.1
  have hK := B.2.2.2.2.2.2.2.2.1
  have hl : lv_has ls 3 [(0, .ref (ad 0)), (1, .int (nI r)), (2, .int g)] := hl
  refine lv_iload_n hx hb dX5_switched_0 rfl (lv_at hl 1 rfl) ?_
  refine fS_v (as := [.int (nI r)]) (rest := []) B hl.1 (c_X5_checkRouter l D cI cZ (wC cI ad rc rl rh fr fw fc fg ps pg pr pd qp qt qf qo ct cand lim now was (nI sent) (nI qfi) (nI qsz)) r (by omega)) (l_RX5_48 hts ⟨rfl, rfl⟩ ⟨Nat.le_of_ble_eq_true rfl, Nat.le_of_ble_eq_true rfl⟩) m_7_7 rfl rfl hP hD hS hA rfl (Nat.le_of_ble_eq_true rfl) dX5_switched_1 (fun H locs hP hD hS => ?_)
  refine lv_iload_n hx hb dX5_switched_4 rfl (lv_at hl 2 rfl) ?_
  exact fXS_v (as := [.int g]) (rest := []) B hl.1 (c_X5_checkGroup_x l D cI cZ (wC cI ad rc rl rh fr fw fc fg ps pg pr pd qp qt qf qo ct cand lim now was (nI sent) (nI qfi) (nI qsz)) g hst hbad) (x_cbx ⟨rfl, rfl⟩ 1 hts m_13_2 m_1_2 m_13_0 (by decide +kernel) ⟨Nat.le_of_ble_eq_true rfl, Nat.le_of_ble_eq_true rfl⟩) m_13_1 rfl rfl hno hX hP hD hS hA (Nat.le_of_ble_eq_true rfl) ⟨Nat.le_of_ble_eq_true rfl, Nat.le_of_ble_eq_true rfl⟩ dX5_switched_5
set_option maxHeartbeats 4000000 in
set_option maxRecDepth 100000 in
theorem c_X5_branches_b2 (l : Launch) (D : va_G) (cI cZ : ClassId) (ad : Nat → Nat) (rc rl rh fr fw fc fg ps pg pr pd qp qt qf qo ct : Nat → Int32) (cand : Int32) (lim : Int32) (now : Int32) (was : Int32) (sent : Nat) (qfi : Nat) (qsz : Nat) (r : Nat) (g : Int32) (hr : r < 10) (hst : l.stackTraces = false) (hbad : ¬ (f_X5_isGroup_r g) = true) : MXi l yX5_branches cX5_branches 3 .int { frames := 7, cells := 1, slots := 6, locals := 110 } D (TY cI cZ) [.ref (ad 0), .int (nI r), .int g] (wC cI ad rc rl rh fr fw fc fg ps pg pr pd qp qt qf qo ct cand lim now was (nI sent) (nI qfi) (nI qsz)) "java/lang/IndexOutOfBoundsException" := by
  refine MXi.mk (by decide +kernel) (Nat.le_of_ble_eq_true rfl) ?_
  intro p e s m below meth c A ls B hno hX hA hP hD hS hl
  have hx := B.1
  have hb := B.2.1
  have hts := B.2.2.2.2.2.1
  have hN := B.2.2.2.2.2.2.2.1
  have hK := B.2.2.2.2.2.2.2.2.1
  have hl : lv_has ls 3 [(0, .ref (ad 0)), (1, .int (nI r)), (2, .int g)] := hl
  refine lv_iload_n hx hb dX5_branches_0 rfl (lv_at hl 1 rfl) ?_
  refine fS_v (as := [.int (nI r)]) (rest := []) B hl.1 (c_X5_checkRouter l D cI cZ (wC cI ad rc rl rh fr fw fc fg ps pg pr pd qp qt qf qo ct cand lim now was (nI sent) (nI qfi) (nI qsz)) r (by omega)) (l_RX5_48 hts ⟨rfl, rfl⟩ ⟨Nat.le_of_ble_eq_true rfl, Nat.le_of_ble_eq_true rfl⟩) m_7_7 rfl rfl hP hD hS hA rfl (Nat.le_of_ble_eq_true rfl) dX5_branches_1 (fun H locs hP hD hS => ?_)
  refine lv_iload_n hx hb dX5_branches_4 rfl (lv_at hl 2 rfl) ?_
  exact fXS_v (as := [.int g]) (rest := []) B hl.1 (c_X5_checkGroup_x l D cI cZ (wC cI ad rc rl rh fr fw fc fg ps pg pr pd qp qt qf qo ct cand lim now was (nI sent) (nI qfi) (nI qsz)) g hst hbad) (x_cbx ⟨rfl, rfl⟩ 1 hts m_13_2 m_1_2 m_13_0 (by decide +kernel) ⟨Nat.le_of_ble_eq_true rfl, Nat.le_of_ble_eq_true rfl⟩) m_13_1 rfl rfl hno hX hP hD hS hA (Nat.le_of_ble_eq_true rfl) ⟨Nat.le_of_ble_eq_true rfl, Nat.le_of_ble_eq_true rfl⟩ dX5_branches_5
set_option maxHeartbeats 4000000 in
set_option maxRecDepth 100000 in
theorem c_X5_send_b2 (l : Launch) (D : va_G) (cI cZ : ClassId) (ad : Nat → Nat) (rc rl rh fr fw fc fg ps pg pr pd qp qt qf qo ct : Nat → Int32) (cand : Int32) (lim : Int32) (now : Int32) (was : Int32) (sent : Nat) (qfi : Nat) (qsz : Nat) (r : Nat) (g : Int32) (hr : r < 10) (hst : l.stackTraces = false) (hbad : ¬ (f_X5_isGroup_r g) = true) : MXi l yX5_send cX5_send 5 .int { frames := 7, cells := 1, slots := 6, locals := 110 } D (TY cI cZ) [.ref (ad 0), .int (nI r), .int g] (wC cI ad rc rl rh fr fw fc fg ps pg pr pd qp qt qf qo ct cand lim now was (nI sent) (nI qfi) (nI qsz)) "java/lang/IndexOutOfBoundsException" := by
  refine MXi.mk (by decide +kernel) (Nat.le_of_ble_eq_true rfl) ?_
  intro p e s m below meth c A ls B hno hX hA hP hD hS hl
  have hx := B.1
  have hb := B.2.1
  have hts := B.2.2.2.2.2.1
  have hN := B.2.2.2.2.2.2.2.1
  have hK := B.2.2.2.2.2.2.2.2.1
  have hl : lv_has ls 5 [(0, .ref (ad 0)), (1, .int (nI r)), (2, .int g)] := hl
  refine lv_iload_n hx hb dX5_send_0 rfl (lv_at hl 1 rfl) ?_
  refine fS_v (as := [.int (nI r)]) (rest := []) B hl.1 (c_X5_checkRouter l D cI cZ (wC cI ad rc rl rh fr fw fc fg ps pg pr pd qp qt qf qo ct cand lim now was (nI sent) (nI qfi) (nI qsz)) r (by omega)) (l_RX5_48 hts ⟨rfl, rfl⟩ ⟨Nat.le_of_ble_eq_true rfl, Nat.le_of_ble_eq_true rfl⟩) m_7_7 rfl rfl hP hD hS hA rfl (Nat.le_of_ble_eq_true rfl) dX5_send_1 (fun H locs hP hD hS => ?_)
  refine lv_iload_n hx hb dX5_send_4 rfl (lv_at hl 2 rfl) ?_
  exact fXS_v (as := [.int g]) (rest := []) B hl.1 (c_X5_checkGroup_x l D cI cZ (wC cI ad rc rl rh fr fw fc fg ps pg pr pd qp qt qf qo ct cand lim now was (nI sent) (nI qfi) (nI qsz)) g hst hbad) (x_cbx ⟨rfl, rfl⟩ 1 hts m_13_2 m_1_2 m_13_0 (by decide +kernel) ⟨Nat.le_of_ble_eq_true rfl, Nat.le_of_ble_eq_true rfl⟩) m_13_1 rfl rfl hno hX hP hD hS hA (Nat.le_of_ble_eq_true rfl) ⟨Nat.le_of_ble_eq_true rfl, Nat.le_of_ble_eq_true rfl⟩ dX5_send_5
set_option maxHeartbeats 4000000 in
set_option maxRecDepth 100000 in
theorem c_X5_floodMembers_b2 (l : Launch) (D : va_G) (cI cZ : ClassId) (ad : Nat → Nat) (rc rl rh fr fw fc fg ps pg pr pd qp qt qf qo ct : Nat → Int32) (cand : Int32) (lim : Int32) (now : Int32) (was : Int32) (sent : Nat) (qfi : Nat) (qsz : Nat) (r : Nat) (g : Int32) (hr : r < 10) (hst : l.stackTraces = false) (hbad : ¬ (f_X5_isGroup_r g) = true) : MXi l yX5_floodMembers cX5_floodMembers 3 .int { frames := 7, cells := 1, slots := 6, locals := 110 } D (TY cI cZ) [.ref (ad 0), .int (nI r), .int g] (wC cI ad rc rl rh fr fw fc fg ps pg pr pd qp qt qf qo ct cand lim now was (nI sent) (nI qfi) (nI qsz)) "java/lang/IndexOutOfBoundsException" := by
  refine MXi.mk (by decide +kernel) (Nat.le_of_ble_eq_true rfl) ?_
  intro p e s m below meth c A ls B hno hX hA hP hD hS hl
  have hx := B.1
  have hb := B.2.1
  have hts := B.2.2.2.2.2.1
  have hN := B.2.2.2.2.2.2.2.1
  have hK := B.2.2.2.2.2.2.2.2.1
  have hl : lv_has ls 3 [(0, .ref (ad 0)), (1, .int (nI r)), (2, .int g)] := hl
  refine lv_iload_n hx hb dX5_floodMembers_0 rfl (lv_at hl 1 rfl) ?_
  refine fS_v (as := [.int (nI r)]) (rest := []) B hl.1 (c_X5_checkRouter l D cI cZ (wC cI ad rc rl rh fr fw fc fg ps pg pr pd qp qt qf qo ct cand lim now was (nI sent) (nI qfi) (nI qsz)) r (by omega)) (l_RX5_48 hts ⟨rfl, rfl⟩ ⟨Nat.le_of_ble_eq_true rfl, Nat.le_of_ble_eq_true rfl⟩) m_7_7 rfl rfl hP hD hS hA rfl (Nat.le_of_ble_eq_true rfl) dX5_floodMembers_1 (fun H locs hP hD hS => ?_)
  refine lv_iload_n hx hb dX5_floodMembers_4 rfl (lv_at hl 2 rfl) ?_
  exact fXS_v (as := [.int g]) (rest := []) B hl.1 (c_X5_checkGroup_x l D cI cZ (wC cI ad rc rl rh fr fw fc fg ps pg pr pd qp qt qf qo ct cand lim now was (nI sent) (nI qfi) (nI qsz)) g hst hbad) (x_cbx ⟨rfl, rfl⟩ 1 hts m_13_2 m_1_2 m_13_0 (by decide +kernel) ⟨Nat.le_of_ble_eq_true rfl, Nat.le_of_ble_eq_true rfl⟩) m_13_1 rfl rfl hno hX hP hD hS hA (Nat.le_of_ble_eq_true rfl) ⟨Nat.le_of_ble_eq_true rfl, Nat.le_of_ble_eq_true rfl⟩ dX5_floodMembers_5
set_option maxHeartbeats 4000000 in
set_option maxRecDepth 100000 in
theorem c_X5_join_b3 (l : Launch) (D : va_G) (cI cZ : ClassId) (ad : Nat → Nat) (rc rl rh fr fw fc fg ps pg pr pd qp qt qf qo ct : Nat → Int32) (cand : Int32) (lim : Int32) (now : Int32) (was : Int32) (sent : Nat) (qfi : Nat) (qsz : Nat) (r : Nat) (g : Nat) (hr : r < 10) (hg : g < 4) (hst : l.stackTraces = false) (hc0 : (f_X5_has (fw g) r) = true) : MXi l yX5_join cX5_join 3 .int { frames := 6, cells := 1, slots := 6, locals := 90 } D (TY cI cZ) [.ref (ad 0), .int (nI r), .int (nI g)] (wC cI ad rc rl rh fr fw fc fg ps pg pr pd qp qt qf qo ct cand lim now was (nI sent) (nI qfi) (nI qsz)) "java/lang/IllegalStateException" := by
  refine MXi.mk (by decide +kernel) (Nat.le_of_ble_eq_true rfl) ?_
  intro p e s m below meth c A ls B hno hX hA hP hD hS hl
  have hx := B.1
  have hb := B.2.1
  have hts := B.2.2.2.2.2.1
  have hN := B.2.2.2.2.2.2.2.1
  have hK := B.2.2.2.2.2.2.2.2.1
  have hl : lv_has ls 3 [(0, .ref (ad 0)), (1, .int (nI r)), (2, .int (nI g))] := hl
  refine lv_iload_n hx hb dX5_join_0 rfl (lv_at hl 1 rfl) ?_
  refine fS_v (as := [.int (nI r)]) (rest := []) B hl.1 (c_X5_checkRouter l D cI cZ (wC cI ad rc rl rh fr fw fc fg ps pg pr pd qp qt qf qo ct cand lim now was (nI sent) (nI qfi) (nI qsz)) r (by omega)) (l_RX5_48 hts ⟨rfl, rfl⟩ ⟨Nat.le_of_ble_eq_true rfl, Nat.le_of_ble_eq_true rfl⟩) m_7_7 rfl rfl hP hD hS hA rfl (Nat.le_of_ble_eq_true rfl) dX5_join_1 (fun H locs hP hD hS => ?_)
  refine lv_iload_n hx hb dX5_join_4 rfl (lv_at hl 2 rfl) ?_
  refine fS_v (as := [.int (nI g)]) (rest := []) B hl.1 (c_X5_checkGroup l D cI cZ (wC cI ad rc rl rh fr fw fc fg ps pg pr pd qp qt qf qo ct cand lim now was (nI sent) (nI qfi) (nI qsz)) g (by omega)) (l_RX5_100 hts ⟨rfl, rfl⟩ ⟨Nat.le_of_ble_eq_true rfl, Nat.le_of_ble_eq_true rfl⟩) m_13_1 rfl rfl hP hD hS hA rfl (Nat.le_of_ble_eq_true rfl) dX5_join_5 (fun H locs hP hD hS => ?_)
  refine lv_aload_n hx hb dX5_join_8 rfl (lv_at hl 0 rfl) ?_
  refine lv_iload_n hx hb dX5_join_9 rfl (lv_at hl 1 rfl) ?_
  refine lv_iload_n hx hb dX5_join_10 rfl (lv_at hl 2 rfl) ?_
  refine fV_i (ci := 5) (as := [.int (nI r), .int (nI g)]) (rest := []) B hl.1 (c_X5_isMember l D cI cZ ad rc rl rh fr fw fc fg ps pg pr pd qp qt qf qo ct cand lim now was sent qfi qsz r g (by omega) (by omega)) rfl (l_RX5_106 hts ⟨rfl, rfl⟩ ⟨Nat.le_of_ble_eq_true rfl, Nat.le_of_ble_eq_true rfl⟩) m_13_22 m_13_23 rfl rfl hP hD hS hA 0 rfl wfC (Nat.le_of_ble_eq_true rfl) dX5_join_11 (fun H locs hP hD hS => ?_)
  refine r_if_eq_b (tgt := 27) hx hb dX5_join_14 (by decide) (fun c => absurd hc0 c) (fun _ => ?_)
  exact eT (E := "java/lang/IllegalStateException") (ik := 109) (is := 111) (ic := 113) (text := "a member already") (rest := []) B hl.1 hst hno hX hP hS (List.mem_of_getElem? (i := 2) rfl) (List.mem_of_getElem? (i := 2) rfl) m_13_19 m_13_20 dX5_join_17 dX5_join_20 dX5_join_21 dX5_join_23 dX5_join_26 (Nat.le_of_ble_eq_true rfl) ⟨Nat.le_of_ble_eq_true rfl, Nat.le_of_ble_eq_true rfl, Nat.le_of_ble_eq_true rfl, Nat.le_of_ble_eq_true rfl⟩
set_option maxHeartbeats 4000000 in
set_option maxRecDepth 100000 in
theorem c_X5_leave_b3 (l : Launch) (D : va_G) (cI cZ : ClassId) (ad : Nat → Nat) (rc rl rh fr fw fc fg ps pg pr pd qp qt qf qo ct : Nat → Int32) (cand : Int32) (lim : Int32) (now : Int32) (was : Int32) (sent : Nat) (qfi : Nat) (qsz : Nat) (r : Nat) (g : Nat) (hr : r < 10) (hg : g < 4) (hst : l.stackTraces = false) (hc0 : ¬ (f_X5_has (fw g) r) = true) : MXi l yX5_leave cX5_leave 4 .int { frames := 6, cells := 1, slots := 6, locals := 90 } D (TY cI cZ) [.ref (ad 0), .int (nI r), .int (nI g)] (wC cI ad rc rl rh fr fw fc fg ps pg pr pd qp qt qf qo ct cand lim now was (nI sent) (nI qfi) (nI qsz)) "java/lang/IllegalStateException" := by
  refine MXi.mk (by decide +kernel) (Nat.le_of_ble_eq_true rfl) ?_
  intro p e s m below meth c A ls B hno hX hA hP hD hS hl
  have hx := B.1
  have hb := B.2.1
  have hts := B.2.2.2.2.2.1
  have hN := B.2.2.2.2.2.2.2.1
  have hK := B.2.2.2.2.2.2.2.2.1
  have hl : lv_has ls 4 [(0, .ref (ad 0)), (1, .int (nI r)), (2, .int (nI g))] := hl
  refine lv_iload_n hx hb dX5_leave_0 rfl (lv_at hl 1 rfl) ?_
  refine fS_v (as := [.int (nI r)]) (rest := []) B hl.1 (c_X5_checkRouter l D cI cZ (wC cI ad rc rl rh fr fw fc fg ps pg pr pd qp qt qf qo ct cand lim now was (nI sent) (nI qfi) (nI qsz)) r (by omega)) (l_RX5_48 hts ⟨rfl, rfl⟩ ⟨Nat.le_of_ble_eq_true rfl, Nat.le_of_ble_eq_true rfl⟩) m_7_7 rfl rfl hP hD hS hA rfl (Nat.le_of_ble_eq_true rfl) dX5_leave_1 (fun H locs hP hD hS => ?_)
  refine lv_iload_n hx hb dX5_leave_4 rfl (lv_at hl 2 rfl) ?_
  refine fS_v (as := [.int (nI g)]) (rest := []) B hl.1 (c_X5_checkGroup l D cI cZ (wC cI ad rc rl rh fr fw fc fg ps pg pr pd qp qt qf qo ct cand lim now was (nI sent) (nI qfi) (nI qsz)) g (by omega)) (l_RX5_100 hts ⟨rfl, rfl⟩ ⟨Nat.le_of_ble_eq_true rfl, Nat.le_of_ble_eq_true rfl⟩) m_13_1 rfl rfl hP hD hS hA rfl (Nat.le_of_ble_eq_true rfl) dX5_leave_5 (fun H locs hP hD hS => ?_)
  refine lv_aload_n hx hb dX5_leave_8 rfl (lv_at hl 0 rfl) ?_
  refine lv_iload_n hx hb dX5_leave_9 rfl (lv_at hl 1 rfl) ?_
  refine lv_iload_n hx hb dX5_leave_10 rfl (lv_at hl 2 rfl) ?_
  refine fV_i (ci := 5) (as := [.int (nI r), .int (nI g)]) (rest := []) B hl.1 (c_X5_isMember l D cI cZ ad rc rl rh fr fw fc fg ps pg pr pd qp qt qf qo ct cand lim now was sent qfi qsz r g (by omega) (by omega)) rfl (l_RX5_106 hts ⟨rfl, rfl⟩ ⟨Nat.le_of_ble_eq_true rfl, Nat.le_of_ble_eq_true rfl⟩) m_13_22 m_13_23 rfl rfl hP hD hS hA 0 rfl wfC (Nat.le_of_ble_eq_true rfl) dX5_leave_11 (fun H locs hP hD hS => ?_)
  refine r_if_ne_b (tgt := 27) hx hb dX5_leave_14 (by decide) (fun c => absurd c hc0) (fun _ => ?_)
  exact eT (E := "java/lang/IllegalStateException") (ik := 109) (is := 126) (ic := 113) (text := "no member") (rest := []) B hl.1 hst hno hX hP hS (List.mem_of_getElem? (i := 2) rfl) (List.mem_of_getElem? (i := 3) rfl) m_13_19 m_13_20 dX5_leave_17 dX5_leave_20 dX5_leave_21 dX5_leave_23 dX5_leave_26 (Nat.le_of_ble_eq_true rfl) ⟨Nat.le_of_ble_eq_true rfl, Nat.le_of_ble_eq_true rfl, Nat.le_of_ble_eq_true rfl, Nat.le_of_ble_eq_true rfl⟩
set_option maxHeartbeats 4000000 in
set_option maxRecDepth 100000 in
theorem c_X5_send_b3 (l : Launch) (D : va_G) (cI cZ : ClassId) (ad : Nat → Nat) (rc rl rh fr fw fc fg ps pg pr pd qp qt qf qo ct : Nat → Int32) (cand : Int32) (lim : Int32) (now : Int32) (was : Int32) (sent : Nat) (qfi : Nat) (qsz : Nat) (s_ : Nat) (g : Nat) (hs_ : s_ < 10) (hg : g < 4) (hsent : sent ≤ 200) (hst : l.stackTraces = false) (hn1sent : sent ≤ 200) (hn0sent : 200 ≤ sent) : MXi l yX5_send cX5_send 5 .int { frames := 6, cells := 1, slots := 6, locals := 90 } D (TY cI cZ) [.ref (ad 0), .int (nI s_), .int (nI g)] (wC cI ad rc rl rh fr fw fc fg ps pg pr pd qp qt qf qo ct cand lim now was (nI sent) (nI qfi) (nI qsz)) "java/lang/IllegalStateException" := by
  refine MXi.mk (by decide +kernel) (Nat.le_of_ble_eq_true rfl) ?_
  intro p e s m below meth c A ls B hno hX hA hP hD hS hl
  have hx := B.1
  have hb := B.2.1
  have hts := B.2.2.2.2.2.1
  have hN := B.2.2.2.2.2.2.2.1
  have hK := B.2.2.2.2.2.2.2.2.1
  have hl : lv_has ls 5 [(0, .ref (ad 0)), (1, .int (nI s_)), (2, .int (nI g))] := hl
  refine lv_iload_n hx hb dX5_send_0 rfl (lv_at hl 1 rfl) ?_
  refine fS_v (as := [.int (nI s_)]) (rest := []) B hl.1 (c_X5_checkRouter l D cI cZ (wC cI ad rc rl rh fr fw fc fg ps pg pr pd qp qt qf qo ct cand lim now was (nI sent) (nI qfi) (nI qsz)) s_ (by omega)) (l_RX5_48 hts ⟨rfl, rfl⟩ ⟨Nat.le_of_ble_eq_true rfl, Nat.le_of_ble_eq_true rfl⟩) m_7_7 rfl rfl hP hD hS hA rfl (Nat.le_of_ble_eq_true rfl) dX5_send_1 (fun H locs hP hD hS => ?_)
  refine lv_iload_n hx hb dX5_send_4 rfl (lv_at hl 2 rfl) ?_
  refine fS_v (as := [.int (nI g)]) (rest := []) B hl.1 (c_X5_checkGroup l D cI cZ (wC cI ad rc rl rh fr fw fc fg ps pg pr pd qp qt qf qo ct cand lim now was (nI sent) (nI qfi) (nI qsz)) g (by omega)) (l_RX5_100 hts ⟨rfl, rfl⟩ ⟨Nat.le_of_ble_eq_true rfl, Nat.le_of_ble_eq_true rfl⟩) m_13_1 rfl rfl hP hD hS hA rfl (Nat.le_of_ble_eq_true rfl) dX5_send_5 (fun H locs hP hD hS => ?_)
  refine lv_aload_n hx hb dX5_send_8 rfl (lv_at hl 0 rfl) ?_
  refine g_X5_26 B hP 0 rfl rfl dX5_send_9 ?_
  refine fV_i (ci := 3) (as := []) (rest := []) B hl.1 (c_X3_isFull_f l D cI cZ ad rc rl rh fr fw fc fg ps pg pr pd qp qt qf qo ct cand lim now was sent qfi qsz (by omega) hn1sent hn0sent) rfl (l_RX5_150 hts ⟨rfl, rfl⟩ ⟨Nat.le_of_ble_eq_true rfl, Nat.le_of_ble_eq_true rfl⟩) m_20_1 m_20_2 rfl rfl hP hD hS hA 10 rfl wfC (Nat.le_of_ble_eq_true rfl) dX5_send_12 (fun H locs hP hD hS => ?_)
  refine r_if_eq (tgt := 28) hx hb (by omega) dX5_send_15 (by decide) (fun c => absurd c (by omega)) (fun _ => ?_)
  exact eT (E := "java/lang/IllegalStateException") (ik := 109) (is := 154) (ic := 113) (text := "200 packets were sent") (rest := []) B hl.1 hst hno hX hP hS (List.mem_of_getElem? (i := 2) rfl) (List.mem_of_getElem? (i := 4) rfl) m_13_19 m_13_20 dX5_send_18 dX5_send_21 dX5_send_22 dX5_send_24 dX5_send_27 (Nat.le_of_ble_eq_true rfl) ⟨Nat.le_of_ble_eq_true rfl, Nat.le_of_ble_eq_true rfl, Nat.le_of_ble_eq_true rfl, Nat.le_of_ble_eq_true rfl⟩
set_option maxHeartbeats 4000000 in
set_option maxRecDepth 100000 in
theorem c_X5_sourceBranches_b1 (l : Launch) (D : va_G) (cI cZ : ClassId) (ad : Nat → Nat) (rc rl rh fr fw fc fg ps pg pr pd qp qt qf qo ct : Nat → Int32) (cand : Int32) (lim : Int32) (now : Int32) (was : Int32) (sent : Nat) (qfi : Nat) (qsz : Nat) (r : Int32) (s_ : Int32) (g : Int32) (hst : l.stackTraces = false) (hbad : ¬ (f_X5_isRouter_r r) = true) : MXi l yX5_sourceBranches cX5_sourceBranches 4 .int { frames := 7, cells := 1, slots := 6, locals := 110 } D (TY cI cZ) [.ref (ad 0), .int r, .int s_, .int g] (wC cI ad rc rl rh fr fw fc fg ps pg pr pd qp qt qf qo ct cand lim now was (nI sent) (nI qfi) (nI qsz)) "java/lang/IndexOutOfBoundsException" := by
  refine MXi.mk (by decide +kernel) (Nat.le_of_ble_eq_true rfl) ?_
  intro p e s m below meth c A ls B hno hX hA hP hD hS hl
  have hx := B.1
  have hb := B.2.1
  have hts := B.2.2.2.2.2.1
  have hN := B.2.2.2.2.2.2.2.1
  have hK := B.2.2.2.2.2.2.2.2.1
  have hl : lv_has ls 4 [(0, .ref (ad 0)), (1, .int r), (2, .int s_), (3, .int g)] := hl
  refine lv_iload_n hx hb dX5_sourceBranches_0 rfl (lv_at hl 1 rfl) ?_
  exact fXS_v (as := [.int r]) (rest := []) B hl.1 (c_X5_checkRouter_x l D cI cZ (wC cI ad rc rl rh fr fw fc fg ps pg pr pd qp qt qf qo ct cand lim now was (nI sent) (nI qfi) (nI qsz)) r hst hbad) (x_cbx ⟨rfl, rfl⟩ 1 hts m_7_8 m_1_2 m_7_6 (by decide +kernel) ⟨Nat.le_of_ble_eq_true rfl, Nat.le_of_ble_eq_true rfl⟩) m_7_7 rfl rfl hno hX hP hD hS hA (Nat.le_of_ble_eq_true rfl) ⟨Nat.le_of_ble_eq_true rfl, Nat.le_of_ble_eq_true rfl⟩ dX5_sourceBranches_1
set_option maxHeartbeats 4000000 in
set_option maxRecDepth 100000 in
theorem c_X5_sourceBranches_b2 (l : Launch) (D : va_G) (cI cZ : ClassId) (ad : Nat → Nat) (rc rl rh fr fw fc fg ps pg pr pd qp qt qf qo ct : Nat → Int32) (cand : Int32) (lim : Int32) (now : Int32) (was : Int32) (sent : Nat) (qfi : Nat) (qsz : Nat) (r : Nat) (s_ : Int32) (g : Int32) (hr : r < 10) (hst : l.stackTraces = false) (hbad : ¬ (f_X5_isRouter_r s_) = true) : MXi l yX5_sourceBranches cX5_sourceBranches 4 .int { frames := 7, cells := 1, slots := 6, locals := 110 } D (TY cI cZ) [.ref (ad 0), .int (nI r), .int s_, .int g] (wC cI ad rc rl rh fr fw fc fg ps pg pr pd qp qt qf qo ct cand lim now was (nI sent) (nI qfi) (nI qsz)) "java/lang/IndexOutOfBoundsException" := by
  refine MXi.mk (by decide +kernel) (Nat.le_of_ble_eq_true rfl) ?_
  intro p e s m below meth c A ls B hno hX hA hP hD hS hl
  have hx := B.1
  have hb := B.2.1
  have hts := B.2.2.2.2.2.1
  have hN := B.2.2.2.2.2.2.2.1
  have hK := B.2.2.2.2.2.2.2.2.1
  have hl : lv_has ls 4 [(0, .ref (ad 0)), (1, .int (nI r)), (2, .int s_), (3, .int g)] := hl
  refine lv_iload_n hx hb dX5_sourceBranches_0 rfl (lv_at hl 1 rfl) ?_
  refine fS_v (as := [.int (nI r)]) (rest := []) B hl.1 (c_X5_checkRouter l D cI cZ (wC cI ad rc rl rh fr fw fc fg ps pg pr pd qp qt qf qo ct cand lim now was (nI sent) (nI qfi) (nI qsz)) r (by omega)) (l_RX5_48 hts ⟨rfl, rfl⟩ ⟨Nat.le_of_ble_eq_true rfl, Nat.le_of_ble_eq_true rfl⟩) m_7_7 rfl rfl hP hD hS hA rfl (Nat.le_of_ble_eq_true rfl) dX5_sourceBranches_1 (fun H locs hP hD hS => ?_)
  refine lv_iload_n hx hb dX5_sourceBranches_4 rfl (lv_at hl 2 rfl) ?_
  exact fXS_v (as := [.int s_]) (rest := []) B hl.1 (c_X5_checkRouter_x l D cI cZ (wC cI ad rc rl rh fr fw fc fg ps pg pr pd qp qt qf qo ct cand lim now was (nI sent) (nI qfi) (nI qsz)) s_ hst hbad) (x_cbx ⟨rfl, rfl⟩ 1 hts m_7_8 m_1_2 m_7_6 (by decide +kernel) ⟨Nat.le_of_ble_eq_true rfl, Nat.le_of_ble_eq_true rfl⟩) m_7_7 rfl rfl hno hX hP hD hS hA (Nat.le_of_ble_eq_true rfl) ⟨Nat.le_of_ble_eq_true rfl, Nat.le_of_ble_eq_true rfl⟩ dX5_sourceBranches_5
set_option maxHeartbeats 4000000 in
set_option maxRecDepth 100000 in
theorem c_X5_sourceBranches_b3 (l : Launch) (D : va_G) (cI cZ : ClassId) (ad : Nat → Nat) (rc rl rh fr fw fc fg ps pg pr pd qp qt qf qo ct : Nat → Int32) (cand : Int32) (lim : Int32) (now : Int32) (was : Int32) (sent : Nat) (qfi : Nat) (qsz : Nat) (r : Nat) (s_ : Nat) (g : Int32) (hr : r < 10) (hs_ : s_ < 10) (hst : l.stackTraces = false) (hbad : ¬ (f_X5_isGroup_r g) = true) : MXi l yX5_sourceBranches cX5_sourceBranches 4 .int { frames := 7, cells := 1, slots := 6, locals := 110 } D (TY cI cZ) [.ref (ad 0), .int (nI r), .int (nI s_), .int g] (wC cI ad rc rl rh fr fw fc fg ps pg pr pd qp qt qf qo ct cand lim now was (nI sent) (nI qfi) (nI qsz)) "java/lang/IndexOutOfBoundsException" := by
  refine MXi.mk (by decide +kernel) (Nat.le_of_ble_eq_true rfl) ?_
  intro p e s m below meth c A ls B hno hX hA hP hD hS hl
  have hx := B.1
  have hb := B.2.1
  have hts := B.2.2.2.2.2.1
  have hN := B.2.2.2.2.2.2.2.1
  have hK := B.2.2.2.2.2.2.2.2.1
  have hl : lv_has ls 4 [(0, .ref (ad 0)), (1, .int (nI r)), (2, .int (nI s_)), (3, .int g)] := hl
  refine lv_iload_n hx hb dX5_sourceBranches_0 rfl (lv_at hl 1 rfl) ?_
  refine fS_v (as := [.int (nI r)]) (rest := []) B hl.1 (c_X5_checkRouter l D cI cZ (wC cI ad rc rl rh fr fw fc fg ps pg pr pd qp qt qf qo ct cand lim now was (nI sent) (nI qfi) (nI qsz)) r (by omega)) (l_RX5_48 hts ⟨rfl, rfl⟩ ⟨Nat.le_of_ble_eq_true rfl, Nat.le_of_ble_eq_true rfl⟩) m_7_7 rfl rfl hP hD hS hA rfl (Nat.le_of_ble_eq_true rfl) dX5_sourceBranches_1 (fun H locs hP hD hS => ?_)
  refine lv_iload_n hx hb dX5_sourceBranches_4 rfl (lv_at hl 2 rfl) ?_
  refine fS_v (as := [.int (nI s_)]) (rest := []) B hl.1 (c_X5_checkRouter l D cI cZ (wC cI ad rc rl rh fr fw fc fg ps pg pr pd qp qt qf qo ct cand lim now was (nI sent) (nI qfi) (nI qsz)) s_ (by omega)) (l_RX5_48 hts ⟨rfl, rfl⟩ ⟨Nat.le_of_ble_eq_true rfl, Nat.le_of_ble_eq_true rfl⟩) m_7_7 rfl rfl hP hD hS hA rfl (Nat.le_of_ble_eq_true rfl) dX5_sourceBranches_5 (fun H locs hP hD hS => ?_)
  refine lv_iload_n hx hb dX5_sourceBranches_8 rfl (lv_at hl 3 rfl) ?_
  exact fXS_v (as := [.int g]) (rest := []) B hl.1 (c_X5_checkGroup_x l D cI cZ (wC cI ad rc rl rh fr fw fc fg ps pg pr pd qp qt qf qo ct cand lim now was (nI sent) (nI qfi) (nI qsz)) g hst hbad) (x_cbx ⟨rfl, rfl⟩ 1 hts m_13_2 m_1_2 m_13_0 (by decide +kernel) ⟨Nat.le_of_ble_eq_true rfl, Nat.le_of_ble_eq_true rfl⟩) m_13_1 rfl rfl hno hX hP hD hS hA (Nat.le_of_ble_eq_true rfl) ⟨Nat.le_of_ble_eq_true rfl, Nat.le_of_ble_eq_true rfl⟩ dX5_sourceBranches_9
set_option maxHeartbeats 4000000 in
set_option maxRecDepth 100000 in
theorem c_X5_received_b1 (l : Launch) (D : va_G) (cI cZ : ClassId) (ad : Nat → Nat) (rc rl rh fr fw fc fg ps pg pr pd qp qt qf qo ct : Nat → Int32) (cand : Int32) (lim : Int32) (now : Int32) (was : Int32) (sent : Nat) (qfi : Nat) (qsz : Nat) (pk : Int32) (hsent : sent ≤ 200) (hst : l.stackTraces = false) (hbad : ¬ (f_X3_isPacket_r pk sent) = true) : MXi l yX5_received cX5_received 2 .int { frames := 7, cells := 1, slots := 6, locals := 111 } D (TY cI cZ) [.ref (ad 0), .int pk] (wC cI ad rc rl rh fr fw fc fg ps pg pr pd qp qt qf qo ct cand lim now was (nI sent) (nI qfi) (nI qsz)) "java/lang/IndexOutOfBoundsException" := by
  refine MXi.mk (by decide +kernel) (Nat.le_of_ble_eq_true rfl) ?_
  intro p e s m below meth c A ls B hno hX hA hP hD hS hl
  have hx := B.1
  have hb := B.2.1
  have hts := B.2.2.2.2.2.1
  have hN := B.2.2.2.2.2.2.2.1
  have hK := B.2.2.2.2.2.2.2.2.1
  have hl : lv_has ls 2 [(0, .ref (ad 0)), (1, .int pk)] := hl
  refine lv_aload_n hx hb dX5_received_0 rfl (lv_at hl 0 rfl) ?_
  refine lv_iload_n hx hb dX5_received_1 rfl (lv_at hl 1 rfl) ?_
  exact fXV_v (ci := 5) (as := [.int pk]) (rest := []) B hl.1 (c_X5_checkPacket_x l D cI cZ ad rc rl rh fr fw fc fg ps pg pr pd qp qt qf qo ct cand lim now was sent qfi qsz pk (by omega) hst hbad) rfl (x_cbx ⟨rfl, rfl⟩ 1 hts m_26_15 m_1_2 m_26_12 (by decide +kernel) ⟨Nat.le_of_ble_eq_true rfl, Nat.le_of_ble_eq_true rfl⟩) m_26_13 m_26_14 rfl rfl hno hX hP hD hS hA 0 rfl (Nat.le_of_ble_eq_true rfl) ⟨Nat.le_of_ble_eq_true rfl, Nat.le_of_ble_eq_true rfl⟩ dX5_received_2
set_option maxHeartbeats 4000000 in
set_option maxRecDepth 100000 in
theorem c_X5_doubles_b1 (l : Launch) (D : va_G) (cI cZ : ClassId) (ad : Nat → Nat) (rc rl rh fr fw fc fg ps pg pr pd qp qt qf qo ct : Nat → Int32) (cand : Int32) (lim : Int32) (now : Int32) (was : Int32) (sent : Nat) (qfi : Nat) (qsz : Nat) (pk : Int32) (hsent : sent ≤ 200) (hst : l.stackTraces = false) (hbad : ¬ (f_X3_isPacket_r pk sent) = true) : MXi l yX5_doubles cX5_doubles 2 .int { frames := 7, cells := 1, slots := 6, locals := 111 } D (TY cI cZ) [.ref (ad 0), .int pk] (wC cI ad rc rl rh fr fw fc fg ps pg pr pd qp qt qf qo ct cand lim now was (nI sent) (nI qfi) (nI qsz)) "java/lang/IndexOutOfBoundsException" := by
  refine MXi.mk (by decide +kernel) (Nat.le_of_ble_eq_true rfl) ?_
  intro p e s m below meth c A ls B hno hX hA hP hD hS hl
  have hx := B.1
  have hb := B.2.1
  have hts := B.2.2.2.2.2.1
  have hN := B.2.2.2.2.2.2.2.1
  have hK := B.2.2.2.2.2.2.2.2.1
  have hl : lv_has ls 2 [(0, .ref (ad 0)), (1, .int pk)] := hl
  refine lv_aload_n hx hb dX5_doubles_0 rfl (lv_at hl 0 rfl) ?_
  refine lv_iload_n hx hb dX5_doubles_1 rfl (lv_at hl 1 rfl) ?_
  exact fXV_v (ci := 5) (as := [.int pk]) (rest := []) B hl.1 (c_X5_checkPacket_x l D cI cZ ad rc rl rh fr fw fc fg ps pg pr pd qp qt qf qo ct cand lim now was sent qfi qsz pk (by omega) hst hbad) rfl (x_cbx ⟨rfl, rfl⟩ 1 hts m_26_15 m_1_2 m_26_12 (by decide +kernel) ⟨Nat.le_of_ble_eq_true rfl, Nat.le_of_ble_eq_true rfl⟩) m_26_13 m_26_14 rfl rfl hno hX hP hD hS hA 0 rfl (Nat.le_of_ble_eq_true rfl) ⟨Nat.le_of_ble_eq_true rfl, Nat.le_of_ble_eq_true rfl⟩ dX5_doubles_2
set_option maxHeartbeats 4000000 in
set_option maxRecDepth 100000 in
theorem c_X5_pass_b1 (l : Launch) (D : va_G) (cI cZ : ClassId) (ad : Nat → Nat) (rc rl rh fr fw fc fg ps pg pr pd qp qt qf qo ct : Nat → Int32) (cand : Int32) (lim : Int32) (now : Int32) (was : Int32) (sent : Nat) (qfi : Nat) (qsz : Nat) (se : Int32) (hst : l.stackTraces = false) (hc0 : se < (nI 1)) : MXi l yX5_pass cX5_pass 4 .int { frames := 6, cells := 1, slots := 6, locals := 90 } D (TY cI cZ) [.ref (ad 0), .int se] (wC cI ad rc rl rh fr fw fc fg ps pg pr pd qp qt qf qo ct cand lim now was (nI sent) (nI qfi) (nI qsz)) "java/lang/IllegalArgumentException" := by
  refine MXi.mk (by decide +kernel) (Nat.le_of_ble_eq_true rfl) ?_
  intro p e s m below meth c A ls B hno hX hA hP hD hS hl
  have hx := B.1
  have hb := B.2.1
  have hts := B.2.2.2.2.2.1
  have hN := B.2.2.2.2.2.2.2.1
  have hK := B.2.2.2.2.2.2.2.2.1
  have hl : lv_has ls 4 [(0, .ref (ad 0)), (1, .int se)] := hl
  refine lv_iload_n hx hb dX5_pass_0 rfl (lv_at hl 1 rfl) ?_
  refine lv_iconst (v := nI 1) hx hb dX5_pass_1 (by decide) ?_
  refine lv_icmp_lt (tgt := 11) hx hb dX5_pass_2 (by decide) (fun _ => ?_) (fun c => absurd hc0 c)
  exact eT (E := "java/lang/IllegalArgumentException") (ik := 52) (is := 206) (ic := 56) (text := "no such number of seconds") (rest := []) B hl.1 hst hno hX hP hS (List.mem_of_getElem? (i := 0) rfl) (List.mem_of_getElem? (i := 5) rfl) m_7_4 m_7_5 dX5_pass_11 dX5_pass_14 dX5_pass_15 dX5_pass_17 dX5_pass_20 (Nat.le_of_ble_eq_true rfl) ⟨Nat.le_of_ble_eq_true rfl, Nat.le_of_ble_eq_true rfl, Nat.le_of_ble_eq_true rfl, Nat.le_of_ble_eq_true rfl⟩
set_option maxHeartbeats 4000000 in
set_option maxRecDepth 100000 in
theorem c_X5_pass_b2 (l : Launch) (D : va_G) (cI cZ : ClassId) (ad : Nat → Nat) (rc rl rh fr fw fc fg ps pg pr pd qp qt qf qo ct : Nat → Int32) (cand : Int32) (lim : Int32) (now : Int32) (was : Int32) (sent : Nat) (qfi : Nat) (qsz : Nat) (se : Int32) (hst : l.stackTraces = false) (hc0 : ¬ (se < (nI 1))) (hc1 : ¬ (se ≤ (nI 100))) : MXi l yX5_pass cX5_pass 4 .int { frames := 6, cells := 1, slots := 6, locals := 90 } D (TY cI cZ) [.ref (ad 0), .int se] (wC cI ad rc rl rh fr fw fc fg ps pg pr pd qp qt qf qo ct cand lim now was (nI sent) (nI qfi) (nI qsz)) "java/lang/IllegalArgumentException" := by
  refine MXi.mk (by decide +kernel) (Nat.le_of_ble_eq_true rfl) ?_
  intro p e s m below meth c A ls B hno hX hA hP hD hS hl
  have hx := B.1
  have hb := B.2.1
  have hts := B.2.2.2.2.2.1
  have hN := B.2.2.2.2.2.2.2.1
  have hK := B.2.2.2.2.2.2.2.2.1
  have hl : lv_has ls 4 [(0, .ref (ad 0)), (1, .int se)] := hl
  refine lv_iload_n hx hb dX5_pass_0 rfl (lv_at hl 1 rfl) ?_
  refine lv_iconst (v := nI 1) hx hb dX5_pass_1 (by decide) ?_
  refine lv_icmp_lt (tgt := 11) hx hb dX5_pass_2 (by decide) (fun c => absurd c hc0) (fun _ => ?_)
  refine lv_iload_n hx hb dX5_pass_5 rfl (lv_at hl 1 rfl) ?_
  refine lv_bipush (v := nI 100) hx hb dX5_pass_6 (by decide) ?_
  refine lv_icmp_le (tgt := 21) hx hb dX5_pass_8 (by decide) (fun c => absurd c hc1) (fun _ => ?_)
  exact eT (E := "java/lang/IllegalArgumentException") (ik := 52) (is := 206) (ic := 56) (text := "no such number of seconds") (rest := []) B hl.1 hst hno hX hP hS (List.mem_of_getElem? (i := 0) rfl) (List.mem_of_getElem? (i := 5) rfl) m_7_4 m_7_5 dX5_pass_11 dX5_pass_14 dX5_pass_15 dX5_pass_17 dX5_pass_20 (Nat.le_of_ble_eq_true rfl) ⟨Nat.le_of_ble_eq_true rfl, Nat.le_of_ble_eq_true rfl, Nat.le_of_ble_eq_true rfl, Nat.le_of_ble_eq_true rfl⟩
set_option maxHeartbeats 4000000 in
set_option maxRecDepth 100000 in
theorem c_X5_floodCopies_b1 (l : Launch) (D : va_G) (cI cZ : ClassId) (ad : Nat → Nat) (rc rl rh fr fw fc fg ps pg pr pd qp qt qf qo ct : Nat → Int32) (cand : Int32) (lim : Int32) (now : Int32) (was : Int32) (sent : Nat) (qfi : Nat) (qsz : Nat) (s_ : Int32) (hst : l.stackTraces = false) (hbad : ¬ (f_X5_isRouter_r s_) = true) : MXi l yX5_floodCopies cX5_floodCopies 5 .int { frames := 7, cells := 1, slots := 6, locals := 110 } D (TY cI cZ) [.ref (ad 0), .int s_] (wC cI ad rc rl rh fr fw fc fg ps pg pr pd qp qt qf qo ct cand lim now was (nI sent) (nI qfi) (nI qsz)) "java/lang/IndexOutOfBoundsException" := by
  refine MXi.mk (by decide +kernel) (Nat.le_of_ble_eq_true rfl) ?_
  intro p e s m below meth c A ls B hno hX hA hP hD hS hl
  have hx := B.1
  have hb := B.2.1
  have hts := B.2.2.2.2.2.1
  have hN := B.2.2.2.2.2.2.2.1
  have hK := B.2.2.2.2.2.2.2.2.1
  have hl : lv_has ls 5 [(0, .ref (ad 0)), (1, .int s_)] := hl
  refine lv_iload_n hx hb dX5_floodCopies_0 rfl (lv_at hl 1 rfl) ?_
  exact fXS_v (as := [.int s_]) (rest := []) B hl.1 (c_X5_checkRouter_x l D cI cZ (wC cI ad rc rl rh fr fw fc fg ps pg pr pd qp qt qf qo ct cand lim now was (nI sent) (nI qfi) (nI qsz)) s_ hst hbad) (x_cbx ⟨rfl, rfl⟩ 1 hts m_7_8 m_1_2 m_7_6 (by decide +kernel) ⟨Nat.le_of_ble_eq_true rfl, Nat.le_of_ble_eq_true rfl⟩) m_7_7 rfl rfl hno hX hP hD hS hA (Nat.le_of_ble_eq_true rfl) ⟨Nat.le_of_ble_eq_true rfl, Nat.le_of_ble_eq_true rfl⟩ dX5_floodCopies_1
