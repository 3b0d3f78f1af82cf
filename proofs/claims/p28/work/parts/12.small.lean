set_option maxHeartbeats 4000000 in
set_option maxRecDepth 100000 in
theorem c_X1_isPlace (l : Launch) (D : va_G) (cI cZ : ClassId) (ws : va_W) (m_ : Nat) (s_ : Nat) (g : Nat) (hm_ : m_ < 10) (hs_ : s_ < 10) (hg : g < 4) : MI l yX1_isPlace cX1_isPlace 3 .boolean { frames := 1, cells := 0, slots := 0, locals := 20 } D (TY cI cZ) [.int (nI m_), .int (nI s_), .int (nI g)] (ws) (ws) (nI 1) := by
  refine MI.mk ⟨rfl, rfl⟩ (by decide +kernel) (Nat.le_of_ble_eq_true rfl) ?_
  intro p e s m below meth c A ls B hA hP hD hS hl
  have hx := B.1
  have hb := B.2.1
  have hts := B.2.2.2.2.2.1
  have hN := B.2.2.2.2.2.2.2.1
  have hK := B.2.2.2.2.2.2.2.2.1
  have hl : lv_has ls 3 [(0, .int (nI m_)), (1, .int (nI s_)), (2, .int (nI g))] := hl
  refine lv_iload_n hx hb dX1_isPlace_0 rfl (lv_at hl 0 rfl) ?_
  refine fN_i (as := [.int (nI m_)]) (rest := []) B hl.1 (c_X5_isRouter l D cI cZ (ws) m_ (by omega)) (l_RX1_29 hts hN ⟨rfl, rfl⟩ ⟨Nat.le_of_ble_eq_true rfl, Nat.le_of_ble_eq_true rfl⟩) m_4_14 rfl rfl hP hD hS hA rfl (Nat.le_of_ble_eq_true rfl) dX1_isPlace_1 (fun H locs hP hD hS => ?_)
  refine r_if_eq (tgt := 25) hx hb (by omega) dX1_isPlace_4 (by decide) (fun c => absurd c (by omega)) (fun _ => ?_)
  refine lv_iload_n hx hb dX1_isPlace_7 rfl (lv_at hl 1 rfl) ?_
  refine fN_i (as := [.int (nI s_)]) (rest := []) B hl.1 (c_X5_isRouter l D cI cZ (ws) s_ (by omega)) (l_RX1_29 hts hN ⟨rfl, rfl⟩ ⟨Nat.le_of_ble_eq_true rfl, Nat.le_of_ble_eq_true rfl⟩) m_4_14 rfl rfl hP hD hS hA rfl (Nat.le_of_ble_eq_true rfl) dX1_isPlace_8 (fun H locs hP hD hS => ?_)
  refine r_if_eq (tgt := 25) hx hb (by omega) dX1_isPlace_11 (by decide) (fun c => absurd c (by omega)) (fun _ => ?_)
  refine lv_iload_n hx hb dX1_isPlace_14 rfl (lv_at hl 2 rfl) ?_
  refine fN_i (as := [.int (nI g)]) (rest := []) B hl.1 (c_X5_isGroup l D cI cZ (ws) g (by omega)) (l_RX1_33 hts hN ⟨rfl, rfl⟩ ⟨Nat.le_of_ble_eq_true rfl, Nat.le_of_ble_eq_true rfl⟩) m_4_17 rfl rfl hP hD hS hA rfl (Nat.le_of_ble_eq_true rfl) dX1_isPlace_15 (fun H locs hP hD hS => ?_)
  refine r_if_eq (tgt := 25) hx hb (by omega) dX1_isPlace_18 (by decide) (fun c => absurd c (by omega)) (fun _ => ?_)
  refine lv_iconst (v := nI 1) hx hb dX1_isPlace_21 (by decide) ?_
  refine lv_goto (tgt := 26) hx hb dX1_isPlace_22 (by decide) ?_
  exact eZ B hP hS (by decide) rfl rfl dX1_isPlace_26
set_option maxHeartbeats 4000000 in
set_option maxRecDepth 100000 in
theorem c_X1_placeOf (l : Launch) (D : va_G) (cI cZ : ClassId) (ws : va_W) (m_ : Nat) (s_ : Nat) (g : Nat) (hm_ : m_ < 10) (hs_ : s_ < 10) (hg : g < 4) : MI l yX1_placeOf cX1_placeOf 3 .int { frames := 0, cells := 0, slots := 0, locals := 0 } D (TY cI cZ) [.int (nI m_), .int (nI s_), .int (nI g)] (ws) (ws) (nI ((((g * 10) + s_) * 10) + m_)) := by
  refine MI.mk ⟨rfl, rfl⟩ (by decide +kernel) (Nat.le_of_ble_eq_true rfl) ?_
  intro p e s m below meth c A ls B hA hP hD hS hl
  have hx := B.1
  have hb := B.2.1
  have hts := B.2.2.2.2.2.1
  have hN := B.2.2.2.2.2.2.2.1
  have hK := B.2.2.2.2.2.2.2.2.1
  have hl : lv_has ls 3 [(0, .int (nI m_)), (1, .int (nI s_)), (2, .int (nI g))] := hl
  refine lv_iload_n hx hb dX1_placeOf_0 rfl (lv_at hl 2 rfl) ?_
  refine lv_bipush (v := nI 10) hx hb dX1_placeOf_1 (by decide) ?_
  refine r_imul hx hb dX1_placeOf_3 ?_
  refine lv_iload_n hx hb dX1_placeOf_4 rfl (lv_at hl 1 rfl) ?_
  refine r_iadd hx hb dX1_placeOf_5 ?_
  refine lv_bipush (v := nI 10) hx hb dX1_placeOf_6 (by decide) ?_
  refine r_imul hx hb dX1_placeOf_8 ?_
  refine lv_iload_n hx hb dX1_placeOf_9 rfl (lv_at hl 0 rfl) ?_
  refine r_iadd hx hb dX1_placeOf_10 ?_
  exact eI B hP hS rfl rfl dX1_placeOf_11
set_option maxHeartbeats 4000000 in
set_option maxRecDepth 100000 in
theorem c_X1_raise (l : Launch) (D : va_G) (cI cZ : ClassId) (ad : Nat → Nat) (rc rl rh fr fw fc fg ps pg pr pd qp qt qf qo ct lE lC : Nat → Int32) (cand : Int32) (lim : Int32) (now : Int32) (was : Int32) (sent : Nat) (qfi : Nat) (qsz : Nat) (m_ : Nat) (s_ : Nat) (g : Nat) (hm_ : m_ < 10) (hs_ : s_ < 10) (hg : g < 4) : MI l yX1_raise cX1_raise 5 .int { frames := 2, cells := 0, slots := 0, locals := 42 } D (TY cI cZ) [.ref (ad 20), .int (nI m_), .int (nI s_), .int (nI g)] (wC cI ad rc rl rh fr fw fc fg ps pg pr pd qp qt qf qo ct lE lC cand lim now was (nI sent) (nI qfi) (nI qsz)) (wC cI ad rc rl rh fr fw fc fg ps pg pr pd qp qt qf qo (upd ct ((((g * 10) + s_) * 10) + m_) ((ct ((((g * 10) + s_) * 10) + m_)) + (nI 1))) lE lC cand lim now was (nI sent) (nI qfi) (nI qsz)) ((upd ct ((((g * 10) + s_) * 10) + m_) ((ct ((((g * 10) + s_) * 10) + m_)) + (nI 1))) ((((g * 10) + s_) * 10) + m_)) := by
  refine MI.mk ⟨rfl, rfl⟩ (by decide +kernel) (Nat.le_of_ble_eq_true rfl) ?_
  intro p e s m below meth c A ls B hA hP hD hS hl
  have hx := B.1
  have hb := B.2.1
  have hts := B.2.2.2.2.2.1
  have hN := B.2.2.2.2.2.2.2.1
  have hK := B.2.2.2.2.2.2.2.2.1
  have hl : lv_has ls 5 [(0, .ref (ad 20)), (1, .int (nI m_)), (2, .int (nI s_)), (3, .int (nI g))] := hl
  refine lv_iload_n hx hb dX1_raise_0 rfl (lv_at hl 1 rfl) ?_
  refine lv_iload_n hx hb dX1_raise_1 rfl (lv_at hl 2 rfl) ?_
  refine lv_iload_n hx hb dX1_raise_2 rfl (lv_at hl 3 rfl) ?_
  refine fS_i (as := [.int (nI m_), .int (nI s_), .int (nI g)]) (rest := []) B hl.1 (c_X1_isPlace l D cI cZ (wC cI ad rc rl rh fr fw fc fg ps pg pr pd qp qt qf qo ct lE lC cand lim now was (nI sent) (nI qfi) (nI qsz)) m_ s_ g (by omega) (by omega) (by omega)) (l_RX1_15 hts ⟨rfl, rfl⟩ ⟨Nat.le_of_ble_eq_true rfl, Nat.le_of_ble_eq_true rfl⟩) m_11_4 rfl rfl hP hD hS hA rfl (Nat.le_of_ble_eq_true rfl) dX1_raise_3 (fun H locs hP hD hS => ?_)
  refine r_if_ne (tgt := 11) hx hb (by omega) dX1_raise_6 (by decide) (fun _ => ?_) (fun c => absurd c (by omega))
  refine lv_iload_n hx hb dX1_raise_11 rfl (lv_at hl 1 rfl) ?_
  refine lv_iload_n hx hb dX1_raise_12 rfl (lv_at hl 2 rfl) ?_
  refine lv_iload_n hx hb dX1_raise_13 rfl (lv_at hl 3 rfl) ?_
  refine fS_i (as := [.int (nI m_), .int (nI s_), .int (nI g)]) (rest := []) B hl.1 (c_X1_placeOf l D cI cZ (wC cI ad rc rl rh fr fw fc fg ps pg pr pd qp qt qf qo ct lE lC cand lim now was (nI sent) (nI qfi) (nI qsz)) m_ s_ g (by omega) (by omega) (by omega)) (l_RX1_19 hts ⟨rfl, rfl⟩ ⟨Nat.le_of_ble_eq_true rfl, Nat.le_of_ble_eq_true rfl⟩) m_11_7 rfl rfl hP hD hS hA rfl (Nat.le_of_ble_eq_true rfl) dX1_raise_14 (fun H locs hP hD hS => ?_)
  refine lv_istore (lv' := [(4, .int (nI ((((g * 10) + s_) * 10) + m_))), (0, .ref (ad 20)), (1, .int (nI m_)), (2, .int (nI s_)), (3, .int (nI g))]) hx hb dX1_raise_17 hl (by decide) rfl (fun ls hl => ?_)
  refine lv_aload_n hx hb dX1_raise_19 rfl (lv_at hl 1 rfl) ?_
  refine g_X1_9 B hP 20 rfl rfl dX1_raise_20 ?_
  refine lv_iload hx hb dX1_raise_23 (lv_at hl 0 rfl) ?_
  refine lv_dup2_11 hx hb dX1_raise_25 rfl rfl ?_
  refine r_iald hx hb hK hP 21 0 rfl rfl (by omega) (by decide) dX1_raise_26 ?_
  refine lv_iconst (v := nI 1) hx hb dX1_raise_27 (by decide) ?_
  refine lv_iadd hx hb dX1_raise_28 ?_
  refine r_iast hx hb hK hP hD hS 21 0 rfl rfl (by omega) (by decide) dX1_raise_29 (fun H locs hP hD hS => ?_)
  have hP : va_P D vwCl (wC cI ad rc rl rh fr fw fc fg ps pg pr pd qp qt qf qo (upd ct ((((g * 10) + s_) * 10) + m_) ((ct ((((g * 10) + s_) * 10) + m_)) + (nI 1))) lE lC cand lim now was (nI sent) (nI qfi) (nI qsz)) H := hP
  have hD : va_D A (wC cI ad rc rl rh fr fw fc fg ps pg pr pd qp qt qf qo (upd ct ((((g * 10) + s_) * 10) + m_) ((ct ((((g * 10) + s_) * 10) + m_)) + (nI 1))) lE lC cand lim now was (nI sent) (nI qfi) (nI qsz)) := hD
  refine lv_aload_n hx hb dX1_raise_30 rfl (lv_at hl 1 rfl) ?_
  refine g_X1_9 B hP 20 rfl rfl dX1_raise_31 ?_
  refine lv_iload hx hb dX1_raise_34 (lv_at hl 0 rfl) ?_
  refine r_iald hx hb hK hP 21 0 rfl rfl (by omega) (by decide) dX1_raise_36 ?_
  exact eI B hP hS rfl rfl dX1_raise_37
set_option maxHeartbeats 4000000 in
set_option maxRecDepth 100000 in
theorem c_X1_forget (l : Launch) (D : va_G) (cI cZ : ClassId) (ad : Nat → Nat) (rc rl rh fr fw fc fg ps pg pr pd qp qt qf qo ct lE lC : Nat → Int32) (cand : Int32) (lim : Int32) (now : Int32) (was : Int32) (sent : Nat) (qfi : Nat) (qsz : Nat) (m_ : Nat) (s_ : Nat) (g : Nat) (hm_ : m_ < 10) (hs_ : s_ < 10) (hg : g < 4) : MV l yX1_forget cX1_forget 4 { frames := 2, cells := 0, slots := 0, locals := 42 } D (TY cI cZ) [.ref (ad 20), .int (nI m_), .int (nI s_), .int (nI g)] (wC cI ad rc rl rh fr fw fc fg ps pg pr pd qp qt qf qo ct lE lC cand lim now was (nI sent) (nI qfi) (nI qsz)) (wC cI ad rc rl rh fr fw fc fg ps pg pr pd qp qt qf qo (upd ct ((((g * 10) + s_) * 10) + m_) (nI 0)) lE lC cand lim now was (nI sent) (nI qfi) (nI qsz)) := by
  refine MV.mk ⟨rfl, rfl⟩ (by decide +kernel) (Nat.le_of_ble_eq_true rfl) ?_
  intro p e s m below meth c A ls B hA hP hD hS hl
  have hx := B.1
  have hb := B.2.1
  have hts := B.2.2.2.2.2.1
  have hN := B.2.2.2.2.2.2.2.1
  have hK := B.2.2.2.2.2.2.2.2.1
  have hl : lv_has ls 4 [(0, .ref (ad 20)), (1, .int (nI m_)), (2, .int (nI s_)), (3, .int (nI g))] := hl
  refine lv_iload_n hx hb dX1_forget_0 rfl (lv_at hl 1 rfl) ?_
  refine lv_iload_n hx hb dX1_forget_1 rfl (lv_at hl 2 rfl) ?_
  refine lv_iload_n hx hb dX1_forget_2 rfl (lv_at hl 3 rfl) ?_
  refine fS_i (as := [.int (nI m_), .int (nI s_), .int (nI g)]) (rest := []) B hl.1 (c_X1_isPlace l D cI cZ (wC cI ad rc rl rh fr fw fc fg ps pg pr pd qp qt qf qo ct lE lC cand lim now was (nI sent) (nI qfi) (nI qsz)) m_ s_ g (by omega) (by omega) (by omega)) (l_RX1_15 hts ⟨rfl, rfl⟩ ⟨Nat.le_of_ble_eq_true rfl, Nat.le_of_ble_eq_true rfl⟩) m_11_4 rfl rfl hP hD hS hA rfl (Nat.le_of_ble_eq_true rfl) dX1_forget_3 (fun H locs hP hD hS => ?_)
  refine r_if_eq (tgt := 21) hx hb (by omega) dX1_forget_6 (by decide) (fun c => absurd c (by omega)) (fun _ => ?_)
  refine lv_aload_n hx hb dX1_forget_9 rfl (lv_at hl 0 rfl) ?_
  refine g_X1_9 B hP 20 rfl rfl dX1_forget_10 ?_
  refine lv_iload_n hx hb dX1_forget_13 rfl (lv_at hl 1 rfl) ?_
  refine lv_iload_n hx hb dX1_forget_14 rfl (lv_at hl 2 rfl) ?_
  refine lv_iload_n hx hb dX1_forget_15 rfl (lv_at hl 3 rfl) ?_
  refine fS_i (as := [.int (nI m_), .int (nI s_), .int (nI g)]) (rest := [.ref (ad 21)]) B hl.1 (c_X1_placeOf l D cI cZ (wC cI ad rc rl rh fr fw fc fg ps pg pr pd qp qt qf qo ct lE lC cand lim now was (nI sent) (nI qfi) (nI qsz)) m_ s_ g (by omega) (by omega) (by omega)) (l_RX1_19 hts ⟨rfl, rfl⟩ ⟨Nat.le_of_ble_eq_true rfl, Nat.le_of_ble_eq_true rfl⟩) m_11_7 rfl rfl hP hD hS hA rfl (Nat.le_of_ble_eq_true rfl) dX1_forget_16 (fun H locs hP hD hS => ?_)
  refine lv_iconst (v := nI 0) hx hb dX1_forget_19 (by decide) ?_
  refine r_iast hx hb hK hP hD hS 21 0 rfl rfl (by omega) (by decide) dX1_forget_20 (fun H locs hP hD hS => ?_)
  have hP : va_P D vwCl (wC cI ad rc rl rh fr fw fc fg ps pg pr pd qp qt qf qo (upd ct ((((g * 10) + s_) * 10) + m_) (nI 0)) lE lC cand lim now was (nI sent) (nI qfi) (nI qsz)) H := hP
  have hD : va_D A (wC cI ad rc rl rh fr fw fc fg ps pg pr pd qp qt qf qo (upd ct ((((g * 10) + s_) * 10) + m_) (nI 0)) lE lC cand lim now was (nI sent) (nI qfi) (nI qsz)) := hD
  exact eV B hP hS rfl dX1_forget_21
set_option maxHeartbeats 4000000 in
set_option maxRecDepth 100000 in
theorem c_X1_forgetAll (l : Launch) (D : va_G) (cI cZ : ClassId) (ad : Nat → Nat) (rc rl rh fr fw fc fg ps pg pr pd qp qt qf qo ct lE lC : Nat → Int32) (cand : Int32) (lim : Int32) (now : Int32) (was : Int32) (sent : Nat) (qfi : Nat) (qsz : Nat) : MV l yX1_forgetAll cX1_forgetAll 1 { frames := 1, cells := 0, slots := 0, locals := 23 } D (TY cI cZ) [.ref (ad 20)] (wC cI ad rc rl rh fr fw fc fg ps pg pr pd qp qt qf qo ct lE lC cand lim now was (nI sent) (nI qfi) (nI qsz)) (wC cI ad rc rl rh fr fw fc fg ps pg pr pd qp qt qf qo (fun _ => (nI 0)) lE lC cand lim now was (nI sent) (nI qfi) (nI qsz)) := by
  refine MV.mk ⟨rfl, rfl⟩ (by decide +kernel) (Nat.le_of_ble_eq_true rfl) ?_
  intro p e s m below meth c A ls B hA hP hD hS hl
  have hx := B.1
  have hb := B.2.1
  have hts := B.2.2.2.2.2.1
  have hN := B.2.2.2.2.2.2.2.1
  have hK := B.2.2.2.2.2.2.2.2.1
  have hl : lv_has ls 1 [(0, .ref (ad 20))] := hl
  refine lv_aload_n hx hb dX1_forgetAll_0 rfl (lv_at hl 0 rfl) ?_
  refine g_X1_9 B hP 20 rfl rfl dX1_forgetAll_1 ?_
  refine lv_iconst (v := nI 0) hx hb dX1_forgetAll_4 (by decide) ?_
  refine fS_v (as := [.ref (ad 21), .int (nI 0)]) (rest := []) B hl.1 (c_fill l D cI cZ (wC cI ad rc rl rh fr fw fc fg ps pg pr pd qp qt qf qo ct lE lC cand lim now was (nI sent) (nI qfi) (nI qsz)) 21 400 ct (ad 21) (nI 0) rfl (by decide)) (l_RX1_23 hts ⟨rfl, rfl⟩ ⟨Nat.le_of_ble_eq_true rfl, Nat.le_of_ble_eq_true rfl⟩) m_4_8 rfl rfl hP hD hS hA (set_fst rfl) (Nat.le_of_ble_eq_true rfl) dX1_forgetAll_5 (fun H locs hP hD hS => ?_)
  have hP : va_P D vwCl (wC cI ad rc rl rh fr fw fc fg ps pg pr pd qp qt qf qo (fun _ => (nI 0)) lE lC cand lim now was (nI sent) (nI qfi) (nI qsz)) H := hP
  have hD : va_D A (wC cI ad rc rl rh fr fw fc fg ps pg pr pd qp qt qf qo (fun _ => (nI 0)) lE lC cand lim now was (nI sent) (nI qfi) (nI qsz)) := hD
  exact eV B hP hS rfl dX1_forgetAll_8
set_option maxHeartbeats 4000000 in
set_option maxRecDepth 100000 in
theorem c_X3_isFull_n (l : Launch) (D : va_G) (cI cZ : ClassId) (ad : Nat → Nat) (rc rl rh fr fw fc fg ps pg pr pd qp qt qf qo ct lE lC : Nat → Int32) (cand : Int32) (lim : Int32) (now : Int32) (was : Int32) (sent : Nat) (qfi : Nat) (qsz : Nat) (hsent : sent ≤ 200) (hn1sent : sent ≤ 199) : MI l yX3_isFull cX3_isFull 1 .boolean { frames := 0, cells := 0, slots := 0, locals := 0 } D (TY cI cZ) [.ref (ad 10)] (wC cI ad rc rl rh fr fw fc fg ps pg pr pd qp qt qf qo ct lE lC cand lim now was (nI sent) (nI qfi) (nI qsz)) (wC cI ad rc rl rh fr fw fc fg ps pg pr pd qp qt qf qo ct lE lC cand lim now was (nI sent) (nI qfi) (nI qsz)) (nI 0) := by
  refine MI.mk ⟨rfl, rfl⟩ (by decide +kernel) (Nat.le_of_ble_eq_true rfl) ?_
  intro p e s m below meth c A ls B hA hP hD hS hl
  have hx := B.1
  have hb := B.2.1
  have hts := B.2.2.2.2.2.1
  have hN := B.2.2.2.2.2.2.2.1
  have hK := B.2.2.2.2.2.2.2.2.1
  have hl : lv_has ls 1 [(0, .ref (ad 10))] := hl
  refine lv_aload_n hx hb dX3_isFull_0 rfl (lv_at hl 0 rfl) ?_
  refine g_X3_24 B hP 10 rfl rfl dX3_isFull_1 ?_
  refine lv_sipush (v := nI 200) hx hb dX3_isFull_4 (by decide) ?_
  refine r_icmp_lt (tgt := 14) hx hb (by omega) (by omega) dX3_isFull_7 (by decide) (fun _ => ?_) (fun c => absurd c (by omega))
  refine lv_iconst (v := nI 0) hx hb dX3_isFull_14 (by decide) ?_
  exact eZ B hP hS (by decide) rfl rfl dX3_isFull_15
set_option maxHeartbeats 4000000 in
set_option maxRecDepth 100000 in
theorem c_X3_isFull_f (l : Launch) (D : va_G) (cI cZ : ClassId) (ad : Nat → Nat) (rc rl rh fr fw fc fg ps pg pr pd qp qt qf qo ct lE lC : Nat → Int32) (cand : Int32) (lim : Int32) (now : Int32) (was : Int32) (sent : Nat) (qfi : Nat) (qsz : Nat) (hsent : sent ≤ 200) (hn1sent : sent ≤ 200) (hn0sent : 200 ≤ sent) : MI l yX3_isFull cX3_isFull 1 .boolean { frames := 0, cells := 0, slots := 0, locals := 0 } D (TY cI cZ) [.ref (ad 10)] (wC cI ad rc rl rh fr fw fc fg ps pg pr pd qp qt qf qo ct lE lC cand lim now was (nI sent) (nI qfi) (nI qsz)) (wC cI ad rc rl rh fr fw fc fg ps pg pr pd qp qt qf qo ct lE lC cand lim now was (nI sent) (nI qfi) (nI qsz)) (nI 1) := by
  refine MI.mk ⟨rfl, rfl⟩ (by decide +kernel) (Nat.le_of_ble_eq_true rfl) ?_
  intro p e s m below meth c A ls B hA hP hD hS hl
  have hx := B.1
  have hb := B.2.1
  have hts := B.2.2.2.2.2.1
  have hN := B.2.2.2.2.2.2.2.1
  have hK := B.2.2.2.2.2.2.2.2.1
  have hl : lv_has ls 1 [(0, .ref (ad 10))] := hl
  refine lv_aload_n hx hb dX3_isFull_0 rfl (lv_at hl 0 rfl) ?_
  refine g_X3_24 B hP 10 rfl rfl dX3_isFull_1 ?_
  refine lv_sipush (v := nI 200) hx hb dX3_isFull_4 (by decide) ?_
  refine r_icmp_lt (tgt := 14) hx hb (by omega) (by omega) dX3_isFull_7 (by decide) (fun c => absurd c (by omega)) (fun _ => ?_)
  refine lv_iconst (v := nI 1) hx hb dX3_isFull_10 (by decide) ?_
  refine lv_goto (tgt := 15) hx hb dX3_isFull_11 (by decide) ?_
  exact eZ B hP hS (by decide) rfl rfl dX3_isFull_15
set_option maxHeartbeats 4000000 in
set_option maxRecDepth 100000 in
theorem c_X3_isPacket (l : Launch) (D : va_G) (cI cZ : ClassId) (ad : Nat → Nat) (rc rl rh fr fw fc fg ps pg pr pd qp qt qf qo ct lE lC : Nat → Int32) (cand : Int32) (lim : Int32) (now : Int32) (was : Int32) (sent : Nat) (qfi : Nat) (qsz : Nat) (pk : Nat) (hpk : pk < 200) (hsent : sent ≤ 200) (hps : pk < sent) : MI l yX3_isPacket cX3_isPacket 2 .boolean { frames := 0, cells := 0, slots := 0, locals := 0 } D (TY cI cZ) [.ref (ad 10), .int (nI pk)] (wC cI ad rc rl rh fr fw fc fg ps pg pr pd qp qt qf qo ct lE lC cand lim now was (nI sent) (nI qfi) (nI qsz)) (wC cI ad rc rl rh fr fw fc fg ps pg pr pd qp qt qf qo ct lE lC cand lim now was (nI sent) (nI qfi) (nI qsz)) (nI 1) := by
  refine MI.mk ⟨rfl, rfl⟩ (by decide +kernel) (Nat.le_of_ble_eq_true rfl) ?_
  intro p e s m below meth c A ls B hA hP hD hS hl
  have hx := B.1
  have hb := B.2.1
  have hts := B.2.2.2.2.2.1
  have hN := B.2.2.2.2.2.2.2.1
  have hK := B.2.2.2.2.2.2.2.2.1
  have hl : lv_has ls 2 [(0, .ref (ad 10)), (1, .int (nI pk))] := hl
  refine lv_iload_n hx hb dX3_isPacket_0 rfl (lv_at hl 1 rfl) ?_
  refine r_if_lt (tgt := 23) hx hb (by omega) dX3_isPacket_1 (by decide) ?_
  refine lv_iload_n hx hb dX3_isPacket_4 rfl (lv_at hl 1 rfl) ?_
  refine lv_aload_n hx hb dX3_isPacket_5 rfl (lv_at hl 0 rfl) ?_
  refine g_X3_24 B hP 10 rfl rfl dX3_isPacket_6 ?_
  refine r_icmp_ge (tgt := 23) hx hb (by omega) (by omega) dX3_isPacket_9 (by decide) (fun c => absurd c (by omega)) (fun _ => ?_)
  refine lv_iload_n hx hb dX3_isPacket_12 rfl (lv_at hl 1 rfl) ?_
  refine lv_sipush (v := nI 200) hx hb dX3_isPacket_13 (by decide) ?_
  refine r_icmp_ge (tgt := 23) hx hb (by omega) (by omega) dX3_isPacket_16 (by decide) (fun c => absurd c (by omega)) (fun _ => ?_)
  refine lv_iconst (v := nI 1) hx hb dX3_isPacket_19 (by decide) ?_
  refine lv_goto (tgt := 24) hx hb dX3_isPacket_20 (by decide) ?_
  exact eZ B hP hS (by decide) rfl rfl dX3_isPacket_24
def f_X3_isPacket_r (pk : Int32) (sent : Nat) : Bool :=
  if pk < 0 then false else if (nI sent) ≤ pk then false else if (nI 200) ≤ pk then false else true
set_option maxHeartbeats 4000000 in
set_option maxRecDepth 100000 in
theorem c_X3_isPacket_r (l : Launch) (D : va_G) (cI cZ : ClassId) (ad : Nat → Nat) (rc rl rh fr fw fc fg ps pg pr pd qp qt qf qo ct lE lC : Nat → Int32) (cand : Int32) (lim : Int32) (now : Int32) (was : Int32) (sent : Nat) (qfi : Nat) (qsz : Nat) (pk : Int32) (hsent : sent ≤ 200) : MI l yX3_isPacket cX3_isPacket 2 .boolean { frames := 0, cells := 0, slots := 0, locals := 0 } D (TY cI cZ) [.ref (ad 10), .int pk] (wC cI ad rc rl rh fr fw fc fg ps pg pr pd qp qt qf qo ct lE lC cand lim now was (nI sent) (nI qfi) (nI qsz)) (wC cI ad rc rl rh fr fw fc fg ps pg pr pd qp qt qf qo ct lE lC cand lim now was (nI sent) (nI qfi) (nI qsz)) (bI (f_X3_isPacket_r pk sent)) := by
  refine MI.mk ⟨rfl, rfl⟩ (by decide +kernel) (Nat.le_of_ble_eq_true rfl) ?_
  intro p e s m below meth c A ls B hA hP hD hS hl
  have hx := B.1
  have hb := B.2.1
  have hts := B.2.2.2.2.2.1
  have hN := B.2.2.2.2.2.2.2.1
  have hK := B.2.2.2.2.2.2.2.2.1
  have hl : lv_has ls 2 [(0, .ref (ad 10)), (1, .int pk)] := hl
  have hf := f_X3_isPacket_r.eq_1 pk sent
  refine lv_iload_n hx hb dX3_isPacket_0 rfl (lv_at hl 1 rfl) ?_
  refine lv_if_lt (tgt := 23) hx hb dX3_isPacket_1 (by decide) (fun c1 => ?_) (fun c1 => ?_)
  · have hf := hf.trans (if_pos c1)
    refine lv_iconst (v := nI 0) hx hb dX3_isPacket_23 (by decide) ?_
    exact eZ B hP hS (by decide) ((congrArg (fun (u : Bool) => bI u) hf).symm) rfl dX3_isPacket_24
  · have hf := hf.trans (if_neg c1)
    refine lv_iload_n hx hb dX3_isPacket_4 rfl (lv_at hl 1 rfl) ?_
    refine lv_aload_n hx hb dX3_isPacket_5 rfl (lv_at hl 0 rfl) ?_
    refine g_X3_24 B hP 10 rfl rfl dX3_isPacket_6 ?_
    refine lv_icmp_ge (tgt := 23) hx hb dX3_isPacket_9 (by decide) (fun c2 => ?_) (fun c2 => ?_)
    · have hf := hf.trans (if_pos c2)
      refine lv_iconst (v := nI 0) hx hb dX3_isPacket_23 (by decide) ?_
      exact eZ B hP hS (by decide) ((congrArg (fun (u : Bool) => bI u) hf).symm) rfl dX3_isPacket_24
    · have hf := hf.trans (if_neg c2)
      refine lv_iload_n hx hb dX3_isPacket_12 rfl (lv_at hl 1 rfl) ?_
      refine lv_sipush (v := nI 200) hx hb dX3_isPacket_13 (by decide) ?_
      refine lv_icmp_ge (tgt := 23) hx hb dX3_isPacket_16 (by decide) (fun c3 => ?_) (fun c3 => ?_)
      · have hf := hf.trans (if_pos c3)
        refine lv_iconst (v := nI 0) hx hb dX3_isPacket_23 (by decide) ?_
        exact eZ B hP hS (by decide) ((congrArg (fun (u : Bool) => bI u) hf).symm) rfl dX3_isPacket_24
      · have hf := hf.trans (if_neg c3)
        refine lv_iconst (v := nI 1) hx hb dX3_isPacket_19 (by decide) ?_
        refine lv_goto (tgt := 24) hx hb dX3_isPacket_20 (by decide) ?_
        exact eZ B hP hS (by decide) ((congrArg (fun (u : Bool) => bI u) hf).symm) rfl dX3_isPacket_24
set_option maxHeartbeats 4000000 in
set_option maxRecDepth 100000 in
theorem c_X3_add (l : Launch) (D : va_G) (cI cZ : ClassId) (ad : Nat → Nat) (rc rl rh fr fw fc fg ps pg pr pd qp qt qf qo ct lE lC : Nat → Int32) (cand : Int32) (lim : Int32) (now : Int32) (was : Int32) (sent : Nat) (qfi : Nat) (qsz : Nat) (s_ : Int32) (g : Int32) (hsent : sent ≤ 200) (hn1sent : sent ≤ 199) : MI l yX3_add cX3_add 4 .int { frames := 1, cells := 0, slots := 0, locals := 20 } D (TY cI cZ) [.ref (ad 10), .int s_, .int g] (wC cI ad rc rl rh fr fw fc fg ps pg pr pd qp qt qf qo ct lE lC cand lim now was (nI sent) (nI qfi) (nI qsz)) (wC cI ad rc rl rh fr fw fc fg (upd ps sent s_) (upd pg sent g) pr pd qp qt qf qo ct lE lC cand lim now was (nI (sent + 1)) (nI qfi) (nI qsz)) (nI sent) := by
  refine MI.mk ⟨rfl, rfl⟩ (by decide +kernel) (Nat.le_of_ble_eq_true rfl) ?_
  intro p e s m below meth c A ls B hA hP hD hS hl
  have hx := B.1
  have hb := B.2.1
  have hts := B.2.2.2.2.2.1
  have hN := B.2.2.2.2.2.2.2.1
  have hK := B.2.2.2.2.2.2.2.2.1
  have hl : lv_has ls 4 [(0, .ref (ad 10)), (1, .int s_), (2, .int g)] := hl
  refine lv_aload_n hx hb dX3_add_0 rfl (lv_at hl 0 rfl) ?_
  refine fV_i (ci := 3) (as := []) (rest := []) B hl.1 (c_X3_isFull_n l D cI cZ ad rc rl rh fr fw fc fg ps pg pr pd qp qt qf qo ct lE lC cand lim now was sent qfi qsz (by omega) hn1sent) rfl (l_RX3_28 hts ⟨rfl, rfl⟩ ⟨Nat.le_of_ble_eq_true rfl, Nat.le_of_ble_eq_true rfl⟩) m_15_8 m_15_9 rfl rfl hP hD hS hA 10 rfl wfC (Nat.le_of_ble_eq_true rfl) dX3_add_1 (fun H locs hP hD hS => ?_)
  refine r_if_eq (tgt := 9) hx hb (by omega) dX3_add_4 (by decide) (fun _ => ?_) (fun c => absurd c (by omega))
  refine lv_aload_n hx hb dX3_add_9 rfl (lv_at hl 0 rfl) ?_
  refine g_X3_24 B hP 10 rfl rfl dX3_add_10 ?_
  refine lv_istore_n (lv' := [(3, .int (nI sent)), (0, .ref (ad 10)), (1, .int s_), (2, .int g)]) hx hb dX3_add_13 rfl hl (by decide) rfl (fun ls hl => ?_)
  refine lv_aload_n hx hb dX3_add_14 rfl (lv_at hl 1 rfl) ?_
  refine g_X3_9 B hP 10 rfl rfl dX3_add_15 ?_
  refine lv_iload_n hx hb dX3_add_18 rfl (lv_at hl 0 rfl) ?_
  refine lv_iload_n hx hb dX3_add_19 rfl (lv_at hl 2 rfl) ?_
  refine r_iast hx hb hK hP hD hS 11 0 rfl rfl (by omega) (by decide) dX3_add_20 (fun H locs hP hD hS => ?_)
  have hP : va_P D vwCl (wC cI ad rc rl rh fr fw fc fg (upd ps sent s_) pg pr pd qp qt qf qo ct lE lC cand lim now was (nI sent) (nI qfi) (nI qsz)) H := hP
  have hD : va_D A (wC cI ad rc rl rh fr fw fc fg (upd ps sent s_) pg pr pd qp qt qf qo ct lE lC cand lim now was (nI sent) (nI qfi) (nI qsz)) := hD
  refine lv_aload_n hx hb dX3_add_21 rfl (lv_at hl 1 rfl) ?_
  refine g_X3_15 B hP 10 rfl rfl dX3_add_22 ?_
  refine lv_iload_n hx hb dX3_add_25 rfl (lv_at hl 0 rfl) ?_
  refine lv_iload_n hx hb dX3_add_26 rfl (lv_at hl 3 rfl) ?_
  refine r_iast hx hb hK hP hD hS 12 0 rfl rfl (by omega) (by decide) dX3_add_27 (fun H locs hP hD hS => ?_)
  have hP : va_P D vwCl (wC cI ad rc rl rh fr fw fc fg (upd ps sent s_) (upd pg sent g) pr pd qp qt qf qo ct lE lC cand lim now was (nI sent) (nI qfi) (nI qsz)) H := hP
  have hD : va_D A (wC cI ad rc rl rh fr fw fc fg (upd ps sent s_) (upd pg sent g) pr pd qp qt qf qo ct lE lC cand lim now was (nI sent) (nI qfi) (nI qsz)) := hD
  refine lv_aload_n hx hb dX3_add_28 rfl (lv_at hl 1 rfl) ?_
  refine lv_dup hx hb dX3_add_29 rfl ?_
  refine g_X3_24 B hP 10 rfl rfl dX3_add_30 ?_
  refine lv_iconst (v := nI 1) hx hb dX3_add_33 (by decide) ?_
  refine r_iadd hx hb dX3_add_34 ?_
  refine p_X3_24 B hP hD hS 10 rfl (Nat.le_of_ble_eq_true rfl) dX3_add_35 (fun H locs hP hD hS => ?_)
  have hP : va_P D vwCl (wC cI ad rc rl rh fr fw fc fg (upd ps sent s_) (upd pg sent g) pr pd qp qt qf qo ct lE lC cand lim now was (nI (sent + 1)) (nI qfi) (nI qsz)) H := hP
  have hD : va_D A (wC cI ad rc rl rh fr fw fc fg (upd ps sent s_) (upd pg sent g) pr pd qp qt qf qo ct lE lC cand lim now was (nI (sent + 1)) (nI qfi) (nI qsz)) := hD
  refine lv_iload_n hx hb dX3_add_38 rfl (lv_at hl 0 rfl) ?_
  exact eI B hP hS rfl rfl dX3_add_39
set_option maxHeartbeats 4000000 in
set_option maxRecDepth 100000 in
theorem c_X3_receive (l : Launch) (D : va_G) (cI cZ : ClassId) (ad : Nat → Nat) (rc rl rh fr fw fc fg ps pg pr pd qp qt qf qo ct lE lC : Nat → Int32) (cand : Int32) (lim : Int32) (now : Int32) (was : Int32) (sent : Nat) (qfi : Nat) (qsz : Nat) (pk : Nat) (r : Nat) (hpk : pk < 200) (hr : r < 10) (hsent : sent ≤ 200) (hps : pk < sent) : MV l yX3_receive cX3_receive 3 { frames := 1, cells := 0, slots := 0, locals := 21 } D (TY cI cZ) [.ref (ad 10), .int (nI pk), .int (nI r)] (wC cI ad rc rl rh fr fw fc fg ps pg pr pd qp qt qf qo ct lE lC cand lim now was (nI sent) (nI qfi) (nI qsz)) (wC cI ad rc rl rh fr fw fc fg ps pg (upd pr pk ((pr pk) ||| ((nI 1) <<< ((nI r) &&& 31)))) pd qp qt qf qo ct lE lC cand lim now was (nI sent) (nI qfi) (nI qsz)) := by
  refine MV.mk ⟨rfl, rfl⟩ (by decide +kernel) (Nat.le_of_ble_eq_true rfl) ?_
  intro p e s m below meth c A ls B hA hP hD hS hl
  have hx := B.1
  have hb := B.2.1
  have hts := B.2.2.2.2.2.1
  have hN := B.2.2.2.2.2.2.2.1
  have hK := B.2.2.2.2.2.2.2.2.1
  have hl : lv_has ls 3 [(0, .ref (ad 10)), (1, .int (nI pk)), (2, .int (nI r))] := hl
  refine lv_aload_n hx hb dX3_receive_0 rfl (lv_at hl 0 rfl) ?_
  refine lv_iload_n hx hb dX3_receive_1 rfl (lv_at hl 1 rfl) ?_
  refine fV_i (ci := 3) (as := [.int (nI pk)]) (rest := []) B hl.1 (c_X3_isPacket l D cI cZ ad rc rl rh fr fw fc fg ps pg pr pd qp qt qf qo ct lE lC cand lim now was sent qfi qsz pk (by omega) (by omega) hps) rfl (l_RX3_32 hts ⟨rfl, rfl⟩ ⟨Nat.le_of_ble_eq_true rfl, Nat.le_of_ble_eq_true rfl⟩) m_15_22 m_15_23 rfl rfl hP hD hS hA 10 rfl wfC (Nat.le_of_ble_eq_true rfl) dX3_receive_2 (fun H locs hP hD hS => ?_)
  refine r_if_eq (tgt := 28) hx hb (by omega) dX3_receive_5 (by decide) (fun c => absurd c (by omega)) (fun _ => ?_)
  refine lv_iload_n hx hb dX3_receive_8 rfl (lv_at hl 2 rfl) ?_
  refine fN_i (as := [.int (nI r)]) (rest := []) B hl.1 (c_X5_isRouter l D cI cZ (wC cI ad rc rl rh fr fw fc fg ps pg pr pd qp qt qf qo ct lE lC cand lim now was (nI sent) (nI qfi) (nI qsz)) r (by omega)) (l_RX3_36 hts hN ⟨rfl, rfl⟩ ⟨Nat.le_of_ble_eq_true rfl, Nat.le_of_ble_eq_true rfl⟩) m_4_14 rfl rfl hP hD hS hA rfl (Nat.le_of_ble_eq_true rfl) dX3_receive_9 (fun H locs hP hD hS => ?_)
  refine r_if_eq (tgt := 28) hx hb (by omega) dX3_receive_12 (by decide) (fun c => absurd c (by omega)) (fun _ => ?_)
  refine lv_aload_n hx hb dX3_receive_15 rfl (lv_at hl 0 rfl) ?_
  refine g_X3_18 B hP 10 rfl rfl dX3_receive_16 ?_
  refine lv_iload_n hx hb dX3_receive_19 rfl (lv_at hl 1 rfl) ?_
  refine lv_dup2_11 hx hb dX3_receive_20 rfl rfl ?_
  refine r_iald hx hb hK hP 13 0 rfl rfl (by omega) (by decide) dX3_receive_21 ?_
  refine lv_iload_n hx hb dX3_receive_22 rfl (lv_at hl 2 rfl) ?_
  refine fN_i (as := [.int (nI r)]) (rest := [.int (pr pk), .int (nI pk), .ref (ad 13)]) B hl.1 (c_X5_bit l D cI cZ (wC cI ad rc rl rh fr fw fc fg ps pg pr pd qp qt qf qo ct lE lC cand lim now was (nI sent) (nI qfi) (nI qsz)) r (by omega)) (l_RX3_39 hts hN ⟨rfl, rfl⟩ ⟨Nat.le_of_ble_eq_true rfl, Nat.le_of_ble_eq_true rfl⟩) m_7_17 rfl rfl hP hD hS hA rfl (Nat.le_of_ble_eq_true rfl) dX3_receive_23 (fun H locs hP hD hS => ?_)
  refine lv_ior hx hb dX3_receive_26 ?_
  refine r_iast hx hb hK hP hD hS 13 0 rfl rfl (by omega) (by decide) dX3_receive_27 (fun H locs hP hD hS => ?_)
  have hP : va_P D vwCl (wC cI ad rc rl rh fr fw fc fg ps pg (upd pr pk ((pr pk) ||| ((nI 1) <<< ((nI r) &&& 31)))) pd qp qt qf qo ct lE lC cand lim now was (nI sent) (nI qfi) (nI qsz)) H := hP
  have hD : va_D A (wC cI ad rc rl rh fr fw fc fg ps pg (upd pr pk ((pr pk) ||| ((nI 1) <<< ((nI r) &&& 31)))) pd qp qt qf qo ct lE lC cand lim now was (nI sent) (nI qfi) (nI qsz)) := hD
  exact eV B hP hS rfl dX3_receive_28
set_option maxHeartbeats 4000000 in
set_option maxRecDepth 100000 in
theorem c_X3_addDouble (l : Launch) (D : va_G) (cI cZ : ClassId) (ad : Nat → Nat) (rc rl rh fr fw fc fg ps pg pr pd qp qt qf qo ct lE lC : Nat → Int32) (cand : Int32) (lim : Int32) (now : Int32) (was : Int32) (sent : Nat) (qfi : Nat) (qsz : Nat) (pk : Nat) (hpk : pk < 200) (hsent : sent ≤ 200) (hps : pk < sent) : MV l yX3_addDouble cX3_addDouble 2 { frames := 1, cells := 0, slots := 0, locals := 21 } D (TY cI cZ) [.ref (ad 10), .int (nI pk)] (wC cI ad rc rl rh fr fw fc fg ps pg pr pd qp qt qf qo ct lE lC cand lim now was (nI sent) (nI qfi) (nI qsz)) (wC cI ad rc rl rh fr fw fc fg ps pg pr (upd pd pk ((pd pk) + (nI 1))) qp qt qf qo ct lE lC cand lim now was (nI sent) (nI qfi) (nI qsz)) := by
  refine MV.mk ⟨rfl, rfl⟩ (by decide +kernel) (Nat.le_of_ble_eq_true rfl) ?_
  intro p e s m below meth c A ls B hA hP hD hS hl
  have hx := B.1
  have hb := B.2.1
  have hts := B.2.2.2.2.2.1
  have hN := B.2.2.2.2.2.2.2.1
  have hK := B.2.2.2.2.2.2.2.2.1
  have hl : lv_has ls 2 [(0, .ref (ad 10)), (1, .int (nI pk))] := hl
  refine lv_aload_n hx hb dX3_addDouble_0 rfl (lv_at hl 0 rfl) ?_
  refine lv_iload_n hx hb dX3_addDouble_1 rfl (lv_at hl 1 rfl) ?_
  refine fV_i (ci := 3) (as := [.int (nI pk)]) (rest := []) B hl.1 (c_X3_isPacket l D cI cZ ad rc rl rh fr fw fc fg ps pg pr pd qp qt qf qo ct lE lC cand lim now was sent qfi qsz pk (by omega) (by omega) hps) rfl (l_RX3_32 hts ⟨rfl, rfl⟩ ⟨Nat.le_of_ble_eq_true rfl, Nat.le_of_ble_eq_true rfl⟩) m_15_22 m_15_23 rfl rfl hP hD hS hA 10 rfl wfC (Nat.le_of_ble_eq_true rfl) dX3_addDouble_2 (fun H locs hP hD hS => ?_)
  refine r_if_eq (tgt := 18) hx hb (by omega) dX3_addDouble_5 (by decide) (fun c => absurd c (by omega)) (fun _ => ?_)
  refine lv_aload_n hx hb dX3_addDouble_8 rfl (lv_at hl 0 rfl) ?_
  refine g_X3_21 B hP 10 rfl rfl dX3_addDouble_9 ?_
  refine lv_iload_n hx hb dX3_addDouble_12 rfl (lv_at hl 1 rfl) ?_
  refine lv_dup2_11 hx hb dX3_addDouble_13 rfl rfl ?_
  refine r_iald hx hb hK hP 14 0 rfl rfl (by omega) (by decide) dX3_addDouble_14 ?_
  refine lv_iconst (v := nI 1) hx hb dX3_addDouble_15 (by decide) ?_
  refine lv_iadd hx hb dX3_addDouble_16 ?_
  refine r_iast hx hb hK hP hD hS 14 0 rfl rfl (by omega) (by decide) dX3_addDouble_17 (fun H locs hP hD hS => ?_)
  have hP : va_P D vwCl (wC cI ad rc rl rh fr fw fc fg ps pg pr (upd pd pk ((pd pk) + (nI 1))) qp qt qf qo ct lE lC cand lim now was (nI sent) (nI qfi) (nI qsz)) H := hP
  have hD : va_D A (wC cI ad rc rl rh fr fw fc fg ps pg pr (upd pd pk ((pd pk) + (nI 1))) qp qt qf qo ct lE lC cand lim now was (nI sent) (nI qfi) (nI qsz)) := hD
  exact eV B hP hS rfl dX3_addDouble_18
set_option maxHeartbeats 4000000 in
set_option maxRecDepth 100000 in
theorem c_X3_sourceOf (l : Launch) (D : va_G) (cI cZ : ClassId) (ad : Nat → Nat) (rc rl rh fr fw fc fg ps pg pr pd qp qt qf qo ct lE lC : Nat → Int32) (cand : Int32) (lim : Int32) (now : Int32) (was : Int32) (sent : Nat) (qfi : Nat) (qsz : Nat) (pk : Nat) (hpk : pk < 200) (hsent : sent ≤ 200) (hps : pk < sent) : MI l yX3_sourceOf cX3_sourceOf 2 .int { frames := 1, cells := 0, slots := 0, locals := 21 } D (TY cI cZ) [.ref (ad 10), .int (nI pk)] (wC cI ad rc rl rh fr fw fc fg ps pg pr pd qp qt qf qo ct lE lC cand lim now was (nI sent) (nI qfi) (nI qsz)) (wC cI ad rc rl rh fr fw fc fg ps pg pr pd qp qt qf qo ct lE lC cand lim now was (nI sent) (nI qfi) (nI qsz)) (ps pk) := by
  refine MI.mk ⟨rfl, rfl⟩ (by decide +kernel) (Nat.le_of_ble_eq_true rfl) ?_
  intro p e s m below meth c A ls B hA hP hD hS hl
  have hx := B.1
  have hb := B.2.1
  have hts := B.2.2.2.2.2.1
  have hN := B.2.2.2.2.2.2.2.1
  have hK := B.2.2.2.2.2.2.2.2.1
  have hl : lv_has ls 2 [(0, .ref (ad 10)), (1, .int (nI pk))] := hl
  refine lv_aload_n hx hb dX3_sourceOf_0 rfl (lv_at hl 0 rfl) ?_
  refine lv_iload_n hx hb dX3_sourceOf_1 rfl (lv_at hl 1 rfl) ?_
  refine fV_i (ci := 3) (as := [.int (nI pk)]) (rest := []) B hl.1 (c_X3_isPacket l D cI cZ ad rc rl rh fr fw fc fg ps pg pr pd qp qt qf qo ct lE lC cand lim now was sent qfi qsz pk (by omega) (by omega) hps) rfl (l_RX3_32 hts ⟨rfl, rfl⟩ ⟨Nat.le_of_ble_eq_true rfl, Nat.le_of_ble_eq_true rfl⟩) m_15_22 m_15_23 rfl rfl hP hD hS hA 10 rfl wfC (Nat.le_of_ble_eq_true rfl) dX3_sourceOf_2 (fun H locs hP hD hS => ?_)
  refine r_if_eq (tgt := 17) hx hb (by omega) dX3_sourceOf_5 (by decide) (fun c => absurd c (by omega)) (fun _ => ?_)
  refine lv_aload_n hx hb dX3_sourceOf_8 rfl (lv_at hl 0 rfl) ?_
  refine g_X3_9 B hP 10 rfl rfl dX3_sourceOf_9 ?_
  refine lv_iload_n hx hb dX3_sourceOf_12 rfl (lv_at hl 1 rfl) ?_
  refine r_iald hx hb hK hP 11 0 rfl rfl (by omega) (by decide) dX3_sourceOf_13 ?_
  refine lv_goto (tgt := 18) hx hb dX3_sourceOf_14 (by decide) ?_
  exact eI B hP hS rfl rfl dX3_sourceOf_18
set_option maxHeartbeats 4000000 in
set_option maxRecDepth 100000 in
theorem c_X3_groupOf (l : Launch) (D : va_G) (cI cZ : ClassId) (ad : Nat → Nat) (rc rl rh fr fw fc fg ps pg pr pd qp qt qf qo ct lE lC : Nat → Int32) (cand : Int32) (lim : Int32) (now : Int32) (was : Int32) (sent : Nat) (qfi : Nat) (qsz : Nat) (pk : Nat) (hpk : pk < 200) (hsent : sent ≤ 200) (hps : pk < sent) : MI l yX3_groupOf cX3_groupOf 2 .int { frames := 1, cells := 0, slots := 0, locals := 21 } D (TY cI cZ) [.ref (ad 10), .int (nI pk)] (wC cI ad rc rl rh fr fw fc fg ps pg pr pd qp qt qf qo ct lE lC cand lim now was (nI sent) (nI qfi) (nI qsz)) (wC cI ad rc rl rh fr fw fc fg ps pg pr pd qp qt qf qo ct lE lC cand lim now was (nI sent) (nI qfi) (nI qsz)) (pg pk) := by
  refine MI.mk ⟨rfl, rfl⟩ (by decide +kernel) (Nat.le_of_ble_eq_true rfl) ?_
  intro p e s m below meth c A ls B hA hP hD hS hl
  have hx := B.1
  have hb := B.2.1
  have hts := B.2.2.2.2.2.1
  have hN := B.2.2.2.2.2.2.2.1
  have hK := B.2.2.2.2.2.2.2.2.1
  have hl : lv_has ls 2 [(0, .ref (ad 10)), (1, .int (nI pk))] := hl
  refine lv_aload_n hx hb dX3_groupOf_0 rfl (lv_at hl 0 rfl) ?_
  refine lv_iload_n hx hb dX3_groupOf_1 rfl (lv_at hl 1 rfl) ?_
  refine fV_i (ci := 3) (as := [.int (nI pk)]) (rest := []) B hl.1 (c_X3_isPacket l D cI cZ ad rc rl rh fr fw fc fg ps pg pr pd qp qt qf qo ct lE lC cand lim now was sent qfi qsz pk (by omega) (by omega) hps) rfl (l_RX3_32 hts ⟨rfl, rfl⟩ ⟨Nat.le_of_ble_eq_true rfl, Nat.le_of_ble_eq_true rfl⟩) m_15_22 m_15_23 rfl rfl hP hD hS hA 10 rfl wfC (Nat.le_of_ble_eq_true rfl) dX3_groupOf_2 (fun H locs hP hD hS => ?_)
  refine r_if_eq (tgt := 17) hx hb (by omega) dX3_groupOf_5 (by decide) (fun c => absurd c (by omega)) (fun _ => ?_)
  refine lv_aload_n hx hb dX3_groupOf_8 rfl (lv_at hl 0 rfl) ?_
  refine g_X3_15 B hP 10 rfl rfl dX3_groupOf_9 ?_
  refine lv_iload_n hx hb dX3_groupOf_12 rfl (lv_at hl 1 rfl) ?_
  refine r_iald hx hb hK hP 12 0 rfl rfl (by omega) (by decide) dX3_groupOf_13 ?_
  refine lv_goto (tgt := 18) hx hb dX3_groupOf_14 (by decide) ?_
  exact eI B hP hS rfl rfl dX3_groupOf_18
set_option maxHeartbeats 4000000 in
set_option maxRecDepth 100000 in
theorem c_X3_receiversOf (l : Launch) (D : va_G) (cI cZ : ClassId) (ad : Nat → Nat) (rc rl rh fr fw fc fg ps pg pr pd qp qt qf qo ct lE lC : Nat → Int32) (cand : Int32) (lim : Int32) (now : Int32) (was : Int32) (sent : Nat) (qfi : Nat) (qsz : Nat) (pk : Nat) (hpk : pk < 200) (hsent : sent ≤ 200) (hps : pk < sent) : MI l yX3_receiversOf cX3_receiversOf 2 .int { frames := 1, cells := 0, slots := 0, locals := 21 } D (TY cI cZ) [.ref (ad 10), .int (nI pk)] (wC cI ad rc rl rh fr fw fc fg ps pg pr pd qp qt qf qo ct lE lC cand lim now was (nI sent) (nI qfi) (nI qsz)) (wC cI ad rc rl rh fr fw fc fg ps pg pr pd qp qt qf qo ct lE lC cand lim now was (nI sent) (nI qfi) (nI qsz)) (pr pk) := by
  refine MI.mk ⟨rfl, rfl⟩ (by decide +kernel) (Nat.le_of_ble_eq_true rfl) ?_
  intro p e s m below meth c A ls B hA hP hD hS hl
  have hx := B.1
  have hb := B.2.1
  have hts := B.2.2.2.2.2.1
  have hN := B.2.2.2.2.2.2.2.1
  have hK := B.2.2.2.2.2.2.2.2.1
  have hl : lv_has ls 2 [(0, .ref (ad 10)), (1, .int (nI pk))] := hl
  refine lv_aload_n hx hb dX3_receiversOf_0 rfl (lv_at hl 0 rfl) ?_
  refine lv_iload_n hx hb dX3_receiversOf_1 rfl (lv_at hl 1 rfl) ?_
  refine fV_i (ci := 3) (as := [.int (nI pk)]) (rest := []) B hl.1 (c_X3_isPacket l D cI cZ ad rc rl rh fr fw fc fg ps pg pr pd qp qt qf qo ct lE lC cand lim now was sent qfi qsz pk (by omega) (by omega) hps) rfl (l_RX3_32 hts ⟨rfl, rfl⟩ ⟨Nat.le_of_ble_eq_true rfl, Nat.le_of_ble_eq_true rfl⟩) m_15_22 m_15_23 rfl rfl hP hD hS hA 10 rfl wfC (Nat.le_of_ble_eq_true rfl) dX3_receiversOf_2 (fun H locs hP hD hS => ?_)
  refine r_if_eq (tgt := 17) hx hb (by omega) dX3_receiversOf_5 (by decide) (fun c => absurd c (by omega)) (fun _ => ?_)
  refine lv_aload_n hx hb dX3_receiversOf_8 rfl (lv_at hl 0 rfl) ?_
  refine g_X3_18 B hP 10 rfl rfl dX3_receiversOf_9 ?_
  refine lv_iload_n hx hb dX3_receiversOf_12 rfl (lv_at hl 1 rfl) ?_
  refine r_iald hx hb hK hP 13 0 rfl rfl (by omega) (by decide) dX3_receiversOf_13 ?_
  refine lv_goto (tgt := 18) hx hb dX3_receiversOf_14 (by decide) ?_
  exact eI B hP hS rfl rfl dX3_receiversOf_18
set_option maxHeartbeats 4000000 in
set_option maxRecDepth 100000 in
theorem c_X3_doublesOf (l : Launch) (D : va_G) (cI cZ : ClassId) (ad : Nat → Nat) (rc rl rh fr fw fc fg ps pg pr pd qp qt qf qo ct lE lC : Nat → Int32) (cand : Int32) (lim : Int32) (now : Int32) (was : Int32) (sent : Nat) (qfi : Nat) (qsz : Nat) (pk : Nat) (hpk : pk < 200) (hsent : sent ≤ 200) (hps : pk < sent) : MI l yX3_doublesOf cX3_doublesOf 2 .int { frames := 1, cells := 0, slots := 0, locals := 21 } D (TY cI cZ) [.ref (ad 10), .int (nI pk)] (wC cI ad rc rl rh fr fw fc fg ps pg pr pd qp qt qf qo ct lE lC cand lim now was (nI sent) (nI qfi) (nI qsz)) (wC cI ad rc rl rh fr fw fc fg ps pg pr pd qp qt qf qo ct lE lC cand lim now was (nI sent) (nI qfi) (nI qsz)) (pd pk) := by
  refine MI.mk ⟨rfl, rfl⟩ (by decide +kernel) (Nat.le_of_ble_eq_true rfl) ?_
  intro p e s m below meth c A ls B hA hP hD hS hl
  have hx := B.1
  have hb := B.2.1
  have hts := B.2.2.2.2.2.1
  have hN := B.2.2.2.2.2.2.2.1
  have hK := B.2.2.2.2.2.2.2.2.1
  have hl : lv_has ls 2 [(0, .ref (ad 10)), (1, .int (nI pk))] := hl
  refine lv_aload_n hx hb dX3_doublesOf_0 rfl (lv_at hl 0 rfl) ?_
  refine lv_iload_n hx hb dX3_doublesOf_1 rfl (lv_at hl 1 rfl) ?_
  refine fV_i (ci := 3) (as := [.int (nI pk)]) (rest := []) B hl.1 (c_X3_isPacket l D cI cZ ad rc rl rh fr fw fc fg ps pg pr pd qp qt qf qo ct lE lC cand lim now was sent qfi qsz pk (by omega) (by omega) hps) rfl (l_RX3_32 hts ⟨rfl, rfl⟩ ⟨Nat.le_of_ble_eq_true rfl, Nat.le_of_ble_eq_true rfl⟩) m_15_22 m_15_23 rfl rfl hP hD hS hA 10 rfl wfC (Nat.le_of_ble_eq_true rfl) dX3_doublesOf_2 (fun H locs hP hD hS => ?_)
  refine r_if_eq (tgt := 17) hx hb (by omega) dX3_doublesOf_5 (by decide) (fun c => absurd c (by omega)) (fun _ => ?_)
  refine lv_aload_n hx hb dX3_doublesOf_8 rfl (lv_at hl 0 rfl) ?_
  refine g_X3_21 B hP 10 rfl rfl dX3_doublesOf_9 ?_
  refine lv_iload_n hx hb dX3_doublesOf_12 rfl (lv_at hl 1 rfl) ?_
  refine r_iald hx hb hK hP 14 0 rfl rfl (by omega) (by decide) dX3_doublesOf_13 ?_
  refine lv_goto (tgt := 18) hx hb dX3_doublesOf_14 (by decide) ?_
  exact eI B hP hS rfl rfl dX3_doublesOf_18
