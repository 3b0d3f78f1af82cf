set_option maxHeartbeats 4000000 in
set_option maxRecDepth 100000 in
theorem c_X6_setLink_b1 (l : Launch) (D : va_G) (cI cZ : ClassId) (ad : Nat → Nat) (co fa ic me sw cn ab go cp so gr re db : Nat → Int32) (rclk : Int32) (rlim : Int32) (rqd : Nat) (rpk : Nat) (rwas : Int32) (rthr : Int32) (r : Int32) (o : Int32) (c_ : Int32) (hbad : ¬ (f_X6_isRouter_r r) = true) : MI l yX6_setLink cX6_setLink 5 .int { frames := 1, cells := 0, slots := 0, locals := 21 } D (TY cI cZ) [.ref (ad 0), .int r, .int o, .int c_] (wR cI cZ ad co fa ic me sw cn ab go cp so gr re db rclk rlim (nI rqd) (nI rpk) rwas rthr) (wR cI cZ ad co fa ic me sw cn ab go cp so gr re db rclk rlim (nI rqd) (nI rpk) rwas (nI 1)) (nI 0) := by
  refine MI.mk ⟨rfl, rfl⟩ (by decide +kernel) (Nat.le_of_ble_eq_true rfl) ?_
  intro p e s m below meth c A ls B hA hP hD hS hl
  have hx := B.1
  have hb := B.2.1
  have hts := B.2.2.2.2.2.1
  have hN := B.2.2.2.2.2.2.2.1
  have hK := B.2.2.2.2.2.2.2.2.1
  have hl : lv_has ls 5 [(0, .ref (ad 0)), (1, .int r), (2, .int o), (3, .int c_)] := hl
  refine lv_aload_n hx hb dX6_setLink_0 rfl (lv_at hl 0 rfl) ?_
  refine lv_iload_n hx hb dX6_setLink_1 rfl (lv_at hl 1 rfl) ?_
  refine fS_i (as := [.int r]) (rest := [.ref (ad 0)]) B hl.1 (c_X6_isRouter_r l D cI cZ (wR cI cZ ad co fa ic me sw cn ab go cp so gr re db rclk rlim (nI rqd) (nI rpk) rwas rthr) r) (l_RX6_86 hts ⟨rfl, rfl⟩ ⟨Nat.le_of_ble_eq_true rfl, Nat.le_of_ble_eq_true rfl⟩) m_8_22 rfl rfl hP hD hS hA rfl (Nat.le_of_ble_eq_true rfl) dX6_setLink_2 (fun H locs hP hD hS => ?_)
  refine r_if_eq_b (tgt := 15) hx hb dX6_setLink_5 (by decide) (fun _ => ?_) (fun c => absurd c hbad)
  refine lv_iconst (v := nI 1) hx hb dX6_setLink_15 (by decide) ?_
  refine lv_goto (tgt := 39) hx hb dX6_setLink_16 (by decide) ?_
  refine fV_i (ci := 6) (as := [.int (nI 1)]) (rest := []) B hl.1 (c_X6_can_1 l D cI cZ ad co fa ic me sw cn ab go cp so gr re db rclk rlim rqd rpk rwas rthr) rfl (l_RX6_90 hts ⟨rfl, rfl⟩ ⟨Nat.le_of_ble_eq_true rfl, Nat.le_of_ble_eq_true rfl⟩) m_9_1 m_9_2 rfl rfl hP hD hS hA 0 rfl wfR (Nat.le_of_ble_eq_true rfl) dX6_setLink_39 (fun H locs hP hD hS => ?_)
  refine r_if_ne (tgt := 47) hx hb (by omega) dX6_setLink_42 (by decide) (fun c => absurd c (by omega)) (fun _ => ?_)
  refine lv_iconst (v := nI 0) hx hb dX6_setLink_45 (by decide) ?_
  exact eI B hP hS rfl rfl dX6_setLink_46
set_option maxHeartbeats 4000000 in
set_option maxRecDepth 100000 in
theorem c_X6_setLink_b2 (l : Launch) (D : va_G) (cI cZ : ClassId) (ad : Nat → Nat) (co fa ic me sw cn ab go cp so gr re db : Nat → Int32) (rclk : Int32) (rlim : Int32) (rqd : Nat) (rpk : Nat) (rwas : Int32) (rthr : Int32) (r : Nat) (o : Int32) (c_ : Int32) (hr : r < 10) (hbad : ¬ (f_X6_isRouter_r o) = true) : MI l yX6_setLink cX6_setLink 5 .int { frames := 1, cells := 0, slots := 0, locals := 21 } D (TY cI cZ) [.ref (ad 0), .int (nI r), .int o, .int c_] (wR cI cZ ad co fa ic me sw cn ab go cp so gr re db rclk rlim (nI rqd) (nI rpk) rwas rthr) (wR cI cZ ad co fa ic me sw cn ab go cp so gr re db rclk rlim (nI rqd) (nI rpk) rwas (nI 1)) (nI 0) := by
  refine MI.mk ⟨rfl, rfl⟩ (by decide +kernel) (Nat.le_of_ble_eq_true rfl) ?_
  intro p e s m below meth c A ls B hA hP hD hS hl
  have hx := B.1
  have hb := B.2.1
  have hts := B.2.2.2.2.2.1
  have hN := B.2.2.2.2.2.2.2.1
  have hK := B.2.2.2.2.2.2.2.2.1
  have hl : lv_has ls 5 [(0, .ref (ad 0)), (1, .int (nI r)), (2, .int o), (3, .int c_)] := hl
  refine lv_aload_n hx hb dX6_setLink_0 rfl (lv_at hl 0 rfl) ?_
  refine lv_iload_n hx hb dX6_setLink_1 rfl (lv_at hl 1 rfl) ?_
  refine fS_i (as := [.int (nI r)]) (rest := [.ref (ad 0)]) B hl.1 (c_X6_isRouter l D cI cZ (wR cI cZ ad co fa ic me sw cn ab go cp so gr re db rclk rlim (nI rqd) (nI rpk) rwas rthr) r (by omega)) (l_RX6_86 hts ⟨rfl, rfl⟩ ⟨Nat.le_of_ble_eq_true rfl, Nat.le_of_ble_eq_true rfl⟩) m_8_22 rfl rfl hP hD hS hA rfl (Nat.le_of_ble_eq_true rfl) dX6_setLink_2 (fun H locs hP hD hS => ?_)
  refine r_if_eq (tgt := 15) hx hb (by omega) dX6_setLink_5 (by decide) (fun c => absurd c (by omega)) (fun _ => ?_)
  refine lv_iload_n hx hb dX6_setLink_8 rfl (lv_at hl 2 rfl) ?_
  refine fS_i (as := [.int o]) (rest := [.ref (ad 0)]) B hl.1 (c_X6_isRouter_r l D cI cZ (wR cI cZ ad co fa ic me sw cn ab go cp so gr re db rclk rlim (nI rqd) (nI rpk) rwas rthr) o) (l_RX6_86 hts ⟨rfl, rfl⟩ ⟨Nat.le_of_ble_eq_true rfl, Nat.le_of_ble_eq_true rfl⟩) m_8_22 rfl rfl hP hD hS hA rfl (Nat.le_of_ble_eq_true rfl) dX6_setLink_9 (fun H locs hP hD hS => ?_)
  refine r_if_ne_b (tgt := 19) hx hb dX6_setLink_12 (by decide) (fun c => absurd c hbad) (fun _ => ?_)
  refine lv_iconst (v := nI 1) hx hb dX6_setLink_15 (by decide) ?_
  refine lv_goto (tgt := 39) hx hb dX6_setLink_16 (by decide) ?_
  refine fV_i (ci := 6) (as := [.int (nI 1)]) (rest := []) B hl.1 (c_X6_can_1 l D cI cZ ad co fa ic me sw cn ab go cp so gr re db rclk rlim rqd rpk rwas rthr) rfl (l_RX6_90 hts ⟨rfl, rfl⟩ ⟨Nat.le_of_ble_eq_true rfl, Nat.le_of_ble_eq_true rfl⟩) m_9_1 m_9_2 rfl rfl hP hD hS hA 0 rfl wfR (Nat.le_of_ble_eq_true rfl) dX6_setLink_39 (fun H locs hP hD hS => ?_)
  refine r_if_ne (tgt := 47) hx hb (by omega) dX6_setLink_42 (by decide) (fun c => absurd c (by omega)) (fun _ => ?_)
  refine lv_iconst (v := nI 0) hx hb dX6_setLink_45 (by decide) ?_
  exact eI B hP hS rfl rfl dX6_setLink_46
set_option maxHeartbeats 4000000 in
set_option maxRecDepth 100000 in
theorem c_X6_setLink_b3 (l : Launch) (D : va_G) (cI cZ : ClassId) (ad : Nat → Nat) (co fa ic me sw cn ab go cp so gr re db : Nat → Int32) (rclk : Int32) (rlim : Int32) (rqd : Nat) (rpk : Nat) (rwas : Int32) (rthr : Int32) (r : Nat) (o : Nat) (c_ : Int32) (hr : r < 10) (ho : o < 10) (hc0 : r = o) : MI l yX6_setLink cX6_setLink 5 .int { frames := 1, cells := 0, slots := 0, locals := 21 } D (TY cI cZ) [.ref (ad 0), .int (nI r), .int (nI o), .int c_] (wR cI cZ ad co fa ic me sw cn ab go cp so gr re db rclk rlim (nI rqd) (nI rpk) rwas rthr) (wR cI cZ ad co fa ic me sw cn ab go cp so gr re db rclk rlim (nI rqd) (nI rpk) rwas (nI 2)) (nI 0) := by
  refine MI.mk ⟨rfl, rfl⟩ (by decide +kernel) (Nat.le_of_ble_eq_true rfl) ?_
  intro p e s m below meth c A ls B hA hP hD hS hl
  have hx := B.1
  have hb := B.2.1
  have hts := B.2.2.2.2.2.1
  have hN := B.2.2.2.2.2.2.2.1
  have hK := B.2.2.2.2.2.2.2.2.1
  have hl : lv_has ls 5 [(0, .ref (ad 0)), (1, .int (nI r)), (2, .int (nI o)), (3, .int c_)] := hl
  refine lv_aload_n hx hb dX6_setLink_0 rfl (lv_at hl 0 rfl) ?_
  refine lv_iload_n hx hb dX6_setLink_1 rfl (lv_at hl 1 rfl) ?_
  refine fS_i (as := [.int (nI r)]) (rest := [.ref (ad 0)]) B hl.1 (c_X6_isRouter l D cI cZ (wR cI cZ ad co fa ic me sw cn ab go cp so gr re db rclk rlim (nI rqd) (nI rpk) rwas rthr) r (by omega)) (l_RX6_86 hts ⟨rfl, rfl⟩ ⟨Nat.le_of_ble_eq_true rfl, Nat.le_of_ble_eq_true rfl⟩) m_8_22 rfl rfl hP hD hS hA rfl (Nat.le_of_ble_eq_true rfl) dX6_setLink_2 (fun H locs hP hD hS => ?_)
  refine r_if_eq (tgt := 15) hx hb (by omega) dX6_setLink_5 (by decide) (fun c => absurd c (by omega)) (fun _ => ?_)
  refine lv_iload_n hx hb dX6_setLink_8 rfl (lv_at hl 2 rfl) ?_
  refine fS_i (as := [.int (nI o)]) (rest := [.ref (ad 0)]) B hl.1 (c_X6_isRouter l D cI cZ (wR cI cZ ad co fa ic me sw cn ab go cp so gr re db rclk rlim (nI rqd) (nI rpk) rwas rthr) o (by omega)) (l_RX6_86 hts ⟨rfl, rfl⟩ ⟨Nat.le_of_ble_eq_true rfl, Nat.le_of_ble_eq_true rfl⟩) m_8_22 rfl rfl hP hD hS hA rfl (Nat.le_of_ble_eq_true rfl) dX6_setLink_9 (fun H locs hP hD hS => ?_)
  refine r_if_ne (tgt := 19) hx hb (by omega) dX6_setLink_12 (by decide) (fun _ => ?_) (fun c => absurd c (by omega))
  refine lv_iload_n hx hb dX6_setLink_19 rfl (lv_at hl 1 rfl) ?_
  refine lv_iload_n hx hb dX6_setLink_20 rfl (lv_at hl 2 rfl) ?_
  refine r_icmp_eq (tgt := 34) hx hb (by omega) (by omega) dX6_setLink_21 (by decide) (fun _ => ?_) (fun c => absurd hc0 c)
  refine lv_iconst (v := nI 2) hx hb dX6_setLink_34 (by decide) ?_
  refine lv_goto (tgt := 39) hx hb dX6_setLink_35 (by decide) ?_
  refine fV_i (ci := 6) (as := [.int (nI 2)]) (rest := []) B hl.1 (c_X6_can_2 l D cI cZ ad co fa ic me sw cn ab go cp so gr re db rclk rlim rqd rpk rwas rthr) rfl (l_RX6_90 hts ⟨rfl, rfl⟩ ⟨Nat.le_of_ble_eq_true rfl, Nat.le_of_ble_eq_true rfl⟩) m_9_1 m_9_2 rfl rfl hP hD hS hA 0 rfl wfR (Nat.le_of_ble_eq_true rfl) dX6_setLink_39 (fun H locs hP hD hS => ?_)
  refine r_if_ne (tgt := 47) hx hb (by omega) dX6_setLink_42 (by decide) (fun c => absurd c (by omega)) (fun _ => ?_)
  refine lv_iconst (v := nI 0) hx hb dX6_setLink_45 (by decide) ?_
  exact eI B hP hS rfl rfl dX6_setLink_46
set_option maxHeartbeats 4000000 in
set_option maxRecDepth 100000 in
theorem c_X6_setLink_b4 (l : Launch) (D : va_G) (cI cZ : ClassId) (ad : Nat → Nat) (co fa ic me sw cn ab go cp so gr re db : Nat → Int32) (rclk : Int32) (rlim : Int32) (rqd : Nat) (rpk : Nat) (rwas : Int32) (rthr : Int32) (r : Nat) (o : Nat) (c_ : Int32) (hr : r < 10) (ho : o < 10) (hc0 : ¬ (r = o)) (hc1 : c_ < 0) : MI l yX6_setLink cX6_setLink 5 .int { frames := 1, cells := 0, slots := 0, locals := 21 } D (TY cI cZ) [.ref (ad 0), .int (nI r), .int (nI o), .int c_] (wR cI cZ ad co fa ic me sw cn ab go cp so gr re db rclk rlim (nI rqd) (nI rpk) rwas rthr) (wR cI cZ ad co fa ic me sw cn ab go cp so gr re db rclk rlim (nI rqd) (nI rpk) rwas (nI 2)) (nI 0) := by
  refine MI.mk ⟨rfl, rfl⟩ (by decide +kernel) (Nat.le_of_ble_eq_true rfl) ?_
  intro p e s m below meth c A ls B hA hP hD hS hl
  have hx := B.1
  have hb := B.2.1
  have hts := B.2.2.2.2.2.1
  have hN := B.2.2.2.2.2.2.2.1
  have hK := B.2.2.2.2.2.2.2.2.1
  have hl : lv_has ls 5 [(0, .ref (ad 0)), (1, .int (nI r)), (2, .int (nI o)), (3, .int c_)] := hl
  refine lv_aload_n hx hb dX6_setLink_0 rfl (lv_at hl 0 rfl) ?_
  refine lv_iload_n hx hb dX6_setLink_1 rfl (lv_at hl 1 rfl) ?_
  refine fS_i (as := [.int (nI r)]) (rest := [.ref (ad 0)]) B hl.1 (c_X6_isRouter l D cI cZ (wR cI cZ ad co fa ic me sw cn ab go cp so gr re db rclk rlim (nI rqd) (nI rpk) rwas rthr) r (by omega)) (l_RX6_86 hts ⟨rfl, rfl⟩ ⟨Nat.le_of_ble_eq_true rfl, Nat.le_of_ble_eq_true rfl⟩) m_8_22 rfl rfl hP hD hS hA rfl (Nat.le_of_ble_eq_true rfl) dX6_setLink_2 (fun H locs hP hD hS => ?_)
  refine r_if_eq (tgt := 15) hx hb (by omega) dX6_setLink_5 (by decide) (fun c => absurd c (by omega)) (fun _ => ?_)
  refine lv_iload_n hx hb dX6_setLink_8 rfl (lv_at hl 2 rfl) ?_
  refine fS_i (as := [.int (nI o)]) (rest := [.ref (ad 0)]) B hl.1 (c_X6_isRouter l D cI cZ (wR cI cZ ad co fa ic me sw cn ab go cp so gr re db rclk rlim (nI rqd) (nI rpk) rwas rthr) o (by omega)) (l_RX6_86 hts ⟨rfl, rfl⟩ ⟨Nat.le_of_ble_eq_true rfl, Nat.le_of_ble_eq_true rfl⟩) m_8_22 rfl rfl hP hD hS hA rfl (Nat.le_of_ble_eq_true rfl) dX6_setLink_9 (fun H locs hP hD hS => ?_)
  refine r_if_ne (tgt := 19) hx hb (by omega) dX6_setLink_12 (by decide) (fun _ => ?_) (fun c => absurd c (by omega))
  refine lv_iload_n hx hb dX6_setLink_19 rfl (lv_at hl 1 rfl) ?_
  refine lv_iload_n hx hb dX6_setLink_20 rfl (lv_at hl 2 rfl) ?_
  refine r_icmp_eq (tgt := 34) hx hb (by omega) (by omega) dX6_setLink_21 (by decide) (fun c => absurd c hc0) (fun _ => ?_)
  refine lv_iload_n hx hb dX6_setLink_24 rfl (lv_at hl 3 rfl) ?_
  refine lv_if_lt (tgt := 34) hx hb dX6_setLink_25 (by decide) (fun _ => ?_) (fun c => absurd hc1 c)
  refine lv_iconst (v := nI 2) hx hb dX6_setLink_34 (by decide) ?_
  refine lv_goto (tgt := 39) hx hb dX6_setLink_35 (by decide) ?_
  refine fV_i (ci := 6) (as := [.int (nI 2)]) (rest := []) B hl.1 (c_X6_can_2 l D cI cZ ad co fa ic me sw cn ab go cp so gr re db rclk rlim rqd rpk rwas rthr) rfl (l_RX6_90 hts ⟨rfl, rfl⟩ ⟨Nat.le_of_ble_eq_true rfl, Nat.le_of_ble_eq_true rfl⟩) m_9_1 m_9_2 rfl rfl hP hD hS hA 0 rfl wfR (Nat.le_of_ble_eq_true rfl) dX6_setLink_39 (fun H locs hP hD hS => ?_)
  refine r_if_ne (tgt := 47) hx hb (by omega) dX6_setLink_42 (by decide) (fun c => absurd c (by omega)) (fun _ => ?_)
  refine lv_iconst (v := nI 0) hx hb dX6_setLink_45 (by decide) ?_
  exact eI B hP hS rfl rfl dX6_setLink_46
set_option maxHeartbeats 4000000 in
set_option maxRecDepth 100000 in
theorem c_X6_setLink_b5 (l : Launch) (D : va_G) (cI cZ : ClassId) (ad : Nat → Nat) (co fa ic me sw cn ab go cp so gr re db : Nat → Int32) (rclk : Int32) (rlim : Int32) (rqd : Nat) (rpk : Nat) (rwas : Int32) (rthr : Int32) (r : Nat) (o : Nat) (c_ : Int32) (hr : r < 10) (ho : o < 10) (hc0 : ¬ (r = o)) (hc1 : ¬ (c_ < 0)) (hc2 : ¬ (c_ ≤ (nI 20))) : MI l yX6_setLink cX6_setLink 5 .int { frames := 1, cells := 0, slots := 0, locals := 21 } D (TY cI cZ) [.ref (ad 0), .int (nI r), .int (nI o), .int c_] (wR cI cZ ad co fa ic me sw cn ab go cp so gr re db rclk rlim (nI rqd) (nI rpk) rwas rthr) (wR cI cZ ad co fa ic me sw cn ab go cp so gr re db rclk rlim (nI rqd) (nI rpk) rwas (nI 2)) (nI 0) := by
  refine MI.mk ⟨rfl, rfl⟩ (by decide +kernel) (Nat.le_of_ble_eq_true rfl) ?_
  intro p e s m below meth c A ls B hA hP hD hS hl
  have hx := B.1
  have hb := B.2.1
  have hts := B.2.2.2.2.2.1
  have hN := B.2.2.2.2.2.2.2.1
  have hK := B.2.2.2.2.2.2.2.2.1
  have hl : lv_has ls 5 [(0, .ref (ad 0)), (1, .int (nI r)), (2, .int (nI o)), (3, .int c_)] := hl
  refine lv_aload_n hx hb dX6_setLink_0 rfl (lv_at hl 0 rfl) ?_
  refine lv_iload_n hx hb dX6_setLink_1 rfl (lv_at hl 1 rfl) ?_
  refine fS_i (as := [.int (nI r)]) (rest := [.ref (ad 0)]) B hl.1 (c_X6_isRouter l D cI cZ (wR cI cZ ad co fa ic me sw cn ab go cp so gr re db rclk rlim (nI rqd) (nI rpk) rwas rthr) r (by omega)) (l_RX6_86 hts ⟨rfl, rfl⟩ ⟨Nat.le_of_ble_eq_true rfl, Nat.le_of_ble_eq_true rfl⟩) m_8_22 rfl rfl hP hD hS hA rfl (Nat.le_of_ble_eq_true rfl) dX6_setLink_2 (fun H locs hP hD hS => ?_)
  refine r_if_eq (tgt := 15) hx hb (by omega) dX6_setLink_5 (by decide) (fun c => absurd c (by omega)) (fun _ => ?_)
  refine lv_iload_n hx hb dX6_setLink_8 rfl (lv_at hl 2 rfl) ?_
  refine fS_i (as := [.int (nI o)]) (rest := [.ref (ad 0)]) B hl.1 (c_X6_isRouter l D cI cZ (wR cI cZ ad co fa ic me sw cn ab go cp so gr re db rclk rlim (nI rqd) (nI rpk) rwas rthr) o (by omega)) (l_RX6_86 hts ⟨rfl, rfl⟩ ⟨Nat.le_of_ble_eq_true rfl, Nat.le_of_ble_eq_true rfl⟩) m_8_22 rfl rfl hP hD hS hA rfl (Nat.le_of_ble_eq_true rfl) dX6_setLink_9 (fun H locs hP hD hS => ?_)
  refine r_if_ne (tgt := 19) hx hb (by omega) dX6_setLink_12 (by decide) (fun _ => ?_) (fun c => absurd c (by omega))
  refine lv_iload_n hx hb dX6_setLink_19 rfl (lv_at hl 1 rfl) ?_
  refine lv_iload_n hx hb dX6_setLink_20 rfl (lv_at hl 2 rfl) ?_
  refine r_icmp_eq (tgt := 34) hx hb (by omega) (by omega) dX6_setLink_21 (by decide) (fun c => absurd c hc0) (fun _ => ?_)
  refine lv_iload_n hx hb dX6_setLink_24 rfl (lv_at hl 3 rfl) ?_
  refine lv_if_lt (tgt := 34) hx hb dX6_setLink_25 (by decide) (fun c => absurd c hc1) (fun _ => ?_)
  refine lv_iload_n hx hb dX6_setLink_28 rfl (lv_at hl 3 rfl) ?_
  refine lv_bipush (v := nI 20) hx hb dX6_setLink_29 (by decide) ?_
  refine lv_icmp_le (tgt := 38) hx hb dX6_setLink_31 (by decide) (fun c => absurd c hc2) (fun _ => ?_)
  refine lv_iconst (v := nI 2) hx hb dX6_setLink_34 (by decide) ?_
  refine lv_goto (tgt := 39) hx hb dX6_setLink_35 (by decide) ?_
  refine fV_i (ci := 6) (as := [.int (nI 2)]) (rest := []) B hl.1 (c_X6_can_2 l D cI cZ ad co fa ic me sw cn ab go cp so gr re db rclk rlim rqd rpk rwas rthr) rfl (l_RX6_90 hts ⟨rfl, rfl⟩ ⟨Nat.le_of_ble_eq_true rfl, Nat.le_of_ble_eq_true rfl⟩) m_9_1 m_9_2 rfl rfl hP hD hS hA 0 rfl wfR (Nat.le_of_ble_eq_true rfl) dX6_setLink_39 (fun H locs hP hD hS => ?_)
  refine r_if_ne (tgt := 47) hx hb (by omega) dX6_setLink_42 (by decide) (fun c => absurd c (by omega)) (fun _ => ?_)
  refine lv_iconst (v := nI 0) hx hb dX6_setLink_45 (by decide) ?_
  exact eI B hP hS rfl rfl dX6_setLink_46
set_option maxHeartbeats 4000000 in
set_option maxRecDepth 100000 in
theorem c_X6_setCandidate_b1 (l : Launch) (D : va_G) (cI cZ : ClassId) (ad : Nat → Nat) (co fa ic me sw cn ab go cp so gr re db : Nat → Int32) (rclk : Int32) (rlim : Int32) (rqd : Nat) (rpk : Nat) (rwas : Int32) (rthr : Int32) (r : Int32) (on : Bool) (hbad : ¬ (f_X6_isRouter_r r) = true) : MI l yX6_setCandidate cX6_setCandidate 3 .boolean { frames := 1, cells := 0, slots := 0, locals := 21 } D (TY cI cZ) [.ref (ad 0), .int r, .int (bI on)] (wR cI cZ ad co fa ic me sw cn ab go cp so gr re db rclk rlim (nI rqd) (nI rpk) rwas rthr) (wR cI cZ ad co fa ic me sw cn ab go cp so gr re db rclk rlim (nI rqd) (nI rpk) rwas (nI 1)) (nI 0) := by
  refine MI.mk ⟨rfl, rfl⟩ (by decide +kernel) (Nat.le_of_ble_eq_true rfl) ?_
  intro p e s m below meth c A ls B hA hP hD hS hl
  have hx := B.1
  have hb := B.2.1
  have hts := B.2.2.2.2.2.1
  have hN := B.2.2.2.2.2.2.2.1
  have hK := B.2.2.2.2.2.2.2.2.1
  have hl : lv_has ls 3 [(0, .ref (ad 0)), (1, .int r), (2, .int (bI on))] := hl
  refine lv_aload_n hx hb dX6_setCandidate_0 rfl (lv_at hl 0 rfl) ?_
  refine lv_iload_n hx hb dX6_setCandidate_1 rfl (lv_at hl 1 rfl) ?_
  refine fS_i (as := [.int r]) (rest := [.ref (ad 0)]) B hl.1 (c_X6_isRouter_r l D cI cZ (wR cI cZ ad co fa ic me sw cn ab go cp so gr re db rclk rlim (nI rqd) (nI rpk) rwas rthr) r) (l_RX6_86 hts ⟨rfl, rfl⟩ ⟨Nat.le_of_ble_eq_true rfl, Nat.le_of_ble_eq_true rfl⟩) m_8_22 rfl rfl hP hD hS hA rfl (Nat.le_of_ble_eq_true rfl) dX6_setCandidate_2 (fun H locs hP hD hS => ?_)
  refine r_if_eq_b (tgt := 12) hx hb dX6_setCandidate_5 (by decide) (fun _ => ?_) (fun c => absurd c hbad)
  refine lv_iconst (v := nI 1) hx hb dX6_setCandidate_12 (by decide) ?_
  refine fV_i (ci := 6) (as := [.int (nI 1)]) (rest := []) B hl.1 (c_X6_can_1 l D cI cZ ad co fa ic me sw cn ab go cp so gr re db rclk rlim rqd rpk rwas rthr) rfl (l_RX6_90 hts ⟨rfl, rfl⟩ ⟨Nat.le_of_ble_eq_true rfl, Nat.le_of_ble_eq_true rfl⟩) m_9_1 m_9_2 rfl rfl hP hD hS hA 0 rfl wfR (Nat.le_of_ble_eq_true rfl) dX6_setCandidate_13 (fun H locs hP hD hS => ?_)
  refine r_if_eq (tgt := 29) hx hb (by omega) dX6_setCandidate_16 (by decide) (fun _ => ?_) (fun c => absurd c (by omega))
  refine lv_iconst (v := nI 0) hx hb dX6_setCandidate_29 (by decide) ?_
  exact eZ B hP hS (by decide) rfl rfl dX6_setCandidate_30
set_option maxHeartbeats 4000000 in
set_option maxRecDepth 100000 in
theorem c_X6_setLimit_b1 (l : Launch) (D : va_G) (cI cZ : ClassId) (ad : Nat → Nat) (co fa ic me sw cn ab go cp so gr re db : Nat → Int32) (rclk : Int32) (rlim : Int32) (rqd : Nat) (rpk : Nat) (rwas : Int32) (rthr : Int32) (li : Int32) (hc0 : li < (nI 1)) : MI l yX6_setLimit cX6_setLimit 3 .int { frames := 1, cells := 0, slots := 0, locals := 21 } D (TY cI cZ) [.ref (ad 0), .int li] (wR cI cZ ad co fa ic me sw cn ab go cp so gr re db rclk rlim (nI rqd) (nI rpk) rwas rthr) (wR cI cZ ad co fa ic me sw cn ab go cp so gr re db rclk rlim (nI rqd) (nI rpk) rwas (nI 1)) (nI 0) := by
  refine MI.mk ⟨rfl, rfl⟩ (by decide +kernel) (Nat.le_of_ble_eq_true rfl) ?_
  intro p e s m below meth c A ls B hA hP hD hS hl
  have hx := B.1
  have hb := B.2.1
  have hts := B.2.2.2.2.2.1
  have hN := B.2.2.2.2.2.2.2.1
  have hK := B.2.2.2.2.2.2.2.2.1
  have hl : lv_has ls 3 [(0, .ref (ad 0)), (1, .int li)] := hl
  refine lv_aload_n hx hb dX6_setLimit_0 rfl (lv_at hl 0 rfl) ?_
  refine lv_iload_n hx hb dX6_setLimit_1 rfl (lv_at hl 1 rfl) ?_
  refine lv_iconst (v := nI 1) hx hb dX6_setLimit_2 (by decide) ?_
  refine lv_icmp_lt (tgt := 12) hx hb dX6_setLimit_3 (by decide) (fun _ => ?_) (fun c => absurd hc0 c)
  refine lv_iconst (v := nI 1) hx hb dX6_setLimit_12 (by decide) ?_
  refine lv_goto (tgt := 17) hx hb dX6_setLimit_13 (by decide) ?_
  refine fV_i (ci := 6) (as := [.int (nI 1)]) (rest := []) B hl.1 (c_X6_can_1 l D cI cZ ad co fa ic me sw cn ab go cp so gr re db rclk rlim rqd rpk rwas rthr) rfl (l_RX6_90 hts ⟨rfl, rfl⟩ ⟨Nat.le_of_ble_eq_true rfl, Nat.le_of_ble_eq_true rfl⟩) m_9_1 m_9_2 rfl rfl hP hD hS hA 0 rfl wfR (Nat.le_of_ble_eq_true rfl) dX6_setLimit_17 (fun H locs hP hD hS => ?_)
  refine r_if_ne (tgt := 25) hx hb (by omega) dX6_setLimit_20 (by decide) (fun c => absurd c (by omega)) (fun _ => ?_)
  refine lv_iconst (v := nI 0) hx hb dX6_setLimit_23 (by decide) ?_
  exact eI B hP hS rfl rfl dX6_setLimit_24
set_option maxHeartbeats 4000000 in
set_option maxRecDepth 100000 in
theorem c_X6_setLimit_b2 (l : Launch) (D : va_G) (cI cZ : ClassId) (ad : Nat → Nat) (co fa ic me sw cn ab go cp so gr re db : Nat → Int32) (rclk : Int32) (rlim : Int32) (rqd : Nat) (rpk : Nat) (rwas : Int32) (rthr : Int32) (li : Int32) (hc0 : ¬ (li < (nI 1))) (hc1 : ¬ (li ≤ (nI 100))) : MI l yX6_setLimit cX6_setLimit 3 .int { frames := 1, cells := 0, slots := 0, locals := 21 } D (TY cI cZ) [.ref (ad 0), .int li] (wR cI cZ ad co fa ic me sw cn ab go cp so gr re db rclk rlim (nI rqd) (nI rpk) rwas rthr) (wR cI cZ ad co fa ic me sw cn ab go cp so gr re db rclk rlim (nI rqd) (nI rpk) rwas (nI 1)) (nI 0) := by
  refine MI.mk ⟨rfl, rfl⟩ (by decide +kernel) (Nat.le_of_ble_eq_true rfl) ?_
  intro p e s m below meth c A ls B hA hP hD hS hl
  have hx := B.1
  have hb := B.2.1
  have hts := B.2.2.2.2.2.1
  have hN := B.2.2.2.2.2.2.2.1
  have hK := B.2.2.2.2.2.2.2.2.1
  have hl : lv_has ls 3 [(0, .ref (ad 0)), (1, .int li)] := hl
  refine lv_aload_n hx hb dX6_setLimit_0 rfl (lv_at hl 0 rfl) ?_
  refine lv_iload_n hx hb dX6_setLimit_1 rfl (lv_at hl 1 rfl) ?_
  refine lv_iconst (v := nI 1) hx hb dX6_setLimit_2 (by decide) ?_
  refine lv_icmp_lt (tgt := 12) hx hb dX6_setLimit_3 (by decide) (fun c => absurd c hc0) (fun _ => ?_)
  refine lv_iload_n hx hb dX6_setLimit_6 rfl (lv_at hl 1 rfl) ?_
  refine lv_bipush (v := nI 100) hx hb dX6_setLimit_7 (by decide) ?_
  refine lv_icmp_le (tgt := 16) hx hb dX6_setLimit_9 (by decide) (fun c => absurd c hc1) (fun _ => ?_)
  refine lv_iconst (v := nI 1) hx hb dX6_setLimit_12 (by decide) ?_
  refine lv_goto (tgt := 17) hx hb dX6_setLimit_13 (by decide) ?_
  refine fV_i (ci := 6) (as := [.int (nI 1)]) (rest := []) B hl.1 (c_X6_can_1 l D cI cZ ad co fa ic me sw cn ab go cp so gr re db rclk rlim rqd rpk rwas rthr) rfl (l_RX6_90 hts ⟨rfl, rfl⟩ ⟨Nat.le_of_ble_eq_true rfl, Nat.le_of_ble_eq_true rfl⟩) m_9_1 m_9_2 rfl rfl hP hD hS hA 0 rfl wfR (Nat.le_of_ble_eq_true rfl) dX6_setLimit_17 (fun H locs hP hD hS => ?_)
  refine r_if_ne (tgt := 25) hx hb (by omega) dX6_setLimit_20 (by decide) (fun c => absurd c (by omega)) (fun _ => ?_)
  refine lv_iconst (v := nI 0) hx hb dX6_setLimit_23 (by decide) ?_
  exact eI B hP hS rfl rfl dX6_setLimit_24
set_option maxHeartbeats 4000000 in
set_option maxRecDepth 100000 in
theorem c_X6_distance_b1 (l : Launch) (D : va_G) (cI cZ : ClassId) (ad : Nat → Nat) (co fa ic me sw cn ab go cp so gr re db : Nat → Int32) (rclk : Int32) (rlim : Int32) (rqd : Nat) (rpk : Nat) (rwas : Int32) (rthr : Int32) (r : Int32) (o : Int32) (hbad : ¬ (f_X6_isRouter_r r) = true) : MI l yX6_distance cX6_distance 4 .int { frames := 1, cells := 0, slots := 0, locals := 21 } D (TY cI cZ) [.ref (ad 0), .int r, .int o] (wR cI cZ ad co fa ic me sw cn ab go cp so gr re db rclk rlim (nI rqd) (nI rpk) rwas rthr) (wR cI cZ ad co fa ic me sw cn ab go cp so gr re db rclk rlim (nI rqd) (nI rpk) rwas (nI 1)) (nI 0) := by
  refine MI.mk ⟨rfl, rfl⟩ (by decide +kernel) (Nat.le_of_ble_eq_true rfl) ?_
  intro p e s m below meth c A ls B hA hP hD hS hl
  have hx := B.1
  have hb := B.2.1
  have hts := B.2.2.2.2.2.1
  have hN := B.2.2.2.2.2.2.2.1
  have hK := B.2.2.2.2.2.2.2.2.1
  have hl : lv_has ls 4 [(0, .ref (ad 0)), (1, .int r), (2, .int o)] := hl
  refine lv_aload_n hx hb dX6_distance_0 rfl (lv_at hl 0 rfl) ?_
  refine lv_iload_n hx hb dX6_distance_1 rfl (lv_at hl 1 rfl) ?_
  refine fS_i (as := [.int r]) (rest := [.ref (ad 0)]) B hl.1 (c_X6_isRouter_r l D cI cZ (wR cI cZ ad co fa ic me sw cn ab go cp so gr re db rclk rlim (nI rqd) (nI rpk) rwas rthr) r) (l_RX6_86 hts ⟨rfl, rfl⟩ ⟨Nat.le_of_ble_eq_true rfl, Nat.le_of_ble_eq_true rfl⟩) m_8_22 rfl rfl hP hD hS hA rfl (Nat.le_of_ble_eq_true rfl) dX6_distance_2 (fun H locs hP hD hS => ?_)
  refine r_if_eq_b (tgt := 19) hx hb dX6_distance_5 (by decide) (fun _ => ?_) (fun c => absurd c hbad)
  refine lv_iconst (v := nI 1) hx hb dX6_distance_19 (by decide) ?_
  refine fV_i (ci := 6) (as := [.int (nI 1)]) (rest := []) B hl.1 (c_X6_can_1 l D cI cZ ad co fa ic me sw cn ab go cp so gr re db rclk rlim rqd rpk rwas rthr) rfl (l_RX6_90 hts ⟨rfl, rfl⟩ ⟨Nat.le_of_ble_eq_true rfl, Nat.le_of_ble_eq_true rfl⟩) m_9_1 m_9_2 rfl rfl hP hD hS hA 0 rfl wfR (Nat.le_of_ble_eq_true rfl) dX6_distance_20 (fun H locs hP hD hS => ?_)
  refine r_if_ne (tgt := 28) hx hb (by omega) dX6_distance_23 (by decide) (fun c => absurd c (by omega)) (fun _ => ?_)
  refine lv_iconst (v := nI 0) hx hb dX6_distance_26 (by decide) ?_
  exact eI B hP hS rfl rfl dX6_distance_27
set_option maxHeartbeats 4000000 in
set_option maxRecDepth 100000 in
theorem c_X6_nextHop_b1 (l : Launch) (D : va_G) (cI cZ : ClassId) (ad : Nat → Nat) (co fa ic me sw cn ab go cp so gr re db : Nat → Int32) (rclk : Int32) (rlim : Int32) (rqd : Nat) (rpk : Nat) (rwas : Int32) (rthr : Int32) (r : Int32) (o : Int32) (hbad : ¬ (f_X6_isRouter_r r) = true) : MI l yX6_nextHop cX6_nextHop 3 .int { frames := 1, cells := 0, slots := 0, locals := 21 } D (TY cI cZ) [.ref (ad 0), .int r, .int o] (wR cI cZ ad co fa ic me sw cn ab go cp so gr re db rclk rlim (nI rqd) (nI rpk) rwas rthr) (wR cI cZ ad co fa ic me sw cn ab go cp so gr re db rclk rlim (nI rqd) (nI rpk) rwas (nI 1)) (nI 0) := by
  refine MI.mk ⟨rfl, rfl⟩ (by decide +kernel) (Nat.le_of_ble_eq_true rfl) ?_
  intro p e s m below meth c A ls B hA hP hD hS hl
  have hx := B.1
  have hb := B.2.1
  have hts := B.2.2.2.2.2.1
  have hN := B.2.2.2.2.2.2.2.1
  have hK := B.2.2.2.2.2.2.2.2.1
  have hl : lv_has ls 3 [(0, .ref (ad 0)), (1, .int r), (2, .int o)] := hl
  refine lv_aload_n hx hb dX6_nextHop_0 rfl (lv_at hl 0 rfl) ?_
  refine lv_iload_n hx hb dX6_nextHop_1 rfl (lv_at hl 1 rfl) ?_
  refine fS_i (as := [.int r]) (rest := [.ref (ad 0)]) B hl.1 (c_X6_isRouter_r l D cI cZ (wR cI cZ ad co fa ic me sw cn ab go cp so gr re db rclk rlim (nI rqd) (nI rpk) rwas rthr) r) (l_RX6_86 hts ⟨rfl, rfl⟩ ⟨Nat.le_of_ble_eq_true rfl, Nat.le_of_ble_eq_true rfl⟩) m_8_22 rfl rfl hP hD hS hA rfl (Nat.le_of_ble_eq_true rfl) dX6_nextHop_2 (fun H locs hP hD hS => ?_)
  refine r_if_eq_b (tgt := 19) hx hb dX6_nextHop_5 (by decide) (fun _ => ?_) (fun c => absurd c hbad)
  refine lv_iconst (v := nI 1) hx hb dX6_nextHop_19 (by decide) ?_
  refine fV_i (ci := 6) (as := [.int (nI 1)]) (rest := []) B hl.1 (c_X6_can_1 l D cI cZ ad co fa ic me sw cn ab go cp so gr re db rclk rlim rqd rpk rwas rthr) rfl (l_RX6_90 hts ⟨rfl, rfl⟩ ⟨Nat.le_of_ble_eq_true rfl, Nat.le_of_ble_eq_true rfl⟩) m_9_1 m_9_2 rfl rfl hP hD hS hA 0 rfl wfR (Nat.le_of_ble_eq_true rfl) dX6_nextHop_20 (fun H locs hP hD hS => ?_)
  refine r_if_eq (tgt := 35) hx hb (by omega) dX6_nextHop_23 (by decide) (fun _ => ?_) (fun c => absurd c (by omega))
  refine lv_iconst (v := nI 0) hx hb dX6_nextHop_35 (by decide) ?_
  exact eI B hP hS rfl rfl dX6_nextHop_36
set_option maxHeartbeats 4000000 in
set_option maxRecDepth 100000 in
theorem c_X6_distance_b2 (l : Launch) (D : va_G) (cI cZ : ClassId) (ad : Nat → Nat) (co fa ic me sw cn ab go cp so gr re db : Nat → Int32) (rclk : Int32) (rlim : Int32) (rqd : Nat) (rpk : Nat) (rwas : Int32) (rthr : Int32) (r : Nat) (o : Int32) (hr : r < 10) (hbad : ¬ (f_X6_isRouter_r o) = true) : MI l yX6_distance cX6_distance 4 .int { frames := 1, cells := 0, slots := 0, locals := 21 } D (TY cI cZ) [.ref (ad 0), .int (nI r), .int o] (wR cI cZ ad co fa ic me sw cn ab go cp so gr re db rclk rlim (nI rqd) (nI rpk) rwas rthr) (wR cI cZ ad co fa ic me sw cn ab go cp so gr re db rclk rlim (nI rqd) (nI rpk) rwas (nI 1)) (nI 0) := by
  refine MI.mk ⟨rfl, rfl⟩ (by decide +kernel) (Nat.le_of_ble_eq_true rfl) ?_
  intro p e s m below meth c A ls B hA hP hD hS hl
  have hx := B.1
  have hb := B.2.1
  have hts := B.2.2.2.2.2.1
  have hN := B.2.2.2.2.2.2.2.1
  have hK := B.2.2.2.2.2.2.2.2.1
  have hl : lv_has ls 4 [(0, .ref (ad 0)), (1, .int (nI r)), (2, .int o)] := hl
  refine lv_aload_n hx hb dX6_distance_0 rfl (lv_at hl 0 rfl) ?_
  refine lv_iload_n hx hb dX6_distance_1 rfl (lv_at hl 1 rfl) ?_
  refine fS_i (as := [.int (nI r)]) (rest := [.ref (ad 0)]) B hl.1 (c_X6_isRouter l D cI cZ (wR cI cZ ad co fa ic me sw cn ab go cp so gr re db rclk rlim (nI rqd) (nI rpk) rwas rthr) r (by omega)) (l_RX6_86 hts ⟨rfl, rfl⟩ ⟨Nat.le_of_ble_eq_true rfl, Nat.le_of_ble_eq_true rfl⟩) m_8_22 rfl rfl hP hD hS hA rfl (Nat.le_of_ble_eq_true rfl) dX6_distance_2 (fun H locs hP hD hS => ?_)
  refine r_if_eq (tgt := 19) hx hb (by omega) dX6_distance_5 (by decide) (fun c => absurd c (by omega)) (fun _ => ?_)
  refine lv_iload_n hx hb dX6_distance_8 rfl (lv_at hl 2 rfl) ?_
  refine fS_i (as := [.int o]) (rest := [.ref (ad 0)]) B hl.1 (c_X6_isRouter_r l D cI cZ (wR cI cZ ad co fa ic me sw cn ab go cp so gr re db rclk rlim (nI rqd) (nI rpk) rwas rthr) o) (l_RX6_86 hts ⟨rfl, rfl⟩ ⟨Nat.le_of_ble_eq_true rfl, Nat.le_of_ble_eq_true rfl⟩) m_8_22 rfl rfl hP hD hS hA rfl (Nat.le_of_ble_eq_true rfl) dX6_distance_9 (fun H locs hP hD hS => ?_)
  refine r_if_eq_b (tgt := 19) hx hb dX6_distance_12 (by decide) (fun _ => ?_) (fun c => absurd c hbad)
  refine lv_iconst (v := nI 1) hx hb dX6_distance_19 (by decide) ?_
  refine fV_i (ci := 6) (as := [.int (nI 1)]) (rest := []) B hl.1 (c_X6_can_1 l D cI cZ ad co fa ic me sw cn ab go cp so gr re db rclk rlim rqd rpk rwas rthr) rfl (l_RX6_90 hts ⟨rfl, rfl⟩ ⟨Nat.le_of_ble_eq_true rfl, Nat.le_of_ble_eq_true rfl⟩) m_9_1 m_9_2 rfl rfl hP hD hS hA 0 rfl wfR (Nat.le_of_ble_eq_true rfl) dX6_distance_20 (fun H locs hP hD hS => ?_)
  refine r_if_ne (tgt := 28) hx hb (by omega) dX6_distance_23 (by decide) (fun c => absurd c (by omega)) (fun _ => ?_)
  refine lv_iconst (v := nI 0) hx hb dX6_distance_26 (by decide) ?_
  exact eI B hP hS rfl rfl dX6_distance_27
set_option maxHeartbeats 4000000 in
set_option maxRecDepth 100000 in
theorem c_X6_nextHop_b2 (l : Launch) (D : va_G) (cI cZ : ClassId) (ad : Nat → Nat) (co fa ic me sw cn ab go cp so gr re db : Nat → Int32) (rclk : Int32) (rlim : Int32) (rqd : Nat) (rpk : Nat) (rwas : Int32) (rthr : Int32) (r : Nat) (o : Int32) (hr : r < 10) (hbad : ¬ (f_X6_isRouter_r o) = true) : MI l yX6_nextHop cX6_nextHop 3 .int { frames := 1, cells := 0, slots := 0, locals := 21 } D (TY cI cZ) [.ref (ad 0), .int (nI r), .int o] (wR cI cZ ad co fa ic me sw cn ab go cp so gr re db rclk rlim (nI rqd) (nI rpk) rwas rthr) (wR cI cZ ad co fa ic me sw cn ab go cp so gr re db rclk rlim (nI rqd) (nI rpk) rwas (nI 1)) (nI 0) := by
  refine MI.mk ⟨rfl, rfl⟩ (by decide +kernel) (Nat.le_of_ble_eq_true rfl) ?_
  intro p e s m below meth c A ls B hA hP hD hS hl
  have hx := B.1
  have hb := B.2.1
  have hts := B.2.2.2.2.2.1
  have hN := B.2.2.2.2.2.2.2.1
  have hK := B.2.2.2.2.2.2.2.2.1
  have hl : lv_has ls 3 [(0, .ref (ad 0)), (1, .int (nI r)), (2, .int o)] := hl
  refine lv_aload_n hx hb dX6_nextHop_0 rfl (lv_at hl 0 rfl) ?_
  refine lv_iload_n hx hb dX6_nextHop_1 rfl (lv_at hl 1 rfl) ?_
  refine fS_i (as := [.int (nI r)]) (rest := [.ref (ad 0)]) B hl.1 (c_X6_isRouter l D cI cZ (wR cI cZ ad co fa ic me sw cn ab go cp so gr re db rclk rlim (nI rqd) (nI rpk) rwas rthr) r (by omega)) (l_RX6_86 hts ⟨rfl, rfl⟩ ⟨Nat.le_of_ble_eq_true rfl, Nat.le_of_ble_eq_true rfl⟩) m_8_22 rfl rfl hP hD hS hA rfl (Nat.le_of_ble_eq_true rfl) dX6_nextHop_2 (fun H locs hP hD hS => ?_)
  refine r_if_eq (tgt := 19) hx hb (by omega) dX6_nextHop_5 (by decide) (fun c => absurd c (by omega)) (fun _ => ?_)
  refine lv_iload_n hx hb dX6_nextHop_8 rfl (lv_at hl 2 rfl) ?_
  refine fS_i (as := [.int o]) (rest := [.ref (ad 0)]) B hl.1 (c_X6_isRouter_r l D cI cZ (wR cI cZ ad co fa ic me sw cn ab go cp so gr re db rclk rlim (nI rqd) (nI rpk) rwas rthr) o) (l_RX6_86 hts ⟨rfl, rfl⟩ ⟨Nat.le_of_ble_eq_true rfl, Nat.le_of_ble_eq_true rfl⟩) m_8_22 rfl rfl hP hD hS hA rfl (Nat.le_of_ble_eq_true rfl) dX6_nextHop_9 (fun H locs hP hD hS => ?_)
  refine r_if_eq_b (tgt := 19) hx hb dX6_nextHop_12 (by decide) (fun _ => ?_) (fun c => absurd c hbad)
  refine lv_iconst (v := nI 1) hx hb dX6_nextHop_19 (by decide) ?_
  refine fV_i (ci := 6) (as := [.int (nI 1)]) (rest := []) B hl.1 (c_X6_can_1 l D cI cZ ad co fa ic me sw cn ab go cp so gr re db rclk rlim rqd rpk rwas rthr) rfl (l_RX6_90 hts ⟨rfl, rfl⟩ ⟨Nat.le_of_ble_eq_true rfl, Nat.le_of_ble_eq_true rfl⟩) m_9_1 m_9_2 rfl rfl hP hD hS hA 0 rfl wfR (Nat.le_of_ble_eq_true rfl) dX6_nextHop_20 (fun H locs hP hD hS => ?_)
  refine r_if_eq (tgt := 35) hx hb (by omega) dX6_nextHop_23 (by decide) (fun _ => ?_) (fun c => absurd c (by omega))
  refine lv_iconst (v := nI 0) hx hb dX6_nextHop_35 (by decide) ?_
  exact eI B hP hS rfl rfl dX6_nextHop_36
set_option maxHeartbeats 4000000 in
set_option maxRecDepth 100000 in
theorem c_X6_rendezvous_b1 (l : Launch) (D : va_G) (cI cZ : ClassId) (ad : Nat → Nat) (co fa ic me sw cn ab go cp so gr re db : Nat → Int32) (rclk : Int32) (rlim : Int32) (rqd : Nat) (rpk : Nat) (rwas : Int32) (rthr : Int32) (g : Int32) (hbad : ¬ (f_X6_isGroup_r g) = true) : MI l yX6_rendezvous cX6_rendezvous 2 .int { frames := 1, cells := 0, slots := 0, locals := 21 } D (TY cI cZ) [.ref (ad 0), .int g] (wR cI cZ ad co fa ic me sw cn ab go cp so gr re db rclk rlim (nI rqd) (nI rpk) rwas rthr) (wR cI cZ ad co fa ic me sw cn ab go cp so gr re db rclk rlim (nI rqd) (nI rpk) rwas (nI 1)) (nI 0) := by
  refine MI.mk ⟨rfl, rfl⟩ (by decide +kernel) (Nat.le_of_ble_eq_true rfl) ?_
  intro p e s m below meth c A ls B hA hP hD hS hl
  have hx := B.1
  have hb := B.2.1
  have hts := B.2.2.2.2.2.1
  have hN := B.2.2.2.2.2.2.2.1
  have hK := B.2.2.2.2.2.2.2.2.1
  have hl : lv_has ls 2 [(0, .ref (ad 0)), (1, .int g)] := hl
  refine lv_aload_n hx hb dX6_rendezvous_0 rfl (lv_at hl 0 rfl) ?_
  refine lv_iload_n hx hb dX6_rendezvous_1 rfl (lv_at hl 1 rfl) ?_
  refine fS_i (as := [.int g]) (rest := [.ref (ad 0)]) B hl.1 (c_X6_isGroup_r l D cI cZ (wR cI cZ ad co fa ic me sw cn ab go cp so gr re db rclk rlim (nI rqd) (nI rpk) rwas rthr) g) (l_RX6_96 hts ⟨rfl, rfl⟩ ⟨Nat.le_of_ble_eq_true rfl, Nat.le_of_ble_eq_true rfl⟩) m_13_9 rfl rfl hP hD hS hA rfl (Nat.le_of_ble_eq_true rfl) dX6_rendezvous_2 (fun H locs hP hD hS => ?_)
  refine r_if_eq_b (tgt := 12) hx hb dX6_rendezvous_5 (by decide) (fun _ => ?_) (fun c => absurd c hbad)
  refine lv_iconst (v := nI 1) hx hb dX6_rendezvous_12 (by decide) ?_
  refine fV_i (ci := 6) (as := [.int (nI 1)]) (rest := []) B hl.1 (c_X6_can_1 l D cI cZ ad co fa ic me sw cn ab go cp so gr re db rclk rlim rqd rpk rwas rthr) rfl (l_RX6_90 hts ⟨rfl, rfl⟩ ⟨Nat.le_of_ble_eq_true rfl, Nat.le_of_ble_eq_true rfl⟩) m_9_1 m_9_2 rfl rfl hP hD hS hA 0 rfl wfR (Nat.le_of_ble_eq_true rfl) dX6_rendezvous_13 (fun H locs hP hD hS => ?_)
  refine r_if_eq (tgt := 27) hx hb (by omega) dX6_rendezvous_16 (by decide) (fun _ => ?_) (fun c => absurd c (by omega))
  refine lv_iconst (v := nI 0) hx hb dX6_rendezvous_27 (by decide) ?_
  exact eI B hP hS rfl rfl dX6_rendezvous_28
set_option maxHeartbeats 4000000 in
set_option maxRecDepth 100000 in
theorem c_X6_members_b1 (l : Launch) (D : va_G) (cI cZ : ClassId) (ad : Nat → Nat) (co fa ic me sw cn ab go cp so gr re db : Nat → Int32) (rclk : Int32) (rlim : Int32) (rqd : Nat) (rpk : Nat) (rwas : Int32) (rthr : Int32) (g : Int32) (hbad : ¬ (f_X6_isGroup_r g) = true) : MI l yX6_members cX6_members 2 .int { frames := 1, cells := 0, slots := 0, locals := 21 } D (TY cI cZ) [.ref (ad 0), .int g] (wR cI cZ ad co fa ic me sw cn ab go cp so gr re db rclk rlim (nI rqd) (nI rpk) rwas rthr) (wR cI cZ ad co fa ic me sw cn ab go cp so gr re db rclk rlim (nI rqd) (nI rpk) rwas (nI 1)) (nI 0) := by
  refine MI.mk ⟨rfl, rfl⟩ (by decide +kernel) (Nat.le_of_ble_eq_true rfl) ?_
  intro p e s m below meth c A ls B hA hP hD hS hl
  have hx := B.1
  have hb := B.2.1
  have hts := B.2.2.2.2.2.1
  have hN := B.2.2.2.2.2.2.2.1
  have hK := B.2.2.2.2.2.2.2.2.1
  have hl : lv_has ls 2 [(0, .ref (ad 0)), (1, .int g)] := hl
  refine lv_aload_n hx hb dX6_members_0 rfl (lv_at hl 0 rfl) ?_
  refine lv_iload_n hx hb dX6_members_1 rfl (lv_at hl 1 rfl) ?_
  refine fS_i (as := [.int g]) (rest := [.ref (ad 0)]) B hl.1 (c_X6_isGroup_r l D cI cZ (wR cI cZ ad co fa ic me sw cn ab go cp so gr re db rclk rlim (nI rqd) (nI rpk) rwas rthr) g) (l_RX6_96 hts ⟨rfl, rfl⟩ ⟨Nat.le_of_ble_eq_true rfl, Nat.le_of_ble_eq_true rfl⟩) m_13_9 rfl rfl hP hD hS hA rfl (Nat.le_of_ble_eq_true rfl) dX6_members_2 (fun H locs hP hD hS => ?_)
  refine r_if_eq_b (tgt := 12) hx hb dX6_members_5 (by decide) (fun _ => ?_) (fun c => absurd c hbad)
  refine lv_iconst (v := nI 1) hx hb dX6_members_12 (by decide) ?_
  refine fV_i (ci := 6) (as := [.int (nI 1)]) (rest := []) B hl.1 (c_X6_can_1 l D cI cZ ad co fa ic me sw cn ab go cp so gr re db rclk rlim rqd rpk rwas rthr) rfl (l_RX6_90 hts ⟨rfl, rfl⟩ ⟨Nat.le_of_ble_eq_true rfl, Nat.le_of_ble_eq_true rfl⟩) m_9_1 m_9_2 rfl rfl hP hD hS hA 0 rfl wfR (Nat.le_of_ble_eq_true rfl) dX6_members_13 (fun H locs hP hD hS => ?_)
  refine r_if_eq (tgt := 28) hx hb (by omega) dX6_members_16 (by decide) (fun _ => ?_) (fun c => absurd c (by omega))
  refine lv_iconst (v := nI 0) hx hb dX6_members_28 (by decide) ?_
  exact eI B hP hS rfl rfl dX6_members_29
set_option maxHeartbeats 4000000 in
set_option maxRecDepth 100000 in
theorem c_X6_join_b1 (l : Launch) (D : va_G) (cI cZ : ClassId) (ad : Nat → Nat) (co fa ic me sw cn ab go cp so gr re db : Nat → Int32) (rclk : Int32) (rlim : Int32) (rqd : Nat) (rpk : Nat) (rwas : Int32) (rthr : Int32) (r : Int32) (g : Int32) (hbad : ¬ (f_X6_isRouter_r r) = true) : MI l yX6_join cX6_join 3 .int { frames := 1, cells := 0, slots := 0, locals := 21 } D (TY cI cZ) [.ref (ad 0), .int r, .int g] (wR cI cZ ad co fa ic me sw cn ab go cp so gr re db rclk rlim (nI rqd) (nI rpk) rwas rthr) (wR cI cZ ad co fa ic me sw cn ab go cp so gr re db rclk rlim (nI rqd) (nI rpk) rwas (nI 1)) (nI 0) := by
  refine MI.mk ⟨rfl, rfl⟩ (by decide +kernel) (Nat.le_of_ble_eq_true rfl) ?_
  intro p e s m below meth c A ls B hA hP hD hS hl
  have hx := B.1
  have hb := B.2.1
  have hts := B.2.2.2.2.2.1
  have hN := B.2.2.2.2.2.2.2.1
  have hK := B.2.2.2.2.2.2.2.2.1
  have hl : lv_has ls 3 [(0, .ref (ad 0)), (1, .int r), (2, .int g)] := hl
  refine lv_aload_n hx hb dX6_join_0 rfl (lv_at hl 0 rfl) ?_
  refine lv_iload_n hx hb dX6_join_1 rfl (lv_at hl 1 rfl) ?_
  refine fS_i (as := [.int r]) (rest := [.ref (ad 0)]) B hl.1 (c_X6_isRouter_r l D cI cZ (wR cI cZ ad co fa ic me sw cn ab go cp so gr re db rclk rlim (nI rqd) (nI rpk) rwas rthr) r) (l_RX6_86 hts ⟨rfl, rfl⟩ ⟨Nat.le_of_ble_eq_true rfl, Nat.le_of_ble_eq_true rfl⟩) m_8_22 rfl rfl hP hD hS hA rfl (Nat.le_of_ble_eq_true rfl) dX6_join_2 (fun H locs hP hD hS => ?_)
  refine r_if_eq_b (tgt := 15) hx hb dX6_join_5 (by decide) (fun _ => ?_) (fun c => absurd c hbad)
  refine lv_iconst (v := nI 1) hx hb dX6_join_15 (by decide) ?_
  refine lv_goto (tgt := 33) hx hb dX6_join_16 (by decide) ?_
  refine fV_i (ci := 6) (as := [.int (nI 1)]) (rest := []) B hl.1 (c_X6_can_1 l D cI cZ ad co fa ic me sw cn ab go cp so gr re db rclk rlim rqd rpk rwas rthr) rfl (l_RX6_90 hts ⟨rfl, rfl⟩ ⟨Nat.le_of_ble_eq_true rfl, Nat.le_of_ble_eq_true rfl⟩) m_9_1 m_9_2 rfl rfl hP hD hS hA 0 rfl wfR (Nat.le_of_ble_eq_true rfl) dX6_join_33 (fun H locs hP hD hS => ?_)
  refine r_if_ne (tgt := 41) hx hb (by omega) dX6_join_36 (by decide) (fun c => absurd c (by omega)) (fun _ => ?_)
  refine lv_iconst (v := nI 0) hx hb dX6_join_39 (by decide) ?_
  exact eI B hP hS rfl rfl dX6_join_40
set_option maxHeartbeats 4000000 in
set_option maxRecDepth 100000 in
theorem c_X6_leave_b1 (l : Launch) (D : va_G) (cI cZ : ClassId) (ad : Nat → Nat) (co fa ic me sw cn ab go cp so gr re db : Nat → Int32) (rclk : Int32) (rlim : Int32) (rqd : Nat) (rpk : Nat) (rwas : Int32) (rthr : Int32) (r : Int32) (g : Int32) (hbad : ¬ (f_X6_isRouter_r r) = true) : MI l yX6_leave cX6_leave 4 .int { frames := 1, cells := 0, slots := 0, locals := 21 } D (TY cI cZ) [.ref (ad 0), .int r, .int g] (wR cI cZ ad co fa ic me sw cn ab go cp so gr re db rclk rlim (nI rqd) (nI rpk) rwas rthr) (wR cI cZ ad co fa ic me sw cn ab go cp so gr re db rclk rlim (nI rqd) (nI rpk) rwas (nI 1)) (nI 0) := by
  refine MI.mk ⟨rfl, rfl⟩ (by decide +kernel) (Nat.le_of_ble_eq_true rfl) ?_
  intro p e s m below meth c A ls B hA hP hD hS hl
  have hx := B.1
  have hb := B.2.1
  have hts := B.2.2.2.2.2.1
  have hN := B.2.2.2.2.2.2.2.1
  have hK := B.2.2.2.2.2.2.2.2.1
  have hl : lv_has ls 4 [(0, .ref (ad 0)), (1, .int r), (2, .int g)] := hl
  refine lv_aload_n hx hb dX6_leave_0 rfl (lv_at hl 0 rfl) ?_
  refine lv_iload_n hx hb dX6_leave_1 rfl (lv_at hl 1 rfl) ?_
  refine fS_i (as := [.int r]) (rest := [.ref (ad 0)]) B hl.1 (c_X6_isRouter_r l D cI cZ (wR cI cZ ad co fa ic me sw cn ab go cp so gr re db rclk rlim (nI rqd) (nI rpk) rwas rthr) r) (l_RX6_86 hts ⟨rfl, rfl⟩ ⟨Nat.le_of_ble_eq_true rfl, Nat.le_of_ble_eq_true rfl⟩) m_8_22 rfl rfl hP hD hS hA rfl (Nat.le_of_ble_eq_true rfl) dX6_leave_2 (fun H locs hP hD hS => ?_)
  refine r_if_eq_b (tgt := 15) hx hb dX6_leave_5 (by decide) (fun _ => ?_) (fun c => absurd c hbad)
  refine lv_iconst (v := nI 1) hx hb dX6_leave_15 (by decide) ?_
  refine lv_goto (tgt := 33) hx hb dX6_leave_16 (by decide) ?_
  refine fV_i (ci := 6) (as := [.int (nI 1)]) (rest := []) B hl.1 (c_X6_can_1 l D cI cZ ad co fa ic me sw cn ab go cp so gr re db rclk rlim rqd rpk rwas rthr) rfl (l_RX6_90 hts ⟨rfl, rfl⟩ ⟨Nat.le_of_ble_eq_true rfl, Nat.le_of_ble_eq_true rfl⟩) m_9_1 m_9_2 rfl rfl hP hD hS hA 0 rfl wfR (Nat.le_of_ble_eq_true rfl) dX6_leave_33 (fun H locs hP hD hS => ?_)
  refine r_if_ne (tgt := 41) hx hb (by omega) dX6_leave_36 (by decide) (fun c => absurd c (by omega)) (fun _ => ?_)
  refine lv_iconst (v := nI 0) hx hb dX6_leave_39 (by decide) ?_
  exact eI B hP hS rfl rfl dX6_leave_40
set_option maxHeartbeats 4000000 in
set_option maxRecDepth 100000 in
theorem c_X6_switched_b1 (l : Launch) (D : va_G) (cI cZ : ClassId) (ad : Nat → Nat) (co fa ic me sw cn ab go cp so gr re db : Nat → Int32) (rclk : Int32) (rlim : Int32) (rqd : Nat) (rpk : Nat) (rwas : Int32) (rthr : Int32) (r : Int32) (g : Int32) (hbad : ¬ (f_X6_isRouter_r r) = true) : MI l yX6_switched cX6_switched 3 .int { frames := 1, cells := 0, slots := 0, locals := 21 } D (TY cI cZ) [.ref (ad 0), .int r, .int g] (wR cI cZ ad co fa ic me sw cn ab go cp so gr re db rclk rlim (nI rqd) (nI rpk) rwas rthr) (wR cI cZ ad co fa ic me sw cn ab go cp so gr re db rclk rlim (nI rqd) (nI rpk) rwas (nI 1)) (nI 0) := by
  refine MI.mk ⟨rfl, rfl⟩ (by decide +kernel) (Nat.le_of_ble_eq_true rfl) ?_
  intro p e s m below meth c A ls B hA hP hD hS hl
  have hx := B.1
  have hb := B.2.1
  have hts := B.2.2.2.2.2.1
  have hN := B.2.2.2.2.2.2.2.1
  have hK := B.2.2.2.2.2.2.2.2.1
  have hl : lv_has ls 3 [(0, .ref (ad 0)), (1, .int r), (2, .int g)] := hl
  refine lv_aload_n hx hb dX6_switched_0 rfl (lv_at hl 0 rfl) ?_
  refine lv_iload_n hx hb dX6_switched_1 rfl (lv_at hl 1 rfl) ?_
  refine fS_i (as := [.int r]) (rest := [.ref (ad 0)]) B hl.1 (c_X6_isRouter_r l D cI cZ (wR cI cZ ad co fa ic me sw cn ab go cp so gr re db rclk rlim (nI rqd) (nI rpk) rwas rthr) r) (l_RX6_86 hts ⟨rfl, rfl⟩ ⟨Nat.le_of_ble_eq_true rfl, Nat.le_of_ble_eq_true rfl⟩) m_8_22 rfl rfl hP hD hS hA rfl (Nat.le_of_ble_eq_true rfl) dX6_switched_2 (fun H locs hP hD hS => ?_)
  refine r_if_eq_b (tgt := 19) hx hb dX6_switched_5 (by decide) (fun _ => ?_) (fun c => absurd c hbad)
  refine lv_iconst (v := nI 1) hx hb dX6_switched_19 (by decide) ?_
  refine fV_i (ci := 6) (as := [.int (nI 1)]) (rest := []) B hl.1 (c_X6_can_1 l D cI cZ ad co fa ic me sw cn ab go cp so gr re db rclk rlim rqd rpk rwas rthr) rfl (l_RX6_90 hts ⟨rfl, rfl⟩ ⟨Nat.le_of_ble_eq_true rfl, Nat.le_of_ble_eq_true rfl⟩) m_9_1 m_9_2 rfl rfl hP hD hS hA 0 rfl wfR (Nat.le_of_ble_eq_true rfl) dX6_switched_20 (fun H locs hP hD hS => ?_)
  refine r_if_eq (tgt := 40) hx hb (by omega) dX6_switched_23 (by decide) (fun _ => ?_) (fun c => absurd c (by omega))
  refine lv_iconst (v := nI 0) hx hb dX6_switched_40 (by decide) ?_
  exact eI B hP hS rfl rfl dX6_switched_41
set_option maxHeartbeats 4000000 in
set_option maxRecDepth 100000 in
theorem c_X6_branches_b1 (l : Launch) (D : va_G) (cI cZ : ClassId) (ad : Nat → Nat) (co fa ic me sw cn ab go cp so gr re db : Nat → Int32) (rclk : Int32) (rlim : Int32) (rqd : Nat) (rpk : Nat) (rwas : Int32) (rthr : Int32) (r : Int32) (g : Int32) (hbad : ¬ (f_X6_isRouter_r r) = true) : MI l yX6_branches cX6_branches 3 .int { frames := 1, cells := 0, slots := 0, locals := 21 } D (TY cI cZ) [.ref (ad 0), .int r, .int g] (wR cI cZ ad co fa ic me sw cn ab go cp so gr re db rclk rlim (nI rqd) (nI rpk) rwas rthr) (wR cI cZ ad co fa ic me sw cn ab go cp so gr re db rclk rlim (nI rqd) (nI rpk) rwas (nI 1)) (nI 0) := by
  refine MI.mk ⟨rfl, rfl⟩ (by decide +kernel) (Nat.le_of_ble_eq_true rfl) ?_
  intro p e s m below meth c A ls B hA hP hD hS hl
  have hx := B.1
  have hb := B.2.1
  have hts := B.2.2.2.2.2.1
  have hN := B.2.2.2.2.2.2.2.1
  have hK := B.2.2.2.2.2.2.2.2.1
  have hl : lv_has ls 3 [(0, .ref (ad 0)), (1, .int r), (2, .int g)] := hl
  refine lv_aload_n hx hb dX6_branches_0 rfl (lv_at hl 0 rfl) ?_
  refine lv_iload_n hx hb dX6_branches_1 rfl (lv_at hl 1 rfl) ?_
  refine fS_i (as := [.int r]) (rest := [.ref (ad 0)]) B hl.1 (c_X6_isRouter_r l D cI cZ (wR cI cZ ad co fa ic me sw cn ab go cp so gr re db rclk rlim (nI rqd) (nI rpk) rwas rthr) r) (l_RX6_86 hts ⟨rfl, rfl⟩ ⟨Nat.le_of_ble_eq_true rfl, Nat.le_of_ble_eq_true rfl⟩) m_8_22 rfl rfl hP hD hS hA rfl (Nat.le_of_ble_eq_true rfl) dX6_branches_2 (fun H locs hP hD hS => ?_)
  refine r_if_eq_b (tgt := 19) hx hb dX6_branches_5 (by decide) (fun _ => ?_) (fun c => absurd c hbad)
  refine lv_iconst (v := nI 1) hx hb dX6_branches_19 (by decide) ?_
  refine fV_i (ci := 6) (as := [.int (nI 1)]) (rest := []) B hl.1 (c_X6_can_1 l D cI cZ ad co fa ic me sw cn ab go cp so gr re db rclk rlim rqd rpk rwas rthr) rfl (l_RX6_90 hts ⟨rfl, rfl⟩ ⟨Nat.le_of_ble_eq_true rfl, Nat.le_of_ble_eq_true rfl⟩) m_9_1 m_9_2 rfl rfl hP hD hS hA 0 rfl wfR (Nat.le_of_ble_eq_true rfl) dX6_branches_20 (fun H locs hP hD hS => ?_)
  refine r_if_eq (tgt := 41) hx hb (by omega) dX6_branches_23 (by decide) (fun _ => ?_) (fun c => absurd c (by omega))
  refine lv_iconst (v := nI 0) hx hb dX6_branches_41 (by decide) ?_
  exact eI B hP hS rfl rfl dX6_branches_42
set_option maxHeartbeats 4000000 in
set_option maxRecDepth 100000 in
theorem c_X6_send_b1 (l : Launch) (D : va_G) (cI cZ : ClassId) (ad : Nat → Nat) (co fa ic me sw cn ab go cp so gr re db : Nat → Int32) (rclk : Int32) (rlim : Int32) (rqd : Nat) (rpk : Nat) (rwas : Int32) (rthr : Int32) (r : Int32) (g : Int32) (hbad : ¬ (f_X6_isRouter_r r) = true) : MI l yX6_send cX6_send 6 .int { frames := 1, cells := 0, slots := 0, locals := 21 } D (TY cI cZ) [.ref (ad 0), .int r, .int g] (wR cI cZ ad co fa ic me sw cn ab go cp so gr re db rclk rlim (nI rqd) (nI rpk) rwas rthr) (wR cI cZ ad co fa ic me sw cn ab go cp so gr re db rclk rlim (nI rqd) (nI rpk) rwas (nI 1)) (nI 0) := by
  refine MI.mk ⟨rfl, rfl⟩ (by decide +kernel) (Nat.le_of_ble_eq_true rfl) ?_
  intro p e s m below meth c A ls B hA hP hD hS hl
  have hx := B.1
  have hb := B.2.1
  have hts := B.2.2.2.2.2.1
  have hN := B.2.2.2.2.2.2.2.1
  have hK := B.2.2.2.2.2.2.2.2.1
  have hl : lv_has ls 6 [(0, .ref (ad 0)), (1, .int r), (2, .int g)] := hl
  refine lv_aload_n hx hb dX6_send_0 rfl (lv_at hl 0 rfl) ?_
  refine lv_iload_n hx hb dX6_send_1 rfl (lv_at hl 1 rfl) ?_
  refine fS_i (as := [.int r]) (rest := [.ref (ad 0)]) B hl.1 (c_X6_isRouter_r l D cI cZ (wR cI cZ ad co fa ic me sw cn ab go cp so gr re db rclk rlim (nI rqd) (nI rpk) rwas rthr) r) (l_RX6_86 hts ⟨rfl, rfl⟩ ⟨Nat.le_of_ble_eq_true rfl, Nat.le_of_ble_eq_true rfl⟩) m_8_22 rfl rfl hP hD hS hA rfl (Nat.le_of_ble_eq_true rfl) dX6_send_2 (fun H locs hP hD hS => ?_)
  refine r_if_eq_b (tgt := 15) hx hb dX6_send_5 (by decide) (fun _ => ?_) (fun c => absurd c hbad)
  refine lv_iconst (v := nI 1) hx hb dX6_send_15 (by decide) ?_
  refine lv_goto (tgt := 34) hx hb dX6_send_16 (by decide) ?_
  refine fV_i (ci := 6) (as := [.int (nI 1)]) (rest := []) B hl.1 (c_X6_can_1 l D cI cZ ad co fa ic me sw cn ab go cp so gr re db rclk rlim rqd rpk rwas rthr) rfl (l_RX6_90 hts ⟨rfl, rfl⟩ ⟨Nat.le_of_ble_eq_true rfl, Nat.le_of_ble_eq_true rfl⟩) m_9_1 m_9_2 rfl rfl hP hD hS hA 0 rfl wfR (Nat.le_of_ble_eq_true rfl) dX6_send_34 (fun H locs hP hD hS => ?_)
  refine r_if_ne (tgt := 42) hx hb (by omega) dX6_send_37 (by decide) (fun c => absurd c (by omega)) (fun _ => ?_)
  refine lv_iconst (v := nI 0) hx hb dX6_send_40 (by decide) ?_
  exact eI B hP hS rfl rfl dX6_send_41
set_option maxHeartbeats 4000000 in
set_option maxRecDepth 100000 in
theorem c_X6_floodMembers_b1 (l : Launch) (D : va_G) (cI cZ : ClassId) (ad : Nat → Nat) (co fa ic me sw cn ab go cp so gr re db : Nat → Int32) (rclk : Int32) (rlim : Int32) (rqd : Nat) (rpk : Nat) (rwas : Int32) (rthr : Int32) (r : Int32) (g : Int32) (hbad : ¬ (f_X6_isRouter_r r) = true) : MI l yX6_floodMembers cX6_floodMembers 5 .int { frames := 1, cells := 0, slots := 0, locals := 21 } D (TY cI cZ) [.ref (ad 0), .int r, .int g] (wR cI cZ ad co fa ic me sw cn ab go cp so gr re db rclk rlim (nI rqd) (nI rpk) rwas rthr) (wR cI cZ ad co fa ic me sw cn ab go cp so gr re db rclk rlim (nI rqd) (nI rpk) rwas (nI 1)) (nI 0) := by
  refine MI.mk ⟨rfl, rfl⟩ (by decide +kernel) (Nat.le_of_ble_eq_true rfl) ?_
  intro p e s m below meth c A ls B hA hP hD hS hl
  have hx := B.1
  have hb := B.2.1
  have hts := B.2.2.2.2.2.1
  have hN := B.2.2.2.2.2.2.2.1
  have hK := B.2.2.2.2.2.2.2.2.1
  have hl : lv_has ls 5 [(0, .ref (ad 0)), (1, .int r), (2, .int g)] := hl
  refine lv_aload_n hx hb dX6_floodMembers_0 rfl (lv_at hl 0 rfl) ?_
  refine lv_iload_n hx hb dX6_floodMembers_1 rfl (lv_at hl 1 rfl) ?_
  refine fS_i (as := [.int r]) (rest := [.ref (ad 0)]) B hl.1 (c_X6_isRouter_r l D cI cZ (wR cI cZ ad co fa ic me sw cn ab go cp so gr re db rclk rlim (nI rqd) (nI rpk) rwas rthr) r) (l_RX6_86 hts ⟨rfl, rfl⟩ ⟨Nat.le_of_ble_eq_true rfl, Nat.le_of_ble_eq_true rfl⟩) m_8_22 rfl rfl hP hD hS hA rfl (Nat.le_of_ble_eq_true rfl) dX6_floodMembers_2 (fun H locs hP hD hS => ?_)
  refine r_if_eq_b (tgt := 19) hx hb dX6_floodMembers_5 (by decide) (fun _ => ?_) (fun c => absurd c hbad)
  refine lv_iconst (v := nI 1) hx hb dX6_floodMembers_19 (by decide) ?_
  refine fV_i (ci := 6) (as := [.int (nI 1)]) (rest := []) B hl.1 (c_X6_can_1 l D cI cZ ad co fa ic me sw cn ab go cp so gr re db rclk rlim rqd rpk rwas rthr) rfl (l_RX6_90 hts ⟨rfl, rfl⟩ ⟨Nat.le_of_ble_eq_true rfl, Nat.le_of_ble_eq_true rfl⟩) m_9_1 m_9_2 rfl rfl hP hD hS hA 0 rfl wfR (Nat.le_of_ble_eq_true rfl) dX6_floodMembers_20 (fun H locs hP hD hS => ?_)
  refine r_if_ne (tgt := 28) hx hb (by omega) dX6_floodMembers_23 (by decide) (fun c => absurd c (by omega)) (fun _ => ?_)
  refine lv_iconst (v := nI 0) hx hb dX6_floodMembers_26 (by decide) ?_
  exact eI B hP hS rfl rfl dX6_floodMembers_27
set_option maxHeartbeats 4000000 in
set_option maxRecDepth 100000 in
theorem c_X6_join_b2 (l : Launch) (D : va_G) (cI cZ : ClassId) (ad : Nat → Nat) (co fa ic me sw cn ab go cp so gr re db : Nat → Int32) (rclk : Int32) (rlim : Int32) (rqd : Nat) (rpk : Nat) (rwas : Int32) (rthr : Int32) (r : Nat) (g : Int32) (hr : r < 10) (hbad : ¬ (f_X6_isGroup_r g) = true) : MI l yX6_join cX6_join 3 .int { frames := 1, cells := 0, slots := 0, locals := 21 } D (TY cI cZ) [.ref (ad 0), .int (nI r), .int g] (wR cI cZ ad co fa ic me sw cn ab go cp so gr re db rclk rlim (nI rqd) (nI rpk) rwas rthr) (wR cI cZ ad co fa ic me sw cn ab go cp so gr re db rclk rlim (nI rqd) (nI rpk) rwas (nI 1)) (nI 0) := by
  refine MI.mk ⟨rfl, rfl⟩ (by decide +kernel) (Nat.le_of_ble_eq_true rfl) ?_
  intro p e s m below meth c A ls B hA hP hD hS hl
  have hx := B.1
  have hb := B.2.1
  have hts := B.2.2.2.2.2.1
  have hN := B.2.2.2.2.2.2.2.1
  have hK := B.2.2.2.2.2.2.2.2.1
  have hl : lv_has ls 3 [(0, .ref (ad 0)), (1, .int (nI r)), (2, .int g)] := hl
  refine lv_aload_n hx hb dX6_join_0 rfl (lv_at hl 0 rfl) ?_
  refine lv_iload_n hx hb dX6_join_1 rfl (lv_at hl 1 rfl) ?_
  refine fS_i (as := [.int (nI r)]) (rest := [.ref (ad 0)]) B hl.1 (c_X6_isRouter l D cI cZ (wR cI cZ ad co fa ic me sw cn ab go cp so gr re db rclk rlim (nI rqd) (nI rpk) rwas rthr) r (by omega)) (l_RX6_86 hts ⟨rfl, rfl⟩ ⟨Nat.le_of_ble_eq_true rfl, Nat.le_of_ble_eq_true rfl⟩) m_8_22 rfl rfl hP hD hS hA rfl (Nat.le_of_ble_eq_true rfl) dX6_join_2 (fun H locs hP hD hS => ?_)
  refine r_if_eq (tgt := 15) hx hb (by omega) dX6_join_5 (by decide) (fun c => absurd c (by omega)) (fun _ => ?_)
  refine lv_iload_n hx hb dX6_join_8 rfl (lv_at hl 2 rfl) ?_
  refine fS_i (as := [.int g]) (rest := [.ref (ad 0)]) B hl.1 (c_X6_isGroup_r l D cI cZ (wR cI cZ ad co fa ic me sw cn ab go cp so gr re db rclk rlim (nI rqd) (nI rpk) rwas rthr) g) (l_RX6_96 hts ⟨rfl, rfl⟩ ⟨Nat.le_of_ble_eq_true rfl, Nat.le_of_ble_eq_true rfl⟩) m_13_9 rfl rfl hP hD hS hA rfl (Nat.le_of_ble_eq_true rfl) dX6_join_9 (fun H locs hP hD hS => ?_)
  refine r_if_ne_b (tgt := 19) hx hb dX6_join_12 (by decide) (fun c => absurd c hbad) (fun _ => ?_)
  refine lv_iconst (v := nI 1) hx hb dX6_join_15 (by decide) ?_
  refine lv_goto (tgt := 33) hx hb dX6_join_16 (by decide) ?_
  refine fV_i (ci := 6) (as := [.int (nI 1)]) (rest := []) B hl.1 (c_X6_can_1 l D cI cZ ad co fa ic me sw cn ab go cp so gr re db rclk rlim rqd rpk rwas rthr) rfl (l_RX6_90 hts ⟨rfl, rfl⟩ ⟨Nat.le_of_ble_eq_true rfl, Nat.le_of_ble_eq_true rfl⟩) m_9_1 m_9_2 rfl rfl hP hD hS hA 0 rfl wfR (Nat.le_of_ble_eq_true rfl) dX6_join_33 (fun H locs hP hD hS => ?_)
  refine r_if_ne (tgt := 41) hx hb (by omega) dX6_join_36 (by decide) (fun c => absurd c (by omega)) (fun _ => ?_)
  refine lv_iconst (v := nI 0) hx hb dX6_join_39 (by decide) ?_
  exact eI B hP hS rfl rfl dX6_join_40
set_option maxHeartbeats 4000000 in
set_option maxRecDepth 100000 in
theorem c_X6_leave_b2 (l : Launch) (D : va_G) (cI cZ : ClassId) (ad : Nat → Nat) (co fa ic me sw cn ab go cp so gr re db : Nat → Int32) (rclk : Int32) (rlim : Int32) (rqd : Nat) (rpk : Nat) (rwas : Int32) (rthr : Int32) (r : Nat) (g : Int32) (hr : r < 10) (hbad : ¬ (f_X6_isGroup_r g) = true) : MI l yX6_leave cX6_leave 4 .int { frames := 1, cells := 0, slots := 0, locals := 21 } D (TY cI cZ) [.ref (ad 0), .int (nI r), .int g] (wR cI cZ ad co fa ic me sw cn ab go cp so gr re db rclk rlim (nI rqd) (nI rpk) rwas rthr) (wR cI cZ ad co fa ic me sw cn ab go cp so gr re db rclk rlim (nI rqd) (nI rpk) rwas (nI 1)) (nI 0) := by
  refine MI.mk ⟨rfl, rfl⟩ (by decide +kernel) (Nat.le_of_ble_eq_true rfl) ?_
  intro p e s m below meth c A ls B hA hP hD hS hl
  have hx := B.1
  have hb := B.2.1
  have hts := B.2.2.2.2.2.1
  have hN := B.2.2.2.2.2.2.2.1
  have hK := B.2.2.2.2.2.2.2.2.1
  have hl : lv_has ls 4 [(0, .ref (ad 0)), (1, .int (nI r)), (2, .int g)] := hl
  refine lv_aload_n hx hb dX6_leave_0 rfl (lv_at hl 0 rfl) ?_
  refine lv_iload_n hx hb dX6_leave_1 rfl (lv_at hl 1 rfl) ?_
  refine fS_i (as := [.int (nI r)]) (rest := [.ref (ad 0)]) B hl.1 (c_X6_isRouter l D cI cZ (wR cI cZ ad co fa ic me sw cn ab go cp so gr re db rclk rlim (nI rqd) (nI rpk) rwas rthr) r (by omega)) (l_RX6_86 hts ⟨rfl, rfl⟩ ⟨Nat.le_of_ble_eq_true rfl, Nat.le_of_ble_eq_true rfl⟩) m_8_22 rfl rfl hP hD hS hA rfl (Nat.le_of_ble_eq_true rfl) dX6_leave_2 (fun H locs hP hD hS => ?_)
  refine r_if_eq (tgt := 15) hx hb (by omega) dX6_leave_5 (by decide) (fun c => absurd c (by omega)) (fun _ => ?_)
  refine lv_iload_n hx hb dX6_leave_8 rfl (lv_at hl 2 rfl) ?_
  refine fS_i (as := [.int g]) (rest := [.ref (ad 0)]) B hl.1 (c_X6_isGroup_r l D cI cZ (wR cI cZ ad co fa ic me sw cn ab go cp so gr re db rclk rlim (nI rqd) (nI rpk) rwas rthr) g) (l_RX6_96 hts ⟨rfl, rfl⟩ ⟨Nat.le_of_ble_eq_true rfl, Nat.le_of_ble_eq_true rfl⟩) m_13_9 rfl rfl hP hD hS hA rfl (Nat.le_of_ble_eq_true rfl) dX6_leave_9 (fun H locs hP hD hS => ?_)
  refine r_if_ne_b (tgt := 19) hx hb dX6_leave_12 (by decide) (fun c => absurd c hbad) (fun _ => ?_)
  refine lv_iconst (v := nI 1) hx hb dX6_leave_15 (by decide) ?_
  refine lv_goto (tgt := 33) hx hb dX6_leave_16 (by decide) ?_
  refine fV_i (ci := 6) (as := [.int (nI 1)]) (rest := []) B hl.1 (c_X6_can_1 l D cI cZ ad co fa ic me sw cn ab go cp so gr re db rclk rlim rqd rpk rwas rthr) rfl (l_RX6_90 hts ⟨rfl, rfl⟩ ⟨Nat.le_of_ble_eq_true rfl, Nat.le_of_ble_eq_true rfl⟩) m_9_1 m_9_2 rfl rfl hP hD hS hA 0 rfl wfR (Nat.le_of_ble_eq_true rfl) dX6_leave_33 (fun H locs hP hD hS => ?_)
  refine r_if_ne (tgt := 41) hx hb (by omega) dX6_leave_36 (by decide) (fun c => absurd c (by omega)) (fun _ => ?_)
  refine lv_iconst (v := nI 0) hx hb dX6_leave_39 (by decide) ?_
  exact eI B hP hS rfl rfl dX6_leave_40
set_option maxHeartbeats 4000000 in
set_option maxRecDepth 100000 in
theorem c_X6_switched_b2 (l : Launch) (D : va_G) (cI cZ : ClassId) (ad : Nat → Nat) (co fa ic me sw cn ab go cp so gr re db : Nat → Int32) (rclk : Int32) (rlim : Int32) (rqd : Nat) (rpk : Nat) (rwas : Int32) (rthr : Int32) (r : Nat) (g : Int32) (hr : r < 10) (hbad : ¬ (f_X6_isGroup_r g) = true) : MI l yX6_switched cX6_switched 3 .int { frames := 1, cells := 0, slots := 0, locals := 21 } D (TY cI cZ) [.ref (ad 0), .int (nI r), .int g] (wR cI cZ ad co fa ic me sw cn ab go cp so gr re db rclk rlim (nI rqd) (nI rpk) rwas rthr) (wR cI cZ ad co fa ic me sw cn ab go cp so gr re db rclk rlim (nI rqd) (nI rpk) rwas (nI 1)) (nI 0) := by
  refine MI.mk ⟨rfl, rfl⟩ (by decide +kernel) (Nat.le_of_ble_eq_true rfl) ?_
  intro p e s m below meth c A ls B hA hP hD hS hl
  have hx := B.1
  have hb := B.2.1
  have hts := B.2.2.2.2.2.1
  have hN := B.2.2.2.2.2.2.2.1
  have hK := B.2.2.2.2.2.2.2.2.1
  have hl : lv_has ls 3 [(0, .ref (ad 0)), (1, .int (nI r)), (2, .int g)] := hl
  refine lv_aload_n hx hb dX6_switched_0 rfl (lv_at hl 0 rfl) ?_
  refine lv_iload_n hx hb dX6_switched_1 rfl (lv_at hl 1 rfl) ?_
  refine fS_i (as := [.int (nI r)]) (rest := [.ref (ad 0)]) B hl.1 (c_X6_isRouter l D cI cZ (wR cI cZ ad co fa ic me sw cn ab go cp so gr re db rclk rlim (nI rqd) (nI rpk) rwas rthr) r (by omega)) (l_RX6_86 hts ⟨rfl, rfl⟩ ⟨Nat.le_of_ble_eq_true rfl, Nat.le_of_ble_eq_true rfl⟩) m_8_22 rfl rfl hP hD hS hA rfl (Nat.le_of_ble_eq_true rfl) dX6_switched_2 (fun H locs hP hD hS => ?_)
  refine r_if_eq (tgt := 19) hx hb (by omega) dX6_switched_5 (by decide) (fun c => absurd c (by omega)) (fun _ => ?_)
  refine lv_iload_n hx hb dX6_switched_8 rfl (lv_at hl 2 rfl) ?_
  refine fS_i (as := [.int g]) (rest := [.ref (ad 0)]) B hl.1 (c_X6_isGroup_r l D cI cZ (wR cI cZ ad co fa ic me sw cn ab go cp so gr re db rclk rlim (nI rqd) (nI rpk) rwas rthr) g) (l_RX6_96 hts ⟨rfl, rfl⟩ ⟨Nat.le_of_ble_eq_true rfl, Nat.le_of_ble_eq_true rfl⟩) m_13_9 rfl rfl hP hD hS hA rfl (Nat.le_of_ble_eq_true rfl) dX6_switched_9 (fun H locs hP hD hS => ?_)
  refine r_if_eq_b (tgt := 19) hx hb dX6_switched_12 (by decide) (fun _ => ?_) (fun c => absurd c hbad)
  refine lv_iconst (v := nI 1) hx hb dX6_switched_19 (by decide) ?_
  refine fV_i (ci := 6) (as := [.int (nI 1)]) (rest := []) B hl.1 (c_X6_can_1 l D cI cZ ad co fa ic me sw cn ab go cp so gr re db rclk rlim rqd rpk rwas rthr) rfl (l_RX6_90 hts ⟨rfl, rfl⟩ ⟨Nat.le_of_ble_eq_true rfl, Nat.le_of_ble_eq_true rfl⟩) m_9_1 m_9_2 rfl rfl hP hD hS hA 0 rfl wfR (Nat.le_of_ble_eq_true rfl) dX6_switched_20 (fun H locs hP hD hS => ?_)
  refine r_if_eq (tgt := 40) hx hb (by omega) dX6_switched_23 (by decide) (fun _ => ?_) (fun c => absurd c (by omega))
  refine lv_iconst (v := nI 0) hx hb dX6_switched_40 (by decide) ?_
  exact eI B hP hS rfl rfl dX6_switched_41
set_option maxHeartbeats 4000000 in
set_option maxRecDepth 100000 in
theorem c_X6_branches_b2 (l : Launch) (D : va_G) (cI cZ : ClassId) (ad : Nat → Nat) (co fa ic me sw cn ab go cp so gr re db : Nat → Int32) (rclk : Int32) (rlim : Int32) (rqd : Nat) (rpk : Nat) (rwas : Int32) (rthr : Int32) (r : Nat) (g : Int32) (hr : r < 10) (hbad : ¬ (f_X6_isGroup_r g) = true) : MI l yX6_branches cX6_branches 3 .int { frames := 1, cells := 0, slots := 0, locals := 21 } D (TY cI cZ) [.ref (ad 0), .int (nI r), .int g] (wR cI cZ ad co fa ic me sw cn ab go cp so gr re db rclk rlim (nI rqd) (nI rpk) rwas rthr) (wR cI cZ ad co fa ic me sw cn ab go cp so gr re db rclk rlim (nI rqd) (nI rpk) rwas (nI 1)) (nI 0) := by
  refine MI.mk ⟨rfl, rfl⟩ (by decide +kernel) (Nat.le_of_ble_eq_true rfl) ?_
  intro p e s m below meth c A ls B hA hP hD hS hl
  have hx := B.1
  have hb := B.2.1
  have hts := B.2.2.2.2.2.1
  have hN := B.2.2.2.2.2.2.2.1
  have hK := B.2.2.2.2.2.2.2.2.1
  have hl : lv_has ls 3 [(0, .ref (ad 0)), (1, .int (nI r)), (2, .int g)] := hl
  refine lv_aload_n hx hb dX6_branches_0 rfl (lv_at hl 0 rfl) ?_
  refine lv_iload_n hx hb dX6_branches_1 rfl (lv_at hl 1 rfl) ?_
  refine fS_i (as := [.int (nI r)]) (rest := [.ref (ad 0)]) B hl.1 (c_X6_isRouter l D cI cZ (wR cI cZ ad co fa ic me sw cn ab go cp so gr re db rclk rlim (nI rqd) (nI rpk) rwas rthr) r (by omega)) (l_RX6_86 hts ⟨rfl, rfl⟩ ⟨Nat.le_of_ble_eq_true rfl, Nat.le_of_ble_eq_true rfl⟩) m_8_22 rfl rfl hP hD hS hA rfl (Nat.le_of_ble_eq_true rfl) dX6_branches_2 (fun H locs hP hD hS => ?_)
  refine r_if_eq (tgt := 19) hx hb (by omega) dX6_branches_5 (by decide) (fun c => absurd c (by omega)) (fun _ => ?_)
  refine lv_iload_n hx hb dX6_branches_8 rfl (lv_at hl 2 rfl) ?_
  refine fS_i (as := [.int g]) (rest := [.ref (ad 0)]) B hl.1 (c_X6_isGroup_r l D cI cZ (wR cI cZ ad co fa ic me sw cn ab go cp so gr re db rclk rlim (nI rqd) (nI rpk) rwas rthr) g) (l_RX6_96 hts ⟨rfl, rfl⟩ ⟨Nat.le_of_ble_eq_true rfl, Nat.le_of_ble_eq_true rfl⟩) m_13_9 rfl rfl hP hD hS hA rfl (Nat.le_of_ble_eq_true rfl) dX6_branches_9 (fun H locs hP hD hS => ?_)
  refine r_if_eq_b (tgt := 19) hx hb dX6_branches_12 (by decide) (fun _ => ?_) (fun c => absurd c hbad)
  refine lv_iconst (v := nI 1) hx hb dX6_branches_19 (by decide) ?_
  refine fV_i (ci := 6) (as := [.int (nI 1)]) (rest := []) B hl.1 (c_X6_can_1 l D cI cZ ad co fa ic me sw cn ab go cp so gr re db rclk rlim rqd rpk rwas rthr) rfl (l_RX6_90 hts ⟨rfl, rfl⟩ ⟨Nat.le_of_ble_eq_true rfl, Nat.le_of_ble_eq_true rfl⟩) m_9_1 m_9_2 rfl rfl hP hD hS hA 0 rfl wfR (Nat.le_of_ble_eq_true rfl) dX6_branches_20 (fun H locs hP hD hS => ?_)
  refine r_if_eq (tgt := 41) hx hb (by omega) dX6_branches_23 (by decide) (fun _ => ?_) (fun c => absurd c (by omega))
  refine lv_iconst (v := nI 0) hx hb dX6_branches_41 (by decide) ?_
  exact eI B hP hS rfl rfl dX6_branches_42
set_option maxHeartbeats 4000000 in
set_option maxRecDepth 100000 in
theorem c_X6_send_b2 (l : Launch) (D : va_G) (cI cZ : ClassId) (ad : Nat → Nat) (co fa ic me sw cn ab go cp so gr re db : Nat → Int32) (rclk : Int32) (rlim : Int32) (rqd : Nat) (rpk : Nat) (rwas : Int32) (rthr : Int32) (r : Nat) (g : Int32) (hr : r < 10) (hbad : ¬ (f_X6_isGroup_r g) = true) : MI l yX6_send cX6_send 6 .int { frames := 1, cells := 0, slots := 0, locals := 21 } D (TY cI cZ) [.ref (ad 0), .int (nI r), .int g] (wR cI cZ ad co fa ic me sw cn ab go cp so gr re db rclk rlim (nI rqd) (nI rpk) rwas rthr) (wR cI cZ ad co fa ic me sw cn ab go cp so gr re db rclk rlim (nI rqd) (nI rpk) rwas (nI 1)) (nI 0) := by
  refine MI.mk ⟨rfl, rfl⟩ (by decide +kernel) (Nat.le_of_ble_eq_true rfl) ?_
  intro p e s m below meth c A ls B hA hP hD hS hl
  have hx := B.1
  have hb := B.2.1
  have hts := B.2.2.2.2.2.1
  have hN := B.2.2.2.2.2.2.2.1
  have hK := B.2.2.2.2.2.2.2.2.1
  have hl : lv_has ls 6 [(0, .ref (ad 0)), (1, .int (nI r)), (2, .int g)] := hl
  refine lv_aload_n hx hb dX6_send_0 rfl (lv_at hl 0 rfl) ?_
  refine lv_iload_n hx hb dX6_send_1 rfl (lv_at hl 1 rfl) ?_
  refine fS_i (as := [.int (nI r)]) (rest := [.ref (ad 0)]) B hl.1 (c_X6_isRouter l D cI cZ (wR cI cZ ad co fa ic me sw cn ab go cp so gr re db rclk rlim (nI rqd) (nI rpk) rwas rthr) r (by omega)) (l_RX6_86 hts ⟨rfl, rfl⟩ ⟨Nat.le_of_ble_eq_true rfl, Nat.le_of_ble_eq_true rfl⟩) m_8_22 rfl rfl hP hD hS hA rfl (Nat.le_of_ble_eq_true rfl) dX6_send_2 (fun H locs hP hD hS => ?_)
  refine r_if_eq (tgt := 15) hx hb (by omega) dX6_send_5 (by decide) (fun c => absurd c (by omega)) (fun _ => ?_)
  refine lv_iload_n hx hb dX6_send_8 rfl (lv_at hl 2 rfl) ?_
  refine fS_i (as := [.int g]) (rest := [.ref (ad 0)]) B hl.1 (c_X6_isGroup_r l D cI cZ (wR cI cZ ad co fa ic me sw cn ab go cp so gr re db rclk rlim (nI rqd) (nI rpk) rwas rthr) g) (l_RX6_96 hts ⟨rfl, rfl⟩ ⟨Nat.le_of_ble_eq_true rfl, Nat.le_of_ble_eq_true rfl⟩) m_13_9 rfl rfl hP hD hS hA rfl (Nat.le_of_ble_eq_true rfl) dX6_send_9 (fun H locs hP hD hS => ?_)
  refine r_if_ne_b (tgt := 19) hx hb dX6_send_12 (by decide) (fun c => absurd c hbad) (fun _ => ?_)
  refine lv_iconst (v := nI 1) hx hb dX6_send_15 (by decide) ?_
  refine lv_goto (tgt := 34) hx hb dX6_send_16 (by decide) ?_
  refine fV_i (ci := 6) (as := [.int (nI 1)]) (rest := []) B hl.1 (c_X6_can_1 l D cI cZ ad co fa ic me sw cn ab go cp so gr re db rclk rlim rqd rpk rwas rthr) rfl (l_RX6_90 hts ⟨rfl, rfl⟩ ⟨Nat.le_of_ble_eq_true rfl, Nat.le_of_ble_eq_true rfl⟩) m_9_1 m_9_2 rfl rfl hP hD hS hA 0 rfl wfR (Nat.le_of_ble_eq_true rfl) dX6_send_34 (fun H locs hP hD hS => ?_)
  refine r_if_ne (tgt := 42) hx hb (by omega) dX6_send_37 (by decide) (fun c => absurd c (by omega)) (fun _ => ?_)
  refine lv_iconst (v := nI 0) hx hb dX6_send_40 (by decide) ?_
  exact eI B hP hS rfl rfl dX6_send_41
set_option maxHeartbeats 4000000 in
set_option maxRecDepth 100000 in
theorem c_X6_floodMembers_b2 (l : Launch) (D : va_G) (cI cZ : ClassId) (ad : Nat → Nat) (co fa ic me sw cn ab go cp so gr re db : Nat → Int32) (rclk : Int32) (rlim : Int32) (rqd : Nat) (rpk : Nat) (rwas : Int32) (rthr : Int32) (r : Nat) (g : Int32) (hr : r < 10) (hbad : ¬ (f_X6_isGroup_r g) = true) : MI l yX6_floodMembers cX6_floodMembers 5 .int { frames := 1, cells := 0, slots := 0, locals := 21 } D (TY cI cZ) [.ref (ad 0), .int (nI r), .int g] (wR cI cZ ad co fa ic me sw cn ab go cp so gr re db rclk rlim (nI rqd) (nI rpk) rwas rthr) (wR cI cZ ad co fa ic me sw cn ab go cp so gr re db rclk rlim (nI rqd) (nI rpk) rwas (nI 1)) (nI 0) := by
  refine MI.mk ⟨rfl, rfl⟩ (by decide +kernel) (Nat.le_of_ble_eq_true rfl) ?_
  intro p e s m below meth c A ls B hA hP hD hS hl
  have hx := B.1
  have hb := B.2.1
  have hts := B.2.2.2.2.2.1
  have hN := B.2.2.2.2.2.2.2.1
  have hK := B.2.2.2.2.2.2.2.2.1
  have hl : lv_has ls 5 [(0, .ref (ad 0)), (1, .int (nI r)), (2, .int g)] := hl
  refine lv_aload_n hx hb dX6_floodMembers_0 rfl (lv_at hl 0 rfl) ?_
  refine lv_iload_n hx hb dX6_floodMembers_1 rfl (lv_at hl 1 rfl) ?_
  refine fS_i (as := [.int (nI r)]) (rest := [.ref (ad 0)]) B hl.1 (c_X6_isRouter l D cI cZ (wR cI cZ ad co fa ic me sw cn ab go cp so gr re db rclk rlim (nI rqd) (nI rpk) rwas rthr) r (by omega)) (l_RX6_86 hts ⟨rfl, rfl⟩ ⟨Nat.le_of_ble_eq_true rfl, Nat.le_of_ble_eq_true rfl⟩) m_8_22 rfl rfl hP hD hS hA rfl (Nat.le_of_ble_eq_true rfl) dX6_floodMembers_2 (fun H locs hP hD hS => ?_)
  refine r_if_eq (tgt := 19) hx hb (by omega) dX6_floodMembers_5 (by decide) (fun c => absurd c (by omega)) (fun _ => ?_)
  refine lv_iload_n hx hb dX6_floodMembers_8 rfl (lv_at hl 2 rfl) ?_
  refine fS_i (as := [.int g]) (rest := [.ref (ad 0)]) B hl.1 (c_X6_isGroup_r l D cI cZ (wR cI cZ ad co fa ic me sw cn ab go cp so gr re db rclk rlim (nI rqd) (nI rpk) rwas rthr) g) (l_RX6_96 hts ⟨rfl, rfl⟩ ⟨Nat.le_of_ble_eq_true rfl, Nat.le_of_ble_eq_true rfl⟩) m_13_9 rfl rfl hP hD hS hA rfl (Nat.le_of_ble_eq_true rfl) dX6_floodMembers_9 (fun H locs hP hD hS => ?_)
  refine r_if_eq_b (tgt := 19) hx hb dX6_floodMembers_12 (by decide) (fun _ => ?_) (fun c => absurd c hbad)
  refine lv_iconst (v := nI 1) hx hb dX6_floodMembers_19 (by decide) ?_
  refine fV_i (ci := 6) (as := [.int (nI 1)]) (rest := []) B hl.1 (c_X6_can_1 l D cI cZ ad co fa ic me sw cn ab go cp so gr re db rclk rlim rqd rpk rwas rthr) rfl (l_RX6_90 hts ⟨rfl, rfl⟩ ⟨Nat.le_of_ble_eq_true rfl, Nat.le_of_ble_eq_true rfl⟩) m_9_1 m_9_2 rfl rfl hP hD hS hA 0 rfl wfR (Nat.le_of_ble_eq_true rfl) dX6_floodMembers_20 (fun H locs hP hD hS => ?_)
  refine r_if_ne (tgt := 28) hx hb (by omega) dX6_floodMembers_23 (by decide) (fun c => absurd c (by omega)) (fun _ => ?_)
  refine lv_iconst (v := nI 0) hx hb dX6_floodMembers_26 (by decide) ?_
  exact eI B hP hS rfl rfl dX6_floodMembers_27
set_option maxHeartbeats 4000000 in
set_option maxRecDepth 100000 in
theorem c_X6_join_b3 (l : Launch) (D : va_G) (cI cZ : ClassId) (ad : Nat → Nat) (co fa ic me sw cn ab go cp so gr re db : Nat → Int32) (rclk : Int32) (rlim : Int32) (rqd : Nat) (rpk : Nat) (rwas : Int32) (rthr : Int32) (r : Nat) (g : Nat) (hr : r < 10) (hg : g < 4) (hc0 : (f_X6_isMember r g me) = true) : MI l yX6_join cX6_join 3 .int { frames := 1, cells := 0, slots := 0, locals := 22 } D (TY cI cZ) [.ref (ad 0), .int (nI r), .int (nI g)] (wR cI cZ ad co fa ic me sw cn ab go cp so gr re db rclk rlim (nI rqd) (nI rpk) rwas rthr) (wR cI cZ ad co fa ic me sw cn ab go cp so gr re db rclk rlim (nI rqd) (nI rpk) rwas (nI 2)) (nI 0) := by
  refine MI.mk ⟨rfl, rfl⟩ (by decide +kernel) (Nat.le_of_ble_eq_true rfl) ?_
  intro p e s m below meth c A ls B hA hP hD hS hl
  have hx := B.1
  have hb := B.2.1
  have hts := B.2.2.2.2.2.1
  have hN := B.2.2.2.2.2.2.2.1
  have hK := B.2.2.2.2.2.2.2.2.1
  have hl : lv_has ls 3 [(0, .ref (ad 0)), (1, .int (nI r)), (2, .int (nI g))] := hl
  refine lv_aload_n hx hb dX6_join_0 rfl (lv_at hl 0 rfl) ?_
  refine lv_iload_n hx hb dX6_join_1 rfl (lv_at hl 1 rfl) ?_
  refine fS_i (as := [.int (nI r)]) (rest := [.ref (ad 0)]) B hl.1 (c_X6_isRouter l D cI cZ (wR cI cZ ad co fa ic me sw cn ab go cp so gr re db rclk rlim (nI rqd) (nI rpk) rwas rthr) r (by omega)) (l_RX6_86 hts ⟨rfl, rfl⟩ ⟨Nat.le_of_ble_eq_true rfl, Nat.le_of_ble_eq_true rfl⟩) m_8_22 rfl rfl hP hD hS hA rfl (Nat.le_of_ble_eq_true rfl) dX6_join_2 (fun H locs hP hD hS => ?_)
  refine r_if_eq (tgt := 15) hx hb (by omega) dX6_join_5 (by decide) (fun c => absurd c (by omega)) (fun _ => ?_)
  refine lv_iload_n hx hb dX6_join_8 rfl (lv_at hl 2 rfl) ?_
  refine fS_i (as := [.int (nI g)]) (rest := [.ref (ad 0)]) B hl.1 (c_X6_isGroup l D cI cZ (wR cI cZ ad co fa ic me sw cn ab go cp so gr re db rclk rlim (nI rqd) (nI rpk) rwas rthr) g (by omega)) (l_RX6_96 hts ⟨rfl, rfl⟩ ⟨Nat.le_of_ble_eq_true rfl, Nat.le_of_ble_eq_true rfl⟩) m_13_9 rfl rfl hP hD hS hA rfl (Nat.le_of_ble_eq_true rfl) dX6_join_9 (fun H locs hP hD hS => ?_)
  refine r_if_ne (tgt := 19) hx hb (by omega) dX6_join_12 (by decide) (fun _ => ?_) (fun c => absurd c (by omega))
  refine lv_aload_n hx hb dX6_join_19 rfl (lv_at hl 0 rfl) ?_
  refine lv_iload_n hx hb dX6_join_20 rfl (lv_at hl 1 rfl) ?_
  refine lv_iload_n hx hb dX6_join_21 rfl (lv_at hl 2 rfl) ?_
  refine fV_i (ci := 6) (as := [.int (nI r), .int (nI g)]) (rest := [.ref (ad 0)]) B hl.1 (c_X6_isMember l D cI cZ ad co fa ic me sw cn ab go cp so gr re db rclk rlim rqd rpk rwas rthr r g (by omega) (by omega)) rfl (l_RX6_99 hts ⟨rfl, rfl⟩ ⟨Nat.le_of_ble_eq_true rfl, Nat.le_of_ble_eq_true rfl⟩) m_15_1 m_15_2 rfl rfl hP hD hS hA 0 rfl wfR (Nat.le_of_ble_eq_true rfl) dX6_join_22 (fun H locs hP hD hS => ?_)
  refine r_if_eq_b (tgt := 32) hx hb dX6_join_25 (by decide) (fun c => absurd hc0 c) (fun _ => ?_)
  refine lv_iconst (v := nI 2) hx hb dX6_join_28 (by decide) ?_
  refine lv_goto (tgt := 33) hx hb dX6_join_29 (by decide) ?_
  refine fV_i (ci := 6) (as := [.int (nI 2)]) (rest := []) B hl.1 (c_X6_can_2 l D cI cZ ad co fa ic me sw cn ab go cp so gr re db rclk rlim rqd rpk rwas rthr) rfl (l_RX6_90 hts ⟨rfl, rfl⟩ ⟨Nat.le_of_ble_eq_true rfl, Nat.le_of_ble_eq_true rfl⟩) m_9_1 m_9_2 rfl rfl hP hD hS hA 0 rfl wfR (Nat.le_of_ble_eq_true rfl) dX6_join_33 (fun H locs hP hD hS => ?_)
  refine r_if_ne (tgt := 41) hx hb (by omega) dX6_join_36 (by decide) (fun c => absurd c (by omega)) (fun _ => ?_)
  refine lv_iconst (v := nI 0) hx hb dX6_join_39 (by decide) ?_
  exact eI B hP hS rfl rfl dX6_join_40
set_option maxHeartbeats 4000000 in
set_option maxRecDepth 100000 in
theorem c_X6_leave_b3 (l : Launch) (D : va_G) (cI cZ : ClassId) (ad : Nat → Nat) (co fa ic me sw cn ab go cp so gr re db : Nat → Int32) (rclk : Int32) (rlim : Int32) (rqd : Nat) (rpk : Nat) (rwas : Int32) (rthr : Int32) (r : Nat) (g : Nat) (hr : r < 10) (hg : g < 4) (hc0 : ¬ (f_X6_isMember r g me) = true) : MI l yX6_leave cX6_leave 4 .int { frames := 1, cells := 0, slots := 0, locals := 22 } D (TY cI cZ) [.ref (ad 0), .int (nI r), .int (nI g)] (wR cI cZ ad co fa ic me sw cn ab go cp so gr re db rclk rlim (nI rqd) (nI rpk) rwas rthr) (wR cI cZ ad co fa ic me sw cn ab go cp so gr re db rclk rlim (nI rqd) (nI rpk) rwas (nI 2)) (nI 0) := by
  refine MI.mk ⟨rfl, rfl⟩ (by decide +kernel) (Nat.le_of_ble_eq_true rfl) ?_
  intro p e s m below meth c A ls B hA hP hD hS hl
  have hx := B.1
  have hb := B.2.1
  have hts := B.2.2.2.2.2.1
  have hN := B.2.2.2.2.2.2.2.1
  have hK := B.2.2.2.2.2.2.2.2.1
  have hl : lv_has ls 4 [(0, .ref (ad 0)), (1, .int (nI r)), (2, .int (nI g))] := hl
  refine lv_aload_n hx hb dX6_leave_0 rfl (lv_at hl 0 rfl) ?_
  refine lv_iload_n hx hb dX6_leave_1 rfl (lv_at hl 1 rfl) ?_
  refine fS_i (as := [.int (nI r)]) (rest := [.ref (ad 0)]) B hl.1 (c_X6_isRouter l D cI cZ (wR cI cZ ad co fa ic me sw cn ab go cp so gr re db rclk rlim (nI rqd) (nI rpk) rwas rthr) r (by omega)) (l_RX6_86 hts ⟨rfl, rfl⟩ ⟨Nat.le_of_ble_eq_true rfl, Nat.le_of_ble_eq_true rfl⟩) m_8_22 rfl rfl hP hD hS hA rfl (Nat.le_of_ble_eq_true rfl) dX6_leave_2 (fun H locs hP hD hS => ?_)
  refine r_if_eq (tgt := 15) hx hb (by omega) dX6_leave_5 (by decide) (fun c => absurd c (by omega)) (fun _ => ?_)
  refine lv_iload_n hx hb dX6_leave_8 rfl (lv_at hl 2 rfl) ?_
  refine fS_i (as := [.int (nI g)]) (rest := [.ref (ad 0)]) B hl.1 (c_X6_isGroup l D cI cZ (wR cI cZ ad co fa ic me sw cn ab go cp so gr re db rclk rlim (nI rqd) (nI rpk) rwas rthr) g (by omega)) (l_RX6_96 hts ⟨rfl, rfl⟩ ⟨Nat.le_of_ble_eq_true rfl, Nat.le_of_ble_eq_true rfl⟩) m_13_9 rfl rfl hP hD hS hA rfl (Nat.le_of_ble_eq_true rfl) dX6_leave_9 (fun H locs hP hD hS => ?_)
  refine r_if_ne (tgt := 19) hx hb (by omega) dX6_leave_12 (by decide) (fun _ => ?_) (fun c => absurd c (by omega))
  refine lv_aload_n hx hb dX6_leave_19 rfl (lv_at hl 0 rfl) ?_
  refine lv_iload_n hx hb dX6_leave_20 rfl (lv_at hl 1 rfl) ?_
  refine lv_iload_n hx hb dX6_leave_21 rfl (lv_at hl 2 rfl) ?_
  refine fV_i (ci := 6) (as := [.int (nI r), .int (nI g)]) (rest := [.ref (ad 0)]) B hl.1 (c_X6_isMember l D cI cZ ad co fa ic me sw cn ab go cp so gr re db rclk rlim rqd rpk rwas rthr r g (by omega) (by omega)) rfl (l_RX6_99 hts ⟨rfl, rfl⟩ ⟨Nat.le_of_ble_eq_true rfl, Nat.le_of_ble_eq_true rfl⟩) m_15_1 m_15_2 rfl rfl hP hD hS hA 0 rfl wfR (Nat.le_of_ble_eq_true rfl) dX6_leave_22 (fun H locs hP hD hS => ?_)
  refine r_if_eq_b (tgt := 32) hx hb dX6_leave_25 (by decide) (fun _ => ?_) (fun c => absurd c hc0)
  refine lv_iconst (v := nI 2) hx hb dX6_leave_32 (by decide) ?_
  refine fV_i (ci := 6) (as := [.int (nI 2)]) (rest := []) B hl.1 (c_X6_can_2 l D cI cZ ad co fa ic me sw cn ab go cp so gr re db rclk rlim rqd rpk rwas rthr) rfl (l_RX6_90 hts ⟨rfl, rfl⟩ ⟨Nat.le_of_ble_eq_true rfl, Nat.le_of_ble_eq_true rfl⟩) m_9_1 m_9_2 rfl rfl hP hD hS hA 0 rfl wfR (Nat.le_of_ble_eq_true rfl) dX6_leave_33 (fun H locs hP hD hS => ?_)
  refine r_if_ne (tgt := 41) hx hb (by omega) dX6_leave_36 (by decide) (fun c => absurd c (by omega)) (fun _ => ?_)
  refine lv_iconst (v := nI 0) hx hb dX6_leave_39 (by decide) ?_
  exact eI B hP hS rfl rfl dX6_leave_40
set_option maxHeartbeats 4000000 in
set_option maxRecDepth 100000 in
theorem c_X6_send_b3 (l : Launch) (D : va_G) (cI cZ : ClassId) (ad : Nat → Nat) (co fa ic me sw cn ab go cp so gr re db : Nat → Int32) (rclk : Int32) (rlim : Int32) (rqd : Nat) (rpk : Nat) (rwas : Int32) (rthr : Int32) (s_ : Nat) (g : Nat) (hs_ : s_ < 10) (hg : g < 4) (hrpk : rpk ≤ 200) (hn1rpk : rpk ≤ 200) (hn0rpk : 200 ≤ rpk) : MI l yX6_send cX6_send 6 .int { frames := 1, cells := 0, slots := 0, locals := 21 } D (TY cI cZ) [.ref (ad 0), .int (nI s_), .int (nI g)] (wR cI cZ ad co fa ic me sw cn ab go cp so gr re db rclk rlim (nI rqd) (nI rpk) rwas rthr) (wR cI cZ ad co fa ic me sw cn ab go cp so gr re db rclk rlim (nI rqd) (nI rpk) rwas (nI 2)) (nI 0) := by
  refine MI.mk ⟨rfl, rfl⟩ (by decide +kernel) (Nat.le_of_ble_eq_true rfl) ?_
  intro p e s m below meth c A ls B hA hP hD hS hl
  have hx := B.1
  have hb := B.2.1
  have hts := B.2.2.2.2.2.1
  have hN := B.2.2.2.2.2.2.2.1
  have hK := B.2.2.2.2.2.2.2.2.1
  have hl : lv_has ls 6 [(0, .ref (ad 0)), (1, .int (nI s_)), (2, .int (nI g))] := hl
  refine lv_aload_n hx hb dX6_send_0 rfl (lv_at hl 0 rfl) ?_
  refine lv_iload_n hx hb dX6_send_1 rfl (lv_at hl 1 rfl) ?_
  refine fS_i (as := [.int (nI s_)]) (rest := [.ref (ad 0)]) B hl.1 (c_X6_isRouter l D cI cZ (wR cI cZ ad co fa ic me sw cn ab go cp so gr re db rclk rlim (nI rqd) (nI rpk) rwas rthr) s_ (by omega)) (l_RX6_86 hts ⟨rfl, rfl⟩ ⟨Nat.le_of_ble_eq_true rfl, Nat.le_of_ble_eq_true rfl⟩) m_8_22 rfl rfl hP hD hS hA rfl (Nat.le_of_ble_eq_true rfl) dX6_send_2 (fun H locs hP hD hS => ?_)
  refine r_if_eq (tgt := 15) hx hb (by omega) dX6_send_5 (by decide) (fun c => absurd c (by omega)) (fun _ => ?_)
  refine lv_iload_n hx hb dX6_send_8 rfl (lv_at hl 2 rfl) ?_
  refine fS_i (as := [.int (nI g)]) (rest := [.ref (ad 0)]) B hl.1 (c_X6_isGroup l D cI cZ (wR cI cZ ad co fa ic me sw cn ab go cp so gr re db rclk rlim (nI rqd) (nI rpk) rwas rthr) g (by omega)) (l_RX6_96 hts ⟨rfl, rfl⟩ ⟨Nat.le_of_ble_eq_true rfl, Nat.le_of_ble_eq_true rfl⟩) m_13_9 rfl rfl hP hD hS hA rfl (Nat.le_of_ble_eq_true rfl) dX6_send_9 (fun H locs hP hD hS => ?_)
  refine r_if_ne (tgt := 19) hx hb (by omega) dX6_send_12 (by decide) (fun _ => ?_) (fun c => absurd c (by omega))
  refine lv_aload_n hx hb dX6_send_19 rfl (lv_at hl 0 rfl) ?_
  refine g_X6_121 B hP 0 rfl rfl dX6_send_20 ?_
  refine lv_sipush (v := nI 200) hx hb dX6_send_23 (by decide) ?_
  refine r_icmp_ne (tgt := 33) hx hb (by omega) (by omega) dX6_send_26 (by decide) (fun c => absurd c (by omega)) (fun _ => ?_)
  refine lv_iconst (v := nI 2) hx hb dX6_send_29 (by decide) ?_
  refine lv_goto (tgt := 34) hx hb dX6_send_30 (by decide) ?_
  refine fV_i (ci := 6) (as := [.int (nI 2)]) (rest := []) B hl.1 (c_X6_can_2 l D cI cZ ad co fa ic me sw cn ab go cp so gr re db rclk rlim rqd rpk rwas rthr) rfl (l_RX6_90 hts ⟨rfl, rfl⟩ ⟨Nat.le_of_ble_eq_true rfl, Nat.le_of_ble_eq_true rfl⟩) m_9_1 m_9_2 rfl rfl hP hD hS hA 0 rfl wfR (Nat.le_of_ble_eq_true rfl) dX6_send_34 (fun H locs hP hD hS => ?_)
  refine r_if_ne (tgt := 42) hx hb (by omega) dX6_send_37 (by decide) (fun c => absurd c (by omega)) (fun _ => ?_)
  refine lv_iconst (v := nI 0) hx hb dX6_send_40 (by decide) ?_
  exact eI B hP hS rfl rfl dX6_send_41
set_option maxHeartbeats 4000000 in
set_option maxRecDepth 100000 in
theorem c_X6_sourceBranches_b1 (l : Launch) (D : va_G) (cI cZ : ClassId) (ad : Nat → Nat) (co fa ic me sw cn ab go cp so gr re db : Nat → Int32) (rclk : Int32) (rlim : Int32) (rqd : Nat) (rpk : Nat) (rwas : Int32) (rthr : Int32) (r : Int32) (s_ : Int32) (g : Int32) (hbad : ¬ (f_X6_isRouter_r r) = true) : MI l yX6_sourceBranches cX6_sourceBranches 4 .int { frames := 1, cells := 0, slots := 0, locals := 21 } D (TY cI cZ) [.ref (ad 0), .int r, .int s_, .int g] (wR cI cZ ad co fa ic me sw cn ab go cp so gr re db rclk rlim (nI rqd) (nI rpk) rwas rthr) (wR cI cZ ad co fa ic me sw cn ab go cp so gr re db rclk rlim (nI rqd) (nI rpk) rwas (nI 1)) (nI 0) := by
  refine MI.mk ⟨rfl, rfl⟩ (by decide +kernel) (Nat.le_of_ble_eq_true rfl) ?_
  intro p e s m below meth c A ls B hA hP hD hS hl
  have hx := B.1
  have hb := B.2.1
  have hts := B.2.2.2.2.2.1
  have hN := B.2.2.2.2.2.2.2.1
  have hK := B.2.2.2.2.2.2.2.2.1
  have hl : lv_has ls 4 [(0, .ref (ad 0)), (1, .int r), (2, .int s_), (3, .int g)] := hl
  refine lv_aload_n hx hb dX6_sourceBranches_0 rfl (lv_at hl 0 rfl) ?_
  refine lv_iload_n hx hb dX6_sourceBranches_1 rfl (lv_at hl 1 rfl) ?_
  refine fS_i (as := [.int r]) (rest := [.ref (ad 0)]) B hl.1 (c_X6_isRouter_r l D cI cZ (wR cI cZ ad co fa ic me sw cn ab go cp so gr re db rclk rlim (nI rqd) (nI rpk) rwas rthr) r) (l_RX6_86 hts ⟨rfl, rfl⟩ ⟨Nat.le_of_ble_eq_true rfl, Nat.le_of_ble_eq_true rfl⟩) m_8_22 rfl rfl hP hD hS hA rfl (Nat.le_of_ble_eq_true rfl) dX6_sourceBranches_2 (fun H locs hP hD hS => ?_)
  refine r_if_eq_b (tgt := 26) hx hb dX6_sourceBranches_5 (by decide) (fun _ => ?_) (fun c => absurd c hbad)
  refine lv_iconst (v := nI 1) hx hb dX6_sourceBranches_26 (by decide) ?_
  refine fV_i (ci := 6) (as := [.int (nI 1)]) (rest := []) B hl.1 (c_X6_can_1 l D cI cZ ad co fa ic me sw cn ab go cp so gr re db rclk rlim rqd rpk rwas rthr) rfl (l_RX6_90 hts ⟨rfl, rfl⟩ ⟨Nat.le_of_ble_eq_true rfl, Nat.le_of_ble_eq_true rfl⟩) m_9_1 m_9_2 rfl rfl hP hD hS hA 0 rfl wfR (Nat.le_of_ble_eq_true rfl) dX6_sourceBranches_27 (fun H locs hP hD hS => ?_)
  refine r_if_eq (tgt := 47) hx hb (by omega) dX6_sourceBranches_30 (by decide) (fun _ => ?_) (fun c => absurd c (by omega))
  refine lv_iconst (v := nI 0) hx hb dX6_sourceBranches_47 (by decide) ?_
  exact eI B hP hS rfl rfl dX6_sourceBranches_48
set_option maxHeartbeats 4000000 in
set_option maxRecDepth 100000 in
theorem c_X6_sourceBranches_b2 (l : Launch) (D : va_G) (cI cZ : ClassId) (ad : Nat → Nat) (co fa ic me sw cn ab go cp so gr re db : Nat → Int32) (rclk : Int32) (rlim : Int32) (rqd : Nat) (rpk : Nat) (rwas : Int32) (rthr : Int32) (r : Nat) (s_ : Int32) (g : Int32) (hr : r < 10) (hbad : ¬ (f_X6_isRouter_r s_) = true) : MI l yX6_sourceBranches cX6_sourceBranches 4 .int { frames := 1, cells := 0, slots := 0, locals := 21 } D (TY cI cZ) [.ref (ad 0), .int (nI r), .int s_, .int g] (wR cI cZ ad co fa ic me sw cn ab go cp so gr re db rclk rlim (nI rqd) (nI rpk) rwas rthr) (wR cI cZ ad co fa ic me sw cn ab go cp so gr re db rclk rlim (nI rqd) (nI rpk) rwas (nI 1)) (nI 0) := by
  refine MI.mk ⟨rfl, rfl⟩ (by decide +kernel) (Nat.le_of_ble_eq_true rfl) ?_
  intro p e s m below meth c A ls B hA hP hD hS hl
  have hx := B.1
  have hb := B.2.1
  have hts := B.2.2.2.2.2.1
  have hN := B.2.2.2.2.2.2.2.1
  have hK := B.2.2.2.2.2.2.2.2.1
  have hl : lv_has ls 4 [(0, .ref (ad 0)), (1, .int (nI r)), (2, .int s_), (3, .int g)] := hl
  refine lv_aload_n hx hb dX6_sourceBranches_0 rfl (lv_at hl 0 rfl) ?_
  refine lv_iload_n hx hb dX6_sourceBranches_1 rfl (lv_at hl 1 rfl) ?_
  refine fS_i (as := [.int (nI r)]) (rest := [.ref (ad 0)]) B hl.1 (c_X6_isRouter l D cI cZ (wR cI cZ ad co fa ic me sw cn ab go cp so gr re db rclk rlim (nI rqd) (nI rpk) rwas rthr) r (by omega)) (l_RX6_86 hts ⟨rfl, rfl⟩ ⟨Nat.le_of_ble_eq_true rfl, Nat.le_of_ble_eq_true rfl⟩) m_8_22 rfl rfl hP hD hS hA rfl (Nat.le_of_ble_eq_true rfl) dX6_sourceBranches_2 (fun H locs hP hD hS => ?_)
  refine r_if_eq (tgt := 26) hx hb (by omega) dX6_sourceBranches_5 (by decide) (fun c => absurd c (by omega)) (fun _ => ?_)
  refine lv_iload_n hx hb dX6_sourceBranches_8 rfl (lv_at hl 2 rfl) ?_
  refine fS_i (as := [.int s_]) (rest := [.ref (ad 0)]) B hl.1 (c_X6_isRouter_r l D cI cZ (wR cI cZ ad co fa ic me sw cn ab go cp so gr re db rclk rlim (nI rqd) (nI rpk) rwas rthr) s_) (l_RX6_86 hts ⟨rfl, rfl⟩ ⟨Nat.le_of_ble_eq_true rfl, Nat.le_of_ble_eq_true rfl⟩) m_8_22 rfl rfl hP hD hS hA rfl (Nat.le_of_ble_eq_true rfl) dX6_sourceBranches_9 (fun H locs hP hD hS => ?_)
  refine r_if_eq_b (tgt := 26) hx hb dX6_sourceBranches_12 (by decide) (fun _ => ?_) (fun c => absurd c hbad)
  refine lv_iconst (v := nI 1) hx hb dX6_sourceBranches_26 (by decide) ?_
  refine fV_i (ci := 6) (as := [.int (nI 1)]) (rest := []) B hl.1 (c_X6_can_1 l D cI cZ ad co fa ic me sw cn ab go cp so gr re db rclk rlim rqd rpk rwas rthr) rfl (l_RX6_90 hts ⟨rfl, rfl⟩ ⟨Nat.le_of_ble_eq_true rfl, Nat.le_of_ble_eq_true rfl⟩) m_9_1 m_9_2 rfl rfl hP hD hS hA 0 rfl wfR (Nat.le_of_ble_eq_true rfl) dX6_sourceBranches_27 (fun H locs hP hD hS => ?_)
  refine r_if_eq (tgt := 47) hx hb (by omega) dX6_sourceBranches_30 (by decide) (fun _ => ?_) (fun c => absurd c (by omega))
  refine lv_iconst (v := nI 0) hx hb dX6_sourceBranches_47 (by decide) ?_
  exact eI B hP hS rfl rfl dX6_sourceBranches_48
set_option maxHeartbeats 4000000 in
set_option maxRecDepth 100000 in
theorem c_X6_sourceBranches_b3 (l : Launch) (D : va_G) (cI cZ : ClassId) (ad : Nat → Nat) (co fa ic me sw cn ab go cp so gr re db : Nat → Int32) (rclk : Int32) (rlim : Int32) (rqd : Nat) (rpk : Nat) (rwas : Int32) (rthr : Int32) (r : Nat) (s_ : Nat) (g : Int32) (hr : r < 10) (hs_ : s_ < 10) (hbad : ¬ (f_X6_isGroup_r g) = true) : MI l yX6_sourceBranches cX6_sourceBranches 4 .int { frames := 1, cells := 0, slots := 0, locals := 21 } D (TY cI cZ) [.ref (ad 0), .int (nI r), .int (nI s_), .int g] (wR cI cZ ad co fa ic me sw cn ab go cp so gr re db rclk rlim (nI rqd) (nI rpk) rwas rthr) (wR cI cZ ad co fa ic me sw cn ab go cp so gr re db rclk rlim (nI rqd) (nI rpk) rwas (nI 1)) (nI 0) := by
  refine MI.mk ⟨rfl, rfl⟩ (by decide +kernel) (Nat.le_of_ble_eq_true rfl) ?_
  intro p e s m below meth c A ls B hA hP hD hS hl
  have hx := B.1
  have hb := B.2.1
  have hts := B.2.2.2.2.2.1
  have hN := B.2.2.2.2.2.2.2.1
  have hK := B.2.2.2.2.2.2.2.2.1
  have hl : lv_has ls 4 [(0, .ref (ad 0)), (1, .int (nI r)), (2, .int (nI s_)), (3, .int g)] := hl
  refine lv_aload_n hx hb dX6_sourceBranches_0 rfl (lv_at hl 0 rfl) ?_
  refine lv_iload_n hx hb dX6_sourceBranches_1 rfl (lv_at hl 1 rfl) ?_
  refine fS_i (as := [.int (nI r)]) (rest := [.ref (ad 0)]) B hl.1 (c_X6_isRouter l D cI cZ (wR cI cZ ad co fa ic me sw cn ab go cp so gr re db rclk rlim (nI rqd) (nI rpk) rwas rthr) r (by omega)) (l_RX6_86 hts ⟨rfl, rfl⟩ ⟨Nat.le_of_ble_eq_true rfl, Nat.le_of_ble_eq_true rfl⟩) m_8_22 rfl rfl hP hD hS hA rfl (Nat.le_of_ble_eq_true rfl) dX6_sourceBranches_2 (fun H locs hP hD hS => ?_)
  refine r_if_eq (tgt := 26) hx hb (by omega) dX6_sourceBranches_5 (by decide) (fun c => absurd c (by omega)) (fun _ => ?_)
  refine lv_iload_n hx hb dX6_sourceBranches_8 rfl (lv_at hl 2 rfl) ?_
  refine fS_i (as := [.int (nI s_)]) (rest := [.ref (ad 0)]) B hl.1 (c_X6_isRouter l D cI cZ (wR cI cZ ad co fa ic me sw cn ab go cp so gr re db rclk rlim (nI rqd) (nI rpk) rwas rthr) s_ (by omega)) (l_RX6_86 hts ⟨rfl, rfl⟩ ⟨Nat.le_of_ble_eq_true rfl, Nat.le_of_ble_eq_true rfl⟩) m_8_22 rfl rfl hP hD hS hA rfl (Nat.le_of_ble_eq_true rfl) dX6_sourceBranches_9 (fun H locs hP hD hS => ?_)
  refine r_if_eq (tgt := 26) hx hb (by omega) dX6_sourceBranches_12 (by decide) (fun c => absurd c (by omega)) (fun _ => ?_)
  refine lv_iload_n hx hb dX6_sourceBranches_15 rfl (lv_at hl 3 rfl) ?_
  refine fS_i (as := [.int g]) (rest := [.ref (ad 0)]) B hl.1 (c_X6_isGroup_r l D cI cZ (wR cI cZ ad co fa ic me sw cn ab go cp so gr re db rclk rlim (nI rqd) (nI rpk) rwas rthr) g) (l_RX6_96 hts ⟨rfl, rfl⟩ ⟨Nat.le_of_ble_eq_true rfl, Nat.le_of_ble_eq_true rfl⟩) m_13_9 rfl rfl hP hD hS hA rfl (Nat.le_of_ble_eq_true rfl) dX6_sourceBranches_16 (fun H locs hP hD hS => ?_)
  refine r_if_eq_b (tgt := 26) hx hb dX6_sourceBranches_19 (by decide) (fun _ => ?_) (fun c => absurd c hbad)
  refine lv_iconst (v := nI 1) hx hb dX6_sourceBranches_26 (by decide) ?_
  refine fV_i (ci := 6) (as := [.int (nI 1)]) (rest := []) B hl.1 (c_X6_can_1 l D cI cZ ad co fa ic me sw cn ab go cp so gr re db rclk rlim rqd rpk rwas rthr) rfl (l_RX6_90 hts ⟨rfl, rfl⟩ ⟨Nat.le_of_ble_eq_true rfl, Nat.le_of_ble_eq_true rfl⟩) m_9_1 m_9_2 rfl rfl hP hD hS hA 0 rfl wfR (Nat.le_of_ble_eq_true rfl) dX6_sourceBranches_27 (fun H locs hP hD hS => ?_)
  refine r_if_eq (tgt := 47) hx hb (by omega) dX6_sourceBranches_30 (by decide) (fun _ => ?_) (fun c => absurd c (by omega))
  refine lv_iconst (v := nI 0) hx hb dX6_sourceBranches_47 (by decide) ?_
  exact eI B hP hS rfl rfl dX6_sourceBranches_48
set_option maxHeartbeats 4000000 in
set_option maxRecDepth 100000 in
theorem c_X6_isPacket_b1 (l : Launch) (D : va_G) (cI cZ : ClassId) (ad : Nat → Nat) (co fa ic me sw cn ab go cp so gr re db : Nat → Int32) (rclk : Int32) (rlim : Int32) (rqd : Nat) (rpk : Nat) (rwas : Int32) (rthr : Int32) (pk : Int32) (hc0 : pk < 0) : MI l yX6_isPacket cX6_isPacket 2 .boolean { frames := 1, cells := 0, slots := 0, locals := 21 } D (TY cI cZ) [.ref (ad 0), .int pk] (wR cI cZ ad co fa ic me sw cn ab go cp so gr re db rclk rlim (nI rqd) (nI rpk) rwas rthr) (wR cI cZ ad co fa ic me sw cn ab go cp so gr re db rclk rlim (nI rqd) (nI rpk) rwas (nI 1)) (nI 0) := by
  refine MI.mk ⟨rfl, rfl⟩ (by decide +kernel) (Nat.le_of_ble_eq_true rfl) ?_
  intro p e s m below meth c A ls B hA hP hD hS hl
  have hx := B.1
  have hb := B.2.1
  have hts := B.2.2.2.2.2.1
  have hN := B.2.2.2.2.2.2.2.1
  have hK := B.2.2.2.2.2.2.2.2.1
  have hl : lv_has ls 2 [(0, .ref (ad 0)), (1, .int pk)] := hl
  refine lv_aload_n hx hb dX6_isPacket_0 rfl (lv_at hl 0 rfl) ?_
  refine lv_iload_n hx hb dX6_isPacket_1 rfl (lv_at hl 1 rfl) ?_
  refine lv_if_lt (tgt := 17) hx hb dX6_isPacket_2 (by decide) (fun _ => ?_) (fun c => absurd hc0 c)
  refine lv_iconst (v := nI 1) hx hb dX6_isPacket_17 (by decide) ?_
  refine fV_i (ci := 6) (as := [.int (nI 1)]) (rest := []) B hl.1 (c_X6_can_1 l D cI cZ ad co fa ic me sw cn ab go cp so gr re db rclk rlim rqd rpk rwas rthr) rfl (l_RX6_90 hts ⟨rfl, rfl⟩ ⟨Nat.le_of_ble_eq_true rfl, Nat.le_of_ble_eq_true rfl⟩) m_9_1 m_9_2 rfl rfl hP hD hS hA 0 rfl wfR (Nat.le_of_ble_eq_true rfl) dX6_isPacket_18 (fun H locs hP hD hS => ?_)
  exact eZ B hP hS (by decide) rfl rfl dX6_isPacket_21
set_option maxHeartbeats 4000000 in
set_option maxRecDepth 100000 in
theorem c_X6_isPacket_b2 (l : Launch) (D : va_G) (cI cZ : ClassId) (ad : Nat → Nat) (co fa ic me sw cn ab go cp so gr re db : Nat → Int32) (rclk : Int32) (rlim : Int32) (rqd : Nat) (rpk : Nat) (rwas : Int32) (rthr : Int32) (pk : Int32) (hrpk : rpk ≤ 200) (hc0 : ¬ (pk < 0)) (hc1 : (nI rpk) ≤ pk) : MI l yX6_isPacket cX6_isPacket 2 .boolean { frames := 1, cells := 0, slots := 0, locals := 21 } D (TY cI cZ) [.ref (ad 0), .int pk] (wR cI cZ ad co fa ic me sw cn ab go cp so gr re db rclk rlim (nI rqd) (nI rpk) rwas rthr) (wR cI cZ ad co fa ic me sw cn ab go cp so gr re db rclk rlim (nI rqd) (nI rpk) rwas (nI 1)) (nI 0) := by
  refine MI.mk ⟨rfl, rfl⟩ (by decide +kernel) (Nat.le_of_ble_eq_true rfl) ?_
  intro p e s m below meth c A ls B hA hP hD hS hl
  have hx := B.1
  have hb := B.2.1
  have hts := B.2.2.2.2.2.1
  have hN := B.2.2.2.2.2.2.2.1
  have hK := B.2.2.2.2.2.2.2.2.1
  have hl : lv_has ls 2 [(0, .ref (ad 0)), (1, .int pk)] := hl
  refine lv_aload_n hx hb dX6_isPacket_0 rfl (lv_at hl 0 rfl) ?_
  refine lv_iload_n hx hb dX6_isPacket_1 rfl (lv_at hl 1 rfl) ?_
  refine lv_if_lt (tgt := 17) hx hb dX6_isPacket_2 (by decide) (fun c => absurd c hc0) (fun _ => ?_)
  refine lv_iload_n hx hb dX6_isPacket_5 rfl (lv_at hl 1 rfl) ?_
  refine lv_aload_n hx hb dX6_isPacket_6 rfl (lv_at hl 0 rfl) ?_
  refine g_X6_121 B hP 0 rfl rfl dX6_isPacket_7 ?_
  refine lv_icmp_ge (tgt := 17) hx hb dX6_isPacket_10 (by decide) (fun _ => ?_) (fun c => absurd hc1 c)
  refine lv_iconst (v := nI 1) hx hb dX6_isPacket_17 (by decide) ?_
  refine fV_i (ci := 6) (as := [.int (nI 1)]) (rest := []) B hl.1 (c_X6_can_1 l D cI cZ ad co fa ic me sw cn ab go cp so gr re db rclk rlim rqd rpk rwas rthr) rfl (l_RX6_90 hts ⟨rfl, rfl⟩ ⟨Nat.le_of_ble_eq_true rfl, Nat.le_of_ble_eq_true rfl⟩) m_9_1 m_9_2 rfl rfl hP hD hS hA 0 rfl wfR (Nat.le_of_ble_eq_true rfl) dX6_isPacket_18 (fun H locs hP hD hS => ?_)
  exact eZ B hP hS (by decide) rfl rfl dX6_isPacket_21
set_option maxHeartbeats 4000000 in
set_option maxRecDepth 100000 in
theorem c_X6_received_b1 (l : Launch) (D : va_G) (cI cZ : ClassId) (ad : Nat → Nat) (co fa ic me sw cn ab go cp so gr re db : Nat → Int32) (rclk : Int32) (rlim : Int32) (rqd : Nat) (rpk : Nat) (rwas : Int32) (rthr : Int32) (pk : Int32) (hc0 : pk < 0) : MI l yX6_received cX6_received 2 .int { frames := 2, cells := 0, slots := 0, locals := 42 } D (TY cI cZ) [.ref (ad 0), .int pk] (wR cI cZ ad co fa ic me sw cn ab go cp so gr re db rclk rlim (nI rqd) (nI rpk) rwas rthr) (wR cI cZ ad co fa ic me sw cn ab go cp so gr re db rclk rlim (nI rqd) (nI rpk) rwas (nI 1)) (nI 0) := by
  refine MI.mk ⟨rfl, rfl⟩ (by decide +kernel) (Nat.le_of_ble_eq_true rfl) ?_
  intro p e s m below meth c A ls B hA hP hD hS hl
  have hx := B.1
  have hb := B.2.1
  have hts := B.2.2.2.2.2.1
  have hN := B.2.2.2.2.2.2.2.1
  have hK := B.2.2.2.2.2.2.2.2.1
  have hl : lv_has ls 2 [(0, .ref (ad 0)), (1, .int pk)] := hl
  refine lv_aload_n hx hb dX6_received_0 rfl (lv_at hl 0 rfl) ?_
  refine lv_iload_n hx hb dX6_received_1 rfl (lv_at hl 1 rfl) ?_
  refine fV_i (ci := 6) (as := [.int pk]) (rest := []) B hl.1 (c_X6_isPacket_b1 l D cI cZ ad co fa ic me sw cn ab go cp so gr re db rclk rlim rqd rpk rwas rthr pk hc0) rfl (l_RX6_132 hts ⟨rfl, rfl⟩ ⟨Nat.le_of_ble_eq_true rfl, Nat.le_of_ble_eq_true rfl⟩) m_26_22 m_26_23 rfl rfl hP hD hS hA 0 rfl wfR (Nat.le_of_ble_eq_true rfl) dX6_received_2 (fun H locs hP hD hS => ?_)
  refine r_if_eq (tgt := 17) hx hb (by omega) dX6_received_5 (by decide) (fun _ => ?_) (fun c => absurd c (by omega))
  refine lv_iconst (v := nI 0) hx hb dX6_received_17 (by decide) ?_
  exact eI B hP hS rfl rfl dX6_received_18
set_option maxHeartbeats 4000000 in
set_option maxRecDepth 100000 in
theorem c_X6_doubles_b1 (l : Launch) (D : va_G) (cI cZ : ClassId) (ad : Nat → Nat) (co fa ic me sw cn ab go cp so gr re db : Nat → Int32) (rclk : Int32) (rlim : Int32) (rqd : Nat) (rpk : Nat) (rwas : Int32) (rthr : Int32) (pk : Int32) (hc0 : pk < 0) : MI l yX6_doubles cX6_doubles 2 .int { frames := 2, cells := 0, slots := 0, locals := 42 } D (TY cI cZ) [.ref (ad 0), .int pk] (wR cI cZ ad co fa ic me sw cn ab go cp so gr re db rclk rlim (nI rqd) (nI rpk) rwas rthr) (wR cI cZ ad co fa ic me sw cn ab go cp so gr re db rclk rlim (nI rqd) (nI rpk) rwas (nI 1)) (nI 0) := by
  refine MI.mk ⟨rfl, rfl⟩ (by decide +kernel) (Nat.le_of_ble_eq_true rfl) ?_
  intro p e s m below meth c A ls B hA hP hD hS hl
  have hx := B.1
  have hb := B.2.1
  have hts := B.2.2.2.2.2.1
  have hN := B.2.2.2.2.2.2.2.1
  have hK := B.2.2.2.2.2.2.2.2.1
  have hl : lv_has ls 2 [(0, .ref (ad 0)), (1, .int pk)] := hl
  refine lv_aload_n hx hb dX6_doubles_0 rfl (lv_at hl 0 rfl) ?_
  refine lv_iload_n hx hb dX6_doubles_1 rfl (lv_at hl 1 rfl) ?_
  refine fV_i (ci := 6) (as := [.int pk]) (rest := []) B hl.1 (c_X6_isPacket_b1 l D cI cZ ad co fa ic me sw cn ab go cp so gr re db rclk rlim rqd rpk rwas rthr pk hc0) rfl (l_RX6_132 hts ⟨rfl, rfl⟩ ⟨Nat.le_of_ble_eq_true rfl, Nat.le_of_ble_eq_true rfl⟩) m_26_22 m_26_23 rfl rfl hP hD hS hA 0 rfl wfR (Nat.le_of_ble_eq_true rfl) dX6_doubles_2 (fun H locs hP hD hS => ?_)
  refine r_if_eq (tgt := 17) hx hb (by omega) dX6_doubles_5 (by decide) (fun _ => ?_) (fun c => absurd c (by omega))
  refine lv_iconst (v := nI 0) hx hb dX6_doubles_17 (by decide) ?_
  exact eI B hP hS rfl rfl dX6_doubles_18
set_option maxHeartbeats 4000000 in
set_option maxRecDepth 100000 in
theorem c_X6_received_b2 (l : Launch) (D : va_G) (cI cZ : ClassId) (ad : Nat → Nat) (co fa ic me sw cn ab go cp so gr re db : Nat → Int32) (rclk : Int32) (rlim : Int32) (rqd : Nat) (rpk : Nat) (rwas : Int32) (rthr : Int32) (pk : Int32) (hrpk : rpk ≤ 200) (hc0 : ¬ (pk < 0)) (hc1 : (nI rpk) ≤ pk) : MI l yX6_received cX6_received 2 .int { frames := 2, cells := 0, slots := 0, locals := 42 } D (TY cI cZ) [.ref (ad 0), .int pk] (wR cI cZ ad co fa ic me sw cn ab go cp so gr re db rclk rlim (nI rqd) (nI rpk) rwas rthr) (wR cI cZ ad co fa ic me sw cn ab go cp so gr re db rclk rlim (nI rqd) (nI rpk) rwas (nI 1)) (nI 0) := by
  refine MI.mk ⟨rfl, rfl⟩ (by decide +kernel) (Nat.le_of_ble_eq_true rfl) ?_
  intro p e s m below meth c A ls B hA hP hD hS hl
  have hx := B.1
  have hb := B.2.1
  have hts := B.2.2.2.2.2.1
  have hN := B.2.2.2.2.2.2.2.1
  have hK := B.2.2.2.2.2.2.2.2.1
  have hl : lv_has ls 2 [(0, .ref (ad 0)), (1, .int pk)] := hl
  refine lv_aload_n hx hb dX6_received_0 rfl (lv_at hl 0 rfl) ?_
  refine lv_iload_n hx hb dX6_received_1 rfl (lv_at hl 1 rfl) ?_
  refine fV_i (ci := 6) (as := [.int pk]) (rest := []) B hl.1 (c_X6_isPacket_b2 l D cI cZ ad co fa ic me sw cn ab go cp so gr re db rclk rlim rqd rpk rwas rthr pk (by omega) hc0 hc1) rfl (l_RX6_132 hts ⟨rfl, rfl⟩ ⟨Nat.le_of_ble_eq_true rfl, Nat.le_of_ble_eq_true rfl⟩) m_26_22 m_26_23 rfl rfl hP hD hS hA 0 rfl wfR (Nat.le_of_ble_eq_true rfl) dX6_received_2 (fun H locs hP hD hS => ?_)
  refine r_if_eq (tgt := 17) hx hb (by omega) dX6_received_5 (by decide) (fun _ => ?_) (fun c => absurd c (by omega))
  refine lv_iconst (v := nI 0) hx hb dX6_received_17 (by decide) ?_
  exact eI B hP hS rfl rfl dX6_received_18
set_option maxHeartbeats 4000000 in
set_option maxRecDepth 100000 in
theorem c_X6_doubles_b2 (l : Launch) (D : va_G) (cI cZ : ClassId) (ad : Nat → Nat) (co fa ic me sw cn ab go cp so gr re db : Nat → Int32) (rclk : Int32) (rlim : Int32) (rqd : Nat) (rpk : Nat) (rwas : Int32) (rthr : Int32) (pk : Int32) (hrpk : rpk ≤ 200) (hc0 : ¬ (pk < 0)) (hc1 : (nI rpk) ≤ pk) : MI l yX6_doubles cX6_doubles 2 .int { frames := 2, cells := 0, slots := 0, locals := 42 } D (TY cI cZ) [.ref (ad 0), .int pk] (wR cI cZ ad co fa ic me sw cn ab go cp so gr re db rclk rlim (nI rqd) (nI rpk) rwas rthr) (wR cI cZ ad co fa ic me sw cn ab go cp so gr re db rclk rlim (nI rqd) (nI rpk) rwas (nI 1)) (nI 0) := by
  refine MI.mk ⟨rfl, rfl⟩ (by decide +kernel) (Nat.le_of_ble_eq_true rfl) ?_
  intro p e s m below meth c A ls B hA hP hD hS hl
  have hx := B.1
  have hb := B.2.1
  have hts := B.2.2.2.2.2.1
  have hN := B.2.2.2.2.2.2.2.1
  have hK := B.2.2.2.2.2.2.2.2.1
  have hl : lv_has ls 2 [(0, .ref (ad 0)), (1, .int pk)] := hl
  refine lv_aload_n hx hb dX6_doubles_0 rfl (lv_at hl 0 rfl) ?_
  refine lv_iload_n hx hb dX6_doubles_1 rfl (lv_at hl 1 rfl) ?_
  refine fV_i (ci := 6) (as := [.int pk]) (rest := []) B hl.1 (c_X6_isPacket_b2 l D cI cZ ad co fa ic me sw cn ab go cp so gr re db rclk rlim rqd rpk rwas rthr pk (by omega) hc0 hc1) rfl (l_RX6_132 hts ⟨rfl, rfl⟩ ⟨Nat.le_of_ble_eq_true rfl, Nat.le_of_ble_eq_true rfl⟩) m_26_22 m_26_23 rfl rfl hP hD hS hA 0 rfl wfR (Nat.le_of_ble_eq_true rfl) dX6_doubles_2 (fun H locs hP hD hS => ?_)
  refine r_if_eq (tgt := 17) hx hb (by omega) dX6_doubles_5 (by decide) (fun _ => ?_) (fun c => absurd c (by omega))
  refine lv_iconst (v := nI 0) hx hb dX6_doubles_17 (by decide) ?_
  exact eI B hP hS rfl rfl dX6_doubles_18
set_option maxHeartbeats 4000000 in
set_option maxRecDepth 100000 in
theorem c_X6_pass_b1 (l : Launch) (D : va_G) (cI cZ : ClassId) (ad : Nat → Nat) (co fa ic me sw cn ab go cp so gr re db : Nat → Int32) (rclk : Int32) (rlim : Int32) (rqd : Nat) (rpk : Nat) (rwas : Int32) (rthr : Int32) (se : Int32) (hc0 : se < (nI 1)) : MI l yX6_pass cX6_pass 5 .int { frames := 1, cells := 0, slots := 0, locals := 21 } D (TY cI cZ) [.ref (ad 0), .int se] (wR cI cZ ad co fa ic me sw cn ab go cp so gr re db rclk rlim (nI rqd) (nI rpk) rwas rthr) (wR cI cZ ad co fa ic me sw cn ab go cp so gr re db rclk rlim (nI rqd) (nI rpk) rwas (nI 1)) (nI 0) := by
  refine MI.mk ⟨rfl, rfl⟩ (by decide +kernel) (Nat.le_of_ble_eq_true rfl) ?_
  intro p e s m below meth c A ls B hA hP hD hS hl
  have hx := B.1
  have hb := B.2.1
  have hts := B.2.2.2.2.2.1
  have hN := B.2.2.2.2.2.2.2.1
  have hK := B.2.2.2.2.2.2.2.2.1
  have hl : lv_has ls 5 [(0, .ref (ad 0)), (1, .int se)] := hl
  refine lv_aload_n hx hb dX6_pass_0 rfl (lv_at hl 0 rfl) ?_
  refine lv_iload_n hx hb dX6_pass_1 rfl (lv_at hl 1 rfl) ?_
  refine lv_iconst (v := nI 1) hx hb dX6_pass_2 (by decide) ?_
  refine lv_icmp_lt (tgt := 12) hx hb dX6_pass_3 (by decide) (fun _ => ?_) (fun c => absurd hc0 c)
  refine lv_iconst (v := nI 1) hx hb dX6_pass_12 (by decide) ?_
  refine lv_goto (tgt := 17) hx hb dX6_pass_13 (by decide) ?_
  refine fV_i (ci := 6) (as := [.int (nI 1)]) (rest := []) B hl.1 (c_X6_can_1 l D cI cZ ad co fa ic me sw cn ab go cp so gr re db rclk rlim rqd rpk rwas rthr) rfl (l_RX6_90 hts ⟨rfl, rfl⟩ ⟨Nat.le_of_ble_eq_true rfl, Nat.le_of_ble_eq_true rfl⟩) m_9_1 m_9_2 rfl rfl hP hD hS hA 0 rfl wfR (Nat.le_of_ble_eq_true rfl) dX6_pass_17 (fun H locs hP hD hS => ?_)
  refine r_if_ne (tgt := 25) hx hb (by omega) dX6_pass_20 (by decide) (fun c => absurd c (by omega)) (fun _ => ?_)
  refine lv_iconst (v := nI 0) hx hb dX6_pass_23 (by decide) ?_
  exact eI B hP hS rfl rfl dX6_pass_24
set_option maxHeartbeats 4000000 in
set_option maxRecDepth 100000 in
theorem c_X6_pass_b2 (l : Launch) (D : va_G) (cI cZ : ClassId) (ad : Nat → Nat) (co fa ic me sw cn ab go cp so gr re db : Nat → Int32) (rclk : Int32) (rlim : Int32) (rqd : Nat) (rpk : Nat) (rwas : Int32) (rthr : Int32) (se : Int32) (hc0 : ¬ (se < (nI 1))) (hc1 : ¬ (se ≤ (nI 100))) : MI l yX6_pass cX6_pass 5 .int { frames := 1, cells := 0, slots := 0, locals := 21 } D (TY cI cZ) [.ref (ad 0), .int se] (wR cI cZ ad co fa ic me sw cn ab go cp so gr re db rclk rlim (nI rqd) (nI rpk) rwas rthr) (wR cI cZ ad co fa ic me sw cn ab go cp so gr re db rclk rlim (nI rqd) (nI rpk) rwas (nI 1)) (nI 0) := by
  refine MI.mk ⟨rfl, rfl⟩ (by decide +kernel) (Nat.le_of_ble_eq_true rfl) ?_
  intro p e s m below meth c A ls B hA hP hD hS hl
  have hx := B.1
  have hb := B.2.1
  have hts := B.2.2.2.2.2.1
  have hN := B.2.2.2.2.2.2.2.1
  have hK := B.2.2.2.2.2.2.2.2.1
  have hl : lv_has ls 5 [(0, .ref (ad 0)), (1, .int se)] := hl
  refine lv_aload_n hx hb dX6_pass_0 rfl (lv_at hl 0 rfl) ?_
  refine lv_iload_n hx hb dX6_pass_1 rfl (lv_at hl 1 rfl) ?_
  refine lv_iconst (v := nI 1) hx hb dX6_pass_2 (by decide) ?_
  refine lv_icmp_lt (tgt := 12) hx hb dX6_pass_3 (by decide) (fun c => absurd c hc0) (fun _ => ?_)
  refine lv_iload_n hx hb dX6_pass_6 rfl (lv_at hl 1 rfl) ?_
  refine lv_bipush (v := nI 100) hx hb dX6_pass_7 (by decide) ?_
  refine lv_icmp_le (tgt := 16) hx hb dX6_pass_9 (by decide) (fun c => absurd c hc1) (fun _ => ?_)
  refine lv_iconst (v := nI 1) hx hb dX6_pass_12 (by decide) ?_
  refine lv_goto (tgt := 17) hx hb dX6_pass_13 (by decide) ?_
  refine fV_i (ci := 6) (as := [.int (nI 1)]) (rest := []) B hl.1 (c_X6_can_1 l D cI cZ ad co fa ic me sw cn ab go cp so gr re db rclk rlim rqd rpk rwas rthr) rfl (l_RX6_90 hts ⟨rfl, rfl⟩ ⟨Nat.le_of_ble_eq_true rfl, Nat.le_of_ble_eq_true rfl⟩) m_9_1 m_9_2 rfl rfl hP hD hS hA 0 rfl wfR (Nat.le_of_ble_eq_true rfl) dX6_pass_17 (fun H locs hP hD hS => ?_)
  refine r_if_ne (tgt := 25) hx hb (by omega) dX6_pass_20 (by decide) (fun c => absurd c (by omega)) (fun _ => ?_)
  refine lv_iconst (v := nI 0) hx hb dX6_pass_23 (by decide) ?_
  exact eI B hP hS rfl rfl dX6_pass_24
set_option maxHeartbeats 4000000 in
set_option maxRecDepth 100000 in
theorem c_X6_floodCopies_b1 (l : Launch) (D : va_G) (cI cZ : ClassId) (ad : Nat → Nat) (co fa ic me sw cn ab go cp so gr re db : Nat → Int32) (rclk : Int32) (rlim : Int32) (rqd : Nat) (rpk : Nat) (rwas : Int32) (rthr : Int32) (s_ : Int32) (hbad : ¬ (f_X6_isRouter_r s_) = true) : MI l yX6_floodCopies cX6_floodCopies 6 .int { frames := 1, cells := 0, slots := 0, locals := 21 } D (TY cI cZ) [.ref (ad 0), .int s_] (wR cI cZ ad co fa ic me sw cn ab go cp so gr re db rclk rlim (nI rqd) (nI rpk) rwas rthr) (wR cI cZ ad co fa ic me sw cn ab go cp so gr re db rclk rlim (nI rqd) (nI rpk) rwas (nI 1)) (nI 0) := by
  refine MI.mk ⟨rfl, rfl⟩ (by decide +kernel) (Nat.le_of_ble_eq_true rfl) ?_
  intro p e s m below meth c A ls B hA hP hD hS hl
  have hx := B.1
  have hb := B.2.1
  have hts := B.2.2.2.2.2.1
  have hN := B.2.2.2.2.2.2.2.1
  have hK := B.2.2.2.2.2.2.2.2.1
  have hl : lv_has ls 6 [(0, .ref (ad 0)), (1, .int s_)] := hl
  refine lv_aload_n hx hb dX6_floodCopies_0 rfl (lv_at hl 0 rfl) ?_
  refine lv_iload_n hx hb dX6_floodCopies_1 rfl (lv_at hl 1 rfl) ?_
  refine fS_i (as := [.int s_]) (rest := [.ref (ad 0)]) B hl.1 (c_X6_isRouter_r l D cI cZ (wR cI cZ ad co fa ic me sw cn ab go cp so gr re db rclk rlim (nI rqd) (nI rpk) rwas rthr) s_) (l_RX6_86 hts ⟨rfl, rfl⟩ ⟨Nat.le_of_ble_eq_true rfl, Nat.le_of_ble_eq_true rfl⟩) m_8_22 rfl rfl hP hD hS hA rfl (Nat.le_of_ble_eq_true rfl) dX6_floodCopies_2 (fun H locs hP hD hS => ?_)
  refine r_if_eq_b (tgt := 12) hx hb dX6_floodCopies_5 (by decide) (fun _ => ?_) (fun c => absurd c hbad)
  refine lv_iconst (v := nI 1) hx hb dX6_floodCopies_12 (by decide) ?_
  refine fV_i (ci := 6) (as := [.int (nI 1)]) (rest := []) B hl.1 (c_X6_can_1 l D cI cZ ad co fa ic me sw cn ab go cp so gr re db rclk rlim rqd rpk rwas rthr) rfl (l_RX6_90 hts ⟨rfl, rfl⟩ ⟨Nat.le_of_ble_eq_true rfl, Nat.le_of_ble_eq_true rfl⟩) m_9_1 m_9_2 rfl rfl hP hD hS hA 0 rfl wfR (Nat.le_of_ble_eq_true rfl) dX6_floodCopies_13 (fun H locs hP hD hS => ?_)
  refine r_if_ne (tgt := 21) hx hb (by omega) dX6_floodCopies_16 (by decide) (fun c => absurd c (by omega)) (fun _ => ?_)
  refine lv_iconst (v := nI 0) hx hb dX6_floodCopies_19 (by decide) ?_
  exact eI B hP hS rfl rfl dX6_floodCopies_20
