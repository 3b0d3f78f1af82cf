set_option maxHeartbeats 4000000 in
set_option maxRecDepth 100000 in
theorem c_X4_arePair (l : Launch) (D : va_G) (cI cZ : ClassId) (ws : va_W) (r : Nat) (o : Nat) (hr : r < 10) (ho : o < 10) : MI l yX4_arePair cX4_arePair 2 .boolean { frames := 0, cells := 0, slots := 0, locals := 0 } D (TY cI cZ) [.int (nI r), .int (nI o)] (ws) (ws) (nI 1) := by
  refine MI.mk ⟨rfl, rfl⟩ (by decide +kernel) (Nat.le_of_ble_eq_true rfl) ?_
  intro p e s m below meth c A ls B hA hP hD hS hl
  have hx := B.1
  have hb := B.2.1
  have hts := B.2.2.2.2.2.1
  have hN := B.2.2.2.2.2.2.2.1
  have hK := B.2.2.2.2.2.2.2.2.1
  have hl : lv_has ls 2 [(0, .int (nI r)), (1, .int (nI o))] := hl
  refine lv_iload_n hx hb dX4_arePair_0 rfl (lv_at hl 0 rfl) ?_
  refine r_if_lt (tgt := 24) hx hb (by omega) dX4_arePair_1 (by decide) ?_
  refine lv_iload_n hx hb dX4_arePair_4 rfl (lv_at hl 0 rfl) ?_
  refine lv_bipush (v := nI 10) hx hb dX4_arePair_5 (by decide) ?_
  refine r_icmp_ge (tgt := 24) hx hb (by omega) (by omega) dX4_arePair_7 (by decide) (fun c => absurd c (by omega)) (fun _ => ?_)
  refine lv_iload_n hx hb dX4_arePair_10 rfl (lv_at hl 1 rfl) ?_
  refine r_if_lt (tgt := 24) hx hb (by omega) dX4_arePair_11 (by decide) ?_
  refine lv_iload_n hx hb dX4_arePair_14 rfl (lv_at hl 1 rfl) ?_
  refine lv_bipush (v := nI 10) hx hb dX4_arePair_15 (by decide) ?_
  refine r_icmp_ge (tgt := 24) hx hb (by omega) (by omega) dX4_arePair_17 (by decide) (fun c => absurd c (by omega)) (fun _ => ?_)
  refine lv_iconst (v := nI 1) hx hb dX4_arePair_20 (by decide) ?_
  refine lv_goto (tgt := 25) hx hb dX4_arePair_21 (by decide) ?_
  exact eZ B hP hS (by decide) rfl rfl dX4_arePair_25
def f_X4_arePair_r (o : Int32) : Bool :=
  if o < 0 then false else if (nI 10) ≤ o then false else true
set_option maxHeartbeats 4000000 in
set_option maxRecDepth 100000 in
theorem c_X4_arePair_r (l : Launch) (D : va_G) (cI cZ : ClassId) (ws : va_W) (r : Nat) (o : Int32) (hr : r < 10) : MI l yX4_arePair cX4_arePair 2 .boolean { frames := 0, cells := 0, slots := 0, locals := 0 } D (TY cI cZ) [.int (nI r), .int o] (ws) (ws) (bI (f_X4_arePair_r o)) := by
  refine MI.mk ⟨rfl, rfl⟩ (by decide +kernel) (Nat.le_of_ble_eq_true rfl) ?_
  intro p e s m below meth c A ls B hA hP hD hS hl
  have hx := B.1
  have hb := B.2.1
  have hts := B.2.2.2.2.2.1
  have hN := B.2.2.2.2.2.2.2.1
  have hK := B.2.2.2.2.2.2.2.2.1
  have hl : lv_has ls 2 [(0, .int (nI r)), (1, .int o)] := hl
  have hf := f_X4_arePair_r.eq_1 o
  refine lv_iload_n hx hb dX4_arePair_0 rfl (lv_at hl 0 rfl) ?_
  refine r_if_lt (tgt := 24) hx hb (by omega) dX4_arePair_1 (by decide) ?_
  refine lv_iload_n hx hb dX4_arePair_4 rfl (lv_at hl 0 rfl) ?_
  refine lv_bipush (v := nI 10) hx hb dX4_arePair_5 (by decide) ?_
  refine r_icmp_ge (tgt := 24) hx hb (by omega) (by omega) dX4_arePair_7 (by decide) (fun c => absurd c (by omega)) (fun _ => ?_)
  refine lv_iload_n hx hb dX4_arePair_10 rfl (lv_at hl 1 rfl) ?_
  refine lv_if_lt (tgt := 24) hx hb dX4_arePair_11 (by decide) (fun c1 => ?_) (fun c1 => ?_)
  · have hf := hf.trans (if_pos c1)
    refine lv_iconst (v := nI 0) hx hb dX4_arePair_24 (by decide) ?_
    exact eZ B hP hS (by decide) ((congrArg (fun (u : Bool) => bI u) hf).symm) rfl dX4_arePair_25
  · have hf := hf.trans (if_neg c1)
    refine lv_iload_n hx hb dX4_arePair_14 rfl (lv_at hl 1 rfl) ?_
    refine lv_bipush (v := nI 10) hx hb dX4_arePair_15 (by decide) ?_
    refine lv_icmp_ge (tgt := 24) hx hb dX4_arePair_17 (by decide) (fun c2 => ?_) (fun c2 => ?_)
    · have hf := hf.trans (if_pos c2)
      refine lv_iconst (v := nI 0) hx hb dX4_arePair_24 (by decide) ?_
      exact eZ B hP hS (by decide) ((congrArg (fun (u : Bool) => bI u) hf).symm) rfl dX4_arePair_25
    · have hf := hf.trans (if_neg c2)
      refine lv_iconst (v := nI 1) hx hb dX4_arePair_20 (by decide) ?_
      refine lv_goto (tgt := 25) hx hb dX4_arePair_21 (by decide) ?_
      exact eZ B hP hS (by decide) ((congrArg (fun (u : Bool) => bI u) hf).symm) rfl dX4_arePair_25
theorem arePair_r {r : Nat} {o : Int32} (hr : r < 10) (h : f_X4_arePair_r o = true) : vp_in (nI (r * 10) + o) 100 := by
  unfold f_X4_arePair_r at h
  by_cases h1 : o < 0
  · rw [if_pos h1] at h; cases h
  · rw [if_neg h1] at h
    by_cases h2 : nI 10 ≤ o
    · rw [if_pos h2] at h; cases h
    · obtain ⟨h3, h4⟩ := nat_of (by decide) h1 h2
      rw [h3, nI_add]
      exact vp_in_nI (by omega) (by decide)
set_option maxHeartbeats 4000000 in
set_option maxRecDepth 100000 in
theorem c_X4_costOf (l : Launch) (D : va_G) (cI cZ : ClassId) (ad : Nat → Nat) (rc rl rh fr fw fc fg ps pg pr pd qp qt qf qo ct lE lC : Nat → Int32) (cand : Int32) (lim : Int32) (now : Int32) (was : Int32) (sent : Nat) (qfi : Nat) (qsz : Nat) (r : Nat) (o : Nat) (hr : r < 10) (ho : o < 10) : MI l yX4_costOf cX4_costOf 3 .int { frames := 1, cells := 0, slots := 0, locals := 21 } D (TY cI cZ) [.ref (ad 1), .int (nI r), .int (nI o)] (wC cI ad rc rl rh fr fw fc fg ps pg pr pd qp qt qf qo ct lE lC cand lim now was (nI sent) (nI qfi) (nI qsz)) (wC cI ad rc rl rh fr fw fc fg ps pg pr pd qp qt qf qo ct lE lC cand lim now was (nI sent) (nI qfi) (nI qsz)) (rc ((r * 10) + o)) := by
  refine MI.mk ⟨rfl, rfl⟩ (by decide +kernel) (Nat.le_of_ble_eq_true rfl) ?_
  intro p e s m below meth c A ls B hA hP hD hS hl
  have hx := B.1
  have hb := B.2.1
  have hts := B.2.2.2.2.2.1
  have hN := B.2.2.2.2.2.2.2.1
  have hK := B.2.2.2.2.2.2.2.2.1
  have hl : lv_has ls 3 [(0, .ref (ad 1)), (1, .int (nI r)), (2, .int (nI o))] := hl
  refine lv_iload_n hx hb dX4_costOf_0 rfl (lv_at hl 1 rfl) ?_
  refine lv_iload_n hx hb dX4_costOf_1 rfl (lv_at hl 2 rfl) ?_
  refine fS_i (as := [.int (nI r), .int (nI o)]) (rest := []) B hl.1 (c_X4_arePair l D cI cZ (wC cI ad rc rl rh fr fw fc fg ps pg pr pd qp qt qf qo ct lE lC cand lim now was (nI sent) (nI qfi) (nI qsz)) r o (by omega) (by omega)) (l_RX4_27 hts ⟨rfl, rfl⟩ ⟨Nat.le_of_ble_eq_true rfl, Nat.le_of_ble_eq_true rfl⟩) m_3_17 rfl rfl hP hD hS hA rfl (Nat.le_of_ble_eq_true rfl) dX4_costOf_2 (fun H locs hP hD hS => ?_)
  refine r_if_eq (tgt := 22) hx hb (by omega) dX4_costOf_5 (by decide) (fun c => absurd c (by omega)) (fun _ => ?_)
  refine lv_aload_n hx hb dX4_costOf_8 rfl (lv_at hl 0 rfl) ?_
  refine g_X4_9 B hP 1 rfl rfl dX4_costOf_9 ?_
  refine lv_iload_n hx hb dX4_costOf_12 rfl (lv_at hl 1 rfl) ?_
  refine lv_bipush (v := nI 10) hx hb dX4_costOf_13 (by decide) ?_
  refine r_imul hx hb dX4_costOf_15 ?_
  refine lv_iload_n hx hb dX4_costOf_16 rfl (lv_at hl 2 rfl) ?_
  refine r_iadd hx hb dX4_costOf_17 ?_
  refine r_iald hx hb hK hP 2 0 rfl rfl (by omega) (by decide) dX4_costOf_18 ?_
  refine lv_goto (tgt := 23) hx hb dX4_costOf_19 (by decide) ?_
  exact eI B hP hS rfl rfl dX4_costOf_23
def f_X4_distanceOf (r : Nat) (o : Nat) (rl : Nat → Int32) : Int32 :=
  if (nI 1000000) ≤ (rl ((r * 10) + o)) then -1 else rl ((r * 10) + o)
set_option maxHeartbeats 4000000 in
set_option maxRecDepth 100000 in
theorem c_X4_distanceOf (l : Launch) (D : va_G) (cI cZ : ClassId) (ad : Nat → Nat) (rc rl rh fr fw fc fg ps pg pr pd qp qt qf qo ct lE lC : Nat → Int32) (cand : Int32) (lim : Int32) (now : Int32) (was : Int32) (sent : Nat) (qfi : Nat) (qsz : Nat) (r : Nat) (o : Nat) (hr : r < 10) (ho : o < 10) : MI l yX4_distanceOf cX4_distanceOf 4 .int { frames := 1, cells := 0, slots := 0, locals := 21 } D (TY cI cZ) [.ref (ad 1), .int (nI r), .int (nI o)] (wC cI ad rc rl rh fr fw fc fg ps pg pr pd qp qt qf qo ct lE lC cand lim now was (nI sent) (nI qfi) (nI qsz)) (wC cI ad rc rl rh fr fw fc fg ps pg pr pd qp qt qf qo ct lE lC cand lim now was (nI sent) (nI qfi) (nI qsz)) (f_X4_distanceOf r o rl) := by
  refine MI.mk ⟨rfl, rfl⟩ (by decide +kernel) (Nat.le_of_ble_eq_true rfl) ?_
  intro p e s m below meth c A ls B hA hP hD hS hl
  have hx := B.1
  have hb := B.2.1
  have hts := B.2.2.2.2.2.1
  have hN := B.2.2.2.2.2.2.2.1
  have hK := B.2.2.2.2.2.2.2.2.1
  have hl : lv_has ls 4 [(0, .ref (ad 1)), (1, .int (nI r)), (2, .int (nI o))] := hl
  have hf := f_X4_distanceOf.eq_1 r o rl
  refine lv_iload_n hx hb dX4_distanceOf_0 rfl (lv_at hl 1 rfl) ?_
  refine lv_iload_n hx hb dX4_distanceOf_1 rfl (lv_at hl 2 rfl) ?_
  refine fS_i (as := [.int (nI r), .int (nI o)]) (rest := []) B hl.1 (c_X4_arePair l D cI cZ (wC cI ad rc rl rh fr fw fc fg ps pg pr pd qp qt qf qo ct lE lC cand lim now was (nI sent) (nI qfi) (nI qsz)) r o (by omega) (by omega)) (l_RX4_27 hts ⟨rfl, rfl⟩ ⟨Nat.le_of_ble_eq_true rfl, Nat.le_of_ble_eq_true rfl⟩) m_3_17 rfl rfl hP hD hS hA rfl (Nat.le_of_ble_eq_true rfl) dX4_distanceOf_2 (fun H locs hP hD hS => ?_)
  refine r_if_ne (tgt := 10) hx hb (by omega) dX4_distanceOf_5 (by decide) (fun _ => ?_) (fun c => absurd c (by omega))
  refine lv_aload_n hx hb dX4_distanceOf_10 rfl (lv_at hl 0 rfl) ?_
  refine g_X4_15 B hP 1 rfl rfl dX4_distanceOf_11 ?_
  refine lv_iload_n hx hb dX4_distanceOf_14 rfl (lv_at hl 1 rfl) ?_
  refine lv_bipush (v := nI 10) hx hb dX4_distanceOf_15 (by decide) ?_
  refine r_imul hx hb dX4_distanceOf_17 ?_
  refine lv_iload_n hx hb dX4_distanceOf_18 rfl (lv_at hl 2 rfl) ?_
  refine r_iadd hx hb dX4_distanceOf_19 ?_
  refine r_iald hx hb hK hP 3 0 rfl rfl (by omega) (by decide) dX4_distanceOf_20 ?_
  refine lv_istore_n (lv' := [(3, .int (rl ((r * 10) + o))), (0, .ref (ad 1)), (1, .int (nI r)), (2, .int (nI o))]) hx hb dX4_distanceOf_21 rfl hl (by decide) rfl (fun ls hl => ?_)
  refine lv_iload_n hx hb dX4_distanceOf_22 rfl (lv_at hl 0 rfl) ?_
  refine lv_ldc (v := nI 1000000) hx hb B.2.2.2.2.1 (hts _ m_2_23) dX4_distanceOf_23 ?_
  refine lv_icmp_ge (tgt := 32) hx hb dX4_distanceOf_25 (by decide) (fun c1 => ?_) (fun c1 => ?_)
  · have hf := hf.trans (if_pos c1)
    refine lv_iconst (v := -1) hx hb dX4_distanceOf_32 (by decide) ?_
    exact eI B hP hS ((congrArg (fun (u : Int32) => u) hf).symm) rfl dX4_distanceOf_33
  · have hf := hf.trans (if_neg c1)
    refine lv_iload_n hx hb dX4_distanceOf_28 rfl (lv_at hl 0 rfl) ?_
    refine lv_goto (tgt := 33) hx hb dX4_distanceOf_29 (by decide) ?_
    exact eI B hP hS ((congrArg (fun (u : Int32) => u) hf).symm) rfl dX4_distanceOf_33
def f_X4_distanceOf_r (r : Nat) (o : Int32) (rl : Nat → Int32) : Int32 :=
  if (f_X4_arePair_r o) = true then (if (nI 1000000) ≤ (rl ((nI (r * 10)) + o).toNatClampNeg) then -1 else rl ((nI (r * 10)) + o).toNatClampNeg) else -1
set_option maxHeartbeats 4000000 in
set_option maxRecDepth 100000 in
theorem c_X4_distanceOf_r (l : Launch) (D : va_G) (cI cZ : ClassId) (ad : Nat → Nat) (rc rl rh fr fw fc fg ps pg pr pd qp qt qf qo ct lE lC : Nat → Int32) (cand : Int32) (lim : Int32) (now : Int32) (was : Int32) (sent : Nat) (qfi : Nat) (qsz : Nat) (r : Nat) (o : Int32) (hr : r < 10) : MI l yX4_distanceOf cX4_distanceOf 4 .int { frames := 1, cells := 0, slots := 0, locals := 21 } D (TY cI cZ) [.ref (ad 1), .int (nI r), .int o] (wC cI ad rc rl rh fr fw fc fg ps pg pr pd qp qt qf qo ct lE lC cand lim now was (nI sent) (nI qfi) (nI qsz)) (wC cI ad rc rl rh fr fw fc fg ps pg pr pd qp qt qf qo ct lE lC cand lim now was (nI sent) (nI qfi) (nI qsz)) (f_X4_distanceOf_r r o rl) := by
  refine MI.mk ⟨rfl, rfl⟩ (by decide +kernel) (Nat.le_of_ble_eq_true rfl) ?_
  intro p e s m below meth c A ls B hA hP hD hS hl
  have hx := B.1
  have hb := B.2.1
  have hts := B.2.2.2.2.2.1
  have hN := B.2.2.2.2.2.2.2.1
  have hK := B.2.2.2.2.2.2.2.2.1
  have hl : lv_has ls 4 [(0, .ref (ad 1)), (1, .int (nI r)), (2, .int o)] := hl
  have hf := f_X4_distanceOf_r.eq_1 r o rl
  refine lv_iload_n hx hb dX4_distanceOf_0 rfl (lv_at hl 1 rfl) ?_
  refine lv_iload_n hx hb dX4_distanceOf_1 rfl (lv_at hl 2 rfl) ?_
  refine fS_i (as := [.int (nI r), .int o]) (rest := []) B hl.1 (c_X4_arePair_r l D cI cZ (wC cI ad rc rl rh fr fw fc fg ps pg pr pd qp qt qf qo ct lE lC cand lim now was (nI sent) (nI qfi) (nI qsz)) r o (by omega)) (l_RX4_27 hts ⟨rfl, rfl⟩ ⟨Nat.le_of_ble_eq_true rfl, Nat.le_of_ble_eq_true rfl⟩) m_3_17 rfl rfl hP hD hS hA rfl (Nat.le_of_ble_eq_true rfl) dX4_distanceOf_2 (fun H locs hP hD hS => ?_)
  refine r_if_ne_b (tgt := 10) hx hb dX4_distanceOf_5 (by decide) (fun c1 => ?_) (fun c1 => ?_)
  · have hf := hf.trans (if_pos c1)
    refine lv_aload_n hx hb dX4_distanceOf_10 rfl (lv_at hl 0 rfl) ?_
    refine g_X4_15 B hP 1 rfl rfl dX4_distanceOf_11 ?_
    refine lv_iload_n hx hb dX4_distanceOf_14 rfl (lv_at hl 1 rfl) ?_
    refine lv_bipush (v := nI 10) hx hb dX4_distanceOf_15 (by decide) ?_
    refine r_imul hx hb dX4_distanceOf_17 ?_
    refine lv_iload_n hx hb dX4_distanceOf_18 rfl (lv_at hl 2 rfl) ?_
    refine lv_iadd hx hb dX4_distanceOf_19 ?_
    refine va_iald hx hb hK hP 3 0 rfl rfl (arePair_r (by omega) c1) dX4_distanceOf_20 ?_
    refine lv_istore_n (lv' := [(3, .int (rl ((nI (r * 10)) + o).toNatClampNeg)), (0, .ref (ad 1)), (1, .int (nI r)), (2, .int o)]) hx hb dX4_distanceOf_21 rfl hl (by decide) rfl (fun ls hl => ?_)
    refine lv_iload_n hx hb dX4_distanceOf_22 rfl (lv_at hl 0 rfl) ?_
    refine lv_ldc (v := nI 1000000) hx hb B.2.2.2.2.1 (hts _ m_2_23) dX4_distanceOf_23 ?_
    refine lv_icmp_ge (tgt := 32) hx hb dX4_distanceOf_25 (by decide) (fun c2 => ?_) (fun c2 => ?_)
    · have hf := hf.trans (if_pos c2)
      refine lv_iconst (v := -1) hx hb dX4_distanceOf_32 (by decide) ?_
      exact eI B hP hS ((congrArg (fun (u : Int32) => u) hf).symm) rfl dX4_distanceOf_33
    · have hf := hf.trans (if_neg c2)
      refine lv_iload_n hx hb dX4_distanceOf_28 rfl (lv_at hl 0 rfl) ?_
      refine lv_goto (tgt := 33) hx hb dX4_distanceOf_29 (by decide) ?_
      exact eI B hP hS ((congrArg (fun (u : Int32) => u) hf).symm) rfl dX4_distanceOf_33
  · have hf := hf.trans (if_neg c1)
    refine lv_iconst (v := -1) hx hb dX4_distanceOf_8 (by decide) ?_
    exact eI B hP hS ((congrArg (fun (u : Int32) => u) hf).symm) rfl dX4_distanceOf_9
set_option maxHeartbeats 4000000 in
set_option maxRecDepth 100000 in
theorem c_X4_hopOf (l : Launch) (D : va_G) (cI cZ : ClassId) (ad : Nat → Nat) (rc rl rh fr fw fc fg ps pg pr pd qp qt qf qo ct lE lC : Nat → Int32) (cand : Int32) (lim : Int32) (now : Int32) (was : Int32) (sent : Nat) (qfi : Nat) (qsz : Nat) (r : Nat) (o : Nat) (hr : r < 10) (ho : o < 10) : MI l yX4_hopOf cX4_hopOf 3 .int { frames := 1, cells := 0, slots := 0, locals := 21 } D (TY cI cZ) [.ref (ad 1), .int (nI r), .int (nI o)] (wC cI ad rc rl rh fr fw fc fg ps pg pr pd qp qt qf qo ct lE lC cand lim now was (nI sent) (nI qfi) (nI qsz)) (wC cI ad rc rl rh fr fw fc fg ps pg pr pd qp qt qf qo ct lE lC cand lim now was (nI sent) (nI qfi) (nI qsz)) (rh ((r * 10) + o)) := by
  refine MI.mk ⟨rfl, rfl⟩ (by decide +kernel) (Nat.le_of_ble_eq_true rfl) ?_
  intro p e s m below meth c A ls B hA hP hD hS hl
  have hx := B.1
  have hb := B.2.1
  have hts := B.2.2.2.2.2.1
  have hN := B.2.2.2.2.2.2.2.1
  have hK := B.2.2.2.2.2.2.2.2.1
  have hl : lv_has ls 3 [(0, .ref (ad 1)), (1, .int (nI r)), (2, .int (nI o))] := hl
  refine lv_iload_n hx hb dX4_hopOf_0 rfl (lv_at hl 1 rfl) ?_
  refine lv_iload_n hx hb dX4_hopOf_1 rfl (lv_at hl 2 rfl) ?_
  refine fS_i (as := [.int (nI r), .int (nI o)]) (rest := []) B hl.1 (c_X4_arePair l D cI cZ (wC cI ad rc rl rh fr fw fc fg ps pg pr pd qp qt qf qo ct lE lC cand lim now was (nI sent) (nI qfi) (nI qsz)) r o (by omega) (by omega)) (l_RX4_27 hts ⟨rfl, rfl⟩ ⟨Nat.le_of_ble_eq_true rfl, Nat.le_of_ble_eq_true rfl⟩) m_3_17 rfl rfl hP hD hS hA rfl (Nat.le_of_ble_eq_true rfl) dX4_hopOf_2 (fun H locs hP hD hS => ?_)
  refine r_if_eq (tgt := 22) hx hb (by omega) dX4_hopOf_5 (by decide) (fun c => absurd c (by omega)) (fun _ => ?_)
  refine lv_aload_n hx hb dX4_hopOf_8 rfl (lv_at hl 0 rfl) ?_
  refine g_X4_18 B hP 1 rfl rfl dX4_hopOf_9 ?_
  refine lv_iload_n hx hb dX4_hopOf_12 rfl (lv_at hl 1 rfl) ?_
  refine lv_bipush (v := nI 10) hx hb dX4_hopOf_13 (by decide) ?_
  refine r_imul hx hb dX4_hopOf_15 ?_
  refine lv_iload_n hx hb dX4_hopOf_16 rfl (lv_at hl 2 rfl) ?_
  refine r_iadd hx hb dX4_hopOf_17 ?_
  refine r_iald hx hb hK hP 4 0 rfl rfl (by omega) (by decide) dX4_hopOf_18 ?_
  refine lv_goto (tgt := 23) hx hb dX4_hopOf_19 (by decide) ?_
  exact eI B hP hS rfl rfl dX4_hopOf_23
def f_X4_hopOf_r (r : Nat) (o : Int32) (rh : Nat → Int32) : Int32 :=
  if (f_X4_arePair_r o) = true then rh ((nI (r * 10)) + o).toNatClampNeg else -1
set_option maxHeartbeats 4000000 in
set_option maxRecDepth 100000 in
theorem c_X4_hopOf_r (l : Launch) (D : va_G) (cI cZ : ClassId) (ad : Nat → Nat) (rc rl rh fr fw fc fg ps pg pr pd qp qt qf qo ct lE lC : Nat → Int32) (cand : Int32) (lim : Int32) (now : Int32) (was : Int32) (sent : Nat) (qfi : Nat) (qsz : Nat) (r : Nat) (o : Int32) (hr : r < 10) : MI l yX4_hopOf cX4_hopOf 3 .int { frames := 1, cells := 0, slots := 0, locals := 21 } D (TY cI cZ) [.ref (ad 1), .int (nI r), .int o] (wC cI ad rc rl rh fr fw fc fg ps pg pr pd qp qt qf qo ct lE lC cand lim now was (nI sent) (nI qfi) (nI qsz)) (wC cI ad rc rl rh fr fw fc fg ps pg pr pd qp qt qf qo ct lE lC cand lim now was (nI sent) (nI qfi) (nI qsz)) (f_X4_hopOf_r r o rh) := by
  refine MI.mk ⟨rfl, rfl⟩ (by decide +kernel) (Nat.le_of_ble_eq_true rfl) ?_
  intro p e s m below meth c A ls B hA hP hD hS hl
  have hx := B.1
  have hb := B.2.1
  have hts := B.2.2.2.2.2.1
  have hN := B.2.2.2.2.2.2.2.1
  have hK := B.2.2.2.2.2.2.2.2.1
  have hl : lv_has ls 3 [(0, .ref (ad 1)), (1, .int (nI r)), (2, .int o)] := hl
  have hf := f_X4_hopOf_r.eq_1 r o rh
  refine lv_iload_n hx hb dX4_hopOf_0 rfl (lv_at hl 1 rfl) ?_
  refine lv_iload_n hx hb dX4_hopOf_1 rfl (lv_at hl 2 rfl) ?_
  refine fS_i (as := [.int (nI r), .int o]) (rest := []) B hl.1 (c_X4_arePair_r l D cI cZ (wC cI ad rc rl rh fr fw fc fg ps pg pr pd qp qt qf qo ct lE lC cand lim now was (nI sent) (nI qfi) (nI qsz)) r o (by omega)) (l_RX4_27 hts ⟨rfl, rfl⟩ ⟨Nat.le_of_ble_eq_true rfl, Nat.le_of_ble_eq_true rfl⟩) m_3_17 rfl rfl hP hD hS hA rfl (Nat.le_of_ble_eq_true rfl) dX4_hopOf_2 (fun H locs hP hD hS => ?_)
  refine r_if_eq_b (tgt := 22) hx hb dX4_hopOf_5 (by decide) (fun c1 => ?_) (fun c1 => ?_)
  · have hf := hf.trans (if_neg c1)
    refine lv_iconst (v := -1) hx hb dX4_hopOf_22 (by decide) ?_
    exact eI B hP hS ((congrArg (fun (u : Int32) => u) hf).symm) rfl dX4_hopOf_23
  · have hf := hf.trans (if_pos c1)
    refine lv_aload_n hx hb dX4_hopOf_8 rfl (lv_at hl 0 rfl) ?_
    refine g_X4_18 B hP 1 rfl rfl dX4_hopOf_9 ?_
    refine lv_iload_n hx hb dX4_hopOf_12 rfl (lv_at hl 1 rfl) ?_
    refine lv_bipush (v := nI 10) hx hb dX4_hopOf_13 (by decide) ?_
    refine r_imul hx hb dX4_hopOf_15 ?_
    refine lv_iload_n hx hb dX4_hopOf_16 rfl (lv_at hl 2 rfl) ?_
    refine lv_iadd hx hb dX4_hopOf_17 ?_
    refine va_iald hx hb hK hP 4 0 rfl rfl (arePair_r (by omega) c1) dX4_hopOf_18 ?_
    refine lv_goto (tgt := 23) hx hb dX4_hopOf_19 (by decide) ?_
    exact eI B hP hS ((congrArg (fun (u : Int32) => u) hf).symm) rfl dX4_hopOf_23
def f_X4_linksOf_L4 (r : Nat) (rc : Nat → Int32) : Nat → Nat → Int32 → Int32
  | 0, _, x2_4 => x2_4
  | n4 + 1, k4, x2_4 => if (rc ((r * 10) + k4)) = 0 then f_X4_linksOf_L4 r rc n4 (k4 + 1) x2_4 else f_X4_linksOf_L4 r rc n4 (k4 + 1) (x2_4 + nI 1)
def f_X4_linksOf (r : Nat) (rc : Nat → Int32) : Int32 :=
  f_X4_linksOf_L4 r rc 10 0 (nI 0)
set_option maxHeartbeats 4000000 in
set_option maxRecDepth 100000 in
theorem c_X4_linksOf (l : Launch) (D : va_G) (cI cZ : ClassId) (ad : Nat → Nat) (rc rl rh fr fw fc fg ps pg pr pd qp qt qf qo ct lE lC : Nat → Int32) (cand : Int32) (lim : Int32) (now : Int32) (was : Int32) (sent : Nat) (qfi : Nat) (qsz : Nat) (r : Nat) (hr : r < 10) : MI l yX4_linksOf cX4_linksOf 4 .int { frames := 2, cells := 0, slots := 0, locals := 43 } D (TY cI cZ) [.ref (ad 1), .int (nI r)] (wC cI ad rc rl rh fr fw fc fg ps pg pr pd qp qt qf qo ct lE lC cand lim now was (nI sent) (nI qfi) (nI qsz)) (wC cI ad rc rl rh fr fw fc fg ps pg pr pd qp qt qf qo ct lE lC cand lim now was (nI sent) (nI qfi) (nI qsz)) (f_X4_linksOf r rc) := by
  refine MI.mk ⟨rfl, rfl⟩ (by decide +kernel) (Nat.le_of_ble_eq_true rfl) ?_
  intro p e s m below meth c A ls B hA hP hD hS hl
  have hx := B.1
  have hb := B.2.1
  have hts := B.2.2.2.2.2.1
  have hN := B.2.2.2.2.2.2.2.1
  have hK := B.2.2.2.2.2.2.2.2.1
  have hl : lv_has ls 4 [(0, .ref (ad 1)), (1, .int (nI r))] := hl
  have hf := f_X4_linksOf.eq_1 r rc
  refine lv_iconst (v := nI 0) hx hb dX4_linksOf_0 (by decide) ?_
  refine lv_istore_n (lv' := [(2, .int (nI 0)), (0, .ref (ad 1)), (1, .int (nI r))]) hx hb dX4_linksOf_1 rfl hl (by decide) rfl (fun ls hl => ?_)
  refine lv_iconst (v := nI 0) hx hb dX4_linksOf_2 (by decide) ?_
  refine lv_istore_n (lv' := [(3, .int (nI 0)), (2, .int (nI 0)), (0, .ref (ad 1)), (1, .int (nI r))]) hx hb dX4_linksOf_3 rfl hl (by decide) rfl (fun ls hl => ?_)
  have L4 : ∀ (n4 : Nat) (k4 : Nat) (x2_4 : Int32), k4 + n4 = 10 → f_X4_linksOf r rc = (f_X4_linksOf_L4 r rc n4 k4 x2_4) → ∀ (H : Heap) (locs : List Loc), va_P D vwCl (wC cI ad rc rl rh fr fw fc fg ps pg pr pd qp qt qf qo ct lE lC cand lim now was (nI sent) (nI qfi) (nI qsz)) H → va_D A (wC cI ad rc rl rh fr fw fc fg ps pg pr pd qp qt qf qo ct lE lC cand lim now was (nI sent) (nI qfi) (nI qsz)) → va_S A s.heap H locs → ∀ ls : Array Slot, lv_has ls 4 [(0, .ref (ad 1)), (1, .int (nI r)), (2, .int x2_4), (3, .int (nI k4))] → W p l e { frames := 2, cells := 0, slots := 0, locals := 43 } s m [.ref (ad 1), .int (nI r)].toArray below meth c H locs 0 0 (QI below s A D [.ref (ad 1), .int (nI r)] (wC cI ad rc rl rh fr fw fc fg ps pg pr pd qp qt qf qo ct lE lC cand lim now was (nI sent) (nI qfi) (nI qsz)) (f_X4_linksOf r rc)) (F0 m 4 ls []) := by
    intro n4
    induction n4 with
    | zero =>
      intro k4 x2_4 hk4 hf H locs hP hD hS ls hl
      obtain rfl : 10 = k4 := by omega
      rw [f_X4_linksOf_L4] at hf
      have hl : lv_has ls 4 [(0, .ref (ad 1)), (1, .int (nI r)), (2, .int x2_4), (3, .int (nI 10))] := hl
      refine lv_iload_n hx hb dX4_linksOf_4 rfl (lv_at hl 3 rfl) ?_
      refine lv_bipush (v := nI 10) hx hb dX4_linksOf_5 (by decide) ?_
      refine r_icmp_ge (tgt := 28) hx hb (by omega) (by omega) dX4_linksOf_7 (by decide) (fun _ => ?_) (fun c => absurd c (by omega))
      refine lv_iload_n hx hb dX4_linksOf_28 rfl (lv_at hl 2 rfl) ?_
      exact eI B hP hS ((congrArg (fun (u : Int32) => u) hf).symm) rfl dX4_linksOf_29
    | succ n4 ih4 =>
      intro k4 x2_4 hk4 hf H locs hP hD hS ls hl
      rw [f_X4_linksOf_L4] at hf
      have hl : lv_has ls 4 [(0, .ref (ad 1)), (1, .int (nI r)), (2, .int x2_4), (3, .int (nI k4))] := hl
      refine lv_iload_n hx hb dX4_linksOf_4 rfl (lv_at hl 3 rfl) ?_
      refine lv_bipush (v := nI 10) hx hb dX4_linksOf_5 (by decide) ?_
      refine r_icmp_ge (tgt := 28) hx hb (by omega) (by omega) dX4_linksOf_7 (by decide) (fun c => absurd c (by omega)) (fun _ => ?_)
      refine lv_aload_n hx hb dX4_linksOf_10 rfl (lv_at hl 0 rfl) ?_
      refine lv_iload_n hx hb dX4_linksOf_11 rfl (lv_at hl 1 rfl) ?_
      refine lv_iload_n hx hb dX4_linksOf_12 rfl (lv_at hl 3 rfl) ?_
      refine fV_i (ci := 4) (as := [.int (nI r), .int (nI k4)]) (rest := []) B hl.1 (c_X4_costOf l D cI cZ ad rc rl rh fr fw fc fg ps pg pr pd qp qt qf qo ct lE lC cand lim now was sent qfi qsz r k4 (by omega) (by omega)) rfl (l_RX4_32 hts ⟨rfl, rfl⟩ ⟨Nat.le_of_ble_eq_true rfl, Nat.le_of_ble_eq_true rfl⟩) m_3_20 m_3_21 rfl rfl hP hD hS hA 1 rfl wfC (Nat.le_of_ble_eq_true rfl) dX4_linksOf_13 (fun H locs hP hD hS => ?_)
      refine lv_if_eq (tgt := 22) hx hb dX4_linksOf_16 (by decide) (fun c4 => ?_) (fun c4 => ?_)
      · have hf := hf.trans (if_pos c4)
        refine lv_iinc (v := nI (k4 + 1)) (lv' := [(3, .int (nI (k4 + 1))), (0, .ref (ad 1)), (1, .int (nI r)), (2, .int x2_4)]) hx hb dX4_linksOf_22 hl (k := 3) rfl (nI_add _ _) (by decide) rfl (fun ls hl => ?_)
        refine lv_goto (tgt := 4) hx hb dX4_linksOf_25 (by decide) ?_
        exact ih4 (k4 + 1) x2_4 (by omega) hf _ _ hP hD hS _ (lv_sub hl [1, 2, 3, 0] rfl)
      · have hf := hf.trans (if_neg c4)
        refine lv_iinc (v := x2_4 + nI 1) (lv' := [(2, .int (x2_4 + nI 1)), (0, .ref (ad 1)), (1, .int (nI r)), (3, .int (nI k4))]) hx hb dX4_linksOf_19 hl (k := 2) rfl rfl (by decide) rfl (fun ls hl => ?_)
        refine lv_iinc (v := nI (k4 + 1)) (lv' := [(3, .int (nI (k4 + 1))), (2, .int (x2_4 + nI 1)), (0, .ref (ad 1)), (1, .int (nI r))]) hx hb dX4_linksOf_22 hl (k := 3) rfl (nI_add _ _) (by decide) rfl (fun ls hl => ?_)
        refine lv_goto (tgt := 4) hx hb dX4_linksOf_25 (by decide) ?_
        exact ih4 (k4 + 1) (x2_4 + nI 1) (by omega) hf _ _ hP hD hS _ (lv_sub hl [2, 3, 1, 0] rfl)
  exact L4 10 0 (nI 0) (by omega) hf _ _ hP hD hS _ (lv_sub hl [2, 3, 1, 0] rfl)
def f_X4_shortenThrough_L10 (mi : Nat) (k2 : Nat) : Nat → Nat → (Nat → Int32) → (Nat → Int32)
  | 0, _, rl_10 => rl_10
  | n10 + 1, k10, rl_10 => if (rl_10 ((k2 * 10) + k10)) ≤ ((rl_10 ((k2 * 10) + mi)) + (rl_10 ((mi * 10) + k10))) then f_X4_shortenThrough_L10 mi k2 n10 (k10 + 1) rl_10 else f_X4_shortenThrough_L10 mi k2 n10 (k10 + 1) (upd rl_10 ((k2 * 10) + k10) ((rl_10 ((k2 * 10) + mi)) + (rl_10 ((mi * 10) + k10))))
def f_X4_shortenThrough_L2 (mi : Nat) : Nat → Nat → (Nat → Int32) → (Nat → Int32)
  | 0, _, rl_2 => rl_2
  | n2 + 1, k2, rl_2 => f_X4_shortenThrough_L2 mi n2 (k2 + 1) (f_X4_shortenThrough_L10 mi k2 10 0 rl_2)
def f_X4_shortenThrough (mi : Nat) (rl : Nat → Int32) : (Nat → Int32) :=
  f_X4_shortenThrough_L2 mi 10 0 rl
set_option maxHeartbeats 4000000 in
set_option maxRecDepth 100000 in
theorem c_X4_shortenThrough (l : Launch) (D : va_G) (cI cZ : ClassId) (ad : Nat → Nat) (rc rl rh fr fw fc fg ps pg pr pd qp qt qf qo ct lE lC : Nat → Int32) (cand : Int32) (lim : Int32) (now : Int32) (was : Int32) (sent : Nat) (qfi : Nat) (qsz : Nat) (mi : Nat) (hmi : mi < 10) : MV l yX4_shortenThrough cX4_shortenThrough 5 { frames := 0, cells := 0, slots := 0, locals := 0 } D (TY cI cZ) [.ref (ad 1), .int (nI mi)] (wC cI ad rc rl rh fr fw fc fg ps pg pr pd qp qt qf qo ct lE lC cand lim now was (nI sent) (nI qfi) (nI qsz)) (wC cI ad rc (f_X4_shortenThrough mi rl) rh fr fw fc fg ps pg pr pd qp qt qf qo ct lE lC cand lim now was (nI sent) (nI qfi) (nI qsz)) := by
  refine MV.mk ⟨rfl, rfl⟩ (by decide +kernel) (Nat.le_of_ble_eq_true rfl) ?_
  intro p e s m below meth c A ls B hA hP hD hS hl
  have hx := B.1
  have hb := B.2.1
  have hts := B.2.2.2.2.2.1
  have hN := B.2.2.2.2.2.2.2.1
  have hK := B.2.2.2.2.2.2.2.2.1
  have hl : lv_has ls 5 [(0, .ref (ad 1)), (1, .int (nI mi))] := hl
  have hf := f_X4_shortenThrough.eq_1 mi rl
  refine lv_iconst (v := nI 0) hx hb dX4_shortenThrough_0 (by decide) ?_
  refine lv_istore_n (lv' := [(2, .int (nI 0)), (0, .ref (ad 1)), (1, .int (nI mi))]) hx hb dX4_shortenThrough_1 rfl hl (by decide) rfl (fun ls hl => ?_)
  have L2 : ∀ (n2 : Nat) (k2 : Nat) (rl_2 : Nat → Int32), k2 + n2 = 10 → f_X4_shortenThrough mi rl = (f_X4_shortenThrough_L2 mi n2 k2 rl_2) → ∀ (H : Heap) (locs : List Loc), va_P D vwCl (wC cI ad rc rl_2 rh fr fw fc fg ps pg pr pd qp qt qf qo ct lE lC cand lim now was (nI sent) (nI qfi) (nI qsz)) H → va_D A (wC cI ad rc rl_2 rh fr fw fc fg ps pg pr pd qp qt qf qo ct lE lC cand lim now was (nI sent) (nI qfi) (nI qsz)) → va_S A s.heap H locs → ∀ ls : Array Slot, lv_has ls 5 [(0, .ref (ad 1)), (1, .int (nI mi)), (2, .int (nI k2))] → W p l e { frames := 0, cells := 0, slots := 0, locals := 0 } s m [.ref (ad 1), .int (nI mi)].toArray below meth c H locs 0 0 (QV below s A D [.ref (ad 1), .int (nI mi)] (wC cI ad rc (f_X4_shortenThrough mi rl) rh fr fw fc fg ps pg pr pd qp qt qf qo ct lE lC cand lim now was (nI sent) (nI qfi) (nI qsz))) (F0 m 2 ls []) := by
    intro n2
    induction n2 with
    | zero =>
      intro k2 rl_2 hk2 hf H locs hP hD hS ls hl
      obtain rfl : 10 = k2 := by omega
      rw [f_X4_shortenThrough_L2] at hf
      have hl : lv_has ls 5 [(0, .ref (ad 1)), (1, .int (nI mi)), (2, .int (nI 10))] := hl
      refine lv_iload_n hx hb dX4_shortenThrough_2 rfl (lv_at hl 2 rfl) ?_
      refine lv_bipush (v := nI 10) hx hb dX4_shortenThrough_3 (by decide) ?_
      refine r_icmp_ge (tgt := 82) hx hb (by omega) (by omega) dX4_shortenThrough_5 (by decide) (fun _ => ?_) (fun c => absurd c (by omega))
      exact eV B hP hS ((congrArg (fun (u : (Nat → Int32)) => wC cI ad rc u rh fr fw fc fg ps pg pr pd qp qt qf qo ct lE lC cand lim now was (nI sent) (nI qfi) (nI qsz)) hf).symm) dX4_shortenThrough_82
    | succ n2 ih2 =>
      intro k2 rl_2 hk2 hf H locs hP hD hS ls hl
      rw [f_X4_shortenThrough_L2] at hf
      have hl : lv_has ls 5 [(0, .ref (ad 1)), (1, .int (nI mi)), (2, .int (nI k2))] := hl
      refine lv_iload_n hx hb dX4_shortenThrough_2 rfl (lv_at hl 2 rfl) ?_
      refine lv_bipush (v := nI 10) hx hb dX4_shortenThrough_3 (by decide) ?_
      refine r_icmp_ge (tgt := 82) hx hb (by omega) (by omega) dX4_shortenThrough_5 (by decide) (fun c => absurd c (by omega)) (fun _ => ?_)
      refine lv_iconst (v := nI 0) hx hb dX4_shortenThrough_8 (by decide) ?_
      refine lv_istore_n (lv' := [(3, .int (nI 0)), (0, .ref (ad 1)), (1, .int (nI mi)), (2, .int (nI k2))]) hx hb dX4_shortenThrough_9 rfl hl (by decide) rfl (fun ls hl => ?_)
      have L10 : ∀ (n10 : Nat) (k10 : Nat) (rl_10 : Nat → Int32), k10 + n10 = 10 → f_X4_shortenThrough mi rl = (f_X4_shortenThrough_L2 mi n2 (k2 + 1) (f_X4_shortenThrough_L10 mi k2 n10 k10 rl_10)) → ∀ (H : Heap) (locs : List Loc), va_P D vwCl (wC cI ad rc rl_10 rh fr fw fc fg ps pg pr pd qp qt qf qo ct lE lC cand lim now was (nI sent) (nI qfi) (nI qsz)) H → va_D A (wC cI ad rc rl_10 rh fr fw fc fg ps pg pr pd qp qt qf qo ct lE lC cand lim now was (nI sent) (nI qfi) (nI qsz)) → va_S A s.heap H locs → ∀ ls : Array Slot, lv_has ls 5 [(0, .ref (ad 1)), (1, .int (nI mi)), (2, .int (nI k2)), (3, .int (nI k10))] → W p l e { frames := 0, cells := 0, slots := 0, locals := 0 } s m [.ref (ad 1), .int (nI mi)].toArray below meth c H locs 0 0 (QV below s A D [.ref (ad 1), .int (nI mi)] (wC cI ad rc (f_X4_shortenThrough mi rl) rh fr fw fc fg ps pg pr pd qp qt qf qo ct lE lC cand lim now was (nI sent) (nI qfi) (nI qsz))) (F0 m 10 ls []) := by
        intro n10
        induction n10 with
        | zero =>
          intro k10 rl_10 hk10 hf H locs hP hD hS ls hl
          obtain rfl : 10 = k10 := by omega
          rw [f_X4_shortenThrough_L10] at hf
          have hl : lv_has ls 5 [(0, .ref (ad 1)), (1, .int (nI mi)), (2, .int (nI k2)), (3, .int (nI 10))] := hl
          refine lv_iload_n hx hb dX4_shortenThrough_10 rfl (lv_at hl 3 rfl) ?_
          refine lv_bipush (v := nI 10) hx hb dX4_shortenThrough_11 (by decide) ?_
          refine r_icmp_ge (tgt := 76) hx hb (by omega) (by omega) dX4_shortenThrough_13 (by decide) (fun _ => ?_) (fun c => absurd c (by omega))
          refine lv_iinc (v := nI (k2 + 1)) (lv' := [(2, .int (nI (k2 + 1))), (0, .ref (ad 1)), (1, .int (nI mi)), (3, .int (nI 10))]) hx hb dX4_shortenThrough_76 hl (k := 2) rfl (nI_add _ _) (by decide) rfl (fun ls hl => ?_)
          refine lv_goto (tgt := 2) hx hb dX4_shortenThrough_79 (by decide) ?_
          exact ih2 (k2 + 1) rl_10 (by omega) hf _ _ hP hD hS _ (lv_sub hl [1, 2, 0] rfl)
        | succ n10 ih10 =>
          intro k10 rl_10 hk10 hf H locs hP hD hS ls hl
          rw [f_X4_shortenThrough_L10] at hf
          have hl : lv_has ls 5 [(0, .ref (ad 1)), (1, .int (nI mi)), (2, .int (nI k2)), (3, .int (nI k10))] := hl
          refine lv_iload_n hx hb dX4_shortenThrough_10 rfl (lv_at hl 3 rfl) ?_
          refine lv_bipush (v := nI 10) hx hb dX4_shortenThrough_11 (by decide) ?_
          refine r_icmp_ge (tgt := 76) hx hb (by omega) (by omega) dX4_shortenThrough_13 (by decide) (fun c => absurd c (by omega)) (fun _ => ?_)
          refine lv_aload_n hx hb dX4_shortenThrough_16 rfl (lv_at hl 0 rfl) ?_
          refine g_X4_15 B hP 1 rfl rfl dX4_shortenThrough_17 ?_
          refine lv_iload_n hx hb dX4_shortenThrough_20 rfl (lv_at hl 2 rfl) ?_
          refine lv_bipush (v := nI 10) hx hb dX4_shortenThrough_21 (by decide) ?_
          refine r_imul hx hb dX4_shortenThrough_23 ?_
          refine lv_iload_n hx hb dX4_shortenThrough_24 rfl (lv_at hl 1 rfl) ?_
          refine r_iadd hx hb dX4_shortenThrough_25 ?_
          refine r_iald hx hb hK hP 3 0 rfl rfl (by omega) (by decide) dX4_shortenThrough_26 ?_
          refine lv_aload_n hx hb dX4_shortenThrough_27 rfl (lv_at hl 0 rfl) ?_
          refine g_X4_15 B hP 1 rfl rfl dX4_shortenThrough_28 ?_
          refine lv_iload_n hx hb dX4_shortenThrough_31 rfl (lv_at hl 1 rfl) ?_
          refine lv_bipush (v := nI 10) hx hb dX4_shortenThrough_32 (by decide) ?_
          refine r_imul hx hb dX4_shortenThrough_34 ?_
          refine lv_iload_n hx hb dX4_shortenThrough_35 rfl (lv_at hl 3 rfl) ?_
          refine r_iadd hx hb dX4_shortenThrough_36 ?_
          refine r_iald hx hb hK hP 3 0 rfl rfl (by omega) (by decide) dX4_shortenThrough_37 ?_
          refine lv_iadd hx hb dX4_shortenThrough_38 ?_
          refine lv_istore (lv' := [(4, .int ((rl_10 ((k2 * 10) + mi)) + (rl_10 ((mi * 10) + k10)))), (0, .ref (ad 1)), (1, .int (nI mi)), (2, .int (nI k2)), (3, .int (nI k10))]) hx hb dX4_shortenThrough_39 hl (by decide) rfl (fun ls hl => ?_)
          refine lv_iload hx hb dX4_shortenThrough_41 (lv_at hl 0 rfl) ?_
          refine lv_aload_n hx hb dX4_shortenThrough_43 rfl (lv_at hl 1 rfl) ?_
          refine g_X4_15 B hP 1 rfl rfl dX4_shortenThrough_44 ?_
          refine lv_iload_n hx hb dX4_shortenThrough_47 rfl (lv_at hl 3 rfl) ?_
          refine lv_bipush (v := nI 10) hx hb dX4_shortenThrough_48 (by decide) ?_
          refine r_imul hx hb dX4_shortenThrough_50 ?_
          refine lv_iload_n hx hb dX4_shortenThrough_51 rfl (lv_at hl 4 rfl) ?_
          refine r_iadd hx hb dX4_shortenThrough_52 ?_
          refine r_iald hx hb hK hP 3 0 rfl rfl (by omega) (by decide) dX4_shortenThrough_53 ?_
          refine lv_icmp_ge (tgt := 70) hx hb dX4_shortenThrough_54 (by decide) (fun c13 => ?_) (fun c13 => ?_)
          · rw [if_pos c13] at hf
            refine lv_iinc (v := nI (k10 + 1)) (lv' := [(3, .int (nI (k10 + 1))), (4, .int ((rl_10 ((k2 * 10) + mi)) + (rl_10 ((mi * 10) + k10)))), (0, .ref (ad 1)), (1, .int (nI mi)), (2, .int (nI k2))]) hx hb dX4_shortenThrough_70 hl (k := 4) rfl (nI_add _ _) (by decide) rfl (fun ls hl => ?_)
            refine lv_goto (tgt := 10) hx hb dX4_shortenThrough_73 (by decide) ?_
            exact ih10 (k10 + 1) rl_10 (by omega) hf _ _ hP hD hS _ (lv_sub hl [2, 3, 4, 0] rfl)
          · rw [if_neg c13] at hf
            refine lv_aload_n hx hb dX4_shortenThrough_57 rfl (lv_at hl 1 rfl) ?_
            refine g_X4_15 B hP 1 rfl rfl dX4_shortenThrough_58 ?_
            refine lv_iload_n hx hb dX4_shortenThrough_61 rfl (lv_at hl 3 rfl) ?_
            refine lv_bipush (v := nI 10) hx hb dX4_shortenThrough_62 (by decide) ?_
            refine r_imul hx hb dX4_shortenThrough_64 ?_
            refine lv_iload_n hx hb dX4_shortenThrough_65 rfl (lv_at hl 4 rfl) ?_
            refine r_iadd hx hb dX4_shortenThrough_66 ?_
            refine lv_iload hx hb dX4_shortenThrough_67 (lv_at hl 0 rfl) ?_
            refine r_iast hx hb hK hP hD hS 3 0 rfl rfl (by omega) (by decide) dX4_shortenThrough_69 (fun H locs hP hD hS => ?_)
            have hP : va_P D vwCl (wC cI ad rc (upd rl_10 ((k2 * 10) + k10) ((rl_10 ((k2 * 10) + mi)) + (rl_10 ((mi * 10) + k10)))) rh fr fw fc fg ps pg pr pd qp qt qf qo ct lE lC cand lim now was (nI sent) (nI qfi) (nI qsz)) H := hP
            have hD : va_D A (wC cI ad rc (upd rl_10 ((k2 * 10) + k10) ((rl_10 ((k2 * 10) + mi)) + (rl_10 ((mi * 10) + k10)))) rh fr fw fc fg ps pg pr pd qp qt qf qo ct lE lC cand lim now was (nI sent) (nI qfi) (nI qsz)) := hD
            refine lv_iinc (v := nI (k10 + 1)) (lv' := [(3, .int (nI (k10 + 1))), (4, .int ((rl_10 ((k2 * 10) + mi)) + (rl_10 ((mi * 10) + k10)))), (0, .ref (ad 1)), (1, .int (nI mi)), (2, .int (nI k2))]) hx hb dX4_shortenThrough_70 hl (k := 4) rfl (nI_add _ _) (by decide) rfl (fun ls hl => ?_)
            refine lv_goto (tgt := 10) hx hb dX4_shortenThrough_73 (by decide) ?_
            exact ih10 (k10 + 1) (upd rl_10 ((k2 * 10) + k10) ((rl_10 ((k2 * 10) + mi)) + (rl_10 ((mi * 10) + k10)))) (by omega) hf _ _ hP hD hS _ (lv_sub hl [2, 3, 4, 0] rfl)
      exact L10 10 0 rl_2 (by omega) hf _ _ hP hD hS _ (lv_sub hl [1, 2, 3, 0] rfl)
  exact L2 10 0 rl (by omega) hf _ _ hP hD hS _ (lv_sub hl [1, 2, 0] rfl)
def f_X4_findLeast_L72 : Nat → Nat → (Nat → Int32) → (Nat → Int32)
  | 0, _, rl_72 => rl_72
  | n72 + 1, k72, rl_72 => f_X4_findLeast_L72 n72 (k72 + 1) (f_X4_shortenThrough k72 rl_72)
def f_X4_findLeast_L10 (rc : Nat → Int32) (k2 : Nat) : Nat → Nat → (Nat → Int32) → (Nat → Int32)
  | 0, _, rl_10 => rl_10
  | n10 + 1, k10, rl_10 => if k2 = k10 then f_X4_findLeast_L10 rc k2 n10 (k10 + 1) (upd rl_10 ((k2 * 10) + k10) (nI 0)) else if (rc ((k2 * 10) + k10)) = 0 then f_X4_findLeast_L10 rc k2 n10 (k10 + 1) (upd rl_10 ((k2 * 10) + k10) (nI 1000000)) else f_X4_findLeast_L10 rc k2 n10 (k10 + 1) (upd rl_10 ((k2 * 10) + k10) (rc ((k2 * 10) + k10)))
def f_X4_findLeast_L2 (rc : Nat → Int32) : Nat → Nat → (Nat → Int32) → (Nat → Int32)
  | 0, _, rl_2 => f_X4_findLeast_L72 10 0 rl_2
  | n2 + 1, k2, rl_2 => f_X4_findLeast_L2 rc n2 (k2 + 1) (f_X4_findLeast_L10 rc k2 10 0 rl_2)
def f_X4_findLeast (rc : Nat → Int32) (rl : Nat → Int32) : (Nat → Int32) :=
  f_X4_findLeast_L2 rc 10 0 rl
set_option maxHeartbeats 4000000 in
set_option maxRecDepth 100000 in
theorem c_X4_findLeast (l : Launch) (D : va_G) (cI cZ : ClassId) (ad : Nat → Nat) (rc rl rh fr fw fc fg ps pg pr pd qp qt qf qo ct lE lC : Nat → Int32) (cand : Int32) (lim : Int32) (now : Int32) (was : Int32) (sent : Nat) (qfi : Nat) (qsz : Nat) : MV l yX4_findLeast cX4_findLeast 4 { frames := 1, cells := 0, slots := 0, locals := 24 } D (TY cI cZ) [.ref (ad 1)] (wC cI ad rc rl rh fr fw fc fg ps pg pr pd qp qt qf qo ct lE lC cand lim now was (nI sent) (nI qfi) (nI qsz)) (wC cI ad rc (f_X4_findLeast rc rl) rh fr fw fc fg ps pg pr pd qp qt qf qo ct lE lC cand lim now was (nI sent) (nI qfi) (nI qsz)) := by
  refine MV.mk ⟨rfl, rfl⟩ (by decide +kernel) (Nat.le_of_ble_eq_true rfl) ?_
  intro p e s m below meth c A ls B hA hP hD hS hl
  have hx := B.1
  have hb := B.2.1
  have hts := B.2.2.2.2.2.1
  have hN := B.2.2.2.2.2.2.2.1
  have hK := B.2.2.2.2.2.2.2.2.1
  have hl : lv_has ls 4 [(0, .ref (ad 1))] := hl
  have hf := f_X4_findLeast.eq_1 rc rl
  refine lv_iconst (v := nI 0) hx hb dX4_findLeast_0 (by decide) ?_
  refine lv_istore_n (lv' := [(1, .int (nI 0)), (0, .ref (ad 1))]) hx hb dX4_findLeast_1 rfl hl (by decide) rfl (fun ls hl => ?_)
  have L2 : ∀ (n2 : Nat) (k2 : Nat) (rl_2 : Nat → Int32), k2 + n2 = 10 → f_X4_findLeast rc rl = (f_X4_findLeast_L2 rc n2 k2 rl_2) → ∀ (H : Heap) (locs : List Loc), va_P D vwCl (wC cI ad rc rl_2 rh fr fw fc fg ps pg pr pd qp qt qf qo ct lE lC cand lim now was (nI sent) (nI qfi) (nI qsz)) H → va_D A (wC cI ad rc rl_2 rh fr fw fc fg ps pg pr pd qp qt qf qo ct lE lC cand lim now was (nI sent) (nI qfi) (nI qsz)) → va_S A s.heap H locs → ∀ ls : Array Slot, lv_has ls 4 [(0, .ref (ad 1)), (1, .int (nI k2))] → W p l e { frames := 1, cells := 0, slots := 0, locals := 24 } s m [.ref (ad 1)].toArray below meth c H locs 0 0 (QV below s A D [.ref (ad 1)] (wC cI ad rc (f_X4_findLeast rc rl) rh fr fw fc fg ps pg pr pd qp qt qf qo ct lE lC cand lim now was (nI sent) (nI qfi) (nI qsz))) (F0 m 2 ls []) := by
    intro n2
    induction n2 with
    | zero =>
      intro k2 rl_2 hk2 hf H locs hP hD hS ls hl
      obtain rfl : 10 = k2 := by omega
      rw [f_X4_findLeast_L2] at hf
      have hl : lv_has ls 4 [(0, .ref (ad 1)), (1, .int (nI 10))] := hl
      refine lv_iload_n hx hb dX4_findLeast_2 rfl (lv_at hl 1 rfl) ?_
      refine lv_bipush (v := nI 10) hx hb dX4_findLeast_3 (by decide) ?_
      refine r_icmp_ge (tgt := 70) hx hb (by omega) (by omega) dX4_findLeast_5 (by decide) (fun _ => ?_) (fun c => absurd c (by omega))
      refine lv_iconst (v := nI 0) hx hb dX4_findLeast_70 (by decide) ?_
      refine lv_istore_n (lv' := [(1, .int (nI 0)), (0, .ref (ad 1))]) hx hb dX4_findLeast_71 rfl hl (by decide) rfl (fun ls hl => ?_)
      have L72 : ∀ (n72 : Nat) (k72 : Nat) (rl_72 : Nat → Int32), k72 + n72 = 10 → f_X4_findLeast rc rl = (f_X4_findLeast_L72 n72 k72 rl_72) → ∀ (H : Heap) (locs : List Loc), va_P D vwCl (wC cI ad rc rl_72 rh fr fw fc fg ps pg pr pd qp qt qf qo ct lE lC cand lim now was (nI sent) (nI qfi) (nI qsz)) H → va_D A (wC cI ad rc rl_72 rh fr fw fc fg ps pg pr pd qp qt qf qo ct lE lC cand lim now was (nI sent) (nI qfi) (nI qsz)) → va_S A s.heap H locs → ∀ ls : Array Slot, lv_has ls 4 [(0, .ref (ad 1)), (1, .int (nI k72))] → W p l e { frames := 1, cells := 0, slots := 0, locals := 24 } s m [.ref (ad 1)].toArray below meth c H locs 0 0 (QV below s A D [.ref (ad 1)] (wC cI ad rc (f_X4_findLeast rc rl) rh fr fw fc fg ps pg pr pd qp qt qf qo ct lE lC cand lim now was (nI sent) (nI qfi) (nI qsz))) (F0 m 72 ls []) := by
        intro n72
        induction n72 with
        | zero =>
          intro k72 rl_72 hk72 hf H locs hP hD hS ls hl
          obtain rfl : 10 = k72 := by omega
          rw [f_X4_findLeast_L72] at hf
          have hl : lv_has ls 4 [(0, .ref (ad 1)), (1, .int (nI 10))] := hl
          refine lv_iload_n hx hb dX4_findLeast_72 rfl (lv_at hl 1 rfl) ?_
          refine lv_bipush (v := nI 10) hx hb dX4_findLeast_73 (by decide) ?_
          refine r_icmp_ge (tgt := 89) hx hb (by omega) (by omega) dX4_findLeast_75 (by decide) (fun _ => ?_) (fun c => absurd c (by omega))
          exact eV B hP hS ((congrArg (fun (u : (Nat → Int32)) => wC cI ad rc u rh fr fw fc fg ps pg pr pd qp qt qf qo ct lE lC cand lim now was (nI sent) (nI qfi) (nI qsz)) hf).symm) dX4_findLeast_89
        | succ n72 ih72 =>
          intro k72 rl_72 hk72 hf H locs hP hD hS ls hl
          rw [f_X4_findLeast_L72] at hf
          have hl : lv_has ls 4 [(0, .ref (ad 1)), (1, .int (nI k72))] := hl
          refine lv_iload_n hx hb dX4_findLeast_72 rfl (lv_at hl 1 rfl) ?_
          refine lv_bipush (v := nI 10) hx hb dX4_findLeast_73 (by decide) ?_
          refine r_icmp_ge (tgt := 89) hx hb (by omega) (by omega) dX4_findLeast_75 (by decide) (fun c => absurd c (by omega)) (fun _ => ?_)
          refine lv_aload_n hx hb dX4_findLeast_78 rfl (lv_at hl 0 rfl) ?_
          refine lv_iload_n hx hb dX4_findLeast_79 rfl (lv_at hl 1 rfl) ?_
          refine fV_v (ci := 4) (as := [.int (nI k72)]) (rest := []) B hl.1 (c_X4_shortenThrough l D cI cZ ad rc rl_72 rh fr fw fc fg ps pg pr pd qp qt qf qo ct lE lC cand lim now was sent qfi qsz k72 (by omega)) rfl (l_RX4_36 hts ⟨rfl, rfl⟩ ⟨Nat.le_of_ble_eq_true rfl, Nat.le_of_ble_eq_true rfl⟩) m_3_1 m_3_2 rfl rfl hP hD hS hA 1 rfl wfC (Nat.le_of_ble_eq_true rfl) dX4_findLeast_80 (fun H locs hP hD hS => ?_)
          refine lv_iinc (v := nI (k72 + 1)) (lv' := [(1, .int (nI (k72 + 1))), (0, .ref (ad 1))]) hx hb dX4_findLeast_83 hl (k := 1) rfl (nI_add _ _) (by decide) rfl (fun ls hl => ?_)
          refine lv_goto (tgt := 72) hx hb dX4_findLeast_86 (by decide) ?_
          exact ih72 (k72 + 1) (f_X4_shortenThrough k72 rl_72) (by omega) hf _ _ hP hD hS _ (lv_sub hl [1, 0] rfl)
      exact L72 10 0 rl_2 (by omega) hf _ _ hP hD hS _ (lv_sub hl [1, 0] rfl)
    | succ n2 ih2 =>
      intro k2 rl_2 hk2 hf H locs hP hD hS ls hl
      rw [f_X4_findLeast_L2] at hf
      have hl : lv_has ls 4 [(0, .ref (ad 1)), (1, .int (nI k2))] := hl
      refine lv_iload_n hx hb dX4_findLeast_2 rfl (lv_at hl 1 rfl) ?_
      refine lv_bipush (v := nI 10) hx hb dX4_findLeast_3 (by decide) ?_
      refine r_icmp_ge (tgt := 70) hx hb (by omega) (by omega) dX4_findLeast_5 (by decide) (fun c => absurd c (by omega)) (fun _ => ?_)
      refine lv_iconst (v := nI 0) hx hb dX4_findLeast_8 (by decide) ?_
      refine lv_istore_n (lv' := [(2, .int (nI 0)), (0, .ref (ad 1)), (1, .int (nI k2))]) hx hb dX4_findLeast_9 rfl hl (by decide) rfl (fun ls hl => ?_)
      have L10 : ∀ (n10 : Nat) (k10 : Nat) (rl_10 : Nat → Int32), k10 + n10 = 10 → f_X4_findLeast rc rl = (f_X4_findLeast_L2 rc n2 (k2 + 1) (f_X4_findLeast_L10 rc k2 n10 k10 rl_10)) → ∀ (H : Heap) (locs : List Loc), va_P D vwCl (wC cI ad rc rl_10 rh fr fw fc fg ps pg pr pd qp qt qf qo ct lE lC cand lim now was (nI sent) (nI qfi) (nI qsz)) H → va_D A (wC cI ad rc rl_10 rh fr fw fc fg ps pg pr pd qp qt qf qo ct lE lC cand lim now was (nI sent) (nI qfi) (nI qsz)) → va_S A s.heap H locs → ∀ ls : Array Slot, lv_has ls 4 [(0, .ref (ad 1)), (1, .int (nI k2)), (2, .int (nI k10))] → W p l e { frames := 1, cells := 0, slots := 0, locals := 24 } s m [.ref (ad 1)].toArray below meth c H locs 0 0 (QV below s A D [.ref (ad 1)] (wC cI ad rc (f_X4_findLeast rc rl) rh fr fw fc fg ps pg pr pd qp qt qf qo ct lE lC cand lim now was (nI sent) (nI qfi) (nI qsz))) (F0 m 10 ls []) := by
        intro n10
        induction n10 with
        | zero =>
          intro k10 rl_10 hk10 hf H locs hP hD hS ls hl
          obtain rfl : 10 = k10 := by omega
          rw [f_X4_findLeast_L10] at hf
          have hl : lv_has ls 4 [(0, .ref (ad 1)), (1, .int (nI k2)), (2, .int (nI 10))] := hl
          refine lv_iload_n hx hb dX4_findLeast_10 rfl (lv_at hl 2 rfl) ?_
          refine lv_bipush (v := nI 10) hx hb dX4_findLeast_11 (by decide) ?_
          refine r_icmp_ge (tgt := 64) hx hb (by omega) (by omega) dX4_findLeast_13 (by decide) (fun _ => ?_) (fun c => absurd c (by omega))
          refine lv_iinc (v := nI (k2 + 1)) (lv' := [(1, .int (nI (k2 + 1))), (0, .ref (ad 1)), (2, .int (nI 10))]) hx hb dX4_findLeast_64 hl (k := 1) rfl (nI_add _ _) (by decide) rfl (fun ls hl => ?_)
          refine lv_goto (tgt := 2) hx hb dX4_findLeast_67 (by decide) ?_
          exact ih2 (k2 + 1) rl_10 (by omega) hf _ _ hP hD hS _ (lv_sub hl [1, 0] rfl)
        | succ n10 ih10 =>
          intro k10 rl_10 hk10 hf H locs hP hD hS ls hl
          rw [f_X4_findLeast_L10] at hf
          have hl : lv_has ls 4 [(0, .ref (ad 1)), (1, .int (nI k2)), (2, .int (nI k10))] := hl
          refine lv_iload_n hx hb dX4_findLeast_10 rfl (lv_at hl 2 rfl) ?_
          refine lv_bipush (v := nI 10) hx hb dX4_findLeast_11 (by decide) ?_
          refine r_icmp_ge (tgt := 64) hx hb (by omega) (by omega) dX4_findLeast_13 (by decide) (fun c => absurd c (by omega)) (fun _ => ?_)
          refine lv_aload_n hx hb dX4_findLeast_16 rfl (lv_at hl 0 rfl) ?_
          refine g_X4_9 B hP 1 rfl rfl dX4_findLeast_17 ?_
          refine lv_iload_n hx hb dX4_findLeast_20 rfl (lv_at hl 1 rfl) ?_
          refine lv_bipush (v := nI 10) hx hb dX4_findLeast_21 (by decide) ?_
          refine r_imul hx hb dX4_findLeast_23 ?_
          refine lv_iload_n hx hb dX4_findLeast_24 rfl (lv_at hl 2 rfl) ?_
          refine r_iadd hx hb dX4_findLeast_25 ?_
          refine r_iald hx hb hK hP 2 0 rfl rfl (by omega) (by decide) dX4_findLeast_26 ?_
          refine lv_istore_n (lv' := [(3, .int (rc ((k2 * 10) + k10))), (0, .ref (ad 1)), (1, .int (nI k2)), (2, .int (nI k10))]) hx hb dX4_findLeast_27 rfl hl (by decide) rfl (fun ls hl => ?_)
          refine lv_aload_n hx hb dX4_findLeast_28 rfl (lv_at hl 1 rfl) ?_
          refine g_X4_15 B hP 1 rfl rfl dX4_findLeast_29 ?_
          refine lv_iload_n hx hb dX4_findLeast_32 rfl (lv_at hl 2 rfl) ?_
          refine lv_bipush (v := nI 10) hx hb dX4_findLeast_33 (by decide) ?_
          refine r_imul hx hb dX4_findLeast_35 ?_
          refine lv_iload_n hx hb dX4_findLeast_36 rfl (lv_at hl 3 rfl) ?_
          refine r_iadd hx hb dX4_findLeast_37 ?_
          refine lv_iload_n hx hb dX4_findLeast_38 rfl (lv_at hl 2 rfl) ?_
          refine lv_iload_n hx hb dX4_findLeast_39 rfl (lv_at hl 3 rfl) ?_
          refine r_icmp_ne (tgt := 47) hx hb (by omega) (by omega) dX4_findLeast_40 (by decide) (fun c22 => ?_) (fun c22 => ?_)
          · rw [if_neg c22] at hf
            refine lv_iload_n hx hb dX4_findLeast_47 rfl (lv_at hl 0 rfl) ?_
            refine lv_if_ne (tgt := 56) hx hb dX4_findLeast_48 (by decide) (fun c23 => ?_) (fun c23 => ?_)
            · rw [if_neg c23] at hf
              refine lv_iload_n hx hb dX4_findLeast_56 rfl (lv_at hl 0 rfl) ?_
              refine r_iast hx hb hK hP hD hS 3 0 rfl rfl (by omega) (by decide) dX4_findLeast_57 (fun H locs hP hD hS => ?_)
              have hP : va_P D vwCl (wC cI ad rc (upd rl_10 ((k2 * 10) + k10) (rc ((k2 * 10) + k10))) rh fr fw fc fg ps pg pr pd qp qt qf qo ct lE lC cand lim now was (nI sent) (nI qfi) (nI qsz)) H := hP
              have hD : va_D A (wC cI ad rc (upd rl_10 ((k2 * 10) + k10) (rc ((k2 * 10) + k10))) rh fr fw fc fg ps pg pr pd qp qt qf qo ct lE lC cand lim now was (nI sent) (nI qfi) (nI qsz)) := hD
              refine lv_iinc (v := nI (k10 + 1)) (lv' := [(2, .int (nI (k10 + 1))), (3, .int (rc ((k2 * 10) + k10))), (0, .ref (ad 1)), (1, .int (nI k2))]) hx hb dX4_findLeast_58 hl (k := 3) rfl (nI_add _ _) (by decide) rfl (fun ls hl => ?_)
              refine lv_goto (tgt := 10) hx hb dX4_findLeast_61 (by decide) ?_
              exact ih10 (k10 + 1) (upd rl_10 ((k2 * 10) + k10) (rc ((k2 * 10) + k10))) (by omega) hf _ _ hP hD hS _ (lv_sub hl [2, 3, 0] rfl)
            · rw [if_pos c23] at hf
              refine lv_ldc (v := nI 1000000) hx hb B.2.2.2.2.1 (hts _ m_2_23) dX4_findLeast_51 ?_
              refine lv_goto (tgt := 57) hx hb dX4_findLeast_53 (by decide) ?_
              refine r_iast hx hb hK hP hD hS 3 0 rfl rfl (by omega) (by decide) dX4_findLeast_57 (fun H locs hP hD hS => ?_)
              have hP : va_P D vwCl (wC cI ad rc (upd rl_10 ((k2 * 10) + k10) (nI 1000000)) rh fr fw fc fg ps pg pr pd qp qt qf qo ct lE lC cand lim now was (nI sent) (nI qfi) (nI qsz)) H := hP
              have hD : va_D A (wC cI ad rc (upd rl_10 ((k2 * 10) + k10) (nI 1000000)) rh fr fw fc fg ps pg pr pd qp qt qf qo ct lE lC cand lim now was (nI sent) (nI qfi) (nI qsz)) := hD
              refine lv_iinc (v := nI (k10 + 1)) (lv' := [(2, .int (nI (k10 + 1))), (3, .int (rc ((k2 * 10) + k10))), (0, .ref (ad 1)), (1, .int (nI k2))]) hx hb dX4_findLeast_58 hl (k := 3) rfl (nI_add _ _) (by decide) rfl (fun ls hl => ?_)
              refine lv_goto (tgt := 10) hx hb dX4_findLeast_61 (by decide) ?_
              exact ih10 (k10 + 1) (upd rl_10 ((k2 * 10) + k10) (nI 1000000)) (by omega) hf _ _ hP hD hS _ (lv_sub hl [2, 3, 0] rfl)
          · rw [if_pos c22] at hf
            refine lv_iconst (v := nI 0) hx hb dX4_findLeast_43 (by decide) ?_
            refine lv_goto (tgt := 57) hx hb dX4_findLeast_44 (by decide) ?_
            refine r_iast hx hb hK hP hD hS 3 0 rfl rfl (by omega) (by decide) dX4_findLeast_57 (fun H locs hP hD hS => ?_)
            have hP : va_P D vwCl (wC cI ad rc (upd rl_10 ((k2 * 10) + k10) (nI 0)) rh fr fw fc fg ps pg pr pd qp qt qf qo ct lE lC cand lim now was (nI sent) (nI qfi) (nI qsz)) H := hP
            have hD : va_D A (wC cI ad rc (upd rl_10 ((k2 * 10) + k10) (nI 0)) rh fr fw fc fg ps pg pr pd qp qt qf qo ct lE lC cand lim now was (nI sent) (nI qfi) (nI qsz)) := hD
            refine lv_iinc (v := nI (k10 + 1)) (lv' := [(2, .int (nI (k10 + 1))), (3, .int (rc ((k2 * 10) + k10))), (0, .ref (ad 1)), (1, .int (nI k2))]) hx hb dX4_findLeast_58 hl (k := 3) rfl (nI_add _ _) (by decide) rfl (fun ls hl => ?_)
            refine lv_goto (tgt := 10) hx hb dX4_findLeast_61 (by decide) ?_
            exact ih10 (k10 + 1) (upd rl_10 ((k2 * 10) + k10) (nI 0)) (by omega) hf _ _ hP hD hS _ (lv_sub hl [2, 3, 0] rfl)
      exact L10 10 0 rl_2 (by omega) hf _ _ hP hD hS _ (lv_sub hl [1, 2, 0] rfl)
  exact L2 10 0 rl (by omega) hf _ _ hP hD hS _ (lv_sub hl [1, 0] rfl)
def f_X4_firstHop_L22 (r : Nat) (o : Nat) (rc : Nat → Int32) (rl : Nat → Int32) : Nat → Nat → Int32
  | 0, _ => -1
  | n22 + 1, k22 => if (rc ((r * 10) + k22)) = 0 then f_X4_firstHop_L22 r o rc rl n22 (k22 + 1) else if ((rc ((r * 10) + k22)) + (f_X4_distanceOf k22 o rl)) = (f_X4_distanceOf r o rl) then nI k22 else f_X4_firstHop_L22 r o rc rl n22 (k22 + 1)
def f_X4_firstHop (r : Nat) (o : Nat) (rc : Nat → Int32) (rl : Nat → Int32) : Int32 :=
  if r = o then -1 else if (f_X4_distanceOf r o rl) = (-1) then -1 else f_X4_firstHop_L22 r o rc rl 10 0
set_option maxHeartbeats 4000000 in
set_option maxRecDepth 100000 in
theorem c_X4_firstHop (l : Launch) (D : va_G) (cI cZ : ClassId) (ad : Nat → Nat) (rc rl rh fr fw fc fg ps pg pr pd qp qt qf qo ct lE lC : Nat → Int32) (cand : Int32) (lim : Int32) (now : Int32) (was : Int32) (sent : Nat) (qfi : Nat) (qsz : Nat) (r : Nat) (o : Nat) (hr : r < 10) (ho : o < 10) : MI l yX4_firstHop cX4_firstHop 6 .int { frames := 2, cells := 0, slots := 0, locals := 44 } D (TY cI cZ) [.ref (ad 1), .int (nI r), .int (nI o)] (wC cI ad rc rl rh fr fw fc fg ps pg pr pd qp qt qf qo ct lE lC cand lim now was (nI sent) (nI qfi) (nI qsz)) (wC cI ad rc rl rh fr fw fc fg ps pg pr pd qp qt qf qo ct lE lC cand lim now was (nI sent) (nI qfi) (nI qsz)) (f_X4_firstHop r o rc rl) := by
  refine MI.mk ⟨rfl, rfl⟩ (by decide +kernel) (Nat.le_of_ble_eq_true rfl) ?_
  intro p e s m below meth c A ls B hA hP hD hS hl
  have hx := B.1
  have hb := B.2.1
  have hts := B.2.2.2.2.2.1
  have hN := B.2.2.2.2.2.2.2.1
  have hK := B.2.2.2.2.2.2.2.2.1
  have hl : lv_has ls 6 [(0, .ref (ad 1)), (1, .int (nI r)), (2, .int (nI o))] := hl
  have hf := f_X4_firstHop.eq_1 r o rc rl
  refine lv_aload_n hx hb dX4_firstHop_0 rfl (lv_at hl 0 rfl) ?_
  refine lv_iload_n hx hb dX4_firstHop_1 rfl (lv_at hl 1 rfl) ?_
  refine lv_iload_n hx hb dX4_firstHop_2 rfl (lv_at hl 2 rfl) ?_
  refine fV_i (ci := 4) (as := [.int (nI r), .int (nI o)]) (rest := []) B hl.1 (c_X4_distanceOf l D cI cZ ad rc rl rh fr fw fc fg ps pg pr pd qp qt qf qo ct lE lC cand lim now was sent qfi qsz r o (by omega) (by omega)) rfl (l_RX4_43 hts ⟨rfl, rfl⟩ ⟨Nat.le_of_ble_eq_true rfl, Nat.le_of_ble_eq_true rfl⟩) m_3_13 m_3_14 rfl rfl hP hD hS hA 1 rfl wfC (Nat.le_of_ble_eq_true rfl) dX4_firstHop_3 (fun H locs hP hD hS => ?_)
  refine lv_istore_n (lv' := [(3, .int (f_X4_distanceOf r o rl)), (0, .ref (ad 1)), (1, .int (nI r)), (2, .int (nI o))]) hx hb dX4_firstHop_6 rfl hl (by decide) rfl (fun ls hl => ?_)
  refine lv_iload_n hx hb dX4_firstHop_7 rfl (lv_at hl 2 rfl) ?_
  refine lv_iload_n hx hb dX4_firstHop_8 rfl (lv_at hl 3 rfl) ?_
  refine r_icmp_eq (tgt := 17) hx hb (by omega) (by omega) dX4_firstHop_9 (by decide) (fun c1 => ?_) (fun c1 => ?_)
  · have hf := hf.trans (if_pos c1)
    refine lv_iconst (v := -1) hx hb dX4_firstHop_17 (by decide) ?_
    exact eI B hP hS ((congrArg (fun (u : Int32) => u) hf).symm) rfl dX4_firstHop_18
  · have hf := hf.trans (if_neg c1)
    refine lv_iload_n hx hb dX4_firstHop_12 rfl (lv_at hl 0 rfl) ?_
    refine lv_iconst (v := -1) hx hb dX4_firstHop_13 (by decide) ?_
    refine lv_icmp_ne (tgt := 19) hx hb dX4_firstHop_14 (by decide) (fun c2 => ?_) (fun c2 => ?_)
    · have hf := hf.trans (if_neg c2)
      refine lv_iconst (v := nI 0) hx hb dX4_firstHop_19 (by decide) ?_
      refine lv_istore (lv' := [(4, .int (nI 0)), (3, .int (f_X4_distanceOf r o rl)), (0, .ref (ad 1)), (1, .int (nI r)), (2, .int (nI o))]) hx hb dX4_firstHop_20 hl (by decide) rfl (fun ls hl => ?_)
      have L22 : ∀ (n22 : Nat) (k22 : Nat), k22 + n22 = 10 → f_X4_firstHop r o rc rl = (f_X4_firstHop_L22 r o rc rl n22 k22) → ∀ (H : Heap) (locs : List Loc), va_P D vwCl (wC cI ad rc rl rh fr fw fc fg ps pg pr pd qp qt qf qo ct lE lC cand lim now was (nI sent) (nI qfi) (nI qsz)) H → va_D A (wC cI ad rc rl rh fr fw fc fg ps pg pr pd qp qt qf qo ct lE lC cand lim now was (nI sent) (nI qfi) (nI qsz)) → va_S A s.heap H locs → ∀ ls : Array Slot, lv_has ls 6 [(0, .ref (ad 1)), (1, .int (nI r)), (2, .int (nI o)), (3, .int (f_X4_distanceOf r o rl)), (4, .int (nI k22))] → W p l e { frames := 2, cells := 0, slots := 0, locals := 44 } s m [.ref (ad 1), .int (nI r), .int (nI o)].toArray below meth c H locs 0 0 (QI below s A D [.ref (ad 1), .int (nI r), .int (nI o)] (wC cI ad rc rl rh fr fw fc fg ps pg pr pd qp qt qf qo ct lE lC cand lim now was (nI sent) (nI qfi) (nI qsz)) (f_X4_firstHop r o rc rl)) (F0 m 22 ls []) := by
        intro n22
        induction n22 with
        | zero =>
          intro k22 hk22 hf H locs hP hD hS ls hl
          obtain rfl : 10 = k22 := by omega
          rw [f_X4_firstHop_L22] at hf
          have hl : lv_has ls 6 [(0, .ref (ad 1)), (1, .int (nI r)), (2, .int (nI o)), (3, .int (f_X4_distanceOf r o rl)), (4, .int (nI 10))] := hl
          refine lv_iload hx hb dX4_firstHop_22 (lv_at hl 4 rfl) ?_
          refine lv_bipush (v := nI 10) hx hb dX4_firstHop_24 (by decide) ?_
          refine r_icmp_ge (tgt := 66) hx hb (by omega) (by omega) dX4_firstHop_26 (by decide) (fun _ => ?_) (fun c => absurd c (by omega))
          refine lv_iconst (v := -1) hx hb dX4_firstHop_66 (by decide) ?_
          exact eI B hP hS ((congrArg (fun (u : Int32) => u) hf).symm) rfl dX4_firstHop_67
        | succ n22 ih22 =>
          intro k22 hk22 hf H locs hP hD hS ls hl
          rw [f_X4_firstHop_L22] at hf
          have hl : lv_has ls 6 [(0, .ref (ad 1)), (1, .int (nI r)), (2, .int (nI o)), (3, .int (f_X4_distanceOf r o rl)), (4, .int (nI k22))] := hl
          refine lv_iload hx hb dX4_firstHop_22 (lv_at hl 4 rfl) ?_
          refine lv_bipush (v := nI 10) hx hb dX4_firstHop_24 (by decide) ?_
          refine r_icmp_ge (tgt := 66) hx hb (by omega) (by omega) dX4_firstHop_26 (by decide) (fun c => absurd c (by omega)) (fun _ => ?_)
          refine lv_aload_n hx hb dX4_firstHop_29 rfl (lv_at hl 0 rfl) ?_
          refine lv_iload_n hx hb dX4_firstHop_30 rfl (lv_at hl 1 rfl) ?_
          refine lv_iload hx hb dX4_firstHop_31 (lv_at hl 4 rfl) ?_
          refine fV_i (ci := 4) (as := [.int (nI r), .int (nI k22)]) (rest := []) B hl.1 (c_X4_costOf l D cI cZ ad rc rl rh fr fw fc fg ps pg pr pd qp qt qf qo ct lE lC cand lim now was sent qfi qsz r k22 (by omega) (by omega)) rfl (l_RX4_32 hts ⟨rfl, rfl⟩ ⟨Nat.le_of_ble_eq_true rfl, Nat.le_of_ble_eq_true rfl⟩) m_3_20 m_3_21 rfl rfl hP hD hS hA 1 rfl wfC (Nat.le_of_ble_eq_true rfl) dX4_firstHop_33 (fun H locs hP hD hS => ?_)
          refine lv_istore (lv' := [(5, .int (rc ((r * 10) + k22))), (0, .ref (ad 1)), (1, .int (nI r)), (2, .int (nI o)), (3, .int (f_X4_distanceOf r o rl)), (4, .int (nI k22))]) hx hb dX4_firstHop_36 hl (by decide) rfl (fun ls hl => ?_)
          refine lv_iload hx hb dX4_firstHop_38 (lv_at hl 0 rfl) ?_
          refine lv_if_eq (tgt := 60) hx hb dX4_firstHop_40 (by decide) (fun c6 => ?_) (fun c6 => ?_)
          · have hf := hf.trans (if_pos c6)
            refine lv_iinc (v := nI (k22 + 1)) (lv' := [(4, .int (nI (k22 + 1))), (5, .int (rc ((r * 10) + k22))), (0, .ref (ad 1)), (1, .int (nI r)), (2, .int (nI o)), (3, .int (f_X4_distanceOf r o rl))]) hx hb dX4_firstHop_60 hl (k := 5) rfl (nI_add _ _) (by decide) rfl (fun ls hl => ?_)
            refine lv_goto (tgt := 22) hx hb dX4_firstHop_63 (by decide) ?_
            exact ih22 (k22 + 1) (by omega) hf _ _ hP hD hS _ (lv_sub hl [2, 3, 4, 5, 0] rfl)
          · have hf := hf.trans (if_neg c6)
            refine lv_iload hx hb dX4_firstHop_43 (lv_at hl 0 rfl) ?_
            refine lv_aload_n hx hb dX4_firstHop_45 rfl (lv_at hl 1 rfl) ?_
            refine lv_iload hx hb dX4_firstHop_46 (lv_at hl 5 rfl) ?_
            refine lv_iload_n hx hb dX4_firstHop_48 rfl (lv_at hl 3 rfl) ?_
            refine fV_i (ci := 4) (as := [.int (nI k22), .int (nI o)]) (rest := [.int (rc ((r * 10) + k22))]) B hl.1 (c_X4_distanceOf l D cI cZ ad rc rl rh fr fw fc fg ps pg pr pd qp qt qf qo ct lE lC cand lim now was sent qfi qsz k22 o (by omega) (by omega)) rfl (l_RX4_43 hts ⟨rfl, rfl⟩ ⟨Nat.le_of_ble_eq_true rfl, Nat.le_of_ble_eq_true rfl⟩) m_3_13 m_3_14 rfl rfl hP hD hS hA 1 rfl wfC (Nat.le_of_ble_eq_true rfl) dX4_firstHop_49 (fun H locs hP hD hS => ?_)
            refine lv_iadd hx hb dX4_firstHop_52 ?_
            refine lv_iload_n hx hb dX4_firstHop_53 rfl (lv_at hl 4 rfl) ?_
            refine lv_icmp_ne (tgt := 60) hx hb dX4_firstHop_54 (by decide) (fun c7 => ?_) (fun c7 => ?_)
            · have hf := hf.trans (if_neg c7)
              refine lv_iinc (v := nI (k22 + 1)) (lv' := [(4, .int (nI (k22 + 1))), (5, .int (rc ((r * 10) + k22))), (0, .ref (ad 1)), (1, .int (nI r)), (2, .int (nI o)), (3, .int (f_X4_distanceOf r o rl))]) hx hb dX4_firstHop_60 hl (k := 5) rfl (nI_add _ _) (by decide) rfl (fun ls hl => ?_)
              refine lv_goto (tgt := 22) hx hb dX4_firstHop_63 (by decide) ?_
              exact ih22 (k22 + 1) (by omega) hf _ _ hP hD hS _ (lv_sub hl [2, 3, 4, 5, 0] rfl)
            · have hf := hf.trans (if_pos c7)
              refine lv_iload hx hb dX4_firstHop_57 (lv_at hl 5 rfl) ?_
              exact eI B hP hS ((congrArg (fun (u : Int32) => u) hf).symm) rfl dX4_firstHop_59
      exact L22 10 0 (by omega) hf _ _ hP hD hS _ (lv_sub hl [2, 3, 4, 1, 0] rfl)
    · have hf := hf.trans (if_pos c2)
      refine lv_iconst (v := -1) hx hb dX4_firstHop_17 (by decide) ?_
      exact eI B hP hS ((congrArg (fun (u : Int32) => u) hf).symm) rfl dX4_firstHop_18
def f_X4_findHops_L10 (rc : Nat → Int32) (rl : Nat → Int32) (k2 : Nat) : Nat → Nat → (Nat → Int32) → (Nat → Int32)
  | 0, _, rh_10 => rh_10
  | n10 + 1, k10, rh_10 => f_X4_findHops_L10 rc rl k2 n10 (k10 + 1) (upd rh_10 ((k2 * 10) + k10) (f_X4_firstHop k2 k10 rc rl))
def f_X4_findHops_L2 (rc : Nat → Int32) (rl : Nat → Int32) : Nat → Nat → (Nat → Int32) → (Nat → Int32)
  | 0, _, rh_2 => rh_2
  | n2 + 1, k2, rh_2 => f_X4_findHops_L2 rc rl n2 (k2 + 1) (f_X4_findHops_L10 rc rl k2 10 0 rh_2)
def f_X4_findHops (rc : Nat → Int32) (rl : Nat → Int32) (rh : Nat → Int32) : (Nat → Int32) :=
  f_X4_findHops_L2 rc rl 10 0 rh
set_option maxHeartbeats 4000000 in
set_option maxRecDepth 100000 in
theorem c_X4_findHops (l : Launch) (D : va_G) (cI cZ : ClassId) (ad : Nat → Nat) (rc rl rh fr fw fc fg ps pg pr pd qp qt qf qo ct lE lC : Nat → Int32) (cand : Int32) (lim : Int32) (now : Int32) (was : Int32) (sent : Nat) (qfi : Nat) (qsz : Nat) : MV l yX4_findHops cX4_findHops 3 { frames := 3, cells := 0, slots := 0, locals := 69 } D (TY cI cZ) [.ref (ad 1)] (wC cI ad rc rl rh fr fw fc fg ps pg pr pd qp qt qf qo ct lE lC cand lim now was (nI sent) (nI qfi) (nI qsz)) (wC cI ad rc rl (f_X4_findHops rc rl rh) fr fw fc fg ps pg pr pd qp qt qf qo ct lE lC cand lim now was (nI sent) (nI qfi) (nI qsz)) := by
  refine MV.mk ⟨rfl, rfl⟩ (by decide +kernel) (Nat.le_of_ble_eq_true rfl) ?_
  intro p e s m below meth c A ls B hA hP hD hS hl
  have hx := B.1
  have hb := B.2.1
  have hts := B.2.2.2.2.2.1
  have hN := B.2.2.2.2.2.2.2.1
  have hK := B.2.2.2.2.2.2.2.2.1
  have hl : lv_has ls 3 [(0, .ref (ad 1))] := hl
  have hf := f_X4_findHops.eq_1 rc rl rh
  refine lv_iconst (v := nI 0) hx hb dX4_findHops_0 (by decide) ?_
  refine lv_istore_n (lv' := [(1, .int (nI 0)), (0, .ref (ad 1))]) hx hb dX4_findHops_1 rfl hl (by decide) rfl (fun ls hl => ?_)
  have L2 : ∀ (n2 : Nat) (k2 : Nat) (rh_2 : Nat → Int32), k2 + n2 = 10 → f_X4_findHops rc rl rh = (f_X4_findHops_L2 rc rl n2 k2 rh_2) → ∀ (H : Heap) (locs : List Loc), va_P D vwCl (wC cI ad rc rl rh_2 fr fw fc fg ps pg pr pd qp qt qf qo ct lE lC cand lim now was (nI sent) (nI qfi) (nI qsz)) H → va_D A (wC cI ad rc rl rh_2 fr fw fc fg ps pg pr pd qp qt qf qo ct lE lC cand lim now was (nI sent) (nI qfi) (nI qsz)) → va_S A s.heap H locs → ∀ ls : Array Slot, lv_has ls 3 [(0, .ref (ad 1)), (1, .int (nI k2))] → W p l e { frames := 3, cells := 0, slots := 0, locals := 69 } s m [.ref (ad 1)].toArray below meth c H locs 0 0 (QV below s A D [.ref (ad 1)] (wC cI ad rc rl (f_X4_findHops rc rl rh) fr fw fc fg ps pg pr pd qp qt qf qo ct lE lC cand lim now was (nI sent) (nI qfi) (nI qsz))) (F0 m 2 ls []) := by
    intro n2
    induction n2 with
    | zero =>
      intro k2 rh_2 hk2 hf H locs hP hD hS ls hl
      obtain rfl : 10 = k2 := by omega
      rw [f_X4_findHops_L2] at hf
      have hl : lv_has ls 3 [(0, .ref (ad 1)), (1, .int (nI 10))] := hl
      refine lv_iload_n hx hb dX4_findHops_2 rfl (lv_at hl 1 rfl) ?_
      refine lv_bipush (v := nI 10) hx hb dX4_findHops_3 (by decide) ?_
      refine r_icmp_ge (tgt := 45) hx hb (by omega) (by omega) dX4_findHops_5 (by decide) (fun _ => ?_) (fun c => absurd c (by omega))
      exact eV B hP hS ((congrArg (fun (u : (Nat → Int32)) => wC cI ad rc rl u fr fw fc fg ps pg pr pd qp qt qf qo ct lE lC cand lim now was (nI sent) (nI qfi) (nI qsz)) hf).symm) dX4_findHops_45
    | succ n2 ih2 =>
      intro k2 rh_2 hk2 hf H locs hP hD hS ls hl
      rw [f_X4_findHops_L2] at hf
      have hl : lv_has ls 3 [(0, .ref (ad 1)), (1, .int (nI k2))] := hl
      refine lv_iload_n hx hb dX4_findHops_2 rfl (lv_at hl 1 rfl) ?_
      refine lv_bipush (v := nI 10) hx hb dX4_findHops_3 (by decide) ?_
      refine r_icmp_ge (tgt := 45) hx hb (by omega) (by omega) dX4_findHops_5 (by decide) (fun c => absurd c (by omega)) (fun _ => ?_)
      refine lv_iconst (v := nI 0) hx hb dX4_findHops_8 (by decide) ?_
      refine lv_istore_n (lv' := [(2, .int (nI 0)), (0, .ref (ad 1)), (1, .int (nI k2))]) hx hb dX4_findHops_9 rfl hl (by decide) rfl (fun ls hl => ?_)
      have L10 : ∀ (n10 : Nat) (k10 : Nat) (rh_10 : Nat → Int32), k10 + n10 = 10 → f_X4_findHops rc rl rh = (f_X4_findHops_L2 rc rl n2 (k2 + 1) (f_X4_findHops_L10 rc rl k2 n10 k10 rh_10)) → ∀ (H : Heap) (locs : List Loc), va_P D vwCl (wC cI ad rc rl rh_10 fr fw fc fg ps pg pr pd qp qt qf qo ct lE lC cand lim now was (nI sent) (nI qfi) (nI qsz)) H → va_D A (wC cI ad rc rl rh_10 fr fw fc fg ps pg pr pd qp qt qf qo ct lE lC cand lim now was (nI sent) (nI qfi) (nI qsz)) → va_S A s.heap H locs → ∀ ls : Array Slot, lv_has ls 3 [(0, .ref (ad 1)), (1, .int (nI k2)), (2, .int (nI k10))] → W p l e { frames := 3, cells := 0, slots := 0, locals := 69 } s m [.ref (ad 1)].toArray below meth c H locs 0 0 (QV below s A D [.ref (ad 1)] (wC cI ad rc rl (f_X4_findHops rc rl rh) fr fw fc fg ps pg pr pd qp qt qf qo ct lE lC cand lim now was (nI sent) (nI qfi) (nI qsz))) (F0 m 10 ls []) := by
        intro n10
        induction n10 with
        | zero =>
          intro k10 rh_10 hk10 hf H locs hP hD hS ls hl
          obtain rfl : 10 = k10 := by omega
          rw [f_X4_findHops_L10] at hf
          have hl : lv_has ls 3 [(0, .ref (ad 1)), (1, .int (nI k2)), (2, .int (nI 10))] := hl
          refine lv_iload_n hx hb dX4_findHops_10 rfl (lv_at hl 2 rfl) ?_
          refine lv_bipush (v := nI 10) hx hb dX4_findHops_11 (by decide) ?_
          refine r_icmp_ge (tgt := 39) hx hb (by omega) (by omega) dX4_findHops_13 (by decide) (fun _ => ?_) (fun c => absurd c (by omega))
          refine lv_iinc (v := nI (k2 + 1)) (lv' := [(1, .int (nI (k2 + 1))), (0, .ref (ad 1)), (2, .int (nI 10))]) hx hb dX4_findHops_39 hl (k := 1) rfl (nI_add _ _) (by decide) rfl (fun ls hl => ?_)
          refine lv_goto (tgt := 2) hx hb dX4_findHops_42 (by decide) ?_
          exact ih2 (k2 + 1) rh_10 (by omega) hf _ _ hP hD hS _ (lv_sub hl [1, 0] rfl)
        | succ n10 ih10 =>
          intro k10 rh_10 hk10 hf H locs hP hD hS ls hl
          rw [f_X4_findHops_L10] at hf
          have hl : lv_has ls 3 [(0, .ref (ad 1)), (1, .int (nI k2)), (2, .int (nI k10))] := hl
          refine lv_iload_n hx hb dX4_findHops_10 rfl (lv_at hl 2 rfl) ?_
          refine lv_bipush (v := nI 10) hx hb dX4_findHops_11 (by decide) ?_
          refine r_icmp_ge (tgt := 39) hx hb (by omega) (by omega) dX4_findHops_13 (by decide) (fun c => absurd c (by omega)) (fun _ => ?_)
          refine lv_aload_n hx hb dX4_findHops_16 rfl (lv_at hl 0 rfl) ?_
          refine g_X4_18 B hP 1 rfl rfl dX4_findHops_17 ?_
          refine lv_iload_n hx hb dX4_findHops_20 rfl (lv_at hl 1 rfl) ?_
          refine lv_bipush (v := nI 10) hx hb dX4_findHops_21 (by decide) ?_
          refine r_imul hx hb dX4_findHops_23 ?_
          refine lv_iload_n hx hb dX4_findHops_24 rfl (lv_at hl 2 rfl) ?_
          refine r_iadd hx hb dX4_findHops_25 ?_
          refine lv_aload_n hx hb dX4_findHops_26 rfl (lv_at hl 0 rfl) ?_
          refine lv_iload_n hx hb dX4_findHops_27 rfl (lv_at hl 1 rfl) ?_
          refine lv_iload_n hx hb dX4_findHops_28 rfl (lv_at hl 2 rfl) ?_
          refine fV_i (ci := 4) (as := [.int (nI k2), .int (nI k10)]) (rest := [.int (nI ((k2 * 10) + k10)), .ref (ad 4)]) B hl.1 (c_X4_firstHop l D cI cZ ad rc rl rh_10 fr fw fc fg ps pg pr pd qp qt qf qo ct lE lC cand lim now was sent qfi qsz k2 k10 (by omega) (by omega)) rfl (l_RX4_40 hts ⟨rfl, rfl⟩ ⟨Nat.le_of_ble_eq_true rfl, Nat.le_of_ble_eq_true rfl⟩) m_3_9 m_3_10 rfl rfl hP hD hS hA 1 rfl wfC (Nat.le_of_ble_eq_true rfl) dX4_findHops_29 (fun H locs hP hD hS => ?_)
          refine r_iast hx hb hK hP hD hS 4 0 rfl rfl (by omega) (by decide) dX4_findHops_32 (fun H locs hP hD hS => ?_)
          have hP : va_P D vwCl (wC cI ad rc rl (upd rh_10 ((k2 * 10) + k10) (f_X4_firstHop k2 k10 rc rl)) fr fw fc fg ps pg pr pd qp qt qf qo ct lE lC cand lim now was (nI sent) (nI qfi) (nI qsz)) H := hP
          have hD : va_D A (wC cI ad rc rl (upd rh_10 ((k2 * 10) + k10) (f_X4_firstHop k2 k10 rc rl)) fr fw fc fg ps pg pr pd qp qt qf qo ct lE lC cand lim now was (nI sent) (nI qfi) (nI qsz)) := hD
          refine lv_iinc (v := nI (k10 + 1)) (lv' := [(2, .int (nI (k10 + 1))), (0, .ref (ad 1)), (1, .int (nI k2))]) hx hb dX4_findHops_33 hl (k := 2) rfl (nI_add _ _) (by decide) rfl (fun ls hl => ?_)
          refine lv_goto (tgt := 10) hx hb dX4_findHops_36 (by decide) ?_
          exact ih10 (k10 + 1) (upd rh_10 ((k2 * 10) + k10) (f_X4_firstHop k2 k10 rc rl)) (by omega) hf _ _ hP hD hS _ (lv_sub hl [1, 2, 0] rfl)
      exact L10 10 0 rh_2 (by omega) hf _ _ hP hD hS _ (lv_sub hl [1, 2, 0] rfl)
  exact L2 10 0 rh (by omega) hf _ _ hP hD hS _ (lv_sub hl [1, 0] rfl)
set_option maxHeartbeats 4000000 in
set_option maxRecDepth 100000 in
theorem c_X4_change (l : Launch) (D : va_G) (cI cZ : ClassId) (ad : Nat → Nat) (rc rl rh fr fw fc fg ps pg pr pd qp qt qf qo ct lE lC : Nat → Int32) (cand : Int32) (lim : Int32) (now : Int32) (was : Int32) (sent : Nat) (qfi : Nat) (qsz : Nat) (r : Nat) (o : Nat) (co : Int32) (hr : r < 10) (ho : o < 10) : MV l yX4_change cX4_change 4 { frames := 4, cells := 0, slots := 0, locals := 91 } D (TY cI cZ) [.ref (ad 1), .int (nI r), .int (nI o), .int co] (wC cI ad rc rl rh fr fw fc fg ps pg pr pd qp qt qf qo ct lE lC cand lim now was (nI sent) (nI qfi) (nI qsz)) (wC cI ad (upd (upd rc ((r * 10) + o) co) ((o * 10) + r) co) (f_X4_findLeast (upd (upd rc ((r * 10) + o) co) ((o * 10) + r) co) rl) (f_X4_findHops (upd (upd rc ((r * 10) + o) co) ((o * 10) + r) co) (f_X4_findLeast (upd (upd rc ((r * 10) + o) co) ((o * 10) + r) co) rl) rh) fr fw fc fg ps pg pr pd qp qt qf qo ct lE lC cand lim now was (nI sent) (nI qfi) (nI qsz)) := by
  refine MV.mk ⟨rfl, rfl⟩ (by decide +kernel) (Nat.le_of_ble_eq_true rfl) ?_
  intro p e s m below meth c A ls B hA hP hD hS hl
  have hx := B.1
  have hb := B.2.1
  have hts := B.2.2.2.2.2.1
  have hN := B.2.2.2.2.2.2.2.1
  have hK := B.2.2.2.2.2.2.2.2.1
  have hl : lv_has ls 4 [(0, .ref (ad 1)), (1, .int (nI r)), (2, .int (nI o)), (3, .int co)] := hl
  refine lv_iload_n hx hb dX4_change_0 rfl (lv_at hl 1 rfl) ?_
  refine lv_iload_n hx hb dX4_change_1 rfl (lv_at hl 2 rfl) ?_
  refine fS_i (as := [.int (nI r), .int (nI o)]) (rest := []) B hl.1 (c_X4_arePair l D cI cZ (wC cI ad rc rl rh fr fw fc fg ps pg pr pd qp qt qf qo ct lE lC cand lim now was (nI sent) (nI qfi) (nI qsz)) r o (by omega) (by omega)) (l_RX4_27 hts ⟨rfl, rfl⟩ ⟨Nat.le_of_ble_eq_true rfl, Nat.le_of_ble_eq_true rfl⟩) m_3_17 rfl rfl hP hD hS hA rfl (Nat.le_of_ble_eq_true rfl) dX4_change_2 (fun H locs hP hD hS => ?_)
  refine r_if_eq (tgt := 40) hx hb (by omega) dX4_change_5 (by decide) (fun c => absurd c (by omega)) (fun _ => ?_)
  refine lv_aload_n hx hb dX4_change_8 rfl (lv_at hl 0 rfl) ?_
  refine g_X4_9 B hP 1 rfl rfl dX4_change_9 ?_
  refine lv_iload_n hx hb dX4_change_12 rfl (lv_at hl 1 rfl) ?_
  refine lv_bipush (v := nI 10) hx hb dX4_change_13 (by decide) ?_
  refine r_imul hx hb dX4_change_15 ?_
  refine lv_iload_n hx hb dX4_change_16 rfl (lv_at hl 2 rfl) ?_
  refine r_iadd hx hb dX4_change_17 ?_
  refine lv_iload_n hx hb dX4_change_18 rfl (lv_at hl 3 rfl) ?_
  refine r_iast hx hb hK hP hD hS 2 0 rfl rfl (by omega) (by decide) dX4_change_19 (fun H locs hP hD hS => ?_)
  have hP : va_P D vwCl (wC cI ad (upd rc ((r * 10) + o) co) rl rh fr fw fc fg ps pg pr pd qp qt qf qo ct lE lC cand lim now was (nI sent) (nI qfi) (nI qsz)) H := hP
  have hD : va_D A (wC cI ad (upd rc ((r * 10) + o) co) rl rh fr fw fc fg ps pg pr pd qp qt qf qo ct lE lC cand lim now was (nI sent) (nI qfi) (nI qsz)) := hD
  refine lv_aload_n hx hb dX4_change_20 rfl (lv_at hl 0 rfl) ?_
  refine g_X4_9 B hP 1 rfl rfl dX4_change_21 ?_
  refine lv_iload_n hx hb dX4_change_24 rfl (lv_at hl 2 rfl) ?_
  refine lv_bipush (v := nI 10) hx hb dX4_change_25 (by decide) ?_
  refine r_imul hx hb dX4_change_27 ?_
  refine lv_iload_n hx hb dX4_change_28 rfl (lv_at hl 1 rfl) ?_
  refine r_iadd hx hb dX4_change_29 ?_
  refine lv_iload_n hx hb dX4_change_30 rfl (lv_at hl 3 rfl) ?_
  refine r_iast hx hb hK hP hD hS 2 0 rfl rfl (by omega) (by decide) dX4_change_31 (fun H locs hP hD hS => ?_)
  have hP : va_P D vwCl (wC cI ad (upd (upd rc ((r * 10) + o) co) ((o * 10) + r) co) rl rh fr fw fc fg ps pg pr pd qp qt qf qo ct lE lC cand lim now was (nI sent) (nI qfi) (nI qsz)) H := hP
  have hD : va_D A (wC cI ad (upd (upd rc ((r * 10) + o) co) ((o * 10) + r) co) rl rh fr fw fc fg ps pg pr pd qp qt qf qo ct lE lC cand lim now was (nI sent) (nI qfi) (nI qsz)) := hD
  refine lv_aload_n hx hb dX4_change_32 rfl (lv_at hl 0 rfl) ?_
  refine fV_v (ci := 4) (as := []) (rest := []) B hl.1 (c_X4_findLeast l D cI cZ ad (upd (upd rc ((r * 10) + o) co) ((o * 10) + r) co) rl rh fr fw fc fg ps pg pr pd qp qt qf qo ct lE lC cand lim now was sent qfi qsz) rfl (l_RX4_21 hts ⟨rfl, rfl⟩ ⟨Nat.le_of_ble_eq_true rfl, Nat.le_of_ble_eq_true rfl⟩) m_2_20 m_2_21 rfl rfl hP hD hS hA 1 rfl wfC (Nat.le_of_ble_eq_true rfl) dX4_change_33 (fun H locs hP hD hS => ?_)
  refine lv_aload_n hx hb dX4_change_36 rfl (lv_at hl 0 rfl) ?_
  refine fV_v (ci := 4) (as := []) (rest := []) B hl.1 (c_X4_findHops l D cI cZ ad (upd (upd rc ((r * 10) + o) co) ((o * 10) + r) co) (f_X4_findLeast (upd (upd rc ((r * 10) + o) co) ((o * 10) + r) co) rl) rh fr fw fc fg ps pg pr pd qp qt qf qo ct lE lC cand lim now was sent qfi qsz) rfl (l_RX4_24 hts ⟨rfl, rfl⟩ ⟨Nat.le_of_ble_eq_true rfl, Nat.le_of_ble_eq_true rfl⟩) m_3_5 m_3_6 rfl rfl hP hD hS hA 1 rfl wfC (Nat.le_of_ble_eq_true rfl) dX4_change_37 (fun H locs hP hD hS => ?_)
  exact eV B hP hS rfl dX4_change_40
