set_option maxHeartbeats 4000000 in
set_option maxRecDepth 100000 in
theorem c_X2_setRoot (l : Launch) (D : va_G) (cI cZ : ClassId) (ad : Nat → Nat) (rc rl rh fr fw fc fg ps pg pr pd qp qt qf qo ct lE lC : Nat → Int32) (cand : Int32) (lim : Int32) (now : Int32) (was : Int32) (sent : Nat) (qfi : Nat) (qsz : Nat) (t : Nat) (x : Int32) (ht : t < 44) : MV l yX2_setRoot cX2_setRoot 3 { frames := 1, cells := 0, slots := 0, locals := 20 } D (TY cI cZ) [.ref (ad 5), .int (nI t), .int x] (wC cI ad rc rl rh fr fw fc fg ps pg pr pd qp qt qf qo ct lE lC cand lim now was (nI sent) (nI qfi) (nI qsz)) (wC cI ad rc rl rh (upd fr t x) fw fc fg ps pg pr pd qp qt qf qo ct lE lC cand lim now was (nI sent) (nI qfi) (nI qsz)) := by
  refine MV.mk ⟨rfl, rfl⟩ (by decide +kernel) (Nat.le_of_ble_eq_true rfl) ?_
  intro p e s m below meth c A ls B hA hP hD hS hl
  have hx := B.1
  have hb := B.2.1
  have hts := B.2.2.2.2.2.1
  have hN := B.2.2.2.2.2.2.2.1
  have hK := B.2.2.2.2.2.2.2.2.1
  have hl : lv_has ls 3 [(0, .ref (ad 5)), (1, .int (nI t)), (2, .int x)] := hl
  refine lv_iload_n hx hb dX2_setRoot_0 rfl (lv_at hl 1 rfl) ?_
  refine fN_i (as := [.int (nI t)]) (rest := []) B hl.1 (c_X5_isTree l D cI cZ (wC cI ad rc rl rh fr fw fc fg ps pg pr pd qp qt qf qo ct lE lC cand lim now was (nI sent) (nI qfi) (nI qsz)) t (by omega)) (l_RX2_38 hts hN ⟨rfl, rfl⟩ ⟨Nat.le_of_ble_eq_true rfl, Nat.le_of_ble_eq_true rfl⟩) m_4_23 rfl rfl hP hD hS hA rfl (Nat.le_of_ble_eq_true rfl) dX2_setRoot_1 (fun H locs hP hD hS => ?_)
  refine r_if_eq (tgt := 14) hx hb (by omega) dX2_setRoot_4 (by decide) (fun c => absurd c (by omega)) (fun _ => ?_)
  refine lv_aload_n hx hb dX2_setRoot_7 rfl (lv_at hl 0 rfl) ?_
  refine g_X2_9 B hP 5 rfl rfl dX2_setRoot_8 ?_
  refine lv_iload_n hx hb dX2_setRoot_11 rfl (lv_at hl 1 rfl) ?_
  refine lv_iload_n hx hb dX2_setRoot_12 rfl (lv_at hl 2 rfl) ?_
  refine r_iast hx hb hK hP hD hS 6 0 rfl rfl (by omega) (by decide) dX2_setRoot_13 (fun H locs hP hD hS => ?_)
  have hP : va_P D vwCl (wC cI ad rc rl rh (upd fr t x) fw fc fg ps pg pr pd qp qt qf qo ct lE lC cand lim now was (nI sent) (nI qfi) (nI qsz)) H := hP
  have hD : va_D A (wC cI ad rc rl rh (upd fr t x) fw fc fg ps pg pr pd qp qt qf qo ct lE lC cand lim now was (nI sent) (nI qfi) (nI qsz)) := hD
  exact eV B hP hS rfl dX2_setRoot_14
set_option maxHeartbeats 4000000 in
set_option maxRecDepth 100000 in
theorem c_X2_rootOf (l : Launch) (D : va_G) (cI cZ : ClassId) (ad : Nat → Nat) (rc rl rh fr fw fc fg ps pg pr pd qp qt qf qo ct lE lC : Nat → Int32) (cand : Int32) (lim : Int32) (now : Int32) (was : Int32) (sent : Nat) (qfi : Nat) (qsz : Nat) (t : Nat) (ht : t < 44) : MI l yX2_rootOf cX2_rootOf 2 .int { frames := 1, cells := 0, slots := 0, locals := 20 } D (TY cI cZ) [.ref (ad 5), .int (nI t)] (wC cI ad rc rl rh fr fw fc fg ps pg pr pd qp qt qf qo ct lE lC cand lim now was (nI sent) (nI qfi) (nI qsz)) (wC cI ad rc rl rh fr fw fc fg ps pg pr pd qp qt qf qo ct lE lC cand lim now was (nI sent) (nI qfi) (nI qsz)) (fr t) := by
  refine MI.mk ⟨rfl, rfl⟩ (by decide +kernel) (Nat.le_of_ble_eq_true rfl) ?_
  intro p e s m below meth c A ls B hA hP hD hS hl
  have hx := B.1
  have hb := B.2.1
  have hts := B.2.2.2.2.2.1
  have hN := B.2.2.2.2.2.2.2.1
  have hK := B.2.2.2.2.2.2.2.2.1
  have hl : lv_has ls 2 [(0, .ref (ad 5)), (1, .int (nI t))] := hl
  refine lv_iload_n hx hb dX2_rootOf_0 rfl (lv_at hl 1 rfl) ?_
  refine fN_i (as := [.int (nI t)]) (rest := []) B hl.1 (c_X5_isTree l D cI cZ (wC cI ad rc rl rh fr fw fc fg ps pg pr pd qp qt qf qo ct lE lC cand lim now was (nI sent) (nI qfi) (nI qsz)) t (by omega)) (l_RX2_38 hts hN ⟨rfl, rfl⟩ ⟨Nat.le_of_ble_eq_true rfl, Nat.le_of_ble_eq_true rfl⟩) m_4_23 rfl rfl hP hD hS hA rfl (Nat.le_of_ble_eq_true rfl) dX2_rootOf_1 (fun H locs hP hD hS => ?_)
  refine r_if_eq (tgt := 16) hx hb (by omega) dX2_rootOf_4 (by decide) (fun c => absurd c (by omega)) (fun _ => ?_)
  refine lv_aload_n hx hb dX2_rootOf_7 rfl (lv_at hl 0 rfl) ?_
  refine g_X2_9 B hP 5 rfl rfl dX2_rootOf_8 ?_
  refine lv_iload_n hx hb dX2_rootOf_11 rfl (lv_at hl 1 rfl) ?_
  refine r_iald hx hb hK hP 6 0 rfl rfl (by omega) (by decide) dX2_rootOf_12 ?_
  refine lv_goto (tgt := 17) hx hb dX2_rootOf_13 (by decide) ?_
  exact eI B hP hS rfl rfl dX2_rootOf_17
set_option maxHeartbeats 4000000 in
set_option maxRecDepth 100000 in
theorem c_X2_wantingOf (l : Launch) (D : va_G) (cI cZ : ClassId) (ad : Nat → Nat) (rc rl rh fr fw fc fg ps pg pr pd qp qt qf qo ct lE lC : Nat → Int32) (cand : Int32) (lim : Int32) (now : Int32) (was : Int32) (sent : Nat) (qfi : Nat) (qsz : Nat) (t : Nat) (ht : t < 44) : MI l yX2_wantingOf cX2_wantingOf 2 .int { frames := 1, cells := 0, slots := 0, locals := 20 } D (TY cI cZ) [.ref (ad 5), .int (nI t)] (wC cI ad rc rl rh fr fw fc fg ps pg pr pd qp qt qf qo ct lE lC cand lim now was (nI sent) (nI qfi) (nI qsz)) (wC cI ad rc rl rh fr fw fc fg ps pg pr pd qp qt qf qo ct lE lC cand lim now was (nI sent) (nI qfi) (nI qsz)) (fw t) := by
  refine MI.mk ⟨rfl, rfl⟩ (by decide +kernel) (Nat.le_of_ble_eq_true rfl) ?_
  intro p e s m below meth c A ls B hA hP hD hS hl
  have hx := B.1
  have hb := B.2.1
  have hts := B.2.2.2.2.2.1
  have hN := B.2.2.2.2.2.2.2.1
  have hK := B.2.2.2.2.2.2.2.2.1
  have hl : lv_has ls 2 [(0, .ref (ad 5)), (1, .int (nI t))] := hl
  refine lv_iload_n hx hb dX2_wantingOf_0 rfl (lv_at hl 1 rfl) ?_
  refine fN_i (as := [.int (nI t)]) (rest := []) B hl.1 (c_X5_isTree l D cI cZ (wC cI ad rc rl rh fr fw fc fg ps pg pr pd qp qt qf qo ct lE lC cand lim now was (nI sent) (nI qfi) (nI qsz)) t (by omega)) (l_RX2_38 hts hN ⟨rfl, rfl⟩ ⟨Nat.le_of_ble_eq_true rfl, Nat.le_of_ble_eq_true rfl⟩) m_4_23 rfl rfl hP hD hS hA rfl (Nat.le_of_ble_eq_true rfl) dX2_wantingOf_1 (fun H locs hP hD hS => ?_)
  refine r_if_eq (tgt := 16) hx hb (by omega) dX2_wantingOf_4 (by decide) (fun c => absurd c (by omega)) (fun _ => ?_)
  refine lv_aload_n hx hb dX2_wantingOf_7 rfl (lv_at hl 0 rfl) ?_
  refine g_X2_15 B hP 5 rfl rfl dX2_wantingOf_8 ?_
  refine lv_iload_n hx hb dX2_wantingOf_11 rfl (lv_at hl 1 rfl) ?_
  refine r_iald hx hb hK hP 7 0 rfl rfl (by omega) (by decide) dX2_wantingOf_12 ?_
  refine lv_goto (tgt := 17) hx hb dX2_wantingOf_13 (by decide) ?_
  exact eI B hP hS rfl rfl dX2_wantingOf_17
set_option maxHeartbeats 4000000 in
set_option maxRecDepth 100000 in
theorem c_X2_parentOf (l : Launch) (D : va_G) (cI cZ : ClassId) (ad : Nat → Nat) (rc rl rh fr fw fc fg ps pg pr pd qp qt qf qo ct lE lC : Nat → Int32) (cand : Int32) (lim : Int32) (now : Int32) (was : Int32) (sent : Nat) (qfi : Nat) (qsz : Nat) (t : Nat) (r : Nat) (ht : t < 44) (hr : r < 10) : MI l yX2_parentOf cX2_parentOf 3 .int { frames := 1, cells := 0, slots := 0, locals := 20 } D (TY cI cZ) [.ref (ad 5), .int (nI t), .int (nI r)] (wC cI ad rc rl rh fr fw fc fg ps pg pr pd qp qt qf qo ct lE lC cand lim now was (nI sent) (nI qfi) (nI qsz)) (wC cI ad rc rl rh fr fw fc fg ps pg pr pd qp qt qf qo ct lE lC cand lim now was (nI sent) (nI qfi) (nI qsz)) (fc ((t * 10) + r)) := by
  refine MI.mk ⟨rfl, rfl⟩ (by decide +kernel) (Nat.le_of_ble_eq_true rfl) ?_
  intro p e s m below meth c A ls B hA hP hD hS hl
  have hx := B.1
  have hb := B.2.1
  have hts := B.2.2.2.2.2.1
  have hN := B.2.2.2.2.2.2.2.1
  have hK := B.2.2.2.2.2.2.2.2.1
  have hl : lv_has ls 3 [(0, .ref (ad 5)), (1, .int (nI t)), (2, .int (nI r))] := hl
  refine lv_iload_n hx hb dX2_parentOf_0 rfl (lv_at hl 1 rfl) ?_
  refine fN_i (as := [.int (nI t)]) (rest := []) B hl.1 (c_X5_isTree l D cI cZ (wC cI ad rc rl rh fr fw fc fg ps pg pr pd qp qt qf qo ct lE lC cand lim now was (nI sent) (nI qfi) (nI qsz)) t (by omega)) (l_RX2_38 hts hN ⟨rfl, rfl⟩ ⟨Nat.le_of_ble_eq_true rfl, Nat.le_of_ble_eq_true rfl⟩) m_4_23 rfl rfl hP hD hS hA rfl (Nat.le_of_ble_eq_true rfl) dX2_parentOf_1 (fun H locs hP hD hS => ?_)
  refine r_if_eq (tgt := 28) hx hb (by omega) dX2_parentOf_4 (by decide) (fun c => absurd c (by omega)) (fun _ => ?_)
  refine lv_iload_n hx hb dX2_parentOf_7 rfl (lv_at hl 2 rfl) ?_
  refine fN_i (as := [.int (nI r)]) (rest := []) B hl.1 (c_X5_isRouter l D cI cZ (wC cI ad rc rl rh fr fw fc fg ps pg pr pd qp qt qf qo ct lE lC cand lim now was (nI sent) (nI qfi) (nI qsz)) r (by omega)) (l_RX2_42 hts hN ⟨rfl, rfl⟩ ⟨Nat.le_of_ble_eq_true rfl, Nat.le_of_ble_eq_true rfl⟩) m_4_14 rfl rfl hP hD hS hA rfl (Nat.le_of_ble_eq_true rfl) dX2_parentOf_8 (fun H locs hP hD hS => ?_)
  refine r_if_eq (tgt := 28) hx hb (by omega) dX2_parentOf_11 (by decide) (fun c => absurd c (by omega)) (fun _ => ?_)
  refine lv_aload_n hx hb dX2_parentOf_14 rfl (lv_at hl 0 rfl) ?_
  refine g_X2_18 B hP 5 rfl rfl dX2_parentOf_15 ?_
  refine lv_iload_n hx hb dX2_parentOf_18 rfl (lv_at hl 1 rfl) ?_
  refine lv_bipush (v := nI 10) hx hb dX2_parentOf_19 (by decide) ?_
  refine r_imul hx hb dX2_parentOf_21 ?_
  refine lv_iload_n hx hb dX2_parentOf_22 rfl (lv_at hl 2 rfl) ?_
  refine r_iadd hx hb dX2_parentOf_23 ?_
  refine r_iald hx hb hK hP 8 0 rfl rfl (by omega) (by decide) dX2_parentOf_24 ?_
  refine lv_goto (tgt := 29) hx hb dX2_parentOf_25 (by decide) ?_
  exact eI B hP hS rfl rfl dX2_parentOf_29
def f_X2_parentOf_r (t : Nat) (x : Int32) (fc : Nat → Int32) : Int32 :=
  if (f_X5_isRouter_r x) = true then fc ((t * 10) + x.toNatClampNeg) else -1
set_option maxHeartbeats 4000000 in
set_option maxRecDepth 100000 in
theorem c_X2_parentOf_r (l : Launch) (D : va_G) (cI cZ : ClassId) (ad : Nat → Nat) (rc rl rh fr fw fc fg ps pg pr pd qp qt qf qo ct lE lC : Nat → Int32) (cand : Int32) (lim : Int32) (now : Int32) (was : Int32) (sent : Nat) (qfi : Nat) (qsz : Nat) (t : Nat) (x : Int32) (ht : t < 44) : MI l yX2_parentOf cX2_parentOf 3 .int { frames := 1, cells := 0, slots := 0, locals := 20 } D (TY cI cZ) [.ref (ad 5), .int (nI t), .int x] (wC cI ad rc rl rh fr fw fc fg ps pg pr pd qp qt qf qo ct lE lC cand lim now was (nI sent) (nI qfi) (nI qsz)) (wC cI ad rc rl rh fr fw fc fg ps pg pr pd qp qt qf qo ct lE lC cand lim now was (nI sent) (nI qfi) (nI qsz)) (f_X2_parentOf_r t x fc) := by
  refine MI.mk ⟨rfl, rfl⟩ (by decide +kernel) (Nat.le_of_ble_eq_true rfl) ?_
  intro p e s m below meth c A ls B hA hP hD hS hl
  have hx := B.1
  have hb := B.2.1
  have hts := B.2.2.2.2.2.1
  have hN := B.2.2.2.2.2.2.2.1
  have hK := B.2.2.2.2.2.2.2.2.1
  have hl : lv_has ls 3 [(0, .ref (ad 5)), (1, .int (nI t)), (2, .int x)] := hl
  have hf := f_X2_parentOf_r.eq_1 t x fc
  refine lv_iload_n hx hb dX2_parentOf_0 rfl (lv_at hl 1 rfl) ?_
  refine fN_i (as := [.int (nI t)]) (rest := []) B hl.1 (c_X5_isTree l D cI cZ (wC cI ad rc rl rh fr fw fc fg ps pg pr pd qp qt qf qo ct lE lC cand lim now was (nI sent) (nI qfi) (nI qsz)) t (by omega)) (l_RX2_38 hts hN ⟨rfl, rfl⟩ ⟨Nat.le_of_ble_eq_true rfl, Nat.le_of_ble_eq_true rfl⟩) m_4_23 rfl rfl hP hD hS hA rfl (Nat.le_of_ble_eq_true rfl) dX2_parentOf_1 (fun H locs hP hD hS => ?_)
  refine r_if_eq (tgt := 28) hx hb (by omega) dX2_parentOf_4 (by decide) (fun c => absurd c (by omega)) (fun _ => ?_)
  refine lv_iload_n hx hb dX2_parentOf_7 rfl (lv_at hl 2 rfl) ?_
  refine fN_i (as := [.int x]) (rest := []) B hl.1 (c_X5_isRouter_r l D cI cZ (wC cI ad rc rl rh fr fw fc fg ps pg pr pd qp qt qf qo ct lE lC cand lim now was (nI sent) (nI qfi) (nI qsz)) x) (l_RX2_42 hts hN ⟨rfl, rfl⟩ ⟨Nat.le_of_ble_eq_true rfl, Nat.le_of_ble_eq_true rfl⟩) m_4_14 rfl rfl hP hD hS hA rfl (Nat.le_of_ble_eq_true rfl) dX2_parentOf_8 (fun H locs hP hD hS => ?_)
  refine r_if_eq_b (tgt := 28) hx hb dX2_parentOf_11 (by decide) (fun c1 => ?_) (fun c1 => ?_)
  · have hf := hf.trans (if_neg c1)
    refine lv_iconst (v := -1) hx hb dX2_parentOf_28 (by decide) ?_
    exact eI B hP hS ((congrArg (fun (u : Int32) => u) hf).symm) rfl dX2_parentOf_29
  · have hf := hf.trans (if_pos c1)
    have ej11 := (isRouter_r c1).1
    have hj11 := (isRouter_r c1).2
    refine lv_aload_n hx hb dX2_parentOf_14 rfl (lv_at hl 0 rfl) ?_
    refine g_X2_18 B hP 5 rfl rfl dX2_parentOf_15 ?_
    refine lv_iload_n hx hb dX2_parentOf_18 rfl (lv_at hl 1 rfl) ?_
    refine lv_bipush (v := nI 10) hx hb dX2_parentOf_19 (by decide) ?_
    refine r_imul hx hb dX2_parentOf_21 ?_
    refine lv_iload_n hx hb dX2_parentOf_22 rfl (lv_at hl 2 rfl) ?_
    refine r_eq ej11 ?_
    refine r_iadd hx hb dX2_parentOf_23 ?_
    refine r_iald hx hb hK hP 8 0 rfl rfl (by omega) (by decide) dX2_parentOf_24 ?_
    refine lv_goto (tgt := 29) hx hb dX2_parentOf_25 (by decide) ?_
    exact eI B hP hS ((congrArg (fun (u : Int32) => u) hf).symm) rfl dX2_parentOf_29
theorem parent_r {t : Nat} {x : Int32} {fc : Nat → Int32} (h : ¬ f_X2_parentOf_r t x fc = -1) : x = nI x.toNatClampNeg ∧ x.toNatClampNeg < 10 := by
  unfold f_X2_parentOf_r at h
  by_cases h1 : (f_X5_isRouter_r x) = true
  · exact isRouter_r h1
  · rw [if_neg h1] at h; exact absurd rfl h
def f_X2_branchesFrom_L21 (t : Nat) (r : Nat) (fc : Nat → Int32) : Nat → Nat → Int32 → Int32
  | 0, _, x3_21 => x3_21
  | n21 + 1, k21, x3_21 => if (fc ((t * 10) + k21)) = (nI r) then f_X2_branchesFrom_L21 t r fc n21 (k21 + 1) (x3_21 ||| ((nI 1) <<< ((nI k21) &&& 31))) else f_X2_branchesFrom_L21 t r fc n21 (k21 + 1) x3_21
def f_X2_branchesFrom (t : Nat) (r : Nat) (fc : Nat → Int32) : Int32 :=
  f_X2_branchesFrom_L21 t r fc 10 0 (nI 0)
set_option maxHeartbeats 4000000 in
set_option maxRecDepth 100000 in
theorem c_X2_branchesFrom (l : Launch) (D : va_G) (cI cZ : ClassId) (ad : Nat → Nat) (rc rl rh fr fw fc fg ps pg pr pd qp qt qf qo ct lE lC : Nat → Int32) (cand : Int32) (lim : Int32) (now : Int32) (was : Int32) (sent : Nat) (qfi : Nat) (qsz : Nat) (t : Nat) (r : Nat) (ht : t < 44) (hr : r < 10) : MI l yX2_branchesFrom cX2_branchesFrom 5 .int { frames := 1, cells := 0, slots := 0, locals := 20 } D (TY cI cZ) [.ref (ad 5), .int (nI t), .int (nI r)] (wC cI ad rc rl rh fr fw fc fg ps pg pr pd qp qt qf qo ct lE lC cand lim now was (nI sent) (nI qfi) (nI qsz)) (wC cI ad rc rl rh fr fw fc fg ps pg pr pd qp qt qf qo ct lE lC cand lim now was (nI sent) (nI qfi) (nI qsz)) (f_X2_branchesFrom t r fc) := by
  refine MI.mk ⟨rfl, rfl⟩ (by decide +kernel) (Nat.le_of_ble_eq_true rfl) ?_
  intro p e s m below meth c A ls B hA hP hD hS hl
  have hx := B.1
  have hb := B.2.1
  have hts := B.2.2.2.2.2.1
  have hN := B.2.2.2.2.2.2.2.1
  have hK := B.2.2.2.2.2.2.2.2.1
  have hl : lv_has ls 5 [(0, .ref (ad 5)), (1, .int (nI t)), (2, .int (nI r))] := hl
  have hf := f_X2_branchesFrom.eq_1 t r fc
  refine lv_iload_n hx hb dX2_branchesFrom_0 rfl (lv_at hl 1 rfl) ?_
  refine fN_i (as := [.int (nI t)]) (rest := []) B hl.1 (c_X5_isTree l D cI cZ (wC cI ad rc rl rh fr fw fc fg ps pg pr pd qp qt qf qo ct lE lC cand lim now was (nI sent) (nI qfi) (nI qsz)) t (by omega)) (l_RX2_38 hts hN ⟨rfl, rfl⟩ ⟨Nat.le_of_ble_eq_true rfl, Nat.le_of_ble_eq_true rfl⟩) m_4_23 rfl rfl hP hD hS hA rfl (Nat.le_of_ble_eq_true rfl) dX2_branchesFrom_1 (fun H locs hP hD hS => ?_)
  refine r_if_eq (tgt := 14) hx hb (by omega) dX2_branchesFrom_4 (by decide) (fun c => absurd c (by omega)) (fun _ => ?_)
  refine lv_iload_n hx hb dX2_branchesFrom_7 rfl (lv_at hl 2 rfl) ?_
  refine fN_i (as := [.int (nI r)]) (rest := []) B hl.1 (c_X5_isRouter l D cI cZ (wC cI ad rc rl rh fr fw fc fg ps pg pr pd qp qt qf qo ct lE lC cand lim now was (nI sent) (nI qfi) (nI qsz)) r (by omega)) (l_RX2_42 hts hN ⟨rfl, rfl⟩ ⟨Nat.le_of_ble_eq_true rfl, Nat.le_of_ble_eq_true rfl⟩) m_4_14 rfl rfl hP hD hS hA rfl (Nat.le_of_ble_eq_true rfl) dX2_branchesFrom_8 (fun H locs hP hD hS => ?_)
  refine r_if_ne (tgt := 16) hx hb (by omega) dX2_branchesFrom_11 (by decide) (fun _ => ?_) (fun c => absurd c (by omega))
  refine lv_iconst (v := nI 0) hx hb dX2_branchesFrom_16 (by decide) ?_
  refine lv_istore_n (lv' := [(3, .int (nI 0)), (0, .ref (ad 5)), (1, .int (nI t)), (2, .int (nI r))]) hx hb dX2_branchesFrom_17 rfl hl (by decide) rfl (fun ls hl => ?_)
  refine lv_iconst (v := nI 0) hx hb dX2_branchesFrom_18 (by decide) ?_
  refine lv_istore (lv' := [(4, .int (nI 0)), (3, .int (nI 0)), (0, .ref (ad 5)), (1, .int (nI t)), (2, .int (nI r))]) hx hb dX2_branchesFrom_19 hl (by decide) rfl (fun ls hl => ?_)
  have L21 : ∀ (n21 : Nat) (k21 : Nat) (x3_21 : Int32), k21 + n21 = 10 → f_X2_branchesFrom t r fc = (f_X2_branchesFrom_L21 t r fc n21 k21 x3_21) → ∀ (H : Heap) (locs : List Loc), va_P D vwCl (wC cI ad rc rl rh fr fw fc fg ps pg pr pd qp qt qf qo ct lE lC cand lim now was (nI sent) (nI qfi) (nI qsz)) H → va_D A (wC cI ad rc rl rh fr fw fc fg ps pg pr pd qp qt qf qo ct lE lC cand lim now was (nI sent) (nI qfi) (nI qsz)) → va_S A s.heap H locs → ∀ ls : Array Slot, lv_has ls 5 [(0, .ref (ad 5)), (1, .int (nI t)), (2, .int (nI r)), (3, .int x3_21), (4, .int (nI k21))] → W p l e { frames := 1, cells := 0, slots := 0, locals := 20 } s m [.ref (ad 5), .int (nI t), .int (nI r)].toArray below meth c H locs 0 0 (QI below s A D [.ref (ad 5), .int (nI t), .int (nI r)] (wC cI ad rc rl rh fr fw fc fg ps pg pr pd qp qt qf qo ct lE lC cand lim now was (nI sent) (nI qfi) (nI qsz)) (f_X2_branchesFrom t r fc)) (F0 m 21 ls []) := by
    intro n21
    induction n21 with
    | zero =>
      intro k21 x3_21 hk21 hf H locs hP hD hS ls hl
      obtain rfl : 10 = k21 := by omega
      rw [f_X2_branchesFrom_L21] at hf
      have hl : lv_has ls 5 [(0, .ref (ad 5)), (1, .int (nI t)), (2, .int (nI r)), (3, .int x3_21), (4, .int (nI 10))] := hl
      refine lv_iload hx hb dX2_branchesFrom_21 (lv_at hl 4 rfl) ?_
      refine lv_bipush (v := nI 10) hx hb dX2_branchesFrom_23 (by decide) ?_
      refine r_icmp_ge (tgt := 58) hx hb (by omega) (by omega) dX2_branchesFrom_25 (by decide) (fun _ => ?_) (fun c => absurd c (by omega))
      refine lv_iload_n hx hb dX2_branchesFrom_58 rfl (lv_at hl 3 rfl) ?_
      exact eI B hP hS ((congrArg (fun (u : Int32) => u) hf).symm) rfl dX2_branchesFrom_59
    | succ n21 ih21 =>
      intro k21 x3_21 hk21 hf H locs hP hD hS ls hl
      rw [f_X2_branchesFrom_L21] at hf
      have hl : lv_has ls 5 [(0, .ref (ad 5)), (1, .int (nI t)), (2, .int (nI r)), (3, .int x3_21), (4, .int (nI k21))] := hl
      refine lv_iload hx hb dX2_branchesFrom_21 (lv_at hl 4 rfl) ?_
      refine lv_bipush (v := nI 10) hx hb dX2_branchesFrom_23 (by decide) ?_
      refine r_icmp_ge (tgt := 58) hx hb (by omega) (by omega) dX2_branchesFrom_25 (by decide) (fun c => absurd c (by omega)) (fun _ => ?_)
      refine lv_aload_n hx hb dX2_branchesFrom_28 rfl (lv_at hl 0 rfl) ?_
      refine g_X2_18 B hP 5 rfl rfl dX2_branchesFrom_29 ?_
      refine lv_iload_n hx hb dX2_branchesFrom_32 rfl (lv_at hl 1 rfl) ?_
      refine lv_bipush (v := nI 10) hx hb dX2_branchesFrom_33 (by decide) ?_
      refine r_imul hx hb dX2_branchesFrom_35 ?_
      refine lv_iload hx hb dX2_branchesFrom_36 (lv_at hl 4 rfl) ?_
      refine r_iadd hx hb dX2_branchesFrom_38 ?_
      refine r_iald hx hb hK hP 8 0 rfl rfl (by omega) (by decide) dX2_branchesFrom_39 ?_
      refine lv_iload_n hx hb dX2_branchesFrom_40 rfl (lv_at hl 2 rfl) ?_
      refine lv_icmp_ne (tgt := 52) hx hb dX2_branchesFrom_41 (by decide) (fun c4 => ?_) (fun c4 => ?_)
      · have hf := hf.trans (if_neg c4)
        refine lv_iinc (v := nI (k21 + 1)) (lv' := [(4, .int (nI (k21 + 1))), (0, .ref (ad 5)), (1, .int (nI t)), (2, .int (nI r)), (3, .int x3_21)]) hx hb dX2_branchesFrom_52 hl (k := 4) rfl (nI_add _ _) (by decide) rfl (fun ls hl => ?_)
        refine lv_goto (tgt := 21) hx hb dX2_branchesFrom_55 (by decide) ?_
        exact ih21 (k21 + 1) x3_21 (by omega) hf _ _ hP hD hS _ (lv_sub hl [1, 2, 3, 4, 0] rfl)
      · have hf := hf.trans (if_pos c4)
        refine lv_iload_n hx hb dX2_branchesFrom_44 rfl (lv_at hl 3 rfl) ?_
        refine lv_iload hx hb dX2_branchesFrom_45 (lv_at hl 4 rfl) ?_
        refine fN_i (as := [.int (nI k21)]) (rest := [.int x3_21]) B hl.1 (c_X5_bit l D cI cZ (wC cI ad rc rl rh fr fw fc fg ps pg pr pd qp qt qf qo ct lE lC cand lim now was (nI sent) (nI qfi) (nI qsz)) k21 (by omega)) (l_RX2_45 hts hN ⟨rfl, rfl⟩ ⟨Nat.le_of_ble_eq_true rfl, Nat.le_of_ble_eq_true rfl⟩) m_7_17 rfl rfl hP hD hS hA rfl (Nat.le_of_ble_eq_true rfl) dX2_branchesFrom_47 (fun H locs hP hD hS => ?_)
        refine lv_ior hx hb dX2_branchesFrom_50 ?_
        refine lv_istore_n (lv' := [(3, .int (x3_21 ||| ((nI 1) <<< ((nI k21) &&& 31)))), (0, .ref (ad 5)), (1, .int (nI t)), (2, .int (nI r)), (4, .int (nI k21))]) hx hb dX2_branchesFrom_51 rfl hl (by decide) rfl (fun ls hl => ?_)
        refine lv_iinc (v := nI (k21 + 1)) (lv' := [(4, .int (nI (k21 + 1))), (3, .int (x3_21 ||| ((nI 1) <<< ((nI k21) &&& 31)))), (0, .ref (ad 5)), (1, .int (nI t)), (2, .int (nI r))]) hx hb dX2_branchesFrom_52 hl (k := 4) rfl (nI_add _ _) (by decide) rfl (fun ls hl => ?_)
        refine lv_goto (tgt := 21) hx hb dX2_branchesFrom_55 (by decide) ?_
        exact ih21 (k21 + 1) (x3_21 ||| ((nI 1) <<< ((nI k21) &&& 31))) (by omega) hf _ _ hP hD hS _ (lv_sub hl [2, 3, 4, 1, 0] rfl)
  exact L21 10 0 (nI 0) (by omega) hf _ _ hP hD hS _ (lv_sub hl [2, 3, 4, 1, 0] rfl)
def f_X2_leavingBranches_L4 (fg : Nat → Int32) : Nat → Nat → Int32 → Int32
  | 0, _, x1_4 => x1_4
  | n4 + 1, k4, x1_4 => if (fg k4) = (-1) then f_X2_leavingBranches_L4 fg n4 (k4 + 1) x1_4 else f_X2_leavingBranches_L4 fg n4 (k4 + 1) (x1_4 + nI 1)
def f_X2_leavingBranches (fg : Nat → Int32) : Int32 :=
  f_X2_leavingBranches_L4 fg 440 0 (nI 0)
set_option maxHeartbeats 4000000 in
set_option maxRecDepth 100000 in
theorem c_X2_leavingBranches (l : Launch) (D : va_G) (cI cZ : ClassId) (ad : Nat → Nat) (rc rl rh fr fw fc fg ps pg pr pd qp qt qf qo ct lE lC : Nat → Int32) (cand : Int32) (lim : Int32) (now : Int32) (was : Int32) (sent : Nat) (qfi : Nat) (qsz : Nat) : MI l yX2_leavingBranches cX2_leavingBranches 3 .int { frames := 0, cells := 0, slots := 0, locals := 0 } D (TY cI cZ) [.ref (ad 5)] (wC cI ad rc rl rh fr fw fc fg ps pg pr pd qp qt qf qo ct lE lC cand lim now was (nI sent) (nI qfi) (nI qsz)) (wC cI ad rc rl rh fr fw fc fg ps pg pr pd qp qt qf qo ct lE lC cand lim now was (nI sent) (nI qfi) (nI qsz)) (f_X2_leavingBranches fg) := by
  refine MI.mk ⟨rfl, rfl⟩ (by decide +kernel) (Nat.le_of_ble_eq_true rfl) ?_
  intro p e s m below meth c A ls B hA hP hD hS hl
  have hx := B.1
  have hb := B.2.1
  have hts := B.2.2.2.2.2.1
  have hN := B.2.2.2.2.2.2.2.1
  have hK := B.2.2.2.2.2.2.2.2.1
  have hl : lv_has ls 3 [(0, .ref (ad 5))] := hl
  have hf := f_X2_leavingBranches.eq_1 fg
  refine lv_iconst (v := nI 0) hx hb dX2_leavingBranches_0 (by decide) ?_
  refine lv_istore_n (lv' := [(1, .int (nI 0)), (0, .ref (ad 5))]) hx hb dX2_leavingBranches_1 rfl hl (by decide) rfl (fun ls hl => ?_)
  refine lv_iconst (v := nI 0) hx hb dX2_leavingBranches_2 (by decide) ?_
  refine lv_istore_n (lv' := [(2, .int (nI 0)), (1, .int (nI 0)), (0, .ref (ad 5))]) hx hb dX2_leavingBranches_3 rfl hl (by decide) rfl (fun ls hl => ?_)
  have L4 : ∀ (n4 : Nat) (k4 : Nat) (x1_4 : Int32), k4 + n4 = 440 → f_X2_leavingBranches fg = (f_X2_leavingBranches_L4 fg n4 k4 x1_4) → ∀ (H : Heap) (locs : List Loc), va_P D vwCl (wC cI ad rc rl rh fr fw fc fg ps pg pr pd qp qt qf qo ct lE lC cand lim now was (nI sent) (nI qfi) (nI qsz)) H → va_D A (wC cI ad rc rl rh fr fw fc fg ps pg pr pd qp qt qf qo ct lE lC cand lim now was (nI sent) (nI qfi) (nI qsz)) → va_S A s.heap H locs → ∀ ls : Array Slot, lv_has ls 3 [(0, .ref (ad 5)), (1, .int x1_4), (2, .int (nI k4))] → W p l e { frames := 0, cells := 0, slots := 0, locals := 0 } s m [.ref (ad 5)].toArray below meth c H locs 0 0 (QI below s A D [.ref (ad 5)] (wC cI ad rc rl rh fr fw fc fg ps pg pr pd qp qt qf qo ct lE lC cand lim now was (nI sent) (nI qfi) (nI qsz)) (f_X2_leavingBranches fg)) (F0 m 4 ls []) := by
    intro n4
    induction n4 with
    | zero =>
      intro k4 x1_4 hk4 hf H locs hP hD hS ls hl
      obtain rfl : 440 = k4 := by omega
      rw [f_X2_leavingBranches_L4] at hf
      have hl : lv_has ls 3 [(0, .ref (ad 5)), (1, .int x1_4), (2, .int (nI 440))] := hl
      refine lv_iload_n hx hb dX2_leavingBranches_4 rfl (lv_at hl 2 rfl) ?_
      refine lv_sipush (v := nI 440) hx hb dX2_leavingBranches_5 (by decide) ?_
      refine r_icmp_ge (tgt := 30) hx hb (by omega) (by omega) dX2_leavingBranches_8 (by decide) (fun _ => ?_) (fun c => absurd c (by omega))
      refine lv_iload_n hx hb dX2_leavingBranches_30 rfl (lv_at hl 1 rfl) ?_
      exact eI B hP hS ((congrArg (fun (u : Int32) => u) hf).symm) rfl dX2_leavingBranches_31
    | succ n4 ih4 =>
      intro k4 x1_4 hk4 hf H locs hP hD hS ls hl
      rw [f_X2_leavingBranches_L4] at hf
      have hl : lv_has ls 3 [(0, .ref (ad 5)), (1, .int x1_4), (2, .int (nI k4))] := hl
      refine lv_iload_n hx hb dX2_leavingBranches_4 rfl (lv_at hl 2 rfl) ?_
      refine lv_sipush (v := nI 440) hx hb dX2_leavingBranches_5 (by decide) ?_
      refine r_icmp_ge (tgt := 30) hx hb (by omega) (by omega) dX2_leavingBranches_8 (by decide) (fun c => absurd c (by omega)) (fun _ => ?_)
      refine lv_aload_n hx hb dX2_leavingBranches_11 rfl (lv_at hl 0 rfl) ?_
      refine g_X2_21 B hP 5 rfl rfl dX2_leavingBranches_12 ?_
      refine lv_iload_n hx hb dX2_leavingBranches_15 rfl (lv_at hl 2 rfl) ?_
      refine r_iald hx hb hK hP 9 0 rfl rfl (by omega) (by decide) dX2_leavingBranches_16 ?_
      refine lv_iconst (v := -1) hx hb dX2_leavingBranches_17 (by decide) ?_
      refine lv_icmp_eq (tgt := 24) hx hb dX2_leavingBranches_18 (by decide) (fun c4 => ?_) (fun c4 => ?_)
      · have hf := hf.trans (if_pos c4)
        refine lv_iinc (v := nI (k4 + 1)) (lv' := [(2, .int (nI (k4 + 1))), (0, .ref (ad 5)), (1, .int x1_4)]) hx hb dX2_leavingBranches_24 hl (k := 2) rfl (nI_add _ _) (by decide) rfl (fun ls hl => ?_)
        refine lv_goto (tgt := 4) hx hb dX2_leavingBranches_27 (by decide) ?_
        exact ih4 (k4 + 1) x1_4 (by omega) hf _ _ hP hD hS _ (lv_sub hl [1, 2, 0] rfl)
      · have hf := hf.trans (if_neg c4)
        refine lv_iinc (v := x1_4 + nI 1) (lv' := [(1, .int (x1_4 + nI 1)), (0, .ref (ad 5)), (2, .int (nI k4))]) hx hb dX2_leavingBranches_21 hl (k := 1) rfl rfl (by decide) rfl (fun ls hl => ?_)
        refine lv_iinc (v := nI (k4 + 1)) (lv' := [(2, .int (nI (k4 + 1))), (1, .int (x1_4 + nI 1)), (0, .ref (ad 5))]) hx hb dX2_leavingBranches_24 hl (k := 2) rfl (nI_add _ _) (by decide) rfl (fun ls hl => ?_)
        refine lv_goto (tgt := 4) hx hb dX2_leavingBranches_27 (by decide) ?_
        exact ih4 (k4 + 1) (x1_4 + nI 1) (by omega) hf _ _ hP hD hS _ (lv_sub hl [2, 1, 0] rfl)
  exact L4 440 0 (nI 0) (by omega) hf _ _ hP hD hS _ (lv_sub hl [2, 1, 0] rfl)
def f_X2_isNeeded (t : Nat) (r : Nat) (fw : Nat → Int32) (fc : Nat → Int32) : Bool :=
  if (f_X5_has (fw t) r) = true then true else if (f_X2_branchesFrom t r fc) = 0 then false else true
set_option maxHeartbeats 4000000 in
set_option maxRecDepth 100000 in
theorem c_X2_isNeeded (l : Launch) (D : va_G) (cI cZ : ClassId) (ad : Nat → Nat) (rc rl rh fr fw fc fg ps pg pr pd qp qt qf qo ct lE lC : Nat → Int32) (cand : Int32) (lim : Int32) (now : Int32) (was : Int32) (sent : Nat) (qfi : Nat) (qsz : Nat) (t : Nat) (r : Nat) (ht : t < 44) (hr : r < 10) : MI l yX2_isNeeded cX2_isNeeded 3 .boolean { frames := 2, cells := 0, slots := 0, locals := 44 } D (TY cI cZ) [.ref (ad 5), .int (nI t), .int (nI r)] (wC cI ad rc rl rh fr fw fc fg ps pg pr pd qp qt qf qo ct lE lC cand lim now was (nI sent) (nI qfi) (nI qsz)) (wC cI ad rc rl rh fr fw fc fg ps pg pr pd qp qt qf qo ct lE lC cand lim now was (nI sent) (nI qfi) (nI qsz)) (bI (f_X2_isNeeded t r fw fc)) := by
  refine MI.mk ⟨rfl, rfl⟩ (by decide +kernel) (Nat.le_of_ble_eq_true rfl) ?_
  intro p e s m below meth c A ls B hA hP hD hS hl
  have hx := B.1
  have hb := B.2.1
  have hts := B.2.2.2.2.2.1
  have hN := B.2.2.2.2.2.2.2.1
  have hK := B.2.2.2.2.2.2.2.2.1
  have hl : lv_has ls 3 [(0, .ref (ad 5)), (1, .int (nI t)), (2, .int (nI r))] := hl
  have hf := f_X2_isNeeded.eq_1 t r fw fc
  refine lv_aload_n hx hb dX2_isNeeded_0 rfl (lv_at hl 0 rfl) ?_
  refine lv_iload_n hx hb dX2_isNeeded_1 rfl (lv_at hl 1 rfl) ?_
  refine fV_i (ci := 2) (as := [.int (nI t)]) (rest := []) B hl.1 (c_X2_wantingOf l D cI cZ ad rc rl rh fr fw fc fg ps pg pr pd qp qt qf qo ct lE lC cand lim now was sent qfi qsz t (by omega)) rfl (l_RX2_78 hts ⟨rfl, rfl⟩ ⟨Nat.le_of_ble_eq_true rfl, Nat.le_of_ble_eq_true rfl⟩) m_10_2 m_10_3 rfl rfl hP hD hS hA 5 rfl wfC (Nat.le_of_ble_eq_true rfl) dX2_isNeeded_2 (fun H locs hP hD hS => ?_)
  refine lv_iload_n hx hb dX2_isNeeded_5 rfl (lv_at hl 2 rfl) ?_
  refine fN_i (as := [.int (fw t), .int (nI r)]) (rest := []) B hl.1 (c_X5_has l D cI cZ (wC cI ad rc rl rh fr fw fc fg ps pg pr pd qp qt qf qo ct lE lC cand lim now was (nI sent) (nI qfi) (nI qsz)) (fw t) r (by omega)) (l_RX2_57 hts hN ⟨rfl, rfl⟩ ⟨Nat.le_of_ble_eq_true rfl, Nat.le_of_ble_eq_true rfl⟩) m_7_14 rfl rfl hP hD hS hA rfl (Nat.le_of_ble_eq_true rfl) dX2_isNeeded_6 (fun H locs hP hD hS => ?_)
  refine r_if_ne_b (tgt := 21) hx hb dX2_isNeeded_9 (by decide) (fun c1 => ?_) (fun c1 => ?_)
  · have hf := hf.trans (if_pos c1)
    refine lv_iconst (v := nI 1) hx hb dX2_isNeeded_21 (by decide) ?_
    refine lv_goto (tgt := 26) hx hb dX2_isNeeded_22 (by decide) ?_
    exact eZ B hP hS (by decide) ((congrArg (fun (u : Bool) => bI u) hf).symm) rfl dX2_isNeeded_26
  · have hf := hf.trans (if_neg c1)
    refine lv_aload_n hx hb dX2_isNeeded_12 rfl (lv_at hl 0 rfl) ?_
    refine lv_iload_n hx hb dX2_isNeeded_13 rfl (lv_at hl 1 rfl) ?_
    refine lv_iload_n hx hb dX2_isNeeded_14 rfl (lv_at hl 2 rfl) ?_
    refine fV_i (ci := 2) (as := [.int (nI t), .int (nI r)]) (rest := []) B hl.1 (c_X2_branchesFrom l D cI cZ ad rc rl rh fr fw fc fg ps pg pr pd qp qt qf qo ct lE lC cand lim now was sent qfi qsz t r (by omega) (by omega)) rfl (l_RX2_81 hts ⟨rfl, rfl⟩ ⟨Nat.le_of_ble_eq_true rfl, Nat.le_of_ble_eq_true rfl⟩) m_10_19 m_10_20 rfl rfl hP hD hS hA 5 rfl wfC (Nat.le_of_ble_eq_true rfl) dX2_isNeeded_15 (fun H locs hP hD hS => ?_)
    refine lv_if_eq (tgt := 25) hx hb dX2_isNeeded_18 (by decide) (fun c2 => ?_) (fun c2 => ?_)
    · have hf := hf.trans (if_pos c2)
      refine lv_iconst (v := nI 0) hx hb dX2_isNeeded_25 (by decide) ?_
      exact eZ B hP hS (by decide) ((congrArg (fun (u : Bool) => bI u) hf).symm) rfl dX2_isNeeded_26
    · have hf := hf.trans (if_neg c2)
      refine lv_iconst (v := nI 1) hx hb dX2_isNeeded_21 (by decide) ?_
      refine lv_goto (tgt := 26) hx hb dX2_isNeeded_22 (by decide) ?_
      exact eZ B hP hS (by decide) ((congrArg (fun (u : Bool) => bI u) hf).symm) rfl dX2_isNeeded_26
def f_X2_letLeave (t : Nat) (r : Nat) (sec : Int32) (fw : Nat → Int32) (fc : Nat → Int32) (fg : Nat → Int32) : (Nat → Int32) :=
  if (fc ((t * 10) + r)) = (-1) then fg else if (f_X2_isNeeded t r fw fc) = true then fg else if (fg ((t * 10) + r)) = (-1) then upd fg ((t * 10) + r) (sec + (nI 3)) else fg
set_option maxHeartbeats 4000000 in
set_option maxRecDepth 100000 in
theorem c_X2_letLeave (l : Launch) (D : va_G) (cI cZ : ClassId) (ad : Nat → Nat) (rc rl rh fr fw fc fg ps pg pr pd qp qt qf qo ct lE lC : Nat → Int32) (cand : Int32) (lim : Int32) (now : Int32) (was : Int32) (sent : Nat) (qfi : Nat) (qsz : Nat) (t : Nat) (r : Nat) (sec : Int32) (ht : t < 44) (hr : r < 10) : MV l yX2_letLeave cX2_letLeave 5 { frames := 3, cells := 0, slots := 0, locals := 66 } D (TY cI cZ) [.ref (ad 5), .int (nI t), .int (nI r), .int sec] (wC cI ad rc rl rh fr fw fc fg ps pg pr pd qp qt qf qo ct lE lC cand lim now was (nI sent) (nI qfi) (nI qsz)) (wC cI ad rc rl rh fr fw fc (f_X2_letLeave t r sec fw fc fg) ps pg pr pd qp qt qf qo ct lE lC cand lim now was (nI sent) (nI qfi) (nI qsz)) := by
  refine MV.mk ⟨rfl, rfl⟩ (by decide +kernel) (Nat.le_of_ble_eq_true rfl) ?_
  intro p e s m below meth c A ls B hA hP hD hS hl
  have hx := B.1
  have hb := B.2.1
  have hts := B.2.2.2.2.2.1
  have hN := B.2.2.2.2.2.2.2.1
  have hK := B.2.2.2.2.2.2.2.2.1
  have hl : lv_has ls 5 [(0, .ref (ad 5)), (1, .int (nI t)), (2, .int (nI r)), (3, .int sec)] := hl
  have hf := f_X2_letLeave.eq_1 t r sec fw fc fg
  refine lv_aload_n hx hb dX2_letLeave_0 rfl (lv_at hl 0 rfl) ?_
  refine lv_iload_n hx hb dX2_letLeave_1 rfl (lv_at hl 1 rfl) ?_
  refine lv_iload_n hx hb dX2_letLeave_2 rfl (lv_at hl 2 rfl) ?_
  refine fV_i (ci := 2) (as := [.int (nI t), .int (nI r)]) (rest := []) B hl.1 (c_X2_parentOf l D cI cZ ad rc rl rh fr fw fc fg ps pg pr pd qp qt qf qo ct lE lC cand lim now was sent qfi qsz t r (by omega) (by omega)) rfl (l_RX2_64 hts ⟨rfl, rfl⟩ ⟨Nat.le_of_ble_eq_true rfl, Nat.le_of_ble_eq_true rfl⟩) m_8_4 m_8_5 rfl rfl hP hD hS hA 5 rfl wfC (Nat.le_of_ble_eq_true rfl) dX2_letLeave_3 (fun H locs hP hD hS => ?_)
  refine lv_iconst (v := -1) hx hb dX2_letLeave_6 (by decide) ?_
  refine lv_icmp_eq (tgt := 19) hx hb dX2_letLeave_7 (by decide) (fun c1 => ?_) (fun c1 => ?_)
  · have hf := hf.trans (if_pos c1)
    exact eV B hP hS ((congrArg (fun (u : (Nat → Int32)) => wC cI ad rc rl rh fr fw fc u ps pg pr pd qp qt qf qo ct lE lC cand lim now was (nI sent) (nI qfi) (nI qsz)) hf).symm) dX2_letLeave_19
  · have hf := hf.trans (if_neg c1)
    refine lv_aload_n hx hb dX2_letLeave_10 rfl (lv_at hl 0 rfl) ?_
    refine lv_iload_n hx hb dX2_letLeave_11 rfl (lv_at hl 1 rfl) ?_
    refine lv_iload_n hx hb dX2_letLeave_12 rfl (lv_at hl 2 rfl) ?_
    refine fV_i (ci := 2) (as := [.int (nI t), .int (nI r)]) (rest := []) B hl.1 (c_X2_isNeeded l D cI cZ ad rc rl rh fr fw fc fg ps pg pr pd qp qt qf qo ct lE lC cand lim now was sent qfi qsz t r (by omega) (by omega)) rfl (l_RX2_75 hts ⟨rfl, rfl⟩ ⟨Nat.le_of_ble_eq_true rfl, Nat.le_of_ble_eq_true rfl⟩) m_10_14 m_10_15 rfl rfl hP hD hS hA 5 rfl wfC (Nat.le_of_ble_eq_true rfl) dX2_letLeave_13 (fun H locs hP hD hS => ?_)
    refine r_if_eq_b (tgt := 20) hx hb dX2_letLeave_16 (by decide) (fun c2 => ?_) (fun c2 => ?_)
    · have hf := hf.trans (if_neg c2)
      refine lv_iload_n hx hb dX2_letLeave_20 rfl (lv_at hl 1 rfl) ?_
      refine lv_bipush (v := nI 10) hx hb dX2_letLeave_21 (by decide) ?_
      refine r_imul hx hb dX2_letLeave_23 ?_
      refine lv_iload_n hx hb dX2_letLeave_24 rfl (lv_at hl 2 rfl) ?_
      refine r_iadd hx hb dX2_letLeave_25 ?_
      refine lv_istore (lv' := [(4, .int (nI ((t * 10) + r))), (0, .ref (ad 5)), (1, .int (nI t)), (2, .int (nI r)), (3, .int sec)]) hx hb dX2_letLeave_26 hl (by decide) rfl (fun ls hl => ?_)
      refine lv_aload_n hx hb dX2_letLeave_28 rfl (lv_at hl 1 rfl) ?_
      refine g_X2_21 B hP 5 rfl rfl dX2_letLeave_29 ?_
      refine lv_iload hx hb dX2_letLeave_32 (lv_at hl 0 rfl) ?_
      refine r_iald hx hb hK hP 9 0 rfl rfl (by omega) (by decide) dX2_letLeave_34 ?_
      refine lv_iconst (v := -1) hx hb dX2_letLeave_35 (by decide) ?_
      refine lv_icmp_ne (tgt := 49) hx hb dX2_letLeave_36 (by decide) (fun c3 => ?_) (fun c3 => ?_)
      · have hf := hf.trans (if_neg c3)
        exact eV B hP hS ((congrArg (fun (u : (Nat → Int32)) => wC cI ad rc rl rh fr fw fc u ps pg pr pd qp qt qf qo ct lE lC cand lim now was (nI sent) (nI qfi) (nI qsz)) hf).symm) dX2_letLeave_49
      · have hf := hf.trans (if_pos c3)
        refine lv_aload_n hx hb dX2_letLeave_39 rfl (lv_at hl 1 rfl) ?_
        refine g_X2_21 B hP 5 rfl rfl dX2_letLeave_40 ?_
        refine lv_iload hx hb dX2_letLeave_43 (lv_at hl 0 rfl) ?_
        refine lv_iload_n hx hb dX2_letLeave_45 rfl (lv_at hl 4 rfl) ?_
        refine lv_iconst (v := nI 3) hx hb dX2_letLeave_46 (by decide) ?_
        refine lv_iadd hx hb dX2_letLeave_47 ?_
        refine r_iast hx hb hK hP hD hS 9 0 rfl rfl (by omega) (by decide) dX2_letLeave_48 (fun H locs hP hD hS => ?_)
        have hP : va_P D vwCl (wC cI ad rc rl rh fr fw fc (upd fg ((t * 10) + r) (sec + (nI 3))) ps pg pr pd qp qt qf qo ct lE lC cand lim now was (nI sent) (nI qfi) (nI qsz)) H := hP
        have hD : va_D A (wC cI ad rc rl rh fr fw fc (upd fg ((t * 10) + r) (sec + (nI 3))) ps pg pr pd qp qt qf qo ct lE lC cand lim now was (nI sent) (nI qfi) (nI qsz)) := hD
        exact eV B hP hS ((congrArg (fun (u : (Nat → Int32)) => wC cI ad rc rl rh fr fw fc u ps pg pr pd qp qt qf qo ct lE lC cand lim now was (nI sent) (nI qfi) (nI qsz)) hf).symm) dX2_letLeave_49
    · have hf := hf.trans (if_pos c2)
      exact eV B hP hS ((congrArg (fun (u : (Nat → Int32)) => wC cI ad rc rl rh fr fw fc u ps pg pr pd qp qt qf qo ct lE lC cand lim now was (nI sent) (nI qfi) (nI qsz)) hf).symm) dX2_letLeave_19
def f_X2_letLeave_r (t : Nat) (x : Int32) (sec : Int32) (fw : Nat → Int32) (fc : Nat → Int32) (fg : Nat → Int32) : (Nat → Int32) :=
  if (f_X2_parentOf_r t x fc) = (-1) then fg else if (f_X2_isNeeded t x.toNatClampNeg fw fc) = true then fg else if (fg ((t * 10) + x.toNatClampNeg)) = (-1) then upd fg ((t * 10) + x.toNatClampNeg) (sec + (nI 3)) else fg
set_option maxHeartbeats 4000000 in
set_option maxRecDepth 100000 in
theorem c_X2_letLeave_r (l : Launch) (D : va_G) (cI cZ : ClassId) (ad : Nat → Nat) (rc rl rh fr fw fc fg ps pg pr pd qp qt qf qo ct lE lC : Nat → Int32) (cand : Int32) (lim : Int32) (now : Int32) (was : Int32) (sent : Nat) (qfi : Nat) (qsz : Nat) (t : Nat) (x : Int32) (sec : Int32) (ht : t < 44) : MV l yX2_letLeave cX2_letLeave 5 { frames := 3, cells := 0, slots := 0, locals := 66 } D (TY cI cZ) [.ref (ad 5), .int (nI t), .int x, .int sec] (wC cI ad rc rl rh fr fw fc fg ps pg pr pd qp qt qf qo ct lE lC cand lim now was (nI sent) (nI qfi) (nI qsz)) (wC cI ad rc rl rh fr fw fc (f_X2_letLeave_r t x sec fw fc fg) ps pg pr pd qp qt qf qo ct lE lC cand lim now was (nI sent) (nI qfi) (nI qsz)) := by
  refine MV.mk ⟨rfl, rfl⟩ (by decide +kernel) (Nat.le_of_ble_eq_true rfl) ?_
  intro p e s m below meth c A ls B hA hP hD hS hl
  have hx := B.1
  have hb := B.2.1
  have hts := B.2.2.2.2.2.1
  have hN := B.2.2.2.2.2.2.2.1
  have hK := B.2.2.2.2.2.2.2.2.1
  have hl : lv_has ls 5 [(0, .ref (ad 5)), (1, .int (nI t)), (2, .int x), (3, .int sec)] := hl
  have hf := f_X2_letLeave_r.eq_1 t x sec fw fc fg
  refine lv_aload_n hx hb dX2_letLeave_0 rfl (lv_at hl 0 rfl) ?_
  refine lv_iload_n hx hb dX2_letLeave_1 rfl (lv_at hl 1 rfl) ?_
  refine lv_iload_n hx hb dX2_letLeave_2 rfl (lv_at hl 2 rfl) ?_
  refine fV_i (ci := 2) (as := [.int (nI t), .int x]) (rest := []) B hl.1 (c_X2_parentOf_r l D cI cZ ad rc rl rh fr fw fc fg ps pg pr pd qp qt qf qo ct lE lC cand lim now was sent qfi qsz t x (by omega)) rfl (l_RX2_64 hts ⟨rfl, rfl⟩ ⟨Nat.le_of_ble_eq_true rfl, Nat.le_of_ble_eq_true rfl⟩) m_8_4 m_8_5 rfl rfl hP hD hS hA 5 rfl wfC (Nat.le_of_ble_eq_true rfl) dX2_letLeave_3 (fun H locs hP hD hS => ?_)
  refine lv_iconst (v := -1) hx hb dX2_letLeave_6 (by decide) ?_
  refine lv_icmp_eq (tgt := 19) hx hb dX2_letLeave_7 (by decide) (fun c1 => ?_) (fun c1 => ?_)
  · have hf := hf.trans (if_pos c1)
    exact eV B hP hS ((congrArg (fun (u : (Nat → Int32)) => wC cI ad rc rl rh fr fw fc u ps pg pr pd qp qt qf qo ct lE lC cand lim now was (nI sent) (nI qfi) (nI qsz)) hf).symm) dX2_letLeave_19
  · have hf := hf.trans (if_neg c1)
    have ej7 := (parent_r c1).1
    have hj7 := (parent_r c1).2
    refine lv_aload_n hx hb dX2_letLeave_10 rfl (lv_at hl 0 rfl) ?_
    refine lv_iload_n hx hb dX2_letLeave_11 rfl (lv_at hl 1 rfl) ?_
    refine lv_iload_n hx hb dX2_letLeave_12 rfl (lv_at hl 2 rfl) ?_
    refine r_eq ej7 ?_
    refine fV_i (ci := 2) (as := [.int (nI t), .int (nI x.toNatClampNeg)]) (rest := []) B hl.1 (c_X2_isNeeded l D cI cZ ad rc rl rh fr fw fc fg ps pg pr pd qp qt qf qo ct lE lC cand lim now was sent qfi qsz t x.toNatClampNeg (by omega) (by omega)) rfl (l_RX2_75 hts ⟨rfl, rfl⟩ ⟨Nat.le_of_ble_eq_true rfl, Nat.le_of_ble_eq_true rfl⟩) m_10_14 m_10_15 rfl rfl hP hD hS hA 5 rfl wfC (Nat.le_of_ble_eq_true rfl) dX2_letLeave_13 (fun H locs hP hD hS => ?_)
    refine r_if_eq_b (tgt := 20) hx hb dX2_letLeave_16 (by decide) (fun c2 => ?_) (fun c2 => ?_)
    · have hf := hf.trans (if_neg c2)
      refine lv_iload_n hx hb dX2_letLeave_20 rfl (lv_at hl 1 rfl) ?_
      refine lv_bipush (v := nI 10) hx hb dX2_letLeave_21 (by decide) ?_
      refine r_imul hx hb dX2_letLeave_23 ?_
      refine lv_iload_n hx hb dX2_letLeave_24 rfl (lv_at hl 2 rfl) ?_
      refine r_eq ej7 ?_
      refine r_iadd hx hb dX2_letLeave_25 ?_
      refine lv_istore (lv' := [(4, .int (nI ((t * 10) + x.toNatClampNeg))), (0, .ref (ad 5)), (1, .int (nI t)), (2, .int x), (3, .int sec)]) hx hb dX2_letLeave_26 hl (by decide) rfl (fun ls hl => ?_)
      refine lv_aload_n hx hb dX2_letLeave_28 rfl (lv_at hl 1 rfl) ?_
      refine g_X2_21 B hP 5 rfl rfl dX2_letLeave_29 ?_
      refine lv_iload hx hb dX2_letLeave_32 (lv_at hl 0 rfl) ?_
      refine r_iald hx hb hK hP 9 0 rfl rfl (by omega) (by decide) dX2_letLeave_34 ?_
      refine lv_iconst (v := -1) hx hb dX2_letLeave_35 (by decide) ?_
      refine lv_icmp_ne (tgt := 49) hx hb dX2_letLeave_36 (by decide) (fun c3 => ?_) (fun c3 => ?_)
      · have hf := hf.trans (if_neg c3)
        exact eV B hP hS ((congrArg (fun (u : (Nat → Int32)) => wC cI ad rc rl rh fr fw fc u ps pg pr pd qp qt qf qo ct lE lC cand lim now was (nI sent) (nI qfi) (nI qsz)) hf).symm) dX2_letLeave_49
      · have hf := hf.trans (if_pos c3)
        refine lv_aload_n hx hb dX2_letLeave_39 rfl (lv_at hl 1 rfl) ?_
        refine g_X2_21 B hP 5 rfl rfl dX2_letLeave_40 ?_
        refine lv_iload hx hb dX2_letLeave_43 (lv_at hl 0 rfl) ?_
        refine lv_iload_n hx hb dX2_letLeave_45 rfl (lv_at hl 4 rfl) ?_
        refine lv_iconst (v := nI 3) hx hb dX2_letLeave_46 (by decide) ?_
        refine lv_iadd hx hb dX2_letLeave_47 ?_
        refine r_iast hx hb hK hP hD hS 9 0 rfl rfl (by omega) (by decide) dX2_letLeave_48 (fun H locs hP hD hS => ?_)
        have hP : va_P D vwCl (wC cI ad rc rl rh fr fw fc (upd fg ((t * 10) + x.toNatClampNeg) (sec + (nI 3))) ps pg pr pd qp qt qf qo ct lE lC cand lim now was (nI sent) (nI qfi) (nI qsz)) H := hP
        have hD : va_D A (wC cI ad rc rl rh fr fw fc (upd fg ((t * 10) + x.toNatClampNeg) (sec + (nI 3))) ps pg pr pd qp qt qf qo ct lE lC cand lim now was (nI sent) (nI qfi) (nI qsz)) := hD
        exact eV B hP hS ((congrArg (fun (u : (Nat → Int32)) => wC cI ad rc rl rh fr fw fc u ps pg pr pd qp qt qf qo ct lE lC cand lim now was (nI sent) (nI qfi) (nI qsz)) hf).symm) dX2_letLeave_49
    · have hf := hf.trans (if_pos c2)
      exact eV B hP hS ((congrArg (fun (u : (Nat → Int32)) => wC cI ad rc rl rh fr fw fc u ps pg pr pd qp qt qf qo ct lE lC cand lim now was (nI sent) (nI qfi) (nI qsz)) hf).symm) dX2_letLeave_19
def f_X2_graft_L13 (t : Nat) (rh : Nat → Int32) (fr : Nat → Int32) (fg : Nat → Int32) : Nat → Nat → Int32 → (Nat → Int32) → (Nat → Int32) × (Nat → Int32)
  | 0, _, x5_13, fc_13 => (fc_13, fg)
  | n13 + 1, k13, x5_13, fc_13 => if (f_X5_isRouter_r x5_13) = true then (if (nI x5_13.toNatClampNeg) = (fr t) then (fc_13, fg) else if (fc_13 ((t * 10) + x5_13.toNatClampNeg)) = (-1) then f_X2_graft_L13 t rh fr fg n13 (k13 + 1) (f_X4_hopOf_r x5_13.toNatClampNeg (fr t) rh) (upd fc_13 ((t * 10) + x5_13.toNatClampNeg) (f_X4_hopOf_r x5_13.toNatClampNeg (fr t) rh)) else (fc_13, upd fg ((t * 10) + x5_13.toNatClampNeg) (-1))) else (fc_13, fg)
def f_X2_graft (t : Nat) (r : Nat) (rh : Nat → Int32) (fr : Nat → Int32) (fc : Nat → Int32) (fg : Nat → Int32) : (Nat → Int32) × (Nat → Int32) :=
  f_X2_graft_L13 t rh fr fg 10 0 (nI r) fc
set_option maxHeartbeats 4000000 in
set_option maxRecDepth 100000 in
theorem c_X2_graft (l : Launch) (D : va_G) (cI cZ : ClassId) (ad : Nat → Nat) (rc rl rh fr fw fc fg ps pg pr pd qp qt qf qo ct lE lC : Nat → Int32) (cand : Int32) (lim : Int32) (now : Int32) (was : Int32) (sent : Nat) (qfi : Nat) (qsz : Nat) (t : Nat) (r : Nat) (ht : t < 44) (hr : r < 10) : MV l yX2_graft cX2_graft 8 { frames := 2, cells := 0, slots := 0, locals := 43 } D (TY cI cZ) [.ref (ad 5), .int (nI t), .int (nI r), .ref (ad 1)] (wC cI ad rc rl rh fr fw fc fg ps pg pr pd qp qt qf qo ct lE lC cand lim now was (nI sent) (nI qfi) (nI qsz)) (wC cI ad rc rl rh fr fw ((f_X2_graft t r rh fr fc fg).1) ((f_X2_graft t r rh fr fc fg).2) ps pg pr pd qp qt qf qo ct lE lC cand lim now was (nI sent) (nI qfi) (nI qsz)) := by
  refine MV.mk ⟨rfl, rfl⟩ (by decide +kernel) (Nat.le_of_ble_eq_true rfl) ?_
  intro p e s m below meth c A ls B hA hP hD hS hl
  have hx := B.1
  have hb := B.2.1
  have hts := B.2.2.2.2.2.1
  have hN := B.2.2.2.2.2.2.2.1
  have hK := B.2.2.2.2.2.2.2.2.1
  have hl : lv_has ls 8 [(0, .ref (ad 5)), (1, .int (nI t)), (2, .int (nI r)), (3, .ref (ad 1))] := hl
  have hf := f_X2_graft.eq_1 t r rh fr fc fg
  refine lv_aload_n hx hb dX2_graft_0 rfl (lv_at hl 0 rfl) ?_
  refine lv_iload_n hx hb dX2_graft_1 rfl (lv_at hl 1 rfl) ?_
  refine fV_i (ci := 2) (as := [.int (nI t)]) (rest := []) B hl.1 (c_X2_rootOf l D cI cZ ad rc rl rh fr fw fc fg ps pg pr pd qp qt qf qo ct lE lC cand lim now was sent qfi qsz t (by omega)) rfl (l_RX2_67 hts ⟨rfl, rfl⟩ ⟨Nat.le_of_ble_eq_true rfl, Nat.le_of_ble_eq_true rfl⟩) m_8_0 m_8_1 rfl rfl hP hD hS hA 5 rfl wfC (Nat.le_of_ble_eq_true rfl) dX2_graft_2 (fun H locs hP hD hS => ?_)
  refine lv_istore (lv' := [(4, .int (fr t)), (0, .ref (ad 5)), (1, .int (nI t)), (2, .int (nI r)), (3, .ref (ad 1))]) hx hb dX2_graft_5 hl (by decide) rfl (fun ls hl => ?_)
  refine lv_iload_n hx hb dX2_graft_7 rfl (lv_at hl 3 rfl) ?_
  refine lv_istore (lv' := [(5, .int (nI r)), (4, .int (fr t)), (0, .ref (ad 5)), (1, .int (nI t)), (2, .int (nI r)), (3, .ref (ad 1))]) hx hb dX2_graft_8 hl (by decide) rfl (fun ls hl => ?_)
  refine lv_iconst (v := nI 0) hx hb dX2_graft_10 (by decide) ?_
  refine lv_istore (lv' := [(6, .int (nI 0)), (5, .int (nI r)), (4, .int (fr t)), (0, .ref (ad 5)), (1, .int (nI t)), (2, .int (nI r)), (3, .ref (ad 1))]) hx hb dX2_graft_11 hl (by decide) rfl (fun ls hl => ?_)
  have L13 : ∀ (n13 : Nat) (k13 : Nat) (x5_13 : Int32) (fc_13 : Nat → Int32), k13 + n13 = 10 → f_X2_graft t r rh fr fc fg = (f_X2_graft_L13 t rh fr fg n13 k13 x5_13 fc_13) → ∀ (H : Heap) (locs : List Loc), va_P D vwCl (wC cI ad rc rl rh fr fw fc_13 fg ps pg pr pd qp qt qf qo ct lE lC cand lim now was (nI sent) (nI qfi) (nI qsz)) H → va_D A (wC cI ad rc rl rh fr fw fc_13 fg ps pg pr pd qp qt qf qo ct lE lC cand lim now was (nI sent) (nI qfi) (nI qsz)) → va_S A s.heap H locs → ∀ ls : Array Slot, lv_has ls 8 [(0, .ref (ad 5)), (1, .int (nI t)), (2, .int (nI r)), (3, .ref (ad 1)), (4, .int (fr t)), (5, .int x5_13), (6, .int (nI k13))] → W p l e { frames := 2, cells := 0, slots := 0, locals := 43 } s m [.ref (ad 5), .int (nI t), .int (nI r), .ref (ad 1)].toArray below meth c H locs 0 0 (QV below s A D [.ref (ad 5), .int (nI t), .int (nI r), .ref (ad 1)] (wC cI ad rc rl rh fr fw ((f_X2_graft t r rh fr fc fg).1) ((f_X2_graft t r rh fr fc fg).2) ps pg pr pd qp qt qf qo ct lE lC cand lim now was (nI sent) (nI qfi) (nI qsz))) (F0 m 13 ls []) := by
    intro n13
    induction n13 with
    | zero =>
      intro k13 x5_13 fc_13 hk13 hf H locs hP hD hS ls hl
      obtain rfl : 10 = k13 := by omega
      rw [f_X2_graft_L13] at hf
      have hl : lv_has ls 8 [(0, .ref (ad 5)), (1, .int (nI t)), (2, .int (nI r)), (3, .ref (ad 1)), (4, .int (fr t)), (5, .int x5_13), (6, .int (nI 10))] := hl
      refine lv_iload hx hb dX2_graft_13 (lv_at hl 6 rfl) ?_
      refine lv_bipush (v := nI 10) hx hb dX2_graft_15 (by decide) ?_
      refine r_icmp_ge (tgt := 102) hx hb (by omega) (by omega) dX2_graft_17 (by decide) (fun _ => ?_) (fun c => absurd c (by omega))
      exact eV B hP hS (by simp only [hf]) dX2_graft_102
    | succ n13 ih13 =>
      intro k13 x5_13 fc_13 hk13 hf H locs hP hD hS ls hl
      rw [f_X2_graft_L13] at hf
      have hl : lv_has ls 8 [(0, .ref (ad 5)), (1, .int (nI t)), (2, .int (nI r)), (3, .ref (ad 1)), (4, .int (fr t)), (5, .int x5_13), (6, .int (nI k13))] := hl
      refine lv_iload hx hb dX2_graft_13 (lv_at hl 6 rfl) ?_
      refine lv_bipush (v := nI 10) hx hb dX2_graft_15 (by decide) ?_
      refine r_icmp_ge (tgt := 102) hx hb (by omega) (by omega) dX2_graft_17 (by decide) (fun c => absurd c (by omega)) (fun _ => ?_)
      refine lv_iload_n hx hb dX2_graft_20 rfl (lv_at hl 1 rfl) ?_
      refine fN_i (as := [.int (nI t)]) (rest := []) B hl.1 (c_X5_isTree l D cI cZ (wC cI ad rc rl rh fr fw fc_13 fg ps pg pr pd qp qt qf qo ct lE lC cand lim now was (nI sent) (nI qfi) (nI qsz)) t (by omega)) (l_RX2_38 hts hN ⟨rfl, rfl⟩ ⟨Nat.le_of_ble_eq_true rfl, Nat.le_of_ble_eq_true rfl⟩) m_4_23 rfl rfl hP hD hS hA rfl (Nat.le_of_ble_eq_true rfl) dX2_graft_21 (fun H locs hP hD hS => ?_)
      refine r_if_eq (tgt := 42) hx hb (by omega) dX2_graft_24 (by decide) (fun c => absurd c (by omega)) (fun _ => ?_)
      refine lv_iload hx hb dX2_graft_27 (lv_at hl 5 rfl) ?_
      refine fN_i (as := [.int x5_13]) (rest := []) B hl.1 (c_X5_isRouter_r l D cI cZ (wC cI ad rc rl rh fr fw fc_13 fg ps pg pr pd qp qt qf qo ct lE lC cand lim now was (nI sent) (nI qfi) (nI qsz)) x5_13) (l_RX2_42 hts hN ⟨rfl, rfl⟩ ⟨Nat.le_of_ble_eq_true rfl, Nat.le_of_ble_eq_true rfl⟩) m_4_14 rfl rfl hP hD hS hA rfl (Nat.le_of_ble_eq_true rfl) dX2_graft_29 (fun H locs hP hD hS => ?_)
      refine r_if_eq_b (tgt := 42) hx hb dX2_graft_32 (by decide) (fun c7 => ?_) (fun c7 => ?_)
      · have hf := hf.trans (if_neg c7)
        exact eV B hP hS (by simp only [hf]) dX2_graft_42
      · have hf := hf.trans (if_pos c7)
        have ej32 := (isRouter_r c7).1
        have hj32 := (isRouter_r c7).2
        refine lv_iload hx hb dX2_graft_35 (lv_at hl 5 rfl) ?_
        refine r_eq ej32 ?_
        refine lv_iload hx hb dX2_graft_37 (lv_at hl 4 rfl) ?_
        refine lv_icmp_ne (tgt := 43) hx hb dX2_graft_39 (by decide) (fun c8 => ?_) (fun c8 => ?_)
        · have hf := hf.trans (if_neg c8)
          refine lv_aload_n hx hb dX2_graft_43 rfl (lv_at hl 0 rfl) ?_
          refine lv_iload_n hx hb dX2_graft_44 rfl (lv_at hl 1 rfl) ?_
          refine lv_iload hx hb dX2_graft_45 (lv_at hl 5 rfl) ?_
          refine r_eq ej32 ?_
          refine fV_i (ci := 2) (as := [.int (nI t), .int (nI x5_13.toNatClampNeg)]) (rest := []) B hl.1 (c_X2_parentOf l D cI cZ ad rc rl rh fr fw fc_13 fg ps pg pr pd qp qt qf qo ct lE lC cand lim now was sent qfi qsz t x5_13.toNatClampNeg (by omega) (by omega)) rfl (l_RX2_64 hts ⟨rfl, rfl⟩ ⟨Nat.le_of_ble_eq_true rfl, Nat.le_of_ble_eq_true rfl⟩) m_8_4 m_8_5 rfl rfl hP hD hS hA 5 rfl wfC (Nat.le_of_ble_eq_true rfl) dX2_graft_47 (fun H locs hP hD hS => ?_)
          refine lv_iconst (v := -1) hx hb dX2_graft_50 (by decide) ?_
          refine lv_icmp_eq (tgt := 68) hx hb dX2_graft_51 (by decide) (fun c9 => ?_) (fun c9 => ?_)
          · have hf := hf.trans (if_pos c9)
            refine lv_aload_n hx hb dX2_graft_68 rfl (lv_at hl 3 rfl) ?_
            refine lv_iload hx hb dX2_graft_69 (lv_at hl 5 rfl) ?_
            refine r_eq ej32 ?_
            refine lv_iload hx hb dX2_graft_71 (lv_at hl 4 rfl) ?_
            refine fV_i (ci := 4) (as := [.int (nI x5_13.toNatClampNeg), .int (fr t)]) (rest := []) B hl.1 (c_X4_hopOf_r l D cI cZ ad rc rl rh fr fw fc_13 fg ps pg pr pd qp qt qf qo ct lE lC cand lim now was sent qfi qsz x5_13.toNatClampNeg (fr t) (by omega)) rfl (l_RX2_70 hts ⟨rfl, rfl⟩ ⟨Nat.le_of_ble_eq_true rfl, Nat.le_of_ble_eq_true rfl⟩) m_8_8 m_8_9 rfl rfl hP hD hS hA 1 rfl wfC (Nat.le_of_ble_eq_true rfl) dX2_graft_73 (fun H locs hP hD hS => ?_)
            refine lv_istore (lv' := [(7, .int (f_X4_hopOf_r x5_13.toNatClampNeg (fr t) rh)), (0, .ref (ad 5)), (1, .int (nI t)), (2, .int (nI r)), (3, .ref (ad 1)), (4, .int (fr t)), (5, .int x5_13), (6, .int (nI k13))]) hx hb dX2_graft_76 hl (by decide) rfl (fun ls hl => ?_)
            refine lv_aload_n hx hb dX2_graft_78 rfl (lv_at hl 1 rfl) ?_
            refine g_X2_18 B hP 5 rfl rfl dX2_graft_79 ?_
            refine lv_iload_n hx hb dX2_graft_82 rfl (lv_at hl 2 rfl) ?_
            refine lv_bipush (v := nI 10) hx hb dX2_graft_83 (by decide) ?_
            refine r_imul hx hb dX2_graft_85 ?_
            refine lv_iload hx hb dX2_graft_86 (lv_at hl 6 rfl) ?_
            refine r_eq ej32 ?_
            refine r_iadd hx hb dX2_graft_88 ?_
            refine lv_iload hx hb dX2_graft_89 (lv_at hl 0 rfl) ?_
            refine r_iast hx hb hK hP hD hS 8 0 rfl rfl (by omega) (by decide) dX2_graft_91 (fun H locs hP hD hS => ?_)
            have hP : va_P D vwCl (wC cI ad rc rl rh fr fw (upd fc_13 ((t * 10) + x5_13.toNatClampNeg) (f_X4_hopOf_r x5_13.toNatClampNeg (fr t) rh)) fg ps pg pr pd qp qt qf qo ct lE lC cand lim now was (nI sent) (nI qfi) (nI qsz)) H := hP
            have hD : va_D A (wC cI ad rc rl rh fr fw (upd fc_13 ((t * 10) + x5_13.toNatClampNeg) (f_X4_hopOf_r x5_13.toNatClampNeg (fr t) rh)) fg ps pg pr pd qp qt qf qo ct lE lC cand lim now was (nI sent) (nI qfi) (nI qsz)) := hD
            refine lv_iload hx hb dX2_graft_92 (lv_at hl 0 rfl) ?_
            refine lv_istore (lv' := [(5, .int (f_X4_hopOf_r x5_13.toNatClampNeg (fr t) rh)), (7, .int (f_X4_hopOf_r x5_13.toNatClampNeg (fr t) rh)), (0, .ref (ad 5)), (1, .int (nI t)), (2, .int (nI r)), (3, .ref (ad 1)), (4, .int (fr t)), (6, .int (nI k13))]) hx hb dX2_graft_94 hl (by decide) rfl (fun ls hl => ?_)
            refine lv_iinc (v := nI (k13 + 1)) (lv' := [(6, .int (nI (k13 + 1))), (5, .int (f_X4_hopOf_r x5_13.toNatClampNeg (fr t) rh)), (7, .int (f_X4_hopOf_r x5_13.toNatClampNeg (fr t) rh)), (0, .ref (ad 5)), (1, .int (nI t)), (2, .int (nI r)), (3, .ref (ad 1)), (4, .int (fr t))]) hx hb dX2_graft_96 hl (k := 7) rfl (nI_add _ _) (by decide) rfl (fun ls hl => ?_)
            refine lv_goto (tgt := 13) hx hb dX2_graft_99 (by decide) ?_
            exact ih13 (k13 + 1) (f_X4_hopOf_r x5_13.toNatClampNeg (fr t) rh) (upd fc_13 ((t * 10) + x5_13.toNatClampNeg) (f_X4_hopOf_r x5_13.toNatClampNeg (fr t) rh)) (by omega) hf _ _ hP hD hS _ (lv_sub hl [3, 4, 5, 6, 7, 1, 0] rfl)
          · have hf := hf.trans (if_neg c9)
            refine lv_aload_n hx hb dX2_graft_54 rfl (lv_at hl 0 rfl) ?_
            refine g_X2_21 B hP 5 rfl rfl dX2_graft_55 ?_
            refine lv_iload_n hx hb dX2_graft_58 rfl (lv_at hl 1 rfl) ?_
            refine lv_bipush (v := nI 10) hx hb dX2_graft_59 (by decide) ?_
            refine r_imul hx hb dX2_graft_61 ?_
            refine lv_iload hx hb dX2_graft_62 (lv_at hl 5 rfl) ?_
            refine r_eq ej32 ?_
            refine r_iadd hx hb dX2_graft_64 ?_
            refine lv_iconst (v := -1) hx hb dX2_graft_65 (by decide) ?_
            refine r_iast hx hb hK hP hD hS 9 0 rfl rfl (by omega) (by decide) dX2_graft_66 (fun H locs hP hD hS => ?_)
            have hP : va_P D vwCl (wC cI ad rc rl rh fr fw fc_13 (upd fg ((t * 10) + x5_13.toNatClampNeg) (-1)) ps pg pr pd qp qt qf qo ct lE lC cand lim now was (nI sent) (nI qfi) (nI qsz)) H := hP
            have hD : va_D A (wC cI ad rc rl rh fr fw fc_13 (upd fg ((t * 10) + x5_13.toNatClampNeg) (-1)) ps pg pr pd qp qt qf qo ct lE lC cand lim now was (nI sent) (nI qfi) (nI qsz)) := hD
            exact eV B hP hS (by simp only [hf]) dX2_graft_67
        · have hf := hf.trans (if_pos c8)
          exact eV B hP hS (by simp only [hf]) dX2_graft_42
  exact L13 10 0 (nI r) fc (by omega) hf _ _ hP hD hS _ (lv_sub hl [3, 4, 5, 6, 2, 1, 0] rfl)
set_option maxHeartbeats 4000000 in
set_option maxRecDepth 100000 in
theorem c_X2_want (l : Launch) (D : va_G) (cI cZ : ClassId) (ad : Nat → Nat) (rc rl rh fr fw fc fg ps pg pr pd qp qt qf qo ct lE lC : Nat → Int32) (cand : Int32) (lim : Int32) (now : Int32) (was : Int32) (sent : Nat) (qfi : Nat) (qsz : Nat) (t : Nat) (r : Nat) (ht : t < 44) (hr : r < 10) : MV l yX2_want cX2_want 4 { frames := 3, cells := 0, slots := 0, locals := 70 } D (TY cI cZ) [.ref (ad 5), .int (nI t), .int (nI r), .ref (ad 1)] (wC cI ad rc rl rh fr fw fc fg ps pg pr pd qp qt qf qo ct lE lC cand lim now was (nI sent) (nI qfi) (nI qsz)) (wC cI ad rc rl rh fr (upd fw t ((fw t) ||| ((nI 1) <<< ((nI r) &&& 31)))) ((f_X2_graft t r rh fr fc fg).1) ((f_X2_graft t r rh fr fc fg).2) ps pg pr pd qp qt qf qo ct lE lC cand lim now was (nI sent) (nI qfi) (nI qsz)) := by
  refine MV.mk ⟨rfl, rfl⟩ (by decide +kernel) (Nat.le_of_ble_eq_true rfl) ?_
  intro p e s m below meth c A ls B hA hP hD hS hl
  have hx := B.1
  have hb := B.2.1
  have hts := B.2.2.2.2.2.1
  have hN := B.2.2.2.2.2.2.2.1
  have hK := B.2.2.2.2.2.2.2.2.1
  have hl : lv_has ls 4 [(0, .ref (ad 5)), (1, .int (nI t)), (2, .int (nI r)), (3, .ref (ad 1))] := hl
  refine lv_iload_n hx hb dX2_want_0 rfl (lv_at hl 1 rfl) ?_
  refine fN_i (as := [.int (nI t)]) (rest := []) B hl.1 (c_X5_isTree l D cI cZ (wC cI ad rc rl rh fr fw fc fg ps pg pr pd qp qt qf qo ct lE lC cand lim now was (nI sent) (nI qfi) (nI qsz)) t (by omega)) (l_RX2_38 hts hN ⟨rfl, rfl⟩ ⟨Nat.le_of_ble_eq_true rfl, Nat.le_of_ble_eq_true rfl⟩) m_4_23 rfl rfl hP hD hS hA rfl (Nat.le_of_ble_eq_true rfl) dX2_want_1 (fun H locs hP hD hS => ?_)
  refine r_if_eq (tgt := 34) hx hb (by omega) dX2_want_4 (by decide) (fun c => absurd c (by omega)) (fun _ => ?_)
  refine lv_iload_n hx hb dX2_want_7 rfl (lv_at hl 2 rfl) ?_
  refine fN_i (as := [.int (nI r)]) (rest := []) B hl.1 (c_X5_isRouter l D cI cZ (wC cI ad rc rl rh fr fw fc fg ps pg pr pd qp qt qf qo ct lE lC cand lim now was (nI sent) (nI qfi) (nI qsz)) r (by omega)) (l_RX2_42 hts hN ⟨rfl, rfl⟩ ⟨Nat.le_of_ble_eq_true rfl, Nat.le_of_ble_eq_true rfl⟩) m_4_14 rfl rfl hP hD hS hA rfl (Nat.le_of_ble_eq_true rfl) dX2_want_8 (fun H locs hP hD hS => ?_)
  refine r_if_eq (tgt := 34) hx hb (by omega) dX2_want_11 (by decide) (fun c => absurd c (by omega)) (fun _ => ?_)
  refine lv_aload_n hx hb dX2_want_14 rfl (lv_at hl 0 rfl) ?_
  refine g_X2_15 B hP 5 rfl rfl dX2_want_15 ?_
  refine lv_iload_n hx hb dX2_want_18 rfl (lv_at hl 1 rfl) ?_
  refine lv_dup2_11 hx hb dX2_want_19 rfl rfl ?_
  refine r_iald hx hb hK hP 7 0 rfl rfl (by omega) (by decide) dX2_want_20 ?_
  refine lv_iload_n hx hb dX2_want_21 rfl (lv_at hl 2 rfl) ?_
  refine fN_i (as := [.int (nI r)]) (rest := [.int (fw t), .int (nI t), .ref (ad 7)]) B hl.1 (c_X5_bit l D cI cZ (wC cI ad rc rl rh fr fw fc fg ps pg pr pd qp qt qf qo ct lE lC cand lim now was (nI sent) (nI qfi) (nI qsz)) r (by omega)) (l_RX2_45 hts hN ⟨rfl, rfl⟩ ⟨Nat.le_of_ble_eq_true rfl, Nat.le_of_ble_eq_true rfl⟩) m_7_17 rfl rfl hP hD hS hA rfl (Nat.le_of_ble_eq_true rfl) dX2_want_22 (fun H locs hP hD hS => ?_)
  refine lv_ior hx hb dX2_want_25 ?_
  refine r_iast hx hb hK hP hD hS 7 0 rfl rfl (by omega) (by decide) dX2_want_26 (fun H locs hP hD hS => ?_)
  have hP : va_P D vwCl (wC cI ad rc rl rh fr (upd fw t ((fw t) ||| ((nI 1) <<< ((nI r) &&& 31)))) fc fg ps pg pr pd qp qt qf qo ct lE lC cand lim now was (nI sent) (nI qfi) (nI qsz)) H := hP
  have hD : va_D A (wC cI ad rc rl rh fr (upd fw t ((fw t) ||| ((nI 1) <<< ((nI r) &&& 31)))) fc fg ps pg pr pd qp qt qf qo ct lE lC cand lim now was (nI sent) (nI qfi) (nI qsz)) := hD
  refine lv_aload_n hx hb dX2_want_27 rfl (lv_at hl 0 rfl) ?_
  refine lv_iload_n hx hb dX2_want_28 rfl (lv_at hl 1 rfl) ?_
  refine lv_iload_n hx hb dX2_want_29 rfl (lv_at hl 2 rfl) ?_
  refine lv_aload_n hx hb dX2_want_30 rfl (lv_at hl 3 rfl) ?_
  refine fV_v (ci := 2) (as := [.int (nI t), .int (nI r), .ref (ad 1)]) (rest := []) B hl.1 (c_X2_graft l D cI cZ ad rc rl rh fr (upd fw t ((fw t) ||| ((nI 1) <<< ((nI r) &&& 31)))) fc fg ps pg pr pd qp qt qf qo ct lE lC cand lim now was sent qfi qsz t r (by omega) (by omega)) rfl (l_RX2_49 hts ⟨rfl, rfl⟩ ⟨Nat.le_of_ble_eq_true rfl, Nat.le_of_ble_eq_true rfl⟩) m_7_20 m_7_21 rfl rfl hP hD hS hA 5 rfl wfC (Nat.le_of_ble_eq_true rfl) dX2_want_31 (fun H locs hP hD hS => ?_)
  exact eV B hP hS rfl dX2_want_34
set_option maxHeartbeats 4000000 in
set_option maxRecDepth 100000 in
theorem c_X2_unwant (l : Launch) (D : va_G) (cI cZ : ClassId) (ad : Nat → Nat) (rc rl rh fr fw fc fg ps pg pr pd qp qt qf qo ct lE lC : Nat → Int32) (cand : Int32) (lim : Int32) (now : Int32) (was : Int32) (sent : Nat) (qfi : Nat) (qsz : Nat) (t : Nat) (r : Nat) (sec : Int32) (ht : t < 44) (hr : r < 10) : MV l yX2_unwant cX2_unwant 4 { frames := 4, cells := 0, slots := 0, locals := 90 } D (TY cI cZ) [.ref (ad 5), .int (nI t), .int (nI r), .int sec] (wC cI ad rc rl rh fr fw fc fg ps pg pr pd qp qt qf qo ct lE lC cand lim now was (nI sent) (nI qfi) (nI qsz)) (wC cI ad rc rl rh fr (upd fw t ((fw t) &&& (((nI 1) <<< ((nI r) &&& 31)) ^^^ (-1)))) fc (f_X2_letLeave t r sec (upd fw t ((fw t) &&& (((nI 1) <<< ((nI r) &&& 31)) ^^^ (-1)))) fc fg) ps pg pr pd qp qt qf qo ct lE lC cand lim now was (nI sent) (nI qfi) (nI qsz)) := by
  refine MV.mk ⟨rfl, rfl⟩ (by decide +kernel) (Nat.le_of_ble_eq_true rfl) ?_
  intro p e s m below meth c A ls B hA hP hD hS hl
  have hx := B.1
  have hb := B.2.1
  have hts := B.2.2.2.2.2.1
  have hN := B.2.2.2.2.2.2.2.1
  have hK := B.2.2.2.2.2.2.2.2.1
  have hl : lv_has ls 4 [(0, .ref (ad 5)), (1, .int (nI t)), (2, .int (nI r)), (3, .int sec)] := hl
  refine lv_iload_n hx hb dX2_unwant_0 rfl (lv_at hl 1 rfl) ?_
  refine fN_i (as := [.int (nI t)]) (rest := []) B hl.1 (c_X5_isTree l D cI cZ (wC cI ad rc rl rh fr fw fc fg ps pg pr pd qp qt qf qo ct lE lC cand lim now was (nI sent) (nI qfi) (nI qsz)) t (by omega)) (l_RX2_38 hts hN ⟨rfl, rfl⟩ ⟨Nat.le_of_ble_eq_true rfl, Nat.le_of_ble_eq_true rfl⟩) m_4_23 rfl rfl hP hD hS hA rfl (Nat.le_of_ble_eq_true rfl) dX2_unwant_1 (fun H locs hP hD hS => ?_)
  refine r_if_eq (tgt := 36) hx hb (by omega) dX2_unwant_4 (by decide) (fun c => absurd c (by omega)) (fun _ => ?_)
  refine lv_iload_n hx hb dX2_unwant_7 rfl (lv_at hl 2 rfl) ?_
  refine fN_i (as := [.int (nI r)]) (rest := []) B hl.1 (c_X5_isRouter l D cI cZ (wC cI ad rc rl rh fr fw fc fg ps pg pr pd qp qt qf qo ct lE lC cand lim now was (nI sent) (nI qfi) (nI qsz)) r (by omega)) (l_RX2_42 hts hN ⟨rfl, rfl⟩ ⟨Nat.le_of_ble_eq_true rfl, Nat.le_of_ble_eq_true rfl⟩) m_4_14 rfl rfl hP hD hS hA rfl (Nat.le_of_ble_eq_true rfl) dX2_unwant_8 (fun H locs hP hD hS => ?_)
  refine r_if_eq (tgt := 36) hx hb (by omega) dX2_unwant_11 (by decide) (fun c => absurd c (by omega)) (fun _ => ?_)
  refine lv_aload_n hx hb dX2_unwant_14 rfl (lv_at hl 0 rfl) ?_
  refine g_X2_15 B hP 5 rfl rfl dX2_unwant_15 ?_
  refine lv_iload_n hx hb dX2_unwant_18 rfl (lv_at hl 1 rfl) ?_
  refine lv_dup2_11 hx hb dX2_unwant_19 rfl rfl ?_
  refine r_iald hx hb hK hP 7 0 rfl rfl (by omega) (by decide) dX2_unwant_20 ?_
  refine lv_iload_n hx hb dX2_unwant_21 rfl (lv_at hl 2 rfl) ?_
  refine fN_i (as := [.int (nI r)]) (rest := [.int (fw t), .int (nI t), .ref (ad 7)]) B hl.1 (c_X5_bit l D cI cZ (wC cI ad rc rl rh fr fw fc fg ps pg pr pd qp qt qf qo ct lE lC cand lim now was (nI sent) (nI qfi) (nI qsz)) r (by omega)) (l_RX2_45 hts hN ⟨rfl, rfl⟩ ⟨Nat.le_of_ble_eq_true rfl, Nat.le_of_ble_eq_true rfl⟩) m_7_17 rfl rfl hP hD hS hA rfl (Nat.le_of_ble_eq_true rfl) dX2_unwant_22 (fun H locs hP hD hS => ?_)
  refine lv_iconst (v := -1) hx hb dX2_unwant_25 (by decide) ?_
  refine lv_ixor hx hb dX2_unwant_26 ?_
  refine lv_iand hx hb dX2_unwant_27 ?_
  refine r_iast hx hb hK hP hD hS 7 0 rfl rfl (by omega) (by decide) dX2_unwant_28 (fun H locs hP hD hS => ?_)
  have hP : va_P D vwCl (wC cI ad rc rl rh fr (upd fw t ((fw t) &&& (((nI 1) <<< ((nI r) &&& 31)) ^^^ (-1)))) fc fg ps pg pr pd qp qt qf qo ct lE lC cand lim now was (nI sent) (nI qfi) (nI qsz)) H := hP
  have hD : va_D A (wC cI ad rc rl rh fr (upd fw t ((fw t) &&& (((nI 1) <<< ((nI r) &&& 31)) ^^^ (-1)))) fc fg ps pg pr pd qp qt qf qo ct lE lC cand lim now was (nI sent) (nI qfi) (nI qsz)) := hD
  refine lv_aload_n hx hb dX2_unwant_29 rfl (lv_at hl 0 rfl) ?_
  refine lv_iload_n hx hb dX2_unwant_30 rfl (lv_at hl 1 rfl) ?_
  refine lv_iload_n hx hb dX2_unwant_31 rfl (lv_at hl 2 rfl) ?_
  refine lv_iload_n hx hb dX2_unwant_32 rfl (lv_at hl 3 rfl) ?_
  refine fV_v (ci := 2) (as := [.int (nI t), .int (nI r), .int sec]) (rest := []) B hl.1 (c_X2_letLeave l D cI cZ ad rc rl rh fr (upd fw t ((fw t) &&& (((nI 1) <<< ((nI r) &&& 31)) ^^^ (-1)))) fc fg ps pg pr pd qp qt qf qo ct lE lC cand lim now was sent qfi qsz t r sec (by omega) (by omega)) rfl (l_RX2_53 hts ⟨rfl, rfl⟩ ⟨Nat.le_of_ble_eq_true rfl, Nat.le_of_ble_eq_true rfl⟩) m_10_10 m_10_11 rfl rfl hP hD hS hA 5 rfl wfC (Nat.le_of_ble_eq_true rfl) dX2_unwant_33 (fun H locs hP hD hS => ?_)
  exact eV B hP hS rfl dX2_unwant_36
def f_X2_buildAnew_L26 (rh : Nat → Int32) (fr : Nat → Int32) (fw : Nat → Int32) (k18 : Nat) : Nat → Nat → (Nat → Int32) → (Nat → Int32) → (Nat → Int32) × (Nat → Int32)
  | 0, _, fc_26, fg_26 => (fc_26, fg_26)
  | n26 + 1, k26, fc_26, fg_26 => if (f_X5_has (fw k18) k26) = true then f_X2_buildAnew_L26 rh fr fw k18 n26 (k26 + 1) ((f_X2_graft k18 k26 rh fr fc_26 fg_26).1) ((f_X2_graft k18 k26 rh fr fc_26 fg_26).2) else f_X2_buildAnew_L26 rh fr fw k18 n26 (k26 + 1) fc_26 fg_26
def f_X2_buildAnew_L18 (rh : Nat → Int32) (fr : Nat → Int32) (fw : Nat → Int32) : Nat → Nat → (Nat → Int32) → (Nat → Int32) → (Nat → Int32) × (Nat → Int32)
  | 0, _, fc_18, fg_18 => (fc_18, fg_18)
  | n18 + 1, k18, fc_18, fg_18 => f_X2_buildAnew_L18 rh fr fw n18 (k18 + 1) ((f_X2_buildAnew_L26 rh fr fw k18 10 0 fc_18 fg_18).1) ((f_X2_buildAnew_L26 rh fr fw k18 10 0 fc_18 fg_18).2)
def f_X2_buildAnew (rh : Nat → Int32) (fr : Nat → Int32) (fw : Nat → Int32) : (Nat → Int32) × (Nat → Int32) :=
  f_X2_buildAnew_L18 rh fr fw 44 0 (fun _ => (-1)) (fun _ => (-1))
set_option maxHeartbeats 4000000 in
set_option maxRecDepth 100000 in
theorem c_X2_buildAnew (l : Launch) (D : va_G) (cI cZ : ClassId) (ad : Nat → Nat) (rc rl rh fr fw fc fg ps pg pr pd qp qt qf qo ct lE lC : Nat → Int32) (cand : Int32) (lim : Int32) (now : Int32) (was : Int32) (sent : Nat) (qfi : Nat) (qsz : Nat) : MV l yX2_buildAnew cX2_buildAnew 4 { frames := 3, cells := 0, slots := 0, locals := 70 } D (TY cI cZ) [.ref (ad 5), .ref (ad 1)] (wC cI ad rc rl rh fr fw fc fg ps pg pr pd qp qt qf qo ct lE lC cand lim now was (nI sent) (nI qfi) (nI qsz)) (wC cI ad rc rl rh fr fw ((f_X2_buildAnew rh fr fw).1) ((f_X2_buildAnew rh fr fw).2) ps pg pr pd qp qt qf qo ct lE lC cand lim now was (nI sent) (nI qfi) (nI qsz)) := by
  refine MV.mk ⟨rfl, rfl⟩ (by decide +kernel) (Nat.le_of_ble_eq_true rfl) ?_
  intro p e s m below meth c A ls B hA hP hD hS hl
  have hx := B.1
  have hb := B.2.1
  have hts := B.2.2.2.2.2.1
  have hN := B.2.2.2.2.2.2.2.1
  have hK := B.2.2.2.2.2.2.2.2.1
  have hl : lv_has ls 4 [(0, .ref (ad 5)), (1, .ref (ad 1))] := hl
  have hf := f_X2_buildAnew.eq_1 rh fr fw
  refine lv_aload_n hx hb dX2_buildAnew_0 rfl (lv_at hl 0 rfl) ?_
  refine g_X2_18 B hP 5 rfl rfl dX2_buildAnew_1 ?_
  refine lv_iconst (v := -1) hx hb dX2_buildAnew_4 (by decide) ?_
  refine fS_v (as := [.ref (ad 8), .int (-1)]) (rest := []) B hl.1 (c_fill l D cI cZ (wC cI ad rc rl rh fr fw fc fg ps pg pr pd qp qt qf qo ct lE lC cand lim now was (nI sent) (nI qfi) (nI qsz)) 8 440 fc (ad 8) (-1) rfl (by decide)) (l_RX2_24 hts ⟨rfl, rfl⟩ ⟨Nat.le_of_ble_eq_true rfl, Nat.le_of_ble_eq_true rfl⟩) m_4_8 rfl rfl hP hD hS hA (set_fst rfl) (Nat.le_of_ble_eq_true rfl) dX2_buildAnew_5 (fun H locs hP hD hS => ?_)
  have hP : va_P D vwCl (wC cI ad rc rl rh fr fw (fun _ => (-1)) fg ps pg pr pd qp qt qf qo ct lE lC cand lim now was (nI sent) (nI qfi) (nI qsz)) H := hP
  have hD : va_D A (wC cI ad rc rl rh fr fw (fun _ => (-1)) fg ps pg pr pd qp qt qf qo ct lE lC cand lim now was (nI sent) (nI qfi) (nI qsz)) := hD
  refine lv_aload_n hx hb dX2_buildAnew_8 rfl (lv_at hl 0 rfl) ?_
  refine g_X2_21 B hP 5 rfl rfl dX2_buildAnew_9 ?_
  refine lv_iconst (v := -1) hx hb dX2_buildAnew_12 (by decide) ?_
  refine fS_v (as := [.ref (ad 9), .int (-1)]) (rest := []) B hl.1 (c_fill l D cI cZ (wC cI ad rc rl rh fr fw (fun _ => (-1)) fg ps pg pr pd qp qt qf qo ct lE lC cand lim now was (nI sent) (nI qfi) (nI qsz)) 9 440 fg (ad 9) (-1) rfl (by decide)) (l_RX2_24 hts ⟨rfl, rfl⟩ ⟨Nat.le_of_ble_eq_true rfl, Nat.le_of_ble_eq_true rfl⟩) m_4_8 rfl rfl hP hD hS hA (set_fst rfl) (Nat.le_of_ble_eq_true rfl) dX2_buildAnew_13 (fun H locs hP hD hS => ?_)
  have hP : va_P D vwCl (wC cI ad rc rl rh fr fw (fun _ => (-1)) (fun _ => (-1)) ps pg pr pd qp qt qf qo ct lE lC cand lim now was (nI sent) (nI qfi) (nI qsz)) H := hP
  have hD : va_D A (wC cI ad rc rl rh fr fw (fun _ => (-1)) (fun _ => (-1)) ps pg pr pd qp qt qf qo ct lE lC cand lim now was (nI sent) (nI qfi) (nI qsz)) := hD
  refine lv_iconst (v := nI 0) hx hb dX2_buildAnew_16 (by decide) ?_
  refine lv_istore_n (lv' := [(2, .int (nI 0)), (0, .ref (ad 5)), (1, .ref (ad 1))]) hx hb dX2_buildAnew_17 rfl hl (by decide) rfl (fun ls hl => ?_)
  have L18 : ∀ (n18 : Nat) (k18 : Nat) (fc_18 : Nat → Int32) (fg_18 : Nat → Int32), k18 + n18 = 44 → f_X2_buildAnew rh fr fw = (f_X2_buildAnew_L18 rh fr fw n18 k18 fc_18 fg_18) → ∀ (H : Heap) (locs : List Loc), va_P D vwCl (wC cI ad rc rl rh fr fw fc_18 fg_18 ps pg pr pd qp qt qf qo ct lE lC cand lim now was (nI sent) (nI qfi) (nI qsz)) H → va_D A (wC cI ad rc rl rh fr fw fc_18 fg_18 ps pg pr pd qp qt qf qo ct lE lC cand lim now was (nI sent) (nI qfi) (nI qsz)) → va_S A s.heap H locs → ∀ ls : Array Slot, lv_has ls 4 [(0, .ref (ad 5)), (1, .ref (ad 1)), (2, .int (nI k18))] → W p l e { frames := 3, cells := 0, slots := 0, locals := 70 } s m [.ref (ad 5), .ref (ad 1)].toArray below meth c H locs 0 0 (QV below s A D [.ref (ad 5), .ref (ad 1)] (wC cI ad rc rl rh fr fw ((f_X2_buildAnew rh fr fw).1) ((f_X2_buildAnew rh fr fw).2) ps pg pr pd qp qt qf qo ct lE lC cand lim now was (nI sent) (nI qfi) (nI qsz))) (F0 m 18 ls []) := by
    intro n18
    induction n18 with
    | zero =>
      intro k18 fc_18 fg_18 hk18 hf H locs hP hD hS ls hl
      obtain rfl : 44 = k18 := by omega
      rw [f_X2_buildAnew_L18] at hf
      have hl : lv_has ls 4 [(0, .ref (ad 5)), (1, .ref (ad 1)), (2, .int (nI 44))] := hl
      refine lv_iload_n hx hb dX2_buildAnew_18 rfl (lv_at hl 2 rfl) ?_
      refine lv_bipush (v := nI 44) hx hb dX2_buildAnew_19 (by decide) ?_
      refine r_icmp_ge (tgt := 64) hx hb (by omega) (by omega) dX2_buildAnew_21 (by decide) (fun _ => ?_) (fun c => absurd c (by omega))
      exact eV B hP hS (by simp only [hf]) dX2_buildAnew_64
    | succ n18 ih18 =>
      intro k18 fc_18 fg_18 hk18 hf H locs hP hD hS ls hl
      rw [f_X2_buildAnew_L18] at hf
      have hl : lv_has ls 4 [(0, .ref (ad 5)), (1, .ref (ad 1)), (2, .int (nI k18))] := hl
      refine lv_iload_n hx hb dX2_buildAnew_18 rfl (lv_at hl 2 rfl) ?_
      refine lv_bipush (v := nI 44) hx hb dX2_buildAnew_19 (by decide) ?_
      refine r_icmp_ge (tgt := 64) hx hb (by omega) (by omega) dX2_buildAnew_21 (by decide) (fun c => absurd c (by omega)) (fun _ => ?_)
      refine lv_iconst (v := nI 0) hx hb dX2_buildAnew_24 (by decide) ?_
      refine lv_istore_n (lv' := [(3, .int (nI 0)), (0, .ref (ad 5)), (1, .ref (ad 1)), (2, .int (nI k18))]) hx hb dX2_buildAnew_25 rfl hl (by decide) rfl (fun ls hl => ?_)
      have L26 : ∀ (n26 : Nat) (k26 : Nat) (fc_26 : Nat → Int32) (fg_26 : Nat → Int32), k26 + n26 = 10 → f_X2_buildAnew rh fr fw = (f_X2_buildAnew_L18 rh fr fw n18 (k18 + 1) ((f_X2_buildAnew_L26 rh fr fw k18 n26 k26 fc_26 fg_26).1) ((f_X2_buildAnew_L26 rh fr fw k18 n26 k26 fc_26 fg_26).2)) → ∀ (H : Heap) (locs : List Loc), va_P D vwCl (wC cI ad rc rl rh fr fw fc_26 fg_26 ps pg pr pd qp qt qf qo ct lE lC cand lim now was (nI sent) (nI qfi) (nI qsz)) H → va_D A (wC cI ad rc rl rh fr fw fc_26 fg_26 ps pg pr pd qp qt qf qo ct lE lC cand lim now was (nI sent) (nI qfi) (nI qsz)) → va_S A s.heap H locs → ∀ ls : Array Slot, lv_has ls 4 [(0, .ref (ad 5)), (1, .ref (ad 1)), (2, .int (nI k18)), (3, .int (nI k26))] → W p l e { frames := 3, cells := 0, slots := 0, locals := 70 } s m [.ref (ad 5), .ref (ad 1)].toArray below meth c H locs 0 0 (QV below s A D [.ref (ad 5), .ref (ad 1)] (wC cI ad rc rl rh fr fw ((f_X2_buildAnew rh fr fw).1) ((f_X2_buildAnew rh fr fw).2) ps pg pr pd qp qt qf qo ct lE lC cand lim now was (nI sent) (nI qfi) (nI qsz))) (F0 m 26 ls []) := by
        intro n26
        induction n26 with
        | zero =>
          intro k26 fc_26 fg_26 hk26 hf H locs hP hD hS ls hl
          obtain rfl : 10 = k26 := by omega
          rw [f_X2_buildAnew_L26] at hf
          dsimp only at hf
          have hl : lv_has ls 4 [(0, .ref (ad 5)), (1, .ref (ad 1)), (2, .int (nI k18)), (3, .int (nI 10))] := hl
          refine lv_iload_n hx hb dX2_buildAnew_26 rfl (lv_at hl 3 rfl) ?_
          refine lv_bipush (v := nI 10) hx hb dX2_buildAnew_27 (by decide) ?_
          refine r_icmp_ge (tgt := 58) hx hb (by omega) (by omega) dX2_buildAnew_29 (by decide) (fun _ => ?_) (fun c => absurd c (by omega))
          refine lv_iinc (v := nI (k18 + 1)) (lv' := [(2, .int (nI (k18 + 1))), (0, .ref (ad 5)), (1, .ref (ad 1)), (3, .int (nI 10))]) hx hb dX2_buildAnew_58 hl (k := 2) rfl (nI_add _ _) (by decide) rfl (fun ls hl => ?_)
          refine lv_goto (tgt := 18) hx hb dX2_buildAnew_61 (by decide) ?_
          exact ih18 (k18 + 1) fc_26 fg_26 (by omega) hf _ _ hP hD hS _ (lv_sub hl [1, 2, 0] rfl)
        | succ n26 ih26 =>
          intro k26 fc_26 fg_26 hk26 hf H locs hP hD hS ls hl
          rw [f_X2_buildAnew_L26] at hf
          have hl : lv_has ls 4 [(0, .ref (ad 5)), (1, .ref (ad 1)), (2, .int (nI k18)), (3, .int (nI k26))] := hl
          refine lv_iload_n hx hb dX2_buildAnew_26 rfl (lv_at hl 3 rfl) ?_
          refine lv_bipush (v := nI 10) hx hb dX2_buildAnew_27 (by decide) ?_
          refine r_icmp_ge (tgt := 58) hx hb (by omega) (by omega) dX2_buildAnew_29 (by decide) (fun c => absurd c (by omega)) (fun _ => ?_)
          refine lv_aload_n hx hb dX2_buildAnew_32 rfl (lv_at hl 0 rfl) ?_
          refine g_X2_15 B hP 5 rfl rfl dX2_buildAnew_33 ?_
          refine lv_iload_n hx hb dX2_buildAnew_36 rfl (lv_at hl 2 rfl) ?_
          refine r_iald hx hb hK hP 7 0 rfl rfl (by omega) (by decide) dX2_buildAnew_37 ?_
          refine lv_iload_n hx hb dX2_buildAnew_38 rfl (lv_at hl 3 rfl) ?_
          refine fN_i (as := [.int (fw k18), .int (nI k26)]) (rest := []) B hl.1 (c_X5_has l D cI cZ (wC cI ad rc rl rh fr fw fc_26 fg_26 ps pg pr pd qp qt qf qo ct lE lC cand lim now was (nI sent) (nI qfi) (nI qsz)) (fw k18) k26 (by omega)) (l_RX2_57 hts hN ⟨rfl, rfl⟩ ⟨Nat.le_of_ble_eq_true rfl, Nat.le_of_ble_eq_true rfl⟩) m_7_14 rfl rfl hP hD hS hA rfl (Nat.le_of_ble_eq_true rfl) dX2_buildAnew_39 (fun H locs hP hD hS => ?_)
          refine r_if_eq_b (tgt := 52) hx hb dX2_buildAnew_42 (by decide) (fun c13 => ?_) (fun c13 => ?_)
          · rw [if_neg c13] at hf
            refine lv_iinc (v := nI (k26 + 1)) (lv' := [(3, .int (nI (k26 + 1))), (0, .ref (ad 5)), (1, .ref (ad 1)), (2, .int (nI k18))]) hx hb dX2_buildAnew_52 hl (k := 3) rfl (nI_add _ _) (by decide) rfl (fun ls hl => ?_)
            refine lv_goto (tgt := 26) hx hb dX2_buildAnew_55 (by decide) ?_
            exact ih26 (k26 + 1) fc_26 fg_26 (by omega) hf _ _ hP hD hS _ (lv_sub hl [1, 2, 3, 0] rfl)
          · rw [if_pos c13] at hf
            refine lv_aload_n hx hb dX2_buildAnew_45 rfl (lv_at hl 0 rfl) ?_
            refine lv_iload_n hx hb dX2_buildAnew_46 rfl (lv_at hl 2 rfl) ?_
            refine lv_iload_n hx hb dX2_buildAnew_47 rfl (lv_at hl 3 rfl) ?_
            refine lv_aload_n hx hb dX2_buildAnew_48 rfl (lv_at hl 1 rfl) ?_
            refine fV_v (ci := 2) (as := [.int (nI k18), .int (nI k26), .ref (ad 1)]) (rest := []) B hl.1 (c_X2_graft l D cI cZ ad rc rl rh fr fw fc_26 fg_26 ps pg pr pd qp qt qf qo ct lE lC cand lim now was sent qfi qsz k18 k26 (by omega) (by omega)) rfl (l_RX2_49 hts ⟨rfl, rfl⟩ ⟨Nat.le_of_ble_eq_true rfl, Nat.le_of_ble_eq_true rfl⟩) m_7_20 m_7_21 rfl rfl hP hD hS hA 5 rfl wfC (Nat.le_of_ble_eq_true rfl) dX2_buildAnew_49 (fun H locs hP hD hS => ?_)
            refine lv_iinc (v := nI (k26 + 1)) (lv' := [(3, .int (nI (k26 + 1))), (0, .ref (ad 5)), (1, .ref (ad 1)), (2, .int (nI k18))]) hx hb dX2_buildAnew_52 hl (k := 3) rfl (nI_add _ _) (by decide) rfl (fun ls hl => ?_)
            refine lv_goto (tgt := 26) hx hb dX2_buildAnew_55 (by decide) ?_
            exact ih26 (k26 + 1) ((f_X2_graft k18 k26 rh fr fc_26 fg_26).1) ((f_X2_graft k18 k26 rh fr fc_26 fg_26).2) (by omega) hf _ _ hP hD hS _ (lv_sub hl [1, 2, 3, 0] rfl)
      exact L26 10 0 fc_18 fg_18 (by omega) hf _ _ hP hD hS _ (lv_sub hl [1, 2, 3, 0] rfl)
  exact L18 44 0 (fun _ => (-1)) (fun _ => (-1)) (by omega) hf _ _ hP hD hS _ (lv_sub hl [1, 2, 0] rfl)
set_option maxHeartbeats 4000000 in
set_option maxRecDepth 100000 in
theorem c_X2_remove (l : Launch) (D : va_G) (cI cZ : ClassId) (ad : Nat → Nat) (rc rl rh fr fw fc fg ps pg pr pd qp qt qf qo ct lE lC : Nat → Int32) (cand : Int32) (lim : Int32) (now : Int32) (was : Int32) (sent : Nat) (qfi : Nat) (qsz : Nat) (t : Nat) (r : Nat) (sec : Int32) (ht : t < 44) (hr : r < 10) : MV l yX2_remove cX2_remove 5 { frames := 4, cells := 0, slots := 0, locals := 90 } D (TY cI cZ) [.ref (ad 5), .int (nI t), .int (nI r), .int sec] (wC cI ad rc rl rh fr fw fc fg ps pg pr pd qp qt qf qo ct lE lC cand lim now was (nI sent) (nI qfi) (nI qsz)) (wC cI ad rc rl rh fr fw (upd fc ((t * 10) + r) (-1)) (f_X2_letLeave_r t (fc ((t * 10) + r)) sec fw (upd fc ((t * 10) + r) (-1)) (upd fg ((t * 10) + r) (-1))) ps pg pr pd qp qt qf qo ct lE lC cand lim now was (nI sent) (nI qfi) (nI qsz)) := by
  refine MV.mk ⟨rfl, rfl⟩ (by decide +kernel) (Nat.le_of_ble_eq_true rfl) ?_
  intro p e s m below meth c A ls B hA hP hD hS hl
  have hx := B.1
  have hb := B.2.1
  have hts := B.2.2.2.2.2.1
  have hN := B.2.2.2.2.2.2.2.1
  have hK := B.2.2.2.2.2.2.2.2.1
  have hl : lv_has ls 5 [(0, .ref (ad 5)), (1, .int (nI t)), (2, .int (nI r)), (3, .int sec)] := hl
  refine lv_aload_n hx hb dX2_remove_0 rfl (lv_at hl 0 rfl) ?_
  refine lv_iload_n hx hb dX2_remove_1 rfl (lv_at hl 1 rfl) ?_
  refine lv_iload_n hx hb dX2_remove_2 rfl (lv_at hl 2 rfl) ?_
  refine fV_i (ci := 2) (as := [.int (nI t), .int (nI r)]) (rest := []) B hl.1 (c_X2_parentOf l D cI cZ ad rc rl rh fr fw fc fg ps pg pr pd qp qt qf qo ct lE lC cand lim now was sent qfi qsz t r (by omega) (by omega)) rfl (l_RX2_64 hts ⟨rfl, rfl⟩ ⟨Nat.le_of_ble_eq_true rfl, Nat.le_of_ble_eq_true rfl⟩) m_8_4 m_8_5 rfl rfl hP hD hS hA 5 rfl wfC (Nat.le_of_ble_eq_true rfl) dX2_remove_3 (fun H locs hP hD hS => ?_)
  refine lv_istore (lv' := [(4, .int (fc ((t * 10) + r))), (0, .ref (ad 5)), (1, .int (nI t)), (2, .int (nI r)), (3, .int sec)]) hx hb dX2_remove_6 hl (by decide) rfl (fun ls hl => ?_)
  refine lv_aload_n hx hb dX2_remove_8 rfl (lv_at hl 1 rfl) ?_
  refine g_X2_18 B hP 5 rfl rfl dX2_remove_9 ?_
  refine lv_iload_n hx hb dX2_remove_12 rfl (lv_at hl 2 rfl) ?_
  refine lv_bipush (v := nI 10) hx hb dX2_remove_13 (by decide) ?_
  refine r_imul hx hb dX2_remove_15 ?_
  refine lv_iload_n hx hb dX2_remove_16 rfl (lv_at hl 3 rfl) ?_
  refine r_iadd hx hb dX2_remove_17 ?_
  refine lv_iconst (v := -1) hx hb dX2_remove_18 (by decide) ?_
  refine r_iast hx hb hK hP hD hS 8 0 rfl rfl (by omega) (by decide) dX2_remove_19 (fun H locs hP hD hS => ?_)
  have hP : va_P D vwCl (wC cI ad rc rl rh fr fw (upd fc ((t * 10) + r) (-1)) fg ps pg pr pd qp qt qf qo ct lE lC cand lim now was (nI sent) (nI qfi) (nI qsz)) H := hP
  have hD : va_D A (wC cI ad rc rl rh fr fw (upd fc ((t * 10) + r) (-1)) fg ps pg pr pd qp qt qf qo ct lE lC cand lim now was (nI sent) (nI qfi) (nI qsz)) := hD
  refine lv_aload_n hx hb dX2_remove_20 rfl (lv_at hl 1 rfl) ?_
  refine g_X2_21 B hP 5 rfl rfl dX2_remove_21 ?_
  refine lv_iload_n hx hb dX2_remove_24 rfl (lv_at hl 2 rfl) ?_
  refine lv_bipush (v := nI 10) hx hb dX2_remove_25 (by decide) ?_
  refine r_imul hx hb dX2_remove_27 ?_
  refine lv_iload_n hx hb dX2_remove_28 rfl (lv_at hl 3 rfl) ?_
  refine r_iadd hx hb dX2_remove_29 ?_
  refine lv_iconst (v := -1) hx hb dX2_remove_30 (by decide) ?_
  refine r_iast hx hb hK hP hD hS 9 0 rfl rfl (by omega) (by decide) dX2_remove_31 (fun H locs hP hD hS => ?_)
  have hP : va_P D vwCl (wC cI ad rc rl rh fr fw (upd fc ((t * 10) + r) (-1)) (upd fg ((t * 10) + r) (-1)) ps pg pr pd qp qt qf qo ct lE lC cand lim now was (nI sent) (nI qfi) (nI qsz)) H := hP
  have hD : va_D A (wC cI ad rc rl rh fr fw (upd fc ((t * 10) + r) (-1)) (upd fg ((t * 10) + r) (-1)) ps pg pr pd qp qt qf qo ct lE lC cand lim now was (nI sent) (nI qfi) (nI qsz)) := hD
  refine lv_aload_n hx hb dX2_remove_32 rfl (lv_at hl 1 rfl) ?_
  refine lv_iload_n hx hb dX2_remove_33 rfl (lv_at hl 2 rfl) ?_
  refine lv_iload hx hb dX2_remove_34 (lv_at hl 0 rfl) ?_
  refine lv_iload_n hx hb dX2_remove_36 rfl (lv_at hl 4 rfl) ?_
  refine fV_v (ci := 2) (as := [.int (nI t), .int (fc ((t * 10) + r)), .int sec]) (rest := []) B hl.1 (c_X2_letLeave_r l D cI cZ ad rc rl rh fr fw (upd fc ((t * 10) + r) (-1)) (upd fg ((t * 10) + r) (-1)) ps pg pr pd qp qt qf qo ct lE lC cand lim now was sent qfi qsz t (fc ((t * 10) + r)) sec (by omega)) rfl (l_RX2_53 hts ⟨rfl, rfl⟩ ⟨Nat.le_of_ble_eq_true rfl, Nat.le_of_ble_eq_true rfl⟩) m_10_10 m_10_11 rfl rfl hP hD hS hA 5 rfl wfC (Nat.le_of_ble_eq_true rfl) dX2_remove_37 (fun H locs hP hD hS => ?_)
  exact eV B hP hS rfl dX2_remove_40
def f_X2_removeDue_L4 (sec : Int32) (fw : Nat → Int32) : Nat → Nat → Int32 → (Nat → Int32) → (Nat → Int32) → Int32 × (Nat → Int32) × (Nat → Int32)
  | 0, _, x2_4, fc_4, fg_4 => (x2_4, fc_4, fg_4)
  | n4 + 1, k4, x2_4, fc_4, fg_4 => if (fg_4 k4) = sec then f_X2_removeDue_L4 sec fw n4 (k4 + 1) (x2_4 + nI 1) (upd fc_4 (((k4 / 10) * 10) + (k4 % 10)) (-1)) (f_X2_letLeave_r (k4 / 10) (fc_4 (((k4 / 10) * 10) + (k4 % 10))) sec fw (upd fc_4 (((k4 / 10) * 10) + (k4 % 10)) (-1)) (upd fg_4 (((k4 / 10) * 10) + (k4 % 10)) (-1))) else f_X2_removeDue_L4 sec fw n4 (k4 + 1) x2_4 fc_4 fg_4
def f_X2_removeDue (sec : Int32) (fw : Nat → Int32) (fc : Nat → Int32) (fg : Nat → Int32) : Int32 × (Nat → Int32) × (Nat → Int32) :=
  f_X2_removeDue_L4 sec fw 440 0 (nI 0) fc fg
set_option maxHeartbeats 4000000 in
set_option maxRecDepth 100000 in
theorem c_X2_removeDue (l : Launch) (D : va_G) (cI cZ : ClassId) (ad : Nat → Nat) (rc rl rh fr fw fc fg ps pg pr pd qp qt qf qo ct lE lC : Nat → Int32) (cand : Int32) (lim : Int32) (now : Int32) (was : Int32) (sent : Nat) (qfi : Nat) (qsz : Nat) (sec : Int32) : MI l yX2_removeDue cX2_removeDue 4 .int { frames := 5, cells := 0, slots := 0, locals := 114 } D (TY cI cZ) [.ref (ad 5), .int sec] (wC cI ad rc rl rh fr fw fc fg ps pg pr pd qp qt qf qo ct lE lC cand lim now was (nI sent) (nI qfi) (nI qsz)) (wC cI ad rc rl rh fr fw ((f_X2_removeDue sec fw fc fg).2.1) ((f_X2_removeDue sec fw fc fg).2.2) ps pg pr pd qp qt qf qo ct lE lC cand lim now was (nI sent) (nI qfi) (nI qsz)) ((f_X2_removeDue sec fw fc fg).1) := by
  refine MI.mk ⟨rfl, rfl⟩ (by decide +kernel) (Nat.le_of_ble_eq_true rfl) ?_
  intro p e s m below meth c A ls B hA hP hD hS hl
  have hx := B.1
  have hb := B.2.1
  have hts := B.2.2.2.2.2.1
  have hN := B.2.2.2.2.2.2.2.1
  have hK := B.2.2.2.2.2.2.2.2.1
  have hl : lv_has ls 4 [(0, .ref (ad 5)), (1, .int sec)] := hl
  have hf := f_X2_removeDue.eq_1 sec fw fc fg
  refine lv_iconst (v := nI 0) hx hb dX2_removeDue_0 (by decide) ?_
  refine lv_istore_n (lv' := [(2, .int (nI 0)), (0, .ref (ad 5)), (1, .int sec)]) hx hb dX2_removeDue_1 rfl hl (by decide) rfl (fun ls hl => ?_)
  refine lv_iconst (v := nI 0) hx hb dX2_removeDue_2 (by decide) ?_
  refine lv_istore_n (lv' := [(3, .int (nI 0)), (2, .int (nI 0)), (0, .ref (ad 5)), (1, .int sec)]) hx hb dX2_removeDue_3 rfl hl (by decide) rfl (fun ls hl => ?_)
  have L4 : ∀ (n4 : Nat) (k4 : Nat) (x2_4 : Int32) (fc_4 : Nat → Int32) (fg_4 : Nat → Int32), k4 + n4 = 440 → f_X2_removeDue sec fw fc fg = (f_X2_removeDue_L4 sec fw n4 k4 x2_4 fc_4 fg_4) → ∀ (H : Heap) (locs : List Loc), va_P D vwCl (wC cI ad rc rl rh fr fw fc_4 fg_4 ps pg pr pd qp qt qf qo ct lE lC cand lim now was (nI sent) (nI qfi) (nI qsz)) H → va_D A (wC cI ad rc rl rh fr fw fc_4 fg_4 ps pg pr pd qp qt qf qo ct lE lC cand lim now was (nI sent) (nI qfi) (nI qsz)) → va_S A s.heap H locs → ∀ ls : Array Slot, lv_has ls 4 [(0, .ref (ad 5)), (1, .int sec), (2, .int x2_4), (3, .int (nI k4))] → W p l e { frames := 5, cells := 0, slots := 0, locals := 114 } s m [.ref (ad 5), .int sec].toArray below meth c H locs 0 0 (QI below s A D [.ref (ad 5), .int sec] (wC cI ad rc rl rh fr fw ((f_X2_removeDue sec fw fc fg).2.1) ((f_X2_removeDue sec fw fc fg).2.2) ps pg pr pd qp qt qf qo ct lE lC cand lim now was (nI sent) (nI qfi) (nI qsz)) ((f_X2_removeDue sec fw fc fg).1)) (F0 m 4 ls []) := by
    intro n4
    induction n4 with
    | zero =>
      intro k4 x2_4 fc_4 fg_4 hk4 hf H locs hP hD hS ls hl
      obtain rfl : 440 = k4 := by omega
      rw [f_X2_removeDue_L4] at hf
      have hl : lv_has ls 4 [(0, .ref (ad 5)), (1, .int sec), (2, .int x2_4), (3, .int (nI 440))] := hl
      refine lv_iload_n hx hb dX2_removeDue_4 rfl (lv_at hl 3 rfl) ?_
      refine lv_sipush (v := nI 440) hx hb dX2_removeDue_5 (by decide) ?_
      refine r_icmp_ge (tgt := 43) hx hb (by omega) (by omega) dX2_removeDue_8 (by decide) (fun _ => ?_) (fun c => absurd c (by omega))
      refine lv_iload_n hx hb dX2_removeDue_43 rfl (lv_at hl 2 rfl) ?_
      exact eI B hP hS (by simp only [hf]) (by simp only [hf]) dX2_removeDue_44
    | succ n4 ih4 =>
      intro k4 x2_4 fc_4 fg_4 hk4 hf H locs hP hD hS ls hl
      rw [f_X2_removeDue_L4] at hf
      have hl : lv_has ls 4 [(0, .ref (ad 5)), (1, .int sec), (2, .int x2_4), (3, .int (nI k4))] := hl
      refine lv_iload_n hx hb dX2_removeDue_4 rfl (lv_at hl 3 rfl) ?_
      refine lv_sipush (v := nI 440) hx hb dX2_removeDue_5 (by decide) ?_
      refine r_icmp_ge (tgt := 43) hx hb (by omega) (by omega) dX2_removeDue_8 (by decide) (fun c => absurd c (by omega)) (fun _ => ?_)
      refine lv_aload_n hx hb dX2_removeDue_11 rfl (lv_at hl 0 rfl) ?_
      refine g_X2_21 B hP 5 rfl rfl dX2_removeDue_12 ?_
      refine lv_iload_n hx hb dX2_removeDue_15 rfl (lv_at hl 3 rfl) ?_
      refine r_iald hx hb hK hP 9 0 rfl rfl (by omega) (by decide) dX2_removeDue_16 ?_
      refine lv_iload_n hx hb dX2_removeDue_17 rfl (lv_at hl 1 rfl) ?_
      refine lv_icmp_ne (tgt := 37) hx hb dX2_removeDue_18 (by decide) (fun c4 => ?_) (fun c4 => ?_)
      · have hf := hf.trans (if_neg c4)
        refine lv_iinc (v := nI (k4 + 1)) (lv' := [(3, .int (nI (k4 + 1))), (0, .ref (ad 5)), (1, .int sec), (2, .int x2_4)]) hx hb dX2_removeDue_37 hl (k := 3) rfl (nI_add _ _) (by decide) rfl (fun ls hl => ?_)
        refine lv_goto (tgt := 4) hx hb dX2_removeDue_40 (by decide) ?_
        exact ih4 (k4 + 1) x2_4 fc_4 fg_4 (by omega) hf _ _ hP hD hS _ (lv_sub hl [1, 2, 3, 0] rfl)
      · have hf := hf.trans (if_pos c4)
        refine lv_aload_n hx hb dX2_removeDue_21 rfl (lv_at hl 0 rfl) ?_
        refine lv_iload_n hx hb dX2_removeDue_22 rfl (lv_at hl 3 rfl) ?_
        refine lv_bipush (v := nI 10) hx hb dX2_removeDue_23 (by decide) ?_
        refine r_idiv hx hb (by omega) (by omega) (by omega) dX2_removeDue_25 ?_
        refine lv_iload_n hx hb dX2_removeDue_26 rfl (lv_at hl 3 rfl) ?_
        refine lv_bipush (v := nI 10) hx hb dX2_removeDue_27 (by decide) ?_
        refine r_irem hx hb (by omega) (by omega) (by omega) dX2_removeDue_29 ?_
        refine lv_iload_n hx hb dX2_removeDue_30 rfl (lv_at hl 1 rfl) ?_
        refine fV_v (ci := 2) (as := [.int (nI (k4 / 10)), .int (nI (k4 % 10)), .int sec]) (rest := []) B hl.1 (c_X2_remove l D cI cZ ad rc rl rh fr fw fc_4 fg_4 ps pg pr pd qp qt qf qo ct lE lC cand lim now was sent qfi qsz (k4 / 10) (k4 % 10) sec (by omega) (by omega)) rfl (l_RX2_61 hts ⟨rfl, rfl⟩ ⟨Nat.le_of_ble_eq_true rfl, Nat.le_of_ble_eq_true rfl⟩) m_12_23 m_13_0 rfl rfl hP hD hS hA 5 rfl wfC (Nat.le_of_ble_eq_true rfl) dX2_removeDue_31 (fun H locs hP hD hS => ?_)
        refine lv_iinc (v := x2_4 + nI 1) (lv' := [(2, .int (x2_4 + nI 1)), (0, .ref (ad 5)), (1, .int sec), (3, .int (nI k4))]) hx hb dX2_removeDue_34 hl (k := 2) rfl rfl (by decide) rfl (fun ls hl => ?_)
        refine lv_iinc (v := nI (k4 + 1)) (lv' := [(3, .int (nI (k4 + 1))), (2, .int (x2_4 + nI 1)), (0, .ref (ad 5)), (1, .int sec)]) hx hb dX2_removeDue_37 hl (k := 3) rfl (nI_add _ _) (by decide) rfl (fun ls hl => ?_)
        refine lv_goto (tgt := 4) hx hb dX2_removeDue_40 (by decide) ?_
        exact ih4 (k4 + 1) (x2_4 + nI 1) (upd fc_4 (((k4 / 10) * 10) + (k4 % 10)) (-1)) (f_X2_letLeave_r (k4 / 10) (fc_4 (((k4 / 10) * 10) + (k4 % 10))) sec fw (upd fc_4 (((k4 / 10) * 10) + (k4 % 10)) (-1)) (upd fg_4 (((k4 / 10) * 10) + (k4 % 10)) (-1))) (by omega) hf _ _ hP hD hS _ (lv_sub hl [2, 3, 1, 0] rfl)
  exact L4 440 0 (nI 0) fc fg (by omega) hf _ _ hP hD hS _ (lv_sub hl [2, 3, 1, 0] rfl)
