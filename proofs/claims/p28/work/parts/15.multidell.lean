set_option maxHeartbeats 4000000 in
set_option maxRecDepth 100000 in
theorem c_X5_checkRouter (l : Launch) (D : va_G) (cI cZ : ClassId) (ws : va_W) (r : Nat) (hr : r < 10) : MV l yX5_checkRouter cX5_checkRouter 1 { frames := 1, cells := 0, slots := 0, locals := 20 } D (TY cI cZ) [.int (nI r)] (ws) (ws) := by
  refine MV.mk ⟨rfl, rfl⟩ (by decide +kernel) (Nat.le_of_ble_eq_true rfl) ?_
  intro p e s m below meth c A ls B hA hP hD hS hl
  have hx := B.1
  have hb := B.2.1
  have hts := B.2.2.2.2.2.1
  have hN := B.2.2.2.2.2.2.2.1
  have hK := B.2.2.2.2.2.2.2.2.1
  have hl : lv_has ls 1 [(0, .int (nI r))] := hl
  refine lv_iload_n hx hb dX5_checkRouter_0 rfl (lv_at hl 0 rfl) ?_
  refine fS_i (as := [.int (nI r)]) (rest := []) B hl.1 (c_X5_isRouter l D cI cZ (ws) r (by omega)) (l_RX5_252 hts ⟨rfl, rfl⟩ ⟨Nat.le_of_ble_eq_true rfl, Nat.le_of_ble_eq_true rfl⟩) m_4_14 rfl rfl hP hD hS hA rfl (Nat.le_of_ble_eq_true rfl) dX5_checkRouter_1 (fun H locs hP hD hS => ?_)
  refine r_if_ne (tgt := 17) hx hb (by omega) dX5_checkRouter_4 (by decide) (fun _ => ?_) (fun c => absurd c (by omega))
  exact eV B hP hS rfl dX5_checkRouter_17
set_option maxHeartbeats 4000000 in
set_option maxRecDepth 100000 in
theorem c_X5_checkGroup (l : Launch) (D : va_G) (cI cZ : ClassId) (ws : va_W) (g : Nat) (hg : g < 4) : MV l yX5_checkGroup cX5_checkGroup 1 { frames := 1, cells := 0, slots := 0, locals := 20 } D (TY cI cZ) [.int (nI g)] (ws) (ws) := by
  refine MV.mk ⟨rfl, rfl⟩ (by decide +kernel) (Nat.le_of_ble_eq_true rfl) ?_
  intro p e s m below meth c A ls B hA hP hD hS hl
  have hx := B.1
  have hb := B.2.1
  have hts := B.2.2.2.2.2.1
  have hN := B.2.2.2.2.2.2.2.1
  have hK := B.2.2.2.2.2.2.2.2.1
  have hl : lv_has ls 1 [(0, .int (nI g))] := hl
  refine lv_iload_n hx hb dX5_checkGroup_0 rfl (lv_at hl 0 rfl) ?_
  refine fS_i (as := [.int (nI g)]) (rest := []) B hl.1 (c_X5_isGroup l D cI cZ (ws) g (by omega)) (l_RX5_257 hts ⟨rfl, rfl⟩ ⟨Nat.le_of_ble_eq_true rfl, Nat.le_of_ble_eq_true rfl⟩) m_4_17 rfl rfl hP hD hS hA rfl (Nat.le_of_ble_eq_true rfl) dX5_checkGroup_1 (fun H locs hP hD hS => ?_)
  refine r_if_ne (tgt := 18) hx hb (by omega) dX5_checkGroup_4 (by decide) (fun _ => ?_) (fun c => absurd c (by omega))
  exact eV B hP hS rfl dX5_checkGroup_18
set_option maxHeartbeats 4000000 in
set_option maxRecDepth 100000 in
theorem c_X5_checkPacket (l : Launch) (D : va_G) (cI cZ : ClassId) (ad : Nat → Nat) (rc rl rh fr fw fc fg ps pg pr pd qp qt qf qo ct lE lC : Nat → Int32) (cand : Int32) (lim : Int32) (now : Int32) (was : Int32) (sent : Nat) (qfi : Nat) (qsz : Nat) (pk : Nat) (hpk : pk < 200) (hsent : sent ≤ 200) (hps : pk < sent) : MV l yX5_checkPacket cX5_checkPacket 2 { frames := 1, cells := 0, slots := 0, locals := 21 } D (TY cI cZ) [.ref (ad 0), .int (nI pk)] (wC cI ad rc rl rh fr fw fc fg ps pg pr pd qp qt qf qo ct lE lC cand lim now was (nI sent) (nI qfi) (nI qsz)) (wC cI ad rc rl rh fr fw fc fg ps pg pr pd qp qt qf qo ct lE lC cand lim now was (nI sent) (nI qfi) (nI qsz)) := by
  refine MV.mk ⟨rfl, rfl⟩ (by decide +kernel) (Nat.le_of_ble_eq_true rfl) ?_
  intro p e s m below meth c A ls B hA hP hD hS hl
  have hx := B.1
  have hb := B.2.1
  have hts := B.2.2.2.2.2.1
  have hN := B.2.2.2.2.2.2.2.1
  have hK := B.2.2.2.2.2.2.2.2.1
  have hl : lv_has ls 2 [(0, .ref (ad 0)), (1, .int (nI pk))] := hl
  refine lv_aload_n hx hb dX5_checkPacket_0 rfl (lv_at hl 0 rfl) ?_
  refine g_X5_26 B hP 0 rfl rfl dX5_checkPacket_1 ?_
  refine lv_iload_n hx hb dX5_checkPacket_4 rfl (lv_at hl 1 rfl) ?_
  refine fV_i (ci := 3) (as := [.int (nI pk)]) (rest := []) B hl.1 (c_X3_isPacket l D cI cZ ad rc rl rh fr fw fc fg ps pg pr pd qp qt qf qo ct lE lC cand lim now was sent qfi qsz pk (by omega) (by omega) hps) rfl (l_RX5_244 hts ⟨rfl, rfl⟩ ⟨Nat.le_of_ble_eq_true rfl, Nat.le_of_ble_eq_true rfl⟩) m_15_22 m_15_23 rfl rfl hP hD hS hA 10 rfl wfC (Nat.le_of_ble_eq_true rfl) dX5_checkPacket_5 (fun H locs hP hD hS => ?_)
  refine r_if_ne (tgt := 21) hx hb (by omega) dX5_checkPacket_8 (by decide) (fun _ => ?_) (fun c => absurd c (by omega))
  exact eV B hP hS rfl dX5_checkPacket_21
set_option maxHeartbeats 4000000 in
set_option maxRecDepth 100000 in
theorem c_X5_membersOf (l : Launch) (D : va_G) (cI cZ : ClassId) (ad : Nat → Nat) (rc rl rh fr fw fc fg ps pg pr pd qp qt qf qo ct lE lC : Nat → Int32) (cand : Int32) (lim : Int32) (now : Int32) (was : Int32) (sent : Nat) (qfi : Nat) (qsz : Nat) (g : Nat) (hg : g < 4) : MI l yX5_membersOf cX5_membersOf 2 .int { frames := 2, cells := 0, slots := 0, locals := 41 } D (TY cI cZ) [.ref (ad 0), .int (nI g)] (wC cI ad rc rl rh fr fw fc fg ps pg pr pd qp qt qf qo ct lE lC cand lim now was (nI sent) (nI qfi) (nI qsz)) (wC cI ad rc rl rh fr fw fc fg ps pg pr pd qp qt qf qo ct lE lC cand lim now was (nI sent) (nI qfi) (nI qsz)) (fw g) := by
  refine MI.mk ⟨rfl, rfl⟩ (by decide +kernel) (Nat.le_of_ble_eq_true rfl) ?_
  intro p e s m below meth c A ls B hA hP hD hS hl
  have hx := B.1
  have hb := B.2.1
  have hts := B.2.2.2.2.2.1
  have hN := B.2.2.2.2.2.2.2.1
  have hK := B.2.2.2.2.2.2.2.2.1
  have hl : lv_has ls 2 [(0, .ref (ad 0)), (1, .int (nI g))] := hl
  refine lv_aload_n hx hb dX5_membersOf_0 rfl (lv_at hl 0 rfl) ?_
  refine g_X5_19 B hP 0 rfl rfl dX5_membersOf_1 ?_
  refine lv_iload_n hx hb dX5_membersOf_4 rfl (lv_at hl 1 rfl) ?_
  refine fS_i (as := [.int (nI g)]) (rest := [.ref (ad 5)]) B hl.1 (c_X5_sharedTree l D cI cZ (wC cI ad rc rl rh fr fw fc fg ps pg pr pd qp qt qf qo ct lE lC cand lim now was (nI sent) (nI qfi) (nI qsz)) g (by omega)) (l_RX5_82 hts ⟨rfl, rfl⟩ ⟨Nat.le_of_ble_eq_true rfl, Nat.le_of_ble_eq_true rfl⟩) m_8_21 rfl rfl hP hD hS hA rfl (Nat.le_of_ble_eq_true rfl) dX5_membersOf_5 (fun H locs hP hD hS => ?_)
  refine fV_i (ci := 2) (as := [.int (nI g)]) (rest := []) B hl.1 (c_X2_wantingOf l D cI cZ ad rc rl rh fr fw fc fg ps pg pr pd qp qt qf qo ct lE lC cand lim now was sent qfi qsz g (by omega)) rfl (l_RX5_140 hts ⟨rfl, rfl⟩ ⟨Nat.le_of_ble_eq_true rfl, Nat.le_of_ble_eq_true rfl⟩) m_10_2 m_10_3 rfl rfl hP hD hS hA 5 rfl wfC (Nat.le_of_ble_eq_true rfl) dX5_membersOf_8 (fun H locs hP hD hS => ?_)
  exact eI B hP hS rfl rfl dX5_membersOf_11
set_option maxHeartbeats 4000000 in
set_option maxRecDepth 100000 in
theorem c_X5_isMember (l : Launch) (D : va_G) (cI cZ : ClassId) (ad : Nat → Nat) (rc rl rh fr fw fc fg ps pg pr pd qp qt qf qo ct lE lC : Nat → Int32) (cand : Int32) (lim : Int32) (now : Int32) (was : Int32) (sent : Nat) (qfi : Nat) (qsz : Nat) (r : Nat) (g : Nat) (hr : r < 10) (hg : g < 4) : MI l yX5_isMember cX5_isMember 3 .boolean { frames := 3, cells := 0, slots := 0, locals := 62 } D (TY cI cZ) [.ref (ad 0), .int (nI r), .int (nI g)] (wC cI ad rc rl rh fr fw fc fg ps pg pr pd qp qt qf qo ct lE lC cand lim now was (nI sent) (nI qfi) (nI qsz)) (wC cI ad rc rl rh fr fw fc fg ps pg pr pd qp qt qf qo ct lE lC cand lim now was (nI sent) (nI qfi) (nI qsz)) (bI (f_X5_has (fw g) r)) := by
  refine MI.mk ⟨rfl, rfl⟩ (by decide +kernel) (Nat.le_of_ble_eq_true rfl) ?_
  intro p e s m below meth c A ls B hA hP hD hS hl
  have hx := B.1
  have hb := B.2.1
  have hts := B.2.2.2.2.2.1
  have hN := B.2.2.2.2.2.2.2.1
  have hK := B.2.2.2.2.2.2.2.2.1
  have hl : lv_has ls 3 [(0, .ref (ad 0)), (1, .int (nI r)), (2, .int (nI g))] := hl
  refine lv_aload_n hx hb dX5_isMember_0 rfl (lv_at hl 0 rfl) ?_
  refine lv_iload_n hx hb dX5_isMember_1 rfl (lv_at hl 2 rfl) ?_
  refine fV_i (ci := 5) (as := [.int (nI g)]) (rest := []) B hl.1 (c_X5_membersOf l D cI cZ ad rc rl rh fr fw fc fg ps pg pr pd qp qt qf qo ct lE lC cand lim now was sent qfi qsz g (by omega)) rfl (l_RX5_118 hts ⟨rfl, rfl⟩ ⟨Nat.le_of_ble_eq_true rfl, Nat.le_of_ble_eq_true rfl⟩) m_9_22 m_9_23 rfl rfl hP hD hS hA 0 rfl wfC (Nat.le_of_ble_eq_true rfl) dX5_isMember_2 (fun H locs hP hD hS => ?_)
  refine lv_iload_n hx hb dX5_isMember_5 rfl (lv_at hl 1 rfl) ?_
  refine fS_i (as := [.int (fw g), .int (nI r)]) (rest := []) B hl.1 (c_X5_has l D cI cZ (wC cI ad rc rl rh fr fw fc fg ps pg pr pd qp qt qf qo ct lE lC cand lim now was (nI sent) (nI qfi) (nI qsz)) (fw g) r (by omega)) (l_RX5_74 hts ⟨rfl, rfl⟩ ⟨Nat.le_of_ble_eq_true rfl, Nat.le_of_ble_eq_true rfl⟩) m_7_14 rfl rfl hP hD hS hA rfl (Nat.le_of_ble_eq_true rfl) dX5_isMember_6 (fun H locs hP hD hS => ?_)
  exact eZ B hP hS (bI_nar _) rfl rfl dX5_isMember_9
def f_X5_bestCandidate_L7 (g : Nat) (cand : Int32) : Nat → Nat → Int32 → Int32 → Int32
  | 0, _, x2_7, x3_7 => x2_7
  | n7 + 1, k7, x2_7, x3_7 => if (f_X5_has cand k7) = true then (if (nI ((((31 * g) + 17) * ((53 * k7) + 29)) % 997)) ≤ x3_7 then f_X5_bestCandidate_L7 g cand n7 (k7 + 1) x2_7 x3_7 else f_X5_bestCandidate_L7 g cand n7 (k7 + 1) (nI k7) (nI ((((31 * g) + 17) * ((53 * k7) + 29)) % 997))) else f_X5_bestCandidate_L7 g cand n7 (k7 + 1) x2_7 x3_7
def f_X5_bestCandidate (g : Nat) (cand : Int32) : Int32 :=
  f_X5_bestCandidate_L7 g cand 10 0 (-1) (-1)
set_option maxHeartbeats 4000000 in
set_option maxRecDepth 100000 in
theorem c_X5_bestCandidate (l : Launch) (D : va_G) (cI cZ : ClassId) (ad : Nat → Nat) (rc rl rh fr fw fc fg ps pg pr pd qp qt qf qo ct lE lC : Nat → Int32) (cand : Int32) (lim : Int32) (now : Int32) (was : Int32) (sent : Nat) (qfi : Nat) (qsz : Nat) (g : Nat) (hg : g < 4) : MI l yX5_bestCandidate cX5_bestCandidate 6 .int { frames := 2, cells := 0, slots := 0, locals := 41 } D (TY cI cZ) [.ref (ad 0), .int (nI g)] (wC cI ad rc rl rh fr fw fc fg ps pg pr pd qp qt qf qo ct lE lC cand lim now was (nI sent) (nI qfi) (nI qsz)) (wC cI ad rc rl rh fr fw fc fg ps pg pr pd qp qt qf qo ct lE lC cand lim now was (nI sent) (nI qfi) (nI qsz)) (f_X5_bestCandidate g cand) := by
  refine MI.mk ⟨rfl, rfl⟩ (by decide +kernel) (Nat.le_of_ble_eq_true rfl) ?_
  intro p e s m below meth c A ls B hA hP hD hS hl
  have hx := B.1
  have hb := B.2.1
  have hts := B.2.2.2.2.2.1
  have hN := B.2.2.2.2.2.2.2.1
  have hK := B.2.2.2.2.2.2.2.2.1
  have hl : lv_has ls 6 [(0, .ref (ad 0)), (1, .int (nI g))] := hl
  have hf := f_X5_bestCandidate.eq_1 g cand
  refine lv_iconst (v := -1) hx hb dX5_bestCandidate_0 (by decide) ?_
  refine lv_istore_n (lv' := [(2, .int (-1)), (0, .ref (ad 0)), (1, .int (nI g))]) hx hb dX5_bestCandidate_1 rfl hl (by decide) rfl (fun ls hl => ?_)
  refine lv_iconst (v := -1) hx hb dX5_bestCandidate_2 (by decide) ?_
  refine lv_istore_n (lv' := [(3, .int (-1)), (2, .int (-1)), (0, .ref (ad 0)), (1, .int (nI g))]) hx hb dX5_bestCandidate_3 rfl hl (by decide) rfl (fun ls hl => ?_)
  refine lv_iconst (v := nI 0) hx hb dX5_bestCandidate_4 (by decide) ?_
  refine lv_istore (lv' := [(4, .int (nI 0)), (3, .int (-1)), (2, .int (-1)), (0, .ref (ad 0)), (1, .int (nI g))]) hx hb dX5_bestCandidate_5 hl (by decide) rfl (fun ls hl => ?_)
  have L7 : ∀ (n7 : Nat) (k7 : Nat) (x2_7 : Int32) (x3_7 : Int32), k7 + n7 = 10 → f_X5_bestCandidate g cand = (f_X5_bestCandidate_L7 g cand n7 k7 x2_7 x3_7) → ∀ (H : Heap) (locs : List Loc), va_P D vwCl (wC cI ad rc rl rh fr fw fc fg ps pg pr pd qp qt qf qo ct lE lC cand lim now was (nI sent) (nI qfi) (nI qsz)) H → va_D A (wC cI ad rc rl rh fr fw fc fg ps pg pr pd qp qt qf qo ct lE lC cand lim now was (nI sent) (nI qfi) (nI qsz)) → va_S A s.heap H locs → ∀ ls : Array Slot, lv_has ls 6 [(0, .ref (ad 0)), (1, .int (nI g)), (2, .int x2_7), (3, .int x3_7), (4, .int (nI k7))] → W p l e { frames := 2, cells := 0, slots := 0, locals := 41 } s m [.ref (ad 0), .int (nI g)].toArray below meth c H locs 0 0 (QI below s A D [.ref (ad 0), .int (nI g)] (wC cI ad rc rl rh fr fw fc fg ps pg pr pd qp qt qf qo ct lE lC cand lim now was (nI sent) (nI qfi) (nI qsz)) (f_X5_bestCandidate g cand)) (F0 m 7 ls []) := by
    intro n7
    induction n7 with
    | zero =>
      intro k7 x2_7 x3_7 hk7 hf H locs hP hD hS ls hl
      obtain rfl : 10 = k7 := by omega
      rw [f_X5_bestCandidate_L7] at hf
      have hl : lv_has ls 6 [(0, .ref (ad 0)), (1, .int (nI g)), (2, .int x2_7), (3, .int x3_7), (4, .int (nI 10))] := hl
      refine lv_iload hx hb dX5_bestCandidate_7 (lv_at hl 4 rfl) ?_
      refine lv_bipush (v := nI 10) hx hb dX5_bestCandidate_9 (by decide) ?_
      refine r_icmp_ge (tgt := 66) hx hb (by omega) (by omega) dX5_bestCandidate_11 (by decide) (fun _ => ?_) (fun c => absurd c (by omega))
      refine lv_iload_n hx hb dX5_bestCandidate_66 rfl (lv_at hl 2 rfl) ?_
      exact eI B hP hS ((congrArg (fun (u : Int32) => u) hf).symm) rfl dX5_bestCandidate_67
    | succ n7 ih7 =>
      intro k7 x2_7 x3_7 hk7 hf H locs hP hD hS ls hl
      rw [f_X5_bestCandidate_L7] at hf
      have hl : lv_has ls 6 [(0, .ref (ad 0)), (1, .int (nI g)), (2, .int x2_7), (3, .int x3_7), (4, .int (nI k7))] := hl
      refine lv_iload hx hb dX5_bestCandidate_7 (lv_at hl 4 rfl) ?_
      refine lv_bipush (v := nI 10) hx hb dX5_bestCandidate_9 (by decide) ?_
      refine r_icmp_ge (tgt := 66) hx hb (by omega) (by omega) dX5_bestCandidate_11 (by decide) (fun c => absurd c (by omega)) (fun _ => ?_)
      refine lv_bipush (v := nI 31) hx hb dX5_bestCandidate_14 (by decide) ?_
      refine lv_iload_n hx hb dX5_bestCandidate_16 rfl (lv_at hl 1 rfl) ?_
      refine r_imul hx hb dX5_bestCandidate_17 ?_
      refine lv_bipush (v := nI 17) hx hb dX5_bestCandidate_18 (by decide) ?_
      refine r_iadd hx hb dX5_bestCandidate_20 ?_
      refine lv_bipush (v := nI 53) hx hb dX5_bestCandidate_21 (by decide) ?_
      refine lv_iload hx hb dX5_bestCandidate_23 (lv_at hl 4 rfl) ?_
      refine r_imul hx hb dX5_bestCandidate_25 ?_
      refine lv_bipush (v := nI 29) hx hb dX5_bestCandidate_26 (by decide) ?_
      refine r_iadd hx hb dX5_bestCandidate_28 ?_
      refine r_imul hx hb dX5_bestCandidate_29 ?_
      refine lv_sipush (v := nI 997) hx hb dX5_bestCandidate_30 (by decide) ?_
      refine r_irem hx hb (Nat.lt_of_le_of_lt (Nat.mul_le_mul (show (31 * g) + 17 ≤ 110 by omega) (show (53 * k7) + 29 ≤ 506 by omega)) (by decide)) (by omega) (by omega) dX5_bestCandidate_33 ?_
      refine lv_istore (lv' := [(5, .int (nI ((((31 * g) + 17) * ((53 * k7) + 29)) % 997))), (0, .ref (ad 0)), (1, .int (nI g)), (2, .int x2_7), (3, .int x3_7), (4, .int (nI k7))]) hx hb dX5_bestCandidate_34 hl (by decide) rfl (fun ls hl => ?_)
      refine lv_aload_n hx hb dX5_bestCandidate_36 rfl (lv_at hl 1 rfl) ?_
      refine g_X5_71 B hP 0 rfl rfl dX5_bestCandidate_37 ?_
      refine lv_iload hx hb dX5_bestCandidate_40 (lv_at hl 5 rfl) ?_
      refine fS_i (as := [.int cand, .int (nI k7)]) (rest := []) B hl.1 (c_X5_has l D cI cZ (wC cI ad rc rl rh fr fw fc fg ps pg pr pd qp qt qf qo ct lE lC cand lim now was (nI sent) (nI qfi) (nI qsz)) cand k7 (by omega)) (l_RX5_74 hts ⟨rfl, rfl⟩ ⟨Nat.le_of_ble_eq_true rfl, Nat.le_of_ble_eq_true rfl⟩) m_7_14 rfl rfl hP hD hS hA rfl (Nat.le_of_ble_eq_true rfl) dX5_bestCandidate_42 (fun H locs hP hD hS => ?_)
      refine r_if_eq_b (tgt := 60) hx hb dX5_bestCandidate_45 (by decide) (fun c6 => ?_) (fun c6 => ?_)
      · have hf := hf.trans (if_neg c6)
        refine lv_iinc (v := nI (k7 + 1)) (lv' := [(4, .int (nI (k7 + 1))), (5, .int (nI ((((31 * g) + 17) * ((53 * k7) + 29)) % 997))), (0, .ref (ad 0)), (1, .int (nI g)), (2, .int x2_7), (3, .int x3_7)]) hx hb dX5_bestCandidate_60 hl (k := 5) rfl (nI_add _ _) (by decide) rfl (fun ls hl => ?_)
        refine lv_goto (tgt := 7) hx hb dX5_bestCandidate_63 (by decide) ?_
        exact ih7 (k7 + 1) x2_7 x3_7 (by omega) hf _ _ hP hD hS _ (lv_sub hl [2, 3, 4, 5, 0] rfl)
      · have hf := hf.trans (if_pos c6)
        refine lv_iload hx hb dX5_bestCandidate_48 (lv_at hl 0 rfl) ?_
        refine lv_iload_n hx hb dX5_bestCandidate_50 rfl (lv_at hl 4 rfl) ?_
        refine lv_icmp_le (tgt := 60) hx hb dX5_bestCandidate_51 (by decide) (fun c7 => ?_) (fun c7 => ?_)
        · have hf := hf.trans (if_pos c7)
          refine lv_iinc (v := nI (k7 + 1)) (lv' := [(4, .int (nI (k7 + 1))), (5, .int (nI ((((31 * g) + 17) * ((53 * k7) + 29)) % 997))), (0, .ref (ad 0)), (1, .int (nI g)), (2, .int x2_7), (3, .int x3_7)]) hx hb dX5_bestCandidate_60 hl (k := 5) rfl (nI_add _ _) (by decide) rfl (fun ls hl => ?_)
          refine lv_goto (tgt := 7) hx hb dX5_bestCandidate_63 (by decide) ?_
          exact ih7 (k7 + 1) x2_7 x3_7 (by omega) hf _ _ hP hD hS _ (lv_sub hl [2, 3, 4, 5, 0] rfl)
        · have hf := hf.trans (if_neg c7)
          refine lv_iload hx hb dX5_bestCandidate_54 (lv_at hl 5 rfl) ?_
          refine lv_istore_n (lv' := [(2, .int (nI k7)), (5, .int (nI ((((31 * g) + 17) * ((53 * k7) + 29)) % 997))), (0, .ref (ad 0)), (1, .int (nI g)), (3, .int x3_7), (4, .int (nI k7))]) hx hb dX5_bestCandidate_56 rfl hl (by decide) rfl (fun ls hl => ?_)
          refine lv_iload hx hb dX5_bestCandidate_57 (lv_at hl 1 rfl) ?_
          refine lv_istore_n (lv' := [(3, .int (nI ((((31 * g) + 17) * ((53 * k7) + 29)) % 997))), (2, .int (nI k7)), (5, .int (nI ((((31 * g) + 17) * ((53 * k7) + 29)) % 997))), (0, .ref (ad 0)), (1, .int (nI g)), (4, .int (nI k7))]) hx hb dX5_bestCandidate_59 rfl hl (by decide) rfl (fun ls hl => ?_)
          refine lv_iinc (v := nI (k7 + 1)) (lv' := [(4, .int (nI (k7 + 1))), (3, .int (nI ((((31 * g) + 17) * ((53 * k7) + 29)) % 997))), (2, .int (nI k7)), (5, .int (nI ((((31 * g) + 17) * ((53 * k7) + 29)) % 997))), (0, .ref (ad 0)), (1, .int (nI g))]) hx hb dX5_bestCandidate_60 hl (k := 5) rfl (nI_add _ _) (by decide) rfl (fun ls hl => ?_)
          refine lv_goto (tgt := 7) hx hb dX5_bestCandidate_63 (by decide) ?_
          exact ih7 (k7 + 1) (nI k7) (nI ((((31 * g) + 17) * ((53 * k7) + 29)) % 997)) (by omega) hf _ _ hP hD hS _ (lv_sub hl [4, 5, 2, 1, 0] rfl)
  exact L7 10 0 (-1) (-1) (by omega) hf _ _ hP hD hS _ (lv_sub hl [3, 4, 2, 1, 0] rfl)
def f_X5_floodedFrom_L4 (s_ : Nat) (rl : Nat → Int32) : Nat → Nat → Int32 → Int32
  | 0, _, x2_4 => x2_4
  | n4 + 1, k4, x2_4 => if (f_X4_distanceOf s_ k4 rl) = (-1) then f_X5_floodedFrom_L4 s_ rl n4 (k4 + 1) x2_4 else f_X5_floodedFrom_L4 s_ rl n4 (k4 + 1) (x2_4 ||| ((nI 1) <<< ((nI k4) &&& 31)))
def f_X5_floodedFrom (s_ : Nat) (rl : Nat → Int32) : Int32 :=
  f_X5_floodedFrom_L4 s_ rl 10 0 (nI 0)
set_option maxHeartbeats 4000000 in
set_option maxRecDepth 100000 in
theorem c_X5_floodedFrom (l : Launch) (D : va_G) (cI cZ : ClassId) (ad : Nat → Nat) (rc rl rh fr fw fc fg ps pg pr pd qp qt qf qo ct lE lC : Nat → Int32) (cand : Int32) (lim : Int32) (now : Int32) (was : Int32) (sent : Nat) (qfi : Nat) (qsz : Nat) (s_ : Nat) (hs_ : s_ < 10) : MI l yX5_floodedFrom cX5_floodedFrom 4 .int { frames := 2, cells := 0, slots := 0, locals := 44 } D (TY cI cZ) [.ref (ad 0), .int (nI s_)] (wC cI ad rc rl rh fr fw fc fg ps pg pr pd qp qt qf qo ct lE lC cand lim now was (nI sent) (nI qfi) (nI qsz)) (wC cI ad rc rl rh fr fw fc fg ps pg pr pd qp qt qf qo ct lE lC cand lim now was (nI sent) (nI qfi) (nI qsz)) (f_X5_floodedFrom s_ rl) := by
  refine MI.mk ⟨rfl, rfl⟩ (by decide +kernel) (Nat.le_of_ble_eq_true rfl) ?_
  intro p e s m below meth c A ls B hA hP hD hS hl
  have hx := B.1
  have hb := B.2.1
  have hts := B.2.2.2.2.2.1
  have hN := B.2.2.2.2.2.2.2.1
  have hK := B.2.2.2.2.2.2.2.2.1
  have hl : lv_has ls 4 [(0, .ref (ad 0)), (1, .int (nI s_))] := hl
  have hf := f_X5_floodedFrom.eq_1 s_ rl
  refine lv_iconst (v := nI 0) hx hb dX5_floodedFrom_0 (by decide) ?_
  refine lv_istore_n (lv' := [(2, .int (nI 0)), (0, .ref (ad 0)), (1, .int (nI s_))]) hx hb dX5_floodedFrom_1 rfl hl (by decide) rfl (fun ls hl => ?_)
  refine lv_iconst (v := nI 0) hx hb dX5_floodedFrom_2 (by decide) ?_
  refine lv_istore_n (lv' := [(3, .int (nI 0)), (2, .int (nI 0)), (0, .ref (ad 0)), (1, .int (nI s_))]) hx hb dX5_floodedFrom_3 rfl hl (by decide) rfl (fun ls hl => ?_)
  have L4 : ∀ (n4 : Nat) (k4 : Nat) (x2_4 : Int32), k4 + n4 = 10 → f_X5_floodedFrom s_ rl = (f_X5_floodedFrom_L4 s_ rl n4 k4 x2_4) → ∀ (H : Heap) (locs : List Loc), va_P D vwCl (wC cI ad rc rl rh fr fw fc fg ps pg pr pd qp qt qf qo ct lE lC cand lim now was (nI sent) (nI qfi) (nI qsz)) H → va_D A (wC cI ad rc rl rh fr fw fc fg ps pg pr pd qp qt qf qo ct lE lC cand lim now was (nI sent) (nI qfi) (nI qsz)) → va_S A s.heap H locs → ∀ ls : Array Slot, lv_has ls 4 [(0, .ref (ad 0)), (1, .int (nI s_)), (2, .int x2_4), (3, .int (nI k4))] → W p l e { frames := 2, cells := 0, slots := 0, locals := 44 } s m [.ref (ad 0), .int (nI s_)].toArray below meth c H locs 0 0 (QI below s A D [.ref (ad 0), .int (nI s_)] (wC cI ad rc rl rh fr fw fc fg ps pg pr pd qp qt qf qo ct lE lC cand lim now was (nI sent) (nI qfi) (nI qsz)) (f_X5_floodedFrom s_ rl)) (F0 m 4 ls []) := by
    intro n4
    induction n4 with
    | zero =>
      intro k4 x2_4 hk4 hf H locs hP hD hS ls hl
      obtain rfl : 10 = k4 := by omega
      rw [f_X5_floodedFrom_L4] at hf
      have hl : lv_has ls 4 [(0, .ref (ad 0)), (1, .int (nI s_)), (2, .int x2_4), (3, .int (nI 10))] := hl
      refine lv_iload_n hx hb dX5_floodedFrom_4 rfl (lv_at hl 3 rfl) ?_
      refine lv_bipush (v := nI 10) hx hb dX5_floodedFrom_5 (by decide) ?_
      refine r_icmp_ge (tgt := 36) hx hb (by omega) (by omega) dX5_floodedFrom_7 (by decide) (fun _ => ?_) (fun c => absurd c (by omega))
      refine lv_iload_n hx hb dX5_floodedFrom_36 rfl (lv_at hl 2 rfl) ?_
      exact eI B hP hS ((congrArg (fun (u : Int32) => u) hf).symm) rfl dX5_floodedFrom_37
    | succ n4 ih4 =>
      intro k4 x2_4 hk4 hf H locs hP hD hS ls hl
      rw [f_X5_floodedFrom_L4] at hf
      have hl : lv_has ls 4 [(0, .ref (ad 0)), (1, .int (nI s_)), (2, .int x2_4), (3, .int (nI k4))] := hl
      refine lv_iload_n hx hb dX5_floodedFrom_4 rfl (lv_at hl 3 rfl) ?_
      refine lv_bipush (v := nI 10) hx hb dX5_floodedFrom_5 (by decide) ?_
      refine r_icmp_ge (tgt := 36) hx hb (by omega) (by omega) dX5_floodedFrom_7 (by decide) (fun c => absurd c (by omega)) (fun _ => ?_)
      refine lv_aload_n hx hb dX5_floodedFrom_10 rfl (lv_at hl 0 rfl) ?_
      refine g_X5_12 B hP 0 rfl rfl dX5_floodedFrom_11 ?_
      refine lv_iload_n hx hb dX5_floodedFrom_14 rfl (lv_at hl 1 rfl) ?_
      refine lv_iload_n hx hb dX5_floodedFrom_15 rfl (lv_at hl 3 rfl) ?_
      refine fV_i (ci := 4) (as := [.int (nI s_), .int (nI k4)]) (rest := []) B hl.1 (c_X4_distanceOf l D cI cZ ad rc rl rh fr fw fc fg ps pg pr pd qp qt qf qo ct lE lC cand lim now was sent qfi qsz s_ k4 (by omega) (by omega)) rfl (l_RX5_94 hts ⟨rfl, rfl⟩ ⟨Nat.le_of_ble_eq_true rfl, Nat.le_of_ble_eq_true rfl⟩) m_3_13 m_3_14 rfl rfl hP hD hS hA 1 rfl wfC (Nat.le_of_ble_eq_true rfl) dX5_floodedFrom_16 (fun H locs hP hD hS => ?_)
      refine lv_iconst (v := -1) hx hb dX5_floodedFrom_19 (by decide) ?_
      refine lv_icmp_eq (tgt := 30) hx hb dX5_floodedFrom_20 (by decide) (fun c4 => ?_) (fun c4 => ?_)
      · have hf := hf.trans (if_pos c4)
        refine lv_iinc (v := nI (k4 + 1)) (lv' := [(3, .int (nI (k4 + 1))), (0, .ref (ad 0)), (1, .int (nI s_)), (2, .int x2_4)]) hx hb dX5_floodedFrom_30 hl (k := 3) rfl (nI_add _ _) (by decide) rfl (fun ls hl => ?_)
        refine lv_goto (tgt := 4) hx hb dX5_floodedFrom_33 (by decide) ?_
        exact ih4 (k4 + 1) x2_4 (by omega) hf _ _ hP hD hS _ (lv_sub hl [1, 2, 3, 0] rfl)
      · have hf := hf.trans (if_neg c4)
        refine lv_iload_n hx hb dX5_floodedFrom_23 rfl (lv_at hl 2 rfl) ?_
        refine lv_iload_n hx hb dX5_floodedFrom_24 rfl (lv_at hl 3 rfl) ?_
        refine fS_i (as := [.int (nI k4)]) (rest := [.int x2_4]) B hl.1 (c_X5_bit l D cI cZ (wC cI ad rc rl rh fr fw fc fg ps pg pr pd qp qt qf qo ct lE lC cand lim now was (nI sent) (nI qfi) (nI qsz)) k4 (by omega)) (l_RX5_78 hts ⟨rfl, rfl⟩ ⟨Nat.le_of_ble_eq_true rfl, Nat.le_of_ble_eq_true rfl⟩) m_7_17 rfl rfl hP hD hS hA rfl (Nat.le_of_ble_eq_true rfl) dX5_floodedFrom_25 (fun H locs hP hD hS => ?_)
        refine lv_ior hx hb dX5_floodedFrom_28 ?_
        refine lv_istore_n (lv' := [(2, .int (x2_4 ||| ((nI 1) <<< ((nI k4) &&& 31)))), (0, .ref (ad 0)), (1, .int (nI s_)), (3, .int (nI k4))]) hx hb dX5_floodedFrom_29 rfl hl (by decide) rfl (fun ls hl => ?_)
        refine lv_iinc (v := nI (k4 + 1)) (lv' := [(3, .int (nI (k4 + 1))), (2, .int (x2_4 ||| ((nI 1) <<< ((nI k4) &&& 31)))), (0, .ref (ad 0)), (1, .int (nI s_))]) hx hb dX5_floodedFrom_30 hl (k := 3) rfl (nI_add _ _) (by decide) rfl (fun ls hl => ?_)
        refine lv_goto (tgt := 4) hx hb dX5_floodedFrom_33 (by decide) ?_
        exact ih4 (k4 + 1) (x2_4 ||| ((nI 1) <<< ((nI k4) &&& 31))) (by omega) hf _ _ hP hD hS _ (lv_sub hl [2, 3, 1, 0] rfl)
  exact L4 10 0 (nI 0) (by omega) hf _ _ hP hD hS _ (lv_sub hl [2, 3, 1, 0] rfl)
set_option maxHeartbeats 4000000 in
set_option maxRecDepth 100000 in
theorem c_X5_setLimit (l : Launch) (D : va_G) (cI cZ : ClassId) (ad : Nat → Nat) (rc rl rh fr fw fc fg ps pg pr pd qp qt qf qo ct lE lC : Nat → Int32) (cand : Int32) (lim : Int32) (now : Int32) (was : Int32) (sent : Nat) (qfi : Nat) (qsz : Nat) (li : Nat) (hli : li < 101) (h1li : 1 ≤ li) : MI l yX5_setLimit cX5_setLimit 3 .int { frames := 0, cells := 0, slots := 0, locals := 0 } D (TY cI cZ) [.ref (ad 0), .int (nI li)] (wC cI ad rc rl rh fr fw fc fg ps pg pr pd qp qt qf qo ct lE lC cand lim now was (nI sent) (nI qfi) (nI qsz)) (wC cI ad rc rl rh fr fw fc fg ps pg pr pd qp qt qf qo ct lE lC cand (nI li) now was (nI sent) (nI qfi) (nI qsz)) (lim) := by
  refine MI.mk ⟨rfl, rfl⟩ (by decide +kernel) (Nat.le_of_ble_eq_true rfl) ?_
  intro p e s m below meth c A ls B hA hP hD hS hl
  have hx := B.1
  have hb := B.2.1
  have hts := B.2.2.2.2.2.1
  have hN := B.2.2.2.2.2.2.2.1
  have hK := B.2.2.2.2.2.2.2.2.1
  have hl : lv_has ls 3 [(0, .ref (ad 0)), (1, .int (nI li))] := hl
  refine lv_iload_n hx hb dX5_setLimit_0 rfl (lv_at hl 1 rfl) ?_
  refine lv_iconst (v := nI 1) hx hb dX5_setLimit_1 (by decide) ?_
  refine r_icmp_lt (tgt := 11) hx hb (by omega) (by omega) dX5_setLimit_2 (by decide) (fun c => absurd c (by omega)) (fun _ => ?_)
  refine lv_iload_n hx hb dX5_setLimit_5 rfl (lv_at hl 1 rfl) ?_
  refine lv_bipush (v := nI 100) hx hb dX5_setLimit_6 (by decide) ?_
  refine r_icmp_le (tgt := 21) hx hb (by omega) (by omega) dX5_setLimit_8 (by decide) (fun _ => ?_) (fun c => absurd c (by omega))
  refine lv_aload_n hx hb dX5_setLimit_21 rfl (lv_at hl 0 rfl) ?_
  refine g_X5_44 B hP 0 rfl rfl dX5_setLimit_22 ?_
  refine lv_istore_n (lv' := [(2, .int lim), (0, .ref (ad 0)), (1, .int (nI li))]) hx hb dX5_setLimit_25 rfl hl (by decide) rfl (fun ls hl => ?_)
  refine lv_aload_n hx hb dX5_setLimit_26 rfl (lv_at hl 1 rfl) ?_
  refine lv_iload_n hx hb dX5_setLimit_27 rfl (lv_at hl 2 rfl) ?_
  refine p_X5_44 B hP hD hS 0 rfl (Nat.le_of_ble_eq_true rfl) dX5_setLimit_28 (fun H locs hP hD hS => ?_)
  have hP : va_P D vwCl (wC cI ad rc rl rh fr fw fc fg ps pg pr pd qp qt qf qo ct lE lC cand (nI li) now was (nI sent) (nI qfi) (nI qsz)) H := hP
  have hD : va_D A (wC cI ad rc rl rh fr fw fc fg ps pg pr pd qp qt qf qo ct lE lC cand (nI li) now was (nI sent) (nI qfi) (nI qsz)) := hD
  refine lv_iload_n hx hb dX5_setLimit_31 rfl (lv_at hl 0 rfl) ?_
  exact eI B hP hS rfl rfl dX5_setLimit_32
set_option maxHeartbeats 4000000 in
set_option maxRecDepth 100000 in
theorem c_X5_distance (l : Launch) (D : va_G) (cI cZ : ClassId) (ad : Nat → Nat) (rc rl rh fr fw fc fg ps pg pr pd qp qt qf qo ct lE lC : Nat → Int32) (cand : Int32) (lim : Int32) (now : Int32) (was : Int32) (sent : Nat) (qfi : Nat) (qsz : Nat) (r : Nat) (o : Nat) (hr : r < 10) (ho : o < 10) : MI l yX5_distance cX5_distance 3 .int { frames := 2, cells := 0, slots := 0, locals := 44 } D (TY cI cZ) [.ref (ad 0), .int (nI r), .int (nI o)] (wC cI ad rc rl rh fr fw fc fg ps pg pr pd qp qt qf qo ct lE lC cand lim now was (nI sent) (nI qfi) (nI qsz)) (wC cI ad rc rl rh fr fw fc fg ps pg pr pd qp qt qf qo ct lE lC cand lim now was (nI sent) (nI qfi) (nI qsz)) (f_X4_distanceOf r o rl) := by
  refine MI.mk ⟨rfl, rfl⟩ (by decide +kernel) (Nat.le_of_ble_eq_true rfl) ?_
  intro p e s m below meth c A ls B hA hP hD hS hl
  have hx := B.1
  have hb := B.2.1
  have hts := B.2.2.2.2.2.1
  have hN := B.2.2.2.2.2.2.2.1
  have hK := B.2.2.2.2.2.2.2.2.1
  have hl : lv_has ls 3 [(0, .ref (ad 0)), (1, .int (nI r)), (2, .int (nI o))] := hl
  refine lv_iload_n hx hb dX5_distance_0 rfl (lv_at hl 1 rfl) ?_
  refine fS_v (as := [.int (nI r)]) (rest := []) B hl.1 (c_X5_checkRouter l D cI cZ (wC cI ad rc rl rh fr fw fc fg ps pg pr pd qp qt qf qo ct lE lC cand lim now was (nI sent) (nI qfi) (nI qsz)) r (by omega)) (l_RX5_48 hts ⟨rfl, rfl⟩ ⟨Nat.le_of_ble_eq_true rfl, Nat.le_of_ble_eq_true rfl⟩) m_7_1 rfl rfl hP hD hS hA rfl (Nat.le_of_ble_eq_true rfl) dX5_distance_1 (fun H locs hP hD hS => ?_)
  refine lv_iload_n hx hb dX5_distance_4 rfl (lv_at hl 2 rfl) ?_
  refine fS_v (as := [.int (nI o)]) (rest := []) B hl.1 (c_X5_checkRouter l D cI cZ (wC cI ad rc rl rh fr fw fc fg ps pg pr pd qp qt qf qo ct lE lC cand lim now was (nI sent) (nI qfi) (nI qsz)) o (by omega)) (l_RX5_48 hts ⟨rfl, rfl⟩ ⟨Nat.le_of_ble_eq_true rfl, Nat.le_of_ble_eq_true rfl⟩) m_7_1 rfl rfl hP hD hS hA rfl (Nat.le_of_ble_eq_true rfl) dX5_distance_5 (fun H locs hP hD hS => ?_)
  refine lv_aload_n hx hb dX5_distance_8 rfl (lv_at hl 0 rfl) ?_
  refine g_X5_12 B hP 0 rfl rfl dX5_distance_9 ?_
  refine lv_iload_n hx hb dX5_distance_12 rfl (lv_at hl 1 rfl) ?_
  refine lv_iload_n hx hb dX5_distance_13 rfl (lv_at hl 2 rfl) ?_
  refine fV_i (ci := 4) (as := [.int (nI r), .int (nI o)]) (rest := []) B hl.1 (c_X4_distanceOf l D cI cZ ad rc rl rh fr fw fc fg ps pg pr pd qp qt qf qo ct lE lC cand lim now was sent qfi qsz r o (by omega) (by omega)) rfl (l_RX5_94 hts ⟨rfl, rfl⟩ ⟨Nat.le_of_ble_eq_true rfl, Nat.le_of_ble_eq_true rfl⟩) m_3_13 m_3_14 rfl rfl hP hD hS hA 1 rfl wfC (Nat.le_of_ble_eq_true rfl) dX5_distance_14 (fun H locs hP hD hS => ?_)
  exact eI B hP hS rfl rfl dX5_distance_17
set_option maxHeartbeats 4000000 in
set_option maxRecDepth 100000 in
theorem c_X5_nextHop (l : Launch) (D : va_G) (cI cZ : ClassId) (ad : Nat → Nat) (rc rl rh fr fw fc fg ps pg pr pd qp qt qf qo ct lE lC : Nat → Int32) (cand : Int32) (lim : Int32) (now : Int32) (was : Int32) (sent : Nat) (qfi : Nat) (qsz : Nat) (r : Nat) (o : Nat) (hr : r < 10) (ho : o < 10) : MI l yX5_nextHop cX5_nextHop 3 .int { frames := 2, cells := 0, slots := 0, locals := 43 } D (TY cI cZ) [.ref (ad 0), .int (nI r), .int (nI o)] (wC cI ad rc rl rh fr fw fc fg ps pg pr pd qp qt qf qo ct lE lC cand lim now was (nI sent) (nI qfi) (nI qsz)) (wC cI ad rc rl rh fr fw fc fg ps pg pr pd qp qt qf qo ct lE lC cand lim now was (nI sent) (nI qfi) (nI qsz)) (rh ((r * 10) + o)) := by
  refine MI.mk ⟨rfl, rfl⟩ (by decide +kernel) (Nat.le_of_ble_eq_true rfl) ?_
  intro p e s m below meth c A ls B hA hP hD hS hl
  have hx := B.1
  have hb := B.2.1
  have hts := B.2.2.2.2.2.1
  have hN := B.2.2.2.2.2.2.2.1
  have hK := B.2.2.2.2.2.2.2.2.1
  have hl : lv_has ls 3 [(0, .ref (ad 0)), (1, .int (nI r)), (2, .int (nI o))] := hl
  refine lv_iload_n hx hb dX5_nextHop_0 rfl (lv_at hl 1 rfl) ?_
  refine fS_v (as := [.int (nI r)]) (rest := []) B hl.1 (c_X5_checkRouter l D cI cZ (wC cI ad rc rl rh fr fw fc fg ps pg pr pd qp qt qf qo ct lE lC cand lim now was (nI sent) (nI qfi) (nI qsz)) r (by omega)) (l_RX5_48 hts ⟨rfl, rfl⟩ ⟨Nat.le_of_ble_eq_true rfl, Nat.le_of_ble_eq_true rfl⟩) m_7_1 rfl rfl hP hD hS hA rfl (Nat.le_of_ble_eq_true rfl) dX5_nextHop_1 (fun H locs hP hD hS => ?_)
  refine lv_iload_n hx hb dX5_nextHop_4 rfl (lv_at hl 2 rfl) ?_
  refine fS_v (as := [.int (nI o)]) (rest := []) B hl.1 (c_X5_checkRouter l D cI cZ (wC cI ad rc rl rh fr fw fc fg ps pg pr pd qp qt qf qo ct lE lC cand lim now was (nI sent) (nI qfi) (nI qsz)) o (by omega)) (l_RX5_48 hts ⟨rfl, rfl⟩ ⟨Nat.le_of_ble_eq_true rfl, Nat.le_of_ble_eq_true rfl⟩) m_7_1 rfl rfl hP hD hS hA rfl (Nat.le_of_ble_eq_true rfl) dX5_nextHop_5 (fun H locs hP hD hS => ?_)
  refine lv_aload_n hx hb dX5_nextHop_8 rfl (lv_at hl 0 rfl) ?_
  refine g_X5_12 B hP 0 rfl rfl dX5_nextHop_9 ?_
  refine lv_iload_n hx hb dX5_nextHop_12 rfl (lv_at hl 1 rfl) ?_
  refine lv_iload_n hx hb dX5_nextHop_13 rfl (lv_at hl 2 rfl) ?_
  refine fV_i (ci := 4) (as := [.int (nI r), .int (nI o)]) (rest := []) B hl.1 (c_X4_hopOf l D cI cZ ad rc rl rh fr fw fc fg ps pg pr pd qp qt qf qo ct lE lC cand lim now was sent qfi qsz r o (by omega) (by omega)) rfl (l_RX5_97 hts ⟨rfl, rfl⟩ ⟨Nat.le_of_ble_eq_true rfl, Nat.le_of_ble_eq_true rfl⟩) m_8_8 m_8_9 rfl rfl hP hD hS hA 1 rfl wfC (Nat.le_of_ble_eq_true rfl) dX5_nextHop_14 (fun H locs hP hD hS => ?_)
  exact eI B hP hS rfl rfl dX5_nextHop_17
set_option maxHeartbeats 4000000 in
set_option maxRecDepth 100000 in
theorem c_X5_rendezvous (l : Launch) (D : va_G) (cI cZ : ClassId) (ad : Nat → Nat) (rc rl rh fr fw fc fg ps pg pr pd qp qt qf qo ct lE lC : Nat → Int32) (cand : Int32) (lim : Int32) (now : Int32) (was : Int32) (sent : Nat) (qfi : Nat) (qsz : Nat) (g : Nat) (hg : g < 4) : MI l yX5_rendezvous cX5_rendezvous 2 .int { frames := 2, cells := 0, slots := 0, locals := 41 } D (TY cI cZ) [.ref (ad 0), .int (nI g)] (wC cI ad rc rl rh fr fw fc fg ps pg pr pd qp qt qf qo ct lE lC cand lim now was (nI sent) (nI qfi) (nI qsz)) (wC cI ad rc rl rh fr fw fc fg ps pg pr pd qp qt qf qo ct lE lC cand lim now was (nI sent) (nI qfi) (nI qsz)) (fr g) := by
  refine MI.mk ⟨rfl, rfl⟩ (by decide +kernel) (Nat.le_of_ble_eq_true rfl) ?_
  intro p e s m below meth c A ls B hA hP hD hS hl
  have hx := B.1
  have hb := B.2.1
  have hts := B.2.2.2.2.2.1
  have hN := B.2.2.2.2.2.2.2.1
  have hK := B.2.2.2.2.2.2.2.2.1
  have hl : lv_has ls 2 [(0, .ref (ad 0)), (1, .int (nI g))] := hl
  refine lv_iload_n hx hb dX5_rendezvous_0 rfl (lv_at hl 1 rfl) ?_
  refine fS_v (as := [.int (nI g)]) (rest := []) B hl.1 (c_X5_checkGroup l D cI cZ (wC cI ad rc rl rh fr fw fc fg ps pg pr pd qp qt qf qo ct lE lC cand lim now was (nI sent) (nI qfi) (nI qsz)) g (by omega)) (l_RX5_100 hts ⟨rfl, rfl⟩ ⟨Nat.le_of_ble_eq_true rfl, Nat.le_of_ble_eq_true rfl⟩) m_9_15 rfl rfl hP hD hS hA rfl (Nat.le_of_ble_eq_true rfl) dX5_rendezvous_1 (fun H locs hP hD hS => ?_)
  refine lv_aload_n hx hb dX5_rendezvous_4 rfl (lv_at hl 0 rfl) ?_
  refine g_X5_19 B hP 0 rfl rfl dX5_rendezvous_5 ?_
  refine lv_iload_n hx hb dX5_rendezvous_8 rfl (lv_at hl 1 rfl) ?_
  refine fS_i (as := [.int (nI g)]) (rest := [.ref (ad 5)]) B hl.1 (c_X5_sharedTree l D cI cZ (wC cI ad rc rl rh fr fw fc fg ps pg pr pd qp qt qf qo ct lE lC cand lim now was (nI sent) (nI qfi) (nI qsz)) g (by omega)) (l_RX5_82 hts ⟨rfl, rfl⟩ ⟨Nat.le_of_ble_eq_true rfl, Nat.le_of_ble_eq_true rfl⟩) m_8_21 rfl rfl hP hD hS hA rfl (Nat.le_of_ble_eq_true rfl) dX5_rendezvous_9 (fun H locs hP hD hS => ?_)
  refine fV_i (ci := 2) (as := [.int (nI g)]) (rest := []) B hl.1 (c_X2_rootOf l D cI cZ ad rc rl rh fr fw fc fg ps pg pr pd qp qt qf qo ct lE lC cand lim now was sent qfi qsz g (by omega)) rfl (l_RX5_103 hts ⟨rfl, rfl⟩ ⟨Nat.le_of_ble_eq_true rfl, Nat.le_of_ble_eq_true rfl⟩) m_8_0 m_8_1 rfl rfl hP hD hS hA 5 rfl wfC (Nat.le_of_ble_eq_true rfl) dX5_rendezvous_12 (fun H locs hP hD hS => ?_)
  exact eI B hP hS rfl rfl dX5_rendezvous_15
set_option maxHeartbeats 4000000 in
set_option maxRecDepth 100000 in
theorem c_X5_members (l : Launch) (D : va_G) (cI cZ : ClassId) (ad : Nat → Nat) (rc rl rh fr fw fc fg ps pg pr pd qp qt qf qo ct lE lC : Nat → Int32) (cand : Int32) (lim : Int32) (now : Int32) (was : Int32) (sent : Nat) (qfi : Nat) (qsz : Nat) (g : Nat) (hg : g < 4) : MI l yX5_members cX5_members 2 .int { frames := 3, cells := 0, slots := 0, locals := 62 } D (TY cI cZ) [.ref (ad 0), .int (nI g)] (wC cI ad rc rl rh fr fw fc fg ps pg pr pd qp qt qf qo ct lE lC cand lim now was (nI sent) (nI qfi) (nI qsz)) (wC cI ad rc rl rh fr fw fc fg ps pg pr pd qp qt qf qo ct lE lC cand lim now was (nI sent) (nI qfi) (nI qsz)) (fw g) := by
  refine MI.mk ⟨rfl, rfl⟩ (by decide +kernel) (Nat.le_of_ble_eq_true rfl) ?_
  intro p e s m below meth c A ls B hA hP hD hS hl
  have hx := B.1
  have hb := B.2.1
  have hts := B.2.2.2.2.2.1
  have hN := B.2.2.2.2.2.2.2.1
  have hK := B.2.2.2.2.2.2.2.2.1
  have hl : lv_has ls 2 [(0, .ref (ad 0)), (1, .int (nI g))] := hl
  refine lv_iload_n hx hb dX5_members_0 rfl (lv_at hl 1 rfl) ?_
  refine fS_v (as := [.int (nI g)]) (rest := []) B hl.1 (c_X5_checkGroup l D cI cZ (wC cI ad rc rl rh fr fw fc fg ps pg pr pd qp qt qf qo ct lE lC cand lim now was (nI sent) (nI qfi) (nI qsz)) g (by omega)) (l_RX5_100 hts ⟨rfl, rfl⟩ ⟨Nat.le_of_ble_eq_true rfl, Nat.le_of_ble_eq_true rfl⟩) m_9_15 rfl rfl hP hD hS hA rfl (Nat.le_of_ble_eq_true rfl) dX5_members_1 (fun H locs hP hD hS => ?_)
  refine lv_aload_n hx hb dX5_members_4 rfl (lv_at hl 0 rfl) ?_
  refine lv_iload_n hx hb dX5_members_5 rfl (lv_at hl 1 rfl) ?_
  refine fV_i (ci := 5) (as := [.int (nI g)]) (rest := []) B hl.1 (c_X5_membersOf l D cI cZ ad rc rl rh fr fw fc fg ps pg pr pd qp qt qf qo ct lE lC cand lim now was sent qfi qsz g (by omega)) rfl (l_RX5_118 hts ⟨rfl, rfl⟩ ⟨Nat.le_of_ble_eq_true rfl, Nat.le_of_ble_eq_true rfl⟩) m_9_22 m_9_23 rfl rfl hP hD hS hA 0 rfl wfC (Nat.le_of_ble_eq_true rfl) dX5_members_6 (fun H locs hP hD hS => ?_)
  exact eI B hP hS rfl rfl dX5_members_9
set_option maxHeartbeats 4000000 in
set_option maxRecDepth 100000 in
theorem c_X5_switched (l : Launch) (D : va_G) (cI cZ : ClassId) (ad : Nat → Nat) (rc rl rh fr fw fc fg ps pg pr pd qp qt qf qo ct lE lC : Nat → Int32) (cand : Int32) (lim : Int32) (now : Int32) (was : Int32) (sent : Nat) (qfi : Nat) (qsz : Nat) (s_ : Nat) (g : Nat) (hs_ : s_ < 10) (hg : g < 4) : MI l yX5_switched cX5_switched 3 .int { frames := 2, cells := 0, slots := 0, locals := 41 } D (TY cI cZ) [.ref (ad 0), .int (nI s_), .int (nI g)] (wC cI ad rc rl rh fr fw fc fg ps pg pr pd qp qt qf qo ct lE lC cand lim now was (nI sent) (nI qfi) (nI qsz)) (wC cI ad rc rl rh fr fw fc fg ps pg pr pd qp qt qf qo ct lE lC cand lim now was (nI sent) (nI qfi) (nI qsz)) (fw ((4 + (g * 10)) + s_)) := by
  refine MI.mk ⟨rfl, rfl⟩ (by decide +kernel) (Nat.le_of_ble_eq_true rfl) ?_
  intro p e s m below meth c A ls B hA hP hD hS hl
  have hx := B.1
  have hb := B.2.1
  have hts := B.2.2.2.2.2.1
  have hN := B.2.2.2.2.2.2.2.1
  have hK := B.2.2.2.2.2.2.2.2.1
  have hl : lv_has ls 3 [(0, .ref (ad 0)), (1, .int (nI s_)), (2, .int (nI g))] := hl
  refine lv_iload_n hx hb dX5_switched_0 rfl (lv_at hl 1 rfl) ?_
  refine fS_v (as := [.int (nI s_)]) (rest := []) B hl.1 (c_X5_checkRouter l D cI cZ (wC cI ad rc rl rh fr fw fc fg ps pg pr pd qp qt qf qo ct lE lC cand lim now was (nI sent) (nI qfi) (nI qsz)) s_ (by omega)) (l_RX5_48 hts ⟨rfl, rfl⟩ ⟨Nat.le_of_ble_eq_true rfl, Nat.le_of_ble_eq_true rfl⟩) m_7_1 rfl rfl hP hD hS hA rfl (Nat.le_of_ble_eq_true rfl) dX5_switched_1 (fun H locs hP hD hS => ?_)
  refine lv_iload_n hx hb dX5_switched_4 rfl (lv_at hl 2 rfl) ?_
  refine fS_v (as := [.int (nI g)]) (rest := []) B hl.1 (c_X5_checkGroup l D cI cZ (wC cI ad rc rl rh fr fw fc fg ps pg pr pd qp qt qf qo ct lE lC cand lim now was (nI sent) (nI qfi) (nI qsz)) g (by omega)) (l_RX5_100 hts ⟨rfl, rfl⟩ ⟨Nat.le_of_ble_eq_true rfl, Nat.le_of_ble_eq_true rfl⟩) m_9_15 rfl rfl hP hD hS hA rfl (Nat.le_of_ble_eq_true rfl) dX5_switched_5 (fun H locs hP hD hS => ?_)
  refine lv_aload_n hx hb dX5_switched_8 rfl (lv_at hl 0 rfl) ?_
  refine g_X5_19 B hP 0 rfl rfl dX5_switched_9 ?_
  refine lv_iload_n hx hb dX5_switched_12 rfl (lv_at hl 1 rfl) ?_
  refine lv_iload_n hx hb dX5_switched_13 rfl (lv_at hl 2 rfl) ?_
  refine fS_i (as := [.int (nI s_), .int (nI g)]) (rest := [.ref (ad 5)]) B hl.1 (c_X5_sourceTree l D cI cZ (wC cI ad rc rl rh fr fw fc fg ps pg pr pd qp qt qf qo ct lE lC cand lim now was (nI sent) (nI qfi) (nI qsz)) s_ g (by omega) (by omega)) (l_RX5_134 hts ⟨rfl, rfl⟩ ⟨Nat.le_of_ble_eq_true rfl, Nat.le_of_ble_eq_true rfl⟩) m_4_11 rfl rfl hP hD hS hA rfl (Nat.le_of_ble_eq_true rfl) dX5_switched_14 (fun H locs hP hD hS => ?_)
  refine fV_i (ci := 2) (as := [.int (nI ((4 + (g * 10)) + s_))]) (rest := []) B hl.1 (c_X2_wantingOf l D cI cZ ad rc rl rh fr fw fc fg ps pg pr pd qp qt qf qo ct lE lC cand lim now was sent qfi qsz ((4 + (g * 10)) + s_) (by omega)) rfl (l_RX5_140 hts ⟨rfl, rfl⟩ ⟨Nat.le_of_ble_eq_true rfl, Nat.le_of_ble_eq_true rfl⟩) m_10_2 m_10_3 rfl rfl hP hD hS hA 5 rfl wfC (Nat.le_of_ble_eq_true rfl) dX5_switched_17 (fun H locs hP hD hS => ?_)
  exact eI B hP hS rfl rfl dX5_switched_20
set_option maxHeartbeats 4000000 in
set_option maxRecDepth 100000 in
theorem c_X5_branches (l : Launch) (D : va_G) (cI cZ : ClassId) (ad : Nat → Nat) (rc rl rh fr fw fc fg ps pg pr pd qp qt qf qo ct lE lC : Nat → Int32) (cand : Int32) (lim : Int32) (now : Int32) (was : Int32) (sent : Nat) (qfi : Nat) (qsz : Nat) (r : Nat) (g : Nat) (hr : r < 10) (hg : g < 4) : MI l yX5_branches cX5_branches 3 .int { frames := 2, cells := 0, slots := 0, locals := 44 } D (TY cI cZ) [.ref (ad 0), .int (nI r), .int (nI g)] (wC cI ad rc rl rh fr fw fc fg ps pg pr pd qp qt qf qo ct lE lC cand lim now was (nI sent) (nI qfi) (nI qsz)) (wC cI ad rc rl rh fr fw fc fg ps pg pr pd qp qt qf qo ct lE lC cand lim now was (nI sent) (nI qfi) (nI qsz)) (f_X2_branchesFrom g r fc) := by
  refine MI.mk ⟨rfl, rfl⟩ (by decide +kernel) (Nat.le_of_ble_eq_true rfl) ?_
  intro p e s m below meth c A ls B hA hP hD hS hl
  have hx := B.1
  have hb := B.2.1
  have hts := B.2.2.2.2.2.1
  have hN := B.2.2.2.2.2.2.2.1
  have hK := B.2.2.2.2.2.2.2.2.1
  have hl : lv_has ls 3 [(0, .ref (ad 0)), (1, .int (nI r)), (2, .int (nI g))] := hl
  refine lv_iload_n hx hb dX5_branches_0 rfl (lv_at hl 1 rfl) ?_
  refine fS_v (as := [.int (nI r)]) (rest := []) B hl.1 (c_X5_checkRouter l D cI cZ (wC cI ad rc rl rh fr fw fc fg ps pg pr pd qp qt qf qo ct lE lC cand lim now was (nI sent) (nI qfi) (nI qsz)) r (by omega)) (l_RX5_48 hts ⟨rfl, rfl⟩ ⟨Nat.le_of_ble_eq_true rfl, Nat.le_of_ble_eq_true rfl⟩) m_7_1 rfl rfl hP hD hS hA rfl (Nat.le_of_ble_eq_true rfl) dX5_branches_1 (fun H locs hP hD hS => ?_)
  refine lv_iload_n hx hb dX5_branches_4 rfl (lv_at hl 2 rfl) ?_
  refine fS_v (as := [.int (nI g)]) (rest := []) B hl.1 (c_X5_checkGroup l D cI cZ (wC cI ad rc rl rh fr fw fc fg ps pg pr pd qp qt qf qo ct lE lC cand lim now was (nI sent) (nI qfi) (nI qsz)) g (by omega)) (l_RX5_100 hts ⟨rfl, rfl⟩ ⟨Nat.le_of_ble_eq_true rfl, Nat.le_of_ble_eq_true rfl⟩) m_9_15 rfl rfl hP hD hS hA rfl (Nat.le_of_ble_eq_true rfl) dX5_branches_5 (fun H locs hP hD hS => ?_)
  refine lv_aload_n hx hb dX5_branches_8 rfl (lv_at hl 0 rfl) ?_
  refine g_X5_19 B hP 0 rfl rfl dX5_branches_9 ?_
  refine lv_iload_n hx hb dX5_branches_12 rfl (lv_at hl 2 rfl) ?_
  refine fS_i (as := [.int (nI g)]) (rest := [.ref (ad 5)]) B hl.1 (c_X5_sharedTree l D cI cZ (wC cI ad rc rl rh fr fw fc fg ps pg pr pd qp qt qf qo ct lE lC cand lim now was (nI sent) (nI qfi) (nI qsz)) g (by omega)) (l_RX5_82 hts ⟨rfl, rfl⟩ ⟨Nat.le_of_ble_eq_true rfl, Nat.le_of_ble_eq_true rfl⟩) m_8_21 rfl rfl hP hD hS hA rfl (Nat.le_of_ble_eq_true rfl) dX5_branches_13 (fun H locs hP hD hS => ?_)
  refine lv_iload_n hx hb dX5_branches_16 rfl (lv_at hl 1 rfl) ?_
  refine fV_i (ci := 2) (as := [.int (nI g), .int (nI r)]) (rest := []) B hl.1 (c_X2_branchesFrom l D cI cZ ad rc rl rh fr fw fc fg ps pg pr pd qp qt qf qo ct lE lC cand lim now was sent qfi qsz g r (by omega) (by omega)) rfl (l_RX5_143 hts ⟨rfl, rfl⟩ ⟨Nat.le_of_ble_eq_true rfl, Nat.le_of_ble_eq_true rfl⟩) m_10_19 m_10_20 rfl rfl hP hD hS hA 5 rfl wfC (Nat.le_of_ble_eq_true rfl) dX5_branches_17 (fun H locs hP hD hS => ?_)
  exact eI B hP hS rfl rfl dX5_branches_20
set_option maxHeartbeats 4000000 in
set_option maxRecDepth 100000 in
theorem c_X5_sourceBranches (l : Launch) (D : va_G) (cI cZ : ClassId) (ad : Nat → Nat) (rc rl rh fr fw fc fg ps pg pr pd qp qt qf qo ct lE lC : Nat → Int32) (cand : Int32) (lim : Int32) (now : Int32) (was : Int32) (sent : Nat) (qfi : Nat) (qsz : Nat) (r : Nat) (s_ : Nat) (g : Nat) (hr : r < 10) (hs_ : s_ < 10) (hg : g < 4) : MI l yX5_sourceBranches cX5_sourceBranches 4 .int { frames := 2, cells := 0, slots := 0, locals := 44 } D (TY cI cZ) [.ref (ad 0), .int (nI r), .int (nI s_), .int (nI g)] (wC cI ad rc rl rh fr fw fc fg ps pg pr pd qp qt qf qo ct lE lC cand lim now was (nI sent) (nI qfi) (nI qsz)) (wC cI ad rc rl rh fr fw fc fg ps pg pr pd qp qt qf qo ct lE lC cand lim now was (nI sent) (nI qfi) (nI qsz)) (f_X2_branchesFrom ((4 + (g * 10)) + s_) r fc) := by
  refine MI.mk ⟨rfl, rfl⟩ (by decide +kernel) (Nat.le_of_ble_eq_true rfl) ?_
  intro p e s m below meth c A ls B hA hP hD hS hl
  have hx := B.1
  have hb := B.2.1
  have hts := B.2.2.2.2.2.1
  have hN := B.2.2.2.2.2.2.2.1
  have hK := B.2.2.2.2.2.2.2.2.1
  have hl : lv_has ls 4 [(0, .ref (ad 0)), (1, .int (nI r)), (2, .int (nI s_)), (3, .int (nI g))] := hl
  refine lv_iload_n hx hb dX5_sourceBranches_0 rfl (lv_at hl 1 rfl) ?_
  refine fS_v (as := [.int (nI r)]) (rest := []) B hl.1 (c_X5_checkRouter l D cI cZ (wC cI ad rc rl rh fr fw fc fg ps pg pr pd qp qt qf qo ct lE lC cand lim now was (nI sent) (nI qfi) (nI qsz)) r (by omega)) (l_RX5_48 hts ⟨rfl, rfl⟩ ⟨Nat.le_of_ble_eq_true rfl, Nat.le_of_ble_eq_true rfl⟩) m_7_1 rfl rfl hP hD hS hA rfl (Nat.le_of_ble_eq_true rfl) dX5_sourceBranches_1 (fun H locs hP hD hS => ?_)
  refine lv_iload_n hx hb dX5_sourceBranches_4 rfl (lv_at hl 2 rfl) ?_
  refine fS_v (as := [.int (nI s_)]) (rest := []) B hl.1 (c_X5_checkRouter l D cI cZ (wC cI ad rc rl rh fr fw fc fg ps pg pr pd qp qt qf qo ct lE lC cand lim now was (nI sent) (nI qfi) (nI qsz)) s_ (by omega)) (l_RX5_48 hts ⟨rfl, rfl⟩ ⟨Nat.le_of_ble_eq_true rfl, Nat.le_of_ble_eq_true rfl⟩) m_7_1 rfl rfl hP hD hS hA rfl (Nat.le_of_ble_eq_true rfl) dX5_sourceBranches_5 (fun H locs hP hD hS => ?_)
  refine lv_iload_n hx hb dX5_sourceBranches_8 rfl (lv_at hl 3 rfl) ?_
  refine fS_v (as := [.int (nI g)]) (rest := []) B hl.1 (c_X5_checkGroup l D cI cZ (wC cI ad rc rl rh fr fw fc fg ps pg pr pd qp qt qf qo ct lE lC cand lim now was (nI sent) (nI qfi) (nI qsz)) g (by omega)) (l_RX5_100 hts ⟨rfl, rfl⟩ ⟨Nat.le_of_ble_eq_true rfl, Nat.le_of_ble_eq_true rfl⟩) m_9_15 rfl rfl hP hD hS hA rfl (Nat.le_of_ble_eq_true rfl) dX5_sourceBranches_9 (fun H locs hP hD hS => ?_)
  refine lv_aload_n hx hb dX5_sourceBranches_12 rfl (lv_at hl 0 rfl) ?_
  refine g_X5_19 B hP 0 rfl rfl dX5_sourceBranches_13 ?_
  refine lv_iload_n hx hb dX5_sourceBranches_16 rfl (lv_at hl 2 rfl) ?_
  refine lv_iload_n hx hb dX5_sourceBranches_17 rfl (lv_at hl 3 rfl) ?_
  refine fS_i (as := [.int (nI s_), .int (nI g)]) (rest := [.ref (ad 5)]) B hl.1 (c_X5_sourceTree l D cI cZ (wC cI ad rc rl rh fr fw fc fg ps pg pr pd qp qt qf qo ct lE lC cand lim now was (nI sent) (nI qfi) (nI qsz)) s_ g (by omega) (by omega)) (l_RX5_134 hts ⟨rfl, rfl⟩ ⟨Nat.le_of_ble_eq_true rfl, Nat.le_of_ble_eq_true rfl⟩) m_4_11 rfl rfl hP hD hS hA rfl (Nat.le_of_ble_eq_true rfl) dX5_sourceBranches_18 (fun H locs hP hD hS => ?_)
  refine lv_iload_n hx hb dX5_sourceBranches_21 rfl (lv_at hl 1 rfl) ?_
  refine fV_i (ci := 2) (as := [.int (nI ((4 + (g * 10)) + s_)), .int (nI r)]) (rest := []) B hl.1 (c_X2_branchesFrom l D cI cZ ad rc rl rh fr fw fc fg ps pg pr pd qp qt qf qo ct lE lC cand lim now was sent qfi qsz ((4 + (g * 10)) + s_) r (by omega) (by omega)) rfl (l_RX5_143 hts ⟨rfl, rfl⟩ ⟨Nat.le_of_ble_eq_true rfl, Nat.le_of_ble_eq_true rfl⟩) m_10_19 m_10_20 rfl rfl hP hD hS hA 5 rfl wfC (Nat.le_of_ble_eq_true rfl) dX5_sourceBranches_22 (fun H locs hP hD hS => ?_)
  exact eI B hP hS rfl rfl dX5_sourceBranches_25
set_option maxHeartbeats 4000000 in
set_option maxRecDepth 100000 in
theorem c_X5_leaving (l : Launch) (D : va_G) (cI cZ : ClassId) (ad : Nat → Nat) (rc rl rh fr fw fc fg ps pg pr pd qp qt qf qo ct lE lC : Nat → Int32) (cand : Int32) (lim : Int32) (now : Int32) (was : Int32) (sent : Nat) (qfi : Nat) (qsz : Nat) : MI l yX5_leaving cX5_leaving 1 .int { frames := 1, cells := 0, slots := 0, locals := 22 } D (TY cI cZ) [.ref (ad 0)] (wC cI ad rc rl rh fr fw fc fg ps pg pr pd qp qt qf qo ct lE lC cand lim now was (nI sent) (nI qfi) (nI qsz)) (wC cI ad rc rl rh fr fw fc fg ps pg pr pd qp qt qf qo ct lE lC cand lim now was (nI sent) (nI qfi) (nI qsz)) (f_X2_leavingBranches fg) := by
  refine MI.mk ⟨rfl, rfl⟩ (by decide +kernel) (Nat.le_of_ble_eq_true rfl) ?_
  intro p e s m below meth c A ls B hA hP hD hS hl
  have hx := B.1
  have hb := B.2.1
  have hts := B.2.2.2.2.2.1
  have hN := B.2.2.2.2.2.2.2.1
  have hK := B.2.2.2.2.2.2.2.2.1
  have hl : lv_has ls 1 [(0, .ref (ad 0))] := hl
  refine lv_aload_n hx hb dX5_leaving_0 rfl (lv_at hl 0 rfl) ?_
  refine g_X5_19 B hP 0 rfl rfl dX5_leaving_1 ?_
  refine fV_i (ci := 2) (as := []) (rest := []) B hl.1 (c_X2_leavingBranches l D cI cZ ad rc rl rh fr fw fc fg ps pg pr pd qp qt qf qo ct lE lC cand lim now was sent qfi qsz) rfl (l_RX5_146 hts ⟨rfl, rfl⟩ ⟨Nat.le_of_ble_eq_true rfl, Nat.le_of_ble_eq_true rfl⟩) m_6_15 m_6_16 rfl rfl hP hD hS hA 5 rfl wfC (Nat.le_of_ble_eq_true rfl) dX5_leaving_4 (fun H locs hP hD hS => ?_)
  exact eI B hP hS rfl rfl dX5_leaving_7
set_option maxHeartbeats 4000000 in
set_option maxRecDepth 100000 in
theorem c_X5_queued (l : Launch) (D : va_G) (cI cZ : ClassId) (ad : Nat → Nat) (rc rl rh fr fw fc fg ps pg pr pd qp qt qf qo ct lE lC : Nat → Int32) (cand : Int32) (lim : Int32) (now : Int32) (was : Int32) (sent : Nat) (qfi : Nat) (qsz : Nat) (hqsz : qsz ≤ 200) : MI l yX5_queued cX5_queued 1 .int { frames := 1, cells := 0, slots := 0, locals := 20 } D (TY cI cZ) [.ref (ad 0)] (wC cI ad rc rl rh fr fw fc fg ps pg pr pd qp qt qf qo ct lE lC cand lim now was (nI sent) (nI qfi) (nI qsz)) (wC cI ad rc rl rh fr fw fc fg ps pg pr pd qp qt qf qo ct lE lC cand lim now was (nI sent) (nI qfi) (nI qsz)) (nI qsz) := by
  refine MI.mk ⟨rfl, rfl⟩ (by decide +kernel) (Nat.le_of_ble_eq_true rfl) ?_
  intro p e s m below meth c A ls B hA hP hD hS hl
  have hx := B.1
  have hb := B.2.1
  have hts := B.2.2.2.2.2.1
  have hN := B.2.2.2.2.2.2.2.1
  have hK := B.2.2.2.2.2.2.2.2.1
  have hl : lv_has ls 1 [(0, .ref (ad 0))] := hl
  refine lv_aload_n hx hb dX5_queued_0 rfl (lv_at hl 0 rfl) ?_
  refine g_X5_33 B hP 0 rfl rfl dX5_queued_1 ?_
  refine fV_i (ci := 0) (as := []) (rest := []) B hl.1 (c_X0_count l D cI cZ ad rc rl rh fr fw fc fg ps pg pr pd qp qt qf qo ct lE lC cand lim now was sent qfi qsz (by omega)) rfl (l_RX5_194 hts ⟨rfl, rfl⟩ ⟨Nat.le_of_ble_eq_true rfl, Nat.le_of_ble_eq_true rfl⟩) m_13_16 m_13_17 rfl rfl hP hD hS hA 15 rfl wfC (Nat.le_of_ble_eq_true rfl) dX5_queued_4 (fun H locs hP hD hS => ?_)
  exact eI B hP hS rfl rfl dX5_queued_7
set_option maxHeartbeats 4000000 in
set_option maxRecDepth 100000 in
theorem c_X5_nextTo (l : Launch) (D : va_G) (cI cZ : ClassId) (ad : Nat → Nat) (rc rl rh fr fw fc fg ps pg pr pd qp qt qf qo ct lE lC : Nat → Int32) (cand : Int32) (lim : Int32) (now : Int32) (was : Int32) (sent : Nat) (qfi : Nat) (qsz : Nat) (hqfi : qfi ≤ 199) (hqsz : qsz ≤ 200) : MI l yX5_nextTo cX5_nextTo 1 .int { frames := 2, cells := 0, slots := 0, locals := 41 } D (TY cI cZ) [.ref (ad 0)] (wC cI ad rc rl rh fr fw fc fg ps pg pr pd qp qt qf qo ct lE lC cand lim now was (nI sent) (nI qfi) (nI qsz)) (wC cI ad rc rl rh fr fw fc fg ps pg pr pd qp qt qf qo ct lE lC cand lim now was (nI sent) (nI qfi) (nI qsz)) (f_X0_firstIn_qo qo qfi qsz) := by
  refine MI.mk ⟨rfl, rfl⟩ (by decide +kernel) (Nat.le_of_ble_eq_true rfl) ?_
  intro p e s m below meth c A ls B hA hP hD hS hl
  have hx := B.1
  have hb := B.2.1
  have hts := B.2.2.2.2.2.1
  have hN := B.2.2.2.2.2.2.2.1
  have hK := B.2.2.2.2.2.2.2.2.1
  have hl : lv_has ls 1 [(0, .ref (ad 0))] := hl
  refine lv_aload_n hx hb dX5_nextTo_0 rfl (lv_at hl 0 rfl) ?_
  refine g_X5_33 B hP 0 rfl rfl dX5_nextTo_1 ?_
  refine fV_i (ci := 0) (as := []) (rest := []) B hl.1 (c_X0_firstTo l D cI cZ ad rc rl rh fr fw fc fg ps pg pr pd qp qt qf qo ct lE lC cand lim now was sent qfi qsz (by omega) (by omega)) rfl (l_RX5_181 hts ⟨rfl, rfl⟩ ⟨Nat.le_of_ble_eq_true rfl, Nat.le_of_ble_eq_true rfl⟩) m_18_23 m_19_0 rfl rfl hP hD hS hA 15 rfl wfC (Nat.le_of_ble_eq_true rfl) dX5_nextTo_4 (fun H locs hP hD hS => ?_)
  exact eI B hP hS rfl rfl dX5_nextTo_7
set_option maxHeartbeats 4000000 in
set_option maxRecDepth 100000 in
theorem c_X5_received (l : Launch) (D : va_G) (cI cZ : ClassId) (ad : Nat → Nat) (rc rl rh fr fw fc fg ps pg pr pd qp qt qf qo ct lE lC : Nat → Int32) (cand : Int32) (lim : Int32) (now : Int32) (was : Int32) (sent : Nat) (qfi : Nat) (qsz : Nat) (pk : Nat) (hpk : pk < 200) (hsent : sent ≤ 200) (hps : pk < sent) : MI l yX5_received cX5_received 2 .int { frames := 2, cells := 0, slots := 0, locals := 42 } D (TY cI cZ) [.ref (ad 0), .int (nI pk)] (wC cI ad rc rl rh fr fw fc fg ps pg pr pd qp qt qf qo ct lE lC cand lim now was (nI sent) (nI qfi) (nI qsz)) (wC cI ad rc rl rh fr fw fc fg ps pg pr pd qp qt qf qo ct lE lC cand lim now was (nI sent) (nI qfi) (nI qsz)) (pr pk) := by
  refine MI.mk ⟨rfl, rfl⟩ (by decide +kernel) (Nat.le_of_ble_eq_true rfl) ?_
  intro p e s m below meth c A ls B hA hP hD hS hl
  have hx := B.1
  have hb := B.2.1
  have hts := B.2.2.2.2.2.1
  have hN := B.2.2.2.2.2.2.2.1
  have hK := B.2.2.2.2.2.2.2.2.1
  have hl : lv_has ls 2 [(0, .ref (ad 0)), (1, .int (nI pk))] := hl
  refine lv_aload_n hx hb dX5_received_0 rfl (lv_at hl 0 rfl) ?_
  refine lv_iload_n hx hb dX5_received_1 rfl (lv_at hl 1 rfl) ?_
  refine fV_v (ci := 5) (as := [.int (nI pk)]) (rest := []) B hl.1 (c_X5_checkPacket l D cI cZ ad rc rl rh fr fw fc fg ps pg pr pd qp qt qf qo ct lE lC cand lim now was sent qfi qsz pk (by omega) (by omega) hps) rfl (l_RX5_197 hts ⟨rfl, rfl⟩ ⟨Nat.le_of_ble_eq_true rfl, Nat.le_of_ble_eq_true rfl⟩) m_19_12 m_19_13 rfl rfl hP hD hS hA 0 rfl wfC (Nat.le_of_ble_eq_true rfl) dX5_received_2 (fun H locs hP hD hS => ?_)
  refine lv_aload_n hx hb dX5_received_5 rfl (lv_at hl 0 rfl) ?_
  refine g_X5_26 B hP 0 rfl rfl dX5_received_6 ?_
  refine lv_iload_n hx hb dX5_received_9 rfl (lv_at hl 1 rfl) ?_
  refine fV_i (ci := 3) (as := [.int (nI pk)]) (rest := []) B hl.1 (c_X3_receiversOf l D cI cZ ad rc rl rh fr fw fc fg ps pg pr pd qp qt qf qo ct lE lC cand lim now was sent qfi qsz pk (by omega) (by omega) hps) rfl (l_RX5_200 hts ⟨rfl, rfl⟩ ⟨Nat.le_of_ble_eq_true rfl, Nat.le_of_ble_eq_true rfl⟩) m_16_10 m_16_11 rfl rfl hP hD hS hA 10 rfl wfC (Nat.le_of_ble_eq_true rfl) dX5_received_10 (fun H locs hP hD hS => ?_)
  exact eI B hP hS rfl rfl dX5_received_13
set_option maxHeartbeats 4000000 in
set_option maxRecDepth 100000 in
theorem c_X5_doubles (l : Launch) (D : va_G) (cI cZ : ClassId) (ad : Nat → Nat) (rc rl rh fr fw fc fg ps pg pr pd qp qt qf qo ct lE lC : Nat → Int32) (cand : Int32) (lim : Int32) (now : Int32) (was : Int32) (sent : Nat) (qfi : Nat) (qsz : Nat) (pk : Nat) (hpk : pk < 200) (hsent : sent ≤ 200) (hps : pk < sent) : MI l yX5_doubles cX5_doubles 2 .int { frames := 2, cells := 0, slots := 0, locals := 42 } D (TY cI cZ) [.ref (ad 0), .int (nI pk)] (wC cI ad rc rl rh fr fw fc fg ps pg pr pd qp qt qf qo ct lE lC cand lim now was (nI sent) (nI qfi) (nI qsz)) (wC cI ad rc rl rh fr fw fc fg ps pg pr pd qp qt qf qo ct lE lC cand lim now was (nI sent) (nI qfi) (nI qsz)) (pd pk) := by
  refine MI.mk ⟨rfl, rfl⟩ (by decide +kernel) (Nat.le_of_ble_eq_true rfl) ?_
  intro p e s m below meth c A ls B hA hP hD hS hl
  have hx := B.1
  have hb := B.2.1
  have hts := B.2.2.2.2.2.1
  have hN := B.2.2.2.2.2.2.2.1
  have hK := B.2.2.2.2.2.2.2.2.1
  have hl : lv_has ls 2 [(0, .ref (ad 0)), (1, .int (nI pk))] := hl
  refine lv_aload_n hx hb dX5_doubles_0 rfl (lv_at hl 0 rfl) ?_
  refine lv_iload_n hx hb dX5_doubles_1 rfl (lv_at hl 1 rfl) ?_
  refine fV_v (ci := 5) (as := [.int (nI pk)]) (rest := []) B hl.1 (c_X5_checkPacket l D cI cZ ad rc rl rh fr fw fc fg ps pg pr pd qp qt qf qo ct lE lC cand lim now was sent qfi qsz pk (by omega) (by omega) hps) rfl (l_RX5_197 hts ⟨rfl, rfl⟩ ⟨Nat.le_of_ble_eq_true rfl, Nat.le_of_ble_eq_true rfl⟩) m_19_12 m_19_13 rfl rfl hP hD hS hA 0 rfl wfC (Nat.le_of_ble_eq_true rfl) dX5_doubles_2 (fun H locs hP hD hS => ?_)
  refine lv_aload_n hx hb dX5_doubles_5 rfl (lv_at hl 0 rfl) ?_
  refine g_X5_26 B hP 0 rfl rfl dX5_doubles_6 ?_
  refine lv_iload_n hx hb dX5_doubles_9 rfl (lv_at hl 1 rfl) ?_
  refine fV_i (ci := 3) (as := [.int (nI pk)]) (rest := []) B hl.1 (c_X3_doublesOf l D cI cZ ad rc rl rh fr fw fc fg ps pg pr pd qp qt qf qo ct lE lC cand lim now was sent qfi qsz pk (by omega) (by omega) hps) rfl (l_RX5_203 hts ⟨rfl, rfl⟩ ⟨Nat.le_of_ble_eq_true rfl, Nat.le_of_ble_eq_true rfl⟩) m_20_2 m_20_3 rfl rfl hP hD hS hA 10 rfl wfC (Nat.le_of_ble_eq_true rfl) dX5_doubles_10 (fun H locs hP hD hS => ?_)
  exact eI B hP hS rfl rfl dX5_doubles_13
set_option maxHeartbeats 4000000 in
set_option maxRecDepth 100000 in
theorem c_X5_wasted (l : Launch) (D : va_G) (cI cZ : ClassId) (ad : Nat → Nat) (rc rl rh fr fw fc fg ps pg pr pd qp qt qf qo ct lE lC : Nat → Int32) (cand : Int32) (lim : Int32) (now : Int32) (was : Int32) (sent : Nat) (qfi : Nat) (qsz : Nat) : MI l yX5_wasted cX5_wasted 1 .int { frames := 0, cells := 0, slots := 0, locals := 0 } D (TY cI cZ) [.ref (ad 0)] (wC cI ad rc rl rh fr fw fc fg ps pg pr pd qp qt qf qo ct lE lC cand lim now was (nI sent) (nI qfi) (nI qsz)) (wC cI ad rc rl rh fr fw fc fg ps pg pr pd qp qt qf qo ct lE lC cand lim now was (nI sent) (nI qfi) (nI qsz)) (was) := by
  refine MI.mk ⟨rfl, rfl⟩ (by decide +kernel) (Nat.le_of_ble_eq_true rfl) ?_
  intro p e s m below meth c A ls B hA hP hD hS hl
  have hx := B.1
  have hb := B.2.1
  have hts := B.2.2.2.2.2.1
  have hN := B.2.2.2.2.2.2.2.1
  have hK := B.2.2.2.2.2.2.2.2.1
  have hl : lv_has ls 1 [(0, .ref (ad 0))] := hl
  refine lv_aload_n hx hb dX5_wasted_0 rfl (lv_at hl 0 rfl) ?_
  refine g_X5_187 B hP 0 rfl rfl dX5_wasted_1 ?_
  exact eI B hP hS rfl rfl dX5_wasted_4
set_option maxHeartbeats 4000000 in
set_option maxRecDepth 100000 in
theorem c_X5_clock (l : Launch) (D : va_G) (cI cZ : ClassId) (ad : Nat → Nat) (rc rl rh fr fw fc fg ps pg pr pd qp qt qf qo ct lE lC : Nat → Int32) (cand : Int32) (lim : Int32) (now : Int32) (was : Int32) (sent : Nat) (qfi : Nat) (qsz : Nat) : MI l yX5_clock cX5_clock 1 .int { frames := 0, cells := 0, slots := 0, locals := 0 } D (TY cI cZ) [.ref (ad 0)] (wC cI ad rc rl rh fr fw fc fg ps pg pr pd qp qt qf qo ct lE lC cand lim now was (nI sent) (nI qfi) (nI qsz)) (wC cI ad rc rl rh fr fw fc fg ps pg pr pd qp qt qf qo ct lE lC cand lim now was (nI sent) (nI qfi) (nI qsz)) (now) := by
  refine MI.mk ⟨rfl, rfl⟩ (by decide +kernel) (Nat.le_of_ble_eq_true rfl) ?_
  intro p e s m below meth c A ls B hA hP hD hS hl
  have hx := B.1
  have hb := B.2.1
  have hts := B.2.2.2.2.2.1
  have hN := B.2.2.2.2.2.2.2.1
  have hK := B.2.2.2.2.2.2.2.2.1
  have hl : lv_has ls 1 [(0, .ref (ad 0))] := hl
  refine lv_aload_n hx hb dX5_clock_0 rfl (lv_at hl 0 rfl) ?_
  refine g_X5_128 B hP 0 rfl rfl dX5_clock_1 ?_
  exact eI B hP hS rfl rfl dX5_clock_4
set_option maxHeartbeats 4000000 in
set_option maxRecDepth 100000 in
theorem c_X5_floodMembers (l : Launch) (D : va_G) (cI cZ : ClassId) (ad : Nat → Nat) (rc rl rh fr fw fc fg ps pg pr pd qp qt qf qo ct lE lC : Nat → Int32) (cand : Int32) (lim : Int32) (now : Int32) (was : Int32) (sent : Nat) (qfi : Nat) (qsz : Nat) (s_ : Nat) (g : Nat) (hs_ : s_ < 10) (hg : g < 4) : MI l yX5_floodMembers cX5_floodMembers 3 .int { frames := 3, cells := 0, slots := 0, locals := 67 } D (TY cI cZ) [.ref (ad 0), .int (nI s_), .int (nI g)] (wC cI ad rc rl rh fr fw fc fg ps pg pr pd qp qt qf qo ct lE lC cand lim now was (nI sent) (nI qfi) (nI qsz)) (wC cI ad rc rl rh fr fw fc fg ps pg pr pd qp qt qf qo ct lE lC cand lim now was (nI sent) (nI qfi) (nI qsz)) ((fw g) &&& (f_X5_floodedFrom s_ rl)) := by
  refine MI.mk ⟨rfl, rfl⟩ (by decide +kernel) (Nat.le_of_ble_eq_true rfl) ?_
  intro p e s m below meth c A ls B hA hP hD hS hl
  have hx := B.1
  have hb := B.2.1
  have hts := B.2.2.2.2.2.1
  have hN := B.2.2.2.2.2.2.2.1
  have hK := B.2.2.2.2.2.2.2.2.1
  have hl : lv_has ls 3 [(0, .ref (ad 0)), (1, .int (nI s_)), (2, .int (nI g))] := hl
  refine lv_iload_n hx hb dX5_floodMembers_0 rfl (lv_at hl 1 rfl) ?_
  refine fS_v (as := [.int (nI s_)]) (rest := []) B hl.1 (c_X5_checkRouter l D cI cZ (wC cI ad rc rl rh fr fw fc fg ps pg pr pd qp qt qf qo ct lE lC cand lim now was (nI sent) (nI qfi) (nI qsz)) s_ (by omega)) (l_RX5_48 hts ⟨rfl, rfl⟩ ⟨Nat.le_of_ble_eq_true rfl, Nat.le_of_ble_eq_true rfl⟩) m_7_1 rfl rfl hP hD hS hA rfl (Nat.le_of_ble_eq_true rfl) dX5_floodMembers_1 (fun H locs hP hD hS => ?_)
  refine lv_iload_n hx hb dX5_floodMembers_4 rfl (lv_at hl 2 rfl) ?_
  refine fS_v (as := [.int (nI g)]) (rest := []) B hl.1 (c_X5_checkGroup l D cI cZ (wC cI ad rc rl rh fr fw fc fg ps pg pr pd qp qt qf qo ct lE lC cand lim now was (nI sent) (nI qfi) (nI qsz)) g (by omega)) (l_RX5_100 hts ⟨rfl, rfl⟩ ⟨Nat.le_of_ble_eq_true rfl, Nat.le_of_ble_eq_true rfl⟩) m_9_15 rfl rfl hP hD hS hA rfl (Nat.le_of_ble_eq_true rfl) dX5_floodMembers_5 (fun H locs hP hD hS => ?_)
  refine lv_aload_n hx hb dX5_floodMembers_8 rfl (lv_at hl 0 rfl) ?_
  refine lv_iload_n hx hb dX5_floodMembers_9 rfl (lv_at hl 2 rfl) ?_
  refine fV_i (ci := 5) (as := [.int (nI g)]) (rest := []) B hl.1 (c_X5_membersOf l D cI cZ ad rc rl rh fr fw fc fg ps pg pr pd qp qt qf qo ct lE lC cand lim now was sent qfi qsz g (by omega)) rfl (l_RX5_118 hts ⟨rfl, rfl⟩ ⟨Nat.le_of_ble_eq_true rfl, Nat.le_of_ble_eq_true rfl⟩) m_9_22 m_9_23 rfl rfl hP hD hS hA 0 rfl wfC (Nat.le_of_ble_eq_true rfl) dX5_floodMembers_10 (fun H locs hP hD hS => ?_)
  refine lv_aload_n hx hb dX5_floodMembers_13 rfl (lv_at hl 0 rfl) ?_
  refine lv_iload_n hx hb dX5_floodMembers_14 rfl (lv_at hl 1 rfl) ?_
  refine fV_i (ci := 5) (as := [.int (nI s_)]) (rest := [.int (fw g)]) B hl.1 (c_X5_floodedFrom l D cI cZ ad rc rl rh fr fw fc fg ps pg pr pd qp qt qf qo ct lE lC cand lim now was sent qfi qsz s_ (by omega)) rfl (l_RX5_214 hts ⟨rfl, rfl⟩ ⟨Nat.le_of_ble_eq_true rfl, Nat.le_of_ble_eq_true rfl⟩) m_14_14 m_14_15 rfl rfl hP hD hS hA 0 rfl wfC (Nat.le_of_ble_eq_true rfl) dX5_floodMembers_15 (fun H locs hP hD hS => ?_)
  refine lv_iand hx hb dX5_floodMembers_18 ?_
  exact eI B hP hS rfl rfl dX5_floodMembers_19
def f_X5_floodCopies_L15 (s_ : Nat) (rc : Nat → Int32) (rl : Nat → Int32) : Nat → Nat → Int32 → Int32
  | 0, _, x3_15 => x3_15
  | n15 + 1, k15, x3_15 => if (f_X5_has (f_X5_floodedFrom s_ rl) k15) = true then (if k15 = s_ then f_X5_floodCopies_L15 s_ rc rl n15 (k15 + 1) (x3_15 + ((f_X4_linksOf k15 rc) - (nI 0))) else f_X5_floodCopies_L15 s_ rc rl n15 (k15 + 1) (x3_15 + ((f_X4_linksOf k15 rc) - (nI 1)))) else f_X5_floodCopies_L15 s_ rc rl n15 (k15 + 1) x3_15
def f_X5_floodCopies (s_ : Nat) (rc : Nat → Int32) (rl : Nat → Int32) : Int32 :=
  f_X5_floodCopies_L15 s_ rc rl 10 0 (nI 0)
set_option maxHeartbeats 4000000 in
set_option maxRecDepth 100000 in
theorem c_X5_floodCopies (l : Launch) (D : va_G) (cI cZ : ClassId) (ad : Nat → Nat) (rc rl rh fr fw fc fg ps pg pr pd qp qt qf qo ct lE lC : Nat → Int32) (cand : Int32) (lim : Int32) (now : Int32) (was : Int32) (sent : Nat) (qfi : Nat) (qsz : Nat) (s_ : Nat) (hs_ : s_ < 10) : MI l yX5_floodCopies cX5_floodCopies 5 .int { frames := 3, cells := 0, slots := 0, locals := 67 } D (TY cI cZ) [.ref (ad 0), .int (nI s_)] (wC cI ad rc rl rh fr fw fc fg ps pg pr pd qp qt qf qo ct lE lC cand lim now was (nI sent) (nI qfi) (nI qsz)) (wC cI ad rc rl rh fr fw fc fg ps pg pr pd qp qt qf qo ct lE lC cand lim now was (nI sent) (nI qfi) (nI qsz)) (f_X5_floodCopies s_ rc rl) := by
  refine MI.mk ⟨rfl, rfl⟩ (by decide +kernel) (Nat.le_of_ble_eq_true rfl) ?_
  intro p e s m below meth c A ls B hA hP hD hS hl
  have hx := B.1
  have hb := B.2.1
  have hts := B.2.2.2.2.2.1
  have hN := B.2.2.2.2.2.2.2.1
  have hK := B.2.2.2.2.2.2.2.2.1
  have hl : lv_has ls 5 [(0, .ref (ad 0)), (1, .int (nI s_))] := hl
  have hf := f_X5_floodCopies.eq_1 s_ rc rl
  refine lv_iload_n hx hb dX5_floodCopies_0 rfl (lv_at hl 1 rfl) ?_
  refine fS_v (as := [.int (nI s_)]) (rest := []) B hl.1 (c_X5_checkRouter l D cI cZ (wC cI ad rc rl rh fr fw fc fg ps pg pr pd qp qt qf qo ct lE lC cand lim now was (nI sent) (nI qfi) (nI qsz)) s_ (by omega)) (l_RX5_48 hts ⟨rfl, rfl⟩ ⟨Nat.le_of_ble_eq_true rfl, Nat.le_of_ble_eq_true rfl⟩) m_7_1 rfl rfl hP hD hS hA rfl (Nat.le_of_ble_eq_true rfl) dX5_floodCopies_1 (fun H locs hP hD hS => ?_)
  refine lv_aload_n hx hb dX5_floodCopies_4 rfl (lv_at hl 0 rfl) ?_
  refine lv_iload_n hx hb dX5_floodCopies_5 rfl (lv_at hl 1 rfl) ?_
  refine fV_i (ci := 5) (as := [.int (nI s_)]) (rest := []) B hl.1 (c_X5_floodedFrom l D cI cZ ad rc rl rh fr fw fc fg ps pg pr pd qp qt qf qo ct lE lC cand lim now was sent qfi qsz s_ (by omega)) rfl (l_RX5_214 hts ⟨rfl, rfl⟩ ⟨Nat.le_of_ble_eq_true rfl, Nat.le_of_ble_eq_true rfl⟩) m_14_14 m_14_15 rfl rfl hP hD hS hA 0 rfl wfC (Nat.le_of_ble_eq_true rfl) dX5_floodCopies_6 (fun H locs hP hD hS => ?_)
  refine lv_istore_n (lv' := [(2, .int (f_X5_floodedFrom s_ rl)), (0, .ref (ad 0)), (1, .int (nI s_))]) hx hb dX5_floodCopies_9 rfl hl (by decide) rfl (fun ls hl => ?_)
  refine lv_iconst (v := nI 0) hx hb dX5_floodCopies_10 (by decide) ?_
  refine lv_istore_n (lv' := [(3, .int (nI 0)), (2, .int (f_X5_floodedFrom s_ rl)), (0, .ref (ad 0)), (1, .int (nI s_))]) hx hb dX5_floodCopies_11 rfl hl (by decide) rfl (fun ls hl => ?_)
  refine lv_iconst (v := nI 0) hx hb dX5_floodCopies_12 (by decide) ?_
  refine lv_istore (lv' := [(4, .int (nI 0)), (3, .int (nI 0)), (2, .int (f_X5_floodedFrom s_ rl)), (0, .ref (ad 0)), (1, .int (nI s_))]) hx hb dX5_floodCopies_13 hl (by decide) rfl (fun ls hl => ?_)
  have L15 : ∀ (n15 : Nat) (k15 : Nat) (x3_15 : Int32), k15 + n15 = 10 → f_X5_floodCopies s_ rc rl = (f_X5_floodCopies_L15 s_ rc rl n15 k15 x3_15) → ∀ (H : Heap) (locs : List Loc), va_P D vwCl (wC cI ad rc rl rh fr fw fc fg ps pg pr pd qp qt qf qo ct lE lC cand lim now was (nI sent) (nI qfi) (nI qsz)) H → va_D A (wC cI ad rc rl rh fr fw fc fg ps pg pr pd qp qt qf qo ct lE lC cand lim now was (nI sent) (nI qfi) (nI qsz)) → va_S A s.heap H locs → ∀ ls : Array Slot, lv_has ls 5 [(0, .ref (ad 0)), (1, .int (nI s_)), (2, .int (f_X5_floodedFrom s_ rl)), (3, .int x3_15), (4, .int (nI k15))] → W p l e { frames := 3, cells := 0, slots := 0, locals := 67 } s m [.ref (ad 0), .int (nI s_)].toArray below meth c H locs 0 0 (QI below s A D [.ref (ad 0), .int (nI s_)] (wC cI ad rc rl rh fr fw fc fg ps pg pr pd qp qt qf qo ct lE lC cand lim now was (nI sent) (nI qfi) (nI qsz)) (f_X5_floodCopies s_ rc rl)) (F0 m 15 ls []) := by
    intro n15
    induction n15 with
    | zero =>
      intro k15 x3_15 hk15 hf H locs hP hD hS ls hl
      obtain rfl : 10 = k15 := by omega
      rw [f_X5_floodCopies_L15] at hf
      have hl : lv_has ls 5 [(0, .ref (ad 0)), (1, .int (nI s_)), (2, .int (f_X5_floodedFrom s_ rl)), (3, .int x3_15), (4, .int (nI 10))] := hl
      refine lv_iload hx hb dX5_floodCopies_15 (lv_at hl 4 rfl) ?_
      refine lv_bipush (v := nI 10) hx hb dX5_floodCopies_17 (by decide) ?_
      refine r_icmp_ge (tgt := 61) hx hb (by omega) (by omega) dX5_floodCopies_19 (by decide) (fun _ => ?_) (fun c => absurd c (by omega))
      refine lv_iload_n hx hb dX5_floodCopies_61 rfl (lv_at hl 3 rfl) ?_
      exact eI B hP hS ((congrArg (fun (u : Int32) => u) hf).symm) rfl dX5_floodCopies_62
    | succ n15 ih15 =>
      intro k15 x3_15 hk15 hf H locs hP hD hS ls hl
      rw [f_X5_floodCopies_L15] at hf
      have hl : lv_has ls 5 [(0, .ref (ad 0)), (1, .int (nI s_)), (2, .int (f_X5_floodedFrom s_ rl)), (3, .int x3_15), (4, .int (nI k15))] := hl
      refine lv_iload hx hb dX5_floodCopies_15 (lv_at hl 4 rfl) ?_
      refine lv_bipush (v := nI 10) hx hb dX5_floodCopies_17 (by decide) ?_
      refine r_icmp_ge (tgt := 61) hx hb (by omega) (by omega) dX5_floodCopies_19 (by decide) (fun c => absurd c (by omega)) (fun _ => ?_)
      refine lv_iload_n hx hb dX5_floodCopies_22 rfl (lv_at hl 2 rfl) ?_
      refine lv_iload hx hb dX5_floodCopies_23 (lv_at hl 4 rfl) ?_
      refine fS_i (as := [.int (f_X5_floodedFrom s_ rl), .int (nI k15)]) (rest := []) B hl.1 (c_X5_has l D cI cZ (wC cI ad rc rl rh fr fw fc fg ps pg pr pd qp qt qf qo ct lE lC cand lim now was (nI sent) (nI qfi) (nI qsz)) (f_X5_floodedFrom s_ rl) k15 (by omega)) (l_RX5_74 hts ⟨rfl, rfl⟩ ⟨Nat.le_of_ble_eq_true rfl, Nat.le_of_ble_eq_true rfl⟩) m_7_14 rfl rfl hP hD hS hA rfl (Nat.le_of_ble_eq_true rfl) dX5_floodCopies_25 (fun H locs hP hD hS => ?_)
      refine r_if_eq_b (tgt := 55) hx hb dX5_floodCopies_28 (by decide) (fun c6 => ?_) (fun c6 => ?_)
      · have hf := hf.trans (if_neg c6)
        refine lv_iinc (v := nI (k15 + 1)) (lv' := [(4, .int (nI (k15 + 1))), (0, .ref (ad 0)), (1, .int (nI s_)), (2, .int (f_X5_floodedFrom s_ rl)), (3, .int x3_15)]) hx hb dX5_floodCopies_55 hl (k := 4) rfl (nI_add _ _) (by decide) rfl (fun ls hl => ?_)
        refine lv_goto (tgt := 15) hx hb dX5_floodCopies_58 (by decide) ?_
        exact ih15 (k15 + 1) x3_15 (by omega) hf _ _ hP hD hS _ (lv_sub hl [1, 2, 3, 4, 0] rfl)
      · have hf := hf.trans (if_pos c6)
        refine lv_iload_n hx hb dX5_floodCopies_31 rfl (lv_at hl 3 rfl) ?_
        refine lv_aload_n hx hb dX5_floodCopies_32 rfl (lv_at hl 0 rfl) ?_
        refine g_X5_12 B hP 0 rfl rfl dX5_floodCopies_33 ?_
        refine lv_iload hx hb dX5_floodCopies_36 (lv_at hl 4 rfl) ?_
        refine fV_i (ci := 4) (as := [.int (nI k15)]) (rest := [.int x3_15]) B hl.1 (c_X4_linksOf l D cI cZ ad rc rl rh fr fw fc fg ps pg pr pd qp qt qf qo ct lE lC cand lim now was sent qfi qsz k15 (by omega)) rfl (l_RX5_217 hts ⟨rfl, rfl⟩ ⟨Nat.le_of_ble_eq_true rfl, Nat.le_of_ble_eq_true rfl⟩) m_22_1 m_22_2 rfl rfl hP hD hS hA 1 rfl wfC (Nat.le_of_ble_eq_true rfl) dX5_floodCopies_38 (fun H locs hP hD hS => ?_)
        refine lv_iload hx hb dX5_floodCopies_41 (lv_at hl 4 rfl) ?_
        refine lv_iload_n hx hb dX5_floodCopies_43 rfl (lv_at hl 1 rfl) ?_
        refine r_icmp_ne (tgt := 51) hx hb (by omega) (by omega) dX5_floodCopies_44 (by decide) (fun c7 => ?_) (fun c7 => ?_)
        · have hf := hf.trans (if_neg c7)
          refine lv_iconst (v := nI 1) hx hb dX5_floodCopies_51 (by decide) ?_
          refine lv_isub hx hb dX5_floodCopies_52 ?_
          refine lv_iadd hx hb dX5_floodCopies_53 ?_
          refine lv_istore_n (lv' := [(3, .int (x3_15 + ((f_X4_linksOf k15 rc) - (nI 1)))), (0, .ref (ad 0)), (1, .int (nI s_)), (2, .int (f_X5_floodedFrom s_ rl)), (4, .int (nI k15))]) hx hb dX5_floodCopies_54 rfl hl (by decide) rfl (fun ls hl => ?_)
          refine lv_iinc (v := nI (k15 + 1)) (lv' := [(4, .int (nI (k15 + 1))), (3, .int (x3_15 + ((f_X4_linksOf k15 rc) - (nI 1)))), (0, .ref (ad 0)), (1, .int (nI s_)), (2, .int (f_X5_floodedFrom s_ rl))]) hx hb dX5_floodCopies_55 hl (k := 4) rfl (nI_add _ _) (by decide) rfl (fun ls hl => ?_)
          refine lv_goto (tgt := 15) hx hb dX5_floodCopies_58 (by decide) ?_
          exact ih15 (k15 + 1) (x3_15 + ((f_X4_linksOf k15 rc) - (nI 1))) (by omega) hf _ _ hP hD hS _ (lv_sub hl [2, 3, 4, 1, 0] rfl)
        · have hf := hf.trans (if_pos c7)
          refine lv_iconst (v := nI 0) hx hb dX5_floodCopies_47 (by decide) ?_
          refine lv_goto (tgt := 52) hx hb dX5_floodCopies_48 (by decide) ?_
          refine lv_isub hx hb dX5_floodCopies_52 ?_
          refine lv_iadd hx hb dX5_floodCopies_53 ?_
          refine lv_istore_n (lv' := [(3, .int (x3_15 + ((f_X4_linksOf k15 rc) - (nI 0)))), (0, .ref (ad 0)), (1, .int (nI s_)), (2, .int (f_X5_floodedFrom s_ rl)), (4, .int (nI k15))]) hx hb dX5_floodCopies_54 rfl hl (by decide) rfl (fun ls hl => ?_)
          refine lv_iinc (v := nI (k15 + 1)) (lv' := [(4, .int (nI (k15 + 1))), (3, .int (x3_15 + ((f_X4_linksOf k15 rc) - (nI 0)))), (0, .ref (ad 0)), (1, .int (nI s_)), (2, .int (f_X5_floodedFrom s_ rl))]) hx hb dX5_floodCopies_55 hl (k := 4) rfl (nI_add _ _) (by decide) rfl (fun ls hl => ?_)
          refine lv_goto (tgt := 15) hx hb dX5_floodCopies_58 (by decide) ?_
          exact ih15 (k15 + 1) (x3_15 + ((f_X4_linksOf k15 rc) - (nI 0))) (by omega) hf _ _ hP hD hS _ (lv_sub hl [2, 3, 4, 1, 0] rfl)
  exact L15 10 0 (nI 0) (by omega) hf _ _ hP hD hS _ (lv_sub hl [3, 4, 2, 1, 0] rfl)
def f_X5_setLink (r : Nat) (o : Nat) (co : Nat) (rc : Nat → Int32) (rl : Nat → Int32) (rh : Nat → Int32) (fr : Nat → Int32) (fw : Nat → Int32) (fc : Nat → Int32) (fg : Nat → Int32) : Int32 × (Nat → Int32) × (Nat → Int32) × (Nat → Int32) × (Nat → Int32) × (Nat → Int32) :=
  if (rc ((r * 10) + o)) = (nI co) then (rc ((r * 10) + o), rc, rl, rh, fc, fg) else (rc ((r * 10) + o), upd (upd rc ((r * 10) + o) (nI co)) ((o * 10) + r) (nI co), f_X4_findLeast (upd (upd rc ((r * 10) + o) (nI co)) ((o * 10) + r) (nI co)) rl, f_X4_findHops (upd (upd rc ((r * 10) + o) (nI co)) ((o * 10) + r) (nI co)) (f_X4_findLeast (upd (upd rc ((r * 10) + o) (nI co)) ((o * 10) + r) (nI co)) rl) rh, (f_X2_buildAnew (f_X4_findHops (upd (upd rc ((r * 10) + o) (nI co)) ((o * 10) + r) (nI co)) (f_X4_findLeast (upd (upd rc ((r * 10) + o) (nI co)) ((o * 10) + r) (nI co)) rl) rh) fr fw).1, (f_X2_buildAnew (f_X4_findHops (upd (upd rc ((r * 10) + o) (nI co)) ((o * 10) + r) (nI co)) (f_X4_findLeast (upd (upd rc ((r * 10) + o) (nI co)) ((o * 10) + r) (nI co)) rl) rh) fr fw).2)
set_option maxHeartbeats 4000000 in
set_option maxRecDepth 100000 in
theorem c_X5_setLink (l : Launch) (D : va_G) (cI cZ : ClassId) (ad : Nat → Nat) (rc rl rh fr fw fc fg ps pg pr pd qp qt qf qo ct lE lC : Nat → Int32) (cand : Int32) (lim : Int32) (now : Int32) (was : Int32) (sent : Nat) (qfi : Nat) (qsz : Nat) (r : Nat) (o : Nat) (co : Nat) (hr : r < 10) (ho : o < 10) (hco : co < 21) (hne : ¬ r = o) : MI l yX5_setLink cX5_setLink 5 .int { frames := 5, cells := 0, slots := 0, locals := 114 } D (TY cI cZ) [.ref (ad 0), .int (nI r), .int (nI o), .int (nI co)] (wC cI ad rc rl rh fr fw fc fg ps pg pr pd qp qt qf qo ct lE lC cand lim now was (nI sent) (nI qfi) (nI qsz)) (wC cI ad ((f_X5_setLink r o co rc rl rh fr fw fc fg).2.1) ((f_X5_setLink r o co rc rl rh fr fw fc fg).2.2.1) ((f_X5_setLink r o co rc rl rh fr fw fc fg).2.2.2.1) fr fw ((f_X5_setLink r o co rc rl rh fr fw fc fg).2.2.2.2.1) ((f_X5_setLink r o co rc rl rh fr fw fc fg).2.2.2.2.2) ps pg pr pd qp qt qf qo ct lE lC cand lim now was (nI sent) (nI qfi) (nI qsz)) ((f_X5_setLink r o co rc rl rh fr fw fc fg).1) := by
  refine MI.mk ⟨rfl, rfl⟩ (by decide +kernel) (Nat.le_of_ble_eq_true rfl) ?_
  intro p e s m below meth c A ls B hA hP hD hS hl
  have hx := B.1
  have hb := B.2.1
  have hts := B.2.2.2.2.2.1
  have hN := B.2.2.2.2.2.2.2.1
  have hK := B.2.2.2.2.2.2.2.2.1
  have hl : lv_has ls 5 [(0, .ref (ad 0)), (1, .int (nI r)), (2, .int (nI o)), (3, .int (nI co))] := hl
  have hf := f_X5_setLink.eq_1 r o co rc rl rh fr fw fc fg
  refine lv_iload_n hx hb dX5_setLink_0 rfl (lv_at hl 1 rfl) ?_
  refine fS_v (as := [.int (nI r)]) (rest := []) B hl.1 (c_X5_checkRouter l D cI cZ (wC cI ad rc rl rh fr fw fc fg ps pg pr pd qp qt qf qo ct lE lC cand lim now was (nI sent) (nI qfi) (nI qsz)) r (by omega)) (l_RX5_48 hts ⟨rfl, rfl⟩ ⟨Nat.le_of_ble_eq_true rfl, Nat.le_of_ble_eq_true rfl⟩) m_7_1 rfl rfl hP hD hS hA rfl (Nat.le_of_ble_eq_true rfl) dX5_setLink_1 (fun H locs hP hD hS => ?_)
  refine lv_iload_n hx hb dX5_setLink_4 rfl (lv_at hl 2 rfl) ?_
  refine fS_v (as := [.int (nI o)]) (rest := []) B hl.1 (c_X5_checkRouter l D cI cZ (wC cI ad rc rl rh fr fw fc fg ps pg pr pd qp qt qf qo ct lE lC cand lim now was (nI sent) (nI qfi) (nI qsz)) o (by omega)) (l_RX5_48 hts ⟨rfl, rfl⟩ ⟨Nat.le_of_ble_eq_true rfl, Nat.le_of_ble_eq_true rfl⟩) m_7_1 rfl rfl hP hD hS hA rfl (Nat.le_of_ble_eq_true rfl) dX5_setLink_5 (fun H locs hP hD hS => ?_)
  refine lv_iload_n hx hb dX5_setLink_8 rfl (lv_at hl 1 rfl) ?_
  refine lv_iload_n hx hb dX5_setLink_9 rfl (lv_at hl 2 rfl) ?_
  refine r_icmp_eq (tgt := 23) hx hb (by omega) (by omega) dX5_setLink_10 (by decide) (fun c => absurd c hne) (fun _ => ?_)
  refine lv_iload_n hx hb dX5_setLink_13 rfl (lv_at hl 3 rfl) ?_
  refine r_if_lt (tgt := 23) hx hb (by omega) dX5_setLink_14 (by decide) ?_
  refine lv_iload_n hx hb dX5_setLink_17 rfl (lv_at hl 3 rfl) ?_
  refine lv_bipush (v := nI 20) hx hb dX5_setLink_18 (by decide) ?_
  refine r_icmp_le (tgt := 33) hx hb (by omega) (by omega) dX5_setLink_20 (by decide) (fun _ => ?_) (fun c => absurd c (by omega))
  refine lv_aload_n hx hb dX5_setLink_33 rfl (lv_at hl 0 rfl) ?_
  refine g_X5_12 B hP 0 rfl rfl dX5_setLink_34 ?_
  refine lv_iload_n hx hb dX5_setLink_37 rfl (lv_at hl 1 rfl) ?_
  refine lv_iload_n hx hb dX5_setLink_38 rfl (lv_at hl 2 rfl) ?_
  refine fV_i (ci := 4) (as := [.int (nI r), .int (nI o)]) (rest := []) B hl.1 (c_X4_costOf l D cI cZ ad rc rl rh fr fw fc fg ps pg pr pd qp qt qf qo ct lE lC cand lim now was sent qfi qsz r o (by omega) (by omega)) rfl (l_RX5_59 hts ⟨rfl, rfl⟩ ⟨Nat.le_of_ble_eq_true rfl, Nat.le_of_ble_eq_true rfl⟩) m_3_20 m_3_21 rfl rfl hP hD hS hA 1 rfl wfC (Nat.le_of_ble_eq_true rfl) dX5_setLink_39 (fun H locs hP hD hS => ?_)
  refine lv_istore (lv' := [(4, .int (rc ((r * 10) + o))), (0, .ref (ad 0)), (1, .int (nI r)), (2, .int (nI o)), (3, .int (nI co))]) hx hb dX5_setLink_42 hl (by decide) rfl (fun ls hl => ?_)
  refine lv_iload hx hb dX5_setLink_44 (lv_at hl 0 rfl) ?_
  refine lv_iload_n hx hb dX5_setLink_46 rfl (lv_at hl 4 rfl) ?_
  refine lv_icmp_eq (tgt := 71) hx hb dX5_setLink_47 (by decide) (fun c1 => ?_) (fun c1 => ?_)
  · have hf := hf.trans (if_pos c1)
    refine lv_iload hx hb dX5_setLink_71 (lv_at hl 0 rfl) ?_
    exact eI B hP hS (by simp only [hf]) (by simp only [hf]) dX5_setLink_73
  · have hf := hf.trans (if_neg c1)
    refine lv_aload_n hx hb dX5_setLink_50 rfl (lv_at hl 1 rfl) ?_
    refine g_X5_12 B hP 0 rfl rfl dX5_setLink_51 ?_
    refine lv_iload_n hx hb dX5_setLink_54 rfl (lv_at hl 2 rfl) ?_
    refine lv_iload_n hx hb dX5_setLink_55 rfl (lv_at hl 3 rfl) ?_
    refine lv_iload_n hx hb dX5_setLink_56 rfl (lv_at hl 4 rfl) ?_
    refine fV_v (ci := 4) (as := [.int (nI r), .int (nI o), .int (nI co)]) (rest := []) B hl.1 (c_X4_change l D cI cZ ad rc rl rh fr fw fc fg ps pg pr pd qp qt qf qo ct lE lC cand lim now was sent qfi qsz r o (nI co) (by omega) (by omega)) rfl (l_RX5_63 hts ⟨rfl, rfl⟩ ⟨Nat.le_of_ble_eq_true rfl, Nat.le_of_ble_eq_true rfl⟩) m_7_7 m_7_8 rfl rfl hP hD hS hA 1 rfl wfC (Nat.le_of_ble_eq_true rfl) dX5_setLink_57 (fun H locs hP hD hS => ?_)
    refine lv_aload_n hx hb dX5_setLink_60 rfl (lv_at hl 1 rfl) ?_
    refine g_X5_19 B hP 0 rfl rfl dX5_setLink_61 ?_
    refine lv_aload_n hx hb dX5_setLink_64 rfl (lv_at hl 1 rfl) ?_
    refine g_X5_12 B hP 0 rfl rfl dX5_setLink_65 ?_
    refine fV_v (ci := 2) (as := [.ref (ad 1)]) (rest := []) B hl.1 (c_X2_buildAnew l D cI cZ ad (upd (upd rc ((r * 10) + o) (nI co)) ((o * 10) + r) (nI co)) (f_X4_findLeast (upd (upd rc ((r * 10) + o) (nI co)) ((o * 10) + r) (nI co)) rl) (f_X4_findHops (upd (upd rc ((r * 10) + o) (nI co)) ((o * 10) + r) (nI co)) (f_X4_findLeast (upd (upd rc ((r * 10) + o) (nI co)) ((o * 10) + r) (nI co)) rl) rh) fr fw fc fg ps pg pr pd qp qt qf qo ct lE lC cand lim now was sent qfi qsz) rfl (l_RX5_67 hts ⟨rfl, rfl⟩ ⟨Nat.le_of_ble_eq_true rfl, Nat.le_of_ble_eq_true rfl⟩) m_7_11 m_7_12 rfl rfl hP hD hS hA 5 rfl wfC (Nat.le_of_ble_eq_true rfl) dX5_setLink_68 (fun H locs hP hD hS => ?_)
    refine lv_iload hx hb dX5_setLink_71 (lv_at hl 0 rfl) ?_
    exact eI B hP hS (by simp only [hf]) (by simp only [hf]) dX5_setLink_73
def f_X5_setCandidate_L33 (r : Nat) (rh : Nat → Int32) (fw : Nat → Int32) (cand : Int32) : Nat → Nat → (Nat → Int32) → Bool × (Nat → Int32) × (Nat → Int32) × (Nat → Int32) × Int32
  | 0, _, fr_33 => (true, fr_33, (f_X2_buildAnew rh fr_33 fw).1, (f_X2_buildAnew rh fr_33 fw).2, cand ^^^ ((nI 1) <<< ((nI r) &&& 31)))
  | n33 + 1, k33, fr_33 => f_X5_setCandidate_L33 r rh fw cand n33 (k33 + 1) (upd fr_33 k33 (f_X5_bestCandidate k33 (cand ^^^ ((nI 1) <<< ((nI r) &&& 31)))))
def f_X5_setCandidate (r : Nat) (on : Bool) (rh : Nat → Int32) (fr : Nat → Int32) (fw : Nat → Int32) (fc : Nat → Int32) (fg : Nat → Int32) (cand : Int32) : Bool × (Nat → Int32) × (Nat → Int32) × (Nat → Int32) × Int32 :=
  if f_X5_has cand r = on then (false, fr, fc, fg, cand) else f_X5_setCandidate_L33 r rh fw cand 4 0 fr
set_option maxHeartbeats 4000000 in
set_option maxRecDepth 100000 in
theorem c_X5_setCandidate (l : Launch) (D : va_G) (cI cZ : ClassId) (ad : Nat → Nat) (rc rl rh fr fw fc fg ps pg pr pd qp qt qf qo ct lE lC : Nat → Int32) (cand : Int32) (lim : Int32) (now : Int32) (was : Int32) (sent : Nat) (qfi : Nat) (qsz : Nat) (r : Nat) (on : Bool) (hr : r < 10) : MI l yX5_setCandidate cX5_setCandidate 4 .boolean { frames := 4, cells := 0, slots := 0, locals := 93 } D (TY cI cZ) [.ref (ad 0), .int (nI r), .int (bI on)] (wC cI ad rc rl rh fr fw fc fg ps pg pr pd qp qt qf qo ct lE lC cand lim now was (nI sent) (nI qfi) (nI qsz)) (wC cI ad rc rl rh ((f_X5_setCandidate r on rh fr fw fc fg cand).2.1) fw ((f_X5_setCandidate r on rh fr fw fc fg cand).2.2.1) ((f_X5_setCandidate r on rh fr fw fc fg cand).2.2.2.1) ps pg pr pd qp qt qf qo ct lE lC ((f_X5_setCandidate r on rh fr fw fc fg cand).2.2.2.2) lim now was (nI sent) (nI qfi) (nI qsz)) (bI ((f_X5_setCandidate r on rh fr fw fc fg cand).1)) := by
  refine MI.mk ⟨rfl, rfl⟩ (by decide +kernel) (Nat.le_of_ble_eq_true rfl) ?_
  intro p e s m below meth c A ls B hA hP hD hS hl
  have hx := B.1
  have hb := B.2.1
  have hts := B.2.2.2.2.2.1
  have hN := B.2.2.2.2.2.2.2.1
  have hK := B.2.2.2.2.2.2.2.2.1
  have hl : lv_has ls 4 [(0, .ref (ad 0)), (1, .int (nI r)), (2, .int (bI on))] := hl
  have hf := f_X5_setCandidate.eq_1 r on rh fr fw fc fg cand
  refine lv_iload_n hx hb dX5_setCandidate_0 rfl (lv_at hl 1 rfl) ?_
  refine fS_v (as := [.int (nI r)]) (rest := []) B hl.1 (c_X5_checkRouter l D cI cZ (wC cI ad rc rl rh fr fw fc fg ps pg pr pd qp qt qf qo ct lE lC cand lim now was (nI sent) (nI qfi) (nI qsz)) r (by omega)) (l_RX5_48 hts ⟨rfl, rfl⟩ ⟨Nat.le_of_ble_eq_true rfl, Nat.le_of_ble_eq_true rfl⟩) m_7_1 rfl rfl hP hD hS hA rfl (Nat.le_of_ble_eq_true rfl) dX5_setCandidate_1 (fun H locs hP hD hS => ?_)
  refine lv_aload_n hx hb dX5_setCandidate_4 rfl (lv_at hl 0 rfl) ?_
  refine g_X5_71 B hP 0 rfl rfl dX5_setCandidate_5 ?_
  refine lv_iload_n hx hb dX5_setCandidate_8 rfl (lv_at hl 1 rfl) ?_
  refine fS_i (as := [.int cand, .int (nI r)]) (rest := []) B hl.1 (c_X5_has l D cI cZ (wC cI ad rc rl rh fr fw fc fg ps pg pr pd qp qt qf qo ct lE lC cand lim now was (nI sent) (nI qfi) (nI qsz)) cand r (by omega)) (l_RX5_74 hts ⟨rfl, rfl⟩ ⟨Nat.le_of_ble_eq_true rfl, Nat.le_of_ble_eq_true rfl⟩) m_7_14 rfl rfl hP hD hS hA rfl (Nat.le_of_ble_eq_true rfl) dX5_setCandidate_9 (fun H locs hP hD hS => ?_)
  refine lv_iload_n hx hb dX5_setCandidate_12 rfl (lv_at hl 2 rfl) ?_
  refine r_icmp_ne_b (tgt := 18) hx hb dX5_setCandidate_13 (by decide) (fun c1 => ?_) (fun c1 => ?_)
  · have hf := hf.trans (if_neg c1)
    refine lv_aload_n hx hb dX5_setCandidate_18 rfl (lv_at hl 0 rfl) ?_
    refine lv_dup hx hb dX5_setCandidate_19 rfl ?_
    refine g_X5_71 B hP 0 rfl rfl dX5_setCandidate_20 ?_
    refine lv_iload_n hx hb dX5_setCandidate_23 rfl (lv_at hl 1 rfl) ?_
    refine fS_i (as := [.int (nI r)]) (rest := [.int cand, .ref (ad 0)]) B hl.1 (c_X5_bit l D cI cZ (wC cI ad rc rl rh fr fw fc fg ps pg pr pd qp qt qf qo ct lE lC cand lim now was (nI sent) (nI qfi) (nI qsz)) r (by omega)) (l_RX5_78 hts ⟨rfl, rfl⟩ ⟨Nat.le_of_ble_eq_true rfl, Nat.le_of_ble_eq_true rfl⟩) m_7_17 rfl rfl hP hD hS hA rfl (Nat.le_of_ble_eq_true rfl) dX5_setCandidate_24 (fun H locs hP hD hS => ?_)
    refine lv_ixor hx hb dX5_setCandidate_27 ?_
    refine p_X5_71 B hP hD hS 0 rfl (Nat.le_of_ble_eq_true rfl) dX5_setCandidate_28 (fun H locs hP hD hS => ?_)
    have hP : va_P D vwCl (wC cI ad rc rl rh fr fw fc fg ps pg pr pd qp qt qf qo ct lE lC (cand ^^^ ((nI 1) <<< ((nI r) &&& 31))) lim now was (nI sent) (nI qfi) (nI qsz)) H := hP
    have hD : va_D A (wC cI ad rc rl rh fr fw fc fg ps pg pr pd qp qt qf qo ct lE lC (cand ^^^ ((nI 1) <<< ((nI r) &&& 31))) lim now was (nI sent) (nI qfi) (nI qsz)) := hD
    refine lv_iconst (v := nI 0) hx hb dX5_setCandidate_31 (by decide) ?_
    refine lv_istore_n (lv' := [(3, .int (nI 0)), (0, .ref (ad 0)), (1, .int (nI r)), (2, .int (bI on))]) hx hb dX5_setCandidate_32 rfl hl (by decide) rfl (fun ls hl => ?_)
    have L33 : ∀ (n33 : Nat) (k33 : Nat) (fr_33 : Nat → Int32), k33 + n33 = 4 → f_X5_setCandidate r on rh fr fw fc fg cand = (f_X5_setCandidate_L33 r rh fw cand n33 k33 fr_33) → ∀ (H : Heap) (locs : List Loc), va_P D vwCl (wC cI ad rc rl rh fr_33 fw fc fg ps pg pr pd qp qt qf qo ct lE lC (cand ^^^ ((nI 1) <<< ((nI r) &&& 31))) lim now was (nI sent) (nI qfi) (nI qsz)) H → va_D A (wC cI ad rc rl rh fr_33 fw fc fg ps pg pr pd qp qt qf qo ct lE lC (cand ^^^ ((nI 1) <<< ((nI r) &&& 31))) lim now was (nI sent) (nI qfi) (nI qsz)) → va_S A s.heap H locs → ∀ ls : Array Slot, lv_has ls 4 [(0, .ref (ad 0)), (1, .int (nI r)), (2, .int (bI on)), (3, .int (nI k33))] → W p l e { frames := 4, cells := 0, slots := 0, locals := 93 } s m [.ref (ad 0), .int (nI r), .int (bI on)].toArray below meth c H locs 0 0 (QI below s A D [.ref (ad 0), .int (nI r), .int (bI on)] (wC cI ad rc rl rh ((f_X5_setCandidate r on rh fr fw fc fg cand).2.1) fw ((f_X5_setCandidate r on rh fr fw fc fg cand).2.2.1) ((f_X5_setCandidate r on rh fr fw fc fg cand).2.2.2.1) ps pg pr pd qp qt qf qo ct lE lC ((f_X5_setCandidate r on rh fr fw fc fg cand).2.2.2.2) lim now was (nI sent) (nI qfi) (nI qsz)) (bI ((f_X5_setCandidate r on rh fr fw fc fg cand).1))) (F0 m 33 ls []) := by
      intro n33
      induction n33 with
      | zero =>
        intro k33 fr_33 hk33 hf H locs hP hD hS ls hl
        obtain rfl : 4 = k33 := by omega
        rw [f_X5_setCandidate_L33] at hf
        have hl : lv_has ls 4 [(0, .ref (ad 0)), (1, .int (nI r)), (2, .int (bI on)), (3, .int (nI 4))] := hl
        refine lv_iload_n hx hb dX5_setCandidate_33 rfl (lv_at hl 3 rfl) ?_
        refine lv_iconst (v := nI 4) hx hb dX5_setCandidate_34 (by decide) ?_
        refine r_icmp_ge (tgt := 60) hx hb (by omega) (by omega) dX5_setCandidate_35 (by decide) (fun _ => ?_) (fun c => absurd c (by omega))
        refine lv_aload_n hx hb dX5_setCandidate_60 rfl (lv_at hl 0 rfl) ?_
        refine g_X5_19 B hP 0 rfl rfl dX5_setCandidate_61 ?_
        refine lv_aload_n hx hb dX5_setCandidate_64 rfl (lv_at hl 0 rfl) ?_
        refine g_X5_12 B hP 0 rfl rfl dX5_setCandidate_65 ?_
        refine fV_v (ci := 2) (as := [.ref (ad 1)]) (rest := []) B hl.1 (c_X2_buildAnew l D cI cZ ad rc rl rh fr_33 fw fc fg ps pg pr pd qp qt qf qo ct lE lC (cand ^^^ ((nI 1) <<< ((nI r) &&& 31))) lim now was sent qfi qsz) rfl (l_RX5_67 hts ⟨rfl, rfl⟩ ⟨Nat.le_of_ble_eq_true rfl, Nat.le_of_ble_eq_true rfl⟩) m_7_11 m_7_12 rfl rfl hP hD hS hA 5 rfl wfC (Nat.le_of_ble_eq_true rfl) dX5_setCandidate_68 (fun H locs hP hD hS => ?_)
        refine lv_iconst (v := nI 1) hx hb dX5_setCandidate_71 (by decide) ?_
        exact eZ B hP hS (by decide) (by simp only [hf, bI_t, bI_f]) (by simp only [hf]) dX5_setCandidate_72
      | succ n33 ih33 =>
        intro k33 fr_33 hk33 hf H locs hP hD hS ls hl
        rw [f_X5_setCandidate_L33] at hf
        have hl : lv_has ls 4 [(0, .ref (ad 0)), (1, .int (nI r)), (2, .int (bI on)), (3, .int (nI k33))] := hl
        refine lv_iload_n hx hb dX5_setCandidate_33 rfl (lv_at hl 3 rfl) ?_
        refine lv_iconst (v := nI 4) hx hb dX5_setCandidate_34 (by decide) ?_
        refine r_icmp_ge (tgt := 60) hx hb (by omega) (by omega) dX5_setCandidate_35 (by decide) (fun c => absurd c (by omega)) (fun _ => ?_)
        refine lv_aload_n hx hb dX5_setCandidate_38 rfl (lv_at hl 0 rfl) ?_
        refine g_X5_19 B hP 0 rfl rfl dX5_setCandidate_39 ?_
        refine lv_iload_n hx hb dX5_setCandidate_42 rfl (lv_at hl 3 rfl) ?_
        refine fS_i (as := [.int (nI k33)]) (rest := [.ref (ad 5)]) B hl.1 (c_X5_sharedTree l D cI cZ (wC cI ad rc rl rh fr_33 fw fc fg ps pg pr pd qp qt qf qo ct lE lC (cand ^^^ ((nI 1) <<< ((nI r) &&& 31))) lim now was (nI sent) (nI qfi) (nI qsz)) k33 (by omega)) (l_RX5_82 hts ⟨rfl, rfl⟩ ⟨Nat.le_of_ble_eq_true rfl, Nat.le_of_ble_eq_true rfl⟩) m_8_21 rfl rfl hP hD hS hA rfl (Nat.le_of_ble_eq_true rfl) dX5_setCandidate_43 (fun H locs hP hD hS => ?_)
        refine lv_aload_n hx hb dX5_setCandidate_46 rfl (lv_at hl 0 rfl) ?_
        refine lv_iload_n hx hb dX5_setCandidate_47 rfl (lv_at hl 3 rfl) ?_
        refine fV_i (ci := 5) (as := [.int (nI k33)]) (rest := [.int (nI k33), .ref (ad 5)]) B hl.1 (c_X5_bestCandidate l D cI cZ ad rc rl rh fr_33 fw fc fg ps pg pr pd qp qt qf qo ct lE lC (cand ^^^ ((nI 1) <<< ((nI r) &&& 31))) lim now was sent qfi qsz k33 (by omega)) rfl (l_RX5_85 hts ⟨rfl, rfl⟩ ⟨Nat.le_of_ble_eq_true rfl, Nat.le_of_ble_eq_true rfl⟩) m_9_0 m_9_1 rfl rfl hP hD hS hA 0 rfl wfC (Nat.le_of_ble_eq_true rfl) dX5_setCandidate_48 (fun H locs hP hD hS => ?_)
        refine fV_v (ci := 2) (as := [.int (nI k33), .int (f_X5_bestCandidate k33 (cand ^^^ ((nI 1) <<< ((nI r) &&& 31))))]) (rest := []) B hl.1 (c_X2_setRoot l D cI cZ ad rc rl rh fr_33 fw fc fg ps pg pr pd qp qt qf qo ct lE lC (cand ^^^ ((nI 1) <<< ((nI r) &&& 31))) lim now was sent qfi qsz k33 (f_X5_bestCandidate k33 (cand ^^^ ((nI 1) <<< ((nI r) &&& 31)))) (by omega)) rfl (l_RX5_88 hts ⟨rfl, rfl⟩ ⟨Nat.le_of_ble_eq_true rfl, Nat.le_of_ble_eq_true rfl⟩) m_4_20 m_4_21 rfl rfl hP hD hS hA 5 rfl wfC (Nat.le_of_ble_eq_true rfl) dX5_setCandidate_51 (fun H locs hP hD hS => ?_)
        refine lv_iinc (v := nI (k33 + 1)) (lv' := [(3, .int (nI (k33 + 1))), (0, .ref (ad 0)), (1, .int (nI r)), (2, .int (bI on))]) hx hb dX5_setCandidate_54 hl (k := 3) rfl (nI_add _ _) (by decide) rfl (fun ls hl => ?_)
        refine lv_goto (tgt := 33) hx hb dX5_setCandidate_57 (by decide) ?_
        exact ih33 (k33 + 1) (upd fr_33 k33 (f_X5_bestCandidate k33 (cand ^^^ ((nI 1) <<< ((nI r) &&& 31))))) (by omega) hf _ _ hP hD hS _ (lv_sub hl [1, 2, 3, 0] rfl)
    exact L33 4 0 fr (by omega) hf _ _ hP hD hS _ (lv_sub hl [1, 2, 3, 0] rfl)
  · have hf := hf.trans (if_pos c1)
    refine lv_iconst (v := nI 0) hx hb dX5_setCandidate_16 (by decide) ?_
    exact eZ B hP hS (by decide) (by simp only [hf, bI_t, bI_f]) (by simp only [hf]) dX5_setCandidate_17
def f_J6_bitCount_0f7a4 (x : Int32) : Int32 :=
  (((((((x - (((x.toUInt32 >>> ((nI 1).toUInt32 &&& Int32.toUInt32 31)).toInt32) &&& (nI 1431655765))) &&& (nI 858993459)) + ((((x - (((x.toUInt32 >>> ((nI 1).toUInt32 &&& Int32.toUInt32 31)).toInt32) &&& (nI 1431655765))).toUInt32 >>> ((nI 2).toUInt32 &&& Int32.toUInt32 31)).toInt32) &&& (nI 858993459))) + (((((x - (((x.toUInt32 >>> ((nI 1).toUInt32 &&& Int32.toUInt32 31)).toInt32) &&& (nI 1431655765))) &&& (nI 858993459)) + ((((x - (((x.toUInt32 >>> ((nI 1).toUInt32 &&& Int32.toUInt32 31)).toInt32) &&& (nI 1431655765))).toUInt32 >>> ((nI 2).toUInt32 &&& Int32.toUInt32 31)).toInt32) &&& (nI 858993459))).toUInt32 >>> ((nI 4).toUInt32 &&& Int32.toUInt32 31)).toInt32)) &&& (nI 252645135)) + (((((((x - (((x.toUInt32 >>> ((nI 1).toUInt32 &&& Int32.toUInt32 31)).toInt32) &&& (nI 1431655765))) &&& (nI 858993459)) + ((((x - (((x.toUInt32 >>> ((nI 1).toUInt32 &&& Int32.toUInt32 31)).toInt32) &&& (nI 1431655765))).toUInt32 >>> ((nI 2).toUInt32 &&& Int32.toUInt32 31)).toInt32) &&& (nI 858993459))) + (((((x - (((x.toUInt32 >>> ((nI 1).toUInt32 &&& Int32.toUInt32 31)).toInt32) &&& (nI 1431655765))) &&& (nI 858993459)) + ((((x - (((x.toUInt32 >>> ((nI 1).toUInt32 &&& Int32.toUInt32 31)).toInt32) &&& (nI 1431655765))).toUInt32 >>> ((nI 2).toUInt32 &&& Int32.toUInt32 31)).toInt32) &&& (nI 858993459))).toUInt32 >>> ((nI 4).toUInt32 &&& Int32.toUInt32 31)).toInt32)) &&& (nI 252645135)).toUInt32 >>> ((nI 8).toUInt32 &&& Int32.toUInt32 31)).toInt32)) + ((((((((x - (((x.toUInt32 >>> ((nI 1).toUInt32 &&& Int32.toUInt32 31)).toInt32) &&& (nI 1431655765))) &&& (nI 858993459)) + ((((x - (((x.toUInt32 >>> ((nI 1).toUInt32 &&& Int32.toUInt32 31)).toInt32) &&& (nI 1431655765))).toUInt32 >>> ((nI 2).toUInt32 &&& Int32.toUInt32 31)).toInt32) &&& (nI 858993459))) + (((((x - (((x.toUInt32 >>> ((nI 1).toUInt32 &&& Int32.toUInt32 31)).toInt32) &&& (nI 1431655765))) &&& (nI 858993459)) + ((((x - (((x.toUInt32 >>> ((nI 1).toUInt32 &&& Int32.toUInt32 31)).toInt32) &&& (nI 1431655765))).toUInt32 >>> ((nI 2).toUInt32 &&& Int32.toUInt32 31)).toInt32) &&& (nI 858993459))).toUInt32 >>> ((nI 4).toUInt32 &&& Int32.toUInt32 31)).toInt32)) &&& (nI 252645135)) + (((((((x - (((x.toUInt32 >>> ((nI 1).toUInt32 &&& Int32.toUInt32 31)).toInt32) &&& (nI 1431655765))) &&& (nI 858993459)) + ((((x - (((x.toUInt32 >>> ((nI 1).toUInt32 &&& Int32.toUInt32 31)).toInt32) &&& (nI 1431655765))).toUInt32 >>> ((nI 2).toUInt32 &&& Int32.toUInt32 31)).toInt32) &&& (nI 858993459))) + (((((x - (((x.toUInt32 >>> ((nI 1).toUInt32 &&& Int32.toUInt32 31)).toInt32) &&& (nI 1431655765))) &&& (nI 858993459)) + ((((x - (((x.toUInt32 >>> ((nI 1).toUInt32 &&& Int32.toUInt32 31)).toInt32) &&& (nI 1431655765))).toUInt32 >>> ((nI 2).toUInt32 &&& Int32.toUInt32 31)).toInt32) &&& (nI 858993459))).toUInt32 >>> ((nI 4).toUInt32 &&& Int32.toUInt32 31)).toInt32)) &&& (nI 252645135)).toUInt32 >>> ((nI 8).toUInt32 &&& Int32.toUInt32 31)).toInt32)).toUInt32 >>> ((nI 16).toUInt32 &&& Int32.toUInt32 31)).toInt32)) &&& (nI 63)
set_option maxHeartbeats 4000000 in
set_option maxRecDepth 100000 in
theorem c_J6_bitCount_0f7a4 (l : Launch) (D : va_G) (cI cZ : ClassId) (ws : va_W) (x : Int32) : MI l yJ6_bitCount_0f7a4 cJ6_bitCount_0f7a4 1 .int { frames := 0, cells := 0, slots := 0, locals := 0 } D (TY cI cZ) [.int x] (ws) (ws) (f_J6_bitCount_0f7a4 x) := by
  refine MI.mk ⟨rfl, rfl⟩ (by decide +kernel) (Nat.le_of_ble_eq_true rfl) ?_
  intro p e s m below meth c A ls B hA hP hD hS hl
  have hx := B.1
  have hb := B.2.1
  have hts := B.2.2.2.2.2.1
  have hN := B.2.2.2.2.2.2.2.1
  have hK := B.2.2.2.2.2.2.2.2.1
  have hl : lv_has ls 1 [(0, .int x)] := hl
  have hf := f_J6_bitCount_0f7a4.eq_1 x
  refine lv_iload_n hx hb dJ6_bitCount_0f7a4_0 rfl (lv_at hl 0 rfl) ?_
  refine lv_iload_n hx hb dJ6_bitCount_0f7a4_1 rfl (lv_at hl 0 rfl) ?_
  refine lv_iconst (v := nI 1) hx hb dJ6_bitCount_0f7a4_2 (by decide) ?_
  refine lv_iushr (v := (x.toUInt32 >>> ((nI 1).toUInt32 &&& Int32.toUInt32 31)).toInt32) hx hb dJ6_bitCount_0f7a4_3 rfl ?_
  refine lv_ldcw (v := nI 1431655765) hx hb B.2.2.2.2.1 (hts _ m_11_13) dJ6_bitCount_0f7a4_4 ?_
  refine lv_iand hx hb dJ6_bitCount_0f7a4_7 ?_
  refine lv_isub hx hb dJ6_bitCount_0f7a4_8 ?_
  refine lv_istore_n (lv' := [(0, .int (x - (((x.toUInt32 >>> ((nI 1).toUInt32 &&& Int32.toUInt32 31)).toInt32) &&& (nI 1431655765))))]) hx hb dJ6_bitCount_0f7a4_9 rfl hl (by decide) rfl (fun ls hl => ?_)
  refine lv_iload_n hx hb dJ6_bitCount_0f7a4_10 rfl (lv_at hl 0 rfl) ?_
  refine lv_ldcw (v := nI 858993459) hx hb B.2.2.2.2.1 (hts _ m_11_14) dJ6_bitCount_0f7a4_11 ?_
  refine lv_iand hx hb dJ6_bitCount_0f7a4_14 ?_
  refine lv_iload_n hx hb dJ6_bitCount_0f7a4_15 rfl (lv_at hl 0 rfl) ?_
  refine lv_iconst (v := nI 2) hx hb dJ6_bitCount_0f7a4_16 (by decide) ?_
  refine lv_iushr (v := ((x - (((x.toUInt32 >>> ((nI 1).toUInt32 &&& Int32.toUInt32 31)).toInt32) &&& (nI 1431655765))).toUInt32 >>> ((nI 2).toUInt32 &&& Int32.toUInt32 31)).toInt32) hx hb dJ6_bitCount_0f7a4_17 rfl ?_
  refine lv_ldcw (v := nI 858993459) hx hb B.2.2.2.2.1 (hts _ m_11_14) dJ6_bitCount_0f7a4_18 ?_
  refine lv_iand hx hb dJ6_bitCount_0f7a4_21 ?_
  refine lv_iadd hx hb dJ6_bitCount_0f7a4_22 ?_
  refine lv_istore_n (lv' := [(0, .int (((x - (((x.toUInt32 >>> ((nI 1).toUInt32 &&& Int32.toUInt32 31)).toInt32) &&& (nI 1431655765))) &&& (nI 858993459)) + ((((x - (((x.toUInt32 >>> ((nI 1).toUInt32 &&& Int32.toUInt32 31)).toInt32) &&& (nI 1431655765))).toUInt32 >>> ((nI 2).toUInt32 &&& Int32.toUInt32 31)).toInt32) &&& (nI 858993459))))]) hx hb dJ6_bitCount_0f7a4_23 rfl hl (by decide) rfl (fun ls hl => ?_)
  refine lv_iload_n hx hb dJ6_bitCount_0f7a4_24 rfl (lv_at hl 0 rfl) ?_
  refine lv_iload_n hx hb dJ6_bitCount_0f7a4_25 rfl (lv_at hl 0 rfl) ?_
  refine lv_iconst (v := nI 4) hx hb dJ6_bitCount_0f7a4_26 (by decide) ?_
  refine lv_iushr (v := ((((x - (((x.toUInt32 >>> ((nI 1).toUInt32 &&& Int32.toUInt32 31)).toInt32) &&& (nI 1431655765))) &&& (nI 858993459)) + ((((x - (((x.toUInt32 >>> ((nI 1).toUInt32 &&& Int32.toUInt32 31)).toInt32) &&& (nI 1431655765))).toUInt32 >>> ((nI 2).toUInt32 &&& Int32.toUInt32 31)).toInt32) &&& (nI 858993459))).toUInt32 >>> ((nI 4).toUInt32 &&& Int32.toUInt32 31)).toInt32) hx hb dJ6_bitCount_0f7a4_27 rfl ?_
  refine lv_iadd hx hb dJ6_bitCount_0f7a4_28 ?_
  refine lv_ldcw (v := nI 252645135) hx hb B.2.2.2.2.1 (hts _ m_11_15) dJ6_bitCount_0f7a4_29 ?_
  refine lv_iand hx hb dJ6_bitCount_0f7a4_32 ?_
  refine lv_istore_n (lv' := [(0, .int (((((x - (((x.toUInt32 >>> ((nI 1).toUInt32 &&& Int32.toUInt32 31)).toInt32) &&& (nI 1431655765))) &&& (nI 858993459)) + ((((x - (((x.toUInt32 >>> ((nI 1).toUInt32 &&& Int32.toUInt32 31)).toInt32) &&& (nI 1431655765))).toUInt32 >>> ((nI 2).toUInt32 &&& Int32.toUInt32 31)).toInt32) &&& (nI 858993459))) + (((((x - (((x.toUInt32 >>> ((nI 1).toUInt32 &&& Int32.toUInt32 31)).toInt32) &&& (nI 1431655765))) &&& (nI 858993459)) + ((((x - (((x.toUInt32 >>> ((nI 1).toUInt32 &&& Int32.toUInt32 31)).toInt32) &&& (nI 1431655765))).toUInt32 >>> ((nI 2).toUInt32 &&& Int32.toUInt32 31)).toInt32) &&& (nI 858993459))).toUInt32 >>> ((nI 4).toUInt32 &&& Int32.toUInt32 31)).toInt32)) &&& (nI 252645135)))]) hx hb dJ6_bitCount_0f7a4_33 rfl hl (by decide) rfl (fun ls hl => ?_)
  refine lv_iload_n hx hb dJ6_bitCount_0f7a4_34 rfl (lv_at hl 0 rfl) ?_
  refine lv_iload_n hx hb dJ6_bitCount_0f7a4_35 rfl (lv_at hl 0 rfl) ?_
  refine lv_bipush (v := nI 8) hx hb dJ6_bitCount_0f7a4_36 (by decide) ?_
  refine lv_iushr (v := ((((((x - (((x.toUInt32 >>> ((nI 1).toUInt32 &&& Int32.toUInt32 31)).toInt32) &&& (nI 1431655765))) &&& (nI 858993459)) + ((((x - (((x.toUInt32 >>> ((nI 1).toUInt32 &&& Int32.toUInt32 31)).toInt32) &&& (nI 1431655765))).toUInt32 >>> ((nI 2).toUInt32 &&& Int32.toUInt32 31)).toInt32) &&& (nI 858993459))) + (((((x - (((x.toUInt32 >>> ((nI 1).toUInt32 &&& Int32.toUInt32 31)).toInt32) &&& (nI 1431655765))) &&& (nI 858993459)) + ((((x - (((x.toUInt32 >>> ((nI 1).toUInt32 &&& Int32.toUInt32 31)).toInt32) &&& (nI 1431655765))).toUInt32 >>> ((nI 2).toUInt32 &&& Int32.toUInt32 31)).toInt32) &&& (nI 858993459))).toUInt32 >>> ((nI 4).toUInt32 &&& Int32.toUInt32 31)).toInt32)) &&& (nI 252645135)).toUInt32 >>> ((nI 8).toUInt32 &&& Int32.toUInt32 31)).toInt32) hx hb dJ6_bitCount_0f7a4_38 rfl ?_
  refine lv_iadd hx hb dJ6_bitCount_0f7a4_39 ?_
  refine lv_istore_n (lv' := [(0, .int ((((((x - (((x.toUInt32 >>> ((nI 1).toUInt32 &&& Int32.toUInt32 31)).toInt32) &&& (nI 1431655765))) &&& (nI 858993459)) + ((((x - (((x.toUInt32 >>> ((nI 1).toUInt32 &&& Int32.toUInt32 31)).toInt32) &&& (nI 1431655765))).toUInt32 >>> ((nI 2).toUInt32 &&& Int32.toUInt32 31)).toInt32) &&& (nI 858993459))) + (((((x - (((x.toUInt32 >>> ((nI 1).toUInt32 &&& Int32.toUInt32 31)).toInt32) &&& (nI 1431655765))) &&& (nI 858993459)) + ((((x - (((x.toUInt32 >>> ((nI 1).toUInt32 &&& Int32.toUInt32 31)).toInt32) &&& (nI 1431655765))).toUInt32 >>> ((nI 2).toUInt32 &&& Int32.toUInt32 31)).toInt32) &&& (nI 858993459))).toUInt32 >>> ((nI 4).toUInt32 &&& Int32.toUInt32 31)).toInt32)) &&& (nI 252645135)) + (((((((x - (((x.toUInt32 >>> ((nI 1).toUInt32 &&& Int32.toUInt32 31)).toInt32) &&& (nI 1431655765))) &&& (nI 858993459)) + ((((x - (((x.toUInt32 >>> ((nI 1).toUInt32 &&& Int32.toUInt32 31)).toInt32) &&& (nI 1431655765))).toUInt32 >>> ((nI 2).toUInt32 &&& Int32.toUInt32 31)).toInt32) &&& (nI 858993459))) + (((((x - (((x.toUInt32 >>> ((nI 1).toUInt32 &&& Int32.toUInt32 31)).toInt32) &&& (nI 1431655765))) &&& (nI 858993459)) + ((((x - (((x.toUInt32 >>> ((nI 1).toUInt32 &&& Int32.toUInt32 31)).toInt32) &&& (nI 1431655765))).toUInt32 >>> ((nI 2).toUInt32 &&& Int32.toUInt32 31)).toInt32) &&& (nI 858993459))).toUInt32 >>> ((nI 4).toUInt32 &&& Int32.toUInt32 31)).toInt32)) &&& (nI 252645135)).toUInt32 >>> ((nI 8).toUInt32 &&& Int32.toUInt32 31)).toInt32)))]) hx hb dJ6_bitCount_0f7a4_40 rfl hl (by decide) rfl (fun ls hl => ?_)
  refine lv_iload_n hx hb dJ6_bitCount_0f7a4_41 rfl (lv_at hl 0 rfl) ?_
  refine lv_iload_n hx hb dJ6_bitCount_0f7a4_42 rfl (lv_at hl 0 rfl) ?_
  refine lv_bipush (v := nI 16) hx hb dJ6_bitCount_0f7a4_43 (by decide) ?_
  refine lv_iushr (v := (((((((x - (((x.toUInt32 >>> ((nI 1).toUInt32 &&& Int32.toUInt32 31)).toInt32) &&& (nI 1431655765))) &&& (nI 858993459)) + ((((x - (((x.toUInt32 >>> ((nI 1).toUInt32 &&& Int32.toUInt32 31)).toInt32) &&& (nI 1431655765))).toUInt32 >>> ((nI 2).toUInt32 &&& Int32.toUInt32 31)).toInt32) &&& (nI 858993459))) + (((((x - (((x.toUInt32 >>> ((nI 1).toUInt32 &&& Int32.toUInt32 31)).toInt32) &&& (nI 1431655765))) &&& (nI 858993459)) + ((((x - (((x.toUInt32 >>> ((nI 1).toUInt32 &&& Int32.toUInt32 31)).toInt32) &&& (nI 1431655765))).toUInt32 >>> ((nI 2).toUInt32 &&& Int32.toUInt32 31)).toInt32) &&& (nI 858993459))).toUInt32 >>> ((nI 4).toUInt32 &&& Int32.toUInt32 31)).toInt32)) &&& (nI 252645135)) + (((((((x - (((x.toUInt32 >>> ((nI 1).toUInt32 &&& Int32.toUInt32 31)).toInt32) &&& (nI 1431655765))) &&& (nI 858993459)) + ((((x - (((x.toUInt32 >>> ((nI 1).toUInt32 &&& Int32.toUInt32 31)).toInt32) &&& (nI 1431655765))).toUInt32 >>> ((nI 2).toUInt32 &&& Int32.toUInt32 31)).toInt32) &&& (nI 858993459))) + (((((x - (((x.toUInt32 >>> ((nI 1).toUInt32 &&& Int32.toUInt32 31)).toInt32) &&& (nI 1431655765))) &&& (nI 858993459)) + ((((x - (((x.toUInt32 >>> ((nI 1).toUInt32 &&& Int32.toUInt32 31)).toInt32) &&& (nI 1431655765))).toUInt32 >>> ((nI 2).toUInt32 &&& Int32.toUInt32 31)).toInt32) &&& (nI 858993459))).toUInt32 >>> ((nI 4).toUInt32 &&& Int32.toUInt32 31)).toInt32)) &&& (nI 252645135)).toUInt32 >>> ((nI 8).toUInt32 &&& Int32.toUInt32 31)).toInt32)).toUInt32 >>> ((nI 16).toUInt32 &&& Int32.toUInt32 31)).toInt32) hx hb dJ6_bitCount_0f7a4_45 rfl ?_
  refine lv_iadd hx hb dJ6_bitCount_0f7a4_46 ?_
  refine lv_istore_n (lv' := [(0, .int (((((((x - (((x.toUInt32 >>> ((nI 1).toUInt32 &&& Int32.toUInt32 31)).toInt32) &&& (nI 1431655765))) &&& (nI 858993459)) + ((((x - (((x.toUInt32 >>> ((nI 1).toUInt32 &&& Int32.toUInt32 31)).toInt32) &&& (nI 1431655765))).toUInt32 >>> ((nI 2).toUInt32 &&& Int32.toUInt32 31)).toInt32) &&& (nI 858993459))) + (((((x - (((x.toUInt32 >>> ((nI 1).toUInt32 &&& Int32.toUInt32 31)).toInt32) &&& (nI 1431655765))) &&& (nI 858993459)) + ((((x - (((x.toUInt32 >>> ((nI 1).toUInt32 &&& Int32.toUInt32 31)).toInt32) &&& (nI 1431655765))).toUInt32 >>> ((nI 2).toUInt32 &&& Int32.toUInt32 31)).toInt32) &&& (nI 858993459))).toUInt32 >>> ((nI 4).toUInt32 &&& Int32.toUInt32 31)).toInt32)) &&& (nI 252645135)) + (((((((x - (((x.toUInt32 >>> ((nI 1).toUInt32 &&& Int32.toUInt32 31)).toInt32) &&& (nI 1431655765))) &&& (nI 858993459)) + ((((x - (((x.toUInt32 >>> ((nI 1).toUInt32 &&& Int32.toUInt32 31)).toInt32) &&& (nI 1431655765))).toUInt32 >>> ((nI 2).toUInt32 &&& Int32.toUInt32 31)).toInt32) &&& (nI 858993459))) + (((((x - (((x.toUInt32 >>> ((nI 1).toUInt32 &&& Int32.toUInt32 31)).toInt32) &&& (nI 1431655765))) &&& (nI 858993459)) + ((((x - (((x.toUInt32 >>> ((nI 1).toUInt32 &&& Int32.toUInt32 31)).toInt32) &&& (nI 1431655765))).toUInt32 >>> ((nI 2).toUInt32 &&& Int32.toUInt32 31)).toInt32) &&& (nI 858993459))).toUInt32 >>> ((nI 4).toUInt32 &&& Int32.toUInt32 31)).toInt32)) &&& (nI 252645135)).toUInt32 >>> ((nI 8).toUInt32 &&& Int32.toUInt32 31)).toInt32)) + ((((((((x - (((x.toUInt32 >>> ((nI 1).toUInt32 &&& Int32.toUInt32 31)).toInt32) &&& (nI 1431655765))) &&& (nI 858993459)) + ((((x - (((x.toUInt32 >>> ((nI 1).toUInt32 &&& Int32.toUInt32 31)).toInt32) &&& (nI 1431655765))).toUInt32 >>> ((nI 2).toUInt32 &&& Int32.toUInt32 31)).toInt32) &&& (nI 858993459))) + (((((x - (((x.toUInt32 >>> ((nI 1).toUInt32 &&& Int32.toUInt32 31)).toInt32) &&& (nI 1431655765))) &&& (nI 858993459)) + ((((x - (((x.toUInt32 >>> ((nI 1).toUInt32 &&& Int32.toUInt32 31)).toInt32) &&& (nI 1431655765))).toUInt32 >>> ((nI 2).toUInt32 &&& Int32.toUInt32 31)).toInt32) &&& (nI 858993459))).toUInt32 >>> ((nI 4).toUInt32 &&& Int32.toUInt32 31)).toInt32)) &&& (nI 252645135)) + (((((((x - (((x.toUInt32 >>> ((nI 1).toUInt32 &&& Int32.toUInt32 31)).toInt32) &&& (nI 1431655765))) &&& (nI 858993459)) + ((((x - (((x.toUInt32 >>> ((nI 1).toUInt32 &&& Int32.toUInt32 31)).toInt32) &&& (nI 1431655765))).toUInt32 >>> ((nI 2).toUInt32 &&& Int32.toUInt32 31)).toInt32) &&& (nI 858993459))) + (((((x - (((x.toUInt32 >>> ((nI 1).toUInt32 &&& Int32.toUInt32 31)).toInt32) &&& (nI 1431655765))) &&& (nI 858993459)) + ((((x - (((x.toUInt32 >>> ((nI 1).toUInt32 &&& Int32.toUInt32 31)).toInt32) &&& (nI 1431655765))).toUInt32 >>> ((nI 2).toUInt32 &&& Int32.toUInt32 31)).toInt32) &&& (nI 858993459))).toUInt32 >>> ((nI 4).toUInt32 &&& Int32.toUInt32 31)).toInt32)) &&& (nI 252645135)).toUInt32 >>> ((nI 8).toUInt32 &&& Int32.toUInt32 31)).toInt32)).toUInt32 >>> ((nI 16).toUInt32 &&& Int32.toUInt32 31)).toInt32)))]) hx hb dJ6_bitCount_0f7a4_47 rfl hl (by decide) rfl (fun ls hl => ?_)
  refine lv_iload_n hx hb dJ6_bitCount_0f7a4_48 rfl (lv_at hl 0 rfl) ?_
  refine lv_bipush (v := nI 63) hx hb dJ6_bitCount_0f7a4_49 (by decide) ?_
  refine lv_iand hx hb dJ6_bitCount_0f7a4_51 ?_
  exact eI B hP hS ((congrArg (fun (u : Int32) => u) hf).symm) rfl dJ6_bitCount_0f7a4_52
set_option maxHeartbeats 4000000 in
set_option maxRecDepth 100000 in
theorem c_X5_join (l : Launch) (D : va_G) (cI cZ : ClassId) (ad : Nat → Nat) (rc rl rh fr fw fc fg ps pg pr pd qp qt qf qo ct lE lC : Nat → Int32) (cand : Int32) (lim : Int32) (now : Int32) (was : Int32) (sent : Nat) (qfi : Nat) (qsz : Nat) (r : Nat) (g : Nat) (hr : r < 10) (hg : g < 4) (hm : ¬ (f_X5_has (fw g) r) = true) : MI l yX5_join cX5_join 3 .int { frames := 4, cells := 0, slots := 0, locals := 93 } D (TY cI cZ) [.ref (ad 0), .int (nI r), .int (nI g)] (wC cI ad rc rl rh fr fw fc fg ps pg pr pd qp qt qf qo ct lE lC cand lim now was (nI sent) (nI qfi) (nI qsz)) (wC cI ad rc rl rh fr (upd fw g ((fw g) ||| ((nI 1) <<< ((nI r) &&& 31)))) ((f_X2_graft g r rh fr fc fg).1) ((f_X2_graft g r rh fr fc fg).2) ps pg pr pd qp qt qf qo ct lE lC cand lim now was (nI sent) (nI qfi) (nI qsz)) (f_J6_bitCount_0f7a4 ((upd fw g ((fw g) ||| ((nI 1) <<< ((nI r) &&& 31)))) g)) := by
  refine MI.mk ⟨rfl, rfl⟩ (by decide +kernel) (Nat.le_of_ble_eq_true rfl) ?_
  intro p e s m below meth c A ls B hA hP hD hS hl
  have hx := B.1
  have hb := B.2.1
  have hts := B.2.2.2.2.2.1
  have hN := B.2.2.2.2.2.2.2.1
  have hK := B.2.2.2.2.2.2.2.2.1
  have hl : lv_has ls 3 [(0, .ref (ad 0)), (1, .int (nI r)), (2, .int (nI g))] := hl
  refine lv_iload_n hx hb dX5_join_0 rfl (lv_at hl 1 rfl) ?_
  refine fS_v (as := [.int (nI r)]) (rest := []) B hl.1 (c_X5_checkRouter l D cI cZ (wC cI ad rc rl rh fr fw fc fg ps pg pr pd qp qt qf qo ct lE lC cand lim now was (nI sent) (nI qfi) (nI qsz)) r (by omega)) (l_RX5_48 hts ⟨rfl, rfl⟩ ⟨Nat.le_of_ble_eq_true rfl, Nat.le_of_ble_eq_true rfl⟩) m_7_1 rfl rfl hP hD hS hA rfl (Nat.le_of_ble_eq_true rfl) dX5_join_1 (fun H locs hP hD hS => ?_)
  refine lv_iload_n hx hb dX5_join_4 rfl (lv_at hl 2 rfl) ?_
  refine fS_v (as := [.int (nI g)]) (rest := []) B hl.1 (c_X5_checkGroup l D cI cZ (wC cI ad rc rl rh fr fw fc fg ps pg pr pd qp qt qf qo ct lE lC cand lim now was (nI sent) (nI qfi) (nI qsz)) g (by omega)) (l_RX5_100 hts ⟨rfl, rfl⟩ ⟨Nat.le_of_ble_eq_true rfl, Nat.le_of_ble_eq_true rfl⟩) m_9_15 rfl rfl hP hD hS hA rfl (Nat.le_of_ble_eq_true rfl) dX5_join_5 (fun H locs hP hD hS => ?_)
  refine lv_aload_n hx hb dX5_join_8 rfl (lv_at hl 0 rfl) ?_
  refine lv_iload_n hx hb dX5_join_9 rfl (lv_at hl 1 rfl) ?_
  refine lv_iload_n hx hb dX5_join_10 rfl (lv_at hl 2 rfl) ?_
  refine fV_i (ci := 5) (as := [.int (nI r), .int (nI g)]) (rest := []) B hl.1 (c_X5_isMember l D cI cZ ad rc rl rh fr fw fc fg ps pg pr pd qp qt qf qo ct lE lC cand lim now was sent qfi qsz r g (by omega) (by omega)) rfl (l_RX5_106 hts ⟨rfl, rfl⟩ ⟨Nat.le_of_ble_eq_true rfl, Nat.le_of_ble_eq_true rfl⟩) m_9_18 m_9_19 rfl rfl hP hD hS hA 0 rfl wfC (Nat.le_of_ble_eq_true rfl) dX5_join_11 (fun H locs hP hD hS => ?_)
  refine r_if_eq_b (tgt := 27) hx hb dX5_join_14 (by decide) (fun _ => ?_) (fun c => absurd c hm)
  refine lv_aload_n hx hb dX5_join_27 rfl (lv_at hl 0 rfl) ?_
  refine g_X5_19 B hP 0 rfl rfl dX5_join_28 ?_
  refine lv_iload_n hx hb dX5_join_31 rfl (lv_at hl 2 rfl) ?_
  refine fS_i (as := [.int (nI g)]) (rest := [.ref (ad 5)]) B hl.1 (c_X5_sharedTree l D cI cZ (wC cI ad rc rl rh fr fw fc fg ps pg pr pd qp qt qf qo ct lE lC cand lim now was (nI sent) (nI qfi) (nI qsz)) g (by omega)) (l_RX5_82 hts ⟨rfl, rfl⟩ ⟨Nat.le_of_ble_eq_true rfl, Nat.le_of_ble_eq_true rfl⟩) m_8_21 rfl rfl hP hD hS hA rfl (Nat.le_of_ble_eq_true rfl) dX5_join_32 (fun H locs hP hD hS => ?_)
  refine lv_iload_n hx hb dX5_join_35 rfl (lv_at hl 1 rfl) ?_
  refine lv_aload_n hx hb dX5_join_36 rfl (lv_at hl 0 rfl) ?_
  refine g_X5_12 B hP 0 rfl rfl dX5_join_37 ?_
  refine fV_v (ci := 2) (as := [.int (nI g), .int (nI r), .ref (ad 1)]) (rest := []) B hl.1 (c_X2_want l D cI cZ ad rc rl rh fr fw fc fg ps pg pr pd qp qt qf qo ct lE lC cand lim now was sent qfi qsz g r (by omega) (by omega)) rfl (l_RX5_114 hts ⟨rfl, rfl⟩ ⟨Nat.le_of_ble_eq_true rfl, Nat.le_of_ble_eq_true rfl⟩) m_12_4 m_12_5 rfl rfl hP hD hS hA 5 rfl wfC (Nat.le_of_ble_eq_true rfl) dX5_join_40 (fun H locs hP hD hS => ?_)
  refine lv_aload_n hx hb dX5_join_43 rfl (lv_at hl 0 rfl) ?_
  refine lv_iload_n hx hb dX5_join_44 rfl (lv_at hl 2 rfl) ?_
  refine fV_i (ci := 5) (as := [.int (nI g)]) (rest := []) B hl.1 (c_X5_membersOf l D cI cZ ad rc rl rh fr (upd fw g ((fw g) ||| ((nI 1) <<< ((nI r) &&& 31)))) ((f_X2_graft g r rh fr fc fg).1) ((f_X2_graft g r rh fr fc fg).2) ps pg pr pd qp qt qf qo ct lE lC cand lim now was sent qfi qsz g (by omega)) rfl (l_RX5_118 hts ⟨rfl, rfl⟩ ⟨Nat.le_of_ble_eq_true rfl, Nat.le_of_ble_eq_true rfl⟩) m_9_22 m_9_23 rfl rfl hP hD hS hA 0 rfl wfC (Nat.le_of_ble_eq_true rfl) dX5_join_45 (fun H locs hP hD hS => ?_)
  refine fS_i (as := [.int ((upd fw g ((fw g) ||| ((nI 1) <<< ((nI r) &&& 31)))) g)]) (rest := []) B hl.1 (c_J6_bitCount_0f7a4 l D cI cZ (wC cI ad rc rl rh fr (upd fw g ((fw g) ||| ((nI 1) <<< ((nI r) &&& 31)))) ((f_X2_graft g r rh fr fc fg).1) ((f_X2_graft g r rh fr fc fg).2) ps pg pr pd qp qt qf qo ct lE lC cand lim now was (nI sent) (nI qfi) (nI qsz)) ((upd fw g ((fw g) ||| ((nI 1) <<< ((nI r) &&& 31)))) g)) (l_RX5_121 hts ⟨rfl, rfl⟩ ⟨Nat.le_of_ble_eq_true rfl, Nat.le_of_ble_eq_true rfl⟩) m_11_10 rfl rfl hP hD hS hA rfl (Nat.le_of_ble_eq_true rfl) dX5_join_48 (fun H locs hP hD hS => ?_)
  exact eI B hP hS rfl rfl dX5_join_51
def f_X5_leave_L45 (r : Nat) (g : Nat) (fc : Nat → Int32) (now : Int32) : Nat → Nat → (Nat → Int32) → (Nat → Int32) → (Nat → Int32) → Int32 × (Nat → Int32) × (Nat → Int32) × (Nat → Int32)
  | 0, _, fw_45, fg_45, ct_45 => (f_J6_bitCount_0f7a4 (fw_45 g), fw_45, fg_45, ct_45)
  | n45 + 1, k45, fw_45, fg_45, ct_45 => f_X5_leave_L45 r g fc now n45 (k45 + 1) (upd fw_45 ((4 + (g * 10)) + k45) ((fw_45 ((4 + (g * 10)) + k45)) &&& (((nI 1) <<< ((nI r) &&& 31)) ^^^ (-1)))) (f_X2_letLeave ((4 + (g * 10)) + k45) r now (upd fw_45 ((4 + (g * 10)) + k45) ((fw_45 ((4 + (g * 10)) + k45)) &&& (((nI 1) <<< ((nI r) &&& 31)) ^^^ (-1)))) fc fg_45) (upd ct_45 ((((g * 10) + k45) * 10) + r) (nI 0))
def f_X5_leave (r : Nat) (g : Nat) (fw : Nat → Int32) (fc : Nat → Int32) (fg : Nat → Int32) (ct : Nat → Int32) (now : Int32) : Int32 × (Nat → Int32) × (Nat → Int32) × (Nat → Int32) :=
  f_X5_leave_L45 r g fc now 10 0 (upd fw g ((fw g) &&& (((nI 1) <<< ((nI r) &&& 31)) ^^^ (-1)))) (f_X2_letLeave g r now (upd fw g ((fw g) &&& (((nI 1) <<< ((nI r) &&& 31)) ^^^ (-1)))) fc fg) ct
set_option maxHeartbeats 4000000 in
set_option maxRecDepth 100000 in
theorem c_X5_leave (l : Launch) (D : va_G) (cI cZ : ClassId) (ad : Nat → Nat) (rc rl rh fr fw fc fg ps pg pr pd qp qt qf qo ct lE lC : Nat → Int32) (cand : Int32) (lim : Int32) (now : Int32) (was : Int32) (sent : Nat) (qfi : Nat) (qsz : Nat) (r : Nat) (g : Nat) (hr : r < 10) (hg : g < 4) (hm : (f_X5_has (fw g) r) = true) : MI l yX5_leave cX5_leave 4 .int { frames := 5, cells := 0, slots := 0, locals := 113 } D (TY cI cZ) [.ref (ad 0), .int (nI r), .int (nI g)] (wC cI ad rc rl rh fr fw fc fg ps pg pr pd qp qt qf qo ct lE lC cand lim now was (nI sent) (nI qfi) (nI qsz)) (wC cI ad rc rl rh fr ((f_X5_leave r g fw fc fg ct now).2.1) fc ((f_X5_leave r g fw fc fg ct now).2.2.1) ps pg pr pd qp qt qf qo ((f_X5_leave r g fw fc fg ct now).2.2.2) lE lC cand lim now was (nI sent) (nI qfi) (nI qsz)) ((f_X5_leave r g fw fc fg ct now).1) := by
  refine MI.mk ⟨rfl, rfl⟩ (by decide +kernel) (Nat.le_of_ble_eq_true rfl) ?_
  intro p e s m below meth c A ls B hA hP hD hS hl
  have hx := B.1
  have hb := B.2.1
  have hts := B.2.2.2.2.2.1
  have hN := B.2.2.2.2.2.2.2.1
  have hK := B.2.2.2.2.2.2.2.2.1
  have hl : lv_has ls 4 [(0, .ref (ad 0)), (1, .int (nI r)), (2, .int (nI g))] := hl
  have hf := f_X5_leave.eq_1 r g fw fc fg ct now
  refine lv_iload_n hx hb dX5_leave_0 rfl (lv_at hl 1 rfl) ?_
  refine fS_v (as := [.int (nI r)]) (rest := []) B hl.1 (c_X5_checkRouter l D cI cZ (wC cI ad rc rl rh fr fw fc fg ps pg pr pd qp qt qf qo ct lE lC cand lim now was (nI sent) (nI qfi) (nI qsz)) r (by omega)) (l_RX5_48 hts ⟨rfl, rfl⟩ ⟨Nat.le_of_ble_eq_true rfl, Nat.le_of_ble_eq_true rfl⟩) m_7_1 rfl rfl hP hD hS hA rfl (Nat.le_of_ble_eq_true rfl) dX5_leave_1 (fun H locs hP hD hS => ?_)
  refine lv_iload_n hx hb dX5_leave_4 rfl (lv_at hl 2 rfl) ?_
  refine fS_v (as := [.int (nI g)]) (rest := []) B hl.1 (c_X5_checkGroup l D cI cZ (wC cI ad rc rl rh fr fw fc fg ps pg pr pd qp qt qf qo ct lE lC cand lim now was (nI sent) (nI qfi) (nI qsz)) g (by omega)) (l_RX5_100 hts ⟨rfl, rfl⟩ ⟨Nat.le_of_ble_eq_true rfl, Nat.le_of_ble_eq_true rfl⟩) m_9_15 rfl rfl hP hD hS hA rfl (Nat.le_of_ble_eq_true rfl) dX5_leave_5 (fun H locs hP hD hS => ?_)
  refine lv_aload_n hx hb dX5_leave_8 rfl (lv_at hl 0 rfl) ?_
  refine lv_iload_n hx hb dX5_leave_9 rfl (lv_at hl 1 rfl) ?_
  refine lv_iload_n hx hb dX5_leave_10 rfl (lv_at hl 2 rfl) ?_
  refine fV_i (ci := 5) (as := [.int (nI r), .int (nI g)]) (rest := []) B hl.1 (c_X5_isMember l D cI cZ ad rc rl rh fr fw fc fg ps pg pr pd qp qt qf qo ct lE lC cand lim now was sent qfi qsz r g (by omega) (by omega)) rfl (l_RX5_106 hts ⟨rfl, rfl⟩ ⟨Nat.le_of_ble_eq_true rfl, Nat.le_of_ble_eq_true rfl⟩) m_9_18 m_9_19 rfl rfl hP hD hS hA 0 rfl wfC (Nat.le_of_ble_eq_true rfl) dX5_leave_11 (fun H locs hP hD hS => ?_)
  refine r_if_ne_b (tgt := 27) hx hb dX5_leave_14 (by decide) (fun _ => ?_) (fun c => absurd hm c)
  refine lv_aload_n hx hb dX5_leave_27 rfl (lv_at hl 0 rfl) ?_
  refine g_X5_19 B hP 0 rfl rfl dX5_leave_28 ?_
  refine lv_iload_n hx hb dX5_leave_31 rfl (lv_at hl 2 rfl) ?_
  refine fS_i (as := [.int (nI g)]) (rest := [.ref (ad 5)]) B hl.1 (c_X5_sharedTree l D cI cZ (wC cI ad rc rl rh fr fw fc fg ps pg pr pd qp qt qf qo ct lE lC cand lim now was (nI sent) (nI qfi) (nI qsz)) g (by omega)) (l_RX5_82 hts ⟨rfl, rfl⟩ ⟨Nat.le_of_ble_eq_true rfl, Nat.le_of_ble_eq_true rfl⟩) m_8_21 rfl rfl hP hD hS hA rfl (Nat.le_of_ble_eq_true rfl) dX5_leave_32 (fun H locs hP hD hS => ?_)
  refine lv_iload_n hx hb dX5_leave_35 rfl (lv_at hl 1 rfl) ?_
  refine lv_aload_n hx hb dX5_leave_36 rfl (lv_at hl 0 rfl) ?_
  refine g_X5_128 B hP 0 rfl rfl dX5_leave_37 ?_
  refine fV_v (ci := 2) (as := [.int (nI g), .int (nI r), .int now]) (rest := []) B hl.1 (c_X2_unwant l D cI cZ ad rc rl rh fr fw fc fg ps pg pr pd qp qt qf qo ct lE lC cand lim now was sent qfi qsz g r now (by omega) (by omega)) rfl (l_RX5_131 hts ⟨rfl, rfl⟩ ⟨Nat.le_of_ble_eq_true rfl, Nat.le_of_ble_eq_true rfl⟩) m_10_6 m_10_7 rfl rfl hP hD hS hA 5 rfl wfC (Nat.le_of_ble_eq_true rfl) dX5_leave_40 (fun H locs hP hD hS => ?_)
  refine lv_iconst (v := nI 0) hx hb dX5_leave_43 (by decide) ?_
  refine lv_istore_n (lv' := [(3, .int (nI 0)), (0, .ref (ad 0)), (1, .int (nI r)), (2, .int (nI g))]) hx hb dX5_leave_44 rfl hl (by decide) rfl (fun ls hl => ?_)
  have L45 : ∀ (n45 : Nat) (k45 : Nat) (fw_45 : Nat → Int32) (fg_45 : Nat → Int32) (ct_45 : Nat → Int32), k45 + n45 = 10 → f_X5_leave r g fw fc fg ct now = (f_X5_leave_L45 r g fc now n45 k45 fw_45 fg_45 ct_45) → ∀ (H : Heap) (locs : List Loc), va_P D vwCl (wC cI ad rc rl rh fr fw_45 fc fg_45 ps pg pr pd qp qt qf qo ct_45 lE lC cand lim now was (nI sent) (nI qfi) (nI qsz)) H → va_D A (wC cI ad rc rl rh fr fw_45 fc fg_45 ps pg pr pd qp qt qf qo ct_45 lE lC cand lim now was (nI sent) (nI qfi) (nI qsz)) → va_S A s.heap H locs → ∀ ls : Array Slot, lv_has ls 4 [(0, .ref (ad 0)), (1, .int (nI r)), (2, .int (nI g)), (3, .int (nI k45))] → W p l e { frames := 5, cells := 0, slots := 0, locals := 113 } s m [.ref (ad 0), .int (nI r), .int (nI g)].toArray below meth c H locs 0 0 (QI below s A D [.ref (ad 0), .int (nI r), .int (nI g)] (wC cI ad rc rl rh fr ((f_X5_leave r g fw fc fg ct now).2.1) fc ((f_X5_leave r g fw fc fg ct now).2.2.1) ps pg pr pd qp qt qf qo ((f_X5_leave r g fw fc fg ct now).2.2.2) lE lC cand lim now was (nI sent) (nI qfi) (nI qsz)) ((f_X5_leave r g fw fc fg ct now).1)) (F0 m 45 ls []) := by
    intro n45
    induction n45 with
    | zero =>
      intro k45 fw_45 fg_45 ct_45 hk45 hf H locs hP hD hS ls hl
      obtain rfl : 10 = k45 := by omega
      rw [f_X5_leave_L45] at hf
      have hl : lv_has ls 4 [(0, .ref (ad 0)), (1, .int (nI r)), (2, .int (nI g)), (3, .int (nI 10))] := hl
      refine lv_iload_n hx hb dX5_leave_45 rfl (lv_at hl 3 rfl) ?_
      refine lv_bipush (v := nI 10) hx hb dX5_leave_46 (by decide) ?_
      refine r_icmp_ge (tgt := 84) hx hb (by omega) (by omega) dX5_leave_48 (by decide) (fun _ => ?_) (fun c => absurd c (by omega))
      refine lv_aload_n hx hb dX5_leave_84 rfl (lv_at hl 0 rfl) ?_
      refine lv_iload_n hx hb dX5_leave_85 rfl (lv_at hl 2 rfl) ?_
      refine fV_i (ci := 5) (as := [.int (nI g)]) (rest := []) B hl.1 (c_X5_membersOf l D cI cZ ad rc rl rh fr fw_45 fc fg_45 ps pg pr pd qp qt qf qo ct_45 lE lC cand lim now was sent qfi qsz g (by omega)) rfl (l_RX5_118 hts ⟨rfl, rfl⟩ ⟨Nat.le_of_ble_eq_true rfl, Nat.le_of_ble_eq_true rfl⟩) m_9_22 m_9_23 rfl rfl hP hD hS hA 0 rfl wfC (Nat.le_of_ble_eq_true rfl) dX5_leave_86 (fun H locs hP hD hS => ?_)
      refine fS_i (as := [.int (fw_45 g)]) (rest := []) B hl.1 (c_J6_bitCount_0f7a4 l D cI cZ (wC cI ad rc rl rh fr fw_45 fc fg_45 ps pg pr pd qp qt qf qo ct_45 lE lC cand lim now was (nI sent) (nI qfi) (nI qsz)) (fw_45 g)) (l_RX5_121 hts ⟨rfl, rfl⟩ ⟨Nat.le_of_ble_eq_true rfl, Nat.le_of_ble_eq_true rfl⟩) m_11_10 rfl rfl hP hD hS hA rfl (Nat.le_of_ble_eq_true rfl) dX5_leave_89 (fun H locs hP hD hS => ?_)
      exact eI B hP hS (by simp only [hf]) (by simp only [hf]) dX5_leave_92
    | succ n45 ih45 =>
      intro k45 fw_45 fg_45 ct_45 hk45 hf H locs hP hD hS ls hl
      rw [f_X5_leave_L45] at hf
      have hl : lv_has ls 4 [(0, .ref (ad 0)), (1, .int (nI r)), (2, .int (nI g)), (3, .int (nI k45))] := hl
      refine lv_iload_n hx hb dX5_leave_45 rfl (lv_at hl 3 rfl) ?_
      refine lv_bipush (v := nI 10) hx hb dX5_leave_46 (by decide) ?_
      refine r_icmp_ge (tgt := 84) hx hb (by omega) (by omega) dX5_leave_48 (by decide) (fun c => absurd c (by omega)) (fun _ => ?_)
      refine lv_aload_n hx hb dX5_leave_51 rfl (lv_at hl 0 rfl) ?_
      refine g_X5_19 B hP 0 rfl rfl dX5_leave_52 ?_
      refine lv_iload_n hx hb dX5_leave_55 rfl (lv_at hl 3 rfl) ?_
      refine lv_iload_n hx hb dX5_leave_56 rfl (lv_at hl 2 rfl) ?_
      refine fS_i (as := [.int (nI k45), .int (nI g)]) (rest := [.ref (ad 5)]) B hl.1 (c_X5_sourceTree l D cI cZ (wC cI ad rc rl rh fr fw_45 fc fg_45 ps pg pr pd qp qt qf qo ct_45 lE lC cand lim now was (nI sent) (nI qfi) (nI qsz)) k45 g (by omega) (by omega)) (l_RX5_134 hts ⟨rfl, rfl⟩ ⟨Nat.le_of_ble_eq_true rfl, Nat.le_of_ble_eq_true rfl⟩) m_4_11 rfl rfl hP hD hS hA rfl (Nat.le_of_ble_eq_true rfl) dX5_leave_57 (fun H locs hP hD hS => ?_)
      refine lv_iload_n hx hb dX5_leave_60 rfl (lv_at hl 1 rfl) ?_
      refine lv_aload_n hx hb dX5_leave_61 rfl (lv_at hl 0 rfl) ?_
      refine g_X5_128 B hP 0 rfl rfl dX5_leave_62 ?_
      refine fV_v (ci := 2) (as := [.int (nI ((4 + (g * 10)) + k45)), .int (nI r), .int now]) (rest := []) B hl.1 (c_X2_unwant l D cI cZ ad rc rl rh fr fw_45 fc fg_45 ps pg pr pd qp qt qf qo ct_45 lE lC cand lim now was sent qfi qsz ((4 + (g * 10)) + k45) r now (by omega) (by omega)) rfl (l_RX5_131 hts ⟨rfl, rfl⟩ ⟨Nat.le_of_ble_eq_true rfl, Nat.le_of_ble_eq_true rfl⟩) m_10_6 m_10_7 rfl rfl hP hD hS hA 5 rfl wfC (Nat.le_of_ble_eq_true rfl) dX5_leave_65 (fun H locs hP hD hS => ?_)
      refine lv_aload_n hx hb dX5_leave_68 rfl (lv_at hl 0 rfl) ?_
      refine g_X5_40 B hP 0 rfl rfl dX5_leave_69 ?_
      refine lv_iload_n hx hb dX5_leave_72 rfl (lv_at hl 1 rfl) ?_
      refine lv_iload_n hx hb dX5_leave_73 rfl (lv_at hl 3 rfl) ?_
      refine lv_iload_n hx hb dX5_leave_74 rfl (lv_at hl 2 rfl) ?_
      refine fV_v (ci := 1) (as := [.int (nI r), .int (nI k45), .int (nI g)]) (rest := []) B hl.1 (c_X1_forget l D cI cZ ad rc rl rh fr (upd fw_45 ((4 + (g * 10)) + k45) ((fw_45 ((4 + (g * 10)) + k45)) &&& (((nI 1) <<< ((nI r) &&& 31)) ^^^ (-1)))) fc (f_X2_letLeave ((4 + (g * 10)) + k45) r now (upd fw_45 ((4 + (g * 10)) + k45) ((fw_45 ((4 + (g * 10)) + k45)) &&& (((nI 1) <<< ((nI r) &&& 31)) ^^^ (-1)))) fc fg_45) ps pg pr pd qp qt qf qo ct_45 lE lC cand lim now was sent qfi qsz r k45 g (by omega) (by omega) (by omega)) rfl (l_RX5_137 hts ⟨rfl, rfl⟩ ⟨Nat.le_of_ble_eq_true rfl, Nat.le_of_ble_eq_true rfl⟩) m_11_0 m_11_1 rfl rfl hP hD hS hA 20 rfl wfC (Nat.le_of_ble_eq_true rfl) dX5_leave_75 (fun H locs hP hD hS => ?_)
      refine lv_iinc (v := nI (k45 + 1)) (lv' := [(3, .int (nI (k45 + 1))), (0, .ref (ad 0)), (1, .int (nI r)), (2, .int (nI g))]) hx hb dX5_leave_78 hl (k := 3) rfl (nI_add _ _) (by decide) rfl (fun ls hl => ?_)
      refine lv_goto (tgt := 45) hx hb dX5_leave_81 (by decide) ?_
      exact ih45 (k45 + 1) (upd fw_45 ((4 + (g * 10)) + k45) ((fw_45 ((4 + (g * 10)) + k45)) &&& (((nI 1) <<< ((nI r) &&& 31)) ^^^ (-1)))) (f_X2_letLeave ((4 + (g * 10)) + k45) r now (upd fw_45 ((4 + (g * 10)) + k45) ((fw_45 ((4 + (g * 10)) + k45)) &&& (((nI 1) <<< ((nI r) &&& 31)) ^^^ (-1)))) fc fg_45) (upd ct_45 ((((g * 10) + k45) * 10) + r) (nI 0)) (by omega) hf _ _ hP hD hS _ (lv_sub hl [1, 2, 3, 0] rfl)
  exact L45 10 0 (upd fw g ((fw g) &&& (((nI 1) <<< ((nI r) &&& 31)) ^^^ (-1)))) (f_X2_letLeave g r now (upd fw g ((fw g) &&& (((nI 1) <<< ((nI r) &&& 31)) ^^^ (-1)))) fc fg) ct (by omega) hf _ _ hP hD hS _ (lv_sub hl [1, 2, 3, 0] rfl)
def f_X5_pass_L25 (se : Nat) (fw : Nat → Int32) : Nat → Nat → Int32 → (Nat → Int32) → (Nat → Int32) → (Nat → Int32) → Int32 → Int32 × (Nat → Int32) × (Nat → Int32) × (Nat → Int32) × Int32
  | 0, _, x2_25, fc_25, fg_25, ct_25, now_25 => (x2_25, fc_25, fg_25, ct_25, now_25)
  | n25 + 1, k25, x2_25, fc_25, fg_25, ct_25, now_25 => if ((now_25 + (nI 1)) - (now_25 + (nI 1)) / (nI 10) * (nI 10)) = 0 then f_X5_pass_L25 se fw n25 (k25 + 1) (x2_25 + ((f_X2_removeDue (now_25 + (nI 1)) fw fc_25 fg_25).1)) ((f_X2_removeDue (now_25 + (nI 1)) fw fc_25 fg_25).2.1) ((f_X2_removeDue (now_25 + (nI 1)) fw fc_25 fg_25).2.2) (fun _ => (nI 0)) (now_25 + (nI 1)) else f_X5_pass_L25 se fw n25 (k25 + 1) (x2_25 + ((f_X2_removeDue (now_25 + (nI 1)) fw fc_25 fg_25).1)) ((f_X2_removeDue (now_25 + (nI 1)) fw fc_25 fg_25).2.1) ((f_X2_removeDue (now_25 + (nI 1)) fw fc_25 fg_25).2.2) ct_25 (now_25 + (nI 1))
def f_X5_pass (se : Nat) (fw : Nat → Int32) (fc : Nat → Int32) (fg : Nat → Int32) (ct : Nat → Int32) (now : Int32) : Int32 × (Nat → Int32) × (Nat → Int32) × (Nat → Int32) × Int32 :=
  f_X5_pass_L25 se fw se 0 (nI 0) fc fg ct now
set_option maxHeartbeats 4000000 in
set_option maxRecDepth 100000 in
theorem c_X5_pass (l : Launch) (D : va_G) (cI cZ : ClassId) (ad : Nat → Nat) (rc rl rh fr fw fc fg ps pg pr pd qp qt qf qo ct lE lC : Nat → Int32) (cand : Int32) (lim : Int32) (now : Int32) (was : Int32) (sent : Nat) (qfi : Nat) (qsz : Nat) (se : Nat) (hse : se < 101) (h1se : 1 ≤ se) : MI l yX5_pass cX5_pass 4 .int { frames := 6, cells := 0, slots := 0, locals := 137 } D (TY cI cZ) [.ref (ad 0), .int (nI se)] (wC cI ad rc rl rh fr fw fc fg ps pg pr pd qp qt qf qo ct lE lC cand lim now was (nI sent) (nI qfi) (nI qsz)) (wC cI ad rc rl rh fr fw ((f_X5_pass se fw fc fg ct now).2.1) ((f_X5_pass se fw fc fg ct now).2.2.1) ps pg pr pd qp qt qf qo ((f_X5_pass se fw fc fg ct now).2.2.2.1) lE lC cand lim ((f_X5_pass se fw fc fg ct now).2.2.2.2) was (nI sent) (nI qfi) (nI qsz)) ((f_X5_pass se fw fc fg ct now).1) := by
  refine MI.mk ⟨rfl, rfl⟩ (by decide +kernel) (Nat.le_of_ble_eq_true rfl) ?_
  intro p e s m below meth c A ls B hA hP hD hS hl
  have hx := B.1
  have hb := B.2.1
  have hts := B.2.2.2.2.2.1
  have hN := B.2.2.2.2.2.2.2.1
  have hK := B.2.2.2.2.2.2.2.2.1
  have hl : lv_has ls 4 [(0, .ref (ad 0)), (1, .int (nI se))] := hl
  have hf := f_X5_pass.eq_1 se fw fc fg ct now
  refine lv_iload_n hx hb dX5_pass_0 rfl (lv_at hl 1 rfl) ?_
  refine lv_iconst (v := nI 1) hx hb dX5_pass_1 (by decide) ?_
  refine r_icmp_lt (tgt := 11) hx hb (by omega) (by omega) dX5_pass_2 (by decide) (fun c => absurd c (by omega)) (fun _ => ?_)
  refine lv_iload_n hx hb dX5_pass_5 rfl (lv_at hl 1 rfl) ?_
  refine lv_bipush (v := nI 100) hx hb dX5_pass_6 (by decide) ?_
  refine r_icmp_le (tgt := 21) hx hb (by omega) (by omega) dX5_pass_8 (by decide) (fun _ => ?_) (fun c => absurd c (by omega))
  refine lv_iconst (v := nI 0) hx hb dX5_pass_21 (by decide) ?_
  refine lv_istore_n (lv' := [(2, .int (nI 0)), (0, .ref (ad 0)), (1, .int (nI se))]) hx hb dX5_pass_22 rfl hl (by decide) rfl (fun ls hl => ?_)
  refine lv_iconst (v := nI 0) hx hb dX5_pass_23 (by decide) ?_
  refine lv_istore_n (lv' := [(3, .int (nI 0)), (2, .int (nI 0)), (0, .ref (ad 0)), (1, .int (nI se))]) hx hb dX5_pass_24 rfl hl (by decide) rfl (fun ls hl => ?_)
  have L25 : ∀ (n25 : Nat) (k25 : Nat) (x2_25 : Int32) (fc_25 : Nat → Int32) (fg_25 : Nat → Int32) (ct_25 : Nat → Int32) (now_25 : Int32), k25 + n25 = se → f_X5_pass se fw fc fg ct now = (f_X5_pass_L25 se fw n25 k25 x2_25 fc_25 fg_25 ct_25 now_25) → ∀ (H : Heap) (locs : List Loc), va_P D vwCl (wC cI ad rc rl rh fr fw fc_25 fg_25 ps pg pr pd qp qt qf qo ct_25 lE lC cand lim now_25 was (nI sent) (nI qfi) (nI qsz)) H → va_D A (wC cI ad rc rl rh fr fw fc_25 fg_25 ps pg pr pd qp qt qf qo ct_25 lE lC cand lim now_25 was (nI sent) (nI qfi) (nI qsz)) → va_S A s.heap H locs → ∀ ls : Array Slot, lv_has ls 4 [(0, .ref (ad 0)), (1, .int (nI se)), (2, .int x2_25), (3, .int (nI k25))] → W p l e { frames := 6, cells := 0, slots := 0, locals := 137 } s m [.ref (ad 0), .int (nI se)].toArray below meth c H locs 0 0 (QI below s A D [.ref (ad 0), .int (nI se)] (wC cI ad rc rl rh fr fw ((f_X5_pass se fw fc fg ct now).2.1) ((f_X5_pass se fw fc fg ct now).2.2.1) ps pg pr pd qp qt qf qo ((f_X5_pass se fw fc fg ct now).2.2.2.1) lE lC cand lim ((f_X5_pass se fw fc fg ct now).2.2.2.2) was (nI sent) (nI qfi) (nI qsz)) ((f_X5_pass se fw fc fg ct now).1)) (F0 m 25 ls []) := by
    intro n25
    induction n25 with
    | zero =>
      intro k25 x2_25 fc_25 fg_25 ct_25 now_25 hk25 hf H locs hP hD hS ls hl
      obtain rfl : se = k25 := by omega
      rw [f_X5_pass_L25] at hf
      have hl : lv_has ls 4 [(0, .ref (ad 0)), (1, .int (nI se)), (2, .int x2_25), (3, .int (nI se))] := hl
      refine lv_iload_n hx hb dX5_pass_25 rfl (lv_at hl 3 rfl) ?_
      refine lv_iload_n hx hb dX5_pass_26 rfl (lv_at hl 1 rfl) ?_
      refine r_icmp_ge (tgt := 77) hx hb (by omega) (by omega) dX5_pass_27 (by decide) (fun _ => ?_) (fun c => absurd c (by omega))
      refine lv_iload_n hx hb dX5_pass_77 rfl (lv_at hl 2 rfl) ?_
      exact eI B hP hS (by simp only [hf]) (by simp only [hf]) dX5_pass_78
    | succ n25 ih25 =>
      intro k25 x2_25 fc_25 fg_25 ct_25 now_25 hk25 hf H locs hP hD hS ls hl
      rw [f_X5_pass_L25] at hf
      have hl : lv_has ls 4 [(0, .ref (ad 0)), (1, .int (nI se)), (2, .int x2_25), (3, .int (nI k25))] := hl
      refine lv_iload_n hx hb dX5_pass_25 rfl (lv_at hl 3 rfl) ?_
      refine lv_iload_n hx hb dX5_pass_26 rfl (lv_at hl 1 rfl) ?_
      refine r_icmp_ge (tgt := 77) hx hb (by omega) (by omega) dX5_pass_27 (by decide) (fun c => absurd c (by omega)) (fun _ => ?_)
      refine lv_aload_n hx hb dX5_pass_30 rfl (lv_at hl 0 rfl) ?_
      refine lv_dup hx hb dX5_pass_31 rfl ?_
      refine g_X5_128 B hP 0 rfl rfl dX5_pass_32 ?_
      refine lv_iconst (v := nI 1) hx hb dX5_pass_35 (by decide) ?_
      refine lv_iadd hx hb dX5_pass_36 ?_
      refine p_X5_128 B hP hD hS 0 rfl (Nat.le_of_ble_eq_true rfl) dX5_pass_37 (fun H locs hP hD hS => ?_)
      have hP : va_P D vwCl (wC cI ad rc rl rh fr fw fc_25 fg_25 ps pg pr pd qp qt qf qo ct_25 lE lC cand lim (now_25 + (nI 1)) was (nI sent) (nI qfi) (nI qsz)) H := hP
      have hD : va_D A (wC cI ad rc rl rh fr fw fc_25 fg_25 ps pg pr pd qp qt qf qo ct_25 lE lC cand lim (now_25 + (nI 1)) was (nI sent) (nI qfi) (nI qsz)) := hD
      refine lv_iload_n hx hb dX5_pass_40 rfl (lv_at hl 2 rfl) ?_
      refine lv_aload_n hx hb dX5_pass_41 rfl (lv_at hl 0 rfl) ?_
      refine g_X5_19 B hP 0 rfl rfl dX5_pass_42 ?_
      refine lv_aload_n hx hb dX5_pass_45 rfl (lv_at hl 0 rfl) ?_
      refine g_X5_128 B hP 0 rfl rfl dX5_pass_46 ?_
      refine fV_i (ci := 2) (as := [.int (now_25 + (nI 1))]) (rest := [.int x2_25]) B hl.1 (c_X2_removeDue l D cI cZ ad rc rl rh fr fw fc_25 fg_25 ps pg pr pd qp qt qf qo ct_25 lE lC cand lim (now_25 + (nI 1)) was sent qfi qsz (now_25 + (nI 1))) rfl (l_RX5_208 hts ⟨rfl, rfl⟩ ⟨Nat.le_of_ble_eq_true rfl, Nat.le_of_ble_eq_true rfl⟩) m_12_19 m_12_20 rfl rfl hP hD hS hA 5 rfl wfC (Nat.le_of_ble_eq_true rfl) dX5_pass_49 (fun H locs hP hD hS => ?_)
      refine lv_iadd hx hb dX5_pass_52 ?_
      refine lv_istore_n (lv' := [(2, .int (x2_25 + ((f_X2_removeDue (now_25 + (nI 1)) fw fc_25 fg_25).1))), (0, .ref (ad 0)), (1, .int (nI se)), (3, .int (nI k25))]) hx hb dX5_pass_53 rfl hl (by decide) rfl (fun ls hl => ?_)
      refine lv_aload_n hx hb dX5_pass_54 rfl (lv_at hl 1 rfl) ?_
      refine g_X5_128 B hP 0 rfl rfl dX5_pass_55 ?_
      refine lv_bipush (v := nI 10) hx hb dX5_pass_58 (by decide) ?_
      refine lv_irem hx hb dX5_pass_60 (by decide) ?_
      refine lv_if_ne (tgt := 71) hx hb dX5_pass_61 (by decide) (fun c4 => ?_) (fun c4 => ?_)
      · have hf := hf.trans (if_neg c4)
        refine lv_iinc (v := nI (k25 + 1)) (lv' := [(3, .int (nI (k25 + 1))), (2, .int (x2_25 + ((f_X2_removeDue (now_25 + (nI 1)) fw fc_25 fg_25).1))), (0, .ref (ad 0)), (1, .int (nI se))]) hx hb dX5_pass_71 hl (k := 3) rfl (nI_add _ _) (by decide) rfl (fun ls hl => ?_)
        refine lv_goto (tgt := 25) hx hb dX5_pass_74 (by decide) ?_
        exact ih25 (k25 + 1) (x2_25 + ((f_X2_removeDue (now_25 + (nI 1)) fw fc_25 fg_25).1)) ((f_X2_removeDue (now_25 + (nI 1)) fw fc_25 fg_25).2.1) ((f_X2_removeDue (now_25 + (nI 1)) fw fc_25 fg_25).2.2) ct_25 (now_25 + (nI 1)) (by omega) hf _ _ hP hD hS _ (lv_sub hl [2, 3, 1, 0] rfl)
      · have hf := hf.trans (if_pos c4)
        refine lv_aload_n hx hb dX5_pass_64 rfl (lv_at hl 1 rfl) ?_
        refine g_X5_40 B hP 0 rfl rfl dX5_pass_65 ?_
        refine fV_v (ci := 1) (as := []) (rest := []) B hl.1 (c_X1_forgetAll l D cI cZ ad rc rl rh fr fw ((f_X2_removeDue (now_25 + (nI 1)) fw fc_25 fg_25).2.1) ((f_X2_removeDue (now_25 + (nI 1)) fw fc_25 fg_25).2.2) ps pg pr pd qp qt qf qo ct_25 lE lC cand lim (now_25 + (nI 1)) was sent qfi qsz) rfl (l_RX5_211 hts ⟨rfl, rfl⟩ ⟨Nat.le_of_ble_eq_true rfl, Nat.le_of_ble_eq_true rfl⟩) m_13_3 m_13_4 rfl rfl hP hD hS hA 20 rfl wfC (Nat.le_of_ble_eq_true rfl) dX5_pass_68 (fun H locs hP hD hS => ?_)
        refine lv_iinc (v := nI (k25 + 1)) (lv' := [(3, .int (nI (k25 + 1))), (2, .int (x2_25 + ((f_X2_removeDue (now_25 + (nI 1)) fw fc_25 fg_25).1))), (0, .ref (ad 0)), (1, .int (nI se))]) hx hb dX5_pass_71 hl (k := 3) rfl (nI_add _ _) (by decide) rfl (fun ls hl => ?_)
        refine lv_goto (tgt := 25) hx hb dX5_pass_74 (by decide) ?_
        exact ih25 (k25 + 1) (x2_25 + ((f_X2_removeDue (now_25 + (nI 1)) fw fc_25 fg_25).1)) ((f_X2_removeDue (now_25 + (nI 1)) fw fc_25 fg_25).2.1) ((f_X2_removeDue (now_25 + (nI 1)) fw fc_25 fg_25).2.2) (fun _ => (nI 0)) (now_25 + (nI 1)) (by omega) hf _ _ hP hD hS _ (lv_sub hl [2, 3, 1, 0] rfl)
  exact L25 se 0 (nI 0) fc fg ct now (by omega) hf _ _ hP hD hS _ (lv_sub hl [2, 3, 1, 0] rfl)
def f_X5_countSaysSwitch (m_ : Nat) (s_ : Nat) (g : Nat) (fw : Nat → Int32) (ct : Nat → Int32) (lim : Int32) : Bool × (Nat → Int32) :=
  if ((upd ct ((((g * 10) + s_) * 10) + m_) ((ct ((((g * 10) + s_) * 10) + m_)) + (nI 1))) ((((g * 10) + s_) * 10) + m_)) < lim then (false, upd ct ((((g * 10) + s_) * 10) + m_) ((ct ((((g * 10) + s_) * 10) + m_)) + (nI 1))) else if m_ = s_ then (false, upd ct ((((g * 10) + s_) * 10) + m_) ((ct ((((g * 10) + s_) * 10) + m_)) + (nI 1))) else if (f_X5_has (fw ((4 + (g * 10)) + s_)) m_) = true then (false, upd ct ((((g * 10) + s_) * 10) + m_) ((ct ((((g * 10) + s_) * 10) + m_)) + (nI 1))) else (true, upd ct ((((g * 10) + s_) * 10) + m_) ((ct ((((g * 10) + s_) * 10) + m_)) + (nI 1)))
set_option maxHeartbeats 4000000 in
set_option maxRecDepth 100000 in
theorem c_X5_countSaysSwitch (l : Launch) (D : va_G) (cI cZ : ClassId) (ad : Nat → Nat) (rc rl rh fr fw fc fg ps pg pr pd qp qt qf qo ct lE lC : Nat → Int32) (cand : Int32) (lim : Int32) (now : Int32) (was : Int32) (sent : Nat) (qfi : Nat) (qsz : Nat) (m_ : Nat) (s_ : Nat) (g : Nat) (hm_ : m_ < 10) (hs_ : s_ < 10) (hg : g < 4) : MI l yX5_countSaysSwitch cX5_countSaysSwitch 6 .boolean { frames := 3, cells := 0, slots := 0, locals := 66 } D (TY cI cZ) [.ref (ad 0), .int (nI m_), .int (nI s_), .int (nI g)] (wC cI ad rc rl rh fr fw fc fg ps pg pr pd qp qt qf qo ct lE lC cand lim now was (nI sent) (nI qfi) (nI qsz)) (wC cI ad rc rl rh fr fw fc fg ps pg pr pd qp qt qf qo ((f_X5_countSaysSwitch m_ s_ g fw ct lim).2) lE lC cand lim now was (nI sent) (nI qfi) (nI qsz)) (bI ((f_X5_countSaysSwitch m_ s_ g fw ct lim).1)) := by
  refine MI.mk ⟨rfl, rfl⟩ (by decide +kernel) (Nat.le_of_ble_eq_true rfl) ?_
  intro p e s m below meth c A ls B hA hP hD hS hl
  have hx := B.1
  have hb := B.2.1
  have hts := B.2.2.2.2.2.1
  have hN := B.2.2.2.2.2.2.2.1
  have hK := B.2.2.2.2.2.2.2.2.1
  have hl : lv_has ls 6 [(0, .ref (ad 0)), (1, .int (nI m_)), (2, .int (nI s_)), (3, .int (nI g))] := hl
  have hf := f_X5_countSaysSwitch.eq_1 m_ s_ g fw ct lim
  refine lv_aload_n hx hb dX5_countSaysSwitch_0 rfl (lv_at hl 0 rfl) ?_
  refine g_X5_40 B hP 0 rfl rfl dX5_countSaysSwitch_1 ?_
  refine lv_iload_n hx hb dX5_countSaysSwitch_4 rfl (lv_at hl 1 rfl) ?_
  refine lv_iload_n hx hb dX5_countSaysSwitch_5 rfl (lv_at hl 2 rfl) ?_
  refine lv_iload_n hx hb dX5_countSaysSwitch_6 rfl (lv_at hl 3 rfl) ?_
  refine fV_i (ci := 1) (as := [.int (nI m_), .int (nI s_), .int (nI g)]) (rest := []) B hl.1 (c_X1_raise l D cI cZ ad rc rl rh fr fw fc fg ps pg pr pd qp qt qf qo ct lE lC cand lim now was sent qfi qsz m_ s_ g (by omega) (by omega) (by omega)) rfl (l_RX5_236 hts ⟨rfl, rfl⟩ ⟨Nat.le_of_ble_eq_true rfl, Nat.le_of_ble_eq_true rfl⟩) m_17_5 m_17_6 rfl rfl hP hD hS hA 20 rfl wfC (Nat.le_of_ble_eq_true rfl) dX5_countSaysSwitch_7 (fun H locs hP hD hS => ?_)
  refine lv_istore (lv' := [(4, .int ((upd ct ((((g * 10) + s_) * 10) + m_) ((ct ((((g * 10) + s_) * 10) + m_)) + (nI 1))) ((((g * 10) + s_) * 10) + m_))), (0, .ref (ad 0)), (1, .int (nI m_)), (2, .int (nI s_)), (3, .int (nI g))]) hx hb dX5_countSaysSwitch_10 hl (by decide) rfl (fun ls hl => ?_)
  refine lv_aload_n hx hb dX5_countSaysSwitch_12 rfl (lv_at hl 1 rfl) ?_
  refine g_X5_19 B hP 0 rfl rfl dX5_countSaysSwitch_13 ?_
  refine lv_iload_n hx hb dX5_countSaysSwitch_16 rfl (lv_at hl 3 rfl) ?_
  refine lv_iload_n hx hb dX5_countSaysSwitch_17 rfl (lv_at hl 4 rfl) ?_
  refine fS_i (as := [.int (nI s_), .int (nI g)]) (rest := [.ref (ad 5)]) B hl.1 (c_X5_sourceTree l D cI cZ (wC cI ad rc rl rh fr fw fc fg ps pg pr pd qp qt qf qo (upd ct ((((g * 10) + s_) * 10) + m_) ((ct ((((g * 10) + s_) * 10) + m_)) + (nI 1))) lE lC cand lim now was (nI sent) (nI qfi) (nI qsz)) s_ g (by omega) (by omega)) (l_RX5_134 hts ⟨rfl, rfl⟩ ⟨Nat.le_of_ble_eq_true rfl, Nat.le_of_ble_eq_true rfl⟩) m_4_11 rfl rfl hP hD hS hA rfl (Nat.le_of_ble_eq_true rfl) dX5_countSaysSwitch_18 (fun H locs hP hD hS => ?_)
  refine fV_i (ci := 2) (as := [.int (nI ((4 + (g * 10)) + s_))]) (rest := []) B hl.1 (c_X2_wantingOf l D cI cZ ad rc rl rh fr fw fc fg ps pg pr pd qp qt qf qo (upd ct ((((g * 10) + s_) * 10) + m_) ((ct ((((g * 10) + s_) * 10) + m_)) + (nI 1))) lE lC cand lim now was sent qfi qsz ((4 + (g * 10)) + s_) (by omega)) rfl (l_RX5_140 hts ⟨rfl, rfl⟩ ⟨Nat.le_of_ble_eq_true rfl, Nat.le_of_ble_eq_true rfl⟩) m_10_2 m_10_3 rfl rfl hP hD hS hA 5 rfl wfC (Nat.le_of_ble_eq_true rfl) dX5_countSaysSwitch_21 (fun H locs hP hD hS => ?_)
  refine lv_istore (lv' := [(5, .int (fw ((4 + (g * 10)) + s_))), (4, .int ((upd ct ((((g * 10) + s_) * 10) + m_) ((ct ((((g * 10) + s_) * 10) + m_)) + (nI 1))) ((((g * 10) + s_) * 10) + m_))), (0, .ref (ad 0)), (1, .int (nI m_)), (2, .int (nI s_)), (3, .int (nI g))]) hx hb dX5_countSaysSwitch_24 hl (by decide) rfl (fun ls hl => ?_)
  refine lv_iload hx hb dX5_countSaysSwitch_26 (lv_at hl 1 rfl) ?_
  refine lv_aload_n hx hb dX5_countSaysSwitch_28 rfl (lv_at hl 2 rfl) ?_
  refine g_X5_44 B hP 0 rfl rfl dX5_countSaysSwitch_29 ?_
  refine lv_icmp_lt (tgt := 53) hx hb dX5_countSaysSwitch_32 (by decide) (fun c1 => ?_) (fun c1 => ?_)
  · have hf := hf.trans (if_pos c1)
    refine lv_iconst (v := nI 0) hx hb dX5_countSaysSwitch_53 (by decide) ?_
    exact eZ B hP hS (by decide) (by simp only [hf, bI_t, bI_f]) (by simp only [hf]) dX5_countSaysSwitch_54
  · have hf := hf.trans (if_neg c1)
    refine lv_iload_n hx hb dX5_countSaysSwitch_35 rfl (lv_at hl 3 rfl) ?_
    refine lv_iload_n hx hb dX5_countSaysSwitch_36 rfl (lv_at hl 4 rfl) ?_
    refine r_icmp_eq (tgt := 53) hx hb (by omega) (by omega) dX5_countSaysSwitch_37 (by decide) (fun c2 => ?_) (fun c2 => ?_)
    · have hf := hf.trans (if_pos c2)
      refine lv_iconst (v := nI 0) hx hb dX5_countSaysSwitch_53 (by decide) ?_
      exact eZ B hP hS (by decide) (by simp only [hf, bI_t, bI_f]) (by simp only [hf]) dX5_countSaysSwitch_54
    · have hf := hf.trans (if_neg c2)
      refine lv_iload hx hb dX5_countSaysSwitch_40 (lv_at hl 0 rfl) ?_
      refine lv_iload_n hx hb dX5_countSaysSwitch_42 rfl (lv_at hl 3 rfl) ?_
      refine fS_i (as := [.int (fw ((4 + (g * 10)) + s_)), .int (nI m_)]) (rest := []) B hl.1 (c_X5_has l D cI cZ (wC cI ad rc rl rh fr fw fc fg ps pg pr pd qp qt qf qo (upd ct ((((g * 10) + s_) * 10) + m_) ((ct ((((g * 10) + s_) * 10) + m_)) + (nI 1))) lE lC cand lim now was (nI sent) (nI qfi) (nI qsz)) (fw ((4 + (g * 10)) + s_)) m_ (by omega)) (l_RX5_74 hts ⟨rfl, rfl⟩ ⟨Nat.le_of_ble_eq_true rfl, Nat.le_of_ble_eq_true rfl⟩) m_7_14 rfl rfl hP hD hS hA rfl (Nat.le_of_ble_eq_true rfl) dX5_countSaysSwitch_43 (fun H locs hP hD hS => ?_)
      refine r_if_ne_b (tgt := 53) hx hb dX5_countSaysSwitch_46 (by decide) (fun c3 => ?_) (fun c3 => ?_)
      · have hf := hf.trans (if_pos c3)
        refine lv_iconst (v := nI 0) hx hb dX5_countSaysSwitch_53 (by decide) ?_
        exact eZ B hP hS (by decide) (by simp only [hf, bI_t, bI_f]) (by simp only [hf]) dX5_countSaysSwitch_54
      · have hf := hf.trans (if_neg c3)
        refine lv_iconst (v := nI 1) hx hb dX5_countSaysSwitch_49 (by decide) ?_
        refine lv_goto (tgt := 54) hx hb dX5_countSaysSwitch_50 (by decide) ?_
        exact eZ B hP hS (by decide) (by simp only [hf, bI_t, bI_f]) (by simp only [hf]) dX5_countSaysSwitch_54
