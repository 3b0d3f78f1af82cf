/-! the law's steps -/
def j_L_step_l_9 (y : Nat) : Nat :=
  if (y % 2) = 0 then 0 else (y / 2) % 4
def f_L_step_l (x : Nat) (y : Nat) (rc : Nat → Int32) (rl : Nat → Int32) (rh : Nat → Int32) (fr : Nat → Int32) (fw : Nat → Int32) (fc : Nat → Int32) (fg : Nat → Int32) (lE : Nat → Int32) : Bool × (Nat → Int32) × (Nat → Int32) × (Nat → Int32) × (Nat → Int32) × (Nat → Int32) × (Nat → Int32) :=
  ((f_L_links x y rc rl rh fr fw fc fg lE).1, (f_L_links x y rc rl rh fr fw fc fg lE).2.1, (f_L_links x y rc rl rh fr fw fc fg lE).2.2.1, (f_L_links x y rc rl rh fr fw fc fg lE).2.2.2.1, (f_L_links x y rc rl rh fr fw fc fg lE).2.2.2.2.1, (f_L_links x y rc rl rh fr fw fc fg lE).2.2.2.2.2.1, (f_L_links x y rc rl rh fr fw fc fg lE).2.2.2.2.2.2)
set_option maxHeartbeats 4000000 in
set_option maxRecDepth 100000 in
theorem c_L_step_l (l : Launch) (D : va_G) (cI cZ : ClassId) (ad : Nat → Nat) (rc rl rh fr fw fc fg ps pg pr pd qp qt qf qo ct lE lC : Nat → Int32) (cand : Int32) (lim : Int32) (now : Int32) (was : Int32) (sent : Nat) (qfi : Nat) (qsz : Nat) (wh : Nat) (x : Nat) (y : Nat) (hwh : wh < 13) (hx : x < 1073741824) (hy : y < 1073741824) (hwl : 0 ≤ wh) (hwh : wh ≤ 1) : MI l yL_step cL_step 10 .boolean { frames := 7, cells := 0, slots := 0, locals := 166 } D (TY cI cZ) [.ref (ad 0), .int (nI wh), .int (nI x), .int (nI y), .ref (ad 22), .ref (ad 23)] (wC cI ad rc rl rh fr fw fc fg ps pg pr pd qp qt qf qo ct lE lC cand lim now was (nI sent) (nI qfi) (nI qsz)) (wC cI ad ((f_L_step_l x y rc rl rh fr fw fc fg lE).2.1) ((f_L_step_l x y rc rl rh fr fw fc fg lE).2.2.1) ((f_L_step_l x y rc rl rh fr fw fc fg lE).2.2.2.1) fr fw ((f_L_step_l x y rc rl rh fr fw fc fg lE).2.2.2.2.1) ((f_L_step_l x y rc rl rh fr fw fc fg lE).2.2.2.2.2.1) ps pg pr pd qp qt qf qo ct ((f_L_step_l x y rc rl rh fr fw fc fg lE).2.2.2.2.2.2) lC cand lim now was (nI sent) (nI qfi) (nI qsz)) (bI ((f_L_step_l x y rc rl rh fr fw fc fg lE).1)) := by
  refine MI.mk ⟨rfl, rfl⟩ (by decide +kernel) (Nat.le_of_ble_eq_true rfl) ?_
  intro p e s m below meth c A ls B hA hP hD hS hl
  have hx := B.1
  have hb := B.2.1
  have hts := B.2.2.2.2.2.1
  have hN := B.2.2.2.2.2.2.2.1
  have hK := B.2.2.2.2.2.2.2.2.1
  have hl : lv_has ls 10 [(0, .ref (ad 0)), (1, .int (nI wh)), (2, .int (nI x)), (3, .int (nI y)), (4, .ref (ad 22)), (5, .ref (ad 23))] := hl
  have hf := f_L_step_l.eq_1 x y rc rl rh fr fw fc fg lE
  refine lv_iload_n hx hb dL_step_0 rfl (lv_at hl 2 rfl) ?_
  refine lv_bipush (v := nI 10) hx hb dL_step_1 (by decide) ?_
  refine r_irem hx hb (by omega) (by omega) (by omega) dL_step_3 ?_
  refine lv_istore (lv' := [(6, .int (nI (x % 10))), (0, .ref (ad 0)), (1, .int (nI wh)), (2, .int (nI x)), (3, .int (nI y)), (4, .ref (ad 22)), (5, .ref (ad 23))]) hx hb dL_step_4 hl (by decide) rfl (fun ls hl => ?_)
  refine lv_iload_n hx hb dL_step_6 rfl (lv_at hl 4 rfl) ?_
  refine lv_iconst (v := nI 2) hx hb dL_step_7 (by decide) ?_
  refine r_irem hx hb (by omega) (by omega) (by omega) dL_step_8 ?_
  have K9 : ∀ v9 : Nat, j_L_step_l_9 y = v9 → ∀ (H : Heap) (locs : List Loc), va_P D vwCl (wC cI ad rc rl rh fr fw fc fg ps pg pr pd qp qt qf qo ct lE lC cand lim now was (nI sent) (nI qfi) (nI qsz)) H → va_D A (wC cI ad rc rl rh fr fw fc fg ps pg pr pd qp qt qf qo ct lE lC cand lim now was (nI sent) (nI qfi) (nI qsz)) → va_S A s.heap H locs → ∀ ls : Array Slot, lv_has ls 10 [(6, .int (nI (x % 10))), (0, .ref (ad 0)), (1, .int (nI wh)), (2, .int (nI x)), (3, .int (nI y)), (4, .ref (ad 22)), (5, .ref (ad 23))] → W p l e { frames := 7, cells := 0, slots := 0, locals := 166 } s m [.ref (ad 0), .int (nI wh), .int (nI x), .int (nI y), .ref (ad 22), .ref (ad 23)].toArray below meth c H locs 0 0 (QI below s A D [.ref (ad 0), .int (nI wh), .int (nI x), .int (nI y), .ref (ad 22), .ref (ad 23)] (wC cI ad ((f_L_step_l x y rc rl rh fr fw fc fg lE).2.1) ((f_L_step_l x y rc rl rh fr fw fc fg lE).2.2.1) ((f_L_step_l x y rc rl rh fr fw fc fg lE).2.2.2.1) fr fw ((f_L_step_l x y rc rl rh fr fw fc fg lE).2.2.2.2.1) ((f_L_step_l x y rc rl rh fr fw fc fg lE).2.2.2.2.2.1) ps pg pr pd qp qt qf qo ct ((f_L_step_l x y rc rl rh fr fw fc fg lE).2.2.2.2.2.2) lC cand lim now was (nI sent) (nI qfi) (nI qsz)) (bI ((f_L_step_l x y rc rl rh fr fw fc fg lE).1))) (F0 m 21 ls [.int (nI v9)]) := by
    intro v9 hv9 H locs hP hD hS ls hl
    subst hv9
    have hjb9 : 0 ≤ j_L_step_l_9 y ∧ j_L_step_l_9 y ≤ 3 := by
      unfold j_L_step_l_9
      repeat' split
      all_goals (refine ⟨?_, ?_⟩ <;> omega)
    refine lv_istore (lv' := [(7, .int (nI (j_L_step_l_9 y))), (6, .int (nI (x % 10))), (0, .ref (ad 0)), (1, .int (nI wh)), (2, .int (nI x)), (3, .int (nI y)), (4, .ref (ad 22)), (5, .ref (ad 23))]) hx hb dL_step_21 hl (by decide) rfl (fun ls hl => ?_)
    refine lv_iload_n hx hb dL_step_23 rfl (lv_at hl 3 rfl) ?_
    refine lv_iconst (v := nI 2) hx hb dL_step_24 (by decide) ?_
    refine r_icmp_ge (tgt := 37) hx hb (by omega) (by omega) dL_step_25 (by decide) (fun c => absurd c (by omega)) (fun _ => ?_)
    refine lv_aload_n hx hb dL_step_28 rfl (lv_at hl 2 rfl) ?_
    refine lv_aload hx hb dL_step_29 (lv_at hl 6 rfl) ?_
    refine lv_iload_n hx hb dL_step_31 rfl (lv_at hl 4 rfl) ?_
    refine lv_iload_n hx hb dL_step_32 rfl (lv_at hl 5 rfl) ?_
    refine fS_i (as := [.ref (ad 0), .ref (ad 22), .int (nI x), .int (nI y)]) (rest := []) B hl.1 (c_L_links l D cI cZ ad rc rl rh fr fw fc fg ps pg pr pd qp qt qf qo ct lE lC cand lim now was sent qfi qsz x y (by omega) (by omega)) (l_RL_112 hts ⟨rfl, rfl⟩ ⟨Nat.le_of_ble_eq_true rfl, Nat.le_of_ble_eq_true rfl⟩) m_6_5 rfl rfl hP hD hS hA wfC (Nat.le_of_ble_eq_true rfl) dL_step_33 (fun H locs hP hD hS => ?_)
    exact eZ B hP hS (bI_nar _) (by simp only [hf, bI_t, bI_f]) (by simp only [hf]) dL_step_36
  have hj9 := j_L_step_l_9.eq_1 y
  refine r_if_ne (tgt := 16) hx hb (by omega) dL_step_9 (by decide) (fun c1 => ?_) (fun c1 => ?_)
  · have hj9 := hj9.trans (if_neg c1)
    refine lv_iload_n hx hb dL_step_16 rfl (lv_at hl 4 rfl) ?_
    refine lv_iconst (v := nI 2) hx hb dL_step_17 (by decide) ?_
    refine r_idiv hx hb (by omega) (by omega) (by omega) dL_step_18 ?_
    refine lv_iconst (v := nI 4) hx hb dL_step_19 (by decide) ?_
    refine r_irem hx hb (by omega) (by omega) (by omega) dL_step_20 ?_
    exact K9 _ hj9 _ _ hP hD hS _ hl
  · have hj9 := hj9.trans (if_pos c1)
    refine lv_iconst (v := nI 0) hx hb dL_step_12 (by decide) ?_
    refine lv_goto (tgt := 21) hx hb dL_step_13 (by decide) ?_
    exact K9 _ hj9 _ _ hP hD hS _ hl
def j_L_step_c_9 (y : Nat) : Nat :=
  if (y % 2) = 0 then 0 else (y / 2) % 4
def j_L_step_c_45 (y : Nat) : Bool :=
  if (y % 3) = 0 then false else true
def j_L_step_c_71 (x : Nat) (y : Nat) (lC : Nat → Int32) : Int32 :=
  if (j_L_step_c_45 y) = true then (lC 0) ||| ((nI 1) <<< ((nI (x % 10)) &&& 31)) else (lC 0) &&& (((nI 1) <<< ((nI (x % 10)) &&& 31)) ^^^ (-1))
def j_L_step_c_110 (x : Nat) (y : Nat) (lC : Nat → Int32) : Bool :=
  if j_L_step_c_45 y = f_L_isIn (lC 0) (x % 10) then false else true
def j_L_step_c_118 (x : Nat) (y : Nat) (rh : Nat → Int32) (fr : Nat → Int32) (fw : Nat → Int32) (fc : Nat → Int32) (fg : Nat → Int32) (lC : Nat → Int32) (cand : Int32) : Bool :=
  if (f_X5_setCandidate (x % 10) (j_L_step_c_45 y) rh fr fw fc fg cand).1 = j_L_step_c_110 x y lC then true else false
def f_L_step_c (x : Nat) (y : Nat) (rh : Nat → Int32) (fr : Nat → Int32) (fw : Nat → Int32) (fc : Nat → Int32) (fg : Nat → Int32) (lC : Nat → Int32) (cand : Int32) : Bool × (Nat → Int32) × (Nat → Int32) × (Nat → Int32) × (Nat → Int32) × Int32 :=
  (j_L_step_c_118 x y rh fr fw fc fg lC cand, (f_X5_setCandidate (x % 10) (j_L_step_c_45 y) rh fr fw fc fg cand).2.1, (f_X5_setCandidate (x % 10) (j_L_step_c_45 y) rh fr fw fc fg cand).2.2.1, (f_X5_setCandidate (x % 10) (j_L_step_c_45 y) rh fr fw fc fg cand).2.2.2.1, upd lC 0 (j_L_step_c_71 x y lC), (f_X5_setCandidate (x % 10) (j_L_step_c_45 y) rh fr fw fc fg cand).2.2.2.2)
set_option maxHeartbeats 4000000 in
set_option maxRecDepth 100000 in
theorem c_L_step_c (l : Launch) (D : va_G) (cI cZ : ClassId) (ad : Nat → Nat) (rc rl rh fr fw fc fg ps pg pr pd qp qt qf qo ct lE lC : Nat → Int32) (cand : Int32) (lim : Int32) (now : Int32) (was : Int32) (sent : Nat) (qfi : Nat) (qsz : Nat) (x : Nat) (y : Nat) (hx : x < 1073741824) (hy : y < 1073741824) : MI l yL_step cL_step 10 .boolean { frames := 5, cells := 0, slots := 0, locals := 116 } D (TY cI cZ) [.ref (ad 0), .int (nI 2), .int (nI x), .int (nI y), .ref (ad 22), .ref (ad 23)] (wC cI ad rc rl rh fr fw fc fg ps pg pr pd qp qt qf qo ct lE lC cand lim now was (nI sent) (nI qfi) (nI qsz)) (wC cI ad rc rl rh ((f_L_step_c x y rh fr fw fc fg lC cand).2.1) fw ((f_L_step_c x y rh fr fw fc fg lC cand).2.2.1) ((f_L_step_c x y rh fr fw fc fg lC cand).2.2.2.1) ps pg pr pd qp qt qf qo ct lE ((f_L_step_c x y rh fr fw fc fg lC cand).2.2.2.2.1) ((f_L_step_c x y rh fr fw fc fg lC cand).2.2.2.2.2) lim now was (nI sent) (nI qfi) (nI qsz)) (bI ((f_L_step_c x y rh fr fw fc fg lC cand).1)) := by
  refine MI.mk ⟨rfl, rfl⟩ (by decide +kernel) (Nat.le_of_ble_eq_true rfl) ?_
  intro p e s m below meth c A ls B hA hP hD hS hl
  have hx := B.1
  have hb := B.2.1
  have hts := B.2.2.2.2.2.1
  have hN := B.2.2.2.2.2.2.2.1
  have hK := B.2.2.2.2.2.2.2.2.1
  have hl : lv_has ls 10 [(0, .ref (ad 0)), (1, .int (nI 2)), (2, .int (nI x)), (3, .int (nI y)), (4, .ref (ad 22)), (5, .ref (ad 23))] := hl
  have hf := f_L_step_c.eq_1 x y rh fr fw fc fg lC cand
  refine lv_iload_n hx hb dL_step_0 rfl (lv_at hl 2 rfl) ?_
  refine lv_bipush (v := nI 10) hx hb dL_step_1 (by decide) ?_
  refine r_irem hx hb (by omega) (by omega) (by omega) dL_step_3 ?_
  refine lv_istore (lv' := [(6, .int (nI (x % 10))), (0, .ref (ad 0)), (1, .int (nI 2)), (2, .int (nI x)), (3, .int (nI y)), (4, .ref (ad 22)), (5, .ref (ad 23))]) hx hb dL_step_4 hl (by decide) rfl (fun ls hl => ?_)
  refine lv_iload_n hx hb dL_step_6 rfl (lv_at hl 4 rfl) ?_
  refine lv_iconst (v := nI 2) hx hb dL_step_7 (by decide) ?_
  refine r_irem hx hb (by omega) (by omega) (by omega) dL_step_8 ?_
  have K9 : ∀ v9 : Nat, j_L_step_c_9 y = v9 → ∀ (H : Heap) (locs : List Loc), va_P D vwCl (wC cI ad rc rl rh fr fw fc fg ps pg pr pd qp qt qf qo ct lE lC cand lim now was (nI sent) (nI qfi) (nI qsz)) H → va_D A (wC cI ad rc rl rh fr fw fc fg ps pg pr pd qp qt qf qo ct lE lC cand lim now was (nI sent) (nI qfi) (nI qsz)) → va_S A s.heap H locs → ∀ ls : Array Slot, lv_has ls 10 [(6, .int (nI (x % 10))), (0, .ref (ad 0)), (1, .int (nI 2)), (2, .int (nI x)), (3, .int (nI y)), (4, .ref (ad 22)), (5, .ref (ad 23))] → W p l e { frames := 5, cells := 0, slots := 0, locals := 116 } s m [.ref (ad 0), .int (nI 2), .int (nI x), .int (nI y), .ref (ad 22), .ref (ad 23)].toArray below meth c H locs 0 0 (QI below s A D [.ref (ad 0), .int (nI 2), .int (nI x), .int (nI y), .ref (ad 22), .ref (ad 23)] (wC cI ad rc rl rh ((f_L_step_c x y rh fr fw fc fg lC cand).2.1) fw ((f_L_step_c x y rh fr fw fc fg lC cand).2.2.1) ((f_L_step_c x y rh fr fw fc fg lC cand).2.2.2.1) ps pg pr pd qp qt qf qo ct lE ((f_L_step_c x y rh fr fw fc fg lC cand).2.2.2.2.1) ((f_L_step_c x y rh fr fw fc fg lC cand).2.2.2.2.2) lim now was (nI sent) (nI qfi) (nI qsz)) (bI ((f_L_step_c x y rh fr fw fc fg lC cand).1))) (F0 m 21 ls [.int (nI v9)]) := by
    intro v9 hv9 H locs hP hD hS ls hl
    subst hv9
    have hjb9 : 0 ≤ j_L_step_c_9 y ∧ j_L_step_c_9 y ≤ 3 := by
      unfold j_L_step_c_9
      repeat' split
      all_goals (refine ⟨?_, ?_⟩ <;> omega)
    refine lv_istore (lv' := [(7, .int (nI (j_L_step_c_9 y))), (6, .int (nI (x % 10))), (0, .ref (ad 0)), (1, .int (nI 2)), (2, .int (nI x)), (3, .int (nI y)), (4, .ref (ad 22)), (5, .ref (ad 23))]) hx hb dL_step_21 hl (by decide) rfl (fun ls hl => ?_)
    refine lv_iload_n hx hb dL_step_23 rfl (lv_at hl 3 rfl) ?_
    refine lv_iconst (v := nI 2) hx hb dL_step_24 (by decide) ?_
    refine r_icmp_ge (tgt := 37) hx hb (by omega) (by omega) dL_step_25 (by decide) (fun _ => ?_) (fun c => absurd c (by omega))
    refine lv_iload_n hx hb dL_step_37 rfl (lv_at hl 3 rfl) ?_
    refine lv_iconst (v := nI 2) hx hb dL_step_38 (by decide) ?_
    refine r_icmp_ne (tgt := 127) hx hb (by omega) (by omega) dL_step_39 (by decide) (fun c => absurd c (by omega)) (fun _ => ?_)
    refine lv_iload_n hx hb dL_step_42 rfl (lv_at hl 5 rfl) ?_
    refine lv_iconst (v := nI 3) hx hb dL_step_43 (by decide) ?_
    refine r_irem hx hb (by omega) (by omega) (by omega) dL_step_44 ?_
    have K45 : ∀ v45 : Bool, j_L_step_c_45 y = v45 → ∀ (H : Heap) (locs : List Loc), va_P D vwCl (wC cI ad rc rl rh fr fw fc fg ps pg pr pd qp qt qf qo ct lE lC cand lim now was (nI sent) (nI qfi) (nI qsz)) H → va_D A (wC cI ad rc rl rh fr fw fc fg ps pg pr pd qp qt qf qo ct lE lC cand lim now was (nI sent) (nI qfi) (nI qsz)) → va_S A s.heap H locs → ∀ ls : Array Slot, lv_has ls 10 [(7, .int (nI (j_L_step_c_9 y))), (6, .int (nI (x % 10))), (0, .ref (ad 0)), (1, .int (nI 2)), (2, .int (nI x)), (3, .int (nI y)), (4, .ref (ad 22)), (5, .ref (ad 23))] → W p l e { frames := 5, cells := 0, slots := 0, locals := 116 } s m [.ref (ad 0), .int (nI 2), .int (nI x), .int (nI y), .ref (ad 22), .ref (ad 23)].toArray below meth c H locs 0 0 (QI below s A D [.ref (ad 0), .int (nI 2), .int (nI x), .int (nI y), .ref (ad 22), .ref (ad 23)] (wC cI ad rc rl rh ((f_L_step_c x y rh fr fw fc fg lC cand).2.1) fw ((f_L_step_c x y rh fr fw fc fg lC cand).2.2.1) ((f_L_step_c x y rh fr fw fc fg lC cand).2.2.2.1) ps pg pr pd qp qt qf qo ct lE ((f_L_step_c x y rh fr fw fc fg lC cand).2.2.2.2.1) ((f_L_step_c x y rh fr fw fc fg lC cand).2.2.2.2.2) lim now was (nI sent) (nI qfi) (nI qsz)) (bI ((f_L_step_c x y rh fr fw fc fg lC cand).1))) (F0 m 53 ls [.int (bI v45)]) := by
      intro v45 hv45 H locs hP hD hS ls hl
      subst hv45
      refine lv_istore (lv' := [(8, .int (bI (j_L_step_c_45 y))), (7, .int (nI (j_L_step_c_9 y))), (6, .int (nI (x % 10))), (0, .ref (ad 0)), (1, .int (nI 2)), (2, .int (nI x)), (3, .int (nI y)), (4, .ref (ad 22)), (5, .ref (ad 23))]) hx hb dL_step_53 hl (by decide) rfl (fun ls hl => ?_)
      refine lv_aload hx hb dL_step_55 (lv_at hl 8 rfl) ?_
      refine lv_iconst (v := nI 0) hx hb dL_step_57 (by decide) ?_
      refine r_iald hx hb hK hP 23 0 rfl rfl (by omega) (by decide) dL_step_58 ?_
      refine lv_iload hx hb dL_step_59 (lv_at hl 2 rfl) ?_
      refine fS_i (as := [.int (lC 0), .int (nI (x % 10))]) (rest := []) B hl.1 (c_L_isIn l D cI cZ (wC cI ad rc rl rh fr fw fc fg ps pg pr pd qp qt qf qo ct lE lC cand lim now was (nI sent) (nI qfi) (nI qsz)) (lC 0) (x % 10) (by omega)) (l_RL_28 hts ⟨rfl, rfl⟩ ⟨Nat.le_of_ble_eq_true rfl, Nat.le_of_ble_eq_true rfl⟩) m_8_12 rfl rfl hP hD hS hA rfl (Nat.le_of_ble_eq_true rfl) dL_step_61 (fun H locs hP hD hS => ?_)
      refine lv_istore (lv' := [(9, .int (bI (f_L_isIn (lC 0) (x % 10)))), (8, .int (bI (j_L_step_c_45 y))), (7, .int (nI (j_L_step_c_9 y))), (6, .int (nI (x % 10))), (0, .ref (ad 0)), (1, .int (nI 2)), (2, .int (nI x)), (3, .int (nI y)), (4, .ref (ad 22)), (5, .ref (ad 23))]) hx hb dL_step_64 hl (by decide) rfl (fun ls hl => ?_)
      refine lv_aload hx hb dL_step_66 (lv_at hl 9 rfl) ?_
      refine lv_iconst (v := nI 0) hx hb dL_step_68 (by decide) ?_
      refine lv_iload hx hb dL_step_69 (lv_at hl 1 rfl) ?_
      have K71 : ∀ v71 : Int32, j_L_step_c_71 x y lC = v71 → ∀ (H : Heap) (locs : List Loc), va_P D vwCl (wC cI ad rc rl rh fr fw fc fg ps pg pr pd qp qt qf qo ct lE lC cand lim now was (nI sent) (nI qfi) (nI qsz)) H → va_D A (wC cI ad rc rl rh fr fw fc fg ps pg pr pd qp qt qf qo ct lE lC cand lim now was (nI sent) (nI qfi) (nI qsz)) → va_S A s.heap H locs → ∀ ls : Array Slot, lv_has ls 10 [(9, .int (bI (f_L_isIn (lC 0) (x % 10)))), (8, .int (bI (j_L_step_c_45 y))), (7, .int (nI (j_L_step_c_9 y))), (6, .int (nI (x % 10))), (0, .ref (ad 0)), (1, .int (nI 2)), (2, .int (nI x)), (3, .int (nI y)), (4, .ref (ad 22)), (5, .ref (ad 23))] → W p l e { frames := 5, cells := 0, slots := 0, locals := 116 } s m [.ref (ad 0), .int (nI 2), .int (nI x), .int (nI y), .ref (ad 22), .ref (ad 23)].toArray below meth c H locs 0 0 (QI below s A D [.ref (ad 0), .int (nI 2), .int (nI x), .int (nI y), .ref (ad 22), .ref (ad 23)] (wC cI ad rc rl rh ((f_L_step_c x y rh fr fw fc fg lC cand).2.1) fw ((f_L_step_c x y rh fr fw fc fg lC cand).2.2.1) ((f_L_step_c x y rh fr fw fc fg lC cand).2.2.2.1) ps pg pr pd qp qt qf qo ct lE ((f_L_step_c x y rh fr fw fc fg lC cand).2.2.2.2.1) ((f_L_step_c x y rh fr fw fc fg lC cand).2.2.2.2.2) lim now was (nI sent) (nI qfi) (nI qsz)) (bI ((f_L_step_c x y rh fr fw fc fg lC cand).1))) (F0 m 97 ls [.int v71, .int (nI 0), .ref (ad 23)]) := by
        intro v71 hv71 H locs hP hD hS ls hl
        subst hv71
        refine r_iast hx hb hK hP hD hS 23 0 rfl rfl (by omega) (by decide) dL_step_97 (fun H locs hP hD hS => ?_)
        have hP : va_P D vwCl (wC cI ad rc rl rh fr fw fc fg ps pg pr pd qp qt qf qo ct lE (upd lC 0 (j_L_step_c_71 x y lC)) cand lim now was (nI sent) (nI qfi) (nI qsz)) H := hP
        have hD : va_D A (wC cI ad rc rl rh fr fw fc fg ps pg pr pd qp qt qf qo ct lE (upd lC 0 (j_L_step_c_71 x y lC)) cand lim now was (nI sent) (nI qfi) (nI qsz)) := hD
        refine lv_aload_n hx hb dL_step_98 rfl (lv_at hl 4 rfl) ?_
        refine lv_iload hx hb dL_step_99 (lv_at hl 3 rfl) ?_
        refine lv_iload hx hb dL_step_101 (lv_at hl 1 rfl) ?_
        refine fV_i (ci := 5) (as := [.int (nI (x % 10)), .int (bI (j_L_step_c_45 y))]) (rest := []) B hl.1 (c_X5_setCandidate l D cI cZ ad rc rl rh fr fw fc fg ps pg pr pd qp qt qf qo ct lE (upd lC 0 (j_L_step_c_71 x y lC)) cand lim now was sent qfi qsz (x % 10) (j_L_step_c_45 y) (by omega)) rfl (l_RL_116 hts ⟨rfl, rfl⟩ ⟨Nat.le_of_ble_eq_true rfl, Nat.le_of_ble_eq_true rfl⟩) m_8_15 m_8_16 rfl rfl hP hD hS hA 0 rfl wfC (Nat.le_of_ble_eq_true rfl) dL_step_103 (fun H locs hP hD hS => ?_)
        refine lv_iload hx hb dL_step_106 (lv_at hl 1 rfl) ?_
        refine lv_iload hx hb dL_step_108 (lv_at hl 0 rfl) ?_
        have K110 : ∀ v110 : Bool, j_L_step_c_110 x y lC = v110 → ∀ (H : Heap) (locs : List Loc), va_P D vwCl (wC cI ad rc rl rh ((f_X5_setCandidate (x % 10) (j_L_step_c_45 y) rh fr fw fc fg cand).2.1) fw ((f_X5_setCandidate (x % 10) (j_L_step_c_45 y) rh fr fw fc fg cand).2.2.1) ((f_X5_setCandidate (x % 10) (j_L_step_c_45 y) rh fr fw fc fg cand).2.2.2.1) ps pg pr pd qp qt qf qo ct lE (upd lC 0 (j_L_step_c_71 x y lC)) ((f_X5_setCandidate (x % 10) (j_L_step_c_45 y) rh fr fw fc fg cand).2.2.2.2) lim now was (nI sent) (nI qfi) (nI qsz)) H → va_D A (wC cI ad rc rl rh ((f_X5_setCandidate (x % 10) (j_L_step_c_45 y) rh fr fw fc fg cand).2.1) fw ((f_X5_setCandidate (x % 10) (j_L_step_c_45 y) rh fr fw fc fg cand).2.2.1) ((f_X5_setCandidate (x % 10) (j_L_step_c_45 y) rh fr fw fc fg cand).2.2.2.1) ps pg pr pd qp qt qf qo ct lE (upd lC 0 (j_L_step_c_71 x y lC)) ((f_X5_setCandidate (x % 10) (j_L_step_c_45 y) rh fr fw fc fg cand).2.2.2.2) lim now was (nI sent) (nI qfi) (nI qsz)) → va_S A s.heap H locs → ∀ ls : Array Slot, lv_has ls 10 [(9, .int (bI (f_L_isIn (lC 0) (x % 10)))), (8, .int (bI (j_L_step_c_45 y))), (7, .int (nI (j_L_step_c_9 y))), (6, .int (nI (x % 10))), (0, .ref (ad 0)), (1, .int (nI 2)), (2, .int (nI x)), (3, .int (nI y)), (4, .ref (ad 22)), (5, .ref (ad 23))] → W p l e { frames := 5, cells := 0, slots := 0, locals := 116 } s m [.ref (ad 0), .int (nI 2), .int (nI x), .int (nI y), .ref (ad 22), .ref (ad 23)].toArray below meth c H locs 0 0 (QI below s A D [.ref (ad 0), .int (nI 2), .int (nI x), .int (nI y), .ref (ad 22), .ref (ad 23)] (wC cI ad rc rl rh ((f_L_step_c x y rh fr fw fc fg lC cand).2.1) fw ((f_L_step_c x y rh fr fw fc fg lC cand).2.2.1) ((f_L_step_c x y rh fr fw fc fg lC cand).2.2.2.1) ps pg pr pd qp qt qf qo ct lE ((f_L_step_c x y rh fr fw fc fg lC cand).2.2.2.2.1) ((f_L_step_c x y rh fr fw fc fg lC cand).2.2.2.2.2) lim now was (nI sent) (nI qfi) (nI qsz)) (bI ((f_L_step_c x y rh fr fw fc fg lC cand).1))) (F0 m 118 ls [.int (bI v110), .int (bI ((f_X5_setCandidate (x % 10) (j_L_step_c_45 y) rh fr fw fc fg cand).1))]) := by
          intro v110 hv110 H locs hP hD hS ls hl
          subst hv110
          have K118 : ∀ v118 : Bool, j_L_step_c_118 x y rh fr fw fc fg lC cand = v118 → ∀ (H : Heap) (locs : List Loc), va_P D vwCl (wC cI ad rc rl rh ((f_X5_setCandidate (x % 10) (j_L_step_c_45 y) rh fr fw fc fg cand).2.1) fw ((f_X5_setCandidate (x % 10) (j_L_step_c_45 y) rh fr fw fc fg cand).2.2.1) ((f_X5_setCandidate (x % 10) (j_L_step_c_45 y) rh fr fw fc fg cand).2.2.2.1) ps pg pr pd qp qt qf qo ct lE (upd lC 0 (j_L_step_c_71 x y lC)) ((f_X5_setCandidate (x % 10) (j_L_step_c_45 y) rh fr fw fc fg cand).2.2.2.2) lim now was (nI sent) (nI qfi) (nI qsz)) H → va_D A (wC cI ad rc rl rh ((f_X5_setCandidate (x % 10) (j_L_step_c_45 y) rh fr fw fc fg cand).2.1) fw ((f_X5_setCandidate (x % 10) (j_L_step_c_45 y) rh fr fw fc fg cand).2.2.1) ((f_X5_setCandidate (x % 10) (j_L_step_c_45 y) rh fr fw fc fg cand).2.2.2.1) ps pg pr pd qp qt qf qo ct lE (upd lC 0 (j_L_step_c_71 x y lC)) ((f_X5_setCandidate (x % 10) (j_L_step_c_45 y) rh fr fw fc fg cand).2.2.2.2) lim now was (nI sent) (nI qfi) (nI qsz)) → va_S A s.heap H locs → ∀ ls : Array Slot, lv_has ls 10 [(9, .int (bI (f_L_isIn (lC 0) (x % 10)))), (8, .int (bI (j_L_step_c_45 y))), (7, .int (nI (j_L_step_c_9 y))), (6, .int (nI (x % 10))), (0, .ref (ad 0)), (1, .int (nI 2)), (2, .int (nI x)), (3, .int (nI y)), (4, .ref (ad 22)), (5, .ref (ad 23))] → W p l e { frames := 5, cells := 0, slots := 0, locals := 116 } s m [.ref (ad 0), .int (nI 2), .int (nI x), .int (nI y), .ref (ad 22), .ref (ad 23)].toArray below meth c H locs 0 0 (QI below s A D [.ref (ad 0), .int (nI 2), .int (nI x), .int (nI y), .ref (ad 22), .ref (ad 23)] (wC cI ad rc rl rh ((f_L_step_c x y rh fr fw fc fg lC cand).2.1) fw ((f_L_step_c x y rh fr fw fc fg lC cand).2.2.1) ((f_L_step_c x y rh fr fw fc fg lC cand).2.2.2.1) ps pg pr pd qp qt qf qo ct lE ((f_L_step_c x y rh fr fw fc fg lC cand).2.2.2.2.1) ((f_L_step_c x y rh fr fw fc fg lC cand).2.2.2.2.2) lim now was (nI sent) (nI qfi) (nI qsz)) (bI ((f_L_step_c x y rh fr fw fc fg lC cand).1))) (F0 m 126 ls [.int (bI v118)]) := by
            intro v118 hv118 H locs hP hD hS ls hl
            subst hv118
            exact eZ B hP hS (bI_nar _) (by simp only [hf, bI_t, bI_f]) (by simp only [hf]) dL_step_126
          have hj118 := j_L_step_c_118.eq_1 x y rh fr fw fc fg lC cand
          refine r_icmp_ne_b (tgt := 125) hx hb dL_step_118 (by decide) (fun c1 => ?_) (fun c1 => ?_)
          · have hj118 := hj118.trans (if_neg c1)
            refine lv_iconst (v := nI 0) hx hb dL_step_125 (by decide) ?_
            exact K118 _ hj118 _ _ hP hD hS _ hl
          · have hj118 := hj118.trans (if_pos c1)
            refine lv_iconst (v := nI 1) hx hb dL_step_121 (by decide) ?_
            refine lv_goto (tgt := 126) hx hb dL_step_122 (by decide) ?_
            exact K118 _ hj118 _ _ hP hD hS _ hl
        have hj110 := j_L_step_c_110.eq_1 x y lC
        refine r_icmp_eq_b (tgt := 117) hx hb dL_step_110 (by decide) (fun c2 => ?_) (fun c2 => ?_)
        · have hj110 := hj110.trans (if_pos c2)
          refine lv_iconst (v := nI 0) hx hb dL_step_117 (by decide) ?_
          exact K110 _ hj110 _ _ hP hD hS _ hl
        · have hj110 := hj110.trans (if_neg c2)
          refine lv_iconst (v := nI 1) hx hb dL_step_113 (by decide) ?_
          refine lv_goto (tgt := 118) hx hb dL_step_114 (by decide) ?_
          exact K110 _ hj110 _ _ hP hD hS _ hl
      have hj71 := j_L_step_c_71.eq_1 x y lC
      refine r_if_eq_b (tgt := 86) hx hb dL_step_71 (by decide) (fun c3 => ?_) (fun c3 => ?_)
      · have hj71 := hj71.trans (if_neg c3)
        refine lv_aload hx hb dL_step_86 (lv_at hl 9 rfl) ?_
        refine lv_iconst (v := nI 0) hx hb dL_step_88 (by decide) ?_
        refine r_iald hx hb hK hP 23 0 rfl rfl (by omega) (by decide) dL_step_89 ?_
        refine lv_iconst (v := nI 1) hx hb dL_step_90 (by decide) ?_
        refine lv_iload hx hb dL_step_91 (lv_at hl 3 rfl) ?_
        refine lv_ishl hx hb dL_step_93 ?_
        refine lv_iconst (v := -1) hx hb dL_step_94 (by decide) ?_
        refine lv_ixor hx hb dL_step_95 ?_
        refine lv_iand hx hb dL_step_96 ?_
        exact K71 _ hj71 _ _ hP hD hS _ hl
      · have hj71 := hj71.trans (if_pos c3)
        refine lv_aload hx hb dL_step_74 (lv_at hl 9 rfl) ?_
        refine lv_iconst (v := nI 0) hx hb dL_step_76 (by decide) ?_
        refine r_iald hx hb hK hP 23 0 rfl rfl (by omega) (by decide) dL_step_77 ?_
        refine lv_iconst (v := nI 1) hx hb dL_step_78 (by decide) ?_
        refine lv_iload hx hb dL_step_79 (lv_at hl 3 rfl) ?_
        refine lv_ishl hx hb dL_step_81 ?_
        refine lv_ior hx hb dL_step_82 ?_
        refine lv_goto (tgt := 97) hx hb dL_step_83 (by decide) ?_
        exact K71 _ hj71 _ _ hP hD hS _ hl
    have hj45 := j_L_step_c_45.eq_1 y
    refine r_if_le (tgt := 52) hx hb (by omega) dL_step_45 (by decide) (fun c4 => ?_) (fun c4 => ?_)
    · have hj45 := hj45.trans (if_pos c4)
      refine lv_iconst (v := nI 0) hx hb dL_step_52 (by decide) ?_
      exact K45 _ hj45 _ _ hP hD hS _ hl
    · have hj45 := hj45.trans (if_neg c4)
      refine lv_iconst (v := nI 1) hx hb dL_step_48 (by decide) ?_
      refine lv_goto (tgt := 53) hx hb dL_step_49 (by decide) ?_
      exact K45 _ hj45 _ _ hP hD hS _ hl
  have hj9 := j_L_step_c_9.eq_1 y
  refine r_if_ne (tgt := 16) hx hb (by omega) dL_step_9 (by decide) (fun c5 => ?_) (fun c5 => ?_)
  · have hj9 := hj9.trans (if_neg c5)
    refine lv_iload_n hx hb dL_step_16 rfl (lv_at hl 4 rfl) ?_
    refine lv_iconst (v := nI 2) hx hb dL_step_17 (by decide) ?_
    refine r_idiv hx hb (by omega) (by omega) (by omega) dL_step_18 ?_
    refine lv_iconst (v := nI 4) hx hb dL_step_19 (by decide) ?_
    refine r_irem hx hb (by omega) (by omega) (by omega) dL_step_20 ?_
    exact K9 _ hj9 _ _ hP hD hS _ hl
  · have hj9 := hj9.trans (if_pos c5)
    refine lv_iconst (v := nI 0) hx hb dL_step_12 (by decide) ?_
    refine lv_goto (tgt := 21) hx hb dL_step_13 (by decide) ?_
    exact K9 _ hj9 _ _ hP hD hS _ hl
def j_L_step_j_9 (y : Nat) : Nat :=
  if (y % 2) = 0 then 0 else (y / 2) % 4
def f_L_step_j (x : Nat) (y : Nat) (rh : Nat → Int32) (fr : Nat → Int32) (fw : Nat → Int32) (fc : Nat → Int32) (fg : Nat → Int32) (ct : Nat → Int32) (lC : Nat → Int32) (now : Int32) : Bool × (Nat → Int32) × (Nat → Int32) × (Nat → Int32) × (Nat → Int32) × (Nat → Int32) :=
  ((f_L_joins (x % 10) (j_L_step_j_9 y) rh fr fw fc fg ct lC now).1, (f_L_joins (x % 10) (j_L_step_j_9 y) rh fr fw fc fg ct lC now).2.1, (f_L_joins (x % 10) (j_L_step_j_9 y) rh fr fw fc fg ct lC now).2.2.1, (f_L_joins (x % 10) (j_L_step_j_9 y) rh fr fw fc fg ct lC now).2.2.2.1, (f_L_joins (x % 10) (j_L_step_j_9 y) rh fr fw fc fg ct lC now).2.2.2.2.1, (f_L_joins (x % 10) (j_L_step_j_9 y) rh fr fw fc fg ct lC now).2.2.2.2.2)
set_option maxHeartbeats 4000000 in
set_option maxRecDepth 100000 in
theorem c_L_step_j (l : Launch) (D : va_G) (cI cZ : ClassId) (ad : Nat → Nat) (rc rl rh fr fw fc fg ps pg pr pd qp qt qf qo ct lE lC : Nat → Int32) (cand : Int32) (lim : Int32) (now : Int32) (was : Int32) (sent : Nat) (qfi : Nat) (qsz : Nat) (wh : Nat) (x : Nat) (y : Nat) (hwh : wh < 13) (hx : x < 1073741824) (hy : y < 1073741824) (hwl : 3 ≤ wh) (hwh : wh ≤ 5) (hcs : ∀ g_ : Nat, g_ < 4 → lC (1 + g_) = fw g_) : MI l yL_step cL_step 10 .boolean { frames := 7, cells := 0, slots := 0, locals := 161 } D (TY cI cZ) [.ref (ad 0), .int (nI wh), .int (nI x), .int (nI y), .ref (ad 22), .ref (ad 23)] (wC cI ad rc rl rh fr fw fc fg ps pg pr pd qp qt qf qo ct lE lC cand lim now was (nI sent) (nI qfi) (nI qsz)) (wC cI ad rc rl rh fr ((f_L_step_j x y rh fr fw fc fg ct lC now).2.1) ((f_L_step_j x y rh fr fw fc fg ct lC now).2.2.1) ((f_L_step_j x y rh fr fw fc fg ct lC now).2.2.2.1) ps pg pr pd qp qt qf qo ((f_L_step_j x y rh fr fw fc fg ct lC now).2.2.2.2.1) lE ((f_L_step_j x y rh fr fw fc fg ct lC now).2.2.2.2.2) cand lim now was (nI sent) (nI qfi) (nI qsz)) (bI ((f_L_step_j x y rh fr fw fc fg ct lC now).1)) := by
  refine MI.mk ⟨rfl, rfl⟩ (by decide +kernel) (Nat.le_of_ble_eq_true rfl) ?_
  intro p e s m below meth c A ls B hA hP hD hS hl
  have hx := B.1
  have hb := B.2.1
  have hts := B.2.2.2.2.2.1
  have hN := B.2.2.2.2.2.2.2.1
  have hK := B.2.2.2.2.2.2.2.2.1
  have hl : lv_has ls 10 [(0, .ref (ad 0)), (1, .int (nI wh)), (2, .int (nI x)), (3, .int (nI y)), (4, .ref (ad 22)), (5, .ref (ad 23))] := hl
  have hf := f_L_step_j.eq_1 x y rh fr fw fc fg ct lC now
  refine lv_iload_n hx hb dL_step_0 rfl (lv_at hl 2 rfl) ?_
  refine lv_bipush (v := nI 10) hx hb dL_step_1 (by decide) ?_
  refine r_irem hx hb (by omega) (by omega) (by omega) dL_step_3 ?_
  refine lv_istore (lv' := [(6, .int (nI (x % 10))), (0, .ref (ad 0)), (1, .int (nI wh)), (2, .int (nI x)), (3, .int (nI y)), (4, .ref (ad 22)), (5, .ref (ad 23))]) hx hb dL_step_4 hl (by decide) rfl (fun ls hl => ?_)
  refine lv_iload_n hx hb dL_step_6 rfl (lv_at hl 4 rfl) ?_
  refine lv_iconst (v := nI 2) hx hb dL_step_7 (by decide) ?_
  refine r_irem hx hb (by omega) (by omega) (by omega) dL_step_8 ?_
  have K9 : ∀ v9 : Nat, j_L_step_j_9 y = v9 → ∀ (H : Heap) (locs : List Loc), va_P D vwCl (wC cI ad rc rl rh fr fw fc fg ps pg pr pd qp qt qf qo ct lE lC cand lim now was (nI sent) (nI qfi) (nI qsz)) H → va_D A (wC cI ad rc rl rh fr fw fc fg ps pg pr pd qp qt qf qo ct lE lC cand lim now was (nI sent) (nI qfi) (nI qsz)) → va_S A s.heap H locs → ∀ ls : Array Slot, lv_has ls 10 [(6, .int (nI (x % 10))), (0, .ref (ad 0)), (1, .int (nI wh)), (2, .int (nI x)), (3, .int (nI y)), (4, .ref (ad 22)), (5, .ref (ad 23))] → W p l e { frames := 7, cells := 0, slots := 0, locals := 161 } s m [.ref (ad 0), .int (nI wh), .int (nI x), .int (nI y), .ref (ad 22), .ref (ad 23)].toArray below meth c H locs 0 0 (QI below s A D [.ref (ad 0), .int (nI wh), .int (nI x), .int (nI y), .ref (ad 22), .ref (ad 23)] (wC cI ad rc rl rh fr ((f_L_step_j x y rh fr fw fc fg ct lC now).2.1) ((f_L_step_j x y rh fr fw fc fg ct lC now).2.2.1) ((f_L_step_j x y rh fr fw fc fg ct lC now).2.2.2.1) ps pg pr pd qp qt qf qo ((f_L_step_j x y rh fr fw fc fg ct lC now).2.2.2.2.1) lE ((f_L_step_j x y rh fr fw fc fg ct lC now).2.2.2.2.2) cand lim now was (nI sent) (nI qfi) (nI qsz)) (bI ((f_L_step_j x y rh fr fw fc fg ct lC now).1))) (F0 m 21 ls [.int (nI v9)]) := by
    intro v9 hv9 H locs hP hD hS ls hl
    subst hv9
    have hjb9 : 0 ≤ j_L_step_j_9 y ∧ j_L_step_j_9 y ≤ 3 := by
      unfold j_L_step_j_9
      repeat' split
      all_goals (refine ⟨?_, ?_⟩ <;> omega)
    refine lv_istore (lv' := [(7, .int (nI (j_L_step_j_9 y))), (6, .int (nI (x % 10))), (0, .ref (ad 0)), (1, .int (nI wh)), (2, .int (nI x)), (3, .int (nI y)), (4, .ref (ad 22)), (5, .ref (ad 23))]) hx hb dL_step_21 hl (by decide) rfl (fun ls hl => ?_)
    refine lv_iload_n hx hb dL_step_23 rfl (lv_at hl 3 rfl) ?_
    refine lv_iconst (v := nI 2) hx hb dL_step_24 (by decide) ?_
    refine r_icmp_ge (tgt := 37) hx hb (by omega) (by omega) dL_step_25 (by decide) (fun _ => ?_) (fun c => absurd c (by omega))
    refine lv_iload_n hx hb dL_step_37 rfl (lv_at hl 3 rfl) ?_
    refine lv_iconst (v := nI 2) hx hb dL_step_38 (by decide) ?_
    refine r_icmp_ne (tgt := 127) hx hb (by omega) (by omega) dL_step_39 (by decide) (fun _ => ?_) (fun c => absurd c (by omega))
    refine lv_iload_n hx hb dL_step_127 rfl (lv_at hl 3 rfl) ?_
    refine lv_bipush (v := nI 6) hx hb dL_step_128 (by decide) ?_
    refine r_icmp_ge (tgt := 144) hx hb (by omega) (by omega) dL_step_130 (by decide) (fun c => absurd c (by omega)) (fun _ => ?_)
    refine lv_aload_n hx hb dL_step_133 rfl (lv_at hl 2 rfl) ?_
    refine lv_aload hx hb dL_step_134 (lv_at hl 7 rfl) ?_
    refine lv_iload hx hb dL_step_136 (lv_at hl 1 rfl) ?_
    refine lv_iload hx hb dL_step_138 (lv_at hl 0 rfl) ?_
    refine fS_i (as := [.ref (ad 0), .ref (ad 23), .int (nI (x % 10)), .int (nI (j_L_step_j_9 y))]) (rest := []) B hl.1 (c_L_joins l D cI cZ ad rc rl rh fr fw fc fg ps pg pr pd qp qt qf qo ct lE lC cand lim now was sent qfi qsz (x % 10) (j_L_step_j_9 y) (by omega) (by omega) (hcs _ (by omega))) (l_RL_120 hts ⟨rfl, rfl⟩ ⟨Nat.le_of_ble_eq_true rfl, Nat.le_of_ble_eq_true rfl⟩) m_9_5 rfl rfl hP hD hS hA wfC (Nat.le_of_ble_eq_true rfl) dL_step_140 (fun H locs hP hD hS => ?_)
    exact eZ B hP hS (bI_nar _) (by simp only [hf, bI_t, bI_f]) (by simp only [hf]) dL_step_143
  have hj9 := j_L_step_j_9.eq_1 y
  refine r_if_ne (tgt := 16) hx hb (by omega) dL_step_9 (by decide) (fun c1 => ?_) (fun c1 => ?_)
  · have hj9 := hj9.trans (if_neg c1)
    refine lv_iload_n hx hb dL_step_16 rfl (lv_at hl 4 rfl) ?_
    refine lv_iconst (v := nI 2) hx hb dL_step_17 (by decide) ?_
    refine r_idiv hx hb (by omega) (by omega) (by omega) dL_step_18 ?_
    refine lv_iconst (v := nI 4) hx hb dL_step_19 (by decide) ?_
    refine r_irem hx hb (by omega) (by omega) (by omega) dL_step_20 ?_
    exact K9 _ hj9 _ _ hP hD hS _ hl
  · have hj9 := hj9.trans (if_pos c1)
    refine lv_iconst (v := nI 0) hx hb dL_step_12 (by decide) ?_
    refine lv_goto (tgt := 21) hx hb dL_step_13 (by decide) ?_
    exact K9 _ hj9 _ _ hP hD hS _ hl
def j_L_step_p_9 (y : Nat) : Nat :=
  if (y % 2) = 0 then 0 else (y / 2) % 4
def j_L_step_p_154 (x : Nat) (y : Nat) : Nat :=
  if (y % 3) = 0 then 33 + (x % 50) else 1 + (x % 9)
def f_L_step_p (x : Nat) (y : Nat) (fw : Nat → Int32) (fc : Nat → Int32) (fg : Nat → Int32) (ct : Nat → Int32) (now : Int32) : Bool × (Nat → Int32) × (Nat → Int32) × (Nat → Int32) × Int32 :=
  ((f_L_passes (j_L_step_p_154 x y) fw fc fg ct now).1, (f_L_passes (j_L_step_p_154 x y) fw fc fg ct now).2.1, (f_L_passes (j_L_step_p_154 x y) fw fc fg ct now).2.2.1, (f_L_passes (j_L_step_p_154 x y) fw fc fg ct now).2.2.2.1, (f_L_passes (j_L_step_p_154 x y) fw fc fg ct now).2.2.2.2)
set_option maxHeartbeats 4000000 in
set_option maxRecDepth 100000 in
theorem c_L_step_p (l : Launch) (D : va_G) (cI cZ : ClassId) (ad : Nat → Nat) (rc rl rh fr fw fc fg ps pg pr pd qp qt qf qo ct lE lC : Nat → Int32) (cand : Int32) (lim : Int32) (now : Int32) (was : Int32) (sent : Nat) (qfi : Nat) (qsz : Nat) (x : Nat) (y : Nat) (hx : x < 1073741824) (hy : y < 1073741824) : MI l yL_step cL_step 10 .boolean { frames := 8, cells := 0, slots := 0, locals := 184 } D (TY cI cZ) [.ref (ad 0), .int (nI 6), .int (nI x), .int (nI y), .ref (ad 22), .ref (ad 23)] (wC cI ad rc rl rh fr fw fc fg ps pg pr pd qp qt qf qo ct lE lC cand lim now was (nI sent) (nI qfi) (nI qsz)) (wC cI ad rc rl rh fr fw ((f_L_step_p x y fw fc fg ct now).2.1) ((f_L_step_p x y fw fc fg ct now).2.2.1) ps pg pr pd qp qt qf qo ((f_L_step_p x y fw fc fg ct now).2.2.2.1) lE lC cand lim ((f_L_step_p x y fw fc fg ct now).2.2.2.2) was (nI sent) (nI qfi) (nI qsz)) (bI ((f_L_step_p x y fw fc fg ct now).1)) := by
  refine MI.mk ⟨rfl, rfl⟩ (by decide +kernel) (Nat.le_of_ble_eq_true rfl) ?_
  intro p e s m below meth c A ls B hA hP hD hS hl
  have hx := B.1
  have hb := B.2.1
  have hts := B.2.2.2.2.2.1
  have hN := B.2.2.2.2.2.2.2.1
  have hK := B.2.2.2.2.2.2.2.2.1
  have hl : lv_has ls 10 [(0, .ref (ad 0)), (1, .int (nI 6)), (2, .int (nI x)), (3, .int (nI y)), (4, .ref (ad 22)), (5, .ref (ad 23))] := hl
  have hf := f_L_step_p.eq_1 x y fw fc fg ct now
  refine lv_iload_n hx hb dL_step_0 rfl (lv_at hl 2 rfl) ?_
  refine lv_bipush (v := nI 10) hx hb dL_step_1 (by decide) ?_
  refine r_irem hx hb (by omega) (by omega) (by omega) dL_step_3 ?_
  refine lv_istore (lv' := [(6, .int (nI (x % 10))), (0, .ref (ad 0)), (1, .int (nI 6)), (2, .int (nI x)), (3, .int (nI y)), (4, .ref (ad 22)), (5, .ref (ad 23))]) hx hb dL_step_4 hl (by decide) rfl (fun ls hl => ?_)
  refine lv_iload_n hx hb dL_step_6 rfl (lv_at hl 4 rfl) ?_
  refine lv_iconst (v := nI 2) hx hb dL_step_7 (by decide) ?_
  refine r_irem hx hb (by omega) (by omega) (by omega) dL_step_8 ?_
  have K9 : ∀ v9 : Nat, j_L_step_p_9 y = v9 → ∀ (H : Heap) (locs : List Loc), va_P D vwCl (wC cI ad rc rl rh fr fw fc fg ps pg pr pd qp qt qf qo ct lE lC cand lim now was (nI sent) (nI qfi) (nI qsz)) H → va_D A (wC cI ad rc rl rh fr fw fc fg ps pg pr pd qp qt qf qo ct lE lC cand lim now was (nI sent) (nI qfi) (nI qsz)) → va_S A s.heap H locs → ∀ ls : Array Slot, lv_has ls 10 [(6, .int (nI (x % 10))), (0, .ref (ad 0)), (1, .int (nI 6)), (2, .int (nI x)), (3, .int (nI y)), (4, .ref (ad 22)), (5, .ref (ad 23))] → W p l e { frames := 8, cells := 0, slots := 0, locals := 184 } s m [.ref (ad 0), .int (nI 6), .int (nI x), .int (nI y), .ref (ad 22), .ref (ad 23)].toArray below meth c H locs 0 0 (QI below s A D [.ref (ad 0), .int (nI 6), .int (nI x), .int (nI y), .ref (ad 22), .ref (ad 23)] (wC cI ad rc rl rh fr fw ((f_L_step_p x y fw fc fg ct now).2.1) ((f_L_step_p x y fw fc fg ct now).2.2.1) ps pg pr pd qp qt qf qo ((f_L_step_p x y fw fc fg ct now).2.2.2.1) lE lC cand lim ((f_L_step_p x y fw fc fg ct now).2.2.2.2) was (nI sent) (nI qfi) (nI qsz)) (bI ((f_L_step_p x y fw fc fg ct now).1))) (F0 m 21 ls [.int (nI v9)]) := by
    intro v9 hv9 H locs hP hD hS ls hl
    subst hv9
    have hjb9 : 0 ≤ j_L_step_p_9 y ∧ j_L_step_p_9 y ≤ 3 := by
      unfold j_L_step_p_9
      repeat' split
      all_goals (refine ⟨?_, ?_⟩ <;> omega)
    refine lv_istore (lv' := [(7, .int (nI (j_L_step_p_9 y))), (6, .int (nI (x % 10))), (0, .ref (ad 0)), (1, .int (nI 6)), (2, .int (nI x)), (3, .int (nI y)), (4, .ref (ad 22)), (5, .ref (ad 23))]) hx hb dL_step_21 hl (by decide) rfl (fun ls hl => ?_)
    refine lv_iload_n hx hb dL_step_23 rfl (lv_at hl 3 rfl) ?_
    refine lv_iconst (v := nI 2) hx hb dL_step_24 (by decide) ?_
    refine r_icmp_ge (tgt := 37) hx hb (by omega) (by omega) dL_step_25 (by decide) (fun _ => ?_) (fun c => absurd c (by omega))
    refine lv_iload_n hx hb dL_step_37 rfl (lv_at hl 3 rfl) ?_
    refine lv_iconst (v := nI 2) hx hb dL_step_38 (by decide) ?_
    refine r_icmp_ne (tgt := 127) hx hb (by omega) (by omega) dL_step_39 (by decide) (fun _ => ?_) (fun c => absurd c (by omega))
    refine lv_iload_n hx hb dL_step_127 rfl (lv_at hl 3 rfl) ?_
    refine lv_bipush (v := nI 6) hx hb dL_step_128 (by decide) ?_
    refine r_icmp_ge (tgt := 144) hx hb (by omega) (by omega) dL_step_130 (by decide) (fun _ => ?_) (fun c => absurd c (by omega))
    refine lv_iload_n hx hb dL_step_144 rfl (lv_at hl 3 rfl) ?_
    refine lv_bipush (v := nI 6) hx hb dL_step_145 (by decide) ?_
    refine r_icmp_ne (tgt := 177) hx hb (by omega) (by omega) dL_step_147 (by decide) (fun c => absurd c (by omega)) (fun _ => ?_)
    refine lv_aload_n hx hb dL_step_150 rfl (lv_at hl 2 rfl) ?_
    refine lv_iload_n hx hb dL_step_151 rfl (lv_at hl 5 rfl) ?_
    refine lv_iconst (v := nI 3) hx hb dL_step_152 (by decide) ?_
    refine r_irem hx hb (by omega) (by omega) (by omega) dL_step_153 ?_
    have K154 : ∀ v154 : Nat, j_L_step_p_154 x y = v154 → ∀ (H : Heap) (locs : List Loc), va_P D vwCl (wC cI ad rc rl rh fr fw fc fg ps pg pr pd qp qt qf qo ct lE lC cand lim now was (nI sent) (nI qfi) (nI qsz)) H → va_D A (wC cI ad rc rl rh fr fw fc fg ps pg pr pd qp qt qf qo ct lE lC cand lim now was (nI sent) (nI qfi) (nI qsz)) → va_S A s.heap H locs → ∀ ls : Array Slot, lv_has ls 10 [(7, .int (nI (j_L_step_p_9 y))), (6, .int (nI (x % 10))), (0, .ref (ad 0)), (1, .int (nI 6)), (2, .int (nI x)), (3, .int (nI y)), (4, .ref (ad 22)), (5, .ref (ad 23))] → W p l e { frames := 8, cells := 0, slots := 0, locals := 184 } s m [.ref (ad 0), .int (nI 6), .int (nI x), .int (nI y), .ref (ad 22), .ref (ad 23)].toArray below meth c H locs 0 0 (QI below s A D [.ref (ad 0), .int (nI 6), .int (nI x), .int (nI y), .ref (ad 22), .ref (ad 23)] (wC cI ad rc rl rh fr fw ((f_L_step_p x y fw fc fg ct now).2.1) ((f_L_step_p x y fw fc fg ct now).2.2.1) ps pg pr pd qp qt qf qo ((f_L_step_p x y fw fc fg ct now).2.2.2.1) lE lC cand lim ((f_L_step_p x y fw fc fg ct now).2.2.2.2) was (nI sent) (nI qfi) (nI qsz)) (bI ((f_L_step_p x y fw fc fg ct now).1))) (F0 m 173 ls [.int (nI v154), .ref (ad 0)]) := by
      intro v154 hv154 H locs hP hD hS ls hl
      subst hv154
      have hjb154 : 1 ≤ j_L_step_p_154 x y ∧ j_L_step_p_154 x y ≤ 82 := by
        unfold j_L_step_p_154
        repeat' split
        all_goals (refine ⟨?_, ?_⟩ <;> omega)
      refine fS_i (as := [.ref (ad 0), .int (nI (j_L_step_p_154 x y))]) (rest := []) B hl.1 (c_L_passes l D cI cZ ad rc rl rh fr fw fc fg ps pg pr pd qp qt qf qo ct lE lC cand lim now was sent qfi qsz (j_L_step_p_154 x y) (by omega) (by first | assumption | omega)) (l_RL_123 hts ⟨rfl, rfl⟩ ⟨Nat.le_of_ble_eq_true rfl, Nat.le_of_ble_eq_true rfl⟩) m_12_8 rfl rfl hP hD hS hA wfC (Nat.le_of_ble_eq_true rfl) dL_step_173 (fun H locs hP hD hS => ?_)
      exact eZ B hP hS (bI_nar _) (by simp only [hf, bI_t, bI_f]) (by simp only [hf]) dL_step_176
    have hj154 := j_L_step_p_154.eq_1 x y
    refine r_if_ne (tgt := 167) hx hb (by omega) dL_step_154 (by decide) (fun c1 => ?_) (fun c1 => ?_)
    · have hj154 := hj154.trans (if_neg c1)
      refine lv_iconst (v := nI 1) hx hb dL_step_167 (by decide) ?_
      refine lv_iload_n hx hb dL_step_168 rfl (lv_at hl 4 rfl) ?_
      refine lv_bipush (v := nI 9) hx hb dL_step_169 (by decide) ?_
      refine r_irem hx hb (by omega) (by omega) (by omega) dL_step_171 ?_
      refine r_iadd hx hb dL_step_172 ?_
      exact K154 _ hj154 _ _ hP hD hS _ hl
    · have hj154 := hj154.trans (if_pos c1)
      refine lv_bipush (v := nI 33) hx hb dL_step_157 (by decide) ?_
      refine lv_iload_n hx hb dL_step_159 rfl (lv_at hl 4 rfl) ?_
      refine lv_bipush (v := nI 50) hx hb dL_step_160 (by decide) ?_
      refine r_irem hx hb (by omega) (by omega) (by omega) dL_step_162 ?_
      refine r_iadd hx hb dL_step_163 ?_
      refine lv_goto (tgt := 173) hx hb dL_step_164 (by decide) ?_
      exact K154 _ hj154 _ _ hP hD hS _ hl
  have hj9 := j_L_step_p_9.eq_1 y
  refine r_if_ne (tgt := 16) hx hb (by omega) dL_step_9 (by decide) (fun c2 => ?_) (fun c2 => ?_)
  · have hj9 := hj9.trans (if_neg c2)
    refine lv_iload_n hx hb dL_step_16 rfl (lv_at hl 4 rfl) ?_
    refine lv_iconst (v := nI 2) hx hb dL_step_17 (by decide) ?_
    refine r_idiv hx hb (by omega) (by omega) (by omega) dL_step_18 ?_
    refine lv_iconst (v := nI 4) hx hb dL_step_19 (by decide) ?_
    refine r_irem hx hb (by omega) (by omega) (by omega) dL_step_20 ?_
    exact K9 _ hj9 _ _ hP hD hS _ hl
  · have hj9 := hj9.trans (if_pos c2)
    refine lv_iconst (v := nI 0) hx hb dL_step_12 (by decide) ?_
    refine lv_goto (tgt := 21) hx hb dL_step_13 (by decide) ?_
    exact K9 _ hj9 _ _ hP hD hS _ hl
def j_L_step_t_9 (y : Nat) : Nat :=
  if (y % 2) = 0 then 0 else (y / 2) % 4
def j_L_step_t_193 (lim : Int32) : Bool :=
  if lim < (nI 1) then false else true
def f_L_step_t (y : Nat) (lim : Int32) : Bool × Int32 :=
  (j_L_step_t_193 lim, nI (1 + (y % 4)))
set_option maxHeartbeats 4000000 in
set_option maxRecDepth 100000 in
theorem c_L_step_t (l : Launch) (D : va_G) (cI cZ : ClassId) (ad : Nat → Nat) (rc rl rh fr fw fc fg ps pg pr pd qp qt qf qo ct lE lC : Nat → Int32) (cand : Int32) (lim : Int32) (now : Int32) (was : Int32) (sent : Nat) (qfi : Nat) (qsz : Nat) (x : Nat) (y : Nat) (hx : x < 1073741824) (hy : y < 1073741824) : MI l yL_step cL_step 10 .boolean { frames := 1, cells := 0, slots := 0, locals := 22 } D (TY cI cZ) [.ref (ad 0), .int (nI 7), .int (nI x), .int (nI y), .ref (ad 22), .ref (ad 23)] (wC cI ad rc rl rh fr fw fc fg ps pg pr pd qp qt qf qo ct lE lC cand lim now was (nI sent) (nI qfi) (nI qsz)) (wC cI ad rc rl rh fr fw fc fg ps pg pr pd qp qt qf qo ct lE lC cand ((f_L_step_t y lim).2) now was (nI sent) (nI qfi) (nI qsz)) (bI ((f_L_step_t y lim).1)) := by
  refine MI.mk ⟨rfl, rfl⟩ (by decide +kernel) (Nat.le_of_ble_eq_true rfl) ?_
  intro p e s m below meth c A ls B hA hP hD hS hl
  have hx := B.1
  have hb := B.2.1
  have hts := B.2.2.2.2.2.1
  have hN := B.2.2.2.2.2.2.2.1
  have hK := B.2.2.2.2.2.2.2.2.1
  have hl : lv_has ls 10 [(0, .ref (ad 0)), (1, .int (nI 7)), (2, .int (nI x)), (3, .int (nI y)), (4, .ref (ad 22)), (5, .ref (ad 23))] := hl
  have hf := f_L_step_t.eq_1 y lim
  refine lv_iload_n hx hb dL_step_0 rfl (lv_at hl 2 rfl) ?_
  refine lv_bipush (v := nI 10) hx hb dL_step_1 (by decide) ?_
  refine r_irem hx hb (by omega) (by omega) (by omega) dL_step_3 ?_
  refine lv_istore (lv' := [(6, .int (nI (x % 10))), (0, .ref (ad 0)), (1, .int (nI 7)), (2, .int (nI x)), (3, .int (nI y)), (4, .ref (ad 22)), (5, .ref (ad 23))]) hx hb dL_step_4 hl (by decide) rfl (fun ls hl => ?_)
  refine lv_iload_n hx hb dL_step_6 rfl (lv_at hl 4 rfl) ?_
  refine lv_iconst (v := nI 2) hx hb dL_step_7 (by decide) ?_
  refine r_irem hx hb (by omega) (by omega) (by omega) dL_step_8 ?_
  have K9 : ∀ v9 : Nat, j_L_step_t_9 y = v9 → ∀ (H : Heap) (locs : List Loc), va_P D vwCl (wC cI ad rc rl rh fr fw fc fg ps pg pr pd qp qt qf qo ct lE lC cand lim now was (nI sent) (nI qfi) (nI qsz)) H → va_D A (wC cI ad rc rl rh fr fw fc fg ps pg pr pd qp qt qf qo ct lE lC cand lim now was (nI sent) (nI qfi) (nI qsz)) → va_S A s.heap H locs → ∀ ls : Array Slot, lv_has ls 10 [(6, .int (nI (x % 10))), (0, .ref (ad 0)), (1, .int (nI 7)), (2, .int (nI x)), (3, .int (nI y)), (4, .ref (ad 22)), (5, .ref (ad 23))] → W p l e { frames := 1, cells := 0, slots := 0, locals := 22 } s m [.ref (ad 0), .int (nI 7), .int (nI x), .int (nI y), .ref (ad 22), .ref (ad 23)].toArray below meth c H locs 0 0 (QI below s A D [.ref (ad 0), .int (nI 7), .int (nI x), .int (nI y), .ref (ad 22), .ref (ad 23)] (wC cI ad rc rl rh fr fw fc fg ps pg pr pd qp qt qf qo ct lE lC cand ((f_L_step_t y lim).2) now was (nI sent) (nI qfi) (nI qsz)) (bI ((f_L_step_t y lim).1))) (F0 m 21 ls [.int (nI v9)]) := by
    intro v9 hv9 H locs hP hD hS ls hl
    subst hv9
    have hjb9 : 0 ≤ j_L_step_t_9 y ∧ j_L_step_t_9 y ≤ 3 := by
      unfold j_L_step_t_9
      repeat' split
      all_goals (refine ⟨?_, ?_⟩ <;> omega)
    refine lv_istore (lv' := [(7, .int (nI (j_L_step_t_9 y))), (6, .int (nI (x % 10))), (0, .ref (ad 0)), (1, .int (nI 7)), (2, .int (nI x)), (3, .int (nI y)), (4, .ref (ad 22)), (5, .ref (ad 23))]) hx hb dL_step_21 hl (by decide) rfl (fun ls hl => ?_)
    refine lv_iload_n hx hb dL_step_23 rfl (lv_at hl 3 rfl) ?_
    refine lv_iconst (v := nI 2) hx hb dL_step_24 (by decide) ?_
    refine r_icmp_ge (tgt := 37) hx hb (by omega) (by omega) dL_step_25 (by decide) (fun _ => ?_) (fun c => absurd c (by omega))
    refine lv_iload_n hx hb dL_step_37 rfl (lv_at hl 3 rfl) ?_
    refine lv_iconst (v := nI 2) hx hb dL_step_38 (by decide) ?_
    refine r_icmp_ne (tgt := 127) hx hb (by omega) (by omega) dL_step_39 (by decide) (fun _ => ?_) (fun c => absurd c (by omega))
    refine lv_iload_n hx hb dL_step_127 rfl (lv_at hl 3 rfl) ?_
    refine lv_bipush (v := nI 6) hx hb dL_step_128 (by decide) ?_
    refine r_icmp_ge (tgt := 144) hx hb (by omega) (by omega) dL_step_130 (by decide) (fun _ => ?_) (fun c => absurd c (by omega))
    refine lv_iload_n hx hb dL_step_144 rfl (lv_at hl 3 rfl) ?_
    refine lv_bipush (v := nI 6) hx hb dL_step_145 (by decide) ?_
    refine r_icmp_ne (tgt := 177) hx hb (by omega) (by omega) dL_step_147 (by decide) (fun _ => ?_) (fun c => absurd c (by omega))
    refine lv_iload_n hx hb dL_step_177 rfl (lv_at hl 3 rfl) ?_
    refine lv_bipush (v := nI 7) hx hb dL_step_178 (by decide) ?_
    refine r_icmp_ne (tgt := 202) hx hb (by omega) (by omega) dL_step_180 (by decide) (fun c => absurd c (by omega)) (fun _ => ?_)
    refine lv_aload_n hx hb dL_step_183 rfl (lv_at hl 2 rfl) ?_
    refine lv_iconst (v := nI 1) hx hb dL_step_184 (by decide) ?_
    refine lv_iload_n hx hb dL_step_185 rfl (lv_at hl 5 rfl) ?_
    refine lv_iconst (v := nI 4) hx hb dL_step_186 (by decide) ?_
    refine r_irem hx hb (by omega) (by omega) (by omega) dL_step_187 ?_
    refine r_iadd hx hb dL_step_188 ?_
    refine fV_i (ci := 5) (as := [.int (nI (1 + (y % 4)))]) (rest := []) B hl.1 (c_X5_setLimit l D cI cZ ad rc rl rh fr fw fc fg ps pg pr pd qp qt qf qo ct lE lC cand lim now was sent qfi qsz (1 + (y % 4)) (by omega) (by first | assumption | omega)) rfl (l_RL_127 hts ⟨rfl, rfl⟩ ⟨Nat.le_of_ble_eq_true rfl, Nat.le_of_ble_eq_true rfl⟩) m_13_8 m_13_9 rfl rfl hP hD hS hA 0 rfl wfC (Nat.le_of_ble_eq_true rfl) dL_step_189 (fun H locs hP hD hS => ?_)
    refine lv_iconst (v := nI 1) hx hb dL_step_192 (by decide) ?_
    have K193 : ∀ v193 : Bool, j_L_step_t_193 lim = v193 → ∀ (H : Heap) (locs : List Loc), va_P D vwCl (wC cI ad rc rl rh fr fw fc fg ps pg pr pd qp qt qf qo ct lE lC cand (nI (1 + (y % 4))) now was (nI sent) (nI qfi) (nI qsz)) H → va_D A (wC cI ad rc rl rh fr fw fc fg ps pg pr pd qp qt qf qo ct lE lC cand (nI (1 + (y % 4))) now was (nI sent) (nI qfi) (nI qsz)) → va_S A s.heap H locs → ∀ ls : Array Slot, lv_has ls 10 [(7, .int (nI (j_L_step_t_9 y))), (6, .int (nI (x % 10))), (0, .ref (ad 0)), (1, .int (nI 7)), (2, .int (nI x)), (3, .int (nI y)), (4, .ref (ad 22)), (5, .ref (ad 23))] → W p l e { frames := 1, cells := 0, slots := 0, locals := 22 } s m [.ref (ad 0), .int (nI 7), .int (nI x), .int (nI y), .ref (ad 22), .ref (ad 23)].toArray below meth c H locs 0 0 (QI below s A D [.ref (ad 0), .int (nI 7), .int (nI x), .int (nI y), .ref (ad 22), .ref (ad 23)] (wC cI ad rc rl rh fr fw fc fg ps pg pr pd qp qt qf qo ct lE lC cand ((f_L_step_t y lim).2) now was (nI sent) (nI qfi) (nI qsz)) (bI ((f_L_step_t y lim).1))) (F0 m 201 ls [.int (bI v193)]) := by
      intro v193 hv193 H locs hP hD hS ls hl
      subst hv193
      exact eZ B hP hS (bI_nar _) (by simp only [hf, bI_t, bI_f]) (by simp only [hf]) dL_step_201
    have hj193 := j_L_step_t_193.eq_1 lim
    refine lv_icmp_lt (tgt := 200) hx hb dL_step_193 (by decide) (fun c1 => ?_) (fun c1 => ?_)
    · have hj193 := hj193.trans (if_pos c1)
      refine lv_iconst (v := nI 0) hx hb dL_step_200 (by decide) ?_
      exact K193 _ hj193 _ _ hP hD hS _ hl
    · have hj193 := hj193.trans (if_neg c1)
      refine lv_iconst (v := nI 1) hx hb dL_step_196 (by decide) ?_
      refine lv_goto (tgt := 201) hx hb dL_step_197 (by decide) ?_
      exact K193 _ hj193 _ _ hP hD hS _ hl
  have hj9 := j_L_step_t_9.eq_1 y
  refine r_if_ne (tgt := 16) hx hb (by omega) dL_step_9 (by decide) (fun c2 => ?_) (fun c2 => ?_)
  · have hj9 := hj9.trans (if_neg c2)
    refine lv_iload_n hx hb dL_step_16 rfl (lv_at hl 4 rfl) ?_
    refine lv_iconst (v := nI 2) hx hb dL_step_17 (by decide) ?_
    refine r_idiv hx hb (by omega) (by omega) (by omega) dL_step_18 ?_
    refine lv_iconst (v := nI 4) hx hb dL_step_19 (by decide) ?_
    refine r_irem hx hb (by omega) (by omega) (by omega) dL_step_20 ?_
    exact K9 _ hj9 _ _ hP hD hS _ hl
  · have hj9 := hj9.trans (if_pos c2)
    refine lv_iconst (v := nI 0) hx hb dL_step_12 (by decide) ?_
    refine lv_goto (tgt := 21) hx hb dL_step_13 (by decide) ?_
    exact K9 _ hj9 _ _ hP hD hS _ hl
def j_L_step_s_9 (y : Nat) : Nat :=
  if (y % 2) = 0 then 0 else (y / 2) % 4
def f_L_step_s (x : Nat) (y : Nat) (rc : Nat → Int32) (rl : Nat → Int32) (rh : Nat → Int32) (fr : Nat → Int32) (fw : Nat → Int32) (fc : Nat → Int32) (fg : Nat → Int32) (ps : Nat → Int32) (pg : Nat → Int32) (pr : Nat → Int32) (pd : Nat → Int32) (qp : Nat → Int32) (qt : Nat → Int32) (qf : Nat → Int32) (qo : Nat → Int32) (ct : Nat → Int32) (lC : Nat → Int32) (lim : Int32) (was : Int32) (sent : Nat) (qfi : Nat) (qsz : Nat) : Bool × (Nat → Int32) × (Nat → Int32) × (Nat → Int32) × (Nat → Int32) × (Nat → Int32) × (Nat → Int32) × (Nat → Int32) × (Nat → Int32) × (Nat → Int32) × (Nat → Int32) × (Nat → Int32) × (Nat → Int32) × (Nat → Int32) × Int32 × Nat × Nat × Nat :=
  if 0 < (nI qsz) then (true, fw, fc, fg, ps, pg, pr, pd, qp, qt, qf, qo, ct, lC, was, sent, qfi, qsz) else if sent = 200 then (true, fw, fc, fg, ps, pg, pr, pd, qp, qt, qf, qo, ct, lC, was, sent, qfi, qsz) else if ((f_L_sends ((x / 10) % 3) (j_L_step_s_9 y) rc rl rh fr fw fc fg ps pg pr pd qp qt qf qo ct lC lim was sent qfi qsz).1) = true then (true, (f_L_sends ((x / 10) % 3) (j_L_step_s_9 y) rc rl rh fr fw fc fg ps pg pr pd qp qt qf qo ct lC lim was sent qfi qsz).2.1, (f_L_sends ((x / 10) % 3) (j_L_step_s_9 y) rc rl rh fr fw fc fg ps pg pr pd qp qt qf qo ct lC lim was sent qfi qsz).2.2.1, (f_L_sends ((x / 10) % 3) (j_L_step_s_9 y) rc rl rh fr fw fc fg ps pg pr pd qp qt qf qo ct lC lim was sent qfi qsz).2.2.2.1, (f_L_sends ((x / 10) % 3) (j_L_step_s_9 y) rc rl rh fr fw fc fg ps pg pr pd qp qt qf qo ct lC lim was sent qfi qsz).2.2.2.2.1, (f_L_sends ((x / 10) % 3) (j_L_step_s_9 y) rc rl rh fr fw fc fg ps pg pr pd qp qt qf qo ct lC lim was sent qfi qsz).2.2.2.2.2.1, (f_L_sends ((x / 10) % 3) (j_L_step_s_9 y) rc rl rh fr fw fc fg ps pg pr pd qp qt qf qo ct lC lim was sent qfi qsz).2.2.2.2.2.2.1, (f_L_sends ((x / 10) % 3) (j_L_step_s_9 y) rc rl rh fr fw fc fg ps pg pr pd qp qt qf qo ct lC lim was sent qfi qsz).2.2.2.2.2.2.2.1, (f_L_sends ((x / 10) % 3) (j_L_step_s_9 y) rc rl rh fr fw fc fg ps pg pr pd qp qt qf qo ct lC lim was sent qfi qsz).2.2.2.2.2.2.2.2.1, (f_L_sends ((x / 10) % 3) (j_L_step_s_9 y) rc rl rh fr fw fc fg ps pg pr pd qp qt qf qo ct lC lim was sent qfi qsz).2.2.2.2.2.2.2.2.2.1, (f_L_sends ((x / 10) % 3) (j_L_step_s_9 y) rc rl rh fr fw fc fg ps pg pr pd qp qt qf qo ct lC lim was sent qfi qsz).2.2.2.2.2.2.2.2.2.2.1, (f_L_sends ((x / 10) % 3) (j_L_step_s_9 y) rc rl rh fr fw fc fg ps pg pr pd qp qt qf qo ct lC lim was sent qfi qsz).2.2.2.2.2.2.2.2.2.2.2.1, (f_L_sends ((x / 10) % 3) (j_L_step_s_9 y) rc rl rh fr fw fc fg ps pg pr pd qp qt qf qo ct lC lim was sent qfi qsz).2.2.2.2.2.2.2.2.2.2.2.2.1, (f_L_sends ((x / 10) % 3) (j_L_step_s_9 y) rc rl rh fr fw fc fg ps pg pr pd qp qt qf qo ct lC lim was sent qfi qsz).2.2.2.2.2.2.2.2.2.2.2.2.2.1, (f_L_sends ((x / 10) % 3) (j_L_step_s_9 y) rc rl rh fr fw fc fg ps pg pr pd qp qt qf qo ct lC lim was sent qfi qsz).2.2.2.2.2.2.2.2.2.2.2.2.2.2.1, (f_L_sends ((x / 10) % 3) (j_L_step_s_9 y) rc rl rh fr fw fc fg ps pg pr pd qp qt qf qo ct lC lim was sent qfi qsz).2.2.2.2.2.2.2.2.2.2.2.2.2.2.2.1, (f_L_sends ((x / 10) % 3) (j_L_step_s_9 y) rc rl rh fr fw fc fg ps pg pr pd qp qt qf qo ct lC lim was sent qfi qsz).2.2.2.2.2.2.2.2.2.2.2.2.2.2.2.2.1, (f_L_sends ((x / 10) % 3) (j_L_step_s_9 y) rc rl rh fr fw fc fg ps pg pr pd qp qt qf qo ct lC lim was sent qfi qsz).2.2.2.2.2.2.2.2.2.2.2.2.2.2.2.2.2) else (false, (f_L_sends ((x / 10) % 3) (j_L_step_s_9 y) rc rl rh fr fw fc fg ps pg pr pd qp qt qf qo ct lC lim was sent qfi qsz).2.1, (f_L_sends ((x / 10) % 3) (j_L_step_s_9 y) rc rl rh fr fw fc fg ps pg pr pd qp qt qf qo ct lC lim was sent qfi qsz).2.2.1, (f_L_sends ((x / 10) % 3) (j_L_step_s_9 y) rc rl rh fr fw fc fg ps pg pr pd qp qt qf qo ct lC lim was sent qfi qsz).2.2.2.1, (f_L_sends ((x / 10) % 3) (j_L_step_s_9 y) rc rl rh fr fw fc fg ps pg pr pd qp qt qf qo ct lC lim was sent qfi qsz).2.2.2.2.1, (f_L_sends ((x / 10) % 3) (j_L_step_s_9 y) rc rl rh fr fw fc fg ps pg pr pd qp qt qf qo ct lC lim was sent qfi qsz).2.2.2.2.2.1, (f_L_sends ((x / 10) % 3) (j_L_step_s_9 y) rc rl rh fr fw fc fg ps pg pr pd qp qt qf qo ct lC lim was sent qfi qsz).2.2.2.2.2.2.1, (f_L_sends ((x / 10) % 3) (j_L_step_s_9 y) rc rl rh fr fw fc fg ps pg pr pd qp qt qf qo ct lC lim was sent qfi qsz).2.2.2.2.2.2.2.1, (f_L_sends ((x / 10) % 3) (j_L_step_s_9 y) rc rl rh fr fw fc fg ps pg pr pd qp qt qf qo ct lC lim was sent qfi qsz).2.2.2.2.2.2.2.2.1, (f_L_sends ((x / 10) % 3) (j_L_step_s_9 y) rc rl rh fr fw fc fg ps pg pr pd qp qt qf qo ct lC lim was sent qfi qsz).2.2.2.2.2.2.2.2.2.1, (f_L_sends ((x / 10) % 3) (j_L_step_s_9 y) rc rl rh fr fw fc fg ps pg pr pd qp qt qf qo ct lC lim was sent qfi qsz).2.2.2.2.2.2.2.2.2.2.1, (f_L_sends ((x / 10) % 3) (j_L_step_s_9 y) rc rl rh fr fw fc fg ps pg pr pd qp qt qf qo ct lC lim was sent qfi qsz).2.2.2.2.2.2.2.2.2.2.2.1, (f_L_sends ((x / 10) % 3) (j_L_step_s_9 y) rc rl rh fr fw fc fg ps pg pr pd qp qt qf qo ct lC lim was sent qfi qsz).2.2.2.2.2.2.2.2.2.2.2.2.1, (f_L_sends ((x / 10) % 3) (j_L_step_s_9 y) rc rl rh fr fw fc fg ps pg pr pd qp qt qf qo ct lC lim was sent qfi qsz).2.2.2.2.2.2.2.2.2.2.2.2.2.1, (f_L_sends ((x / 10) % 3) (j_L_step_s_9 y) rc rl rh fr fw fc fg ps pg pr pd qp qt qf qo ct lC lim was sent qfi qsz).2.2.2.2.2.2.2.2.2.2.2.2.2.2.1, (f_L_sends ((x / 10) % 3) (j_L_step_s_9 y) rc rl rh fr fw fc fg ps pg pr pd qp qt qf qo ct lC lim was sent qfi qsz).2.2.2.2.2.2.2.2.2.2.2.2.2.2.2.1, (f_L_sends ((x / 10) % 3) (j_L_step_s_9 y) rc rl rh fr fw fc fg ps pg pr pd qp qt qf qo ct lC lim was sent qfi qsz).2.2.2.2.2.2.2.2.2.2.2.2.2.2.2.2.1, (f_L_sends ((x / 10) % 3) (j_L_step_s_9 y) rc rl rh fr fw fc fg ps pg pr pd qp qt qf qo ct lC lim was sent qfi qsz).2.2.2.2.2.2.2.2.2.2.2.2.2.2.2.2.2)
set_option maxHeartbeats 4000000 in
set_option maxRecDepth 100000 in
theorem c_L_step_s (l : Launch) (D : va_G) (cI cZ : ClassId) (ad : Nat → Nat) (rc rl rh fr fw fc fg ps pg pr pd qp qt qf qo ct lE lC : Nat → Int32) (cand : Int32) (lim : Int32) (now : Int32) (was : Int32) (sent : Nat) (qfi : Nat) (qsz : Nat) (wh : Nat) (x : Nat) (y : Nat) (hwh : wh < 13) (hx : x < 1073741824) (hy : y < 1073741824) (hsent : sent ≤ 200) (hqfi : qfi ≤ 199) (hqsz : qsz ≤ 200) (hwl : 8 ≤ wh) (hwh : wh ≤ 9) (hc5 : lC 5 = nI sent) (hroots : ∀ g_ : Nat, g_ < 4 → fr g_ = -1 ∨ ∃ o_ : Nat, o_ < 10 ∧ fr g_ = nI o_) (hevq : ∀ s_ g : Nat, s_ < 10 → g < 4 → sent ≤ 199 → eA rc rh fr ((f_X5_send s_ g rl rh fr fw fc fg ps pg pr pd qp qt qf qo ct lim was sent qfi qsz).2.2.2.2.1) ((f_X5_send s_ g rl rh fr fw fc fg ps pg pr pd qp qt qf qo ct lim was sent qfi qsz).2.2.2.2.2.1) lim ((f_X5_send s_ g rl rh fr fw fc fg ps pg pr pd qp qt qf qo ct lim was sent qfi qsz).2.2.2.2.2.2.2.2.2.2.2.2.2.2.1) 20000 (((f_X5_send s_ g rl rh fr fw fc fg ps pg pr pd qp qt qf qo ct lim was sent qfi qsz).2.1), ((f_X5_send s_ g rl rh fr fw fc fg ps pg pr pd qp qt qf qo ct lim was sent qfi qsz).2.2.1), ((f_X5_send s_ g rl rh fr fw fc fg ps pg pr pd qp qt qf qo ct lim was sent qfi qsz).2.2.2.1), ((f_X5_send s_ g rl rh fr fw fc fg ps pg pr pd qp qt qf qo ct lim was sent qfi qsz).2.2.2.2.2.2.1), ((f_X5_send s_ g rl rh fr fw fc fg ps pg pr pd qp qt qf qo ct lim was sent qfi qsz).2.2.2.2.2.2.2.1), ((f_X5_send s_ g rl rh fr fw fc fg ps pg pr pd qp qt qf qo ct lim was sent qfi qsz).2.2.2.2.2.2.2.2.1), ((f_X5_send s_ g rl rh fr fw fc fg ps pg pr pd qp qt qf qo ct lim was sent qfi qsz).2.2.2.2.2.2.2.2.2.1), ((f_X5_send s_ g rl rh fr fw fc fg ps pg pr pd qp qt qf qo ct lim was sent qfi qsz).2.2.2.2.2.2.2.2.2.2.1), ((f_X5_send s_ g rl rh fr fw fc fg ps pg pr pd qp qt qf qo ct lim was sent qfi qsz).2.2.2.2.2.2.2.2.2.2.2.1), ((f_X5_send s_ g rl rh fr fw fc fg ps pg pr pd qp qt qf qo ct lim was sent qfi qsz).2.2.2.2.2.2.2.2.2.2.2.2.1), ((f_X5_send s_ g rl rh fr fw fc fg ps pg pr pd qp qt qf qo ct lim was sent qfi qsz).2.2.2.2.2.2.2.2.2.2.2.2.2.1), qfi, ((f_X5_send s_ g rl rh fr fw fc fg ps pg pr pd qp qt qf qo ct lim was sent qfi qsz).2.2.2.2.2.2.2.2.2.2.2.2.2.2.2))) : MI l yL_step cL_step 10 .boolean { frames := 8, cells := 0, slots := 0, locals := 201 } D (TY cI cZ) [.ref (ad 0), .int (nI wh), .int (nI x), .int (nI y), .ref (ad 22), .ref (ad 23)] (wC cI ad rc rl rh fr fw fc fg ps pg pr pd qp qt qf qo ct lE lC cand lim now was (nI sent) (nI qfi) (nI qsz)) (wC cI ad rc rl rh fr ((f_L_step_s x y rc rl rh fr fw fc fg ps pg pr pd qp qt qf qo ct lC lim was sent qfi qsz).2.1) ((f_L_step_s x y rc rl rh fr fw fc fg ps pg pr pd qp qt qf qo ct lC lim was sent qfi qsz).2.2.1) ((f_L_step_s x y rc rl rh fr fw fc fg ps pg pr pd qp qt qf qo ct lC lim was sent qfi qsz).2.2.2.1) ((f_L_step_s x y rc rl rh fr fw fc fg ps pg pr pd qp qt qf qo ct lC lim was sent qfi qsz).2.2.2.2.1) ((f_L_step_s x y rc rl rh fr fw fc fg ps pg pr pd qp qt qf qo ct lC lim was sent qfi qsz).2.2.2.2.2.1) ((f_L_step_s x y rc rl rh fr fw fc fg ps pg pr pd qp qt qf qo ct lC lim was sent qfi qsz).2.2.2.2.2.2.1) ((f_L_step_s x y rc rl rh fr fw fc fg ps pg pr pd qp qt qf qo ct lC lim was sent qfi qsz).2.2.2.2.2.2.2.1) ((f_L_step_s x y rc rl rh fr fw fc fg ps pg pr pd qp qt qf qo ct lC lim was sent qfi qsz).2.2.2.2.2.2.2.2.1) ((f_L_step_s x y rc rl rh fr fw fc fg ps pg pr pd qp qt qf qo ct lC lim was sent qfi qsz).2.2.2.2.2.2.2.2.2.1) ((f_L_step_s x y rc rl rh fr fw fc fg ps pg pr pd qp qt qf qo ct lC lim was sent qfi qsz).2.2.2.2.2.2.2.2.2.2.1) ((f_L_step_s x y rc rl rh fr fw fc fg ps pg pr pd qp qt qf qo ct lC lim was sent qfi qsz).2.2.2.2.2.2.2.2.2.2.2.1) ((f_L_step_s x y rc rl rh fr fw fc fg ps pg pr pd qp qt qf qo ct lC lim was sent qfi qsz).2.2.2.2.2.2.2.2.2.2.2.2.1) lE ((f_L_step_s x y rc rl rh fr fw fc fg ps pg pr pd qp qt qf qo ct lC lim was sent qfi qsz).2.2.2.2.2.2.2.2.2.2.2.2.2.1) cand lim now ((f_L_step_s x y rc rl rh fr fw fc fg ps pg pr pd qp qt qf qo ct lC lim was sent qfi qsz).2.2.2.2.2.2.2.2.2.2.2.2.2.2.1) (nI ((f_L_step_s x y rc rl rh fr fw fc fg ps pg pr pd qp qt qf qo ct lC lim was sent qfi qsz).2.2.2.2.2.2.2.2.2.2.2.2.2.2.2.1)) (nI ((f_L_step_s x y rc rl rh fr fw fc fg ps pg pr pd qp qt qf qo ct lC lim was sent qfi qsz).2.2.2.2.2.2.2.2.2.2.2.2.2.2.2.2.1)) (nI ((f_L_step_s x y rc rl rh fr fw fc fg ps pg pr pd qp qt qf qo ct lC lim was sent qfi qsz).2.2.2.2.2.2.2.2.2.2.2.2.2.2.2.2.2))) (bI ((f_L_step_s x y rc rl rh fr fw fc fg ps pg pr pd qp qt qf qo ct lC lim was sent qfi qsz).1)) := by
  refine MI.mk ⟨rfl, rfl⟩ (by decide +kernel) (Nat.le_of_ble_eq_true rfl) ?_
  intro p e s m below meth c A ls B hA hP hD hS hl
  have hx := B.1
  have hb := B.2.1
  have hts := B.2.2.2.2.2.1
  have hN := B.2.2.2.2.2.2.2.1
  have hK := B.2.2.2.2.2.2.2.2.1
  have hl : lv_has ls 10 [(0, .ref (ad 0)), (1, .int (nI wh)), (2, .int (nI x)), (3, .int (nI y)), (4, .ref (ad 22)), (5, .ref (ad 23))] := hl
  have hf := f_L_step_s.eq_1 x y rc rl rh fr fw fc fg ps pg pr pd qp qt qf qo ct lC lim was sent qfi qsz
  refine lv_iload_n hx hb dL_step_0 rfl (lv_at hl 2 rfl) ?_
  refine lv_bipush (v := nI 10) hx hb dL_step_1 (by decide) ?_
  refine r_irem hx hb (by omega) (by omega) (by omega) dL_step_3 ?_
  refine lv_istore (lv' := [(6, .int (nI (x % 10))), (0, .ref (ad 0)), (1, .int (nI wh)), (2, .int (nI x)), (3, .int (nI y)), (4, .ref (ad 22)), (5, .ref (ad 23))]) hx hb dL_step_4 hl (by decide) rfl (fun ls hl => ?_)
  refine lv_iload_n hx hb dL_step_6 rfl (lv_at hl 4 rfl) ?_
  refine lv_iconst (v := nI 2) hx hb dL_step_7 (by decide) ?_
  refine r_irem hx hb (by omega) (by omega) (by omega) dL_step_8 ?_
  have K9 : ∀ v9 : Nat, j_L_step_s_9 y = v9 → ∀ (H : Heap) (locs : List Loc), va_P D vwCl (wC cI ad rc rl rh fr fw fc fg ps pg pr pd qp qt qf qo ct lE lC cand lim now was (nI sent) (nI qfi) (nI qsz)) H → va_D A (wC cI ad rc rl rh fr fw fc fg ps pg pr pd qp qt qf qo ct lE lC cand lim now was (nI sent) (nI qfi) (nI qsz)) → va_S A s.heap H locs → ∀ ls : Array Slot, lv_has ls 10 [(6, .int (nI (x % 10))), (0, .ref (ad 0)), (1, .int (nI wh)), (2, .int (nI x)), (3, .int (nI y)), (4, .ref (ad 22)), (5, .ref (ad 23))] → W p l e { frames := 8, cells := 0, slots := 0, locals := 201 } s m [.ref (ad 0), .int (nI wh), .int (nI x), .int (nI y), .ref (ad 22), .ref (ad 23)].toArray below meth c H locs 0 0 (QI below s A D [.ref (ad 0), .int (nI wh), .int (nI x), .int (nI y), .ref (ad 22), .ref (ad 23)] (wC cI ad rc rl rh fr ((f_L_step_s x y rc rl rh fr fw fc fg ps pg pr pd qp qt qf qo ct lC lim was sent qfi qsz).2.1) ((f_L_step_s x y rc rl rh fr fw fc fg ps pg pr pd qp qt qf qo ct lC lim was sent qfi qsz).2.2.1) ((f_L_step_s x y rc rl rh fr fw fc fg ps pg pr pd qp qt qf qo ct lC lim was sent qfi qsz).2.2.2.1) ((f_L_step_s x y rc rl rh fr fw fc fg ps pg pr pd qp qt qf qo ct lC lim was sent qfi qsz).2.2.2.2.1) ((f_L_step_s x y rc rl rh fr fw fc fg ps pg pr pd qp qt qf qo ct lC lim was sent qfi qsz).2.2.2.2.2.1) ((f_L_step_s x y rc rl rh fr fw fc fg ps pg pr pd qp qt qf qo ct lC lim was sent qfi qsz).2.2.2.2.2.2.1) ((f_L_step_s x y rc rl rh fr fw fc fg ps pg pr pd qp qt qf qo ct lC lim was sent qfi qsz).2.2.2.2.2.2.2.1) ((f_L_step_s x y rc rl rh fr fw fc fg ps pg pr pd qp qt qf qo ct lC lim was sent qfi qsz).2.2.2.2.2.2.2.2.1) ((f_L_step_s x y rc rl rh fr fw fc fg ps pg pr pd qp qt qf qo ct lC lim was sent qfi qsz).2.2.2.2.2.2.2.2.2.1) ((f_L_step_s x y rc rl rh fr fw fc fg ps pg pr pd qp qt qf qo ct lC lim was sent qfi qsz).2.2.2.2.2.2.2.2.2.2.1) ((f_L_step_s x y rc rl rh fr fw fc fg ps pg pr pd qp qt qf qo ct lC lim was sent qfi qsz).2.2.2.2.2.2.2.2.2.2.2.1) ((f_L_step_s x y rc rl rh fr fw fc fg ps pg pr pd qp qt qf qo ct lC lim was sent qfi qsz).2.2.2.2.2.2.2.2.2.2.2.2.1) lE ((f_L_step_s x y rc rl rh fr fw fc fg ps pg pr pd qp qt qf qo ct lC lim was sent qfi qsz).2.2.2.2.2.2.2.2.2.2.2.2.2.1) cand lim now ((f_L_step_s x y rc rl rh fr fw fc fg ps pg pr pd qp qt qf qo ct lC lim was sent qfi qsz).2.2.2.2.2.2.2.2.2.2.2.2.2.2.1) (nI ((f_L_step_s x y rc rl rh fr fw fc fg ps pg pr pd qp qt qf qo ct lC lim was sent qfi qsz).2.2.2.2.2.2.2.2.2.2.2.2.2.2.2.1)) (nI ((f_L_step_s x y rc rl rh fr fw fc fg ps pg pr pd qp qt qf qo ct lC lim was sent qfi qsz).2.2.2.2.2.2.2.2.2.2.2.2.2.2.2.2.1)) (nI ((f_L_step_s x y rc rl rh fr fw fc fg ps pg pr pd qp qt qf qo ct lC lim was sent qfi qsz).2.2.2.2.2.2.2.2.2.2.2.2.2.2.2.2.2))) (bI ((f_L_step_s x y rc rl rh fr fw fc fg ps pg pr pd qp qt qf qo ct lC lim was sent qfi qsz).1))) (F0 m 21 ls [.int (nI v9)]) := by
    intro v9 hv9 H locs hP hD hS ls hl
    subst hv9
    have hjb9 : 0 ≤ j_L_step_s_9 y ∧ j_L_step_s_9 y ≤ 3 := by
      unfold j_L_step_s_9
      repeat' split
      all_goals (refine ⟨?_, ?_⟩ <;> omega)
    refine lv_istore (lv' := [(7, .int (nI (j_L_step_s_9 y))), (6, .int (nI (x % 10))), (0, .ref (ad 0)), (1, .int (nI wh)), (2, .int (nI x)), (3, .int (nI y)), (4, .ref (ad 22)), (5, .ref (ad 23))]) hx hb dL_step_21 hl (by decide) rfl (fun ls hl => ?_)
    refine lv_iload_n hx hb dL_step_23 rfl (lv_at hl 3 rfl) ?_
    refine lv_iconst (v := nI 2) hx hb dL_step_24 (by decide) ?_
    refine r_icmp_ge (tgt := 37) hx hb (by omega) (by omega) dL_step_25 (by decide) (fun _ => ?_) (fun c => absurd c (by omega))
    refine lv_iload_n hx hb dL_step_37 rfl (lv_at hl 3 rfl) ?_
    refine lv_iconst (v := nI 2) hx hb dL_step_38 (by decide) ?_
    refine r_icmp_ne (tgt := 127) hx hb (by omega) (by omega) dL_step_39 (by decide) (fun _ => ?_) (fun c => absurd c (by omega))
    refine lv_iload_n hx hb dL_step_127 rfl (lv_at hl 3 rfl) ?_
    refine lv_bipush (v := nI 6) hx hb dL_step_128 (by decide) ?_
    refine r_icmp_ge (tgt := 144) hx hb (by omega) (by omega) dL_step_130 (by decide) (fun _ => ?_) (fun c => absurd c (by omega))
    refine lv_iload_n hx hb dL_step_144 rfl (lv_at hl 3 rfl) ?_
    refine lv_bipush (v := nI 6) hx hb dL_step_145 (by decide) ?_
    refine r_icmp_ne (tgt := 177) hx hb (by omega) (by omega) dL_step_147 (by decide) (fun _ => ?_) (fun c => absurd c (by omega))
    refine lv_iload_n hx hb dL_step_177 rfl (lv_at hl 3 rfl) ?_
    refine lv_bipush (v := nI 7) hx hb dL_step_178 (by decide) ?_
    refine r_icmp_ne (tgt := 202) hx hb (by omega) (by omega) dL_step_180 (by decide) (fun _ => ?_) (fun c => absurd c (by omega))
    refine lv_iload_n hx hb dL_step_202 rfl (lv_at hl 3 rfl) ?_
    refine lv_bipush (v := nI 10) hx hb dL_step_203 (by decide) ?_
    refine r_icmp_ge (tgt := 248) hx hb (by omega) (by omega) dL_step_205 (by decide) (fun c => absurd c (by omega)) (fun _ => ?_)
    refine lv_aload_n hx hb dL_step_208 rfl (lv_at hl 2 rfl) ?_
    refine fV_i (ci := 5) (as := []) (rest := []) B hl.1 (c_X5_queued l D cI cZ ad rc rl rh fr fw fc fg ps pg pr pd qp qt qf qo ct lE lC cand lim now was sent qfi qsz (by omega)) rfl (l_RL_73 hts ⟨rfl, rfl⟩ ⟨Nat.le_of_ble_eq_true rfl, Nat.le_of_ble_eq_true rfl⟩) m_13_12 m_13_13 rfl rfl hP hD hS hA 0 rfl wfC (Nat.le_of_ble_eq_true rfl) dL_step_209 (fun H locs hP hD hS => ?_)
    refine lv_if_gt (tgt := 242) hx hb dL_step_212 (by decide) (fun c1 => ?_) (fun c1 => ?_)
    · have hf := hf.trans (if_pos c1)
      refine lv_iconst (v := nI 1) hx hb dL_step_242 (by decide) ?_
      refine lv_goto (tgt := 247) hx hb dL_step_243 (by decide) ?_
      exact eZ B hP hS (by decide) (by simp only [hf, bI_t, bI_f]) (by simp only [hf]) dL_step_247
    · have hf := hf.trans (if_neg c1)
      refine lv_aload hx hb dL_step_215 (lv_at hl 7 rfl) ?_
      refine lv_iconst (v := nI 5) hx hb dL_step_217 (by decide) ?_
      refine r_iald hx hb hK hP 23 0 rfl rfl (by omega) (by decide) dL_step_218 ?_
      refine r_eq hc5 ?_
      refine lv_sipush (v := nI 200) hx hb dL_step_219 (by decide) ?_
      refine r_icmp_eq (tgt := 242) hx hb (by omega) (by omega) dL_step_222 (by decide) (fun c2 => ?_) (fun c2 => ?_)
      · have hf := hf.trans (if_pos c2)
        refine lv_iconst (v := nI 1) hx hb dL_step_242 (by decide) ?_
        refine lv_goto (tgt := 247) hx hb dL_step_243 (by decide) ?_
        exact eZ B hP hS (by decide) (by simp only [hf, bI_t, bI_f]) (by simp only [hf]) dL_step_247
      · have hf := hf.trans (if_neg c2)
        refine lv_aload_n hx hb dL_step_225 rfl (lv_at hl 2 rfl) ?_
        refine lv_aload hx hb dL_step_226 (lv_at hl 7 rfl) ?_
        refine lv_iload_n hx hb dL_step_228 rfl (lv_at hl 4 rfl) ?_
        refine lv_bipush (v := nI 10) hx hb dL_step_229 (by decide) ?_
        refine r_idiv hx hb (by omega) (by omega) (by omega) dL_step_231 ?_
        refine lv_iconst (v := nI 3) hx hb dL_step_232 (by decide) ?_
        refine r_irem hx hb (by omega) (by omega) (by omega) dL_step_233 ?_
        refine lv_iload hx hb dL_step_234 (lv_at hl 0 rfl) ?_
        refine fS_i (as := [.ref (ad 0), .ref (ad 23), .int (nI ((x / 10) % 3)), .int (nI (j_L_step_s_9 y))]) (rest := []) B hl.1 (c_L_sends l D cI cZ ad rc rl rh fr fw fc fg ps pg pr pd qp qt qf qo ct lE lC cand lim now was sent qfi qsz ((x / 10) % 3) (j_L_step_s_9 y) (by omega) (by omega) (by omega) (by omega) (by omega) (hroots _ (by omega)) hc5 (hevq _ _ (by omega) (by omega) (by omega)) (by first | assumption | omega)) (l_RL_130 hts ⟨rfl, rfl⟩ ⟨Nat.le_of_ble_eq_true rfl, Nat.le_of_ble_eq_true rfl⟩) m_13_21 rfl rfl hP hD hS hA wfC (Nat.le_of_ble_eq_true rfl) dL_step_236 (fun H locs hP hD hS => ?_)
        refine r_if_eq_b (tgt := 246) hx hb dL_step_239 (by decide) (fun c3 => ?_) (fun c3 => ?_)
        · have hf := hf.trans (if_neg c3)
          refine lv_iconst (v := nI 0) hx hb dL_step_246 (by decide) ?_
          exact eZ B hP hS (by decide) (by simp only [hf, bI_t, bI_f]) (by simp only [hf]) dL_step_247
        · have hf := hf.trans (if_pos c3)
          refine lv_iconst (v := nI 1) hx hb dL_step_242 (by decide) ?_
          refine lv_goto (tgt := 247) hx hb dL_step_243 (by decide) ?_
          exact eZ B hP hS (by decide) (by simp only [hf, bI_t, bI_f]) (by simp only [hf]) dL_step_247
  have hj9 := j_L_step_s_9.eq_1 y
  refine r_if_ne (tgt := 16) hx hb (by omega) dL_step_9 (by decide) (fun c4 => ?_) (fun c4 => ?_)
  · have hj9 := hj9.trans (if_neg c4)
    refine lv_iload_n hx hb dL_step_16 rfl (lv_at hl 4 rfl) ?_
    refine lv_iconst (v := nI 2) hx hb dL_step_17 (by decide) ?_
    refine r_idiv hx hb (by omega) (by omega) (by omega) dL_step_18 ?_
    refine lv_iconst (v := nI 4) hx hb dL_step_19 (by decide) ?_
    refine r_irem hx hb (by omega) (by omega) (by omega) dL_step_20 ?_
    exact K9 _ hj9 _ _ hP hD hS _ hl
  · have hj9 := hj9.trans (if_pos c4)
    refine lv_iconst (v := nI 0) hx hb dL_step_12 (by decide) ?_
    refine lv_goto (tgt := 21) hx hb dL_step_13 (by decide) ?_
    exact K9 _ hj9 _ _ hP hD hS _ hl
def j_L_step_o_9 (y : Nat) : Nat :=
  if (y % 2) = 0 then 0 else (y / 2) % 4
def s_L_step_o_317 (rc : Nat → Int32) (rh : Nat → Int32) (fr : Nat → Int32) (fw : Nat → Int32) (fc : Nat → Int32) (fg : Nat → Int32) (ps : Nat → Int32) (pg : Nat → Int32) (pr : Nat → Int32) (pd : Nat → Int32) (qp : Nat → Int32) (qt : Nat → Int32) (qf : Nat → Int32) (qo : Nat → Int32) (ct : Nat → Int32) (lim : Int32) (was : Int32) (qfi : Nat) (qsz : Nat) : Int32 × (Nat → Int32) × (Nat → Int32) × (Nat → Int32) × (Nat → Int32) × (Nat → Int32) × (Nat → Int32) × (Nat → Int32) × (Nat → Int32) × (Nat → Int32) × (Nat → Int32) × Int32 × Nat × Nat :=
  f_X5_followAll rc rh fr fw fc fg ps pg pr pd qp qt qf qo ct lim was qfi qsz
def j_L_step_o_320 (rc : Nat → Int32) (rh : Nat → Int32) (fr : Nat → Int32) (fw : Nat → Int32) (fc : Nat → Int32) (fg : Nat → Int32) (ps : Nat → Int32) (pg : Nat → Int32) (pr : Nat → Int32) (pd : Nat → Int32) (qp : Nat → Int32) (qt : Nat → Int32) (qf : Nat → Int32) (qo : Nat → Int32) (ct : Nat → Int32) (lim : Int32) (was : Int32) (qfi : Nat) (qsz : Nat) : Bool :=
  if ((s_L_step_o_317 rc rh fr fw fc fg ps pg pr pd qp qt qf qo ct lim was qfi qsz).1) < 0 then false else if ((s_L_step_o_317 rc rh fr fw fc fg ps pg pr pd qp qt qf qo ct lim was qfi qsz).2.2.2.2.2.2.2.2.2.2.2.2.2) = 0 then true else false
def s_L_step_o_269 (x : Nat) (y : Nat) (rl : Nat → Int32) (rh : Nat → Int32) (fr : Nat → Int32) (fw : Nat → Int32) (fc : Nat → Int32) (fg : Nat → Int32) (ps : Nat → Int32) (pg : Nat → Int32) (pr : Nat → Int32) (pd : Nat → Int32) (qp : Nat → Int32) (qt : Nat → Int32) (qf : Nat → Int32) (qo : Nat → Int32) (ct : Nat → Int32) (lim : Int32) (was : Int32) (sent : Nat) (qfi : Nat) (qsz : Nat) : Int32 × (Nat → Int32) × (Nat → Int32) × (Nat → Int32) × (Nat → Int32) × (Nat → Int32) × (Nat → Int32) × (Nat → Int32) × (Nat → Int32) × (Nat → Int32) × (Nat → Int32) × (Nat → Int32) × (Nat → Int32) × Int32 × Nat × Nat :=
  f_X5_send (x % 10) (j_L_step_o_9 y) rl rh fr fw fc fg ps pg pr pd qp qt qf qo ct lim was sent qfi qsz
def j_L_step_o_276 (x : Nat) (y : Nat) (rl : Nat → Int32) (rh : Nat → Int32) (fr : Nat → Int32) (fw : Nat → Int32) (fc : Nat → Int32) (fg : Nat → Int32) (ps : Nat → Int32) (pg : Nat → Int32) (pr : Nat → Int32) (pd : Nat → Int32) (qp : Nat → Int32) (qt : Nat → Int32) (qf : Nat → Int32) (qo : Nat → Int32) (ct : Nat → Int32) (lim : Int32) (was : Int32) (sent : Nat) (qfi : Nat) (qsz : Nat) : Bool :=
  if ((s_L_step_o_269 x y rl rh fr fw fc fg ps pg pr pd qp qt qf qo ct lim was sent qfi qsz).1) = (nI sent) then true else false
def f_L_step_o (x : Nat) (y : Nat) (rc : Nat → Int32) (rl : Nat → Int32) (rh : Nat → Int32) (fr : Nat → Int32) (fw : Nat → Int32) (fc : Nat → Int32) (fg : Nat → Int32) (ps : Nat → Int32) (pg : Nat → Int32) (pr : Nat → Int32) (pd : Nat → Int32) (qp : Nat → Int32) (qt : Nat → Int32) (qf : Nat → Int32) (qo : Nat → Int32) (ct : Nat → Int32) (lC : Nat → Int32) (lim : Int32) (was : Int32) (sent : Nat) (qfi : Nat) (qsz : Nat) : Bool × (Nat → Int32) × (Nat → Int32) × (Nat → Int32) × (Nat → Int32) × (Nat → Int32) × (Nat → Int32) × (Nat → Int32) × (Nat → Int32) × (Nat → Int32) × (Nat → Int32) × (Nat → Int32) × (Nat → Int32) × (Nat → Int32) × Int32 × Nat × Nat × Nat :=
  if 200 ≤ sent then (j_L_step_o_320 rc rh fr fw fc fg ps pg pr pd qp qt qf qo ct lim was qfi qsz, (s_L_step_o_317 rc rh fr fw fc fg ps pg pr pd qp qt qf qo ct lim was qfi qsz).2.1, (s_L_step_o_317 rc rh fr fw fc fg ps pg pr pd qp qt qf qo ct lim was qfi qsz).2.2.1, (s_L_step_o_317 rc rh fr fw fc fg ps pg pr pd qp qt qf qo ct lim was qfi qsz).2.2.2.1, ps, pg, (s_L_step_o_317 rc rh fr fw fc fg ps pg pr pd qp qt qf qo ct lim was qfi qsz).2.2.2.2.1, (s_L_step_o_317 rc rh fr fw fc fg ps pg pr pd qp qt qf qo ct lim was qfi qsz).2.2.2.2.2.1, (s_L_step_o_317 rc rh fr fw fc fg ps pg pr pd qp qt qf qo ct lim was qfi qsz).2.2.2.2.2.2.1, (s_L_step_o_317 rc rh fr fw fc fg ps pg pr pd qp qt qf qo ct lim was qfi qsz).2.2.2.2.2.2.2.1, (s_L_step_o_317 rc rh fr fw fc fg ps pg pr pd qp qt qf qo ct lim was qfi qsz).2.2.2.2.2.2.2.2.1, (s_L_step_o_317 rc rh fr fw fc fg ps pg pr pd qp qt qf qo ct lim was qfi qsz).2.2.2.2.2.2.2.2.2.1, (s_L_step_o_317 rc rh fr fw fc fg ps pg pr pd qp qt qf qo ct lim was qfi qsz).2.2.2.2.2.2.2.2.2.2.1, lC, (s_L_step_o_317 rc rh fr fw fc fg ps pg pr pd qp qt qf qo ct lim was qfi qsz).2.2.2.2.2.2.2.2.2.2.2.1, sent, (s_L_step_o_317 rc rh fr fw fc fg ps pg pr pd qp qt qf qo ct lim was qfi qsz).2.2.2.2.2.2.2.2.2.2.2.2.1, (s_L_step_o_317 rc rh fr fw fc fg ps pg pr pd qp qt qf qo ct lim was qfi qsz).2.2.2.2.2.2.2.2.2.2.2.2.2) else (j_L_step_o_276 x y rl rh fr fw fc fg ps pg pr pd qp qt qf qo ct lim was sent qfi qsz, (s_L_step_o_269 x y rl rh fr fw fc fg ps pg pr pd qp qt qf qo ct lim was sent qfi qsz).2.1, (s_L_step_o_269 x y rl rh fr fw fc fg ps pg pr pd qp qt qf qo ct lim was sent qfi qsz).2.2.1, (s_L_step_o_269 x y rl rh fr fw fc fg ps pg pr pd qp qt qf qo ct lim was sent qfi qsz).2.2.2.1, (s_L_step_o_269 x y rl rh fr fw fc fg ps pg pr pd qp qt qf qo ct lim was sent qfi qsz).2.2.2.2.1, (s_L_step_o_269 x y rl rh fr fw fc fg ps pg pr pd qp qt qf qo ct lim was sent qfi qsz).2.2.2.2.2.1, (s_L_step_o_269 x y rl rh fr fw fc fg ps pg pr pd qp qt qf qo ct lim was sent qfi qsz).2.2.2.2.2.2.1, (s_L_step_o_269 x y rl rh fr fw fc fg ps pg pr pd qp qt qf qo ct lim was sent qfi qsz).2.2.2.2.2.2.2.1, (s_L_step_o_269 x y rl rh fr fw fc fg ps pg pr pd qp qt qf qo ct lim was sent qfi qsz).2.2.2.2.2.2.2.2.1, (s_L_step_o_269 x y rl rh fr fw fc fg ps pg pr pd qp qt qf qo ct lim was sent qfi qsz).2.2.2.2.2.2.2.2.2.1, (s_L_step_o_269 x y rl rh fr fw fc fg ps pg pr pd qp qt qf qo ct lim was sent qfi qsz).2.2.2.2.2.2.2.2.2.2.1, (s_L_step_o_269 x y rl rh fr fw fc fg ps pg pr pd qp qt qf qo ct lim was sent qfi qsz).2.2.2.2.2.2.2.2.2.2.2.1, (s_L_step_o_269 x y rl rh fr fw fc fg ps pg pr pd qp qt qf qo ct lim was sent qfi qsz).2.2.2.2.2.2.2.2.2.2.2.2.1, upd lC 5 (nI (sent + 1)), (s_L_step_o_269 x y rl rh fr fw fc fg ps pg pr pd qp qt qf qo ct lim was sent qfi qsz).2.2.2.2.2.2.2.2.2.2.2.2.2.1, (s_L_step_o_269 x y rl rh fr fw fc fg ps pg pr pd qp qt qf qo ct lim was sent qfi qsz).2.2.2.2.2.2.2.2.2.2.2.2.2.2.1, qfi, (s_L_step_o_269 x y rl rh fr fw fc fg ps pg pr pd qp qt qf qo ct lim was sent qfi qsz).2.2.2.2.2.2.2.2.2.2.2.2.2.2.2)
set_option maxHeartbeats 4000000 in
set_option maxRecDepth 100000 in
theorem c_L_step_o (l : Launch) (D : va_G) (cI cZ : ClassId) (ad : Nat → Nat) (rc rl rh fr fw fc fg ps pg pr pd qp qt qf qo ct lE lC : Nat → Int32) (cand : Int32) (lim : Int32) (now : Int32) (was : Int32) (sent : Nat) (qfi : Nat) (qsz : Nat) (x : Nat) (y : Nat) (hx : x < 1073741824) (hy : y < 1073741824) (hsent : sent ≤ 200) (hqfi : qfi ≤ 199) (hqsz : qsz ≤ 200) (hc5 : lC 5 = nI sent) (hev : eA rc rh fr ps pg lim sent 20000 (fw, fc, fg, pr, pd, qp, qt, qf, qo, ct, was, qfi, qsz)) : MI l yL_step cL_step 10 .boolean { frames := 7, cells := 0, slots := 0, locals := 166 } D (TY cI cZ) [.ref (ad 0), .int (nI 10), .int (nI x), .int (nI y), .ref (ad 22), .ref (ad 23)] (wC cI ad rc rl rh fr fw fc fg ps pg pr pd qp qt qf qo ct lE lC cand lim now was (nI sent) (nI qfi) (nI qsz)) (wC cI ad rc rl rh fr ((f_L_step_o x y rc rl rh fr fw fc fg ps pg pr pd qp qt qf qo ct lC lim was sent qfi qsz).2.1) ((f_L_step_o x y rc rl rh fr fw fc fg ps pg pr pd qp qt qf qo ct lC lim was sent qfi qsz).2.2.1) ((f_L_step_o x y rc rl rh fr fw fc fg ps pg pr pd qp qt qf qo ct lC lim was sent qfi qsz).2.2.2.1) ((f_L_step_o x y rc rl rh fr fw fc fg ps pg pr pd qp qt qf qo ct lC lim was sent qfi qsz).2.2.2.2.1) ((f_L_step_o x y rc rl rh fr fw fc fg ps pg pr pd qp qt qf qo ct lC lim was sent qfi qsz).2.2.2.2.2.1) ((f_L_step_o x y rc rl rh fr fw fc fg ps pg pr pd qp qt qf qo ct lC lim was sent qfi qsz).2.2.2.2.2.2.1) ((f_L_step_o x y rc rl rh fr fw fc fg ps pg pr pd qp qt qf qo ct lC lim was sent qfi qsz).2.2.2.2.2.2.2.1) ((f_L_step_o x y rc rl rh fr fw fc fg ps pg pr pd qp qt qf qo ct lC lim was sent qfi qsz).2.2.2.2.2.2.2.2.1) ((f_L_step_o x y rc rl rh fr fw fc fg ps pg pr pd qp qt qf qo ct lC lim was sent qfi qsz).2.2.2.2.2.2.2.2.2.1) ((f_L_step_o x y rc rl rh fr fw fc fg ps pg pr pd qp qt qf qo ct lC lim was sent qfi qsz).2.2.2.2.2.2.2.2.2.2.1) ((f_L_step_o x y rc rl rh fr fw fc fg ps pg pr pd qp qt qf qo ct lC lim was sent qfi qsz).2.2.2.2.2.2.2.2.2.2.2.1) ((f_L_step_o x y rc rl rh fr fw fc fg ps pg pr pd qp qt qf qo ct lC lim was sent qfi qsz).2.2.2.2.2.2.2.2.2.2.2.2.1) lE ((f_L_step_o x y rc rl rh fr fw fc fg ps pg pr pd qp qt qf qo ct lC lim was sent qfi qsz).2.2.2.2.2.2.2.2.2.2.2.2.2.1) cand lim now ((f_L_step_o x y rc rl rh fr fw fc fg ps pg pr pd qp qt qf qo ct lC lim was sent qfi qsz).2.2.2.2.2.2.2.2.2.2.2.2.2.2.1) (nI ((f_L_step_o x y rc rl rh fr fw fc fg ps pg pr pd qp qt qf qo ct lC lim was sent qfi qsz).2.2.2.2.2.2.2.2.2.2.2.2.2.2.2.1)) (nI ((f_L_step_o x y rc rl rh fr fw fc fg ps pg pr pd qp qt qf qo ct lC lim was sent qfi qsz).2.2.2.2.2.2.2.2.2.2.2.2.2.2.2.2.1)) (nI ((f_L_step_o x y rc rl rh fr fw fc fg ps pg pr pd qp qt qf qo ct lC lim was sent qfi qsz).2.2.2.2.2.2.2.2.2.2.2.2.2.2.2.2.2))) (bI ((f_L_step_o x y rc rl rh fr fw fc fg ps pg pr pd qp qt qf qo ct lC lim was sent qfi qsz).1)) := by
  refine MI.mk ⟨rfl, rfl⟩ (by decide +kernel) (Nat.le_of_ble_eq_true rfl) ?_
  intro p e s m below meth c A ls B hA hP hD hS hl
  have hx := B.1
  have hb := B.2.1
  have hts := B.2.2.2.2.2.1
  have hN := B.2.2.2.2.2.2.2.1
  have hK := B.2.2.2.2.2.2.2.2.1
  have hl : lv_has ls 10 [(0, .ref (ad 0)), (1, .int (nI 10)), (2, .int (nI x)), (3, .int (nI y)), (4, .ref (ad 22)), (5, .ref (ad 23))] := hl
  have hf := f_L_step_o.eq_1 x y rc rl rh fr fw fc fg ps pg pr pd qp qt qf qo ct lC lim was sent qfi qsz
  refine lv_iload_n hx hb dL_step_0 rfl (lv_at hl 2 rfl) ?_
  refine lv_bipush (v := nI 10) hx hb dL_step_1 (by decide) ?_
  refine r_irem hx hb (by omega) (by omega) (by omega) dL_step_3 ?_
  refine lv_istore (lv' := [(6, .int (nI (x % 10))), (0, .ref (ad 0)), (1, .int (nI 10)), (2, .int (nI x)), (3, .int (nI y)), (4, .ref (ad 22)), (5, .ref (ad 23))]) hx hb dL_step_4 hl (by decide) rfl (fun ls hl => ?_)
  refine lv_iload_n hx hb dL_step_6 rfl (lv_at hl 4 rfl) ?_
  refine lv_iconst (v := nI 2) hx hb dL_step_7 (by decide) ?_
  refine r_irem hx hb (by omega) (by omega) (by omega) dL_step_8 ?_
  have K9 : ∀ v9 : Nat, j_L_step_o_9 y = v9 → ∀ (H : Heap) (locs : List Loc), va_P D vwCl (wC cI ad rc rl rh fr fw fc fg ps pg pr pd qp qt qf qo ct lE lC cand lim now was (nI sent) (nI qfi) (nI qsz)) H → va_D A (wC cI ad rc rl rh fr fw fc fg ps pg pr pd qp qt qf qo ct lE lC cand lim now was (nI sent) (nI qfi) (nI qsz)) → va_S A s.heap H locs → ∀ ls : Array Slot, lv_has ls 10 [(6, .int (nI (x % 10))), (0, .ref (ad 0)), (1, .int (nI 10)), (2, .int (nI x)), (3, .int (nI y)), (4, .ref (ad 22)), (5, .ref (ad 23))] → W p l e { frames := 7, cells := 0, slots := 0, locals := 166 } s m [.ref (ad 0), .int (nI 10), .int (nI x), .int (nI y), .ref (ad 22), .ref (ad 23)].toArray below meth c H locs 0 0 (QI below s A D [.ref (ad 0), .int (nI 10), .int (nI x), .int (nI y), .ref (ad 22), .ref (ad 23)] (wC cI ad rc rl rh fr ((f_L_step_o x y rc rl rh fr fw fc fg ps pg pr pd qp qt qf qo ct lC lim was sent qfi qsz).2.1) ((f_L_step_o x y rc rl rh fr fw fc fg ps pg pr pd qp qt qf qo ct lC lim was sent qfi qsz).2.2.1) ((f_L_step_o x y rc rl rh fr fw fc fg ps pg pr pd qp qt qf qo ct lC lim was sent qfi qsz).2.2.2.1) ((f_L_step_o x y rc rl rh fr fw fc fg ps pg pr pd qp qt qf qo ct lC lim was sent qfi qsz).2.2.2.2.1) ((f_L_step_o x y rc rl rh fr fw fc fg ps pg pr pd qp qt qf qo ct lC lim was sent qfi qsz).2.2.2.2.2.1) ((f_L_step_o x y rc rl rh fr fw fc fg ps pg pr pd qp qt qf qo ct lC lim was sent qfi qsz).2.2.2.2.2.2.1) ((f_L_step_o x y rc rl rh fr fw fc fg ps pg pr pd qp qt qf qo ct lC lim was sent qfi qsz).2.2.2.2.2.2.2.1) ((f_L_step_o x y rc rl rh fr fw fc fg ps pg pr pd qp qt qf qo ct lC lim was sent qfi qsz).2.2.2.2.2.2.2.2.1) ((f_L_step_o x y rc rl rh fr fw fc fg ps pg pr pd qp qt qf qo ct lC lim was sent qfi qsz).2.2.2.2.2.2.2.2.2.1) ((f_L_step_o x y rc rl rh fr fw fc fg ps pg pr pd qp qt qf qo ct lC lim was sent qfi qsz).2.2.2.2.2.2.2.2.2.2.1) ((f_L_step_o x y rc rl rh fr fw fc fg ps pg pr pd qp qt qf qo ct lC lim was sent qfi qsz).2.2.2.2.2.2.2.2.2.2.2.1) ((f_L_step_o x y rc rl rh fr fw fc fg ps pg pr pd qp qt qf qo ct lC lim was sent qfi qsz).2.2.2.2.2.2.2.2.2.2.2.2.1) lE ((f_L_step_o x y rc rl rh fr fw fc fg ps pg pr pd qp qt qf qo ct lC lim was sent qfi qsz).2.2.2.2.2.2.2.2.2.2.2.2.2.1) cand lim now ((f_L_step_o x y rc rl rh fr fw fc fg ps pg pr pd qp qt qf qo ct lC lim was sent qfi qsz).2.2.2.2.2.2.2.2.2.2.2.2.2.2.1) (nI ((f_L_step_o x y rc rl rh fr fw fc fg ps pg pr pd qp qt qf qo ct lC lim was sent qfi qsz).2.2.2.2.2.2.2.2.2.2.2.2.2.2.2.1)) (nI ((f_L_step_o x y rc rl rh fr fw fc fg ps pg pr pd qp qt qf qo ct lC lim was sent qfi qsz).2.2.2.2.2.2.2.2.2.2.2.2.2.2.2.2.1)) (nI ((f_L_step_o x y rc rl rh fr fw fc fg ps pg pr pd qp qt qf qo ct lC lim was sent qfi qsz).2.2.2.2.2.2.2.2.2.2.2.2.2.2.2.2.2))) (bI ((f_L_step_o x y rc rl rh fr fw fc fg ps pg pr pd qp qt qf qo ct lC lim was sent qfi qsz).1))) (F0 m 21 ls [.int (nI v9)]) := by
    intro v9 hv9 H locs hP hD hS ls hl
    subst hv9
    have hjb9 : 0 ≤ j_L_step_o_9 y ∧ j_L_step_o_9 y ≤ 3 := by
      unfold j_L_step_o_9
      repeat' split
      all_goals (refine ⟨?_, ?_⟩ <;> omega)
    refine lv_istore (lv' := [(7, .int (nI (j_L_step_o_9 y))), (6, .int (nI (x % 10))), (0, .ref (ad 0)), (1, .int (nI 10)), (2, .int (nI x)), (3, .int (nI y)), (4, .ref (ad 22)), (5, .ref (ad 23))]) hx hb dL_step_21 hl (by decide) rfl (fun ls hl => ?_)
    refine lv_iload_n hx hb dL_step_23 rfl (lv_at hl 3 rfl) ?_
    refine lv_iconst (v := nI 2) hx hb dL_step_24 (by decide) ?_
    refine r_icmp_ge (tgt := 37) hx hb (by omega) (by omega) dL_step_25 (by decide) (fun _ => ?_) (fun c => absurd c (by omega))
    refine lv_iload_n hx hb dL_step_37 rfl (lv_at hl 3 rfl) ?_
    refine lv_iconst (v := nI 2) hx hb dL_step_38 (by decide) ?_
    refine r_icmp_ne (tgt := 127) hx hb (by omega) (by omega) dL_step_39 (by decide) (fun _ => ?_) (fun c => absurd c (by omega))
    refine lv_iload_n hx hb dL_step_127 rfl (lv_at hl 3 rfl) ?_
    refine lv_bipush (v := nI 6) hx hb dL_step_128 (by decide) ?_
    refine r_icmp_ge (tgt := 144) hx hb (by omega) (by omega) dL_step_130 (by decide) (fun _ => ?_) (fun c => absurd c (by omega))
    refine lv_iload_n hx hb dL_step_144 rfl (lv_at hl 3 rfl) ?_
    refine lv_bipush (v := nI 6) hx hb dL_step_145 (by decide) ?_
    refine r_icmp_ne (tgt := 177) hx hb (by omega) (by omega) dL_step_147 (by decide) (fun _ => ?_) (fun c => absurd c (by omega))
    refine lv_iload_n hx hb dL_step_177 rfl (lv_at hl 3 rfl) ?_
    refine lv_bipush (v := nI 7) hx hb dL_step_178 (by decide) ?_
    refine r_icmp_ne (tgt := 202) hx hb (by omega) (by omega) dL_step_180 (by decide) (fun _ => ?_) (fun c => absurd c (by omega))
    refine lv_iload_n hx hb dL_step_202 rfl (lv_at hl 3 rfl) ?_
    refine lv_bipush (v := nI 10) hx hb dL_step_203 (by decide) ?_
    refine r_icmp_ge (tgt := 248) hx hb (by omega) (by omega) dL_step_205 (by decide) (fun _ => ?_) (fun c => absurd c (by omega))
    refine lv_iload_n hx hb dL_step_248 rfl (lv_at hl 3 rfl) ?_
    refine lv_bipush (v := nI 10) hx hb dL_step_249 (by decide) ?_
    refine r_icmp_ne (tgt := 297) hx hb (by omega) (by omega) dL_step_251 (by decide) (fun c => absurd c (by omega)) (fun _ => ?_)
    refine lv_aload hx hb dL_step_254 (lv_at hl 7 rfl) ?_
    refine lv_iconst (v := nI 5) hx hb dL_step_256 (by decide) ?_
    refine r_iald hx hb hK hP 23 0 rfl rfl (by omega) (by decide) dL_step_257 ?_
    refine r_eq hc5 ?_
    refine lv_sipush (v := nI 200) hx hb dL_step_258 (by decide) ?_
    refine r_icmp_ge (tgt := 297) hx hb (by omega) (by omega) dL_step_261 (by decide) (fun c1 => ?_) (fun c1 => ?_)
    · have hf := hf.trans (if_pos c1)
      refine lv_iload_n hx hb dL_step_297 rfl (lv_at hl 3 rfl) ?_
      refine lv_bipush (v := nI 11) hx hb dL_step_298 (by decide) ?_
      refine r_icmp_ne (tgt := 316) hx hb (by omega) (by omega) dL_step_300 (by decide) (fun _ => ?_) (fun c => absurd c (by omega))
      refine lv_aload_n hx hb dL_step_316 rfl (lv_at hl 2 rfl) ?_
      refine fV_i (ci := 5) (as := []) (rest := []) B hl.1 (c_X5_followAll_t l D cI cZ ad rc rl rh fr fw fc fg ps pg pr pd qp qt qf qo ct lE lC cand lim now was sent qfi qsz (by omega) (by omega) (by omega) hev) rfl (l_RL_76 hts ⟨rfl, rfl⟩ ⟨Nat.le_of_ble_eq_true rfl, Nat.le_of_ble_eq_true rfl⟩) m_17_18 m_17_19 rfl rfl hP hD hS hA 0 rfl wfC (Nat.le_of_ble_eq_true rfl) dL_step_317 (fun H locs hP hD hS => ?_)
      have hP : va_P D vwCl (wC cI ad rc rl rh fr ((s_L_step_o_317 rc rh fr fw fc fg ps pg pr pd qp qt qf qo ct lim was qfi qsz).2.1) ((s_L_step_o_317 rc rh fr fw fc fg ps pg pr pd qp qt qf qo ct lim was qfi qsz).2.2.1) ((s_L_step_o_317 rc rh fr fw fc fg ps pg pr pd qp qt qf qo ct lim was qfi qsz).2.2.2.1) ps pg ((s_L_step_o_317 rc rh fr fw fc fg ps pg pr pd qp qt qf qo ct lim was qfi qsz).2.2.2.2.1) ((s_L_step_o_317 rc rh fr fw fc fg ps pg pr pd qp qt qf qo ct lim was qfi qsz).2.2.2.2.2.1) ((s_L_step_o_317 rc rh fr fw fc fg ps pg pr pd qp qt qf qo ct lim was qfi qsz).2.2.2.2.2.2.1) ((s_L_step_o_317 rc rh fr fw fc fg ps pg pr pd qp qt qf qo ct lim was qfi qsz).2.2.2.2.2.2.2.1) ((s_L_step_o_317 rc rh fr fw fc fg ps pg pr pd qp qt qf qo ct lim was qfi qsz).2.2.2.2.2.2.2.2.1) ((s_L_step_o_317 rc rh fr fw fc fg ps pg pr pd qp qt qf qo ct lim was qfi qsz).2.2.2.2.2.2.2.2.2.1) ((s_L_step_o_317 rc rh fr fw fc fg ps pg pr pd qp qt qf qo ct lim was qfi qsz).2.2.2.2.2.2.2.2.2.2.1) lE lC cand lim now ((s_L_step_o_317 rc rh fr fw fc fg ps pg pr pd qp qt qf qo ct lim was qfi qsz).2.2.2.2.2.2.2.2.2.2.2.1) (nI sent) (nI ((s_L_step_o_317 rc rh fr fw fc fg ps pg pr pd qp qt qf qo ct lim was qfi qsz).2.2.2.2.2.2.2.2.2.2.2.2.1)) (nI ((s_L_step_o_317 rc rh fr fw fc fg ps pg pr pd qp qt qf qo ct lim was qfi qsz).2.2.2.2.2.2.2.2.2.2.2.2.2))) H := hP
      have hD : va_D A (wC cI ad rc rl rh fr ((s_L_step_o_317 rc rh fr fw fc fg ps pg pr pd qp qt qf qo ct lim was qfi qsz).2.1) ((s_L_step_o_317 rc rh fr fw fc fg ps pg pr pd qp qt qf qo ct lim was qfi qsz).2.2.1) ((s_L_step_o_317 rc rh fr fw fc fg ps pg pr pd qp qt qf qo ct lim was qfi qsz).2.2.2.1) ps pg ((s_L_step_o_317 rc rh fr fw fc fg ps pg pr pd qp qt qf qo ct lim was qfi qsz).2.2.2.2.1) ((s_L_step_o_317 rc rh fr fw fc fg ps pg pr pd qp qt qf qo ct lim was qfi qsz).2.2.2.2.2.1) ((s_L_step_o_317 rc rh fr fw fc fg ps pg pr pd qp qt qf qo ct lim was qfi qsz).2.2.2.2.2.2.1) ((s_L_step_o_317 rc rh fr fw fc fg ps pg pr pd qp qt qf qo ct lim was qfi qsz).2.2.2.2.2.2.2.1) ((s_L_step_o_317 rc rh fr fw fc fg ps pg pr pd qp qt qf qo ct lim was qfi qsz).2.2.2.2.2.2.2.2.1) ((s_L_step_o_317 rc rh fr fw fc fg ps pg pr pd qp qt qf qo ct lim was qfi qsz).2.2.2.2.2.2.2.2.2.1) ((s_L_step_o_317 rc rh fr fw fc fg ps pg pr pd qp qt qf qo ct lim was qfi qsz).2.2.2.2.2.2.2.2.2.2.1) lE lC cand lim now ((s_L_step_o_317 rc rh fr fw fc fg ps pg pr pd qp qt qf qo ct lim was qfi qsz).2.2.2.2.2.2.2.2.2.2.2.1) (nI sent) (nI ((s_L_step_o_317 rc rh fr fw fc fg ps pg pr pd qp qt qf qo ct lim was qfi qsz).2.2.2.2.2.2.2.2.2.2.2.2.1)) (nI ((s_L_step_o_317 rc rh fr fw fc fg ps pg pr pd qp qt qf qo ct lim was qfi qsz).2.2.2.2.2.2.2.2.2.2.2.2.2))) := hD
      have hq2 : (s_L_step_o_317 rc rh fr fw fc fg ps pg pr pd qp qt qf qo ct lim was qfi qsz).2.2.2.2.2.2.2.2.2.2.2.2.1 ≤ 199 := fb_X5_followAll_qfi rc rh fr fw fc fg ps pg pr pd qp qt qf qo ct lim was qfi qsz sent (by omega) (by omega) hev
      have hq3 : (s_L_step_o_317 rc rh fr fw fc fg ps pg pr pd qp qt qf qo ct lim was qfi qsz).2.2.2.2.2.2.2.2.2.2.2.2.2 ≤ 200 := fb_X5_followAll_qsz rc rh fr fw fc fg ps pg pr pd qp qt qf qo ct lim was qfi qsz sent (by omega) (by omega) hev
      have K320 : ∀ v320 : Bool, j_L_step_o_320 rc rh fr fw fc fg ps pg pr pd qp qt qf qo ct lim was qfi qsz = v320 → ∀ (H : Heap) (locs : List Loc), va_P D vwCl (wC cI ad rc rl rh fr ((s_L_step_o_317 rc rh fr fw fc fg ps pg pr pd qp qt qf qo ct lim was qfi qsz).2.1) ((s_L_step_o_317 rc rh fr fw fc fg ps pg pr pd qp qt qf qo ct lim was qfi qsz).2.2.1) ((s_L_step_o_317 rc rh fr fw fc fg ps pg pr pd qp qt qf qo ct lim was qfi qsz).2.2.2.1) ps pg ((s_L_step_o_317 rc rh fr fw fc fg ps pg pr pd qp qt qf qo ct lim was qfi qsz).2.2.2.2.1) ((s_L_step_o_317 rc rh fr fw fc fg ps pg pr pd qp qt qf qo ct lim was qfi qsz).2.2.2.2.2.1) ((s_L_step_o_317 rc rh fr fw fc fg ps pg pr pd qp qt qf qo ct lim was qfi qsz).2.2.2.2.2.2.1) ((s_L_step_o_317 rc rh fr fw fc fg ps pg pr pd qp qt qf qo ct lim was qfi qsz).2.2.2.2.2.2.2.1) ((s_L_step_o_317 rc rh fr fw fc fg ps pg pr pd qp qt qf qo ct lim was qfi qsz).2.2.2.2.2.2.2.2.1) ((s_L_step_o_317 rc rh fr fw fc fg ps pg pr pd qp qt qf qo ct lim was qfi qsz).2.2.2.2.2.2.2.2.2.1) ((s_L_step_o_317 rc rh fr fw fc fg ps pg pr pd qp qt qf qo ct lim was qfi qsz).2.2.2.2.2.2.2.2.2.2.1) lE lC cand lim now ((s_L_step_o_317 rc rh fr fw fc fg ps pg pr pd qp qt qf qo ct lim was qfi qsz).2.2.2.2.2.2.2.2.2.2.2.1) (nI sent) (nI ((s_L_step_o_317 rc rh fr fw fc fg ps pg pr pd qp qt qf qo ct lim was qfi qsz).2.2.2.2.2.2.2.2.2.2.2.2.1)) (nI ((s_L_step_o_317 rc rh fr fw fc fg ps pg pr pd qp qt qf qo ct lim was qfi qsz).2.2.2.2.2.2.2.2.2.2.2.2.2))) H → va_D A (wC cI ad rc rl rh fr ((s_L_step_o_317 rc rh fr fw fc fg ps pg pr pd qp qt qf qo ct lim was qfi qsz).2.1) ((s_L_step_o_317 rc rh fr fw fc fg ps pg pr pd qp qt qf qo ct lim was qfi qsz).2.2.1) ((s_L_step_o_317 rc rh fr fw fc fg ps pg pr pd qp qt qf qo ct lim was qfi qsz).2.2.2.1) ps pg ((s_L_step_o_317 rc rh fr fw fc fg ps pg pr pd qp qt qf qo ct lim was qfi qsz).2.2.2.2.1) ((s_L_step_o_317 rc rh fr fw fc fg ps pg pr pd qp qt qf qo ct lim was qfi qsz).2.2.2.2.2.1) ((s_L_step_o_317 rc rh fr fw fc fg ps pg pr pd qp qt qf qo ct lim was qfi qsz).2.2.2.2.2.2.1) ((s_L_step_o_317 rc rh fr fw fc fg ps pg pr pd qp qt qf qo ct lim was qfi qsz).2.2.2.2.2.2.2.1) ((s_L_step_o_317 rc rh fr fw fc fg ps pg pr pd qp qt qf qo ct lim was qfi qsz).2.2.2.2.2.2.2.2.1) ((s_L_step_o_317 rc rh fr fw fc fg ps pg pr pd qp qt qf qo ct lim was qfi qsz).2.2.2.2.2.2.2.2.2.1) ((s_L_step_o_317 rc rh fr fw fc fg ps pg pr pd qp qt qf qo ct lim was qfi qsz).2.2.2.2.2.2.2.2.2.2.1) lE lC cand lim now ((s_L_step_o_317 rc rh fr fw fc fg ps pg pr pd qp qt qf qo ct lim was qfi qsz).2.2.2.2.2.2.2.2.2.2.2.1) (nI sent) (nI ((s_L_step_o_317 rc rh fr fw fc fg ps pg pr pd qp qt qf qo ct lim was qfi qsz).2.2.2.2.2.2.2.2.2.2.2.2.1)) (nI ((s_L_step_o_317 rc rh fr fw fc fg ps pg pr pd qp qt qf qo ct lim was qfi qsz).2.2.2.2.2.2.2.2.2.2.2.2.2))) → va_S A s.heap H locs → ∀ ls : Array Slot, lv_has ls 10 [(7, .int (nI (j_L_step_o_9 y))), (6, .int (nI (x % 10))), (0, .ref (ad 0)), (1, .int (nI 10)), (2, .int (nI x)), (3, .int (nI y)), (4, .ref (ad 22)), (5, .ref (ad 23))] → W p l e { frames := 7, cells := 0, slots := 0, locals := 166 } s m [.ref (ad 0), .int (nI 10), .int (nI x), .int (nI y), .ref (ad 22), .ref (ad 23)].toArray below meth c H locs 0 0 (QI below s A D [.ref (ad 0), .int (nI 10), .int (nI x), .int (nI y), .ref (ad 22), .ref (ad 23)] (wC cI ad rc rl rh fr ((f_L_step_o x y rc rl rh fr fw fc fg ps pg pr pd qp qt qf qo ct lC lim was sent qfi qsz).2.1) ((f_L_step_o x y rc rl rh fr fw fc fg ps pg pr pd qp qt qf qo ct lC lim was sent qfi qsz).2.2.1) ((f_L_step_o x y rc rl rh fr fw fc fg ps pg pr pd qp qt qf qo ct lC lim was sent qfi qsz).2.2.2.1) ((f_L_step_o x y rc rl rh fr fw fc fg ps pg pr pd qp qt qf qo ct lC lim was sent qfi qsz).2.2.2.2.1) ((f_L_step_o x y rc rl rh fr fw fc fg ps pg pr pd qp qt qf qo ct lC lim was sent qfi qsz).2.2.2.2.2.1) ((f_L_step_o x y rc rl rh fr fw fc fg ps pg pr pd qp qt qf qo ct lC lim was sent qfi qsz).2.2.2.2.2.2.1) ((f_L_step_o x y rc rl rh fr fw fc fg ps pg pr pd qp qt qf qo ct lC lim was sent qfi qsz).2.2.2.2.2.2.2.1) ((f_L_step_o x y rc rl rh fr fw fc fg ps pg pr pd qp qt qf qo ct lC lim was sent qfi qsz).2.2.2.2.2.2.2.2.1) ((f_L_step_o x y rc rl rh fr fw fc fg ps pg pr pd qp qt qf qo ct lC lim was sent qfi qsz).2.2.2.2.2.2.2.2.2.1) ((f_L_step_o x y rc rl rh fr fw fc fg ps pg pr pd qp qt qf qo ct lC lim was sent qfi qsz).2.2.2.2.2.2.2.2.2.2.1) ((f_L_step_o x y rc rl rh fr fw fc fg ps pg pr pd qp qt qf qo ct lC lim was sent qfi qsz).2.2.2.2.2.2.2.2.2.2.2.1) ((f_L_step_o x y rc rl rh fr fw fc fg ps pg pr pd qp qt qf qo ct lC lim was sent qfi qsz).2.2.2.2.2.2.2.2.2.2.2.2.1) lE ((f_L_step_o x y rc rl rh fr fw fc fg ps pg pr pd qp qt qf qo ct lC lim was sent qfi qsz).2.2.2.2.2.2.2.2.2.2.2.2.2.1) cand lim now ((f_L_step_o x y rc rl rh fr fw fc fg ps pg pr pd qp qt qf qo ct lC lim was sent qfi qsz).2.2.2.2.2.2.2.2.2.2.2.2.2.2.1) (nI ((f_L_step_o x y rc rl rh fr fw fc fg ps pg pr pd qp qt qf qo ct lC lim was sent qfi qsz).2.2.2.2.2.2.2.2.2.2.2.2.2.2.2.1)) (nI ((f_L_step_o x y rc rl rh fr fw fc fg ps pg pr pd qp qt qf qo ct lC lim was sent qfi qsz).2.2.2.2.2.2.2.2.2.2.2.2.2.2.2.2.1)) (nI ((f_L_step_o x y rc rl rh fr fw fc fg ps pg pr pd qp qt qf qo ct lC lim was sent qfi qsz).2.2.2.2.2.2.2.2.2.2.2.2.2.2.2.2.2))) (bI ((f_L_step_o x y rc rl rh fr fw fc fg ps pg pr pd qp qt qf qo ct lC lim was sent qfi qsz).1))) (F0 m 335 ls [.int (bI v320)]) := by
        intro v320 hv320 H locs hP hD hS ls hl
        subst hv320
        exact eZ B hP hS (bI_nar _) (by simp only [hf, bI_t, bI_f]) (by simp only [hf]) dL_step_335
      have hj320 := j_L_step_o_320.eq_1 rc rh fr fw fc fg ps pg pr pd qp qt qf qo ct lim was qfi qsz
      refine lv_if_lt (tgt := 334) hx hb dL_step_320 (by decide) (fun c4 => ?_) (fun c4 => ?_)
      · have hj320 := hj320.trans (if_pos c4)
        refine lv_iconst (v := nI 0) hx hb dL_step_334 (by decide) ?_
        exact K320 _ hj320 _ _ hP hD hS _ hl
      · have hj320 := hj320.trans (if_neg c4)
        refine lv_aload_n hx hb dL_step_323 rfl (lv_at hl 2 rfl) ?_
        refine fV_i (ci := 5) (as := []) (rest := []) B hl.1 (c_X5_queued l D cI cZ ad rc rl rh fr ((s_L_step_o_317 rc rh fr fw fc fg ps pg pr pd qp qt qf qo ct lim was qfi qsz).2.1) ((s_L_step_o_317 rc rh fr fw fc fg ps pg pr pd qp qt qf qo ct lim was qfi qsz).2.2.1) ((s_L_step_o_317 rc rh fr fw fc fg ps pg pr pd qp qt qf qo ct lim was qfi qsz).2.2.2.1) ps pg ((s_L_step_o_317 rc rh fr fw fc fg ps pg pr pd qp qt qf qo ct lim was qfi qsz).2.2.2.2.1) ((s_L_step_o_317 rc rh fr fw fc fg ps pg pr pd qp qt qf qo ct lim was qfi qsz).2.2.2.2.2.1) ((s_L_step_o_317 rc rh fr fw fc fg ps pg pr pd qp qt qf qo ct lim was qfi qsz).2.2.2.2.2.2.1) ((s_L_step_o_317 rc rh fr fw fc fg ps pg pr pd qp qt qf qo ct lim was qfi qsz).2.2.2.2.2.2.2.1) ((s_L_step_o_317 rc rh fr fw fc fg ps pg pr pd qp qt qf qo ct lim was qfi qsz).2.2.2.2.2.2.2.2.1) ((s_L_step_o_317 rc rh fr fw fc fg ps pg pr pd qp qt qf qo ct lim was qfi qsz).2.2.2.2.2.2.2.2.2.1) ((s_L_step_o_317 rc rh fr fw fc fg ps pg pr pd qp qt qf qo ct lim was qfi qsz).2.2.2.2.2.2.2.2.2.2.1) lE lC cand lim now ((s_L_step_o_317 rc rh fr fw fc fg ps pg pr pd qp qt qf qo ct lim was qfi qsz).2.2.2.2.2.2.2.2.2.2.2.1) sent ((s_L_step_o_317 rc rh fr fw fc fg ps pg pr pd qp qt qf qo ct lim was qfi qsz).2.2.2.2.2.2.2.2.2.2.2.2.1) ((s_L_step_o_317 rc rh fr fw fc fg ps pg pr pd qp qt qf qo ct lim was qfi qsz).2.2.2.2.2.2.2.2.2.2.2.2.2) (by omega)) rfl (l_RL_73 hts ⟨rfl, rfl⟩ ⟨Nat.le_of_ble_eq_true rfl, Nat.le_of_ble_eq_true rfl⟩) m_13_12 m_13_13 rfl rfl hP hD hS hA 0 rfl wfC (Nat.le_of_ble_eq_true rfl) dL_step_324 (fun H locs hP hD hS => ?_)
        refine r_if_ne (tgt := 334) hx hb (by omega) dL_step_327 (by decide) (fun c5 => ?_) (fun c5 => ?_)
        · have hj320 := hj320.trans (if_neg c5)
          refine lv_iconst (v := nI 0) hx hb dL_step_334 (by decide) ?_
          exact K320 _ hj320 _ _ hP hD hS _ hl
        · have hj320 := hj320.trans (if_pos c5)
          refine lv_iconst (v := nI 1) hx hb dL_step_330 (by decide) ?_
          refine lv_goto (tgt := 335) hx hb dL_step_331 (by decide) ?_
          exact K320 _ hj320 _ _ hP hD hS _ hl
    · have hf := hf.trans (if_neg c1)
      refine lv_aload_n hx hb dL_step_264 rfl (lv_at hl 2 rfl) ?_
      refine lv_iload hx hb dL_step_265 (lv_at hl 1 rfl) ?_
      refine lv_iload hx hb dL_step_267 (lv_at hl 0 rfl) ?_
      refine fV_i (ci := 5) (as := [.int (nI (x % 10)), .int (nI (j_L_step_o_9 y))]) (rest := []) B hl.1 (c_X5_send l D cI cZ ad rc rl rh fr fw fc fg ps pg pr pd qp qt qf qo ct lE lC cand lim now was sent qfi qsz (x % 10) (j_L_step_o_9 y) (by omega) (by omega) (by omega) (by omega) (by omega) (by first | assumption | omega)) rfl (l_RL_70 hts ⟨rfl, rfl⟩ ⟨Nat.le_of_ble_eq_true rfl, Nat.le_of_ble_eq_true rfl⟩) m_15_4 m_15_5 rfl rfl hP hD hS hA 0 rfl wfC (Nat.le_of_ble_eq_true rfl) dL_step_269 (fun H locs hP hD hS => ?_)
      have hP : va_P D vwCl (wC cI ad rc rl rh fr ((s_L_step_o_269 x y rl rh fr fw fc fg ps pg pr pd qp qt qf qo ct lim was sent qfi qsz).2.1) ((s_L_step_o_269 x y rl rh fr fw fc fg ps pg pr pd qp qt qf qo ct lim was sent qfi qsz).2.2.1) ((s_L_step_o_269 x y rl rh fr fw fc fg ps pg pr pd qp qt qf qo ct lim was sent qfi qsz).2.2.2.1) ((s_L_step_o_269 x y rl rh fr fw fc fg ps pg pr pd qp qt qf qo ct lim was sent qfi qsz).2.2.2.2.1) ((s_L_step_o_269 x y rl rh fr fw fc fg ps pg pr pd qp qt qf qo ct lim was sent qfi qsz).2.2.2.2.2.1) ((s_L_step_o_269 x y rl rh fr fw fc fg ps pg pr pd qp qt qf qo ct lim was sent qfi qsz).2.2.2.2.2.2.1) ((s_L_step_o_269 x y rl rh fr fw fc fg ps pg pr pd qp qt qf qo ct lim was sent qfi qsz).2.2.2.2.2.2.2.1) ((s_L_step_o_269 x y rl rh fr fw fc fg ps pg pr pd qp qt qf qo ct lim was sent qfi qsz).2.2.2.2.2.2.2.2.1) ((s_L_step_o_269 x y rl rh fr fw fc fg ps pg pr pd qp qt qf qo ct lim was sent qfi qsz).2.2.2.2.2.2.2.2.2.1) ((s_L_step_o_269 x y rl rh fr fw fc fg ps pg pr pd qp qt qf qo ct lim was sent qfi qsz).2.2.2.2.2.2.2.2.2.2.1) ((s_L_step_o_269 x y rl rh fr fw fc fg ps pg pr pd qp qt qf qo ct lim was sent qfi qsz).2.2.2.2.2.2.2.2.2.2.2.1) ((s_L_step_o_269 x y rl rh fr fw fc fg ps pg pr pd qp qt qf qo ct lim was sent qfi qsz).2.2.2.2.2.2.2.2.2.2.2.2.1) lE lC cand lim now ((s_L_step_o_269 x y rl rh fr fw fc fg ps pg pr pd qp qt qf qo ct lim was sent qfi qsz).2.2.2.2.2.2.2.2.2.2.2.2.2.1) (nI ((s_L_step_o_269 x y rl rh fr fw fc fg ps pg pr pd qp qt qf qo ct lim was sent qfi qsz).2.2.2.2.2.2.2.2.2.2.2.2.2.2.1)) (nI qfi) (nI ((s_L_step_o_269 x y rl rh fr fw fc fg ps pg pr pd qp qt qf qo ct lim was sent qfi qsz).2.2.2.2.2.2.2.2.2.2.2.2.2.2.2))) H := hP
      have hD : va_D A (wC cI ad rc rl rh fr ((s_L_step_o_269 x y rl rh fr fw fc fg ps pg pr pd qp qt qf qo ct lim was sent qfi qsz).2.1) ((s_L_step_o_269 x y rl rh fr fw fc fg ps pg pr pd qp qt qf qo ct lim was sent qfi qsz).2.2.1) ((s_L_step_o_269 x y rl rh fr fw fc fg ps pg pr pd qp qt qf qo ct lim was sent qfi qsz).2.2.2.1) ((s_L_step_o_269 x y rl rh fr fw fc fg ps pg pr pd qp qt qf qo ct lim was sent qfi qsz).2.2.2.2.1) ((s_L_step_o_269 x y rl rh fr fw fc fg ps pg pr pd qp qt qf qo ct lim was sent qfi qsz).2.2.2.2.2.1) ((s_L_step_o_269 x y rl rh fr fw fc fg ps pg pr pd qp qt qf qo ct lim was sent qfi qsz).2.2.2.2.2.2.1) ((s_L_step_o_269 x y rl rh fr fw fc fg ps pg pr pd qp qt qf qo ct lim was sent qfi qsz).2.2.2.2.2.2.2.1) ((s_L_step_o_269 x y rl rh fr fw fc fg ps pg pr pd qp qt qf qo ct lim was sent qfi qsz).2.2.2.2.2.2.2.2.1) ((s_L_step_o_269 x y rl rh fr fw fc fg ps pg pr pd qp qt qf qo ct lim was sent qfi qsz).2.2.2.2.2.2.2.2.2.1) ((s_L_step_o_269 x y rl rh fr fw fc fg ps pg pr pd qp qt qf qo ct lim was sent qfi qsz).2.2.2.2.2.2.2.2.2.2.1) ((s_L_step_o_269 x y rl rh fr fw fc fg ps pg pr pd qp qt qf qo ct lim was sent qfi qsz).2.2.2.2.2.2.2.2.2.2.2.1) ((s_L_step_o_269 x y rl rh fr fw fc fg ps pg pr pd qp qt qf qo ct lim was sent qfi qsz).2.2.2.2.2.2.2.2.2.2.2.2.1) lE lC cand lim now ((s_L_step_o_269 x y rl rh fr fw fc fg ps pg pr pd qp qt qf qo ct lim was sent qfi qsz).2.2.2.2.2.2.2.2.2.2.2.2.2.1) (nI ((s_L_step_o_269 x y rl rh fr fw fc fg ps pg pr pd qp qt qf qo ct lim was sent qfi qsz).2.2.2.2.2.2.2.2.2.2.2.2.2.2.1)) (nI qfi) (nI ((s_L_step_o_269 x y rl rh fr fw fc fg ps pg pr pd qp qt qf qo ct lim was sent qfi qsz).2.2.2.2.2.2.2.2.2.2.2.2.2.2.2))) := hD
      have hq6 : (s_L_step_o_269 x y rl rh fr fw fc fg ps pg pr pd qp qt qf qo ct lim was sent qfi qsz).2.2.2.2.2.2.2.2.2.2.2.2.2.2.1 ≤ 200 := fb_X5_send_sent (x % 10) (j_L_step_o_9 y) rl rh fr fw fc fg ps pg pr pd qp qt qf qo ct lim was sent qfi qsz (by omega) (by omega) (by omega)
      have hq7 : (s_L_step_o_269 x y rl rh fr fw fc fg ps pg pr pd qp qt qf qo ct lim was sent qfi qsz).2.2.2.2.2.2.2.2.2.2.2.2.2.2.2 ≤ 200 := fb_X5_send_qsz (x % 10) (j_L_step_o_9 y) rl rh fr fw fc fg ps pg pr pd qp qt qf qo ct lim was sent qfi qsz (by omega) (by omega) (by omega)
      refine lv_aload hx hb dL_step_272 (lv_at hl 7 rfl) ?_
      refine lv_iconst (v := nI 5) hx hb dL_step_274 (by decide) ?_
      refine r_iald hx hb hK hP 23 0 rfl rfl (by omega) (by decide) dL_step_275 ?_
      refine r_eq hc5 ?_
      have K276 : ∀ v276 : Bool, j_L_step_o_276 x y rl rh fr fw fc fg ps pg pr pd qp qt qf qo ct lim was sent qfi qsz = v276 → ∀ (H : Heap) (locs : List Loc), va_P D vwCl (wC cI ad rc rl rh fr ((s_L_step_o_269 x y rl rh fr fw fc fg ps pg pr pd qp qt qf qo ct lim was sent qfi qsz).2.1) ((s_L_step_o_269 x y rl rh fr fw fc fg ps pg pr pd qp qt qf qo ct lim was sent qfi qsz).2.2.1) ((s_L_step_o_269 x y rl rh fr fw fc fg ps pg pr pd qp qt qf qo ct lim was sent qfi qsz).2.2.2.1) ((s_L_step_o_269 x y rl rh fr fw fc fg ps pg pr pd qp qt qf qo ct lim was sent qfi qsz).2.2.2.2.1) ((s_L_step_o_269 x y rl rh fr fw fc fg ps pg pr pd qp qt qf qo ct lim was sent qfi qsz).2.2.2.2.2.1) ((s_L_step_o_269 x y rl rh fr fw fc fg ps pg pr pd qp qt qf qo ct lim was sent qfi qsz).2.2.2.2.2.2.1) ((s_L_step_o_269 x y rl rh fr fw fc fg ps pg pr pd qp qt qf qo ct lim was sent qfi qsz).2.2.2.2.2.2.2.1) ((s_L_step_o_269 x y rl rh fr fw fc fg ps pg pr pd qp qt qf qo ct lim was sent qfi qsz).2.2.2.2.2.2.2.2.1) ((s_L_step_o_269 x y rl rh fr fw fc fg ps pg pr pd qp qt qf qo ct lim was sent qfi qsz).2.2.2.2.2.2.2.2.2.1) ((s_L_step_o_269 x y rl rh fr fw fc fg ps pg pr pd qp qt qf qo ct lim was sent qfi qsz).2.2.2.2.2.2.2.2.2.2.1) ((s_L_step_o_269 x y rl rh fr fw fc fg ps pg pr pd qp qt qf qo ct lim was sent qfi qsz).2.2.2.2.2.2.2.2.2.2.2.1) ((s_L_step_o_269 x y rl rh fr fw fc fg ps pg pr pd qp qt qf qo ct lim was sent qfi qsz).2.2.2.2.2.2.2.2.2.2.2.2.1) lE lC cand lim now ((s_L_step_o_269 x y rl rh fr fw fc fg ps pg pr pd qp qt qf qo ct lim was sent qfi qsz).2.2.2.2.2.2.2.2.2.2.2.2.2.1) (nI ((s_L_step_o_269 x y rl rh fr fw fc fg ps pg pr pd qp qt qf qo ct lim was sent qfi qsz).2.2.2.2.2.2.2.2.2.2.2.2.2.2.1)) (nI qfi) (nI ((s_L_step_o_269 x y rl rh fr fw fc fg ps pg pr pd qp qt qf qo ct lim was sent qfi qsz).2.2.2.2.2.2.2.2.2.2.2.2.2.2.2))) H → va_D A (wC cI ad rc rl rh fr ((s_L_step_o_269 x y rl rh fr fw fc fg ps pg pr pd qp qt qf qo ct lim was sent qfi qsz).2.1) ((s_L_step_o_269 x y rl rh fr fw fc fg ps pg pr pd qp qt qf qo ct lim was sent qfi qsz).2.2.1) ((s_L_step_o_269 x y rl rh fr fw fc fg ps pg pr pd qp qt qf qo ct lim was sent qfi qsz).2.2.2.1) ((s_L_step_o_269 x y rl rh fr fw fc fg ps pg pr pd qp qt qf qo ct lim was sent qfi qsz).2.2.2.2.1) ((s_L_step_o_269 x y rl rh fr fw fc fg ps pg pr pd qp qt qf qo ct lim was sent qfi qsz).2.2.2.2.2.1) ((s_L_step_o_269 x y rl rh fr fw fc fg ps pg pr pd qp qt qf qo ct lim was sent qfi qsz).2.2.2.2.2.2.1) ((s_L_step_o_269 x y rl rh fr fw fc fg ps pg pr pd qp qt qf qo ct lim was sent qfi qsz).2.2.2.2.2.2.2.1) ((s_L_step_o_269 x y rl rh fr fw fc fg ps pg pr pd qp qt qf qo ct lim was sent qfi qsz).2.2.2.2.2.2.2.2.1) ((s_L_step_o_269 x y rl rh fr fw fc fg ps pg pr pd qp qt qf qo ct lim was sent qfi qsz).2.2.2.2.2.2.2.2.2.1) ((s_L_step_o_269 x y rl rh fr fw fc fg ps pg pr pd qp qt qf qo ct lim was sent qfi qsz).2.2.2.2.2.2.2.2.2.2.1) ((s_L_step_o_269 x y rl rh fr fw fc fg ps pg pr pd qp qt qf qo ct lim was sent qfi qsz).2.2.2.2.2.2.2.2.2.2.2.1) ((s_L_step_o_269 x y rl rh fr fw fc fg ps pg pr pd qp qt qf qo ct lim was sent qfi qsz).2.2.2.2.2.2.2.2.2.2.2.2.1) lE lC cand lim now ((s_L_step_o_269 x y rl rh fr fw fc fg ps pg pr pd qp qt qf qo ct lim was sent qfi qsz).2.2.2.2.2.2.2.2.2.2.2.2.2.1) (nI ((s_L_step_o_269 x y rl rh fr fw fc fg ps pg pr pd qp qt qf qo ct lim was sent qfi qsz).2.2.2.2.2.2.2.2.2.2.2.2.2.2.1)) (nI qfi) (nI ((s_L_step_o_269 x y rl rh fr fw fc fg ps pg pr pd qp qt qf qo ct lim was sent qfi qsz).2.2.2.2.2.2.2.2.2.2.2.2.2.2.2))) → va_S A s.heap H locs → ∀ ls : Array Slot, lv_has ls 10 [(7, .int (nI (j_L_step_o_9 y))), (6, .int (nI (x % 10))), (0, .ref (ad 0)), (1, .int (nI 10)), (2, .int (nI x)), (3, .int (nI y)), (4, .ref (ad 22)), (5, .ref (ad 23))] → W p l e { frames := 7, cells := 0, slots := 0, locals := 166 } s m [.ref (ad 0), .int (nI 10), .int (nI x), .int (nI y), .ref (ad 22), .ref (ad 23)].toArray below meth c H locs 0 0 (QI below s A D [.ref (ad 0), .int (nI 10), .int (nI x), .int (nI y), .ref (ad 22), .ref (ad 23)] (wC cI ad rc rl rh fr ((f_L_step_o x y rc rl rh fr fw fc fg ps pg pr pd qp qt qf qo ct lC lim was sent qfi qsz).2.1) ((f_L_step_o x y rc rl rh fr fw fc fg ps pg pr pd qp qt qf qo ct lC lim was sent qfi qsz).2.2.1) ((f_L_step_o x y rc rl rh fr fw fc fg ps pg pr pd qp qt qf qo ct lC lim was sent qfi qsz).2.2.2.1) ((f_L_step_o x y rc rl rh fr fw fc fg ps pg pr pd qp qt qf qo ct lC lim was sent qfi qsz).2.2.2.2.1) ((f_L_step_o x y rc rl rh fr fw fc fg ps pg pr pd qp qt qf qo ct lC lim was sent qfi qsz).2.2.2.2.2.1) ((f_L_step_o x y rc rl rh fr fw fc fg ps pg pr pd qp qt qf qo ct lC lim was sent qfi qsz).2.2.2.2.2.2.1) ((f_L_step_o x y rc rl rh fr fw fc fg ps pg pr pd qp qt qf qo ct lC lim was sent qfi qsz).2.2.2.2.2.2.2.1) ((f_L_step_o x y rc rl rh fr fw fc fg ps pg pr pd qp qt qf qo ct lC lim was sent qfi qsz).2.2.2.2.2.2.2.2.1) ((f_L_step_o x y rc rl rh fr fw fc fg ps pg pr pd qp qt qf qo ct lC lim was sent qfi qsz).2.2.2.2.2.2.2.2.2.1) ((f_L_step_o x y rc rl rh fr fw fc fg ps pg pr pd qp qt qf qo ct lC lim was sent qfi qsz).2.2.2.2.2.2.2.2.2.2.1) ((f_L_step_o x y rc rl rh fr fw fc fg ps pg pr pd qp qt qf qo ct lC lim was sent qfi qsz).2.2.2.2.2.2.2.2.2.2.2.1) ((f_L_step_o x y rc rl rh fr fw fc fg ps pg pr pd qp qt qf qo ct lC lim was sent qfi qsz).2.2.2.2.2.2.2.2.2.2.2.2.1) lE ((f_L_step_o x y rc rl rh fr fw fc fg ps pg pr pd qp qt qf qo ct lC lim was sent qfi qsz).2.2.2.2.2.2.2.2.2.2.2.2.2.1) cand lim now ((f_L_step_o x y rc rl rh fr fw fc fg ps pg pr pd qp qt qf qo ct lC lim was sent qfi qsz).2.2.2.2.2.2.2.2.2.2.2.2.2.2.1) (nI ((f_L_step_o x y rc rl rh fr fw fc fg ps pg pr pd qp qt qf qo ct lC lim was sent qfi qsz).2.2.2.2.2.2.2.2.2.2.2.2.2.2.2.1)) (nI ((f_L_step_o x y rc rl rh fr fw fc fg ps pg pr pd qp qt qf qo ct lC lim was sent qfi qsz).2.2.2.2.2.2.2.2.2.2.2.2.2.2.2.2.1)) (nI ((f_L_step_o x y rc rl rh fr fw fc fg ps pg pr pd qp qt qf qo ct lC lim was sent qfi qsz).2.2.2.2.2.2.2.2.2.2.2.2.2.2.2.2.2))) (bI ((f_L_step_o x y rc rl rh fr fw fc fg ps pg pr pd qp qt qf qo ct lC lim was sent qfi qsz).1))) (F0 m 284 ls [.int (bI v276)]) := by
        intro v276 hv276 H locs hP hD hS ls hl
        subst hv276
        refine lv_istore (lv' := [(8, .int (bI (j_L_step_o_276 x y rl rh fr fw fc fg ps pg pr pd qp qt qf qo ct lim was sent qfi qsz))), (7, .int (nI (j_L_step_o_9 y))), (6, .int (nI (x % 10))), (0, .ref (ad 0)), (1, .int (nI 10)), (2, .int (nI x)), (3, .int (nI y)), (4, .ref (ad 22)), (5, .ref (ad 23))]) hx hb dL_step_284 hl (by decide) rfl (fun ls hl => ?_)
        refine lv_aload hx hb dL_step_286 (lv_at hl 8 rfl) ?_
        refine lv_iconst (v := nI 5) hx hb dL_step_288 (by decide) ?_
        refine lv_dup2_11 hx hb dL_step_289 rfl rfl ?_
        refine r_iald hx hb hK hP 23 0 rfl rfl (by omega) (by decide) dL_step_290 ?_
        refine r_eq hc5 ?_
        refine lv_iconst (v := nI 1) hx hb dL_step_291 (by decide) ?_
        refine r_iadd hx hb dL_step_292 ?_
        refine r_iast hx hb hK hP hD hS 23 0 rfl rfl (by omega) (by decide) dL_step_293 (fun H locs hP hD hS => ?_)
        have hP : va_P D vwCl (wC cI ad rc rl rh fr ((s_L_step_o_269 x y rl rh fr fw fc fg ps pg pr pd qp qt qf qo ct lim was sent qfi qsz).2.1) ((s_L_step_o_269 x y rl rh fr fw fc fg ps pg pr pd qp qt qf qo ct lim was sent qfi qsz).2.2.1) ((s_L_step_o_269 x y rl rh fr fw fc fg ps pg pr pd qp qt qf qo ct lim was sent qfi qsz).2.2.2.1) ((s_L_step_o_269 x y rl rh fr fw fc fg ps pg pr pd qp qt qf qo ct lim was sent qfi qsz).2.2.2.2.1) ((s_L_step_o_269 x y rl rh fr fw fc fg ps pg pr pd qp qt qf qo ct lim was sent qfi qsz).2.2.2.2.2.1) ((s_L_step_o_269 x y rl rh fr fw fc fg ps pg pr pd qp qt qf qo ct lim was sent qfi qsz).2.2.2.2.2.2.1) ((s_L_step_o_269 x y rl rh fr fw fc fg ps pg pr pd qp qt qf qo ct lim was sent qfi qsz).2.2.2.2.2.2.2.1) ((s_L_step_o_269 x y rl rh fr fw fc fg ps pg pr pd qp qt qf qo ct lim was sent qfi qsz).2.2.2.2.2.2.2.2.1) ((s_L_step_o_269 x y rl rh fr fw fc fg ps pg pr pd qp qt qf qo ct lim was sent qfi qsz).2.2.2.2.2.2.2.2.2.1) ((s_L_step_o_269 x y rl rh fr fw fc fg ps pg pr pd qp qt qf qo ct lim was sent qfi qsz).2.2.2.2.2.2.2.2.2.2.1) ((s_L_step_o_269 x y rl rh fr fw fc fg ps pg pr pd qp qt qf qo ct lim was sent qfi qsz).2.2.2.2.2.2.2.2.2.2.2.1) ((s_L_step_o_269 x y rl rh fr fw fc fg ps pg pr pd qp qt qf qo ct lim was sent qfi qsz).2.2.2.2.2.2.2.2.2.2.2.2.1) lE (upd lC 5 (nI (sent + 1))) cand lim now ((s_L_step_o_269 x y rl rh fr fw fc fg ps pg pr pd qp qt qf qo ct lim was sent qfi qsz).2.2.2.2.2.2.2.2.2.2.2.2.2.1) (nI ((s_L_step_o_269 x y rl rh fr fw fc fg ps pg pr pd qp qt qf qo ct lim was sent qfi qsz).2.2.2.2.2.2.2.2.2.2.2.2.2.2.1)) (nI qfi) (nI ((s_L_step_o_269 x y rl rh fr fw fc fg ps pg pr pd qp qt qf qo ct lim was sent qfi qsz).2.2.2.2.2.2.2.2.2.2.2.2.2.2.2))) H := hP
        have hD : va_D A (wC cI ad rc rl rh fr ((s_L_step_o_269 x y rl rh fr fw fc fg ps pg pr pd qp qt qf qo ct lim was sent qfi qsz).2.1) ((s_L_step_o_269 x y rl rh fr fw fc fg ps pg pr pd qp qt qf qo ct lim was sent qfi qsz).2.2.1) ((s_L_step_o_269 x y rl rh fr fw fc fg ps pg pr pd qp qt qf qo ct lim was sent qfi qsz).2.2.2.1) ((s_L_step_o_269 x y rl rh fr fw fc fg ps pg pr pd qp qt qf qo ct lim was sent qfi qsz).2.2.2.2.1) ((s_L_step_o_269 x y rl rh fr fw fc fg ps pg pr pd qp qt qf qo ct lim was sent qfi qsz).2.2.2.2.2.1) ((s_L_step_o_269 x y rl rh fr fw fc fg ps pg pr pd qp qt qf qo ct lim was sent qfi qsz).2.2.2.2.2.2.1) ((s_L_step_o_269 x y rl rh fr fw fc fg ps pg pr pd qp qt qf qo ct lim was sent qfi qsz).2.2.2.2.2.2.2.1) ((s_L_step_o_269 x y rl rh fr fw fc fg ps pg pr pd qp qt qf qo ct lim was sent qfi qsz).2.2.2.2.2.2.2.2.1) ((s_L_step_o_269 x y rl rh fr fw fc fg ps pg pr pd qp qt qf qo ct lim was sent qfi qsz).2.2.2.2.2.2.2.2.2.1) ((s_L_step_o_269 x y rl rh fr fw fc fg ps pg pr pd qp qt qf qo ct lim was sent qfi qsz).2.2.2.2.2.2.2.2.2.2.1) ((s_L_step_o_269 x y rl rh fr fw fc fg ps pg pr pd qp qt qf qo ct lim was sent qfi qsz).2.2.2.2.2.2.2.2.2.2.2.1) ((s_L_step_o_269 x y rl rh fr fw fc fg ps pg pr pd qp qt qf qo ct lim was sent qfi qsz).2.2.2.2.2.2.2.2.2.2.2.2.1) lE (upd lC 5 (nI (sent + 1))) cand lim now ((s_L_step_o_269 x y rl rh fr fw fc fg ps pg pr pd qp qt qf qo ct lim was sent qfi qsz).2.2.2.2.2.2.2.2.2.2.2.2.2.1) (nI ((s_L_step_o_269 x y rl rh fr fw fc fg ps pg pr pd qp qt qf qo ct lim was sent qfi qsz).2.2.2.2.2.2.2.2.2.2.2.2.2.2.1)) (nI qfi) (nI ((s_L_step_o_269 x y rl rh fr fw fc fg ps pg pr pd qp qt qf qo ct lim was sent qfi qsz).2.2.2.2.2.2.2.2.2.2.2.2.2.2.2))) := hD
        refine lv_iload hx hb dL_step_294 (lv_at hl 0 rfl) ?_
        exact eZ B hP hS (bI_nar _) (by simp only [hf, bI_t, bI_f]) (by simp only [hf]) dL_step_296
      have hj276 := j_L_step_o_276.eq_1 x y rl rh fr fw fc fg ps pg pr pd qp qt qf qo ct lim was sent qfi qsz
      refine lv_icmp_ne (tgt := 283) hx hb dL_step_276 (by decide) (fun c8 => ?_) (fun c8 => ?_)
      · have hj276 := hj276.trans (if_neg c8)
        refine lv_iconst (v := nI 0) hx hb dL_step_283 (by decide) ?_
        exact K276 _ hj276 _ _ hP hD hS _ hl
      · have hj276 := hj276.trans (if_pos c8)
        refine lv_iconst (v := nI 1) hx hb dL_step_279 (by decide) ?_
        refine lv_goto (tgt := 284) hx hb dL_step_280 (by decide) ?_
        exact K276 _ hj276 _ _ hP hD hS _ hl
  have hj9 := j_L_step_o_9.eq_1 y
  refine r_if_ne (tgt := 16) hx hb (by omega) dL_step_9 (by decide) (fun c9 => ?_) (fun c9 => ?_)
  · have hj9 := hj9.trans (if_neg c9)
    refine lv_iload_n hx hb dL_step_16 rfl (lv_at hl 4 rfl) ?_
    refine lv_iconst (v := nI 2) hx hb dL_step_17 (by decide) ?_
    refine r_idiv hx hb (by omega) (by omega) (by omega) dL_step_18 ?_
    refine lv_iconst (v := nI 4) hx hb dL_step_19 (by decide) ?_
    refine r_irem hx hb (by omega) (by omega) (by omega) dL_step_20 ?_
    exact K9 _ hj9 _ _ hP hD hS _ hl
  · have hj9 := hj9.trans (if_pos c9)
    refine lv_iconst (v := nI 0) hx hb dL_step_12 (by decide) ?_
    refine lv_goto (tgt := 21) hx hb dL_step_13 (by decide) ?_
    exact K9 _ hj9 _ _ hP hD hS _ hl
def j_L_step_f_9 (y : Nat) : Nat :=
  if (y % 2) = 0 then 0 else (y / 2) % 4
def f_L_step_f (y : Nat) (rc : Nat → Int32) (rh : Nat → Int32) (fr : Nat → Int32) (fw : Nat → Int32) (fc : Nat → Int32) (fg : Nat → Int32) (ps : Nat → Int32) (pg : Nat → Int32) (pr : Nat → Int32) (pd : Nat → Int32) (qp : Nat → Int32) (qt : Nat → Int32) (qf : Nat → Int32) (qo : Nat → Int32) (ct : Nat → Int32) (lim : Int32) (was : Int32) (qfi : Nat) (qsz : Nat) : Bool × (Nat → Int32) × (Nat → Int32) × (Nat → Int32) × (Nat → Int32) × (Nat → Int32) × (Nat → Int32) × (Nat → Int32) × (Nat → Int32) × (Nat → Int32) × (Nat → Int32) × Int32 × Nat × Nat :=
  ((f_L_follows (1 + (y % 7)) rc rh fr fw fc fg ps pg pr pd qp qt qf qo ct lim was qfi qsz).1, (f_L_follows (1 + (y % 7)) rc rh fr fw fc fg ps pg pr pd qp qt qf qo ct lim was qfi qsz).2.1, (f_L_follows (1 + (y % 7)) rc rh fr fw fc fg ps pg pr pd qp qt qf qo ct lim was qfi qsz).2.2.1, (f_L_follows (1 + (y % 7)) rc rh fr fw fc fg ps pg pr pd qp qt qf qo ct lim was qfi qsz).2.2.2.1, (f_L_follows (1 + (y % 7)) rc rh fr fw fc fg ps pg pr pd qp qt qf qo ct lim was qfi qsz).2.2.2.2.1, (f_L_follows (1 + (y % 7)) rc rh fr fw fc fg ps pg pr pd qp qt qf qo ct lim was qfi qsz).2.2.2.2.2.1, (f_L_follows (1 + (y % 7)) rc rh fr fw fc fg ps pg pr pd qp qt qf qo ct lim was qfi qsz).2.2.2.2.2.2.1, (f_L_follows (1 + (y % 7)) rc rh fr fw fc fg ps pg pr pd qp qt qf qo ct lim was qfi qsz).2.2.2.2.2.2.2.1, (f_L_follows (1 + (y % 7)) rc rh fr fw fc fg ps pg pr pd qp qt qf qo ct lim was qfi qsz).2.2.2.2.2.2.2.2.1, (f_L_follows (1 + (y % 7)) rc rh fr fw fc fg ps pg pr pd qp qt qf qo ct lim was qfi qsz).2.2.2.2.2.2.2.2.2.1, (f_L_follows (1 + (y % 7)) rc rh fr fw fc fg ps pg pr pd qp qt qf qo ct lim was qfi qsz).2.2.2.2.2.2.2.2.2.2.1, (f_L_follows (1 + (y % 7)) rc rh fr fw fc fg ps pg pr pd qp qt qf qo ct lim was qfi qsz).2.2.2.2.2.2.2.2.2.2.2.1, (f_L_follows (1 + (y % 7)) rc rh fr fw fc fg ps pg pr pd qp qt qf qo ct lim was qfi qsz).2.2.2.2.2.2.2.2.2.2.2.2.1, (f_L_follows (1 + (y % 7)) rc rh fr fw fc fg ps pg pr pd qp qt qf qo ct lim was qfi qsz).2.2.2.2.2.2.2.2.2.2.2.2.2)
set_option maxHeartbeats 4000000 in
set_option maxRecDepth 100000 in
theorem c_L_step_f (l : Launch) (D : va_G) (cI cZ : ClassId) (ad : Nat → Nat) (rc rl rh fr fw fc fg ps pg pr pd qp qt qf qo ct lE lC : Nat → Int32) (cand : Int32) (lim : Int32) (now : Int32) (was : Int32) (sent : Nat) (qfi : Nat) (qsz : Nat) (x : Nat) (y : Nat) (hx : x < 1073741824) (hy : y < 1073741824) (hsent : sent ≤ 200) (hqfi : qfi ≤ 199) (hqsz : qsz ≤ 200) (hqa : QAl ps pg qp qt qf qo sent qfi qsz) : MI l yL_step cL_step 10 .boolean { frames := 7, cells := 0, slots := 0, locals := 172 } D (TY cI cZ) [.ref (ad 0), .int (nI 11), .int (nI x), .int (nI y), .ref (ad 22), .ref (ad 23)] (wC cI ad rc rl rh fr fw fc fg ps pg pr pd qp qt qf qo ct lE lC cand lim now was (nI sent) (nI qfi) (nI qsz)) (wC cI ad rc rl rh fr ((f_L_step_f y rc rh fr fw fc fg ps pg pr pd qp qt qf qo ct lim was qfi qsz).2.1) ((f_L_step_f y rc rh fr fw fc fg ps pg pr pd qp qt qf qo ct lim was qfi qsz).2.2.1) ((f_L_step_f y rc rh fr fw fc fg ps pg pr pd qp qt qf qo ct lim was qfi qsz).2.2.2.1) ps pg ((f_L_step_f y rc rh fr fw fc fg ps pg pr pd qp qt qf qo ct lim was qfi qsz).2.2.2.2.1) ((f_L_step_f y rc rh fr fw fc fg ps pg pr pd qp qt qf qo ct lim was qfi qsz).2.2.2.2.2.1) ((f_L_step_f y rc rh fr fw fc fg ps pg pr pd qp qt qf qo ct lim was qfi qsz).2.2.2.2.2.2.1) ((f_L_step_f y rc rh fr fw fc fg ps pg pr pd qp qt qf qo ct lim was qfi qsz).2.2.2.2.2.2.2.1) ((f_L_step_f y rc rh fr fw fc fg ps pg pr pd qp qt qf qo ct lim was qfi qsz).2.2.2.2.2.2.2.2.1) ((f_L_step_f y rc rh fr fw fc fg ps pg pr pd qp qt qf qo ct lim was qfi qsz).2.2.2.2.2.2.2.2.2.1) ((f_L_step_f y rc rh fr fw fc fg ps pg pr pd qp qt qf qo ct lim was qfi qsz).2.2.2.2.2.2.2.2.2.2.1) lE lC cand lim now ((f_L_step_f y rc rh fr fw fc fg ps pg pr pd qp qt qf qo ct lim was qfi qsz).2.2.2.2.2.2.2.2.2.2.2.1) (nI sent) (nI ((f_L_step_f y rc rh fr fw fc fg ps pg pr pd qp qt qf qo ct lim was qfi qsz).2.2.2.2.2.2.2.2.2.2.2.2.1)) (nI ((f_L_step_f y rc rh fr fw fc fg ps pg pr pd qp qt qf qo ct lim was qfi qsz).2.2.2.2.2.2.2.2.2.2.2.2.2))) (bI ((f_L_step_f y rc rh fr fw fc fg ps pg pr pd qp qt qf qo ct lim was qfi qsz).1)) := by
  refine MI.mk ⟨rfl, rfl⟩ (by decide +kernel) (Nat.le_of_ble_eq_true rfl) ?_
  intro p e s m below meth c A ls B hA hP hD hS hl
  have hx := B.1
  have hb := B.2.1
  have hts := B.2.2.2.2.2.1
  have hN := B.2.2.2.2.2.2.2.1
  have hK := B.2.2.2.2.2.2.2.2.1
  have hl : lv_has ls 10 [(0, .ref (ad 0)), (1, .int (nI 11)), (2, .int (nI x)), (3, .int (nI y)), (4, .ref (ad 22)), (5, .ref (ad 23))] := hl
  have hf := f_L_step_f.eq_1 y rc rh fr fw fc fg ps pg pr pd qp qt qf qo ct lim was qfi qsz
  refine lv_iload_n hx hb dL_step_0 rfl (lv_at hl 2 rfl) ?_
  refine lv_bipush (v := nI 10) hx hb dL_step_1 (by decide) ?_
  refine r_irem hx hb (by omega) (by omega) (by omega) dL_step_3 ?_
  refine lv_istore (lv' := [(6, .int (nI (x % 10))), (0, .ref (ad 0)), (1, .int (nI 11)), (2, .int (nI x)), (3, .int (nI y)), (4, .ref (ad 22)), (5, .ref (ad 23))]) hx hb dL_step_4 hl (by decide) rfl (fun ls hl => ?_)
  refine lv_iload_n hx hb dL_step_6 rfl (lv_at hl 4 rfl) ?_
  refine lv_iconst (v := nI 2) hx hb dL_step_7 (by decide) ?_
  refine r_irem hx hb (by omega) (by omega) (by omega) dL_step_8 ?_
  have K9 : ∀ v9 : Nat, j_L_step_f_9 y = v9 → ∀ (H : Heap) (locs : List Loc), va_P D vwCl (wC cI ad rc rl rh fr fw fc fg ps pg pr pd qp qt qf qo ct lE lC cand lim now was (nI sent) (nI qfi) (nI qsz)) H → va_D A (wC cI ad rc rl rh fr fw fc fg ps pg pr pd qp qt qf qo ct lE lC cand lim now was (nI sent) (nI qfi) (nI qsz)) → va_S A s.heap H locs → ∀ ls : Array Slot, lv_has ls 10 [(6, .int (nI (x % 10))), (0, .ref (ad 0)), (1, .int (nI 11)), (2, .int (nI x)), (3, .int (nI y)), (4, .ref (ad 22)), (5, .ref (ad 23))] → W p l e { frames := 7, cells := 0, slots := 0, locals := 172 } s m [.ref (ad 0), .int (nI 11), .int (nI x), .int (nI y), .ref (ad 22), .ref (ad 23)].toArray below meth c H locs 0 0 (QI below s A D [.ref (ad 0), .int (nI 11), .int (nI x), .int (nI y), .ref (ad 22), .ref (ad 23)] (wC cI ad rc rl rh fr ((f_L_step_f y rc rh fr fw fc fg ps pg pr pd qp qt qf qo ct lim was qfi qsz).2.1) ((f_L_step_f y rc rh fr fw fc fg ps pg pr pd qp qt qf qo ct lim was qfi qsz).2.2.1) ((f_L_step_f y rc rh fr fw fc fg ps pg pr pd qp qt qf qo ct lim was qfi qsz).2.2.2.1) ps pg ((f_L_step_f y rc rh fr fw fc fg ps pg pr pd qp qt qf qo ct lim was qfi qsz).2.2.2.2.1) ((f_L_step_f y rc rh fr fw fc fg ps pg pr pd qp qt qf qo ct lim was qfi qsz).2.2.2.2.2.1) ((f_L_step_f y rc rh fr fw fc fg ps pg pr pd qp qt qf qo ct lim was qfi qsz).2.2.2.2.2.2.1) ((f_L_step_f y rc rh fr fw fc fg ps pg pr pd qp qt qf qo ct lim was qfi qsz).2.2.2.2.2.2.2.1) ((f_L_step_f y rc rh fr fw fc fg ps pg pr pd qp qt qf qo ct lim was qfi qsz).2.2.2.2.2.2.2.2.1) ((f_L_step_f y rc rh fr fw fc fg ps pg pr pd qp qt qf qo ct lim was qfi qsz).2.2.2.2.2.2.2.2.2.1) ((f_L_step_f y rc rh fr fw fc fg ps pg pr pd qp qt qf qo ct lim was qfi qsz).2.2.2.2.2.2.2.2.2.2.1) lE lC cand lim now ((f_L_step_f y rc rh fr fw fc fg ps pg pr pd qp qt qf qo ct lim was qfi qsz).2.2.2.2.2.2.2.2.2.2.2.1) (nI sent) (nI ((f_L_step_f y rc rh fr fw fc fg ps pg pr pd qp qt qf qo ct lim was qfi qsz).2.2.2.2.2.2.2.2.2.2.2.2.1)) (nI ((f_L_step_f y rc rh fr fw fc fg ps pg pr pd qp qt qf qo ct lim was qfi qsz).2.2.2.2.2.2.2.2.2.2.2.2.2))) (bI ((f_L_step_f y rc rh fr fw fc fg ps pg pr pd qp qt qf qo ct lim was qfi qsz).1))) (F0 m 21 ls [.int (nI v9)]) := by
    intro v9 hv9 H locs hP hD hS ls hl
    subst hv9
    have hjb9 : 0 ≤ j_L_step_f_9 y ∧ j_L_step_f_9 y ≤ 3 := by
      unfold j_L_step_f_9
      repeat' split
      all_goals (refine ⟨?_, ?_⟩ <;> omega)
    refine lv_istore (lv' := [(7, .int (nI (j_L_step_f_9 y))), (6, .int (nI (x % 10))), (0, .ref (ad 0)), (1, .int (nI 11)), (2, .int (nI x)), (3, .int (nI y)), (4, .ref (ad 22)), (5, .ref (ad 23))]) hx hb dL_step_21 hl (by decide) rfl (fun ls hl => ?_)
    refine lv_iload_n hx hb dL_step_23 rfl (lv_at hl 3 rfl) ?_
    refine lv_iconst (v := nI 2) hx hb dL_step_24 (by decide) ?_
    refine r_icmp_ge (tgt := 37) hx hb (by omega) (by omega) dL_step_25 (by decide) (fun _ => ?_) (fun c => absurd c (by omega))
    refine lv_iload_n hx hb dL_step_37 rfl (lv_at hl 3 rfl) ?_
    refine lv_iconst (v := nI 2) hx hb dL_step_38 (by decide) ?_
    refine r_icmp_ne (tgt := 127) hx hb (by omega) (by omega) dL_step_39 (by decide) (fun _ => ?_) (fun c => absurd c (by omega))
    refine lv_iload_n hx hb dL_step_127 rfl (lv_at hl 3 rfl) ?_
    refine lv_bipush (v := nI 6) hx hb dL_step_128 (by decide) ?_
    refine r_icmp_ge (tgt := 144) hx hb (by omega) (by omega) dL_step_130 (by decide) (fun _ => ?_) (fun c => absurd c (by omega))
    refine lv_iload_n hx hb dL_step_144 rfl (lv_at hl 3 rfl) ?_
    refine lv_bipush (v := nI 6) hx hb dL_step_145 (by decide) ?_
    refine r_icmp_ne (tgt := 177) hx hb (by omega) (by omega) dL_step_147 (by decide) (fun _ => ?_) (fun c => absurd c (by omega))
    refine lv_iload_n hx hb dL_step_177 rfl (lv_at hl 3 rfl) ?_
    refine lv_bipush (v := nI 7) hx hb dL_step_178 (by decide) ?_
    refine r_icmp_ne (tgt := 202) hx hb (by omega) (by omega) dL_step_180 (by decide) (fun _ => ?_) (fun c => absurd c (by omega))
    refine lv_iload_n hx hb dL_step_202 rfl (lv_at hl 3 rfl) ?_
    refine lv_bipush (v := nI 10) hx hb dL_step_203 (by decide) ?_
    refine r_icmp_ge (tgt := 248) hx hb (by omega) (by omega) dL_step_205 (by decide) (fun _ => ?_) (fun c => absurd c (by omega))
    refine lv_iload_n hx hb dL_step_248 rfl (lv_at hl 3 rfl) ?_
    refine lv_bipush (v := nI 10) hx hb dL_step_249 (by decide) ?_
    refine r_icmp_ne (tgt := 297) hx hb (by omega) (by omega) dL_step_251 (by decide) (fun _ => ?_) (fun c => absurd c (by omega))
    refine lv_iload_n hx hb dL_step_297 rfl (lv_at hl 3 rfl) ?_
    refine lv_bipush (v := nI 11) hx hb dL_step_298 (by decide) ?_
    refine r_icmp_ne (tgt := 316) hx hb (by omega) (by omega) dL_step_300 (by decide) (fun c => absurd c (by omega)) (fun _ => ?_)
    refine lv_aload_n hx hb dL_step_303 rfl (lv_at hl 2 rfl) ?_
    refine lv_iconst (v := nI 1) hx hb dL_step_304 (by decide) ?_
    refine lv_iload_n hx hb dL_step_305 rfl (lv_at hl 5 rfl) ?_
    refine lv_bipush (v := nI 7) hx hb dL_step_306 (by decide) ?_
    refine r_irem hx hb (by omega) (by omega) (by omega) dL_step_308 ?_
    refine r_iadd hx hb dL_step_309 ?_
    refine fS_i (as := [.ref (ad 0), .int (nI (1 + (y % 7)))]) (rest := []) B hl.1 (c_L_follows l D cI cZ ad rc rl rh fr fw fc fg ps pg pr pd qp qt qf qo ct lE lC cand lim now was sent qfi qsz (1 + (y % 7)) (by omega) (by omega) (by omega) (by omega) hqa) (l_RL_133 hts ⟨rfl, rfl⟩ ⟨Nat.le_of_ble_eq_true rfl, Nat.le_of_ble_eq_true rfl⟩) m_20_6 rfl rfl hP hD hS hA wfC (Nat.le_of_ble_eq_true rfl) dL_step_310 (fun H locs hP hD hS => ?_)
    refine lv_goto (tgt := 335) hx hb dL_step_313 (by decide) ?_
    exact eZ B hP hS (bI_nar _) (by simp only [hf, bI_t, bI_f]) (by simp only [hf]) dL_step_335
  have hj9 := j_L_step_f_9.eq_1 y
  refine r_if_ne (tgt := 16) hx hb (by omega) dL_step_9 (by decide) (fun c1 => ?_) (fun c1 => ?_)
  · have hj9 := hj9.trans (if_neg c1)
    refine lv_iload_n hx hb dL_step_16 rfl (lv_at hl 4 rfl) ?_
    refine lv_iconst (v := nI 2) hx hb dL_step_17 (by decide) ?_
    refine r_idiv hx hb (by omega) (by omega) (by omega) dL_step_18 ?_
    refine lv_iconst (v := nI 4) hx hb dL_step_19 (by decide) ?_
    refine r_irem hx hb (by omega) (by omega) (by omega) dL_step_20 ?_
    exact K9 _ hj9 _ _ hP hD hS _ hl
  · have hj9 := hj9.trans (if_pos c1)
    refine lv_iconst (v := nI 0) hx hb dL_step_12 (by decide) ?_
    refine lv_goto (tgt := 21) hx hb dL_step_13 (by decide) ?_
    exact K9 _ hj9 _ _ hP hD hS _ hl
def j_L_step_a_9 (y : Nat) : Nat :=
  if (y % 2) = 0 then 0 else (y / 2) % 4
def s_L_step_a_317 (rc : Nat → Int32) (rh : Nat → Int32) (fr : Nat → Int32) (fw : Nat → Int32) (fc : Nat → Int32) (fg : Nat → Int32) (ps : Nat → Int32) (pg : Nat → Int32) (pr : Nat → Int32) (pd : Nat → Int32) (qp : Nat → Int32) (qt : Nat → Int32) (qf : Nat → Int32) (qo : Nat → Int32) (ct : Nat → Int32) (lim : Int32) (was : Int32) (qfi : Nat) (qsz : Nat) : Int32 × (Nat → Int32) × (Nat → Int32) × (Nat → Int32) × (Nat → Int32) × (Nat → Int32) × (Nat → Int32) × (Nat → Int32) × (Nat → Int32) × (Nat → Int32) × (Nat → Int32) × Int32 × Nat × Nat :=
  f_X5_followAll rc rh fr fw fc fg ps pg pr pd qp qt qf qo ct lim was qfi qsz
def j_L_step_a_320 (rc : Nat → Int32) (rh : Nat → Int32) (fr : Nat → Int32) (fw : Nat → Int32) (fc : Nat → Int32) (fg : Nat → Int32) (ps : Nat → Int32) (pg : Nat → Int32) (pr : Nat → Int32) (pd : Nat → Int32) (qp : Nat → Int32) (qt : Nat → Int32) (qf : Nat → Int32) (qo : Nat → Int32) (ct : Nat → Int32) (lim : Int32) (was : Int32) (qfi : Nat) (qsz : Nat) : Bool :=
  if ((s_L_step_a_317 rc rh fr fw fc fg ps pg pr pd qp qt qf qo ct lim was qfi qsz).1) < 0 then false else if ((s_L_step_a_317 rc rh fr fw fc fg ps pg pr pd qp qt qf qo ct lim was qfi qsz).2.2.2.2.2.2.2.2.2.2.2.2.2) = 0 then true else false
def f_L_step_a (rc : Nat → Int32) (rh : Nat → Int32) (fr : Nat → Int32) (fw : Nat → Int32) (fc : Nat → Int32) (fg : Nat → Int32) (ps : Nat → Int32) (pg : Nat → Int32) (pr : Nat → Int32) (pd : Nat → Int32) (qp : Nat → Int32) (qt : Nat → Int32) (qf : Nat → Int32) (qo : Nat → Int32) (ct : Nat → Int32) (lim : Int32) (was : Int32) (qfi : Nat) (qsz : Nat) : Bool × (Nat → Int32) × (Nat → Int32) × (Nat → Int32) × (Nat → Int32) × (Nat → Int32) × (Nat → Int32) × (Nat → Int32) × (Nat → Int32) × (Nat → Int32) × (Nat → Int32) × Int32 × Nat × Nat :=
  (j_L_step_a_320 rc rh fr fw fc fg ps pg pr pd qp qt qf qo ct lim was qfi qsz, (s_L_step_a_317 rc rh fr fw fc fg ps pg pr pd qp qt qf qo ct lim was qfi qsz).2.1, (s_L_step_a_317 rc rh fr fw fc fg ps pg pr pd qp qt qf qo ct lim was qfi qsz).2.2.1, (s_L_step_a_317 rc rh fr fw fc fg ps pg pr pd qp qt qf qo ct lim was qfi qsz).2.2.2.1, (s_L_step_a_317 rc rh fr fw fc fg ps pg pr pd qp qt qf qo ct lim was qfi qsz).2.2.2.2.1, (s_L_step_a_317 rc rh fr fw fc fg ps pg pr pd qp qt qf qo ct lim was qfi qsz).2.2.2.2.2.1, (s_L_step_a_317 rc rh fr fw fc fg ps pg pr pd qp qt qf qo ct lim was qfi qsz).2.2.2.2.2.2.1, (s_L_step_a_317 rc rh fr fw fc fg ps pg pr pd qp qt qf qo ct lim was qfi qsz).2.2.2.2.2.2.2.1, (s_L_step_a_317 rc rh fr fw fc fg ps pg pr pd qp qt qf qo ct lim was qfi qsz).2.2.2.2.2.2.2.2.1, (s_L_step_a_317 rc rh fr fw fc fg ps pg pr pd qp qt qf qo ct lim was qfi qsz).2.2.2.2.2.2.2.2.2.1, (s_L_step_a_317 rc rh fr fw fc fg ps pg pr pd qp qt qf qo ct lim was qfi qsz).2.2.2.2.2.2.2.2.2.2.1, (s_L_step_a_317 rc rh fr fw fc fg ps pg pr pd qp qt qf qo ct lim was qfi qsz).2.2.2.2.2.2.2.2.2.2.2.1, (s_L_step_a_317 rc rh fr fw fc fg ps pg pr pd qp qt qf qo ct lim was qfi qsz).2.2.2.2.2.2.2.2.2.2.2.2.1, (s_L_step_a_317 rc rh fr fw fc fg ps pg pr pd qp qt qf qo ct lim was qfi qsz).2.2.2.2.2.2.2.2.2.2.2.2.2)
set_option maxHeartbeats 4000000 in
set_option maxRecDepth 100000 in
theorem c_L_step_a (l : Launch) (D : va_G) (cI cZ : ClassId) (ad : Nat → Nat) (rc rl rh fr fw fc fg ps pg pr pd qp qt qf qo ct lE lC : Nat → Int32) (cand : Int32) (lim : Int32) (now : Int32) (was : Int32) (sent : Nat) (qfi : Nat) (qsz : Nat) (x : Nat) (y : Nat) (hx : x < 1073741824) (hy : y < 1073741824) (hsent : sent ≤ 200) (hqfi : qfi ≤ 199) (hqsz : qsz ≤ 200) (hev : eA rc rh fr ps pg lim sent 20000 (fw, fc, fg, pr, pd, qp, qt, qf, qo, ct, was, qfi, qsz)) : MI l yL_step cL_step 10 .boolean { frames := 7, cells := 0, slots := 0, locals := 166 } D (TY cI cZ) [.ref (ad 0), .int (nI 12), .int (nI x), .int (nI y), .ref (ad 22), .ref (ad 23)] (wC cI ad rc rl rh fr fw fc fg ps pg pr pd qp qt qf qo ct lE lC cand lim now was (nI sent) (nI qfi) (nI qsz)) (wC cI ad rc rl rh fr ((f_L_step_a rc rh fr fw fc fg ps pg pr pd qp qt qf qo ct lim was qfi qsz).2.1) ((f_L_step_a rc rh fr fw fc fg ps pg pr pd qp qt qf qo ct lim was qfi qsz).2.2.1) ((f_L_step_a rc rh fr fw fc fg ps pg pr pd qp qt qf qo ct lim was qfi qsz).2.2.2.1) ps pg ((f_L_step_a rc rh fr fw fc fg ps pg pr pd qp qt qf qo ct lim was qfi qsz).2.2.2.2.1) ((f_L_step_a rc rh fr fw fc fg ps pg pr pd qp qt qf qo ct lim was qfi qsz).2.2.2.2.2.1) ((f_L_step_a rc rh fr fw fc fg ps pg pr pd qp qt qf qo ct lim was qfi qsz).2.2.2.2.2.2.1) ((f_L_step_a rc rh fr fw fc fg ps pg pr pd qp qt qf qo ct lim was qfi qsz).2.2.2.2.2.2.2.1) ((f_L_step_a rc rh fr fw fc fg ps pg pr pd qp qt qf qo ct lim was qfi qsz).2.2.2.2.2.2.2.2.1) ((f_L_step_a rc rh fr fw fc fg ps pg pr pd qp qt qf qo ct lim was qfi qsz).2.2.2.2.2.2.2.2.2.1) ((f_L_step_a rc rh fr fw fc fg ps pg pr pd qp qt qf qo ct lim was qfi qsz).2.2.2.2.2.2.2.2.2.2.1) lE lC cand lim now ((f_L_step_a rc rh fr fw fc fg ps pg pr pd qp qt qf qo ct lim was qfi qsz).2.2.2.2.2.2.2.2.2.2.2.1) (nI sent) (nI ((f_L_step_a rc rh fr fw fc fg ps pg pr pd qp qt qf qo ct lim was qfi qsz).2.2.2.2.2.2.2.2.2.2.2.2.1)) (nI ((f_L_step_a rc rh fr fw fc fg ps pg pr pd qp qt qf qo ct lim was qfi qsz).2.2.2.2.2.2.2.2.2.2.2.2.2))) (bI ((f_L_step_a rc rh fr fw fc fg ps pg pr pd qp qt qf qo ct lim was qfi qsz).1)) := by
  refine MI.mk ⟨rfl, rfl⟩ (by decide +kernel) (Nat.le_of_ble_eq_true rfl) ?_
  intro p e s m below meth c A ls B hA hP hD hS hl
  have hx := B.1
  have hb := B.2.1
  have hts := B.2.2.2.2.2.1
  have hN := B.2.2.2.2.2.2.2.1
  have hK := B.2.2.2.2.2.2.2.2.1
  have hl : lv_has ls 10 [(0, .ref (ad 0)), (1, .int (nI 12)), (2, .int (nI x)), (3, .int (nI y)), (4, .ref (ad 22)), (5, .ref (ad 23))] := hl
  have hf := f_L_step_a.eq_1 rc rh fr fw fc fg ps pg pr pd qp qt qf qo ct lim was qfi qsz
  refine lv_iload_n hx hb dL_step_0 rfl (lv_at hl 2 rfl) ?_
  refine lv_bipush (v := nI 10) hx hb dL_step_1 (by decide) ?_
  refine r_irem hx hb (by omega) (by omega) (by omega) dL_step_3 ?_
  refine lv_istore (lv' := [(6, .int (nI (x % 10))), (0, .ref (ad 0)), (1, .int (nI 12)), (2, .int (nI x)), (3, .int (nI y)), (4, .ref (ad 22)), (5, .ref (ad 23))]) hx hb dL_step_4 hl (by decide) rfl (fun ls hl => ?_)
  refine lv_iload_n hx hb dL_step_6 rfl (lv_at hl 4 rfl) ?_
  refine lv_iconst (v := nI 2) hx hb dL_step_7 (by decide) ?_
  refine r_irem hx hb (by omega) (by omega) (by omega) dL_step_8 ?_
  have K9 : ∀ v9 : Nat, j_L_step_a_9 y = v9 → ∀ (H : Heap) (locs : List Loc), va_P D vwCl (wC cI ad rc rl rh fr fw fc fg ps pg pr pd qp qt qf qo ct lE lC cand lim now was (nI sent) (nI qfi) (nI qsz)) H → va_D A (wC cI ad rc rl rh fr fw fc fg ps pg pr pd qp qt qf qo ct lE lC cand lim now was (nI sent) (nI qfi) (nI qsz)) → va_S A s.heap H locs → ∀ ls : Array Slot, lv_has ls 10 [(6, .int (nI (x % 10))), (0, .ref (ad 0)), (1, .int (nI 12)), (2, .int (nI x)), (3, .int (nI y)), (4, .ref (ad 22)), (5, .ref (ad 23))] → W p l e { frames := 7, cells := 0, slots := 0, locals := 166 } s m [.ref (ad 0), .int (nI 12), .int (nI x), .int (nI y), .ref (ad 22), .ref (ad 23)].toArray below meth c H locs 0 0 (QI below s A D [.ref (ad 0), .int (nI 12), .int (nI x), .int (nI y), .ref (ad 22), .ref (ad 23)] (wC cI ad rc rl rh fr ((f_L_step_a rc rh fr fw fc fg ps pg pr pd qp qt qf qo ct lim was qfi qsz).2.1) ((f_L_step_a rc rh fr fw fc fg ps pg pr pd qp qt qf qo ct lim was qfi qsz).2.2.1) ((f_L_step_a rc rh fr fw fc fg ps pg pr pd qp qt qf qo ct lim was qfi qsz).2.2.2.1) ps pg ((f_L_step_a rc rh fr fw fc fg ps pg pr pd qp qt qf qo ct lim was qfi qsz).2.2.2.2.1) ((f_L_step_a rc rh fr fw fc fg ps pg pr pd qp qt qf qo ct lim was qfi qsz).2.2.2.2.2.1) ((f_L_step_a rc rh fr fw fc fg ps pg pr pd qp qt qf qo ct lim was qfi qsz).2.2.2.2.2.2.1) ((f_L_step_a rc rh fr fw fc fg ps pg pr pd qp qt qf qo ct lim was qfi qsz).2.2.2.2.2.2.2.1) ((f_L_step_a rc rh fr fw fc fg ps pg pr pd qp qt qf qo ct lim was qfi qsz).2.2.2.2.2.2.2.2.1) ((f_L_step_a rc rh fr fw fc fg ps pg pr pd qp qt qf qo ct lim was qfi qsz).2.2.2.2.2.2.2.2.2.1) ((f_L_step_a rc rh fr fw fc fg ps pg pr pd qp qt qf qo ct lim was qfi qsz).2.2.2.2.2.2.2.2.2.2.1) lE lC cand lim now ((f_L_step_a rc rh fr fw fc fg ps pg pr pd qp qt qf qo ct lim was qfi qsz).2.2.2.2.2.2.2.2.2.2.2.1) (nI sent) (nI ((f_L_step_a rc rh fr fw fc fg ps pg pr pd qp qt qf qo ct lim was qfi qsz).2.2.2.2.2.2.2.2.2.2.2.2.1)) (nI ((f_L_step_a rc rh fr fw fc fg ps pg pr pd qp qt qf qo ct lim was qfi qsz).2.2.2.2.2.2.2.2.2.2.2.2.2))) (bI ((f_L_step_a rc rh fr fw fc fg ps pg pr pd qp qt qf qo ct lim was qfi qsz).1))) (F0 m 21 ls [.int (nI v9)]) := by
    intro v9 hv9 H locs hP hD hS ls hl
    subst hv9
    have hjb9 : 0 ≤ j_L_step_a_9 y ∧ j_L_step_a_9 y ≤ 3 := by
      unfold j_L_step_a_9
      repeat' split
      all_goals (refine ⟨?_, ?_⟩ <;> omega)
    refine lv_istore (lv' := [(7, .int (nI (j_L_step_a_9 y))), (6, .int (nI (x % 10))), (0, .ref (ad 0)), (1, .int (nI 12)), (2, .int (nI x)), (3, .int (nI y)), (4, .ref (ad 22)), (5, .ref (ad 23))]) hx hb dL_step_21 hl (by decide) rfl (fun ls hl => ?_)
    refine lv_iload_n hx hb dL_step_23 rfl (lv_at hl 3 rfl) ?_
    refine lv_iconst (v := nI 2) hx hb dL_step_24 (by decide) ?_
    refine r_icmp_ge (tgt := 37) hx hb (by omega) (by omega) dL_step_25 (by decide) (fun _ => ?_) (fun c => absurd c (by omega))
    refine lv_iload_n hx hb dL_step_37 rfl (lv_at hl 3 rfl) ?_
    refine lv_iconst (v := nI 2) hx hb dL_step_38 (by decide) ?_
    refine r_icmp_ne (tgt := 127) hx hb (by omega) (by omega) dL_step_39 (by decide) (fun _ => ?_) (fun c => absurd c (by omega))
    refine lv_iload_n hx hb dL_step_127 rfl (lv_at hl 3 rfl) ?_
    refine lv_bipush (v := nI 6) hx hb dL_step_128 (by decide) ?_
    refine r_icmp_ge (tgt := 144) hx hb (by omega) (by omega) dL_step_130 (by decide) (fun _ => ?_) (fun c => absurd c (by omega))
    refine lv_iload_n hx hb dL_step_144 rfl (lv_at hl 3 rfl) ?_
    refine lv_bipush (v := nI 6) hx hb dL_step_145 (by decide) ?_
    refine r_icmp_ne (tgt := 177) hx hb (by omega) (by omega) dL_step_147 (by decide) (fun _ => ?_) (fun c => absurd c (by omega))
    refine lv_iload_n hx hb dL_step_177 rfl (lv_at hl 3 rfl) ?_
    refine lv_bipush (v := nI 7) hx hb dL_step_178 (by decide) ?_
    refine r_icmp_ne (tgt := 202) hx hb (by omega) (by omega) dL_step_180 (by decide) (fun _ => ?_) (fun c => absurd c (by omega))
    refine lv_iload_n hx hb dL_step_202 rfl (lv_at hl 3 rfl) ?_
    refine lv_bipush (v := nI 10) hx hb dL_step_203 (by decide) ?_
    refine r_icmp_ge (tgt := 248) hx hb (by omega) (by omega) dL_step_205 (by decide) (fun _ => ?_) (fun c => absurd c (by omega))
    refine lv_iload_n hx hb dL_step_248 rfl (lv_at hl 3 rfl) ?_
    refine lv_bipush (v := nI 10) hx hb dL_step_249 (by decide) ?_
    refine r_icmp_ne (tgt := 297) hx hb (by omega) (by omega) dL_step_251 (by decide) (fun _ => ?_) (fun c => absurd c (by omega))
    refine lv_iload_n hx hb dL_step_297 rfl (lv_at hl 3 rfl) ?_
    refine lv_bipush (v := nI 11) hx hb dL_step_298 (by decide) ?_
    refine r_icmp_ne (tgt := 316) hx hb (by omega) (by omega) dL_step_300 (by decide) (fun _ => ?_) (fun c => absurd c (by omega))
    refine lv_aload_n hx hb dL_step_316 rfl (lv_at hl 2 rfl) ?_
    refine fV_i (ci := 5) (as := []) (rest := []) B hl.1 (c_X5_followAll_t l D cI cZ ad rc rl rh fr fw fc fg ps pg pr pd qp qt qf qo ct lE lC cand lim now was sent qfi qsz (by omega) (by omega) (by omega) hev) rfl (l_RL_76 hts ⟨rfl, rfl⟩ ⟨Nat.le_of_ble_eq_true rfl, Nat.le_of_ble_eq_true rfl⟩) m_17_18 m_17_19 rfl rfl hP hD hS hA 0 rfl wfC (Nat.le_of_ble_eq_true rfl) dL_step_317 (fun H locs hP hD hS => ?_)
    have hP : va_P D vwCl (wC cI ad rc rl rh fr ((s_L_step_a_317 rc rh fr fw fc fg ps pg pr pd qp qt qf qo ct lim was qfi qsz).2.1) ((s_L_step_a_317 rc rh fr fw fc fg ps pg pr pd qp qt qf qo ct lim was qfi qsz).2.2.1) ((s_L_step_a_317 rc rh fr fw fc fg ps pg pr pd qp qt qf qo ct lim was qfi qsz).2.2.2.1) ps pg ((s_L_step_a_317 rc rh fr fw fc fg ps pg pr pd qp qt qf qo ct lim was qfi qsz).2.2.2.2.1) ((s_L_step_a_317 rc rh fr fw fc fg ps pg pr pd qp qt qf qo ct lim was qfi qsz).2.2.2.2.2.1) ((s_L_step_a_317 rc rh fr fw fc fg ps pg pr pd qp qt qf qo ct lim was qfi qsz).2.2.2.2.2.2.1) ((s_L_step_a_317 rc rh fr fw fc fg ps pg pr pd qp qt qf qo ct lim was qfi qsz).2.2.2.2.2.2.2.1) ((s_L_step_a_317 rc rh fr fw fc fg ps pg pr pd qp qt qf qo ct lim was qfi qsz).2.2.2.2.2.2.2.2.1) ((s_L_step_a_317 rc rh fr fw fc fg ps pg pr pd qp qt qf qo ct lim was qfi qsz).2.2.2.2.2.2.2.2.2.1) ((s_L_step_a_317 rc rh fr fw fc fg ps pg pr pd qp qt qf qo ct lim was qfi qsz).2.2.2.2.2.2.2.2.2.2.1) lE lC cand lim now ((s_L_step_a_317 rc rh fr fw fc fg ps pg pr pd qp qt qf qo ct lim was qfi qsz).2.2.2.2.2.2.2.2.2.2.2.1) (nI sent) (nI ((s_L_step_a_317 rc rh fr fw fc fg ps pg pr pd qp qt qf qo ct lim was qfi qsz).2.2.2.2.2.2.2.2.2.2.2.2.1)) (nI ((s_L_step_a_317 rc rh fr fw fc fg ps pg pr pd qp qt qf qo ct lim was qfi qsz).2.2.2.2.2.2.2.2.2.2.2.2.2))) H := hP
    have hD : va_D A (wC cI ad rc rl rh fr ((s_L_step_a_317 rc rh fr fw fc fg ps pg pr pd qp qt qf qo ct lim was qfi qsz).2.1) ((s_L_step_a_317 rc rh fr fw fc fg ps pg pr pd qp qt qf qo ct lim was qfi qsz).2.2.1) ((s_L_step_a_317 rc rh fr fw fc fg ps pg pr pd qp qt qf qo ct lim was qfi qsz).2.2.2.1) ps pg ((s_L_step_a_317 rc rh fr fw fc fg ps pg pr pd qp qt qf qo ct lim was qfi qsz).2.2.2.2.1) ((s_L_step_a_317 rc rh fr fw fc fg ps pg pr pd qp qt qf qo ct lim was qfi qsz).2.2.2.2.2.1) ((s_L_step_a_317 rc rh fr fw fc fg ps pg pr pd qp qt qf qo ct lim was qfi qsz).2.2.2.2.2.2.1) ((s_L_step_a_317 rc rh fr fw fc fg ps pg pr pd qp qt qf qo ct lim was qfi qsz).2.2.2.2.2.2.2.1) ((s_L_step_a_317 rc rh fr fw fc fg ps pg pr pd qp qt qf qo ct lim was qfi qsz).2.2.2.2.2.2.2.2.1) ((s_L_step_a_317 rc rh fr fw fc fg ps pg pr pd qp qt qf qo ct lim was qfi qsz).2.2.2.2.2.2.2.2.2.1) ((s_L_step_a_317 rc rh fr fw fc fg ps pg pr pd qp qt qf qo ct lim was qfi qsz).2.2.2.2.2.2.2.2.2.2.1) lE lC cand lim now ((s_L_step_a_317 rc rh fr fw fc fg ps pg pr pd qp qt qf qo ct lim was qfi qsz).2.2.2.2.2.2.2.2.2.2.2.1) (nI sent) (nI ((s_L_step_a_317 rc rh fr fw fc fg ps pg pr pd qp qt qf qo ct lim was qfi qsz).2.2.2.2.2.2.2.2.2.2.2.2.1)) (nI ((s_L_step_a_317 rc rh fr fw fc fg ps pg pr pd qp qt qf qo ct lim was qfi qsz).2.2.2.2.2.2.2.2.2.2.2.2.2))) := hD
    have hq1 : (s_L_step_a_317 rc rh fr fw fc fg ps pg pr pd qp qt qf qo ct lim was qfi qsz).2.2.2.2.2.2.2.2.2.2.2.2.1 ≤ 199 := fb_X5_followAll_qfi rc rh fr fw fc fg ps pg pr pd qp qt qf qo ct lim was qfi qsz sent (by omega) (by omega) hev
    have hq2 : (s_L_step_a_317 rc rh fr fw fc fg ps pg pr pd qp qt qf qo ct lim was qfi qsz).2.2.2.2.2.2.2.2.2.2.2.2.2 ≤ 200 := fb_X5_followAll_qsz rc rh fr fw fc fg ps pg pr pd qp qt qf qo ct lim was qfi qsz sent (by omega) (by omega) hev
    have K320 : ∀ v320 : Bool, j_L_step_a_320 rc rh fr fw fc fg ps pg pr pd qp qt qf qo ct lim was qfi qsz = v320 → ∀ (H : Heap) (locs : List Loc), va_P D vwCl (wC cI ad rc rl rh fr ((s_L_step_a_317 rc rh fr fw fc fg ps pg pr pd qp qt qf qo ct lim was qfi qsz).2.1) ((s_L_step_a_317 rc rh fr fw fc fg ps pg pr pd qp qt qf qo ct lim was qfi qsz).2.2.1) ((s_L_step_a_317 rc rh fr fw fc fg ps pg pr pd qp qt qf qo ct lim was qfi qsz).2.2.2.1) ps pg ((s_L_step_a_317 rc rh fr fw fc fg ps pg pr pd qp qt qf qo ct lim was qfi qsz).2.2.2.2.1) ((s_L_step_a_317 rc rh fr fw fc fg ps pg pr pd qp qt qf qo ct lim was qfi qsz).2.2.2.2.2.1) ((s_L_step_a_317 rc rh fr fw fc fg ps pg pr pd qp qt qf qo ct lim was qfi qsz).2.2.2.2.2.2.1) ((s_L_step_a_317 rc rh fr fw fc fg ps pg pr pd qp qt qf qo ct lim was qfi qsz).2.2.2.2.2.2.2.1) ((s_L_step_a_317 rc rh fr fw fc fg ps pg pr pd qp qt qf qo ct lim was qfi qsz).2.2.2.2.2.2.2.2.1) ((s_L_step_a_317 rc rh fr fw fc fg ps pg pr pd qp qt qf qo ct lim was qfi qsz).2.2.2.2.2.2.2.2.2.1) ((s_L_step_a_317 rc rh fr fw fc fg ps pg pr pd qp qt qf qo ct lim was qfi qsz).2.2.2.2.2.2.2.2.2.2.1) lE lC cand lim now ((s_L_step_a_317 rc rh fr fw fc fg ps pg pr pd qp qt qf qo ct lim was qfi qsz).2.2.2.2.2.2.2.2.2.2.2.1) (nI sent) (nI ((s_L_step_a_317 rc rh fr fw fc fg ps pg pr pd qp qt qf qo ct lim was qfi qsz).2.2.2.2.2.2.2.2.2.2.2.2.1)) (nI ((s_L_step_a_317 rc rh fr fw fc fg ps pg pr pd qp qt qf qo ct lim was qfi qsz).2.2.2.2.2.2.2.2.2.2.2.2.2))) H → va_D A (wC cI ad rc rl rh fr ((s_L_step_a_317 rc rh fr fw fc fg ps pg pr pd qp qt qf qo ct lim was qfi qsz).2.1) ((s_L_step_a_317 rc rh fr fw fc fg ps pg pr pd qp qt qf qo ct lim was qfi qsz).2.2.1) ((s_L_step_a_317 rc rh fr fw fc fg ps pg pr pd qp qt qf qo ct lim was qfi qsz).2.2.2.1) ps pg ((s_L_step_a_317 rc rh fr fw fc fg ps pg pr pd qp qt qf qo ct lim was qfi qsz).2.2.2.2.1) ((s_L_step_a_317 rc rh fr fw fc fg ps pg pr pd qp qt qf qo ct lim was qfi qsz).2.2.2.2.2.1) ((s_L_step_a_317 rc rh fr fw fc fg ps pg pr pd qp qt qf qo ct lim was qfi qsz).2.2.2.2.2.2.1) ((s_L_step_a_317 rc rh fr fw fc fg ps pg pr pd qp qt qf qo ct lim was qfi qsz).2.2.2.2.2.2.2.1) ((s_L_step_a_317 rc rh fr fw fc fg ps pg pr pd qp qt qf qo ct lim was qfi qsz).2.2.2.2.2.2.2.2.1) ((s_L_step_a_317 rc rh fr fw fc fg ps pg pr pd qp qt qf qo ct lim was qfi qsz).2.2.2.2.2.2.2.2.2.1) ((s_L_step_a_317 rc rh fr fw fc fg ps pg pr pd qp qt qf qo ct lim was qfi qsz).2.2.2.2.2.2.2.2.2.2.1) lE lC cand lim now ((s_L_step_a_317 rc rh fr fw fc fg ps pg pr pd qp qt qf qo ct lim was qfi qsz).2.2.2.2.2.2.2.2.2.2.2.1) (nI sent) (nI ((s_L_step_a_317 rc rh fr fw fc fg ps pg pr pd qp qt qf qo ct lim was qfi qsz).2.2.2.2.2.2.2.2.2.2.2.2.1)) (nI ((s_L_step_a_317 rc rh fr fw fc fg ps pg pr pd qp qt qf qo ct lim was qfi qsz).2.2.2.2.2.2.2.2.2.2.2.2.2))) → va_S A s.heap H locs → ∀ ls : Array Slot, lv_has ls 10 [(7, .int (nI (j_L_step_a_9 y))), (6, .int (nI (x % 10))), (0, .ref (ad 0)), (1, .int (nI 12)), (2, .int (nI x)), (3, .int (nI y)), (4, .ref (ad 22)), (5, .ref (ad 23))] → W p l e { frames := 7, cells := 0, slots := 0, locals := 166 } s m [.ref (ad 0), .int (nI 12), .int (nI x), .int (nI y), .ref (ad 22), .ref (ad 23)].toArray below meth c H locs 0 0 (QI below s A D [.ref (ad 0), .int (nI 12), .int (nI x), .int (nI y), .ref (ad 22), .ref (ad 23)] (wC cI ad rc rl rh fr ((f_L_step_a rc rh fr fw fc fg ps pg pr pd qp qt qf qo ct lim was qfi qsz).2.1) ((f_L_step_a rc rh fr fw fc fg ps pg pr pd qp qt qf qo ct lim was qfi qsz).2.2.1) ((f_L_step_a rc rh fr fw fc fg ps pg pr pd qp qt qf qo ct lim was qfi qsz).2.2.2.1) ps pg ((f_L_step_a rc rh fr fw fc fg ps pg pr pd qp qt qf qo ct lim was qfi qsz).2.2.2.2.1) ((f_L_step_a rc rh fr fw fc fg ps pg pr pd qp qt qf qo ct lim was qfi qsz).2.2.2.2.2.1) ((f_L_step_a rc rh fr fw fc fg ps pg pr pd qp qt qf qo ct lim was qfi qsz).2.2.2.2.2.2.1) ((f_L_step_a rc rh fr fw fc fg ps pg pr pd qp qt qf qo ct lim was qfi qsz).2.2.2.2.2.2.2.1) ((f_L_step_a rc rh fr fw fc fg ps pg pr pd qp qt qf qo ct lim was qfi qsz).2.2.2.2.2.2.2.2.1) ((f_L_step_a rc rh fr fw fc fg ps pg pr pd qp qt qf qo ct lim was qfi qsz).2.2.2.2.2.2.2.2.2.1) ((f_L_step_a rc rh fr fw fc fg ps pg pr pd qp qt qf qo ct lim was qfi qsz).2.2.2.2.2.2.2.2.2.2.1) lE lC cand lim now ((f_L_step_a rc rh fr fw fc fg ps pg pr pd qp qt qf qo ct lim was qfi qsz).2.2.2.2.2.2.2.2.2.2.2.1) (nI sent) (nI ((f_L_step_a rc rh fr fw fc fg ps pg pr pd qp qt qf qo ct lim was qfi qsz).2.2.2.2.2.2.2.2.2.2.2.2.1)) (nI ((f_L_step_a rc rh fr fw fc fg ps pg pr pd qp qt qf qo ct lim was qfi qsz).2.2.2.2.2.2.2.2.2.2.2.2.2))) (bI ((f_L_step_a rc rh fr fw fc fg ps pg pr pd qp qt qf qo ct lim was qfi qsz).1))) (F0 m 335 ls [.int (bI v320)]) := by
      intro v320 hv320 H locs hP hD hS ls hl
      subst hv320
      exact eZ B hP hS (bI_nar _) (by simp only [hf, bI_t, bI_f]) (by simp only [hf]) dL_step_335
    have hj320 := j_L_step_a_320.eq_1 rc rh fr fw fc fg ps pg pr pd qp qt qf qo ct lim was qfi qsz
    refine lv_if_lt (tgt := 334) hx hb dL_step_320 (by decide) (fun c3 => ?_) (fun c3 => ?_)
    · have hj320 := hj320.trans (if_pos c3)
      refine lv_iconst (v := nI 0) hx hb dL_step_334 (by decide) ?_
      exact K320 _ hj320 _ _ hP hD hS _ hl
    · have hj320 := hj320.trans (if_neg c3)
      refine lv_aload_n hx hb dL_step_323 rfl (lv_at hl 2 rfl) ?_
      refine fV_i (ci := 5) (as := []) (rest := []) B hl.1 (c_X5_queued l D cI cZ ad rc rl rh fr ((s_L_step_a_317 rc rh fr fw fc fg ps pg pr pd qp qt qf qo ct lim was qfi qsz).2.1) ((s_L_step_a_317 rc rh fr fw fc fg ps pg pr pd qp qt qf qo ct lim was qfi qsz).2.2.1) ((s_L_step_a_317 rc rh fr fw fc fg ps pg pr pd qp qt qf qo ct lim was qfi qsz).2.2.2.1) ps pg ((s_L_step_a_317 rc rh fr fw fc fg ps pg pr pd qp qt qf qo ct lim was qfi qsz).2.2.2.2.1) ((s_L_step_a_317 rc rh fr fw fc fg ps pg pr pd qp qt qf qo ct lim was qfi qsz).2.2.2.2.2.1) ((s_L_step_a_317 rc rh fr fw fc fg ps pg pr pd qp qt qf qo ct lim was qfi qsz).2.2.2.2.2.2.1) ((s_L_step_a_317 rc rh fr fw fc fg ps pg pr pd qp qt qf qo ct lim was qfi qsz).2.2.2.2.2.2.2.1) ((s_L_step_a_317 rc rh fr fw fc fg ps pg pr pd qp qt qf qo ct lim was qfi qsz).2.2.2.2.2.2.2.2.1) ((s_L_step_a_317 rc rh fr fw fc fg ps pg pr pd qp qt qf qo ct lim was qfi qsz).2.2.2.2.2.2.2.2.2.1) ((s_L_step_a_317 rc rh fr fw fc fg ps pg pr pd qp qt qf qo ct lim was qfi qsz).2.2.2.2.2.2.2.2.2.2.1) lE lC cand lim now ((s_L_step_a_317 rc rh fr fw fc fg ps pg pr pd qp qt qf qo ct lim was qfi qsz).2.2.2.2.2.2.2.2.2.2.2.1) sent ((s_L_step_a_317 rc rh fr fw fc fg ps pg pr pd qp qt qf qo ct lim was qfi qsz).2.2.2.2.2.2.2.2.2.2.2.2.1) ((s_L_step_a_317 rc rh fr fw fc fg ps pg pr pd qp qt qf qo ct lim was qfi qsz).2.2.2.2.2.2.2.2.2.2.2.2.2) (by omega)) rfl (l_RL_73 hts ⟨rfl, rfl⟩ ⟨Nat.le_of_ble_eq_true rfl, Nat.le_of_ble_eq_true rfl⟩) m_13_12 m_13_13 rfl rfl hP hD hS hA 0 rfl wfC (Nat.le_of_ble_eq_true rfl) dL_step_324 (fun H locs hP hD hS => ?_)
      refine r_if_ne (tgt := 334) hx hb (by omega) dL_step_327 (by decide) (fun c4 => ?_) (fun c4 => ?_)
      · have hj320 := hj320.trans (if_neg c4)
        refine lv_iconst (v := nI 0) hx hb dL_step_334 (by decide) ?_
        exact K320 _ hj320 _ _ hP hD hS _ hl
      · have hj320 := hj320.trans (if_pos c4)
        refine lv_iconst (v := nI 1) hx hb dL_step_330 (by decide) ?_
        refine lv_goto (tgt := 335) hx hb dL_step_331 (by decide) ?_
        exact K320 _ hj320 _ _ hP hD hS _ hl
  have hj9 := j_L_step_a_9.eq_1 y
  refine r_if_ne (tgt := 16) hx hb (by omega) dL_step_9 (by decide) (fun c5 => ?_) (fun c5 => ?_)
  · have hj9 := hj9.trans (if_neg c5)
    refine lv_iload_n hx hb dL_step_16 rfl (lv_at hl 4 rfl) ?_
    refine lv_iconst (v := nI 2) hx hb dL_step_17 (by decide) ?_
    refine r_idiv hx hb (by omega) (by omega) (by omega) dL_step_18 ?_
    refine lv_iconst (v := nI 4) hx hb dL_step_19 (by decide) ?_
    refine r_irem hx hb (by omega) (by omega) (by omega) dL_step_20 ?_
    exact K9 _ hj9 _ _ hP hD hS _ hl
  · have hj9 := hj9.trans (if_pos c5)
    refine lv_iconst (v := nI 0) hx hb dL_step_12 (by decide) ?_
    refine lv_goto (tgt := 21) hx hb dL_step_13 (by decide) ?_
    exact K9 _ hj9 _ _ hP hD hS _ hl
