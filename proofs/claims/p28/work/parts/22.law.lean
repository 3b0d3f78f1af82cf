/-! the law's methods: what changes -/
def j_L_links_26 (y : Nat) : Nat :=
  if (y % 4) = 0 then 0 else 1 + ((y / 4) % 20)
def j_L_links_83 (x : Nat) (y : Nat) (rc : Nat → Int32) (rl : Nat → Int32) (rh : Nat → Int32) (fr : Nat → Int32) (fw : Nat → Int32) (fc : Nat → Int32) (fg : Nat → Int32) (lE : Nat → Int32) : Bool :=
  if ((f_X5_setLink (x % 10) ((((x % 10) + 1) + ((x / 10) % 9)) % 10) (j_L_links_26 y) rc rl rh fr fw fc fg).1) = (lE (f_L_at (x % 10) ((((x % 10) + 1) + ((x / 10) % 9)) % 10))) then (if (nI (j_L_links_26 y)) = (lE (f_L_at (x % 10) ((((x % 10) + 1) + ((x / 10) % 9)) % 10))) then (if (f_X2_leavingBranches ((f_X5_setLink (x % 10) ((((x % 10) + 1) + ((x / 10) % 9)) % 10) (j_L_links_26 y) rc rl rh fr fw fc fg).2.2.2.2.2)) = (f_X2_leavingBranches fg) then true else false) else if (f_X2_leavingBranches ((f_X5_setLink (x % 10) ((((x % 10) + 1) + ((x / 10) % 9)) % 10) (j_L_links_26 y) rc rl rh fr fw fc fg).2.2.2.2.2)) = 0 then true else false) else false
def f_L_links (x : Nat) (y : Nat) (rc : Nat → Int32) (rl : Nat → Int32) (rh : Nat → Int32) (fr : Nat → Int32) (fw : Nat → Int32) (fc : Nat → Int32) (fg : Nat → Int32) (lE : Nat → Int32) : Bool × (Nat → Int32) × (Nat → Int32) × (Nat → Int32) × (Nat → Int32) × (Nat → Int32) × (Nat → Int32) :=
  (j_L_links_83 x y rc rl rh fr fw fc fg lE, (f_X5_setLink (x % 10) ((((x % 10) + 1) + ((x / 10) % 9)) % 10) (j_L_links_26 y) rc rl rh fr fw fc fg).2.1, (f_X5_setLink (x % 10) ((((x % 10) + 1) + ((x / 10) % 9)) % 10) (j_L_links_26 y) rc rl rh fr fw fc fg).2.2.1, (f_X5_setLink (x % 10) ((((x % 10) + 1) + ((x / 10) % 9)) % 10) (j_L_links_26 y) rc rl rh fr fw fc fg).2.2.2.1, (f_X5_setLink (x % 10) ((((x % 10) + 1) + ((x / 10) % 9)) % 10) (j_L_links_26 y) rc rl rh fr fw fc fg).2.2.2.2.1, (f_X5_setLink (x % 10) ((((x % 10) + 1) + ((x / 10) % 9)) % 10) (j_L_links_26 y) rc rl rh fr fw fc fg).2.2.2.2.2, upd lE (f_L_at (x % 10) ((((x % 10) + 1) + ((x / 10) % 9)) % 10)) (nI (j_L_links_26 y)))
set_option maxHeartbeats 4000000 in
set_option maxRecDepth 100000 in
theorem c_L_links (l : Launch) (D : va_G) (cI cZ : ClassId) (ad : Nat → Nat) (rc rl rh fr fw fc fg ps pg pr pd qp qt qf qo ct lE lC : Nat → Int32) (cand : Int32) (lim : Int32) (now : Int32) (was : Int32) (sent : Nat) (qfi : Nat) (qsz : Nat) (x : Nat) (y : Nat) (hx : x < 1073741824) (hy : y < 1073741824) : MI l yL_links cL_links 9 .boolean { frames := 6, cells := 0, slots := 0, locals := 138 } D (TY cI cZ) [.ref (ad 0), .ref (ad 22), .int (nI x), .int (nI y)] (wC cI ad rc rl rh fr fw fc fg ps pg pr pd qp qt qf qo ct lE lC cand lim now was (nI sent) (nI qfi) (nI qsz)) (wC cI ad ((f_L_links x y rc rl rh fr fw fc fg lE).2.1) ((f_L_links x y rc rl rh fr fw fc fg lE).2.2.1) ((f_L_links x y rc rl rh fr fw fc fg lE).2.2.2.1) fr fw ((f_L_links x y rc rl rh fr fw fc fg lE).2.2.2.2.1) ((f_L_links x y rc rl rh fr fw fc fg lE).2.2.2.2.2.1) ps pg pr pd qp qt qf qo ct ((f_L_links x y rc rl rh fr fw fc fg lE).2.2.2.2.2.2) lC cand lim now was (nI sent) (nI qfi) (nI qsz)) (bI ((f_L_links x y rc rl rh fr fw fc fg lE).1)) := by
  refine MI.mk ⟨rfl, rfl⟩ (by decide +kernel) (Nat.le_of_ble_eq_true rfl) ?_
  intro p e s m below meth c A ls B hA hP hD hS hl
  have hx := B.1
  have hb := B.2.1
  have hts := B.2.2.2.2.2.1
  have hN := B.2.2.2.2.2.2.2.1
  have hK := B.2.2.2.2.2.2.2.2.1
  have hl : lv_has ls 9 [(0, .ref (ad 0)), (1, .ref (ad 22)), (2, .int (nI x)), (3, .int (nI y))] := hl
  have hf := f_L_links.eq_1 x y rc rl rh fr fw fc fg lE
  refine lv_iload_n hx hb dL_links_0 rfl (lv_at hl 2 rfl) ?_
  refine lv_bipush (v := nI 10) hx hb dL_links_1 (by decide) ?_
  refine r_irem hx hb (by omega) (by omega) (by omega) dL_links_3 ?_
  refine lv_istore (lv' := [(4, .int (nI (x % 10))), (0, .ref (ad 0)), (1, .ref (ad 22)), (2, .int (nI x)), (3, .int (nI y))]) hx hb dL_links_4 hl (by decide) rfl (fun ls hl => ?_)
  refine lv_iload hx hb dL_links_6 (lv_at hl 0 rfl) ?_
  refine lv_iconst (v := nI 1) hx hb dL_links_8 (by decide) ?_
  refine r_iadd hx hb dL_links_9 ?_
  refine lv_iload_n hx hb dL_links_10 rfl (lv_at hl 3 rfl) ?_
  refine lv_bipush (v := nI 10) hx hb dL_links_11 (by decide) ?_
  refine r_idiv hx hb (by omega) (by omega) (by omega) dL_links_13 ?_
  refine lv_bipush (v := nI 9) hx hb dL_links_14 (by decide) ?_
  refine r_irem hx hb (by omega) (by omega) (by omega) dL_links_16 ?_
  refine r_iadd hx hb dL_links_17 ?_
  refine lv_bipush (v := nI 10) hx hb dL_links_18 (by decide) ?_
  refine r_irem hx hb (by omega) (by omega) (by omega) dL_links_20 ?_
  refine lv_istore (lv' := [(5, .int (nI ((((x % 10) + 1) + ((x / 10) % 9)) % 10))), (4, .int (nI (x % 10))), (0, .ref (ad 0)), (1, .ref (ad 22)), (2, .int (nI x)), (3, .int (nI y))]) hx hb dL_links_21 hl (by decide) rfl (fun ls hl => ?_)
  refine lv_iload_n hx hb dL_links_23 rfl (lv_at hl 5 rfl) ?_
  refine lv_iconst (v := nI 4) hx hb dL_links_24 (by decide) ?_
  refine r_irem hx hb (by omega) (by omega) (by omega) dL_links_25 ?_
  have K26 : ∀ v26 : Nat, j_L_links_26 y = v26 → ∀ (H : Heap) (locs : List Loc), va_P D vwCl (wC cI ad rc rl rh fr fw fc fg ps pg pr pd qp qt qf qo ct lE lC cand lim now was (nI sent) (nI qfi) (nI qsz)) H → va_D A (wC cI ad rc rl rh fr fw fc fg ps pg pr pd qp qt qf qo ct lE lC cand lim now was (nI sent) (nI qfi) (nI qsz)) → va_S A s.heap H locs → ∀ ls : Array Slot, lv_has ls 9 [(5, .int (nI ((((x % 10) + 1) + ((x / 10) % 9)) % 10))), (4, .int (nI (x % 10))), (0, .ref (ad 0)), (1, .ref (ad 22)), (2, .int (nI x)), (3, .int (nI y))] → W p l e { frames := 6, cells := 0, slots := 0, locals := 138 } s m [.ref (ad 0), .ref (ad 22), .int (nI x), .int (nI y)].toArray below meth c H locs 0 0 (QI below s A D [.ref (ad 0), .ref (ad 22), .int (nI x), .int (nI y)] (wC cI ad ((f_L_links x y rc rl rh fr fw fc fg lE).2.1) ((f_L_links x y rc rl rh fr fw fc fg lE).2.2.1) ((f_L_links x y rc rl rh fr fw fc fg lE).2.2.2.1) fr fw ((f_L_links x y rc rl rh fr fw fc fg lE).2.2.2.2.1) ((f_L_links x y rc rl rh fr fw fc fg lE).2.2.2.2.2.1) ps pg pr pd qp qt qf qo ct ((f_L_links x y rc rl rh fr fw fc fg lE).2.2.2.2.2.2) lC cand lim now was (nI sent) (nI qfi) (nI qsz)) (bI ((f_L_links x y rc rl rh fr fw fc fg lE).1))) (F0 m 41 ls [.int (nI v26)]) := by
    intro v26 hv26 H locs hP hD hS ls hl
    subst hv26
    have hjb26 : 0 ≤ j_L_links_26 y ∧ j_L_links_26 y ≤ 20 := by
      unfold j_L_links_26
      repeat' split
      all_goals (refine ⟨?_, ?_⟩ <;> omega)
    refine lv_istore (lv' := [(6, .int (nI (j_L_links_26 y))), (5, .int (nI ((((x % 10) + 1) + ((x / 10) % 9)) % 10))), (4, .int (nI (x % 10))), (0, .ref (ad 0)), (1, .ref (ad 22)), (2, .int (nI x)), (3, .int (nI y))]) hx hb dL_links_41 hl (by decide) rfl (fun ls hl => ?_)
    refine lv_aload_n hx hb dL_links_43 rfl (lv_at hl 4 rfl) ?_
    refine lv_iload hx hb dL_links_44 (lv_at hl 2 rfl) ?_
    refine lv_iload hx hb dL_links_46 (lv_at hl 1 rfl) ?_
    refine fS_i (as := [.int (nI (x % 10)), .int (nI ((((x % 10) + 1) + ((x / 10) % 9)) % 10))]) (rest := [.ref (ad 22)]) B hl.1 (c_L_at l D cI cZ (wC cI ad rc rl rh fr fw fc fg ps pg pr pd qp qt qf qo ct lE lC cand lim now was (nI sent) (nI qfi) (nI qsz)) (x % 10) ((((x % 10) + 1) + ((x / 10) % 9)) % 10) (by omega) (by omega) (by first | assumption | omega)) (l_RL_10 hts ⟨rfl, rfl⟩ ⟨Nat.le_of_ble_eq_true rfl, Nat.le_of_ble_eq_true rfl⟩) m_6_8 rfl rfl hP hD hS hA rfl (Nat.le_of_ble_eq_true rfl) dL_links_48 (fun H locs hP hD hS => ?_)
    have hq1 := rb_L_at (x % 10) ((((x % 10) + 1) + ((x / 10) % 9)) % 10) (by omega) (by omega) (by first | assumption | omega)
    refine r_iald hx hb hK hP 22 0 rfl rfl (by omega) (by decide) dL_links_51 ?_
    refine lv_istore (lv' := [(7, .int (lE (f_L_at (x % 10) ((((x % 10) + 1) + ((x / 10) % 9)) % 10)))), (6, .int (nI (j_L_links_26 y))), (5, .int (nI ((((x % 10) + 1) + ((x / 10) % 9)) % 10))), (4, .int (nI (x % 10))), (0, .ref (ad 0)), (1, .ref (ad 22)), (2, .int (nI x)), (3, .int (nI y))]) hx hb dL_links_52 hl (by decide) rfl (fun ls hl => ?_)
    refine lv_aload_n hx hb dL_links_54 rfl (lv_at hl 4 rfl) ?_
    refine fV_i (ci := 5) (as := []) (rest := []) B hl.1 (c_X5_leaving l D cI cZ ad rc rl rh fr fw fc fg ps pg pr pd qp qt qf qo ct lE lC cand lim now was sent qfi qsz) rfl (l_RL_57 hts ⟨rfl, rfl⟩ ⟨Nat.le_of_ble_eq_true rfl, Nat.le_of_ble_eq_true rfl⟩) m_6_11 m_6_12 rfl rfl hP hD hS hA 0 rfl wfC (Nat.le_of_ble_eq_true rfl) dL_links_55 (fun H locs hP hD hS => ?_)
    refine lv_istore (lv' := [(8, .int (f_X2_leavingBranches fg)), (7, .int (lE (f_L_at (x % 10) ((((x % 10) + 1) + ((x / 10) % 9)) % 10)))), (6, .int (nI (j_L_links_26 y))), (5, .int (nI ((((x % 10) + 1) + ((x / 10) % 9)) % 10))), (4, .int (nI (x % 10))), (0, .ref (ad 0)), (1, .ref (ad 22)), (2, .int (nI x)), (3, .int (nI y))]) hx hb dL_links_58 hl (by decide) rfl (fun ls hl => ?_)
    refine lv_aload_n hx hb dL_links_60 rfl (lv_at hl 6 rfl) ?_
    refine lv_iload hx hb dL_links_61 (lv_at hl 4 rfl) ?_
    refine lv_iload hx hb dL_links_63 (lv_at hl 3 rfl) ?_
    refine fS_i (as := [.int (nI (x % 10)), .int (nI ((((x % 10) + 1) + ((x / 10) % 9)) % 10))]) (rest := [.ref (ad 22)]) B hl.1 (c_L_at l D cI cZ (wC cI ad rc rl rh fr fw fc fg ps pg pr pd qp qt qf qo ct lE lC cand lim now was (nI sent) (nI qfi) (nI qsz)) (x % 10) ((((x % 10) + 1) + ((x / 10) % 9)) % 10) (by omega) (by omega) (by first | assumption | omega)) (l_RL_10 hts ⟨rfl, rfl⟩ ⟨Nat.le_of_ble_eq_true rfl, Nat.le_of_ble_eq_true rfl⟩) m_6_8 rfl rfl hP hD hS hA rfl (Nat.le_of_ble_eq_true rfl) dL_links_65 (fun H locs hP hD hS => ?_)
    have hq2 := rb_L_at (x % 10) ((((x % 10) + 1) + ((x / 10) % 9)) % 10) (by omega) (by omega) (by first | assumption | omega)
    refine lv_iload hx hb dL_links_68 (lv_at hl 2 rfl) ?_
    refine r_iast hx hb hK hP hD hS 22 0 rfl rfl (by omega) (by decide) dL_links_70 (fun H locs hP hD hS => ?_)
    have hP : va_P D vwCl (wC cI ad rc rl rh fr fw fc fg ps pg pr pd qp qt qf qo ct (upd lE (f_L_at (x % 10) ((((x % 10) + 1) + ((x / 10) % 9)) % 10)) (nI (j_L_links_26 y))) lC cand lim now was (nI sent) (nI qfi) (nI qsz)) H := hP
    have hD : va_D A (wC cI ad rc rl rh fr fw fc fg ps pg pr pd qp qt qf qo ct (upd lE (f_L_at (x % 10) ((((x % 10) + 1) + ((x / 10) % 9)) % 10)) (nI (j_L_links_26 y))) lC cand lim now was (nI sent) (nI qfi) (nI qsz)) := hD
    refine lv_aload_n hx hb dL_links_71 rfl (lv_at hl 5 rfl) ?_
    refine lv_iload hx hb dL_links_72 (lv_at hl 4 rfl) ?_
    refine lv_iload hx hb dL_links_74 (lv_at hl 3 rfl) ?_
    refine lv_iload hx hb dL_links_76 (lv_at hl 2 rfl) ?_
    refine fV_i (ci := 5) (as := [.int (nI (x % 10)), .int (nI ((((x % 10) + 1) + ((x / 10) % 9)) % 10)), .int (nI (j_L_links_26 y))]) (rest := []) B hl.1 (c_X5_setLink l D cI cZ ad rc rl rh fr fw fc fg ps pg pr pd qp qt qf qo ct (upd lE (f_L_at (x % 10) ((((x % 10) + 1) + ((x / 10) % 9)) % 10)) (nI (j_L_links_26 y))) lC cand lim now was sent qfi qsz (x % 10) ((((x % 10) + 1) + ((x / 10) % 9)) % 10) (j_L_links_26 y) (by omega) (by omega) (by omega) (by first | assumption | omega)) rfl (l_RL_103 hts ⟨rfl, rfl⟩ ⟨Nat.le_of_ble_eq_true rfl, Nat.le_of_ble_eq_true rfl⟩) m_6_19 m_6_20 rfl rfl hP hD hS hA 0 rfl wfC (Nat.le_of_ble_eq_true rfl) dL_links_78 (fun H locs hP hD hS => ?_)
    refine lv_iload hx hb dL_links_81 (lv_at hl 1 rfl) ?_
    have K83 : ∀ v83 : Bool, j_L_links_83 x y rc rl rh fr fw fc fg lE = v83 → ∀ (H : Heap) (locs : List Loc), va_P D vwCl (wC cI ad ((f_X5_setLink (x % 10) ((((x % 10) + 1) + ((x / 10) % 9)) % 10) (j_L_links_26 y) rc rl rh fr fw fc fg).2.1) ((f_X5_setLink (x % 10) ((((x % 10) + 1) + ((x / 10) % 9)) % 10) (j_L_links_26 y) rc rl rh fr fw fc fg).2.2.1) ((f_X5_setLink (x % 10) ((((x % 10) + 1) + ((x / 10) % 9)) % 10) (j_L_links_26 y) rc rl rh fr fw fc fg).2.2.2.1) fr fw ((f_X5_setLink (x % 10) ((((x % 10) + 1) + ((x / 10) % 9)) % 10) (j_L_links_26 y) rc rl rh fr fw fc fg).2.2.2.2.1) ((f_X5_setLink (x % 10) ((((x % 10) + 1) + ((x / 10) % 9)) % 10) (j_L_links_26 y) rc rl rh fr fw fc fg).2.2.2.2.2) ps pg pr pd qp qt qf qo ct (upd lE (f_L_at (x % 10) ((((x % 10) + 1) + ((x / 10) % 9)) % 10)) (nI (j_L_links_26 y))) lC cand lim now was (nI sent) (nI qfi) (nI qsz)) H → va_D A (wC cI ad ((f_X5_setLink (x % 10) ((((x % 10) + 1) + ((x / 10) % 9)) % 10) (j_L_links_26 y) rc rl rh fr fw fc fg).2.1) ((f_X5_setLink (x % 10) ((((x % 10) + 1) + ((x / 10) % 9)) % 10) (j_L_links_26 y) rc rl rh fr fw fc fg).2.2.1) ((f_X5_setLink (x % 10) ((((x % 10) + 1) + ((x / 10) % 9)) % 10) (j_L_links_26 y) rc rl rh fr fw fc fg).2.2.2.1) fr fw ((f_X5_setLink (x % 10) ((((x % 10) + 1) + ((x / 10) % 9)) % 10) (j_L_links_26 y) rc rl rh fr fw fc fg).2.2.2.2.1) ((f_X5_setLink (x % 10) ((((x % 10) + 1) + ((x / 10) % 9)) % 10) (j_L_links_26 y) rc rl rh fr fw fc fg).2.2.2.2.2) ps pg pr pd qp qt qf qo ct (upd lE (f_L_at (x % 10) ((((x % 10) + 1) + ((x / 10) % 9)) % 10)) (nI (j_L_links_26 y))) lC cand lim now was (nI sent) (nI qfi) (nI qsz)) → va_S A s.heap H locs → ∀ ls : Array Slot, lv_has ls 9 [(8, .int (f_X2_leavingBranches fg)), (7, .int (lE (f_L_at (x % 10) ((((x % 10) + 1) + ((x / 10) % 9)) % 10)))), (6, .int (nI (j_L_links_26 y))), (5, .int (nI ((((x % 10) + 1) + ((x / 10) % 9)) % 10))), (4, .int (nI (x % 10))), (0, .ref (ad 0)), (1, .ref (ad 22)), (2, .int (nI x)), (3, .int (nI y))] → W p l e { frames := 6, cells := 0, slots := 0, locals := 138 } s m [.ref (ad 0), .ref (ad 22), .int (nI x), .int (nI y)].toArray below meth c H locs 0 0 (QI below s A D [.ref (ad 0), .ref (ad 22), .int (nI x), .int (nI y)] (wC cI ad ((f_L_links x y rc rl rh fr fw fc fg lE).2.1) ((f_L_links x y rc rl rh fr fw fc fg lE).2.2.1) ((f_L_links x y rc rl rh fr fw fc fg lE).2.2.2.1) fr fw ((f_L_links x y rc rl rh fr fw fc fg lE).2.2.2.2.1) ((f_L_links x y rc rl rh fr fw fc fg lE).2.2.2.2.2.1) ps pg pr pd qp qt qf qo ct ((f_L_links x y rc rl rh fr fw fc fg lE).2.2.2.2.2.2) lC cand lim now was (nI sent) (nI qfi) (nI qsz)) (bI ((f_L_links x y rc rl rh fr fw fc fg lE).1))) (F0 m 117 ls [.int (bI v83)]) := by
      intro v83 hv83 H locs hP hD hS ls hl
      subst hv83
      exact eZ B hP hS (bI_nar _) (by simp only [hf, bI_t, bI_f]) (by simp only [hf]) dL_links_117
    have hj83 := j_L_links_83.eq_1 x y rc rl rh fr fw fc fg lE
    refine lv_icmp_ne (tgt := 116) hx hb dL_links_83 (by decide) (fun c3 => ?_) (fun c3 => ?_)
    · have hj83 := hj83.trans (if_neg c3)
      refine lv_iconst (v := nI 0) hx hb dL_links_116 (by decide) ?_
      exact K83 _ hj83 _ _ hP hD hS _ hl
    · have hj83 := hj83.trans (if_pos c3)
      refine lv_iload hx hb dL_links_86 (lv_at hl 2 rfl) ?_
      refine lv_iload hx hb dL_links_88 (lv_at hl 1 rfl) ?_
      refine lv_icmp_ne (tgt := 105) hx hb dL_links_90 (by decide) (fun c4 => ?_) (fun c4 => ?_)
      · have hj83 := hj83.trans (if_neg c4)
        refine lv_aload_n hx hb dL_links_105 rfl (lv_at hl 5 rfl) ?_
        refine fV_i (ci := 5) (as := []) (rest := []) B hl.1 (c_X5_leaving l D cI cZ ad ((f_X5_setLink (x % 10) ((((x % 10) + 1) + ((x / 10) % 9)) % 10) (j_L_links_26 y) rc rl rh fr fw fc fg).2.1) ((f_X5_setLink (x % 10) ((((x % 10) + 1) + ((x / 10) % 9)) % 10) (j_L_links_26 y) rc rl rh fr fw fc fg).2.2.1) ((f_X5_setLink (x % 10) ((((x % 10) + 1) + ((x / 10) % 9)) % 10) (j_L_links_26 y) rc rl rh fr fw fc fg).2.2.2.1) fr fw ((f_X5_setLink (x % 10) ((((x % 10) + 1) + ((x / 10) % 9)) % 10) (j_L_links_26 y) rc rl rh fr fw fc fg).2.2.2.2.1) ((f_X5_setLink (x % 10) ((((x % 10) + 1) + ((x / 10) % 9)) % 10) (j_L_links_26 y) rc rl rh fr fw fc fg).2.2.2.2.2) ps pg pr pd qp qt qf qo ct (upd lE (f_L_at (x % 10) ((((x % 10) + 1) + ((x / 10) % 9)) % 10)) (nI (j_L_links_26 y))) lC cand lim now was sent qfi qsz) rfl (l_RL_57 hts ⟨rfl, rfl⟩ ⟨Nat.le_of_ble_eq_true rfl, Nat.le_of_ble_eq_true rfl⟩) m_6_11 m_6_12 rfl rfl hP hD hS hA 0 rfl wfC (Nat.le_of_ble_eq_true rfl) dL_links_106 (fun H locs hP hD hS => ?_)
        refine lv_if_ne (tgt := 116) hx hb dL_links_109 (by decide) (fun c6 => ?_) (fun c6 => ?_)
        · have hj83 := hj83.trans (if_neg c6)
          refine lv_iconst (v := nI 0) hx hb dL_links_116 (by decide) ?_
          exact K83 _ hj83 _ _ hP hD hS _ hl
        · have hj83 := hj83.trans (if_pos c6)
          refine lv_iconst (v := nI 1) hx hb dL_links_112 (by decide) ?_
          refine lv_goto (tgt := 117) hx hb dL_links_113 (by decide) ?_
          exact K83 _ hj83 _ _ hP hD hS _ hl
      · have hj83 := hj83.trans (if_pos c4)
        refine lv_aload_n hx hb dL_links_93 rfl (lv_at hl 5 rfl) ?_
        refine fV_i (ci := 5) (as := []) (rest := []) B hl.1 (c_X5_leaving l D cI cZ ad ((f_X5_setLink (x % 10) ((((x % 10) + 1) + ((x / 10) % 9)) % 10) (j_L_links_26 y) rc rl rh fr fw fc fg).2.1) ((f_X5_setLink (x % 10) ((((x % 10) + 1) + ((x / 10) % 9)) % 10) (j_L_links_26 y) rc rl rh fr fw fc fg).2.2.1) ((f_X5_setLink (x % 10) ((((x % 10) + 1) + ((x / 10) % 9)) % 10) (j_L_links_26 y) rc rl rh fr fw fc fg).2.2.2.1) fr fw ((f_X5_setLink (x % 10) ((((x % 10) + 1) + ((x / 10) % 9)) % 10) (j_L_links_26 y) rc rl rh fr fw fc fg).2.2.2.2.1) ((f_X5_setLink (x % 10) ((((x % 10) + 1) + ((x / 10) % 9)) % 10) (j_L_links_26 y) rc rl rh fr fw fc fg).2.2.2.2.2) ps pg pr pd qp qt qf qo ct (upd lE (f_L_at (x % 10) ((((x % 10) + 1) + ((x / 10) % 9)) % 10)) (nI (j_L_links_26 y))) lC cand lim now was sent qfi qsz) rfl (l_RL_57 hts ⟨rfl, rfl⟩ ⟨Nat.le_of_ble_eq_true rfl, Nat.le_of_ble_eq_true rfl⟩) m_6_11 m_6_12 rfl rfl hP hD hS hA 0 rfl wfC (Nat.le_of_ble_eq_true rfl) dL_links_94 (fun H locs hP hD hS => ?_)
        refine lv_iload hx hb dL_links_97 (lv_at hl 0 rfl) ?_
        refine lv_icmp_ne (tgt := 116) hx hb dL_links_99 (by decide) (fun c5 => ?_) (fun c5 => ?_)
        · have hj83 := hj83.trans (if_neg c5)
          refine lv_iconst (v := nI 0) hx hb dL_links_116 (by decide) ?_
          exact K83 _ hj83 _ _ hP hD hS _ hl
        · have hj83 := hj83.trans (if_pos c5)
          refine lv_goto (tgt := 112) hx hb dL_links_102 (by decide) ?_
          refine lv_iconst (v := nI 1) hx hb dL_links_112 (by decide) ?_
          refine lv_goto (tgt := 117) hx hb dL_links_113 (by decide) ?_
          exact K83 _ hj83 _ _ hP hD hS _ hl
  have hj26 := j_L_links_26.eq_1 y
  refine r_if_ne (tgt := 33) hx hb (by omega) dL_links_26 (by decide) (fun c7 => ?_) (fun c7 => ?_)
  · have hj26 := hj26.trans (if_neg c7)
    refine lv_iconst (v := nI 1) hx hb dL_links_33 (by decide) ?_
    refine lv_iload_n hx hb dL_links_34 rfl (lv_at hl 5 rfl) ?_
    refine lv_iconst (v := nI 4) hx hb dL_links_35 (by decide) ?_
    refine r_idiv hx hb (by omega) (by omega) (by omega) dL_links_36 ?_
    refine lv_bipush (v := nI 20) hx hb dL_links_37 (by decide) ?_
    refine r_irem hx hb (by omega) (by omega) (by omega) dL_links_39 ?_
    refine r_iadd hx hb dL_links_40 ?_
    exact K26 _ hj26 _ _ hP hD hS _ hl
  · have hj26 := hj26.trans (if_pos c7)
    refine lv_iconst (v := nI 0) hx hb dL_links_29 (by decide) ?_
    refine lv_goto (tgt := 41) hx hb dL_links_30 (by decide) ?_
    exact K26 _ hj26 _ _ hP hD hS _ hl
def j_L_joins_39 (r : Nat) (g : Nat) (fw : Nat → Int32) (fc : Nat → Int32) (fg : Nat → Int32) (ct : Nat → Int32) (lC : Nat → Int32) (now : Int32) : Bool :=
  if ((f_X5_leave r g fw fc fg ct now).1) = (f_L_many ((upd lC (1 + g) ((lC (1 + g)) &&& (((nI 1) <<< ((nI r) &&& 31)) ^^^ (-1)))) (1 + g))) then true else false
def j_L_joins_61 (r : Nat) (g : Nat) (fw : Nat → Int32) (fc : Nat → Int32) (fg : Nat → Int32) (ct : Nat → Int32) (now : Int32) (x4_52 : Bool) (k52 : Nat) : Bool :=
  if x4_52 = true then (if (f_L_isIn (((f_X5_leave r g fw fc fg ct now).2.1) ((4 + (g * 10)) + k52)) r) = true then false else true) else false
def f_L_joins_L52 (r : Nat) (g : Nat) (fw : Nat → Int32) (fc : Nat → Int32) (fg : Nat → Int32) (ct : Nat → Int32) (lC : Nat → Int32) (now : Int32) : Nat → Nat → Bool → Bool × (Nat → Int32) × (Nat → Int32) × (Nat → Int32) × (Nat → Int32) × (Nat → Int32)
  | 0, _, x4_52 => (x4_52, (f_X5_leave r g fw fc fg ct now).2.1, fc, (f_X5_leave r g fw fc fg ct now).2.2.1, (f_X5_leave r g fw fc fg ct now).2.2.2, upd lC (1 + g) ((lC (1 + g)) &&& (((nI 1) <<< ((nI r) &&& 31)) ^^^ (-1))))
  | n52 + 1, k52, x4_52 => f_L_joins_L52 r g fw fc fg ct lC now n52 (k52 + 1) (j_L_joins_61 r g fw fc fg ct now x4_52 k52)
def j_L_joins_119 (r : Nat) (g : Nat) (fw : Nat → Int32) (lC : Nat → Int32) : Bool :=
  if (f_J6_bitCount_0f7a4 ((upd fw g ((fw g) ||| ((nI 1) <<< ((nI r) &&& 31)))) g)) = (f_L_many ((upd lC (1 + g) ((lC (1 + g)) ||| ((nI 1) <<< ((nI r) &&& 31)))) (1 + g))) then true else false
def f_L_joins (r : Nat) (g : Nat) (rh : Nat → Int32) (fr : Nat → Int32) (fw : Nat → Int32) (fc : Nat → Int32) (fg : Nat → Int32) (ct : Nat → Int32) (lC : Nat → Int32) (now : Int32) : Bool × (Nat → Int32) × (Nat → Int32) × (Nat → Int32) × (Nat → Int32) × (Nat → Int32) :=
  if (f_L_isIn (lC (1 + g)) r) = true then f_L_joins_L52 r g fw fc fg ct lC now 10 0 (j_L_joins_39 r g fw fc fg ct lC now) else (j_L_joins_119 r g fw lC, upd fw g ((fw g) ||| ((nI 1) <<< ((nI r) &&& 31))), (f_X2_graft g r rh fr fc fg).1, (f_X2_graft g r rh fr fc fg).2, ct, upd lC (1 + g) ((lC (1 + g)) ||| ((nI 1) <<< ((nI r) &&& 31))))
set_option maxHeartbeats 4000000 in
set_option maxRecDepth 100000 in
theorem c_L_joins (l : Launch) (D : va_G) (cI cZ : ClassId) (ad : Nat → Nat) (rc rl rh fr fw fc fg ps pg pr pd qp qt qf qo ct lE lC : Nat → Int32) (cand : Int32) (lim : Int32) (now : Int32) (was : Int32) (sent : Nat) (qfi : Nat) (qsz : Nat) (r : Nat) (g : Nat) (hr : r < 10) (hg : g < 4) (hcm : lC (1 + g) = fw g) : MI l yL_joins cL_joins 6 .boolean { frames := 6, cells := 0, slots := 0, locals := 136 } D (TY cI cZ) [.ref (ad 0), .ref (ad 23), .int (nI r), .int (nI g)] (wC cI ad rc rl rh fr fw fc fg ps pg pr pd qp qt qf qo ct lE lC cand lim now was (nI sent) (nI qfi) (nI qsz)) (wC cI ad rc rl rh fr ((f_L_joins r g rh fr fw fc fg ct lC now).2.1) ((f_L_joins r g rh fr fw fc fg ct lC now).2.2.1) ((f_L_joins r g rh fr fw fc fg ct lC now).2.2.2.1) ps pg pr pd qp qt qf qo ((f_L_joins r g rh fr fw fc fg ct lC now).2.2.2.2.1) lE ((f_L_joins r g rh fr fw fc fg ct lC now).2.2.2.2.2) cand lim now was (nI sent) (nI qfi) (nI qsz)) (bI ((f_L_joins r g rh fr fw fc fg ct lC now).1)) := by
  refine MI.mk ⟨rfl, rfl⟩ (by decide +kernel) (Nat.le_of_ble_eq_true rfl) ?_
  intro p e s m below meth c A ls B hA hP hD hS hl
  have hx := B.1
  have hb := B.2.1
  have hts := B.2.2.2.2.2.1
  have hN := B.2.2.2.2.2.2.2.1
  have hK := B.2.2.2.2.2.2.2.2.1
  have hl : lv_has ls 6 [(0, .ref (ad 0)), (1, .ref (ad 23)), (2, .int (nI r)), (3, .int (nI g))] := hl
  have hf := f_L_joins.eq_1 r g rh fr fw fc fg ct lC now
  refine lv_aload_n hx hb dL_joins_0 rfl (lv_at hl 1 rfl) ?_
  refine lv_iconst (v := nI 1) hx hb dL_joins_1 (by decide) ?_
  refine lv_iload_n hx hb dL_joins_2 rfl (lv_at hl 3 rfl) ?_
  refine r_iadd hx hb dL_joins_3 ?_
  refine r_iald hx hb hK hP 23 0 rfl rfl (by omega) (by decide) dL_joins_4 ?_
  refine lv_iload_n hx hb dL_joins_5 rfl (lv_at hl 2 rfl) ?_
  refine fS_i (as := [.int (lC (1 + g)), .int (nI r)]) (rest := []) B hl.1 (c_L_isIn l D cI cZ (wC cI ad rc rl rh fr fw fc fg ps pg pr pd qp qt qf qo ct lE lC cand lim now was (nI sent) (nI qfi) (nI qsz)) (lC (1 + g)) r (by omega)) (l_RL_28 hts ⟨rfl, rfl⟩ ⟨Nat.le_of_ble_eq_true rfl, Nat.le_of_ble_eq_true rfl⟩) m_8_12 rfl rfl hP hD hS hA rfl (Nat.le_of_ble_eq_true rfl) dL_joins_6 (fun H locs hP hD hS => ?_)
  refine r_if_eq_b (tgt := 94) hx hb dL_joins_9 (by decide) (fun c1 => ?_) (fun c1 => ?_)
  · have hf := hf.trans (if_neg c1)
    refine lv_aload_n hx hb dL_joins_94 rfl (lv_at hl 1 rfl) ?_
    refine lv_iconst (v := nI 1) hx hb dL_joins_95 (by decide) ?_
    refine lv_iload_n hx hb dL_joins_96 rfl (lv_at hl 3 rfl) ?_
    refine r_iadd hx hb dL_joins_97 ?_
    refine lv_dup2_11 hx hb dL_joins_98 rfl rfl ?_
    refine r_iald hx hb hK hP 23 0 rfl rfl (by omega) (by decide) dL_joins_99 ?_
    refine lv_iconst (v := nI 1) hx hb dL_joins_100 (by decide) ?_
    refine lv_iload_n hx hb dL_joins_101 rfl (lv_at hl 2 rfl) ?_
    refine lv_ishl hx hb dL_joins_102 ?_
    refine lv_ior hx hb dL_joins_103 ?_
    refine r_iast hx hb hK hP hD hS 23 0 rfl rfl (by omega) (by decide) dL_joins_104 (fun H locs hP hD hS => ?_)
    have hP : va_P D vwCl (wC cI ad rc rl rh fr fw fc fg ps pg pr pd qp qt qf qo ct lE (upd lC (1 + g) ((lC (1 + g)) ||| ((nI 1) <<< ((nI r) &&& 31)))) cand lim now was (nI sent) (nI qfi) (nI qsz)) H := hP
    have hD : va_D A (wC cI ad rc rl rh fr fw fc fg ps pg pr pd qp qt qf qo ct lE (upd lC (1 + g) ((lC (1 + g)) ||| ((nI 1) <<< ((nI r) &&& 31)))) cand lim now was (nI sent) (nI qfi) (nI qsz)) := hD
    refine lv_aload_n hx hb dL_joins_105 rfl (lv_at hl 0 rfl) ?_
    refine lv_iload_n hx hb dL_joins_106 rfl (lv_at hl 2 rfl) ?_
    refine lv_iload_n hx hb dL_joins_107 rfl (lv_at hl 3 rfl) ?_
    refine fV_i (ci := 5) (as := [.int (nI r), .int (nI g)]) (rest := []) B hl.1 (c_X5_join l D cI cZ ad rc rl rh fr fw fc fg ps pg pr pd qp qt qf qo ct lE (upd lC (1 + g) ((lC (1 + g)) ||| ((nI 1) <<< ((nI r) &&& 31)))) cand lim now was sent qfi qsz r g (by omega) (by omega) (by rw [← hcm, ← isIn_has (by omega)]; exact c1)) rfl (l_RL_109 hts ⟨rfl, rfl⟩ ⟨Nat.le_of_ble_eq_true rfl, Nat.le_of_ble_eq_true rfl⟩) m_12_0 m_12_1 rfl rfl hP hD hS hA 0 rfl wfC (Nat.le_of_ble_eq_true rfl) dL_joins_108 (fun H locs hP hD hS => ?_)
    refine lv_aload_n hx hb dL_joins_111 rfl (lv_at hl 1 rfl) ?_
    refine lv_iconst (v := nI 1) hx hb dL_joins_112 (by decide) ?_
    refine lv_iload_n hx hb dL_joins_113 rfl (lv_at hl 3 rfl) ?_
    refine r_iadd hx hb dL_joins_114 ?_
    refine r_iald hx hb hK hP 23 0 rfl rfl (by omega) (by decide) dL_joins_115 ?_
    refine fS_i (as := [.int ((upd lC (1 + g) ((lC (1 + g)) ||| ((nI 1) <<< ((nI r) &&& 31)))) (1 + g))]) (rest := [.int (f_J6_bitCount_0f7a4 ((upd fw g ((fw g) ||| ((nI 1) <<< ((nI r) &&& 31)))) g))]) B hl.1 (c_L_many l D cI cZ (wC cI ad rc rl rh fr (upd fw g ((fw g) ||| ((nI 1) <<< ((nI r) &&& 31)))) ((f_X2_graft g r rh fr fc fg).1) ((f_X2_graft g r rh fr fc fg).2) ps pg pr pd qp qt qf qo ct lE (upd lC (1 + g) ((lC (1 + g)) ||| ((nI 1) <<< ((nI r) &&& 31)))) cand lim now was (nI sent) (nI qfi) (nI qsz)) ((upd lC (1 + g) ((lC (1 + g)) ||| ((nI 1) <<< ((nI r) &&& 31)))) (1 + g))) (l_RL_91 hts ⟨rfl, rfl⟩ ⟨Nat.le_of_ble_eq_true rfl, Nat.le_of_ble_eq_true rfl⟩) m_11_17 rfl rfl hP hD hS hA rfl (Nat.le_of_ble_eq_true rfl) dL_joins_116 (fun H locs hP hD hS => ?_)
    have K119 : ∀ v119 : Bool, j_L_joins_119 r g fw lC = v119 → ∀ (H : Heap) (locs : List Loc), va_P D vwCl (wC cI ad rc rl rh fr (upd fw g ((fw g) ||| ((nI 1) <<< ((nI r) &&& 31)))) ((f_X2_graft g r rh fr fc fg).1) ((f_X2_graft g r rh fr fc fg).2) ps pg pr pd qp qt qf qo ct lE (upd lC (1 + g) ((lC (1 + g)) ||| ((nI 1) <<< ((nI r) &&& 31)))) cand lim now was (nI sent) (nI qfi) (nI qsz)) H → va_D A (wC cI ad rc rl rh fr (upd fw g ((fw g) ||| ((nI 1) <<< ((nI r) &&& 31)))) ((f_X2_graft g r rh fr fc fg).1) ((f_X2_graft g r rh fr fc fg).2) ps pg pr pd qp qt qf qo ct lE (upd lC (1 + g) ((lC (1 + g)) ||| ((nI 1) <<< ((nI r) &&& 31)))) cand lim now was (nI sent) (nI qfi) (nI qsz)) → va_S A s.heap H locs → ∀ ls : Array Slot, lv_has ls 6 [(0, .ref (ad 0)), (1, .ref (ad 23)), (2, .int (nI r)), (3, .int (nI g))] → W p l e { frames := 6, cells := 0, slots := 0, locals := 136 } s m [.ref (ad 0), .ref (ad 23), .int (nI r), .int (nI g)].toArray below meth c H locs 0 0 (QI below s A D [.ref (ad 0), .ref (ad 23), .int (nI r), .int (nI g)] (wC cI ad rc rl rh fr ((f_L_joins r g rh fr fw fc fg ct lC now).2.1) ((f_L_joins r g rh fr fw fc fg ct lC now).2.2.1) ((f_L_joins r g rh fr fw fc fg ct lC now).2.2.2.1) ps pg pr pd qp qt qf qo ((f_L_joins r g rh fr fw fc fg ct lC now).2.2.2.2.1) lE ((f_L_joins r g rh fr fw fc fg ct lC now).2.2.2.2.2) cand lim now was (nI sent) (nI qfi) (nI qsz)) (bI ((f_L_joins r g rh fr fw fc fg ct lC now).1))) (F0 m 127 ls [.int (bI v119)]) := by
      intro v119 hv119 H locs hP hD hS ls hl
      subst hv119
      exact eZ B hP hS (bI_nar _) (by simp only [hf, bI_t, bI_f]) (by simp only [hf]) dL_joins_127
    have hj119 := j_L_joins_119.eq_1 r g fw lC
    refine lv_icmp_ne (tgt := 126) hx hb dL_joins_119 (by decide) (fun c10 => ?_) (fun c10 => ?_)
    · have hj119 := hj119.trans (if_neg c10)
      refine lv_iconst (v := nI 0) hx hb dL_joins_126 (by decide) ?_
      exact K119 _ hj119 _ _ hP hD hS _ hl
    · have hj119 := hj119.trans (if_pos c10)
      refine lv_iconst (v := nI 1) hx hb dL_joins_122 (by decide) ?_
      refine lv_goto (tgt := 127) hx hb dL_joins_123 (by decide) ?_
      exact K119 _ hj119 _ _ hP hD hS _ hl
  · have hf := hf.trans (if_pos c1)
    refine lv_aload_n hx hb dL_joins_12 rfl (lv_at hl 1 rfl) ?_
    refine lv_iconst (v := nI 1) hx hb dL_joins_13 (by decide) ?_
    refine lv_iload_n hx hb dL_joins_14 rfl (lv_at hl 3 rfl) ?_
    refine r_iadd hx hb dL_joins_15 ?_
    refine lv_dup2_11 hx hb dL_joins_16 rfl rfl ?_
    refine r_iald hx hb hK hP 23 0 rfl rfl (by omega) (by decide) dL_joins_17 ?_
    refine lv_iconst (v := nI 1) hx hb dL_joins_18 (by decide) ?_
    refine lv_iload_n hx hb dL_joins_19 rfl (lv_at hl 2 rfl) ?_
    refine lv_ishl hx hb dL_joins_20 ?_
    refine lv_iconst (v := -1) hx hb dL_joins_21 (by decide) ?_
    refine lv_ixor hx hb dL_joins_22 ?_
    refine lv_iand hx hb dL_joins_23 ?_
    refine r_iast hx hb hK hP hD hS 23 0 rfl rfl (by omega) (by decide) dL_joins_24 (fun H locs hP hD hS => ?_)
    have hP : va_P D vwCl (wC cI ad rc rl rh fr fw fc fg ps pg pr pd qp qt qf qo ct lE (upd lC (1 + g) ((lC (1 + g)) &&& (((nI 1) <<< ((nI r) &&& 31)) ^^^ (-1)))) cand lim now was (nI sent) (nI qfi) (nI qsz)) H := hP
    have hD : va_D A (wC cI ad rc rl rh fr fw fc fg ps pg pr pd qp qt qf qo ct lE (upd lC (1 + g) ((lC (1 + g)) &&& (((nI 1) <<< ((nI r) &&& 31)) ^^^ (-1)))) cand lim now was (nI sent) (nI qfi) (nI qsz)) := hD
    refine lv_aload_n hx hb dL_joins_25 rfl (lv_at hl 0 rfl) ?_
    refine lv_iload_n hx hb dL_joins_26 rfl (lv_at hl 2 rfl) ?_
    refine lv_iload_n hx hb dL_joins_27 rfl (lv_at hl 3 rfl) ?_
    refine fV_i (ci := 5) (as := [.int (nI r), .int (nI g)]) (rest := []) B hl.1 (c_X5_leave l D cI cZ ad rc rl rh fr fw fc fg ps pg pr pd qp qt qf qo ct lE (upd lC (1 + g) ((lC (1 + g)) &&& (((nI 1) <<< ((nI r) &&& 31)) ^^^ (-1)))) cand lim now was sent qfi qsz r g (by omega) (by omega) (by rw [← hcm, ← isIn_has (by omega)]; exact c1)) rfl (l_RL_106 hts ⟨rfl, rfl⟩ ⟨Nat.le_of_ble_eq_true rfl, Nat.le_of_ble_eq_true rfl⟩) m_9_8 m_9_9 rfl rfl hP hD hS hA 0 rfl wfC (Nat.le_of_ble_eq_true rfl) dL_joins_28 (fun H locs hP hD hS => ?_)
    refine lv_aload_n hx hb dL_joins_31 rfl (lv_at hl 1 rfl) ?_
    refine lv_iconst (v := nI 1) hx hb dL_joins_32 (by decide) ?_
    refine lv_iload_n hx hb dL_joins_33 rfl (lv_at hl 3 rfl) ?_
    refine r_iadd hx hb dL_joins_34 ?_
    refine r_iald hx hb hK hP 23 0 rfl rfl (by omega) (by decide) dL_joins_35 ?_
    refine fS_i (as := [.int ((upd lC (1 + g) ((lC (1 + g)) &&& (((nI 1) <<< ((nI r) &&& 31)) ^^^ (-1)))) (1 + g))]) (rest := [.int ((f_X5_leave r g fw fc fg ct now).1)]) B hl.1 (c_L_many l D cI cZ (wC cI ad rc rl rh fr ((f_X5_leave r g fw fc fg ct now).2.1) fc ((f_X5_leave r g fw fc fg ct now).2.2.1) ps pg pr pd qp qt qf qo ((f_X5_leave r g fw fc fg ct now).2.2.2) lE (upd lC (1 + g) ((lC (1 + g)) &&& (((nI 1) <<< ((nI r) &&& 31)) ^^^ (-1)))) cand lim now was (nI sent) (nI qfi) (nI qsz)) ((upd lC (1 + g) ((lC (1 + g)) &&& (((nI 1) <<< ((nI r) &&& 31)) ^^^ (-1)))) (1 + g))) (l_RL_91 hts ⟨rfl, rfl⟩ ⟨Nat.le_of_ble_eq_true rfl, Nat.le_of_ble_eq_true rfl⟩) m_11_17 rfl rfl hP hD hS hA rfl (Nat.le_of_ble_eq_true rfl) dL_joins_36 (fun H locs hP hD hS => ?_)
    have K39 : ∀ v39 : Bool, j_L_joins_39 r g fw fc fg ct lC now = v39 → ∀ (H : Heap) (locs : List Loc), va_P D vwCl (wC cI ad rc rl rh fr ((f_X5_leave r g fw fc fg ct now).2.1) fc ((f_X5_leave r g fw fc fg ct now).2.2.1) ps pg pr pd qp qt qf qo ((f_X5_leave r g fw fc fg ct now).2.2.2) lE (upd lC (1 + g) ((lC (1 + g)) &&& (((nI 1) <<< ((nI r) &&& 31)) ^^^ (-1)))) cand lim now was (nI sent) (nI qfi) (nI qsz)) H → va_D A (wC cI ad rc rl rh fr ((f_X5_leave r g fw fc fg ct now).2.1) fc ((f_X5_leave r g fw fc fg ct now).2.2.1) ps pg pr pd qp qt qf qo ((f_X5_leave r g fw fc fg ct now).2.2.2) lE (upd lC (1 + g) ((lC (1 + g)) &&& (((nI 1) <<< ((nI r) &&& 31)) ^^^ (-1)))) cand lim now was (nI sent) (nI qfi) (nI qsz)) → va_S A s.heap H locs → ∀ ls : Array Slot, lv_has ls 6 [(0, .ref (ad 0)), (1, .ref (ad 23)), (2, .int (nI r)), (3, .int (nI g))] → W p l e { frames := 6, cells := 0, slots := 0, locals := 136 } s m [.ref (ad 0), .ref (ad 23), .int (nI r), .int (nI g)].toArray below meth c H locs 0 0 (QI below s A D [.ref (ad 0), .ref (ad 23), .int (nI r), .int (nI g)] (wC cI ad rc rl rh fr ((f_L_joins r g rh fr fw fc fg ct lC now).2.1) ((f_L_joins r g rh fr fw fc fg ct lC now).2.2.1) ((f_L_joins r g rh fr fw fc fg ct lC now).2.2.2.1) ps pg pr pd qp qt qf qo ((f_L_joins r g rh fr fw fc fg ct lC now).2.2.2.2.1) lE ((f_L_joins r g rh fr fw fc fg ct lC now).2.2.2.2.2) cand lim now was (nI sent) (nI qfi) (nI qsz)) (bI ((f_L_joins r g rh fr fw fc fg ct lC now).1))) (F0 m 47 ls [.int (bI v39)]) := by
      intro v39 hv39 H locs hP hD hS ls hl
      subst hv39
      refine lv_istore (lv' := [(4, .int (bI (j_L_joins_39 r g fw fc fg ct lC now))), (0, .ref (ad 0)), (1, .ref (ad 23)), (2, .int (nI r)), (3, .int (nI g))]) hx hb dL_joins_47 hl (by decide) rfl (fun ls hl => ?_)
      refine lv_iconst (v := nI 0) hx hb dL_joins_49 (by decide) ?_
      refine lv_istore (lv' := [(5, .int (nI 0)), (4, .int (bI (j_L_joins_39 r g fw fc fg ct lC now))), (0, .ref (ad 0)), (1, .ref (ad 23)), (2, .int (nI r)), (3, .int (nI g))]) hx hb dL_joins_50 hl (by decide) rfl (fun ls hl => ?_)
      have L52 : ∀ (n52 : Nat) (k52 : Nat) (x4_52 : Bool), k52 + n52 = 10 → f_L_joins r g rh fr fw fc fg ct lC now = (f_L_joins_L52 r g fw fc fg ct lC now n52 k52 x4_52) → ∀ (H : Heap) (locs : List Loc), va_P D vwCl (wC cI ad rc rl rh fr ((f_X5_leave r g fw fc fg ct now).2.1) fc ((f_X5_leave r g fw fc fg ct now).2.2.1) ps pg pr pd qp qt qf qo ((f_X5_leave r g fw fc fg ct now).2.2.2) lE (upd lC (1 + g) ((lC (1 + g)) &&& (((nI 1) <<< ((nI r) &&& 31)) ^^^ (-1)))) cand lim now was (nI sent) (nI qfi) (nI qsz)) H → va_D A (wC cI ad rc rl rh fr ((f_X5_leave r g fw fc fg ct now).2.1) fc ((f_X5_leave r g fw fc fg ct now).2.2.1) ps pg pr pd qp qt qf qo ((f_X5_leave r g fw fc fg ct now).2.2.2) lE (upd lC (1 + g) ((lC (1 + g)) &&& (((nI 1) <<< ((nI r) &&& 31)) ^^^ (-1)))) cand lim now was (nI sent) (nI qfi) (nI qsz)) → va_S A s.heap H locs → ∀ ls : Array Slot, lv_has ls 6 [(0, .ref (ad 0)), (1, .ref (ad 23)), (2, .int (nI r)), (3, .int (nI g)), (4, .int (bI x4_52)), (5, .int (nI k52))] → W p l e { frames := 6, cells := 0, slots := 0, locals := 136 } s m [.ref (ad 0), .ref (ad 23), .int (nI r), .int (nI g)].toArray below meth c H locs 0 0 (QI below s A D [.ref (ad 0), .ref (ad 23), .int (nI r), .int (nI g)] (wC cI ad rc rl rh fr ((f_L_joins r g rh fr fw fc fg ct lC now).2.1) ((f_L_joins r g rh fr fw fc fg ct lC now).2.2.1) ((f_L_joins r g rh fr fw fc fg ct lC now).2.2.2.1) ps pg pr pd qp qt qf qo ((f_L_joins r g rh fr fw fc fg ct lC now).2.2.2.2.1) lE ((f_L_joins r g rh fr fw fc fg ct lC now).2.2.2.2.2) cand lim now was (nI sent) (nI qfi) (nI qsz)) (bI ((f_L_joins r g rh fr fw fc fg ct lC now).1))) (F0 m 52 ls []) := by
        intro n52
        induction n52 with
        | zero =>
          intro k52 x4_52 hk52 hf H locs hP hD hS ls hl
          obtain rfl : 10 = k52 := by omega
          rw [f_L_joins_L52] at hf
          have hl : lv_has ls 6 [(0, .ref (ad 0)), (1, .ref (ad 23)), (2, .int (nI r)), (3, .int (nI g)), (4, .int (bI x4_52)), (5, .int (nI 10))] := hl
          refine lv_iload hx hb dL_joins_52 (lv_at hl 5 rfl) ?_
          refine lv_bipush (v := nI 10) hx hb dL_joins_54 (by decide) ?_
          refine r_icmp_ge (tgt := 91) hx hb (by omega) (by omega) dL_joins_56 (by decide) (fun _ => ?_) (fun c => absurd c (by omega))
          refine lv_iload hx hb dL_joins_91 (lv_at hl 4 rfl) ?_
          exact eZ B hP hS (bI_nar _) (by simp only [hf, bI_t, bI_f]) (by simp only [hf]) dL_joins_93
        | succ n52 ih52 =>
          intro k52 x4_52 hk52 hf H locs hP hD hS ls hl
          rw [f_L_joins_L52] at hf
          have hl : lv_has ls 6 [(0, .ref (ad 0)), (1, .ref (ad 23)), (2, .int (nI r)), (3, .int (nI g)), (4, .int (bI x4_52)), (5, .int (nI k52))] := hl
          refine lv_iload hx hb dL_joins_52 (lv_at hl 5 rfl) ?_
          refine lv_bipush (v := nI 10) hx hb dL_joins_54 (by decide) ?_
          refine r_icmp_ge (tgt := 91) hx hb (by omega) (by omega) dL_joins_56 (by decide) (fun c => absurd c (by omega)) (fun _ => ?_)
          refine lv_iload hx hb dL_joins_59 (lv_at hl 4 rfl) ?_
          have K61 : ∀ v61 : Bool, j_L_joins_61 r g fw fc fg ct now x4_52 k52 = v61 → ∀ (H : Heap) (locs : List Loc), va_P D vwCl (wC cI ad rc rl rh fr ((f_X5_leave r g fw fc fg ct now).2.1) fc ((f_X5_leave r g fw fc fg ct now).2.2.1) ps pg pr pd qp qt qf qo ((f_X5_leave r g fw fc fg ct now).2.2.2) lE (upd lC (1 + g) ((lC (1 + g)) &&& (((nI 1) <<< ((nI r) &&& 31)) ^^^ (-1)))) cand lim now was (nI sent) (nI qfi) (nI qsz)) H → va_D A (wC cI ad rc rl rh fr ((f_X5_leave r g fw fc fg ct now).2.1) fc ((f_X5_leave r g fw fc fg ct now).2.2.1) ps pg pr pd qp qt qf qo ((f_X5_leave r g fw fc fg ct now).2.2.2) lE (upd lC (1 + g) ((lC (1 + g)) &&& (((nI 1) <<< ((nI r) &&& 31)) ^^^ (-1)))) cand lim now was (nI sent) (nI qfi) (nI qsz)) → va_S A s.heap H locs → ∀ ls : Array Slot, lv_has ls 6 [(0, .ref (ad 0)), (1, .ref (ad 23)), (2, .int (nI r)), (3, .int (nI g)), (4, .int (bI x4_52)), (5, .int (nI k52))] → W p l e { frames := 6, cells := 0, slots := 0, locals := 136 } s m [.ref (ad 0), .ref (ad 23), .int (nI r), .int (nI g)].toArray below meth c H locs 0 0 (QI below s A D [.ref (ad 0), .ref (ad 23), .int (nI r), .int (nI g)] (wC cI ad rc rl rh fr ((f_L_joins r g rh fr fw fc fg ct lC now).2.1) ((f_L_joins r g rh fr fw fc fg ct lC now).2.2.1) ((f_L_joins r g rh fr fw fc fg ct lC now).2.2.2.1) ps pg pr pd qp qt qf qo ((f_L_joins r g rh fr fw fc fg ct lC now).2.2.2.2.1) lE ((f_L_joins r g rh fr fw fc fg ct lC now).2.2.2.2.2) cand lim now was (nI sent) (nI qfi) (nI qsz)) (bI ((f_L_joins r g rh fr fw fc fg ct lC now).1))) (F0 m 83 ls [.int (bI v61)]) := by
            intro v61 hv61 H locs hP hD hS ls hl
            subst hv61
            refine lv_istore (lv' := [(4, .int (bI (j_L_joins_61 r g fw fc fg ct now x4_52 k52))), (0, .ref (ad 0)), (1, .ref (ad 23)), (2, .int (nI r)), (3, .int (nI g)), (5, .int (nI k52))]) hx hb dL_joins_83 hl (by decide) rfl (fun ls hl => ?_)
            refine lv_iinc (v := nI (k52 + 1)) (lv' := [(5, .int (nI (k52 + 1))), (4, .int (bI (j_L_joins_61 r g fw fc fg ct now x4_52 k52))), (0, .ref (ad 0)), (1, .ref (ad 23)), (2, .int (nI r)), (3, .int (nI g))]) hx hb dL_joins_85 hl (k := 5) rfl (nI_add _ _) (by decide) rfl (fun ls hl => ?_)
            refine lv_goto (tgt := 52) hx hb dL_joins_88 (by decide) ?_
            exact ih52 (k52 + 1) (j_L_joins_61 r g fw fc fg ct now x4_52 k52) (by omega) hf _ _ hP hD hS _ (lv_sub hl [2, 3, 4, 5, 1, 0] rfl)
          have hj61 := j_L_joins_61.eq_1 r g fw fc fg ct now x4_52 k52
          refine r_if_eq_b (tgt := 82) hx hb dL_joins_61 (by decide) (fun c7 => ?_) (fun c7 => ?_)
          · have hj61 := hj61.trans (if_neg c7)
            refine lv_iconst (v := nI 0) hx hb dL_joins_82 (by decide) ?_
            exact K61 _ hj61 _ _ hP hD hS _ hl
          · have hj61 := hj61.trans (if_pos c7)
            refine lv_aload_n hx hb dL_joins_64 rfl (lv_at hl 0 rfl) ?_
            refine lv_iload hx hb dL_joins_65 (lv_at hl 5 rfl) ?_
            refine lv_iload_n hx hb dL_joins_67 rfl (lv_at hl 3 rfl) ?_
            refine fV_i (ci := 5) (as := [.int (nI k52), .int (nI g)]) (rest := []) B hl.1 (c_X5_switched l D cI cZ ad rc rl rh fr ((f_X5_leave r g fw fc fg ct now).2.1) fc ((f_X5_leave r g fw fc fg ct now).2.2.1) ps pg pr pd qp qt qf qo ((f_X5_leave r g fw fc fg ct now).2.2.2) lE (upd lC (1 + g) ((lC (1 + g)) &&& (((nI 1) <<< ((nI r) &&& 31)) ^^^ (-1)))) cand lim now was sent qfi qsz k52 g (by omega) (by omega)) rfl (l_RL_46 hts ⟨rfl, rfl⟩ ⟨Nat.le_of_ble_eq_true rfl, Nat.le_of_ble_eq_true rfl⟩) m_11_20 m_11_21 rfl rfl hP hD hS hA 0 rfl wfC (Nat.le_of_ble_eq_true rfl) dL_joins_68 (fun H locs hP hD hS => ?_)
            refine lv_iload_n hx hb dL_joins_71 rfl (lv_at hl 2 rfl) ?_
            refine fS_i (as := [.int (((f_X5_leave r g fw fc fg ct now).2.1) ((4 + (g * 10)) + k52)), .int (nI r)]) (rest := []) B hl.1 (c_L_isIn l D cI cZ (wC cI ad rc rl rh fr ((f_X5_leave r g fw fc fg ct now).2.1) fc ((f_X5_leave r g fw fc fg ct now).2.2.1) ps pg pr pd qp qt qf qo ((f_X5_leave r g fw fc fg ct now).2.2.2) lE (upd lC (1 + g) ((lC (1 + g)) &&& (((nI 1) <<< ((nI r) &&& 31)) ^^^ (-1)))) cand lim now was (nI sent) (nI qfi) (nI qsz)) (((f_X5_leave r g fw fc fg ct now).2.1) ((4 + (g * 10)) + k52)) r (by omega)) (l_RL_28 hts ⟨rfl, rfl⟩ ⟨Nat.le_of_ble_eq_true rfl, Nat.le_of_ble_eq_true rfl⟩) m_8_12 rfl rfl hP hD hS hA rfl (Nat.le_of_ble_eq_true rfl) dL_joins_72 (fun H locs hP hD hS => ?_)
            refine r_if_ne_b (tgt := 82) hx hb dL_joins_75 (by decide) (fun c8 => ?_) (fun c8 => ?_)
            · have hj61 := hj61.trans (if_pos c8)
              refine lv_iconst (v := nI 0) hx hb dL_joins_82 (by decide) ?_
              exact K61 _ hj61 _ _ hP hD hS _ hl
            · have hj61 := hj61.trans (if_neg c8)
              refine lv_iconst (v := nI 1) hx hb dL_joins_78 (by decide) ?_
              refine lv_goto (tgt := 83) hx hb dL_joins_79 (by decide) ?_
              exact K61 _ hj61 _ _ hP hD hS _ hl
      exact L52 10 0 (j_L_joins_39 r g fw fc fg ct lC now) (by omega) hf _ _ hP hD hS _ (lv_sub hl [2, 3, 4, 5, 1, 0] rfl)
    have hj39 := j_L_joins_39.eq_1 r g fw fc fg ct lC now
    refine lv_icmp_ne (tgt := 46) hx hb dL_joins_39 (by decide) (fun c9 => ?_) (fun c9 => ?_)
    · have hj39 := hj39.trans (if_neg c9)
      refine lv_iconst (v := nI 0) hx hb dL_joins_46 (by decide) ?_
      exact K39 _ hj39 _ _ hP hD hS _ hl
    · have hj39 := hj39.trans (if_pos c9)
      refine lv_iconst (v := nI 1) hx hb dL_joins_42 (by decide) ?_
      refine lv_goto (tgt := 47) hx hb dL_joins_43 (by decide) ?_
      exact K39 _ hj39 _ _ hP hD hS _ hl
