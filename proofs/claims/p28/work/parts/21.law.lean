/-! the law's methods: trees -/
theorem isIn_bt {x : Int32} {r : Nat} (hr : r < 10) : f_L_isIn x r = bt x r := by
  unfold f_L_isIn j_L_isIn_6
  by_cases c : ((x >>> ((nI r) &&& 31)) &&& (nI 1)) = nI 1
  · rw [if_pos c, (shr_1 x hr).mp c]
  · rw [if_neg c]
    cases h : bt x r
    · rfl
    · exact absurd ((shr_1 x hr).mpr h) c
theorem isIn_has {x : Int32} {r : Nat} (hr : r < 10) : f_L_isIn x r = f_X5_has x r := by rw [isIn_bt hr, has_bt x hr]
theorem isIn_z {x : Int32} {r : Nat} (hr : r < 10) (h : x = 0) : ¬ f_L_isIn x r = true := by rw [isIn_bt hr, h, b_0]; decide
def f_L_leavingIn_n_L149 : Nat → Nat → Int32
  | 0, _ => nI 0
  | n149 + 1, k149 => nI 0
def f_L_leavingIn_n_L103 : Nat → Nat → Bool
  | 0, _ => false
  | n103 + 1, k103 => f_L_leavingIn_n_L103 n103 (k103 + 1)
def f_L_leavingIn_n_L47 (g : Nat) (fc : Nat → Int32) : Nat → Nat → Int32 → Int32
  | 0, _, x5_47 => f_L_leavingIn_n_L149 10 0
  | n47 + 1, k47, x5_47 => if ((f_L_below k47 10 g fc) &&& x5_47) = 0 then (if (f_L_isIn (f_L_below k47 10 g fc) k47) = true then -1 else if (f_L_below k47 10 g fc) = 0 then (if (f_L_leavingIn_n_L103 10 0) = true then -1 else f_L_leavingIn_n_L47 g fc n47 (k47 + 1) (x5_47 ||| (f_L_below k47 10 g fc))) else -1) else -1
def f_L_leavingIn_n (g : Nat) (fc : Nat → Int32) : Int32 :=
  f_L_leavingIn_n_L47 g fc 10 0 (nI 0)
set_option maxHeartbeats 4000000 in
set_option maxRecDepth 100000 in
theorem c_L_leavingIn_n (l : Launch) (D : va_G) (cI cZ : ClassId) (ad : Nat → Nat) (rc rl rh fr fw fc fg ps pg pr pd qp qt qf qo ct lE lC : Nat → Int32) (cand : Int32) (lim : Int32) (now : Int32) (was : Int32) (sent : Nat) (qfi : Nat) (qsz : Nat) (g : Nat) (hg : g < 4) (hr : fr g = -1) : MI l yL_leavingIn cL_leavingIn 10 .int { frames := 4, cells := 0, slots := 0, locals := 90 } D (TY cI cZ) [.ref (ad 0), .int (nI 10), .int (nI g)] (wC cI ad rc rl rh fr fw fc fg ps pg pr pd qp qt qf qo ct lE lC cand lim now was (nI sent) (nI qfi) (nI qsz)) (wC cI ad rc rl rh fr fw fc fg ps pg pr pd qp qt qf qo ct lE lC cand lim now was (nI sent) (nI qfi) (nI qsz)) (f_L_leavingIn_n g fc) := by
  refine MI.mk ⟨rfl, rfl⟩ (by decide +kernel) (Nat.le_of_ble_eq_true rfl) ?_
  intro p e s m below meth c A ls B hA hP hD hS hl
  have hx := B.1
  have hb := B.2.1
  have hts := B.2.2.2.2.2.1
  have hN := B.2.2.2.2.2.2.2.1
  have hK := B.2.2.2.2.2.2.2.2.1
  have hl : lv_has ls 10 [(0, .ref (ad 0)), (1, .int (nI 10)), (2, .int (nI g))] := hl
  have hf := f_L_leavingIn_n.eq_1 g fc
  refine lv_iload_n hx hb dL_leavingIn_0 rfl (lv_at hl 1 rfl) ?_
  refine lv_bipush (v := nI 10) hx hb dL_leavingIn_1 (by decide) ?_
  refine r_icmp_ne (tgt := 14) hx hb (by omega) (by omega) dL_leavingIn_3 (by decide) (fun c => absurd c (by omega)) (fun _ => ?_)
  refine lv_aload_n hx hb dL_leavingIn_6 rfl (lv_at hl 0 rfl) ?_
  refine lv_iload_n hx hb dL_leavingIn_7 rfl (lv_at hl 2 rfl) ?_
  refine fV_i (ci := 5) (as := [.int (nI g)]) (rest := []) B hl.1 (c_X5_rendezvous l D cI cZ ad rc rl rh fr fw fc fg ps pg pr pd qp qt qf qo ct lE lC cand lim now was sent qfi qsz g (by omega)) rfl (l_RL_39 hts ⟨rfl, rfl⟩ ⟨Nat.le_of_ble_eq_true rfl, Nat.le_of_ble_eq_true rfl⟩) m_14_0 m_14_1 rfl rfl hP hD hS hA 0 rfl wfC (Nat.le_of_ble_eq_true rfl) dL_leavingIn_8 (fun H locs hP hD hS => ?_)
  refine r_eq hr ?_
  refine lv_goto (tgt := 15) hx hb dL_leavingIn_11 (by decide) ?_
  refine lv_istore_n (lv' := [(3, .int (-1)), (0, .ref (ad 0)), (1, .int (nI 10)), (2, .int (nI g))]) hx hb dL_leavingIn_15 rfl hl (by decide) rfl (fun ls hl => ?_)
  refine lv_iload_n hx hb dL_leavingIn_16 rfl (lv_at hl 2 rfl) ?_
  refine lv_bipush (v := nI 10) hx hb dL_leavingIn_17 (by decide) ?_
  refine r_icmp_ne (tgt := 30) hx hb (by omega) (by omega) dL_leavingIn_19 (by decide) (fun c => absurd c (by omega)) (fun _ => ?_)
  refine lv_aload_n hx hb dL_leavingIn_22 rfl (lv_at hl 1 rfl) ?_
  refine lv_iload_n hx hb dL_leavingIn_23 rfl (lv_at hl 3 rfl) ?_
  refine fV_i (ci := 5) (as := [.int (nI g)]) (rest := []) B hl.1 (c_X5_members l D cI cZ ad rc rl rh fr fw fc fg ps pg pr pd qp qt qf qo ct lE lC cand lim now was sent qfi qsz g (by omega)) rfl (l_RL_43 hts ⟨rfl, rfl⟩ ⟨Nat.le_of_ble_eq_true rfl, Nat.le_of_ble_eq_true rfl⟩) m_21_1 m_21_2 rfl rfl hP hD hS hA 0 rfl wfC (Nat.le_of_ble_eq_true rfl) dL_leavingIn_24 (fun H locs hP hD hS => ?_)
  refine lv_goto (tgt := 36) hx hb dL_leavingIn_27 (by decide) ?_
  refine lv_istore (lv' := [(4, .int (fw g)), (3, .int (-1)), (0, .ref (ad 0)), (1, .int (nI 10)), (2, .int (nI g))]) hx hb dL_leavingIn_36 hl (by decide) rfl (fun ls hl => ?_)
  refine lv_iconst (v := nI 0) hx hb dL_leavingIn_38 (by decide) ?_
  refine lv_istore (lv' := [(5, .int (nI 0)), (4, .int (fw g)), (3, .int (-1)), (0, .ref (ad 0)), (1, .int (nI 10)), (2, .int (nI g))]) hx hb dL_leavingIn_39 hl (by decide) rfl (fun ls hl => ?_)
  refine lv_iconst (v := nI 0) hx hb dL_leavingIn_41 (by decide) ?_
  refine lv_istore (lv' := [(6, .int (nI 0)), (5, .int (nI 0)), (4, .int (fw g)), (3, .int (-1)), (0, .ref (ad 0)), (1, .int (nI 10)), (2, .int (nI g))]) hx hb dL_leavingIn_42 hl (by decide) rfl (fun ls hl => ?_)
  refine lv_iconst (v := nI 0) hx hb dL_leavingIn_44 (by decide) ?_
  refine lv_istore (lv' := [(7, .int (nI 0)), (6, .int (nI 0)), (5, .int (nI 0)), (4, .int (fw g)), (3, .int (-1)), (0, .ref (ad 0)), (1, .int (nI 10)), (2, .int (nI g))]) hx hb dL_leavingIn_45 hl (by decide) rfl (fun ls hl => ?_)
  have L47 : ∀ (n47 : Nat) (k47 : Nat) (x5_47 : Int32), k47 + n47 = 10 → f_L_leavingIn_n g fc = (f_L_leavingIn_n_L47 g fc n47 k47 x5_47) → ∀ (H : Heap) (locs : List Loc), va_P D vwCl (wC cI ad rc rl rh fr fw fc fg ps pg pr pd qp qt qf qo ct lE lC cand lim now was (nI sent) (nI qfi) (nI qsz)) H → va_D A (wC cI ad rc rl rh fr fw fc fg ps pg pr pd qp qt qf qo ct lE lC cand lim now was (nI sent) (nI qfi) (nI qsz)) → va_S A s.heap H locs → ∀ ls : Array Slot, lv_has ls 10 [(0, .ref (ad 0)), (1, .int (nI 10)), (2, .int (nI g)), (3, .int (-1)), (4, .int (fw g)), (5, .int x5_47), (6, .int (nI 0)), (7, .int (nI k47))] → W p l e { frames := 4, cells := 0, slots := 0, locals := 90 } s m [.ref (ad 0), .int (nI 10), .int (nI g)].toArray below meth c H locs 0 0 (QI below s A D [.ref (ad 0), .int (nI 10), .int (nI g)] (wC cI ad rc rl rh fr fw fc fg ps pg pr pd qp qt qf qo ct lE lC cand lim now was (nI sent) (nI qfi) (nI qsz)) (f_L_leavingIn_n g fc)) (F0 m 47 ls []) := by
    intro n47
    induction n47 with
    | zero =>
      intro k47 x5_47 hk47 hf H locs hP hD hS ls hl
      obtain rfl : 10 = k47 := by omega
      rw [f_L_leavingIn_n_L47] at hf
      have hl : lv_has ls 10 [(0, .ref (ad 0)), (1, .int (nI 10)), (2, .int (nI g)), (3, .int (-1)), (4, .int (fw g)), (5, .int x5_47), (6, .int (nI 0)), (7, .int (nI 10))] := hl
      refine lv_iload hx hb dL_leavingIn_47 (lv_at hl 7 rfl) ?_
      refine lv_bipush (v := nI 10) hx hb dL_leavingIn_49 (by decide) ?_
      refine r_icmp_ge (tgt := 146) hx hb (by omega) (by omega) dL_leavingIn_51 (by decide) (fun _ => ?_) (fun c => absurd c (by omega))
      refine lv_iconst (v := nI 0) hx hb dL_leavingIn_146 (by decide) ?_
      refine lv_istore (lv' := [(7, .int (nI 0)), (0, .ref (ad 0)), (1, .int (nI 10)), (2, .int (nI g)), (3, .int (-1)), (4, .int (fw g)), (5, .int x5_47), (6, .int (nI 0))]) hx hb dL_leavingIn_147 hl (by decide) rfl (fun ls hl => ?_)
      have L149 : ∀ (n149 : Nat) (k149 : Nat), k149 + n149 = 10 → f_L_leavingIn_n g fc = (f_L_leavingIn_n_L149 n149 k149) → ∀ (H : Heap) (locs : List Loc), va_P D vwCl (wC cI ad rc rl rh fr fw fc fg ps pg pr pd qp qt qf qo ct lE lC cand lim now was (nI sent) (nI qfi) (nI qsz)) H → va_D A (wC cI ad rc rl rh fr fw fc fg ps pg pr pd qp qt qf qo ct lE lC cand lim now was (nI sent) (nI qfi) (nI qsz)) → va_S A s.heap H locs → ∀ ls : Array Slot, lv_has ls 10 [(0, .ref (ad 0)), (1, .int (nI 10)), (2, .int (nI g)), (3, .int (-1)), (4, .int (fw g)), (5, .int x5_47), (6, .int (nI 0)), (7, .int (nI k149))] → W p l e { frames := 4, cells := 0, slots := 0, locals := 90 } s m [.ref (ad 0), .int (nI 10), .int (nI g)].toArray below meth c H locs 0 0 (QI below s A D [.ref (ad 0), .int (nI 10), .int (nI g)] (wC cI ad rc rl rh fr fw fc fg ps pg pr pd qp qt qf qo ct lE lC cand lim now was (nI sent) (nI qfi) (nI qsz)) (f_L_leavingIn_n g fc)) (F0 m 149 ls []) := by
        intro n149
        induction n149 with
        | zero =>
          intro k149 hk149 hf H locs hP hD hS ls hl
          obtain rfl : 10 = k149 := by omega
          rw [f_L_leavingIn_n_L149] at hf
          have hl : lv_has ls 10 [(0, .ref (ad 0)), (1, .int (nI 10)), (2, .int (nI g)), (3, .int (-1)), (4, .int (fw g)), (5, .int x5_47), (6, .int (nI 0)), (7, .int (nI 10))] := hl
          refine lv_iload hx hb dL_leavingIn_149 (lv_at hl 7 rfl) ?_
          refine lv_bipush (v := nI 10) hx hb dL_leavingIn_151 (by decide) ?_
          refine r_icmp_ge (tgt := 276) hx hb (by omega) (by omega) dL_leavingIn_153 (by decide) (fun _ => ?_) (fun c => absurd c (by omega))
          refine lv_iload hx hb dL_leavingIn_276 (lv_at hl 6 rfl) ?_
          exact eI B hP hS ((congrArg (fun (u : Int32) => u) hf).symm) rfl dL_leavingIn_278
        | succ n149 ih149 =>
          intro k149 hk149 hf H locs hP hD hS ls hl
          rw [f_L_leavingIn_n_L149] at hf
          have hl : lv_has ls 10 [(0, .ref (ad 0)), (1, .int (nI 10)), (2, .int (nI g)), (3, .int (-1)), (4, .int (fw g)), (5, .int x5_47), (6, .int (nI 0)), (7, .int (nI k149))] := hl
          refine lv_iload hx hb dL_leavingIn_149 (lv_at hl 7 rfl) ?_
          refine lv_bipush (v := nI 10) hx hb dL_leavingIn_151 (by decide) ?_
          refine r_icmp_ge (tgt := 276) hx hb (by omega) (by omega) dL_leavingIn_153 (by decide) (fun c => absurd c (by omega)) (fun _ => ?_)
          refine lv_iload_n hx hb dL_leavingIn_156 rfl (lv_at hl 3 rfl) ?_
          refine lv_if_lt (tgt := 276) hx hb dL_leavingIn_157 (by decide) (fun _ => ?_) (fun c => absurd (by decide) c)
          refine lv_iload hx hb dL_leavingIn_276 (lv_at hl 6 rfl) ?_
          exact eI B hP hS ((congrArg (fun (u : Int32) => u) hf).symm) rfl dL_leavingIn_278
      exact L149 10 0 (by omega) hf _ _ hP hD hS _ (lv_sub hl [1, 2, 3, 4, 5, 6, 7, 0] rfl)
    | succ n47 ih47 =>
      intro k47 x5_47 hk47 hf H locs hP hD hS ls hl
      rw [f_L_leavingIn_n_L47] at hf
      have hl : lv_has ls 10 [(0, .ref (ad 0)), (1, .int (nI 10)), (2, .int (nI g)), (3, .int (-1)), (4, .int (fw g)), (5, .int x5_47), (6, .int (nI 0)), (7, .int (nI k47))] := hl
      refine lv_iload hx hb dL_leavingIn_47 (lv_at hl 7 rfl) ?_
      refine lv_bipush (v := nI 10) hx hb dL_leavingIn_49 (by decide) ?_
      refine r_icmp_ge (tgt := 146) hx hb (by omega) (by omega) dL_leavingIn_51 (by decide) (fun c => absurd c (by omega)) (fun _ => ?_)
      refine lv_aload_n hx hb dL_leavingIn_54 rfl (lv_at hl 0 rfl) ?_
      refine lv_iload hx hb dL_leavingIn_55 (lv_at hl 7 rfl) ?_
      refine lv_iload_n hx hb dL_leavingIn_57 rfl (lv_at hl 1 rfl) ?_
      refine lv_iload_n hx hb dL_leavingIn_58 rfl (lv_at hl 2 rfl) ?_
      refine fS_i (as := [.ref (ad 0), .int (nI k47), .int (nI 10), .int (nI g)]) (rest := []) B hl.1 (c_L_below l D cI cZ ad rc rl rh fr fw fc fg ps pg pr pd qp qt qf qo ct lE lC cand lim now was sent qfi qsz k47 10 g (by omega) (by omega) (by omega)) (l_RL_49 hts ⟨rfl, rfl⟩ ⟨Nat.le_of_ble_eq_true rfl, Nat.le_of_ble_eq_true rfl⟩) m_21_5 rfl rfl hP hD hS hA wfC (Nat.le_of_ble_eq_true rfl) dL_leavingIn_59 (fun H locs hP hD hS => ?_)
      refine lv_istore (lv' := [(8, .int (f_L_below k47 10 g fc)), (0, .ref (ad 0)), (1, .int (nI 10)), (2, .int (nI g)), (3, .int (-1)), (4, .int (fw g)), (5, .int x5_47), (6, .int (nI 0)), (7, .int (nI k47))]) hx hb dL_leavingIn_62 hl (by decide) rfl (fun ls hl => ?_)
      refine lv_iload hx hb dL_leavingIn_64 (lv_at hl 0 rfl) ?_
      refine lv_iload hx hb dL_leavingIn_66 (lv_at hl 6 rfl) ?_
      refine lv_iand hx hb dL_leavingIn_68 ?_
      refine lv_if_ne (tgt := 91) hx hb dL_leavingIn_69 (by decide) (fun c11 => ?_) (fun c11 => ?_)
      · have hf := hf.trans (if_neg c11)
        refine lv_iconst (v := -1) hx hb dL_leavingIn_91 (by decide) ?_
        exact eI B hP hS ((congrArg (fun (u : Int32) => u) hf).symm) rfl dL_leavingIn_92
      · have hf := hf.trans (if_pos c11)
        refine lv_iload hx hb dL_leavingIn_72 (lv_at hl 0 rfl) ?_
        refine lv_iload hx hb dL_leavingIn_74 (lv_at hl 8 rfl) ?_
        refine fS_i (as := [.int (f_L_below k47 10 g fc), .int (nI k47)]) (rest := []) B hl.1 (c_L_isIn l D cI cZ (wC cI ad rc rl rh fr fw fc fg ps pg pr pd qp qt qf qo ct lE lC cand lim now was (nI sent) (nI qfi) (nI qsz)) (f_L_below k47 10 g fc) k47 (by omega)) (l_RL_28 hts ⟨rfl, rfl⟩ ⟨Nat.le_of_ble_eq_true rfl, Nat.le_of_ble_eq_true rfl⟩) m_8_12 rfl rfl hP hD hS hA rfl (Nat.le_of_ble_eq_true rfl) dL_leavingIn_76 (fun H locs hP hD hS => ?_)
        refine r_if_ne_b (tgt := 91) hx hb dL_leavingIn_79 (by decide) (fun c12 => ?_) (fun c12 => ?_)
        · have hf := hf.trans (if_pos c12)
          refine lv_iconst (v := -1) hx hb dL_leavingIn_91 (by decide) ?_
          exact eI B hP hS ((congrArg (fun (u : Int32) => u) hf).symm) rfl dL_leavingIn_92
        · have hf := hf.trans (if_neg c12)
          refine lv_iload_n hx hb dL_leavingIn_82 rfl (lv_at hl 4 rfl) ?_
          refine lv_if_ge (tgt := 93) hx hb dL_leavingIn_83 (by decide) (fun c => absurd c (by decide)) (fun _ => ?_)
          refine lv_iload hx hb dL_leavingIn_86 (lv_at hl 0 rfl) ?_
          refine lv_if_eq (tgt := 93) hx hb dL_leavingIn_88 (by decide) (fun c13 => ?_) (fun c13 => ?_)
          · have hf := hf.trans (if_pos c13)
            refine lv_iload hx hb dL_leavingIn_93 (lv_at hl 6 rfl) ?_
            refine lv_iload hx hb dL_leavingIn_95 (lv_at hl 0 rfl) ?_
            refine lv_ior hx hb dL_leavingIn_97 ?_
            refine lv_istore (lv' := [(5, .int (x5_47 ||| (f_L_below k47 10 g fc))), (8, .int (f_L_below k47 10 g fc)), (0, .ref (ad 0)), (1, .int (nI 10)), (2, .int (nI g)), (3, .int (-1)), (4, .int (fw g)), (6, .int (nI 0)), (7, .int (nI k47))]) hx hb dL_leavingIn_98 hl (by decide) rfl (fun ls hl => ?_)
            refine lv_iconst (v := nI 0) hx hb dL_leavingIn_100 (by decide) ?_
            refine lv_istore (lv' := [(9, .int (nI 0)), (5, .int (x5_47 ||| (f_L_below k47 10 g fc))), (8, .int (f_L_below k47 10 g fc)), (0, .ref (ad 0)), (1, .int (nI 10)), (2, .int (nI g)), (3, .int (-1)), (4, .int (fw g)), (6, .int (nI 0)), (7, .int (nI k47))]) hx hb dL_leavingIn_101 hl (by decide) rfl (fun ls hl => ?_)
            have L103 : ∀ (n103 : Nat) (k103 : Nat), k103 + n103 = 10 → f_L_leavingIn_n g fc = (if (f_L_leavingIn_n_L103 n103 k103) = true then -1 else f_L_leavingIn_n_L47 g fc n47 (k47 + 1) (x5_47 ||| (f_L_below k47 10 g fc))) → ∀ (H : Heap) (locs : List Loc), va_P D vwCl (wC cI ad rc rl rh fr fw fc fg ps pg pr pd qp qt qf qo ct lE lC cand lim now was (nI sent) (nI qfi) (nI qsz)) H → va_D A (wC cI ad rc rl rh fr fw fc fg ps pg pr pd qp qt qf qo ct lE lC cand lim now was (nI sent) (nI qfi) (nI qsz)) → va_S A s.heap H locs → ∀ ls : Array Slot, lv_has ls 10 [(0, .ref (ad 0)), (1, .int (nI 10)), (2, .int (nI g)), (3, .int (-1)), (4, .int (fw g)), (5, .int (x5_47 ||| (f_L_below k47 10 g fc))), (6, .int (nI 0)), (7, .int (nI k47)), (8, .int (f_L_below k47 10 g fc)), (9, .int (nI k103))] → W p l e { frames := 4, cells := 0, slots := 0, locals := 90 } s m [.ref (ad 0), .int (nI 10), .int (nI g)].toArray below meth c H locs 0 0 (QI below s A D [.ref (ad 0), .int (nI 10), .int (nI g)] (wC cI ad rc rl rh fr fw fc fg ps pg pr pd qp qt qf qo ct lE lC cand lim now was (nI sent) (nI qfi) (nI qsz)) (f_L_leavingIn_n g fc)) (F0 m 103 ls []) := by
              intro n103
              induction n103 with
              | zero =>
                intro k103 hk103 hf H locs hP hD hS ls hl
                obtain rfl : 10 = k103 := by omega
                rw [f_L_leavingIn_n_L103] at hf
                (try dsimp only at hf)
                rw [if_neg Bool.false_ne_true] at hf
                have hl : lv_has ls 10 [(0, .ref (ad 0)), (1, .int (nI 10)), (2, .int (nI g)), (3, .int (-1)), (4, .int (fw g)), (5, .int (x5_47 ||| (f_L_below k47 10 g fc))), (6, .int (nI 0)), (7, .int (nI k47)), (8, .int (f_L_below k47 10 g fc)), (9, .int (nI 10))] := hl
                refine lv_iload hx hb dL_leavingIn_103 (lv_at hl 9 rfl) ?_
                refine lv_bipush (v := nI 10) hx hb dL_leavingIn_105 (by decide) ?_
                refine r_icmp_ge (tgt := 140) hx hb (by omega) (by omega) dL_leavingIn_107 (by decide) (fun _ => ?_) (fun c => absurd c (by omega))
                refine lv_iinc (v := nI (k47 + 1)) (lv' := [(7, .int (nI (k47 + 1))), (0, .ref (ad 0)), (1, .int (nI 10)), (2, .int (nI g)), (3, .int (-1)), (4, .int (fw g)), (5, .int (x5_47 ||| (f_L_below k47 10 g fc))), (6, .int (nI 0)), (8, .int (f_L_below k47 10 g fc)), (9, .int (nI 10))]) hx hb dL_leavingIn_140 hl (k := 7) rfl (nI_add _ _) (by decide) rfl (fun ls hl => ?_)
                refine lv_goto (tgt := 47) hx hb dL_leavingIn_143 (by decide) ?_
                exact ih47 (k47 + 1) (x5_47 ||| (f_L_below k47 10 g fc)) (by omega) hf _ _ hP hD hS _ (lv_sub hl [1, 2, 3, 4, 5, 6, 7, 0] rfl)
              | succ n103 ih103 =>
                intro k103 hk103 hf H locs hP hD hS ls hl
                rw [f_L_leavingIn_n_L103] at hf
                have hl : lv_has ls 10 [(0, .ref (ad 0)), (1, .int (nI 10)), (2, .int (nI g)), (3, .int (-1)), (4, .int (fw g)), (5, .int (x5_47 ||| (f_L_below k47 10 g fc))), (6, .int (nI 0)), (7, .int (nI k47)), (8, .int (f_L_below k47 10 g fc)), (9, .int (nI k103))] := hl
                refine lv_iload hx hb dL_leavingIn_103 (lv_at hl 9 rfl) ?_
                refine lv_bipush (v := nI 10) hx hb dL_leavingIn_105 (by decide) ?_
                refine r_icmp_ge (tgt := 140) hx hb (by omega) (by omega) dL_leavingIn_107 (by decide) (fun c => absurd c (by omega)) (fun _ => ?_)
                refine lv_iload hx hb dL_leavingIn_110 (lv_at hl 8 rfl) ?_
                refine lv_iload hx hb dL_leavingIn_112 (lv_at hl 9 rfl) ?_
                refine fS_i (as := [.int (f_L_below k47 10 g fc), .int (nI k103)]) (rest := []) B hl.1 (c_L_isIn l D cI cZ (wC cI ad rc rl rh fr fw fc fg ps pg pr pd qp qt qf qo ct lE lC cand lim now was (nI sent) (nI qfi) (nI qsz)) (f_L_below k47 10 g fc) k103 (by omega)) (l_RL_28 hts ⟨rfl, rfl⟩ ⟨Nat.le_of_ble_eq_true rfl, Nat.le_of_ble_eq_true rfl⟩) m_8_12 rfl rfl hP hD hS hA rfl (Nat.le_of_ble_eq_true rfl) dL_leavingIn_114 (fun H locs hP hD hS => ?_)
                refine r_if_eq_b (tgt := 134) hx hb dL_leavingIn_117 (by decide) (fun _ => ?_) (fun c => absurd c (isIn_z (by omega) c13))
                refine lv_iinc (v := nI (k103 + 1)) (lv' := [(9, .int (nI (k103 + 1))), (0, .ref (ad 0)), (1, .int (nI 10)), (2, .int (nI g)), (3, .int (-1)), (4, .int (fw g)), (5, .int (x5_47 ||| (f_L_below k47 10 g fc))), (6, .int (nI 0)), (7, .int (nI k47)), (8, .int (f_L_below k47 10 g fc))]) hx hb dL_leavingIn_134 hl (k := 9) rfl (nI_add _ _) (by decide) rfl (fun ls hl => ?_)
                refine lv_goto (tgt := 103) hx hb dL_leavingIn_137 (by decide) ?_
                exact ih103 (k103 + 1) (by omega) hf _ _ hP hD hS _ (lv_sub hl [1, 2, 3, 4, 5, 6, 7, 8, 9, 0] rfl)
            exact L103 10 0 (by omega) hf _ _ hP hD hS _ (lv_sub hl [3, 4, 5, 6, 7, 1, 8, 9, 2, 0] rfl)
          · have hf := hf.trans (if_neg c13)
            refine lv_iconst (v := -1) hx hb dL_leavingIn_91 (by decide) ?_
            exact eI B hP hS ((congrArg (fun (u : Int32) => u) hf).symm) rfl dL_leavingIn_92
  exact L47 10 0 (nI 0) (by omega) hf _ _ hP hD hS _ (lv_sub hl [5, 6, 7, 4, 3, 2, 1, 0] rfl)
def j_L_leavingIn_r_249 (x5_47 : Int32) (k149 : Nat) : Bool :=
  if (f_L_isIn x5_47 k149) = true then false else false
def j_L_leavingIn_r_249b (x5_47 : Int32) (k149 : Nat) : Bool :=
  if (f_L_isIn x5_47 k149) = true then true else false
def f_L_leavingIn_r_L149 (g : Nat) (o : Nat) (rl : Nat → Int32) (fw : Nat → Int32) (fc : Nat → Int32) (x5_47 : Int32) : Nat → Nat → Int32 → Int32
  | 0, _, x6_149 => x6_149
  | n149 + 1, k149, x6_149 => if k149 = o then (if (f_L_isIn x5_47 k149) = true then -1 else f_L_leavingIn_r_L149 g o rl fw fc x5_47 n149 (k149 + 1) (x6_149 + (nI 0))) else if (f_L_isIn (fw g) k149) = true then (if (f_X4_distanceOf k149 o rl) < 0 then (if (f_L_below k149 10 g fc) = 0 then f_L_leavingIn_r_L149 g o rl fw fc x5_47 n149 (k149 + 1) (x6_149 + (bI (j_L_leavingIn_r_249 x5_47 k149))) else if (f_L_isIn x5_47 k149) = true then f_L_leavingIn_r_L149 g o rl fw fc x5_47 n149 (k149 + 1) (x6_149 + (nI 0)) else -1) else if (f_L_isIn x5_47 k149) = true then (if (f_L_below k149 10 g fc) = 0 then f_L_leavingIn_r_L149 g o rl fw fc x5_47 n149 (k149 + 1) (x6_149 + (nI 0)) else f_L_leavingIn_r_L149 g o rl fw fc x5_47 n149 (k149 + 1) (x6_149 + (nI 0))) else -1) else if (f_L_below k149 10 g fc) = 0 then f_L_leavingIn_r_L149 g o rl fw fc x5_47 n149 (k149 + 1) (x6_149 + (bI (j_L_leavingIn_r_249b x5_47 k149))) else if (f_L_isIn x5_47 k149) = true then f_L_leavingIn_r_L149 g o rl fw fc x5_47 n149 (k149 + 1) (x6_149 + (nI 0)) else -1
def f_L_leavingIn_r_L103 (g : Nat) (o : Nat) (rh : Nat → Int32) (fc : Nat → Int32) (k47 : Nat) : Nat → Nat → Bool
  | 0, _ => false
  | n103 + 1, k103 => if (f_L_isIn (f_L_below k47 10 g fc) k103) = true then (if (rh ((k103 * 10) + o)) = (nI k47) then f_L_leavingIn_r_L103 g o rh fc k47 n103 (k103 + 1) else true) else f_L_leavingIn_r_L103 g o rh fc k47 n103 (k103 + 1)
def f_L_leavingIn_r_L47 (g : Nat) (o : Nat) (rl : Nat → Int32) (rh : Nat → Int32) (fw : Nat → Int32) (fc : Nat → Int32) : Nat → Nat → Int32 → Int32
  | 0, _, x5_47 => f_L_leavingIn_r_L149 g o rl fw fc x5_47 10 0 (nI 0)
  | n47 + 1, k47, x5_47 => if ((f_L_below k47 10 g fc) &&& x5_47) = 0 then (if (f_L_isIn (f_L_below k47 10 g fc) k47) = true then -1 else if 0 ≤ (nI o) then (if (f_L_leavingIn_r_L103 g o rh fc k47 10 0) = true then -1 else f_L_leavingIn_r_L47 g o rl rh fw fc n47 (k47 + 1) (x5_47 ||| (f_L_below k47 10 g fc))) else if (f_L_below k47 10 g fc) = 0 then (if (f_L_leavingIn_r_L103 g o rh fc k47 10 0) = true then -1 else f_L_leavingIn_r_L47 g o rl rh fw fc n47 (k47 + 1) (x5_47 ||| (f_L_below k47 10 g fc))) else -1) else -1
def f_L_leavingIn_r (g : Nat) (o : Nat) (rl : Nat → Int32) (rh : Nat → Int32) (fw : Nat → Int32) (fc : Nat → Int32) : Int32 :=
  f_L_leavingIn_r_L47 g o rl rh fw fc 10 0 (nI 0)
set_option maxHeartbeats 4000000 in
set_option maxRecDepth 100000 in
theorem c_L_leavingIn_r (l : Launch) (D : va_G) (cI cZ : ClassId) (ad : Nat → Nat) (rc rl rh fr fw fc fg ps pg pr pd qp qt qf qo ct lE lC : Nat → Int32) (cand : Int32) (lim : Int32) (now : Int32) (was : Int32) (sent : Nat) (qfi : Nat) (qsz : Nat) (g : Nat) (o : Nat) (hg : g < 4) (ho : o < 10) (hr : fr g = nI o) : MI l yL_leavingIn cL_leavingIn 10 .int { frames := 4, cells := 0, slots := 0, locals := 90 } D (TY cI cZ) [.ref (ad 0), .int (nI 10), .int (nI g)] (wC cI ad rc rl rh fr fw fc fg ps pg pr pd qp qt qf qo ct lE lC cand lim now was (nI sent) (nI qfi) (nI qsz)) (wC cI ad rc rl rh fr fw fc fg ps pg pr pd qp qt qf qo ct lE lC cand lim now was (nI sent) (nI qfi) (nI qsz)) (f_L_leavingIn_r g o rl rh fw fc) := by
  refine MI.mk ⟨rfl, rfl⟩ (by decide +kernel) (Nat.le_of_ble_eq_true rfl) ?_
  intro p e s m below meth c A ls B hA hP hD hS hl
  have hx := B.1
  have hb := B.2.1
  have hts := B.2.2.2.2.2.1
  have hN := B.2.2.2.2.2.2.2.1
  have hK := B.2.2.2.2.2.2.2.2.1
  have hl : lv_has ls 10 [(0, .ref (ad 0)), (1, .int (nI 10)), (2, .int (nI g))] := hl
  have hf := f_L_leavingIn_r.eq_1 g o rl rh fw fc
  refine lv_iload_n hx hb dL_leavingIn_0 rfl (lv_at hl 1 rfl) ?_
  refine lv_bipush (v := nI 10) hx hb dL_leavingIn_1 (by decide) ?_
  refine r_icmp_ne (tgt := 14) hx hb (by omega) (by omega) dL_leavingIn_3 (by decide) (fun c => absurd c (by omega)) (fun _ => ?_)
  refine lv_aload_n hx hb dL_leavingIn_6 rfl (lv_at hl 0 rfl) ?_
  refine lv_iload_n hx hb dL_leavingIn_7 rfl (lv_at hl 2 rfl) ?_
  refine fV_i (ci := 5) (as := [.int (nI g)]) (rest := []) B hl.1 (c_X5_rendezvous l D cI cZ ad rc rl rh fr fw fc fg ps pg pr pd qp qt qf qo ct lE lC cand lim now was sent qfi qsz g (by omega)) rfl (l_RL_39 hts ⟨rfl, rfl⟩ ⟨Nat.le_of_ble_eq_true rfl, Nat.le_of_ble_eq_true rfl⟩) m_14_0 m_14_1 rfl rfl hP hD hS hA 0 rfl wfC (Nat.le_of_ble_eq_true rfl) dL_leavingIn_8 (fun H locs hP hD hS => ?_)
  refine r_eq hr ?_
  refine lv_goto (tgt := 15) hx hb dL_leavingIn_11 (by decide) ?_
  refine lv_istore_n (lv' := [(3, .int (nI o)), (0, .ref (ad 0)), (1, .int (nI 10)), (2, .int (nI g))]) hx hb dL_leavingIn_15 rfl hl (by decide) rfl (fun ls hl => ?_)
  refine lv_iload_n hx hb dL_leavingIn_16 rfl (lv_at hl 2 rfl) ?_
  refine lv_bipush (v := nI 10) hx hb dL_leavingIn_17 (by decide) ?_
  refine r_icmp_ne (tgt := 30) hx hb (by omega) (by omega) dL_leavingIn_19 (by decide) (fun c => absurd c (by omega)) (fun _ => ?_)
  refine lv_aload_n hx hb dL_leavingIn_22 rfl (lv_at hl 1 rfl) ?_
  refine lv_iload_n hx hb dL_leavingIn_23 rfl (lv_at hl 3 rfl) ?_
  refine fV_i (ci := 5) (as := [.int (nI g)]) (rest := []) B hl.1 (c_X5_members l D cI cZ ad rc rl rh fr fw fc fg ps pg pr pd qp qt qf qo ct lE lC cand lim now was sent qfi qsz g (by omega)) rfl (l_RL_43 hts ⟨rfl, rfl⟩ ⟨Nat.le_of_ble_eq_true rfl, Nat.le_of_ble_eq_true rfl⟩) m_21_1 m_21_2 rfl rfl hP hD hS hA 0 rfl wfC (Nat.le_of_ble_eq_true rfl) dL_leavingIn_24 (fun H locs hP hD hS => ?_)
  refine lv_goto (tgt := 36) hx hb dL_leavingIn_27 (by decide) ?_
  refine lv_istore (lv' := [(4, .int (fw g)), (3, .int (nI o)), (0, .ref (ad 0)), (1, .int (nI 10)), (2, .int (nI g))]) hx hb dL_leavingIn_36 hl (by decide) rfl (fun ls hl => ?_)
  refine lv_iconst (v := nI 0) hx hb dL_leavingIn_38 (by decide) ?_
  refine lv_istore (lv' := [(5, .int (nI 0)), (4, .int (fw g)), (3, .int (nI o)), (0, .ref (ad 0)), (1, .int (nI 10)), (2, .int (nI g))]) hx hb dL_leavingIn_39 hl (by decide) rfl (fun ls hl => ?_)
  refine lv_iconst (v := nI 0) hx hb dL_leavingIn_41 (by decide) ?_
  refine lv_istore (lv' := [(6, .int (nI 0)), (5, .int (nI 0)), (4, .int (fw g)), (3, .int (nI o)), (0, .ref (ad 0)), (1, .int (nI 10)), (2, .int (nI g))]) hx hb dL_leavingIn_42 hl (by decide) rfl (fun ls hl => ?_)
  refine lv_iconst (v := nI 0) hx hb dL_leavingIn_44 (by decide) ?_
  refine lv_istore (lv' := [(7, .int (nI 0)), (6, .int (nI 0)), (5, .int (nI 0)), (4, .int (fw g)), (3, .int (nI o)), (0, .ref (ad 0)), (1, .int (nI 10)), (2, .int (nI g))]) hx hb dL_leavingIn_45 hl (by decide) rfl (fun ls hl => ?_)
  have L47 : ∀ (n47 : Nat) (k47 : Nat) (x5_47 : Int32), k47 + n47 = 10 → f_L_leavingIn_r g o rl rh fw fc = (f_L_leavingIn_r_L47 g o rl rh fw fc n47 k47 x5_47) → ∀ (H : Heap) (locs : List Loc), va_P D vwCl (wC cI ad rc rl rh fr fw fc fg ps pg pr pd qp qt qf qo ct lE lC cand lim now was (nI sent) (nI qfi) (nI qsz)) H → va_D A (wC cI ad rc rl rh fr fw fc fg ps pg pr pd qp qt qf qo ct lE lC cand lim now was (nI sent) (nI qfi) (nI qsz)) → va_S A s.heap H locs → ∀ ls : Array Slot, lv_has ls 10 [(0, .ref (ad 0)), (1, .int (nI 10)), (2, .int (nI g)), (3, .int (nI o)), (4, .int (fw g)), (5, .int x5_47), (6, .int (nI 0)), (7, .int (nI k47))] → W p l e { frames := 4, cells := 0, slots := 0, locals := 90 } s m [.ref (ad 0), .int (nI 10), .int (nI g)].toArray below meth c H locs 0 0 (QI below s A D [.ref (ad 0), .int (nI 10), .int (nI g)] (wC cI ad rc rl rh fr fw fc fg ps pg pr pd qp qt qf qo ct lE lC cand lim now was (nI sent) (nI qfi) (nI qsz)) (f_L_leavingIn_r g o rl rh fw fc)) (F0 m 47 ls []) := by
    intro n47
    induction n47 with
    | zero =>
      intro k47 x5_47 hk47 hf H locs hP hD hS ls hl
      obtain rfl : 10 = k47 := by omega
      rw [f_L_leavingIn_r_L47] at hf
      have hl : lv_has ls 10 [(0, .ref (ad 0)), (1, .int (nI 10)), (2, .int (nI g)), (3, .int (nI o)), (4, .int (fw g)), (5, .int x5_47), (6, .int (nI 0)), (7, .int (nI 10))] := hl
      refine lv_iload hx hb dL_leavingIn_47 (lv_at hl 7 rfl) ?_
      refine lv_bipush (v := nI 10) hx hb dL_leavingIn_49 (by decide) ?_
      refine r_icmp_ge (tgt := 146) hx hb (by omega) (by omega) dL_leavingIn_51 (by decide) (fun _ => ?_) (fun c => absurd c (by omega))
      refine lv_iconst (v := nI 0) hx hb dL_leavingIn_146 (by decide) ?_
      refine lv_istore (lv' := [(7, .int (nI 0)), (0, .ref (ad 0)), (1, .int (nI 10)), (2, .int (nI g)), (3, .int (nI o)), (4, .int (fw g)), (5, .int x5_47), (6, .int (nI 0))]) hx hb dL_leavingIn_147 hl (by decide) rfl (fun ls hl => ?_)
      have L149 : ∀ (n149 : Nat) (k149 : Nat) (x6_149 : Int32), k149 + n149 = 10 → f_L_leavingIn_r g o rl rh fw fc = (f_L_leavingIn_r_L149 g o rl fw fc x5_47 n149 k149 x6_149) → ∀ (H : Heap) (locs : List Loc), va_P D vwCl (wC cI ad rc rl rh fr fw fc fg ps pg pr pd qp qt qf qo ct lE lC cand lim now was (nI sent) (nI qfi) (nI qsz)) H → va_D A (wC cI ad rc rl rh fr fw fc fg ps pg pr pd qp qt qf qo ct lE lC cand lim now was (nI sent) (nI qfi) (nI qsz)) → va_S A s.heap H locs → ∀ ls : Array Slot, lv_has ls 10 [(0, .ref (ad 0)), (1, .int (nI 10)), (2, .int (nI g)), (3, .int (nI o)), (4, .int (fw g)), (5, .int x5_47), (6, .int x6_149), (7, .int (nI k149))] → W p l e { frames := 4, cells := 0, slots := 0, locals := 90 } s m [.ref (ad 0), .int (nI 10), .int (nI g)].toArray below meth c H locs 0 0 (QI below s A D [.ref (ad 0), .int (nI 10), .int (nI g)] (wC cI ad rc rl rh fr fw fc fg ps pg pr pd qp qt qf qo ct lE lC cand lim now was (nI sent) (nI qfi) (nI qsz)) (f_L_leavingIn_r g o rl rh fw fc)) (F0 m 149 ls []) := by
        intro n149
        induction n149 with
        | zero =>
          intro k149 x6_149 hk149 hf H locs hP hD hS ls hl
          obtain rfl : 10 = k149 := by omega
          rw [f_L_leavingIn_r_L149] at hf
          have hl : lv_has ls 10 [(0, .ref (ad 0)), (1, .int (nI 10)), (2, .int (nI g)), (3, .int (nI o)), (4, .int (fw g)), (5, .int x5_47), (6, .int x6_149), (7, .int (nI 10))] := hl
          refine lv_iload hx hb dL_leavingIn_149 (lv_at hl 7 rfl) ?_
          refine lv_bipush (v := nI 10) hx hb dL_leavingIn_151 (by decide) ?_
          refine r_icmp_ge (tgt := 276) hx hb (by omega) (by omega) dL_leavingIn_153 (by decide) (fun _ => ?_) (fun c => absurd c (by omega))
          refine lv_iload hx hb dL_leavingIn_276 (lv_at hl 6 rfl) ?_
          exact eI B hP hS ((congrArg (fun (u : Int32) => u) hf).symm) rfl dL_leavingIn_278
        | succ n149 ih149 =>
          intro k149 x6_149 hk149 hf H locs hP hD hS ls hl
          rw [f_L_leavingIn_r_L149] at hf
          have hl : lv_has ls 10 [(0, .ref (ad 0)), (1, .int (nI 10)), (2, .int (nI g)), (3, .int (nI o)), (4, .int (fw g)), (5, .int x5_47), (6, .int x6_149), (7, .int (nI k149))] := hl
          refine lv_iload hx hb dL_leavingIn_149 (lv_at hl 7 rfl) ?_
          refine lv_bipush (v := nI 10) hx hb dL_leavingIn_151 (by decide) ?_
          refine r_icmp_ge (tgt := 276) hx hb (by omega) (by omega) dL_leavingIn_153 (by decide) (fun c => absurd c (by omega)) (fun _ => ?_)
          refine lv_iload_n hx hb dL_leavingIn_156 rfl (lv_at hl 3 rfl) ?_
          refine r_if_lt (tgt := 276) hx hb (by omega) dL_leavingIn_157 (by decide) ?_
          refine lv_aload_n hx hb dL_leavingIn_160 rfl (lv_at hl 0 rfl) ?_
          refine lv_iload hx hb dL_leavingIn_161 (lv_at hl 7 rfl) ?_
          refine lv_iload_n hx hb dL_leavingIn_163 rfl (lv_at hl 1 rfl) ?_
          refine lv_iload_n hx hb dL_leavingIn_164 rfl (lv_at hl 2 rfl) ?_
          refine fS_i (as := [.ref (ad 0), .int (nI k149), .int (nI 10), .int (nI g)]) (rest := []) B hl.1 (c_L_below l D cI cZ ad rc rl rh fr fw fc fg ps pg pr pd qp qt qf qo ct lE lC cand lim now was sent qfi qsz k149 10 g (by omega) (by omega) (by omega)) (l_RL_49 hts ⟨rfl, rfl⟩ ⟨Nat.le_of_ble_eq_true rfl, Nat.le_of_ble_eq_true rfl⟩) m_21_5 rfl rfl hP hD hS hA wfC (Nat.le_of_ble_eq_true rfl) dL_leavingIn_165 (fun H locs hP hD hS => ?_)
          refine lv_istore (lv' := [(8, .int (f_L_below k149 10 g fc)), (0, .ref (ad 0)), (1, .int (nI 10)), (2, .int (nI g)), (3, .int (nI o)), (4, .int (fw g)), (5, .int x5_47), (6, .int x6_149), (7, .int (nI k149))]) hx hb dL_leavingIn_168 hl (by decide) rfl (fun ls hl => ?_)
          refine lv_iload hx hb dL_leavingIn_170 (lv_at hl 5 rfl) ?_
          refine lv_iload hx hb dL_leavingIn_172 (lv_at hl 8 rfl) ?_
          refine fS_i (as := [.int (fw g), .int (nI k149)]) (rest := []) B hl.1 (c_L_isIn l D cI cZ (wC cI ad rc rl rh fr fw fc fg ps pg pr pd qp qt qf qo ct lE lC cand lim now was (nI sent) (nI qfi) (nI qsz)) (fw g) k149 (by omega)) (l_RL_28 hts ⟨rfl, rfl⟩ ⟨Nat.le_of_ble_eq_true rfl, Nat.le_of_ble_eq_true rfl⟩) m_8_12 rfl rfl hP hD hS hA rfl (Nat.le_of_ble_eq_true rfl) dL_leavingIn_174 (fun H locs hP hD hS => ?_)
          refine lv_istore (lv' := [(9, .int (bI (f_L_isIn (fw g) k149))), (8, .int (f_L_below k149 10 g fc)), (0, .ref (ad 0)), (1, .int (nI 10)), (2, .int (nI g)), (3, .int (nI o)), (4, .int (fw g)), (5, .int x5_47), (6, .int x6_149), (7, .int (nI k149))]) hx hb dL_leavingIn_177 hl (by decide) rfl (fun ls hl => ?_)
          refine lv_iload hx hb dL_leavingIn_179 (lv_at hl 9 rfl) ?_
          refine lv_iload_n hx hb dL_leavingIn_181 rfl (lv_at hl 5 rfl) ?_
          refine r_icmp_ne (tgt := 198) hx hb (by omega) (by omega) dL_leavingIn_182 (by decide) (fun c55 => ?_) (fun c55 => ?_)
          · have hf := hf.trans (if_neg c55)
            refine lv_iload hx hb dL_leavingIn_198 (lv_at hl 0 rfl) ?_
            refine r_if_eq_b (tgt := 223) hx hb dL_leavingIn_200 (by decide) (fun c57 => ?_) (fun c57 => ?_)
            · have hf := hf.trans (if_neg c57)
              refine lv_iload hx hb dL_leavingIn_223 (lv_at hl 1 rfl) ?_
              refine lv_if_eq (tgt := 240) hx hb dL_leavingIn_225 (by decide) (fun c64 => ?_) (fun c64 => ?_)
              · have hf := hf.trans (if_pos c64)
                refine lv_iload hx hb dL_leavingIn_240 (lv_at hl 8 rfl) ?_
                refine lv_iload hx hb dL_leavingIn_242 (lv_at hl 7 rfl) ?_
                refine lv_iload hx hb dL_leavingIn_244 (lv_at hl 9 rfl) ?_
                refine fS_i (as := [.int x5_47, .int (nI k149)]) (rest := [.int x6_149]) B hl.1 (c_L_isIn l D cI cZ (wC cI ad rc rl rh fr fw fc fg ps pg pr pd qp qt qf qo ct lE lC cand lim now was (nI sent) (nI qfi) (nI qsz)) x5_47 k149 (by omega)) (l_RL_28 hts ⟨rfl, rfl⟩ ⟨Nat.le_of_ble_eq_true rfl, Nat.le_of_ble_eq_true rfl⟩) m_8_12 rfl rfl hP hD hS hA rfl (Nat.le_of_ble_eq_true rfl) dL_leavingIn_246 (fun H locs hP hD hS => ?_)
                have K249 : ∀ v249 : Bool, j_L_leavingIn_r_249b x5_47 k149 = v249 → ∀ (H : Heap) (locs : List Loc), va_P D vwCl (wC cI ad rc rl rh fr fw fc fg ps pg pr pd qp qt qf qo ct lE lC cand lim now was (nI sent) (nI qfi) (nI qsz)) H → va_D A (wC cI ad rc rl rh fr fw fc fg ps pg pr pd qp qt qf qo ct lE lC cand lim now was (nI sent) (nI qfi) (nI qsz)) → va_S A s.heap H locs → ∀ ls : Array Slot, lv_has ls 10 [(9, .int (bI (f_L_isIn (fw g) k149))), (8, .int (f_L_below k149 10 g fc)), (0, .ref (ad 0)), (1, .int (nI 10)), (2, .int (nI g)), (3, .int (nI o)), (4, .int (fw g)), (5, .int x5_47), (6, .int x6_149), (7, .int (nI k149))] → W p l e { frames := 4, cells := 0, slots := 0, locals := 90 } s m [.ref (ad 0), .int (nI 10), .int (nI g)].toArray below meth c H locs 0 0 (QI below s A D [.ref (ad 0), .int (nI 10), .int (nI g)] (wC cI ad rc rl rh fr fw fc fg ps pg pr pd qp qt qf qo ct lE lC cand lim now was (nI sent) (nI qfi) (nI qsz)) (f_L_leavingIn_r g o rl rh fw fc)) (F0 m 267 ls [.int (bI v249), .int x6_149]) := by
                  intro v249 hv249 H locs hP hD hS ls hl
                  subst hv249
                  refine lv_iadd hx hb dL_leavingIn_267 ?_
                  refine lv_istore (lv' := [(6, .int (x6_149 + (bI (j_L_leavingIn_r_249b x5_47 k149)))), (9, .int (bI (f_L_isIn (fw g) k149))), (8, .int (f_L_below k149 10 g fc)), (0, .ref (ad 0)), (1, .int (nI 10)), (2, .int (nI g)), (3, .int (nI o)), (4, .int (fw g)), (5, .int x5_47), (7, .int (nI k149))]) hx hb dL_leavingIn_268 hl (by decide) rfl (fun ls hl => ?_)
                  refine lv_iinc (v := nI (k149 + 1)) (lv' := [(7, .int (nI (k149 + 1))), (6, .int (x6_149 + (bI (j_L_leavingIn_r_249b x5_47 k149)))), (9, .int (bI (f_L_isIn (fw g) k149))), (8, .int (f_L_below k149 10 g fc)), (0, .ref (ad 0)), (1, .int (nI 10)), (2, .int (nI g)), (3, .int (nI o)), (4, .int (fw g)), (5, .int x5_47)]) hx hb dL_leavingIn_270 hl (k := 9) rfl (nI_add _ _) (by decide) rfl (fun ls hl => ?_)
                  refine lv_goto (tgt := 149) hx hb dL_leavingIn_273 (by decide) ?_
                  exact ih149 (k149 + 1) (x6_149 + (bI (j_L_leavingIn_r_249b x5_47 k149))) (by omega) hf _ _ hP hD hS _ (lv_sub hl [4, 5, 6, 7, 8, 9, 1, 0] rfl)
                have hj249 := j_L_leavingIn_r_249b.eq_1 x5_47 k149
                refine r_if_eq_b (tgt := 266) hx hb dL_leavingIn_249 (by decide) (fun c65 => ?_) (fun c65 => ?_)
                · have hj249 := hj249.trans (if_neg c65)
                  refine lv_iconst (v := nI 0) hx hb dL_leavingIn_266 (by decide) ?_
                  exact K249 _ hj249 _ _ hP hD hS _ hl
                · have hj249 := hj249.trans (if_pos c65)
                  refine lv_iload hx hb dL_leavingIn_252 (lv_at hl 0 rfl) ?_
                  refine r_if_ne_b (tgt := 266) hx hb dL_leavingIn_254 (by decide) (fun c => absurd c c57) (fun _ => ?_)
                  refine lv_iload hx hb dL_leavingIn_257 (lv_at hl 1 rfl) ?_
                  refine lv_if_ne (tgt := 266) hx hb dL_leavingIn_259 (by decide) (fun c => absurd c64 c) (fun _ => ?_)
                  refine lv_iconst (v := nI 1) hx hb dL_leavingIn_262 (by decide) ?_
                  refine lv_goto (tgt := 267) hx hb dL_leavingIn_263 (by decide) ?_
                  exact K249 _ hj249 _ _ hP hD hS _ hl
              · have hf := hf.trans (if_neg c64)
                refine lv_iload hx hb dL_leavingIn_228 (lv_at hl 7 rfl) ?_
                refine lv_iload hx hb dL_leavingIn_230 (lv_at hl 9 rfl) ?_
                refine fS_i (as := [.int x5_47, .int (nI k149)]) (rest := []) B hl.1 (c_L_isIn l D cI cZ (wC cI ad rc rl rh fr fw fc fg ps pg pr pd qp qt qf qo ct lE lC cand lim now was (nI sent) (nI qfi) (nI qsz)) x5_47 k149 (by omega)) (l_RL_28 hts ⟨rfl, rfl⟩ ⟨Nat.le_of_ble_eq_true rfl, Nat.le_of_ble_eq_true rfl⟩) m_8_12 rfl rfl hP hD hS hA rfl (Nat.le_of_ble_eq_true rfl) dL_leavingIn_232 (fun H locs hP hD hS => ?_)
                refine r_if_ne_b (tgt := 240) hx hb dL_leavingIn_235 (by decide) (fun c66 => ?_) (fun c66 => ?_)
                · have hf := hf.trans (if_pos c66)
                  refine lv_iload hx hb dL_leavingIn_240 (lv_at hl 8 rfl) ?_
                  refine lv_iload hx hb dL_leavingIn_242 (lv_at hl 7 rfl) ?_
                  refine lv_iload hx hb dL_leavingIn_244 (lv_at hl 9 rfl) ?_
                  refine fS_i (as := [.int x5_47, .int (nI k149)]) (rest := [.int x6_149]) B hl.1 (c_L_isIn l D cI cZ (wC cI ad rc rl rh fr fw fc fg ps pg pr pd qp qt qf qo ct lE lC cand lim now was (nI sent) (nI qfi) (nI qsz)) x5_47 k149 (by omega)) (l_RL_28 hts ⟨rfl, rfl⟩ ⟨Nat.le_of_ble_eq_true rfl, Nat.le_of_ble_eq_true rfl⟩) m_8_12 rfl rfl hP hD hS hA rfl (Nat.le_of_ble_eq_true rfl) dL_leavingIn_246 (fun H locs hP hD hS => ?_)
                  refine r_if_eq_b (tgt := 266) hx hb dL_leavingIn_249 (by decide) (fun c => absurd c66 c) (fun _ => ?_)
                  refine lv_iload hx hb dL_leavingIn_252 (lv_at hl 0 rfl) ?_
                  refine r_if_ne_b (tgt := 266) hx hb dL_leavingIn_254 (by decide) (fun c => absurd c c57) (fun _ => ?_)
                  refine lv_iload hx hb dL_leavingIn_257 (lv_at hl 1 rfl) ?_
                  refine lv_if_ne (tgt := 266) hx hb dL_leavingIn_259 (by decide) (fun _ => ?_) (fun c => absurd c c64)
                  refine lv_iconst (v := nI 0) hx hb dL_leavingIn_266 (by decide) ?_
                  refine lv_iadd hx hb dL_leavingIn_267 ?_
                  refine lv_istore (lv' := [(6, .int (x6_149 + (nI 0))), (9, .int (bI (f_L_isIn (fw g) k149))), (8, .int (f_L_below k149 10 g fc)), (0, .ref (ad 0)), (1, .int (nI 10)), (2, .int (nI g)), (3, .int (nI o)), (4, .int (fw g)), (5, .int x5_47), (7, .int (nI k149))]) hx hb dL_leavingIn_268 hl (by decide) rfl (fun ls hl => ?_)
                  refine lv_iinc (v := nI (k149 + 1)) (lv' := [(7, .int (nI (k149 + 1))), (6, .int (x6_149 + (nI 0))), (9, .int (bI (f_L_isIn (fw g) k149))), (8, .int (f_L_below k149 10 g fc)), (0, .ref (ad 0)), (1, .int (nI 10)), (2, .int (nI g)), (3, .int (nI o)), (4, .int (fw g)), (5, .int x5_47)]) hx hb dL_leavingIn_270 hl (k := 9) rfl (nI_add _ _) (by decide) rfl (fun ls hl => ?_)
                  refine lv_goto (tgt := 149) hx hb dL_leavingIn_273 (by decide) ?_
                  exact ih149 (k149 + 1) (x6_149 + (nI 0)) (by omega) hf _ _ hP hD hS _ (lv_sub hl [4, 5, 6, 7, 8, 9, 1, 0] rfl)
                · have hf := hf.trans (if_neg c66)
                  refine lv_iconst (v := -1) hx hb dL_leavingIn_238 (by decide) ?_
                  exact eI B hP hS ((congrArg (fun (u : Int32) => u) hf).symm) rfl dL_leavingIn_239
            · have hf := hf.trans (if_pos c57)
              refine lv_aload_n hx hb dL_leavingIn_203 rfl (lv_at hl 2 rfl) ?_
              refine lv_iload hx hb dL_leavingIn_204 (lv_at hl 9 rfl) ?_
              refine lv_iload_n hx hb dL_leavingIn_206 rfl (lv_at hl 5 rfl) ?_
              refine fV_i (ci := 5) (as := [.int (nI k149), .int (nI o)]) (rest := []) B hl.1 (c_X5_distance l D cI cZ ad rc rl rh fr fw fc fg ps pg pr pd qp qt qf qo ct lE lC cand lim now was sent qfi qsz k149 o (by omega) (by omega)) rfl (l_RL_16 hts ⟨rfl, rfl⟩ ⟨Nat.le_of_ble_eq_true rfl, Nat.le_of_ble_eq_true rfl⟩) m_14_5 m_14_6 rfl rfl hP hD hS hA 0 rfl wfC (Nat.le_of_ble_eq_true rfl) dL_leavingIn_207 (fun H locs hP hD hS => ?_)
              refine lv_if_lt (tgt := 223) hx hb dL_leavingIn_210 (by decide) (fun c58 => ?_) (fun c58 => ?_)
              · have hf := hf.trans (if_pos c58)
                refine lv_iload hx hb dL_leavingIn_223 (lv_at hl 1 rfl) ?_
                refine lv_if_eq (tgt := 240) hx hb dL_leavingIn_225 (by decide) (fun c59 => ?_) (fun c59 => ?_)
                · have hf := hf.trans (if_pos c59)
                  refine lv_iload hx hb dL_leavingIn_240 (lv_at hl 8 rfl) ?_
                  refine lv_iload hx hb dL_leavingIn_242 (lv_at hl 7 rfl) ?_
                  refine lv_iload hx hb dL_leavingIn_244 (lv_at hl 9 rfl) ?_
                  refine fS_i (as := [.int x5_47, .int (nI k149)]) (rest := [.int x6_149]) B hl.1 (c_L_isIn l D cI cZ (wC cI ad rc rl rh fr fw fc fg ps pg pr pd qp qt qf qo ct lE lC cand lim now was (nI sent) (nI qfi) (nI qsz)) x5_47 k149 (by omega)) (l_RL_28 hts ⟨rfl, rfl⟩ ⟨Nat.le_of_ble_eq_true rfl, Nat.le_of_ble_eq_true rfl⟩) m_8_12 rfl rfl hP hD hS hA rfl (Nat.le_of_ble_eq_true rfl) dL_leavingIn_246 (fun H locs hP hD hS => ?_)
                  have K249 : ∀ v249 : Bool, j_L_leavingIn_r_249 x5_47 k149 = v249 → ∀ (H : Heap) (locs : List Loc), va_P D vwCl (wC cI ad rc rl rh fr fw fc fg ps pg pr pd qp qt qf qo ct lE lC cand lim now was (nI sent) (nI qfi) (nI qsz)) H → va_D A (wC cI ad rc rl rh fr fw fc fg ps pg pr pd qp qt qf qo ct lE lC cand lim now was (nI sent) (nI qfi) (nI qsz)) → va_S A s.heap H locs → ∀ ls : Array Slot, lv_has ls 10 [(9, .int (bI (f_L_isIn (fw g) k149))), (8, .int (f_L_below k149 10 g fc)), (0, .ref (ad 0)), (1, .int (nI 10)), (2, .int (nI g)), (3, .int (nI o)), (4, .int (fw g)), (5, .int x5_47), (6, .int x6_149), (7, .int (nI k149))] → W p l e { frames := 4, cells := 0, slots := 0, locals := 90 } s m [.ref (ad 0), .int (nI 10), .int (nI g)].toArray below meth c H locs 0 0 (QI below s A D [.ref (ad 0), .int (nI 10), .int (nI g)] (wC cI ad rc rl rh fr fw fc fg ps pg pr pd qp qt qf qo ct lE lC cand lim now was (nI sent) (nI qfi) (nI qsz)) (f_L_leavingIn_r g o rl rh fw fc)) (F0 m 267 ls [.int (bI v249), .int x6_149]) := by
                    intro v249 hv249 H locs hP hD hS ls hl
                    subst hv249
                    refine lv_iadd hx hb dL_leavingIn_267 ?_
                    refine lv_istore (lv' := [(6, .int (x6_149 + (bI (j_L_leavingIn_r_249 x5_47 k149)))), (9, .int (bI (f_L_isIn (fw g) k149))), (8, .int (f_L_below k149 10 g fc)), (0, .ref (ad 0)), (1, .int (nI 10)), (2, .int (nI g)), (3, .int (nI o)), (4, .int (fw g)), (5, .int x5_47), (7, .int (nI k149))]) hx hb dL_leavingIn_268 hl (by decide) rfl (fun ls hl => ?_)
                    refine lv_iinc (v := nI (k149 + 1)) (lv' := [(7, .int (nI (k149 + 1))), (6, .int (x6_149 + (bI (j_L_leavingIn_r_249 x5_47 k149)))), (9, .int (bI (f_L_isIn (fw g) k149))), (8, .int (f_L_below k149 10 g fc)), (0, .ref (ad 0)), (1, .int (nI 10)), (2, .int (nI g)), (3, .int (nI o)), (4, .int (fw g)), (5, .int x5_47)]) hx hb dL_leavingIn_270 hl (k := 9) rfl (nI_add _ _) (by decide) rfl (fun ls hl => ?_)
                    refine lv_goto (tgt := 149) hx hb dL_leavingIn_273 (by decide) ?_
                    exact ih149 (k149 + 1) (x6_149 + (bI (j_L_leavingIn_r_249 x5_47 k149))) (by omega) hf _ _ hP hD hS _ (lv_sub hl [4, 5, 6, 7, 8, 9, 1, 0] rfl)
                  have hj249 := j_L_leavingIn_r_249.eq_1 x5_47 k149
                  refine r_if_eq_b (tgt := 266) hx hb dL_leavingIn_249 (by decide) (fun c60 => ?_) (fun c60 => ?_)
                  · have hj249 := hj249.trans (if_neg c60)
                    refine lv_iconst (v := nI 0) hx hb dL_leavingIn_266 (by decide) ?_
                    exact K249 _ hj249 _ _ hP hD hS _ hl
                  · have hj249 := hj249.trans (if_pos c60)
                    refine lv_iload hx hb dL_leavingIn_252 (lv_at hl 0 rfl) ?_
                    refine r_if_ne_b (tgt := 266) hx hb dL_leavingIn_254 (by decide) (fun _ => ?_) (fun c => absurd c57 c)
                    refine lv_iconst (v := nI 0) hx hb dL_leavingIn_266 (by decide) ?_
                    exact K249 _ hj249 _ _ hP hD hS _ hl
                · have hf := hf.trans (if_neg c59)
                  refine lv_iload hx hb dL_leavingIn_228 (lv_at hl 7 rfl) ?_
                  refine lv_iload hx hb dL_leavingIn_230 (lv_at hl 9 rfl) ?_
                  refine fS_i (as := [.int x5_47, .int (nI k149)]) (rest := []) B hl.1 (c_L_isIn l D cI cZ (wC cI ad rc rl rh fr fw fc fg ps pg pr pd qp qt qf qo ct lE lC cand lim now was (nI sent) (nI qfi) (nI qsz)) x5_47 k149 (by omega)) (l_RL_28 hts ⟨rfl, rfl⟩ ⟨Nat.le_of_ble_eq_true rfl, Nat.le_of_ble_eq_true rfl⟩) m_8_12 rfl rfl hP hD hS hA rfl (Nat.le_of_ble_eq_true rfl) dL_leavingIn_232 (fun H locs hP hD hS => ?_)
                  refine r_if_ne_b (tgt := 240) hx hb dL_leavingIn_235 (by decide) (fun c61 => ?_) (fun c61 => ?_)
                  · have hf := hf.trans (if_pos c61)
                    refine lv_iload hx hb dL_leavingIn_240 (lv_at hl 8 rfl) ?_
                    refine lv_iload hx hb dL_leavingIn_242 (lv_at hl 7 rfl) ?_
                    refine lv_iload hx hb dL_leavingIn_244 (lv_at hl 9 rfl) ?_
                    refine fS_i (as := [.int x5_47, .int (nI k149)]) (rest := [.int x6_149]) B hl.1 (c_L_isIn l D cI cZ (wC cI ad rc rl rh fr fw fc fg ps pg pr pd qp qt qf qo ct lE lC cand lim now was (nI sent) (nI qfi) (nI qsz)) x5_47 k149 (by omega)) (l_RL_28 hts ⟨rfl, rfl⟩ ⟨Nat.le_of_ble_eq_true rfl, Nat.le_of_ble_eq_true rfl⟩) m_8_12 rfl rfl hP hD hS hA rfl (Nat.le_of_ble_eq_true rfl) dL_leavingIn_246 (fun H locs hP hD hS => ?_)
                    refine r_if_eq_b (tgt := 266) hx hb dL_leavingIn_249 (by decide) (fun c => absurd c61 c) (fun _ => ?_)
                    refine lv_iload hx hb dL_leavingIn_252 (lv_at hl 0 rfl) ?_
                    refine r_if_ne_b (tgt := 266) hx hb dL_leavingIn_254 (by decide) (fun _ => ?_) (fun c => absurd c57 c)
                    refine lv_iconst (v := nI 0) hx hb dL_leavingIn_266 (by decide) ?_
                    refine lv_iadd hx hb dL_leavingIn_267 ?_
                    refine lv_istore (lv' := [(6, .int (x6_149 + (nI 0))), (9, .int (bI (f_L_isIn (fw g) k149))), (8, .int (f_L_below k149 10 g fc)), (0, .ref (ad 0)), (1, .int (nI 10)), (2, .int (nI g)), (3, .int (nI o)), (4, .int (fw g)), (5, .int x5_47), (7, .int (nI k149))]) hx hb dL_leavingIn_268 hl (by decide) rfl (fun ls hl => ?_)
                    refine lv_iinc (v := nI (k149 + 1)) (lv' := [(7, .int (nI (k149 + 1))), (6, .int (x6_149 + (nI 0))), (9, .int (bI (f_L_isIn (fw g) k149))), (8, .int (f_L_below k149 10 g fc)), (0, .ref (ad 0)), (1, .int (nI 10)), (2, .int (nI g)), (3, .int (nI o)), (4, .int (fw g)), (5, .int x5_47)]) hx hb dL_leavingIn_270 hl (k := 9) rfl (nI_add _ _) (by decide) rfl (fun ls hl => ?_)
                    refine lv_goto (tgt := 149) hx hb dL_leavingIn_273 (by decide) ?_
                    exact ih149 (k149 + 1) (x6_149 + (nI 0)) (by omega) hf _ _ hP hD hS _ (lv_sub hl [4, 5, 6, 7, 8, 9, 1, 0] rfl)
                  · have hf := hf.trans (if_neg c61)
                    refine lv_iconst (v := -1) hx hb dL_leavingIn_238 (by decide) ?_
                    exact eI B hP hS ((congrArg (fun (u : Int32) => u) hf).symm) rfl dL_leavingIn_239
              · have hf := hf.trans (if_neg c58)
                refine lv_iload hx hb dL_leavingIn_213 (lv_at hl 7 rfl) ?_
                refine lv_iload hx hb dL_leavingIn_215 (lv_at hl 9 rfl) ?_
                refine fS_i (as := [.int x5_47, .int (nI k149)]) (rest := []) B hl.1 (c_L_isIn l D cI cZ (wC cI ad rc rl rh fr fw fc fg ps pg pr pd qp qt qf qo ct lE lC cand lim now was (nI sent) (nI qfi) (nI qsz)) x5_47 k149 (by omega)) (l_RL_28 hts ⟨rfl, rfl⟩ ⟨Nat.le_of_ble_eq_true rfl, Nat.le_of_ble_eq_true rfl⟩) m_8_12 rfl rfl hP hD hS hA rfl (Nat.le_of_ble_eq_true rfl) dL_leavingIn_217 (fun H locs hP hD hS => ?_)
                refine r_if_eq_b (tgt := 238) hx hb dL_leavingIn_220 (by decide) (fun c62 => ?_) (fun c62 => ?_)
                · have hf := hf.trans (if_neg c62)
                  refine lv_iconst (v := -1) hx hb dL_leavingIn_238 (by decide) ?_
                  exact eI B hP hS ((congrArg (fun (u : Int32) => u) hf).symm) rfl dL_leavingIn_239
                · have hf := hf.trans (if_pos c62)
                  refine lv_iload hx hb dL_leavingIn_223 (lv_at hl 1 rfl) ?_
                  refine lv_if_eq (tgt := 240) hx hb dL_leavingIn_225 (by decide) (fun c63 => ?_) (fun c63 => ?_)
                  · have hf := hf.trans (if_pos c63)
                    refine lv_iload hx hb dL_leavingIn_240 (lv_at hl 8 rfl) ?_
                    refine lv_iload hx hb dL_leavingIn_242 (lv_at hl 7 rfl) ?_
                    refine lv_iload hx hb dL_leavingIn_244 (lv_at hl 9 rfl) ?_
                    refine fS_i (as := [.int x5_47, .int (nI k149)]) (rest := [.int x6_149]) B hl.1 (c_L_isIn l D cI cZ (wC cI ad rc rl rh fr fw fc fg ps pg pr pd qp qt qf qo ct lE lC cand lim now was (nI sent) (nI qfi) (nI qsz)) x5_47 k149 (by omega)) (l_RL_28 hts ⟨rfl, rfl⟩ ⟨Nat.le_of_ble_eq_true rfl, Nat.le_of_ble_eq_true rfl⟩) m_8_12 rfl rfl hP hD hS hA rfl (Nat.le_of_ble_eq_true rfl) dL_leavingIn_246 (fun H locs hP hD hS => ?_)
                    refine r_if_eq_b (tgt := 266) hx hb dL_leavingIn_249 (by decide) (fun c => absurd c62 c) (fun _ => ?_)
                    refine lv_iload hx hb dL_leavingIn_252 (lv_at hl 0 rfl) ?_
                    refine r_if_ne_b (tgt := 266) hx hb dL_leavingIn_254 (by decide) (fun _ => ?_) (fun c => absurd c57 c)
                    refine lv_iconst (v := nI 0) hx hb dL_leavingIn_266 (by decide) ?_
                    refine lv_iadd hx hb dL_leavingIn_267 ?_
                    refine lv_istore (lv' := [(6, .int (x6_149 + (nI 0))), (9, .int (bI (f_L_isIn (fw g) k149))), (8, .int (f_L_below k149 10 g fc)), (0, .ref (ad 0)), (1, .int (nI 10)), (2, .int (nI g)), (3, .int (nI o)), (4, .int (fw g)), (5, .int x5_47), (7, .int (nI k149))]) hx hb dL_leavingIn_268 hl (by decide) rfl (fun ls hl => ?_)
                    refine lv_iinc (v := nI (k149 + 1)) (lv' := [(7, .int (nI (k149 + 1))), (6, .int (x6_149 + (nI 0))), (9, .int (bI (f_L_isIn (fw g) k149))), (8, .int (f_L_below k149 10 g fc)), (0, .ref (ad 0)), (1, .int (nI 10)), (2, .int (nI g)), (3, .int (nI o)), (4, .int (fw g)), (5, .int x5_47)]) hx hb dL_leavingIn_270 hl (k := 9) rfl (nI_add _ _) (by decide) rfl (fun ls hl => ?_)
                    refine lv_goto (tgt := 149) hx hb dL_leavingIn_273 (by decide) ?_
                    exact ih149 (k149 + 1) (x6_149 + (nI 0)) (by omega) hf _ _ hP hD hS _ (lv_sub hl [4, 5, 6, 7, 8, 9, 1, 0] rfl)
                  · have hf := hf.trans (if_neg c63)
                    refine lv_iload hx hb dL_leavingIn_228 (lv_at hl 7 rfl) ?_
                    refine lv_iload hx hb dL_leavingIn_230 (lv_at hl 9 rfl) ?_
                    refine fS_i (as := [.int x5_47, .int (nI k149)]) (rest := []) B hl.1 (c_L_isIn l D cI cZ (wC cI ad rc rl rh fr fw fc fg ps pg pr pd qp qt qf qo ct lE lC cand lim now was (nI sent) (nI qfi) (nI qsz)) x5_47 k149 (by omega)) (l_RL_28 hts ⟨rfl, rfl⟩ ⟨Nat.le_of_ble_eq_true rfl, Nat.le_of_ble_eq_true rfl⟩) m_8_12 rfl rfl hP hD hS hA rfl (Nat.le_of_ble_eq_true rfl) dL_leavingIn_232 (fun H locs hP hD hS => ?_)
                    refine r_if_ne_b (tgt := 240) hx hb dL_leavingIn_235 (by decide) (fun _ => ?_) (fun c => absurd c62 c)
                    refine lv_iload hx hb dL_leavingIn_240 (lv_at hl 8 rfl) ?_
                    refine lv_iload hx hb dL_leavingIn_242 (lv_at hl 7 rfl) ?_
                    refine lv_iload hx hb dL_leavingIn_244 (lv_at hl 9 rfl) ?_
                    refine fS_i (as := [.int x5_47, .int (nI k149)]) (rest := [.int x6_149]) B hl.1 (c_L_isIn l D cI cZ (wC cI ad rc rl rh fr fw fc fg ps pg pr pd qp qt qf qo ct lE lC cand lim now was (nI sent) (nI qfi) (nI qsz)) x5_47 k149 (by omega)) (l_RL_28 hts ⟨rfl, rfl⟩ ⟨Nat.le_of_ble_eq_true rfl, Nat.le_of_ble_eq_true rfl⟩) m_8_12 rfl rfl hP hD hS hA rfl (Nat.le_of_ble_eq_true rfl) dL_leavingIn_246 (fun H locs hP hD hS => ?_)
                    refine r_if_eq_b (tgt := 266) hx hb dL_leavingIn_249 (by decide) (fun c => absurd c62 c) (fun _ => ?_)
                    refine lv_iload hx hb dL_leavingIn_252 (lv_at hl 0 rfl) ?_
                    refine r_if_ne_b (tgt := 266) hx hb dL_leavingIn_254 (by decide) (fun _ => ?_) (fun c => absurd c57 c)
                    refine lv_iconst (v := nI 0) hx hb dL_leavingIn_266 (by decide) ?_
                    refine lv_iadd hx hb dL_leavingIn_267 ?_
                    refine lv_istore (lv' := [(6, .int (x6_149 + (nI 0))), (9, .int (bI (f_L_isIn (fw g) k149))), (8, .int (f_L_below k149 10 g fc)), (0, .ref (ad 0)), (1, .int (nI 10)), (2, .int (nI g)), (3, .int (nI o)), (4, .int (fw g)), (5, .int x5_47), (7, .int (nI k149))]) hx hb dL_leavingIn_268 hl (by decide) rfl (fun ls hl => ?_)
                    refine lv_iinc (v := nI (k149 + 1)) (lv' := [(7, .int (nI (k149 + 1))), (6, .int (x6_149 + (nI 0))), (9, .int (bI (f_L_isIn (fw g) k149))), (8, .int (f_L_below k149 10 g fc)), (0, .ref (ad 0)), (1, .int (nI 10)), (2, .int (nI g)), (3, .int (nI o)), (4, .int (fw g)), (5, .int x5_47)]) hx hb dL_leavingIn_270 hl (k := 9) rfl (nI_add _ _) (by decide) rfl (fun ls hl => ?_)
                    refine lv_goto (tgt := 149) hx hb dL_leavingIn_273 (by decide) ?_
                    exact ih149 (k149 + 1) (x6_149 + (nI 0)) (by omega) hf _ _ hP hD hS _ (lv_sub hl [4, 5, 6, 7, 8, 9, 1, 0] rfl)
          · have hf := hf.trans (if_pos c55)
            refine lv_iload hx hb dL_leavingIn_185 (lv_at hl 7 rfl) ?_
            refine lv_iload hx hb dL_leavingIn_187 (lv_at hl 9 rfl) ?_
            refine fS_i (as := [.int x5_47, .int (nI k149)]) (rest := []) B hl.1 (c_L_isIn l D cI cZ (wC cI ad rc rl rh fr fw fc fg ps pg pr pd qp qt qf qo ct lE lC cand lim now was (nI sent) (nI qfi) (nI qsz)) x5_47 k149 (by omega)) (l_RL_28 hts ⟨rfl, rfl⟩ ⟨Nat.le_of_ble_eq_true rfl, Nat.le_of_ble_eq_true rfl⟩) m_8_12 rfl rfl hP hD hS hA rfl (Nat.le_of_ble_eq_true rfl) dL_leavingIn_189 (fun H locs hP hD hS => ?_)
            refine r_if_eq_b (tgt := 240) hx hb dL_leavingIn_192 (by decide) (fun c56 => ?_) (fun c56 => ?_)
            · have hf := hf.trans (if_neg c56)
              refine lv_iload hx hb dL_leavingIn_240 (lv_at hl 8 rfl) ?_
              refine lv_iload hx hb dL_leavingIn_242 (lv_at hl 7 rfl) ?_
              refine lv_iload hx hb dL_leavingIn_244 (lv_at hl 9 rfl) ?_
              refine fS_i (as := [.int x5_47, .int (nI k149)]) (rest := [.int x6_149]) B hl.1 (c_L_isIn l D cI cZ (wC cI ad rc rl rh fr fw fc fg ps pg pr pd qp qt qf qo ct lE lC cand lim now was (nI sent) (nI qfi) (nI qsz)) x5_47 k149 (by omega)) (l_RL_28 hts ⟨rfl, rfl⟩ ⟨Nat.le_of_ble_eq_true rfl, Nat.le_of_ble_eq_true rfl⟩) m_8_12 rfl rfl hP hD hS hA rfl (Nat.le_of_ble_eq_true rfl) dL_leavingIn_246 (fun H locs hP hD hS => ?_)
              refine r_if_eq_b (tgt := 266) hx hb dL_leavingIn_249 (by decide) (fun _ => ?_) (fun c => absurd c c56)
              refine lv_iconst (v := nI 0) hx hb dL_leavingIn_266 (by decide) ?_
              refine lv_iadd hx hb dL_leavingIn_267 ?_
              refine lv_istore (lv' := [(6, .int (x6_149 + (nI 0))), (9, .int (bI (f_L_isIn (fw g) k149))), (8, .int (f_L_below k149 10 g fc)), (0, .ref (ad 0)), (1, .int (nI 10)), (2, .int (nI g)), (3, .int (nI o)), (4, .int (fw g)), (5, .int x5_47), (7, .int (nI k149))]) hx hb dL_leavingIn_268 hl (by decide) rfl (fun ls hl => ?_)
              refine lv_iinc (v := nI (k149 + 1)) (lv' := [(7, .int (nI (k149 + 1))), (6, .int (x6_149 + (nI 0))), (9, .int (bI (f_L_isIn (fw g) k149))), (8, .int (f_L_below k149 10 g fc)), (0, .ref (ad 0)), (1, .int (nI 10)), (2, .int (nI g)), (3, .int (nI o)), (4, .int (fw g)), (5, .int x5_47)]) hx hb dL_leavingIn_270 hl (k := 9) rfl (nI_add _ _) (by decide) rfl (fun ls hl => ?_)
              refine lv_goto (tgt := 149) hx hb dL_leavingIn_273 (by decide) ?_
              exact ih149 (k149 + 1) (x6_149 + (nI 0)) (by omega) hf _ _ hP hD hS _ (lv_sub hl [4, 5, 6, 7, 8, 9, 1, 0] rfl)
            · have hf := hf.trans (if_pos c56)
              refine lv_goto (tgt := 238) hx hb dL_leavingIn_195 (by decide) ?_
              refine lv_iconst (v := -1) hx hb dL_leavingIn_238 (by decide) ?_
              exact eI B hP hS ((congrArg (fun (u : Int32) => u) hf).symm) rfl dL_leavingIn_239
      exact L149 10 0 (nI 0) (by omega) hf _ _ hP hD hS _ (lv_sub hl [1, 2, 3, 4, 5, 6, 7, 0] rfl)
    | succ n47 ih47 =>
      intro k47 x5_47 hk47 hf H locs hP hD hS ls hl
      rw [f_L_leavingIn_r_L47] at hf
      have hl : lv_has ls 10 [(0, .ref (ad 0)), (1, .int (nI 10)), (2, .int (nI g)), (3, .int (nI o)), (4, .int (fw g)), (5, .int x5_47), (6, .int (nI 0)), (7, .int (nI k47))] := hl
      refine lv_iload hx hb dL_leavingIn_47 (lv_at hl 7 rfl) ?_
      refine lv_bipush (v := nI 10) hx hb dL_leavingIn_49 (by decide) ?_
      refine r_icmp_ge (tgt := 146) hx hb (by omega) (by omega) dL_leavingIn_51 (by decide) (fun c => absurd c (by omega)) (fun _ => ?_)
      refine lv_aload_n hx hb dL_leavingIn_54 rfl (lv_at hl 0 rfl) ?_
      refine lv_iload hx hb dL_leavingIn_55 (lv_at hl 7 rfl) ?_
      refine lv_iload_n hx hb dL_leavingIn_57 rfl (lv_at hl 1 rfl) ?_
      refine lv_iload_n hx hb dL_leavingIn_58 rfl (lv_at hl 2 rfl) ?_
      refine fS_i (as := [.ref (ad 0), .int (nI k47), .int (nI 10), .int (nI g)]) (rest := []) B hl.1 (c_L_below l D cI cZ ad rc rl rh fr fw fc fg ps pg pr pd qp qt qf qo ct lE lC cand lim now was sent qfi qsz k47 10 g (by omega) (by omega) (by omega)) (l_RL_49 hts ⟨rfl, rfl⟩ ⟨Nat.le_of_ble_eq_true rfl, Nat.le_of_ble_eq_true rfl⟩) m_21_5 rfl rfl hP hD hS hA wfC (Nat.le_of_ble_eq_true rfl) dL_leavingIn_59 (fun H locs hP hD hS => ?_)
      refine lv_istore (lv' := [(8, .int (f_L_below k47 10 g fc)), (0, .ref (ad 0)), (1, .int (nI 10)), (2, .int (nI g)), (3, .int (nI o)), (4, .int (fw g)), (5, .int x5_47), (6, .int (nI 0)), (7, .int (nI k47))]) hx hb dL_leavingIn_62 hl (by decide) rfl (fun ls hl => ?_)
      refine lv_iload hx hb dL_leavingIn_64 (lv_at hl 0 rfl) ?_
      refine lv_iload hx hb dL_leavingIn_66 (lv_at hl 6 rfl) ?_
      refine lv_iand hx hb dL_leavingIn_68 ?_
      refine lv_if_ne (tgt := 91) hx hb dL_leavingIn_69 (by decide) (fun c67 => ?_) (fun c67 => ?_)
      · have hf := hf.trans (if_neg c67)
        refine lv_iconst (v := -1) hx hb dL_leavingIn_91 (by decide) ?_
        exact eI B hP hS ((congrArg (fun (u : Int32) => u) hf).symm) rfl dL_leavingIn_92
      · have hf := hf.trans (if_pos c67)
        refine lv_iload hx hb dL_leavingIn_72 (lv_at hl 0 rfl) ?_
        refine lv_iload hx hb dL_leavingIn_74 (lv_at hl 8 rfl) ?_
        refine fS_i (as := [.int (f_L_below k47 10 g fc), .int (nI k47)]) (rest := []) B hl.1 (c_L_isIn l D cI cZ (wC cI ad rc rl rh fr fw fc fg ps pg pr pd qp qt qf qo ct lE lC cand lim now was (nI sent) (nI qfi) (nI qsz)) (f_L_below k47 10 g fc) k47 (by omega)) (l_RL_28 hts ⟨rfl, rfl⟩ ⟨Nat.le_of_ble_eq_true rfl, Nat.le_of_ble_eq_true rfl⟩) m_8_12 rfl rfl hP hD hS hA rfl (Nat.le_of_ble_eq_true rfl) dL_leavingIn_76 (fun H locs hP hD hS => ?_)
        refine r_if_ne_b (tgt := 91) hx hb dL_leavingIn_79 (by decide) (fun c68 => ?_) (fun c68 => ?_)
        · have hf := hf.trans (if_pos c68)
          refine lv_iconst (v := -1) hx hb dL_leavingIn_91 (by decide) ?_
          exact eI B hP hS ((congrArg (fun (u : Int32) => u) hf).symm) rfl dL_leavingIn_92
        · have hf := hf.trans (if_neg c68)
          refine lv_iload_n hx hb dL_leavingIn_82 rfl (lv_at hl 4 rfl) ?_
          refine lv_if_ge (tgt := 93) hx hb dL_leavingIn_83 (by decide) (fun c69 => ?_) (fun c69 => ?_)
          · have hf := hf.trans (if_pos c69)
            refine lv_iload hx hb dL_leavingIn_93 (lv_at hl 6 rfl) ?_
            refine lv_iload hx hb dL_leavingIn_95 (lv_at hl 0 rfl) ?_
            refine lv_ior hx hb dL_leavingIn_97 ?_
            refine lv_istore (lv' := [(5, .int (x5_47 ||| (f_L_below k47 10 g fc))), (8, .int (f_L_below k47 10 g fc)), (0, .ref (ad 0)), (1, .int (nI 10)), (2, .int (nI g)), (3, .int (nI o)), (4, .int (fw g)), (6, .int (nI 0)), (7, .int (nI k47))]) hx hb dL_leavingIn_98 hl (by decide) rfl (fun ls hl => ?_)
            refine lv_iconst (v := nI 0) hx hb dL_leavingIn_100 (by decide) ?_
            refine lv_istore (lv' := [(9, .int (nI 0)), (5, .int (x5_47 ||| (f_L_below k47 10 g fc))), (8, .int (f_L_below k47 10 g fc)), (0, .ref (ad 0)), (1, .int (nI 10)), (2, .int (nI g)), (3, .int (nI o)), (4, .int (fw g)), (6, .int (nI 0)), (7, .int (nI k47))]) hx hb dL_leavingIn_101 hl (by decide) rfl (fun ls hl => ?_)
            have L103 : ∀ (n103 : Nat) (k103 : Nat), k103 + n103 = 10 → f_L_leavingIn_r g o rl rh fw fc = (if (f_L_leavingIn_r_L103 g o rh fc k47 n103 k103) = true then -1 else f_L_leavingIn_r_L47 g o rl rh fw fc n47 (k47 + 1) (x5_47 ||| (f_L_below k47 10 g fc))) → ∀ (H : Heap) (locs : List Loc), va_P D vwCl (wC cI ad rc rl rh fr fw fc fg ps pg pr pd qp qt qf qo ct lE lC cand lim now was (nI sent) (nI qfi) (nI qsz)) H → va_D A (wC cI ad rc rl rh fr fw fc fg ps pg pr pd qp qt qf qo ct lE lC cand lim now was (nI sent) (nI qfi) (nI qsz)) → va_S A s.heap H locs → ∀ ls : Array Slot, lv_has ls 10 [(0, .ref (ad 0)), (1, .int (nI 10)), (2, .int (nI g)), (3, .int (nI o)), (4, .int (fw g)), (5, .int (x5_47 ||| (f_L_below k47 10 g fc))), (6, .int (nI 0)), (7, .int (nI k47)), (8, .int (f_L_below k47 10 g fc)), (9, .int (nI k103))] → W p l e { frames := 4, cells := 0, slots := 0, locals := 90 } s m [.ref (ad 0), .int (nI 10), .int (nI g)].toArray below meth c H locs 0 0 (QI below s A D [.ref (ad 0), .int (nI 10), .int (nI g)] (wC cI ad rc rl rh fr fw fc fg ps pg pr pd qp qt qf qo ct lE lC cand lim now was (nI sent) (nI qfi) (nI qsz)) (f_L_leavingIn_r g o rl rh fw fc)) (F0 m 103 ls []) := by
              intro n103
              induction n103 with
              | zero =>
                intro k103 hk103 hf H locs hP hD hS ls hl
                obtain rfl : 10 = k103 := by omega
                rw [f_L_leavingIn_r_L103] at hf
                (try dsimp only at hf)
                rw [if_neg Bool.false_ne_true] at hf
                have hl : lv_has ls 10 [(0, .ref (ad 0)), (1, .int (nI 10)), (2, .int (nI g)), (3, .int (nI o)), (4, .int (fw g)), (5, .int (x5_47 ||| (f_L_below k47 10 g fc))), (6, .int (nI 0)), (7, .int (nI k47)), (8, .int (f_L_below k47 10 g fc)), (9, .int (nI 10))] := hl
                refine lv_iload hx hb dL_leavingIn_103 (lv_at hl 9 rfl) ?_
                refine lv_bipush (v := nI 10) hx hb dL_leavingIn_105 (by decide) ?_
                refine r_icmp_ge (tgt := 140) hx hb (by omega) (by omega) dL_leavingIn_107 (by decide) (fun _ => ?_) (fun c => absurd c (by omega))
                refine lv_iinc (v := nI (k47 + 1)) (lv' := [(7, .int (nI (k47 + 1))), (0, .ref (ad 0)), (1, .int (nI 10)), (2, .int (nI g)), (3, .int (nI o)), (4, .int (fw g)), (5, .int (x5_47 ||| (f_L_below k47 10 g fc))), (6, .int (nI 0)), (8, .int (f_L_below k47 10 g fc)), (9, .int (nI 10))]) hx hb dL_leavingIn_140 hl (k := 7) rfl (nI_add _ _) (by decide) rfl (fun ls hl => ?_)
                refine lv_goto (tgt := 47) hx hb dL_leavingIn_143 (by decide) ?_
                exact ih47 (k47 + 1) (x5_47 ||| (f_L_below k47 10 g fc)) (by omega) hf _ _ hP hD hS _ (lv_sub hl [1, 2, 3, 4, 5, 6, 7, 0] rfl)
              | succ n103 ih103 =>
                intro k103 hk103 hf H locs hP hD hS ls hl
                rw [f_L_leavingIn_r_L103] at hf
                have hl : lv_has ls 10 [(0, .ref (ad 0)), (1, .int (nI 10)), (2, .int (nI g)), (3, .int (nI o)), (4, .int (fw g)), (5, .int (x5_47 ||| (f_L_below k47 10 g fc))), (6, .int (nI 0)), (7, .int (nI k47)), (8, .int (f_L_below k47 10 g fc)), (9, .int (nI k103))] := hl
                refine lv_iload hx hb dL_leavingIn_103 (lv_at hl 9 rfl) ?_
                refine lv_bipush (v := nI 10) hx hb dL_leavingIn_105 (by decide) ?_
                refine r_icmp_ge (tgt := 140) hx hb (by omega) (by omega) dL_leavingIn_107 (by decide) (fun c => absurd c (by omega)) (fun _ => ?_)
                refine lv_iload hx hb dL_leavingIn_110 (lv_at hl 8 rfl) ?_
                refine lv_iload hx hb dL_leavingIn_112 (lv_at hl 9 rfl) ?_
                refine fS_i (as := [.int (f_L_below k47 10 g fc), .int (nI k103)]) (rest := []) B hl.1 (c_L_isIn l D cI cZ (wC cI ad rc rl rh fr fw fc fg ps pg pr pd qp qt qf qo ct lE lC cand lim now was (nI sent) (nI qfi) (nI qsz)) (f_L_below k47 10 g fc) k103 (by omega)) (l_RL_28 hts ⟨rfl, rfl⟩ ⟨Nat.le_of_ble_eq_true rfl, Nat.le_of_ble_eq_true rfl⟩) m_8_12 rfl rfl hP hD hS hA rfl (Nat.le_of_ble_eq_true rfl) dL_leavingIn_114 (fun H locs hP hD hS => ?_)
                refine r_if_eq_b (tgt := 134) hx hb dL_leavingIn_117 (by decide) (fun c73 => ?_) (fun c73 => ?_)
                · rw [if_neg c73] at hf
                  refine lv_iinc (v := nI (k103 + 1)) (lv' := [(9, .int (nI (k103 + 1))), (0, .ref (ad 0)), (1, .int (nI 10)), (2, .int (nI g)), (3, .int (nI o)), (4, .int (fw g)), (5, .int (x5_47 ||| (f_L_below k47 10 g fc))), (6, .int (nI 0)), (7, .int (nI k47)), (8, .int (f_L_below k47 10 g fc))]) hx hb dL_leavingIn_134 hl (k := 9) rfl (nI_add _ _) (by decide) rfl (fun ls hl => ?_)
                  refine lv_goto (tgt := 103) hx hb dL_leavingIn_137 (by decide) ?_
                  exact ih103 (k103 + 1) (by omega) hf _ _ hP hD hS _ (lv_sub hl [1, 2, 3, 4, 5, 6, 7, 8, 9, 0] rfl)
                · rw [if_pos c73] at hf
                  refine lv_aload_n hx hb dL_leavingIn_120 rfl (lv_at hl 0 rfl) ?_
                  refine lv_iload hx hb dL_leavingIn_121 (lv_at hl 9 rfl) ?_
                  refine lv_iload_n hx hb dL_leavingIn_123 rfl (lv_at hl 3 rfl) ?_
                  refine fV_i (ci := 5) (as := [.int (nI k103), .int (nI o)]) (rest := []) B hl.1 (c_X5_nextHop l D cI cZ ad rc rl rh fr fw fc fg ps pg pr pd qp qt qf qo ct lE lC cand lim now was sent qfi qsz k103 o (by omega) (by omega)) rfl (l_RL_21 hts ⟨rfl, rfl⟩ ⟨Nat.le_of_ble_eq_true rfl, Nat.le_of_ble_eq_true rfl⟩) m_20_12 m_20_13 rfl rfl hP hD hS hA 0 rfl wfC (Nat.le_of_ble_eq_true rfl) dL_leavingIn_124 (fun H locs hP hD hS => ?_)
                  refine lv_iload hx hb dL_leavingIn_127 (lv_at hl 7 rfl) ?_
                  refine lv_icmp_eq (tgt := 134) hx hb dL_leavingIn_129 (by decide) (fun c74 => ?_) (fun c74 => ?_)
                  · rw [if_pos c74] at hf
                    refine lv_iinc (v := nI (k103 + 1)) (lv' := [(9, .int (nI (k103 + 1))), (0, .ref (ad 0)), (1, .int (nI 10)), (2, .int (nI g)), (3, .int (nI o)), (4, .int (fw g)), (5, .int (x5_47 ||| (f_L_below k47 10 g fc))), (6, .int (nI 0)), (7, .int (nI k47)), (8, .int (f_L_below k47 10 g fc))]) hx hb dL_leavingIn_134 hl (k := 9) rfl (nI_add _ _) (by decide) rfl (fun ls hl => ?_)
                    refine lv_goto (tgt := 103) hx hb dL_leavingIn_137 (by decide) ?_
                    exact ih103 (k103 + 1) (by omega) hf _ _ hP hD hS _ (lv_sub hl [1, 2, 3, 4, 5, 6, 7, 8, 9, 0] rfl)
                  · rw [if_neg c74] at hf
                    (try dsimp only at hf)
                    rw [if_pos rfl] at hf
                    refine lv_iconst (v := -1) hx hb dL_leavingIn_132 (by decide) ?_
                    exact eI B hP hS ((congrArg (fun (u : Int32) => u) hf).symm) rfl dL_leavingIn_133
            exact L103 10 0 (by omega) hf _ _ hP hD hS _ (lv_sub hl [3, 4, 5, 6, 7, 1, 8, 9, 2, 0] rfl)
          · have hf := hf.trans (if_neg c69)
            refine lv_iload hx hb dL_leavingIn_86 (lv_at hl 0 rfl) ?_
            refine lv_if_eq (tgt := 93) hx hb dL_leavingIn_88 (by decide) (fun c75 => ?_) (fun c75 => ?_)
            · have hf := hf.trans (if_pos c75)
              refine lv_iload hx hb dL_leavingIn_93 (lv_at hl 6 rfl) ?_
              refine lv_iload hx hb dL_leavingIn_95 (lv_at hl 0 rfl) ?_
              refine lv_ior hx hb dL_leavingIn_97 ?_
              refine lv_istore (lv' := [(5, .int (x5_47 ||| (f_L_below k47 10 g fc))), (8, .int (f_L_below k47 10 g fc)), (0, .ref (ad 0)), (1, .int (nI 10)), (2, .int (nI g)), (3, .int (nI o)), (4, .int (fw g)), (6, .int (nI 0)), (7, .int (nI k47))]) hx hb dL_leavingIn_98 hl (by decide) rfl (fun ls hl => ?_)
              refine lv_iconst (v := nI 0) hx hb dL_leavingIn_100 (by decide) ?_
              refine lv_istore (lv' := [(9, .int (nI 0)), (5, .int (x5_47 ||| (f_L_below k47 10 g fc))), (8, .int (f_L_below k47 10 g fc)), (0, .ref (ad 0)), (1, .int (nI 10)), (2, .int (nI g)), (3, .int (nI o)), (4, .int (fw g)), (6, .int (nI 0)), (7, .int (nI k47))]) hx hb dL_leavingIn_101 hl (by decide) rfl (fun ls hl => ?_)
              have L103 : ∀ (n103 : Nat) (k103 : Nat), k103 + n103 = 10 → f_L_leavingIn_r g o rl rh fw fc = (if (f_L_leavingIn_r_L103 g o rh fc k47 n103 k103) = true then -1 else f_L_leavingIn_r_L47 g o rl rh fw fc n47 (k47 + 1) (x5_47 ||| (f_L_below k47 10 g fc))) → ∀ (H : Heap) (locs : List Loc), va_P D vwCl (wC cI ad rc rl rh fr fw fc fg ps pg pr pd qp qt qf qo ct lE lC cand lim now was (nI sent) (nI qfi) (nI qsz)) H → va_D A (wC cI ad rc rl rh fr fw fc fg ps pg pr pd qp qt qf qo ct lE lC cand lim now was (nI sent) (nI qfi) (nI qsz)) → va_S A s.heap H locs → ∀ ls : Array Slot, lv_has ls 10 [(0, .ref (ad 0)), (1, .int (nI 10)), (2, .int (nI g)), (3, .int (nI o)), (4, .int (fw g)), (5, .int (x5_47 ||| (f_L_below k47 10 g fc))), (6, .int (nI 0)), (7, .int (nI k47)), (8, .int (f_L_below k47 10 g fc)), (9, .int (nI k103))] → W p l e { frames := 4, cells := 0, slots := 0, locals := 90 } s m [.ref (ad 0), .int (nI 10), .int (nI g)].toArray below meth c H locs 0 0 (QI below s A D [.ref (ad 0), .int (nI 10), .int (nI g)] (wC cI ad rc rl rh fr fw fc fg ps pg pr pd qp qt qf qo ct lE lC cand lim now was (nI sent) (nI qfi) (nI qsz)) (f_L_leavingIn_r g o rl rh fw fc)) (F0 m 103 ls []) := by
                intro n103
                induction n103 with
                | zero =>
                  intro k103 hk103 hf H locs hP hD hS ls hl
                  obtain rfl : 10 = k103 := by omega
                  rw [f_L_leavingIn_r_L103] at hf
                  (try dsimp only at hf)
                  rw [if_neg Bool.false_ne_true] at hf
                  have hl : lv_has ls 10 [(0, .ref (ad 0)), (1, .int (nI 10)), (2, .int (nI g)), (3, .int (nI o)), (4, .int (fw g)), (5, .int (x5_47 ||| (f_L_below k47 10 g fc))), (6, .int (nI 0)), (7, .int (nI k47)), (8, .int (f_L_below k47 10 g fc)), (9, .int (nI 10))] := hl
                  refine lv_iload hx hb dL_leavingIn_103 (lv_at hl 9 rfl) ?_
                  refine lv_bipush (v := nI 10) hx hb dL_leavingIn_105 (by decide) ?_
                  refine r_icmp_ge (tgt := 140) hx hb (by omega) (by omega) dL_leavingIn_107 (by decide) (fun _ => ?_) (fun c => absurd c (by omega))
                  refine lv_iinc (v := nI (k47 + 1)) (lv' := [(7, .int (nI (k47 + 1))), (0, .ref (ad 0)), (1, .int (nI 10)), (2, .int (nI g)), (3, .int (nI o)), (4, .int (fw g)), (5, .int (x5_47 ||| (f_L_below k47 10 g fc))), (6, .int (nI 0)), (8, .int (f_L_below k47 10 g fc)), (9, .int (nI 10))]) hx hb dL_leavingIn_140 hl (k := 7) rfl (nI_add _ _) (by decide) rfl (fun ls hl => ?_)
                  refine lv_goto (tgt := 47) hx hb dL_leavingIn_143 (by decide) ?_
                  exact ih47 (k47 + 1) (x5_47 ||| (f_L_below k47 10 g fc)) (by omega) hf _ _ hP hD hS _ (lv_sub hl [1, 2, 3, 4, 5, 6, 7, 0] rfl)
                | succ n103 ih103 =>
                  intro k103 hk103 hf H locs hP hD hS ls hl
                  rw [f_L_leavingIn_r_L103] at hf
                  have hl : lv_has ls 10 [(0, .ref (ad 0)), (1, .int (nI 10)), (2, .int (nI g)), (3, .int (nI o)), (4, .int (fw g)), (5, .int (x5_47 ||| (f_L_below k47 10 g fc))), (6, .int (nI 0)), (7, .int (nI k47)), (8, .int (f_L_below k47 10 g fc)), (9, .int (nI k103))] := hl
                  refine lv_iload hx hb dL_leavingIn_103 (lv_at hl 9 rfl) ?_
                  refine lv_bipush (v := nI 10) hx hb dL_leavingIn_105 (by decide) ?_
                  refine r_icmp_ge (tgt := 140) hx hb (by omega) (by omega) dL_leavingIn_107 (by decide) (fun c => absurd c (by omega)) (fun _ => ?_)
                  refine lv_iload hx hb dL_leavingIn_110 (lv_at hl 8 rfl) ?_
                  refine lv_iload hx hb dL_leavingIn_112 (lv_at hl 9 rfl) ?_
                  refine fS_i (as := [.int (f_L_below k47 10 g fc), .int (nI k103)]) (rest := []) B hl.1 (c_L_isIn l D cI cZ (wC cI ad rc rl rh fr fw fc fg ps pg pr pd qp qt qf qo ct lE lC cand lim now was (nI sent) (nI qfi) (nI qsz)) (f_L_below k47 10 g fc) k103 (by omega)) (l_RL_28 hts ⟨rfl, rfl⟩ ⟨Nat.le_of_ble_eq_true rfl, Nat.le_of_ble_eq_true rfl⟩) m_8_12 rfl rfl hP hD hS hA rfl (Nat.le_of_ble_eq_true rfl) dL_leavingIn_114 (fun H locs hP hD hS => ?_)
                  refine r_if_eq_b (tgt := 134) hx hb dL_leavingIn_117 (by decide) (fun c79 => ?_) (fun c79 => ?_)
                  · rw [if_neg c79] at hf
                    refine lv_iinc (v := nI (k103 + 1)) (lv' := [(9, .int (nI (k103 + 1))), (0, .ref (ad 0)), (1, .int (nI 10)), (2, .int (nI g)), (3, .int (nI o)), (4, .int (fw g)), (5, .int (x5_47 ||| (f_L_below k47 10 g fc))), (6, .int (nI 0)), (7, .int (nI k47)), (8, .int (f_L_below k47 10 g fc))]) hx hb dL_leavingIn_134 hl (k := 9) rfl (nI_add _ _) (by decide) rfl (fun ls hl => ?_)
                    refine lv_goto (tgt := 103) hx hb dL_leavingIn_137 (by decide) ?_
                    exact ih103 (k103 + 1) (by omega) hf _ _ hP hD hS _ (lv_sub hl [1, 2, 3, 4, 5, 6, 7, 8, 9, 0] rfl)
                  · rw [if_pos c79] at hf
                    refine lv_aload_n hx hb dL_leavingIn_120 rfl (lv_at hl 0 rfl) ?_
                    refine lv_iload hx hb dL_leavingIn_121 (lv_at hl 9 rfl) ?_
                    refine lv_iload_n hx hb dL_leavingIn_123 rfl (lv_at hl 3 rfl) ?_
                    refine fV_i (ci := 5) (as := [.int (nI k103), .int (nI o)]) (rest := []) B hl.1 (c_X5_nextHop l D cI cZ ad rc rl rh fr fw fc fg ps pg pr pd qp qt qf qo ct lE lC cand lim now was sent qfi qsz k103 o (by omega) (by omega)) rfl (l_RL_21 hts ⟨rfl, rfl⟩ ⟨Nat.le_of_ble_eq_true rfl, Nat.le_of_ble_eq_true rfl⟩) m_20_12 m_20_13 rfl rfl hP hD hS hA 0 rfl wfC (Nat.le_of_ble_eq_true rfl) dL_leavingIn_124 (fun H locs hP hD hS => ?_)
                    refine lv_iload hx hb dL_leavingIn_127 (lv_at hl 7 rfl) ?_
                    refine lv_icmp_eq (tgt := 134) hx hb dL_leavingIn_129 (by decide) (fun c80 => ?_) (fun c80 => ?_)
                    · rw [if_pos c80] at hf
                      refine lv_iinc (v := nI (k103 + 1)) (lv' := [(9, .int (nI (k103 + 1))), (0, .ref (ad 0)), (1, .int (nI 10)), (2, .int (nI g)), (3, .int (nI o)), (4, .int (fw g)), (5, .int (x5_47 ||| (f_L_below k47 10 g fc))), (6, .int (nI 0)), (7, .int (nI k47)), (8, .int (f_L_below k47 10 g fc))]) hx hb dL_leavingIn_134 hl (k := 9) rfl (nI_add _ _) (by decide) rfl (fun ls hl => ?_)
                      refine lv_goto (tgt := 103) hx hb dL_leavingIn_137 (by decide) ?_
                      exact ih103 (k103 + 1) (by omega) hf _ _ hP hD hS _ (lv_sub hl [1, 2, 3, 4, 5, 6, 7, 8, 9, 0] rfl)
                    · rw [if_neg c80] at hf
                      (try dsimp only at hf)
                      rw [if_pos rfl] at hf
                      refine lv_iconst (v := -1) hx hb dL_leavingIn_132 (by decide) ?_
                      exact eI B hP hS ((congrArg (fun (u : Int32) => u) hf).symm) rfl dL_leavingIn_133
              exact L103 10 0 (by omega) hf _ _ hP hD hS _ (lv_sub hl [3, 4, 5, 6, 7, 1, 8, 9, 2, 0] rfl)
            · have hf := hf.trans (if_neg c75)
              refine lv_iconst (v := -1) hx hb dL_leavingIn_91 (by decide) ?_
              exact eI B hP hS ((congrArg (fun (u : Int32) => u) hf).symm) rfl dL_leavingIn_92
  exact L47 10 0 (nI 0) (by omega) hf _ _ hP hD hS _ (lv_sub hl [5, 6, 7, 4, 3, 2, 1, 0] rfl)
def j_L_leavingIn_s_249 (x5_47 : Int32) (k149 : Nat) : Bool :=
  if (f_L_isIn x5_47 k149) = true then false else false
def j_L_leavingIn_s_249b (x5_47 : Int32) (k149 : Nat) : Bool :=
  if (f_L_isIn x5_47 k149) = true then true else false
def f_L_leavingIn_s_L149 (src : Nat) (g : Nat) (rl : Nat → Int32) (fw : Nat → Int32) (fc : Nat → Int32) (x5_47 : Int32) : Nat → Nat → Int32 → Int32
  | 0, _, x6_149 => x6_149
  | n149 + 1, k149, x6_149 => if k149 = src then (if (f_L_isIn x5_47 k149) = true then -1 else f_L_leavingIn_s_L149 src g rl fw fc x5_47 n149 (k149 + 1) (x6_149 + (nI 0))) else if (f_L_isIn (fw ((4 + (g * 10)) + src)) k149) = true then (if (f_X4_distanceOf k149 src rl) < 0 then (if (f_L_below k149 src g fc) = 0 then f_L_leavingIn_s_L149 src g rl fw fc x5_47 n149 (k149 + 1) (x6_149 + (bI (j_L_leavingIn_s_249 x5_47 k149))) else if (f_L_isIn x5_47 k149) = true then f_L_leavingIn_s_L149 src g rl fw fc x5_47 n149 (k149 + 1) (x6_149 + (nI 0)) else -1) else if (f_L_isIn x5_47 k149) = true then (if (f_L_below k149 src g fc) = 0 then f_L_leavingIn_s_L149 src g rl fw fc x5_47 n149 (k149 + 1) (x6_149 + (nI 0)) else f_L_leavingIn_s_L149 src g rl fw fc x5_47 n149 (k149 + 1) (x6_149 + (nI 0))) else -1) else if (f_L_below k149 src g fc) = 0 then f_L_leavingIn_s_L149 src g rl fw fc x5_47 n149 (k149 + 1) (x6_149 + (bI (j_L_leavingIn_s_249b x5_47 k149))) else if (f_L_isIn x5_47 k149) = true then f_L_leavingIn_s_L149 src g rl fw fc x5_47 n149 (k149 + 1) (x6_149 + (nI 0)) else -1
def f_L_leavingIn_s_L103 (src : Nat) (g : Nat) (rh : Nat → Int32) (fc : Nat → Int32) (k47 : Nat) : Nat → Nat → Bool
  | 0, _ => false
  | n103 + 1, k103 => if (f_L_isIn (f_L_below k47 src g fc) k103) = true then (if (rh ((k103 * 10) + src)) = (nI k47) then f_L_leavingIn_s_L103 src g rh fc k47 n103 (k103 + 1) else true) else f_L_leavingIn_s_L103 src g rh fc k47 n103 (k103 + 1)
def f_L_leavingIn_s_L47 (src : Nat) (g : Nat) (rl : Nat → Int32) (rh : Nat → Int32) (fw : Nat → Int32) (fc : Nat → Int32) : Nat → Nat → Int32 → Int32
  | 0, _, x5_47 => f_L_leavingIn_s_L149 src g rl fw fc x5_47 10 0 (nI 0)
  | n47 + 1, k47, x5_47 => if ((f_L_below k47 src g fc) &&& x5_47) = 0 then (if (f_L_isIn (f_L_below k47 src g fc) k47) = true then -1 else if 0 ≤ (nI src) then (if (f_L_leavingIn_s_L103 src g rh fc k47 10 0) = true then -1 else f_L_leavingIn_s_L47 src g rl rh fw fc n47 (k47 + 1) (x5_47 ||| (f_L_below k47 src g fc))) else if (f_L_below k47 src g fc) = 0 then (if (f_L_leavingIn_s_L103 src g rh fc k47 10 0) = true then -1 else f_L_leavingIn_s_L47 src g rl rh fw fc n47 (k47 + 1) (x5_47 ||| (f_L_below k47 src g fc))) else -1) else -1
def f_L_leavingIn_s (src : Nat) (g : Nat) (rl : Nat → Int32) (rh : Nat → Int32) (fw : Nat → Int32) (fc : Nat → Int32) : Int32 :=
  f_L_leavingIn_s_L47 src g rl rh fw fc 10 0 (nI 0)
set_option maxHeartbeats 4000000 in
set_option maxRecDepth 100000 in
theorem c_L_leavingIn_s (l : Launch) (D : va_G) (cI cZ : ClassId) (ad : Nat → Nat) (rc rl rh fr fw fc fg ps pg pr pd qp qt qf qo ct lE lC : Nat → Int32) (cand : Int32) (lim : Int32) (now : Int32) (was : Int32) (sent : Nat) (qfi : Nat) (qsz : Nat) (src : Nat) (g : Nat) (hsrc : src < 10) (hg : g < 4) : MI l yL_leavingIn cL_leavingIn 10 .int { frames := 4, cells := 0, slots := 0, locals := 90 } D (TY cI cZ) [.ref (ad 0), .int (nI src), .int (nI g)] (wC cI ad rc rl rh fr fw fc fg ps pg pr pd qp qt qf qo ct lE lC cand lim now was (nI sent) (nI qfi) (nI qsz)) (wC cI ad rc rl rh fr fw fc fg ps pg pr pd qp qt qf qo ct lE lC cand lim now was (nI sent) (nI qfi) (nI qsz)) (f_L_leavingIn_s src g rl rh fw fc) := by
  refine MI.mk ⟨rfl, rfl⟩ (by decide +kernel) (Nat.le_of_ble_eq_true rfl) ?_
  intro p e s m below meth c A ls B hA hP hD hS hl
  have hx := B.1
  have hb := B.2.1
  have hts := B.2.2.2.2.2.1
  have hN := B.2.2.2.2.2.2.2.1
  have hK := B.2.2.2.2.2.2.2.2.1
  have hl : lv_has ls 10 [(0, .ref (ad 0)), (1, .int (nI src)), (2, .int (nI g))] := hl
  have hf := f_L_leavingIn_s.eq_1 src g rl rh fw fc
  refine lv_iload_n hx hb dL_leavingIn_0 rfl (lv_at hl 1 rfl) ?_
  refine lv_bipush (v := nI 10) hx hb dL_leavingIn_1 (by decide) ?_
  refine r_icmp_ne (tgt := 14) hx hb (by omega) (by omega) dL_leavingIn_3 (by decide) (fun _ => ?_) (fun c => absurd c (by omega))
  refine lv_iload_n hx hb dL_leavingIn_14 rfl (lv_at hl 1 rfl) ?_
  refine lv_istore_n (lv' := [(3, .int (nI src)), (0, .ref (ad 0)), (1, .int (nI src)), (2, .int (nI g))]) hx hb dL_leavingIn_15 rfl hl (by decide) rfl (fun ls hl => ?_)
  refine lv_iload_n hx hb dL_leavingIn_16 rfl (lv_at hl 2 rfl) ?_
  refine lv_bipush (v := nI 10) hx hb dL_leavingIn_17 (by decide) ?_
  refine r_icmp_ne (tgt := 30) hx hb (by omega) (by omega) dL_leavingIn_19 (by decide) (fun _ => ?_) (fun c => absurd c (by omega))
  refine lv_aload_n hx hb dL_leavingIn_30 rfl (lv_at hl 1 rfl) ?_
  refine lv_iload_n hx hb dL_leavingIn_31 rfl (lv_at hl 2 rfl) ?_
  refine lv_iload_n hx hb dL_leavingIn_32 rfl (lv_at hl 3 rfl) ?_
  refine fV_i (ci := 5) (as := [.int (nI src), .int (nI g)]) (rest := []) B hl.1 (c_X5_switched l D cI cZ ad rc rl rh fr fw fc fg ps pg pr pd qp qt qf qo ct lE lC cand lim now was sent qfi qsz src g (by omega) (by omega)) rfl (l_RL_46 hts ⟨rfl, rfl⟩ ⟨Nat.le_of_ble_eq_true rfl, Nat.le_of_ble_eq_true rfl⟩) m_11_20 m_11_21 rfl rfl hP hD hS hA 0 rfl wfC (Nat.le_of_ble_eq_true rfl) dL_leavingIn_33 (fun H locs hP hD hS => ?_)
  refine lv_istore (lv' := [(4, .int (fw ((4 + (g * 10)) + src))), (3, .int (nI src)), (0, .ref (ad 0)), (1, .int (nI src)), (2, .int (nI g))]) hx hb dL_leavingIn_36 hl (by decide) rfl (fun ls hl => ?_)
  refine lv_iconst (v := nI 0) hx hb dL_leavingIn_38 (by decide) ?_
  refine lv_istore (lv' := [(5, .int (nI 0)), (4, .int (fw ((4 + (g * 10)) + src))), (3, .int (nI src)), (0, .ref (ad 0)), (1, .int (nI src)), (2, .int (nI g))]) hx hb dL_leavingIn_39 hl (by decide) rfl (fun ls hl => ?_)
  refine lv_iconst (v := nI 0) hx hb dL_leavingIn_41 (by decide) ?_
  refine lv_istore (lv' := [(6, .int (nI 0)), (5, .int (nI 0)), (4, .int (fw ((4 + (g * 10)) + src))), (3, .int (nI src)), (0, .ref (ad 0)), (1, .int (nI src)), (2, .int (nI g))]) hx hb dL_leavingIn_42 hl (by decide) rfl (fun ls hl => ?_)
  refine lv_iconst (v := nI 0) hx hb dL_leavingIn_44 (by decide) ?_
  refine lv_istore (lv' := [(7, .int (nI 0)), (6, .int (nI 0)), (5, .int (nI 0)), (4, .int (fw ((4 + (g * 10)) + src))), (3, .int (nI src)), (0, .ref (ad 0)), (1, .int (nI src)), (2, .int (nI g))]) hx hb dL_leavingIn_45 hl (by decide) rfl (fun ls hl => ?_)
  have L47 : ∀ (n47 : Nat) (k47 : Nat) (x5_47 : Int32), k47 + n47 = 10 → f_L_leavingIn_s src g rl rh fw fc = (f_L_leavingIn_s_L47 src g rl rh fw fc n47 k47 x5_47) → ∀ (H : Heap) (locs : List Loc), va_P D vwCl (wC cI ad rc rl rh fr fw fc fg ps pg pr pd qp qt qf qo ct lE lC cand lim now was (nI sent) (nI qfi) (nI qsz)) H → va_D A (wC cI ad rc rl rh fr fw fc fg ps pg pr pd qp qt qf qo ct lE lC cand lim now was (nI sent) (nI qfi) (nI qsz)) → va_S A s.heap H locs → ∀ ls : Array Slot, lv_has ls 10 [(0, .ref (ad 0)), (1, .int (nI src)), (2, .int (nI g)), (3, .int (nI src)), (4, .int (fw ((4 + (g * 10)) + src))), (5, .int x5_47), (6, .int (nI 0)), (7, .int (nI k47))] → W p l e { frames := 4, cells := 0, slots := 0, locals := 90 } s m [.ref (ad 0), .int (nI src), .int (nI g)].toArray below meth c H locs 0 0 (QI below s A D [.ref (ad 0), .int (nI src), .int (nI g)] (wC cI ad rc rl rh fr fw fc fg ps pg pr pd qp qt qf qo ct lE lC cand lim now was (nI sent) (nI qfi) (nI qsz)) (f_L_leavingIn_s src g rl rh fw fc)) (F0 m 47 ls []) := by
    intro n47
    induction n47 with
    | zero =>
      intro k47 x5_47 hk47 hf H locs hP hD hS ls hl
      obtain rfl : 10 = k47 := by omega
      rw [f_L_leavingIn_s_L47] at hf
      have hl : lv_has ls 10 [(0, .ref (ad 0)), (1, .int (nI src)), (2, .int (nI g)), (3, .int (nI src)), (4, .int (fw ((4 + (g * 10)) + src))), (5, .int x5_47), (6, .int (nI 0)), (7, .int (nI 10))] := hl
      refine lv_iload hx hb dL_leavingIn_47 (lv_at hl 7 rfl) ?_
      refine lv_bipush (v := nI 10) hx hb dL_leavingIn_49 (by decide) ?_
      refine r_icmp_ge (tgt := 146) hx hb (by omega) (by omega) dL_leavingIn_51 (by decide) (fun _ => ?_) (fun c => absurd c (by omega))
      refine lv_iconst (v := nI 0) hx hb dL_leavingIn_146 (by decide) ?_
      refine lv_istore (lv' := [(7, .int (nI 0)), (0, .ref (ad 0)), (1, .int (nI src)), (2, .int (nI g)), (3, .int (nI src)), (4, .int (fw ((4 + (g * 10)) + src))), (5, .int x5_47), (6, .int (nI 0))]) hx hb dL_leavingIn_147 hl (by decide) rfl (fun ls hl => ?_)
      have L149 : ∀ (n149 : Nat) (k149 : Nat) (x6_149 : Int32), k149 + n149 = 10 → f_L_leavingIn_s src g rl rh fw fc = (f_L_leavingIn_s_L149 src g rl fw fc x5_47 n149 k149 x6_149) → ∀ (H : Heap) (locs : List Loc), va_P D vwCl (wC cI ad rc rl rh fr fw fc fg ps pg pr pd qp qt qf qo ct lE lC cand lim now was (nI sent) (nI qfi) (nI qsz)) H → va_D A (wC cI ad rc rl rh fr fw fc fg ps pg pr pd qp qt qf qo ct lE lC cand lim now was (nI sent) (nI qfi) (nI qsz)) → va_S A s.heap H locs → ∀ ls : Array Slot, lv_has ls 10 [(0, .ref (ad 0)), (1, .int (nI src)), (2, .int (nI g)), (3, .int (nI src)), (4, .int (fw ((4 + (g * 10)) + src))), (5, .int x5_47), (6, .int x6_149), (7, .int (nI k149))] → W p l e { frames := 4, cells := 0, slots := 0, locals := 90 } s m [.ref (ad 0), .int (nI src), .int (nI g)].toArray below meth c H locs 0 0 (QI below s A D [.ref (ad 0), .int (nI src), .int (nI g)] (wC cI ad rc rl rh fr fw fc fg ps pg pr pd qp qt qf qo ct lE lC cand lim now was (nI sent) (nI qfi) (nI qsz)) (f_L_leavingIn_s src g rl rh fw fc)) (F0 m 149 ls []) := by
        intro n149
        induction n149 with
        | zero =>
          intro k149 x6_149 hk149 hf H locs hP hD hS ls hl
          obtain rfl : 10 = k149 := by omega
          rw [f_L_leavingIn_s_L149] at hf
          have hl : lv_has ls 10 [(0, .ref (ad 0)), (1, .int (nI src)), (2, .int (nI g)), (3, .int (nI src)), (4, .int (fw ((4 + (g * 10)) + src))), (5, .int x5_47), (6, .int x6_149), (7, .int (nI 10))] := hl
          refine lv_iload hx hb dL_leavingIn_149 (lv_at hl 7 rfl) ?_
          refine lv_bipush (v := nI 10) hx hb dL_leavingIn_151 (by decide) ?_
          refine r_icmp_ge (tgt := 276) hx hb (by omega) (by omega) dL_leavingIn_153 (by decide) (fun _ => ?_) (fun c => absurd c (by omega))
          refine lv_iload hx hb dL_leavingIn_276 (lv_at hl 6 rfl) ?_
          exact eI B hP hS ((congrArg (fun (u : Int32) => u) hf).symm) rfl dL_leavingIn_278
        | succ n149 ih149 =>
          intro k149 x6_149 hk149 hf H locs hP hD hS ls hl
          rw [f_L_leavingIn_s_L149] at hf
          have hl : lv_has ls 10 [(0, .ref (ad 0)), (1, .int (nI src)), (2, .int (nI g)), (3, .int (nI src)), (4, .int (fw ((4 + (g * 10)) + src))), (5, .int x5_47), (6, .int x6_149), (7, .int (nI k149))] := hl
          refine lv_iload hx hb dL_leavingIn_149 (lv_at hl 7 rfl) ?_
          refine lv_bipush (v := nI 10) hx hb dL_leavingIn_151 (by decide) ?_
          refine r_icmp_ge (tgt := 276) hx hb (by omega) (by omega) dL_leavingIn_153 (by decide) (fun c => absurd c (by omega)) (fun _ => ?_)
          refine lv_iload_n hx hb dL_leavingIn_156 rfl (lv_at hl 3 rfl) ?_
          refine r_if_lt (tgt := 276) hx hb (by omega) dL_leavingIn_157 (by decide) ?_
          refine lv_aload_n hx hb dL_leavingIn_160 rfl (lv_at hl 0 rfl) ?_
          refine lv_iload hx hb dL_leavingIn_161 (lv_at hl 7 rfl) ?_
          refine lv_iload_n hx hb dL_leavingIn_163 rfl (lv_at hl 1 rfl) ?_
          refine lv_iload_n hx hb dL_leavingIn_164 rfl (lv_at hl 2 rfl) ?_
          refine fS_i (as := [.ref (ad 0), .int (nI k149), .int (nI src), .int (nI g)]) (rest := []) B hl.1 (c_L_below l D cI cZ ad rc rl rh fr fw fc fg ps pg pr pd qp qt qf qo ct lE lC cand lim now was sent qfi qsz k149 src g (by omega) (by omega) (by omega)) (l_RL_49 hts ⟨rfl, rfl⟩ ⟨Nat.le_of_ble_eq_true rfl, Nat.le_of_ble_eq_true rfl⟩) m_21_5 rfl rfl hP hD hS hA wfC (Nat.le_of_ble_eq_true rfl) dL_leavingIn_165 (fun H locs hP hD hS => ?_)
          refine lv_istore (lv' := [(8, .int (f_L_below k149 src g fc)), (0, .ref (ad 0)), (1, .int (nI src)), (2, .int (nI g)), (3, .int (nI src)), (4, .int (fw ((4 + (g * 10)) + src))), (5, .int x5_47), (6, .int x6_149), (7, .int (nI k149))]) hx hb dL_leavingIn_168 hl (by decide) rfl (fun ls hl => ?_)
          refine lv_iload hx hb dL_leavingIn_170 (lv_at hl 5 rfl) ?_
          refine lv_iload hx hb dL_leavingIn_172 (lv_at hl 8 rfl) ?_
          refine fS_i (as := [.int (fw ((4 + (g * 10)) + src)), .int (nI k149)]) (rest := []) B hl.1 (c_L_isIn l D cI cZ (wC cI ad rc rl rh fr fw fc fg ps pg pr pd qp qt qf qo ct lE lC cand lim now was (nI sent) (nI qfi) (nI qsz)) (fw ((4 + (g * 10)) + src)) k149 (by omega)) (l_RL_28 hts ⟨rfl, rfl⟩ ⟨Nat.le_of_ble_eq_true rfl, Nat.le_of_ble_eq_true rfl⟩) m_8_12 rfl rfl hP hD hS hA rfl (Nat.le_of_ble_eq_true rfl) dL_leavingIn_174 (fun H locs hP hD hS => ?_)
          refine lv_istore (lv' := [(9, .int (bI (f_L_isIn (fw ((4 + (g * 10)) + src)) k149))), (8, .int (f_L_below k149 src g fc)), (0, .ref (ad 0)), (1, .int (nI src)), (2, .int (nI g)), (3, .int (nI src)), (4, .int (fw ((4 + (g * 10)) + src))), (5, .int x5_47), (6, .int x6_149), (7, .int (nI k149))]) hx hb dL_leavingIn_177 hl (by decide) rfl (fun ls hl => ?_)
          refine lv_iload hx hb dL_leavingIn_179 (lv_at hl 9 rfl) ?_
          refine lv_iload_n hx hb dL_leavingIn_181 rfl (lv_at hl 5 rfl) ?_
          refine r_icmp_ne (tgt := 198) hx hb (by omega) (by omega) dL_leavingIn_182 (by decide) (fun c55 => ?_) (fun c55 => ?_)
          · have hf := hf.trans (if_neg c55)
            refine lv_iload hx hb dL_leavingIn_198 (lv_at hl 0 rfl) ?_
            refine r_if_eq_b (tgt := 223) hx hb dL_leavingIn_200 (by decide) (fun c57 => ?_) (fun c57 => ?_)
            · have hf := hf.trans (if_neg c57)
              refine lv_iload hx hb dL_leavingIn_223 (lv_at hl 1 rfl) ?_
              refine lv_if_eq (tgt := 240) hx hb dL_leavingIn_225 (by decide) (fun c64 => ?_) (fun c64 => ?_)
              · have hf := hf.trans (if_pos c64)
                refine lv_iload hx hb dL_leavingIn_240 (lv_at hl 8 rfl) ?_
                refine lv_iload hx hb dL_leavingIn_242 (lv_at hl 7 rfl) ?_
                refine lv_iload hx hb dL_leavingIn_244 (lv_at hl 9 rfl) ?_
                refine fS_i (as := [.int x5_47, .int (nI k149)]) (rest := [.int x6_149]) B hl.1 (c_L_isIn l D cI cZ (wC cI ad rc rl rh fr fw fc fg ps pg pr pd qp qt qf qo ct lE lC cand lim now was (nI sent) (nI qfi) (nI qsz)) x5_47 k149 (by omega)) (l_RL_28 hts ⟨rfl, rfl⟩ ⟨Nat.le_of_ble_eq_true rfl, Nat.le_of_ble_eq_true rfl⟩) m_8_12 rfl rfl hP hD hS hA rfl (Nat.le_of_ble_eq_true rfl) dL_leavingIn_246 (fun H locs hP hD hS => ?_)
                have K249 : ∀ v249 : Bool, j_L_leavingIn_s_249b x5_47 k149 = v249 → ∀ (H : Heap) (locs : List Loc), va_P D vwCl (wC cI ad rc rl rh fr fw fc fg ps pg pr pd qp qt qf qo ct lE lC cand lim now was (nI sent) (nI qfi) (nI qsz)) H → va_D A (wC cI ad rc rl rh fr fw fc fg ps pg pr pd qp qt qf qo ct lE lC cand lim now was (nI sent) (nI qfi) (nI qsz)) → va_S A s.heap H locs → ∀ ls : Array Slot, lv_has ls 10 [(9, .int (bI (f_L_isIn (fw ((4 + (g * 10)) + src)) k149))), (8, .int (f_L_below k149 src g fc)), (0, .ref (ad 0)), (1, .int (nI src)), (2, .int (nI g)), (3, .int (nI src)), (4, .int (fw ((4 + (g * 10)) + src))), (5, .int x5_47), (6, .int x6_149), (7, .int (nI k149))] → W p l e { frames := 4, cells := 0, slots := 0, locals := 90 } s m [.ref (ad 0), .int (nI src), .int (nI g)].toArray below meth c H locs 0 0 (QI below s A D [.ref (ad 0), .int (nI src), .int (nI g)] (wC cI ad rc rl rh fr fw fc fg ps pg pr pd qp qt qf qo ct lE lC cand lim now was (nI sent) (nI qfi) (nI qsz)) (f_L_leavingIn_s src g rl rh fw fc)) (F0 m 267 ls [.int (bI v249), .int x6_149]) := by
                  intro v249 hv249 H locs hP hD hS ls hl
                  subst hv249
                  refine lv_iadd hx hb dL_leavingIn_267 ?_
                  refine lv_istore (lv' := [(6, .int (x6_149 + (bI (j_L_leavingIn_s_249b x5_47 k149)))), (9, .int (bI (f_L_isIn (fw ((4 + (g * 10)) + src)) k149))), (8, .int (f_L_below k149 src g fc)), (0, .ref (ad 0)), (1, .int (nI src)), (2, .int (nI g)), (3, .int (nI src)), (4, .int (fw ((4 + (g * 10)) + src))), (5, .int x5_47), (7, .int (nI k149))]) hx hb dL_leavingIn_268 hl (by decide) rfl (fun ls hl => ?_)
                  refine lv_iinc (v := nI (k149 + 1)) (lv' := [(7, .int (nI (k149 + 1))), (6, .int (x6_149 + (bI (j_L_leavingIn_s_249b x5_47 k149)))), (9, .int (bI (f_L_isIn (fw ((4 + (g * 10)) + src)) k149))), (8, .int (f_L_below k149 src g fc)), (0, .ref (ad 0)), (1, .int (nI src)), (2, .int (nI g)), (3, .int (nI src)), (4, .int (fw ((4 + (g * 10)) + src))), (5, .int x5_47)]) hx hb dL_leavingIn_270 hl (k := 9) rfl (nI_add _ _) (by decide) rfl (fun ls hl => ?_)
                  refine lv_goto (tgt := 149) hx hb dL_leavingIn_273 (by decide) ?_
                  exact ih149 (k149 + 1) (x6_149 + (bI (j_L_leavingIn_s_249b x5_47 k149))) (by omega) hf _ _ hP hD hS _ (lv_sub hl [4, 5, 6, 7, 8, 9, 1, 0] rfl)
                have hj249 := j_L_leavingIn_s_249b.eq_1 x5_47 k149
                refine r_if_eq_b (tgt := 266) hx hb dL_leavingIn_249 (by decide) (fun c65 => ?_) (fun c65 => ?_)
                · have hj249 := hj249.trans (if_neg c65)
                  refine lv_iconst (v := nI 0) hx hb dL_leavingIn_266 (by decide) ?_
                  exact K249 _ hj249 _ _ hP hD hS _ hl
                · have hj249 := hj249.trans (if_pos c65)
                  refine lv_iload hx hb dL_leavingIn_252 (lv_at hl 0 rfl) ?_
                  refine r_if_ne_b (tgt := 266) hx hb dL_leavingIn_254 (by decide) (fun c => absurd c c57) (fun _ => ?_)
                  refine lv_iload hx hb dL_leavingIn_257 (lv_at hl 1 rfl) ?_
                  refine lv_if_ne (tgt := 266) hx hb dL_leavingIn_259 (by decide) (fun c => absurd c64 c) (fun _ => ?_)
                  refine lv_iconst (v := nI 1) hx hb dL_leavingIn_262 (by decide) ?_
                  refine lv_goto (tgt := 267) hx hb dL_leavingIn_263 (by decide) ?_
                  exact K249 _ hj249 _ _ hP hD hS _ hl
              · have hf := hf.trans (if_neg c64)
                refine lv_iload hx hb dL_leavingIn_228 (lv_at hl 7 rfl) ?_
                refine lv_iload hx hb dL_leavingIn_230 (lv_at hl 9 rfl) ?_
                refine fS_i (as := [.int x5_47, .int (nI k149)]) (rest := []) B hl.1 (c_L_isIn l D cI cZ (wC cI ad rc rl rh fr fw fc fg ps pg pr pd qp qt qf qo ct lE lC cand lim now was (nI sent) (nI qfi) (nI qsz)) x5_47 k149 (by omega)) (l_RL_28 hts ⟨rfl, rfl⟩ ⟨Nat.le_of_ble_eq_true rfl, Nat.le_of_ble_eq_true rfl⟩) m_8_12 rfl rfl hP hD hS hA rfl (Nat.le_of_ble_eq_true rfl) dL_leavingIn_232 (fun H locs hP hD hS => ?_)
                refine r_if_ne_b (tgt := 240) hx hb dL_leavingIn_235 (by decide) (fun c66 => ?_) (fun c66 => ?_)
                · have hf := hf.trans (if_pos c66)
                  refine lv_iload hx hb dL_leavingIn_240 (lv_at hl 8 rfl) ?_
                  refine lv_iload hx hb dL_leavingIn_242 (lv_at hl 7 rfl) ?_
                  refine lv_iload hx hb dL_leavingIn_244 (lv_at hl 9 rfl) ?_
                  refine fS_i (as := [.int x5_47, .int (nI k149)]) (rest := [.int x6_149]) B hl.1 (c_L_isIn l D cI cZ (wC cI ad rc rl rh fr fw fc fg ps pg pr pd qp qt qf qo ct lE lC cand lim now was (nI sent) (nI qfi) (nI qsz)) x5_47 k149 (by omega)) (l_RL_28 hts ⟨rfl, rfl⟩ ⟨Nat.le_of_ble_eq_true rfl, Nat.le_of_ble_eq_true rfl⟩) m_8_12 rfl rfl hP hD hS hA rfl (Nat.le_of_ble_eq_true rfl) dL_leavingIn_246 (fun H locs hP hD hS => ?_)
                  refine r_if_eq_b (tgt := 266) hx hb dL_leavingIn_249 (by decide) (fun c => absurd c66 c) (fun _ => ?_)
                  refine lv_iload hx hb dL_leavingIn_252 (lv_at hl 0 rfl) ?_
                  refine r_if_ne_b (tgt := 266) hx hb dL_leavingIn_254 (by decide) (fun c => absurd c c57) (fun _ => ?_)
                  refine lv_iload hx hb dL_leavingIn_257 (lv_at hl 1 rfl) ?_
                  refine lv_if_ne (tgt := 266) hx hb dL_leavingIn_259 (by decide) (fun _ => ?_) (fun c => absurd c c64)
                  refine lv_iconst (v := nI 0) hx hb dL_leavingIn_266 (by decide) ?_
                  refine lv_iadd hx hb dL_leavingIn_267 ?_
                  refine lv_istore (lv' := [(6, .int (x6_149 + (nI 0))), (9, .int (bI (f_L_isIn (fw ((4 + (g * 10)) + src)) k149))), (8, .int (f_L_below k149 src g fc)), (0, .ref (ad 0)), (1, .int (nI src)), (2, .int (nI g)), (3, .int (nI src)), (4, .int (fw ((4 + (g * 10)) + src))), (5, .int x5_47), (7, .int (nI k149))]) hx hb dL_leavingIn_268 hl (by decide) rfl (fun ls hl => ?_)
                  refine lv_iinc (v := nI (k149 + 1)) (lv' := [(7, .int (nI (k149 + 1))), (6, .int (x6_149 + (nI 0))), (9, .int (bI (f_L_isIn (fw ((4 + (g * 10)) + src)) k149))), (8, .int (f_L_below k149 src g fc)), (0, .ref (ad 0)), (1, .int (nI src)), (2, .int (nI g)), (3, .int (nI src)), (4, .int (fw ((4 + (g * 10)) + src))), (5, .int x5_47)]) hx hb dL_leavingIn_270 hl (k := 9) rfl (nI_add _ _) (by decide) rfl (fun ls hl => ?_)
                  refine lv_goto (tgt := 149) hx hb dL_leavingIn_273 (by decide) ?_
                  exact ih149 (k149 + 1) (x6_149 + (nI 0)) (by omega) hf _ _ hP hD hS _ (lv_sub hl [4, 5, 6, 7, 8, 9, 1, 0] rfl)
                · have hf := hf.trans (if_neg c66)
                  refine lv_iconst (v := -1) hx hb dL_leavingIn_238 (by decide) ?_
                  exact eI B hP hS ((congrArg (fun (u : Int32) => u) hf).symm) rfl dL_leavingIn_239
            · have hf := hf.trans (if_pos c57)
              refine lv_aload_n hx hb dL_leavingIn_203 rfl (lv_at hl 2 rfl) ?_
              refine lv_iload hx hb dL_leavingIn_204 (lv_at hl 9 rfl) ?_
              refine lv_iload_n hx hb dL_leavingIn_206 rfl (lv_at hl 5 rfl) ?_
              refine fV_i (ci := 5) (as := [.int (nI k149), .int (nI src)]) (rest := []) B hl.1 (c_X5_distance l D cI cZ ad rc rl rh fr fw fc fg ps pg pr pd qp qt qf qo ct lE lC cand lim now was sent qfi qsz k149 src (by omega) (by omega)) rfl (l_RL_16 hts ⟨rfl, rfl⟩ ⟨Nat.le_of_ble_eq_true rfl, Nat.le_of_ble_eq_true rfl⟩) m_14_5 m_14_6 rfl rfl hP hD hS hA 0 rfl wfC (Nat.le_of_ble_eq_true rfl) dL_leavingIn_207 (fun H locs hP hD hS => ?_)
              refine lv_if_lt (tgt := 223) hx hb dL_leavingIn_210 (by decide) (fun c58 => ?_) (fun c58 => ?_)
              · have hf := hf.trans (if_pos c58)
                refine lv_iload hx hb dL_leavingIn_223 (lv_at hl 1 rfl) ?_
                refine lv_if_eq (tgt := 240) hx hb dL_leavingIn_225 (by decide) (fun c59 => ?_) (fun c59 => ?_)
                · have hf := hf.trans (if_pos c59)
                  refine lv_iload hx hb dL_leavingIn_240 (lv_at hl 8 rfl) ?_
                  refine lv_iload hx hb dL_leavingIn_242 (lv_at hl 7 rfl) ?_
                  refine lv_iload hx hb dL_leavingIn_244 (lv_at hl 9 rfl) ?_
                  refine fS_i (as := [.int x5_47, .int (nI k149)]) (rest := [.int x6_149]) B hl.1 (c_L_isIn l D cI cZ (wC cI ad rc rl rh fr fw fc fg ps pg pr pd qp qt qf qo ct lE lC cand lim now was (nI sent) (nI qfi) (nI qsz)) x5_47 k149 (by omega)) (l_RL_28 hts ⟨rfl, rfl⟩ ⟨Nat.le_of_ble_eq_true rfl, Nat.le_of_ble_eq_true rfl⟩) m_8_12 rfl rfl hP hD hS hA rfl (Nat.le_of_ble_eq_true rfl) dL_leavingIn_246 (fun H locs hP hD hS => ?_)
                  have K249 : ∀ v249 : Bool, j_L_leavingIn_s_249 x5_47 k149 = v249 → ∀ (H : Heap) (locs : List Loc), va_P D vwCl (wC cI ad rc rl rh fr fw fc fg ps pg pr pd qp qt qf qo ct lE lC cand lim now was (nI sent) (nI qfi) (nI qsz)) H → va_D A (wC cI ad rc rl rh fr fw fc fg ps pg pr pd qp qt qf qo ct lE lC cand lim now was (nI sent) (nI qfi) (nI qsz)) → va_S A s.heap H locs → ∀ ls : Array Slot, lv_has ls 10 [(9, .int (bI (f_L_isIn (fw ((4 + (g * 10)) + src)) k149))), (8, .int (f_L_below k149 src g fc)), (0, .ref (ad 0)), (1, .int (nI src)), (2, .int (nI g)), (3, .int (nI src)), (4, .int (fw ((4 + (g * 10)) + src))), (5, .int x5_47), (6, .int x6_149), (7, .int (nI k149))] → W p l e { frames := 4, cells := 0, slots := 0, locals := 90 } s m [.ref (ad 0), .int (nI src), .int (nI g)].toArray below meth c H locs 0 0 (QI below s A D [.ref (ad 0), .int (nI src), .int (nI g)] (wC cI ad rc rl rh fr fw fc fg ps pg pr pd qp qt qf qo ct lE lC cand lim now was (nI sent) (nI qfi) (nI qsz)) (f_L_leavingIn_s src g rl rh fw fc)) (F0 m 267 ls [.int (bI v249), .int x6_149]) := by
                    intro v249 hv249 H locs hP hD hS ls hl
                    subst hv249
                    refine lv_iadd hx hb dL_leavingIn_267 ?_
                    refine lv_istore (lv' := [(6, .int (x6_149 + (bI (j_L_leavingIn_s_249 x5_47 k149)))), (9, .int (bI (f_L_isIn (fw ((4 + (g * 10)) + src)) k149))), (8, .int (f_L_below k149 src g fc)), (0, .ref (ad 0)), (1, .int (nI src)), (2, .int (nI g)), (3, .int (nI src)), (4, .int (fw ((4 + (g * 10)) + src))), (5, .int x5_47), (7, .int (nI k149))]) hx hb dL_leavingIn_268 hl (by decide) rfl (fun ls hl => ?_)
                    refine lv_iinc (v := nI (k149 + 1)) (lv' := [(7, .int (nI (k149 + 1))), (6, .int (x6_149 + (bI (j_L_leavingIn_s_249 x5_47 k149)))), (9, .int (bI (f_L_isIn (fw ((4 + (g * 10)) + src)) k149))), (8, .int (f_L_below k149 src g fc)), (0, .ref (ad 0)), (1, .int (nI src)), (2, .int (nI g)), (3, .int (nI src)), (4, .int (fw ((4 + (g * 10)) + src))), (5, .int x5_47)]) hx hb dL_leavingIn_270 hl (k := 9) rfl (nI_add _ _) (by decide) rfl (fun ls hl => ?_)
                    refine lv_goto (tgt := 149) hx hb dL_leavingIn_273 (by decide) ?_
                    exact ih149 (k149 + 1) (x6_149 + (bI (j_L_leavingIn_s_249 x5_47 k149))) (by omega) hf _ _ hP hD hS _ (lv_sub hl [4, 5, 6, 7, 8, 9, 1, 0] rfl)
                  have hj249 := j_L_leavingIn_s_249.eq_1 x5_47 k149
                  refine r_if_eq_b (tgt := 266) hx hb dL_leavingIn_249 (by decide) (fun c60 => ?_) (fun c60 => ?_)
                  · have hj249 := hj249.trans (if_neg c60)
                    refine lv_iconst (v := nI 0) hx hb dL_leavingIn_266 (by decide) ?_
                    exact K249 _ hj249 _ _ hP hD hS _ hl
                  · have hj249 := hj249.trans (if_pos c60)
                    refine lv_iload hx hb dL_leavingIn_252 (lv_at hl 0 rfl) ?_
                    refine r_if_ne_b (tgt := 266) hx hb dL_leavingIn_254 (by decide) (fun _ => ?_) (fun c => absurd c57 c)
                    refine lv_iconst (v := nI 0) hx hb dL_leavingIn_266 (by decide) ?_
                    exact K249 _ hj249 _ _ hP hD hS _ hl
                · have hf := hf.trans (if_neg c59)
                  refine lv_iload hx hb dL_leavingIn_228 (lv_at hl 7 rfl) ?_
                  refine lv_iload hx hb dL_leavingIn_230 (lv_at hl 9 rfl) ?_
                  refine fS_i (as := [.int x5_47, .int (nI k149)]) (rest := []) B hl.1 (c_L_isIn l D cI cZ (wC cI ad rc rl rh fr fw fc fg ps pg pr pd qp qt qf qo ct lE lC cand lim now was (nI sent) (nI qfi) (nI qsz)) x5_47 k149 (by omega)) (l_RL_28 hts ⟨rfl, rfl⟩ ⟨Nat.le_of_ble_eq_true rfl, Nat.le_of_ble_eq_true rfl⟩) m_8_12 rfl rfl hP hD hS hA rfl (Nat.le_of_ble_eq_true rfl) dL_leavingIn_232 (fun H locs hP hD hS => ?_)
                  refine r_if_ne_b (tgt := 240) hx hb dL_leavingIn_235 (by decide) (fun c61 => ?_) (fun c61 => ?_)
                  · have hf := hf.trans (if_pos c61)
                    refine lv_iload hx hb dL_leavingIn_240 (lv_at hl 8 rfl) ?_
                    refine lv_iload hx hb dL_leavingIn_242 (lv_at hl 7 rfl) ?_
                    refine lv_iload hx hb dL_leavingIn_244 (lv_at hl 9 rfl) ?_
                    refine fS_i (as := [.int x5_47, .int (nI k149)]) (rest := [.int x6_149]) B hl.1 (c_L_isIn l D cI cZ (wC cI ad rc rl rh fr fw fc fg ps pg pr pd qp qt qf qo ct lE lC cand lim now was (nI sent) (nI qfi) (nI qsz)) x5_47 k149 (by omega)) (l_RL_28 hts ⟨rfl, rfl⟩ ⟨Nat.le_of_ble_eq_true rfl, Nat.le_of_ble_eq_true rfl⟩) m_8_12 rfl rfl hP hD hS hA rfl (Nat.le_of_ble_eq_true rfl) dL_leavingIn_246 (fun H locs hP hD hS => ?_)
                    refine r_if_eq_b (tgt := 266) hx hb dL_leavingIn_249 (by decide) (fun c => absurd c61 c) (fun _ => ?_)
                    refine lv_iload hx hb dL_leavingIn_252 (lv_at hl 0 rfl) ?_
                    refine r_if_ne_b (tgt := 266) hx hb dL_leavingIn_254 (by decide) (fun _ => ?_) (fun c => absurd c57 c)
                    refine lv_iconst (v := nI 0) hx hb dL_leavingIn_266 (by decide) ?_
                    refine lv_iadd hx hb dL_leavingIn_267 ?_
                    refine lv_istore (lv' := [(6, .int (x6_149 + (nI 0))), (9, .int (bI (f_L_isIn (fw ((4 + (g * 10)) + src)) k149))), (8, .int (f_L_below k149 src g fc)), (0, .ref (ad 0)), (1, .int (nI src)), (2, .int (nI g)), (3, .int (nI src)), (4, .int (fw ((4 + (g * 10)) + src))), (5, .int x5_47), (7, .int (nI k149))]) hx hb dL_leavingIn_268 hl (by decide) rfl (fun ls hl => ?_)
                    refine lv_iinc (v := nI (k149 + 1)) (lv' := [(7, .int (nI (k149 + 1))), (6, .int (x6_149 + (nI 0))), (9, .int (bI (f_L_isIn (fw ((4 + (g * 10)) + src)) k149))), (8, .int (f_L_below k149 src g fc)), (0, .ref (ad 0)), (1, .int (nI src)), (2, .int (nI g)), (3, .int (nI src)), (4, .int (fw ((4 + (g * 10)) + src))), (5, .int x5_47)]) hx hb dL_leavingIn_270 hl (k := 9) rfl (nI_add _ _) (by decide) rfl (fun ls hl => ?_)
                    refine lv_goto (tgt := 149) hx hb dL_leavingIn_273 (by decide) ?_
                    exact ih149 (k149 + 1) (x6_149 + (nI 0)) (by omega) hf _ _ hP hD hS _ (lv_sub hl [4, 5, 6, 7, 8, 9, 1, 0] rfl)
                  · have hf := hf.trans (if_neg c61)
                    refine lv_iconst (v := -1) hx hb dL_leavingIn_238 (by decide) ?_
                    exact eI B hP hS ((congrArg (fun (u : Int32) => u) hf).symm) rfl dL_leavingIn_239
              · have hf := hf.trans (if_neg c58)
                refine lv_iload hx hb dL_leavingIn_213 (lv_at hl 7 rfl) ?_
                refine lv_iload hx hb dL_leavingIn_215 (lv_at hl 9 rfl) ?_
                refine fS_i (as := [.int x5_47, .int (nI k149)]) (rest := []) B hl.1 (c_L_isIn l D cI cZ (wC cI ad rc rl rh fr fw fc fg ps pg pr pd qp qt qf qo ct lE lC cand lim now was (nI sent) (nI qfi) (nI qsz)) x5_47 k149 (by omega)) (l_RL_28 hts ⟨rfl, rfl⟩ ⟨Nat.le_of_ble_eq_true rfl, Nat.le_of_ble_eq_true rfl⟩) m_8_12 rfl rfl hP hD hS hA rfl (Nat.le_of_ble_eq_true rfl) dL_leavingIn_217 (fun H locs hP hD hS => ?_)
                refine r_if_eq_b (tgt := 238) hx hb dL_leavingIn_220 (by decide) (fun c62 => ?_) (fun c62 => ?_)
                · have hf := hf.trans (if_neg c62)
                  refine lv_iconst (v := -1) hx hb dL_leavingIn_238 (by decide) ?_
                  exact eI B hP hS ((congrArg (fun (u : Int32) => u) hf).symm) rfl dL_leavingIn_239
                · have hf := hf.trans (if_pos c62)
                  refine lv_iload hx hb dL_leavingIn_223 (lv_at hl 1 rfl) ?_
                  refine lv_if_eq (tgt := 240) hx hb dL_leavingIn_225 (by decide) (fun c63 => ?_) (fun c63 => ?_)
                  · have hf := hf.trans (if_pos c63)
                    refine lv_iload hx hb dL_leavingIn_240 (lv_at hl 8 rfl) ?_
                    refine lv_iload hx hb dL_leavingIn_242 (lv_at hl 7 rfl) ?_
                    refine lv_iload hx hb dL_leavingIn_244 (lv_at hl 9 rfl) ?_
                    refine fS_i (as := [.int x5_47, .int (nI k149)]) (rest := [.int x6_149]) B hl.1 (c_L_isIn l D cI cZ (wC cI ad rc rl rh fr fw fc fg ps pg pr pd qp qt qf qo ct lE lC cand lim now was (nI sent) (nI qfi) (nI qsz)) x5_47 k149 (by omega)) (l_RL_28 hts ⟨rfl, rfl⟩ ⟨Nat.le_of_ble_eq_true rfl, Nat.le_of_ble_eq_true rfl⟩) m_8_12 rfl rfl hP hD hS hA rfl (Nat.le_of_ble_eq_true rfl) dL_leavingIn_246 (fun H locs hP hD hS => ?_)
                    refine r_if_eq_b (tgt := 266) hx hb dL_leavingIn_249 (by decide) (fun c => absurd c62 c) (fun _ => ?_)
                    refine lv_iload hx hb dL_leavingIn_252 (lv_at hl 0 rfl) ?_
                    refine r_if_ne_b (tgt := 266) hx hb dL_leavingIn_254 (by decide) (fun _ => ?_) (fun c => absurd c57 c)
                    refine lv_iconst (v := nI 0) hx hb dL_leavingIn_266 (by decide) ?_
                    refine lv_iadd hx hb dL_leavingIn_267 ?_
                    refine lv_istore (lv' := [(6, .int (x6_149 + (nI 0))), (9, .int (bI (f_L_isIn (fw ((4 + (g * 10)) + src)) k149))), (8, .int (f_L_below k149 src g fc)), (0, .ref (ad 0)), (1, .int (nI src)), (2, .int (nI g)), (3, .int (nI src)), (4, .int (fw ((4 + (g * 10)) + src))), (5, .int x5_47), (7, .int (nI k149))]) hx hb dL_leavingIn_268 hl (by decide) rfl (fun ls hl => ?_)
                    refine lv_iinc (v := nI (k149 + 1)) (lv' := [(7, .int (nI (k149 + 1))), (6, .int (x6_149 + (nI 0))), (9, .int (bI (f_L_isIn (fw ((4 + (g * 10)) + src)) k149))), (8, .int (f_L_below k149 src g fc)), (0, .ref (ad 0)), (1, .int (nI src)), (2, .int (nI g)), (3, .int (nI src)), (4, .int (fw ((4 + (g * 10)) + src))), (5, .int x5_47)]) hx hb dL_leavingIn_270 hl (k := 9) rfl (nI_add _ _) (by decide) rfl (fun ls hl => ?_)
                    refine lv_goto (tgt := 149) hx hb dL_leavingIn_273 (by decide) ?_
                    exact ih149 (k149 + 1) (x6_149 + (nI 0)) (by omega) hf _ _ hP hD hS _ (lv_sub hl [4, 5, 6, 7, 8, 9, 1, 0] rfl)
                  · have hf := hf.trans (if_neg c63)
                    refine lv_iload hx hb dL_leavingIn_228 (lv_at hl 7 rfl) ?_
                    refine lv_iload hx hb dL_leavingIn_230 (lv_at hl 9 rfl) ?_
                    refine fS_i (as := [.int x5_47, .int (nI k149)]) (rest := []) B hl.1 (c_L_isIn l D cI cZ (wC cI ad rc rl rh fr fw fc fg ps pg pr pd qp qt qf qo ct lE lC cand lim now was (nI sent) (nI qfi) (nI qsz)) x5_47 k149 (by omega)) (l_RL_28 hts ⟨rfl, rfl⟩ ⟨Nat.le_of_ble_eq_true rfl, Nat.le_of_ble_eq_true rfl⟩) m_8_12 rfl rfl hP hD hS hA rfl (Nat.le_of_ble_eq_true rfl) dL_leavingIn_232 (fun H locs hP hD hS => ?_)
                    refine r_if_ne_b (tgt := 240) hx hb dL_leavingIn_235 (by decide) (fun _ => ?_) (fun c => absurd c62 c)
                    refine lv_iload hx hb dL_leavingIn_240 (lv_at hl 8 rfl) ?_
                    refine lv_iload hx hb dL_leavingIn_242 (lv_at hl 7 rfl) ?_
                    refine lv_iload hx hb dL_leavingIn_244 (lv_at hl 9 rfl) ?_
                    refine fS_i (as := [.int x5_47, .int (nI k149)]) (rest := [.int x6_149]) B hl.1 (c_L_isIn l D cI cZ (wC cI ad rc rl rh fr fw fc fg ps pg pr pd qp qt qf qo ct lE lC cand lim now was (nI sent) (nI qfi) (nI qsz)) x5_47 k149 (by omega)) (l_RL_28 hts ⟨rfl, rfl⟩ ⟨Nat.le_of_ble_eq_true rfl, Nat.le_of_ble_eq_true rfl⟩) m_8_12 rfl rfl hP hD hS hA rfl (Nat.le_of_ble_eq_true rfl) dL_leavingIn_246 (fun H locs hP hD hS => ?_)
                    refine r_if_eq_b (tgt := 266) hx hb dL_leavingIn_249 (by decide) (fun c => absurd c62 c) (fun _ => ?_)
                    refine lv_iload hx hb dL_leavingIn_252 (lv_at hl 0 rfl) ?_
                    refine r_if_ne_b (tgt := 266) hx hb dL_leavingIn_254 (by decide) (fun _ => ?_) (fun c => absurd c57 c)
                    refine lv_iconst (v := nI 0) hx hb dL_leavingIn_266 (by decide) ?_
                    refine lv_iadd hx hb dL_leavingIn_267 ?_
                    refine lv_istore (lv' := [(6, .int (x6_149 + (nI 0))), (9, .int (bI (f_L_isIn (fw ((4 + (g * 10)) + src)) k149))), (8, .int (f_L_below k149 src g fc)), (0, .ref (ad 0)), (1, .int (nI src)), (2, .int (nI g)), (3, .int (nI src)), (4, .int (fw ((4 + (g * 10)) + src))), (5, .int x5_47), (7, .int (nI k149))]) hx hb dL_leavingIn_268 hl (by decide) rfl (fun ls hl => ?_)
                    refine lv_iinc (v := nI (k149 + 1)) (lv' := [(7, .int (nI (k149 + 1))), (6, .int (x6_149 + (nI 0))), (9, .int (bI (f_L_isIn (fw ((4 + (g * 10)) + src)) k149))), (8, .int (f_L_below k149 src g fc)), (0, .ref (ad 0)), (1, .int (nI src)), (2, .int (nI g)), (3, .int (nI src)), (4, .int (fw ((4 + (g * 10)) + src))), (5, .int x5_47)]) hx hb dL_leavingIn_270 hl (k := 9) rfl (nI_add _ _) (by decide) rfl (fun ls hl => ?_)
                    refine lv_goto (tgt := 149) hx hb dL_leavingIn_273 (by decide) ?_
                    exact ih149 (k149 + 1) (x6_149 + (nI 0)) (by omega) hf _ _ hP hD hS _ (lv_sub hl [4, 5, 6, 7, 8, 9, 1, 0] rfl)
          · have hf := hf.trans (if_pos c55)
            refine lv_iload hx hb dL_leavingIn_185 (lv_at hl 7 rfl) ?_
            refine lv_iload hx hb dL_leavingIn_187 (lv_at hl 9 rfl) ?_
            refine fS_i (as := [.int x5_47, .int (nI k149)]) (rest := []) B hl.1 (c_L_isIn l D cI cZ (wC cI ad rc rl rh fr fw fc fg ps pg pr pd qp qt qf qo ct lE lC cand lim now was (nI sent) (nI qfi) (nI qsz)) x5_47 k149 (by omega)) (l_RL_28 hts ⟨rfl, rfl⟩ ⟨Nat.le_of_ble_eq_true rfl, Nat.le_of_ble_eq_true rfl⟩) m_8_12 rfl rfl hP hD hS hA rfl (Nat.le_of_ble_eq_true rfl) dL_leavingIn_189 (fun H locs hP hD hS => ?_)
            refine r_if_eq_b (tgt := 240) hx hb dL_leavingIn_192 (by decide) (fun c56 => ?_) (fun c56 => ?_)
            · have hf := hf.trans (if_neg c56)
              refine lv_iload hx hb dL_leavingIn_240 (lv_at hl 8 rfl) ?_
              refine lv_iload hx hb dL_leavingIn_242 (lv_at hl 7 rfl) ?_
              refine lv_iload hx hb dL_leavingIn_244 (lv_at hl 9 rfl) ?_
              refine fS_i (as := [.int x5_47, .int (nI k149)]) (rest := [.int x6_149]) B hl.1 (c_L_isIn l D cI cZ (wC cI ad rc rl rh fr fw fc fg ps pg pr pd qp qt qf qo ct lE lC cand lim now was (nI sent) (nI qfi) (nI qsz)) x5_47 k149 (by omega)) (l_RL_28 hts ⟨rfl, rfl⟩ ⟨Nat.le_of_ble_eq_true rfl, Nat.le_of_ble_eq_true rfl⟩) m_8_12 rfl rfl hP hD hS hA rfl (Nat.le_of_ble_eq_true rfl) dL_leavingIn_246 (fun H locs hP hD hS => ?_)
              refine r_if_eq_b (tgt := 266) hx hb dL_leavingIn_249 (by decide) (fun _ => ?_) (fun c => absurd c c56)
              refine lv_iconst (v := nI 0) hx hb dL_leavingIn_266 (by decide) ?_
              refine lv_iadd hx hb dL_leavingIn_267 ?_
              refine lv_istore (lv' := [(6, .int (x6_149 + (nI 0))), (9, .int (bI (f_L_isIn (fw ((4 + (g * 10)) + src)) k149))), (8, .int (f_L_below k149 src g fc)), (0, .ref (ad 0)), (1, .int (nI src)), (2, .int (nI g)), (3, .int (nI src)), (4, .int (fw ((4 + (g * 10)) + src))), (5, .int x5_47), (7, .int (nI k149))]) hx hb dL_leavingIn_268 hl (by decide) rfl (fun ls hl => ?_)
              refine lv_iinc (v := nI (k149 + 1)) (lv' := [(7, .int (nI (k149 + 1))), (6, .int (x6_149 + (nI 0))), (9, .int (bI (f_L_isIn (fw ((4 + (g * 10)) + src)) k149))), (8, .int (f_L_below k149 src g fc)), (0, .ref (ad 0)), (1, .int (nI src)), (2, .int (nI g)), (3, .int (nI src)), (4, .int (fw ((4 + (g * 10)) + src))), (5, .int x5_47)]) hx hb dL_leavingIn_270 hl (k := 9) rfl (nI_add _ _) (by decide) rfl (fun ls hl => ?_)
              refine lv_goto (tgt := 149) hx hb dL_leavingIn_273 (by decide) ?_
              exact ih149 (k149 + 1) (x6_149 + (nI 0)) (by omega) hf _ _ hP hD hS _ (lv_sub hl [4, 5, 6, 7, 8, 9, 1, 0] rfl)
            · have hf := hf.trans (if_pos c56)
              refine lv_goto (tgt := 238) hx hb dL_leavingIn_195 (by decide) ?_
              refine lv_iconst (v := -1) hx hb dL_leavingIn_238 (by decide) ?_
              exact eI B hP hS ((congrArg (fun (u : Int32) => u) hf).symm) rfl dL_leavingIn_239
      exact L149 10 0 (nI 0) (by omega) hf _ _ hP hD hS _ (lv_sub hl [1, 2, 3, 4, 5, 6, 7, 0] rfl)
    | succ n47 ih47 =>
      intro k47 x5_47 hk47 hf H locs hP hD hS ls hl
      rw [f_L_leavingIn_s_L47] at hf
      have hl : lv_has ls 10 [(0, .ref (ad 0)), (1, .int (nI src)), (2, .int (nI g)), (3, .int (nI src)), (4, .int (fw ((4 + (g * 10)) + src))), (5, .int x5_47), (6, .int (nI 0)), (7, .int (nI k47))] := hl
      refine lv_iload hx hb dL_leavingIn_47 (lv_at hl 7 rfl) ?_
      refine lv_bipush (v := nI 10) hx hb dL_leavingIn_49 (by decide) ?_
      refine r_icmp_ge (tgt := 146) hx hb (by omega) (by omega) dL_leavingIn_51 (by decide) (fun c => absurd c (by omega)) (fun _ => ?_)
      refine lv_aload_n hx hb dL_leavingIn_54 rfl (lv_at hl 0 rfl) ?_
      refine lv_iload hx hb dL_leavingIn_55 (lv_at hl 7 rfl) ?_
      refine lv_iload_n hx hb dL_leavingIn_57 rfl (lv_at hl 1 rfl) ?_
      refine lv_iload_n hx hb dL_leavingIn_58 rfl (lv_at hl 2 rfl) ?_
      refine fS_i (as := [.ref (ad 0), .int (nI k47), .int (nI src), .int (nI g)]) (rest := []) B hl.1 (c_L_below l D cI cZ ad rc rl rh fr fw fc fg ps pg pr pd qp qt qf qo ct lE lC cand lim now was sent qfi qsz k47 src g (by omega) (by omega) (by omega)) (l_RL_49 hts ⟨rfl, rfl⟩ ⟨Nat.le_of_ble_eq_true rfl, Nat.le_of_ble_eq_true rfl⟩) m_21_5 rfl rfl hP hD hS hA wfC (Nat.le_of_ble_eq_true rfl) dL_leavingIn_59 (fun H locs hP hD hS => ?_)
      refine lv_istore (lv' := [(8, .int (f_L_below k47 src g fc)), (0, .ref (ad 0)), (1, .int (nI src)), (2, .int (nI g)), (3, .int (nI src)), (4, .int (fw ((4 + (g * 10)) + src))), (5, .int x5_47), (6, .int (nI 0)), (7, .int (nI k47))]) hx hb dL_leavingIn_62 hl (by decide) rfl (fun ls hl => ?_)
      refine lv_iload hx hb dL_leavingIn_64 (lv_at hl 0 rfl) ?_
      refine lv_iload hx hb dL_leavingIn_66 (lv_at hl 6 rfl) ?_
      refine lv_iand hx hb dL_leavingIn_68 ?_
      refine lv_if_ne (tgt := 91) hx hb dL_leavingIn_69 (by decide) (fun c67 => ?_) (fun c67 => ?_)
      · have hf := hf.trans (if_neg c67)
        refine lv_iconst (v := -1) hx hb dL_leavingIn_91 (by decide) ?_
        exact eI B hP hS ((congrArg (fun (u : Int32) => u) hf).symm) rfl dL_leavingIn_92
      · have hf := hf.trans (if_pos c67)
        refine lv_iload hx hb dL_leavingIn_72 (lv_at hl 0 rfl) ?_
        refine lv_iload hx hb dL_leavingIn_74 (lv_at hl 8 rfl) ?_
        refine fS_i (as := [.int (f_L_below k47 src g fc), .int (nI k47)]) (rest := []) B hl.1 (c_L_isIn l D cI cZ (wC cI ad rc rl rh fr fw fc fg ps pg pr pd qp qt qf qo ct lE lC cand lim now was (nI sent) (nI qfi) (nI qsz)) (f_L_below k47 src g fc) k47 (by omega)) (l_RL_28 hts ⟨rfl, rfl⟩ ⟨Nat.le_of_ble_eq_true rfl, Nat.le_of_ble_eq_true rfl⟩) m_8_12 rfl rfl hP hD hS hA rfl (Nat.le_of_ble_eq_true rfl) dL_leavingIn_76 (fun H locs hP hD hS => ?_)
        refine r_if_ne_b (tgt := 91) hx hb dL_leavingIn_79 (by decide) (fun c68 => ?_) (fun c68 => ?_)
        · have hf := hf.trans (if_pos c68)
          refine lv_iconst (v := -1) hx hb dL_leavingIn_91 (by decide) ?_
          exact eI B hP hS ((congrArg (fun (u : Int32) => u) hf).symm) rfl dL_leavingIn_92
        · have hf := hf.trans (if_neg c68)
          refine lv_iload_n hx hb dL_leavingIn_82 rfl (lv_at hl 4 rfl) ?_
          refine lv_if_ge (tgt := 93) hx hb dL_leavingIn_83 (by decide) (fun c69 => ?_) (fun c69 => ?_)
          · have hf := hf.trans (if_pos c69)
            refine lv_iload hx hb dL_leavingIn_93 (lv_at hl 6 rfl) ?_
            refine lv_iload hx hb dL_leavingIn_95 (lv_at hl 0 rfl) ?_
            refine lv_ior hx hb dL_leavingIn_97 ?_
            refine lv_istore (lv' := [(5, .int (x5_47 ||| (f_L_below k47 src g fc))), (8, .int (f_L_below k47 src g fc)), (0, .ref (ad 0)), (1, .int (nI src)), (2, .int (nI g)), (3, .int (nI src)), (4, .int (fw ((4 + (g * 10)) + src))), (6, .int (nI 0)), (7, .int (nI k47))]) hx hb dL_leavingIn_98 hl (by decide) rfl (fun ls hl => ?_)
            refine lv_iconst (v := nI 0) hx hb dL_leavingIn_100 (by decide) ?_
            refine lv_istore (lv' := [(9, .int (nI 0)), (5, .int (x5_47 ||| (f_L_below k47 src g fc))), (8, .int (f_L_below k47 src g fc)), (0, .ref (ad 0)), (1, .int (nI src)), (2, .int (nI g)), (3, .int (nI src)), (4, .int (fw ((4 + (g * 10)) + src))), (6, .int (nI 0)), (7, .int (nI k47))]) hx hb dL_leavingIn_101 hl (by decide) rfl (fun ls hl => ?_)
            have L103 : ∀ (n103 : Nat) (k103 : Nat), k103 + n103 = 10 → f_L_leavingIn_s src g rl rh fw fc = (if (f_L_leavingIn_s_L103 src g rh fc k47 n103 k103) = true then -1 else f_L_leavingIn_s_L47 src g rl rh fw fc n47 (k47 + 1) (x5_47 ||| (f_L_below k47 src g fc))) → ∀ (H : Heap) (locs : List Loc), va_P D vwCl (wC cI ad rc rl rh fr fw fc fg ps pg pr pd qp qt qf qo ct lE lC cand lim now was (nI sent) (nI qfi) (nI qsz)) H → va_D A (wC cI ad rc rl rh fr fw fc fg ps pg pr pd qp qt qf qo ct lE lC cand lim now was (nI sent) (nI qfi) (nI qsz)) → va_S A s.heap H locs → ∀ ls : Array Slot, lv_has ls 10 [(0, .ref (ad 0)), (1, .int (nI src)), (2, .int (nI g)), (3, .int (nI src)), (4, .int (fw ((4 + (g * 10)) + src))), (5, .int (x5_47 ||| (f_L_below k47 src g fc))), (6, .int (nI 0)), (7, .int (nI k47)), (8, .int (f_L_below k47 src g fc)), (9, .int (nI k103))] → W p l e { frames := 4, cells := 0, slots := 0, locals := 90 } s m [.ref (ad 0), .int (nI src), .int (nI g)].toArray below meth c H locs 0 0 (QI below s A D [.ref (ad 0), .int (nI src), .int (nI g)] (wC cI ad rc rl rh fr fw fc fg ps pg pr pd qp qt qf qo ct lE lC cand lim now was (nI sent) (nI qfi) (nI qsz)) (f_L_leavingIn_s src g rl rh fw fc)) (F0 m 103 ls []) := by
              intro n103
              induction n103 with
              | zero =>
                intro k103 hk103 hf H locs hP hD hS ls hl
                obtain rfl : 10 = k103 := by omega
                rw [f_L_leavingIn_s_L103] at hf
                (try dsimp only at hf)
                rw [if_neg Bool.false_ne_true] at hf
                have hl : lv_has ls 10 [(0, .ref (ad 0)), (1, .int (nI src)), (2, .int (nI g)), (3, .int (nI src)), (4, .int (fw ((4 + (g * 10)) + src))), (5, .int (x5_47 ||| (f_L_below k47 src g fc))), (6, .int (nI 0)), (7, .int (nI k47)), (8, .int (f_L_below k47 src g fc)), (9, .int (nI 10))] := hl
                refine lv_iload hx hb dL_leavingIn_103 (lv_at hl 9 rfl) ?_
                refine lv_bipush (v := nI 10) hx hb dL_leavingIn_105 (by decide) ?_
                refine r_icmp_ge (tgt := 140) hx hb (by omega) (by omega) dL_leavingIn_107 (by decide) (fun _ => ?_) (fun c => absurd c (by omega))
                refine lv_iinc (v := nI (k47 + 1)) (lv' := [(7, .int (nI (k47 + 1))), (0, .ref (ad 0)), (1, .int (nI src)), (2, .int (nI g)), (3, .int (nI src)), (4, .int (fw ((4 + (g * 10)) + src))), (5, .int (x5_47 ||| (f_L_below k47 src g fc))), (6, .int (nI 0)), (8, .int (f_L_below k47 src g fc)), (9, .int (nI 10))]) hx hb dL_leavingIn_140 hl (k := 7) rfl (nI_add _ _) (by decide) rfl (fun ls hl => ?_)
                refine lv_goto (tgt := 47) hx hb dL_leavingIn_143 (by decide) ?_
                exact ih47 (k47 + 1) (x5_47 ||| (f_L_below k47 src g fc)) (by omega) hf _ _ hP hD hS _ (lv_sub hl [1, 2, 3, 4, 5, 6, 7, 0] rfl)
              | succ n103 ih103 =>
                intro k103 hk103 hf H locs hP hD hS ls hl
                rw [f_L_leavingIn_s_L103] at hf
                have hl : lv_has ls 10 [(0, .ref (ad 0)), (1, .int (nI src)), (2, .int (nI g)), (3, .int (nI src)), (4, .int (fw ((4 + (g * 10)) + src))), (5, .int (x5_47 ||| (f_L_below k47 src g fc))), (6, .int (nI 0)), (7, .int (nI k47)), (8, .int (f_L_below k47 src g fc)), (9, .int (nI k103))] := hl
                refine lv_iload hx hb dL_leavingIn_103 (lv_at hl 9 rfl) ?_
                refine lv_bipush (v := nI 10) hx hb dL_leavingIn_105 (by decide) ?_
                refine r_icmp_ge (tgt := 140) hx hb (by omega) (by omega) dL_leavingIn_107 (by decide) (fun c => absurd c (by omega)) (fun _ => ?_)
                refine lv_iload hx hb dL_leavingIn_110 (lv_at hl 8 rfl) ?_
                refine lv_iload hx hb dL_leavingIn_112 (lv_at hl 9 rfl) ?_
                refine fS_i (as := [.int (f_L_below k47 src g fc), .int (nI k103)]) (rest := []) B hl.1 (c_L_isIn l D cI cZ (wC cI ad rc rl rh fr fw fc fg ps pg pr pd qp qt qf qo ct lE lC cand lim now was (nI sent) (nI qfi) (nI qsz)) (f_L_below k47 src g fc) k103 (by omega)) (l_RL_28 hts ⟨rfl, rfl⟩ ⟨Nat.le_of_ble_eq_true rfl, Nat.le_of_ble_eq_true rfl⟩) m_8_12 rfl rfl hP hD hS hA rfl (Nat.le_of_ble_eq_true rfl) dL_leavingIn_114 (fun H locs hP hD hS => ?_)
                refine r_if_eq_b (tgt := 134) hx hb dL_leavingIn_117 (by decide) (fun c73 => ?_) (fun c73 => ?_)
                · rw [if_neg c73] at hf
                  refine lv_iinc (v := nI (k103 + 1)) (lv' := [(9, .int (nI (k103 + 1))), (0, .ref (ad 0)), (1, .int (nI src)), (2, .int (nI g)), (3, .int (nI src)), (4, .int (fw ((4 + (g * 10)) + src))), (5, .int (x5_47 ||| (f_L_below k47 src g fc))), (6, .int (nI 0)), (7, .int (nI k47)), (8, .int (f_L_below k47 src g fc))]) hx hb dL_leavingIn_134 hl (k := 9) rfl (nI_add _ _) (by decide) rfl (fun ls hl => ?_)
                  refine lv_goto (tgt := 103) hx hb dL_leavingIn_137 (by decide) ?_
                  exact ih103 (k103 + 1) (by omega) hf _ _ hP hD hS _ (lv_sub hl [1, 2, 3, 4, 5, 6, 7, 8, 9, 0] rfl)
                · rw [if_pos c73] at hf
                  refine lv_aload_n hx hb dL_leavingIn_120 rfl (lv_at hl 0 rfl) ?_
                  refine lv_iload hx hb dL_leavingIn_121 (lv_at hl 9 rfl) ?_
                  refine lv_iload_n hx hb dL_leavingIn_123 rfl (lv_at hl 3 rfl) ?_
                  refine fV_i (ci := 5) (as := [.int (nI k103), .int (nI src)]) (rest := []) B hl.1 (c_X5_nextHop l D cI cZ ad rc rl rh fr fw fc fg ps pg pr pd qp qt qf qo ct lE lC cand lim now was sent qfi qsz k103 src (by omega) (by omega)) rfl (l_RL_21 hts ⟨rfl, rfl⟩ ⟨Nat.le_of_ble_eq_true rfl, Nat.le_of_ble_eq_true rfl⟩) m_20_12 m_20_13 rfl rfl hP hD hS hA 0 rfl wfC (Nat.le_of_ble_eq_true rfl) dL_leavingIn_124 (fun H locs hP hD hS => ?_)
                  refine lv_iload hx hb dL_leavingIn_127 (lv_at hl 7 rfl) ?_
                  refine lv_icmp_eq (tgt := 134) hx hb dL_leavingIn_129 (by decide) (fun c74 => ?_) (fun c74 => ?_)
                  · rw [if_pos c74] at hf
                    refine lv_iinc (v := nI (k103 + 1)) (lv' := [(9, .int (nI (k103 + 1))), (0, .ref (ad 0)), (1, .int (nI src)), (2, .int (nI g)), (3, .int (nI src)), (4, .int (fw ((4 + (g * 10)) + src))), (5, .int (x5_47 ||| (f_L_below k47 src g fc))), (6, .int (nI 0)), (7, .int (nI k47)), (8, .int (f_L_below k47 src g fc))]) hx hb dL_leavingIn_134 hl (k := 9) rfl (nI_add _ _) (by decide) rfl (fun ls hl => ?_)
                    refine lv_goto (tgt := 103) hx hb dL_leavingIn_137 (by decide) ?_
                    exact ih103 (k103 + 1) (by omega) hf _ _ hP hD hS _ (lv_sub hl [1, 2, 3, 4, 5, 6, 7, 8, 9, 0] rfl)
                  · rw [if_neg c74] at hf
                    (try dsimp only at hf)
                    rw [if_pos rfl] at hf
                    refine lv_iconst (v := -1) hx hb dL_leavingIn_132 (by decide) ?_
                    exact eI B hP hS ((congrArg (fun (u : Int32) => u) hf).symm) rfl dL_leavingIn_133
            exact L103 10 0 (by omega) hf _ _ hP hD hS _ (lv_sub hl [3, 4, 5, 6, 7, 1, 8, 9, 2, 0] rfl)
          · have hf := hf.trans (if_neg c69)
            refine lv_iload hx hb dL_leavingIn_86 (lv_at hl 0 rfl) ?_
            refine lv_if_eq (tgt := 93) hx hb dL_leavingIn_88 (by decide) (fun c75 => ?_) (fun c75 => ?_)
            · have hf := hf.trans (if_pos c75)
              refine lv_iload hx hb dL_leavingIn_93 (lv_at hl 6 rfl) ?_
              refine lv_iload hx hb dL_leavingIn_95 (lv_at hl 0 rfl) ?_
              refine lv_ior hx hb dL_leavingIn_97 ?_
              refine lv_istore (lv' := [(5, .int (x5_47 ||| (f_L_below k47 src g fc))), (8, .int (f_L_below k47 src g fc)), (0, .ref (ad 0)), (1, .int (nI src)), (2, .int (nI g)), (3, .int (nI src)), (4, .int (fw ((4 + (g * 10)) + src))), (6, .int (nI 0)), (7, .int (nI k47))]) hx hb dL_leavingIn_98 hl (by decide) rfl (fun ls hl => ?_)
              refine lv_iconst (v := nI 0) hx hb dL_leavingIn_100 (by decide) ?_
              refine lv_istore (lv' := [(9, .int (nI 0)), (5, .int (x5_47 ||| (f_L_below k47 src g fc))), (8, .int (f_L_below k47 src g fc)), (0, .ref (ad 0)), (1, .int (nI src)), (2, .int (nI g)), (3, .int (nI src)), (4, .int (fw ((4 + (g * 10)) + src))), (6, .int (nI 0)), (7, .int (nI k47))]) hx hb dL_leavingIn_101 hl (by decide) rfl (fun ls hl => ?_)
              have L103 : ∀ (n103 : Nat) (k103 : Nat), k103 + n103 = 10 → f_L_leavingIn_s src g rl rh fw fc = (if (f_L_leavingIn_s_L103 src g rh fc k47 n103 k103) = true then -1 else f_L_leavingIn_s_L47 src g rl rh fw fc n47 (k47 + 1) (x5_47 ||| (f_L_below k47 src g fc))) → ∀ (H : Heap) (locs : List Loc), va_P D vwCl (wC cI ad rc rl rh fr fw fc fg ps pg pr pd qp qt qf qo ct lE lC cand lim now was (nI sent) (nI qfi) (nI qsz)) H → va_D A (wC cI ad rc rl rh fr fw fc fg ps pg pr pd qp qt qf qo ct lE lC cand lim now was (nI sent) (nI qfi) (nI qsz)) → va_S A s.heap H locs → ∀ ls : Array Slot, lv_has ls 10 [(0, .ref (ad 0)), (1, .int (nI src)), (2, .int (nI g)), (3, .int (nI src)), (4, .int (fw ((4 + (g * 10)) + src))), (5, .int (x5_47 ||| (f_L_below k47 src g fc))), (6, .int (nI 0)), (7, .int (nI k47)), (8, .int (f_L_below k47 src g fc)), (9, .int (nI k103))] → W p l e { frames := 4, cells := 0, slots := 0, locals := 90 } s m [.ref (ad 0), .int (nI src), .int (nI g)].toArray below meth c H locs 0 0 (QI below s A D [.ref (ad 0), .int (nI src), .int (nI g)] (wC cI ad rc rl rh fr fw fc fg ps pg pr pd qp qt qf qo ct lE lC cand lim now was (nI sent) (nI qfi) (nI qsz)) (f_L_leavingIn_s src g rl rh fw fc)) (F0 m 103 ls []) := by
                intro n103
                induction n103 with
                | zero =>
                  intro k103 hk103 hf H locs hP hD hS ls hl
                  obtain rfl : 10 = k103 := by omega
                  rw [f_L_leavingIn_s_L103] at hf
                  (try dsimp only at hf)
                  rw [if_neg Bool.false_ne_true] at hf
                  have hl : lv_has ls 10 [(0, .ref (ad 0)), (1, .int (nI src)), (2, .int (nI g)), (3, .int (nI src)), (4, .int (fw ((4 + (g * 10)) + src))), (5, .int (x5_47 ||| (f_L_below k47 src g fc))), (6, .int (nI 0)), (7, .int (nI k47)), (8, .int (f_L_below k47 src g fc)), (9, .int (nI 10))] := hl
                  refine lv_iload hx hb dL_leavingIn_103 (lv_at hl 9 rfl) ?_
                  refine lv_bipush (v := nI 10) hx hb dL_leavingIn_105 (by decide) ?_
                  refine r_icmp_ge (tgt := 140) hx hb (by omega) (by omega) dL_leavingIn_107 (by decide) (fun _ => ?_) (fun c => absurd c (by omega))
                  refine lv_iinc (v := nI (k47 + 1)) (lv' := [(7, .int (nI (k47 + 1))), (0, .ref (ad 0)), (1, .int (nI src)), (2, .int (nI g)), (3, .int (nI src)), (4, .int (fw ((4 + (g * 10)) + src))), (5, .int (x5_47 ||| (f_L_below k47 src g fc))), (6, .int (nI 0)), (8, .int (f_L_below k47 src g fc)), (9, .int (nI 10))]) hx hb dL_leavingIn_140 hl (k := 7) rfl (nI_add _ _) (by decide) rfl (fun ls hl => ?_)
                  refine lv_goto (tgt := 47) hx hb dL_leavingIn_143 (by decide) ?_
                  exact ih47 (k47 + 1) (x5_47 ||| (f_L_below k47 src g fc)) (by omega) hf _ _ hP hD hS _ (lv_sub hl [1, 2, 3, 4, 5, 6, 7, 0] rfl)
                | succ n103 ih103 =>
                  intro k103 hk103 hf H locs hP hD hS ls hl
                  rw [f_L_leavingIn_s_L103] at hf
                  have hl : lv_has ls 10 [(0, .ref (ad 0)), (1, .int (nI src)), (2, .int (nI g)), (3, .int (nI src)), (4, .int (fw ((4 + (g * 10)) + src))), (5, .int (x5_47 ||| (f_L_below k47 src g fc))), (6, .int (nI 0)), (7, .int (nI k47)), (8, .int (f_L_below k47 src g fc)), (9, .int (nI k103))] := hl
                  refine lv_iload hx hb dL_leavingIn_103 (lv_at hl 9 rfl) ?_
                  refine lv_bipush (v := nI 10) hx hb dL_leavingIn_105 (by decide) ?_
                  refine r_icmp_ge (tgt := 140) hx hb (by omega) (by omega) dL_leavingIn_107 (by decide) (fun c => absurd c (by omega)) (fun _ => ?_)
                  refine lv_iload hx hb dL_leavingIn_110 (lv_at hl 8 rfl) ?_
                  refine lv_iload hx hb dL_leavingIn_112 (lv_at hl 9 rfl) ?_
                  refine fS_i (as := [.int (f_L_below k47 src g fc), .int (nI k103)]) (rest := []) B hl.1 (c_L_isIn l D cI cZ (wC cI ad rc rl rh fr fw fc fg ps pg pr pd qp qt qf qo ct lE lC cand lim now was (nI sent) (nI qfi) (nI qsz)) (f_L_below k47 src g fc) k103 (by omega)) (l_RL_28 hts ⟨rfl, rfl⟩ ⟨Nat.le_of_ble_eq_true rfl, Nat.le_of_ble_eq_true rfl⟩) m_8_12 rfl rfl hP hD hS hA rfl (Nat.le_of_ble_eq_true rfl) dL_leavingIn_114 (fun H locs hP hD hS => ?_)
                  refine r_if_eq_b (tgt := 134) hx hb dL_leavingIn_117 (by decide) (fun c79 => ?_) (fun c79 => ?_)
                  · rw [if_neg c79] at hf
                    refine lv_iinc (v := nI (k103 + 1)) (lv' := [(9, .int (nI (k103 + 1))), (0, .ref (ad 0)), (1, .int (nI src)), (2, .int (nI g)), (3, .int (nI src)), (4, .int (fw ((4 + (g * 10)) + src))), (5, .int (x5_47 ||| (f_L_below k47 src g fc))), (6, .int (nI 0)), (7, .int (nI k47)), (8, .int (f_L_below k47 src g fc))]) hx hb dL_leavingIn_134 hl (k := 9) rfl (nI_add _ _) (by decide) rfl (fun ls hl => ?_)
                    refine lv_goto (tgt := 103) hx hb dL_leavingIn_137 (by decide) ?_
                    exact ih103 (k103 + 1) (by omega) hf _ _ hP hD hS _ (lv_sub hl [1, 2, 3, 4, 5, 6, 7, 8, 9, 0] rfl)
                  · rw [if_pos c79] at hf
                    refine lv_aload_n hx hb dL_leavingIn_120 rfl (lv_at hl 0 rfl) ?_
                    refine lv_iload hx hb dL_leavingIn_121 (lv_at hl 9 rfl) ?_
                    refine lv_iload_n hx hb dL_leavingIn_123 rfl (lv_at hl 3 rfl) ?_
                    refine fV_i (ci := 5) (as := [.int (nI k103), .int (nI src)]) (rest := []) B hl.1 (c_X5_nextHop l D cI cZ ad rc rl rh fr fw fc fg ps pg pr pd qp qt qf qo ct lE lC cand lim now was sent qfi qsz k103 src (by omega) (by omega)) rfl (l_RL_21 hts ⟨rfl, rfl⟩ ⟨Nat.le_of_ble_eq_true rfl, Nat.le_of_ble_eq_true rfl⟩) m_20_12 m_20_13 rfl rfl hP hD hS hA 0 rfl wfC (Nat.le_of_ble_eq_true rfl) dL_leavingIn_124 (fun H locs hP hD hS => ?_)
                    refine lv_iload hx hb dL_leavingIn_127 (lv_at hl 7 rfl) ?_
                    refine lv_icmp_eq (tgt := 134) hx hb dL_leavingIn_129 (by decide) (fun c80 => ?_) (fun c80 => ?_)
                    · rw [if_pos c80] at hf
                      refine lv_iinc (v := nI (k103 + 1)) (lv' := [(9, .int (nI (k103 + 1))), (0, .ref (ad 0)), (1, .int (nI src)), (2, .int (nI g)), (3, .int (nI src)), (4, .int (fw ((4 + (g * 10)) + src))), (5, .int (x5_47 ||| (f_L_below k47 src g fc))), (6, .int (nI 0)), (7, .int (nI k47)), (8, .int (f_L_below k47 src g fc))]) hx hb dL_leavingIn_134 hl (k := 9) rfl (nI_add _ _) (by decide) rfl (fun ls hl => ?_)
                      refine lv_goto (tgt := 103) hx hb dL_leavingIn_137 (by decide) ?_
                      exact ih103 (k103 + 1) (by omega) hf _ _ hP hD hS _ (lv_sub hl [1, 2, 3, 4, 5, 6, 7, 8, 9, 0] rfl)
                    · rw [if_neg c80] at hf
                      (try dsimp only at hf)
                      rw [if_pos rfl] at hf
                      refine lv_iconst (v := -1) hx hb dL_leavingIn_132 (by decide) ?_
                      exact eI B hP hS ((congrArg (fun (u : Int32) => u) hf).symm) rfl dL_leavingIn_133
              exact L103 10 0 (by omega) hf _ _ hP hD hS _ (lv_sub hl [3, 4, 5, 6, 7, 1, 8, 9, 2, 0] rfl)
            · have hf := hf.trans (if_neg c75)
              refine lv_iconst (v := -1) hx hb dL_leavingIn_91 (by decide) ?_
              exact eI B hP hS ((congrArg (fun (u : Int32) => u) hf).symm) rfl dL_leavingIn_92
  exact L47 10 0 (nI 0) (by omega) hf _ _ hP hD hS _ (lv_sub hl [5, 6, 7, 4, 3, 2, 1, 0] rfl)
def f_L_leavingIn (src g : Nat) (rl rh fr fw fc : Nat → Int32) : Int32 :=
  if src = 10 then (if fr g = -1 then f_L_leavingIn_n g fc else f_L_leavingIn_r g (fr g).toNatClampNeg rl rh fw fc) else f_L_leavingIn_s src g rl rh fw fc
set_option maxHeartbeats 4000000 in
theorem c_L_leavingIn (l : Launch) (D : va_G) (cI cZ : ClassId) (ad : Nat → Nat) (rc rl rh fr fw fc fg ps pg pr pd qp qt qf qo ct lE lC : Nat → Int32) (cand : Int32) (lim : Int32) (now : Int32) (was : Int32) (sent : Nat) (qfi : Nat) (qsz : Nat) (src g : Nat) (hsrc : src < 11) (hg : g < 4) (hfr : fr g = -1 ∨ ∃ o_ : Nat, o_ < 10 ∧ fr g = nI o_) : MI l yL_leavingIn cL_leavingIn 10 .int { frames := 4, cells := 0, slots := 0, locals := 90 } D (TY cI cZ) [.ref (ad 0), .int (nI src), .int (nI g)] (wC cI ad rc rl rh fr fw fc fg ps pg pr pd qp qt qf qo ct lE lC cand lim now was (nI sent) (nI qfi) (nI qsz)) (wC cI ad rc rl rh fr fw fc fg ps pg pr pd qp qt qf qo ct lE lC cand lim now was (nI sent) (nI qfi) (nI qsz)) (f_L_leavingIn src g rl rh fr fw fc) := by
  unfold f_L_leavingIn
  by_cases c : src = 10
  · subst c
    rw [if_pos rfl]
    by_cases c2 : fr g = -1
    · rw [if_pos c2]
      exact c_L_leavingIn_n l D cI cZ ad rc rl rh fr fw fc fg ps pg pr pd qp qt qf qo ct lE lC cand lim now was sent qfi qsz g hg c2
    · rw [if_neg c2]
      obtain ⟨o_, h1, h2⟩ := hfr.resolve_left c2
      rw [show (fr g).toNatClampNeg = o_ by rw [h2, nI_clamp (by omega)]]
      exact c_L_leavingIn_r l D cI cZ ad rc rl rh fr fw fc fg ps pg pr pd qp qt qf qo ct lE lC cand lim now was sent qfi qsz g o_ hg h1 h2
  · rw [if_neg c]
    exact c_L_leavingIn_s l D cI cZ ad rc rl rh fr fw fc fg ps pg pr pd qp qt qf qo ct lE lC cand lim now was sent qfi qsz src g (by omega) hg
def j_L_areTrees_44 (fg : Nat → Int32) (x1_4 : Int32) : Bool :=
  if (f_X2_leavingBranches fg) = x1_4 then true else false
def f_L_areTrees_L4 (rl : Nat → Int32) (rh : Nat → Int32) (fr : Nat → Int32) (fw : Nat → Int32) (fc : Nat → Int32) (fg : Nat → Int32) : Nat → Nat → Int32 → Bool
  | 0, _, x1_4 => j_L_areTrees_44 fg x1_4
  | n4 + 1, k4, x1_4 => if 0 ≤ (f_L_leavingIn (k4 % 11) (k4 / 11) rl rh fr fw fc) then f_L_areTrees_L4 rl rh fr fw fc fg n4 (k4 + 1) (x1_4 + (f_L_leavingIn (k4 % 11) (k4 / 11) rl rh fr fw fc)) else false
def f_L_areTrees (rl : Nat → Int32) (rh : Nat → Int32) (fr : Nat → Int32) (fw : Nat → Int32) (fc : Nat → Int32) (fg : Nat → Int32) : Bool :=
  f_L_areTrees_L4 rl rh fr fw fc fg 44 0 (nI 0)
set_option maxHeartbeats 4000000 in
set_option maxRecDepth 100000 in
theorem c_L_areTrees (l : Launch) (D : va_G) (cI cZ : ClassId) (ad : Nat → Nat) (rc rl rh fr fw fc fg ps pg pr pd qp qt qf qo ct lE lC : Nat → Int32) (cand : Int32) (lim : Int32) (now : Int32) (was : Int32) (sent : Nat) (qfi : Nat) (qsz : Nat) (hroots : ∀ g_ : Nat, g_ < 4 → fr g_ = -1 ∨ ∃ o_ : Nat, o_ < 10 ∧ fr g_ = nI o_) : MI l yL_areTrees cL_areTrees 4 .boolean { frames := 5, cells := 0, slots := 0, locals := 119 } D (TY cI cZ) [.ref (ad 0)] (wC cI ad rc rl rh fr fw fc fg ps pg pr pd qp qt qf qo ct lE lC cand lim now was (nI sent) (nI qfi) (nI qsz)) (wC cI ad rc rl rh fr fw fc fg ps pg pr pd qp qt qf qo ct lE lC cand lim now was (nI sent) (nI qfi) (nI qsz)) (bI (f_L_areTrees rl rh fr fw fc fg)) := by
  refine MI.mk ⟨rfl, rfl⟩ (by decide +kernel) (Nat.le_of_ble_eq_true rfl) ?_
  intro p e s m below meth c A ls B hA hP hD hS hl
  have hx := B.1
  have hb := B.2.1
  have hts := B.2.2.2.2.2.1
  have hN := B.2.2.2.2.2.2.2.1
  have hK := B.2.2.2.2.2.2.2.2.1
  have hl : lv_has ls 4 [(0, .ref (ad 0))] := hl
  have hf := f_L_areTrees.eq_1 rl rh fr fw fc fg
  refine lv_iconst (v := nI 0) hx hb dL_areTrees_0 (by decide) ?_
  refine lv_istore_n (lv' := [(1, .int (nI 0)), (0, .ref (ad 0))]) hx hb dL_areTrees_1 rfl hl (by decide) rfl (fun ls hl => ?_)
  refine lv_iconst (v := nI 0) hx hb dL_areTrees_2 (by decide) ?_
  refine lv_istore_n (lv' := [(2, .int (nI 0)), (1, .int (nI 0)), (0, .ref (ad 0))]) hx hb dL_areTrees_3 rfl hl (by decide) rfl (fun ls hl => ?_)
  have L4 : ∀ (n4 : Nat) (k4 : Nat) (x1_4 : Int32), k4 + n4 = 44 → f_L_areTrees rl rh fr fw fc fg = (f_L_areTrees_L4 rl rh fr fw fc fg n4 k4 x1_4) → ∀ (H : Heap) (locs : List Loc), va_P D vwCl (wC cI ad rc rl rh fr fw fc fg ps pg pr pd qp qt qf qo ct lE lC cand lim now was (nI sent) (nI qfi) (nI qsz)) H → va_D A (wC cI ad rc rl rh fr fw fc fg ps pg pr pd qp qt qf qo ct lE lC cand lim now was (nI sent) (nI qfi) (nI qsz)) → va_S A s.heap H locs → ∀ ls : Array Slot, lv_has ls 4 [(0, .ref (ad 0)), (1, .int x1_4), (2, .int (nI k4))] → W p l e { frames := 5, cells := 0, slots := 0, locals := 119 } s m [.ref (ad 0)].toArray below meth c H locs 0 0 (QI below s A D [.ref (ad 0)] (wC cI ad rc rl rh fr fw fc fg ps pg pr pd qp qt qf qo ct lE lC cand lim now was (nI sent) (nI qfi) (nI qsz)) (bI (f_L_areTrees rl rh fr fw fc fg))) (F0 m 4 ls []) := by
    intro n4
    induction n4 with
    | zero =>
      intro k4 x1_4 hk4 hf H locs hP hD hS ls hl
      obtain rfl : 44 = k4 := by omega
      rw [f_L_areTrees_L4] at hf
      have hl : lv_has ls 4 [(0, .ref (ad 0)), (1, .int x1_4), (2, .int (nI 44))] := hl
      refine lv_iload_n hx hb dL_areTrees_4 rfl (lv_at hl 2 rfl) ?_
      refine lv_bipush (v := nI 44) hx hb dL_areTrees_5 (by decide) ?_
      refine r_icmp_ge (tgt := 39) hx hb (by omega) (by omega) dL_areTrees_7 (by decide) (fun _ => ?_) (fun c => absurd c (by omega))
      refine lv_aload_n hx hb dL_areTrees_39 rfl (lv_at hl 0 rfl) ?_
      refine fV_i (ci := 5) (as := []) (rest := []) B hl.1 (c_X5_leaving l D cI cZ ad rc rl rh fr fw fc fg ps pg pr pd qp qt qf qo ct lE lC cand lim now was sent qfi qsz) rfl (l_RL_57 hts ⟨rfl, rfl⟩ ⟨Nat.le_of_ble_eq_true rfl, Nat.le_of_ble_eq_true rfl⟩) m_6_11 m_6_12 rfl rfl hP hD hS hA 0 rfl wfC (Nat.le_of_ble_eq_true rfl) dL_areTrees_40 (fun H locs hP hD hS => ?_)
      refine lv_iload_n hx hb dL_areTrees_43 rfl (lv_at hl 1 rfl) ?_
      have K44 : ∀ v44 : Bool, j_L_areTrees_44 fg x1_4 = v44 → ∀ (H : Heap) (locs : List Loc), va_P D vwCl (wC cI ad rc rl rh fr fw fc fg ps pg pr pd qp qt qf qo ct lE lC cand lim now was (nI sent) (nI qfi) (nI qsz)) H → va_D A (wC cI ad rc rl rh fr fw fc fg ps pg pr pd qp qt qf qo ct lE lC cand lim now was (nI sent) (nI qfi) (nI qsz)) → va_S A s.heap H locs → ∀ ls : Array Slot, lv_has ls 4 [(0, .ref (ad 0)), (1, .int x1_4), (2, .int (nI 44))] → W p l e { frames := 5, cells := 0, slots := 0, locals := 119 } s m [.ref (ad 0)].toArray below meth c H locs 0 0 (QI below s A D [.ref (ad 0)] (wC cI ad rc rl rh fr fw fc fg ps pg pr pd qp qt qf qo ct lE lC cand lim now was (nI sent) (nI qfi) (nI qsz)) (bI (f_L_areTrees rl rh fr fw fc fg))) (F0 m 52 ls [.int (bI v44)]) := by
        intro v44 hv44 H locs hP hD hS ls hl
        subst hv44
        exact eZ B hP hS (bI_nar _) ((congrArg (fun (u : Bool) => bI u) hf).symm) rfl dL_areTrees_52
      have hj44 := j_L_areTrees_44.eq_1 fg x1_4
      refine lv_icmp_ne (tgt := 51) hx hb dL_areTrees_44 (by decide) (fun c4 => ?_) (fun c4 => ?_)
      · have hj44 := hj44.trans (if_neg c4)
        refine lv_iconst (v := nI 0) hx hb dL_areTrees_51 (by decide) ?_
        exact K44 _ hj44 _ _ hP hD hS _ hl
      · have hj44 := hj44.trans (if_pos c4)
        refine lv_iconst (v := nI 1) hx hb dL_areTrees_47 (by decide) ?_
        refine lv_goto (tgt := 52) hx hb dL_areTrees_48 (by decide) ?_
        exact K44 _ hj44 _ _ hP hD hS _ hl
    | succ n4 ih4 =>
      intro k4 x1_4 hk4 hf H locs hP hD hS ls hl
      rw [f_L_areTrees_L4] at hf
      have hl : lv_has ls 4 [(0, .ref (ad 0)), (1, .int x1_4), (2, .int (nI k4))] := hl
      refine lv_iload_n hx hb dL_areTrees_4 rfl (lv_at hl 2 rfl) ?_
      refine lv_bipush (v := nI 44) hx hb dL_areTrees_5 (by decide) ?_
      refine r_icmp_ge (tgt := 39) hx hb (by omega) (by omega) dL_areTrees_7 (by decide) (fun c => absurd c (by omega)) (fun _ => ?_)
      refine lv_aload_n hx hb dL_areTrees_10 rfl (lv_at hl 0 rfl) ?_
      refine lv_iload_n hx hb dL_areTrees_11 rfl (lv_at hl 2 rfl) ?_
      refine lv_bipush (v := nI 11) hx hb dL_areTrees_12 (by decide) ?_
      refine r_irem hx hb (by omega) (by omega) (by omega) dL_areTrees_14 ?_
      refine lv_iload_n hx hb dL_areTrees_15 rfl (lv_at hl 2 rfl) ?_
      refine lv_bipush (v := nI 11) hx hb dL_areTrees_16 (by decide) ?_
      refine r_idiv hx hb (by omega) (by omega) (by omega) dL_areTrees_18 ?_
      refine fS_i (as := [.ref (ad 0), .int (nI (k4 % 11)), .int (nI (k4 / 11))]) (rest := []) B hl.1 (c_L_leavingIn l D cI cZ ad rc rl rh fr fw fc fg ps pg pr pd qp qt qf qo ct lE lC cand lim now was sent qfi qsz (k4 % 11) (k4 / 11) (by omega) (by omega) (hroots _ (by omega))) (l_RL_53 hts ⟨rfl, rfl⟩ ⟨Nat.le_of_ble_eq_true rfl, Nat.le_of_ble_eq_true rfl⟩) m_20_22 rfl rfl hP hD hS hA wfC (Nat.le_of_ble_eq_true rfl) dL_areTrees_19 (fun H locs hP hD hS => ?_)
      refine lv_istore_n (lv' := [(3, .int (f_L_leavingIn (k4 % 11) (k4 / 11) rl rh fr fw fc)), (0, .ref (ad 0)), (1, .int x1_4), (2, .int (nI k4))]) hx hb dL_areTrees_22 rfl hl (by decide) rfl (fun ls hl => ?_)
      refine lv_iload_n hx hb dL_areTrees_23 rfl (lv_at hl 0 rfl) ?_
      refine lv_if_ge (tgt := 29) hx hb dL_areTrees_24 (by decide) (fun c5 => ?_) (fun c5 => ?_)
      · have hf := hf.trans (if_pos c5)
        refine lv_iload_n hx hb dL_areTrees_29 rfl (lv_at hl 2 rfl) ?_
        refine lv_iload_n hx hb dL_areTrees_30 rfl (lv_at hl 0 rfl) ?_
        refine lv_iadd hx hb dL_areTrees_31 ?_
        refine lv_istore_n (lv' := [(1, .int (x1_4 + (f_L_leavingIn (k4 % 11) (k4 / 11) rl rh fr fw fc))), (3, .int (f_L_leavingIn (k4 % 11) (k4 / 11) rl rh fr fw fc)), (0, .ref (ad 0)), (2, .int (nI k4))]) hx hb dL_areTrees_32 rfl hl (by decide) rfl (fun ls hl => ?_)
        refine lv_iinc (v := nI (k4 + 1)) (lv' := [(2, .int (nI (k4 + 1))), (1, .int (x1_4 + (f_L_leavingIn (k4 % 11) (k4 / 11) rl rh fr fw fc))), (3, .int (f_L_leavingIn (k4 % 11) (k4 / 11) rl rh fr fw fc)), (0, .ref (ad 0))]) hx hb dL_areTrees_33 hl (k := 3) rfl (nI_add _ _) (by decide) rfl (fun ls hl => ?_)
        refine lv_goto (tgt := 4) hx hb dL_areTrees_36 (by decide) ?_
        exact ih4 (k4 + 1) (x1_4 + (f_L_leavingIn (k4 % 11) (k4 / 11) rl rh fr fw fc)) (by omega) hf _ _ hP hD hS _ (lv_sub hl [3, 1, 0] rfl)
      · have hf := hf.trans (if_neg c5)
        refine lv_iconst (v := nI 0) hx hb dL_areTrees_27 (by decide) ?_
        exact eZ B hP hS (by decide) ((congrArg (fun (u : Bool) => bI u) hf).symm) rfl dL_areTrees_28
  exact L4 44 0 (nI 0) (by omega) hf _ _ hP hD hS _ (lv_sub hl [2, 1, 0] rfl)
