def f_L_at (one : Nat) (other : Nat) : Nat :=
  if other ≤ one then ((one * (one - 1)) / 2) + other else ((other * (other - 1)) / 2) + one
theorem rb_L_at (one other : Nat) (h1 : one < 10) (h2 : other < 10) (hne : ¬ one = other) : 0 ≤ f_L_at one other ∧ f_L_at one other ≤ 44 := by
  have key : ∀ a, a < 10 → ∀ b, b < 10 → ¬ a = b → f_L_at a b ≤ 44 := by decide +kernel
  exact ⟨Nat.zero_le _, key one h1 other h2 hne⟩
set_option maxHeartbeats 4000000 in
set_option maxRecDepth 100000 in
theorem c_L_at (l : Launch) (D : va_G) (cI cZ : ClassId) (ws : va_W) (one : Nat) (other : Nat) (hone : one < 10) (hother : other < 10) (hne : ¬ one = other) : MI l yL_at cL_at 4 .int { frames := 0, cells := 0, slots := 0, locals := 0 } D (TY cI cZ) [.int (nI one), .int (nI other)] (ws) (ws) (nI (f_L_at one other)) := by
  refine MI.mk ⟨rfl, rfl⟩ (by decide +kernel) (Nat.le_of_ble_eq_true rfl) ?_
  intro p e s m below meth c A ls B hA hP hD hS hl
  have hx := B.1
  have hb := B.2.1
  have hts := B.2.2.2.2.2.1
  have hN := B.2.2.2.2.2.2.2.1
  have hK := B.2.2.2.2.2.2.2.2.1
  have hl : lv_has ls 4 [(0, .int (nI one)), (1, .int (nI other))] := hl
  have hf := f_L_at.eq_1 one other
  refine lv_iload_n hx hb dL_at_0 rfl (lv_at hl 0 rfl) ?_
  refine lv_iload_n hx hb dL_at_1 rfl (lv_at hl 1 rfl) ?_
  refine r_icmp_ge (tgt := 9) hx hb (by omega) (by omega) dL_at_2 (by decide) (fun c1 => ?_) (fun c1 => ?_)
  · have hf := hf.trans (if_pos c1)
    have hx1 : 1 ≤ one := by omega
    refine lv_iload_n hx hb dL_at_9 rfl (lv_at hl 1 rfl) ?_
    refine lv_istore_n (lv' := [(2, .int (nI other)), (0, .int (nI one)), (1, .int (nI other))]) hx hb dL_at_10 rfl hl (by decide) rfl (fun ls hl => ?_)
    refine lv_iload_n hx hb dL_at_11 rfl (lv_at hl 1 rfl) ?_
    refine lv_iload_n hx hb dL_at_12 rfl (lv_at hl 2 rfl) ?_
    refine r_icmp_ge (tgt := 20) hx hb (by omega) (by omega) dL_at_13 (by decide) (fun _ => ?_) (fun c => absurd c1 c)
    refine lv_iload_n hx hb dL_at_20 rfl (lv_at hl 1 rfl) ?_
    refine lv_istore_n (lv' := [(3, .int (nI one)), (2, .int (nI other)), (0, .int (nI one)), (1, .int (nI other))]) hx hb dL_at_21 rfl hl (by decide) rfl (fun ls hl => ?_)
    refine lv_iload_n hx hb dL_at_22 rfl (lv_at hl 0 rfl) ?_
    refine lv_iload_n hx hb dL_at_23 rfl (lv_at hl 0 rfl) ?_
    refine lv_iconst (v := nI 1) hx hb dL_at_24 (by decide) ?_
    refine r_isub hx hb (by omega) dL_at_25 ?_
    refine r_imul hx hb dL_at_26 ?_
    refine lv_iconst (v := nI 2) hx hb dL_at_27 (by decide) ?_
    refine r_idiv hx hb (Nat.lt_of_le_of_lt (Nat.mul_le_mul (show one ≤ 9 by omega) (show one - 1 ≤ 8 by omega)) (by decide)) (by omega) (by omega) dL_at_28 ?_
    refine lv_iload_n hx hb dL_at_29 rfl (lv_at hl 1 rfl) ?_
    refine r_iadd hx hb dL_at_30 ?_
    exact eI B hP hS ((congrArg (fun (u : Nat) => nI u) hf).symm) rfl dL_at_31
  · have hf := hf.trans (if_neg c1)
    refine lv_iload_n hx hb dL_at_5 rfl (lv_at hl 0 rfl) ?_
    refine lv_goto (tgt := 10) hx hb dL_at_6 (by decide) ?_
    refine lv_istore_n (lv' := [(2, .int (nI one)), (0, .int (nI one)), (1, .int (nI other))]) hx hb dL_at_10 rfl hl (by decide) rfl (fun ls hl => ?_)
    refine lv_iload_n hx hb dL_at_11 rfl (lv_at hl 1 rfl) ?_
    refine lv_iload_n hx hb dL_at_12 rfl (lv_at hl 2 rfl) ?_
    refine r_icmp_ge (tgt := 20) hx hb (by omega) (by omega) dL_at_13 (by decide) (fun c => absurd c c1) (fun _ => ?_)
    refine lv_iload_n hx hb dL_at_16 rfl (lv_at hl 2 rfl) ?_
    refine lv_goto (tgt := 21) hx hb dL_at_17 (by decide) ?_
    refine lv_istore_n (lv' := [(3, .int (nI other)), (2, .int (nI one)), (0, .int (nI one)), (1, .int (nI other))]) hx hb dL_at_21 rfl hl (by decide) rfl (fun ls hl => ?_)
    refine lv_iload_n hx hb dL_at_22 rfl (lv_at hl 0 rfl) ?_
    refine lv_iload_n hx hb dL_at_23 rfl (lv_at hl 0 rfl) ?_
    refine lv_iconst (v := nI 1) hx hb dL_at_24 (by decide) ?_
    refine r_isub hx hb (by omega) dL_at_25 ?_
    refine r_imul hx hb dL_at_26 ?_
    refine lv_iconst (v := nI 2) hx hb dL_at_27 (by decide) ?_
    refine r_idiv hx hb (Nat.lt_of_le_of_lt (Nat.mul_le_mul (show other ≤ 9 by omega) (show other - 1 ≤ 8 by omega)) (by decide)) (by omega) (by omega) dL_at_28 ?_
    refine lv_iload_n hx hb dL_at_29 rfl (lv_at hl 1 rfl) ?_
    refine r_iadd hx hb dL_at_30 ?_
    exact eI B hP hS ((congrArg (fun (u : Nat) => nI u) hf).symm) rfl dL_at_31
def j_L_cost_2 (one : Nat) (other : Nat) (lE : Nat → Int32) : Int32 :=
  if one = other then nI 0 else lE (f_L_at one other)
def f_L_cost (one : Nat) (other : Nat) (lE : Nat → Int32) : Int32 :=
  j_L_cost_2 one other lE
set_option maxHeartbeats 4000000 in
set_option maxRecDepth 100000 in
theorem c_L_cost (l : Launch) (D : va_G) (cI cZ : ClassId) (ad : Nat → Nat) (rc rl rh fr fw fc fg ps pg pr pd qp qt qf qo ct lE lC : Nat → Int32) (cand : Int32) (lim : Int32) (now : Int32) (was : Int32) (sent : Nat) (qfi : Nat) (qsz : Nat) (one : Nat) (other : Nat) (hone : one < 10) (hother : other < 10) : MI l yL_cost cL_cost 3 .int { frames := 1, cells := 0, slots := 0, locals := 23 } D (TY cI cZ) [.ref (ad 22), .int (nI one), .int (nI other)] (wC cI ad rc rl rh fr fw fc fg ps pg pr pd qp qt qf qo ct lE lC cand lim now was (nI sent) (nI qfi) (nI qsz)) (wC cI ad rc rl rh fr fw fc fg ps pg pr pd qp qt qf qo ct lE lC cand lim now was (nI sent) (nI qfi) (nI qsz)) (f_L_cost one other lE) := by
  refine MI.mk ⟨rfl, rfl⟩ (by decide +kernel) (Nat.le_of_ble_eq_true rfl) ?_
  intro p e s m below meth c A ls B hA hP hD hS hl
  have hx := B.1
  have hb := B.2.1
  have hts := B.2.2.2.2.2.1
  have hN := B.2.2.2.2.2.2.2.1
  have hK := B.2.2.2.2.2.2.2.2.1
  have hl : lv_has ls 3 [(0, .ref (ad 22)), (1, .int (nI one)), (2, .int (nI other))] := hl
  have hf := f_L_cost.eq_1 one other lE
  refine lv_iload_n hx hb dL_cost_0 rfl (lv_at hl 1 rfl) ?_
  refine lv_iload_n hx hb dL_cost_1 rfl (lv_at hl 2 rfl) ?_
  have K2 : ∀ v2 : Int32, j_L_cost_2 one other lE = v2 → ∀ (H : Heap) (locs : List Loc), va_P D vwCl (wC cI ad rc rl rh fr fw fc fg ps pg pr pd qp qt qf qo ct lE lC cand lim now was (nI sent) (nI qfi) (nI qsz)) H → va_D A (wC cI ad rc rl rh fr fw fc fg ps pg pr pd qp qt qf qo ct lE lC cand lim now was (nI sent) (nI qfi) (nI qsz)) → va_S A s.heap H locs → ∀ ls : Array Slot, lv_has ls 3 [(0, .ref (ad 22)), (1, .int (nI one)), (2, .int (nI other))] → W p l e { frames := 1, cells := 0, slots := 0, locals := 23 } s m [.ref (ad 22), .int (nI one), .int (nI other)].toArray below meth c H locs 0 0 (QI below s A D [.ref (ad 22), .int (nI one), .int (nI other)] (wC cI ad rc rl rh fr fw fc fg ps pg pr pd qp qt qf qo ct lE lC cand lim now was (nI sent) (nI qfi) (nI qsz)) (f_L_cost one other lE)) (F0 m 16 ls [.int v2]) := by
    intro v2 hv2 H locs hP hD hS ls hl
    subst hv2
    exact eI B hP hS ((congrArg (fun (u : Int32) => u) hf).symm) rfl dL_cost_16
  have hj2 := j_L_cost_2.eq_1 one other lE
  refine r_icmp_ne (tgt := 9) hx hb (by omega) (by omega) dL_cost_2 (by decide) (fun c1 => ?_) (fun c1 => ?_)
  · have hj2 := hj2.trans (if_neg c1)
    refine lv_aload_n hx hb dL_cost_9 rfl (lv_at hl 0 rfl) ?_
    refine lv_iload_n hx hb dL_cost_10 rfl (lv_at hl 1 rfl) ?_
    refine lv_iload_n hx hb dL_cost_11 rfl (lv_at hl 2 rfl) ?_
    refine fS_i (as := [.int (nI one), .int (nI other)]) (rest := [.ref (ad 22)]) B hl.1 (c_L_at l D cI cZ (wC cI ad rc rl rh fr fw fc fg ps pg pr pd qp qt qf qo ct lE lC cand lim now was (nI sent) (nI qfi) (nI qsz)) one other (by omega) (by omega) c1) (l_RL_10 hts ⟨rfl, rfl⟩ ⟨Nat.le_of_ble_eq_true rfl, Nat.le_of_ble_eq_true rfl⟩) m_6_8 rfl rfl hP hD hS hA rfl (Nat.le_of_ble_eq_true rfl) dL_cost_12 (fun H locs hP hD hS => ?_)
    have hq2 := rb_L_at one other (by omega) (by omega) c1
    refine r_iald hx hb hK hP 22 0 rfl rfl (by omega) (by decide) dL_cost_15 ?_
    exact K2 _ hj2 _ _ hP hD hS _ hl
  · have hj2 := hj2.trans (if_pos c1)
    refine lv_iconst (v := nI 0) hx hb dL_cost_5 (by decide) ?_
    refine lv_goto (tgt := 16) hx hb dL_cost_6 (by decide) ?_
    exact K2 _ hj2 _ _ hP hD hS _ hl
def f_L_many_L4 (set : Int32) : Nat → Nat → Int32 → Int32
  | 0, _, x1_4 => x1_4
  | n4 + 1, k4, x1_4 => f_L_many_L4 set n4 (k4 + 1) (x1_4 + ((set >>> ((nI k4) &&& 31)) &&& (nI 1)))
def f_L_many (set : Int32) : Int32 :=
  f_L_many_L4 set 10 0 (nI 0)
set_option maxHeartbeats 4000000 in
set_option maxRecDepth 100000 in
theorem c_L_many (l : Launch) (D : va_G) (cI cZ : ClassId) (ws : va_W) (set : Int32) : MI l yL_many cL_many 3 .int { frames := 0, cells := 0, slots := 0, locals := 0 } D (TY cI cZ) [.int set] (ws) (ws) (f_L_many set) := by
  refine MI.mk ⟨rfl, rfl⟩ (by decide +kernel) (Nat.le_of_ble_eq_true rfl) ?_
  intro p e s m below meth c A ls B hA hP hD hS hl
  have hx := B.1
  have hb := B.2.1
  have hts := B.2.2.2.2.2.1
  have hN := B.2.2.2.2.2.2.2.1
  have hK := B.2.2.2.2.2.2.2.2.1
  have hl : lv_has ls 3 [(0, .int set)] := hl
  have hf := f_L_many.eq_1 set
  refine lv_iconst (v := nI 0) hx hb dL_many_0 (by decide) ?_
  refine lv_istore_n (lv' := [(1, .int (nI 0)), (0, .int set)]) hx hb dL_many_1 rfl hl (by decide) rfl (fun ls hl => ?_)
  refine lv_iconst (v := nI 0) hx hb dL_many_2 (by decide) ?_
  refine lv_istore_n (lv' := [(2, .int (nI 0)), (1, .int (nI 0)), (0, .int set)]) hx hb dL_many_3 rfl hl (by decide) rfl (fun ls hl => ?_)
  have L4 : ∀ (n4 : Nat) (k4 : Nat) (x1_4 : Int32), k4 + n4 = 10 → f_L_many set = (f_L_many_L4 set n4 k4 x1_4) → ∀ (H : Heap) (locs : List Loc), va_P D vwCl (ws) H → va_D A (ws) → va_S A s.heap H locs → ∀ ls : Array Slot, lv_has ls 3 [(0, .int set), (1, .int x1_4), (2, .int (nI k4))] → W p l e { frames := 0, cells := 0, slots := 0, locals := 0 } s m [.int set].toArray below meth c H locs 0 0 (QI below s A D [.int set] (ws) (f_L_many set)) (F0 m 4 ls []) := by
    intro n4
    induction n4 with
    | zero =>
      intro k4 x1_4 hk4 hf H locs hP hD hS ls hl
      obtain rfl : 10 = k4 := by omega
      rw [f_L_many_L4] at hf
      have hl : lv_has ls 3 [(0, .int set), (1, .int x1_4), (2, .int (nI 10))] := hl
      refine lv_iload_n hx hb dL_many_4 rfl (lv_at hl 2 rfl) ?_
      refine lv_bipush (v := nI 10) hx hb dL_many_5 (by decide) ?_
      refine r_icmp_ge (tgt := 24) hx hb (by omega) (by omega) dL_many_7 (by decide) (fun _ => ?_) (fun c => absurd c (by omega))
      refine lv_iload_n hx hb dL_many_24 rfl (lv_at hl 1 rfl) ?_
      exact eI B hP hS ((congrArg (fun (u : Int32) => u) hf).symm) rfl dL_many_25
    | succ n4 ih4 =>
      intro k4 x1_4 hk4 hf H locs hP hD hS ls hl
      rw [f_L_many_L4] at hf
      have hl : lv_has ls 3 [(0, .int set), (1, .int x1_4), (2, .int (nI k4))] := hl
      refine lv_iload_n hx hb dL_many_4 rfl (lv_at hl 2 rfl) ?_
      refine lv_bipush (v := nI 10) hx hb dL_many_5 (by decide) ?_
      refine r_icmp_ge (tgt := 24) hx hb (by omega) (by omega) dL_many_7 (by decide) (fun c => absurd c (by omega)) (fun _ => ?_)
      refine lv_iload_n hx hb dL_many_10 rfl (lv_at hl 1 rfl) ?_
      refine lv_iload_n hx hb dL_many_11 rfl (lv_at hl 0 rfl) ?_
      refine lv_iload_n hx hb dL_many_12 rfl (lv_at hl 2 rfl) ?_
      refine lv_ishr hx hb dL_many_13 ?_
      refine lv_iconst (v := nI 1) hx hb dL_many_14 (by decide) ?_
      refine lv_iand hx hb dL_many_15 ?_
      refine lv_iadd hx hb dL_many_16 ?_
      refine lv_istore_n (lv' := [(1, .int (x1_4 + ((set >>> ((nI k4) &&& 31)) &&& (nI 1)))), (0, .int set), (2, .int (nI k4))]) hx hb dL_many_17 rfl hl (by decide) rfl (fun ls hl => ?_)
      refine lv_iinc (v := nI (k4 + 1)) (lv' := [(2, .int (nI (k4 + 1))), (1, .int (x1_4 + ((set >>> ((nI k4) &&& 31)) &&& (nI 1)))), (0, .int set)]) hx hb dL_many_18 hl (k := 2) rfl (nI_add _ _) (by decide) rfl (fun ls hl => ?_)
      refine lv_goto (tgt := 4) hx hb dL_many_21 (by decide) ?_
      exact ih4 (k4 + 1) (x1_4 + ((set >>> ((nI k4) &&& 31)) &&& (nI 1))) (by omega) hf _ _ hP hD hS _ (lv_sub hl [2, 1, 0] rfl)
  exact L4 10 0 (nI 0) (by omega) hf _ _ hP hD hS _ (lv_sub hl [2, 1, 0] rfl)
def j_L_isIn_6 (set : Int32) (k_ : Nat) : Bool :=
  if ((set >>> ((nI k_) &&& 31)) &&& (nI 1)) = (nI 1) then true else false
def f_L_isIn (set : Int32) (k_ : Nat) : Bool :=
  j_L_isIn_6 set k_
set_option maxHeartbeats 4000000 in
set_option maxRecDepth 100000 in
theorem c_L_isIn (l : Launch) (D : va_G) (cI cZ : ClassId) (ws : va_W) (set : Int32) (k_ : Nat) (hk_ : k_ < 10) : MI l yL_isIn cL_isIn 2 .boolean { frames := 0, cells := 0, slots := 0, locals := 0 } D (TY cI cZ) [.int set, .int (nI k_)] (ws) (ws) (bI (f_L_isIn set k_)) := by
  refine MI.mk ⟨rfl, rfl⟩ (by decide +kernel) (Nat.le_of_ble_eq_true rfl) ?_
  intro p e s m below meth c A ls B hA hP hD hS hl
  have hx := B.1
  have hb := B.2.1
  have hts := B.2.2.2.2.2.1
  have hN := B.2.2.2.2.2.2.2.1
  have hK := B.2.2.2.2.2.2.2.2.1
  have hl : lv_has ls 2 [(0, .int set), (1, .int (nI k_))] := hl
  have hf := f_L_isIn.eq_1 set k_
  refine lv_iload_n hx hb dL_isIn_0 rfl (lv_at hl 0 rfl) ?_
  refine lv_iload_n hx hb dL_isIn_1 rfl (lv_at hl 1 rfl) ?_
  refine lv_ishr hx hb dL_isIn_2 ?_
  refine lv_iconst (v := nI 1) hx hb dL_isIn_3 (by decide) ?_
  refine lv_iand hx hb dL_isIn_4 ?_
  refine lv_iconst (v := nI 1) hx hb dL_isIn_5 (by decide) ?_
  have K6 : ∀ v6 : Bool, j_L_isIn_6 set k_ = v6 → ∀ (H : Heap) (locs : List Loc), va_P D vwCl (ws) H → va_D A (ws) → va_S A s.heap H locs → ∀ ls : Array Slot, lv_has ls 2 [(0, .int set), (1, .int (nI k_))] → W p l e { frames := 0, cells := 0, slots := 0, locals := 0 } s m [.int set, .int (nI k_)].toArray below meth c H locs 0 0 (QI below s A D [.int set, .int (nI k_)] (ws) (bI (f_L_isIn set k_))) (F0 m 14 ls [.int (bI v6)]) := by
    intro v6 hv6 H locs hP hD hS ls hl
    subst hv6
    exact eZ B hP hS (bI_nar _) ((congrArg (fun (u : Bool) => bI u) hf).symm) rfl dL_isIn_14
  have hj6 := j_L_isIn_6.eq_1 set k_
  refine lv_icmp_ne (tgt := 13) hx hb dL_isIn_6 (by decide) (fun c1 => ?_) (fun c1 => ?_)
  · have hj6 := hj6.trans (if_neg c1)
    refine lv_iconst (v := nI 0) hx hb dL_isIn_13 (by decide) ?_
    exact K6 _ hj6 _ _ hP hD hS _ hl
  · have hj6 := hj6.trans (if_pos c1)
    refine lv_iconst (v := nI 1) hx hb dL_isIn_9 (by decide) ?_
    refine lv_goto (tgt := 14) hx hb dL_isIn_10 (by decide) ?_
    exact K6 _ hj6 _ _ hP hD hS _ hl
def j_L_meets_42 (set : Int32) (g : Nat) (x2_7 : Int32) (x3_7 : Int32) (k7 : Nat) : Int32 :=
  if (f_L_isIn set k7) = true then (if (nI ((((31 * g) + 17) * ((53 * k7) + 29)) % 997)) ≤ x3_7 then x2_7 else nI k7) else x2_7
def j_L_meets_64 (set : Int32) (g : Nat) (x3_7 : Int32) (k7 : Nat) : Int32 :=
  if (f_L_isIn set k7) = true then (if (nI ((((31 * g) + 17) * ((53 * k7) + 29)) % 997)) ≤ x3_7 then x3_7 else nI ((((31 * g) + 17) * ((53 * k7) + 29)) % 997)) else x3_7
def f_L_meets_L7 (set : Int32) (g : Nat) : Nat → Nat → Int32 → Int32 → Int32
  | 0, _, x2_7, x3_7 => x2_7
  | n7 + 1, k7, x2_7, x3_7 => f_L_meets_L7 set g n7 (k7 + 1) (j_L_meets_42 set g x2_7 x3_7 k7) (j_L_meets_64 set g x3_7 k7)
def f_L_meets (set : Int32) (g : Nat) : Int32 :=
  f_L_meets_L7 set g 10 0 (-1) (-1)
set_option maxHeartbeats 4000000 in
set_option maxRecDepth 100000 in
theorem c_L_meets (l : Launch) (D : va_G) (cI cZ : ClassId) (ws : va_W) (set : Int32) (g : Nat) (hg : g < 4) : MI l yL_meets cL_meets 6 .int { frames := 1, cells := 0, slots := 0, locals := 21 } D (TY cI cZ) [.int set, .int (nI g)] (ws) (ws) (f_L_meets set g) := by
  refine MI.mk ⟨rfl, rfl⟩ (by decide +kernel) (Nat.le_of_ble_eq_true rfl) ?_
  intro p e s m below meth c A ls B hA hP hD hS hl
  have hx := B.1
  have hb := B.2.1
  have hts := B.2.2.2.2.2.1
  have hN := B.2.2.2.2.2.2.2.1
  have hK := B.2.2.2.2.2.2.2.2.1
  have hl : lv_has ls 6 [(0, .int set), (1, .int (nI g))] := hl
  have hf := f_L_meets.eq_1 set g
  refine lv_iconst (v := -1) hx hb dL_meets_0 (by decide) ?_
  refine lv_istore_n (lv' := [(2, .int (-1)), (0, .int set), (1, .int (nI g))]) hx hb dL_meets_1 rfl hl (by decide) rfl (fun ls hl => ?_)
  refine lv_iconst (v := -1) hx hb dL_meets_2 (by decide) ?_
  refine lv_istore_n (lv' := [(3, .int (-1)), (2, .int (-1)), (0, .int set), (1, .int (nI g))]) hx hb dL_meets_3 rfl hl (by decide) rfl (fun ls hl => ?_)
  refine lv_iconst (v := nI 0) hx hb dL_meets_4 (by decide) ?_
  refine lv_istore (lv' := [(4, .int (nI 0)), (3, .int (-1)), (2, .int (-1)), (0, .int set), (1, .int (nI g))]) hx hb dL_meets_5 hl (by decide) rfl (fun ls hl => ?_)
  have L7 : ∀ (n7 : Nat) (k7 : Nat) (x2_7 : Int32) (x3_7 : Int32), k7 + n7 = 10 → f_L_meets set g = (f_L_meets_L7 set g n7 k7 x2_7 x3_7) → ∀ (H : Heap) (locs : List Loc), va_P D vwCl (ws) H → va_D A (ws) → va_S A s.heap H locs → ∀ ls : Array Slot, lv_has ls 6 [(0, .int set), (1, .int (nI g)), (2, .int x2_7), (3, .int x3_7), (4, .int (nI k7))] → W p l e { frames := 1, cells := 0, slots := 0, locals := 21 } s m [.int set, .int (nI g)].toArray below meth c H locs 0 0 (QI below s A D [.int set, .int (nI g)] (ws) (f_L_meets set g)) (F0 m 7 ls []) := by
    intro n7
    induction n7 with
    | zero =>
      intro k7 x2_7 x3_7 hk7 hf H locs hP hD hS ls hl
      obtain rfl : 10 = k7 := by omega
      rw [f_L_meets_L7] at hf
      have hl : lv_has ls 6 [(0, .int set), (1, .int (nI g)), (2, .int x2_7), (3, .int x3_7), (4, .int (nI 10))] := hl
      refine lv_iload hx hb dL_meets_7 (lv_at hl 4 rfl) ?_
      refine lv_bipush (v := nI 10) hx hb dL_meets_9 (by decide) ?_
      refine r_icmp_ge (tgt := 86) hx hb (by omega) (by omega) dL_meets_11 (by decide) (fun _ => ?_) (fun c => absurd c (by omega))
      refine lv_iload_n hx hb dL_meets_86 rfl (lv_at hl 2 rfl) ?_
      exact eI B hP hS ((congrArg (fun (u : Int32) => u) hf).symm) rfl dL_meets_87
    | succ n7 ih7 =>
      intro k7 x2_7 x3_7 hk7 hf H locs hP hD hS ls hl
      rw [f_L_meets_L7] at hf
      have hl : lv_has ls 6 [(0, .int set), (1, .int (nI g)), (2, .int x2_7), (3, .int x3_7), (4, .int (nI k7))] := hl
      refine lv_iload hx hb dL_meets_7 (lv_at hl 4 rfl) ?_
      refine lv_bipush (v := nI 10) hx hb dL_meets_9 (by decide) ?_
      refine r_icmp_ge (tgt := 86) hx hb (by omega) (by omega) dL_meets_11 (by decide) (fun c => absurd c (by omega)) (fun _ => ?_)
      refine lv_bipush (v := nI 31) hx hb dL_meets_14 (by decide) ?_
      refine lv_iload_n hx hb dL_meets_16 rfl (lv_at hl 1 rfl) ?_
      refine r_imul hx hb dL_meets_17 ?_
      refine lv_bipush (v := nI 17) hx hb dL_meets_18 (by decide) ?_
      refine r_iadd hx hb dL_meets_20 ?_
      refine lv_bipush (v := nI 53) hx hb dL_meets_21 (by decide) ?_
      refine lv_iload hx hb dL_meets_23 (lv_at hl 4 rfl) ?_
      refine r_imul hx hb dL_meets_25 ?_
      refine lv_bipush (v := nI 29) hx hb dL_meets_26 (by decide) ?_
      refine r_iadd hx hb dL_meets_28 ?_
      refine r_imul hx hb dL_meets_29 ?_
      refine lv_sipush (v := nI 997) hx hb dL_meets_30 (by decide) ?_
      refine r_irem hx hb (Nat.lt_of_le_of_lt (Nat.mul_le_mul (show (31 * g) + 17 ≤ 110 by omega) (show (53 * k7) + 29 ≤ 506 by omega)) (by decide)) (by omega) (by omega) dL_meets_33 ?_
      refine lv_istore (lv' := [(5, .int (nI ((((31 * g) + 17) * ((53 * k7) + 29)) % 997))), (0, .int set), (1, .int (nI g)), (2, .int x2_7), (3, .int x3_7), (4, .int (nI k7))]) hx hb dL_meets_34 hl (by decide) rfl (fun ls hl => ?_)
      refine lv_iload_n hx hb dL_meets_36 rfl (lv_at hl 1 rfl) ?_
      refine lv_iload hx hb dL_meets_37 (lv_at hl 5 rfl) ?_
      refine fS_i (as := [.int set, .int (nI k7)]) (rest := []) B hl.1 (c_L_isIn l D cI cZ (ws) set k7 (by omega)) (l_RL_28 hts ⟨rfl, rfl⟩ ⟨Nat.le_of_ble_eq_true rfl, Nat.le_of_ble_eq_true rfl⟩) m_8_12 rfl rfl hP hD hS hA rfl (Nat.le_of_ble_eq_true rfl) dL_meets_39 (fun H locs hP hD hS => ?_)
      have K42 : ∀ v42 : Int32, j_L_meets_42 set g x2_7 x3_7 k7 = v42 → ∀ (H : Heap) (locs : List Loc), va_P D vwCl (ws) H → va_D A (ws) → va_S A s.heap H locs → ∀ ls : Array Slot, lv_has ls 6 [(5, .int (nI ((((31 * g) + 17) * ((53 * k7) + 29)) % 997))), (0, .int set), (1, .int (nI g)), (2, .int x2_7), (3, .int x3_7), (4, .int (nI k7))] → W p l e { frames := 1, cells := 0, slots := 0, locals := 21 } s m [.int set, .int (nI g)].toArray below meth c H locs 0 0 (QI below s A D [.int set, .int (nI g)] (ws) (f_L_meets set g)) (F0 m 57 ls [.int v42]) := by
        intro v42 hv42 H locs hP hD hS ls hl
        subst hv42
        refine lv_istore_n (lv' := [(2, .int (j_L_meets_42 set g x2_7 x3_7 k7)), (5, .int (nI ((((31 * g) + 17) * ((53 * k7) + 29)) % 997))), (0, .int set), (1, .int (nI g)), (3, .int x3_7), (4, .int (nI k7))]) hx hb dL_meets_57 rfl hl (by decide) rfl (fun ls hl => ?_)
        refine lv_iload_n hx hb dL_meets_58 rfl (lv_at hl 2 rfl) ?_
        refine lv_iload hx hb dL_meets_59 (lv_at hl 5 rfl) ?_
        refine fS_i (as := [.int set, .int (nI k7)]) (rest := []) B hl.1 (c_L_isIn l D cI cZ (ws) set k7 (by omega)) (l_RL_28 hts ⟨rfl, rfl⟩ ⟨Nat.le_of_ble_eq_true rfl, Nat.le_of_ble_eq_true rfl⟩) m_8_12 rfl rfl hP hD hS hA rfl (Nat.le_of_ble_eq_true rfl) dL_meets_61 (fun H locs hP hD hS => ?_)
        have K64 : ∀ v64 : Int32, j_L_meets_64 set g x3_7 k7 = v64 → ∀ (H : Heap) (locs : List Loc), va_P D vwCl (ws) H → va_D A (ws) → va_S A s.heap H locs → ∀ ls : Array Slot, lv_has ls 6 [(2, .int (j_L_meets_42 set g x2_7 x3_7 k7)), (5, .int (nI ((((31 * g) + 17) * ((53 * k7) + 29)) % 997))), (0, .int set), (1, .int (nI g)), (3, .int x3_7), (4, .int (nI k7))] → W p l e { frames := 1, cells := 0, slots := 0, locals := 21 } s m [.int set, .int (nI g)].toArray below meth c H locs 0 0 (QI below s A D [.int set, .int (nI g)] (ws) (f_L_meets set g)) (F0 m 79 ls [.int v64]) := by
          intro v64 hv64 H locs hP hD hS ls hl
          subst hv64
          refine lv_istore_n (lv' := [(3, .int (j_L_meets_64 set g x3_7 k7)), (2, .int (j_L_meets_42 set g x2_7 x3_7 k7)), (5, .int (nI ((((31 * g) + 17) * ((53 * k7) + 29)) % 997))), (0, .int set), (1, .int (nI g)), (4, .int (nI k7))]) hx hb dL_meets_79 rfl hl (by decide) rfl (fun ls hl => ?_)
          refine lv_iinc (v := nI (k7 + 1)) (lv' := [(4, .int (nI (k7 + 1))), (3, .int (j_L_meets_64 set g x3_7 k7)), (2, .int (j_L_meets_42 set g x2_7 x3_7 k7)), (5, .int (nI ((((31 * g) + 17) * ((53 * k7) + 29)) % 997))), (0, .int set), (1, .int (nI g))]) hx hb dL_meets_80 hl (k := 5) rfl (nI_add _ _) (by decide) rfl (fun ls hl => ?_)
          refine lv_goto (tgt := 7) hx hb dL_meets_83 (by decide) ?_
          exact ih7 (k7 + 1) (j_L_meets_42 set g x2_7 x3_7 k7) (j_L_meets_64 set g x3_7 k7) (by omega) hf _ _ hP hD hS _ (lv_sub hl [4, 5, 2, 1, 0] rfl)
        have hj64 := j_L_meets_64.eq_1 set g x3_7 k7
        refine r_if_eq_b (tgt := 78) hx hb dL_meets_64 (by decide) (fun c10 => ?_) (fun c10 => ?_)
        · have hj64 := hj64.trans (if_neg c10)
          refine lv_iload_n hx hb dL_meets_78 rfl (lv_at hl 4 rfl) ?_
          exact K64 _ hj64 _ _ hP hD hS _ hl
        · have hj64 := hj64.trans (if_pos c10)
          refine lv_iload hx hb dL_meets_67 (lv_at hl 1 rfl) ?_
          refine lv_iload_n hx hb dL_meets_69 rfl (lv_at hl 4 rfl) ?_
          refine lv_icmp_le (tgt := 78) hx hb dL_meets_70 (by decide) (fun c11 => ?_) (fun c11 => ?_)
          · have hj64 := hj64.trans (if_pos c11)
            refine lv_iload_n hx hb dL_meets_78 rfl (lv_at hl 4 rfl) ?_
            exact K64 _ hj64 _ _ hP hD hS _ hl
          · have hj64 := hj64.trans (if_neg c11)
            refine lv_iload hx hb dL_meets_73 (lv_at hl 1 rfl) ?_
            refine lv_goto (tgt := 79) hx hb dL_meets_75 (by decide) ?_
            exact K64 _ hj64 _ _ hP hD hS _ hl
      have hj42 := j_L_meets_42.eq_1 set g x2_7 x3_7 k7
      refine r_if_eq_b (tgt := 56) hx hb dL_meets_42 (by decide) (fun c12 => ?_) (fun c12 => ?_)
      · have hj42 := hj42.trans (if_neg c12)
        refine lv_iload_n hx hb dL_meets_56 rfl (lv_at hl 3 rfl) ?_
        exact K42 _ hj42 _ _ hP hD hS _ hl
      · have hj42 := hj42.trans (if_pos c12)
        refine lv_iload hx hb dL_meets_45 (lv_at hl 0 rfl) ?_
        refine lv_iload_n hx hb dL_meets_47 rfl (lv_at hl 4 rfl) ?_
        refine lv_icmp_le (tgt := 56) hx hb dL_meets_48 (by decide) (fun c13 => ?_) (fun c13 => ?_)
        · have hj42 := hj42.trans (if_pos c13)
          refine lv_iload_n hx hb dL_meets_56 rfl (lv_at hl 3 rfl) ?_
          exact K42 _ hj42 _ _ hP hD hS _ hl
        · have hj42 := hj42.trans (if_neg c13)
          refine lv_iload hx hb dL_meets_51 (lv_at hl 5 rfl) ?_
          refine lv_goto (tgt := 57) hx hb dL_meets_53 (by decide) ?_
          exact K42 _ hj42 _ _ hP hD hS _ hl
  exact L7 10 0 (-1) (-1) (by omega) hf _ _ hP hD hS _ (lv_sub hl [3, 4, 2, 1, 0] rfl)
def j_L_areRoutes_6 (r : Nat) (rl : Nat → Int32) (rh : Nat → Int32) : Bool :=
  if (f_X4_distanceOf r r rl) = 0 then (if (rh ((r * 10) + r)) = (-1) then true else false) else false
def j_L_areRoutes_200 (r : Nat) (rl : Nat → Int32) (k28 : Nat) (x7_58 : Int32) : Int32 :=
  if 0 ≤ (f_X4_distanceOf r k28 rl) then x7_58 else -1
def j_L_areRoutes_175 (r : Nat) (rl : Nat → Int32) (rh : Nat → Int32) (k28 : Nat) (x6_58 : Int32) (x7_58 : Int32) : Bool :=
  if (f_X4_distanceOf r k28 rl) = (f_X4_distanceOf k28 r rl) then (if k28 = r then true else if (f_X4_distanceOf r k28 rl) = x6_58 then (if (rh ((r * 10) + k28)) = (j_L_areRoutes_200 r rl k28 x7_58) then true else false) else false) else false
def j_L_areRoutes_70 (r : Nat) (rl : Nat → Int32) (lE : Nat → Int32) (k28 : Nat) (n58 : Nat) : Int32 :=
  if (f_L_cost r n58 lE) ≤ 0 then -1 else f_X4_distanceOf n58 k28 rl
def j_L_areRoutes_89 (r : Nat) (rl : Nat → Int32) (lE : Nat → Int32) (k28 : Nat) (n58 : Nat) : Int32 :=
  if 0 ≤ (j_L_areRoutes_70 r rl lE k28 n58) then (j_L_areRoutes_70 r rl lE k28 n58) + (f_L_cost r n58 lE) else -1
def j_L_areRoutes_110 (r : Nat) (rl : Nat → Int32) (lE : Nat → Int32) (k28 : Nat) (x6_58 : Int32) (x7_58 : Int32) (n58 : Nat) : Int32 :=
  if (j_L_areRoutes_89 r rl lE k28 n58) < 0 then x7_58 else if x6_58 < 0 then nI n58 else if x6_58 < (j_L_areRoutes_89 r rl lE k28 n58) then x7_58 else nI n58
def j_L_areRoutes_136 (r : Nat) (rl : Nat → Int32) (lE : Nat → Int32) (k28 : Nat) (x6_58 : Int32) (n58 : Nat) : Int32 :=
  if (j_L_areRoutes_89 r rl lE k28 n58) < 0 then x6_58 else if x6_58 < 0 then j_L_areRoutes_89 r rl lE k28 n58 else if x6_58 ≤ (j_L_areRoutes_89 r rl lE k28 n58) then x6_58 else j_L_areRoutes_89 r rl lE k28 n58
def f_L_areRoutes_L58 (r : Nat) (rl : Nat → Int32) (lE : Nat → Int32) (k28 : Nat) : Nat → Int32 → Int32 → Int32 × Int32
  | 0, x6_58, x7_58 => (x6_58, x7_58)
  | n58 + 1, x6_58, x7_58 => f_L_areRoutes_L58 r rl lE k28 n58 (j_L_areRoutes_136 r rl lE k28 x6_58 n58) (j_L_areRoutes_110 r rl lE k28 x6_58 x7_58 n58)
def f_L_areRoutes_L28 (r : Nat) (rl : Nat → Int32) (rh : Nat → Int32) (lE : Nat → Int32) : Nat → Nat → Bool → Bool
  | 0, _, x3_28 => x3_28
  | n28 + 1, k28, x3_28 => if x3_28 = true then f_L_areRoutes_L28 r rl rh lE n28 (k28 + 1) (j_L_areRoutes_175 r rl rh k28 ((f_L_areRoutes_L58 r rl lE k28 10 (-1) (-1)).1) ((f_L_areRoutes_L58 r rl lE k28 10 (-1) (-1)).2)) else x3_28
def f_L_areRoutes (r : Nat) (rl : Nat → Int32) (rh : Nat → Int32) (lE : Nat → Int32) : Bool :=
  f_L_areRoutes_L28 r rl rh lE 10 0 (j_L_areRoutes_6 r rl rh)
set_option maxHeartbeats 4000000 in
set_option maxRecDepth 100000 in
theorem c_L_areRoutes (l : Launch) (D : va_G) (cI cZ : ClassId) (ad : Nat → Nat) (rc rl rh fr fw fc fg ps pg pr pd qp qt qf qo ct lE lC : Nat → Int32) (cand : Int32) (lim : Int32) (now : Int32) (was : Int32) (sent : Nat) (qfi : Nat) (qsz : Nat) (r : Nat) (hr : r < 10) : MI l yL_areRoutes cL_areRoutes 11 .boolean { frames := 3, cells := 0, slots := 0, locals := 66 } D (TY cI cZ) [.ref (ad 0), .ref (ad 22), .int (nI r)] (wC cI ad rc rl rh fr fw fc fg ps pg pr pd qp qt qf qo ct lE lC cand lim now was (nI sent) (nI qfi) (nI qsz)) (wC cI ad rc rl rh fr fw fc fg ps pg pr pd qp qt qf qo ct lE lC cand lim now was (nI sent) (nI qfi) (nI qsz)) (bI (f_L_areRoutes r rl rh lE)) := by
  refine MI.mk ⟨rfl, rfl⟩ (by decide +kernel) (Nat.le_of_ble_eq_true rfl) ?_
  intro p e s m below meth c A ls B hA hP hD hS hl
  have hx := B.1
  have hb := B.2.1
  have hts := B.2.2.2.2.2.1
  have hN := B.2.2.2.2.2.2.2.1
  have hK := B.2.2.2.2.2.2.2.2.1
  have hl : lv_has ls 11 [(0, .ref (ad 0)), (1, .ref (ad 22)), (2, .int (nI r))] := hl
  have hf := f_L_areRoutes.eq_1 r rl rh lE
  refine lv_aload_n hx hb dL_areRoutes_0 rfl (lv_at hl 0 rfl) ?_
  refine lv_iload_n hx hb dL_areRoutes_1 rfl (lv_at hl 2 rfl) ?_
  refine lv_iload_n hx hb dL_areRoutes_2 rfl (lv_at hl 2 rfl) ?_
  refine fV_i (ci := 5) (as := [.int (nI r), .int (nI r)]) (rest := []) B hl.1 (c_X5_distance l D cI cZ ad rc rl rh fr fw fc fg ps pg pr pd qp qt qf qo ct lE lC cand lim now was sent qfi qsz r r (by omega) (by omega)) rfl (l_RL_16 hts ⟨rfl, rfl⟩ ⟨Nat.le_of_ble_eq_true rfl, Nat.le_of_ble_eq_true rfl⟩) m_14_5 m_14_6 rfl rfl hP hD hS hA 0 rfl wfC (Nat.le_of_ble_eq_true rfl) dL_areRoutes_3 (fun H locs hP hD hS => ?_)
  have K6 : ∀ v6 : Bool, j_L_areRoutes_6 r rl rh = v6 → ∀ (H : Heap) (locs : List Loc), va_P D vwCl (wC cI ad rc rl rh fr fw fc fg ps pg pr pd qp qt qf qo ct lE lC cand lim now was (nI sent) (nI qfi) (nI qsz)) H → va_D A (wC cI ad rc rl rh fr fw fc fg ps pg pr pd qp qt qf qo ct lE lC cand lim now was (nI sent) (nI qfi) (nI qsz)) → va_S A s.heap H locs → ∀ ls : Array Slot, lv_has ls 11 [(0, .ref (ad 0)), (1, .ref (ad 22)), (2, .int (nI r))] → W p l e { frames := 3, cells := 0, slots := 0, locals := 66 } s m [.ref (ad 0), .ref (ad 22), .int (nI r)].toArray below meth c H locs 0 0 (QI below s A D [.ref (ad 0), .ref (ad 22), .int (nI r)] (wC cI ad rc rl rh fr fw fc fg ps pg pr pd qp qt qf qo ct lE lC cand lim now was (nI sent) (nI qfi) (nI qsz)) (bI (f_L_areRoutes r rl rh lE))) (F0 m 24 ls [.int (bI v6)]) := by
    intro v6 hv6 H locs hP hD hS ls hl
    subst hv6
    refine lv_istore_n (lv' := [(3, .int (bI (j_L_areRoutes_6 r rl rh))), (0, .ref (ad 0)), (1, .ref (ad 22)), (2, .int (nI r))]) hx hb dL_areRoutes_24 rfl hl (by decide) rfl (fun ls hl => ?_)
    refine lv_iconst (v := nI 0) hx hb dL_areRoutes_25 (by decide) ?_
    refine lv_istore (lv' := [(4, .int (nI 0)), (3, .int (bI (j_L_areRoutes_6 r rl rh))), (0, .ref (ad 0)), (1, .ref (ad 22)), (2, .int (nI r))]) hx hb dL_areRoutes_26 hl (by decide) rfl (fun ls hl => ?_)
    have L28 : ∀ (n28 : Nat) (k28 : Nat) (x3_28 : Bool), k28 + n28 = 10 → f_L_areRoutes r rl rh lE = (f_L_areRoutes_L28 r rl rh lE n28 k28 x3_28) → ∀ (H : Heap) (locs : List Loc), va_P D vwCl (wC cI ad rc rl rh fr fw fc fg ps pg pr pd qp qt qf qo ct lE lC cand lim now was (nI sent) (nI qfi) (nI qsz)) H → va_D A (wC cI ad rc rl rh fr fw fc fg ps pg pr pd qp qt qf qo ct lE lC cand lim now was (nI sent) (nI qfi) (nI qsz)) → va_S A s.heap H locs → ∀ ls : Array Slot, lv_has ls 11 [(0, .ref (ad 0)), (1, .ref (ad 22)), (2, .int (nI r)), (3, .int (bI x3_28)), (4, .int (nI k28))] → W p l e { frames := 3, cells := 0, slots := 0, locals := 66 } s m [.ref (ad 0), .ref (ad 22), .int (nI r)].toArray below meth c H locs 0 0 (QI below s A D [.ref (ad 0), .ref (ad 22), .int (nI r)] (wC cI ad rc rl rh fr fw fc fg ps pg pr pd qp qt qf qo ct lE lC cand lim now was (nI sent) (nI qfi) (nI qsz)) (bI (f_L_areRoutes r rl rh lE))) (F0 m 28 ls []) := by
      intro n28
      induction n28 with
      | zero =>
        intro k28 x3_28 hk28 hf H locs hP hD hS ls hl
        obtain rfl : 10 = k28 := by omega
        rw [f_L_areRoutes_L28] at hf
        have hl : lv_has ls 11 [(0, .ref (ad 0)), (1, .ref (ad 22)), (2, .int (nI r)), (3, .int (bI x3_28)), (4, .int (nI 10))] := hl
        refine lv_iload hx hb dL_areRoutes_28 (lv_at hl 4 rfl) ?_
        refine lv_bipush (v := nI 10) hx hb dL_areRoutes_30 (by decide) ?_
        refine r_icmp_ge (tgt := 224) hx hb (by omega) (by omega) dL_areRoutes_32 (by decide) (fun _ => ?_) (fun c => absurd c (by omega))
        refine lv_iload_n hx hb dL_areRoutes_224 rfl (lv_at hl 3 rfl) ?_
        exact eZ B hP hS (bI_nar _) ((congrArg (fun (u : Bool) => bI u) hf).symm) rfl dL_areRoutes_225
      | succ n28 ih28 =>
        intro k28 x3_28 hk28 hf H locs hP hD hS ls hl
        rw [f_L_areRoutes_L28] at hf
        have hl : lv_has ls 11 [(0, .ref (ad 0)), (1, .ref (ad 22)), (2, .int (nI r)), (3, .int (bI x3_28)), (4, .int (nI k28))] := hl
        refine lv_iload hx hb dL_areRoutes_28 (lv_at hl 4 rfl) ?_
        refine lv_bipush (v := nI 10) hx hb dL_areRoutes_30 (by decide) ?_
        refine r_icmp_ge (tgt := 224) hx hb (by omega) (by omega) dL_areRoutes_32 (by decide) (fun c => absurd c (by omega)) (fun _ => ?_)
        refine lv_iload_n hx hb dL_areRoutes_35 rfl (lv_at hl 3 rfl) ?_
        refine r_if_eq_b (tgt := 224) hx hb dL_areRoutes_36 (by decide) (fun c56 => ?_) (fun c56 => ?_)
        · have hf := hf.trans (if_neg c56)
          refine lv_iload_n hx hb dL_areRoutes_224 rfl (lv_at hl 3 rfl) ?_
          exact eZ B hP hS (bI_nar _) ((congrArg (fun (u : Bool) => bI u) hf).symm) rfl dL_areRoutes_225
        · have hf := hf.trans (if_pos c56)
          refine lv_aload_n hx hb dL_areRoutes_39 rfl (lv_at hl 0 rfl) ?_
          refine lv_iload_n hx hb dL_areRoutes_40 rfl (lv_at hl 2 rfl) ?_
          refine lv_iload hx hb dL_areRoutes_41 (lv_at hl 4 rfl) ?_
          refine fV_i (ci := 5) (as := [.int (nI r), .int (nI k28)]) (rest := []) B hl.1 (c_X5_distance l D cI cZ ad rc rl rh fr fw fc fg ps pg pr pd qp qt qf qo ct lE lC cand lim now was sent qfi qsz r k28 (by omega) (by omega)) rfl (l_RL_16 hts ⟨rfl, rfl⟩ ⟨Nat.le_of_ble_eq_true rfl, Nat.le_of_ble_eq_true rfl⟩) m_14_5 m_14_6 rfl rfl hP hD hS hA 0 rfl wfC (Nat.le_of_ble_eq_true rfl) dL_areRoutes_43 (fun H locs hP hD hS => ?_)
          refine lv_istore (lv' := [(5, .int (f_X4_distanceOf r k28 rl)), (0, .ref (ad 0)), (1, .ref (ad 22)), (2, .int (nI r)), (3, .int (bI x3_28)), (4, .int (nI k28))]) hx hb dL_areRoutes_46 hl (by decide) rfl (fun ls hl => ?_)
          refine lv_iconst (v := -1) hx hb dL_areRoutes_48 (by decide) ?_
          refine lv_istore (lv' := [(6, .int (-1)), (5, .int (f_X4_distanceOf r k28 rl)), (0, .ref (ad 0)), (1, .ref (ad 22)), (2, .int (nI r)), (3, .int (bI x3_28)), (4, .int (nI k28))]) hx hb dL_areRoutes_49 hl (by decide) rfl (fun ls hl => ?_)
          refine lv_iconst (v := -1) hx hb dL_areRoutes_51 (by decide) ?_
          refine lv_istore (lv' := [(7, .int (-1)), (6, .int (-1)), (5, .int (f_X4_distanceOf r k28 rl)), (0, .ref (ad 0)), (1, .ref (ad 22)), (2, .int (nI r)), (3, .int (bI x3_28)), (4, .int (nI k28))]) hx hb dL_areRoutes_52 hl (by decide) rfl (fun ls hl => ?_)
          refine lv_bipush (v := nI 9) hx hb dL_areRoutes_54 (by decide) ?_
          refine lv_istore (lv' := [(8, .int (nI 9)), (7, .int (-1)), (6, .int (-1)), (5, .int (f_X4_distanceOf r k28 rl)), (0, .ref (ad 0)), (1, .ref (ad 22)), (2, .int (nI r)), (3, .int (bI x3_28)), (4, .int (nI k28))]) hx hb dL_areRoutes_56 hl (by decide) rfl (fun ls hl => ?_)
          have L58 : ∀ (n58 : Nat) (x6_58 : Int32) (x7_58 : Int32), n58 ≤ 10 → f_L_areRoutes r rl rh lE = (f_L_areRoutes_L28 r rl rh lE n28 (k28 + 1) (j_L_areRoutes_175 r rl rh k28 ((f_L_areRoutes_L58 r rl lE k28 n58 x6_58 x7_58).1) ((f_L_areRoutes_L58 r rl lE k28 n58 x6_58 x7_58).2))) → ∀ (H : Heap) (locs : List Loc), va_P D vwCl (wC cI ad rc rl rh fr fw fc fg ps pg pr pd qp qt qf qo ct lE lC cand lim now was (nI sent) (nI qfi) (nI qsz)) H → va_D A (wC cI ad rc rl rh fr fw fc fg ps pg pr pd qp qt qf qo ct lE lC cand lim now was (nI sent) (nI qfi) (nI qsz)) → va_S A s.heap H locs → ∀ ls : Array Slot, lv_has ls 11 [(0, .ref (ad 0)), (1, .ref (ad 22)), (2, .int (nI r)), (3, .int (bI x3_28)), (4, .int (nI k28)), (5, .int (f_X4_distanceOf r k28 rl)), (6, .int x6_58), (7, .int x7_58), (8, .int (nI n58 + (-1)))] → W p l e { frames := 3, cells := 0, slots := 0, locals := 66 } s m [.ref (ad 0), .ref (ad 22), .int (nI r)].toArray below meth c H locs 0 0 (QI below s A D [.ref (ad 0), .ref (ad 22), .int (nI r)] (wC cI ad rc rl rh fr fw fc fg ps pg pr pd qp qt qf qo ct lE lC cand lim now was (nI sent) (nI qfi) (nI qsz)) (bI (f_L_areRoutes r rl rh lE))) (F0 m 58 ls []) := by
            intro n58
            induction n58 with
            | zero =>
              intro x6_58 x7_58 hb58_0 hf H locs hP hD hS ls hl
              rw [f_L_areRoutes_L58] at hf
              dsimp only at hf
              have hl : lv_has ls 11 [(0, .ref (ad 0)), (1, .ref (ad 22)), (2, .int (nI r)), (3, .int (bI x3_28)), (4, .int (nI k28)), (5, .int (f_X4_distanceOf r k28 rl)), (6, .int x6_58), (7, .int x7_58), (8, .int (-1))] := hl
              refine lv_iload hx hb dL_areRoutes_58 (lv_at hl 8 rfl) ?_
              refine lv_if_lt (tgt := 166) hx hb dL_areRoutes_60 (by decide) (fun _ => ?_) (fun c => absurd (by decide) c)
              refine lv_iload hx hb dL_areRoutes_166 (lv_at hl 5 rfl) ?_
              refine lv_aload_n hx hb dL_areRoutes_168 rfl (lv_at hl 0 rfl) ?_
              refine lv_iload hx hb dL_areRoutes_169 (lv_at hl 4 rfl) ?_
              refine lv_iload_n hx hb dL_areRoutes_171 rfl (lv_at hl 2 rfl) ?_
              refine fV_i (ci := 5) (as := [.int (nI k28), .int (nI r)]) (rest := [.int (f_X4_distanceOf r k28 rl)]) B hl.1 (c_X5_distance l D cI cZ ad rc rl rh fr fw fc fg ps pg pr pd qp qt qf qo ct lE lC cand lim now was sent qfi qsz k28 r (by omega) (by omega)) rfl (l_RL_16 hts ⟨rfl, rfl⟩ ⟨Nat.le_of_ble_eq_true rfl, Nat.le_of_ble_eq_true rfl⟩) m_14_5 m_14_6 rfl rfl hP hD hS hA 0 rfl wfC (Nat.le_of_ble_eq_true rfl) dL_areRoutes_172 (fun H locs hP hD hS => ?_)
              have K175 : ∀ v175 : Bool, j_L_areRoutes_175 r rl rh k28 x6_58 x7_58 = v175 → ∀ (H : Heap) (locs : List Loc), va_P D vwCl (wC cI ad rc rl rh fr fw fc fg ps pg pr pd qp qt qf qo ct lE lC cand lim now was (nI sent) (nI qfi) (nI qsz)) H → va_D A (wC cI ad rc rl rh fr fw fc fg ps pg pr pd qp qt qf qo ct lE lC cand lim now was (nI sent) (nI qfi) (nI qsz)) → va_S A s.heap H locs → ∀ ls : Array Slot, lv_has ls 11 [(0, .ref (ad 0)), (1, .ref (ad 22)), (2, .int (nI r)), (3, .int (bI x3_28)), (4, .int (nI k28)), (5, .int (f_X4_distanceOf r k28 rl)), (6, .int x6_58), (7, .int x7_58), (8, .int (-1))] → W p l e { frames := 3, cells := 0, slots := 0, locals := 66 } s m [.ref (ad 0), .ref (ad 22), .int (nI r)].toArray below meth c H locs 0 0 (QI below s A D [.ref (ad 0), .ref (ad 22), .int (nI r)] (wC cI ad rc rl rh fr fw fc fg ps pg pr pd qp qt qf qo ct lE lC cand lim now was (nI sent) (nI qfi) (nI qsz)) (bI (f_L_areRoutes r rl rh lE))) (F0 m 217 ls [.int (bI v175)]) := by
                intro v175 hv175 H locs hP hD hS ls hl
                subst hv175
                refine lv_istore_n (lv' := [(3, .int (bI (j_L_areRoutes_175 r rl rh k28 x6_58 x7_58))), (0, .ref (ad 0)), (1, .ref (ad 22)), (2, .int (nI r)), (4, .int (nI k28)), (5, .int (f_X4_distanceOf r k28 rl)), (6, .int x6_58), (7, .int x7_58), (8, .int (-1))]) hx hb dL_areRoutes_217 rfl hl (by decide) rfl (fun ls hl => ?_)
                refine lv_iinc (v := nI (k28 + 1)) (lv' := [(4, .int (nI (k28 + 1))), (3, .int (bI (j_L_areRoutes_175 r rl rh k28 x6_58 x7_58))), (0, .ref (ad 0)), (1, .ref (ad 22)), (2, .int (nI r)), (5, .int (f_X4_distanceOf r k28 rl)), (6, .int x6_58), (7, .int x7_58), (8, .int (-1))]) hx hb dL_areRoutes_218 hl (k := 4) rfl (nI_add _ _) (by decide) rfl (fun ls hl => ?_)
                refine lv_goto (tgt := 28) hx hb dL_areRoutes_221 (by decide) ?_
                exact ih28 (k28 + 1) (j_L_areRoutes_175 r rl rh k28 x6_58 x7_58) (by omega) hf _ _ hP hD hS _ (lv_sub hl [2, 3, 4, 1, 0] rfl)
              have hj175 := j_L_areRoutes_175.eq_1 r rl rh k28 x6_58 x7_58
              refine lv_icmp_ne (tgt := 216) hx hb dL_areRoutes_175 (by decide) (fun c70 => ?_) (fun c70 => ?_)
              · have hj175 := hj175.trans (if_neg c70)
                refine lv_iconst (v := nI 0) hx hb dL_areRoutes_216 (by decide) ?_
                exact K175 _ hj175 _ _ hP hD hS _ hl
              · have hj175 := hj175.trans (if_pos c70)
                refine lv_iload hx hb dL_areRoutes_178 (lv_at hl 4 rfl) ?_
                refine lv_iload_n hx hb dL_areRoutes_180 rfl (lv_at hl 2 rfl) ?_
                refine r_icmp_eq (tgt := 212) hx hb (by omega) (by omega) dL_areRoutes_181 (by decide) (fun c71 => ?_) (fun c71 => ?_)
                · have hj175 := hj175.trans (if_pos c71)
                  refine lv_iconst (v := nI 1) hx hb dL_areRoutes_212 (by decide) ?_
                  refine lv_goto (tgt := 217) hx hb dL_areRoutes_213 (by decide) ?_
                  exact K175 _ hj175 _ _ hP hD hS _ hl
                · have hj175 := hj175.trans (if_neg c71)
                  refine lv_iload hx hb dL_areRoutes_184 (lv_at hl 5 rfl) ?_
                  refine lv_iload hx hb dL_areRoutes_186 (lv_at hl 6 rfl) ?_
                  refine lv_icmp_ne (tgt := 216) hx hb dL_areRoutes_188 (by decide) (fun c72 => ?_) (fun c72 => ?_)
                  · have hj175 := hj175.trans (if_neg c72)
                    refine lv_iconst (v := nI 0) hx hb dL_areRoutes_216 (by decide) ?_
                    exact K175 _ hj175 _ _ hP hD hS _ hl
                  · have hj175 := hj175.trans (if_pos c72)
                    refine lv_aload_n hx hb dL_areRoutes_191 rfl (lv_at hl 0 rfl) ?_
                    refine lv_iload_n hx hb dL_areRoutes_192 rfl (lv_at hl 2 rfl) ?_
                    refine lv_iload hx hb dL_areRoutes_193 (lv_at hl 4 rfl) ?_
                    refine fV_i (ci := 5) (as := [.int (nI r), .int (nI k28)]) (rest := []) B hl.1 (c_X5_nextHop l D cI cZ ad rc rl rh fr fw fc fg ps pg pr pd qp qt qf qo ct lE lC cand lim now was sent qfi qsz r k28 (by omega) (by omega)) rfl (l_RL_21 hts ⟨rfl, rfl⟩ ⟨Nat.le_of_ble_eq_true rfl, Nat.le_of_ble_eq_true rfl⟩) m_20_12 m_20_13 rfl rfl hP hD hS hA 0 rfl wfC (Nat.le_of_ble_eq_true rfl) dL_areRoutes_195 (fun H locs hP hD hS => ?_)
                    refine lv_iload hx hb dL_areRoutes_198 (lv_at hl 5 rfl) ?_
                    have K200 : ∀ v200 : Int32, j_L_areRoutes_200 r rl k28 x7_58 = v200 → ∀ (H : Heap) (locs : List Loc), va_P D vwCl (wC cI ad rc rl rh fr fw fc fg ps pg pr pd qp qt qf qo ct lE lC cand lim now was (nI sent) (nI qfi) (nI qsz)) H → va_D A (wC cI ad rc rl rh fr fw fc fg ps pg pr pd qp qt qf qo ct lE lC cand lim now was (nI sent) (nI qfi) (nI qsz)) → va_S A s.heap H locs → ∀ ls : Array Slot, lv_has ls 11 [(0, .ref (ad 0)), (1, .ref (ad 22)), (2, .int (nI r)), (3, .int (bI x3_28)), (4, .int (nI k28)), (5, .int (f_X4_distanceOf r k28 rl)), (6, .int x6_58), (7, .int x7_58), (8, .int (-1))] → W p l e { frames := 3, cells := 0, slots := 0, locals := 66 } s m [.ref (ad 0), .ref (ad 22), .int (nI r)].toArray below meth c H locs 0 0 (QI below s A D [.ref (ad 0), .ref (ad 22), .int (nI r)] (wC cI ad rc rl rh fr fw fc fg ps pg pr pd qp qt qf qo ct lE lC cand lim now was (nI sent) (nI qfi) (nI qsz)) (bI (f_L_areRoutes r rl rh lE))) (F0 m 209 ls [.int v200, .int (rh ((r * 10) + k28))]) := by
                      intro v200 hv200 H locs hP hD hS ls hl
                      subst hv200
                      refine lv_icmp_ne (tgt := 216) hx hb dL_areRoutes_209 (by decide) (fun c73 => ?_) (fun c73 => ?_)
                      · have hj175 := hj175.trans (if_neg c73)
                        refine lv_iconst (v := nI 0) hx hb dL_areRoutes_216 (by decide) ?_
                        exact K175 _ hj175 _ _ hP hD hS _ hl
                      · have hj175 := hj175.trans (if_pos c73)
                        refine lv_iconst (v := nI 1) hx hb dL_areRoutes_212 (by decide) ?_
                        refine lv_goto (tgt := 217) hx hb dL_areRoutes_213 (by decide) ?_
                        exact K175 _ hj175 _ _ hP hD hS _ hl
                    have hj200 := j_L_areRoutes_200.eq_1 r rl k28 x7_58
                    refine lv_if_ge (tgt := 207) hx hb dL_areRoutes_200 (by decide) (fun c74 => ?_) (fun c74 => ?_)
                    · have hj200 := hj200.trans (if_pos c74)
                      refine lv_iload hx hb dL_areRoutes_207 (lv_at hl 7 rfl) ?_
                      exact K200 _ hj200 _ _ hP hD hS _ hl
                    · have hj200 := hj200.trans (if_neg c74)
                      refine lv_iconst (v := -1) hx hb dL_areRoutes_203 (by decide) ?_
                      refine lv_goto (tgt := 209) hx hb dL_areRoutes_204 (by decide) ?_
                      exact K200 _ hj200 _ _ hP hD hS _ hl
            | succ n58 ih58 =>
              intro x6_58 x7_58 hb58_0 hf H locs hP hD hS ls hl
              rw [f_L_areRoutes_L58] at hf
              rw [pk_m1] at hl
              have hl : lv_has ls 11 [(0, .ref (ad 0)), (1, .ref (ad 22)), (2, .int (nI r)), (3, .int (bI x3_28)), (4, .int (nI k28)), (5, .int (f_X4_distanceOf r k28 rl)), (6, .int x6_58), (7, .int x7_58), (8, .int (nI n58))] := hl
              refine lv_iload hx hb dL_areRoutes_58 (lv_at hl 8 rfl) ?_
              refine r_if_lt (tgt := 166) hx hb (by omega) dL_areRoutes_60 (by decide) ?_
              refine lv_aload_n hx hb dL_areRoutes_63 rfl (lv_at hl 1 rfl) ?_
              refine lv_iload_n hx hb dL_areRoutes_64 rfl (lv_at hl 2 rfl) ?_
              refine lv_iload hx hb dL_areRoutes_65 (lv_at hl 8 rfl) ?_
              refine fS_i (as := [.ref (ad 22), .int (nI r), .int (nI n58)]) (rest := []) B hl.1 (c_L_cost l D cI cZ ad rc rl rh fr fw fc fg ps pg pr pd qp qt qf qo ct lE lC cand lim now was sent qfi qsz r n58 (by omega) (by omega)) (l_RL_24 hts ⟨rfl, rfl⟩ ⟨Nat.le_of_ble_eq_true rfl, Nat.le_of_ble_eq_true rfl⟩) m_20_16 rfl rfl hP hD hS hA wfC (Nat.le_of_ble_eq_true rfl) dL_areRoutes_67 (fun H locs hP hD hS => ?_)
              have K70 : ∀ v70 : Int32, j_L_areRoutes_70 r rl lE k28 n58 = v70 → ∀ (H : Heap) (locs : List Loc), va_P D vwCl (wC cI ad rc rl rh fr fw fc fg ps pg pr pd qp qt qf qo ct lE lC cand lim now was (nI sent) (nI qfi) (nI qsz)) H → va_D A (wC cI ad rc rl rh fr fw fc fg ps pg pr pd qp qt qf qo ct lE lC cand lim now was (nI sent) (nI qfi) (nI qsz)) → va_S A s.heap H locs → ∀ ls : Array Slot, lv_has ls 11 [(0, .ref (ad 0)), (1, .ref (ad 22)), (2, .int (nI r)), (3, .int (bI x3_28)), (4, .int (nI k28)), (5, .int (f_X4_distanceOf r k28 rl)), (6, .int x6_58), (7, .int x7_58), (8, .int (nI n58))] → W p l e { frames := 3, cells := 0, slots := 0, locals := 66 } s m [.ref (ad 0), .ref (ad 22), .int (nI r)].toArray below meth c H locs 0 0 (QI below s A D [.ref (ad 0), .ref (ad 22), .int (nI r)] (wC cI ad rc rl rh fr fw fc fg ps pg pr pd qp qt qf qo ct lE lC cand lim now was (nI sent) (nI qfi) (nI qsz)) (bI (f_L_areRoutes r rl rh lE))) (F0 m 85 ls [.int v70]) := by
                intro v70 hv70 H locs hP hD hS ls hl
                subst hv70
                refine lv_istore (lv' := [(9, .int (j_L_areRoutes_70 r rl lE k28 n58)), (0, .ref (ad 0)), (1, .ref (ad 22)), (2, .int (nI r)), (3, .int (bI x3_28)), (4, .int (nI k28)), (5, .int (f_X4_distanceOf r k28 rl)), (6, .int x6_58), (7, .int x7_58), (8, .int (nI n58))]) hx hb dL_areRoutes_85 hl (by decide) rfl (fun ls hl => ?_)
                refine lv_iload hx hb dL_areRoutes_87 (lv_at hl 0 rfl) ?_
                have K89 : ∀ v89 : Int32, j_L_areRoutes_89 r rl lE k28 n58 = v89 → ∀ (H : Heap) (locs : List Loc), va_P D vwCl (wC cI ad rc rl rh fr fw fc fg ps pg pr pd qp qt qf qo ct lE lC cand lim now was (nI sent) (nI qfi) (nI qsz)) H → va_D A (wC cI ad rc rl rh fr fw fc fg ps pg pr pd qp qt qf qo ct lE lC cand lim now was (nI sent) (nI qfi) (nI qsz)) → va_S A s.heap H locs → ∀ ls : Array Slot, lv_has ls 11 [(9, .int (j_L_areRoutes_70 r rl lE k28 n58)), (0, .ref (ad 0)), (1, .ref (ad 22)), (2, .int (nI r)), (3, .int (bI x3_28)), (4, .int (nI k28)), (5, .int (f_X4_distanceOf r k28 rl)), (6, .int x6_58), (7, .int x7_58), (8, .int (nI n58))] → W p l e { frames := 3, cells := 0, slots := 0, locals := 66 } s m [.ref (ad 0), .ref (ad 22), .int (nI r)].toArray below meth c H locs 0 0 (QI below s A D [.ref (ad 0), .ref (ad 22), .int (nI r)] (wC cI ad rc rl rh fr fw fc fg ps pg pr pd qp qt qf qo ct lE lC cand lim now was (nI sent) (nI qfi) (nI qsz)) (bI (f_L_areRoutes r rl rh lE))) (F0 m 106 ls [.int v89]) := by
                  intro v89 hv89 H locs hP hD hS ls hl
                  subst hv89
                  refine lv_istore (lv' := [(10, .int (j_L_areRoutes_89 r rl lE k28 n58)), (9, .int (j_L_areRoutes_70 r rl lE k28 n58)), (0, .ref (ad 0)), (1, .ref (ad 22)), (2, .int (nI r)), (3, .int (bI x3_28)), (4, .int (nI k28)), (5, .int (f_X4_distanceOf r k28 rl)), (6, .int x6_58), (7, .int x7_58), (8, .int (nI n58))]) hx hb dL_areRoutes_106 hl (by decide) rfl (fun ls hl => ?_)
                  refine lv_iload hx hb dL_areRoutes_108 (lv_at hl 0 rfl) ?_
                  have K110 : ∀ v110 : Int32, j_L_areRoutes_110 r rl lE k28 x6_58 x7_58 n58 = v110 → ∀ (H : Heap) (locs : List Loc), va_P D vwCl (wC cI ad rc rl rh fr fw fc fg ps pg pr pd qp qt qf qo ct lE lC cand lim now was (nI sent) (nI qfi) (nI qsz)) H → va_D A (wC cI ad rc rl rh fr fw fc fg ps pg pr pd qp qt qf qo ct lE lC cand lim now was (nI sent) (nI qfi) (nI qsz)) → va_S A s.heap H locs → ∀ ls : Array Slot, lv_has ls 11 [(10, .int (j_L_areRoutes_89 r rl lE k28 n58)), (9, .int (j_L_areRoutes_70 r rl lE k28 n58)), (0, .ref (ad 0)), (1, .ref (ad 22)), (2, .int (nI r)), (3, .int (bI x3_28)), (4, .int (nI k28)), (5, .int (f_X4_distanceOf r k28 rl)), (6, .int x6_58), (7, .int x7_58), (8, .int (nI n58))] → W p l e { frames := 3, cells := 0, slots := 0, locals := 66 } s m [.ref (ad 0), .ref (ad 22), .int (nI r)].toArray below meth c H locs 0 0 (QI below s A D [.ref (ad 0), .ref (ad 22), .int (nI r)] (wC cI ad rc rl rh fr fw fc fg ps pg pr pd qp qt qf qo ct lE lC cand lim now was (nI sent) (nI qfi) (nI qsz)) (bI (f_L_areRoutes r rl rh lE))) (F0 m 132 ls [.int v110]) := by
                    intro v110 hv110 H locs hP hD hS ls hl
                    subst hv110
                    refine lv_istore (lv' := [(7, .int (j_L_areRoutes_110 r rl lE k28 x6_58 x7_58 n58)), (10, .int (j_L_areRoutes_89 r rl lE k28 n58)), (9, .int (j_L_areRoutes_70 r rl lE k28 n58)), (0, .ref (ad 0)), (1, .ref (ad 22)), (2, .int (nI r)), (3, .int (bI x3_28)), (4, .int (nI k28)), (5, .int (f_X4_distanceOf r k28 rl)), (6, .int x6_58), (8, .int (nI n58))]) hx hb dL_areRoutes_132 hl (by decide) rfl (fun ls hl => ?_)
                    refine lv_iload hx hb dL_areRoutes_134 (lv_at hl 1 rfl) ?_
                    have K136 : ∀ v136 : Int32, j_L_areRoutes_136 r rl lE k28 x6_58 n58 = v136 → ∀ (H : Heap) (locs : List Loc), va_P D vwCl (wC cI ad rc rl rh fr fw fc fg ps pg pr pd qp qt qf qo ct lE lC cand lim now was (nI sent) (nI qfi) (nI qsz)) H → va_D A (wC cI ad rc rl rh fr fw fc fg ps pg pr pd qp qt qf qo ct lE lC cand lim now was (nI sent) (nI qfi) (nI qsz)) → va_S A s.heap H locs → ∀ ls : Array Slot, lv_has ls 11 [(7, .int (j_L_areRoutes_110 r rl lE k28 x6_58 x7_58 n58)), (10, .int (j_L_areRoutes_89 r rl lE k28 n58)), (9, .int (j_L_areRoutes_70 r rl lE k28 n58)), (0, .ref (ad 0)), (1, .ref (ad 22)), (2, .int (nI r)), (3, .int (bI x3_28)), (4, .int (nI k28)), (5, .int (f_X4_distanceOf r k28 rl)), (6, .int x6_58), (8, .int (nI n58))] → W p l e { frames := 3, cells := 0, slots := 0, locals := 66 } s m [.ref (ad 0), .ref (ad 22), .int (nI r)].toArray below meth c H locs 0 0 (QI below s A D [.ref (ad 0), .ref (ad 22), .int (nI r)] (wC cI ad rc rl rh fr fw fc fg ps pg pr pd qp qt qf qo ct lE lC cand lim now was (nI sent) (nI qfi) (nI qsz)) (bI (f_L_areRoutes r rl rh lE))) (F0 m 158 ls [.int v136]) := by
                      intro v136 hv136 H locs hP hD hS ls hl
                      subst hv136
                      refine lv_istore (lv' := [(6, .int (j_L_areRoutes_136 r rl lE k28 x6_58 n58)), (7, .int (j_L_areRoutes_110 r rl lE k28 x6_58 x7_58 n58)), (10, .int (j_L_areRoutes_89 r rl lE k28 n58)), (9, .int (j_L_areRoutes_70 r rl lE k28 n58)), (0, .ref (ad 0)), (1, .ref (ad 22)), (2, .int (nI r)), (3, .int (bI x3_28)), (4, .int (nI k28)), (5, .int (f_X4_distanceOf r k28 rl)), (8, .int (nI n58))]) hx hb dL_areRoutes_158 hl (by decide) rfl (fun ls hl => ?_)
                      refine lv_iinc (v := nI n58 + (-1)) (lv' := [(8, .int (nI n58 + (-1))), (6, .int (j_L_areRoutes_136 r rl lE k28 x6_58 n58)), (7, .int (j_L_areRoutes_110 r rl lE k28 x6_58 x7_58 n58)), (10, .int (j_L_areRoutes_89 r rl lE k28 n58)), (9, .int (j_L_areRoutes_70 r rl lE k28 n58)), (0, .ref (ad 0)), (1, .ref (ad 22)), (2, .int (nI r)), (3, .int (bI x3_28)), (4, .int (nI k28)), (5, .int (f_X4_distanceOf r k28 rl))]) hx hb dL_areRoutes_160 hl (k := 10) rfl rfl (by decide) rfl (fun ls hl => ?_)
                      refine lv_goto (tgt := 58) hx hb dL_areRoutes_163 (by decide) ?_
                      exact ih58 (j_L_areRoutes_136 r rl lE k28 x6_58 n58) (j_L_areRoutes_110 r rl lE k28 x6_58 x7_58 n58) (by omega) hf _ _ hP hD hS _ (lv_sub hl [5, 6, 7, 8, 9, 10, 1, 2, 0] rfl)
                    have hj136 := j_L_areRoutes_136.eq_1 r rl lE k28 x6_58 n58
                    refine lv_if_lt (tgt := 156) hx hb dL_areRoutes_136 (by decide) (fun c75 => ?_) (fun c75 => ?_)
                    · have hj136 := hj136.trans (if_pos c75)
                      refine lv_iload hx hb dL_areRoutes_156 (lv_at hl 9 rfl) ?_
                      exact K136 _ hj136 _ _ hP hD hS _ hl
                    · have hj136 := hj136.trans (if_neg c75)
                      refine lv_iload hx hb dL_areRoutes_139 (lv_at hl 9 rfl) ?_
                      refine lv_if_lt (tgt := 151) hx hb dL_areRoutes_141 (by decide) (fun c76 => ?_) (fun c76 => ?_)
                      · have hj136 := hj136.trans (if_pos c76)
                        refine lv_iload hx hb dL_areRoutes_151 (lv_at hl 1 rfl) ?_
                        refine lv_goto (tgt := 158) hx hb dL_areRoutes_153 (by decide) ?_
                        exact K136 _ hj136 _ _ hP hD hS _ hl
                      · have hj136 := hj136.trans (if_neg c76)
                        refine lv_iload hx hb dL_areRoutes_144 (lv_at hl 1 rfl) ?_
                        refine lv_iload hx hb dL_areRoutes_146 (lv_at hl 9 rfl) ?_
                        refine lv_icmp_ge (tgt := 156) hx hb dL_areRoutes_148 (by decide) (fun c77 => ?_) (fun c77 => ?_)
                        · have hj136 := hj136.trans (if_pos c77)
                          refine lv_iload hx hb dL_areRoutes_156 (lv_at hl 9 rfl) ?_
                          exact K136 _ hj136 _ _ hP hD hS _ hl
                        · have hj136 := hj136.trans (if_neg c77)
                          refine lv_iload hx hb dL_areRoutes_151 (lv_at hl 1 rfl) ?_
                          refine lv_goto (tgt := 158) hx hb dL_areRoutes_153 (by decide) ?_
                          exact K136 _ hj136 _ _ hP hD hS _ hl
                  have hj110 := j_L_areRoutes_110.eq_1 r rl lE k28 x6_58 x7_58 n58
                  refine lv_if_lt (tgt := 130) hx hb dL_areRoutes_110 (by decide) (fun c78 => ?_) (fun c78 => ?_)
                  · have hj110 := hj110.trans (if_pos c78)
                    refine lv_iload hx hb dL_areRoutes_130 (lv_at hl 9 rfl) ?_
                    exact K110 _ hj110 _ _ hP hD hS _ hl
                  · have hj110 := hj110.trans (if_neg c78)
                    refine lv_iload hx hb dL_areRoutes_113 (lv_at hl 8 rfl) ?_
                    refine lv_if_lt (tgt := 125) hx hb dL_areRoutes_115 (by decide) (fun c79 => ?_) (fun c79 => ?_)
                    · have hj110 := hj110.trans (if_pos c79)
                      refine lv_iload hx hb dL_areRoutes_125 (lv_at hl 10 rfl) ?_
                      refine lv_goto (tgt := 132) hx hb dL_areRoutes_127 (by decide) ?_
                      exact K110 _ hj110 _ _ hP hD hS _ hl
                    · have hj110 := hj110.trans (if_neg c79)
                      refine lv_iload hx hb dL_areRoutes_118 (lv_at hl 0 rfl) ?_
                      refine lv_iload hx hb dL_areRoutes_120 (lv_at hl 8 rfl) ?_
                      refine lv_icmp_gt (tgt := 130) hx hb dL_areRoutes_122 (by decide) (fun c80 => ?_) (fun c80 => ?_)
                      · have hj110 := hj110.trans (if_pos c80)
                        refine lv_iload hx hb dL_areRoutes_130 (lv_at hl 9 rfl) ?_
                        exact K110 _ hj110 _ _ hP hD hS _ hl
                      · have hj110 := hj110.trans (if_neg c80)
                        refine lv_iload hx hb dL_areRoutes_125 (lv_at hl 10 rfl) ?_
                        refine lv_goto (tgt := 132) hx hb dL_areRoutes_127 (by decide) ?_
                        exact K110 _ hj110 _ _ hP hD hS _ hl
                have hj89 := j_L_areRoutes_89.eq_1 r rl lE k28 n58
                refine lv_if_ge (tgt := 96) hx hb dL_areRoutes_89 (by decide) (fun c81 => ?_) (fun c81 => ?_)
                · have hj89 := hj89.trans (if_pos c81)
                  refine lv_iload hx hb dL_areRoutes_96 (lv_at hl 0 rfl) ?_
                  refine lv_aload_n hx hb dL_areRoutes_98 rfl (lv_at hl 2 rfl) ?_
                  refine lv_iload_n hx hb dL_areRoutes_99 rfl (lv_at hl 3 rfl) ?_
                  refine lv_iload hx hb dL_areRoutes_100 (lv_at hl 9 rfl) ?_
                  refine fS_i (as := [.ref (ad 22), .int (nI r), .int (nI n58)]) (rest := [.int (j_L_areRoutes_70 r rl lE k28 n58)]) B hl.1 (c_L_cost l D cI cZ ad rc rl rh fr fw fc fg ps pg pr pd qp qt qf qo ct lE lC cand lim now was sent qfi qsz r n58 (by omega) (by omega)) (l_RL_24 hts ⟨rfl, rfl⟩ ⟨Nat.le_of_ble_eq_true rfl, Nat.le_of_ble_eq_true rfl⟩) m_20_16 rfl rfl hP hD hS hA wfC (Nat.le_of_ble_eq_true rfl) dL_areRoutes_102 (fun H locs hP hD hS => ?_)
                  refine lv_iadd hx hb dL_areRoutes_105 ?_
                  exact K89 _ hj89 _ _ hP hD hS _ hl
                · have hj89 := hj89.trans (if_neg c81)
                  refine lv_iconst (v := -1) hx hb dL_areRoutes_92 (by decide) ?_
                  refine lv_goto (tgt := 106) hx hb dL_areRoutes_93 (by decide) ?_
                  exact K89 _ hj89 _ _ hP hD hS _ hl
              have hj70 := j_L_areRoutes_70.eq_1 r rl lE k28 n58
              refine lv_if_le (tgt := 84) hx hb dL_areRoutes_70 (by decide) (fun c82 => ?_) (fun c82 => ?_)
              · have hj70 := hj70.trans (if_pos c82)
                refine lv_iconst (v := -1) hx hb dL_areRoutes_84 (by decide) ?_
                exact K70 _ hj70 _ _ hP hD hS _ hl
              · have hj70 := hj70.trans (if_neg c82)
                refine lv_aload_n hx hb dL_areRoutes_73 rfl (lv_at hl 0 rfl) ?_
                refine lv_iload hx hb dL_areRoutes_74 (lv_at hl 8 rfl) ?_
                refine lv_iload hx hb dL_areRoutes_76 (lv_at hl 4 rfl) ?_
                refine fV_i (ci := 5) (as := [.int (nI n58), .int (nI k28)]) (rest := []) B hl.1 (c_X5_distance l D cI cZ ad rc rl rh fr fw fc fg ps pg pr pd qp qt qf qo ct lE lC cand lim now was sent qfi qsz n58 k28 (by omega) (by omega)) rfl (l_RL_16 hts ⟨rfl, rfl⟩ ⟨Nat.le_of_ble_eq_true rfl, Nat.le_of_ble_eq_true rfl⟩) m_14_5 m_14_6 rfl rfl hP hD hS hA 0 rfl wfC (Nat.le_of_ble_eq_true rfl) dL_areRoutes_78 (fun H locs hP hD hS => ?_)
                refine lv_goto (tgt := 85) hx hb dL_areRoutes_81 (by decide) ?_
                exact K70 _ hj70 _ _ hP hD hS _ hl
          exact L58 10 (-1) (-1) (by omega) hf _ _ hP hD hS _ (lv_sub hl [4, 5, 6, 7, 8, 3, 2, 1, 0] rfl)
    exact L28 10 0 (j_L_areRoutes_6 r rl rh) (by omega) hf _ _ hP hD hS _ (lv_sub hl [2, 3, 4, 1, 0] rfl)
  have hj6 := j_L_areRoutes_6.eq_1 r rl rh
  refine lv_if_ne (tgt := 23) hx hb dL_areRoutes_6 (by decide) (fun c83 => ?_) (fun c83 => ?_)
  · have hj6 := hj6.trans (if_neg c83)
    refine lv_iconst (v := nI 0) hx hb dL_areRoutes_23 (by decide) ?_
    exact K6 _ hj6 _ _ hP hD hS _ hl
  · have hj6 := hj6.trans (if_pos c83)
    refine lv_aload_n hx hb dL_areRoutes_9 rfl (lv_at hl 0 rfl) ?_
    refine lv_iload_n hx hb dL_areRoutes_10 rfl (lv_at hl 2 rfl) ?_
    refine lv_iload_n hx hb dL_areRoutes_11 rfl (lv_at hl 2 rfl) ?_
    refine fV_i (ci := 5) (as := [.int (nI r), .int (nI r)]) (rest := []) B hl.1 (c_X5_nextHop l D cI cZ ad rc rl rh fr fw fc fg ps pg pr pd qp qt qf qo ct lE lC cand lim now was sent qfi qsz r r (by omega) (by omega)) rfl (l_RL_21 hts ⟨rfl, rfl⟩ ⟨Nat.le_of_ble_eq_true rfl, Nat.le_of_ble_eq_true rfl⟩) m_20_12 m_20_13 rfl rfl hP hD hS hA 0 rfl wfC (Nat.le_of_ble_eq_true rfl) dL_areRoutes_12 (fun H locs hP hD hS => ?_)
    refine lv_iconst (v := -1) hx hb dL_areRoutes_15 (by decide) ?_
    refine lv_icmp_ne (tgt := 23) hx hb dL_areRoutes_16 (by decide) (fun c84 => ?_) (fun c84 => ?_)
    · have hj6 := hj6.trans (if_neg c84)
      refine lv_iconst (v := nI 0) hx hb dL_areRoutes_23 (by decide) ?_
      exact K6 _ hj6 _ _ hP hD hS _ hl
    · have hj6 := hj6.trans (if_pos c84)
      refine lv_iconst (v := nI 1) hx hb dL_areRoutes_19 (by decide) ?_
      refine lv_goto (tgt := 24) hx hb dL_areRoutes_20 (by decide) ?_
      exact K6 _ hj6 _ _ hP hD hS _ hl
def j_L_below_3 (r : Nat) (src : Nat) (g : Nat) (fc : Nat → Int32) : Int32 :=
  if src = 10 then f_X2_branchesFrom g r fc else f_X2_branchesFrom ((4 + (g * 10)) + src) r fc
def f_L_below (r : Nat) (src : Nat) (g : Nat) (fc : Nat → Int32) : Int32 :=
  j_L_below_3 r src g fc
set_option maxHeartbeats 4000000 in
set_option maxRecDepth 100000 in
theorem c_L_below (l : Launch) (D : va_G) (cI cZ : ClassId) (ad : Nat → Nat) (rc rl rh fr fw fc fg ps pg pr pd qp qt qf qo ct lE lC : Nat → Int32) (cand : Int32) (lim : Int32) (now : Int32) (was : Int32) (sent : Nat) (qfi : Nat) (qsz : Nat) (r : Nat) (src : Nat) (g : Nat) (hr : r < 10) (hsrc : src < 11) (hg : g < 4) : MI l yL_below cL_below 4 .int { frames := 3, cells := 0, slots := 0, locals := 67 } D (TY cI cZ) [.ref (ad 0), .int (nI r), .int (nI src), .int (nI g)] (wC cI ad rc rl rh fr fw fc fg ps pg pr pd qp qt qf qo ct lE lC cand lim now was (nI sent) (nI qfi) (nI qsz)) (wC cI ad rc rl rh fr fw fc fg ps pg pr pd qp qt qf qo ct lE lC cand lim now was (nI sent) (nI qfi) (nI qsz)) (f_L_below r src g fc) := by
  refine MI.mk ⟨rfl, rfl⟩ (by decide +kernel) (Nat.le_of_ble_eq_true rfl) ?_
  intro p e s m below meth c A ls B hA hP hD hS hl
  have hx := B.1
  have hb := B.2.1
  have hts := B.2.2.2.2.2.1
  have hN := B.2.2.2.2.2.2.2.1
  have hK := B.2.2.2.2.2.2.2.2.1
  have hl : lv_has ls 4 [(0, .ref (ad 0)), (1, .int (nI r)), (2, .int (nI src)), (3, .int (nI g))] := hl
  have hf := f_L_below.eq_1 r src g fc
  refine lv_iload_n hx hb dL_below_0 rfl (lv_at hl 2 rfl) ?_
  refine lv_bipush (v := nI 10) hx hb dL_below_1 (by decide) ?_
  have K3 : ∀ v3 : Int32, j_L_below_3 r src g fc = v3 → ∀ (H : Heap) (locs : List Loc), va_P D vwCl (wC cI ad rc rl rh fr fw fc fg ps pg pr pd qp qt qf qo ct lE lC cand lim now was (nI sent) (nI qfi) (nI qsz)) H → va_D A (wC cI ad rc rl rh fr fw fc fg ps pg pr pd qp qt qf qo ct lE lC cand lim now was (nI sent) (nI qfi) (nI qsz)) → va_S A s.heap H locs → ∀ ls : Array Slot, lv_has ls 4 [(0, .ref (ad 0)), (1, .int (nI r)), (2, .int (nI src)), (3, .int (nI g))] → W p l e { frames := 3, cells := 0, slots := 0, locals := 67 } s m [.ref (ad 0), .int (nI r), .int (nI src), .int (nI g)].toArray below meth c H locs 0 0 (QI below s A D [.ref (ad 0), .int (nI r), .int (nI src), .int (nI g)] (wC cI ad rc rl rh fr fw fc fg ps pg pr pd qp qt qf qo ct lE lC cand lim now was (nI sent) (nI qfi) (nI qsz)) (f_L_below r src g fc)) (F0 m 22 ls [.int v3]) := by
    intro v3 hv3 H locs hP hD hS ls hl
    subst hv3
    exact eI B hP hS ((congrArg (fun (u : Int32) => u) hf).symm) rfl dL_below_22
  have hj3 := j_L_below_3.eq_1 r src g fc
  refine r_icmp_ne (tgt := 15) hx hb (by omega) (by omega) dL_below_3 (by decide) (fun c1 => ?_) (fun c1 => ?_)
  · have hj3 := hj3.trans (if_neg c1)
    refine lv_aload_n hx hb dL_below_15 rfl (lv_at hl 0 rfl) ?_
    refine lv_iload_n hx hb dL_below_16 rfl (lv_at hl 1 rfl) ?_
    refine lv_iload_n hx hb dL_below_17 rfl (lv_at hl 2 rfl) ?_
    refine lv_iload_n hx hb dL_below_18 rfl (lv_at hl 3 rfl) ?_
    refine fV_i (ci := 5) (as := [.int (nI r), .int (nI src), .int (nI g)]) (rest := []) B hl.1 (c_X5_sourceBranches l D cI cZ ad rc rl rh fr fw fc fg ps pg pr pd qp qt qf qo ct lE lC cand lim now was sent qfi qsz r src g (by omega) (by omega) (by omega)) rfl (l_RL_35 hts ⟨rfl, rfl⟩ ⟨Nat.le_of_ble_eq_true rfl, Nat.le_of_ble_eq_true rfl⟩) m_14_23 m_15_0 rfl rfl hP hD hS hA 0 rfl wfC (Nat.le_of_ble_eq_true rfl) dL_below_19 (fun H locs hP hD hS => ?_)
    exact K3 _ hj3 _ _ hP hD hS _ hl
  · have hj3 := hj3.trans (if_pos c1)
    refine lv_aload_n hx hb dL_below_6 rfl (lv_at hl 0 rfl) ?_
    refine lv_iload_n hx hb dL_below_7 rfl (lv_at hl 1 rfl) ?_
    refine lv_iload_n hx hb dL_below_8 rfl (lv_at hl 3 rfl) ?_
    refine fV_i (ci := 5) (as := [.int (nI r), .int (nI g)]) (rest := []) B hl.1 (c_X5_branches l D cI cZ ad rc rl rh fr fw fc fg ps pg pr pd qp qt qf qo ct lE lC cand lim now was sent qfi qsz r g (by omega) (by omega)) rfl (l_RL_32 hts ⟨rfl, rfl⟩ ⟨Nat.le_of_ble_eq_true rfl, Nat.le_of_ble_eq_true rfl⟩) m_21_8 m_21_9 rfl rfl hP hD hS hA 0 rfl wfC (Nat.le_of_ble_eq_true rfl) dL_below_9 (fun H locs hP hD hS => ?_)
    refine lv_goto (tgt := 22) hx hb dL_below_12 (by decide) ?_
    exact K3 _ hj3 _ _ hP hD hS _ hl
def j_L_areMembers_23 (fr : Nat → Int32) (fw : Nat → Int32) (lC : Nat → Int32) (k4 : Nat) : Bool :=
  if (fw k4) = (lC (1 + k4)) then (if (fr k4) = (f_L_meets (lC 0) k4) then true else false) else false
def j_L_areMembers_80 (fw : Nat → Int32) (lC : Nat → Int32) (k4 : Nat) (k50 : Nat) : Bool :=
  if ((fw ((4 + (k4 * 10)) + k50)) &&& ((lC (1 + k4)) ^^^ (-1))) = 0 then (if (f_L_isIn (fw ((4 + (k4 * 10)) + k50)) k50) = true then false else true) else false
def f_L_areMembers_L50 (fw : Nat → Int32) (lC : Nat → Int32) (k4 : Nat) : Nat → Nat → Bool → Bool
  | 0, _, x2_50 => x2_50
  | n50 + 1, k50, x2_50 => if x2_50 = true then f_L_areMembers_L50 fw lC k4 n50 (k50 + 1) (j_L_areMembers_80 fw lC k4 k50) else x2_50
def f_L_areMembers_L4 (fr : Nat → Int32) (fw : Nat → Int32) (lC : Nat → Int32) : Nat → Nat → Bool → Bool
  | 0, _, x2_4 => x2_4
  | n4 + 1, k4, x2_4 => if x2_4 = true then f_L_areMembers_L4 fr fw lC n4 (k4 + 1) (f_L_areMembers_L50 fw lC k4 10 0 (j_L_areMembers_23 fr fw lC k4)) else x2_4
def f_L_areMembers (fr : Nat → Int32) (fw : Nat → Int32) (lC : Nat → Int32) : Bool :=
  f_L_areMembers_L4 fr fw lC 4 0 true
set_option maxHeartbeats 4000000 in
set_option maxRecDepth 100000 in
theorem c_L_areMembers (l : Launch) (D : va_G) (cI cZ : ClassId) (ad : Nat → Nat) (rc rl rh fr fw fc fg ps pg pr pd qp qt qf qo ct lE lC : Nat → Int32) (cand : Int32) (lim : Int32) (now : Int32) (was : Int32) (sent : Nat) (qfi : Nat) (qsz : Nat) : MI l yL_areMembers cL_areMembers 6 .boolean { frames := 4, cells := 0, slots := 0, locals := 83 } D (TY cI cZ) [.ref (ad 0), .ref (ad 23)] (wC cI ad rc rl rh fr fw fc fg ps pg pr pd qp qt qf qo ct lE lC cand lim now was (nI sent) (nI qfi) (nI qsz)) (wC cI ad rc rl rh fr fw fc fg ps pg pr pd qp qt qf qo ct lE lC cand lim now was (nI sent) (nI qfi) (nI qsz)) (bI (f_L_areMembers fr fw lC)) := by
  refine MI.mk ⟨rfl, rfl⟩ (by decide +kernel) (Nat.le_of_ble_eq_true rfl) ?_
  intro p e s m below meth c A ls B hA hP hD hS hl
  have hx := B.1
  have hb := B.2.1
  have hts := B.2.2.2.2.2.1
  have hN := B.2.2.2.2.2.2.2.1
  have hK := B.2.2.2.2.2.2.2.2.1
  have hl : lv_has ls 6 [(0, .ref (ad 0)), (1, .ref (ad 23))] := hl
  have hf := f_L_areMembers.eq_1 fr fw lC
  refine lv_iconst (v := nI 1) hx hb dL_areMembers_0 (by decide) ?_
  refine lv_istore_n (lv' := [(2, .int (nI 1)), (0, .ref (ad 0)), (1, .ref (ad 23))]) hx hb dL_areMembers_1 rfl hl (by decide) rfl (fun ls hl => ?_)
  refine lv_iconst (v := nI 0) hx hb dL_areMembers_2 (by decide) ?_
  refine lv_istore_n (lv' := [(3, .int (nI 0)), (2, .int (nI 1)), (0, .ref (ad 0)), (1, .ref (ad 23))]) hx hb dL_areMembers_3 rfl hl (by decide) rfl (fun ls hl => ?_)
  have L4 : ∀ (n4 : Nat) (k4 : Nat) (x2_4 : Bool), k4 + n4 = 4 → f_L_areMembers fr fw lC = (f_L_areMembers_L4 fr fw lC n4 k4 x2_4) → ∀ (H : Heap) (locs : List Loc), va_P D vwCl (wC cI ad rc rl rh fr fw fc fg ps pg pr pd qp qt qf qo ct lE lC cand lim now was (nI sent) (nI qfi) (nI qsz)) H → va_D A (wC cI ad rc rl rh fr fw fc fg ps pg pr pd qp qt qf qo ct lE lC cand lim now was (nI sent) (nI qfi) (nI qsz)) → va_S A s.heap H locs → ∀ ls : Array Slot, lv_has ls 6 [(0, .ref (ad 0)), (1, .ref (ad 23)), (2, .int (bI x2_4)), (3, .int (nI k4))] → W p l e { frames := 4, cells := 0, slots := 0, locals := 83 } s m [.ref (ad 0), .ref (ad 23)].toArray below meth c H locs 0 0 (QI below s A D [.ref (ad 0), .ref (ad 23)] (wC cI ad rc rl rh fr fw fc fg ps pg pr pd qp qt qf qo ct lE lC cand lim now was (nI sent) (nI qfi) (nI qsz)) (bI (f_L_areMembers fr fw lC))) (F0 m 4 ls []) := by
    intro n4
    induction n4 with
    | zero =>
      intro k4 x2_4 hk4 hf H locs hP hD hS ls hl
      obtain rfl : 4 = k4 := by omega
      rw [f_L_areMembers_L4] at hf
      have hl : lv_has ls 6 [(0, .ref (ad 0)), (1, .ref (ad 23)), (2, .int (bI x2_4)), (3, .int (nI 4))] := hl
      refine lv_iload_n hx hb dL_areMembers_4 rfl (lv_at hl 3 rfl) ?_
      refine lv_iconst (v := nI 4) hx hb dL_areMembers_5 (by decide) ?_
      refine r_icmp_ge (tgt := 111) hx hb (by omega) (by omega) dL_areMembers_6 (by decide) (fun _ => ?_) (fun c => absurd c (by omega))
      refine lv_iload_n hx hb dL_areMembers_111 rfl (lv_at hl 2 rfl) ?_
      exact eZ B hP hS (bI_nar _) ((congrArg (fun (u : Bool) => bI u) hf).symm) rfl dL_areMembers_112
    | succ n4 ih4 =>
      intro k4 x2_4 hk4 hf H locs hP hD hS ls hl
      rw [f_L_areMembers_L4] at hf
      have hl : lv_has ls 6 [(0, .ref (ad 0)), (1, .ref (ad 23)), (2, .int (bI x2_4)), (3, .int (nI k4))] := hl
      refine lv_iload_n hx hb dL_areMembers_4 rfl (lv_at hl 3 rfl) ?_
      refine lv_iconst (v := nI 4) hx hb dL_areMembers_5 (by decide) ?_
      refine r_icmp_ge (tgt := 111) hx hb (by omega) (by omega) dL_areMembers_6 (by decide) (fun c => absurd c (by omega)) (fun _ => ?_)
      refine lv_iload_n hx hb dL_areMembers_9 rfl (lv_at hl 2 rfl) ?_
      refine r_if_eq_b (tgt := 111) hx hb dL_areMembers_10 (by decide) (fun c27 => ?_) (fun c27 => ?_)
      · have hf := hf.trans (if_neg c27)
        refine lv_iload_n hx hb dL_areMembers_111 rfl (lv_at hl 2 rfl) ?_
        exact eZ B hP hS (bI_nar _) ((congrArg (fun (u : Bool) => bI u) hf).symm) rfl dL_areMembers_112
      · have hf := hf.trans (if_pos c27)
        refine lv_aload_n hx hb dL_areMembers_13 rfl (lv_at hl 0 rfl) ?_
        refine lv_iload_n hx hb dL_areMembers_14 rfl (lv_at hl 3 rfl) ?_
        refine fV_i (ci := 5) (as := [.int (nI k4)]) (rest := []) B hl.1 (c_X5_members l D cI cZ ad rc rl rh fr fw fc fg ps pg pr pd qp qt qf qo ct lE lC cand lim now was sent qfi qsz k4 (by omega)) rfl (l_RL_43 hts ⟨rfl, rfl⟩ ⟨Nat.le_of_ble_eq_true rfl, Nat.le_of_ble_eq_true rfl⟩) m_21_1 m_21_2 rfl rfl hP hD hS hA 0 rfl wfC (Nat.le_of_ble_eq_true rfl) dL_areMembers_15 (fun H locs hP hD hS => ?_)
        refine lv_aload_n hx hb dL_areMembers_18 rfl (lv_at hl 1 rfl) ?_
        refine lv_iconst (v := nI 1) hx hb dL_areMembers_19 (by decide) ?_
        refine lv_iload_n hx hb dL_areMembers_20 rfl (lv_at hl 3 rfl) ?_
        refine r_iadd hx hb dL_areMembers_21 ?_
        refine r_iald hx hb hK hP 23 0 rfl rfl (by omega) (by decide) dL_areMembers_22 ?_
        have K23 : ∀ v23 : Bool, j_L_areMembers_23 fr fw lC k4 = v23 → ∀ (H : Heap) (locs : List Loc), va_P D vwCl (wC cI ad rc rl rh fr fw fc fg ps pg pr pd qp qt qf qo ct lE lC cand lim now was (nI sent) (nI qfi) (nI qsz)) H → va_D A (wC cI ad rc rl rh fr fw fc fg ps pg pr pd qp qt qf qo ct lE lC cand lim now was (nI sent) (nI qfi) (nI qsz)) → va_S A s.heap H locs → ∀ ls : Array Slot, lv_has ls 6 [(0, .ref (ad 0)), (1, .ref (ad 23)), (2, .int (bI x2_4)), (3, .int (nI k4))] → W p l e { frames := 4, cells := 0, slots := 0, locals := 83 } s m [.ref (ad 0), .ref (ad 23)].toArray below meth c H locs 0 0 (QI below s A D [.ref (ad 0), .ref (ad 23)] (wC cI ad rc rl rh fr fw fc fg ps pg pr pd qp qt qf qo ct lE lC cand lim now was (nI sent) (nI qfi) (nI qsz)) (bI (f_L_areMembers fr fw lC))) (F0 m 46 ls [.int (bI v23)]) := by
          intro v23 hv23 H locs hP hD hS ls hl
          subst hv23
          refine lv_istore_n (lv' := [(2, .int (bI (j_L_areMembers_23 fr fw lC k4))), (0, .ref (ad 0)), (1, .ref (ad 23)), (3, .int (nI k4))]) hx hb dL_areMembers_46 rfl hl (by decide) rfl (fun ls hl => ?_)
          refine lv_iconst (v := nI 0) hx hb dL_areMembers_47 (by decide) ?_
          refine lv_istore (lv' := [(4, .int (nI 0)), (2, .int (bI (j_L_areMembers_23 fr fw lC k4))), (0, .ref (ad 0)), (1, .ref (ad 23)), (3, .int (nI k4))]) hx hb dL_areMembers_48 hl (by decide) rfl (fun ls hl => ?_)
          have L50 : ∀ (n50 : Nat) (k50 : Nat) (x2_50 : Bool), k50 + n50 = 10 → f_L_areMembers fr fw lC = (f_L_areMembers_L4 fr fw lC n4 (k4 + 1) (f_L_areMembers_L50 fw lC k4 n50 k50 x2_50)) → ∀ (H : Heap) (locs : List Loc), va_P D vwCl (wC cI ad rc rl rh fr fw fc fg ps pg pr pd qp qt qf qo ct lE lC cand lim now was (nI sent) (nI qfi) (nI qsz)) H → va_D A (wC cI ad rc rl rh fr fw fc fg ps pg pr pd qp qt qf qo ct lE lC cand lim now was (nI sent) (nI qfi) (nI qsz)) → va_S A s.heap H locs → ∀ ls : Array Slot, lv_has ls 6 [(0, .ref (ad 0)), (1, .ref (ad 23)), (2, .int (bI x2_50)), (3, .int (nI k4)), (4, .int (nI k50))] → W p l e { frames := 4, cells := 0, slots := 0, locals := 83 } s m [.ref (ad 0), .ref (ad 23)].toArray below meth c H locs 0 0 (QI below s A D [.ref (ad 0), .ref (ad 23)] (wC cI ad rc rl rh fr fw fc fg ps pg pr pd qp qt qf qo ct lE lC cand lim now was (nI sent) (nI qfi) (nI qsz)) (bI (f_L_areMembers fr fw lC))) (F0 m 50 ls []) := by
            intro n50
            induction n50 with
            | zero =>
              intro k50 x2_50 hk50 hf H locs hP hD hS ls hl
              obtain rfl : 10 = k50 := by omega
              rw [f_L_areMembers_L50] at hf
              have hl : lv_has ls 6 [(0, .ref (ad 0)), (1, .ref (ad 23)), (2, .int (bI x2_50)), (3, .int (nI k4)), (4, .int (nI 10))] := hl
              refine lv_iload hx hb dL_areMembers_50 (lv_at hl 4 rfl) ?_
              refine lv_bipush (v := nI 10) hx hb dL_areMembers_52 (by decide) ?_
              refine r_icmp_ge (tgt := 105) hx hb (by omega) (by omega) dL_areMembers_54 (by decide) (fun _ => ?_) (fun c => absurd c (by omega))
              refine lv_iinc (v := nI (k4 + 1)) (lv' := [(3, .int (nI (k4 + 1))), (0, .ref (ad 0)), (1, .ref (ad 23)), (2, .int (bI x2_50)), (4, .int (nI 10))]) hx hb dL_areMembers_105 hl (k := 3) rfl (nI_add _ _) (by decide) rfl (fun ls hl => ?_)
              refine lv_goto (tgt := 4) hx hb dL_areMembers_108 (by decide) ?_
              exact ih4 (k4 + 1) x2_50 (by omega) hf _ _ hP hD hS _ (lv_sub hl [1, 2, 3, 0] rfl)
            | succ n50 ih50 =>
              intro k50 x2_50 hk50 hf H locs hP hD hS ls hl
              rw [f_L_areMembers_L50] at hf
              have hl : lv_has ls 6 [(0, .ref (ad 0)), (1, .ref (ad 23)), (2, .int (bI x2_50)), (3, .int (nI k4)), (4, .int (nI k50))] := hl
              refine lv_iload hx hb dL_areMembers_50 (lv_at hl 4 rfl) ?_
              refine lv_bipush (v := nI 10) hx hb dL_areMembers_52 (by decide) ?_
              refine r_icmp_ge (tgt := 105) hx hb (by omega) (by omega) dL_areMembers_54 (by decide) (fun c => absurd c (by omega)) (fun _ => ?_)
              refine lv_iload_n hx hb dL_areMembers_57 rfl (lv_at hl 2 rfl) ?_
              refine r_if_eq_b (tgt := 105) hx hb dL_areMembers_58 (by decide) (fun c35 => ?_) (fun c35 => ?_)
              · rw [if_neg c35] at hf
                refine lv_iinc (v := nI (k4 + 1)) (lv' := [(3, .int (nI (k4 + 1))), (0, .ref (ad 0)), (1, .ref (ad 23)), (2, .int (bI x2_50)), (4, .int (nI k50))]) hx hb dL_areMembers_105 hl (k := 3) rfl (nI_add _ _) (by decide) rfl (fun ls hl => ?_)
                refine lv_goto (tgt := 4) hx hb dL_areMembers_108 (by decide) ?_
                exact ih4 (k4 + 1) x2_50 (by omega) hf _ _ hP hD hS _ (lv_sub hl [1, 2, 3, 0] rfl)
              · rw [if_pos c35] at hf
                refine lv_aload_n hx hb dL_areMembers_61 rfl (lv_at hl 0 rfl) ?_
                refine lv_iload hx hb dL_areMembers_62 (lv_at hl 4 rfl) ?_
                refine lv_iload_n hx hb dL_areMembers_64 rfl (lv_at hl 3 rfl) ?_
                refine fV_i (ci := 5) (as := [.int (nI k50), .int (nI k4)]) (rest := []) B hl.1 (c_X5_switched l D cI cZ ad rc rl rh fr fw fc fg ps pg pr pd qp qt qf qo ct lE lC cand lim now was sent qfi qsz k50 k4 (by omega) (by omega)) rfl (l_RL_46 hts ⟨rfl, rfl⟩ ⟨Nat.le_of_ble_eq_true rfl, Nat.le_of_ble_eq_true rfl⟩) m_11_20 m_11_21 rfl rfl hP hD hS hA 0 rfl wfC (Nat.le_of_ble_eq_true rfl) dL_areMembers_65 (fun H locs hP hD hS => ?_)
                refine lv_istore (lv' := [(5, .int (fw ((4 + (k4 * 10)) + k50))), (0, .ref (ad 0)), (1, .ref (ad 23)), (2, .int (bI x2_50)), (3, .int (nI k4)), (4, .int (nI k50))]) hx hb dL_areMembers_68 hl (by decide) rfl (fun ls hl => ?_)
                refine lv_iload hx hb dL_areMembers_70 (lv_at hl 0 rfl) ?_
                refine lv_aload_n hx hb dL_areMembers_72 rfl (lv_at hl 2 rfl) ?_
                refine lv_iconst (v := nI 1) hx hb dL_areMembers_73 (by decide) ?_
                refine lv_iload_n hx hb dL_areMembers_74 rfl (lv_at hl 4 rfl) ?_
                refine r_iadd hx hb dL_areMembers_75 ?_
                refine r_iald hx hb hK hP 23 0 rfl rfl (by omega) (by decide) dL_areMembers_76 ?_
                refine lv_iconst (v := -1) hx hb dL_areMembers_77 (by decide) ?_
                refine lv_ixor hx hb dL_areMembers_78 ?_
                refine lv_iand hx hb dL_areMembers_79 ?_
                have K80 : ∀ v80 : Bool, j_L_areMembers_80 fw lC k4 k50 = v80 → ∀ (H : Heap) (locs : List Loc), va_P D vwCl (wC cI ad rc rl rh fr fw fc fg ps pg pr pd qp qt qf qo ct lE lC cand lim now was (nI sent) (nI qfi) (nI qsz)) H → va_D A (wC cI ad rc rl rh fr fw fc fg ps pg pr pd qp qt qf qo ct lE lC cand lim now was (nI sent) (nI qfi) (nI qsz)) → va_S A s.heap H locs → ∀ ls : Array Slot, lv_has ls 6 [(5, .int (fw ((4 + (k4 * 10)) + k50))), (0, .ref (ad 0)), (1, .ref (ad 23)), (2, .int (bI x2_50)), (3, .int (nI k4)), (4, .int (nI k50))] → W p l e { frames := 4, cells := 0, slots := 0, locals := 83 } s m [.ref (ad 0), .ref (ad 23)].toArray below meth c H locs 0 0 (QI below s A D [.ref (ad 0), .ref (ad 23)] (wC cI ad rc rl rh fr fw fc fg ps pg pr pd qp qt qf qo ct lE lC cand lim now was (nI sent) (nI qfi) (nI qsz)) (bI (f_L_areMembers fr fw lC))) (F0 m 98 ls [.int (bI v80)]) := by
                  intro v80 hv80 H locs hP hD hS ls hl
                  subst hv80
                  refine lv_istore_n (lv' := [(2, .int (bI (j_L_areMembers_80 fw lC k4 k50))), (5, .int (fw ((4 + (k4 * 10)) + k50))), (0, .ref (ad 0)), (1, .ref (ad 23)), (3, .int (nI k4)), (4, .int (nI k50))]) hx hb dL_areMembers_98 rfl hl (by decide) rfl (fun ls hl => ?_)
                  refine lv_iinc (v := nI (k50 + 1)) (lv' := [(4, .int (nI (k50 + 1))), (2, .int (bI (j_L_areMembers_80 fw lC k4 k50))), (5, .int (fw ((4 + (k4 * 10)) + k50))), (0, .ref (ad 0)), (1, .ref (ad 23)), (3, .int (nI k4))]) hx hb dL_areMembers_99 hl (k := 5) rfl (nI_add _ _) (by decide) rfl (fun ls hl => ?_)
                  refine lv_goto (tgt := 50) hx hb dL_areMembers_102 (by decide) ?_
                  exact ih50 (k50 + 1) (j_L_areMembers_80 fw lC k4 k50) (by omega) hf _ _ hP hD hS _ (lv_sub hl [3, 4, 1, 5, 0] rfl)
                have hj80 := j_L_areMembers_80.eq_1 fw lC k4 k50
                refine lv_if_ne (tgt := 97) hx hb dL_areMembers_80 (by decide) (fun c36 => ?_) (fun c36 => ?_)
                · have hj80 := hj80.trans (if_neg c36)
                  refine lv_iconst (v := nI 0) hx hb dL_areMembers_97 (by decide) ?_
                  exact K80 _ hj80 _ _ hP hD hS _ hl
                · have hj80 := hj80.trans (if_pos c36)
                  refine lv_iload hx hb dL_areMembers_83 (lv_at hl 0 rfl) ?_
                  refine lv_iload hx hb dL_areMembers_85 (lv_at hl 5 rfl) ?_
                  refine fS_i (as := [.int (fw ((4 + (k4 * 10)) + k50)), .int (nI k50)]) (rest := []) B hl.1 (c_L_isIn l D cI cZ (wC cI ad rc rl rh fr fw fc fg ps pg pr pd qp qt qf qo ct lE lC cand lim now was (nI sent) (nI qfi) (nI qsz)) (fw ((4 + (k4 * 10)) + k50)) k50 (by omega)) (l_RL_28 hts ⟨rfl, rfl⟩ ⟨Nat.le_of_ble_eq_true rfl, Nat.le_of_ble_eq_true rfl⟩) m_8_12 rfl rfl hP hD hS hA rfl (Nat.le_of_ble_eq_true rfl) dL_areMembers_87 (fun H locs hP hD hS => ?_)
                  refine r_if_ne_b (tgt := 97) hx hb dL_areMembers_90 (by decide) (fun c37 => ?_) (fun c37 => ?_)
                  · have hj80 := hj80.trans (if_pos c37)
                    refine lv_iconst (v := nI 0) hx hb dL_areMembers_97 (by decide) ?_
                    exact K80 _ hj80 _ _ hP hD hS _ hl
                  · have hj80 := hj80.trans (if_neg c37)
                    refine lv_iconst (v := nI 1) hx hb dL_areMembers_93 (by decide) ?_
                    refine lv_goto (tgt := 98) hx hb dL_areMembers_94 (by decide) ?_
                    exact K80 _ hj80 _ _ hP hD hS _ hl
          exact L50 10 0 (j_L_areMembers_23 fr fw lC k4) (by omega) hf _ _ hP hD hS _ (lv_sub hl [2, 3, 1, 4, 0] rfl)
        have hj23 := j_L_areMembers_23.eq_1 fr fw lC k4
        refine lv_icmp_ne (tgt := 45) hx hb dL_areMembers_23 (by decide) (fun c38 => ?_) (fun c38 => ?_)
        · have hj23 := hj23.trans (if_neg c38)
          refine lv_iconst (v := nI 0) hx hb dL_areMembers_45 (by decide) ?_
          exact K23 _ hj23 _ _ hP hD hS _ hl
        · have hj23 := hj23.trans (if_pos c38)
          refine lv_aload_n hx hb dL_areMembers_26 rfl (lv_at hl 0 rfl) ?_
          refine lv_iload_n hx hb dL_areMembers_27 rfl (lv_at hl 3 rfl) ?_
          refine fV_i (ci := 5) (as := [.int (nI k4)]) (rest := []) B hl.1 (c_X5_rendezvous l D cI cZ ad rc rl rh fr fw fc fg ps pg pr pd qp qt qf qo ct lE lC cand lim now was sent qfi qsz k4 (by omega)) rfl (l_RL_39 hts ⟨rfl, rfl⟩ ⟨Nat.le_of_ble_eq_true rfl, Nat.le_of_ble_eq_true rfl⟩) m_14_0 m_14_1 rfl rfl hP hD hS hA 0 rfl wfC (Nat.le_of_ble_eq_true rfl) dL_areMembers_28 (fun H locs hP hD hS => ?_)
          refine lv_aload_n hx hb dL_areMembers_31 rfl (lv_at hl 1 rfl) ?_
          refine lv_iconst (v := nI 0) hx hb dL_areMembers_32 (by decide) ?_
          refine r_iald hx hb hK hP 23 0 rfl rfl (by omega) (by decide) dL_areMembers_33 ?_
          refine lv_iload_n hx hb dL_areMembers_34 rfl (lv_at hl 3 rfl) ?_
          refine fS_i (as := [.int (lC 0), .int (nI k4)]) (rest := [.int (fr k4)]) B hl.1 (c_L_meets l D cI cZ (wC cI ad rc rl rh fr fw fc fg ps pg pr pd qp qt qf qo ct lE lC cand lim now was (nI sent) (nI qfi) (nI qsz)) (lC 0) k4 (by omega)) (l_RL_61 hts ⟨rfl, rfl⟩ ⟨Nat.le_of_ble_eq_true rfl, Nat.le_of_ble_eq_true rfl⟩) m_21_15 rfl rfl hP hD hS hA rfl (Nat.le_of_ble_eq_true rfl) dL_areMembers_35 (fun H locs hP hD hS => ?_)
          refine lv_icmp_ne (tgt := 45) hx hb dL_areMembers_38 (by decide) (fun c39 => ?_) (fun c39 => ?_)
          · have hj23 := hj23.trans (if_neg c39)
            refine lv_iconst (v := nI 0) hx hb dL_areMembers_45 (by decide) ?_
            exact K23 _ hj23 _ _ hP hD hS _ hl
          · have hj23 := hj23.trans (if_pos c39)
            refine lv_iconst (v := nI 1) hx hb dL_areMembers_41 (by decide) ?_
            refine lv_goto (tgt := 46) hx hb dL_areMembers_42 (by decide) ?_
            exact K23 _ hj23 _ _ hP hD hS _ hl
  exact L4 4 0 true (by omega) hf _ _ hP hD hS _ (lv_sub hl [2, 3, 1, 0] rfl)
def j_L_floods_140 (s_ : Nat) (g : Nat) (rc : Nat → Int32) (rl : Nat → Int32) (fw : Nat → Int32) (x4_9 : Int32) (x5_9 : Int32) : Bool :=
  if ((fw g) &&& (f_X5_floodedFrom s_ rl)) = (x4_9 &&& (fw g)) then (if (f_X5_floodCopies s_ rc rl) = x5_9 then true else false) else false
def j_L_floods_63 (s_ : Nat) (rl : Nat → Int32) (k9 : Nat) : Bool :=
  if (f_X4_distanceOf s_ k9 rl) < 0 then false else true
def j_L_floods_77 (s_ : Nat) (rl : Nat → Int32) (k9 : Nat) : Int32 :=
  if (j_L_floods_63 s_ rl k9) = true then (nI 1) <<< ((nI k9) &&& 31) else nI 0
def j_L_floods_95 (s_ : Nat) (rl : Nat → Int32) (k9 : Nat) (x7_22 : Int32) : Int32 :=
  if (j_L_floods_63 s_ rl k9) = true then (if k9 = s_ then x7_22 else x7_22 - (nI 1)) else nI 0
def j_L_floods_39 (lE : Nat → Int32) (k9 : Nat) (k22 : Nat) : Bool :=
  if (f_L_cost k9 k22 lE) ≤ 0 then false else true
def f_L_floods_L22 (lE : Nat → Int32) (k9 : Nat) : Nat → Nat → Int32 → Int32
  | 0, _, x7_22 => x7_22
  | n22 + 1, k22, x7_22 => f_L_floods_L22 lE k9 n22 (k22 + 1) (x7_22 + (bI (j_L_floods_39 lE k9 k22)))
def f_L_floods_L9 (s_ : Nat) (g : Nat) (rc : Nat → Int32) (rl : Nat → Int32) (fw : Nat → Int32) (lE : Nat → Int32) : Nat → Nat → Int32 → Int32 → Bool
  | 0, _, x4_9, x5_9 => j_L_floods_140 s_ g rc rl fw x4_9 x5_9
  | n9 + 1, k9, x4_9, x5_9 => f_L_floods_L9 s_ g rc rl fw lE n9 (k9 + 1) (x4_9 ||| (j_L_floods_77 s_ rl k9)) (x5_9 + (j_L_floods_95 s_ rl k9 (f_L_floods_L22 lE k9 10 0 (nI 0))))
def f_L_floods (s_ : Nat) (g : Nat) (rc : Nat → Int32) (rl : Nat → Int32) (fw : Nat → Int32) (lE : Nat → Int32) : Bool :=
  f_L_floods_L9 s_ g rc rl fw lE 10 0 (nI 0) (nI 0)
set_option maxHeartbeats 4000000 in
set_option maxRecDepth 100000 in
theorem c_L_floods (l : Launch) (D : va_G) (cI cZ : ClassId) (ad : Nat → Nat) (rc rl rh fr fw fc fg ps pg pr pd qp qt qf qo ct lE lC : Nat → Int32) (cand : Int32) (lim : Int32) (now : Int32) (was : Int32) (sent : Nat) (qfi : Nat) (qsz : Nat) (s_ : Nat) (g : Nat) (hs_ : s_ < 10) (hg : g < 4) : MI l yL_floods cL_floods 9 .boolean { frames := 4, cells := 0, slots := 0, locals := 91 } D (TY cI cZ) [.ref (ad 0), .ref (ad 22), .int (nI s_), .int (nI g)] (wC cI ad rc rl rh fr fw fc fg ps pg pr pd qp qt qf qo ct lE lC cand lim now was (nI sent) (nI qfi) (nI qsz)) (wC cI ad rc rl rh fr fw fc fg ps pg pr pd qp qt qf qo ct lE lC cand lim now was (nI sent) (nI qfi) (nI qsz)) (bI (f_L_floods s_ g rc rl fw lE)) := by
  refine MI.mk ⟨rfl, rfl⟩ (by decide +kernel) (Nat.le_of_ble_eq_true rfl) ?_
  intro p e s m below meth c A ls B hA hP hD hS hl
  have hx := B.1
  have hb := B.2.1
  have hts := B.2.2.2.2.2.1
  have hN := B.2.2.2.2.2.2.2.1
  have hK := B.2.2.2.2.2.2.2.2.1
  have hl : lv_has ls 9 [(0, .ref (ad 0)), (1, .ref (ad 22)), (2, .int (nI s_)), (3, .int (nI g))] := hl
  have hf := f_L_floods.eq_1 s_ g rc rl fw lE
  refine lv_iconst (v := nI 0) hx hb dL_floods_0 (by decide) ?_
  refine lv_istore (lv' := [(4, .int (nI 0)), (0, .ref (ad 0)), (1, .ref (ad 22)), (2, .int (nI s_)), (3, .int (nI g))]) hx hb dL_floods_1 hl (by decide) rfl (fun ls hl => ?_)
  refine lv_iconst (v := nI 0) hx hb dL_floods_3 (by decide) ?_
  refine lv_istore (lv' := [(5, .int (nI 0)), (4, .int (nI 0)), (0, .ref (ad 0)), (1, .ref (ad 22)), (2, .int (nI s_)), (3, .int (nI g))]) hx hb dL_floods_4 hl (by decide) rfl (fun ls hl => ?_)
  refine lv_iconst (v := nI 0) hx hb dL_floods_6 (by decide) ?_
  refine lv_istore (lv' := [(6, .int (nI 0)), (5, .int (nI 0)), (4, .int (nI 0)), (0, .ref (ad 0)), (1, .ref (ad 22)), (2, .int (nI s_)), (3, .int (nI g))]) hx hb dL_floods_7 hl (by decide) rfl (fun ls hl => ?_)
  have L9 : ∀ (n9 : Nat) (k9 : Nat) (x4_9 : Int32) (x5_9 : Int32), k9 + n9 = 10 → f_L_floods s_ g rc rl fw lE = (f_L_floods_L9 s_ g rc rl fw lE n9 k9 x4_9 x5_9) → ∀ (H : Heap) (locs : List Loc), va_P D vwCl (wC cI ad rc rl rh fr fw fc fg ps pg pr pd qp qt qf qo ct lE lC cand lim now was (nI sent) (nI qfi) (nI qsz)) H → va_D A (wC cI ad rc rl rh fr fw fc fg ps pg pr pd qp qt qf qo ct lE lC cand lim now was (nI sent) (nI qfi) (nI qsz)) → va_S A s.heap H locs → ∀ ls : Array Slot, lv_has ls 9 [(0, .ref (ad 0)), (1, .ref (ad 22)), (2, .int (nI s_)), (3, .int (nI g)), (4, .int x4_9), (5, .int x5_9), (6, .int (nI k9))] → W p l e { frames := 4, cells := 0, slots := 0, locals := 91 } s m [.ref (ad 0), .ref (ad 22), .int (nI s_), .int (nI g)].toArray below meth c H locs 0 0 (QI below s A D [.ref (ad 0), .ref (ad 22), .int (nI s_), .int (nI g)] (wC cI ad rc rl rh fr fw fc fg ps pg pr pd qp qt qf qo ct lE lC cand lim now was (nI sent) (nI qfi) (nI qsz)) (bI (f_L_floods s_ g rc rl fw lE))) (F0 m 9 ls []) := by
    intro n9
    induction n9 with
    | zero =>
      intro k9 x4_9 x5_9 hk9 hf H locs hP hD hS ls hl
      obtain rfl : 10 = k9 := by omega
      rw [f_L_floods_L9] at hf
      have hl : lv_has ls 9 [(0, .ref (ad 0)), (1, .ref (ad 22)), (2, .int (nI s_)), (3, .int (nI g)), (4, .int x4_9), (5, .int x5_9), (6, .int (nI 10))] := hl
      refine lv_iload hx hb dL_floods_9 (lv_at hl 6 rfl) ?_
      refine lv_bipush (v := nI 10) hx hb dL_floods_11 (by decide) ?_
      refine r_icmp_ge (tgt := 126) hx hb (by omega) (by omega) dL_floods_13 (by decide) (fun _ => ?_) (fun c => absurd c (by omega))
      refine lv_aload_n hx hb dL_floods_126 rfl (lv_at hl 0 rfl) ?_
      refine lv_iload_n hx hb dL_floods_127 rfl (lv_at hl 2 rfl) ?_
      refine lv_iload_n hx hb dL_floods_128 rfl (lv_at hl 3 rfl) ?_
      refine fV_i (ci := 5) (as := [.int (nI s_), .int (nI g)]) (rest := []) B hl.1 (c_X5_floodMembers l D cI cZ ad rc rl rh fr fw fc fg ps pg pr pd qp qt qf qo ct lE lC cand lim now was sent qfi qsz s_ g (by omega) (by omega)) rfl (l_RL_64 hts ⟨rfl, rfl⟩ ⟨Nat.le_of_ble_eq_true rfl, Nat.le_of_ble_eq_true rfl⟩) m_14_10 m_14_11 rfl rfl hP hD hS hA 0 rfl wfC (Nat.le_of_ble_eq_true rfl) dL_floods_129 (fun H locs hP hD hS => ?_)
      refine lv_iload hx hb dL_floods_132 (lv_at hl 4 rfl) ?_
      refine lv_aload_n hx hb dL_floods_134 rfl (lv_at hl 0 rfl) ?_
      refine lv_iload_n hx hb dL_floods_135 rfl (lv_at hl 3 rfl) ?_
      refine fV_i (ci := 5) (as := [.int (nI g)]) (rest := [.int x4_9, .int ((fw g) &&& (f_X5_floodedFrom s_ rl))]) B hl.1 (c_X5_members l D cI cZ ad rc rl rh fr fw fc fg ps pg pr pd qp qt qf qo ct lE lC cand lim now was sent qfi qsz g (by omega)) rfl (l_RL_43 hts ⟨rfl, rfl⟩ ⟨Nat.le_of_ble_eq_true rfl, Nat.le_of_ble_eq_true rfl⟩) m_21_1 m_21_2 rfl rfl hP hD hS hA 0 rfl wfC (Nat.le_of_ble_eq_true rfl) dL_floods_136 (fun H locs hP hD hS => ?_)
      refine lv_iand hx hb dL_floods_139 ?_
      have K140 : ∀ v140 : Bool, j_L_floods_140 s_ g rc rl fw x4_9 x5_9 = v140 → ∀ (H : Heap) (locs : List Loc), va_P D vwCl (wC cI ad rc rl rh fr fw fc fg ps pg pr pd qp qt qf qo ct lE lC cand lim now was (nI sent) (nI qfi) (nI qsz)) H → va_D A (wC cI ad rc rl rh fr fw fc fg ps pg pr pd qp qt qf qo ct lE lC cand lim now was (nI sent) (nI qfi) (nI qsz)) → va_S A s.heap H locs → ∀ ls : Array Slot, lv_has ls 9 [(0, .ref (ad 0)), (1, .ref (ad 22)), (2, .int (nI s_)), (3, .int (nI g)), (4, .int x4_9), (5, .int x5_9), (6, .int (nI 10))] → W p l e { frames := 4, cells := 0, slots := 0, locals := 91 } s m [.ref (ad 0), .ref (ad 22), .int (nI s_), .int (nI g)].toArray below meth c H locs 0 0 (QI below s A D [.ref (ad 0), .ref (ad 22), .int (nI s_), .int (nI g)] (wC cI ad rc rl rh fr fw fc fg ps pg pr pd qp qt qf qo ct lE lC cand lim now was (nI sent) (nI qfi) (nI qsz)) (bI (f_L_floods s_ g rc rl fw lE))) (F0 m 158 ls [.int (bI v140)]) := by
        intro v140 hv140 H locs hP hD hS ls hl
        subst hv140
        exact eZ B hP hS (bI_nar _) ((congrArg (fun (u : Bool) => bI u) hf).symm) rfl dL_floods_158
      have hj140 := j_L_floods_140.eq_1 s_ g rc rl fw x4_9 x5_9
      refine lv_icmp_ne (tgt := 157) hx hb dL_floods_140 (by decide) (fun c18 => ?_) (fun c18 => ?_)
      · have hj140 := hj140.trans (if_neg c18)
        refine lv_iconst (v := nI 0) hx hb dL_floods_157 (by decide) ?_
        exact K140 _ hj140 _ _ hP hD hS _ hl
      · have hj140 := hj140.trans (if_pos c18)
        refine lv_aload_n hx hb dL_floods_143 rfl (lv_at hl 0 rfl) ?_
        refine lv_iload_n hx hb dL_floods_144 rfl (lv_at hl 2 rfl) ?_
        refine fV_i (ci := 5) (as := [.int (nI s_)]) (rest := []) B hl.1 (c_X5_floodCopies l D cI cZ ad rc rl rh fr fw fc fg ps pg pr pd qp qt qf qo ct lE lC cand lim now was sent qfi qsz s_ (by omega)) rfl (l_RL_94 hts ⟨rfl, rfl⟩ ⟨Nat.le_of_ble_eq_true rfl, Nat.le_of_ble_eq_true rfl⟩) m_21_21 m_21_22 rfl rfl hP hD hS hA 0 rfl wfC (Nat.le_of_ble_eq_true rfl) dL_floods_145 (fun H locs hP hD hS => ?_)
        refine lv_iload hx hb dL_floods_148 (lv_at hl 5 rfl) ?_
        refine lv_icmp_ne (tgt := 157) hx hb dL_floods_150 (by decide) (fun c19 => ?_) (fun c19 => ?_)
        · have hj140 := hj140.trans (if_neg c19)
          refine lv_iconst (v := nI 0) hx hb dL_floods_157 (by decide) ?_
          exact K140 _ hj140 _ _ hP hD hS _ hl
        · have hj140 := hj140.trans (if_pos c19)
          refine lv_iconst (v := nI 1) hx hb dL_floods_153 (by decide) ?_
          refine lv_goto (tgt := 158) hx hb dL_floods_154 (by decide) ?_
          exact K140 _ hj140 _ _ hP hD hS _ hl
    | succ n9 ih9 =>
      intro k9 x4_9 x5_9 hk9 hf H locs hP hD hS ls hl
      rw [f_L_floods_L9] at hf
      have hl : lv_has ls 9 [(0, .ref (ad 0)), (1, .ref (ad 22)), (2, .int (nI s_)), (3, .int (nI g)), (4, .int x4_9), (5, .int x5_9), (6, .int (nI k9))] := hl
      refine lv_iload hx hb dL_floods_9 (lv_at hl 6 rfl) ?_
      refine lv_bipush (v := nI 10) hx hb dL_floods_11 (by decide) ?_
      refine r_icmp_ge (tgt := 126) hx hb (by omega) (by omega) dL_floods_13 (by decide) (fun c => absurd c (by omega)) (fun _ => ?_)
      refine lv_iconst (v := nI 0) hx hb dL_floods_16 (by decide) ?_
      refine lv_istore (lv' := [(7, .int (nI 0)), (0, .ref (ad 0)), (1, .ref (ad 22)), (2, .int (nI s_)), (3, .int (nI g)), (4, .int x4_9), (5, .int x5_9), (6, .int (nI k9))]) hx hb dL_floods_17 hl (by decide) rfl (fun ls hl => ?_)
      refine lv_iconst (v := nI 0) hx hb dL_floods_19 (by decide) ?_
      refine lv_istore (lv' := [(8, .int (nI 0)), (7, .int (nI 0)), (0, .ref (ad 0)), (1, .ref (ad 22)), (2, .int (nI s_)), (3, .int (nI g)), (4, .int x4_9), (5, .int x5_9), (6, .int (nI k9))]) hx hb dL_floods_20 hl (by decide) rfl (fun ls hl => ?_)
      have L22 : ∀ (n22 : Nat) (k22 : Nat) (x7_22 : Int32), k22 + n22 = 10 → f_L_floods s_ g rc rl fw lE = (f_L_floods_L9 s_ g rc rl fw lE n9 (k9 + 1) (x4_9 ||| (j_L_floods_77 s_ rl k9)) (x5_9 + (j_L_floods_95 s_ rl k9 (f_L_floods_L22 lE k9 n22 k22 x7_22)))) → ∀ (H : Heap) (locs : List Loc), va_P D vwCl (wC cI ad rc rl rh fr fw fc fg ps pg pr pd qp qt qf qo ct lE lC cand lim now was (nI sent) (nI qfi) (nI qsz)) H → va_D A (wC cI ad rc rl rh fr fw fc fg ps pg pr pd qp qt qf qo ct lE lC cand lim now was (nI sent) (nI qfi) (nI qsz)) → va_S A s.heap H locs → ∀ ls : Array Slot, lv_has ls 9 [(0, .ref (ad 0)), (1, .ref (ad 22)), (2, .int (nI s_)), (3, .int (nI g)), (4, .int x4_9), (5, .int x5_9), (6, .int (nI k9)), (7, .int x7_22), (8, .int (nI k22))] → W p l e { frames := 4, cells := 0, slots := 0, locals := 91 } s m [.ref (ad 0), .ref (ad 22), .int (nI s_), .int (nI g)].toArray below meth c H locs 0 0 (QI below s A D [.ref (ad 0), .ref (ad 22), .int (nI s_), .int (nI g)] (wC cI ad rc rl rh fr fw fc fg ps pg pr pd qp qt qf qo ct lE lC cand lim now was (nI sent) (nI qfi) (nI qsz)) (bI (f_L_floods s_ g rc rl fw lE))) (F0 m 22 ls []) := by
        intro n22
        induction n22 with
        | zero =>
          intro k22 x7_22 hk22 hf H locs hP hD hS ls hl
          obtain rfl : 10 = k22 := by omega
          rw [f_L_floods_L22] at hf
          have hl : lv_has ls 9 [(0, .ref (ad 0)), (1, .ref (ad 22)), (2, .int (nI s_)), (3, .int (nI g)), (4, .int x4_9), (5, .int x5_9), (6, .int (nI k9)), (7, .int x7_22), (8, .int (nI 10))] := hl
          refine lv_iload hx hb dL_floods_22 (lv_at hl 8 rfl) ?_
          refine lv_bipush (v := nI 10) hx hb dL_floods_24 (by decide) ?_
          refine r_icmp_ge (tgt := 56) hx hb (by omega) (by omega) dL_floods_26 (by decide) (fun _ => ?_) (fun c => absurd c (by omega))
          refine lv_aload_n hx hb dL_floods_56 rfl (lv_at hl 0 rfl) ?_
          refine lv_iload_n hx hb dL_floods_57 rfl (lv_at hl 2 rfl) ?_
          refine lv_iload hx hb dL_floods_58 (lv_at hl 6 rfl) ?_
          refine fV_i (ci := 5) (as := [.int (nI s_), .int (nI k9)]) (rest := []) B hl.1 (c_X5_distance l D cI cZ ad rc rl rh fr fw fc fg ps pg pr pd qp qt qf qo ct lE lC cand lim now was sent qfi qsz s_ k9 (by omega) (by omega)) rfl (l_RL_16 hts ⟨rfl, rfl⟩ ⟨Nat.le_of_ble_eq_true rfl, Nat.le_of_ble_eq_true rfl⟩) m_14_5 m_14_6 rfl rfl hP hD hS hA 0 rfl wfC (Nat.le_of_ble_eq_true rfl) dL_floods_60 (fun H locs hP hD hS => ?_)
          have K63 : ∀ v63 : Bool, j_L_floods_63 s_ rl k9 = v63 → ∀ (H : Heap) (locs : List Loc), va_P D vwCl (wC cI ad rc rl rh fr fw fc fg ps pg pr pd qp qt qf qo ct lE lC cand lim now was (nI sent) (nI qfi) (nI qsz)) H → va_D A (wC cI ad rc rl rh fr fw fc fg ps pg pr pd qp qt qf qo ct lE lC cand lim now was (nI sent) (nI qfi) (nI qsz)) → va_S A s.heap H locs → ∀ ls : Array Slot, lv_has ls 9 [(0, .ref (ad 0)), (1, .ref (ad 22)), (2, .int (nI s_)), (3, .int (nI g)), (4, .int x4_9), (5, .int x5_9), (6, .int (nI k9)), (7, .int x7_22), (8, .int (nI 10))] → W p l e { frames := 4, cells := 0, slots := 0, locals := 91 } s m [.ref (ad 0), .ref (ad 22), .int (nI s_), .int (nI g)].toArray below meth c H locs 0 0 (QI below s A D [.ref (ad 0), .ref (ad 22), .int (nI s_), .int (nI g)] (wC cI ad rc rl rh fr fw fc fg ps pg pr pd qp qt qf qo ct lE lC cand lim now was (nI sent) (nI qfi) (nI qsz)) (bI (f_L_floods s_ g rc rl fw lE))) (F0 m 71 ls [.int (bI v63)]) := by
            intro v63 hv63 H locs hP hD hS ls hl
            subst hv63
            refine lv_istore (lv' := [(8, .int (bI (j_L_floods_63 s_ rl k9))), (0, .ref (ad 0)), (1, .ref (ad 22)), (2, .int (nI s_)), (3, .int (nI g)), (4, .int x4_9), (5, .int x5_9), (6, .int (nI k9)), (7, .int x7_22)]) hx hb dL_floods_71 hl (by decide) rfl (fun ls hl => ?_)
            refine lv_iload hx hb dL_floods_73 (lv_at hl 5 rfl) ?_
            refine lv_iload hx hb dL_floods_75 (lv_at hl 0 rfl) ?_
            have K77 : ∀ v77 : Int32, j_L_floods_77 s_ rl k9 = v77 → ∀ (H : Heap) (locs : List Loc), va_P D vwCl (wC cI ad rc rl rh fr fw fc fg ps pg pr pd qp qt qf qo ct lE lC cand lim now was (nI sent) (nI qfi) (nI qsz)) H → va_D A (wC cI ad rc rl rh fr fw fc fg ps pg pr pd qp qt qf qo ct lE lC cand lim now was (nI sent) (nI qfi) (nI qsz)) → va_S A s.heap H locs → ∀ ls : Array Slot, lv_has ls 9 [(8, .int (bI (j_L_floods_63 s_ rl k9))), (0, .ref (ad 0)), (1, .ref (ad 22)), (2, .int (nI s_)), (3, .int (nI g)), (4, .int x4_9), (5, .int x5_9), (6, .int (nI k9)), (7, .int x7_22)] → W p l e { frames := 4, cells := 0, slots := 0, locals := 91 } s m [.ref (ad 0), .ref (ad 22), .int (nI s_), .int (nI g)].toArray below meth c H locs 0 0 (QI below s A D [.ref (ad 0), .ref (ad 22), .int (nI s_), .int (nI g)] (wC cI ad rc rl rh fr fw fc fg ps pg pr pd qp qt qf qo ct lE lC cand lim now was (nI sent) (nI qfi) (nI qsz)) (bI (f_L_floods s_ g rc rl fw lE))) (F0 m 88 ls [.int v77, .int x4_9]) := by
              intro v77 hv77 H locs hP hD hS ls hl
              subst hv77
              refine lv_ior hx hb dL_floods_88 ?_
              refine lv_istore (lv' := [(4, .int (x4_9 ||| (j_L_floods_77 s_ rl k9))), (8, .int (bI (j_L_floods_63 s_ rl k9))), (0, .ref (ad 0)), (1, .ref (ad 22)), (2, .int (nI s_)), (3, .int (nI g)), (5, .int x5_9), (6, .int (nI k9)), (7, .int x7_22)]) hx hb dL_floods_89 hl (by decide) rfl (fun ls hl => ?_)
              refine lv_iload hx hb dL_floods_91 (lv_at hl 6 rfl) ?_
              refine lv_iload hx hb dL_floods_93 (lv_at hl 1 rfl) ?_
              have K95 : ∀ v95 : Int32, j_L_floods_95 s_ rl k9 x7_22 = v95 → ∀ (H : Heap) (locs : List Loc), va_P D vwCl (wC cI ad rc rl rh fr fw fc fg ps pg pr pd qp qt qf qo ct lE lC cand lim now was (nI sent) (nI qfi) (nI qsz)) H → va_D A (wC cI ad rc rl rh fr fw fc fg ps pg pr pd qp qt qf qo ct lE lC cand lim now was (nI sent) (nI qfi) (nI qsz)) → va_S A s.heap H locs → ∀ ls : Array Slot, lv_has ls 9 [(4, .int (x4_9 ||| (j_L_floods_77 s_ rl k9))), (8, .int (bI (j_L_floods_63 s_ rl k9))), (0, .ref (ad 0)), (1, .ref (ad 22)), (2, .int (nI s_)), (3, .int (nI g)), (5, .int x5_9), (6, .int (nI k9)), (7, .int x7_22)] → W p l e { frames := 4, cells := 0, slots := 0, locals := 91 } s m [.ref (ad 0), .ref (ad 22), .int (nI s_), .int (nI g)].toArray below meth c H locs 0 0 (QI below s A D [.ref (ad 0), .ref (ad 22), .int (nI s_), .int (nI g)] (wC cI ad rc rl rh fr fw fc fg ps pg pr pd qp qt qf qo ct lE lC cand lim now was (nI sent) (nI qfi) (nI qsz)) (bI (f_L_floods s_ g rc rl fw lE))) (F0 m 117 ls [.int v95, .int x5_9]) := by
                intro v95 hv95 H locs hP hD hS ls hl
                subst hv95
                refine lv_iadd hx hb dL_floods_117 ?_
                refine lv_istore (lv' := [(5, .int (x5_9 + (j_L_floods_95 s_ rl k9 x7_22))), (4, .int (x4_9 ||| (j_L_floods_77 s_ rl k9))), (8, .int (bI (j_L_floods_63 s_ rl k9))), (0, .ref (ad 0)), (1, .ref (ad 22)), (2, .int (nI s_)), (3, .int (nI g)), (6, .int (nI k9)), (7, .int x7_22)]) hx hb dL_floods_118 hl (by decide) rfl (fun ls hl => ?_)
                refine lv_iinc (v := nI (k9 + 1)) (lv' := [(6, .int (nI (k9 + 1))), (5, .int (x5_9 + (j_L_floods_95 s_ rl k9 x7_22))), (4, .int (x4_9 ||| (j_L_floods_77 s_ rl k9))), (8, .int (bI (j_L_floods_63 s_ rl k9))), (0, .ref (ad 0)), (1, .ref (ad 22)), (2, .int (nI s_)), (3, .int (nI g)), (7, .int x7_22)]) hx hb dL_floods_120 hl (k := 7) rfl (nI_add _ _) (by decide) rfl (fun ls hl => ?_)
                refine lv_goto (tgt := 9) hx hb dL_floods_123 (by decide) ?_
                exact ih9 (k9 + 1) (x4_9 ||| (j_L_floods_77 s_ rl k9)) (x5_9 + (j_L_floods_95 s_ rl k9 x7_22)) (by omega) hf _ _ hP hD hS _ (lv_sub hl [4, 5, 6, 7, 2, 1, 0] rfl)
              have hj95 := j_L_floods_95.eq_1 s_ rl k9 x7_22
              refine r_if_ne_b (tgt := 102) hx hb dL_floods_95 (by decide) (fun c23 => ?_) (fun c23 => ?_)
              · have hj95 := hj95.trans (if_pos c23)
                refine lv_iload hx hb dL_floods_102 (lv_at hl 7 rfl) ?_
                refine lv_iload_n hx hb dL_floods_104 rfl (lv_at hl 4 rfl) ?_
                refine r_icmp_ne (tgt := 113) hx hb (by omega) (by omega) dL_floods_105 (by decide) (fun c24 => ?_) (fun c24 => ?_)
                · have hj95 := hj95.trans (if_neg c24)
                  refine lv_iload hx hb dL_floods_113 (lv_at hl 8 rfl) ?_
                  refine lv_iconst (v := nI 1) hx hb dL_floods_115 (by decide) ?_
                  refine lv_isub hx hb dL_floods_116 ?_
                  exact K95 _ hj95 _ _ hP hD hS _ hl
                · have hj95 := hj95.trans (if_pos c24)
                  refine lv_iload hx hb dL_floods_108 (lv_at hl 8 rfl) ?_
                  refine lv_goto (tgt := 117) hx hb dL_floods_110 (by decide) ?_
                  exact K95 _ hj95 _ _ hP hD hS _ hl
              · have hj95 := hj95.trans (if_neg c23)
                refine lv_iconst (v := nI 0) hx hb dL_floods_98 (by decide) ?_
                refine lv_goto (tgt := 117) hx hb dL_floods_99 (by decide) ?_
                exact K95 _ hj95 _ _ hP hD hS _ hl
            have hj77 := j_L_floods_77.eq_1 s_ rl k9
            refine r_if_eq_b (tgt := 87) hx hb dL_floods_77 (by decide) (fun c25 => ?_) (fun c25 => ?_)
            · have hj77 := hj77.trans (if_neg c25)
              refine lv_iconst (v := nI 0) hx hb dL_floods_87 (by decide) ?_
              exact K77 _ hj77 _ _ hP hD hS _ hl
            · have hj77 := hj77.trans (if_pos c25)
              refine lv_iconst (v := nI 1) hx hb dL_floods_80 (by decide) ?_
              refine lv_iload hx hb dL_floods_81 (lv_at hl 7 rfl) ?_
              refine lv_ishl hx hb dL_floods_83 ?_
              refine lv_goto (tgt := 88) hx hb dL_floods_84 (by decide) ?_
              exact K77 _ hj77 _ _ hP hD hS _ hl
          have hj63 := j_L_floods_63.eq_1 s_ rl k9
          refine lv_if_lt (tgt := 70) hx hb dL_floods_63 (by decide) (fun c26 => ?_) (fun c26 => ?_)
          · have hj63 := hj63.trans (if_pos c26)
            refine lv_iconst (v := nI 0) hx hb dL_floods_70 (by decide) ?_
            exact K63 _ hj63 _ _ hP hD hS _ hl
          · have hj63 := hj63.trans (if_neg c26)
            refine lv_iconst (v := nI 1) hx hb dL_floods_66 (by decide) ?_
            refine lv_goto (tgt := 71) hx hb dL_floods_67 (by decide) ?_
            exact K63 _ hj63 _ _ hP hD hS _ hl
        | succ n22 ih22 =>
          intro k22 x7_22 hk22 hf H locs hP hD hS ls hl
          rw [f_L_floods_L22] at hf
          have hl : lv_has ls 9 [(0, .ref (ad 0)), (1, .ref (ad 22)), (2, .int (nI s_)), (3, .int (nI g)), (4, .int x4_9), (5, .int x5_9), (6, .int (nI k9)), (7, .int x7_22), (8, .int (nI k22))] := hl
          refine lv_iload hx hb dL_floods_22 (lv_at hl 8 rfl) ?_
          refine lv_bipush (v := nI 10) hx hb dL_floods_24 (by decide) ?_
          refine r_icmp_ge (tgt := 56) hx hb (by omega) (by omega) dL_floods_26 (by decide) (fun c => absurd c (by omega)) (fun _ => ?_)
          refine lv_iload hx hb dL_floods_29 (lv_at hl 7 rfl) ?_
          refine lv_aload_n hx hb dL_floods_31 rfl (lv_at hl 1 rfl) ?_
          refine lv_iload hx hb dL_floods_32 (lv_at hl 6 rfl) ?_
          refine lv_iload hx hb dL_floods_34 (lv_at hl 8 rfl) ?_
          refine fS_i (as := [.ref (ad 22), .int (nI k9), .int (nI k22)]) (rest := [.int x7_22]) B hl.1 (c_L_cost l D cI cZ ad rc rl rh fr fw fc fg ps pg pr pd qp qt qf qo ct lE lC cand lim now was sent qfi qsz k9 k22 (by omega) (by omega)) (l_RL_24 hts ⟨rfl, rfl⟩ ⟨Nat.le_of_ble_eq_true rfl, Nat.le_of_ble_eq_true rfl⟩) m_20_16 rfl rfl hP hD hS hA wfC (Nat.le_of_ble_eq_true rfl) dL_floods_36 (fun H locs hP hD hS => ?_)
          have K39 : ∀ v39 : Bool, j_L_floods_39 lE k9 k22 = v39 → ∀ (H : Heap) (locs : List Loc), va_P D vwCl (wC cI ad rc rl rh fr fw fc fg ps pg pr pd qp qt qf qo ct lE lC cand lim now was (nI sent) (nI qfi) (nI qsz)) H → va_D A (wC cI ad rc rl rh fr fw fc fg ps pg pr pd qp qt qf qo ct lE lC cand lim now was (nI sent) (nI qfi) (nI qsz)) → va_S A s.heap H locs → ∀ ls : Array Slot, lv_has ls 9 [(0, .ref (ad 0)), (1, .ref (ad 22)), (2, .int (nI s_)), (3, .int (nI g)), (4, .int x4_9), (5, .int x5_9), (6, .int (nI k9)), (7, .int x7_22), (8, .int (nI k22))] → W p l e { frames := 4, cells := 0, slots := 0, locals := 91 } s m [.ref (ad 0), .ref (ad 22), .int (nI s_), .int (nI g)].toArray below meth c H locs 0 0 (QI below s A D [.ref (ad 0), .ref (ad 22), .int (nI s_), .int (nI g)] (wC cI ad rc rl rh fr fw fc fg ps pg pr pd qp qt qf qo ct lE lC cand lim now was (nI sent) (nI qfi) (nI qsz)) (bI (f_L_floods s_ g rc rl fw lE))) (F0 m 47 ls [.int (bI v39), .int x7_22]) := by
            intro v39 hv39 H locs hP hD hS ls hl
            subst hv39
            refine lv_iadd hx hb dL_floods_47 ?_
            refine lv_istore (lv' := [(7, .int (x7_22 + (bI (j_L_floods_39 lE k9 k22)))), (0, .ref (ad 0)), (1, .ref (ad 22)), (2, .int (nI s_)), (3, .int (nI g)), (4, .int x4_9), (5, .int x5_9), (6, .int (nI k9)), (8, .int (nI k22))]) hx hb dL_floods_48 hl (by decide) rfl (fun ls hl => ?_)
            refine lv_iinc (v := nI (k22 + 1)) (lv' := [(8, .int (nI (k22 + 1))), (7, .int (x7_22 + (bI (j_L_floods_39 lE k9 k22)))), (0, .ref (ad 0)), (1, .ref (ad 22)), (2, .int (nI s_)), (3, .int (nI g)), (4, .int x4_9), (5, .int x5_9), (6, .int (nI k9))]) hx hb dL_floods_50 hl (k := 8) rfl (nI_add _ _) (by decide) rfl (fun ls hl => ?_)
            refine lv_goto (tgt := 22) hx hb dL_floods_53 (by decide) ?_
            exact ih22 (k22 + 1) (x7_22 + (bI (j_L_floods_39 lE k9 k22))) (by omega) hf _ _ hP hD hS _ (lv_sub hl [2, 3, 4, 5, 6, 7, 8, 1, 0] rfl)
          have hj39 := j_L_floods_39.eq_1 lE k9 k22
          refine lv_if_le (tgt := 46) hx hb dL_floods_39 (by decide) (fun c27 => ?_) (fun c27 => ?_)
          · have hj39 := hj39.trans (if_pos c27)
            refine lv_iconst (v := nI 0) hx hb dL_floods_46 (by decide) ?_
            exact K39 _ hj39 _ _ hP hD hS _ hl
          · have hj39 := hj39.trans (if_neg c27)
            refine lv_iconst (v := nI 1) hx hb dL_floods_42 (by decide) ?_
            refine lv_goto (tgt := 47) hx hb dL_floods_43 (by decide) ?_
            exact K39 _ hj39 _ _ hP hD hS _ hl
      exact L22 10 0 (nI 0) (by omega) hf _ _ hP hD hS _ (lv_sub hl [2, 3, 4, 5, 6, 7, 8, 1, 0] rfl)
  exact L9 10 0 (nI 0) (nI 0) (by omega) hf _ _ hP hD hS _ (lv_sub hl [3, 4, 5, 6, 2, 1, 0] rfl)
def j_L_passes_24 (se : Nat) (fw : Nat → Int32) (fc : Nat → Int32) (fg : Nat → Int32) (ct : Nat → Int32) (now : Int32) : Bool :=
  if ((f_X5_pass se fw fc fg ct now).2.2.2.2) = (now + (nI se)) then (if 3 ≤ se then (if ((f_X5_pass se fw fc fg ct now).1) < (f_X2_leavingBranches fg) then false else if se < 33 then true else if (f_X2_leavingBranches ((f_X5_pass se fw fc fg ct now).2.2.1)) = 0 then true else false) else if ((f_X5_pass se fw fc fg ct now).1) < 0 then false else true) else false
def f_L_passes (se : Nat) (fw : Nat → Int32) (fc : Nat → Int32) (fg : Nat → Int32) (ct : Nat → Int32) (now : Int32) : Bool × (Nat → Int32) × (Nat → Int32) × (Nat → Int32) × Int32 :=
  (j_L_passes_24 se fw fc fg ct now, (f_X5_pass se fw fc fg ct now).2.1, (f_X5_pass se fw fc fg ct now).2.2.1, (f_X5_pass se fw fc fg ct now).2.2.2.1, (f_X5_pass se fw fc fg ct now).2.2.2.2)
set_option maxHeartbeats 4000000 in
set_option maxRecDepth 100000 in
theorem c_L_passes (l : Launch) (D : va_G) (cI cZ : ClassId) (ad : Nat → Nat) (rc rl rh fr fw fc fg ps pg pr pd qp qt qf qo ct lE lC : Nat → Int32) (cand : Int32) (lim : Int32) (now : Int32) (was : Int32) (sent : Nat) (qfi : Nat) (qsz : Nat) (se : Nat) (hse : se < 101) (h1se : 1 ≤ se) : MI l yL_passes cL_passes 5 .boolean { frames := 7, cells := 0, slots := 0, locals := 160 } D (TY cI cZ) [.ref (ad 0), .int (nI se)] (wC cI ad rc rl rh fr fw fc fg ps pg pr pd qp qt qf qo ct lE lC cand lim now was (nI sent) (nI qfi) (nI qsz)) (wC cI ad rc rl rh fr fw ((f_L_passes se fw fc fg ct now).2.1) ((f_L_passes se fw fc fg ct now).2.2.1) ps pg pr pd qp qt qf qo ((f_L_passes se fw fc fg ct now).2.2.2.1) lE lC cand lim ((f_L_passes se fw fc fg ct now).2.2.2.2) was (nI sent) (nI qfi) (nI qsz)) (bI ((f_L_passes se fw fc fg ct now).1)) := by
  refine MI.mk ⟨rfl, rfl⟩ (by decide +kernel) (Nat.le_of_ble_eq_true rfl) ?_
  intro p e s m below meth c A ls B hA hP hD hS hl
  have hx := B.1
  have hb := B.2.1
  have hts := B.2.2.2.2.2.1
  have hN := B.2.2.2.2.2.2.2.1
  have hK := B.2.2.2.2.2.2.2.2.1
  have hl : lv_has ls 5 [(0, .ref (ad 0)), (1, .int (nI se))] := hl
  have hf := f_L_passes.eq_1 se fw fc fg ct now
  refine lv_aload_n hx hb dL_passes_0 rfl (lv_at hl 0 rfl) ?_
  refine fV_i (ci := 5) (as := []) (rest := []) B hl.1 (c_X5_clock l D cI cZ ad rc rl rh fr fw fc fg ps pg pr pd qp qt qf qo ct lE lC cand lim now was sent qfi qsz) rfl (l_RL_97 hts ⟨rfl, rfl⟩ ⟨Nat.le_of_ble_eq_true rfl, Nat.le_of_ble_eq_true rfl⟩) m_12_11 m_12_12 rfl rfl hP hD hS hA 0 rfl wfC (Nat.le_of_ble_eq_true rfl) dL_passes_1 (fun H locs hP hD hS => ?_)
  refine lv_istore_n (lv' := [(2, .int now), (0, .ref (ad 0)), (1, .int (nI se))]) hx hb dL_passes_4 rfl hl (by decide) rfl (fun ls hl => ?_)
  refine lv_aload_n hx hb dL_passes_5 rfl (lv_at hl 1 rfl) ?_
  refine fV_i (ci := 5) (as := []) (rest := []) B hl.1 (c_X5_leaving l D cI cZ ad rc rl rh fr fw fc fg ps pg pr pd qp qt qf qo ct lE lC cand lim now was sent qfi qsz) rfl (l_RL_57 hts ⟨rfl, rfl⟩ ⟨Nat.le_of_ble_eq_true rfl, Nat.le_of_ble_eq_true rfl⟩) m_6_11 m_6_12 rfl rfl hP hD hS hA 0 rfl wfC (Nat.le_of_ble_eq_true rfl) dL_passes_6 (fun H locs hP hD hS => ?_)
  refine lv_istore_n (lv' := [(3, .int (f_X2_leavingBranches fg)), (2, .int now), (0, .ref (ad 0)), (1, .int (nI se))]) hx hb dL_passes_9 rfl hl (by decide) rfl (fun ls hl => ?_)
  refine lv_aload_n hx hb dL_passes_10 rfl (lv_at hl 2 rfl) ?_
  refine lv_iload_n hx hb dL_passes_11 rfl (lv_at hl 3 rfl) ?_
  refine fV_i (ci := 5) (as := [.int (nI se)]) (rest := []) B hl.1 (c_X5_pass l D cI cZ ad rc rl rh fr fw fc fg ps pg pr pd qp qt qf qo ct lE lC cand lim now was sent qfi qsz se (by omega) h1se) rfl (l_RL_100 hts ⟨rfl, rfl⟩ ⟨Nat.le_of_ble_eq_true rfl, Nat.le_of_ble_eq_true rfl⟩) m_12_15 m_12_16 rfl rfl hP hD hS hA 0 rfl wfC (Nat.le_of_ble_eq_true rfl) dL_passes_12 (fun H locs hP hD hS => ?_)
  refine lv_istore (lv' := [(4, .int ((f_X5_pass se fw fc fg ct now).1)), (3, .int (f_X2_leavingBranches fg)), (2, .int now), (0, .ref (ad 0)), (1, .int (nI se))]) hx hb dL_passes_15 hl (by decide) rfl (fun ls hl => ?_)
  refine lv_aload_n hx hb dL_passes_17 rfl (lv_at hl 3 rfl) ?_
  refine fV_i (ci := 5) (as := []) (rest := []) B hl.1 (c_X5_clock l D cI cZ ad rc rl rh fr fw ((f_X5_pass se fw fc fg ct now).2.1) ((f_X5_pass se fw fc fg ct now).2.2.1) ps pg pr pd qp qt qf qo ((f_X5_pass se fw fc fg ct now).2.2.2.1) lE lC cand lim ((f_X5_pass se fw fc fg ct now).2.2.2.2) was sent qfi qsz) rfl (l_RL_97 hts ⟨rfl, rfl⟩ ⟨Nat.le_of_ble_eq_true rfl, Nat.le_of_ble_eq_true rfl⟩) m_12_11 m_12_12 rfl rfl hP hD hS hA 0 rfl wfC (Nat.le_of_ble_eq_true rfl) dL_passes_18 (fun H locs hP hD hS => ?_)
  refine lv_iload_n hx hb dL_passes_21 rfl (lv_at hl 2 rfl) ?_
  refine lv_iload_n hx hb dL_passes_22 rfl (lv_at hl 4 rfl) ?_
  refine lv_iadd hx hb dL_passes_23 ?_
  have K24 : ∀ v24 : Bool, j_L_passes_24 se fw fc fg ct now = v24 → ∀ (H : Heap) (locs : List Loc), va_P D vwCl (wC cI ad rc rl rh fr fw ((f_X5_pass se fw fc fg ct now).2.1) ((f_X5_pass se fw fc fg ct now).2.2.1) ps pg pr pd qp qt qf qo ((f_X5_pass se fw fc fg ct now).2.2.2.1) lE lC cand lim ((f_X5_pass se fw fc fg ct now).2.2.2.2) was (nI sent) (nI qfi) (nI qsz)) H → va_D A (wC cI ad rc rl rh fr fw ((f_X5_pass se fw fc fg ct now).2.1) ((f_X5_pass se fw fc fg ct now).2.2.1) ps pg pr pd qp qt qf qo ((f_X5_pass se fw fc fg ct now).2.2.2.1) lE lC cand lim ((f_X5_pass se fw fc fg ct now).2.2.2.2) was (nI sent) (nI qfi) (nI qsz)) → va_S A s.heap H locs → ∀ ls : Array Slot, lv_has ls 5 [(4, .int ((f_X5_pass se fw fc fg ct now).1)), (3, .int (f_X2_leavingBranches fg)), (2, .int now), (0, .ref (ad 0)), (1, .int (nI se))] → W p l e { frames := 7, cells := 0, slots := 0, locals := 160 } s m [.ref (ad 0), .int (nI se)].toArray below meth c H locs 0 0 (QI below s A D [.ref (ad 0), .int (nI se)] (wC cI ad rc rl rh fr fw ((f_L_passes se fw fc fg ct now).2.1) ((f_L_passes se fw fc fg ct now).2.2.1) ps pg pr pd qp qt qf qo ((f_L_passes se fw fc fg ct now).2.2.2.1) lE lC cand lim ((f_L_passes se fw fc fg ct now).2.2.2.2) was (nI sent) (nI qfi) (nI qsz)) (bI ((f_L_passes se fw fc fg ct now).1))) (F0 m 64 ls [.int (bI v24)]) := by
    intro v24 hv24 H locs hP hD hS ls hl
    subst hv24
    exact eZ B hP hS (bI_nar _) (by simp only [hf, bI_t, bI_f]) (by simp only [hf]) dL_passes_64
  have hj24 := j_L_passes_24.eq_1 se fw fc fg ct now
  refine lv_icmp_ne (tgt := 63) hx hb dL_passes_24 (by decide) (fun c1 => ?_) (fun c1 => ?_)
  · have hj24 := hj24.trans (if_neg c1)
    refine lv_iconst (v := nI 0) hx hb dL_passes_63 (by decide) ?_
    exact K24 _ hj24 _ _ hP hD hS _ hl
  · have hj24 := hj24.trans (if_pos c1)
    refine lv_iload_n hx hb dL_passes_27 rfl (lv_at hl 4 rfl) ?_
    refine lv_iconst (v := nI 3) hx hb dL_passes_28 (by decide) ?_
    refine r_icmp_ge (tgt := 40) hx hb (by omega) (by omega) dL_passes_29 (by decide) (fun c2 => ?_) (fun c2 => ?_)
    · have hj24 := hj24.trans (if_pos c2)
      refine lv_iload hx hb dL_passes_40 (lv_at hl 0 rfl) ?_
      refine lv_iload_n hx hb dL_passes_42 rfl (lv_at hl 1 rfl) ?_
      refine lv_icmp_lt (tgt := 63) hx hb dL_passes_43 (by decide) (fun c3 => ?_) (fun c3 => ?_)
      · have hj24 := hj24.trans (if_pos c3)
        refine lv_iconst (v := nI 0) hx hb dL_passes_63 (by decide) ?_
        exact K24 _ hj24 _ _ hP hD hS _ hl
      · have hj24 := hj24.trans (if_neg c3)
        refine lv_iload_n hx hb dL_passes_46 rfl (lv_at hl 4 rfl) ?_
        refine lv_bipush (v := nI 33) hx hb dL_passes_47 (by decide) ?_
        refine r_icmp_lt (tgt := 59) hx hb (by omega) (by omega) dL_passes_49 (by decide) (fun c4 => ?_) (fun c4 => ?_)
        · have hj24 := hj24.trans (if_pos c4)
          refine lv_iconst (v := nI 1) hx hb dL_passes_59 (by decide) ?_
          refine lv_goto (tgt := 64) hx hb dL_passes_60 (by decide) ?_
          exact K24 _ hj24 _ _ hP hD hS _ hl
        · have hj24 := hj24.trans (if_neg c4)
          refine lv_aload_n hx hb dL_passes_52 rfl (lv_at hl 3 rfl) ?_
          refine fV_i (ci := 5) (as := []) (rest := []) B hl.1 (c_X5_leaving l D cI cZ ad rc rl rh fr fw ((f_X5_pass se fw fc fg ct now).2.1) ((f_X5_pass se fw fc fg ct now).2.2.1) ps pg pr pd qp qt qf qo ((f_X5_pass se fw fc fg ct now).2.2.2.1) lE lC cand lim ((f_X5_pass se fw fc fg ct now).2.2.2.2) was sent qfi qsz) rfl (l_RL_57 hts ⟨rfl, rfl⟩ ⟨Nat.le_of_ble_eq_true rfl, Nat.le_of_ble_eq_true rfl⟩) m_6_11 m_6_12 rfl rfl hP hD hS hA 0 rfl wfC (Nat.le_of_ble_eq_true rfl) dL_passes_53 (fun H locs hP hD hS => ?_)
          refine lv_if_ne (tgt := 63) hx hb dL_passes_56 (by decide) (fun c5 => ?_) (fun c5 => ?_)
          · have hj24 := hj24.trans (if_neg c5)
            refine lv_iconst (v := nI 0) hx hb dL_passes_63 (by decide) ?_
            exact K24 _ hj24 _ _ hP hD hS _ hl
          · have hj24 := hj24.trans (if_pos c5)
            refine lv_iconst (v := nI 1) hx hb dL_passes_59 (by decide) ?_
            refine lv_goto (tgt := 64) hx hb dL_passes_60 (by decide) ?_
            exact K24 _ hj24 _ _ hP hD hS _ hl
    · have hj24 := hj24.trans (if_neg c2)
      refine lv_iload hx hb dL_passes_32 (lv_at hl 0 rfl) ?_
      refine lv_if_lt (tgt := 63) hx hb dL_passes_34 (by decide) (fun c6 => ?_) (fun c6 => ?_)
      · have hj24 := hj24.trans (if_pos c6)
        refine lv_iconst (v := nI 0) hx hb dL_passes_63 (by decide) ?_
        exact K24 _ hj24 _ _ hP hD hS _ hl
      · have hj24 := hj24.trans (if_neg c6)
        refine lv_goto (tgt := 46) hx hb dL_passes_37 (by decide) ?_
        refine lv_iload_n hx hb dL_passes_46 rfl (lv_at hl 4 rfl) ?_
        refine lv_bipush (v := nI 33) hx hb dL_passes_47 (by decide) ?_
        refine r_icmp_lt (tgt := 59) hx hb (by omega) (by omega) dL_passes_49 (by decide) (fun _ => ?_) (fun c => absurd c (by omega))
        refine lv_iconst (v := nI 1) hx hb dL_passes_59 (by decide) ?_
        refine lv_goto (tgt := 64) hx hb dL_passes_60 (by decide) ?_
        exact K24 _ hj24 _ _ hP hD hS _ hl
