def okA (x : Int32) : Prop := x = -1 ∨ (x = nI x.toNatClampNeg ∧ x.toNatClampNeg < 10)
theorem okA_nI {k : Nat} (h : k < 10) : okA (nI k) := Or.inr (by rw [nI_clamp (by omega)]; exact ⟨rfl, h⟩)
theorem okA_m1 : okA (-1) := Or.inl rfl
set_option maxHeartbeats 4000000 in
set_option maxRecDepth 100000 in
theorem c_X6_isRouter (l : Launch) (D : va_G) (cI cZ : ClassId) (ws : va_W) (r : Nat) (hr : r < 10) : MI l yX6_isRouter cX6_isRouter 1 .boolean { frames := 0, cells := 0, slots := 0, locals := 0 } D (TY cI cZ) [.int (nI r)] (ws) (ws) (nI 1) := by
  refine MI.mk ⟨rfl, rfl⟩ (by decide +kernel) (Nat.le_of_ble_eq_true rfl) ?_
  intro p e s m below meth c A ls B hA hP hD hS hl
  have hx := B.1
  have hb := B.2.1
  have hts := B.2.2.2.2.2.1
  have hN := B.2.2.2.2.2.2.2.1
  have hK := B.2.2.2.2.2.2.2.2.1
  have hl : lv_has ls 1 [(0, .int (nI r))] := hl
  refine lv_iload_n hx hb dX6_isRouter_0 rfl (lv_at hl 0 rfl) ?_
  refine r_if_lt (tgt := 14) hx hb (by omega) dX6_isRouter_1 (by decide) ?_
  refine lv_iload_n hx hb dX6_isRouter_4 rfl (lv_at hl 0 rfl) ?_
  refine lv_bipush (v := nI 10) hx hb dX6_isRouter_5 (by decide) ?_
  refine r_icmp_ge (tgt := 14) hx hb (by omega) (by omega) dX6_isRouter_7 (by decide) (fun c => absurd c (by omega)) (fun _ => ?_)
  refine lv_iconst (v := nI 1) hx hb dX6_isRouter_10 (by decide) ?_
  refine lv_goto (tgt := 15) hx hb dX6_isRouter_11 (by decide) ?_
  exact eZ B hP hS (by decide) rfl rfl dX6_isRouter_15
def f_X6_isRouter_r (r : Int32) : Bool :=
  if r < 0 then false else if (nI 10) ≤ r then false else true
set_option maxHeartbeats 4000000 in
set_option maxRecDepth 100000 in
theorem c_X6_isRouter_r (l : Launch) (D : va_G) (cI cZ : ClassId) (ws : va_W) (r : Int32) : MI l yX6_isRouter cX6_isRouter 1 .boolean { frames := 0, cells := 0, slots := 0, locals := 0 } D (TY cI cZ) [.int r] (ws) (ws) (bI (f_X6_isRouter_r r)) := by
  refine MI.mk ⟨rfl, rfl⟩ (by decide +kernel) (Nat.le_of_ble_eq_true rfl) ?_
  intro p e s m below meth c A ls B hA hP hD hS hl
  have hx := B.1
  have hb := B.2.1
  have hts := B.2.2.2.2.2.1
  have hN := B.2.2.2.2.2.2.2.1
  have hK := B.2.2.2.2.2.2.2.2.1
  have hl : lv_has ls 1 [(0, .int r)] := hl
  have hf := f_X6_isRouter_r.eq_1 r
  refine lv_iload_n hx hb dX6_isRouter_0 rfl (lv_at hl 0 rfl) ?_
  refine lv_if_lt (tgt := 14) hx hb dX6_isRouter_1 (by decide) (fun c1 => ?_) (fun c1 => ?_)
  · have hf := hf.trans (if_pos c1)
    refine lv_iconst (v := nI 0) hx hb dX6_isRouter_14 (by decide) ?_
    exact eZ B hP hS (by decide) ((congrArg (fun (u : Bool) => bI u) hf).symm) rfl dX6_isRouter_15
  · have hf := hf.trans (if_neg c1)
    refine lv_iload_n hx hb dX6_isRouter_4 rfl (lv_at hl 0 rfl) ?_
    refine lv_bipush (v := nI 10) hx hb dX6_isRouter_5 (by decide) ?_
    refine lv_icmp_ge (tgt := 14) hx hb dX6_isRouter_7 (by decide) (fun c2 => ?_) (fun c2 => ?_)
    · have hf := hf.trans (if_pos c2)
      refine lv_iconst (v := nI 0) hx hb dX6_isRouter_14 (by decide) ?_
      exact eZ B hP hS (by decide) ((congrArg (fun (u : Bool) => bI u) hf).symm) rfl dX6_isRouter_15
    · have hf := hf.trans (if_neg c2)
      refine lv_iconst (v := nI 1) hx hb dX6_isRouter_10 (by decide) ?_
      refine lv_goto (tgt := 15) hx hb dX6_isRouter_11 (by decide) ?_
      exact eZ B hP hS (by decide) ((congrArg (fun (u : Bool) => bI u) hf).symm) rfl dX6_isRouter_15
set_option maxHeartbeats 4000000 in
set_option maxRecDepth 100000 in
theorem c_X6_isGroup (l : Launch) (D : va_G) (cI cZ : ClassId) (ws : va_W) (g : Nat) (hg : g < 4) : MI l yX6_isGroup cX6_isGroup 1 .boolean { frames := 0, cells := 0, slots := 0, locals := 0 } D (TY cI cZ) [.int (nI g)] (ws) (ws) (nI 1) := by
  refine MI.mk ⟨rfl, rfl⟩ (by decide +kernel) (Nat.le_of_ble_eq_true rfl) ?_
  intro p e s m below meth c A ls B hA hP hD hS hl
  have hx := B.1
  have hb := B.2.1
  have hts := B.2.2.2.2.2.1
  have hN := B.2.2.2.2.2.2.2.1
  have hK := B.2.2.2.2.2.2.2.2.1
  have hl : lv_has ls 1 [(0, .int (nI g))] := hl
  refine lv_iload_n hx hb dX6_isGroup_0 rfl (lv_at hl 0 rfl) ?_
  refine r_if_lt (tgt := 13) hx hb (by omega) dX6_isGroup_1 (by decide) ?_
  refine lv_iload_n hx hb dX6_isGroup_4 rfl (lv_at hl 0 rfl) ?_
  refine lv_iconst (v := nI 4) hx hb dX6_isGroup_5 (by decide) ?_
  refine r_icmp_ge (tgt := 13) hx hb (by omega) (by omega) dX6_isGroup_6 (by decide) (fun c => absurd c (by omega)) (fun _ => ?_)
  refine lv_iconst (v := nI 1) hx hb dX6_isGroup_9 (by decide) ?_
  refine lv_goto (tgt := 14) hx hb dX6_isGroup_10 (by decide) ?_
  exact eZ B hP hS (by decide) rfl rfl dX6_isGroup_14
def f_X6_isGroup_r (g : Int32) : Bool :=
  if g < 0 then false else if (nI 4) ≤ g then false else true
set_option maxHeartbeats 4000000 in
set_option maxRecDepth 100000 in
theorem c_X6_isGroup_r (l : Launch) (D : va_G) (cI cZ : ClassId) (ws : va_W) (g : Int32) : MI l yX6_isGroup cX6_isGroup 1 .boolean { frames := 0, cells := 0, slots := 0, locals := 0 } D (TY cI cZ) [.int g] (ws) (ws) (bI (f_X6_isGroup_r g)) := by
  refine MI.mk ⟨rfl, rfl⟩ (by decide +kernel) (Nat.le_of_ble_eq_true rfl) ?_
  intro p e s m below meth c A ls B hA hP hD hS hl
  have hx := B.1
  have hb := B.2.1
  have hts := B.2.2.2.2.2.1
  have hN := B.2.2.2.2.2.2.2.1
  have hK := B.2.2.2.2.2.2.2.2.1
  have hl : lv_has ls 1 [(0, .int g)] := hl
  have hf := f_X6_isGroup_r.eq_1 g
  refine lv_iload_n hx hb dX6_isGroup_0 rfl (lv_at hl 0 rfl) ?_
  refine lv_if_lt (tgt := 13) hx hb dX6_isGroup_1 (by decide) (fun c1 => ?_) (fun c1 => ?_)
  · have hf := hf.trans (if_pos c1)
    refine lv_iconst (v := nI 0) hx hb dX6_isGroup_13 (by decide) ?_
    exact eZ B hP hS (by decide) ((congrArg (fun (u : Bool) => bI u) hf).symm) rfl dX6_isGroup_14
  · have hf := hf.trans (if_neg c1)
    refine lv_iload_n hx hb dX6_isGroup_4 rfl (lv_at hl 0 rfl) ?_
    refine lv_iconst (v := nI 4) hx hb dX6_isGroup_5 (by decide) ?_
    refine lv_icmp_ge (tgt := 13) hx hb dX6_isGroup_6 (by decide) (fun c2 => ?_) (fun c2 => ?_)
    · have hf := hf.trans (if_pos c2)
      refine lv_iconst (v := nI 0) hx hb dX6_isGroup_13 (by decide) ?_
      exact eZ B hP hS (by decide) ((congrArg (fun (u : Bool) => bI u) hf).symm) rfl dX6_isGroup_14
    · have hf := hf.trans (if_neg c2)
      refine lv_iconst (v := nI 1) hx hb dX6_isGroup_9 (by decide) ?_
      refine lv_goto (tgt := 14) hx hb dX6_isGroup_10 (by decide) ?_
      exact eZ B hP hS (by decide) ((congrArg (fun (u : Bool) => bI u) hf).symm) rfl dX6_isGroup_14
set_option maxHeartbeats 4000000 in
set_option maxRecDepth 100000 in
theorem c_X6_can_0 (l : Launch) (D : va_G) (cI cZ : ClassId) (ad : Nat → Nat) (co fa ic me sw cn ab go cp so gr re db : Nat → Int32) (rclk : Int32) (rlim : Int32) (rqd : Nat) (rpk : Nat) (rwas : Int32) (rthr : Int32) : MI l yX6_can cX6_can 2 .boolean { frames := 0, cells := 0, slots := 0, locals := 0 } D (TY cI cZ) [.ref (ad 0), .int (nI 0)] (wR cI cZ ad co fa ic me sw cn ab go cp so gr re db rclk rlim (nI rqd) (nI rpk) rwas rthr) (wR cI cZ ad co fa ic me sw cn ab go cp so gr re db rclk rlim (nI rqd) (nI rpk) rwas (nI 0)) (nI 1) := by
  refine MI.mk ⟨rfl, rfl⟩ (by decide +kernel) (Nat.le_of_ble_eq_true rfl) ?_
  intro p e s m below meth c A ls B hA hP hD hS hl
  have hx := B.1
  have hb := B.2.1
  have hts := B.2.2.2.2.2.1
  have hN := B.2.2.2.2.2.2.2.1
  have hK := B.2.2.2.2.2.2.2.2.1
  have hl : lv_has ls 2 [(0, .ref (ad 0)), (1, .int (nI 0))] := hl
  refine lv_aload_n hx hb dX6_can_0 rfl (lv_at hl 0 rfl) ?_
  refine lv_iload_n hx hb dX6_can_1 rfl (lv_at hl 1 rfl) ?_
  refine p_X6_57 B hP hD hS 0 rfl (Nat.le_of_ble_eq_true rfl) dX6_can_2 (fun H locs hP hD hS => ?_)
  have hP : va_P D vwCl (wR cI cZ ad co fa ic me sw cn ab go cp so gr re db rclk rlim (nI rqd) (nI rpk) rwas (nI 0)) H := hP
  have hD : va_D A (wR cI cZ ad co fa ic me sw cn ab go cp so gr re db rclk rlim (nI rqd) (nI rpk) rwas (nI 0)) := hD
  refine lv_iload_n hx hb dX6_can_5 rfl (lv_at hl 1 rfl) ?_
  refine r_if_ne (tgt := 13) hx hb (by omega) dX6_can_6 (by decide) (fun c => absurd c (by omega)) (fun _ => ?_)
  refine lv_iconst (v := nI 1) hx hb dX6_can_9 (by decide) ?_
  refine lv_goto (tgt := 14) hx hb dX6_can_10 (by decide) ?_
  exact eZ B hP hS (by decide) rfl rfl dX6_can_14
set_option maxHeartbeats 4000000 in
set_option maxRecDepth 100000 in
theorem c_X6_can_1 (l : Launch) (D : va_G) (cI cZ : ClassId) (ad : Nat → Nat) (co fa ic me sw cn ab go cp so gr re db : Nat → Int32) (rclk : Int32) (rlim : Int32) (rqd : Nat) (rpk : Nat) (rwas : Int32) (rthr : Int32) : MI l yX6_can cX6_can 2 .boolean { frames := 0, cells := 0, slots := 0, locals := 0 } D (TY cI cZ) [.ref (ad 0), .int (nI 1)] (wR cI cZ ad co fa ic me sw cn ab go cp so gr re db rclk rlim (nI rqd) (nI rpk) rwas rthr) (wR cI cZ ad co fa ic me sw cn ab go cp so gr re db rclk rlim (nI rqd) (nI rpk) rwas (nI 1)) (nI 0) := by
  refine MI.mk ⟨rfl, rfl⟩ (by decide +kernel) (Nat.le_of_ble_eq_true rfl) ?_
  intro p e s m below meth c A ls B hA hP hD hS hl
  have hx := B.1
  have hb := B.2.1
  have hts := B.2.2.2.2.2.1
  have hN := B.2.2.2.2.2.2.2.1
  have hK := B.2.2.2.2.2.2.2.2.1
  have hl : lv_has ls 2 [(0, .ref (ad 0)), (1, .int (nI 1))] := hl
  refine lv_aload_n hx hb dX6_can_0 rfl (lv_at hl 0 rfl) ?_
  refine lv_iload_n hx hb dX6_can_1 rfl (lv_at hl 1 rfl) ?_
  refine p_X6_57 B hP hD hS 0 rfl (Nat.le_of_ble_eq_true rfl) dX6_can_2 (fun H locs hP hD hS => ?_)
  have hP : va_P D vwCl (wR cI cZ ad co fa ic me sw cn ab go cp so gr re db rclk rlim (nI rqd) (nI rpk) rwas (nI 1)) H := hP
  have hD : va_D A (wR cI cZ ad co fa ic me sw cn ab go cp so gr re db rclk rlim (nI rqd) (nI rpk) rwas (nI 1)) := hD
  refine lv_iload_n hx hb dX6_can_5 rfl (lv_at hl 1 rfl) ?_
  refine r_if_ne (tgt := 13) hx hb (by omega) dX6_can_6 (by decide) (fun _ => ?_) (fun c => absurd c (by omega))
  refine lv_iconst (v := nI 0) hx hb dX6_can_13 (by decide) ?_
  exact eZ B hP hS (by decide) rfl rfl dX6_can_14
set_option maxHeartbeats 4000000 in
set_option maxRecDepth 100000 in
theorem c_X6_can_2 (l : Launch) (D : va_G) (cI cZ : ClassId) (ad : Nat → Nat) (co fa ic me sw cn ab go cp so gr re db : Nat → Int32) (rclk : Int32) (rlim : Int32) (rqd : Nat) (rpk : Nat) (rwas : Int32) (rthr : Int32) : MI l yX6_can cX6_can 2 .boolean { frames := 0, cells := 0, slots := 0, locals := 0 } D (TY cI cZ) [.ref (ad 0), .int (nI 2)] (wR cI cZ ad co fa ic me sw cn ab go cp so gr re db rclk rlim (nI rqd) (nI rpk) rwas rthr) (wR cI cZ ad co fa ic me sw cn ab go cp so gr re db rclk rlim (nI rqd) (nI rpk) rwas (nI 2)) (nI 0) := by
  refine MI.mk ⟨rfl, rfl⟩ (by decide +kernel) (Nat.le_of_ble_eq_true rfl) ?_
  intro p e s m below meth c A ls B hA hP hD hS hl
  have hx := B.1
  have hb := B.2.1
  have hts := B.2.2.2.2.2.1
  have hN := B.2.2.2.2.2.2.2.1
  have hK := B.2.2.2.2.2.2.2.2.1
  have hl : lv_has ls 2 [(0, .ref (ad 0)), (1, .int (nI 2))] := hl
  refine lv_aload_n hx hb dX6_can_0 rfl (lv_at hl 0 rfl) ?_
  refine lv_iload_n hx hb dX6_can_1 rfl (lv_at hl 1 rfl) ?_
  refine p_X6_57 B hP hD hS 0 rfl (Nat.le_of_ble_eq_true rfl) dX6_can_2 (fun H locs hP hD hS => ?_)
  have hP : va_P D vwCl (wR cI cZ ad co fa ic me sw cn ab go cp so gr re db rclk rlim (nI rqd) (nI rpk) rwas (nI 2)) H := hP
  have hD : va_D A (wR cI cZ ad co fa ic me sw cn ab go cp so gr re db rclk rlim (nI rqd) (nI rpk) rwas (nI 2)) := hD
  refine lv_iload_n hx hb dX6_can_5 rfl (lv_at hl 1 rfl) ?_
  refine r_if_ne (tgt := 13) hx hb (by omega) dX6_can_6 (by decide) (fun _ => ?_) (fun c => absurd c (by omega))
  refine lv_iconst (v := nI 0) hx hb dX6_can_13 (by decide) ?_
  exact eZ B hP hS (by decide) rfl rfl dX6_can_14
def f_X6_measures_L65 (k57 : Nat) : Nat → Nat → (Nat → Int32) → (Nat → Int32)
  | 0, _, fa_65 => fa_65
  | n65 + 1, k65, fa_65 => if (fa_65 k65) ≤ ((fa_65 ((10 * (k65 / 10)) + k57)) + (fa_65 ((10 * k57) + (k65 % 10)))) then f_X6_measures_L65 k57 n65 (k65 + 1) (upd fa_65 k65 (fa_65 k65)) else f_X6_measures_L65 k57 n65 (k65 + 1) (upd fa_65 k65 ((fa_65 ((10 * (k65 / 10)) + k57)) + (fa_65 ((10 * k57) + (k65 % 10)))))
def f_X6_measures_L57 : Nat → Nat → (Nat → Int32) → (Nat → Int32)
  | 0, _, fa_57 => fa_57
  | n57 + 1, k57, fa_57 => f_X6_measures_L57 n57 (k57 + 1) (f_X6_measures_L65 k57 100 0 fa_57)
def f_X6_measures_L2 (co : Nat → Int32) : Nat → Nat → (Nat → Int32) → (Nat → Int32)
  | 0, _, fa_2 => f_X6_measures_L57 10 0 fa_2
  | n2 + 1, k2, fa_2 => if (k2 / 10) = (k2 % 10) then f_X6_measures_L2 co n2 (k2 + 1) (upd fa_2 k2 (nI 0)) else if (co k2) ≤ 0 then f_X6_measures_L2 co n2 (k2 + 1) (upd fa_2 k2 (nI 1000000)) else f_X6_measures_L2 co n2 (k2 + 1) (upd fa_2 k2 (co k2))
def f_X6_measures (co : Nat → Int32) (fa : Nat → Int32) : (Nat → Int32) :=
  f_X6_measures_L2 co 100 0 fa
set_option maxHeartbeats 4000000 in
set_option maxRecDepth 100000 in
theorem c_X6_measures (l : Launch) (D : va_G) (cI cZ : ClassId) (ad : Nat → Nat) (co fa ic me sw cn ab go cp so gr re db : Nat → Int32) (rclk : Int32) (rlim : Int32) (rqd : Nat) (rpk : Nat) (rwas : Int32) (rthr : Int32) : MV l yX6_measures cX6_measures 4 { frames := 0, cells := 0, slots := 0, locals := 0 } D (TY cI cZ) [.ref (ad 0)] (wR cI cZ ad co fa ic me sw cn ab go cp so gr re db rclk rlim (nI rqd) (nI rpk) rwas rthr) (wR cI cZ ad co (f_X6_measures co fa) ic me sw cn ab go cp so gr re db rclk rlim (nI rqd) (nI rpk) rwas rthr) := by
  refine MV.mk ⟨rfl, rfl⟩ (by decide +kernel) (Nat.le_of_ble_eq_true rfl) ?_
  intro p e s m below meth c A ls B hA hP hD hS hl
  have hx := B.1
  have hb := B.2.1
  have hts := B.2.2.2.2.2.1
  have hN := B.2.2.2.2.2.2.2.1
  have hK := B.2.2.2.2.2.2.2.2.1
  have hl : lv_has ls 4 [(0, .ref (ad 0))] := hl
  have hf := f_X6_measures.eq_1 co fa
  refine lv_iconst (v := nI 0) hx hb dX6_measures_0 (by decide) ?_
  refine lv_istore_n (lv' := [(1, .int (nI 0)), (0, .ref (ad 0))]) hx hb dX6_measures_1 rfl hl (by decide) rfl (fun ls hl => ?_)
  have L2 : ∀ (n2 : Nat) (k2 : Nat) (fa_2 : Nat → Int32), k2 + n2 = 100 → f_X6_measures co fa = (f_X6_measures_L2 co n2 k2 fa_2) → ∀ (H : Heap) (locs : List Loc), va_P D vwCl (wR cI cZ ad co fa_2 ic me sw cn ab go cp so gr re db rclk rlim (nI rqd) (nI rpk) rwas rthr) H → va_D A (wR cI cZ ad co fa_2 ic me sw cn ab go cp so gr re db rclk rlim (nI rqd) (nI rpk) rwas rthr) → va_S A s.heap H locs → ∀ ls : Array Slot, lv_has ls 4 [(0, .ref (ad 0)), (1, .int (nI k2))] → W p l e { frames := 0, cells := 0, slots := 0, locals := 0 } s m [.ref (ad 0)].toArray below meth c H locs 0 0 (QV below s A D [.ref (ad 0)] (wR cI cZ ad co (f_X6_measures co fa) ic me sw cn ab go cp so gr re db rclk rlim (nI rqd) (nI rpk) rwas rthr)) (F0 m 2 ls []) := by
    intro n2
    induction n2 with
    | zero =>
      intro k2 fa_2 hk2 hf H locs hP hD hS ls hl
      obtain rfl : 100 = k2 := by omega
      rw [f_X6_measures_L2] at hf
      have hl : lv_has ls 4 [(0, .ref (ad 0)), (1, .int (nI 100))] := hl
      refine lv_iload_n hx hb dX6_measures_2 rfl (lv_at hl 1 rfl) ?_
      refine lv_bipush (v := nI 100) hx hb dX6_measures_3 (by decide) ?_
      refine r_icmp_ge (tgt := 55) hx hb (by omega) (by omega) dX6_measures_5 (by decide) (fun _ => ?_) (fun c => absurd c (by omega))
      refine lv_iconst (v := nI 0) hx hb dX6_measures_55 (by decide) ?_
      refine lv_istore_n (lv' := [(1, .int (nI 0)), (0, .ref (ad 0))]) hx hb dX6_measures_56 rfl hl (by decide) rfl (fun ls hl => ?_)
      have L57 : ∀ (n57 : Nat) (k57 : Nat) (fa_57 : Nat → Int32), k57 + n57 = 10 → f_X6_measures co fa = (f_X6_measures_L57 n57 k57 fa_57) → ∀ (H : Heap) (locs : List Loc), va_P D vwCl (wR cI cZ ad co fa_57 ic me sw cn ab go cp so gr re db rclk rlim (nI rqd) (nI rpk) rwas rthr) H → va_D A (wR cI cZ ad co fa_57 ic me sw cn ab go cp so gr re db rclk rlim (nI rqd) (nI rpk) rwas rthr) → va_S A s.heap H locs → ∀ ls : Array Slot, lv_has ls 4 [(0, .ref (ad 0)), (1, .int (nI k57))] → W p l e { frames := 0, cells := 0, slots := 0, locals := 0 } s m [.ref (ad 0)].toArray below meth c H locs 0 0 (QV below s A D [.ref (ad 0)] (wR cI cZ ad co (f_X6_measures co fa) ic me sw cn ab go cp so gr re db rclk rlim (nI rqd) (nI rpk) rwas rthr)) (F0 m 57 ls []) := by
        intro n57
        induction n57 with
        | zero =>
          intro k57 fa_57 hk57 hf H locs hP hD hS ls hl
          obtain rfl : 10 = k57 := by omega
          rw [f_X6_measures_L57] at hf
          have hl : lv_has ls 4 [(0, .ref (ad 0)), (1, .int (nI 10))] := hl
          refine lv_iload_n hx hb dX6_measures_57 rfl (lv_at hl 1 rfl) ?_
          refine lv_bipush (v := nI 10) hx hb dX6_measures_58 (by decide) ?_
          refine r_icmp_ge (tgt := 139) hx hb (by omega) (by omega) dX6_measures_60 (by decide) (fun _ => ?_) (fun c => absurd c (by omega))
          exact eV B hP hS ((congrArg (fun (u : (Nat → Int32)) => wR cI cZ ad co u ic me sw cn ab go cp so gr re db rclk rlim (nI rqd) (nI rpk) rwas rthr) hf).symm) dX6_measures_139
        | succ n57 ih57 =>
          intro k57 fa_57 hk57 hf H locs hP hD hS ls hl
          rw [f_X6_measures_L57] at hf
          have hl : lv_has ls 4 [(0, .ref (ad 0)), (1, .int (nI k57))] := hl
          refine lv_iload_n hx hb dX6_measures_57 rfl (lv_at hl 1 rfl) ?_
          refine lv_bipush (v := nI 10) hx hb dX6_measures_58 (by decide) ?_
          refine r_icmp_ge (tgt := 139) hx hb (by omega) (by omega) dX6_measures_60 (by decide) (fun c => absurd c (by omega)) (fun _ => ?_)
          refine lv_iconst (v := nI 0) hx hb dX6_measures_63 (by decide) ?_
          refine lv_istore_n (lv' := [(2, .int (nI 0)), (0, .ref (ad 0)), (1, .int (nI k57))]) hx hb dX6_measures_64 rfl hl (by decide) rfl (fun ls hl => ?_)
          have L65 : ∀ (n65 : Nat) (k65 : Nat) (fa_65 : Nat → Int32), k65 + n65 = 100 → f_X6_measures co fa = (f_X6_measures_L57 n57 (k57 + 1) (f_X6_measures_L65 k57 n65 k65 fa_65)) → ∀ (H : Heap) (locs : List Loc), va_P D vwCl (wR cI cZ ad co fa_65 ic me sw cn ab go cp so gr re db rclk rlim (nI rqd) (nI rpk) rwas rthr) H → va_D A (wR cI cZ ad co fa_65 ic me sw cn ab go cp so gr re db rclk rlim (nI rqd) (nI rpk) rwas rthr) → va_S A s.heap H locs → ∀ ls : Array Slot, lv_has ls 4 [(0, .ref (ad 0)), (1, .int (nI k57)), (2, .int (nI k65))] → W p l e { frames := 0, cells := 0, slots := 0, locals := 0 } s m [.ref (ad 0)].toArray below meth c H locs 0 0 (QV below s A D [.ref (ad 0)] (wR cI cZ ad co (f_X6_measures co fa) ic me sw cn ab go cp so gr re db rclk rlim (nI rqd) (nI rpk) rwas rthr)) (F0 m 65 ls []) := by
            intro n65
            induction n65 with
            | zero =>
              intro k65 fa_65 hk65 hf H locs hP hD hS ls hl
              obtain rfl : 100 = k65 := by omega
              rw [f_X6_measures_L65] at hf
              have hl : lv_has ls 4 [(0, .ref (ad 0)), (1, .int (nI k57)), (2, .int (nI 100))] := hl
              refine lv_iload_n hx hb dX6_measures_65 rfl (lv_at hl 2 rfl) ?_
              refine lv_bipush (v := nI 100) hx hb dX6_measures_66 (by decide) ?_
              refine r_icmp_ge (tgt := 133) hx hb (by omega) (by omega) dX6_measures_68 (by decide) (fun _ => ?_) (fun c => absurd c (by omega))
              refine lv_iinc (v := nI (k57 + 1)) (lv' := [(1, .int (nI (k57 + 1))), (0, .ref (ad 0)), (2, .int (nI 100))]) hx hb dX6_measures_133 hl (k := 1) rfl (nI_add _ _) (by decide) rfl (fun ls hl => ?_)
              refine lv_goto (tgt := 57) hx hb dX6_measures_136 (by decide) ?_
              exact ih57 (k57 + 1) fa_65 (by omega) hf _ _ hP hD hS _ (lv_sub hl [1, 0] rfl)
            | succ n65 ih65 =>
              intro k65 fa_65 hk65 hf H locs hP hD hS ls hl
              rw [f_X6_measures_L65] at hf
              have hl : lv_has ls 4 [(0, .ref (ad 0)), (1, .int (nI k57)), (2, .int (nI k65))] := hl
              refine lv_iload_n hx hb dX6_measures_65 rfl (lv_at hl 2 rfl) ?_
              refine lv_bipush (v := nI 100) hx hb dX6_measures_66 (by decide) ?_
              refine r_icmp_ge (tgt := 133) hx hb (by omega) (by omega) dX6_measures_68 (by decide) (fun c => absurd c (by omega)) (fun _ => ?_)
              refine lv_aload_n hx hb dX6_measures_71 rfl (lv_at hl 0 rfl) ?_
              refine g_X6_17 B hP 0 rfl rfl dX6_measures_72 ?_
              refine lv_bipush (v := nI 10) hx hb dX6_measures_75 (by decide) ?_
              refine lv_iload_n hx hb dX6_measures_77 rfl (lv_at hl 2 rfl) ?_
              refine lv_bipush (v := nI 10) hx hb dX6_measures_78 (by decide) ?_
              refine r_idiv hx hb (by omega) (by omega) (by omega) dX6_measures_80 ?_
              refine r_imul hx hb dX6_measures_81 ?_
              refine lv_iload_n hx hb dX6_measures_82 rfl (lv_at hl 1 rfl) ?_
              refine r_iadd hx hb dX6_measures_83 ?_
              refine r_iald hx hb hK hP 2 0 rfl rfl (by omega) (by decide) dX6_measures_84 ?_
              refine lv_aload_n hx hb dX6_measures_85 rfl (lv_at hl 0 rfl) ?_
              refine g_X6_17 B hP 0 rfl rfl dX6_measures_86 ?_
              refine lv_bipush (v := nI 10) hx hb dX6_measures_89 (by decide) ?_
              refine lv_iload_n hx hb dX6_measures_91 rfl (lv_at hl 1 rfl) ?_
              refine r_imul hx hb dX6_measures_92 ?_
              refine lv_iload_n hx hb dX6_measures_93 rfl (lv_at hl 2 rfl) ?_
              refine lv_bipush (v := nI 10) hx hb dX6_measures_94 (by decide) ?_
              refine r_irem hx hb (by omega) (by omega) (by omega) dX6_measures_96 ?_
              refine r_iadd hx hb dX6_measures_97 ?_
              refine r_iald hx hb hK hP 2 0 rfl rfl (by omega) (by decide) dX6_measures_98 ?_
              refine lv_iadd hx hb dX6_measures_99 ?_
              refine lv_istore_n (lv' := [(3, .int ((fa_65 ((10 * (k65 / 10)) + k57)) + (fa_65 ((10 * k57) + (k65 % 10))))), (0, .ref (ad 0)), (1, .int (nI k57)), (2, .int (nI k65))]) hx hb dX6_measures_100 rfl hl (by decide) rfl (fun ls hl => ?_)
              refine lv_aload_n hx hb dX6_measures_101 rfl (lv_at hl 1 rfl) ?_
              refine g_X6_17 B hP 0 rfl rfl dX6_measures_102 ?_
              refine lv_iload_n hx hb dX6_measures_105 rfl (lv_at hl 3 rfl) ?_
              refine lv_iload_n hx hb dX6_measures_106 rfl (lv_at hl 0 rfl) ?_
              refine lv_aload_n hx hb dX6_measures_107 rfl (lv_at hl 1 rfl) ?_
              refine g_X6_17 B hP 0 rfl rfl dX6_measures_108 ?_
              refine lv_iload_n hx hb dX6_measures_111 rfl (lv_at hl 3 rfl) ?_
              refine r_iald hx hb hK hP 2 0 rfl rfl (by omega) (by decide) dX6_measures_112 ?_
              refine lv_icmp_ge (tgt := 120) hx hb dX6_measures_113 (by decide) (fun c18 => ?_) (fun c18 => ?_)
              · rw [if_pos c18] at hf
                refine lv_aload_n hx hb dX6_measures_120 rfl (lv_at hl 1 rfl) ?_
                refine g_X6_17 B hP 0 rfl rfl dX6_measures_121 ?_
                refine lv_iload_n hx hb dX6_measures_124 rfl (lv_at hl 3 rfl) ?_
                refine r_iald hx hb hK hP 2 0 rfl rfl (by omega) (by decide) dX6_measures_125 ?_
                refine r_iast hx hb hK hP hD hS 2 0 rfl rfl (by omega) (by decide) dX6_measures_126 (fun H locs hP hD hS => ?_)
                have hP : va_P D vwCl (wR cI cZ ad co (upd fa_65 k65 (fa_65 k65)) ic me sw cn ab go cp so gr re db rclk rlim (nI rqd) (nI rpk) rwas rthr) H := hP
                have hD : va_D A (wR cI cZ ad co (upd fa_65 k65 (fa_65 k65)) ic me sw cn ab go cp so gr re db rclk rlim (nI rqd) (nI rpk) rwas rthr) := hD
                refine lv_iinc (v := nI (k65 + 1)) (lv' := [(2, .int (nI (k65 + 1))), (3, .int ((fa_65 ((10 * (k65 / 10)) + k57)) + (fa_65 ((10 * k57) + (k65 % 10))))), (0, .ref (ad 0)), (1, .int (nI k57))]) hx hb dX6_measures_127 hl (k := 3) rfl (nI_add _ _) (by decide) rfl (fun ls hl => ?_)
                refine lv_goto (tgt := 65) hx hb dX6_measures_130 (by decide) ?_
                exact ih65 (k65 + 1) (upd fa_65 k65 (fa_65 k65)) (by omega) hf _ _ hP hD hS _ (lv_sub hl [2, 3, 0] rfl)
              · rw [if_neg c18] at hf
                refine lv_iload_n hx hb dX6_measures_116 rfl (lv_at hl 0 rfl) ?_
                refine lv_goto (tgt := 126) hx hb dX6_measures_117 (by decide) ?_
                refine r_iast hx hb hK hP hD hS 2 0 rfl rfl (by omega) (by decide) dX6_measures_126 (fun H locs hP hD hS => ?_)
                have hP : va_P D vwCl (wR cI cZ ad co (upd fa_65 k65 ((fa_65 ((10 * (k65 / 10)) + k57)) + (fa_65 ((10 * k57) + (k65 % 10))))) ic me sw cn ab go cp so gr re db rclk rlim (nI rqd) (nI rpk) rwas rthr) H := hP
                have hD : va_D A (wR cI cZ ad co (upd fa_65 k65 ((fa_65 ((10 * (k65 / 10)) + k57)) + (fa_65 ((10 * k57) + (k65 % 10))))) ic me sw cn ab go cp so gr re db rclk rlim (nI rqd) (nI rpk) rwas rthr) := hD
                refine lv_iinc (v := nI (k65 + 1)) (lv' := [(2, .int (nI (k65 + 1))), (3, .int ((fa_65 ((10 * (k65 / 10)) + k57)) + (fa_65 ((10 * k57) + (k65 % 10))))), (0, .ref (ad 0)), (1, .int (nI k57))]) hx hb dX6_measures_127 hl (k := 3) rfl (nI_add _ _) (by decide) rfl (fun ls hl => ?_)
                refine lv_goto (tgt := 65) hx hb dX6_measures_130 (by decide) ?_
                exact ih65 (k65 + 1) (upd fa_65 k65 ((fa_65 ((10 * (k65 / 10)) + k57)) + (fa_65 ((10 * k57) + (k65 % 10))))) (by omega) hf _ _ hP hD hS _ (lv_sub hl [2, 3, 0] rfl)
          exact L65 100 0 fa_57 (by omega) hf _ _ hP hD hS _ (lv_sub hl [1, 2, 0] rfl)
      exact L57 10 0 fa_2 (by omega) hf _ _ hP hD hS _ (lv_sub hl [1, 0] rfl)
    | succ n2 ih2 =>
      intro k2 fa_2 hk2 hf H locs hP hD hS ls hl
      rw [f_X6_measures_L2] at hf
      have hl : lv_has ls 4 [(0, .ref (ad 0)), (1, .int (nI k2))] := hl
      refine lv_iload_n hx hb dX6_measures_2 rfl (lv_at hl 1 rfl) ?_
      refine lv_bipush (v := nI 100) hx hb dX6_measures_3 (by decide) ?_
      refine r_icmp_ge (tgt := 55) hx hb (by omega) (by omega) dX6_measures_5 (by decide) (fun c => absurd c (by omega)) (fun _ => ?_)
      refine lv_aload_n hx hb dX6_measures_8 rfl (lv_at hl 0 rfl) ?_
      refine g_X6_17 B hP 0 rfl rfl dX6_measures_9 ?_
      refine lv_iload_n hx hb dX6_measures_12 rfl (lv_at hl 1 rfl) ?_
      refine lv_iload_n hx hb dX6_measures_13 rfl (lv_at hl 1 rfl) ?_
      refine lv_bipush (v := nI 10) hx hb dX6_measures_14 (by decide) ?_
      refine r_idiv hx hb (by omega) (by omega) (by omega) dX6_measures_16 ?_
      refine lv_iload_n hx hb dX6_measures_17 rfl (lv_at hl 1 rfl) ?_
      refine lv_bipush (v := nI 10) hx hb dX6_measures_18 (by decide) ?_
      refine r_irem hx hb (by omega) (by omega) (by omega) dX6_measures_20 ?_
      refine r_icmp_ne (tgt := 28) hx hb (by omega) (by omega) dX6_measures_21 (by decide) (fun c19 => ?_) (fun c19 => ?_)
      · have hf := hf.trans (if_neg c19)
        refine lv_aload_n hx hb dX6_measures_28 rfl (lv_at hl 0 rfl) ?_
        refine g_X6_13 B hP 0 rfl rfl dX6_measures_29 ?_
        refine lv_iload_n hx hb dX6_measures_32 rfl (lv_at hl 1 rfl) ?_
        refine r_iald hx hb hK hP 1 0 rfl rfl (by omega) (by decide) dX6_measures_33 ?_
        refine lv_if_le (tgt := 46) hx hb dX6_measures_34 (by decide) (fun c20 => ?_) (fun c20 => ?_)
        · have hf := hf.trans (if_pos c20)
          refine lv_ldc (v := nI 1000000) hx hb B.2.2.2.2.1 (hts _ m_6_17) dX6_measures_46 ?_
          refine r_iast hx hb hK hP hD hS 2 0 rfl rfl (by omega) (by decide) dX6_measures_48 (fun H locs hP hD hS => ?_)
          have hP : va_P D vwCl (wR cI cZ ad co (upd fa_2 k2 (nI 1000000)) ic me sw cn ab go cp so gr re db rclk rlim (nI rqd) (nI rpk) rwas rthr) H := hP
          have hD : va_D A (wR cI cZ ad co (upd fa_2 k2 (nI 1000000)) ic me sw cn ab go cp so gr re db rclk rlim (nI rqd) (nI rpk) rwas rthr) := hD
          refine lv_iinc (v := nI (k2 + 1)) (lv' := [(1, .int (nI (k2 + 1))), (0, .ref (ad 0))]) hx hb dX6_measures_49 hl (k := 1) rfl (nI_add _ _) (by decide) rfl (fun ls hl => ?_)
          refine lv_goto (tgt := 2) hx hb dX6_measures_52 (by decide) ?_
          exact ih2 (k2 + 1) (upd fa_2 k2 (nI 1000000)) (by omega) hf _ _ hP hD hS _ (lv_sub hl [1, 0] rfl)
        · have hf := hf.trans (if_neg c20)
          refine lv_aload_n hx hb dX6_measures_37 rfl (lv_at hl 0 rfl) ?_
          refine g_X6_13 B hP 0 rfl rfl dX6_measures_38 ?_
          refine lv_iload_n hx hb dX6_measures_41 rfl (lv_at hl 1 rfl) ?_
          refine r_iald hx hb hK hP 1 0 rfl rfl (by omega) (by decide) dX6_measures_42 ?_
          refine lv_goto (tgt := 48) hx hb dX6_measures_43 (by decide) ?_
          refine r_iast hx hb hK hP hD hS 2 0 rfl rfl (by omega) (by decide) dX6_measures_48 (fun H locs hP hD hS => ?_)
          have hP : va_P D vwCl (wR cI cZ ad co (upd fa_2 k2 (co k2)) ic me sw cn ab go cp so gr re db rclk rlim (nI rqd) (nI rpk) rwas rthr) H := hP
          have hD : va_D A (wR cI cZ ad co (upd fa_2 k2 (co k2)) ic me sw cn ab go cp so gr re db rclk rlim (nI rqd) (nI rpk) rwas rthr) := hD
          refine lv_iinc (v := nI (k2 + 1)) (lv' := [(1, .int (nI (k2 + 1))), (0, .ref (ad 0))]) hx hb dX6_measures_49 hl (k := 1) rfl (nI_add _ _) (by decide) rfl (fun ls hl => ?_)
          refine lv_goto (tgt := 2) hx hb dX6_measures_52 (by decide) ?_
          exact ih2 (k2 + 1) (upd fa_2 k2 (co k2)) (by omega) hf _ _ hP hD hS _ (lv_sub hl [1, 0] rfl)
      · have hf := hf.trans (if_pos c19)
        refine lv_iconst (v := nI 0) hx hb dX6_measures_24 (by decide) ?_
        refine lv_goto (tgt := 48) hx hb dX6_measures_25 (by decide) ?_
        refine r_iast hx hb hK hP hD hS 2 0 rfl rfl (by omega) (by decide) dX6_measures_48 (fun H locs hP hD hS => ?_)
        have hP : va_P D vwCl (wR cI cZ ad co (upd fa_2 k2 (nI 0)) ic me sw cn ab go cp so gr re db rclk rlim (nI rqd) (nI rpk) rwas rthr) H := hP
        have hD : va_D A (wR cI cZ ad co (upd fa_2 k2 (nI 0)) ic me sw cn ab go cp so gr re db rclk rlim (nI rqd) (nI rpk) rwas rthr) := hD
        refine lv_iinc (v := nI (k2 + 1)) (lv' := [(1, .int (nI (k2 + 1))), (0, .ref (ad 0))]) hx hb dX6_measures_49 hl (k := 1) rfl (nI_add _ _) (by decide) rfl (fun ls hl => ?_)
        refine lv_goto (tgt := 2) hx hb dX6_measures_52 (by decide) ?_
        exact ih2 (k2 + 1) (upd fa_2 k2 (nI 0)) (by omega) hf _ _ hP hD hS _ (lv_sub hl [1, 0] rfl)
  exact L2 100 0 fa (by omega) hf _ _ hP hD hS _ (lv_sub hl [1, 0] rfl)
def f_X6_hop_L19 (r : Nat) (o : Nat) (co : Nat → Int32) (fa : Nat → Int32) : Nat → Int32 → Int32
  | 0, x3_19 => x3_19
  | n19 + 1, x3_19 => if r = o then x3_19 else if (nI 1000000) ≤ (fa ((10 * r) + o)) then x3_19 else if (co ((10 * r) + n19)) ≤ 0 then f_X6_hop_L19 r o co fa n19 x3_19 else if ((co ((10 * r) + n19)) + (fa ((10 * n19) + o))) = (fa ((10 * r) + o)) then f_X6_hop_L19 r o co fa n19 (nI n19) else f_X6_hop_L19 r o co fa n19 x3_19
def f_X6_hop (r : Nat) (o : Nat) (co : Nat → Int32) (fa : Nat → Int32) : Int32 :=
  f_X6_hop_L19 r o co fa 10 (-1)
set_option maxHeartbeats 4000000 in
set_option maxRecDepth 100000 in
theorem c_X6_hop (l : Launch) (D : va_G) (cI cZ : ClassId) (ad : Nat → Nat) (co fa ic me sw cn ab go cp so gr re db : Nat → Int32) (rclk : Int32) (rlim : Int32) (rqd : Nat) (rpk : Nat) (rwas : Int32) (rthr : Int32) (r : Nat) (o : Nat) (hr : r < 10) (ho : o < 10) : MI l yX6_hop cX6_hop 7 .int { frames := 0, cells := 0, slots := 0, locals := 0 } D (TY cI cZ) [.ref (ad 0), .int (nI r), .int (nI o)] (wR cI cZ ad co fa ic me sw cn ab go cp so gr re db rclk rlim (nI rqd) (nI rpk) rwas rthr) (wR cI cZ ad co fa ic me sw cn ab go cp so gr re db rclk rlim (nI rqd) (nI rpk) rwas rthr) (f_X6_hop r o co fa) := by
  refine MI.mk ⟨rfl, rfl⟩ (by decide +kernel) (Nat.le_of_ble_eq_true rfl) ?_
  intro p e s m below meth c A ls B hA hP hD hS hl
  have hx := B.1
  have hb := B.2.1
  have hts := B.2.2.2.2.2.1
  have hN := B.2.2.2.2.2.2.2.1
  have hK := B.2.2.2.2.2.2.2.2.1
  have hl : lv_has ls 7 [(0, .ref (ad 0)), (1, .int (nI r)), (2, .int (nI o))] := hl
  have hf := f_X6_hop.eq_1 r o co fa
  refine lv_iconst (v := -1) hx hb dX6_hop_0 (by decide) ?_
  refine lv_istore_n (lv' := [(3, .int (-1)), (0, .ref (ad 0)), (1, .int (nI r)), (2, .int (nI o))]) hx hb dX6_hop_1 rfl hl (by decide) rfl (fun ls hl => ?_)
  refine lv_aload_n hx hb dX6_hop_2 rfl (lv_at hl 1 rfl) ?_
  refine g_X6_17 B hP 0 rfl rfl dX6_hop_3 ?_
  refine lv_bipush (v := nI 10) hx hb dX6_hop_6 (by decide) ?_
  refine lv_iload_n hx hb dX6_hop_8 rfl (lv_at hl 2 rfl) ?_
  refine r_imul hx hb dX6_hop_9 ?_
  refine lv_iload_n hx hb dX6_hop_10 rfl (lv_at hl 3 rfl) ?_
  refine r_iadd hx hb dX6_hop_11 ?_
  refine r_iald hx hb hK hP 2 0 rfl rfl (by omega) (by decide) dX6_hop_12 ?_
  refine lv_istore (lv' := [(4, .int (fa ((10 * r) + o))), (3, .int (-1)), (0, .ref (ad 0)), (1, .int (nI r)), (2, .int (nI o))]) hx hb dX6_hop_13 hl (by decide) rfl (fun ls hl => ?_)
  refine lv_bipush (v := nI 9) hx hb dX6_hop_15 (by decide) ?_
  refine lv_istore (lv' := [(5, .int (nI 9)), (4, .int (fa ((10 * r) + o))), (3, .int (-1)), (0, .ref (ad 0)), (1, .int (nI r)), (2, .int (nI o))]) hx hb dX6_hop_17 hl (by decide) rfl (fun ls hl => ?_)
  have L19 : ∀ (n19 : Nat) (x3_19 : Int32), n19 ≤ 10 → f_X6_hop r o co fa = (f_X6_hop_L19 r o co fa n19 x3_19) → ∀ (H : Heap) (locs : List Loc), va_P D vwCl (wR cI cZ ad co fa ic me sw cn ab go cp so gr re db rclk rlim (nI rqd) (nI rpk) rwas rthr) H → va_D A (wR cI cZ ad co fa ic me sw cn ab go cp so gr re db rclk rlim (nI rqd) (nI rpk) rwas rthr) → va_S A s.heap H locs → ∀ ls : Array Slot, lv_has ls 7 [(0, .ref (ad 0)), (1, .int (nI r)), (2, .int (nI o)), (3, .int x3_19), (4, .int (fa ((10 * r) + o))), (5, .int (nI n19 + (-1)))] → W p l e { frames := 0, cells := 0, slots := 0, locals := 0 } s m [.ref (ad 0), .int (nI r), .int (nI o)].toArray below meth c H locs 0 0 (QI below s A D [.ref (ad 0), .int (nI r), .int (nI o)] (wR cI cZ ad co fa ic me sw cn ab go cp so gr re db rclk rlim (nI rqd) (nI rpk) rwas rthr) (f_X6_hop r o co fa)) (F0 m 19 ls []) := by
    intro n19
    induction n19 with
    | zero =>
      intro x3_19 hb19_0 hf H locs hP hD hS ls hl
      rw [f_X6_hop_L19] at hf
      have hl : lv_has ls 7 [(0, .ref (ad 0)), (1, .int (nI r)), (2, .int (nI o)), (3, .int x3_19), (4, .int (fa ((10 * r) + o))), (5, .int (-1))] := hl
      refine lv_iload hx hb dX6_hop_19 (lv_at hl 5 rfl) ?_
      refine lv_if_lt (tgt := 88) hx hb dX6_hop_21 (by decide) (fun _ => ?_) (fun c => absurd (by decide) c)
      refine lv_iload_n hx hb dX6_hop_88 rfl (lv_at hl 3 rfl) ?_
      exact eI B hP hS ((congrArg (fun (u : Int32) => u) hf).symm) rfl dX6_hop_89
    | succ n19 ih19 =>
      intro x3_19 hb19_0 hf H locs hP hD hS ls hl
      rw [f_X6_hop_L19] at hf
      rw [pk_m1] at hl
      have hl : lv_has ls 7 [(0, .ref (ad 0)), (1, .int (nI r)), (2, .int (nI o)), (3, .int x3_19), (4, .int (fa ((10 * r) + o))), (5, .int (nI n19))] := hl
      refine lv_iload hx hb dX6_hop_19 (lv_at hl 5 rfl) ?_
      refine r_if_lt (tgt := 88) hx hb (by omega) dX6_hop_21 (by decide) ?_
      refine lv_iload_n hx hb dX6_hop_24 rfl (lv_at hl 1 rfl) ?_
      refine lv_iload_n hx hb dX6_hop_25 rfl (lv_at hl 2 rfl) ?_
      refine r_icmp_eq (tgt := 88) hx hb (by omega) (by omega) dX6_hop_26 (by decide) (fun c10 => ?_) (fun c10 => ?_)
      · have hf := hf.trans (if_pos c10)
        refine lv_iload_n hx hb dX6_hop_88 rfl (lv_at hl 3 rfl) ?_
        exact eI B hP hS ((congrArg (fun (u : Int32) => u) hf).symm) rfl dX6_hop_89
      · have hf := hf.trans (if_neg c10)
        refine lv_iload hx hb dX6_hop_29 (lv_at hl 4 rfl) ?_
        refine lv_ldc (v := nI 1000000) hx hb B.2.2.2.2.1 (hts _ m_6_17) dX6_hop_31 ?_
        refine lv_icmp_ge (tgt := 88) hx hb dX6_hop_33 (by decide) (fun c11 => ?_) (fun c11 => ?_)
        · have hf := hf.trans (if_pos c11)
          refine lv_iload_n hx hb dX6_hop_88 rfl (lv_at hl 3 rfl) ?_
          exact eI B hP hS ((congrArg (fun (u : Int32) => u) hf).symm) rfl dX6_hop_89
        · have hf := hf.trans (if_neg c11)
          refine lv_aload_n hx hb dX6_hop_36 rfl (lv_at hl 0 rfl) ?_
          refine g_X6_13 B hP 0 rfl rfl dX6_hop_37 ?_
          refine lv_bipush (v := nI 10) hx hb dX6_hop_40 (by decide) ?_
          refine lv_iload_n hx hb dX6_hop_42 rfl (lv_at hl 1 rfl) ?_
          refine r_imul hx hb dX6_hop_43 ?_
          refine lv_iload hx hb dX6_hop_44 (lv_at hl 5 rfl) ?_
          refine r_iadd hx hb dX6_hop_46 ?_
          refine r_iald hx hb hK hP 1 0 rfl rfl (by omega) (by decide) dX6_hop_47 ?_
          refine lv_istore (lv' := [(6, .int (co ((10 * r) + n19))), (0, .ref (ad 0)), (1, .int (nI r)), (2, .int (nI o)), (3, .int x3_19), (4, .int (fa ((10 * r) + o))), (5, .int (nI n19))]) hx hb dX6_hop_48 hl (by decide) rfl (fun ls hl => ?_)
          refine lv_iload hx hb dX6_hop_50 (lv_at hl 0 rfl) ?_
          refine lv_if_le (tgt := 80) hx hb dX6_hop_52 (by decide) (fun c12 => ?_) (fun c12 => ?_)
          · have hf := hf.trans (if_pos c12)
            refine lv_iload_n hx hb dX6_hop_80 rfl (lv_at hl 4 rfl) ?_
            refine lv_istore_n (lv' := [(3, .int x3_19), (6, .int (co ((10 * r) + n19))), (0, .ref (ad 0)), (1, .int (nI r)), (2, .int (nI o)), (4, .int (fa ((10 * r) + o))), (5, .int (nI n19))]) hx hb dX6_hop_81 rfl hl (by decide) rfl (fun ls hl => ?_)
            refine lv_iinc (v := nI n19 + (-1)) (lv' := [(5, .int (nI n19 + (-1))), (3, .int x3_19), (6, .int (co ((10 * r) + n19))), (0, .ref (ad 0)), (1, .int (nI r)), (2, .int (nI o)), (4, .int (fa ((10 * r) + o)))]) hx hb dX6_hop_82 hl (k := 6) rfl rfl (by decide) rfl (fun ls hl => ?_)
            refine lv_goto (tgt := 19) hx hb dX6_hop_85 (by decide) ?_
            exact ih19 x3_19 (by omega) hf _ _ hP hD hS _ (lv_sub hl [3, 4, 5, 1, 6, 0] rfl)
          · have hf := hf.trans (if_neg c12)
            refine lv_iload hx hb dX6_hop_55 (lv_at hl 0 rfl) ?_
            refine lv_aload_n hx hb dX6_hop_57 rfl (lv_at hl 1 rfl) ?_
            refine g_X6_17 B hP 0 rfl rfl dX6_hop_58 ?_
            refine lv_bipush (v := nI 10) hx hb dX6_hop_61 (by decide) ?_
            refine lv_iload hx hb dX6_hop_63 (lv_at hl 6 rfl) ?_
            refine r_imul hx hb dX6_hop_65 ?_
            refine lv_iload_n hx hb dX6_hop_66 rfl (lv_at hl 3 rfl) ?_
            refine r_iadd hx hb dX6_hop_67 ?_
            refine r_iald hx hb hK hP 2 0 rfl rfl (by omega) (by decide) dX6_hop_68 ?_
            refine lv_iadd hx hb dX6_hop_69 ?_
            refine lv_iload hx hb dX6_hop_70 (lv_at hl 5 rfl) ?_
            refine lv_icmp_ne (tgt := 80) hx hb dX6_hop_72 (by decide) (fun c13 => ?_) (fun c13 => ?_)
            · have hf := hf.trans (if_neg c13)
              refine lv_iload_n hx hb dX6_hop_80 rfl (lv_at hl 4 rfl) ?_
              refine lv_istore_n (lv' := [(3, .int x3_19), (6, .int (co ((10 * r) + n19))), (0, .ref (ad 0)), (1, .int (nI r)), (2, .int (nI o)), (4, .int (fa ((10 * r) + o))), (5, .int (nI n19))]) hx hb dX6_hop_81 rfl hl (by decide) rfl (fun ls hl => ?_)
              refine lv_iinc (v := nI n19 + (-1)) (lv' := [(5, .int (nI n19 + (-1))), (3, .int x3_19), (6, .int (co ((10 * r) + n19))), (0, .ref (ad 0)), (1, .int (nI r)), (2, .int (nI o)), (4, .int (fa ((10 * r) + o)))]) hx hb dX6_hop_82 hl (k := 6) rfl rfl (by decide) rfl (fun ls hl => ?_)
              refine lv_goto (tgt := 19) hx hb dX6_hop_85 (by decide) ?_
              exact ih19 x3_19 (by omega) hf _ _ hP hD hS _ (lv_sub hl [3, 4, 5, 1, 6, 0] rfl)
            · have hf := hf.trans (if_pos c13)
              refine lv_iload hx hb dX6_hop_75 (lv_at hl 6 rfl) ?_
              refine lv_goto (tgt := 81) hx hb dX6_hop_77 (by decide) ?_
              refine lv_istore_n (lv' := [(3, .int (nI n19)), (6, .int (co ((10 * r) + n19))), (0, .ref (ad 0)), (1, .int (nI r)), (2, .int (nI o)), (4, .int (fa ((10 * r) + o))), (5, .int (nI n19))]) hx hb dX6_hop_81 rfl hl (by decide) rfl (fun ls hl => ?_)
              refine lv_iinc (v := nI n19 + (-1)) (lv' := [(5, .int (nI n19 + (-1))), (3, .int (nI n19)), (6, .int (co ((10 * r) + n19))), (0, .ref (ad 0)), (1, .int (nI r)), (2, .int (nI o)), (4, .int (fa ((10 * r) + o)))]) hx hb dX6_hop_82 hl (k := 6) rfl rfl (by decide) rfl (fun ls hl => ?_)
              refine lv_goto (tgt := 19) hx hb dX6_hop_85 (by decide) ?_
              exact ih19 (nI n19) (by omega) hf _ _ hP hD hS _ (lv_sub hl [3, 4, 5, 1, 6, 0] rfl)
  exact L19 10 (-1) (by omega) hf _ _ hP hD hS _ (lv_sub hl [3, 4, 5, 2, 1, 0] rfl)
theorem hop_okL (r o : Nat) (co fa : Nat → Int32) : ∀ (n : Nat) (x : Int32), n ≤ 10 → okA x → okA (f_X6_hop_L19 r o co fa n x) := by
  intro n
  induction n with
  | zero => intro x _ h; rw [f_X6_hop_L19]; exact h
  | succ n ih =>
    intro x hn h
    rw [f_X6_hop_L19]
    repeat' split
    all_goals first
      | exact h
      | exact ih _ (by omega) (okA_nI (by omega))
      | exact ih _ (by omega) h
theorem hop_ok (r o : Nat) (co fa : Nat → Int32) : okA (f_X6_hop r o co fa) := by
  unfold f_X6_hop
  exact hop_okL _ _ _ _ _ _ (by decide) okA_m1
def f_X6_meets_L7 (g : Nat) (ic : Nat → Int32) : Nat → Nat → Int32 → Int32 → Int32
  | 0, _, x2_7, x3_7 => x2_7
  | n7 + 1, k7, x2_7, x3_7 => if (ic k7) = 0 then f_X6_meets_L7 g ic n7 (k7 + 1) x2_7 x3_7 else if (nI ((((31 * g) + 17) * ((53 * k7) + 29)) % 997)) ≤ x3_7 then f_X6_meets_L7 g ic n7 (k7 + 1) x2_7 x3_7 else f_X6_meets_L7 g ic n7 (k7 + 1) (nI k7) (nI ((((31 * g) + 17) * ((53 * k7) + 29)) % 997))
def f_X6_meets (g : Nat) (ic : Nat → Int32) : Int32 :=
  f_X6_meets_L7 g ic 10 0 (-1) (-1)
set_option maxHeartbeats 4000000 in
set_option maxRecDepth 100000 in
theorem c_X6_meets (l : Launch) (D : va_G) (cI cZ : ClassId) (ad : Nat → Nat) (co fa ic me sw cn ab go cp so gr re db : Nat → Int32) (rclk : Int32) (rlim : Int32) (rqd : Nat) (rpk : Nat) (rwas : Int32) (rthr : Int32) (g : Nat) (hg : g < 4) : MI l yX6_meets cX6_meets 7 .int { frames := 0, cells := 0, slots := 0, locals := 0 } D (TY cI cZ) [.ref (ad 0), .int (nI g)] (wR cI cZ ad co fa ic me sw cn ab go cp so gr re db rclk rlim (nI rqd) (nI rpk) rwas rthr) (wR cI cZ ad co fa ic me sw cn ab go cp so gr re db rclk rlim (nI rqd) (nI rpk) rwas rthr) (f_X6_meets g ic) := by
  refine MI.mk ⟨rfl, rfl⟩ (by decide +kernel) (Nat.le_of_ble_eq_true rfl) ?_
  intro p e s m below meth c A ls B hA hP hD hS hl
  have hx := B.1
  have hb := B.2.1
  have hts := B.2.2.2.2.2.1
  have hN := B.2.2.2.2.2.2.2.1
  have hK := B.2.2.2.2.2.2.2.2.1
  have hl : lv_has ls 7 [(0, .ref (ad 0)), (1, .int (nI g))] := hl
  have hf := f_X6_meets.eq_1 g ic
  refine lv_iconst (v := -1) hx hb dX6_meets_0 (by decide) ?_
  refine lv_istore_n (lv' := [(2, .int (-1)), (0, .ref (ad 0)), (1, .int (nI g))]) hx hb dX6_meets_1 rfl hl (by decide) rfl (fun ls hl => ?_)
  refine lv_iconst (v := -1) hx hb dX6_meets_2 (by decide) ?_
  refine lv_istore_n (lv' := [(3, .int (-1)), (2, .int (-1)), (0, .ref (ad 0)), (1, .int (nI g))]) hx hb dX6_meets_3 rfl hl (by decide) rfl (fun ls hl => ?_)
  refine lv_iconst (v := nI 0) hx hb dX6_meets_4 (by decide) ?_
  refine lv_istore (lv' := [(4, .int (nI 0)), (3, .int (-1)), (2, .int (-1)), (0, .ref (ad 0)), (1, .int (nI g))]) hx hb dX6_meets_5 hl (by decide) rfl (fun ls hl => ?_)
  have L7 : ∀ (n7 : Nat) (k7 : Nat) (x2_7 : Int32) (x3_7 : Int32), k7 + n7 = 10 → f_X6_meets g ic = (f_X6_meets_L7 g ic n7 k7 x2_7 x3_7) → ∀ (H : Heap) (locs : List Loc), va_P D vwCl (wR cI cZ ad co fa ic me sw cn ab go cp so gr re db rclk rlim (nI rqd) (nI rpk) rwas rthr) H → va_D A (wR cI cZ ad co fa ic me sw cn ab go cp so gr re db rclk rlim (nI rqd) (nI rpk) rwas rthr) → va_S A s.heap H locs → ∀ ls : Array Slot, lv_has ls 7 [(0, .ref (ad 0)), (1, .int (nI g)), (2, .int x2_7), (3, .int x3_7), (4, .int (nI k7))] → W p l e { frames := 0, cells := 0, slots := 0, locals := 0 } s m [.ref (ad 0), .int (nI g)].toArray below meth c H locs 0 0 (QI below s A D [.ref (ad 0), .int (nI g)] (wR cI cZ ad co fa ic me sw cn ab go cp so gr re db rclk rlim (nI rqd) (nI rpk) rwas rthr) (f_X6_meets g ic)) (F0 m 7 ls []) := by
    intro n7
    induction n7 with
    | zero =>
      intro k7 x2_7 x3_7 hk7 hf H locs hP hD hS ls hl
      obtain rfl : 10 = k7 := by omega
      rw [f_X6_meets_L7] at hf
      have hl : lv_has ls 7 [(0, .ref (ad 0)), (1, .int (nI g)), (2, .int x2_7), (3, .int x3_7), (4, .int (nI 10))] := hl
      refine lv_iload hx hb dX6_meets_7 (lv_at hl 4 rfl) ?_
      refine lv_bipush (v := nI 10) hx hb dX6_meets_9 (by decide) ?_
      refine r_icmp_ge (tgt := 89) hx hb (by omega) (by omega) dX6_meets_11 (by decide) (fun _ => ?_) (fun c => absurd c (by omega))
      refine lv_iload_n hx hb dX6_meets_89 rfl (lv_at hl 2 rfl) ?_
      exact eI B hP hS ((congrArg (fun (u : Int32) => u) hf).symm) rfl dX6_meets_90
    | succ n7 ih7 =>
      intro k7 x2_7 x3_7 hk7 hf H locs hP hD hS ls hl
      rw [f_X6_meets_L7] at hf
      have hl : lv_has ls 7 [(0, .ref (ad 0)), (1, .int (nI g)), (2, .int x2_7), (3, .int x3_7), (4, .int (nI k7))] := hl
      refine lv_iload hx hb dX6_meets_7 (lv_at hl 4 rfl) ?_
      refine lv_bipush (v := nI 10) hx hb dX6_meets_9 (by decide) ?_
      refine r_icmp_ge (tgt := 89) hx hb (by omega) (by omega) dX6_meets_11 (by decide) (fun c => absurd c (by omega)) (fun _ => ?_)
      refine lv_bipush (v := nI 31) hx hb dX6_meets_14 (by decide) ?_
      refine lv_iload_n hx hb dX6_meets_16 rfl (lv_at hl 1 rfl) ?_
      refine r_imul hx hb dX6_meets_17 ?_
      refine lv_bipush (v := nI 17) hx hb dX6_meets_18 (by decide) ?_
      refine r_iadd hx hb dX6_meets_20 ?_
      refine lv_bipush (v := nI 53) hx hb dX6_meets_21 (by decide) ?_
      refine lv_iload hx hb dX6_meets_23 (lv_at hl 4 rfl) ?_
      refine r_imul hx hb dX6_meets_25 ?_
      refine lv_bipush (v := nI 29) hx hb dX6_meets_26 (by decide) ?_
      refine r_iadd hx hb dX6_meets_28 ?_
      refine r_imul hx hb dX6_meets_29 ?_
      refine lv_sipush (v := nI 997) hx hb dX6_meets_30 (by decide) ?_
      refine r_irem hx hb (Nat.lt_of_le_of_lt (Nat.mul_le_mul (show (31 * g) + 17 ≤ 110 by omega) (show (53 * k7) + 29 ≤ 506 by omega)) (by decide)) (by omega) (by omega) dX6_meets_33 ?_
      refine lv_istore (lv' := [(5, .int (nI ((((31 * g) + 17) * ((53 * k7) + 29)) % 997))), (0, .ref (ad 0)), (1, .int (nI g)), (2, .int x2_7), (3, .int x3_7), (4, .int (nI k7))]) hx hb dX6_meets_34 hl (by decide) rfl (fun ls hl => ?_)
      refine lv_aload_n hx hb dX6_meets_36 rfl (lv_at hl 1 rfl) ?_
      refine g_X6_20 B hP 0 rfl rfl dX6_meets_37 ?_
      refine lv_iload hx hb dX6_meets_40 (lv_at hl 5 rfl) ?_
      refine r_zald hx hb hK hP 3 1 rfl rfl (by omega) (by decide) dX6_meets_42 ?_
      refine lv_if_eq (tgt := 56) hx hb dX6_meets_43 (by decide) (fun c6 => ?_) (fun c6 => ?_)
      · have hf := hf.trans (if_pos c6)
        refine lv_iconst (v := nI 0) hx hb dX6_meets_56 (by decide) ?_
        refine lv_istore (lv' := [(6, .int (nI 0)), (5, .int (nI ((((31 * g) + 17) * ((53 * k7) + 29)) % 997))), (0, .ref (ad 0)), (1, .int (nI g)), (2, .int x2_7), (3, .int x3_7), (4, .int (nI k7))]) hx hb dX6_meets_57 hl (by decide) rfl (fun ls hl => ?_)
        refine lv_iload hx hb dX6_meets_59 (lv_at hl 0 rfl) ?_
        refine r_if_eq (tgt := 69) hx hb (by omega) dX6_meets_61 (by decide) (fun _ => ?_) (fun c => absurd c (by omega))
        refine lv_iload_n hx hb dX6_meets_69 rfl (lv_at hl 4 rfl) ?_
        refine lv_istore_n (lv' := [(2, .int x2_7), (6, .int (nI 0)), (5, .int (nI ((((31 * g) + 17) * ((53 * k7) + 29)) % 997))), (0, .ref (ad 0)), (1, .int (nI g)), (3, .int x3_7), (4, .int (nI k7))]) hx hb dX6_meets_70 rfl hl (by decide) rfl (fun ls hl => ?_)
        refine lv_iload hx hb dX6_meets_71 (lv_at hl 1 rfl) ?_
        refine r_if_eq (tgt := 81) hx hb (by omega) dX6_meets_73 (by decide) (fun _ => ?_) (fun c => absurd c (by omega))
        refine lv_iload_n hx hb dX6_meets_81 rfl (lv_at hl 5 rfl) ?_
        refine lv_istore_n (lv' := [(3, .int x3_7), (2, .int x2_7), (6, .int (nI 0)), (5, .int (nI ((((31 * g) + 17) * ((53 * k7) + 29)) % 997))), (0, .ref (ad 0)), (1, .int (nI g)), (4, .int (nI k7))]) hx hb dX6_meets_82 rfl hl (by decide) rfl (fun ls hl => ?_)
        refine lv_iinc (v := nI (k7 + 1)) (lv' := [(4, .int (nI (k7 + 1))), (3, .int x3_7), (2, .int x2_7), (6, .int (nI 0)), (5, .int (nI ((((31 * g) + 17) * ((53 * k7) + 29)) % 997))), (0, .ref (ad 0)), (1, .int (nI g))]) hx hb dX6_meets_83 hl (k := 6) rfl (nI_add _ _) (by decide) rfl (fun ls hl => ?_)
        refine lv_goto (tgt := 7) hx hb dX6_meets_86 (by decide) ?_
        exact ih7 (k7 + 1) x2_7 x3_7 (by omega) hf _ _ hP hD hS _ (lv_sub hl [5, 6, 2, 1, 0] rfl)
      · have hf := hf.trans (if_neg c6)
        refine lv_iload hx hb dX6_meets_46 (lv_at hl 0 rfl) ?_
        refine lv_iload_n hx hb dX6_meets_48 rfl (lv_at hl 4 rfl) ?_
        refine lv_icmp_le (tgt := 56) hx hb dX6_meets_49 (by decide) (fun c7 => ?_) (fun c7 => ?_)
        · have hf := hf.trans (if_pos c7)
          refine lv_iconst (v := nI 0) hx hb dX6_meets_56 (by decide) ?_
          refine lv_istore (lv' := [(6, .int (nI 0)), (5, .int (nI ((((31 * g) + 17) * ((53 * k7) + 29)) % 997))), (0, .ref (ad 0)), (1, .int (nI g)), (2, .int x2_7), (3, .int x3_7), (4, .int (nI k7))]) hx hb dX6_meets_57 hl (by decide) rfl (fun ls hl => ?_)
          refine lv_iload hx hb dX6_meets_59 (lv_at hl 0 rfl) ?_
          refine r_if_eq (tgt := 69) hx hb (by omega) dX6_meets_61 (by decide) (fun _ => ?_) (fun c => absurd c (by omega))
          refine lv_iload_n hx hb dX6_meets_69 rfl (lv_at hl 4 rfl) ?_
          refine lv_istore_n (lv' := [(2, .int x2_7), (6, .int (nI 0)), (5, .int (nI ((((31 * g) + 17) * ((53 * k7) + 29)) % 997))), (0, .ref (ad 0)), (1, .int (nI g)), (3, .int x3_7), (4, .int (nI k7))]) hx hb dX6_meets_70 rfl hl (by decide) rfl (fun ls hl => ?_)
          refine lv_iload hx hb dX6_meets_71 (lv_at hl 1 rfl) ?_
          refine r_if_eq (tgt := 81) hx hb (by omega) dX6_meets_73 (by decide) (fun _ => ?_) (fun c => absurd c (by omega))
          refine lv_iload_n hx hb dX6_meets_81 rfl (lv_at hl 5 rfl) ?_
          refine lv_istore_n (lv' := [(3, .int x3_7), (2, .int x2_7), (6, .int (nI 0)), (5, .int (nI ((((31 * g) + 17) * ((53 * k7) + 29)) % 997))), (0, .ref (ad 0)), (1, .int (nI g)), (4, .int (nI k7))]) hx hb dX6_meets_82 rfl hl (by decide) rfl (fun ls hl => ?_)
          refine lv_iinc (v := nI (k7 + 1)) (lv' := [(4, .int (nI (k7 + 1))), (3, .int x3_7), (2, .int x2_7), (6, .int (nI 0)), (5, .int (nI ((((31 * g) + 17) * ((53 * k7) + 29)) % 997))), (0, .ref (ad 0)), (1, .int (nI g))]) hx hb dX6_meets_83 hl (k := 6) rfl (nI_add _ _) (by decide) rfl (fun ls hl => ?_)
          refine lv_goto (tgt := 7) hx hb dX6_meets_86 (by decide) ?_
          exact ih7 (k7 + 1) x2_7 x3_7 (by omega) hf _ _ hP hD hS _ (lv_sub hl [5, 6, 2, 1, 0] rfl)
        · have hf := hf.trans (if_neg c7)
          refine lv_iconst (v := nI 1) hx hb dX6_meets_52 (by decide) ?_
          refine lv_goto (tgt := 57) hx hb dX6_meets_53 (by decide) ?_
          refine lv_istore (lv' := [(6, .int (nI 1)), (5, .int (nI ((((31 * g) + 17) * ((53 * k7) + 29)) % 997))), (0, .ref (ad 0)), (1, .int (nI g)), (2, .int x2_7), (3, .int x3_7), (4, .int (nI k7))]) hx hb dX6_meets_57 hl (by decide) rfl (fun ls hl => ?_)
          refine lv_iload hx hb dX6_meets_59 (lv_at hl 0 rfl) ?_
          refine r_if_eq (tgt := 69) hx hb (by omega) dX6_meets_61 (by decide) (fun c => absurd c (by omega)) (fun _ => ?_)
          refine lv_iload hx hb dX6_meets_64 (lv_at hl 6 rfl) ?_
          refine lv_goto (tgt := 70) hx hb dX6_meets_66 (by decide) ?_
          refine lv_istore_n (lv' := [(2, .int (nI k7)), (6, .int (nI 1)), (5, .int (nI ((((31 * g) + 17) * ((53 * k7) + 29)) % 997))), (0, .ref (ad 0)), (1, .int (nI g)), (3, .int x3_7), (4, .int (nI k7))]) hx hb dX6_meets_70 rfl hl (by decide) rfl (fun ls hl => ?_)
          refine lv_iload hx hb dX6_meets_71 (lv_at hl 1 rfl) ?_
          refine r_if_eq (tgt := 81) hx hb (by omega) dX6_meets_73 (by decide) (fun c => absurd c (by omega)) (fun _ => ?_)
          refine lv_iload hx hb dX6_meets_76 (lv_at hl 2 rfl) ?_
          refine lv_goto (tgt := 82) hx hb dX6_meets_78 (by decide) ?_
          refine lv_istore_n (lv' := [(3, .int (nI ((((31 * g) + 17) * ((53 * k7) + 29)) % 997))), (2, .int (nI k7)), (6, .int (nI 1)), (5, .int (nI ((((31 * g) + 17) * ((53 * k7) + 29)) % 997))), (0, .ref (ad 0)), (1, .int (nI g)), (4, .int (nI k7))]) hx hb dX6_meets_82 rfl hl (by decide) rfl (fun ls hl => ?_)
          refine lv_iinc (v := nI (k7 + 1)) (lv' := [(4, .int (nI (k7 + 1))), (3, .int (nI ((((31 * g) + 17) * ((53 * k7) + 29)) % 997))), (2, .int (nI k7)), (6, .int (nI 1)), (5, .int (nI ((((31 * g) + 17) * ((53 * k7) + 29)) % 997))), (0, .ref (ad 0)), (1, .int (nI g))]) hx hb dX6_meets_83 hl (k := 6) rfl (nI_add _ _) (by decide) rfl (fun ls hl => ?_)
          refine lv_goto (tgt := 7) hx hb dX6_meets_86 (by decide) ?_
          exact ih7 (k7 + 1) (nI k7) (nI ((((31 * g) + 17) * ((53 * k7) + 29)) % 997)) (by omega) hf _ _ hP hD hS _ (lv_sub hl [5, 6, 2, 1, 0] rfl)
  exact L7 10 0 (-1) (-1) (by omega) hf _ _ hP hD hS _ (lv_sub hl [3, 4, 2, 1, 0] rfl)
def f_X6_root (t : Nat) (ic : Nat → Int32) : Int32 :=
  if (t % 11) = 10 then f_X6_meets (t / 11) ic else nI (t % 11)
set_option maxHeartbeats 4000000 in
set_option maxRecDepth 100000 in
theorem c_X6_root (l : Launch) (D : va_G) (cI cZ : ClassId) (ad : Nat → Nat) (co fa ic me sw cn ab go cp so gr re db : Nat → Int32) (rclk : Int32) (rlim : Int32) (rqd : Nat) (rpk : Nat) (rwas : Int32) (rthr : Int32) (t : Nat) (ht : t < 44) : MI l yX6_root cX6_root 2 .int { frames := 1, cells := 0, slots := 0, locals := 26 } D (TY cI cZ) [.ref (ad 0), .int (nI t)] (wR cI cZ ad co fa ic me sw cn ab go cp so gr re db rclk rlim (nI rqd) (nI rpk) rwas rthr) (wR cI cZ ad co fa ic me sw cn ab go cp so gr re db rclk rlim (nI rqd) (nI rpk) rwas rthr) (f_X6_root t ic) := by
  refine MI.mk ⟨rfl, rfl⟩ (by decide +kernel) (Nat.le_of_ble_eq_true rfl) ?_
  intro p e s m below meth c A ls B hA hP hD hS hl
  have hx := B.1
  have hb := B.2.1
  have hts := B.2.2.2.2.2.1
  have hN := B.2.2.2.2.2.2.2.1
  have hK := B.2.2.2.2.2.2.2.2.1
  have hl : lv_has ls 2 [(0, .ref (ad 0)), (1, .int (nI t))] := hl
  have hf := f_X6_root.eq_1 t ic
  refine lv_iload_n hx hb dX6_root_0 rfl (lv_at hl 1 rfl) ?_
  refine lv_bipush (v := nI 11) hx hb dX6_root_1 (by decide) ?_
  refine r_irem hx hb (by omega) (by omega) (by omega) dX6_root_3 ?_
  refine lv_bipush (v := nI 10) hx hb dX6_root_4 (by decide) ?_
  refine r_icmp_ne (tgt := 20) hx hb (by omega) (by omega) dX6_root_6 (by decide) (fun c1 => ?_) (fun c1 => ?_)
  · have hf := hf.trans (if_neg c1)
    refine lv_iload_n hx hb dX6_root_20 rfl (lv_at hl 1 rfl) ?_
    refine lv_bipush (v := nI 11) hx hb dX6_root_21 (by decide) ?_
    refine r_irem hx hb (by omega) (by omega) (by omega) dX6_root_23 ?_
    exact eI B hP hS ((congrArg (fun (u : Int32) => u) hf).symm) rfl dX6_root_24
  · have hf := hf.trans (if_pos c1)
    refine lv_aload_n hx hb dX6_root_9 rfl (lv_at hl 0 rfl) ?_
    refine lv_iload_n hx hb dX6_root_10 rfl (lv_at hl 1 rfl) ?_
    refine lv_bipush (v := nI 11) hx hb dX6_root_11 (by decide) ?_
    refine r_idiv hx hb (by omega) (by omega) (by omega) dX6_root_13 ?_
    refine fV_i (ci := 6) (as := [.int (nI (t / 11))]) (rest := []) B hl.1 (c_X6_meets l D cI cZ ad co fa ic me sw cn ab go cp so gr re db rclk rlim rqd rpk rwas rthr (t / 11) (by omega)) rfl (l_RX6_61 hts ⟨rfl, rfl⟩ ⟨Nat.le_of_ble_eq_true rfl, Nat.le_of_ble_eq_true rfl⟩) m_9_22 m_9_23 rfl rfl hP hD hS hA 0 rfl wfR (Nat.le_of_ble_eq_true rfl) dX6_root_14 (fun H locs hP hD hS => ?_)
    refine lv_goto (tgt := 24) hx hb dX6_root_17 (by decide) ?_
    exact eI B hP hS ((congrArg (fun (u : Int32) => u) hf).symm) rfl dX6_root_24
theorem meets_okL (g : Nat) (ic : Nat → Int32) : ∀ (n k : Nat) (x y : Int32), k + n = 10 → okA x → okA (f_X6_meets_L7 g ic n k x y) := by
  intro n
  induction n with
  | zero => intro k x y _ h; rw [f_X6_meets_L7]; exact h
  | succ n ih =>
    intro k x y hk h
    rw [f_X6_meets_L7]
    repeat' split
    all_goals first
      | exact ih _ _ _ (by omega) (okA_nI (by omega))
      | exact ih _ _ _ (by omega) h
theorem meets_ok (g : Nat) (ic : Nat → Int32) : okA (f_X6_meets g ic) := by
  unfold f_X6_meets
  exact meets_okL _ _ _ _ _ _ (by decide) okA_m1
theorem root_ok (t : Nat) (ic : Nat → Int32) : okA (f_X6_root t ic) := by
  unfold f_X6_root
  split
  · exact meets_ok _ _
  · rename_i h; exact okA_nI (by omega)
def f_X6_wants (t : Nat) (r : Nat) (me : Nat → Int32) (sw : Nat → Int32) : Bool :=
  if (t % 11) = 10 then (if (((me (t / 11)) >>> ((nI r) &&& 31)) &&& (nI 1)) = (nI 1) then true else false) else if (((sw ((10 * (t / 11)) + (t % 11))) >>> ((nI r) &&& 31)) &&& (nI 1)) = (nI 1) then true else false
set_option maxHeartbeats 4000000 in
set_option maxRecDepth 100000 in
theorem c_X6_wants (l : Launch) (D : va_G) (cI cZ : ClassId) (ad : Nat → Nat) (co fa ic me sw cn ab go cp so gr re db : Nat → Int32) (rclk : Int32) (rlim : Int32) (rqd : Nat) (rpk : Nat) (rwas : Int32) (rthr : Int32) (t : Nat) (r : Nat) (ht : t < 44) (hr : r < 10) : MI l yX6_wants cX6_wants 4 .boolean { frames := 0, cells := 0, slots := 0, locals := 0 } D (TY cI cZ) [.ref (ad 0), .int (nI t), .int (nI r)] (wR cI cZ ad co fa ic me sw cn ab go cp so gr re db rclk rlim (nI rqd) (nI rpk) rwas rthr) (wR cI cZ ad co fa ic me sw cn ab go cp so gr re db rclk rlim (nI rqd) (nI rpk) rwas rthr) (bI (f_X6_wants t r me sw)) := by
  refine MI.mk ⟨rfl, rfl⟩ (by decide +kernel) (Nat.le_of_ble_eq_true rfl) ?_
  intro p e s m below meth c A ls B hA hP hD hS hl
  have hx := B.1
  have hb := B.2.1
  have hts := B.2.2.2.2.2.1
  have hN := B.2.2.2.2.2.2.2.1
  have hK := B.2.2.2.2.2.2.2.2.1
  have hl : lv_has ls 4 [(0, .ref (ad 0)), (1, .int (nI t)), (2, .int (nI r))] := hl
  have hf := f_X6_wants.eq_1 t r me sw
  refine lv_iload_n hx hb dX6_wants_0 rfl (lv_at hl 1 rfl) ?_
  refine lv_bipush (v := nI 11) hx hb dX6_wants_1 (by decide) ?_
  refine r_irem hx hb (by omega) (by omega) (by omega) dX6_wants_3 ?_
  refine lv_bipush (v := nI 10) hx hb dX6_wants_4 (by decide) ?_
  refine r_icmp_ne (tgt := 21) hx hb (by omega) (by omega) dX6_wants_6 (by decide) (fun c1 => ?_) (fun c1 => ?_)
  · have hf := hf.trans (if_neg c1)
    refine lv_aload_n hx hb dX6_wants_21 rfl (lv_at hl 0 rfl) ?_
    refine g_X6_27 B hP 0 rfl rfl dX6_wants_22 ?_
    refine lv_bipush (v := nI 10) hx hb dX6_wants_25 (by decide) ?_
    refine lv_iload_n hx hb dX6_wants_27 rfl (lv_at hl 1 rfl) ?_
    refine lv_bipush (v := nI 11) hx hb dX6_wants_28 (by decide) ?_
    refine r_idiv hx hb (by omega) (by omega) (by omega) dX6_wants_30 ?_
    refine r_imul hx hb dX6_wants_31 ?_
    refine lv_iload_n hx hb dX6_wants_32 rfl (lv_at hl 1 rfl) ?_
    refine lv_bipush (v := nI 11) hx hb dX6_wants_33 (by decide) ?_
    refine r_irem hx hb (by omega) (by omega) (by omega) dX6_wants_35 ?_
    refine r_iadd hx hb dX6_wants_36 ?_
    refine r_iald hx hb hK hP 5 0 rfl rfl (by omega) (by decide) dX6_wants_37 ?_
    refine lv_istore_n (lv' := [(3, .int (sw ((10 * (t / 11)) + (t % 11)))), (0, .ref (ad 0)), (1, .int (nI t)), (2, .int (nI r))]) hx hb dX6_wants_38 rfl hl (by decide) rfl (fun ls hl => ?_)
    refine lv_iload_n hx hb dX6_wants_39 rfl (lv_at hl 0 rfl) ?_
    refine lv_iload_n hx hb dX6_wants_40 rfl (lv_at hl 3 rfl) ?_
    refine lv_ishr hx hb dX6_wants_41 ?_
    refine lv_iconst (v := nI 1) hx hb dX6_wants_42 (by decide) ?_
    refine lv_iand hx hb dX6_wants_43 ?_
    refine lv_iconst (v := nI 1) hx hb dX6_wants_44 (by decide) ?_
    refine lv_icmp_ne (tgt := 52) hx hb dX6_wants_45 (by decide) (fun c3 => ?_) (fun c3 => ?_)
    · have hf := hf.trans (if_neg c3)
      refine lv_iconst (v := nI 0) hx hb dX6_wants_52 (by decide) ?_
      exact eZ B hP hS (by decide) ((congrArg (fun (u : Bool) => bI u) hf).symm) rfl dX6_wants_53
    · have hf := hf.trans (if_pos c3)
      refine lv_iconst (v := nI 1) hx hb dX6_wants_48 (by decide) ?_
      refine lv_goto (tgt := 53) hx hb dX6_wants_49 (by decide) ?_
      exact eZ B hP hS (by decide) ((congrArg (fun (u : Bool) => bI u) hf).symm) rfl dX6_wants_53
  · have hf := hf.trans (if_pos c1)
    refine lv_aload_n hx hb dX6_wants_9 rfl (lv_at hl 0 rfl) ?_
    refine g_X6_24 B hP 0 rfl rfl dX6_wants_10 ?_
    refine lv_iload_n hx hb dX6_wants_13 rfl (lv_at hl 1 rfl) ?_
    refine lv_bipush (v := nI 11) hx hb dX6_wants_14 (by decide) ?_
    refine r_idiv hx hb (by omega) (by omega) (by omega) dX6_wants_16 ?_
    refine r_iald hx hb hK hP 4 0 rfl rfl (by omega) (by decide) dX6_wants_17 ?_
    refine lv_goto (tgt := 38) hx hb dX6_wants_18 (by decide) ?_
    refine lv_istore_n (lv' := [(3, .int (me (t / 11))), (0, .ref (ad 0)), (1, .int (nI t)), (2, .int (nI r))]) hx hb dX6_wants_38 rfl hl (by decide) rfl (fun ls hl => ?_)
    refine lv_iload_n hx hb dX6_wants_39 rfl (lv_at hl 0 rfl) ?_
    refine lv_iload_n hx hb dX6_wants_40 rfl (lv_at hl 3 rfl) ?_
    refine lv_ishr hx hb dX6_wants_41 ?_
    refine lv_iconst (v := nI 1) hx hb dX6_wants_42 (by decide) ?_
    refine lv_iand hx hb dX6_wants_43 ?_
    refine lv_iconst (v := nI 1) hx hb dX6_wants_44 (by decide) ?_
    refine lv_icmp_ne (tgt := 52) hx hb dX6_wants_45 (by decide) (fun c2 => ?_) (fun c2 => ?_)
    · have hf := hf.trans (if_neg c2)
      refine lv_iconst (v := nI 0) hx hb dX6_wants_52 (by decide) ?_
      exact eZ B hP hS (by decide) ((congrArg (fun (u : Bool) => bI u) hf).symm) rfl dX6_wants_53
    · have hf := hf.trans (if_pos c2)
      refine lv_iconst (v := nI 1) hx hb dX6_wants_48 (by decide) ?_
      refine lv_goto (tgt := 53) hx hb dX6_wants_49 (by decide) ?_
      exact eZ B hP hS (by decide) ((congrArg (fun (u : Bool) => bI u) hf).symm) rfl dX6_wants_53
def f_X6_below_L5 (t : Nat) (r : Nat) (ab : Nat → Int32) : Nat → Nat → Int32 → Int32
  | 0, _, x3_5 => x3_5
  | n5 + 1, k5, x3_5 => if (ab ((10 * t) + k5)) = (nI r) then f_X6_below_L5 t r ab n5 (k5 + 1) (x3_5 ||| ((nI 1) <<< ((nI k5) &&& 31))) else f_X6_below_L5 t r ab n5 (k5 + 1) (x3_5 ||| (nI 0))
def f_X6_below (t : Nat) (r : Nat) (ab : Nat → Int32) : Int32 :=
  f_X6_below_L5 t r ab 10 0 (nI 0)
set_option maxHeartbeats 4000000 in
set_option maxRecDepth 100000 in
theorem c_X6_below (l : Launch) (D : va_G) (cI cZ : ClassId) (ad : Nat → Nat) (co fa ic me sw cn ab go cp so gr re db : Nat → Int32) (rclk : Int32) (rlim : Int32) (rqd : Nat) (rpk : Nat) (rwas : Int32) (rthr : Int32) (t : Nat) (r : Nat) (ht : t < 44) (hr : r < 10) : MI l yX6_below cX6_below 5 .int { frames := 0, cells := 0, slots := 0, locals := 0 } D (TY cI cZ) [.ref (ad 0), .int (nI t), .int (nI r)] (wR cI cZ ad co fa ic me sw cn ab go cp so gr re db rclk rlim (nI rqd) (nI rpk) rwas rthr) (wR cI cZ ad co fa ic me sw cn ab go cp so gr re db rclk rlim (nI rqd) (nI rpk) rwas rthr) (f_X6_below t r ab) := by
  refine MI.mk ⟨rfl, rfl⟩ (by decide +kernel) (Nat.le_of_ble_eq_true rfl) ?_
  intro p e s m below meth c A ls B hA hP hD hS hl
  have hx := B.1
  have hb := B.2.1
  have hts := B.2.2.2.2.2.1
  have hN := B.2.2.2.2.2.2.2.1
  have hK := B.2.2.2.2.2.2.2.2.1
  have hl : lv_has ls 5 [(0, .ref (ad 0)), (1, .int (nI t)), (2, .int (nI r))] := hl
  have hf := f_X6_below.eq_1 t r ab
  refine lv_iconst (v := nI 0) hx hb dX6_below_0 (by decide) ?_
  refine lv_istore_n (lv' := [(3, .int (nI 0)), (0, .ref (ad 0)), (1, .int (nI t)), (2, .int (nI r))]) hx hb dX6_below_1 rfl hl (by decide) rfl (fun ls hl => ?_)
  refine lv_iconst (v := nI 0) hx hb dX6_below_2 (by decide) ?_
  refine lv_istore (lv' := [(4, .int (nI 0)), (3, .int (nI 0)), (0, .ref (ad 0)), (1, .int (nI t)), (2, .int (nI r))]) hx hb dX6_below_3 hl (by decide) rfl (fun ls hl => ?_)
  have L5 : ∀ (n5 : Nat) (k5 : Nat) (x3_5 : Int32), k5 + n5 = 10 → f_X6_below t r ab = (f_X6_below_L5 t r ab n5 k5 x3_5) → ∀ (H : Heap) (locs : List Loc), va_P D vwCl (wR cI cZ ad co fa ic me sw cn ab go cp so gr re db rclk rlim (nI rqd) (nI rpk) rwas rthr) H → va_D A (wR cI cZ ad co fa ic me sw cn ab go cp so gr re db rclk rlim (nI rqd) (nI rpk) rwas rthr) → va_S A s.heap H locs → ∀ ls : Array Slot, lv_has ls 5 [(0, .ref (ad 0)), (1, .int (nI t)), (2, .int (nI r)), (3, .int x3_5), (4, .int (nI k5))] → W p l e { frames := 0, cells := 0, slots := 0, locals := 0 } s m [.ref (ad 0), .int (nI t), .int (nI r)].toArray below meth c H locs 0 0 (QI below s A D [.ref (ad 0), .int (nI t), .int (nI r)] (wR cI cZ ad co fa ic me sw cn ab go cp so gr re db rclk rlim (nI rqd) (nI rpk) rwas rthr) (f_X6_below t r ab)) (F0 m 5 ls []) := by
    intro n5
    induction n5 with
    | zero =>
      intro k5 x3_5 hk5 hf H locs hP hD hS ls hl
      obtain rfl : 10 = k5 := by omega
      rw [f_X6_below_L5] at hf
      have hl : lv_has ls 5 [(0, .ref (ad 0)), (1, .int (nI t)), (2, .int (nI r)), (3, .int x3_5), (4, .int (nI 10))] := hl
      refine lv_iload hx hb dX6_below_5 (lv_at hl 4 rfl) ?_
      refine lv_bipush (v := nI 10) hx hb dX6_below_7 (by decide) ?_
      refine r_icmp_ge (tgt := 45) hx hb (by omega) (by omega) dX6_below_9 (by decide) (fun _ => ?_) (fun c => absurd c (by omega))
      refine lv_iload_n hx hb dX6_below_45 rfl (lv_at hl 3 rfl) ?_
      exact eI B hP hS ((congrArg (fun (u : Int32) => u) hf).symm) rfl dX6_below_46
    | succ n5 ih5 =>
      intro k5 x3_5 hk5 hf H locs hP hD hS ls hl
      rw [f_X6_below_L5] at hf
      have hl : lv_has ls 5 [(0, .ref (ad 0)), (1, .int (nI t)), (2, .int (nI r)), (3, .int x3_5), (4, .int (nI k5))] := hl
      refine lv_iload hx hb dX6_below_5 (lv_at hl 4 rfl) ?_
      refine lv_bipush (v := nI 10) hx hb dX6_below_7 (by decide) ?_
      refine r_icmp_ge (tgt := 45) hx hb (by omega) (by omega) dX6_below_9 (by decide) (fun c => absurd c (by omega)) (fun _ => ?_)
      refine lv_iload_n hx hb dX6_below_12 rfl (lv_at hl 3 rfl) ?_
      refine lv_aload_n hx hb dX6_below_13 rfl (lv_at hl 0 rfl) ?_
      refine g_X6_33 B hP 0 rfl rfl dX6_below_14 ?_
      refine lv_bipush (v := nI 10) hx hb dX6_below_17 (by decide) ?_
      refine lv_iload_n hx hb dX6_below_19 rfl (lv_at hl 1 rfl) ?_
      refine r_imul hx hb dX6_below_20 ?_
      refine lv_iload hx hb dX6_below_21 (lv_at hl 4 rfl) ?_
      refine r_iadd hx hb dX6_below_23 ?_
      refine r_iald hx hb hK hP 7 0 rfl rfl (by omega) (by decide) dX6_below_24 ?_
      refine lv_iload_n hx hb dX6_below_25 rfl (lv_at hl 2 rfl) ?_
      refine lv_icmp_ne (tgt := 36) hx hb dX6_below_26 (by decide) (fun c4 => ?_) (fun c4 => ?_)
      · have hf := hf.trans (if_neg c4)
        refine lv_iconst (v := nI 0) hx hb dX6_below_36 (by decide) ?_
        refine lv_ior hx hb dX6_below_37 ?_
        refine lv_istore_n (lv' := [(3, .int (x3_5 ||| (nI 0))), (0, .ref (ad 0)), (1, .int (nI t)), (2, .int (nI r)), (4, .int (nI k5))]) hx hb dX6_below_38 rfl hl (by decide) rfl (fun ls hl => ?_)
        refine lv_iinc (v := nI (k5 + 1)) (lv' := [(4, .int (nI (k5 + 1))), (3, .int (x3_5 ||| (nI 0))), (0, .ref (ad 0)), (1, .int (nI t)), (2, .int (nI r))]) hx hb dX6_below_39 hl (k := 4) rfl (nI_add _ _) (by decide) rfl (fun ls hl => ?_)
        refine lv_goto (tgt := 5) hx hb dX6_below_42 (by decide) ?_
        exact ih5 (k5 + 1) (x3_5 ||| (nI 0)) (by omega) hf _ _ hP hD hS _ (lv_sub hl [2, 3, 4, 1, 0] rfl)
      · have hf := hf.trans (if_pos c4)
        refine lv_iconst (v := nI 1) hx hb dX6_below_29 (by decide) ?_
        refine lv_iload hx hb dX6_below_30 (lv_at hl 4 rfl) ?_
        refine lv_ishl hx hb dX6_below_32 ?_
        refine lv_goto (tgt := 37) hx hb dX6_below_33 (by decide) ?_
        refine lv_ior hx hb dX6_below_37 ?_
        refine lv_istore_n (lv' := [(3, .int (x3_5 ||| ((nI 1) <<< ((nI k5) &&& 31)))), (0, .ref (ad 0)), (1, .int (nI t)), (2, .int (nI r)), (4, .int (nI k5))]) hx hb dX6_below_38 rfl hl (by decide) rfl (fun ls hl => ?_)
        refine lv_iinc (v := nI (k5 + 1)) (lv' := [(4, .int (nI (k5 + 1))), (3, .int (x3_5 ||| ((nI 1) <<< ((nI k5) &&& 31)))), (0, .ref (ad 0)), (1, .int (nI t)), (2, .int (nI r))]) hx hb dX6_below_39 hl (k := 4) rfl (nI_add _ _) (by decide) rfl (fun ls hl => ?_)
        refine lv_goto (tgt := 5) hx hb dX6_below_42 (by decide) ?_
        exact ih5 (k5 + 1) (x3_5 ||| ((nI 1) <<< ((nI k5) &&& 31))) (by omega) hf _ _ hP hD hS _ (lv_sub hl [2, 3, 4, 1, 0] rfl)
  exact L5 10 0 (nI 0) (by omega) hf _ _ hP hD hS _ (lv_sub hl [2, 3, 4, 1, 0] rfl)
def f_X6_looks (t : Nat) (r : Nat) (me : Nat → Int32) (sw : Nat → Int32) (ab : Nat → Int32) (go : Nat → Int32) (rclk : Int32) : (Nat → Int32) :=
  if (ab ((10 * t) + r)) = (-1) then go else if (go ((10 * t) + r)) = (-1) then (if (f_X6_wants t r me sw) = true then go else if (f_X6_below t r ab) = 0 then upd go ((10 * t) + r) (rclk + (nI 3)) else go) else go
set_option maxHeartbeats 4000000 in
set_option maxRecDepth 100000 in
theorem c_X6_looks (l : Launch) (D : va_G) (cI cZ : ClassId) (ad : Nat → Nat) (co fa ic me sw cn ab go cp so gr re db : Nat → Int32) (rclk : Int32) (rlim : Int32) (rqd : Nat) (rpk : Nat) (rwas : Int32) (rthr : Int32) (t : Nat) (r : Nat) (ht : t < 44) (hr : r < 10) : MV l yX6_looks cX6_looks 4 { frames := 1, cells := 0, slots := 0, locals := 24 } D (TY cI cZ) [.ref (ad 0), .int (nI t), .int (nI r)] (wR cI cZ ad co fa ic me sw cn ab go cp so gr re db rclk rlim (nI rqd) (nI rpk) rwas rthr) (wR cI cZ ad co fa ic me sw cn ab (f_X6_looks t r me sw ab go rclk) cp so gr re db rclk rlim (nI rqd) (nI rpk) rwas rthr) := by
  refine MV.mk ⟨rfl, rfl⟩ (by decide +kernel) (Nat.le_of_ble_eq_true rfl) ?_
  intro p e s m below meth c A ls B hA hP hD hS hl
  have hx := B.1
  have hb := B.2.1
  have hts := B.2.2.2.2.2.1
  have hN := B.2.2.2.2.2.2.2.1
  have hK := B.2.2.2.2.2.2.2.2.1
  have hl : lv_has ls 4 [(0, .ref (ad 0)), (1, .int (nI t)), (2, .int (nI r))] := hl
  have hf := f_X6_looks.eq_1 t r me sw ab go rclk
  refine lv_bipush (v := nI 10) hx hb dX6_looks_0 (by decide) ?_
  refine lv_iload_n hx hb dX6_looks_2 rfl (lv_at hl 1 rfl) ?_
  refine r_imul hx hb dX6_looks_3 ?_
  refine lv_iload_n hx hb dX6_looks_4 rfl (lv_at hl 2 rfl) ?_
  refine r_iadd hx hb dX6_looks_5 ?_
  refine lv_istore_n (lv' := [(3, .int (nI ((10 * t) + r))), (0, .ref (ad 0)), (1, .int (nI t)), (2, .int (nI r))]) hx hb dX6_looks_6 rfl hl (by decide) rfl (fun ls hl => ?_)
  refine lv_aload_n hx hb dX6_looks_7 rfl (lv_at hl 1 rfl) ?_
  refine g_X6_33 B hP 0 rfl rfl dX6_looks_8 ?_
  refine lv_iload_n hx hb dX6_looks_11 rfl (lv_at hl 0 rfl) ?_
  refine r_iald hx hb hK hP 7 0 rfl rfl (by omega) (by decide) dX6_looks_12 ?_
  refine lv_iconst (v := -1) hx hb dX6_looks_13 (by decide) ?_
  refine lv_icmp_eq (tgt := 57) hx hb dX6_looks_14 (by decide) (fun c1 => ?_) (fun c1 => ?_)
  · have hf := hf.trans (if_pos c1)
    exact eV B hP hS ((congrArg (fun (u : (Nat → Int32)) => wR cI cZ ad co fa ic me sw cn ab u cp so gr re db rclk rlim (nI rqd) (nI rpk) rwas rthr) hf).symm) dX6_looks_57
  · have hf := hf.trans (if_neg c1)
    refine lv_aload_n hx hb dX6_looks_17 rfl (lv_at hl 1 rfl) ?_
    refine g_X6_36 B hP 0 rfl rfl dX6_looks_18 ?_
    refine lv_iload_n hx hb dX6_looks_21 rfl (lv_at hl 0 rfl) ?_
    refine r_iald hx hb hK hP 8 0 rfl rfl (by omega) (by decide) dX6_looks_22 ?_
    refine lv_iconst (v := -1) hx hb dX6_looks_23 (by decide) ?_
    refine lv_icmp_ne (tgt := 57) hx hb dX6_looks_24 (by decide) (fun c2 => ?_) (fun c2 => ?_)
    · have hf := hf.trans (if_neg c2)
      exact eV B hP hS ((congrArg (fun (u : (Nat → Int32)) => wR cI cZ ad co fa ic me sw cn ab u cp so gr re db rclk rlim (nI rqd) (nI rpk) rwas rthr) hf).symm) dX6_looks_57
    · have hf := hf.trans (if_pos c2)
      refine lv_aload_n hx hb dX6_looks_27 rfl (lv_at hl 1 rfl) ?_
      refine lv_iload_n hx hb dX6_looks_28 rfl (lv_at hl 2 rfl) ?_
      refine lv_iload_n hx hb dX6_looks_29 rfl (lv_at hl 3 rfl) ?_
      refine fV_i (ci := 6) (as := [.int (nI t), .int (nI r)]) (rest := []) B hl.1 (c_X6_wants l D cI cZ ad co fa ic me sw cn ab go cp so gr re db rclk rlim rqd rpk rwas rthr t r (by omega) (by omega)) rfl (l_RX6_72 hts ⟨rfl, rfl⟩ ⟨Nat.le_of_ble_eq_true rfl, Nat.le_of_ble_eq_true rfl⟩) m_9_10 m_9_11 rfl rfl hP hD hS hA 0 rfl wfR (Nat.le_of_ble_eq_true rfl) dX6_looks_30 (fun H locs hP hD hS => ?_)
      refine r_if_ne_b (tgt := 57) hx hb dX6_looks_33 (by decide) (fun c3 => ?_) (fun c3 => ?_)
      · have hf := hf.trans (if_pos c3)
        exact eV B hP hS ((congrArg (fun (u : (Nat → Int32)) => wR cI cZ ad co fa ic me sw cn ab u cp so gr re db rclk rlim (nI rqd) (nI rpk) rwas rthr) hf).symm) dX6_looks_57
      · have hf := hf.trans (if_neg c3)
        refine lv_aload_n hx hb dX6_looks_36 rfl (lv_at hl 1 rfl) ?_
        refine lv_iload_n hx hb dX6_looks_37 rfl (lv_at hl 2 rfl) ?_
        refine lv_iload_n hx hb dX6_looks_38 rfl (lv_at hl 3 rfl) ?_
        refine fV_i (ci := 6) (as := [.int (nI t), .int (nI r)]) (rest := []) B hl.1 (c_X6_below l D cI cZ ad co fa ic me sw cn ab go cp so gr re db rclk rlim rqd rpk rwas rthr t r (by omega) (by omega)) rfl (l_RX6_76 hts ⟨rfl, rfl⟩ ⟨Nat.le_of_ble_eq_true rfl, Nat.le_of_ble_eq_true rfl⟩) m_17_5 m_17_6 rfl rfl hP hD hS hA 0 rfl wfR (Nat.le_of_ble_eq_true rfl) dX6_looks_39 (fun H locs hP hD hS => ?_)
        refine lv_if_ne (tgt := 57) hx hb dX6_looks_42 (by decide) (fun c4 => ?_) (fun c4 => ?_)
        · have hf := hf.trans (if_neg c4)
          exact eV B hP hS ((congrArg (fun (u : (Nat → Int32)) => wR cI cZ ad co fa ic me sw cn ab u cp so gr re db rclk rlim (nI rqd) (nI rpk) rwas rthr) hf).symm) dX6_looks_57
        · have hf := hf.trans (if_pos c4)
          refine lv_aload_n hx hb dX6_looks_45 rfl (lv_at hl 1 rfl) ?_
          refine g_X6_36 B hP 0 rfl rfl dX6_looks_46 ?_
          refine lv_iload_n hx hb dX6_looks_49 rfl (lv_at hl 0 rfl) ?_
          refine lv_aload_n hx hb dX6_looks_50 rfl (lv_at hl 1 rfl) ?_
          refine g_X6_79 B hP 0 rfl rfl dX6_looks_51 ?_
          refine lv_iconst (v := nI 3) hx hb dX6_looks_54 (by decide) ?_
          refine lv_iadd hx hb dX6_looks_55 ?_
          refine r_iast hx hb hK hP hD hS 8 0 rfl rfl (by omega) (by decide) dX6_looks_56 (fun H locs hP hD hS => ?_)
          have hP : va_P D vwCl (wR cI cZ ad co fa ic me sw cn ab (upd go ((10 * t) + r) (rclk + (nI 3))) cp so gr re db rclk rlim (nI rqd) (nI rpk) rwas rthr) H := hP
          have hD : va_D A (wR cI cZ ad co fa ic me sw cn ab (upd go ((10 * t) + r) (rclk + (nI 3))) cp so gr re db rclk rlim (nI rqd) (nI rpk) rwas rthr) := hD
          exact eV B hP hS ((congrArg (fun (u : (Nat → Int32)) => wR cI cZ ad co fa ic me sw cn ab u cp so gr re db rclk rlim (nI rqd) (nI rpk) rwas rthr) hf).symm) dX6_looks_57
def f_X6_many_L4 (x : Int32) : Nat → Nat → Int32 → Int32
  | 0, _, x1_4 => x1_4
  | n4 + 1, k4, x1_4 => f_X6_many_L4 x n4 (k4 + 1) (x1_4 + ((x >>> ((nI k4) &&& 31)) &&& (nI 1)))
def f_X6_many (x : Int32) : Int32 :=
  f_X6_many_L4 x 10 0 (nI 0)
set_option maxHeartbeats 4000000 in
set_option maxRecDepth 100000 in
theorem c_X6_many (l : Launch) (D : va_G) (cI cZ : ClassId) (ws : va_W) (x : Int32) : MI l yX6_many cX6_many 3 .int { frames := 0, cells := 0, slots := 0, locals := 0 } D (TY cI cZ) [.int x] (ws) (ws) (f_X6_many x) := by
  refine MI.mk ⟨rfl, rfl⟩ (by decide +kernel) (Nat.le_of_ble_eq_true rfl) ?_
  intro p e s m below meth c A ls B hA hP hD hS hl
  have hx := B.1
  have hb := B.2.1
  have hts := B.2.2.2.2.2.1
  have hN := B.2.2.2.2.2.2.2.1
  have hK := B.2.2.2.2.2.2.2.2.1
  have hl : lv_has ls 3 [(0, .int x)] := hl
  have hf := f_X6_many.eq_1 x
  refine lv_iconst (v := nI 0) hx hb dX6_many_0 (by decide) ?_
  refine lv_istore_n (lv' := [(1, .int (nI 0)), (0, .int x)]) hx hb dX6_many_1 rfl hl (by decide) rfl (fun ls hl => ?_)
  refine lv_iconst (v := nI 0) hx hb dX6_many_2 (by decide) ?_
  refine lv_istore_n (lv' := [(2, .int (nI 0)), (1, .int (nI 0)), (0, .int x)]) hx hb dX6_many_3 rfl hl (by decide) rfl (fun ls hl => ?_)
  have L4 : ∀ (n4 : Nat) (k4 : Nat) (x1_4 : Int32), k4 + n4 = 10 → f_X6_many x = (f_X6_many_L4 x n4 k4 x1_4) → ∀ (H : Heap) (locs : List Loc), va_P D vwCl (ws) H → va_D A (ws) → va_S A s.heap H locs → ∀ ls : Array Slot, lv_has ls 3 [(0, .int x), (1, .int x1_4), (2, .int (nI k4))] → W p l e { frames := 0, cells := 0, slots := 0, locals := 0 } s m [.int x].toArray below meth c H locs 0 0 (QI below s A D [.int x] (ws) (f_X6_many x)) (F0 m 4 ls []) := by
    intro n4
    induction n4 with
    | zero =>
      intro k4 x1_4 hk4 hf H locs hP hD hS ls hl
      obtain rfl : 10 = k4 := by omega
      rw [f_X6_many_L4] at hf
      have hl : lv_has ls 3 [(0, .int x), (1, .int x1_4), (2, .int (nI 10))] := hl
      refine lv_iload_n hx hb dX6_many_4 rfl (lv_at hl 2 rfl) ?_
      refine lv_bipush (v := nI 10) hx hb dX6_many_5 (by decide) ?_
      refine r_icmp_ge (tgt := 24) hx hb (by omega) (by omega) dX6_many_7 (by decide) (fun _ => ?_) (fun c => absurd c (by omega))
      refine lv_iload_n hx hb dX6_many_24 rfl (lv_at hl 1 rfl) ?_
      exact eI B hP hS ((congrArg (fun (u : Int32) => u) hf).symm) rfl dX6_many_25
    | succ n4 ih4 =>
      intro k4 x1_4 hk4 hf H locs hP hD hS ls hl
      rw [f_X6_many_L4] at hf
      have hl : lv_has ls 3 [(0, .int x), (1, .int x1_4), (2, .int (nI k4))] := hl
      refine lv_iload_n hx hb dX6_many_4 rfl (lv_at hl 2 rfl) ?_
      refine lv_bipush (v := nI 10) hx hb dX6_many_5 (by decide) ?_
      refine r_icmp_ge (tgt := 24) hx hb (by omega) (by omega) dX6_many_7 (by decide) (fun c => absurd c (by omega)) (fun _ => ?_)
      refine lv_iload_n hx hb dX6_many_10 rfl (lv_at hl 1 rfl) ?_
      refine lv_iload_n hx hb dX6_many_11 rfl (lv_at hl 0 rfl) ?_
      refine lv_iload_n hx hb dX6_many_12 rfl (lv_at hl 2 rfl) ?_
      refine lv_ishr hx hb dX6_many_13 ?_
      refine lv_iconst (v := nI 1) hx hb dX6_many_14 (by decide) ?_
      refine lv_iand hx hb dX6_many_15 ?_
      refine lv_iadd hx hb dX6_many_16 ?_
      refine lv_istore_n (lv' := [(1, .int (x1_4 + ((x >>> ((nI k4) &&& 31)) &&& (nI 1)))), (0, .int x), (2, .int (nI k4))]) hx hb dX6_many_17 rfl hl (by decide) rfl (fun ls hl => ?_)
      refine lv_iinc (v := nI (k4 + 1)) (lv' := [(2, .int (nI (k4 + 1))), (1, .int (x1_4 + ((x >>> ((nI k4) &&& 31)) &&& (nI 1)))), (0, .int x)]) hx hb dX6_many_18 hl (k := 2) rfl (nI_add _ _) (by decide) rfl (fun ls hl => ?_)
      refine lv_goto (tgt := 4) hx hb dX6_many_21 (by decide) ?_
      exact ih4 (k4 + 1) (x1_4 + ((x >>> ((nI k4) &&& 31)) &&& (nI 1))) (by omega) hf _ _ hP hD hS _ (lv_sub hl [2, 1, 0] rfl)
  exact L4 10 0 (nI 0) (by omega) hf _ _ hP hD hS _ (lv_sub hl [2, 1, 0] rfl)
def f_X6_isMember (r : Nat) (g : Nat) (me : Nat → Int32) : Bool :=
  if (((me g) >>> ((nI r) &&& 31)) &&& (nI 1)) = (nI 1) then true else false
set_option maxHeartbeats 4000000 in
set_option maxRecDepth 100000 in
theorem c_X6_isMember (l : Launch) (D : va_G) (cI cZ : ClassId) (ad : Nat → Nat) (co fa ic me sw cn ab go cp so gr re db : Nat → Int32) (rclk : Int32) (rlim : Int32) (rqd : Nat) (rpk : Nat) (rwas : Int32) (rthr : Int32) (r : Nat) (g : Nat) (hr : r < 10) (hg : g < 4) : MI l yX6_isMember cX6_isMember 3 .boolean { frames := 0, cells := 0, slots := 0, locals := 0 } D (TY cI cZ) [.ref (ad 0), .int (nI r), .int (nI g)] (wR cI cZ ad co fa ic me sw cn ab go cp so gr re db rclk rlim (nI rqd) (nI rpk) rwas rthr) (wR cI cZ ad co fa ic me sw cn ab go cp so gr re db rclk rlim (nI rqd) (nI rpk) rwas rthr) (bI (f_X6_isMember r g me)) := by
  refine MI.mk ⟨rfl, rfl⟩ (by decide +kernel) (Nat.le_of_ble_eq_true rfl) ?_
  intro p e s m below meth c A ls B hA hP hD hS hl
  have hx := B.1
  have hb := B.2.1
  have hts := B.2.2.2.2.2.1
  have hN := B.2.2.2.2.2.2.2.1
  have hK := B.2.2.2.2.2.2.2.2.1
  have hl : lv_has ls 3 [(0, .ref (ad 0)), (1, .int (nI r)), (2, .int (nI g))] := hl
  have hf := f_X6_isMember.eq_1 r g me
  refine lv_aload_n hx hb dX6_isMember_0 rfl (lv_at hl 0 rfl) ?_
  refine g_X6_24 B hP 0 rfl rfl dX6_isMember_1 ?_
  refine lv_iload_n hx hb dX6_isMember_4 rfl (lv_at hl 2 rfl) ?_
  refine r_iald hx hb hK hP 4 0 rfl rfl (by omega) (by decide) dX6_isMember_5 ?_
  refine lv_iload_n hx hb dX6_isMember_6 rfl (lv_at hl 1 rfl) ?_
  refine lv_ishr hx hb dX6_isMember_7 ?_
  refine lv_iconst (v := nI 1) hx hb dX6_isMember_8 (by decide) ?_
  refine lv_iand hx hb dX6_isMember_9 ?_
  refine lv_iconst (v := nI 1) hx hb dX6_isMember_10 (by decide) ?_
  refine lv_icmp_ne (tgt := 18) hx hb dX6_isMember_11 (by decide) (fun c1 => ?_) (fun c1 => ?_)
  · have hf := hf.trans (if_neg c1)
    refine lv_iconst (v := nI 0) hx hb dX6_isMember_18 (by decide) ?_
    exact eZ B hP hS (by decide) ((congrArg (fun (u : Bool) => bI u) hf).symm) rfl dX6_isMember_19
  · have hf := hf.trans (if_pos c1)
    refine lv_iconst (v := nI 1) hx hb dX6_isMember_14 (by decide) ?_
    refine lv_goto (tgt := 19) hx hb dX6_isMember_15 (by decide) ?_
    exact eZ B hP hS (by decide) ((congrArg (fun (u : Bool) => bI u) hf).symm) rfl dX6_isMember_19
