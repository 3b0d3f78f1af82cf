def f_X6_buildsAnew_L39 (co : Nat → Int32) (fa : Nat → Int32) (ic : Nat → Int32) (me : Nat → Int32) (sw : Nat → Int32) (k31 : Nat) : Nat → Nat → (Nat → Int32) → (Nat → Int32) → (Nat → Int32) × (Nat → Int32)
  | 0, _, ab_39, go_39 => (ab_39, go_39)
  | n39 + 1, k39, ab_39, go_39 => if (f_X6_wants k31 k39 me sw) = true then f_X6_buildsAnew_L39 co fa ic me sw k31 n39 (k39 + 1) ((f_X6_graft k31 k39 co fa ic ab_39 go_39).1) ((f_X6_graft k31 k39 co fa ic ab_39 go_39).2) else f_X6_buildsAnew_L39 co fa ic me sw k31 n39 (k39 + 1) ab_39 go_39
def f_X6_buildsAnew_L31 (co : Nat → Int32) (fa : Nat → Int32) (ic : Nat → Int32) (me : Nat → Int32) (sw : Nat → Int32) : Nat → Nat → (Nat → Int32) → (Nat → Int32) → (Nat → Int32) × (Nat → Int32)
  | 0, _, ab_31, go_31 => (ab_31, go_31)
  | n31 + 1, k31, ab_31, go_31 => f_X6_buildsAnew_L31 co fa ic me sw n31 (k31 + 1) ((f_X6_buildsAnew_L39 co fa ic me sw k31 10 0 ab_31 go_31).1) ((f_X6_buildsAnew_L39 co fa ic me sw k31 10 0 ab_31 go_31).2)
def f_X6_buildsAnew_L2 (co : Nat → Int32) (fa : Nat → Int32) (ic : Nat → Int32) (me : Nat → Int32) (sw : Nat → Int32) : Nat → Nat → (Nat → Int32) → (Nat → Int32) → (Nat → Int32) × (Nat → Int32)
  | 0, _, ab_2, go_2 => f_X6_buildsAnew_L31 co fa ic me sw 44 0 ab_2 go_2
  | n2 + 1, k2, ab_2, go_2 => f_X6_buildsAnew_L2 co fa ic me sw n2 (k2 + 1) (upd ab_2 k2 (-1)) (upd go_2 k2 (-1))
def f_X6_buildsAnew (co : Nat → Int32) (fa : Nat → Int32) (ic : Nat → Int32) (me : Nat → Int32) (sw : Nat → Int32) (ab : Nat → Int32) (go : Nat → Int32) : (Nat → Int32) × (Nat → Int32) :=
  f_X6_buildsAnew_L2 co fa ic me sw 440 0 ab go
set_option maxHeartbeats 4000000 in
set_option maxRecDepth 100000 in
theorem c_X6_buildsAnew (l : Launch) (D : va_G) (cI cZ : ClassId) (ad : Nat → Nat) (co fa ic me sw cn ab go cp so gr re db : Nat → Int32) (rclk : Int32) (rlim : Int32) (rqd : Nat) (rpk : Nat) (rwas : Int32) (rthr : Int32) (hHE : HEnd co fa ic) : MV l yX6_buildsAnew cX6_buildsAnew 3 { frames := 3, cells := 0, slots := 0, locals := 73 } D (TY cI cZ) [.ref (ad 0)] (wR cI cZ ad co fa ic me sw cn ab go cp so gr re db rclk rlim (nI rqd) (nI rpk) rwas rthr) (wR cI cZ ad co fa ic me sw cn ((f_X6_buildsAnew co fa ic me sw ab go).1) ((f_X6_buildsAnew co fa ic me sw ab go).2) cp so gr re db rclk rlim (nI rqd) (nI rpk) rwas rthr) := by
  refine MV.mk ⟨rfl, rfl⟩ (by decide +kernel) (Nat.le_of_ble_eq_true rfl) ?_
  intro p e s m below meth c A ls B hA hP hD hS hl
  have hx := B.1
  have hb := B.2.1
  have hts := B.2.2.2.2.2.1
  have hN := B.2.2.2.2.2.2.2.1
  have hK := B.2.2.2.2.2.2.2.2.1
  have hl : lv_has ls 3 [(0, .ref (ad 0))] := hl
  have hf := f_X6_buildsAnew.eq_1 co fa ic me sw ab go
  refine lv_iconst (v := nI 0) hx hb dX6_buildsAnew_0 (by decide) ?_
  refine lv_istore_n (lv' := [(1, .int (nI 0)), (0, .ref (ad 0))]) hx hb dX6_buildsAnew_1 rfl hl (by decide) rfl (fun ls hl => ?_)
  have L2 : ∀ (n2 : Nat) (k2 : Nat) (ab_2 : Nat → Int32) (go_2 : Nat → Int32), k2 + n2 = 440 → f_X6_buildsAnew co fa ic me sw ab go = (f_X6_buildsAnew_L2 co fa ic me sw n2 k2 ab_2 go_2) → ∀ (H : Heap) (locs : List Loc), va_P D vwCl (wR cI cZ ad co fa ic me sw cn ab_2 go_2 cp so gr re db rclk rlim (nI rqd) (nI rpk) rwas rthr) H → va_D A (wR cI cZ ad co fa ic me sw cn ab_2 go_2 cp so gr re db rclk rlim (nI rqd) (nI rpk) rwas rthr) → va_S A s.heap H locs → ∀ ls : Array Slot, lv_has ls 3 [(0, .ref (ad 0)), (1, .int (nI k2))] → W p l e { frames := 3, cells := 0, slots := 0, locals := 73 } s m [.ref (ad 0)].toArray below meth c H locs 0 0 (QV below s A D [.ref (ad 0)] (wR cI cZ ad co fa ic me sw cn ((f_X6_buildsAnew co fa ic me sw ab go).1) ((f_X6_buildsAnew co fa ic me sw ab go).2) cp so gr re db rclk rlim (nI rqd) (nI rpk) rwas rthr)) (F0 m 2 ls []) := by
    intro n2
    induction n2 with
    | zero =>
      intro k2 ab_2 go_2 hk2 hf H locs hP hD hS ls hl
      obtain rfl : 440 = k2 := by omega
      rw [f_X6_buildsAnew_L2] at hf
      have hl : lv_has ls 3 [(0, .ref (ad 0)), (1, .int (nI 440))] := hl
      refine lv_iload_n hx hb dX6_buildsAnew_2 rfl (lv_at hl 1 rfl) ?_
      refine lv_sipush (v := nI 440) hx hb dX6_buildsAnew_3 (by decide) ?_
      refine r_icmp_ge (tgt := 29) hx hb (by omega) (by omega) dX6_buildsAnew_6 (by decide) (fun _ => ?_) (fun c => absurd c (by omega))
      refine lv_iconst (v := nI 0) hx hb dX6_buildsAnew_29 (by decide) ?_
      refine lv_istore_n (lv' := [(1, .int (nI 0)), (0, .ref (ad 0))]) hx hb dX6_buildsAnew_30 rfl hl (by decide) rfl (fun ls hl => ?_)
      have L31 : ∀ (n31 : Nat) (k31 : Nat) (ab_31 : Nat → Int32) (go_31 : Nat → Int32), k31 + n31 = 44 → f_X6_buildsAnew co fa ic me sw ab go = (f_X6_buildsAnew_L31 co fa ic me sw n31 k31 ab_31 go_31) → ∀ (H : Heap) (locs : List Loc), va_P D vwCl (wR cI cZ ad co fa ic me sw cn ab_31 go_31 cp so gr re db rclk rlim (nI rqd) (nI rpk) rwas rthr) H → va_D A (wR cI cZ ad co fa ic me sw cn ab_31 go_31 cp so gr re db rclk rlim (nI rqd) (nI rpk) rwas rthr) → va_S A s.heap H locs → ∀ ls : Array Slot, lv_has ls 3 [(0, .ref (ad 0)), (1, .int (nI k31))] → W p l e { frames := 3, cells := 0, slots := 0, locals := 73 } s m [.ref (ad 0)].toArray below meth c H locs 0 0 (QV below s A D [.ref (ad 0)] (wR cI cZ ad co fa ic me sw cn ((f_X6_buildsAnew co fa ic me sw ab go).1) ((f_X6_buildsAnew co fa ic me sw ab go).2) cp so gr re db rclk rlim (nI rqd) (nI rpk) rwas rthr)) (F0 m 31 ls []) := by
        intro n31
        induction n31 with
        | zero =>
          intro k31 ab_31 go_31 hk31 hf H locs hP hD hS ls hl
          obtain rfl : 44 = k31 := by omega
          rw [f_X6_buildsAnew_L31] at hf
          have hl : lv_has ls 3 [(0, .ref (ad 0)), (1, .int (nI 44))] := hl
          refine lv_iload_n hx hb dX6_buildsAnew_31 rfl (lv_at hl 1 rfl) ?_
          refine lv_bipush (v := nI 44) hx hb dX6_buildsAnew_32 (by decide) ?_
          refine r_icmp_ge (tgt := 72) hx hb (by omega) (by omega) dX6_buildsAnew_34 (by decide) (fun _ => ?_) (fun c => absurd c (by omega))
          exact eV B hP hS (by simp only [hf]) dX6_buildsAnew_72
        | succ n31 ih31 =>
          intro k31 ab_31 go_31 hk31 hf H locs hP hD hS ls hl
          rw [f_X6_buildsAnew_L31] at hf
          have hl : lv_has ls 3 [(0, .ref (ad 0)), (1, .int (nI k31))] := hl
          refine lv_iload_n hx hb dX6_buildsAnew_31 rfl (lv_at hl 1 rfl) ?_
          refine lv_bipush (v := nI 44) hx hb dX6_buildsAnew_32 (by decide) ?_
          refine r_icmp_ge (tgt := 72) hx hb (by omega) (by omega) dX6_buildsAnew_34 (by decide) (fun c => absurd c (by omega)) (fun _ => ?_)
          refine lv_iconst (v := nI 0) hx hb dX6_buildsAnew_37 (by decide) ?_
          refine lv_istore_n (lv' := [(2, .int (nI 0)), (0, .ref (ad 0)), (1, .int (nI k31))]) hx hb dX6_buildsAnew_38 rfl hl (by decide) rfl (fun ls hl => ?_)
          have L39 : ∀ (n39 : Nat) (k39 : Nat) (ab_39 : Nat → Int32) (go_39 : Nat → Int32), k39 + n39 = 10 → f_X6_buildsAnew co fa ic me sw ab go = (f_X6_buildsAnew_L31 co fa ic me sw n31 (k31 + 1) ((f_X6_buildsAnew_L39 co fa ic me sw k31 n39 k39 ab_39 go_39).1) ((f_X6_buildsAnew_L39 co fa ic me sw k31 n39 k39 ab_39 go_39).2)) → ∀ (H : Heap) (locs : List Loc), va_P D vwCl (wR cI cZ ad co fa ic me sw cn ab_39 go_39 cp so gr re db rclk rlim (nI rqd) (nI rpk) rwas rthr) H → va_D A (wR cI cZ ad co fa ic me sw cn ab_39 go_39 cp so gr re db rclk rlim (nI rqd) (nI rpk) rwas rthr) → va_S A s.heap H locs → ∀ ls : Array Slot, lv_has ls 3 [(0, .ref (ad 0)), (1, .int (nI k31)), (2, .int (nI k39))] → W p l e { frames := 3, cells := 0, slots := 0, locals := 73 } s m [.ref (ad 0)].toArray below meth c H locs 0 0 (QV below s A D [.ref (ad 0)] (wR cI cZ ad co fa ic me sw cn ((f_X6_buildsAnew co fa ic me sw ab go).1) ((f_X6_buildsAnew co fa ic me sw ab go).2) cp so gr re db rclk rlim (nI rqd) (nI rpk) rwas rthr)) (F0 m 39 ls []) := by
            intro n39
            induction n39 with
            | zero =>
              intro k39 ab_39 go_39 hk39 hf H locs hP hD hS ls hl
              obtain rfl : 10 = k39 := by omega
              rw [f_X6_buildsAnew_L39] at hf
              dsimp only at hf
              have hl : lv_has ls 3 [(0, .ref (ad 0)), (1, .int (nI k31)), (2, .int (nI 10))] := hl
              refine lv_iload_n hx hb dX6_buildsAnew_39 rfl (lv_at hl 2 rfl) ?_
              refine lv_bipush (v := nI 10) hx hb dX6_buildsAnew_40 (by decide) ?_
              refine r_icmp_ge (tgt := 66) hx hb (by omega) (by omega) dX6_buildsAnew_42 (by decide) (fun _ => ?_) (fun c => absurd c (by omega))
              refine lv_iinc (v := nI (k31 + 1)) (lv' := [(1, .int (nI (k31 + 1))), (0, .ref (ad 0)), (2, .int (nI 10))]) hx hb dX6_buildsAnew_66 hl (k := 1) rfl (nI_add _ _) (by decide) rfl (fun ls hl => ?_)
              refine lv_goto (tgt := 31) hx hb dX6_buildsAnew_69 (by decide) ?_
              exact ih31 (k31 + 1) ab_39 go_39 (by omega) hf _ _ hP hD hS _ (lv_sub hl [1, 0] rfl)
            | succ n39 ih39 =>
              intro k39 ab_39 go_39 hk39 hf H locs hP hD hS ls hl
              rw [f_X6_buildsAnew_L39] at hf
              have hl : lv_has ls 3 [(0, .ref (ad 0)), (1, .int (nI k31)), (2, .int (nI k39))] := hl
              refine lv_iload_n hx hb dX6_buildsAnew_39 rfl (lv_at hl 2 rfl) ?_
              refine lv_bipush (v := nI 10) hx hb dX6_buildsAnew_40 (by decide) ?_
              refine r_icmp_ge (tgt := 66) hx hb (by omega) (by omega) dX6_buildsAnew_42 (by decide) (fun c => absurd c (by omega)) (fun _ => ?_)
              refine lv_aload_n hx hb dX6_buildsAnew_45 rfl (lv_at hl 0 rfl) ?_
              refine lv_iload_n hx hb dX6_buildsAnew_46 rfl (lv_at hl 1 rfl) ?_
              refine lv_iload_n hx hb dX6_buildsAnew_47 rfl (lv_at hl 2 rfl) ?_
              refine fV_i (ci := 6) (as := [.int (nI k31), .int (nI k39)]) (rest := []) B hl.1 (c_X6_wants l D cI cZ ad co fa ic me sw cn ab_39 go_39 cp so gr re db rclk rlim rqd rpk rwas rthr k31 k39 (by omega) (by omega)) rfl (l_RX6_72 hts ⟨rfl, rfl⟩ ⟨Nat.le_of_ble_eq_true rfl, Nat.le_of_ble_eq_true rfl⟩) m_9_10 m_9_11 rfl rfl hP hD hS hA 0 rfl wfR (Nat.le_of_ble_eq_true rfl) dX6_buildsAnew_48 (fun H locs hP hD hS => ?_)
              refine r_if_eq_b (tgt := 60) hx hb dX6_buildsAnew_51 (by decide) (fun c14 => ?_) (fun c14 => ?_)
              · rw [if_neg c14] at hf
                refine lv_iinc (v := nI (k39 + 1)) (lv' := [(2, .int (nI (k39 + 1))), (0, .ref (ad 0)), (1, .int (nI k31))]) hx hb dX6_buildsAnew_60 hl (k := 2) rfl (nI_add _ _) (by decide) rfl (fun ls hl => ?_)
                refine lv_goto (tgt := 39) hx hb dX6_buildsAnew_63 (by decide) ?_
                exact ih39 (k39 + 1) ab_39 go_39 (by omega) hf _ _ hP hD hS _ (lv_sub hl [1, 2, 0] rfl)
              · rw [if_pos c14] at hf
                refine lv_aload_n hx hb dX6_buildsAnew_54 rfl (lv_at hl 0 rfl) ?_
                refine lv_iload_n hx hb dX6_buildsAnew_55 rfl (lv_at hl 1 rfl) ?_
                refine lv_iload_n hx hb dX6_buildsAnew_56 rfl (lv_at hl 2 rfl) ?_
                refine fV_v (ci := 6) (as := [.int (nI k31), .int (nI k39)]) (rest := []) B hl.1 (c_X6_graft l D cI cZ ad co fa ic me sw cn ab_39 go_39 cp so gr re db rclk rlim rqd rpk rwas rthr k31 k39 (by omega) (by omega) hHE) rfl (l_RX6_82 hts ⟨rfl, rfl⟩ ⟨Nat.le_of_ble_eq_true rfl, Nat.le_of_ble_eq_true rfl⟩) m_9_14 m_9_15 rfl rfl hP hD hS hA 0 rfl wfR (Nat.le_of_ble_eq_true rfl) dX6_buildsAnew_57 (fun H locs hP hD hS => ?_)
                refine lv_iinc (v := nI (k39 + 1)) (lv' := [(2, .int (nI (k39 + 1))), (0, .ref (ad 0)), (1, .int (nI k31))]) hx hb dX6_buildsAnew_60 hl (k := 2) rfl (nI_add _ _) (by decide) rfl (fun ls hl => ?_)
                refine lv_goto (tgt := 39) hx hb dX6_buildsAnew_63 (by decide) ?_
                exact ih39 (k39 + 1) ((f_X6_graft k31 k39 co fa ic ab_39 go_39).1) ((f_X6_graft k31 k39 co fa ic ab_39 go_39).2) (by omega) hf _ _ hP hD hS _ (lv_sub hl [1, 2, 0] rfl)
          exact L39 10 0 ab_31 go_31 (by omega) hf _ _ hP hD hS _ (lv_sub hl [1, 2, 0] rfl)
      exact L31 44 0 ab_2 go_2 (by omega) hf _ _ hP hD hS _ (lv_sub hl [1, 0] rfl)
    | succ n2 ih2 =>
      intro k2 ab_2 go_2 hk2 hf H locs hP hD hS ls hl
      rw [f_X6_buildsAnew_L2] at hf
      have hl : lv_has ls 3 [(0, .ref (ad 0)), (1, .int (nI k2))] := hl
      refine lv_iload_n hx hb dX6_buildsAnew_2 rfl (lv_at hl 1 rfl) ?_
      refine lv_sipush (v := nI 440) hx hb dX6_buildsAnew_3 (by decide) ?_
      refine r_icmp_ge (tgt := 29) hx hb (by omega) (by omega) dX6_buildsAnew_6 (by decide) (fun c => absurd c (by omega)) (fun _ => ?_)
      refine lv_aload_n hx hb dX6_buildsAnew_9 rfl (lv_at hl 0 rfl) ?_
      refine g_X6_33 B hP 0 rfl rfl dX6_buildsAnew_10 ?_
      refine lv_iload_n hx hb dX6_buildsAnew_13 rfl (lv_at hl 1 rfl) ?_
      refine lv_iconst (v := -1) hx hb dX6_buildsAnew_14 (by decide) ?_
      refine r_iast hx hb hK hP hD hS 7 0 rfl rfl (by omega) (by decide) dX6_buildsAnew_15 (fun H locs hP hD hS => ?_)
      have hP : va_P D vwCl (wR cI cZ ad co fa ic me sw cn (upd ab_2 k2 (-1)) go_2 cp so gr re db rclk rlim (nI rqd) (nI rpk) rwas rthr) H := hP
      have hD : va_D A (wR cI cZ ad co fa ic me sw cn (upd ab_2 k2 (-1)) go_2 cp so gr re db rclk rlim (nI rqd) (nI rpk) rwas rthr) := hD
      refine lv_aload_n hx hb dX6_buildsAnew_16 rfl (lv_at hl 0 rfl) ?_
      refine g_X6_36 B hP 0 rfl rfl dX6_buildsAnew_17 ?_
      refine lv_iload_n hx hb dX6_buildsAnew_20 rfl (lv_at hl 1 rfl) ?_
      refine lv_iconst (v := -1) hx hb dX6_buildsAnew_21 (by decide) ?_
      refine r_iast hx hb hK hP hD hS 8 0 rfl rfl (by omega) (by decide) dX6_buildsAnew_22 (fun H locs hP hD hS => ?_)
      have hP : va_P D vwCl (wR cI cZ ad co fa ic me sw cn (upd ab_2 k2 (-1)) (upd go_2 k2 (-1)) cp so gr re db rclk rlim (nI rqd) (nI rpk) rwas rthr) H := hP
      have hD : va_D A (wR cI cZ ad co fa ic me sw cn (upd ab_2 k2 (-1)) (upd go_2 k2 (-1)) cp so gr re db rclk rlim (nI rqd) (nI rpk) rwas rthr) := hD
      refine lv_iinc (v := nI (k2 + 1)) (lv' := [(1, .int (nI (k2 + 1))), (0, .ref (ad 0))]) hx hb dX6_buildsAnew_23 hl (k := 1) rfl (nI_add _ _) (by decide) rfl (fun ls hl => ?_)
      refine lv_goto (tgt := 2) hx hb dX6_buildsAnew_26 (by decide) ?_
      exact ih2 (k2 + 1) (upd ab_2 k2 (-1)) (upd go_2 k2 (-1)) (by omega) hf _ _ hP hD hS _ (lv_sub hl [1, 0] rfl)
  exact L2 440 0 ab go (by omega) hf _ _ hP hD hS _ (lv_sub hl [1, 0] rfl)
set_option maxHeartbeats 4000000 in
set_option maxRecDepth 100000 in
theorem c_X6_thrown (l : Launch) (D : va_G) (cI cZ : ClassId) (ad : Nat → Nat) (co fa ic me sw cn ab go cp so gr re db : Nat → Int32) (rclk : Int32) (rlim : Int32) (rqd : Nat) (rpk : Nat) (rwas : Int32) (rthr : Int32) : MI l yX6_thrown cX6_thrown 1 .int { frames := 0, cells := 0, slots := 0, locals := 0 } D (TY cI cZ) [.ref (ad 0)] (wR cI cZ ad co fa ic me sw cn ab go cp so gr re db rclk rlim (nI rqd) (nI rpk) rwas rthr) (wR cI cZ ad co fa ic me sw cn ab go cp so gr re db rclk rlim (nI rqd) (nI rpk) rwas rthr) (rthr) := by
  refine MI.mk ⟨rfl, rfl⟩ (by decide +kernel) (Nat.le_of_ble_eq_true rfl) ?_
  intro p e s m below meth c A ls B hA hP hD hS hl
  have hx := B.1
  have hb := B.2.1
  have hts := B.2.2.2.2.2.1
  have hN := B.2.2.2.2.2.2.2.1
  have hK := B.2.2.2.2.2.2.2.2.1
  have hl : lv_has ls 1 [(0, .ref (ad 0))] := hl
  refine lv_aload_n hx hb dX6_thrown_0 rfl (lv_at hl 0 rfl) ?_
  refine g_X6_57 B hP 0 rfl rfl dX6_thrown_1 ?_
  exact eI B hP hS rfl rfl dX6_thrown_4
set_option maxHeartbeats 4000000 in
set_option maxRecDepth 100000 in
theorem c_X6_queued (l : Launch) (D : va_G) (cI cZ : ClassId) (ad : Nat → Nat) (co fa ic me sw cn ab go cp so gr re db : Nat → Int32) (rclk : Int32) (rlim : Int32) (rqd : Nat) (rpk : Nat) (rwas : Int32) (rthr : Int32) (hrqd : rqd ≤ 200) : MI l yX6_queued cX6_queued 1 .int { frames := 0, cells := 0, slots := 0, locals := 0 } D (TY cI cZ) [.ref (ad 0)] (wR cI cZ ad co fa ic me sw cn ab go cp so gr re db rclk rlim (nI rqd) (nI rpk) rwas rthr) (wR cI cZ ad co fa ic me sw cn ab go cp so gr re db rclk rlim (nI rqd) (nI rpk) rwas (nI 0)) (nI rqd) := by
  refine MI.mk ⟨rfl, rfl⟩ (by decide +kernel) (Nat.le_of_ble_eq_true rfl) ?_
  intro p e s m below meth c A ls B hA hP hD hS hl
  have hx := B.1
  have hb := B.2.1
  have hts := B.2.2.2.2.2.1
  have hN := B.2.2.2.2.2.2.2.1
  have hK := B.2.2.2.2.2.2.2.2.1
  have hl : lv_has ls 1 [(0, .ref (ad 0))] := hl
  refine lv_aload_n hx hb dX6_queued_0 rfl (lv_at hl 0 rfl) ?_
  refine lv_iconst (v := nI 0) hx hb dX6_queued_1 (by decide) ?_
  refine p_X6_57 B hP hD hS 0 rfl (Nat.le_of_ble_eq_true rfl) dX6_queued_2 (fun H locs hP hD hS => ?_)
  have hP : va_P D vwCl (wR cI cZ ad co fa ic me sw cn ab go cp so gr re db rclk rlim (nI rqd) (nI rpk) rwas (nI 0)) H := hP
  have hD : va_D A (wR cI cZ ad co fa ic me sw cn ab go cp so gr re db rclk rlim (nI rqd) (nI rpk) rwas (nI 0)) := hD
  refine lv_aload_n hx hb dX6_queued_5 rfl (lv_at hl 0 rfl) ?_
  refine g_X6_108 B hP 0 rfl rfl dX6_queued_6 ?_
  exact eI B hP hS rfl rfl dX6_queued_9
def f_X6_nextTo (cp : Nat → Int32) (rqd : Nat) : Int32 × Int32 :=
  if rqd = 0 then (-1, nI 0) else (cp 3, nI 0)
set_option maxHeartbeats 4000000 in
set_option maxRecDepth 100000 in
theorem c_X6_nextTo (l : Launch) (D : va_G) (cI cZ : ClassId) (ad : Nat → Nat) (co fa ic me sw cn ab go cp so gr re db : Nat → Int32) (rclk : Int32) (rlim : Int32) (rqd : Nat) (rpk : Nat) (rwas : Int32) (rthr : Int32) (hrqd : rqd ≤ 200) : MI l yX6_nextTo cX6_nextTo 1 .int { frames := 0, cells := 0, slots := 0, locals := 0 } D (TY cI cZ) [.ref (ad 0)] (wR cI cZ ad co fa ic me sw cn ab go cp so gr re db rclk rlim (nI rqd) (nI rpk) rwas rthr) (wR cI cZ ad co fa ic me sw cn ab go cp so gr re db rclk rlim (nI rqd) (nI rpk) rwas ((f_X6_nextTo cp rqd).2)) ((f_X6_nextTo cp rqd).1) := by
  refine MI.mk ⟨rfl, rfl⟩ (by decide +kernel) (Nat.le_of_ble_eq_true rfl) ?_
  intro p e s m below meth c A ls B hA hP hD hS hl
  have hx := B.1
  have hb := B.2.1
  have hts := B.2.2.2.2.2.1
  have hN := B.2.2.2.2.2.2.2.1
  have hK := B.2.2.2.2.2.2.2.2.1
  have hl : lv_has ls 1 [(0, .ref (ad 0))] := hl
  have hf := f_X6_nextTo.eq_1 cp rqd
  refine lv_aload_n hx hb dX6_nextTo_0 rfl (lv_at hl 0 rfl) ?_
  refine lv_iconst (v := nI 0) hx hb dX6_nextTo_1 (by decide) ?_
  refine p_X6_57 B hP hD hS 0 rfl (Nat.le_of_ble_eq_true rfl) dX6_nextTo_2 (fun H locs hP hD hS => ?_)
  have hP : va_P D vwCl (wR cI cZ ad co fa ic me sw cn ab go cp so gr re db rclk rlim (nI rqd) (nI rpk) rwas (nI 0)) H := hP
  have hD : va_D A (wR cI cZ ad co fa ic me sw cn ab go cp so gr re db rclk rlim (nI rqd) (nI rpk) rwas (nI 0)) := hD
  refine lv_aload_n hx hb dX6_nextTo_5 rfl (lv_at hl 0 rfl) ?_
  refine g_X6_108 B hP 0 rfl rfl dX6_nextTo_6 ?_
  refine r_if_ne (tgt := 16) hx hb (by omega) dX6_nextTo_9 (by decide) (fun c1 => ?_) (fun c1 => ?_)
  · have hf := hf.trans (if_neg c1)
    refine lv_aload_n hx hb dX6_nextTo_16 rfl (lv_at hl 0 rfl) ?_
    refine g_X6_39 B hP 0 rfl rfl dX6_nextTo_17 ?_
    refine lv_iconst (v := nI 3) hx hb dX6_nextTo_20 (by decide) ?_
    refine r_iald hx hb hK hP 9 0 rfl rfl (by omega) (by decide) dX6_nextTo_21 ?_
    exact eI B hP hS (by simp only [hf]) (by simp only [hf]) dX6_nextTo_22
  · have hf := hf.trans (if_pos c1)
    refine lv_iconst (v := -1) hx hb dX6_nextTo_12 (by decide) ?_
    refine lv_goto (tgt := 22) hx hb dX6_nextTo_13 (by decide) ?_
    exact eI B hP hS (by simp only [hf]) (by simp only [hf]) dX6_nextTo_22
set_option maxHeartbeats 4000000 in
set_option maxRecDepth 100000 in
theorem c_X6_wasted (l : Launch) (D : va_G) (cI cZ : ClassId) (ad : Nat → Nat) (co fa ic me sw cn ab go cp so gr re db : Nat → Int32) (rclk : Int32) (rlim : Int32) (rqd : Nat) (rpk : Nat) (rwas : Int32) (rthr : Int32) : MI l yX6_wasted cX6_wasted 1 .int { frames := 0, cells := 0, slots := 0, locals := 0 } D (TY cI cZ) [.ref (ad 0)] (wR cI cZ ad co fa ic me sw cn ab go cp so gr re db rclk rlim (nI rqd) (nI rpk) rwas rthr) (wR cI cZ ad co fa ic me sw cn ab go cp so gr re db rclk rlim (nI rqd) (nI rpk) rwas (nI 0)) (rwas) := by
  refine MI.mk ⟨rfl, rfl⟩ (by decide +kernel) (Nat.le_of_ble_eq_true rfl) ?_
  intro p e s m below meth c A ls B hA hP hD hS hl
  have hx := B.1
  have hb := B.2.1
  have hts := B.2.2.2.2.2.1
  have hN := B.2.2.2.2.2.2.2.1
  have hK := B.2.2.2.2.2.2.2.2.1
  have hl : lv_has ls 1 [(0, .ref (ad 0))] := hl
  refine lv_aload_n hx hb dX6_wasted_0 rfl (lv_at hl 0 rfl) ?_
  refine lv_iconst (v := nI 0) hx hb dX6_wasted_1 (by decide) ?_
  refine p_X6_57 B hP hD hS 0 rfl (Nat.le_of_ble_eq_true rfl) dX6_wasted_2 (fun H locs hP hD hS => ?_)
  have hP : va_P D vwCl (wR cI cZ ad co fa ic me sw cn ab go cp so gr re db rclk rlim (nI rqd) (nI rpk) rwas (nI 0)) H := hP
  have hD : va_D A (wR cI cZ ad co fa ic me sw cn ab go cp so gr re db rclk rlim (nI rqd) (nI rpk) rwas (nI 0)) := hD
  refine lv_aload_n hx hb dX6_wasted_5 rfl (lv_at hl 0 rfl) ?_
  refine g_X6_111 B hP 0 rfl rfl dX6_wasted_6 ?_
  exact eI B hP hS rfl rfl dX6_wasted_9
set_option maxHeartbeats 4000000 in
set_option maxRecDepth 100000 in
theorem c_X6_clock (l : Launch) (D : va_G) (cI cZ : ClassId) (ad : Nat → Nat) (co fa ic me sw cn ab go cp so gr re db : Nat → Int32) (rclk : Int32) (rlim : Int32) (rqd : Nat) (rpk : Nat) (rwas : Int32) (rthr : Int32) : MI l yX6_clock cX6_clock 1 .int { frames := 0, cells := 0, slots := 0, locals := 0 } D (TY cI cZ) [.ref (ad 0)] (wR cI cZ ad co fa ic me sw cn ab go cp so gr re db rclk rlim (nI rqd) (nI rpk) rwas rthr) (wR cI cZ ad co fa ic me sw cn ab go cp so gr re db rclk rlim (nI rqd) (nI rpk) rwas (nI 0)) (rclk) := by
  refine MI.mk ⟨rfl, rfl⟩ (by decide +kernel) (Nat.le_of_ble_eq_true rfl) ?_
  intro p e s m below meth c A ls B hA hP hD hS hl
  have hx := B.1
  have hb := B.2.1
  have hts := B.2.2.2.2.2.1
  have hN := B.2.2.2.2.2.2.2.1
  have hK := B.2.2.2.2.2.2.2.2.1
  have hl : lv_has ls 1 [(0, .ref (ad 0))] := hl
  refine lv_aload_n hx hb dX6_clock_0 rfl (lv_at hl 0 rfl) ?_
  refine lv_iconst (v := nI 0) hx hb dX6_clock_1 (by decide) ?_
  refine p_X6_57 B hP hD hS 0 rfl (Nat.le_of_ble_eq_true rfl) dX6_clock_2 (fun H locs hP hD hS => ?_)
  have hP : va_P D vwCl (wR cI cZ ad co fa ic me sw cn ab go cp so gr re db rclk rlim (nI rqd) (nI rpk) rwas (nI 0)) H := hP
  have hD : va_D A (wR cI cZ ad co fa ic me sw cn ab go cp so gr re db rclk rlim (nI rqd) (nI rpk) rwas (nI 0)) := hD
  refine lv_aload_n hx hb dX6_clock_5 rfl (lv_at hl 0 rfl) ?_
  refine g_X6_79 B hP 0 rfl rfl dX6_clock_6 ?_
  exact eI B hP hS rfl rfl dX6_clock_9
def f_X6_leaving_L9 (go : Nat → Int32) : Nat → Nat → Int32 → Int32 × Int32
  | 0, _, x1_9 => (x1_9, nI 0)
  | n9 + 1, k9, x1_9 => if (go k9) = (-1) then f_X6_leaving_L9 go n9 (k9 + 1) (x1_9 + (nI 0)) else f_X6_leaving_L9 go n9 (k9 + 1) (x1_9 + (nI 1))
def f_X6_leaving (go : Nat → Int32) : Int32 × Int32 :=
  f_X6_leaving_L9 go 440 0 (nI 0)
set_option maxHeartbeats 4000000 in
set_option maxRecDepth 100000 in
theorem c_X6_leaving (l : Launch) (D : va_G) (cI cZ : ClassId) (ad : Nat → Nat) (co fa ic me sw cn ab go cp so gr re db : Nat → Int32) (rclk : Int32) (rlim : Int32) (rqd : Nat) (rpk : Nat) (rwas : Int32) (rthr : Int32) : MI l yX6_leaving cX6_leaving 3 .int { frames := 0, cells := 0, slots := 0, locals := 0 } D (TY cI cZ) [.ref (ad 0)] (wR cI cZ ad co fa ic me sw cn ab go cp so gr re db rclk rlim (nI rqd) (nI rpk) rwas rthr) (wR cI cZ ad co fa ic me sw cn ab go cp so gr re db rclk rlim (nI rqd) (nI rpk) rwas ((f_X6_leaving go).2)) ((f_X6_leaving go).1) := by
  refine MI.mk ⟨rfl, rfl⟩ (by decide +kernel) (Nat.le_of_ble_eq_true rfl) ?_
  intro p e s m below meth c A ls B hA hP hD hS hl
  have hx := B.1
  have hb := B.2.1
  have hts := B.2.2.2.2.2.1
  have hN := B.2.2.2.2.2.2.2.1
  have hK := B.2.2.2.2.2.2.2.2.1
  have hl : lv_has ls 3 [(0, .ref (ad 0))] := hl
  have hf := f_X6_leaving.eq_1 go
  refine lv_aload_n hx hb dX6_leaving_0 rfl (lv_at hl 0 rfl) ?_
  refine lv_iconst (v := nI 0) hx hb dX6_leaving_1 (by decide) ?_
  refine p_X6_57 B hP hD hS 0 rfl (Nat.le_of_ble_eq_true rfl) dX6_leaving_2 (fun H locs hP hD hS => ?_)
  have hP : va_P D vwCl (wR cI cZ ad co fa ic me sw cn ab go cp so gr re db rclk rlim (nI rqd) (nI rpk) rwas (nI 0)) H := hP
  have hD : va_D A (wR cI cZ ad co fa ic me sw cn ab go cp so gr re db rclk rlim (nI rqd) (nI rpk) rwas (nI 0)) := hD
  refine lv_iconst (v := nI 0) hx hb dX6_leaving_5 (by decide) ?_
  refine lv_istore_n (lv' := [(1, .int (nI 0)), (0, .ref (ad 0))]) hx hb dX6_leaving_6 rfl hl (by decide) rfl (fun ls hl => ?_)
  refine lv_iconst (v := nI 0) hx hb dX6_leaving_7 (by decide) ?_
  refine lv_istore_n (lv' := [(2, .int (nI 0)), (1, .int (nI 0)), (0, .ref (ad 0))]) hx hb dX6_leaving_8 rfl hl (by decide) rfl (fun ls hl => ?_)
  have L9 : ∀ (n9 : Nat) (k9 : Nat) (x1_9 : Int32), k9 + n9 = 440 → f_X6_leaving go = (f_X6_leaving_L9 go n9 k9 x1_9) → ∀ (H : Heap) (locs : List Loc), va_P D vwCl (wR cI cZ ad co fa ic me sw cn ab go cp so gr re db rclk rlim (nI rqd) (nI rpk) rwas (nI 0)) H → va_D A (wR cI cZ ad co fa ic me sw cn ab go cp so gr re db rclk rlim (nI rqd) (nI rpk) rwas (nI 0)) → va_S A s.heap H locs → ∀ ls : Array Slot, lv_has ls 3 [(0, .ref (ad 0)), (1, .int x1_9), (2, .int (nI k9))] → W p l e { frames := 0, cells := 0, slots := 0, locals := 0 } s m [.ref (ad 0)].toArray below meth c H locs 0 0 (QI below s A D [.ref (ad 0)] (wR cI cZ ad co fa ic me sw cn ab go cp so gr re db rclk rlim (nI rqd) (nI rpk) rwas ((f_X6_leaving go).2)) ((f_X6_leaving go).1)) (F0 m 9 ls []) := by
    intro n9
    induction n9 with
    | zero =>
      intro k9 x1_9 hk9 hf H locs hP hD hS ls hl
      obtain rfl : 440 = k9 := by omega
      rw [f_X6_leaving_L9] at hf
      have hl : lv_has ls 3 [(0, .ref (ad 0)), (1, .int x1_9), (2, .int (nI 440))] := hl
      refine lv_iload_n hx hb dX6_leaving_9 rfl (lv_at hl 2 rfl) ?_
      refine lv_sipush (v := nI 440) hx hb dX6_leaving_10 (by decide) ?_
      refine r_icmp_ge (tgt := 40) hx hb (by omega) (by omega) dX6_leaving_13 (by decide) (fun _ => ?_) (fun c => absurd c (by omega))
      refine lv_iload_n hx hb dX6_leaving_40 rfl (lv_at hl 1 rfl) ?_
      exact eI B hP hS (by simp only [hf]) (by simp only [hf]) dX6_leaving_41
    | succ n9 ih9 =>
      intro k9 x1_9 hk9 hf H locs hP hD hS ls hl
      rw [f_X6_leaving_L9] at hf
      have hl : lv_has ls 3 [(0, .ref (ad 0)), (1, .int x1_9), (2, .int (nI k9))] := hl
      refine lv_iload_n hx hb dX6_leaving_9 rfl (lv_at hl 2 rfl) ?_
      refine lv_sipush (v := nI 440) hx hb dX6_leaving_10 (by decide) ?_
      refine r_icmp_ge (tgt := 40) hx hb (by omega) (by omega) dX6_leaving_13 (by decide) (fun c => absurd c (by omega)) (fun _ => ?_)
      refine lv_iload_n hx hb dX6_leaving_16 rfl (lv_at hl 1 rfl) ?_
      refine lv_aload_n hx hb dX6_leaving_17 rfl (lv_at hl 0 rfl) ?_
      refine g_X6_36 B hP 0 rfl rfl dX6_leaving_18 ?_
      refine lv_iload_n hx hb dX6_leaving_21 rfl (lv_at hl 2 rfl) ?_
      refine r_iald hx hb hK hP 8 0 rfl rfl (by omega) (by decide) dX6_leaving_22 ?_
      refine lv_iconst (v := -1) hx hb dX6_leaving_23 (by decide) ?_
      refine lv_icmp_ne (tgt := 31) hx hb dX6_leaving_24 (by decide) (fun c4 => ?_) (fun c4 => ?_)
      · have hf := hf.trans (if_neg c4)
        refine lv_iconst (v := nI 1) hx hb dX6_leaving_31 (by decide) ?_
        refine lv_iadd hx hb dX6_leaving_32 ?_
        refine lv_istore_n (lv' := [(1, .int (x1_9 + (nI 1))), (0, .ref (ad 0)), (2, .int (nI k9))]) hx hb dX6_leaving_33 rfl hl (by decide) rfl (fun ls hl => ?_)
        refine lv_iinc (v := nI (k9 + 1)) (lv' := [(2, .int (nI (k9 + 1))), (1, .int (x1_9 + (nI 1))), (0, .ref (ad 0))]) hx hb dX6_leaving_34 hl (k := 2) rfl (nI_add _ _) (by decide) rfl (fun ls hl => ?_)
        refine lv_goto (tgt := 9) hx hb dX6_leaving_37 (by decide) ?_
        exact ih9 (k9 + 1) (x1_9 + (nI 1)) (by omega) hf _ _ hP hD hS _ (lv_sub hl [2, 1, 0] rfl)
      · have hf := hf.trans (if_pos c4)
        refine lv_iconst (v := nI 0) hx hb dX6_leaving_27 (by decide) ?_
        refine lv_goto (tgt := 32) hx hb dX6_leaving_28 (by decide) ?_
        refine lv_iadd hx hb dX6_leaving_32 ?_
        refine lv_istore_n (lv' := [(1, .int (x1_9 + (nI 0))), (0, .ref (ad 0)), (2, .int (nI k9))]) hx hb dX6_leaving_33 rfl hl (by decide) rfl (fun ls hl => ?_)
        refine lv_iinc (v := nI (k9 + 1)) (lv' := [(2, .int (nI (k9 + 1))), (1, .int (x1_9 + (nI 0))), (0, .ref (ad 0))]) hx hb dX6_leaving_34 hl (k := 2) rfl (nI_add _ _) (by decide) rfl (fun ls hl => ?_)
        refine lv_goto (tgt := 9) hx hb dX6_leaving_37 (by decide) ?_
        exact ih9 (k9 + 1) (x1_9 + (nI 0)) (by omega) hf _ _ hP hD hS _ (lv_sub hl [2, 1, 0] rfl)
  exact L9 440 0 (nI 0) (by omega) hf _ _ hP hD hS _ (lv_sub hl [2, 1, 0] rfl)
set_option maxHeartbeats 4000000 in
set_option maxRecDepth 100000 in
theorem c_X6_setLimit (l : Launch) (D : va_G) (cI cZ : ClassId) (ad : Nat → Nat) (co fa ic me sw cn ab go cp so gr re db : Nat → Int32) (rclk : Int32) (rlim : Int32) (rqd : Nat) (rpk : Nat) (rwas : Int32) (rthr : Int32) (li : Nat) (hli : li < 101) (h1li : 1 ≤ li) : MI l yX6_setLimit cX6_setLimit 3 .int { frames := 1, cells := 0, slots := 0, locals := 21 } D (TY cI cZ) [.ref (ad 0), .int (nI li)] (wR cI cZ ad co fa ic me sw cn ab go cp so gr re db rclk rlim (nI rqd) (nI rpk) rwas rthr) (wR cI cZ ad co fa ic me sw cn ab go cp so gr re db rclk (nI li) (nI rqd) (nI rpk) rwas (nI 0)) (rlim) := by
  refine MI.mk ⟨rfl, rfl⟩ (by decide +kernel) (Nat.le_of_ble_eq_true rfl) ?_
  intro p e s m below meth c A ls B hA hP hD hS hl
  have hx := B.1
  have hb := B.2.1
  have hts := B.2.2.2.2.2.1
  have hN := B.2.2.2.2.2.2.2.1
  have hK := B.2.2.2.2.2.2.2.2.1
  have hl : lv_has ls 3 [(0, .ref (ad 0)), (1, .int (nI li))] := hl
  refine lv_aload_n hx hb dX6_setLimit_0 rfl (lv_at hl 0 rfl) ?_
  refine lv_iload_n hx hb dX6_setLimit_1 rfl (lv_at hl 1 rfl) ?_
  refine lv_iconst (v := nI 1) hx hb dX6_setLimit_2 (by decide) ?_
  refine r_icmp_lt (tgt := 12) hx hb (by omega) (by omega) dX6_setLimit_3 (by decide) (fun c => absurd c (by omega)) (fun _ => ?_)
  refine lv_iload_n hx hb dX6_setLimit_6 rfl (lv_at hl 1 rfl) ?_
  refine lv_bipush (v := nI 100) hx hb dX6_setLimit_7 (by decide) ?_
  refine r_icmp_le (tgt := 16) hx hb (by omega) (by omega) dX6_setLimit_9 (by decide) (fun _ => ?_) (fun c => absurd c (by omega))
  refine lv_iconst (v := nI 0) hx hb dX6_setLimit_16 (by decide) ?_
  refine fV_i (ci := 6) (as := [.int (nI 0)]) (rest := []) B hl.1 (c_X6_can_0 l D cI cZ ad co fa ic me sw cn ab go cp so gr re db rclk rlim rqd rpk rwas rthr) rfl (l_RX6_90 hts ⟨rfl, rfl⟩ ⟨Nat.le_of_ble_eq_true rfl, Nat.le_of_ble_eq_true rfl⟩) m_9_1 m_9_2 rfl rfl hP hD hS hA 0 rfl wfR (Nat.le_of_ble_eq_true rfl) dX6_setLimit_17 (fun H locs hP hD hS => ?_)
  refine r_if_ne (tgt := 25) hx hb (by omega) dX6_setLimit_20 (by decide) (fun _ => ?_) (fun c => absurd c (by omega))
  refine lv_aload_n hx hb dX6_setLimit_25 rfl (lv_at hl 0 rfl) ?_
  refine g_X6_7 B hP 0 rfl rfl dX6_setLimit_26 ?_
  refine lv_istore_n (lv' := [(2, .int rlim), (0, .ref (ad 0)), (1, .int (nI li))]) hx hb dX6_setLimit_29 rfl hl (by decide) rfl (fun ls hl => ?_)
  refine lv_aload_n hx hb dX6_setLimit_30 rfl (lv_at hl 1 rfl) ?_
  refine lv_iload_n hx hb dX6_setLimit_31 rfl (lv_at hl 2 rfl) ?_
  refine p_X6_7 B hP hD hS 0 rfl (Nat.le_of_ble_eq_true rfl) dX6_setLimit_32 (fun H locs hP hD hS => ?_)
  have hP : va_P D vwCl (wR cI cZ ad co fa ic me sw cn ab go cp so gr re db rclk (nI li) (nI rqd) (nI rpk) rwas (nI 0)) H := hP
  have hD : va_D A (wR cI cZ ad co fa ic me sw cn ab go cp so gr re db rclk (nI li) (nI rqd) (nI rpk) rwas (nI 0)) := hD
  refine lv_iload_n hx hb dX6_setLimit_35 rfl (lv_at hl 0 rfl) ?_
  exact eI B hP hS rfl rfl dX6_setLimit_36
def f_X6_distance (r : Nat) (o : Nat) (fa : Nat → Int32) : Int32 × Int32 :=
  if (nI 1000000) ≤ (fa ((10 * r) + o)) then (-1, nI 0) else (fa ((10 * r) + o), nI 0)
set_option maxHeartbeats 4000000 in
set_option maxRecDepth 100000 in
theorem c_X6_distance (l : Launch) (D : va_G) (cI cZ : ClassId) (ad : Nat → Nat) (co fa ic me sw cn ab go cp so gr re db : Nat → Int32) (rclk : Int32) (rlim : Int32) (rqd : Nat) (rpk : Nat) (rwas : Int32) (rthr : Int32) (r : Nat) (o : Nat) (hr : r < 10) (ho : o < 10) : MI l yX6_distance cX6_distance 4 .int { frames := 1, cells := 0, slots := 0, locals := 21 } D (TY cI cZ) [.ref (ad 0), .int (nI r), .int (nI o)] (wR cI cZ ad co fa ic me sw cn ab go cp so gr re db rclk rlim (nI rqd) (nI rpk) rwas rthr) (wR cI cZ ad co fa ic me sw cn ab go cp so gr re db rclk rlim (nI rqd) (nI rpk) rwas ((f_X6_distance r o fa).2)) ((f_X6_distance r o fa).1) := by
  refine MI.mk ⟨rfl, rfl⟩ (by decide +kernel) (Nat.le_of_ble_eq_true rfl) ?_
  intro p e s m below meth c A ls B hA hP hD hS hl
  have hx := B.1
  have hb := B.2.1
  have hts := B.2.2.2.2.2.1
  have hN := B.2.2.2.2.2.2.2.1
  have hK := B.2.2.2.2.2.2.2.2.1
  have hl : lv_has ls 4 [(0, .ref (ad 0)), (1, .int (nI r)), (2, .int (nI o))] := hl
  have hf := f_X6_distance.eq_1 r o fa
  refine lv_aload_n hx hb dX6_distance_0 rfl (lv_at hl 0 rfl) ?_
  refine lv_iload_n hx hb dX6_distance_1 rfl (lv_at hl 1 rfl) ?_
  refine fS_i (as := [.int (nI r)]) (rest := [.ref (ad 0)]) B hl.1 (c_X6_isRouter l D cI cZ (wR cI cZ ad co fa ic me sw cn ab go cp so gr re db rclk rlim (nI rqd) (nI rpk) rwas rthr) r (by omega)) (l_RX6_86 hts ⟨rfl, rfl⟩ ⟨Nat.le_of_ble_eq_true rfl, Nat.le_of_ble_eq_true rfl⟩) m_8_22 rfl rfl hP hD hS hA rfl (Nat.le_of_ble_eq_true rfl) dX6_distance_2 (fun H locs hP hD hS => ?_)
  refine r_if_eq (tgt := 19) hx hb (by omega) dX6_distance_5 (by decide) (fun c => absurd c (by omega)) (fun _ => ?_)
  refine lv_iload_n hx hb dX6_distance_8 rfl (lv_at hl 2 rfl) ?_
  refine fS_i (as := [.int (nI o)]) (rest := [.ref (ad 0)]) B hl.1 (c_X6_isRouter l D cI cZ (wR cI cZ ad co fa ic me sw cn ab go cp so gr re db rclk rlim (nI rqd) (nI rpk) rwas rthr) o (by omega)) (l_RX6_86 hts ⟨rfl, rfl⟩ ⟨Nat.le_of_ble_eq_true rfl, Nat.le_of_ble_eq_true rfl⟩) m_8_22 rfl rfl hP hD hS hA rfl (Nat.le_of_ble_eq_true rfl) dX6_distance_9 (fun H locs hP hD hS => ?_)
  refine r_if_eq (tgt := 19) hx hb (by omega) dX6_distance_12 (by decide) (fun c => absurd c (by omega)) (fun _ => ?_)
  refine lv_iconst (v := nI 0) hx hb dX6_distance_15 (by decide) ?_
  refine lv_goto (tgt := 20) hx hb dX6_distance_16 (by decide) ?_
  refine fV_i (ci := 6) (as := [.int (nI 0)]) (rest := []) B hl.1 (c_X6_can_0 l D cI cZ ad co fa ic me sw cn ab go cp so gr re db rclk rlim rqd rpk rwas rthr) rfl (l_RX6_90 hts ⟨rfl, rfl⟩ ⟨Nat.le_of_ble_eq_true rfl, Nat.le_of_ble_eq_true rfl⟩) m_9_1 m_9_2 rfl rfl hP hD hS hA 0 rfl wfR (Nat.le_of_ble_eq_true rfl) dX6_distance_20 (fun H locs hP hD hS => ?_)
  refine r_if_ne (tgt := 28) hx hb (by omega) dX6_distance_23 (by decide) (fun _ => ?_) (fun c => absurd c (by omega))
  refine lv_aload_n hx hb dX6_distance_28 rfl (lv_at hl 0 rfl) ?_
  refine g_X6_17 B hP 0 rfl rfl dX6_distance_29 ?_
  refine lv_bipush (v := nI 10) hx hb dX6_distance_32 (by decide) ?_
  refine lv_iload_n hx hb dX6_distance_34 rfl (lv_at hl 1 rfl) ?_
  refine r_imul hx hb dX6_distance_35 ?_
  refine lv_iload_n hx hb dX6_distance_36 rfl (lv_at hl 2 rfl) ?_
  refine r_iadd hx hb dX6_distance_37 ?_
  refine r_iald hx hb hK hP 2 0 rfl rfl (by omega) (by decide) dX6_distance_38 ?_
  refine lv_istore_n (lv' := [(3, .int (fa ((10 * r) + o))), (0, .ref (ad 0)), (1, .int (nI r)), (2, .int (nI o))]) hx hb dX6_distance_39 rfl hl (by decide) rfl (fun ls hl => ?_)
  refine lv_iload_n hx hb dX6_distance_40 rfl (lv_at hl 0 rfl) ?_
  refine lv_ldc (v := nI 1000000) hx hb B.2.2.2.2.1 (hts _ m_6_17) dX6_distance_41 ?_
  refine lv_icmp_ge (tgt := 50) hx hb dX6_distance_43 (by decide) (fun c1 => ?_) (fun c1 => ?_)
  · have hf := hf.trans (if_pos c1)
    refine lv_iconst (v := -1) hx hb dX6_distance_50 (by decide) ?_
    exact eI B hP hS (by simp only [hf]) (by simp only [hf]) dX6_distance_51
  · have hf := hf.trans (if_neg c1)
    refine lv_iload_n hx hb dX6_distance_46 rfl (lv_at hl 0 rfl) ?_
    refine lv_goto (tgt := 51) hx hb dX6_distance_47 (by decide) ?_
    exact eI B hP hS (by simp only [hf]) (by simp only [hf]) dX6_distance_51
set_option maxHeartbeats 4000000 in
set_option maxRecDepth 100000 in
theorem c_X6_nextHop (l : Launch) (D : va_G) (cI cZ : ClassId) (ad : Nat → Nat) (co fa ic me sw cn ab go cp so gr re db : Nat → Int32) (rclk : Int32) (rlim : Int32) (rqd : Nat) (rpk : Nat) (rwas : Int32) (rthr : Int32) (r : Nat) (o : Nat) (hr : r < 10) (ho : o < 10) : MI l yX6_nextHop cX6_nextHop 3 .int { frames := 1, cells := 0, slots := 0, locals := 26 } D (TY cI cZ) [.ref (ad 0), .int (nI r), .int (nI o)] (wR cI cZ ad co fa ic me sw cn ab go cp so gr re db rclk rlim (nI rqd) (nI rpk) rwas rthr) (wR cI cZ ad co fa ic me sw cn ab go cp so gr re db rclk rlim (nI rqd) (nI rpk) rwas (nI 0)) (f_X6_hop r o co fa) := by
  refine MI.mk ⟨rfl, rfl⟩ (by decide +kernel) (Nat.le_of_ble_eq_true rfl) ?_
  intro p e s m below meth c A ls B hA hP hD hS hl
  have hx := B.1
  have hb := B.2.1
  have hts := B.2.2.2.2.2.1
  have hN := B.2.2.2.2.2.2.2.1
  have hK := B.2.2.2.2.2.2.2.2.1
  have hl : lv_has ls 3 [(0, .ref (ad 0)), (1, .int (nI r)), (2, .int (nI o))] := hl
  refine lv_aload_n hx hb dX6_nextHop_0 rfl (lv_at hl 0 rfl) ?_
  refine lv_iload_n hx hb dX6_nextHop_1 rfl (lv_at hl 1 rfl) ?_
  refine fS_i (as := [.int (nI r)]) (rest := [.ref (ad 0)]) B hl.1 (c_X6_isRouter l D cI cZ (wR cI cZ ad co fa ic me sw cn ab go cp so gr re db rclk rlim (nI rqd) (nI rpk) rwas rthr) r (by omega)) (l_RX6_86 hts ⟨rfl, rfl⟩ ⟨Nat.le_of_ble_eq_true rfl, Nat.le_of_ble_eq_true rfl⟩) m_8_22 rfl rfl hP hD hS hA rfl (Nat.le_of_ble_eq_true rfl) dX6_nextHop_2 (fun H locs hP hD hS => ?_)
  refine r_if_eq (tgt := 19) hx hb (by omega) dX6_nextHop_5 (by decide) (fun c => absurd c (by omega)) (fun _ => ?_)
  refine lv_iload_n hx hb dX6_nextHop_8 rfl (lv_at hl 2 rfl) ?_
  refine fS_i (as := [.int (nI o)]) (rest := [.ref (ad 0)]) B hl.1 (c_X6_isRouter l D cI cZ (wR cI cZ ad co fa ic me sw cn ab go cp so gr re db rclk rlim (nI rqd) (nI rpk) rwas rthr) o (by omega)) (l_RX6_86 hts ⟨rfl, rfl⟩ ⟨Nat.le_of_ble_eq_true rfl, Nat.le_of_ble_eq_true rfl⟩) m_8_22 rfl rfl hP hD hS hA rfl (Nat.le_of_ble_eq_true rfl) dX6_nextHop_9 (fun H locs hP hD hS => ?_)
  refine r_if_eq (tgt := 19) hx hb (by omega) dX6_nextHop_12 (by decide) (fun c => absurd c (by omega)) (fun _ => ?_)
  refine lv_iconst (v := nI 0) hx hb dX6_nextHop_15 (by decide) ?_
  refine lv_goto (tgt := 20) hx hb dX6_nextHop_16 (by decide) ?_
  refine fV_i (ci := 6) (as := [.int (nI 0)]) (rest := []) B hl.1 (c_X6_can_0 l D cI cZ ad co fa ic me sw cn ab go cp so gr re db rclk rlim rqd rpk rwas rthr) rfl (l_RX6_90 hts ⟨rfl, rfl⟩ ⟨Nat.le_of_ble_eq_true rfl, Nat.le_of_ble_eq_true rfl⟩) m_9_1 m_9_2 rfl rfl hP hD hS hA 0 rfl wfR (Nat.le_of_ble_eq_true rfl) dX6_nextHop_20 (fun H locs hP hD hS => ?_)
  refine r_if_eq (tgt := 35) hx hb (by omega) dX6_nextHop_23 (by decide) (fun c => absurd c (by omega)) (fun _ => ?_)
  refine lv_aload_n hx hb dX6_nextHop_26 rfl (lv_at hl 0 rfl) ?_
  refine lv_iload_n hx hb dX6_nextHop_27 rfl (lv_at hl 1 rfl) ?_
  refine lv_iload_n hx hb dX6_nextHop_28 rfl (lv_at hl 2 rfl) ?_
  refine fV_i (ci := 6) (as := [.int (nI r), .int (nI o)]) (rest := []) B hl.1 (c_X6_hop l D cI cZ ad co fa ic me sw cn ab go cp so gr re db rclk rlim rqd rpk rwas (nI 0) r o (by omega) (by omega)) rfl (l_RX6_68 hts ⟨rfl, rfl⟩ ⟨Nat.le_of_ble_eq_true rfl, Nat.le_of_ble_eq_true rfl⟩) m_10_2 m_10_3 rfl rfl hP hD hS hA 0 rfl wfR (Nat.le_of_ble_eq_true rfl) dX6_nextHop_29 (fun H locs hP hD hS => ?_)
  refine lv_goto (tgt := 36) hx hb dX6_nextHop_32 (by decide) ?_
  exact eI B hP hS rfl rfl dX6_nextHop_36
set_option maxHeartbeats 4000000 in
set_option maxRecDepth 100000 in
theorem c_X6_rendezvous (l : Launch) (D : va_G) (cI cZ : ClassId) (ad : Nat → Nat) (co fa ic me sw cn ab go cp so gr re db : Nat → Int32) (rclk : Int32) (rlim : Int32) (rqd : Nat) (rpk : Nat) (rwas : Int32) (rthr : Int32) (g : Nat) (hg : g < 4) : MI l yX6_rendezvous cX6_rendezvous 2 .int { frames := 1, cells := 0, slots := 0, locals := 26 } D (TY cI cZ) [.ref (ad 0), .int (nI g)] (wR cI cZ ad co fa ic me sw cn ab go cp so gr re db rclk rlim (nI rqd) (nI rpk) rwas rthr) (wR cI cZ ad co fa ic me sw cn ab go cp so gr re db rclk rlim (nI rqd) (nI rpk) rwas (nI 0)) (f_X6_meets g ic) := by
  refine MI.mk ⟨rfl, rfl⟩ (by decide +kernel) (Nat.le_of_ble_eq_true rfl) ?_
  intro p e s m below meth c A ls B hA hP hD hS hl
  have hx := B.1
  have hb := B.2.1
  have hts := B.2.2.2.2.2.1
  have hN := B.2.2.2.2.2.2.2.1
  have hK := B.2.2.2.2.2.2.2.2.1
  have hl : lv_has ls 2 [(0, .ref (ad 0)), (1, .int (nI g))] := hl
  refine lv_aload_n hx hb dX6_rendezvous_0 rfl (lv_at hl 0 rfl) ?_
  refine lv_iload_n hx hb dX6_rendezvous_1 rfl (lv_at hl 1 rfl) ?_
  refine fS_i (as := [.int (nI g)]) (rest := [.ref (ad 0)]) B hl.1 (c_X6_isGroup l D cI cZ (wR cI cZ ad co fa ic me sw cn ab go cp so gr re db rclk rlim (nI rqd) (nI rpk) rwas rthr) g (by omega)) (l_RX6_96 hts ⟨rfl, rfl⟩ ⟨Nat.le_of_ble_eq_true rfl, Nat.le_of_ble_eq_true rfl⟩) m_13_9 rfl rfl hP hD hS hA rfl (Nat.le_of_ble_eq_true rfl) dX6_rendezvous_2 (fun H locs hP hD hS => ?_)
  refine r_if_eq (tgt := 12) hx hb (by omega) dX6_rendezvous_5 (by decide) (fun c => absurd c (by omega)) (fun _ => ?_)
  refine lv_iconst (v := nI 0) hx hb dX6_rendezvous_8 (by decide) ?_
  refine lv_goto (tgt := 13) hx hb dX6_rendezvous_9 (by decide) ?_
  refine fV_i (ci := 6) (as := [.int (nI 0)]) (rest := []) B hl.1 (c_X6_can_0 l D cI cZ ad co fa ic me sw cn ab go cp so gr re db rclk rlim rqd rpk rwas rthr) rfl (l_RX6_90 hts ⟨rfl, rfl⟩ ⟨Nat.le_of_ble_eq_true rfl, Nat.le_of_ble_eq_true rfl⟩) m_9_1 m_9_2 rfl rfl hP hD hS hA 0 rfl wfR (Nat.le_of_ble_eq_true rfl) dX6_rendezvous_13 (fun H locs hP hD hS => ?_)
  refine r_if_eq (tgt := 27) hx hb (by omega) dX6_rendezvous_16 (by decide) (fun c => absurd c (by omega)) (fun _ => ?_)
  refine lv_aload_n hx hb dX6_rendezvous_19 rfl (lv_at hl 0 rfl) ?_
  refine lv_iload_n hx hb dX6_rendezvous_20 rfl (lv_at hl 1 rfl) ?_
  refine fV_i (ci := 6) (as := [.int (nI g)]) (rest := []) B hl.1 (c_X6_meets l D cI cZ ad co fa ic me sw cn ab go cp so gr re db rclk rlim rqd rpk rwas (nI 0) g (by omega)) rfl (l_RX6_61 hts ⟨rfl, rfl⟩ ⟨Nat.le_of_ble_eq_true rfl, Nat.le_of_ble_eq_true rfl⟩) m_9_22 m_9_23 rfl rfl hP hD hS hA 0 rfl wfR (Nat.le_of_ble_eq_true rfl) dX6_rendezvous_21 (fun H locs hP hD hS => ?_)
  refine lv_goto (tgt := 28) hx hb dX6_rendezvous_24 (by decide) ?_
  exact eI B hP hS rfl rfl dX6_rendezvous_28
set_option maxHeartbeats 4000000 in
set_option maxRecDepth 100000 in
theorem c_X6_members (l : Launch) (D : va_G) (cI cZ : ClassId) (ad : Nat → Nat) (co fa ic me sw cn ab go cp so gr re db : Nat → Int32) (rclk : Int32) (rlim : Int32) (rqd : Nat) (rpk : Nat) (rwas : Int32) (rthr : Int32) (g : Nat) (hg : g < 4) : MI l yX6_members cX6_members 2 .int { frames := 1, cells := 0, slots := 0, locals := 21 } D (TY cI cZ) [.ref (ad 0), .int (nI g)] (wR cI cZ ad co fa ic me sw cn ab go cp so gr re db rclk rlim (nI rqd) (nI rpk) rwas rthr) (wR cI cZ ad co fa ic me sw cn ab go cp so gr re db rclk rlim (nI rqd) (nI rpk) rwas (nI 0)) (me g) := by
  refine MI.mk ⟨rfl, rfl⟩ (by decide +kernel) (Nat.le_of_ble_eq_true rfl) ?_
  intro p e s m below meth c A ls B hA hP hD hS hl
  have hx := B.1
  have hb := B.2.1
  have hts := B.2.2.2.2.2.1
  have hN := B.2.2.2.2.2.2.2.1
  have hK := B.2.2.2.2.2.2.2.2.1
  have hl : lv_has ls 2 [(0, .ref (ad 0)), (1, .int (nI g))] := hl
  refine lv_aload_n hx hb dX6_members_0 rfl (lv_at hl 0 rfl) ?_
  refine lv_iload_n hx hb dX6_members_1 rfl (lv_at hl 1 rfl) ?_
  refine fS_i (as := [.int (nI g)]) (rest := [.ref (ad 0)]) B hl.1 (c_X6_isGroup l D cI cZ (wR cI cZ ad co fa ic me sw cn ab go cp so gr re db rclk rlim (nI rqd) (nI rpk) rwas rthr) g (by omega)) (l_RX6_96 hts ⟨rfl, rfl⟩ ⟨Nat.le_of_ble_eq_true rfl, Nat.le_of_ble_eq_true rfl⟩) m_13_9 rfl rfl hP hD hS hA rfl (Nat.le_of_ble_eq_true rfl) dX6_members_2 (fun H locs hP hD hS => ?_)
  refine r_if_eq (tgt := 12) hx hb (by omega) dX6_members_5 (by decide) (fun c => absurd c (by omega)) (fun _ => ?_)
  refine lv_iconst (v := nI 0) hx hb dX6_members_8 (by decide) ?_
  refine lv_goto (tgt := 13) hx hb dX6_members_9 (by decide) ?_
  refine fV_i (ci := 6) (as := [.int (nI 0)]) (rest := []) B hl.1 (c_X6_can_0 l D cI cZ ad co fa ic me sw cn ab go cp so gr re db rclk rlim rqd rpk rwas rthr) rfl (l_RX6_90 hts ⟨rfl, rfl⟩ ⟨Nat.le_of_ble_eq_true rfl, Nat.le_of_ble_eq_true rfl⟩) m_9_1 m_9_2 rfl rfl hP hD hS hA 0 rfl wfR (Nat.le_of_ble_eq_true rfl) dX6_members_13 (fun H locs hP hD hS => ?_)
  refine r_if_eq (tgt := 28) hx hb (by omega) dX6_members_16 (by decide) (fun c => absurd c (by omega)) (fun _ => ?_)
  refine lv_aload_n hx hb dX6_members_19 rfl (lv_at hl 0 rfl) ?_
  refine g_X6_24 B hP 0 rfl rfl dX6_members_20 ?_
  refine lv_iload_n hx hb dX6_members_23 rfl (lv_at hl 1 rfl) ?_
  refine r_iald hx hb hK hP 4 0 rfl rfl (by omega) (by decide) dX6_members_24 ?_
  refine lv_goto (tgt := 29) hx hb dX6_members_25 (by decide) ?_
  exact eI B hP hS rfl rfl dX6_members_29
set_option maxHeartbeats 4000000 in
set_option maxRecDepth 100000 in
theorem c_X6_switched (l : Launch) (D : va_G) (cI cZ : ClassId) (ad : Nat → Nat) (co fa ic me sw cn ab go cp so gr re db : Nat → Int32) (rclk : Int32) (rlim : Int32) (rqd : Nat) (rpk : Nat) (rwas : Int32) (rthr : Int32) (s_ : Nat) (g : Nat) (hs_ : s_ < 10) (hg : g < 4) : MI l yX6_switched cX6_switched 3 .int { frames := 1, cells := 0, slots := 0, locals := 21 } D (TY cI cZ) [.ref (ad 0), .int (nI s_), .int (nI g)] (wR cI cZ ad co fa ic me sw cn ab go cp so gr re db rclk rlim (nI rqd) (nI rpk) rwas rthr) (wR cI cZ ad co fa ic me sw cn ab go cp so gr re db rclk rlim (nI rqd) (nI rpk) rwas (nI 0)) (sw ((10 * g) + s_)) := by
  refine MI.mk ⟨rfl, rfl⟩ (by decide +kernel) (Nat.le_of_ble_eq_true rfl) ?_
  intro p e s m below meth c A ls B hA hP hD hS hl
  have hx := B.1
  have hb := B.2.1
  have hts := B.2.2.2.2.2.1
  have hN := B.2.2.2.2.2.2.2.1
  have hK := B.2.2.2.2.2.2.2.2.1
  have hl : lv_has ls 3 [(0, .ref (ad 0)), (1, .int (nI s_)), (2, .int (nI g))] := hl
  refine lv_aload_n hx hb dX6_switched_0 rfl (lv_at hl 0 rfl) ?_
  refine lv_iload_n hx hb dX6_switched_1 rfl (lv_at hl 1 rfl) ?_
  refine fS_i (as := [.int (nI s_)]) (rest := [.ref (ad 0)]) B hl.1 (c_X6_isRouter l D cI cZ (wR cI cZ ad co fa ic me sw cn ab go cp so gr re db rclk rlim (nI rqd) (nI rpk) rwas rthr) s_ (by omega)) (l_RX6_86 hts ⟨rfl, rfl⟩ ⟨Nat.le_of_ble_eq_true rfl, Nat.le_of_ble_eq_true rfl⟩) m_8_22 rfl rfl hP hD hS hA rfl (Nat.le_of_ble_eq_true rfl) dX6_switched_2 (fun H locs hP hD hS => ?_)
  refine r_if_eq (tgt := 19) hx hb (by omega) dX6_switched_5 (by decide) (fun c => absurd c (by omega)) (fun _ => ?_)
  refine lv_iload_n hx hb dX6_switched_8 rfl (lv_at hl 2 rfl) ?_
  refine fS_i (as := [.int (nI g)]) (rest := [.ref (ad 0)]) B hl.1 (c_X6_isGroup l D cI cZ (wR cI cZ ad co fa ic me sw cn ab go cp so gr re db rclk rlim (nI rqd) (nI rpk) rwas rthr) g (by omega)) (l_RX6_96 hts ⟨rfl, rfl⟩ ⟨Nat.le_of_ble_eq_true rfl, Nat.le_of_ble_eq_true rfl⟩) m_13_9 rfl rfl hP hD hS hA rfl (Nat.le_of_ble_eq_true rfl) dX6_switched_9 (fun H locs hP hD hS => ?_)
  refine r_if_eq (tgt := 19) hx hb (by omega) dX6_switched_12 (by decide) (fun c => absurd c (by omega)) (fun _ => ?_)
  refine lv_iconst (v := nI 0) hx hb dX6_switched_15 (by decide) ?_
  refine lv_goto (tgt := 20) hx hb dX6_switched_16 (by decide) ?_
  refine fV_i (ci := 6) (as := [.int (nI 0)]) (rest := []) B hl.1 (c_X6_can_0 l D cI cZ ad co fa ic me sw cn ab go cp so gr re db rclk rlim rqd rpk rwas rthr) rfl (l_RX6_90 hts ⟨rfl, rfl⟩ ⟨Nat.le_of_ble_eq_true rfl, Nat.le_of_ble_eq_true rfl⟩) m_9_1 m_9_2 rfl rfl hP hD hS hA 0 rfl wfR (Nat.le_of_ble_eq_true rfl) dX6_switched_20 (fun H locs hP hD hS => ?_)
  refine r_if_eq (tgt := 40) hx hb (by omega) dX6_switched_23 (by decide) (fun c => absurd c (by omega)) (fun _ => ?_)
  refine lv_aload_n hx hb dX6_switched_26 rfl (lv_at hl 0 rfl) ?_
  refine g_X6_27 B hP 0 rfl rfl dX6_switched_27 ?_
  refine lv_bipush (v := nI 10) hx hb dX6_switched_30 (by decide) ?_
  refine lv_iload_n hx hb dX6_switched_32 rfl (lv_at hl 2 rfl) ?_
  refine r_imul hx hb dX6_switched_33 ?_
  refine lv_iload_n hx hb dX6_switched_34 rfl (lv_at hl 1 rfl) ?_
  refine r_iadd hx hb dX6_switched_35 ?_
  refine r_iald hx hb hK hP 5 0 rfl rfl (by omega) (by decide) dX6_switched_36 ?_
  refine lv_goto (tgt := 41) hx hb dX6_switched_37 (by decide) ?_
  exact eI B hP hS rfl rfl dX6_switched_41
set_option maxHeartbeats 4000000 in
set_option maxRecDepth 100000 in
theorem c_X6_branches (l : Launch) (D : va_G) (cI cZ : ClassId) (ad : Nat → Nat) (co fa ic me sw cn ab go cp so gr re db : Nat → Int32) (rclk : Int32) (rlim : Int32) (rqd : Nat) (rpk : Nat) (rwas : Int32) (rthr : Int32) (r : Nat) (g : Nat) (hr : r < 10) (hg : g < 4) : MI l yX6_branches cX6_branches 3 .int { frames := 1, cells := 0, slots := 0, locals := 24 } D (TY cI cZ) [.ref (ad 0), .int (nI r), .int (nI g)] (wR cI cZ ad co fa ic me sw cn ab go cp so gr re db rclk rlim (nI rqd) (nI rpk) rwas rthr) (wR cI cZ ad co fa ic me sw cn ab go cp so gr re db rclk rlim (nI rqd) (nI rpk) rwas (nI 0)) (f_X6_below ((11 * g) + 10) r ab) := by
  refine MI.mk ⟨rfl, rfl⟩ (by decide +kernel) (Nat.le_of_ble_eq_true rfl) ?_
  intro p e s m below meth c A ls B hA hP hD hS hl
  have hx := B.1
  have hb := B.2.1
  have hts := B.2.2.2.2.2.1
  have hN := B.2.2.2.2.2.2.2.1
  have hK := B.2.2.2.2.2.2.2.2.1
  have hl : lv_has ls 3 [(0, .ref (ad 0)), (1, .int (nI r)), (2, .int (nI g))] := hl
  refine lv_aload_n hx hb dX6_branches_0 rfl (lv_at hl 0 rfl) ?_
  refine lv_iload_n hx hb dX6_branches_1 rfl (lv_at hl 1 rfl) ?_
  refine fS_i (as := [.int (nI r)]) (rest := [.ref (ad 0)]) B hl.1 (c_X6_isRouter l D cI cZ (wR cI cZ ad co fa ic me sw cn ab go cp so gr re db rclk rlim (nI rqd) (nI rpk) rwas rthr) r (by omega)) (l_RX6_86 hts ⟨rfl, rfl⟩ ⟨Nat.le_of_ble_eq_true rfl, Nat.le_of_ble_eq_true rfl⟩) m_8_22 rfl rfl hP hD hS hA rfl (Nat.le_of_ble_eq_true rfl) dX6_branches_2 (fun H locs hP hD hS => ?_)
  refine r_if_eq (tgt := 19) hx hb (by omega) dX6_branches_5 (by decide) (fun c => absurd c (by omega)) (fun _ => ?_)
  refine lv_iload_n hx hb dX6_branches_8 rfl (lv_at hl 2 rfl) ?_
  refine fS_i (as := [.int (nI g)]) (rest := [.ref (ad 0)]) B hl.1 (c_X6_isGroup l D cI cZ (wR cI cZ ad co fa ic me sw cn ab go cp so gr re db rclk rlim (nI rqd) (nI rpk) rwas rthr) g (by omega)) (l_RX6_96 hts ⟨rfl, rfl⟩ ⟨Nat.le_of_ble_eq_true rfl, Nat.le_of_ble_eq_true rfl⟩) m_13_9 rfl rfl hP hD hS hA rfl (Nat.le_of_ble_eq_true rfl) dX6_branches_9 (fun H locs hP hD hS => ?_)
  refine r_if_eq (tgt := 19) hx hb (by omega) dX6_branches_12 (by decide) (fun c => absurd c (by omega)) (fun _ => ?_)
  refine lv_iconst (v := nI 0) hx hb dX6_branches_15 (by decide) ?_
  refine lv_goto (tgt := 20) hx hb dX6_branches_16 (by decide) ?_
  refine fV_i (ci := 6) (as := [.int (nI 0)]) (rest := []) B hl.1 (c_X6_can_0 l D cI cZ ad co fa ic me sw cn ab go cp so gr re db rclk rlim rqd rpk rwas rthr) rfl (l_RX6_90 hts ⟨rfl, rfl⟩ ⟨Nat.le_of_ble_eq_true rfl, Nat.le_of_ble_eq_true rfl⟩) m_9_1 m_9_2 rfl rfl hP hD hS hA 0 rfl wfR (Nat.le_of_ble_eq_true rfl) dX6_branches_20 (fun H locs hP hD hS => ?_)
  refine r_if_eq (tgt := 41) hx hb (by omega) dX6_branches_23 (by decide) (fun c => absurd c (by omega)) (fun _ => ?_)
  refine lv_aload_n hx hb dX6_branches_26 rfl (lv_at hl 0 rfl) ?_
  refine lv_bipush (v := nI 11) hx hb dX6_branches_27 (by decide) ?_
  refine lv_iload_n hx hb dX6_branches_29 rfl (lv_at hl 2 rfl) ?_
  refine r_imul hx hb dX6_branches_30 ?_
  refine lv_bipush (v := nI 10) hx hb dX6_branches_31 (by decide) ?_
  refine r_iadd hx hb dX6_branches_33 ?_
  refine lv_iload_n hx hb dX6_branches_34 rfl (lv_at hl 1 rfl) ?_
  refine fV_i (ci := 6) (as := [.int (nI ((11 * g) + 10)), .int (nI r)]) (rest := []) B hl.1 (c_X6_below l D cI cZ ad co fa ic me sw cn ab go cp so gr re db rclk rlim rqd rpk rwas (nI 0) ((11 * g) + 10) r (by omega) (by omega)) rfl (l_RX6_76 hts ⟨rfl, rfl⟩ ⟨Nat.le_of_ble_eq_true rfl, Nat.le_of_ble_eq_true rfl⟩) m_17_5 m_17_6 rfl rfl hP hD hS hA 0 rfl wfR (Nat.le_of_ble_eq_true rfl) dX6_branches_35 (fun H locs hP hD hS => ?_)
  refine lv_goto (tgt := 42) hx hb dX6_branches_38 (by decide) ?_
  exact eI B hP hS rfl rfl dX6_branches_42
set_option maxHeartbeats 4000000 in
set_option maxRecDepth 100000 in
theorem c_X6_sourceBranches (l : Launch) (D : va_G) (cI cZ : ClassId) (ad : Nat → Nat) (co fa ic me sw cn ab go cp so gr re db : Nat → Int32) (rclk : Int32) (rlim : Int32) (rqd : Nat) (rpk : Nat) (rwas : Int32) (rthr : Int32) (r : Nat) (s_ : Nat) (g : Nat) (hr : r < 10) (hs_ : s_ < 10) (hg : g < 4) : MI l yX6_sourceBranches cX6_sourceBranches 4 .int { frames := 1, cells := 0, slots := 0, locals := 24 } D (TY cI cZ) [.ref (ad 0), .int (nI r), .int (nI s_), .int (nI g)] (wR cI cZ ad co fa ic me sw cn ab go cp so gr re db rclk rlim (nI rqd) (nI rpk) rwas rthr) (wR cI cZ ad co fa ic me sw cn ab go cp so gr re db rclk rlim (nI rqd) (nI rpk) rwas (nI 0)) (f_X6_below ((11 * g) + s_) r ab) := by
  refine MI.mk ⟨rfl, rfl⟩ (by decide +kernel) (Nat.le_of_ble_eq_true rfl) ?_
  intro p e s m below meth c A ls B hA hP hD hS hl
  have hx := B.1
  have hb := B.2.1
  have hts := B.2.2.2.2.2.1
  have hN := B.2.2.2.2.2.2.2.1
  have hK := B.2.2.2.2.2.2.2.2.1
  have hl : lv_has ls 4 [(0, .ref (ad 0)), (1, .int (nI r)), (2, .int (nI s_)), (3, .int (nI g))] := hl
  refine lv_aload_n hx hb dX6_sourceBranches_0 rfl (lv_at hl 0 rfl) ?_
  refine lv_iload_n hx hb dX6_sourceBranches_1 rfl (lv_at hl 1 rfl) ?_
  refine fS_i (as := [.int (nI r)]) (rest := [.ref (ad 0)]) B hl.1 (c_X6_isRouter l D cI cZ (wR cI cZ ad co fa ic me sw cn ab go cp so gr re db rclk rlim (nI rqd) (nI rpk) rwas rthr) r (by omega)) (l_RX6_86 hts ⟨rfl, rfl⟩ ⟨Nat.le_of_ble_eq_true rfl, Nat.le_of_ble_eq_true rfl⟩) m_8_22 rfl rfl hP hD hS hA rfl (Nat.le_of_ble_eq_true rfl) dX6_sourceBranches_2 (fun H locs hP hD hS => ?_)
  refine r_if_eq (tgt := 26) hx hb (by omega) dX6_sourceBranches_5 (by decide) (fun c => absurd c (by omega)) (fun _ => ?_)
  refine lv_iload_n hx hb dX6_sourceBranches_8 rfl (lv_at hl 2 rfl) ?_
  refine fS_i (as := [.int (nI s_)]) (rest := [.ref (ad 0)]) B hl.1 (c_X6_isRouter l D cI cZ (wR cI cZ ad co fa ic me sw cn ab go cp so gr re db rclk rlim (nI rqd) (nI rpk) rwas rthr) s_ (by omega)) (l_RX6_86 hts ⟨rfl, rfl⟩ ⟨Nat.le_of_ble_eq_true rfl, Nat.le_of_ble_eq_true rfl⟩) m_8_22 rfl rfl hP hD hS hA rfl (Nat.le_of_ble_eq_true rfl) dX6_sourceBranches_9 (fun H locs hP hD hS => ?_)
  refine r_if_eq (tgt := 26) hx hb (by omega) dX6_sourceBranches_12 (by decide) (fun c => absurd c (by omega)) (fun _ => ?_)
  refine lv_iload_n hx hb dX6_sourceBranches_15 rfl (lv_at hl 3 rfl) ?_
  refine fS_i (as := [.int (nI g)]) (rest := [.ref (ad 0)]) B hl.1 (c_X6_isGroup l D cI cZ (wR cI cZ ad co fa ic me sw cn ab go cp so gr re db rclk rlim (nI rqd) (nI rpk) rwas rthr) g (by omega)) (l_RX6_96 hts ⟨rfl, rfl⟩ ⟨Nat.le_of_ble_eq_true rfl, Nat.le_of_ble_eq_true rfl⟩) m_13_9 rfl rfl hP hD hS hA rfl (Nat.le_of_ble_eq_true rfl) dX6_sourceBranches_16 (fun H locs hP hD hS => ?_)
  refine r_if_eq (tgt := 26) hx hb (by omega) dX6_sourceBranches_19 (by decide) (fun c => absurd c (by omega)) (fun _ => ?_)
  refine lv_iconst (v := nI 0) hx hb dX6_sourceBranches_22 (by decide) ?_
  refine lv_goto (tgt := 27) hx hb dX6_sourceBranches_23 (by decide) ?_
  refine fV_i (ci := 6) (as := [.int (nI 0)]) (rest := []) B hl.1 (c_X6_can_0 l D cI cZ ad co fa ic me sw cn ab go cp so gr re db rclk rlim rqd rpk rwas rthr) rfl (l_RX6_90 hts ⟨rfl, rfl⟩ ⟨Nat.le_of_ble_eq_true rfl, Nat.le_of_ble_eq_true rfl⟩) m_9_1 m_9_2 rfl rfl hP hD hS hA 0 rfl wfR (Nat.le_of_ble_eq_true rfl) dX6_sourceBranches_27 (fun H locs hP hD hS => ?_)
  refine r_if_eq (tgt := 47) hx hb (by omega) dX6_sourceBranches_30 (by decide) (fun c => absurd c (by omega)) (fun _ => ?_)
  refine lv_aload_n hx hb dX6_sourceBranches_33 rfl (lv_at hl 0 rfl) ?_
  refine lv_bipush (v := nI 11) hx hb dX6_sourceBranches_34 (by decide) ?_
  refine lv_iload_n hx hb dX6_sourceBranches_36 rfl (lv_at hl 3 rfl) ?_
  refine r_imul hx hb dX6_sourceBranches_37 ?_
  refine lv_iload_n hx hb dX6_sourceBranches_38 rfl (lv_at hl 2 rfl) ?_
  refine r_iadd hx hb dX6_sourceBranches_39 ?_
  refine lv_iload_n hx hb dX6_sourceBranches_40 rfl (lv_at hl 1 rfl) ?_
  refine fV_i (ci := 6) (as := [.int (nI ((11 * g) + s_)), .int (nI r)]) (rest := []) B hl.1 (c_X6_below l D cI cZ ad co fa ic me sw cn ab go cp so gr re db rclk rlim rqd rpk rwas (nI 0) ((11 * g) + s_) r (by omega) (by omega)) rfl (l_RX6_76 hts ⟨rfl, rfl⟩ ⟨Nat.le_of_ble_eq_true rfl, Nat.le_of_ble_eq_true rfl⟩) m_17_5 m_17_6 rfl rfl hP hD hS hA 0 rfl wfR (Nat.le_of_ble_eq_true rfl) dX6_sourceBranches_41 (fun H locs hP hD hS => ?_)
  refine lv_goto (tgt := 48) hx hb dX6_sourceBranches_44 (by decide) ?_
  exact eI B hP hS rfl rfl dX6_sourceBranches_48
set_option maxHeartbeats 4000000 in
set_option maxRecDepth 100000 in
theorem c_X6_isPacket (l : Launch) (D : va_G) (cI cZ : ClassId) (ad : Nat → Nat) (co fa ic me sw cn ab go cp so gr re db : Nat → Int32) (rclk : Int32) (rlim : Int32) (rqd : Nat) (rpk : Nat) (rwas : Int32) (rthr : Int32) (pk : Nat) (hpk : pk < 200) (hrpk : rpk ≤ 200) (hps : pk < rpk) : MI l yX6_isPacket cX6_isPacket 2 .boolean { frames := 1, cells := 0, slots := 0, locals := 21 } D (TY cI cZ) [.ref (ad 0), .int (nI pk)] (wR cI cZ ad co fa ic me sw cn ab go cp so gr re db rclk rlim (nI rqd) (nI rpk) rwas rthr) (wR cI cZ ad co fa ic me sw cn ab go cp so gr re db rclk rlim (nI rqd) (nI rpk) rwas (nI 0)) (nI 1) := by
  refine MI.mk ⟨rfl, rfl⟩ (by decide +kernel) (Nat.le_of_ble_eq_true rfl) ?_
  intro p e s m below meth c A ls B hA hP hD hS hl
  have hx := B.1
  have hb := B.2.1
  have hts := B.2.2.2.2.2.1
  have hN := B.2.2.2.2.2.2.2.1
  have hK := B.2.2.2.2.2.2.2.2.1
  have hl : lv_has ls 2 [(0, .ref (ad 0)), (1, .int (nI pk))] := hl
  refine lv_aload_n hx hb dX6_isPacket_0 rfl (lv_at hl 0 rfl) ?_
  refine lv_iload_n hx hb dX6_isPacket_1 rfl (lv_at hl 1 rfl) ?_
  refine r_if_lt (tgt := 17) hx hb (by omega) dX6_isPacket_2 (by decide) ?_
  refine lv_iload_n hx hb dX6_isPacket_5 rfl (lv_at hl 1 rfl) ?_
  refine lv_aload_n hx hb dX6_isPacket_6 rfl (lv_at hl 0 rfl) ?_
  refine g_X6_121 B hP 0 rfl rfl dX6_isPacket_7 ?_
  refine r_icmp_ge (tgt := 17) hx hb (by omega) (by omega) dX6_isPacket_10 (by decide) (fun c => absurd c (by omega)) (fun _ => ?_)
  refine lv_iconst (v := nI 0) hx hb dX6_isPacket_13 (by decide) ?_
  refine lv_goto (tgt := 18) hx hb dX6_isPacket_14 (by decide) ?_
  refine fV_i (ci := 6) (as := [.int (nI 0)]) (rest := []) B hl.1 (c_X6_can_0 l D cI cZ ad co fa ic me sw cn ab go cp so gr re db rclk rlim rqd rpk rwas rthr) rfl (l_RX6_90 hts ⟨rfl, rfl⟩ ⟨Nat.le_of_ble_eq_true rfl, Nat.le_of_ble_eq_true rfl⟩) m_9_1 m_9_2 rfl rfl hP hD hS hA 0 rfl wfR (Nat.le_of_ble_eq_true rfl) dX6_isPacket_18 (fun H locs hP hD hS => ?_)
  exact eZ B hP hS (by decide) rfl rfl dX6_isPacket_21
set_option maxHeartbeats 4000000 in
set_option maxRecDepth 100000 in
theorem c_X6_received (l : Launch) (D : va_G) (cI cZ : ClassId) (ad : Nat → Nat) (co fa ic me sw cn ab go cp so gr re db : Nat → Int32) (rclk : Int32) (rlim : Int32) (rqd : Nat) (rpk : Nat) (rwas : Int32) (rthr : Int32) (pk : Nat) (hpk : pk < 200) (hrpk : rpk ≤ 200) (hps : pk < rpk) : MI l yX6_received cX6_received 2 .int { frames := 2, cells := 0, slots := 0, locals := 42 } D (TY cI cZ) [.ref (ad 0), .int (nI pk)] (wR cI cZ ad co fa ic me sw cn ab go cp so gr re db rclk rlim (nI rqd) (nI rpk) rwas rthr) (wR cI cZ ad co fa ic me sw cn ab go cp so gr re db rclk rlim (nI rqd) (nI rpk) rwas (nI 0)) (re pk) := by
  refine MI.mk ⟨rfl, rfl⟩ (by decide +kernel) (Nat.le_of_ble_eq_true rfl) ?_
  intro p e s m below meth c A ls B hA hP hD hS hl
  have hx := B.1
  have hb := B.2.1
  have hts := B.2.2.2.2.2.1
  have hN := B.2.2.2.2.2.2.2.1
  have hK := B.2.2.2.2.2.2.2.2.1
  have hl : lv_has ls 2 [(0, .ref (ad 0)), (1, .int (nI pk))] := hl
  refine lv_aload_n hx hb dX6_received_0 rfl (lv_at hl 0 rfl) ?_
  refine lv_iload_n hx hb dX6_received_1 rfl (lv_at hl 1 rfl) ?_
  refine fV_i (ci := 6) (as := [.int (nI pk)]) (rest := []) B hl.1 (c_X6_isPacket l D cI cZ ad co fa ic me sw cn ab go cp so gr re db rclk rlim rqd rpk rwas rthr pk (by omega) (by omega) hps) rfl (l_RX6_132 hts ⟨rfl, rfl⟩ ⟨Nat.le_of_ble_eq_true rfl, Nat.le_of_ble_eq_true rfl⟩) m_26_22 m_26_23 rfl rfl hP hD hS hA 0 rfl wfR (Nat.le_of_ble_eq_true rfl) dX6_received_2 (fun H locs hP hD hS => ?_)
  refine r_if_eq (tgt := 17) hx hb (by omega) dX6_received_5 (by decide) (fun c => absurd c (by omega)) (fun _ => ?_)
  refine lv_aload_n hx hb dX6_received_8 rfl (lv_at hl 0 rfl) ?_
  refine g_X6_48 B hP 0 rfl rfl dX6_received_9 ?_
  refine lv_iload_n hx hb dX6_received_12 rfl (lv_at hl 1 rfl) ?_
  refine r_iald hx hb hK hP 12 0 rfl rfl (by omega) (by decide) dX6_received_13 ?_
  refine lv_goto (tgt := 18) hx hb dX6_received_14 (by decide) ?_
  exact eI B hP hS rfl rfl dX6_received_18
set_option maxHeartbeats 4000000 in
set_option maxRecDepth 100000 in
theorem c_X6_doubles (l : Launch) (D : va_G) (cI cZ : ClassId) (ad : Nat → Nat) (co fa ic me sw cn ab go cp so gr re db : Nat → Int32) (rclk : Int32) (rlim : Int32) (rqd : Nat) (rpk : Nat) (rwas : Int32) (rthr : Int32) (pk : Nat) (hpk : pk < 200) (hrpk : rpk ≤ 200) (hps : pk < rpk) : MI l yX6_doubles cX6_doubles 2 .int { frames := 2, cells := 0, slots := 0, locals := 42 } D (TY cI cZ) [.ref (ad 0), .int (nI pk)] (wR cI cZ ad co fa ic me sw cn ab go cp so gr re db rclk rlim (nI rqd) (nI rpk) rwas rthr) (wR cI cZ ad co fa ic me sw cn ab go cp so gr re db rclk rlim (nI rqd) (nI rpk) rwas (nI 0)) (db pk) := by
  refine MI.mk ⟨rfl, rfl⟩ (by decide +kernel) (Nat.le_of_ble_eq_true rfl) ?_
  intro p e s m below meth c A ls B hA hP hD hS hl
  have hx := B.1
  have hb := B.2.1
  have hts := B.2.2.2.2.2.1
  have hN := B.2.2.2.2.2.2.2.1
  have hK := B.2.2.2.2.2.2.2.2.1
  have hl : lv_has ls 2 [(0, .ref (ad 0)), (1, .int (nI pk))] := hl
  refine lv_aload_n hx hb dX6_doubles_0 rfl (lv_at hl 0 rfl) ?_
  refine lv_iload_n hx hb dX6_doubles_1 rfl (lv_at hl 1 rfl) ?_
  refine fV_i (ci := 6) (as := [.int (nI pk)]) (rest := []) B hl.1 (c_X6_isPacket l D cI cZ ad co fa ic me sw cn ab go cp so gr re db rclk rlim rqd rpk rwas rthr pk (by omega) (by omega) hps) rfl (l_RX6_132 hts ⟨rfl, rfl⟩ ⟨Nat.le_of_ble_eq_true rfl, Nat.le_of_ble_eq_true rfl⟩) m_26_22 m_26_23 rfl rfl hP hD hS hA 0 rfl wfR (Nat.le_of_ble_eq_true rfl) dX6_doubles_2 (fun H locs hP hD hS => ?_)
  refine r_if_eq (tgt := 17) hx hb (by omega) dX6_doubles_5 (by decide) (fun c => absurd c (by omega)) (fun _ => ?_)
  refine lv_aload_n hx hb dX6_doubles_8 rfl (lv_at hl 0 rfl) ?_
  refine g_X6_51 B hP 0 rfl rfl dX6_doubles_9 ?_
  refine lv_iload_n hx hb dX6_doubles_12 rfl (lv_at hl 1 rfl) ?_
  refine r_iald hx hb hK hP 13 0 rfl rfl (by omega) (by decide) dX6_doubles_13 ?_
  refine lv_goto (tgt := 18) hx hb dX6_doubles_14 (by decide) ?_
  exact eI B hP hS rfl rfl dX6_doubles_18
def f_X6_floodMembers_L33 (s_ : Nat) (g : Nat) (fa : Nat → Int32) (me : Nat → Int32) : Nat → Nat → Int32 → Int32 × Int32
  | 0, _, x3_33 => (x3_33 &&& (me g), nI 0)
  | n33 + 1, k33, x3_33 => if (nI 1000000) ≤ (fa ((10 * s_) + k33)) then f_X6_floodMembers_L33 s_ g fa me n33 (k33 + 1) (x3_33 ||| (nI 0)) else f_X6_floodMembers_L33 s_ g fa me n33 (k33 + 1) (x3_33 ||| ((nI 1) <<< ((nI k33) &&& 31)))
def f_X6_floodMembers (s_ : Nat) (g : Nat) (fa : Nat → Int32) (me : Nat → Int32) : Int32 × Int32 :=
  f_X6_floodMembers_L33 s_ g fa me 10 0 (nI 0)
set_option maxHeartbeats 4000000 in
set_option maxRecDepth 100000 in
theorem c_X6_floodMembers (l : Launch) (D : va_G) (cI cZ : ClassId) (ad : Nat → Nat) (co fa ic me sw cn ab go cp so gr re db : Nat → Int32) (rclk : Int32) (rlim : Int32) (rqd : Nat) (rpk : Nat) (rwas : Int32) (rthr : Int32) (s_ : Nat) (g : Nat) (hs_ : s_ < 10) (hg : g < 4) : MI l yX6_floodMembers cX6_floodMembers 5 .int { frames := 1, cells := 0, slots := 0, locals := 21 } D (TY cI cZ) [.ref (ad 0), .int (nI s_), .int (nI g)] (wR cI cZ ad co fa ic me sw cn ab go cp so gr re db rclk rlim (nI rqd) (nI rpk) rwas rthr) (wR cI cZ ad co fa ic me sw cn ab go cp so gr re db rclk rlim (nI rqd) (nI rpk) rwas ((f_X6_floodMembers s_ g fa me).2)) ((f_X6_floodMembers s_ g fa me).1) := by
  refine MI.mk ⟨rfl, rfl⟩ (by decide +kernel) (Nat.le_of_ble_eq_true rfl) ?_
  intro p e s m below meth c A ls B hA hP hD hS hl
  have hx := B.1
  have hb := B.2.1
  have hts := B.2.2.2.2.2.1
  have hN := B.2.2.2.2.2.2.2.1
  have hK := B.2.2.2.2.2.2.2.2.1
  have hl : lv_has ls 5 [(0, .ref (ad 0)), (1, .int (nI s_)), (2, .int (nI g))] := hl
  have hf := f_X6_floodMembers.eq_1 s_ g fa me
  refine lv_aload_n hx hb dX6_floodMembers_0 rfl (lv_at hl 0 rfl) ?_
  refine lv_iload_n hx hb dX6_floodMembers_1 rfl (lv_at hl 1 rfl) ?_
  refine fS_i (as := [.int (nI s_)]) (rest := [.ref (ad 0)]) B hl.1 (c_X6_isRouter l D cI cZ (wR cI cZ ad co fa ic me sw cn ab go cp so gr re db rclk rlim (nI rqd) (nI rpk) rwas rthr) s_ (by omega)) (l_RX6_86 hts ⟨rfl, rfl⟩ ⟨Nat.le_of_ble_eq_true rfl, Nat.le_of_ble_eq_true rfl⟩) m_8_22 rfl rfl hP hD hS hA rfl (Nat.le_of_ble_eq_true rfl) dX6_floodMembers_2 (fun H locs hP hD hS => ?_)
  refine r_if_eq (tgt := 19) hx hb (by omega) dX6_floodMembers_5 (by decide) (fun c => absurd c (by omega)) (fun _ => ?_)
  refine lv_iload_n hx hb dX6_floodMembers_8 rfl (lv_at hl 2 rfl) ?_
  refine fS_i (as := [.int (nI g)]) (rest := [.ref (ad 0)]) B hl.1 (c_X6_isGroup l D cI cZ (wR cI cZ ad co fa ic me sw cn ab go cp so gr re db rclk rlim (nI rqd) (nI rpk) rwas rthr) g (by omega)) (l_RX6_96 hts ⟨rfl, rfl⟩ ⟨Nat.le_of_ble_eq_true rfl, Nat.le_of_ble_eq_true rfl⟩) m_13_9 rfl rfl hP hD hS hA rfl (Nat.le_of_ble_eq_true rfl) dX6_floodMembers_9 (fun H locs hP hD hS => ?_)
  refine r_if_eq (tgt := 19) hx hb (by omega) dX6_floodMembers_12 (by decide) (fun c => absurd c (by omega)) (fun _ => ?_)
  refine lv_iconst (v := nI 0) hx hb dX6_floodMembers_15 (by decide) ?_
  refine lv_goto (tgt := 20) hx hb dX6_floodMembers_16 (by decide) ?_
  refine fV_i (ci := 6) (as := [.int (nI 0)]) (rest := []) B hl.1 (c_X6_can_0 l D cI cZ ad co fa ic me sw cn ab go cp so gr re db rclk rlim rqd rpk rwas rthr) rfl (l_RX6_90 hts ⟨rfl, rfl⟩ ⟨Nat.le_of_ble_eq_true rfl, Nat.le_of_ble_eq_true rfl⟩) m_9_1 m_9_2 rfl rfl hP hD hS hA 0 rfl wfR (Nat.le_of_ble_eq_true rfl) dX6_floodMembers_20 (fun H locs hP hD hS => ?_)
  refine r_if_ne (tgt := 28) hx hb (by omega) dX6_floodMembers_23 (by decide) (fun _ => ?_) (fun c => absurd c (by omega))
  refine lv_iconst (v := nI 0) hx hb dX6_floodMembers_28 (by decide) ?_
  refine lv_istore_n (lv' := [(3, .int (nI 0)), (0, .ref (ad 0)), (1, .int (nI s_)), (2, .int (nI g))]) hx hb dX6_floodMembers_29 rfl hl (by decide) rfl (fun ls hl => ?_)
  refine lv_iconst (v := nI 0) hx hb dX6_floodMembers_30 (by decide) ?_
  refine lv_istore (lv' := [(4, .int (nI 0)), (3, .int (nI 0)), (0, .ref (ad 0)), (1, .int (nI s_)), (2, .int (nI g))]) hx hb dX6_floodMembers_31 hl (by decide) rfl (fun ls hl => ?_)
  have L33 : ∀ (n33 : Nat) (k33 : Nat) (x3_33 : Int32), k33 + n33 = 10 → f_X6_floodMembers s_ g fa me = (f_X6_floodMembers_L33 s_ g fa me n33 k33 x3_33) → ∀ (H : Heap) (locs : List Loc), va_P D vwCl (wR cI cZ ad co fa ic me sw cn ab go cp so gr re db rclk rlim (nI rqd) (nI rpk) rwas (nI 0)) H → va_D A (wR cI cZ ad co fa ic me sw cn ab go cp so gr re db rclk rlim (nI rqd) (nI rpk) rwas (nI 0)) → va_S A s.heap H locs → ∀ ls : Array Slot, lv_has ls 5 [(0, .ref (ad 0)), (1, .int (nI s_)), (2, .int (nI g)), (3, .int x3_33), (4, .int (nI k33))] → W p l e { frames := 1, cells := 0, slots := 0, locals := 21 } s m [.ref (ad 0), .int (nI s_), .int (nI g)].toArray below meth c H locs 0 0 (QI below s A D [.ref (ad 0), .int (nI s_), .int (nI g)] (wR cI cZ ad co fa ic me sw cn ab go cp so gr re db rclk rlim (nI rqd) (nI rpk) rwas ((f_X6_floodMembers s_ g fa me).2)) ((f_X6_floodMembers s_ g fa me).1)) (F0 m 33 ls []) := by
    intro n33
    induction n33 with
    | zero =>
      intro k33 x3_33 hk33 hf H locs hP hD hS ls hl
      obtain rfl : 10 = k33 := by omega
      rw [f_X6_floodMembers_L33] at hf
      have hl : lv_has ls 5 [(0, .ref (ad 0)), (1, .int (nI s_)), (2, .int (nI g)), (3, .int x3_33), (4, .int (nI 10))] := hl
      refine lv_iload hx hb dX6_floodMembers_33 (lv_at hl 4 rfl) ?_
      refine lv_bipush (v := nI 10) hx hb dX6_floodMembers_35 (by decide) ?_
      refine r_icmp_ge (tgt := 74) hx hb (by omega) (by omega) dX6_floodMembers_37 (by decide) (fun _ => ?_) (fun c => absurd c (by omega))
      refine lv_iload_n hx hb dX6_floodMembers_74 rfl (lv_at hl 3 rfl) ?_
      refine lv_aload_n hx hb dX6_floodMembers_75 rfl (lv_at hl 0 rfl) ?_
      refine g_X6_24 B hP 0 rfl rfl dX6_floodMembers_76 ?_
      refine lv_iload_n hx hb dX6_floodMembers_79 rfl (lv_at hl 2 rfl) ?_
      refine r_iald hx hb hK hP 4 0 rfl rfl (by omega) (by decide) dX6_floodMembers_80 ?_
      refine lv_iand hx hb dX6_floodMembers_81 ?_
      exact eI B hP hS (by simp only [hf]) (by simp only [hf]) dX6_floodMembers_82
    | succ n33 ih33 =>
      intro k33 x3_33 hk33 hf H locs hP hD hS ls hl
      rw [f_X6_floodMembers_L33] at hf
      have hl : lv_has ls 5 [(0, .ref (ad 0)), (1, .int (nI s_)), (2, .int (nI g)), (3, .int x3_33), (4, .int (nI k33))] := hl
      refine lv_iload hx hb dX6_floodMembers_33 (lv_at hl 4 rfl) ?_
      refine lv_bipush (v := nI 10) hx hb dX6_floodMembers_35 (by decide) ?_
      refine r_icmp_ge (tgt := 74) hx hb (by omega) (by omega) dX6_floodMembers_37 (by decide) (fun c => absurd c (by omega)) (fun _ => ?_)
      refine lv_iload_n hx hb dX6_floodMembers_40 rfl (lv_at hl 3 rfl) ?_
      refine lv_aload_n hx hb dX6_floodMembers_41 rfl (lv_at hl 0 rfl) ?_
      refine g_X6_17 B hP 0 rfl rfl dX6_floodMembers_42 ?_
      refine lv_bipush (v := nI 10) hx hb dX6_floodMembers_45 (by decide) ?_
      refine lv_iload_n hx hb dX6_floodMembers_47 rfl (lv_at hl 1 rfl) ?_
      refine r_imul hx hb dX6_floodMembers_48 ?_
      refine lv_iload hx hb dX6_floodMembers_49 (lv_at hl 4 rfl) ?_
      refine r_iadd hx hb dX6_floodMembers_51 ?_
      refine r_iald hx hb hK hP 2 0 rfl rfl (by omega) (by decide) dX6_floodMembers_52 ?_
      refine lv_ldc (v := nI 1000000) hx hb B.2.2.2.2.1 (hts _ m_6_17) dX6_floodMembers_53 ?_
      refine lv_icmp_ge (tgt := 65) hx hb dX6_floodMembers_55 (by decide) (fun c4 => ?_) (fun c4 => ?_)
      · have hf := hf.trans (if_pos c4)
        refine lv_iconst (v := nI 0) hx hb dX6_floodMembers_65 (by decide) ?_
        refine lv_ior hx hb dX6_floodMembers_66 ?_
        refine lv_istore_n (lv' := [(3, .int (x3_33 ||| (nI 0))), (0, .ref (ad 0)), (1, .int (nI s_)), (2, .int (nI g)), (4, .int (nI k33))]) hx hb dX6_floodMembers_67 rfl hl (by decide) rfl (fun ls hl => ?_)
        refine lv_iinc (v := nI (k33 + 1)) (lv' := [(4, .int (nI (k33 + 1))), (3, .int (x3_33 ||| (nI 0))), (0, .ref (ad 0)), (1, .int (nI s_)), (2, .int (nI g))]) hx hb dX6_floodMembers_68 hl (k := 4) rfl (nI_add _ _) (by decide) rfl (fun ls hl => ?_)
        refine lv_goto (tgt := 33) hx hb dX6_floodMembers_71 (by decide) ?_
        exact ih33 (k33 + 1) (x3_33 ||| (nI 0)) (by omega) hf _ _ hP hD hS _ (lv_sub hl [2, 3, 4, 1, 0] rfl)
      · have hf := hf.trans (if_neg c4)
        refine lv_iconst (v := nI 1) hx hb dX6_floodMembers_58 (by decide) ?_
        refine lv_iload hx hb dX6_floodMembers_59 (lv_at hl 4 rfl) ?_
        refine lv_ishl hx hb dX6_floodMembers_61 ?_
        refine lv_goto (tgt := 66) hx hb dX6_floodMembers_62 (by decide) ?_
        refine lv_ior hx hb dX6_floodMembers_66 ?_
        refine lv_istore_n (lv' := [(3, .int (x3_33 ||| ((nI 1) <<< ((nI k33) &&& 31)))), (0, .ref (ad 0)), (1, .int (nI s_)), (2, .int (nI g)), (4, .int (nI k33))]) hx hb dX6_floodMembers_67 rfl hl (by decide) rfl (fun ls hl => ?_)
        refine lv_iinc (v := nI (k33 + 1)) (lv' := [(4, .int (nI (k33 + 1))), (3, .int (x3_33 ||| ((nI 1) <<< ((nI k33) &&& 31)))), (0, .ref (ad 0)), (1, .int (nI s_)), (2, .int (nI g))]) hx hb dX6_floodMembers_68 hl (k := 4) rfl (nI_add _ _) (by decide) rfl (fun ls hl => ?_)
        refine lv_goto (tgt := 33) hx hb dX6_floodMembers_71 (by decide) ?_
        exact ih33 (k33 + 1) (x3_33 ||| ((nI 1) <<< ((nI k33) &&& 31))) (by omega) hf _ _ hP hD hS _ (lv_sub hl [2, 3, 4, 1, 0] rfl)
  exact L33 10 0 (nI 0) (by omega) hf _ _ hP hD hS _ (lv_sub hl [2, 3, 4, 1, 0] rfl)
def f_X6_floodCopies_L37 (co : Nat → Int32) (k25 : Nat) : Nat → Nat → Int32 → Int32
  | 0, _, x4_37 => x4_37
  | n37 + 1, k37, x4_37 => if (co ((10 * k25) + k37)) ≤ 0 then f_X6_floodCopies_L37 co k25 n37 (k37 + 1) (x4_37 + (nI 0)) else f_X6_floodCopies_L37 co k25 n37 (k37 + 1) (x4_37 + (nI 1))
def f_X6_floodCopies_L25 (s_ : Nat) (co : Nat → Int32) (fa : Nat → Int32) : Nat → Nat → Int32 → Int32 × Int32
  | 0, _, x2_25 => (x2_25, nI 0)
  | n25 + 1, k25, x2_25 => if (fa ((10 * s_) + k25)) = (nI 1000000) then f_X6_floodCopies_L25 s_ co fa n25 (k25 + 1) (x2_25 + (nI 0)) else if k25 = s_ then f_X6_floodCopies_L25 s_ co fa n25 (k25 + 1) (x2_25 + (f_X6_floodCopies_L37 co k25 10 0 (nI 0))) else f_X6_floodCopies_L25 s_ co fa n25 (k25 + 1) (x2_25 + ((f_X6_floodCopies_L37 co k25 10 0 (nI 0)) - (nI 1)))
def f_X6_floodCopies (s_ : Nat) (co : Nat → Int32) (fa : Nat → Int32) : Int32 × Int32 :=
  f_X6_floodCopies_L25 s_ co fa 10 0 (nI 0)
set_option maxHeartbeats 4000000 in
set_option maxRecDepth 100000 in
theorem c_X6_floodCopies (l : Launch) (D : va_G) (cI cZ : ClassId) (ad : Nat → Nat) (co fa ic me sw cn ab go cp so gr re db : Nat → Int32) (rclk : Int32) (rlim : Int32) (rqd : Nat) (rpk : Nat) (rwas : Int32) (rthr : Int32) (s_ : Nat) (hs_ : s_ < 10) : MI l yX6_floodCopies cX6_floodCopies 6 .int { frames := 1, cells := 0, slots := 0, locals := 21 } D (TY cI cZ) [.ref (ad 0), .int (nI s_)] (wR cI cZ ad co fa ic me sw cn ab go cp so gr re db rclk rlim (nI rqd) (nI rpk) rwas rthr) (wR cI cZ ad co fa ic me sw cn ab go cp so gr re db rclk rlim (nI rqd) (nI rpk) rwas ((f_X6_floodCopies s_ co fa).2)) ((f_X6_floodCopies s_ co fa).1) := by
  refine MI.mk ⟨rfl, rfl⟩ (by decide +kernel) (Nat.le_of_ble_eq_true rfl) ?_
  intro p e s m below meth c A ls B hA hP hD hS hl
  have hx := B.1
  have hb := B.2.1
  have hts := B.2.2.2.2.2.1
  have hN := B.2.2.2.2.2.2.2.1
  have hK := B.2.2.2.2.2.2.2.2.1
  have hl : lv_has ls 6 [(0, .ref (ad 0)), (1, .int (nI s_))] := hl
  have hf := f_X6_floodCopies.eq_1 s_ co fa
  refine lv_aload_n hx hb dX6_floodCopies_0 rfl (lv_at hl 0 rfl) ?_
  refine lv_iload_n hx hb dX6_floodCopies_1 rfl (lv_at hl 1 rfl) ?_
  refine fS_i (as := [.int (nI s_)]) (rest := [.ref (ad 0)]) B hl.1 (c_X6_isRouter l D cI cZ (wR cI cZ ad co fa ic me sw cn ab go cp so gr re db rclk rlim (nI rqd) (nI rpk) rwas rthr) s_ (by omega)) (l_RX6_86 hts ⟨rfl, rfl⟩ ⟨Nat.le_of_ble_eq_true rfl, Nat.le_of_ble_eq_true rfl⟩) m_8_22 rfl rfl hP hD hS hA rfl (Nat.le_of_ble_eq_true rfl) dX6_floodCopies_2 (fun H locs hP hD hS => ?_)
  refine r_if_eq (tgt := 12) hx hb (by omega) dX6_floodCopies_5 (by decide) (fun c => absurd c (by omega)) (fun _ => ?_)
  refine lv_iconst (v := nI 0) hx hb dX6_floodCopies_8 (by decide) ?_
  refine lv_goto (tgt := 13) hx hb dX6_floodCopies_9 (by decide) ?_
  refine fV_i (ci := 6) (as := [.int (nI 0)]) (rest := []) B hl.1 (c_X6_can_0 l D cI cZ ad co fa ic me sw cn ab go cp so gr re db rclk rlim rqd rpk rwas rthr) rfl (l_RX6_90 hts ⟨rfl, rfl⟩ ⟨Nat.le_of_ble_eq_true rfl, Nat.le_of_ble_eq_true rfl⟩) m_9_1 m_9_2 rfl rfl hP hD hS hA 0 rfl wfR (Nat.le_of_ble_eq_true rfl) dX6_floodCopies_13 (fun H locs hP hD hS => ?_)
  refine r_if_ne (tgt := 21) hx hb (by omega) dX6_floodCopies_16 (by decide) (fun _ => ?_) (fun c => absurd c (by omega))
  refine lv_iconst (v := nI 0) hx hb dX6_floodCopies_21 (by decide) ?_
  refine lv_istore_n (lv' := [(2, .int (nI 0)), (0, .ref (ad 0)), (1, .int (nI s_))]) hx hb dX6_floodCopies_22 rfl hl (by decide) rfl (fun ls hl => ?_)
  refine lv_iconst (v := nI 0) hx hb dX6_floodCopies_23 (by decide) ?_
  refine lv_istore_n (lv' := [(3, .int (nI 0)), (2, .int (nI 0)), (0, .ref (ad 0)), (1, .int (nI s_))]) hx hb dX6_floodCopies_24 rfl hl (by decide) rfl (fun ls hl => ?_)
  have L25 : ∀ (n25 : Nat) (k25 : Nat) (x2_25 : Int32), k25 + n25 = 10 → f_X6_floodCopies s_ co fa = (f_X6_floodCopies_L25 s_ co fa n25 k25 x2_25) → ∀ (H : Heap) (locs : List Loc), va_P D vwCl (wR cI cZ ad co fa ic me sw cn ab go cp so gr re db rclk rlim (nI rqd) (nI rpk) rwas (nI 0)) H → va_D A (wR cI cZ ad co fa ic me sw cn ab go cp so gr re db rclk rlim (nI rqd) (nI rpk) rwas (nI 0)) → va_S A s.heap H locs → ∀ ls : Array Slot, lv_has ls 6 [(0, .ref (ad 0)), (1, .int (nI s_)), (2, .int x2_25), (3, .int (nI k25))] → W p l e { frames := 1, cells := 0, slots := 0, locals := 21 } s m [.ref (ad 0), .int (nI s_)].toArray below meth c H locs 0 0 (QI below s A D [.ref (ad 0), .int (nI s_)] (wR cI cZ ad co fa ic me sw cn ab go cp so gr re db rclk rlim (nI rqd) (nI rpk) rwas ((f_X6_floodCopies s_ co fa).2)) ((f_X6_floodCopies s_ co fa).1)) (F0 m 25 ls []) := by
    intro n25
    induction n25 with
    | zero =>
      intro k25 x2_25 hk25 hf H locs hP hD hS ls hl
      obtain rfl : 10 = k25 := by omega
      rw [f_X6_floodCopies_L25] at hf
      have hl : lv_has ls 6 [(0, .ref (ad 0)), (1, .int (nI s_)), (2, .int x2_25), (3, .int (nI 10))] := hl
      refine lv_iload_n hx hb dX6_floodCopies_25 rfl (lv_at hl 3 rfl) ?_
      refine lv_bipush (v := nI 10) hx hb dX6_floodCopies_26 (by decide) ?_
      refine r_icmp_ge (tgt := 118) hx hb (by omega) (by omega) dX6_floodCopies_28 (by decide) (fun _ => ?_) (fun c => absurd c (by omega))
      refine lv_iload_n hx hb dX6_floodCopies_118 rfl (lv_at hl 2 rfl) ?_
      exact eI B hP hS (by simp only [hf]) (by simp only [hf]) dX6_floodCopies_119
    | succ n25 ih25 =>
      intro k25 x2_25 hk25 hf H locs hP hD hS ls hl
      rw [f_X6_floodCopies_L25] at hf
      have hl : lv_has ls 6 [(0, .ref (ad 0)), (1, .int (nI s_)), (2, .int x2_25), (3, .int (nI k25))] := hl
      refine lv_iload_n hx hb dX6_floodCopies_25 rfl (lv_at hl 3 rfl) ?_
      refine lv_bipush (v := nI 10) hx hb dX6_floodCopies_26 (by decide) ?_
      refine r_icmp_ge (tgt := 118) hx hb (by omega) (by omega) dX6_floodCopies_28 (by decide) (fun c => absurd c (by omega)) (fun _ => ?_)
      refine lv_iconst (v := nI 0) hx hb dX6_floodCopies_31 (by decide) ?_
      refine lv_istore (lv' := [(4, .int (nI 0)), (0, .ref (ad 0)), (1, .int (nI s_)), (2, .int x2_25), (3, .int (nI k25))]) hx hb dX6_floodCopies_32 hl (by decide) rfl (fun ls hl => ?_)
      refine lv_iconst (v := nI 0) hx hb dX6_floodCopies_34 (by decide) ?_
      refine lv_istore (lv' := [(5, .int (nI 0)), (4, .int (nI 0)), (0, .ref (ad 0)), (1, .int (nI s_)), (2, .int x2_25), (3, .int (nI k25))]) hx hb dX6_floodCopies_35 hl (by decide) rfl (fun ls hl => ?_)
      have L37 : ∀ (n37 : Nat) (k37 : Nat) (x4_37 : Int32), k37 + n37 = 10 → f_X6_floodCopies s_ co fa = (if (fa ((10 * s_) + k25)) = (nI 1000000) then f_X6_floodCopies_L25 s_ co fa n25 (k25 + 1) (x2_25 + (nI 0)) else if k25 = s_ then f_X6_floodCopies_L25 s_ co fa n25 (k25 + 1) (x2_25 + (f_X6_floodCopies_L37 co k25 n37 k37 x4_37)) else f_X6_floodCopies_L25 s_ co fa n25 (k25 + 1) (x2_25 + ((f_X6_floodCopies_L37 co k25 n37 k37 x4_37) - (nI 1)))) → ∀ (H : Heap) (locs : List Loc), va_P D vwCl (wR cI cZ ad co fa ic me sw cn ab go cp so gr re db rclk rlim (nI rqd) (nI rpk) rwas (nI 0)) H → va_D A (wR cI cZ ad co fa ic me sw cn ab go cp so gr re db rclk rlim (nI rqd) (nI rpk) rwas (nI 0)) → va_S A s.heap H locs → ∀ ls : Array Slot, lv_has ls 6 [(0, .ref (ad 0)), (1, .int (nI s_)), (2, .int x2_25), (3, .int (nI k25)), (4, .int x4_37), (5, .int (nI k37))] → W p l e { frames := 1, cells := 0, slots := 0, locals := 21 } s m [.ref (ad 0), .int (nI s_)].toArray below meth c H locs 0 0 (QI below s A D [.ref (ad 0), .int (nI s_)] (wR cI cZ ad co fa ic me sw cn ab go cp so gr re db rclk rlim (nI rqd) (nI rpk) rwas ((f_X6_floodCopies s_ co fa).2)) ((f_X6_floodCopies s_ co fa).1)) (F0 m 37 ls []) := by
        intro n37
        induction n37 with
        | zero =>
          intro k37 x4_37 hk37 hf H locs hP hD hS ls hl
          obtain rfl : 10 = k37 := by omega
          rw [f_X6_floodCopies_L37] at hf
          have hl : lv_has ls 6 [(0, .ref (ad 0)), (1, .int (nI s_)), (2, .int x2_25), (3, .int (nI k25)), (4, .int x4_37), (5, .int (nI 10))] := hl
          refine lv_iload hx hb dX6_floodCopies_37 (lv_at hl 5 rfl) ?_
          refine lv_bipush (v := nI 10) hx hb dX6_floodCopies_39 (by decide) ?_
          refine r_icmp_ge (tgt := 75) hx hb (by omega) (by omega) dX6_floodCopies_41 (by decide) (fun _ => ?_) (fun c => absurd c (by omega))
          refine lv_iload_n hx hb dX6_floodCopies_75 rfl (lv_at hl 2 rfl) ?_
          refine lv_aload_n hx hb dX6_floodCopies_76 rfl (lv_at hl 0 rfl) ?_
          refine g_X6_17 B hP 0 rfl rfl dX6_floodCopies_77 ?_
          refine lv_bipush (v := nI 10) hx hb dX6_floodCopies_80 (by decide) ?_
          refine lv_iload_n hx hb dX6_floodCopies_82 rfl (lv_at hl 1 rfl) ?_
          refine r_imul hx hb dX6_floodCopies_83 ?_
          refine lv_iload_n hx hb dX6_floodCopies_84 rfl (lv_at hl 3 rfl) ?_
          refine r_iadd hx hb dX6_floodCopies_85 ?_
          refine r_iald hx hb hK hP 2 0 rfl rfl (by omega) (by decide) dX6_floodCopies_86 ?_
          refine lv_ldc (v := nI 1000000) hx hb B.2.2.2.2.1 (hts _ m_6_17) dX6_floodCopies_87 ?_
          refine lv_icmp_ne (tgt := 96) hx hb dX6_floodCopies_89 (by decide) (fun c17 => ?_) (fun c17 => ?_)
          · have hf := hf.trans (if_neg c17)
            refine lv_iload_n hx hb dX6_floodCopies_96 rfl (lv_at hl 3 rfl) ?_
            refine lv_iload_n hx hb dX6_floodCopies_97 rfl (lv_at hl 1 rfl) ?_
            refine r_icmp_ne (tgt := 106) hx hb (by omega) (by omega) dX6_floodCopies_98 (by decide) (fun c18 => ?_) (fun c18 => ?_)
            · have hf := hf.trans (if_neg c18)
              refine lv_iload hx hb dX6_floodCopies_106 (lv_at hl 4 rfl) ?_
              refine lv_iconst (v := nI 1) hx hb dX6_floodCopies_108 (by decide) ?_
              refine lv_isub hx hb dX6_floodCopies_109 ?_
              refine lv_iadd hx hb dX6_floodCopies_110 ?_
              refine lv_istore_n (lv' := [(2, .int (x2_25 + (x4_37 - (nI 1)))), (0, .ref (ad 0)), (1, .int (nI s_)), (3, .int (nI k25)), (4, .int x4_37), (5, .int (nI 10))]) hx hb dX6_floodCopies_111 rfl hl (by decide) rfl (fun ls hl => ?_)
              refine lv_iinc (v := nI (k25 + 1)) (lv' := [(3, .int (nI (k25 + 1))), (2, .int (x2_25 + (x4_37 - (nI 1)))), (0, .ref (ad 0)), (1, .int (nI s_)), (4, .int x4_37), (5, .int (nI 10))]) hx hb dX6_floodCopies_112 hl (k := 3) rfl (nI_add _ _) (by decide) rfl (fun ls hl => ?_)
              refine lv_goto (tgt := 25) hx hb dX6_floodCopies_115 (by decide) ?_
              exact ih25 (k25 + 1) (x2_25 + (x4_37 - (nI 1))) (by omega) hf _ _ hP hD hS _ (lv_sub hl [2, 3, 1, 0] rfl)
            · have hf := hf.trans (if_pos c18)
              refine lv_iload hx hb dX6_floodCopies_101 (lv_at hl 4 rfl) ?_
              refine lv_goto (tgt := 110) hx hb dX6_floodCopies_103 (by decide) ?_
              refine lv_iadd hx hb dX6_floodCopies_110 ?_
              refine lv_istore_n (lv' := [(2, .int (x2_25 + x4_37)), (0, .ref (ad 0)), (1, .int (nI s_)), (3, .int (nI k25)), (4, .int x4_37), (5, .int (nI 10))]) hx hb dX6_floodCopies_111 rfl hl (by decide) rfl (fun ls hl => ?_)
              refine lv_iinc (v := nI (k25 + 1)) (lv' := [(3, .int (nI (k25 + 1))), (2, .int (x2_25 + x4_37)), (0, .ref (ad 0)), (1, .int (nI s_)), (4, .int x4_37), (5, .int (nI 10))]) hx hb dX6_floodCopies_112 hl (k := 3) rfl (nI_add _ _) (by decide) rfl (fun ls hl => ?_)
              refine lv_goto (tgt := 25) hx hb dX6_floodCopies_115 (by decide) ?_
              exact ih25 (k25 + 1) (x2_25 + x4_37) (by omega) hf _ _ hP hD hS _ (lv_sub hl [2, 3, 1, 0] rfl)
          · have hf := hf.trans (if_pos c17)
            refine lv_iconst (v := nI 0) hx hb dX6_floodCopies_92 (by decide) ?_
            refine lv_goto (tgt := 110) hx hb dX6_floodCopies_93 (by decide) ?_
            refine lv_iadd hx hb dX6_floodCopies_110 ?_
            refine lv_istore_n (lv' := [(2, .int (x2_25 + (nI 0))), (0, .ref (ad 0)), (1, .int (nI s_)), (3, .int (nI k25)), (4, .int x4_37), (5, .int (nI 10))]) hx hb dX6_floodCopies_111 rfl hl (by decide) rfl (fun ls hl => ?_)
            refine lv_iinc (v := nI (k25 + 1)) (lv' := [(3, .int (nI (k25 + 1))), (2, .int (x2_25 + (nI 0))), (0, .ref (ad 0)), (1, .int (nI s_)), (4, .int x4_37), (5, .int (nI 10))]) hx hb dX6_floodCopies_112 hl (k := 3) rfl (nI_add _ _) (by decide) rfl (fun ls hl => ?_)
            refine lv_goto (tgt := 25) hx hb dX6_floodCopies_115 (by decide) ?_
            exact ih25 (k25 + 1) (x2_25 + (nI 0)) (by omega) hf _ _ hP hD hS _ (lv_sub hl [2, 3, 1, 0] rfl)
        | succ n37 ih37 =>
          intro k37 x4_37 hk37 hf H locs hP hD hS ls hl
          rw [f_X6_floodCopies_L37] at hf
          have hl : lv_has ls 6 [(0, .ref (ad 0)), (1, .int (nI s_)), (2, .int x2_25), (3, .int (nI k25)), (4, .int x4_37), (5, .int (nI k37))] := hl
          refine lv_iload hx hb dX6_floodCopies_37 (lv_at hl 5 rfl) ?_
          refine lv_bipush (v := nI 10) hx hb dX6_floodCopies_39 (by decide) ?_
          refine r_icmp_ge (tgt := 75) hx hb (by omega) (by omega) dX6_floodCopies_41 (by decide) (fun c => absurd c (by omega)) (fun _ => ?_)
          refine lv_iload hx hb dX6_floodCopies_44 (lv_at hl 4 rfl) ?_
          refine lv_aload_n hx hb dX6_floodCopies_46 rfl (lv_at hl 0 rfl) ?_
          refine g_X6_13 B hP 0 rfl rfl dX6_floodCopies_47 ?_
          refine lv_bipush (v := nI 10) hx hb dX6_floodCopies_50 (by decide) ?_
          refine lv_iload_n hx hb dX6_floodCopies_52 rfl (lv_at hl 3 rfl) ?_
          refine r_imul hx hb dX6_floodCopies_53 ?_
          refine lv_iload hx hb dX6_floodCopies_54 (lv_at hl 5 rfl) ?_
          refine r_iadd hx hb dX6_floodCopies_56 ?_
          refine r_iald hx hb hK hP 1 0 rfl rfl (by omega) (by decide) dX6_floodCopies_57 ?_
          refine lv_if_le (tgt := 65) hx hb dX6_floodCopies_58 (by decide) (fun c19 => ?_) (fun c19 => ?_)
          · rw [if_pos c19] at hf
            refine lv_iconst (v := nI 0) hx hb dX6_floodCopies_65 (by decide) ?_
            refine lv_iadd hx hb dX6_floodCopies_66 ?_
            refine lv_istore (lv' := [(4, .int (x4_37 + (nI 0))), (0, .ref (ad 0)), (1, .int (nI s_)), (2, .int x2_25), (3, .int (nI k25)), (5, .int (nI k37))]) hx hb dX6_floodCopies_67 hl (by decide) rfl (fun ls hl => ?_)
            refine lv_iinc (v := nI (k37 + 1)) (lv' := [(5, .int (nI (k37 + 1))), (4, .int (x4_37 + (nI 0))), (0, .ref (ad 0)), (1, .int (nI s_)), (2, .int x2_25), (3, .int (nI k25))]) hx hb dX6_floodCopies_69 hl (k := 5) rfl (nI_add _ _) (by decide) rfl (fun ls hl => ?_)
            refine lv_goto (tgt := 37) hx hb dX6_floodCopies_72 (by decide) ?_
            exact ih37 (k37 + 1) (x4_37 + (nI 0)) (by omega) hf _ _ hP hD hS _ (lv_sub hl [2, 3, 4, 5, 1, 0] rfl)
          · rw [if_neg c19] at hf
            refine lv_iconst (v := nI 1) hx hb dX6_floodCopies_61 (by decide) ?_
            refine lv_goto (tgt := 66) hx hb dX6_floodCopies_62 (by decide) ?_
            refine lv_iadd hx hb dX6_floodCopies_66 ?_
            refine lv_istore (lv' := [(4, .int (x4_37 + (nI 1))), (0, .ref (ad 0)), (1, .int (nI s_)), (2, .int x2_25), (3, .int (nI k25)), (5, .int (nI k37))]) hx hb dX6_floodCopies_67 hl (by decide) rfl (fun ls hl => ?_)
            refine lv_iinc (v := nI (k37 + 1)) (lv' := [(5, .int (nI (k37 + 1))), (4, .int (x4_37 + (nI 1))), (0, .ref (ad 0)), (1, .int (nI s_)), (2, .int x2_25), (3, .int (nI k25))]) hx hb dX6_floodCopies_69 hl (k := 5) rfl (nI_add _ _) (by decide) rfl (fun ls hl => ?_)
            refine lv_goto (tgt := 37) hx hb dX6_floodCopies_72 (by decide) ?_
            exact ih37 (k37 + 1) (x4_37 + (nI 1)) (by omega) hf _ _ hP hD hS _ (lv_sub hl [2, 3, 4, 5, 1, 0] rfl)
      exact L37 10 0 (nI 0) (by omega) hf _ _ hP hD hS _ (lv_sub hl [2, 3, 4, 5, 1, 0] rfl)
  exact L25 10 0 (nI 0) (by omega) hf _ _ hP hD hS _ (lv_sub hl [2, 3, 1, 0] rfl)
def f_X6_setLink (r : Nat) (o : Nat) (c_ : Nat) (co : Nat → Int32) (fa : Nat → Int32) (ic : Nat → Int32) (me : Nat → Int32) (sw : Nat → Int32) (ab : Nat → Int32) (go : Nat → Int32) : Int32 × (Nat → Int32) × (Nat → Int32) × (Nat → Int32) × (Nat → Int32) × Int32 :=
  if (co ((10 * r) + o)) = (nI c_) then (co ((10 * r) + o), co, fa, ab, go, nI 0) else (co ((10 * r) + o), upd (upd co ((10 * r) + o) (nI c_)) ((10 * o) + r) (nI c_), f_X6_measures (upd (upd co ((10 * r) + o) (nI c_)) ((10 * o) + r) (nI c_)) fa, (f_X6_buildsAnew (upd (upd co ((10 * r) + o) (nI c_)) ((10 * o) + r) (nI c_)) (f_X6_measures (upd (upd co ((10 * r) + o) (nI c_)) ((10 * o) + r) (nI c_)) fa) ic me sw ab go).1, (f_X6_buildsAnew (upd (upd co ((10 * r) + o) (nI c_)) ((10 * o) + r) (nI c_)) (f_X6_measures (upd (upd co ((10 * r) + o) (nI c_)) ((10 * o) + r) (nI c_)) fa) ic me sw ab go).2, nI 0)
set_option maxHeartbeats 4000000 in
set_option maxRecDepth 100000 in
theorem c_X6_setLink (l : Launch) (D : va_G) (cI cZ : ClassId) (ad : Nat → Nat) (co fa ic me sw cn ab go cp so gr re db : Nat → Int32) (rclk : Int32) (rlim : Int32) (rqd : Nat) (rpk : Nat) (rwas : Int32) (rthr : Int32) (r : Nat) (o : Nat) (c_ : Nat) (hr : r < 10) (ho : o < 10) (hc_ : c_ < 21) (hne : ¬ r = o) (hHE2 : HEnd (upd (upd co ((10 * r) + o) (nI c_)) ((10 * o) + r) (nI c_)) (f_X6_measures (upd (upd co ((10 * r) + o) (nI c_)) ((10 * o) + r) (nI c_)) fa) ic) : MI l yX6_setLink cX6_setLink 5 .int { frames := 4, cells := 0, slots := 0, locals := 95 } D (TY cI cZ) [.ref (ad 0), .int (nI r), .int (nI o), .int (nI c_)] (wR cI cZ ad co fa ic me sw cn ab go cp so gr re db rclk rlim (nI rqd) (nI rpk) rwas rthr) (wR cI cZ ad ((f_X6_setLink r o c_ co fa ic me sw ab go).2.1) ((f_X6_setLink r o c_ co fa ic me sw ab go).2.2.1) ic me sw cn ((f_X6_setLink r o c_ co fa ic me sw ab go).2.2.2.1) ((f_X6_setLink r o c_ co fa ic me sw ab go).2.2.2.2.1) cp so gr re db rclk rlim (nI rqd) (nI rpk) rwas ((f_X6_setLink r o c_ co fa ic me sw ab go).2.2.2.2.2)) ((f_X6_setLink r o c_ co fa ic me sw ab go).1) := by
  refine MI.mk ⟨rfl, rfl⟩ (by decide +kernel) (Nat.le_of_ble_eq_true rfl) ?_
  intro p e s m below meth c A ls B hA hP hD hS hl
  have hx := B.1
  have hb := B.2.1
  have hts := B.2.2.2.2.2.1
  have hN := B.2.2.2.2.2.2.2.1
  have hK := B.2.2.2.2.2.2.2.2.1
  have hl : lv_has ls 5 [(0, .ref (ad 0)), (1, .int (nI r)), (2, .int (nI o)), (3, .int (nI c_))] := hl
  have hf := f_X6_setLink.eq_1 r o c_ co fa ic me sw ab go
  refine lv_aload_n hx hb dX6_setLink_0 rfl (lv_at hl 0 rfl) ?_
  refine lv_iload_n hx hb dX6_setLink_1 rfl (lv_at hl 1 rfl) ?_
  refine fS_i (as := [.int (nI r)]) (rest := [.ref (ad 0)]) B hl.1 (c_X6_isRouter l D cI cZ (wR cI cZ ad co fa ic me sw cn ab go cp so gr re db rclk rlim (nI rqd) (nI rpk) rwas rthr) r (by omega)) (l_RX6_86 hts ⟨rfl, rfl⟩ ⟨Nat.le_of_ble_eq_true rfl, Nat.le_of_ble_eq_true rfl⟩) m_8_22 rfl rfl hP hD hS hA rfl (Nat.le_of_ble_eq_true rfl) dX6_setLink_2 (fun H locs hP hD hS => ?_)
  refine r_if_eq (tgt := 15) hx hb (by omega) dX6_setLink_5 (by decide) (fun c => absurd c (by omega)) (fun _ => ?_)
  refine lv_iload_n hx hb dX6_setLink_8 rfl (lv_at hl 2 rfl) ?_
  refine fS_i (as := [.int (nI o)]) (rest := [.ref (ad 0)]) B hl.1 (c_X6_isRouter l D cI cZ (wR cI cZ ad co fa ic me sw cn ab go cp so gr re db rclk rlim (nI rqd) (nI rpk) rwas rthr) o (by omega)) (l_RX6_86 hts ⟨rfl, rfl⟩ ⟨Nat.le_of_ble_eq_true rfl, Nat.le_of_ble_eq_true rfl⟩) m_8_22 rfl rfl hP hD hS hA rfl (Nat.le_of_ble_eq_true rfl) dX6_setLink_9 (fun H locs hP hD hS => ?_)
  refine r_if_ne (tgt := 19) hx hb (by omega) dX6_setLink_12 (by decide) (fun _ => ?_) (fun c => absurd c (by omega))
  refine lv_iload_n hx hb dX6_setLink_19 rfl (lv_at hl 1 rfl) ?_
  refine lv_iload_n hx hb dX6_setLink_20 rfl (lv_at hl 2 rfl) ?_
  refine r_icmp_eq (tgt := 34) hx hb (by omega) (by omega) dX6_setLink_21 (by decide) (fun c => absurd c hne) (fun _ => ?_)
  refine lv_iload_n hx hb dX6_setLink_24 rfl (lv_at hl 3 rfl) ?_
  refine r_if_lt (tgt := 34) hx hb (by omega) dX6_setLink_25 (by decide) ?_
  refine lv_iload_n hx hb dX6_setLink_28 rfl (lv_at hl 3 rfl) ?_
  refine lv_bipush (v := nI 20) hx hb dX6_setLink_29 (by decide) ?_
  refine r_icmp_le (tgt := 38) hx hb (by omega) (by omega) dX6_setLink_31 (by decide) (fun _ => ?_) (fun c => absurd c (by omega))
  refine lv_iconst (v := nI 0) hx hb dX6_setLink_38 (by decide) ?_
  refine fV_i (ci := 6) (as := [.int (nI 0)]) (rest := []) B hl.1 (c_X6_can_0 l D cI cZ ad co fa ic me sw cn ab go cp so gr re db rclk rlim rqd rpk rwas rthr) rfl (l_RX6_90 hts ⟨rfl, rfl⟩ ⟨Nat.le_of_ble_eq_true rfl, Nat.le_of_ble_eq_true rfl⟩) m_9_1 m_9_2 rfl rfl hP hD hS hA 0 rfl wfR (Nat.le_of_ble_eq_true rfl) dX6_setLink_39 (fun H locs hP hD hS => ?_)
  refine r_if_ne (tgt := 47) hx hb (by omega) dX6_setLink_42 (by decide) (fun _ => ?_) (fun c => absurd c (by omega))
  refine lv_aload_n hx hb dX6_setLink_47 rfl (lv_at hl 0 rfl) ?_
  refine g_X6_13 B hP 0 rfl rfl dX6_setLink_48 ?_
  refine lv_bipush (v := nI 10) hx hb dX6_setLink_51 (by decide) ?_
  refine lv_iload_n hx hb dX6_setLink_53 rfl (lv_at hl 1 rfl) ?_
  refine r_imul hx hb dX6_setLink_54 ?_
  refine lv_iload_n hx hb dX6_setLink_55 rfl (lv_at hl 2 rfl) ?_
  refine r_iadd hx hb dX6_setLink_56 ?_
  refine r_iald hx hb hK hP 1 0 rfl rfl (by omega) (by decide) dX6_setLink_57 ?_
  refine lv_istore (lv' := [(4, .int (co ((10 * r) + o))), (0, .ref (ad 0)), (1, .int (nI r)), (2, .int (nI o)), (3, .int (nI c_))]) hx hb dX6_setLink_58 hl (by decide) rfl (fun ls hl => ?_)
  refine lv_iload hx hb dX6_setLink_60 (lv_at hl 0 rfl) ?_
  refine lv_iload_n hx hb dX6_setLink_62 rfl (lv_at hl 4 rfl) ?_
  refine lv_icmp_eq (tgt := 98) hx hb dX6_setLink_63 (by decide) (fun c1 => ?_) (fun c1 => ?_)
  · have hf := hf.trans (if_pos c1)
    refine lv_iload hx hb dX6_setLink_98 (lv_at hl 0 rfl) ?_
    exact eI B hP hS (by simp only [hf]) (by simp only [hf]) dX6_setLink_100
  · have hf := hf.trans (if_neg c1)
    refine lv_aload_n hx hb dX6_setLink_66 rfl (lv_at hl 1 rfl) ?_
    refine g_X6_13 B hP 0 rfl rfl dX6_setLink_67 ?_
    refine lv_bipush (v := nI 10) hx hb dX6_setLink_70 (by decide) ?_
    refine lv_iload_n hx hb dX6_setLink_72 rfl (lv_at hl 2 rfl) ?_
    refine r_imul hx hb dX6_setLink_73 ?_
    refine lv_iload_n hx hb dX6_setLink_74 rfl (lv_at hl 3 rfl) ?_
    refine r_iadd hx hb dX6_setLink_75 ?_
    refine lv_iload_n hx hb dX6_setLink_76 rfl (lv_at hl 4 rfl) ?_
    refine r_iast hx hb hK hP hD hS 1 0 rfl rfl (by omega) (by decide) dX6_setLink_77 (fun H locs hP hD hS => ?_)
    have hP : va_P D vwCl (wR cI cZ ad (upd co ((10 * r) + o) (nI c_)) fa ic me sw cn ab go cp so gr re db rclk rlim (nI rqd) (nI rpk) rwas (nI 0)) H := hP
    have hD : va_D A (wR cI cZ ad (upd co ((10 * r) + o) (nI c_)) fa ic me sw cn ab go cp so gr re db rclk rlim (nI rqd) (nI rpk) rwas (nI 0)) := hD
    refine lv_aload_n hx hb dX6_setLink_78 rfl (lv_at hl 1 rfl) ?_
    refine g_X6_13 B hP 0 rfl rfl dX6_setLink_79 ?_
    refine lv_bipush (v := nI 10) hx hb dX6_setLink_82 (by decide) ?_
    refine lv_iload_n hx hb dX6_setLink_84 rfl (lv_at hl 3 rfl) ?_
    refine r_imul hx hb dX6_setLink_85 ?_
    refine lv_iload_n hx hb dX6_setLink_86 rfl (lv_at hl 2 rfl) ?_
    refine r_iadd hx hb dX6_setLink_87 ?_
    refine lv_iload_n hx hb dX6_setLink_88 rfl (lv_at hl 4 rfl) ?_
    refine r_iast hx hb hK hP hD hS 1 0 rfl rfl (by omega) (by decide) dX6_setLink_89 (fun H locs hP hD hS => ?_)
    have hP : va_P D vwCl (wR cI cZ ad (upd (upd co ((10 * r) + o) (nI c_)) ((10 * o) + r) (nI c_)) fa ic me sw cn ab go cp so gr re db rclk rlim (nI rqd) (nI rpk) rwas (nI 0)) H := hP
    have hD : va_D A (wR cI cZ ad (upd (upd co ((10 * r) + o) (nI c_)) ((10 * o) + r) (nI c_)) fa ic me sw cn ab go cp so gr re db rclk rlim (nI rqd) (nI rpk) rwas (nI 0)) := hD
    refine lv_aload_n hx hb dX6_setLink_90 rfl (lv_at hl 1 rfl) ?_
    refine fV_v (ci := 6) (as := []) (rest := []) B hl.1 (c_X6_measures l D cI cZ ad (upd (upd co ((10 * r) + o) (nI c_)) ((10 * o) + r) (nI c_)) fa ic me sw cn ab go cp so gr re db rclk rlim rqd rpk rwas (nI 0)) rfl (l_RX6_54 hts ⟨rfl, rfl⟩ ⟨Nat.le_of_ble_eq_true rfl, Nat.le_of_ble_eq_true rfl⟩) m_6_14 m_6_15 rfl rfl hP hD hS hA 0 rfl wfR (Nat.le_of_ble_eq_true rfl) dX6_setLink_91 (fun H locs hP hD hS => ?_)
    refine lv_aload_n hx hb dX6_setLink_94 rfl (lv_at hl 1 rfl) ?_
    refine fV_v (ci := 6) (as := []) (rest := []) B hl.1 (c_X6_buildsAnew l D cI cZ ad (upd (upd co ((10 * r) + o) (nI c_)) ((10 * o) + r) (nI c_)) (f_X6_measures (upd (upd co ((10 * r) + o) (nI c_)) ((10 * o) + r) (nI c_)) fa) ic me sw cn ab go cp so gr re db rclk rlim rqd rpk rwas (nI 0) hHE2) rfl (l_RX6_93 hts ⟨rfl, rfl⟩ ⟨Nat.le_of_ble_eq_true rfl, Nat.le_of_ble_eq_true rfl⟩) m_9_6 m_9_7 rfl rfl hP hD hS hA 0 rfl wfR (Nat.le_of_ble_eq_true rfl) dX6_setLink_95 (fun H locs hP hD hS => ?_)
    refine lv_iload hx hb dX6_setLink_98 (lv_at hl 0 rfl) ?_
    exact eI B hP hS (by simp only [hf]) (by simp only [hf]) dX6_setLink_100
def f_X6_setCandidate (r : Nat) (on : Bool) (co : Nat → Int32) (fa : Nat → Int32) (ic : Nat → Int32) (me : Nat → Int32) (sw : Nat → Int32) (ab : Nat → Int32) (go : Nat → Int32) : Bool × (Nat → Int32) × (Nat → Int32) × (Nat → Int32) × Int32 :=
  if (ic r) = (bI on) then (false, ic, ab, go, nI 0) else (true, upd ic r (bI on), (f_X6_buildsAnew co fa (upd ic r (bI on)) me sw ab go).1, (f_X6_buildsAnew co fa (upd ic r (bI on)) me sw ab go).2, nI 0)
set_option maxHeartbeats 4000000 in
set_option maxRecDepth 100000 in
theorem c_X6_setCandidate (l : Launch) (D : va_G) (cI cZ : ClassId) (ad : Nat → Nat) (co fa ic me sw cn ab go cp so gr re db : Nat → Int32) (rclk : Int32) (rlim : Int32) (rqd : Nat) (rpk : Nat) (rwas : Int32) (rthr : Int32) (r : Nat) (on : Bool) (hr : r < 10) (hHE2 : HEnd co fa (upd ic r (bI on))) : MI l yX6_setCandidate cX6_setCandidate 3 .boolean { frames := 4, cells := 0, slots := 0, locals := 95 } D (TY cI cZ) [.ref (ad 0), .int (nI r), .int (bI on)] (wR cI cZ ad co fa ic me sw cn ab go cp so gr re db rclk rlim (nI rqd) (nI rpk) rwas rthr) (wR cI cZ ad co fa ((f_X6_setCandidate r on co fa ic me sw ab go).2.1) me sw cn ((f_X6_setCandidate r on co fa ic me sw ab go).2.2.1) ((f_X6_setCandidate r on co fa ic me sw ab go).2.2.2.1) cp so gr re db rclk rlim (nI rqd) (nI rpk) rwas ((f_X6_setCandidate r on co fa ic me sw ab go).2.2.2.2)) (bI ((f_X6_setCandidate r on co fa ic me sw ab go).1)) := by
  refine MI.mk ⟨rfl, rfl⟩ (by decide +kernel) (Nat.le_of_ble_eq_true rfl) ?_
  intro p e s m below meth c A ls B hA hP hD hS hl
  have hx := B.1
  have hb := B.2.1
  have hts := B.2.2.2.2.2.1
  have hN := B.2.2.2.2.2.2.2.1
  have hK := B.2.2.2.2.2.2.2.2.1
  have hl : lv_has ls 3 [(0, .ref (ad 0)), (1, .int (nI r)), (2, .int (bI on))] := hl
  have hf := f_X6_setCandidate.eq_1 r on co fa ic me sw ab go
  refine lv_aload_n hx hb dX6_setCandidate_0 rfl (lv_at hl 0 rfl) ?_
  refine lv_iload_n hx hb dX6_setCandidate_1 rfl (lv_at hl 1 rfl) ?_
  refine fS_i (as := [.int (nI r)]) (rest := [.ref (ad 0)]) B hl.1 (c_X6_isRouter l D cI cZ (wR cI cZ ad co fa ic me sw cn ab go cp so gr re db rclk rlim (nI rqd) (nI rpk) rwas rthr) r (by omega)) (l_RX6_86 hts ⟨rfl, rfl⟩ ⟨Nat.le_of_ble_eq_true rfl, Nat.le_of_ble_eq_true rfl⟩) m_8_22 rfl rfl hP hD hS hA rfl (Nat.le_of_ble_eq_true rfl) dX6_setCandidate_2 (fun H locs hP hD hS => ?_)
  refine r_if_eq (tgt := 12) hx hb (by omega) dX6_setCandidate_5 (by decide) (fun c => absurd c (by omega)) (fun _ => ?_)
  refine lv_iconst (v := nI 0) hx hb dX6_setCandidate_8 (by decide) ?_
  refine lv_goto (tgt := 13) hx hb dX6_setCandidate_9 (by decide) ?_
  refine fV_i (ci := 6) (as := [.int (nI 0)]) (rest := []) B hl.1 (c_X6_can_0 l D cI cZ ad co fa ic me sw cn ab go cp so gr re db rclk rlim rqd rpk rwas rthr) rfl (l_RX6_90 hts ⟨rfl, rfl⟩ ⟨Nat.le_of_ble_eq_true rfl, Nat.le_of_ble_eq_true rfl⟩) m_9_1 m_9_2 rfl rfl hP hD hS hA 0 rfl wfR (Nat.le_of_ble_eq_true rfl) dX6_setCandidate_13 (fun H locs hP hD hS => ?_)
  refine r_if_eq (tgt := 29) hx hb (by omega) dX6_setCandidate_16 (by decide) (fun c => absurd c (by omega)) (fun _ => ?_)
  refine lv_aload_n hx hb dX6_setCandidate_19 rfl (lv_at hl 0 rfl) ?_
  refine g_X6_20 B hP 0 rfl rfl dX6_setCandidate_20 ?_
  refine lv_iload_n hx hb dX6_setCandidate_23 rfl (lv_at hl 1 rfl) ?_
  refine r_zald hx hb hK hP 3 1 rfl rfl (by omega) (by decide) dX6_setCandidate_24 ?_
  refine lv_iload_n hx hb dX6_setCandidate_25 rfl (lv_at hl 2 rfl) ?_
  refine lv_icmp_ne (tgt := 31) hx hb dX6_setCandidate_26 (by decide) (fun c1 => ?_) (fun c1 => ?_)
  · have hf := hf.trans (if_neg c1)
    refine lv_aload_n hx hb dX6_setCandidate_31 rfl (lv_at hl 0 rfl) ?_
    refine g_X6_20 B hP 0 rfl rfl dX6_setCandidate_32 ?_
    refine lv_iload_n hx hb dX6_setCandidate_35 rfl (lv_at hl 1 rfl) ?_
    refine lv_iload_n hx hb dX6_setCandidate_36 rfl (lv_at hl 2 rfl) ?_
    refine r_zast hx hb hK hP hD hS 3 1 rfl rfl (by omega) (by decide) dX6_setCandidate_37 (fun H locs hP hD hS => ?_)
    have hP : va_P D vwCl (wR cI cZ ad co fa (upd ic r (bI on)) me sw cn ab go cp so gr re db rclk rlim (nI rqd) (nI rpk) rwas (nI 0)) H := hP
    have hD : va_D A (wR cI cZ ad co fa (upd ic r (bI on)) me sw cn ab go cp so gr re db rclk rlim (nI rqd) (nI rpk) rwas (nI 0)) := hD
    refine lv_aload_n hx hb dX6_setCandidate_38 rfl (lv_at hl 0 rfl) ?_
    refine fV_v (ci := 6) (as := []) (rest := []) B hl.1 (c_X6_buildsAnew l D cI cZ ad co fa (upd ic r (bI on)) me sw cn ab go cp so gr re db rclk rlim rqd rpk rwas (nI 0) hHE2) rfl (l_RX6_93 hts ⟨rfl, rfl⟩ ⟨Nat.le_of_ble_eq_true rfl, Nat.le_of_ble_eq_true rfl⟩) m_9_6 m_9_7 rfl rfl hP hD hS hA 0 rfl wfR (Nat.le_of_ble_eq_true rfl) dX6_setCandidate_39 (fun H locs hP hD hS => ?_)
    refine lv_iconst (v := nI 1) hx hb dX6_setCandidate_42 (by decide) ?_
    exact eZ B hP hS (by decide) (by simp only [hf, bI_t, bI_f]) (by simp only [hf]) dX6_setCandidate_43
  · have hf := hf.trans (if_pos c1)
    refine lv_iconst (v := nI 0) hx hb dX6_setCandidate_29 (by decide) ?_
    exact eZ B hP hS (by decide) (by simp only [hf, bI_t, bI_f]) (by simp only [hf]) dX6_setCandidate_30
set_option maxHeartbeats 4000000 in
set_option maxRecDepth 100000 in
theorem c_X6_join (l : Launch) (D : va_G) (cI cZ : ClassId) (ad : Nat → Nat) (co fa ic me sw cn ab go cp so gr re db : Nat → Int32) (rclk : Int32) (rlim : Int32) (rqd : Nat) (rpk : Nat) (rwas : Int32) (rthr : Int32) (r : Nat) (g : Nat) (hr : r < 10) (hg : g < 4) (hHE : HEnd co fa ic) (hm : ¬ (f_X6_isMember r g me) = true) : MI l yX6_join cX6_join 3 .int { frames := 3, cells := 0, slots := 0, locals := 73 } D (TY cI cZ) [.ref (ad 0), .int (nI r), .int (nI g)] (wR cI cZ ad co fa ic me sw cn ab go cp so gr re db rclk rlim (nI rqd) (nI rpk) rwas rthr) (wR cI cZ ad co fa ic (upd me g ((me g) ||| ((nI 1) <<< ((nI r) &&& 31)))) sw cn ((f_X6_graft ((11 * g) + 10) r co fa ic ab go).1) ((f_X6_graft ((11 * g) + 10) r co fa ic ab go).2) cp so gr re db rclk rlim (nI rqd) (nI rpk) rwas (nI 0)) (f_X6_many ((upd me g ((me g) ||| ((nI 1) <<< ((nI r) &&& 31)))) g)) := by
  refine MI.mk ⟨rfl, rfl⟩ (by decide +kernel) (Nat.le_of_ble_eq_true rfl) ?_
  intro p e s m below meth c A ls B hA hP hD hS hl
  have hx := B.1
  have hb := B.2.1
  have hts := B.2.2.2.2.2.1
  have hN := B.2.2.2.2.2.2.2.1
  have hK := B.2.2.2.2.2.2.2.2.1
  have hl : lv_has ls 3 [(0, .ref (ad 0)), (1, .int (nI r)), (2, .int (nI g))] := hl
  refine lv_aload_n hx hb dX6_join_0 rfl (lv_at hl 0 rfl) ?_
  refine lv_iload_n hx hb dX6_join_1 rfl (lv_at hl 1 rfl) ?_
  refine fS_i (as := [.int (nI r)]) (rest := [.ref (ad 0)]) B hl.1 (c_X6_isRouter l D cI cZ (wR cI cZ ad co fa ic me sw cn ab go cp so gr re db rclk rlim (nI rqd) (nI rpk) rwas rthr) r (by omega)) (l_RX6_86 hts ⟨rfl, rfl⟩ ⟨Nat.le_of_ble_eq_true rfl, Nat.le_of_ble_eq_true rfl⟩) m_8_22 rfl rfl hP hD hS hA rfl (Nat.le_of_ble_eq_true rfl) dX6_join_2 (fun H locs hP hD hS => ?_)
  refine r_if_eq (tgt := 15) hx hb (by omega) dX6_join_5 (by decide) (fun c => absurd c (by omega)) (fun _ => ?_)
  refine lv_iload_n hx hb dX6_join_8 rfl (lv_at hl 2 rfl) ?_
  refine fS_i (as := [.int (nI g)]) (rest := [.ref (ad 0)]) B hl.1 (c_X6_isGroup l D cI cZ (wR cI cZ ad co fa ic me sw cn ab go cp so gr re db rclk rlim (nI rqd) (nI rpk) rwas rthr) g (by omega)) (l_RX6_96 hts ⟨rfl, rfl⟩ ⟨Nat.le_of_ble_eq_true rfl, Nat.le_of_ble_eq_true rfl⟩) m_13_9 rfl rfl hP hD hS hA rfl (Nat.le_of_ble_eq_true rfl) dX6_join_9 (fun H locs hP hD hS => ?_)
  refine r_if_ne (tgt := 19) hx hb (by omega) dX6_join_12 (by decide) (fun _ => ?_) (fun c => absurd c (by omega))
  refine lv_aload_n hx hb dX6_join_19 rfl (lv_at hl 0 rfl) ?_
  refine lv_iload_n hx hb dX6_join_20 rfl (lv_at hl 1 rfl) ?_
  refine lv_iload_n hx hb dX6_join_21 rfl (lv_at hl 2 rfl) ?_
  refine fV_i (ci := 6) (as := [.int (nI r), .int (nI g)]) (rest := [.ref (ad 0)]) B hl.1 (c_X6_isMember l D cI cZ ad co fa ic me sw cn ab go cp so gr re db rclk rlim rqd rpk rwas rthr r g (by omega) (by omega)) rfl (l_RX6_99 hts ⟨rfl, rfl⟩ ⟨Nat.le_of_ble_eq_true rfl, Nat.le_of_ble_eq_true rfl⟩) m_15_1 m_15_2 rfl rfl hP hD hS hA 0 rfl wfR (Nat.le_of_ble_eq_true rfl) dX6_join_22 (fun H locs hP hD hS => ?_)
  refine r_if_eq_b (tgt := 32) hx hb dX6_join_25 (by decide) (fun _ => ?_) (fun c => absurd c hm)
  refine lv_iconst (v := nI 0) hx hb dX6_join_32 (by decide) ?_
  refine fV_i (ci := 6) (as := [.int (nI 0)]) (rest := []) B hl.1 (c_X6_can_0 l D cI cZ ad co fa ic me sw cn ab go cp so gr re db rclk rlim rqd rpk rwas rthr) rfl (l_RX6_90 hts ⟨rfl, rfl⟩ ⟨Nat.le_of_ble_eq_true rfl, Nat.le_of_ble_eq_true rfl⟩) m_9_1 m_9_2 rfl rfl hP hD hS hA 0 rfl wfR (Nat.le_of_ble_eq_true rfl) dX6_join_33 (fun H locs hP hD hS => ?_)
  refine r_if_ne (tgt := 41) hx hb (by omega) dX6_join_36 (by decide) (fun _ => ?_) (fun c => absurd c (by omega))
  refine lv_aload_n hx hb dX6_join_41 rfl (lv_at hl 0 rfl) ?_
  refine g_X6_24 B hP 0 rfl rfl dX6_join_42 ?_
  refine lv_iload_n hx hb dX6_join_45 rfl (lv_at hl 2 rfl) ?_
  refine lv_dup2_11 hx hb dX6_join_46 rfl rfl ?_
  refine r_iald hx hb hK hP 4 0 rfl rfl (by omega) (by decide) dX6_join_47 ?_
  refine lv_iconst (v := nI 1) hx hb dX6_join_48 (by decide) ?_
  refine lv_iload_n hx hb dX6_join_49 rfl (lv_at hl 1 rfl) ?_
  refine lv_ishl hx hb dX6_join_50 ?_
  refine lv_ior hx hb dX6_join_51 ?_
  refine r_iast hx hb hK hP hD hS 4 0 rfl rfl (by omega) (by decide) dX6_join_52 (fun H locs hP hD hS => ?_)
  have hP : va_P D vwCl (wR cI cZ ad co fa ic (upd me g ((me g) ||| ((nI 1) <<< ((nI r) &&& 31)))) sw cn ab go cp so gr re db rclk rlim (nI rqd) (nI rpk) rwas (nI 0)) H := hP
  have hD : va_D A (wR cI cZ ad co fa ic (upd me g ((me g) ||| ((nI 1) <<< ((nI r) &&& 31)))) sw cn ab go cp so gr re db rclk rlim (nI rqd) (nI rpk) rwas (nI 0)) := hD
  refine lv_aload_n hx hb dX6_join_53 rfl (lv_at hl 0 rfl) ?_
  refine lv_bipush (v := nI 11) hx hb dX6_join_54 (by decide) ?_
  refine lv_iload_n hx hb dX6_join_56 rfl (lv_at hl 2 rfl) ?_
  refine r_imul hx hb dX6_join_57 ?_
  refine lv_bipush (v := nI 10) hx hb dX6_join_58 (by decide) ?_
  refine r_iadd hx hb dX6_join_60 ?_
  refine lv_iload_n hx hb dX6_join_61 rfl (lv_at hl 1 rfl) ?_
  refine fV_v (ci := 6) (as := [.int (nI ((11 * g) + 10)), .int (nI r)]) (rest := []) B hl.1 (c_X6_graft l D cI cZ ad co fa ic (upd me g ((me g) ||| ((nI 1) <<< ((nI r) &&& 31)))) sw cn ab go cp so gr re db rclk rlim rqd rpk rwas (nI 0) ((11 * g) + 10) r (by omega) (by omega) hHE) rfl (l_RX6_82 hts ⟨rfl, rfl⟩ ⟨Nat.le_of_ble_eq_true rfl, Nat.le_of_ble_eq_true rfl⟩) m_9_14 m_9_15 rfl rfl hP hD hS hA 0 rfl wfR (Nat.le_of_ble_eq_true rfl) dX6_join_62 (fun H locs hP hD hS => ?_)
  refine lv_aload_n hx hb dX6_join_65 rfl (lv_at hl 0 rfl) ?_
  refine g_X6_24 B hP 0 rfl rfl dX6_join_66 ?_
  refine lv_iload_n hx hb dX6_join_69 rfl (lv_at hl 2 rfl) ?_
  refine r_iald hx hb hK hP 4 0 rfl rfl (by omega) (by decide) dX6_join_70 ?_
  refine fS_i (as := [.int ((upd me g ((me g) ||| ((nI 1) <<< ((nI r) &&& 31)))) g)]) (rest := []) B hl.1 (c_X6_many l D cI cZ (wR cI cZ ad co fa ic (upd me g ((me g) ||| ((nI 1) <<< ((nI r) &&& 31)))) sw cn ((f_X6_graft ((11 * g) + 10) r co fa ic ab go).1) ((f_X6_graft ((11 * g) + 10) r co fa ic ab go).2) cp so gr re db rclk rlim (nI rqd) (nI rpk) rwas (nI 0)) ((upd me g ((me g) ||| ((nI 1) <<< ((nI r) &&& 31)))) g)) (l_RX6_102 hts ⟨rfl, rfl⟩ ⟨Nat.le_of_ble_eq_true rfl, Nat.le_of_ble_eq_true rfl⟩) m_15_5 rfl rfl hP hD hS hA rfl (Nat.le_of_ble_eq_true rfl) dX6_join_71 (fun H locs hP hD hS => ?_)
  exact eI B hP hS rfl rfl dX6_join_74
def f_X6_leave_L109 (r : Nat) (g : Nat) (me : Nat → Int32) (ab : Nat → Int32) (rclk : Int32) (sw_57 : Nat → Int32) (cn_57 : Nat → Int32) : Nat → Nat → (Nat → Int32) → Int32 × (Nat → Int32) × (Nat → Int32) × (Nat → Int32) × (Nat → Int32) × Int32
  | 0, _, go_109 => (f_X6_many ((upd me g ((me g) &&& (((nI 1) <<< ((nI r) &&& 31)) ^^^ (-1)))) g), upd me g ((me g) &&& (((nI 1) <<< ((nI r) &&& 31)) ^^^ (-1))), sw_57, cn_57, go_109, nI 0)
  | n109 + 1, k109, go_109 => f_X6_leave_L109 r g me ab rclk sw_57 cn_57 n109 (k109 + 1) (f_X6_looks ((11 * g) + k109) r (upd me g ((me g) &&& (((nI 1) <<< ((nI r) &&& 31)) ^^^ (-1)))) sw_57 ab go_109 rclk)
def f_X6_leave_L57 (r : Nat) (g : Nat) (me : Nat → Int32) (ab : Nat → Int32) (go : Nat → Int32) (rclk : Int32) : Nat → Nat → (Nat → Int32) → (Nat → Int32) → Int32 × (Nat → Int32) × (Nat → Int32) × (Nat → Int32) × (Nat → Int32) × Int32
  | 0, _, sw_57, cn_57 => f_X6_leave_L109 r g me ab rclk sw_57 cn_57 11 0 go
  | n57 + 1, k57, sw_57, cn_57 => f_X6_leave_L57 r g me ab go rclk n57 (k57 + 1) (upd sw_57 ((10 * g) + k57) ((sw_57 ((10 * g) + k57)) &&& (((nI 1) <<< ((nI r) &&& 31)) ^^^ (-1)))) (upd cn_57 (((40 * r) + (4 * k57)) + g) (nI 0))
def f_X6_leave (r : Nat) (g : Nat) (me : Nat → Int32) (sw : Nat → Int32) (cn : Nat → Int32) (ab : Nat → Int32) (go : Nat → Int32) (rclk : Int32) : Int32 × (Nat → Int32) × (Nat → Int32) × (Nat → Int32) × (Nat → Int32) × Int32 :=
  f_X6_leave_L57 r g me ab go rclk 10 0 sw cn
set_option maxHeartbeats 4000000 in
set_option maxRecDepth 100000 in
theorem c_X6_leave (l : Launch) (D : va_G) (cI cZ : ClassId) (ad : Nat → Nat) (co fa ic me sw cn ab go cp so gr re db : Nat → Int32) (rclk : Int32) (rlim : Int32) (rqd : Nat) (rpk : Nat) (rwas : Int32) (rthr : Int32) (r : Nat) (g : Nat) (hr : r < 10) (hg : g < 4) (hm : (f_X6_isMember r g me) = true) : MI l yX6_leave cX6_leave 4 .int { frames := 2, cells := 0, slots := 0, locals := 47 } D (TY cI cZ) [.ref (ad 0), .int (nI r), .int (nI g)] (wR cI cZ ad co fa ic me sw cn ab go cp so gr re db rclk rlim (nI rqd) (nI rpk) rwas rthr) (wR cI cZ ad co fa ic ((f_X6_leave r g me sw cn ab go rclk).2.1) ((f_X6_leave r g me sw cn ab go rclk).2.2.1) ((f_X6_leave r g me sw cn ab go rclk).2.2.2.1) ab ((f_X6_leave r g me sw cn ab go rclk).2.2.2.2.1) cp so gr re db rclk rlim (nI rqd) (nI rpk) rwas ((f_X6_leave r g me sw cn ab go rclk).2.2.2.2.2)) ((f_X6_leave r g me sw cn ab go rclk).1) := by
  refine MI.mk ⟨rfl, rfl⟩ (by decide +kernel) (Nat.le_of_ble_eq_true rfl) ?_
  intro p e s m below meth c A ls B hA hP hD hS hl
  have hx := B.1
  have hb := B.2.1
  have hts := B.2.2.2.2.2.1
  have hN := B.2.2.2.2.2.2.2.1
  have hK := B.2.2.2.2.2.2.2.2.1
  have hl : lv_has ls 4 [(0, .ref (ad 0)), (1, .int (nI r)), (2, .int (nI g))] := hl
  have hf := f_X6_leave.eq_1 r g me sw cn ab go rclk
  refine lv_aload_n hx hb dX6_leave_0 rfl (lv_at hl 0 rfl) ?_
  refine lv_iload_n hx hb dX6_leave_1 rfl (lv_at hl 1 rfl) ?_
  refine fS_i (as := [.int (nI r)]) (rest := [.ref (ad 0)]) B hl.1 (c_X6_isRouter l D cI cZ (wR cI cZ ad co fa ic me sw cn ab go cp so gr re db rclk rlim (nI rqd) (nI rpk) rwas rthr) r (by omega)) (l_RX6_86 hts ⟨rfl, rfl⟩ ⟨Nat.le_of_ble_eq_true rfl, Nat.le_of_ble_eq_true rfl⟩) m_8_22 rfl rfl hP hD hS hA rfl (Nat.le_of_ble_eq_true rfl) dX6_leave_2 (fun H locs hP hD hS => ?_)
  refine r_if_eq (tgt := 15) hx hb (by omega) dX6_leave_5 (by decide) (fun c => absurd c (by omega)) (fun _ => ?_)
  refine lv_iload_n hx hb dX6_leave_8 rfl (lv_at hl 2 rfl) ?_
  refine fS_i (as := [.int (nI g)]) (rest := [.ref (ad 0)]) B hl.1 (c_X6_isGroup l D cI cZ (wR cI cZ ad co fa ic me sw cn ab go cp so gr re db rclk rlim (nI rqd) (nI rpk) rwas rthr) g (by omega)) (l_RX6_96 hts ⟨rfl, rfl⟩ ⟨Nat.le_of_ble_eq_true rfl, Nat.le_of_ble_eq_true rfl⟩) m_13_9 rfl rfl hP hD hS hA rfl (Nat.le_of_ble_eq_true rfl) dX6_leave_9 (fun H locs hP hD hS => ?_)
  refine r_if_ne (tgt := 19) hx hb (by omega) dX6_leave_12 (by decide) (fun _ => ?_) (fun c => absurd c (by omega))
  refine lv_aload_n hx hb dX6_leave_19 rfl (lv_at hl 0 rfl) ?_
  refine lv_iload_n hx hb dX6_leave_20 rfl (lv_at hl 1 rfl) ?_
  refine lv_iload_n hx hb dX6_leave_21 rfl (lv_at hl 2 rfl) ?_
  refine fV_i (ci := 6) (as := [.int (nI r), .int (nI g)]) (rest := [.ref (ad 0)]) B hl.1 (c_X6_isMember l D cI cZ ad co fa ic me sw cn ab go cp so gr re db rclk rlim rqd rpk rwas rthr r g (by omega) (by omega)) rfl (l_RX6_99 hts ⟨rfl, rfl⟩ ⟨Nat.le_of_ble_eq_true rfl, Nat.le_of_ble_eq_true rfl⟩) m_15_1 m_15_2 rfl rfl hP hD hS hA 0 rfl wfR (Nat.le_of_ble_eq_true rfl) dX6_leave_22 (fun H locs hP hD hS => ?_)
  refine r_if_eq_b (tgt := 32) hx hb dX6_leave_25 (by decide) (fun c => absurd hm c) (fun _ => ?_)
  refine lv_iconst (v := nI 0) hx hb dX6_leave_28 (by decide) ?_
  refine lv_goto (tgt := 33) hx hb dX6_leave_29 (by decide) ?_
  refine fV_i (ci := 6) (as := [.int (nI 0)]) (rest := []) B hl.1 (c_X6_can_0 l D cI cZ ad co fa ic me sw cn ab go cp so gr re db rclk rlim rqd rpk rwas rthr) rfl (l_RX6_90 hts ⟨rfl, rfl⟩ ⟨Nat.le_of_ble_eq_true rfl, Nat.le_of_ble_eq_true rfl⟩) m_9_1 m_9_2 rfl rfl hP hD hS hA 0 rfl wfR (Nat.le_of_ble_eq_true rfl) dX6_leave_33 (fun H locs hP hD hS => ?_)
  refine r_if_ne (tgt := 41) hx hb (by omega) dX6_leave_36 (by decide) (fun _ => ?_) (fun c => absurd c (by omega))
  refine lv_aload_n hx hb dX6_leave_41 rfl (lv_at hl 0 rfl) ?_
  refine g_X6_24 B hP 0 rfl rfl dX6_leave_42 ?_
  refine lv_iload_n hx hb dX6_leave_45 rfl (lv_at hl 2 rfl) ?_
  refine lv_dup2_11 hx hb dX6_leave_46 rfl rfl ?_
  refine r_iald hx hb hK hP 4 0 rfl rfl (by omega) (by decide) dX6_leave_47 ?_
  refine lv_iconst (v := nI 1) hx hb dX6_leave_48 (by decide) ?_
  refine lv_iload_n hx hb dX6_leave_49 rfl (lv_at hl 1 rfl) ?_
  refine lv_ishl hx hb dX6_leave_50 ?_
  refine lv_iconst (v := -1) hx hb dX6_leave_51 (by decide) ?_
  refine lv_ixor hx hb dX6_leave_52 ?_
  refine lv_iand hx hb dX6_leave_53 ?_
  refine r_iast hx hb hK hP hD hS 4 0 rfl rfl (by omega) (by decide) dX6_leave_54 (fun H locs hP hD hS => ?_)
  have hP : va_P D vwCl (wR cI cZ ad co fa ic (upd me g ((me g) &&& (((nI 1) <<< ((nI r) &&& 31)) ^^^ (-1)))) sw cn ab go cp so gr re db rclk rlim (nI rqd) (nI rpk) rwas (nI 0)) H := hP
  have hD : va_D A (wR cI cZ ad co fa ic (upd me g ((me g) &&& (((nI 1) <<< ((nI r) &&& 31)) ^^^ (-1)))) sw cn ab go cp so gr re db rclk rlim (nI rqd) (nI rpk) rwas (nI 0)) := hD
  refine lv_iconst (v := nI 0) hx hb dX6_leave_55 (by decide) ?_
  refine lv_istore_n (lv' := [(3, .int (nI 0)), (0, .ref (ad 0)), (1, .int (nI r)), (2, .int (nI g))]) hx hb dX6_leave_56 rfl hl (by decide) rfl (fun ls hl => ?_)
  have L57 : ∀ (n57 : Nat) (k57 : Nat) (sw_57 : Nat → Int32) (cn_57 : Nat → Int32), k57 + n57 = 10 → f_X6_leave r g me sw cn ab go rclk = (f_X6_leave_L57 r g me ab go rclk n57 k57 sw_57 cn_57) → ∀ (H : Heap) (locs : List Loc), va_P D vwCl (wR cI cZ ad co fa ic (upd me g ((me g) &&& (((nI 1) <<< ((nI r) &&& 31)) ^^^ (-1)))) sw_57 cn_57 ab go cp so gr re db rclk rlim (nI rqd) (nI rpk) rwas (nI 0)) H → va_D A (wR cI cZ ad co fa ic (upd me g ((me g) &&& (((nI 1) <<< ((nI r) &&& 31)) ^^^ (-1)))) sw_57 cn_57 ab go cp so gr re db rclk rlim (nI rqd) (nI rpk) rwas (nI 0)) → va_S A s.heap H locs → ∀ ls : Array Slot, lv_has ls 4 [(0, .ref (ad 0)), (1, .int (nI r)), (2, .int (nI g)), (3, .int (nI k57))] → W p l e { frames := 2, cells := 0, slots := 0, locals := 47 } s m [.ref (ad 0), .int (nI r), .int (nI g)].toArray below meth c H locs 0 0 (QI below s A D [.ref (ad 0), .int (nI r), .int (nI g)] (wR cI cZ ad co fa ic ((f_X6_leave r g me sw cn ab go rclk).2.1) ((f_X6_leave r g me sw cn ab go rclk).2.2.1) ((f_X6_leave r g me sw cn ab go rclk).2.2.2.1) ab ((f_X6_leave r g me sw cn ab go rclk).2.2.2.2.1) cp so gr re db rclk rlim (nI rqd) (nI rpk) rwas ((f_X6_leave r g me sw cn ab go rclk).2.2.2.2.2)) ((f_X6_leave r g me sw cn ab go rclk).1)) (F0 m 57 ls []) := by
    intro n57
    induction n57 with
    | zero =>
      intro k57 sw_57 cn_57 hk57 hf H locs hP hD hS ls hl
      obtain rfl : 10 = k57 := by omega
      rw [f_X6_leave_L57] at hf
      have hl : lv_has ls 4 [(0, .ref (ad 0)), (1, .int (nI r)), (2, .int (nI g)), (3, .int (nI 10))] := hl
      refine lv_iload_n hx hb dX6_leave_57 rfl (lv_at hl 3 rfl) ?_
      refine lv_bipush (v := nI 10) hx hb dX6_leave_58 (by decide) ?_
      refine r_icmp_ge (tgt := 104) hx hb (by omega) (by omega) dX6_leave_60 (by decide) (fun _ => ?_) (fun c => absurd c (by omega))
      refine lv_bipush (v := nI 11) hx hb dX6_leave_104 (by decide) ?_
      refine lv_iload_n hx hb dX6_leave_106 rfl (lv_at hl 2 rfl) ?_
      refine r_imul hx hb dX6_leave_107 ?_
      refine lv_istore_n (lv' := [(3, .int (nI (11 * g))), (0, .ref (ad 0)), (1, .int (nI r)), (2, .int (nI g))]) hx hb dX6_leave_108 rfl hl (by decide) rfl (fun ls hl => ?_)
      have L109 : ∀ (n109 : Nat) (k109 : Nat) (go_109 : Nat → Int32), k109 + n109 = 11 → f_X6_leave r g me sw cn ab go rclk = (f_X6_leave_L109 r g me ab rclk sw_57 cn_57 n109 k109 go_109) → ∀ (H : Heap) (locs : List Loc), va_P D vwCl (wR cI cZ ad co fa ic (upd me g ((me g) &&& (((nI 1) <<< ((nI r) &&& 31)) ^^^ (-1)))) sw_57 cn_57 ab go_109 cp so gr re db rclk rlim (nI rqd) (nI rpk) rwas (nI 0)) H → va_D A (wR cI cZ ad co fa ic (upd me g ((me g) &&& (((nI 1) <<< ((nI r) &&& 31)) ^^^ (-1)))) sw_57 cn_57 ab go_109 cp so gr re db rclk rlim (nI rqd) (nI rpk) rwas (nI 0)) → va_S A s.heap H locs → ∀ ls : Array Slot, lv_has ls 4 [(0, .ref (ad 0)), (1, .int (nI r)), (2, .int (nI g)), (3, .int (nI ((11 * g) + k109)))] → W p l e { frames := 2, cells := 0, slots := 0, locals := 47 } s m [.ref (ad 0), .int (nI r), .int (nI g)].toArray below meth c H locs 0 0 (QI below s A D [.ref (ad 0), .int (nI r), .int (nI g)] (wR cI cZ ad co fa ic ((f_X6_leave r g me sw cn ab go rclk).2.1) ((f_X6_leave r g me sw cn ab go rclk).2.2.1) ((f_X6_leave r g me sw cn ab go rclk).2.2.2.1) ab ((f_X6_leave r g me sw cn ab go rclk).2.2.2.2.1) cp so gr re db rclk rlim (nI rqd) (nI rpk) rwas ((f_X6_leave r g me sw cn ab go rclk).2.2.2.2.2)) ((f_X6_leave r g me sw cn ab go rclk).1)) (F0 m 109 ls []) := by
        intro n109
        induction n109 with
        | zero =>
          intro k109 go_109 hk109 hf H locs hP hD hS ls hl
          obtain rfl : 11 = k109 := by omega
          rw [f_X6_leave_L109] at hf
          have hl : lv_has ls 4 [(0, .ref (ad 0)), (1, .int (nI r)), (2, .int (nI g)), (3, .int (nI ((11 * g) + 11)))] := hl
          refine lv_iload_n hx hb dX6_leave_109 rfl (lv_at hl 3 rfl) ?_
          refine lv_bipush (v := nI 11) hx hb dX6_leave_110 (by decide) ?_
          refine lv_iload_n hx hb dX6_leave_112 rfl (lv_at hl 2 rfl) ?_
          refine r_imul hx hb dX6_leave_113 ?_
          refine lv_bipush (v := nI 11) hx hb dX6_leave_114 (by decide) ?_
          refine r_iadd hx hb dX6_leave_116 ?_
          refine r_icmp_ge (tgt := 132) hx hb (by omega) (by omega) dX6_leave_117 (by decide) (fun _ => ?_) (fun c => absurd c (by omega))
          refine lv_aload_n hx hb dX6_leave_132 rfl (lv_at hl 0 rfl) ?_
          refine g_X6_24 B hP 0 rfl rfl dX6_leave_133 ?_
          refine lv_iload_n hx hb dX6_leave_136 rfl (lv_at hl 2 rfl) ?_
          refine r_iald hx hb hK hP 4 0 rfl rfl (by omega) (by decide) dX6_leave_137 ?_
          refine fS_i (as := [.int ((upd me g ((me g) &&& (((nI 1) <<< ((nI r) &&& 31)) ^^^ (-1)))) g)]) (rest := []) B hl.1 (c_X6_many l D cI cZ (wR cI cZ ad co fa ic (upd me g ((me g) &&& (((nI 1) <<< ((nI r) &&& 31)) ^^^ (-1)))) sw_57 cn_57 ab go_109 cp so gr re db rclk rlim (nI rqd) (nI rpk) rwas (nI 0)) ((upd me g ((me g) &&& (((nI 1) <<< ((nI r) &&& 31)) ^^^ (-1)))) g)) (l_RX6_102 hts ⟨rfl, rfl⟩ ⟨Nat.le_of_ble_eq_true rfl, Nat.le_of_ble_eq_true rfl⟩) m_15_5 rfl rfl hP hD hS hA rfl (Nat.le_of_ble_eq_true rfl) dX6_leave_138 (fun H locs hP hD hS => ?_)
          exact eI B hP hS (by simp only [hf]) (by simp only [hf]) dX6_leave_141
        | succ n109 ih109 =>
          intro k109 go_109 hk109 hf H locs hP hD hS ls hl
          rw [f_X6_leave_L109] at hf
          have hl : lv_has ls 4 [(0, .ref (ad 0)), (1, .int (nI r)), (2, .int (nI g)), (3, .int (nI ((11 * g) + k109)))] := hl
          refine lv_iload_n hx hb dX6_leave_109 rfl (lv_at hl 3 rfl) ?_
          refine lv_bipush (v := nI 11) hx hb dX6_leave_110 (by decide) ?_
          refine lv_iload_n hx hb dX6_leave_112 rfl (lv_at hl 2 rfl) ?_
          refine r_imul hx hb dX6_leave_113 ?_
          refine lv_bipush (v := nI 11) hx hb dX6_leave_114 (by decide) ?_
          refine r_iadd hx hb dX6_leave_116 ?_
          refine r_icmp_ge (tgt := 132) hx hb (by omega) (by omega) dX6_leave_117 (by decide) (fun c => absurd c (by omega)) (fun _ => ?_)
          refine lv_aload_n hx hb dX6_leave_120 rfl (lv_at hl 0 rfl) ?_
          refine lv_iload_n hx hb dX6_leave_121 rfl (lv_at hl 3 rfl) ?_
          refine lv_iload_n hx hb dX6_leave_122 rfl (lv_at hl 1 rfl) ?_
          refine fV_v (ci := 6) (as := [.int (nI ((11 * g) + k109)), .int (nI r)]) (rest := []) B hl.1 (c_X6_looks l D cI cZ ad co fa ic (upd me g ((me g) &&& (((nI 1) <<< ((nI r) &&& 31)) ^^^ (-1)))) sw_57 cn_57 ab go_109 cp so gr re db rclk rlim rqd rpk rwas (nI 0) ((11 * g) + k109) r (by omega) (by omega)) rfl (l_RX6_105 hts ⟨rfl, rfl⟩ ⟨Nat.le_of_ble_eq_true rfl, Nat.le_of_ble_eq_true rfl⟩) m_17_0 m_17_1 rfl rfl hP hD hS hA 0 rfl wfR (Nat.le_of_ble_eq_true rfl) dX6_leave_123 (fun H locs hP hD hS => ?_)
          refine lv_iinc (v := nI (((11 * g) + k109) + 1)) (lv' := [(3, .int (nI (((11 * g) + k109) + 1))), (0, .ref (ad 0)), (1, .int (nI r)), (2, .int (nI g))]) hx hb dX6_leave_126 hl (k := 3) rfl (nI_add _ _) (by decide) rfl (fun ls hl => ?_)
          refine lv_goto (tgt := 109) hx hb dX6_leave_129 (by decide) ?_
          exact ih109 (k109 + 1) (f_X6_looks ((11 * g) + k109) r (upd me g ((me g) &&& (((nI 1) <<< ((nI r) &&& 31)) ^^^ (-1)))) sw_57 ab go_109 rclk) (by omega) hf _ _ hP hD hS _ (lv_sub hl [1, 2, 3, 0] rfl)
      exact L109 11 0 go (by omega) hf _ _ hP hD hS _ (lv_sub hl [1, 2, 3, 0] rfl)
    | succ n57 ih57 =>
      intro k57 sw_57 cn_57 hk57 hf H locs hP hD hS ls hl
      rw [f_X6_leave_L57] at hf
      have hl : lv_has ls 4 [(0, .ref (ad 0)), (1, .int (nI r)), (2, .int (nI g)), (3, .int (nI k57))] := hl
      refine lv_iload_n hx hb dX6_leave_57 rfl (lv_at hl 3 rfl) ?_
      refine lv_bipush (v := nI 10) hx hb dX6_leave_58 (by decide) ?_
      refine r_icmp_ge (tgt := 104) hx hb (by omega) (by omega) dX6_leave_60 (by decide) (fun c => absurd c (by omega)) (fun _ => ?_)
      refine lv_aload_n hx hb dX6_leave_63 rfl (lv_at hl 0 rfl) ?_
      refine g_X6_27 B hP 0 rfl rfl dX6_leave_64 ?_
      refine lv_bipush (v := nI 10) hx hb dX6_leave_67 (by decide) ?_
      refine lv_iload_n hx hb dX6_leave_69 rfl (lv_at hl 2 rfl) ?_
      refine r_imul hx hb dX6_leave_70 ?_
      refine lv_iload_n hx hb dX6_leave_71 rfl (lv_at hl 3 rfl) ?_
      refine r_iadd hx hb dX6_leave_72 ?_
      refine lv_dup2_11 hx hb dX6_leave_73 rfl rfl ?_
      refine r_iald hx hb hK hP 5 0 rfl rfl (by omega) (by decide) dX6_leave_74 ?_
      refine lv_iconst (v := nI 1) hx hb dX6_leave_75 (by decide) ?_
      refine lv_iload_n hx hb dX6_leave_76 rfl (lv_at hl 1 rfl) ?_
      refine lv_ishl hx hb dX6_leave_77 ?_
      refine lv_iconst (v := -1) hx hb dX6_leave_78 (by decide) ?_
      refine lv_ixor hx hb dX6_leave_79 ?_
      refine lv_iand hx hb dX6_leave_80 ?_
      refine r_iast hx hb hK hP hD hS 5 0 rfl rfl (by omega) (by decide) dX6_leave_81 (fun H locs hP hD hS => ?_)
      have hP : va_P D vwCl (wR cI cZ ad co fa ic (upd me g ((me g) &&& (((nI 1) <<< ((nI r) &&& 31)) ^^^ (-1)))) (upd sw_57 ((10 * g) + k57) ((sw_57 ((10 * g) + k57)) &&& (((nI 1) <<< ((nI r) &&& 31)) ^^^ (-1)))) cn_57 ab go cp so gr re db rclk rlim (nI rqd) (nI rpk) rwas (nI 0)) H := hP
      have hD : va_D A (wR cI cZ ad co fa ic (upd me g ((me g) &&& (((nI 1) <<< ((nI r) &&& 31)) ^^^ (-1)))) (upd sw_57 ((10 * g) + k57) ((sw_57 ((10 * g) + k57)) &&& (((nI 1) <<< ((nI r) &&& 31)) ^^^ (-1)))) cn_57 ab go cp so gr re db rclk rlim (nI rqd) (nI rpk) rwas (nI 0)) := hD
      refine lv_aload_n hx hb dX6_leave_82 rfl (lv_at hl 0 rfl) ?_
      refine g_X6_30 B hP 0 rfl rfl dX6_leave_83 ?_
      refine lv_bipush (v := nI 40) hx hb dX6_leave_86 (by decide) ?_
      refine lv_iload_n hx hb dX6_leave_88 rfl (lv_at hl 1 rfl) ?_
      refine r_imul hx hb dX6_leave_89 ?_
      refine lv_iconst (v := nI 4) hx hb dX6_leave_90 (by decide) ?_
      refine lv_iload_n hx hb dX6_leave_91 rfl (lv_at hl 3 rfl) ?_
      refine r_imul hx hb dX6_leave_92 ?_
      refine r_iadd hx hb dX6_leave_93 ?_
      refine lv_iload_n hx hb dX6_leave_94 rfl (lv_at hl 2 rfl) ?_
      refine r_iadd hx hb dX6_leave_95 ?_
      refine lv_iconst (v := nI 0) hx hb dX6_leave_96 (by decide) ?_
      refine r_iast hx hb hK hP hD hS 6 0 rfl rfl (by omega) (by decide) dX6_leave_97 (fun H locs hP hD hS => ?_)
      have hP : va_P D vwCl (wR cI cZ ad co fa ic (upd me g ((me g) &&& (((nI 1) <<< ((nI r) &&& 31)) ^^^ (-1)))) (upd sw_57 ((10 * g) + k57) ((sw_57 ((10 * g) + k57)) &&& (((nI 1) <<< ((nI r) &&& 31)) ^^^ (-1)))) (upd cn_57 (((40 * r) + (4 * k57)) + g) (nI 0)) ab go cp so gr re db rclk rlim (nI rqd) (nI rpk) rwas (nI 0)) H := hP
      have hD : va_D A (wR cI cZ ad co fa ic (upd me g ((me g) &&& (((nI 1) <<< ((nI r) &&& 31)) ^^^ (-1)))) (upd sw_57 ((10 * g) + k57) ((sw_57 ((10 * g) + k57)) &&& (((nI 1) <<< ((nI r) &&& 31)) ^^^ (-1)))) (upd cn_57 (((40 * r) + (4 * k57)) + g) (nI 0)) ab go cp so gr re db rclk rlim (nI rqd) (nI rpk) rwas (nI 0)) := hD
      refine lv_iinc (v := nI (k57 + 1)) (lv' := [(3, .int (nI (k57 + 1))), (0, .ref (ad 0)), (1, .int (nI r)), (2, .int (nI g))]) hx hb dX6_leave_98 hl (k := 3) rfl (nI_add _ _) (by decide) rfl (fun ls hl => ?_)
      refine lv_goto (tgt := 57) hx hb dX6_leave_101 (by decide) ?_
      exact ih57 (k57 + 1) (upd sw_57 ((10 * g) + k57) ((sw_57 ((10 * g) + k57)) &&& (((nI 1) <<< ((nI r) &&& 31)) ^^^ (-1)))) (upd cn_57 (((40 * r) + (4 * k57)) + g) (nI 0)) (by omega) hf _ _ hP hD hS _ (lv_sub hl [1, 2, 3, 0] rfl)
  exact L57 10 0 sw cn (by omega) hf _ _ hP hD hS _ (lv_sub hl [1, 2, 3, 0] rfl)
def f_X6_second_L95 (me : Nat → Int32) (sw : Nat → Int32) (rclk : Int32) (k14 : Nat) (x3_25 : Int32) (ab_25 : Nat → Int32) : Nat → Nat → (Nat → Int32) → (Nat → Int32)
  | 0, _, go_95 => go_95
  | n95 + 1, k95, go_95 => if ((x3_25 >>> ((nI k95) &&& 31)) &&& (nI 1)) = (nI 1) then f_X6_second_L95 me sw rclk k14 x3_25 ab_25 n95 (k95 + 1) (f_X6_looks k14 k95 me sw ab_25 go_95 (rclk + (nI 1))) else f_X6_second_L95 me sw rclk k14 x3_25 ab_25 n95 (k95 + 1) go_95
def f_X6_second_L25 (rclk : Int32) (k14 : Nat) : Nat → Nat → Int32 → Int32 → (Nat → Int32) → (Nat → Int32) → Int32 × Int32 × (Nat → Int32) × (Nat → Int32)
  | 0, _, x1_25, x3_25, ab_25, go_25 => (x1_25, x3_25, ab_25, go_25)
  | n25 + 1, k25, x1_25, x3_25, ab_25, go_25 => if (go_25 ((10 * k14) + k25)) = (rclk + (nI 1)) then f_X6_second_L25 rclk k14 n25 (k25 + 1) (x1_25 + nI 1) (x3_25 ||| ((nI 1) <<< ((ab_25 ((10 * k14) + k25)) &&& 31))) (upd ab_25 ((10 * k14) + k25) (-1)) (upd go_25 ((10 * k14) + k25) (-1)) else f_X6_second_L25 rclk k14 n25 (k25 + 1) x1_25 x3_25 ab_25 go_25
def f_X6_second_L14 (me : Nat → Int32) (sw : Nat → Int32) (rclk : Int32) : Nat → Nat → Int32 → (Nat → Int32) → (Nat → Int32) → Int32 × (Nat → Int32) × (Nat → Int32) × Int32
  | 0, _, x1_14, ab_14, go_14 => (x1_14, ab_14, go_14, rclk + (nI 1))
  | n14 + 1, k14, x1_14, ab_14, go_14 => f_X6_second_L14 me sw rclk n14 (k14 + 1) ((f_X6_second_L25 rclk k14 10 0 x1_14 (nI 0) ab_14 go_14).1) ((f_X6_second_L25 rclk k14 10 0 x1_14 (nI 0) ab_14 go_14).2.2.1) (f_X6_second_L95 me sw rclk k14 ((f_X6_second_L25 rclk k14 10 0 x1_14 (nI 0) ab_14 go_14).2.1) ((f_X6_second_L25 rclk k14 10 0 x1_14 (nI 0) ab_14 go_14).2.2.1) 10 0 ((f_X6_second_L25 rclk k14 10 0 x1_14 (nI 0) ab_14 go_14).2.2.2))
def f_X6_second (me : Nat → Int32) (sw : Nat → Int32) (ab : Nat → Int32) (go : Nat → Int32) (rclk : Int32) : Int32 × (Nat → Int32) × (Nat → Int32) × Int32 :=
  f_X6_second_L14 me sw rclk 44 0 (nI 0) ab go
set_option maxHeartbeats 4000000 in
set_option maxRecDepth 100000 in
theorem c_X6_second (l : Launch) (D : va_G) (cI cZ : ClassId) (ad : Nat → Nat) (co fa ic me sw cn ab go cp so gr re db : Nat → Int32) (rclk : Int32) (rlim : Int32) (rqd : Nat) (rpk : Nat) (rwas : Int32) (rthr : Int32) : MI l yX6_second cX6_second 6 .int { frames := 2, cells := 0, slots := 0, locals := 47 } D (TY cI cZ) [.ref (ad 0)] (wR cI cZ ad co fa ic me sw cn ab go cp so gr re db rclk rlim (nI rqd) (nI rpk) rwas rthr) (wR cI cZ ad co fa ic me sw cn ((f_X6_second me sw ab go rclk).2.1) ((f_X6_second me sw ab go rclk).2.2.1) cp so gr re db ((f_X6_second me sw ab go rclk).2.2.2) rlim (nI rqd) (nI rpk) rwas rthr) ((f_X6_second me sw ab go rclk).1) := by
  refine MI.mk ⟨rfl, rfl⟩ (by decide +kernel) (Nat.le_of_ble_eq_true rfl) ?_
  intro p e s m below meth c A ls B hA hP hD hS hl
  have hx := B.1
  have hb := B.2.1
  have hts := B.2.2.2.2.2.1
  have hN := B.2.2.2.2.2.2.2.1
  have hK := B.2.2.2.2.2.2.2.2.1
  have hl : lv_has ls 6 [(0, .ref (ad 0))] := hl
  have hf := f_X6_second.eq_1 me sw ab go rclk
  refine lv_iconst (v := nI 0) hx hb dX6_second_0 (by decide) ?_
  refine lv_istore_n (lv' := [(1, .int (nI 0)), (0, .ref (ad 0))]) hx hb dX6_second_1 rfl hl (by decide) rfl (fun ls hl => ?_)
  refine lv_aload_n hx hb dX6_second_2 rfl (lv_at hl 1 rfl) ?_
  refine lv_dup hx hb dX6_second_3 rfl ?_
  refine g_X6_79 B hP 0 rfl rfl dX6_second_4 ?_
  refine lv_iconst (v := nI 1) hx hb dX6_second_7 (by decide) ?_
  refine lv_iadd hx hb dX6_second_8 ?_
  refine p_X6_79 B hP hD hS 0 rfl (Nat.le_of_ble_eq_true rfl) dX6_second_9 (fun H locs hP hD hS => ?_)
  have hP : va_P D vwCl (wR cI cZ ad co fa ic me sw cn ab go cp so gr re db (rclk + (nI 1)) rlim (nI rqd) (nI rpk) rwas rthr) H := hP
  have hD : va_D A (wR cI cZ ad co fa ic me sw cn ab go cp so gr re db (rclk + (nI 1)) rlim (nI rqd) (nI rpk) rwas rthr) := hD
  refine lv_iconst (v := nI 0) hx hb dX6_second_12 (by decide) ?_
  refine lv_istore_n (lv' := [(2, .int (nI 0)), (1, .int (nI 0)), (0, .ref (ad 0))]) hx hb dX6_second_13 rfl hl (by decide) rfl (fun ls hl => ?_)
  have L14 : ∀ (n14 : Nat) (k14 : Nat) (x1_14 : Int32) (ab_14 : Nat → Int32) (go_14 : Nat → Int32), k14 + n14 = 44 → f_X6_second me sw ab go rclk = (f_X6_second_L14 me sw rclk n14 k14 x1_14 ab_14 go_14) → ∀ (H : Heap) (locs : List Loc), va_P D vwCl (wR cI cZ ad co fa ic me sw cn ab_14 go_14 cp so gr re db (rclk + (nI 1)) rlim (nI rqd) (nI rpk) rwas rthr) H → va_D A (wR cI cZ ad co fa ic me sw cn ab_14 go_14 cp so gr re db (rclk + (nI 1)) rlim (nI rqd) (nI rpk) rwas rthr) → va_S A s.heap H locs → ∀ ls : Array Slot, lv_has ls 6 [(0, .ref (ad 0)), (1, .int x1_14), (2, .int (nI k14))] → W p l e { frames := 2, cells := 0, slots := 0, locals := 47 } s m [.ref (ad 0)].toArray below meth c H locs 0 0 (QI below s A D [.ref (ad 0)] (wR cI cZ ad co fa ic me sw cn ((f_X6_second me sw ab go rclk).2.1) ((f_X6_second me sw ab go rclk).2.2.1) cp so gr re db ((f_X6_second me sw ab go rclk).2.2.2) rlim (nI rqd) (nI rpk) rwas rthr) ((f_X6_second me sw ab go rclk).1)) (F0 m 14 ls []) := by
    intro n14
    induction n14 with
    | zero =>
      intro k14 x1_14 ab_14 go_14 hk14 hf H locs hP hD hS ls hl
      obtain rfl : 44 = k14 := by omega
      rw [f_X6_second_L14] at hf
      have hl : lv_has ls 6 [(0, .ref (ad 0)), (1, .int x1_14), (2, .int (nI 44))] := hl
      refine lv_iload_n hx hb dX6_second_14 rfl (lv_at hl 2 rfl) ?_
      refine lv_bipush (v := nI 44) hx hb dX6_second_15 (by decide) ?_
      refine r_icmp_ge (tgt := 131) hx hb (by omega) (by omega) dX6_second_17 (by decide) (fun _ => ?_) (fun c => absurd c (by omega))
      refine lv_iload_n hx hb dX6_second_131 rfl (lv_at hl 1 rfl) ?_
      exact eI B hP hS (by simp only [hf]) (by simp only [hf]) dX6_second_132
    | succ n14 ih14 =>
      intro k14 x1_14 ab_14 go_14 hk14 hf H locs hP hD hS ls hl
      rw [f_X6_second_L14] at hf
      have hl : lv_has ls 6 [(0, .ref (ad 0)), (1, .int x1_14), (2, .int (nI k14))] := hl
      refine lv_iload_n hx hb dX6_second_14 rfl (lv_at hl 2 rfl) ?_
      refine lv_bipush (v := nI 44) hx hb dX6_second_15 (by decide) ?_
      refine r_icmp_ge (tgt := 131) hx hb (by omega) (by omega) dX6_second_17 (by decide) (fun c => absurd c (by omega)) (fun _ => ?_)
      refine lv_iconst (v := nI 0) hx hb dX6_second_20 (by decide) ?_
      refine lv_istore_n (lv' := [(3, .int (nI 0)), (0, .ref (ad 0)), (1, .int x1_14), (2, .int (nI k14))]) hx hb dX6_second_21 rfl hl (by decide) rfl (fun ls hl => ?_)
      refine lv_iconst (v := nI 0) hx hb dX6_second_22 (by decide) ?_
      refine lv_istore (lv' := [(4, .int (nI 0)), (3, .int (nI 0)), (0, .ref (ad 0)), (1, .int x1_14), (2, .int (nI k14))]) hx hb dX6_second_23 hl (by decide) rfl (fun ls hl => ?_)
      have L25 : ∀ (n25 : Nat) (k25 : Nat) (x1_25 : Int32) (x3_25 : Int32) (ab_25 : Nat → Int32) (go_25 : Nat → Int32), k25 + n25 = 10 → f_X6_second me sw ab go rclk = (f_X6_second_L14 me sw rclk n14 (k14 + 1) ((f_X6_second_L25 rclk k14 n25 k25 x1_25 x3_25 ab_25 go_25).1) ((f_X6_second_L25 rclk k14 n25 k25 x1_25 x3_25 ab_25 go_25).2.2.1) (f_X6_second_L95 me sw rclk k14 ((f_X6_second_L25 rclk k14 n25 k25 x1_25 x3_25 ab_25 go_25).2.1) ((f_X6_second_L25 rclk k14 n25 k25 x1_25 x3_25 ab_25 go_25).2.2.1) 10 0 ((f_X6_second_L25 rclk k14 n25 k25 x1_25 x3_25 ab_25 go_25).2.2.2))) → ∀ (H : Heap) (locs : List Loc), va_P D vwCl (wR cI cZ ad co fa ic me sw cn ab_25 go_25 cp so gr re db (rclk + (nI 1)) rlim (nI rqd) (nI rpk) rwas rthr) H → va_D A (wR cI cZ ad co fa ic me sw cn ab_25 go_25 cp so gr re db (rclk + (nI 1)) rlim (nI rqd) (nI rpk) rwas rthr) → va_S A s.heap H locs → ∀ ls : Array Slot, lv_has ls 6 [(0, .ref (ad 0)), (1, .int x1_25), (2, .int (nI k14)), (3, .int x3_25), (4, .int (nI k25))] → W p l e { frames := 2, cells := 0, slots := 0, locals := 47 } s m [.ref (ad 0)].toArray below meth c H locs 0 0 (QI below s A D [.ref (ad 0)] (wR cI cZ ad co fa ic me sw cn ((f_X6_second me sw ab go rclk).2.1) ((f_X6_second me sw ab go rclk).2.2.1) cp so gr re db ((f_X6_second me sw ab go rclk).2.2.2) rlim (nI rqd) (nI rpk) rwas rthr) ((f_X6_second me sw ab go rclk).1)) (F0 m 25 ls []) := by
        intro n25
        induction n25 with
        | zero =>
          intro k25 x1_25 x3_25 ab_25 go_25 hk25 hf H locs hP hD hS ls hl
          obtain rfl : 10 = k25 := by omega
          rw [f_X6_second_L25] at hf
          dsimp only at hf
          have hl : lv_has ls 6 [(0, .ref (ad 0)), (1, .int x1_25), (2, .int (nI k14)), (3, .int x3_25), (4, .int (nI 10))] := hl
          refine lv_iload hx hb dX6_second_25 (lv_at hl 4 rfl) ?_
          refine lv_bipush (v := nI 10) hx hb dX6_second_27 (by decide) ?_
          refine r_icmp_ge (tgt := 92) hx hb (by omega) (by omega) dX6_second_29 (by decide) (fun _ => ?_) (fun c => absurd c (by omega))
          refine lv_iconst (v := nI 0) hx hb dX6_second_92 (by decide) ?_
          refine lv_istore (lv' := [(4, .int (nI 0)), (0, .ref (ad 0)), (1, .int x1_25), (2, .int (nI k14)), (3, .int x3_25)]) hx hb dX6_second_93 hl (by decide) rfl (fun ls hl => ?_)
          have L95 : ∀ (n95 : Nat) (k95 : Nat) (go_95 : Nat → Int32), k95 + n95 = 10 → f_X6_second me sw ab go rclk = (f_X6_second_L14 me sw rclk n14 (k14 + 1) x1_25 ab_25 (f_X6_second_L95 me sw rclk k14 x3_25 ab_25 n95 k95 go_95)) → ∀ (H : Heap) (locs : List Loc), va_P D vwCl (wR cI cZ ad co fa ic me sw cn ab_25 go_95 cp so gr re db (rclk + (nI 1)) rlim (nI rqd) (nI rpk) rwas rthr) H → va_D A (wR cI cZ ad co fa ic me sw cn ab_25 go_95 cp so gr re db (rclk + (nI 1)) rlim (nI rqd) (nI rpk) rwas rthr) → va_S A s.heap H locs → ∀ ls : Array Slot, lv_has ls 6 [(0, .ref (ad 0)), (1, .int x1_25), (2, .int (nI k14)), (3, .int x3_25), (4, .int (nI k95))] → W p l e { frames := 2, cells := 0, slots := 0, locals := 47 } s m [.ref (ad 0)].toArray below meth c H locs 0 0 (QI below s A D [.ref (ad 0)] (wR cI cZ ad co fa ic me sw cn ((f_X6_second me sw ab go rclk).2.1) ((f_X6_second me sw ab go rclk).2.2.1) cp so gr re db ((f_X6_second me sw ab go rclk).2.2.2) rlim (nI rqd) (nI rpk) rwas rthr) ((f_X6_second me sw ab go rclk).1)) (F0 m 95 ls []) := by
            intro n95
            induction n95 with
            | zero =>
              intro k95 go_95 hk95 hf H locs hP hD hS ls hl
              obtain rfl : 10 = k95 := by omega
              rw [f_X6_second_L95] at hf
              have hl : lv_has ls 6 [(0, .ref (ad 0)), (1, .int x1_25), (2, .int (nI k14)), (3, .int x3_25), (4, .int (nI 10))] := hl
              refine lv_iload hx hb dX6_second_95 (lv_at hl 4 rfl) ?_
              refine lv_bipush (v := nI 10) hx hb dX6_second_97 (by decide) ?_
              refine r_icmp_ge (tgt := 125) hx hb (by omega) (by omega) dX6_second_99 (by decide) (fun _ => ?_) (fun c => absurd c (by omega))
              refine lv_iinc (v := nI (k14 + 1)) (lv' := [(2, .int (nI (k14 + 1))), (0, .ref (ad 0)), (1, .int x1_25), (3, .int x3_25), (4, .int (nI 10))]) hx hb dX6_second_125 hl (k := 2) rfl (nI_add _ _) (by decide) rfl (fun ls hl => ?_)
              refine lv_goto (tgt := 14) hx hb dX6_second_128 (by decide) ?_
              exact ih14 (k14 + 1) x1_25 ab_25 go_95 (by omega) hf _ _ hP hD hS _ (lv_sub hl [1, 2, 0] rfl)
            | succ n95 ih95 =>
              intro k95 go_95 hk95 hf H locs hP hD hS ls hl
              rw [f_X6_second_L95] at hf
              have hl : lv_has ls 6 [(0, .ref (ad 0)), (1, .int x1_25), (2, .int (nI k14)), (3, .int x3_25), (4, .int (nI k95))] := hl
              refine lv_iload hx hb dX6_second_95 (lv_at hl 4 rfl) ?_
              refine lv_bipush (v := nI 10) hx hb dX6_second_97 (by decide) ?_
              refine r_icmp_ge (tgt := 125) hx hb (by omega) (by omega) dX6_second_99 (by decide) (fun c => absurd c (by omega)) (fun _ => ?_)
              refine lv_iload_n hx hb dX6_second_102 rfl (lv_at hl 3 rfl) ?_
              refine lv_iload hx hb dX6_second_103 (lv_at hl 4 rfl) ?_
              refine lv_ishr hx hb dX6_second_105 ?_
              refine lv_iconst (v := nI 1) hx hb dX6_second_106 (by decide) ?_
              refine lv_iand hx hb dX6_second_107 ?_
              refine lv_iconst (v := nI 1) hx hb dX6_second_108 (by decide) ?_
              refine lv_icmp_ne (tgt := 119) hx hb dX6_second_109 (by decide) (fun c24 => ?_) (fun c24 => ?_)
              · rw [if_neg c24] at hf
                refine lv_iinc (v := nI (k95 + 1)) (lv' := [(4, .int (nI (k95 + 1))), (0, .ref (ad 0)), (1, .int x1_25), (2, .int (nI k14)), (3, .int x3_25)]) hx hb dX6_second_119 hl (k := 4) rfl (nI_add _ _) (by decide) rfl (fun ls hl => ?_)
                refine lv_goto (tgt := 95) hx hb dX6_second_122 (by decide) ?_
                exact ih95 (k95 + 1) go_95 (by omega) hf _ _ hP hD hS _ (lv_sub hl [1, 2, 3, 4, 0] rfl)
              · rw [if_pos c24] at hf
                refine lv_aload_n hx hb dX6_second_112 rfl (lv_at hl 0 rfl) ?_
                refine lv_iload_n hx hb dX6_second_113 rfl (lv_at hl 2 rfl) ?_
                refine lv_iload hx hb dX6_second_114 (lv_at hl 4 rfl) ?_
                refine fV_v (ci := 6) (as := [.int (nI k14), .int (nI k95)]) (rest := []) B hl.1 (c_X6_looks l D cI cZ ad co fa ic me sw cn ab_25 go_95 cp so gr re db (rclk + (nI 1)) rlim rqd rpk rwas rthr k14 k95 (by omega) (by omega)) rfl (l_RX6_105 hts ⟨rfl, rfl⟩ ⟨Nat.le_of_ble_eq_true rfl, Nat.le_of_ble_eq_true rfl⟩) m_17_0 m_17_1 rfl rfl hP hD hS hA 0 rfl wfR (Nat.le_of_ble_eq_true rfl) dX6_second_116 (fun H locs hP hD hS => ?_)
                refine lv_iinc (v := nI (k95 + 1)) (lv' := [(4, .int (nI (k95 + 1))), (0, .ref (ad 0)), (1, .int x1_25), (2, .int (nI k14)), (3, .int x3_25)]) hx hb dX6_second_119 hl (k := 4) rfl (nI_add _ _) (by decide) rfl (fun ls hl => ?_)
                refine lv_goto (tgt := 95) hx hb dX6_second_122 (by decide) ?_
                exact ih95 (k95 + 1) (f_X6_looks k14 k95 me sw ab_25 go_95 (rclk + (nI 1))) (by omega) hf _ _ hP hD hS _ (lv_sub hl [1, 2, 3, 4, 0] rfl)
          exact L95 10 0 go_25 (by omega) hf _ _ hP hD hS _ (lv_sub hl [1, 2, 3, 4, 0] rfl)
        | succ n25 ih25 =>
          intro k25 x1_25 x3_25 ab_25 go_25 hk25 hf H locs hP hD hS ls hl
          rw [f_X6_second_L25] at hf
          have hl : lv_has ls 6 [(0, .ref (ad 0)), (1, .int x1_25), (2, .int (nI k14)), (3, .int x3_25), (4, .int (nI k25))] := hl
          refine lv_iload hx hb dX6_second_25 (lv_at hl 4 rfl) ?_
          refine lv_bipush (v := nI 10) hx hb dX6_second_27 (by decide) ?_
          refine r_icmp_ge (tgt := 92) hx hb (by omega) (by omega) dX6_second_29 (by decide) (fun c => absurd c (by omega)) (fun _ => ?_)
          refine lv_bipush (v := nI 10) hx hb dX6_second_32 (by decide) ?_
          refine lv_iload_n hx hb dX6_second_34 rfl (lv_at hl 2 rfl) ?_
          refine r_imul hx hb dX6_second_35 ?_
          refine lv_iload hx hb dX6_second_36 (lv_at hl 4 rfl) ?_
          refine r_iadd hx hb dX6_second_38 ?_
          refine lv_istore (lv' := [(5, .int (nI ((10 * k14) + k25))), (0, .ref (ad 0)), (1, .int x1_25), (2, .int (nI k14)), (3, .int x3_25), (4, .int (nI k25))]) hx hb dX6_second_39 hl (by decide) rfl (fun ls hl => ?_)
          refine lv_aload_n hx hb dX6_second_41 rfl (lv_at hl 1 rfl) ?_
          refine g_X6_36 B hP 0 rfl rfl dX6_second_42 ?_
          refine lv_iload hx hb dX6_second_45 (lv_at hl 0 rfl) ?_
          refine r_iald hx hb hK hP 8 0 rfl rfl (by omega) (by decide) dX6_second_47 ?_
          refine lv_aload_n hx hb dX6_second_48 rfl (lv_at hl 1 rfl) ?_
          refine g_X6_79 B hP 0 rfl rfl dX6_second_49 ?_
          refine lv_icmp_ne (tgt := 86) hx hb dX6_second_52 (by decide) (fun c25 => ?_) (fun c25 => ?_)
          · rw [if_neg c25] at hf
            refine lv_iinc (v := nI (k25 + 1)) (lv' := [(4, .int (nI (k25 + 1))), (5, .int (nI ((10 * k14) + k25))), (0, .ref (ad 0)), (1, .int x1_25), (2, .int (nI k14)), (3, .int x3_25)]) hx hb dX6_second_86 hl (k := 5) rfl (nI_add _ _) (by decide) rfl (fun ls hl => ?_)
            refine lv_goto (tgt := 25) hx hb dX6_second_89 (by decide) ?_
            exact ih25 (k25 + 1) x1_25 x3_25 ab_25 go_25 (by omega) hf _ _ hP hD hS _ (lv_sub hl [2, 3, 4, 5, 0] rfl)
          · rw [if_pos c25] at hf
            refine lv_iload_n hx hb dX6_second_55 rfl (lv_at hl 4 rfl) ?_
            refine lv_iconst (v := nI 1) hx hb dX6_second_56 (by decide) ?_
            refine lv_aload_n hx hb dX6_second_57 rfl (lv_at hl 1 rfl) ?_
            refine g_X6_33 B hP 0 rfl rfl dX6_second_58 ?_
            refine lv_iload hx hb dX6_second_61 (lv_at hl 0 rfl) ?_
            refine r_iald hx hb hK hP 7 0 rfl rfl (by omega) (by decide) dX6_second_63 ?_
            refine lv_ishl hx hb dX6_second_64 ?_
            refine lv_ior hx hb dX6_second_65 ?_
            refine lv_istore_n (lv' := [(3, .int (x3_25 ||| ((nI 1) <<< ((ab_25 ((10 * k14) + k25)) &&& 31)))), (5, .int (nI ((10 * k14) + k25))), (0, .ref (ad 0)), (1, .int x1_25), (2, .int (nI k14)), (4, .int (nI k25))]) hx hb dX6_second_66 rfl hl (by decide) rfl (fun ls hl => ?_)
            refine lv_aload_n hx hb dX6_second_67 rfl (lv_at hl 2 rfl) ?_
            refine g_X6_33 B hP 0 rfl rfl dX6_second_68 ?_
            refine lv_iload hx hb dX6_second_71 (lv_at hl 1 rfl) ?_
            refine lv_iconst (v := -1) hx hb dX6_second_73 (by decide) ?_
            refine r_iast hx hb hK hP hD hS 7 0 rfl rfl (by omega) (by decide) dX6_second_74 (fun H locs hP hD hS => ?_)
            have hP : va_P D vwCl (wR cI cZ ad co fa ic me sw cn (upd ab_25 ((10 * k14) + k25) (-1)) go_25 cp so gr re db (rclk + (nI 1)) rlim (nI rqd) (nI rpk) rwas rthr) H := hP
            have hD : va_D A (wR cI cZ ad co fa ic me sw cn (upd ab_25 ((10 * k14) + k25) (-1)) go_25 cp so gr re db (rclk + (nI 1)) rlim (nI rqd) (nI rpk) rwas rthr) := hD
            refine lv_aload_n hx hb dX6_second_75 rfl (lv_at hl 2 rfl) ?_
            refine g_X6_36 B hP 0 rfl rfl dX6_second_76 ?_
            refine lv_iload hx hb dX6_second_79 (lv_at hl 1 rfl) ?_
            refine lv_iconst (v := -1) hx hb dX6_second_81 (by decide) ?_
            refine r_iast hx hb hK hP hD hS 8 0 rfl rfl (by omega) (by decide) dX6_second_82 (fun H locs hP hD hS => ?_)
            have hP : va_P D vwCl (wR cI cZ ad co fa ic me sw cn (upd ab_25 ((10 * k14) + k25) (-1)) (upd go_25 ((10 * k14) + k25) (-1)) cp so gr re db (rclk + (nI 1)) rlim (nI rqd) (nI rpk) rwas rthr) H := hP
            have hD : va_D A (wR cI cZ ad co fa ic me sw cn (upd ab_25 ((10 * k14) + k25) (-1)) (upd go_25 ((10 * k14) + k25) (-1)) cp so gr re db (rclk + (nI 1)) rlim (nI rqd) (nI rpk) rwas rthr) := hD
            refine lv_iinc (v := x1_25 + nI 1) (lv' := [(1, .int (x1_25 + nI 1)), (3, .int (x3_25 ||| ((nI 1) <<< ((ab_25 ((10 * k14) + k25)) &&& 31)))), (5, .int (nI ((10 * k14) + k25))), (0, .ref (ad 0)), (2, .int (nI k14)), (4, .int (nI k25))]) hx hb dX6_second_83 hl (k := 3) rfl rfl (by decide) rfl (fun ls hl => ?_)
            refine lv_iinc (v := nI (k25 + 1)) (lv' := [(4, .int (nI (k25 + 1))), (1, .int (x1_25 + nI 1)), (3, .int (x3_25 ||| ((nI 1) <<< ((ab_25 ((10 * k14) + k25)) &&& 31)))), (5, .int (nI ((10 * k14) + k25))), (0, .ref (ad 0)), (2, .int (nI k14))]) hx hb dX6_second_86 hl (k := 5) rfl (nI_add _ _) (by decide) rfl (fun ls hl => ?_)
            refine lv_goto (tgt := 25) hx hb dX6_second_89 (by decide) ?_
            exact ih25 (k25 + 1) (x1_25 + nI 1) (x3_25 ||| ((nI 1) <<< ((ab_25 ((10 * k14) + k25)) &&& 31))) (upd ab_25 ((10 * k14) + k25) (-1)) (upd go_25 ((10 * k14) + k25) (-1)) (by omega) hf _ _ hP hD hS _ (lv_sub hl [4, 1, 5, 2, 0] rfl)
      exact L25 10 0 x1_14 (nI 0) ab_14 go_14 (by omega) hf _ _ hP hD hS _ (lv_sub hl [2, 3, 4, 1, 0] rfl)
  exact L14 44 0 (nI 0) ab go (by omega) hf _ _ hP hD hS _ (lv_sub hl [2, 1, 0] rfl)
def f_X6_pass_L60 (rclk : Int32) (x2_38 : Int32) (ab_38 : Nat → Int32) (go_38 : Nat → Int32) (rclk_38 : Int32) : Nat → Nat → (Nat → Int32) → Int32 × (Nat → Int32) × (Nat → Int32) × (Nat → Int32) × Int32 × Int32
  | 0, _, cn_60 => (x2_38, cn_60, ab_38, go_38, rclk_38, nI 0)
  | n60 + 1, k60, cn_60 => if (rclk_38 / (nI 10)) ≤ (rclk / (nI 10)) then (x2_38, cn_60, ab_38, go_38, rclk_38, nI 0) else f_X6_pass_L60 rclk x2_38 ab_38 go_38 rclk_38 n60 (k60 + 1) (upd cn_60 k60 (nI 0))
def f_X6_pass_L38 (se : Nat) (me : Nat → Int32) (sw : Nat → Int32) (cn : Nat → Int32) (rclk : Int32) : Nat → Nat → Int32 → (Nat → Int32) → (Nat → Int32) → Int32 → Int32 × (Nat → Int32) × (Nat → Int32) × (Nat → Int32) × Int32 × Int32
  | 0, _, x2_38, ab_38, go_38, rclk_38 => f_X6_pass_L60 rclk x2_38 ab_38 go_38 rclk_38 400 0 cn
  | n38 + 1, k38, x2_38, ab_38, go_38, rclk_38 => f_X6_pass_L38 se me sw cn rclk n38 (k38 + 1) (x2_38 + ((f_X6_second me sw ab_38 go_38 rclk_38).1)) ((f_X6_second me sw ab_38 go_38 rclk_38).2.1) ((f_X6_second me sw ab_38 go_38 rclk_38).2.2.1) ((f_X6_second me sw ab_38 go_38 rclk_38).2.2.2)
def f_X6_pass (se : Nat) (me : Nat → Int32) (sw : Nat → Int32) (cn : Nat → Int32) (ab : Nat → Int32) (go : Nat → Int32) (rclk : Int32) : Int32 × (Nat → Int32) × (Nat → Int32) × (Nat → Int32) × Int32 × Int32 :=
  f_X6_pass_L38 se me sw cn rclk se 0 (nI 0) ab go rclk
set_option maxHeartbeats 4000000 in
set_option maxRecDepth 100000 in
theorem c_X6_pass (l : Launch) (D : va_G) (cI cZ : ClassId) (ad : Nat → Nat) (co fa ic me sw cn ab go cp so gr re db : Nat → Int32) (rclk : Int32) (rlim : Int32) (rqd : Nat) (rpk : Nat) (rwas : Int32) (rthr : Int32) (se : Nat) (hse : se < 101) (h1se : 1 ≤ se) : MI l yX6_pass cX6_pass 5 .int { frames := 3, cells := 0, slots := 0, locals := 72 } D (TY cI cZ) [.ref (ad 0), .int (nI se)] (wR cI cZ ad co fa ic me sw cn ab go cp so gr re db rclk rlim (nI rqd) (nI rpk) rwas rthr) (wR cI cZ ad co fa ic me sw ((f_X6_pass se me sw cn ab go rclk).2.1) ((f_X6_pass se me sw cn ab go rclk).2.2.1) ((f_X6_pass se me sw cn ab go rclk).2.2.2.1) cp so gr re db ((f_X6_pass se me sw cn ab go rclk).2.2.2.2.1) rlim (nI rqd) (nI rpk) rwas ((f_X6_pass se me sw cn ab go rclk).2.2.2.2.2)) ((f_X6_pass se me sw cn ab go rclk).1) := by
  refine MI.mk ⟨rfl, rfl⟩ (by decide +kernel) (Nat.le_of_ble_eq_true rfl) ?_
  intro p e s m below meth c A ls B hA hP hD hS hl
  have hx := B.1
  have hb := B.2.1
  have hts := B.2.2.2.2.2.1
  have hN := B.2.2.2.2.2.2.2.1
  have hK := B.2.2.2.2.2.2.2.2.1
  have hl : lv_has ls 5 [(0, .ref (ad 0)), (1, .int (nI se))] := hl
  have hf := f_X6_pass.eq_1 se me sw cn ab go rclk
  refine lv_aload_n hx hb dX6_pass_0 rfl (lv_at hl 0 rfl) ?_
  refine lv_iload_n hx hb dX6_pass_1 rfl (lv_at hl 1 rfl) ?_
  refine lv_iconst (v := nI 1) hx hb dX6_pass_2 (by decide) ?_
  refine r_icmp_lt (tgt := 12) hx hb (by omega) (by omega) dX6_pass_3 (by decide) (fun c => absurd c (by omega)) (fun _ => ?_)
  refine lv_iload_n hx hb dX6_pass_6 rfl (lv_at hl 1 rfl) ?_
  refine lv_bipush (v := nI 100) hx hb dX6_pass_7 (by decide) ?_
  refine r_icmp_le (tgt := 16) hx hb (by omega) (by omega) dX6_pass_9 (by decide) (fun _ => ?_) (fun c => absurd c (by omega))
  refine lv_iconst (v := nI 0) hx hb dX6_pass_16 (by decide) ?_
  refine fV_i (ci := 6) (as := [.int (nI 0)]) (rest := []) B hl.1 (c_X6_can_0 l D cI cZ ad co fa ic me sw cn ab go cp so gr re db rclk rlim rqd rpk rwas rthr) rfl (l_RX6_90 hts ⟨rfl, rfl⟩ ⟨Nat.le_of_ble_eq_true rfl, Nat.le_of_ble_eq_true rfl⟩) m_9_1 m_9_2 rfl rfl hP hD hS hA 0 rfl wfR (Nat.le_of_ble_eq_true rfl) dX6_pass_17 (fun H locs hP hD hS => ?_)
  refine r_if_ne (tgt := 25) hx hb (by omega) dX6_pass_20 (by decide) (fun _ => ?_) (fun c => absurd c (by omega))
  refine lv_iconst (v := nI 0) hx hb dX6_pass_25 (by decide) ?_
  refine lv_istore_n (lv' := [(2, .int (nI 0)), (0, .ref (ad 0)), (1, .int (nI se))]) hx hb dX6_pass_26 rfl hl (by decide) rfl (fun ls hl => ?_)
  refine lv_aload_n hx hb dX6_pass_27 rfl (lv_at hl 1 rfl) ?_
  refine g_X6_79 B hP 0 rfl rfl dX6_pass_28 ?_
  refine lv_bipush (v := nI 10) hx hb dX6_pass_31 (by decide) ?_
  refine lv_idiv hx hb dX6_pass_33 (by decide) ?_
  refine lv_istore_n (lv' := [(3, .int (rclk / (nI 10))), (2, .int (nI 0)), (0, .ref (ad 0)), (1, .int (nI se))]) hx hb dX6_pass_34 rfl hl (by decide) rfl (fun ls hl => ?_)
  refine lv_iconst (v := nI 0) hx hb dX6_pass_35 (by decide) ?_
  refine lv_istore (lv' := [(4, .int (nI 0)), (3, .int (rclk / (nI 10))), (2, .int (nI 0)), (0, .ref (ad 0)), (1, .int (nI se))]) hx hb dX6_pass_36 hl (by decide) rfl (fun ls hl => ?_)
  have L38 : ∀ (n38 : Nat) (k38 : Nat) (x2_38 : Int32) (ab_38 : Nat → Int32) (go_38 : Nat → Int32) (rclk_38 : Int32), k38 + n38 = se → f_X6_pass se me sw cn ab go rclk = (f_X6_pass_L38 se me sw cn rclk n38 k38 x2_38 ab_38 go_38 rclk_38) → ∀ (H : Heap) (locs : List Loc), va_P D vwCl (wR cI cZ ad co fa ic me sw cn ab_38 go_38 cp so gr re db rclk_38 rlim (nI rqd) (nI rpk) rwas (nI 0)) H → va_D A (wR cI cZ ad co fa ic me sw cn ab_38 go_38 cp so gr re db rclk_38 rlim (nI rqd) (nI rpk) rwas (nI 0)) → va_S A s.heap H locs → ∀ ls : Array Slot, lv_has ls 5 [(0, .ref (ad 0)), (1, .int (nI se)), (2, .int x2_38), (3, .int (rclk / (nI 10))), (4, .int (nI k38))] → W p l e { frames := 3, cells := 0, slots := 0, locals := 72 } s m [.ref (ad 0), .int (nI se)].toArray below meth c H locs 0 0 (QI below s A D [.ref (ad 0), .int (nI se)] (wR cI cZ ad co fa ic me sw ((f_X6_pass se me sw cn ab go rclk).2.1) ((f_X6_pass se me sw cn ab go rclk).2.2.1) ((f_X6_pass se me sw cn ab go rclk).2.2.2.1) cp so gr re db ((f_X6_pass se me sw cn ab go rclk).2.2.2.2.1) rlim (nI rqd) (nI rpk) rwas ((f_X6_pass se me sw cn ab go rclk).2.2.2.2.2)) ((f_X6_pass se me sw cn ab go rclk).1)) (F0 m 38 ls []) := by
    intro n38
    induction n38 with
    | zero =>
      intro k38 x2_38 ab_38 go_38 rclk_38 hk38 hf H locs hP hD hS ls hl
      obtain rfl : se = k38 := by omega
      rw [f_X6_pass_L38] at hf
      have hl : lv_has ls 5 [(0, .ref (ad 0)), (1, .int (nI se)), (2, .int x2_38), (3, .int (rclk / (nI 10))), (4, .int (nI se))] := hl
      refine lv_iload hx hb dX6_pass_38 (lv_at hl 4 rfl) ?_
      refine lv_iload_n hx hb dX6_pass_40 rfl (lv_at hl 1 rfl) ?_
      refine r_icmp_ge (tgt := 57) hx hb (by omega) (by omega) dX6_pass_41 (by decide) (fun _ => ?_) (fun c => absurd c (by omega))
      refine lv_iconst (v := nI 0) hx hb dX6_pass_57 (by decide) ?_
      refine lv_istore (lv' := [(4, .int (nI 0)), (0, .ref (ad 0)), (1, .int (nI se)), (2, .int x2_38), (3, .int (rclk / (nI 10)))]) hx hb dX6_pass_58 hl (by decide) rfl (fun ls hl => ?_)
      have L60 : ∀ (n60 : Nat) (k60 : Nat) (cn_60 : Nat → Int32), k60 + n60 = 400 → f_X6_pass se me sw cn ab go rclk = (f_X6_pass_L60 rclk x2_38 ab_38 go_38 rclk_38 n60 k60 cn_60) → ∀ (H : Heap) (locs : List Loc), va_P D vwCl (wR cI cZ ad co fa ic me sw cn_60 ab_38 go_38 cp so gr re db rclk_38 rlim (nI rqd) (nI rpk) rwas (nI 0)) H → va_D A (wR cI cZ ad co fa ic me sw cn_60 ab_38 go_38 cp so gr re db rclk_38 rlim (nI rqd) (nI rpk) rwas (nI 0)) → va_S A s.heap H locs → ∀ ls : Array Slot, lv_has ls 5 [(0, .ref (ad 0)), (1, .int (nI se)), (2, .int x2_38), (3, .int (rclk / (nI 10))), (4, .int (nI k60))] → W p l e { frames := 3, cells := 0, slots := 0, locals := 72 } s m [.ref (ad 0), .int (nI se)].toArray below meth c H locs 0 0 (QI below s A D [.ref (ad 0), .int (nI se)] (wR cI cZ ad co fa ic me sw ((f_X6_pass se me sw cn ab go rclk).2.1) ((f_X6_pass se me sw cn ab go rclk).2.2.1) ((f_X6_pass se me sw cn ab go rclk).2.2.2.1) cp so gr re db ((f_X6_pass se me sw cn ab go rclk).2.2.2.2.1) rlim (nI rqd) (nI rpk) rwas ((f_X6_pass se me sw cn ab go rclk).2.2.2.2.2)) ((f_X6_pass se me sw cn ab go rclk).1)) (F0 m 60 ls []) := by
        intro n60
        induction n60 with
        | zero =>
          intro k60 cn_60 hk60 hf H locs hP hD hS ls hl
          obtain rfl : 400 = k60 := by omega
          rw [f_X6_pass_L60] at hf
          have hl : lv_has ls 5 [(0, .ref (ad 0)), (1, .int (nI se)), (2, .int x2_38), (3, .int (rclk / (nI 10))), (4, .int (nI 400))] := hl
          refine lv_iload hx hb dX6_pass_60 (lv_at hl 4 rfl) ?_
          refine lv_sipush (v := nI 400) hx hb dX6_pass_62 (by decide) ?_
          refine r_icmp_ge (tgt := 93) hx hb (by omega) (by omega) dX6_pass_65 (by decide) (fun _ => ?_) (fun c => absurd c (by omega))
          refine lv_iload_n hx hb dX6_pass_93 rfl (lv_at hl 2 rfl) ?_
          exact eI B hP hS (by simp only [hf]) (by simp only [hf]) dX6_pass_94
        | succ n60 ih60 =>
          intro k60 cn_60 hk60 hf H locs hP hD hS ls hl
          rw [f_X6_pass_L60] at hf
          have hl : lv_has ls 5 [(0, .ref (ad 0)), (1, .int (nI se)), (2, .int x2_38), (3, .int (rclk / (nI 10))), (4, .int (nI k60))] := hl
          refine lv_iload hx hb dX6_pass_60 (lv_at hl 4 rfl) ?_
          refine lv_sipush (v := nI 400) hx hb dX6_pass_62 (by decide) ?_
          refine r_icmp_ge (tgt := 93) hx hb (by omega) (by omega) dX6_pass_65 (by decide) (fun c => absurd c (by omega)) (fun _ => ?_)
          refine lv_aload_n hx hb dX6_pass_68 rfl (lv_at hl 0 rfl) ?_
          refine g_X6_79 B hP 0 rfl rfl dX6_pass_69 ?_
          refine lv_bipush (v := nI 10) hx hb dX6_pass_72 (by decide) ?_
          refine lv_idiv hx hb dX6_pass_74 (by decide) ?_
          refine lv_iload_n hx hb dX6_pass_75 rfl (lv_at hl 3 rfl) ?_
          refine lv_icmp_le (tgt := 93) hx hb dX6_pass_76 (by decide) (fun c5 => ?_) (fun c5 => ?_)
          · have hf := hf.trans (if_pos c5)
            refine lv_iload_n hx hb dX6_pass_93 rfl (lv_at hl 2 rfl) ?_
            exact eI B hP hS (by simp only [hf]) (by simp only [hf]) dX6_pass_94
          · have hf := hf.trans (if_neg c5)
            refine lv_aload_n hx hb dX6_pass_79 rfl (lv_at hl 0 rfl) ?_
            refine g_X6_30 B hP 0 rfl rfl dX6_pass_80 ?_
            refine lv_iload hx hb dX6_pass_83 (lv_at hl 4 rfl) ?_
            refine lv_iconst (v := nI 0) hx hb dX6_pass_85 (by decide) ?_
            refine r_iast hx hb hK hP hD hS 6 0 rfl rfl (by omega) (by decide) dX6_pass_86 (fun H locs hP hD hS => ?_)
            have hP : va_P D vwCl (wR cI cZ ad co fa ic me sw (upd cn_60 k60 (nI 0)) ab_38 go_38 cp so gr re db rclk_38 rlim (nI rqd) (nI rpk) rwas (nI 0)) H := hP
            have hD : va_D A (wR cI cZ ad co fa ic me sw (upd cn_60 k60 (nI 0)) ab_38 go_38 cp so gr re db rclk_38 rlim (nI rqd) (nI rpk) rwas (nI 0)) := hD
            refine lv_iinc (v := nI (k60 + 1)) (lv' := [(4, .int (nI (k60 + 1))), (0, .ref (ad 0)), (1, .int (nI se)), (2, .int x2_38), (3, .int (rclk / (nI 10)))]) hx hb dX6_pass_87 hl (k := 4) rfl (nI_add _ _) (by decide) rfl (fun ls hl => ?_)
            refine lv_goto (tgt := 60) hx hb dX6_pass_90 (by decide) ?_
            exact ih60 (k60 + 1) (upd cn_60 k60 (nI 0)) (by omega) hf _ _ hP hD hS _ (lv_sub hl [1, 2, 3, 4, 0] rfl)
      exact L60 400 0 cn (by omega) hf _ _ hP hD hS _ (lv_sub hl [1, 2, 3, 4, 0] rfl)
    | succ n38 ih38 =>
      intro k38 x2_38 ab_38 go_38 rclk_38 hk38 hf H locs hP hD hS ls hl
      rw [f_X6_pass_L38] at hf
      have hl : lv_has ls 5 [(0, .ref (ad 0)), (1, .int (nI se)), (2, .int x2_38), (3, .int (rclk / (nI 10))), (4, .int (nI k38))] := hl
      refine lv_iload hx hb dX6_pass_38 (lv_at hl 4 rfl) ?_
      refine lv_iload_n hx hb dX6_pass_40 rfl (lv_at hl 1 rfl) ?_
      refine r_icmp_ge (tgt := 57) hx hb (by omega) (by omega) dX6_pass_41 (by decide) (fun c => absurd c (by omega)) (fun _ => ?_)
      refine lv_iload_n hx hb dX6_pass_44 rfl (lv_at hl 2 rfl) ?_
      refine lv_aload_n hx hb dX6_pass_45 rfl (lv_at hl 0 rfl) ?_
      refine fV_i (ci := 6) (as := []) (rest := [.int x2_38]) B hl.1 (c_X6_second l D cI cZ ad co fa ic me sw cn ab_38 go_38 cp so gr re db rclk_38 rlim rqd rpk rwas (nI 0)) rfl (l_RX6_135 hts ⟨rfl, rfl⟩ ⟨Nat.le_of_ble_eq_true rfl, Nat.le_of_ble_eq_true rfl⟩) m_29_1 m_29_2 rfl rfl hP hD hS hA 0 rfl wfR (Nat.le_of_ble_eq_true rfl) dX6_pass_46 (fun H locs hP hD hS => ?_)
      refine lv_iadd hx hb dX6_pass_49 ?_
      refine lv_istore_n (lv' := [(2, .int (x2_38 + ((f_X6_second me sw ab_38 go_38 rclk_38).1))), (0, .ref (ad 0)), (1, .int (nI se)), (3, .int (rclk / (nI 10))), (4, .int (nI k38))]) hx hb dX6_pass_50 rfl hl (by decide) rfl (fun ls hl => ?_)
      refine lv_iinc (v := nI (k38 + 1)) (lv' := [(4, .int (nI (k38 + 1))), (2, .int (x2_38 + ((f_X6_second me sw ab_38 go_38 rclk_38).1))), (0, .ref (ad 0)), (1, .int (nI se)), (3, .int (rclk / (nI 10)))]) hx hb dX6_pass_51 hl (k := 4) rfl (nI_add _ _) (by decide) rfl (fun ls hl => ?_)
      refine lv_goto (tgt := 38) hx hb dX6_pass_54 (by decide) ?_
      exact ih38 (k38 + 1) (x2_38 + ((f_X6_second me sw ab_38 go_38 rclk_38).1)) ((f_X6_second me sw ab_38 go_38 rclk_38).2.1) ((f_X6_second me sw ab_38 go_38 rclk_38).2.2.1) ((f_X6_second me sw ab_38 go_38 rclk_38).2.2.2) (by omega) hf _ _ hP hD hS _ (lv_sub hl [2, 3, 1, 4, 0] rfl)
  exact L38 se 0 (nI 0) ab go rclk (by omega) hf _ _ hP hD hS _ (lv_sub hl [3, 4, 2, 1, 0] rfl)
