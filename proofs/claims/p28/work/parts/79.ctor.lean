/-! routes and forest over their own cells -/
abbrev w4 (cI : ClassId) (ad : Nat → Nat) (rc rl rh : Nat → Int32) : va_W := [(ad 0, .inr (4, [.ref (ad 1), .ref (ad 2), .ref (ad 3)])), (ad 1, .inl (cI, 100, .inl rc)), (ad 2, .inl (cI, 100, .inl rl)), (ad 3, .inl (cI, 100, .inl rh))]
abbrev w2 (cI : ClassId) (ad : Nat → Nat) (fr fw fc fg : Nat → Int32) : va_W := [(ad 0, .inr (2, [.ref (ad 1), .ref (ad 2), .ref (ad 3), .ref (ad 4)])), (ad 1, .inl (cI, 44, .inl fr)), (ad 2, .inl (cI, 44, .inl fw)), (ad 3, .inl (cI, 440, .inl fc)), (ad 4, .inl (cI, 440, .inl fg))]
theorem wf4 {cI : ClassId} {ad : Nat → Nat} {rc rl rh rc' rl' rh' : Nat → Int32} : (w4 cI ad rc rl rh).map Prod.fst = (w4 cI ad rc' rl' rh').map Prod.fst := rfl
theorem wf2 {cI : ClassId} {ad : Nat → Nat} {fr fw fc fg fr' fw' fc' fg' : Nat → Int32} : (w2 cI ad fr fw fc fg).map Prod.fst = (w2 cI ad fr' fw' fc' fg').map Prod.fst := rfl
set_option maxHeartbeats 4000000 in
set_option maxRecDepth 100000 in
theorem c_X4_costOf_w (l : Launch) (D : va_G) (cI cZ : ClassId) (ad : Nat → Nat) (rc rl rh : Nat → Int32) (r : Nat) (o : Nat) (hr : r < 10) (ho : o < 10) : MI l yX4_costOf cX4_costOf 3 .int { frames := 1, cells := 0, slots := 0, locals := 21 } D (TY cI cZ) [.ref (ad 0), .int (nI r), .int (nI o)] (w4 cI ad rc rl rh) (w4 cI ad rc rl rh) (rc ((r * 10) + o)) := by
  refine MI.mk ⟨rfl, rfl⟩ (by decide +kernel) (Nat.le_of_ble_eq_true rfl) ?_
  intro p e s m below meth c A ls B hA hP hD hS hl
  have hx := B.1
  have hb := B.2.1
  have hts := B.2.2.2.2.2.1
  have hN := B.2.2.2.2.2.2.2.1
  have hK := B.2.2.2.2.2.2.2.2.1
  have hl : lv_has ls 3 [(0, .ref (ad 0)), (1, .int (nI r)), (2, .int (nI o))] := hl
  refine lv_iload_n hx hb dX4_costOf_0 rfl (lv_at hl 1 rfl) ?_
  refine lv_iload_n hx hb dX4_costOf_1 rfl (lv_at hl 2 rfl) ?_
  refine fS_i (as := [.int (nI r), .int (nI o)]) (rest := []) B hl.1 (c_X4_arePair l D cI cZ (w4 cI ad rc rl rh) r o (by omega) (by omega)) (l_RX4_27 hts ⟨rfl, rfl⟩ ⟨Nat.le_of_ble_eq_true rfl, Nat.le_of_ble_eq_true rfl⟩) m_3_17 rfl rfl hP hD hS hA rfl (Nat.le_of_ble_eq_true rfl) dX4_costOf_2 (fun H locs hP hD hS => ?_)
  refine r_if_eq (tgt := 22) hx hb (by omega) dX4_costOf_5 (by decide) (fun c => absurd c (by omega)) (fun _ => ?_)
  refine lv_aload_n hx hb dX4_costOf_8 rfl (lv_at hl 0 rfl) ?_
  refine g_X4_9 B hP 0 rfl rfl dX4_costOf_9 ?_
  refine lv_iload_n hx hb dX4_costOf_12 rfl (lv_at hl 1 rfl) ?_
  refine lv_bipush (v := nI 10) hx hb dX4_costOf_13 (by decide) ?_
  refine r_imul hx hb dX4_costOf_15 ?_
  refine lv_iload_n hx hb dX4_costOf_16 rfl (lv_at hl 2 rfl) ?_
  refine r_iadd hx hb dX4_costOf_17 ?_
  refine r_iald hx hb hK hP 1 0 rfl rfl (by omega) (by decide) dX4_costOf_18 ?_
  refine lv_goto (tgt := 23) hx hb dX4_costOf_19 (by decide) ?_
  exact eI B hP hS rfl rfl dX4_costOf_23
set_option maxHeartbeats 4000000 in
set_option maxRecDepth 100000 in
theorem c_X4_distanceOf_w (l : Launch) (D : va_G) (cI cZ : ClassId) (ad : Nat → Nat) (rc rl rh : Nat → Int32) (r : Nat) (o : Nat) (hr : r < 10) (ho : o < 10) : MI l yX4_distanceOf cX4_distanceOf 4 .int { frames := 1, cells := 0, slots := 0, locals := 21 } D (TY cI cZ) [.ref (ad 0), .int (nI r), .int (nI o)] (w4 cI ad rc rl rh) (w4 cI ad rc rl rh) (f_X4_distanceOf r o rl) := by
  refine MI.mk ⟨rfl, rfl⟩ (by decide +kernel) (Nat.le_of_ble_eq_true rfl) ?_
  intro p e s m below meth c A ls B hA hP hD hS hl
  have hx := B.1
  have hb := B.2.1
  have hts := B.2.2.2.2.2.1
  have hN := B.2.2.2.2.2.2.2.1
  have hK := B.2.2.2.2.2.2.2.2.1
  have hl : lv_has ls 4 [(0, .ref (ad 0)), (1, .int (nI r)), (2, .int (nI o))] := hl
  have hf := f_X4_distanceOf.eq_1 r o rl
  refine lv_iload_n hx hb dX4_distanceOf_0 rfl (lv_at hl 1 rfl) ?_
  refine lv_iload_n hx hb dX4_distanceOf_1 rfl (lv_at hl 2 rfl) ?_
  refine fS_i (as := [.int (nI r), .int (nI o)]) (rest := []) B hl.1 (c_X4_arePair l D cI cZ (w4 cI ad rc rl rh) r o (by omega) (by omega)) (l_RX4_27 hts ⟨rfl, rfl⟩ ⟨Nat.le_of_ble_eq_true rfl, Nat.le_of_ble_eq_true rfl⟩) m_3_17 rfl rfl hP hD hS hA rfl (Nat.le_of_ble_eq_true rfl) dX4_distanceOf_2 (fun H locs hP hD hS => ?_)
  refine r_if_ne (tgt := 10) hx hb (by omega) dX4_distanceOf_5 (by decide) (fun _ => ?_) (fun c => absurd c (by omega))
  refine lv_aload_n hx hb dX4_distanceOf_10 rfl (lv_at hl 0 rfl) ?_
  refine g_X4_15 B hP 0 rfl rfl dX4_distanceOf_11 ?_
  refine lv_iload_n hx hb dX4_distanceOf_14 rfl (lv_at hl 1 rfl) ?_
  refine lv_bipush (v := nI 10) hx hb dX4_distanceOf_15 (by decide) ?_
  refine r_imul hx hb dX4_distanceOf_17 ?_
  refine lv_iload_n hx hb dX4_distanceOf_18 rfl (lv_at hl 2 rfl) ?_
  refine r_iadd hx hb dX4_distanceOf_19 ?_
  refine r_iald hx hb hK hP 2 0 rfl rfl (by omega) (by decide) dX4_distanceOf_20 ?_
  refine lv_istore_n (lv' := [(3, .int (rl ((r * 10) + o))), (0, .ref (ad 0)), (1, .int (nI r)), (2, .int (nI o))]) hx hb dX4_distanceOf_21 rfl hl (by decide) rfl (fun ls hl => ?_)
  refine lv_iload_n hx hb dX4_distanceOf_22 rfl (lv_at hl 0 rfl) ?_
  refine lv_ldc (v := nI 1000000) hx hb B.2.2.2.2.1 (hts _ m_2_23) dX4_distanceOf_23 ?_
  refine lv_icmp_ge (tgt := 32) hx hb dX4_distanceOf_25 (by decide) (fun c1 => ?_) (fun c1 => ?_)
  · have hf := hf.trans (if_pos c1)
    refine lv_iconst (v := -1) hx hb dX4_distanceOf_32 (by decide) ?_
    exact eI B hP hS ((congrArg (fun (u : Int32) => u) hf).symm) rfl dX4_distanceOf_33
  · have hf := hf.trans (if_neg c1)
    refine lv_iload_n hx hb dX4_distanceOf_28 rfl (lv_at hl 0 rfl) ?_
    refine lv_goto (tgt := 33) hx hb dX4_distanceOf_29 (by decide) ?_
    exact eI B hP hS ((congrArg (fun (u : Int32) => u) hf).symm) rfl dX4_distanceOf_33
set_option maxHeartbeats 4000000 in
set_option maxRecDepth 100000 in
theorem c_X4_shortenThrough_w (l : Launch) (D : va_G) (cI cZ : ClassId) (ad : Nat → Nat) (rc rl rh : Nat → Int32) (mi : Nat) (hmi : mi < 10) : MV l yX4_shortenThrough cX4_shortenThrough 5 { frames := 0, cells := 0, slots := 0, locals := 0 } D (TY cI cZ) [.ref (ad 0), .int (nI mi)] (w4 cI ad rc rl rh) (w4 cI ad rc (f_X4_shortenThrough mi rl) rh) := by
  refine MV.mk ⟨rfl, rfl⟩ (by decide +kernel) (Nat.le_of_ble_eq_true rfl) ?_
  intro p e s m below meth c A ls B hA hP hD hS hl
  have hx := B.1
  have hb := B.2.1
  have hts := B.2.2.2.2.2.1
  have hN := B.2.2.2.2.2.2.2.1
  have hK := B.2.2.2.2.2.2.2.2.1
  have hl : lv_has ls 5 [(0, .ref (ad 0)), (1, .int (nI mi))] := hl
  have hf := f_X4_shortenThrough.eq_1 mi rl
  refine lv_iconst (v := nI 0) hx hb dX4_shortenThrough_0 (by decide) ?_
  refine lv_istore_n (lv' := [(2, .int (nI 0)), (0, .ref (ad 0)), (1, .int (nI mi))]) hx hb dX4_shortenThrough_1 rfl hl (by decide) rfl (fun ls hl => ?_)
  have L2 : ∀ (n2 : Nat) (k2 : Nat) (rl_2 : Nat → Int32), k2 + n2 = 10 → f_X4_shortenThrough mi rl = (f_X4_shortenThrough_L2 mi n2 k2 rl_2) → ∀ (H : Heap) (locs : List Loc), va_P D vwCl (w4 cI ad rc rl_2 rh) H → va_D A (w4 cI ad rc rl_2 rh) → va_S A s.heap H locs → ∀ ls : Array Slot, lv_has ls 5 [(0, .ref (ad 0)), (1, .int (nI mi)), (2, .int (nI k2))] → W p l e { frames := 0, cells := 0, slots := 0, locals := 0 } s m [.ref (ad 0), .int (nI mi)].toArray below meth c H locs 0 0 (QV below s A D [.ref (ad 0), .int (nI mi)] (w4 cI ad rc (f_X4_shortenThrough mi rl) rh)) (F0 m 2 ls []) := by
    intro n2
    induction n2 with
    | zero =>
      intro k2 rl_2 hk2 hf H locs hP hD hS ls hl
      obtain rfl : 10 = k2 := by omega
      rw [f_X4_shortenThrough_L2] at hf
      have hl : lv_has ls 5 [(0, .ref (ad 0)), (1, .int (nI mi)), (2, .int (nI 10))] := hl
      refine lv_iload_n hx hb dX4_shortenThrough_2 rfl (lv_at hl 2 rfl) ?_
      refine lv_bipush (v := nI 10) hx hb dX4_shortenThrough_3 (by decide) ?_
      refine r_icmp_ge (tgt := 82) hx hb (by omega) (by omega) dX4_shortenThrough_5 (by decide) (fun _ => ?_) (fun c => absurd c (by omega))
      exact eV B hP hS ((congrArg (fun (u : (Nat → Int32)) => w4 cI ad rc u rh) hf).symm) dX4_shortenThrough_82
    | succ n2 ih2 =>
      intro k2 rl_2 hk2 hf H locs hP hD hS ls hl
      rw [f_X4_shortenThrough_L2] at hf
      have hl : lv_has ls 5 [(0, .ref (ad 0)), (1, .int (nI mi)), (2, .int (nI k2))] := hl
      refine lv_iload_n hx hb dX4_shortenThrough_2 rfl (lv_at hl 2 rfl) ?_
      refine lv_bipush (v := nI 10) hx hb dX4_shortenThrough_3 (by decide) ?_
      refine r_icmp_ge (tgt := 82) hx hb (by omega) (by omega) dX4_shortenThrough_5 (by decide) (fun c => absurd c (by omega)) (fun _ => ?_)
      refine lv_iconst (v := nI 0) hx hb dX4_shortenThrough_8 (by decide) ?_
      refine lv_istore_n (lv' := [(3, .int (nI 0)), (0, .ref (ad 0)), (1, .int (nI mi)), (2, .int (nI k2))]) hx hb dX4_shortenThrough_9 rfl hl (by decide) rfl (fun ls hl => ?_)
      have L10 : ∀ (n10 : Nat) (k10 : Nat) (rl_10 : Nat → Int32), k10 + n10 = 10 → f_X4_shortenThrough mi rl = (f_X4_shortenThrough_L2 mi n2 (k2 + 1) (f_X4_shortenThrough_L10 mi k2 n10 k10 rl_10)) → ∀ (H : Heap) (locs : List Loc), va_P D vwCl (w4 cI ad rc rl_10 rh) H → va_D A (w4 cI ad rc rl_10 rh) → va_S A s.heap H locs → ∀ ls : Array Slot, lv_has ls 5 [(0, .ref (ad 0)), (1, .int (nI mi)), (2, .int (nI k2)), (3, .int (nI k10))] → W p l e { frames := 0, cells := 0, slots := 0, locals := 0 } s m [.ref (ad 0), .int (nI mi)].toArray below meth c H locs 0 0 (QV below s A D [.ref (ad 0), .int (nI mi)] (w4 cI ad rc (f_X4_shortenThrough mi rl) rh)) (F0 m 10 ls []) := by
        intro n10
        induction n10 with
        | zero =>
          intro k10 rl_10 hk10 hf H locs hP hD hS ls hl
          obtain rfl : 10 = k10 := by omega
          rw [f_X4_shortenThrough_L10] at hf
          have hl : lv_has ls 5 [(0, .ref (ad 0)), (1, .int (nI mi)), (2, .int (nI k2)), (3, .int (nI 10))] := hl
          refine lv_iload_n hx hb dX4_shortenThrough_10 rfl (lv_at hl 3 rfl) ?_
          refine lv_bipush (v := nI 10) hx hb dX4_shortenThrough_11 (by decide) ?_
          refine r_icmp_ge (tgt := 76) hx hb (by omega) (by omega) dX4_shortenThrough_13 (by decide) (fun _ => ?_) (fun c => absurd c (by omega))
          refine lv_iinc (v := nI (k2 + 1)) (lv' := [(2, .int (nI (k2 + 1))), (0, .ref (ad 0)), (1, .int (nI mi)), (3, .int (nI 10))]) hx hb dX4_shortenThrough_76 hl (k := 2) rfl (nI_add _ _) (by decide) rfl (fun ls hl => ?_)
          refine lv_goto (tgt := 2) hx hb dX4_shortenThrough_79 (by decide) ?_
          exact ih2 (k2 + 1) rl_10 (by omega) hf _ _ hP hD hS _ (lv_sub hl [1, 2, 0] rfl)
        | succ n10 ih10 =>
          intro k10 rl_10 hk10 hf H locs hP hD hS ls hl
          rw [f_X4_shortenThrough_L10] at hf
          have hl : lv_has ls 5 [(0, .ref (ad 0)), (1, .int (nI mi)), (2, .int (nI k2)), (3, .int (nI k10))] := hl
          refine lv_iload_n hx hb dX4_shortenThrough_10 rfl (lv_at hl 3 rfl) ?_
          refine lv_bipush (v := nI 10) hx hb dX4_shortenThrough_11 (by decide) ?_
          refine r_icmp_ge (tgt := 76) hx hb (by omega) (by omega) dX4_shortenThrough_13 (by decide) (fun c => absurd c (by omega)) (fun _ => ?_)
          refine lv_aload_n hx hb dX4_shortenThrough_16 rfl (lv_at hl 0 rfl) ?_
          refine g_X4_15 B hP 0 rfl rfl dX4_shortenThrough_17 ?_
          refine lv_iload_n hx hb dX4_shortenThrough_20 rfl (lv_at hl 2 rfl) ?_
          refine lv_bipush (v := nI 10) hx hb dX4_shortenThrough_21 (by decide) ?_
          refine r_imul hx hb dX4_shortenThrough_23 ?_
          refine lv_iload_n hx hb dX4_shortenThrough_24 rfl (lv_at hl 1 rfl) ?_
          refine r_iadd hx hb dX4_shortenThrough_25 ?_
          refine r_iald hx hb hK hP 2 0 rfl rfl (by omega) (by decide) dX4_shortenThrough_26 ?_
          refine lv_aload_n hx hb dX4_shortenThrough_27 rfl (lv_at hl 0 rfl) ?_
          refine g_X4_15 B hP 0 rfl rfl dX4_shortenThrough_28 ?_
          refine lv_iload_n hx hb dX4_shortenThrough_31 rfl (lv_at hl 1 rfl) ?_
          refine lv_bipush (v := nI 10) hx hb dX4_shortenThrough_32 (by decide) ?_
          refine r_imul hx hb dX4_shortenThrough_34 ?_
          refine lv_iload_n hx hb dX4_shortenThrough_35 rfl (lv_at hl 3 rfl) ?_
          refine r_iadd hx hb dX4_shortenThrough_36 ?_
          refine r_iald hx hb hK hP 2 0 rfl rfl (by omega) (by decide) dX4_shortenThrough_37 ?_
          refine lv_iadd hx hb dX4_shortenThrough_38 ?_
          refine lv_istore (lv' := [(4, .int ((rl_10 ((k2 * 10) + mi)) + (rl_10 ((mi * 10) + k10)))), (0, .ref (ad 0)), (1, .int (nI mi)), (2, .int (nI k2)), (3, .int (nI k10))]) hx hb dX4_shortenThrough_39 hl (by decide) rfl (fun ls hl => ?_)
          refine lv_iload hx hb dX4_shortenThrough_41 (lv_at hl 0 rfl) ?_
          refine lv_aload_n hx hb dX4_shortenThrough_43 rfl (lv_at hl 1 rfl) ?_
          refine g_X4_15 B hP 0 rfl rfl dX4_shortenThrough_44 ?_
          refine lv_iload_n hx hb dX4_shortenThrough_47 rfl (lv_at hl 3 rfl) ?_
          refine lv_bipush (v := nI 10) hx hb dX4_shortenThrough_48 (by decide) ?_
          refine r_imul hx hb dX4_shortenThrough_50 ?_
          refine lv_iload_n hx hb dX4_shortenThrough_51 rfl (lv_at hl 4 rfl) ?_
          refine r_iadd hx hb dX4_shortenThrough_52 ?_
          refine r_iald hx hb hK hP 2 0 rfl rfl (by omega) (by decide) dX4_shortenThrough_53 ?_
          refine lv_icmp_ge (tgt := 70) hx hb dX4_shortenThrough_54 (by decide) (fun c13 => ?_) (fun c13 => ?_)
          · rw [if_pos c13] at hf
            refine lv_iinc (v := nI (k10 + 1)) (lv' := [(3, .int (nI (k10 + 1))), (4, .int ((rl_10 ((k2 * 10) + mi)) + (rl_10 ((mi * 10) + k10)))), (0, .ref (ad 0)), (1, .int (nI mi)), (2, .int (nI k2))]) hx hb dX4_shortenThrough_70 hl (k := 4) rfl (nI_add _ _) (by decide) rfl (fun ls hl => ?_)
            refine lv_goto (tgt := 10) hx hb dX4_shortenThrough_73 (by decide) ?_
            exact ih10 (k10 + 1) rl_10 (by omega) hf _ _ hP hD hS _ (lv_sub hl [2, 3, 4, 0] rfl)
          · rw [if_neg c13] at hf
            refine lv_aload_n hx hb dX4_shortenThrough_57 rfl (lv_at hl 1 rfl) ?_
            refine g_X4_15 B hP 0 rfl rfl dX4_shortenThrough_58 ?_
            refine lv_iload_n hx hb dX4_shortenThrough_61 rfl (lv_at hl 3 rfl) ?_
            refine lv_bipush (v := nI 10) hx hb dX4_shortenThrough_62 (by decide) ?_
            refine r_imul hx hb dX4_shortenThrough_64 ?_
            refine lv_iload_n hx hb dX4_shortenThrough_65 rfl (lv_at hl 4 rfl) ?_
            refine r_iadd hx hb dX4_shortenThrough_66 ?_
            refine lv_iload hx hb dX4_shortenThrough_67 (lv_at hl 0 rfl) ?_
            refine r_iast hx hb hK hP hD hS 2 0 rfl rfl (by omega) (by decide) dX4_shortenThrough_69 (fun H locs hP hD hS => ?_)
            have hP : va_P D vwCl (w4 cI ad rc (upd rl_10 ((k2 * 10) + k10) ((rl_10 ((k2 * 10) + mi)) + (rl_10 ((mi * 10) + k10)))) rh) H := hP
            have hD : va_D A (w4 cI ad rc (upd rl_10 ((k2 * 10) + k10) ((rl_10 ((k2 * 10) + mi)) + (rl_10 ((mi * 10) + k10)))) rh) := hD
            refine lv_iinc (v := nI (k10 + 1)) (lv' := [(3, .int (nI (k10 + 1))), (4, .int ((rl_10 ((k2 * 10) + mi)) + (rl_10 ((mi * 10) + k10)))), (0, .ref (ad 0)), (1, .int (nI mi)), (2, .int (nI k2))]) hx hb dX4_shortenThrough_70 hl (k := 4) rfl (nI_add _ _) (by decide) rfl (fun ls hl => ?_)
            refine lv_goto (tgt := 10) hx hb dX4_shortenThrough_73 (by decide) ?_
            exact ih10 (k10 + 1) (upd rl_10 ((k2 * 10) + k10) ((rl_10 ((k2 * 10) + mi)) + (rl_10 ((mi * 10) + k10)))) (by omega) hf _ _ hP hD hS _ (lv_sub hl [2, 3, 4, 0] rfl)
      exact L10 10 0 rl_2 (by omega) hf _ _ hP hD hS _ (lv_sub hl [1, 2, 3, 0] rfl)
  exact L2 10 0 rl (by omega) hf _ _ hP hD hS _ (lv_sub hl [1, 2, 0] rfl)
set_option maxHeartbeats 4000000 in
set_option maxRecDepth 100000 in
theorem c_X4_findLeast_w (l : Launch) (D : va_G) (cI cZ : ClassId) (ad : Nat → Nat) (rc rl rh : Nat → Int32) : MV l yX4_findLeast cX4_findLeast 4 { frames := 1, cells := 0, slots := 0, locals := 24 } D (TY cI cZ) [.ref (ad 0)] (w4 cI ad rc rl rh) (w4 cI ad rc (f_X4_findLeast rc rl) rh) := by
  refine MV.mk ⟨rfl, rfl⟩ (by decide +kernel) (Nat.le_of_ble_eq_true rfl) ?_
  intro p e s m below meth c A ls B hA hP hD hS hl
  have hx := B.1
  have hb := B.2.1
  have hts := B.2.2.2.2.2.1
  have hN := B.2.2.2.2.2.2.2.1
  have hK := B.2.2.2.2.2.2.2.2.1
  have hl : lv_has ls 4 [(0, .ref (ad 0))] := hl
  have hf := f_X4_findLeast.eq_1 rc rl
  refine lv_iconst (v := nI 0) hx hb dX4_findLeast_0 (by decide) ?_
  refine lv_istore_n (lv' := [(1, .int (nI 0)), (0, .ref (ad 0))]) hx hb dX4_findLeast_1 rfl hl (by decide) rfl (fun ls hl => ?_)
  have L2 : ∀ (n2 : Nat) (k2 : Nat) (rl_2 : Nat → Int32), k2 + n2 = 10 → f_X4_findLeast rc rl = (f_X4_findLeast_L2 rc n2 k2 rl_2) → ∀ (H : Heap) (locs : List Loc), va_P D vwCl (w4 cI ad rc rl_2 rh) H → va_D A (w4 cI ad rc rl_2 rh) → va_S A s.heap H locs → ∀ ls : Array Slot, lv_has ls 4 [(0, .ref (ad 0)), (1, .int (nI k2))] → W p l e { frames := 1, cells := 0, slots := 0, locals := 24 } s m [.ref (ad 0)].toArray below meth c H locs 0 0 (QV below s A D [.ref (ad 0)] (w4 cI ad rc (f_X4_findLeast rc rl) rh)) (F0 m 2 ls []) := by
    intro n2
    induction n2 with
    | zero =>
      intro k2 rl_2 hk2 hf H locs hP hD hS ls hl
      obtain rfl : 10 = k2 := by omega
      rw [f_X4_findLeast_L2] at hf
      have hl : lv_has ls 4 [(0, .ref (ad 0)), (1, .int (nI 10))] := hl
      refine lv_iload_n hx hb dX4_findLeast_2 rfl (lv_at hl 1 rfl) ?_
      refine lv_bipush (v := nI 10) hx hb dX4_findLeast_3 (by decide) ?_
      refine r_icmp_ge (tgt := 70) hx hb (by omega) (by omega) dX4_findLeast_5 (by decide) (fun _ => ?_) (fun c => absurd c (by omega))
      refine lv_iconst (v := nI 0) hx hb dX4_findLeast_70 (by decide) ?_
      refine lv_istore_n (lv' := [(1, .int (nI 0)), (0, .ref (ad 0))]) hx hb dX4_findLeast_71 rfl hl (by decide) rfl (fun ls hl => ?_)
      have L72 : ∀ (n72 : Nat) (k72 : Nat) (rl_72 : Nat → Int32), k72 + n72 = 10 → f_X4_findLeast rc rl = (f_X4_findLeast_L72 n72 k72 rl_72) → ∀ (H : Heap) (locs : List Loc), va_P D vwCl (w4 cI ad rc rl_72 rh) H → va_D A (w4 cI ad rc rl_72 rh) → va_S A s.heap H locs → ∀ ls : Array Slot, lv_has ls 4 [(0, .ref (ad 0)), (1, .int (nI k72))] → W p l e { frames := 1, cells := 0, slots := 0, locals := 24 } s m [.ref (ad 0)].toArray below meth c H locs 0 0 (QV below s A D [.ref (ad 0)] (w4 cI ad rc (f_X4_findLeast rc rl) rh)) (F0 m 72 ls []) := by
        intro n72
        induction n72 with
        | zero =>
          intro k72 rl_72 hk72 hf H locs hP hD hS ls hl
          obtain rfl : 10 = k72 := by omega
          rw [f_X4_findLeast_L72] at hf
          have hl : lv_has ls 4 [(0, .ref (ad 0)), (1, .int (nI 10))] := hl
          refine lv_iload_n hx hb dX4_findLeast_72 rfl (lv_at hl 1 rfl) ?_
          refine lv_bipush (v := nI 10) hx hb dX4_findLeast_73 (by decide) ?_
          refine r_icmp_ge (tgt := 89) hx hb (by omega) (by omega) dX4_findLeast_75 (by decide) (fun _ => ?_) (fun c => absurd c (by omega))
          exact eV B hP hS ((congrArg (fun (u : (Nat → Int32)) => w4 cI ad rc u rh) hf).symm) dX4_findLeast_89
        | succ n72 ih72 =>
          intro k72 rl_72 hk72 hf H locs hP hD hS ls hl
          rw [f_X4_findLeast_L72] at hf
          have hl : lv_has ls 4 [(0, .ref (ad 0)), (1, .int (nI k72))] := hl
          refine lv_iload_n hx hb dX4_findLeast_72 rfl (lv_at hl 1 rfl) ?_
          refine lv_bipush (v := nI 10) hx hb dX4_findLeast_73 (by decide) ?_
          refine r_icmp_ge (tgt := 89) hx hb (by omega) (by omega) dX4_findLeast_75 (by decide) (fun c => absurd c (by omega)) (fun _ => ?_)
          refine lv_aload_n hx hb dX4_findLeast_78 rfl (lv_at hl 0 rfl) ?_
          refine lv_iload_n hx hb dX4_findLeast_79 rfl (lv_at hl 1 rfl) ?_
          refine fV_v (ci := 4) (as := [.int (nI k72)]) (rest := []) B hl.1 (c_X4_shortenThrough_w l D cI cZ ad rc rl_72 rh k72 (by omega)) rfl (l_RX4_36 hts ⟨rfl, rfl⟩ ⟨Nat.le_of_ble_eq_true rfl, Nat.le_of_ble_eq_true rfl⟩) m_3_1 m_3_2 rfl rfl hP hD hS hA 0 rfl wf4 (Nat.le_of_ble_eq_true rfl) dX4_findLeast_80 (fun H locs hP hD hS => ?_)
          refine lv_iinc (v := nI (k72 + 1)) (lv' := [(1, .int (nI (k72 + 1))), (0, .ref (ad 0))]) hx hb dX4_findLeast_83 hl (k := 1) rfl (nI_add _ _) (by decide) rfl (fun ls hl => ?_)
          refine lv_goto (tgt := 72) hx hb dX4_findLeast_86 (by decide) ?_
          exact ih72 (k72 + 1) (f_X4_shortenThrough k72 rl_72) (by omega) hf _ _ hP hD hS _ (lv_sub hl [1, 0] rfl)
      exact L72 10 0 rl_2 (by omega) hf _ _ hP hD hS _ (lv_sub hl [1, 0] rfl)
    | succ n2 ih2 =>
      intro k2 rl_2 hk2 hf H locs hP hD hS ls hl
      rw [f_X4_findLeast_L2] at hf
      have hl : lv_has ls 4 [(0, .ref (ad 0)), (1, .int (nI k2))] := hl
      refine lv_iload_n hx hb dX4_findLeast_2 rfl (lv_at hl 1 rfl) ?_
      refine lv_bipush (v := nI 10) hx hb dX4_findLeast_3 (by decide) ?_
      refine r_icmp_ge (tgt := 70) hx hb (by omega) (by omega) dX4_findLeast_5 (by decide) (fun c => absurd c (by omega)) (fun _ => ?_)
      refine lv_iconst (v := nI 0) hx hb dX4_findLeast_8 (by decide) ?_
      refine lv_istore_n (lv' := [(2, .int (nI 0)), (0, .ref (ad 0)), (1, .int (nI k2))]) hx hb dX4_findLeast_9 rfl hl (by decide) rfl (fun ls hl => ?_)
      have L10 : ∀ (n10 : Nat) (k10 : Nat) (rl_10 : Nat → Int32), k10 + n10 = 10 → f_X4_findLeast rc rl = (f_X4_findLeast_L2 rc n2 (k2 + 1) (f_X4_findLeast_L10 rc k2 n10 k10 rl_10)) → ∀ (H : Heap) (locs : List Loc), va_P D vwCl (w4 cI ad rc rl_10 rh) H → va_D A (w4 cI ad rc rl_10 rh) → va_S A s.heap H locs → ∀ ls : Array Slot, lv_has ls 4 [(0, .ref (ad 0)), (1, .int (nI k2)), (2, .int (nI k10))] → W p l e { frames := 1, cells := 0, slots := 0, locals := 24 } s m [.ref (ad 0)].toArray below meth c H locs 0 0 (QV below s A D [.ref (ad 0)] (w4 cI ad rc (f_X4_findLeast rc rl) rh)) (F0 m 10 ls []) := by
        intro n10
        induction n10 with
        | zero =>
          intro k10 rl_10 hk10 hf H locs hP hD hS ls hl
          obtain rfl : 10 = k10 := by omega
          rw [f_X4_findLeast_L10] at hf
          have hl : lv_has ls 4 [(0, .ref (ad 0)), (1, .int (nI k2)), (2, .int (nI 10))] := hl
          refine lv_iload_n hx hb dX4_findLeast_10 rfl (lv_at hl 2 rfl) ?_
          refine lv_bipush (v := nI 10) hx hb dX4_findLeast_11 (by decide) ?_
          refine r_icmp_ge (tgt := 64) hx hb (by omega) (by omega) dX4_findLeast_13 (by decide) (fun _ => ?_) (fun c => absurd c (by omega))
          refine lv_iinc (v := nI (k2 + 1)) (lv' := [(1, .int (nI (k2 + 1))), (0, .ref (ad 0)), (2, .int (nI 10))]) hx hb dX4_findLeast_64 hl (k := 1) rfl (nI_add _ _) (by decide) rfl (fun ls hl => ?_)
          refine lv_goto (tgt := 2) hx hb dX4_findLeast_67 (by decide) ?_
          exact ih2 (k2 + 1) rl_10 (by omega) hf _ _ hP hD hS _ (lv_sub hl [1, 0] rfl)
        | succ n10 ih10 =>
          intro k10 rl_10 hk10 hf H locs hP hD hS ls hl
          rw [f_X4_findLeast_L10] at hf
          have hl : lv_has ls 4 [(0, .ref (ad 0)), (1, .int (nI k2)), (2, .int (nI k10))] := hl
          refine lv_iload_n hx hb dX4_findLeast_10 rfl (lv_at hl 2 rfl) ?_
          refine lv_bipush (v := nI 10) hx hb dX4_findLeast_11 (by decide) ?_
          refine r_icmp_ge (tgt := 64) hx hb (by omega) (by omega) dX4_findLeast_13 (by decide) (fun c => absurd c (by omega)) (fun _ => ?_)
          refine lv_aload_n hx hb dX4_findLeast_16 rfl (lv_at hl 0 rfl) ?_
          refine g_X4_9 B hP 0 rfl rfl dX4_findLeast_17 ?_
          refine lv_iload_n hx hb dX4_findLeast_20 rfl (lv_at hl 1 rfl) ?_
          refine lv_bipush (v := nI 10) hx hb dX4_findLeast_21 (by decide) ?_
          refine r_imul hx hb dX4_findLeast_23 ?_
          refine lv_iload_n hx hb dX4_findLeast_24 rfl (lv_at hl 2 rfl) ?_
          refine r_iadd hx hb dX4_findLeast_25 ?_
          refine r_iald hx hb hK hP 1 0 rfl rfl (by omega) (by decide) dX4_findLeast_26 ?_
          refine lv_istore_n (lv' := [(3, .int (rc ((k2 * 10) + k10))), (0, .ref (ad 0)), (1, .int (nI k2)), (2, .int (nI k10))]) hx hb dX4_findLeast_27 rfl hl (by decide) rfl (fun ls hl => ?_)
          refine lv_aload_n hx hb dX4_findLeast_28 rfl (lv_at hl 1 rfl) ?_
          refine g_X4_15 B hP 0 rfl rfl dX4_findLeast_29 ?_
          refine lv_iload_n hx hb dX4_findLeast_32 rfl (lv_at hl 2 rfl) ?_
          refine lv_bipush (v := nI 10) hx hb dX4_findLeast_33 (by decide) ?_
          refine r_imul hx hb dX4_findLeast_35 ?_
          refine lv_iload_n hx hb dX4_findLeast_36 rfl (lv_at hl 3 rfl) ?_
          refine r_iadd hx hb dX4_findLeast_37 ?_
          refine lv_iload_n hx hb dX4_findLeast_38 rfl (lv_at hl 2 rfl) ?_
          refine lv_iload_n hx hb dX4_findLeast_39 rfl (lv_at hl 3 rfl) ?_
          refine r_icmp_ne (tgt := 47) hx hb (by omega) (by omega) dX4_findLeast_40 (by decide) (fun c22 => ?_) (fun c22 => ?_)
          · rw [if_neg c22] at hf
            refine lv_iload_n hx hb dX4_findLeast_47 rfl (lv_at hl 0 rfl) ?_
            refine lv_if_ne (tgt := 56) hx hb dX4_findLeast_48 (by decide) (fun c23 => ?_) (fun c23 => ?_)
            · rw [if_neg c23] at hf
              refine lv_iload_n hx hb dX4_findLeast_56 rfl (lv_at hl 0 rfl) ?_
              refine r_iast hx hb hK hP hD hS 2 0 rfl rfl (by omega) (by decide) dX4_findLeast_57 (fun H locs hP hD hS => ?_)
              have hP : va_P D vwCl (w4 cI ad rc (upd rl_10 ((k2 * 10) + k10) (rc ((k2 * 10) + k10))) rh) H := hP
              have hD : va_D A (w4 cI ad rc (upd rl_10 ((k2 * 10) + k10) (rc ((k2 * 10) + k10))) rh) := hD
              refine lv_iinc (v := nI (k10 + 1)) (lv' := [(2, .int (nI (k10 + 1))), (3, .int (rc ((k2 * 10) + k10))), (0, .ref (ad 0)), (1, .int (nI k2))]) hx hb dX4_findLeast_58 hl (k := 3) rfl (nI_add _ _) (by decide) rfl (fun ls hl => ?_)
              refine lv_goto (tgt := 10) hx hb dX4_findLeast_61 (by decide) ?_
              exact ih10 (k10 + 1) (upd rl_10 ((k2 * 10) + k10) (rc ((k2 * 10) + k10))) (by omega) hf _ _ hP hD hS _ (lv_sub hl [2, 3, 0] rfl)
            · rw [if_pos c23] at hf
              refine lv_ldc (v := nI 1000000) hx hb B.2.2.2.2.1 (hts _ m_2_23) dX4_findLeast_51 ?_
              refine lv_goto (tgt := 57) hx hb dX4_findLeast_53 (by decide) ?_
              refine r_iast hx hb hK hP hD hS 2 0 rfl rfl (by omega) (by decide) dX4_findLeast_57 (fun H locs hP hD hS => ?_)
              have hP : va_P D vwCl (w4 cI ad rc (upd rl_10 ((k2 * 10) + k10) (nI 1000000)) rh) H := hP
              have hD : va_D A (w4 cI ad rc (upd rl_10 ((k2 * 10) + k10) (nI 1000000)) rh) := hD
              refine lv_iinc (v := nI (k10 + 1)) (lv' := [(2, .int (nI (k10 + 1))), (3, .int (rc ((k2 * 10) + k10))), (0, .ref (ad 0)), (1, .int (nI k2))]) hx hb dX4_findLeast_58 hl (k := 3) rfl (nI_add _ _) (by decide) rfl (fun ls hl => ?_)
              refine lv_goto (tgt := 10) hx hb dX4_findLeast_61 (by decide) ?_
              exact ih10 (k10 + 1) (upd rl_10 ((k2 * 10) + k10) (nI 1000000)) (by omega) hf _ _ hP hD hS _ (lv_sub hl [2, 3, 0] rfl)
          · rw [if_pos c22] at hf
            refine lv_iconst (v := nI 0) hx hb dX4_findLeast_43 (by decide) ?_
            refine lv_goto (tgt := 57) hx hb dX4_findLeast_44 (by decide) ?_
            refine r_iast hx hb hK hP hD hS 2 0 rfl rfl (by omega) (by decide) dX4_findLeast_57 (fun H locs hP hD hS => ?_)
            have hP : va_P D vwCl (w4 cI ad rc (upd rl_10 ((k2 * 10) + k10) (nI 0)) rh) H := hP
            have hD : va_D A (w4 cI ad rc (upd rl_10 ((k2 * 10) + k10) (nI 0)) rh) := hD
            refine lv_iinc (v := nI (k10 + 1)) (lv' := [(2, .int (nI (k10 + 1))), (3, .int (rc ((k2 * 10) + k10))), (0, .ref (ad 0)), (1, .int (nI k2))]) hx hb dX4_findLeast_58 hl (k := 3) rfl (nI_add _ _) (by decide) rfl (fun ls hl => ?_)
            refine lv_goto (tgt := 10) hx hb dX4_findLeast_61 (by decide) ?_
            exact ih10 (k10 + 1) (upd rl_10 ((k2 * 10) + k10) (nI 0)) (by omega) hf _ _ hP hD hS _ (lv_sub hl [2, 3, 0] rfl)
      exact L10 10 0 rl_2 (by omega) hf _ _ hP hD hS _ (lv_sub hl [1, 2, 0] rfl)
  exact L2 10 0 rl (by omega) hf _ _ hP hD hS _ (lv_sub hl [1, 0] rfl)
set_option maxHeartbeats 4000000 in
set_option maxRecDepth 100000 in
theorem c_X4_firstHop_w (l : Launch) (D : va_G) (cI cZ : ClassId) (ad : Nat → Nat) (rc rl rh : Nat → Int32) (r : Nat) (o : Nat) (hr : r < 10) (ho : o < 10) : MI l yX4_firstHop cX4_firstHop 6 .int { frames := 2, cells := 0, slots := 0, locals := 44 } D (TY cI cZ) [.ref (ad 0), .int (nI r), .int (nI o)] (w4 cI ad rc rl rh) (w4 cI ad rc rl rh) (f_X4_firstHop r o rc rl) := by
  refine MI.mk ⟨rfl, rfl⟩ (by decide +kernel) (Nat.le_of_ble_eq_true rfl) ?_
  intro p e s m below meth c A ls B hA hP hD hS hl
  have hx := B.1
  have hb := B.2.1
  have hts := B.2.2.2.2.2.1
  have hN := B.2.2.2.2.2.2.2.1
  have hK := B.2.2.2.2.2.2.2.2.1
  have hl : lv_has ls 6 [(0, .ref (ad 0)), (1, .int (nI r)), (2, .int (nI o))] := hl
  have hf := f_X4_firstHop.eq_1 r o rc rl
  refine lv_aload_n hx hb dX4_firstHop_0 rfl (lv_at hl 0 rfl) ?_
  refine lv_iload_n hx hb dX4_firstHop_1 rfl (lv_at hl 1 rfl) ?_
  refine lv_iload_n hx hb dX4_firstHop_2 rfl (lv_at hl 2 rfl) ?_
  refine fV_i (ci := 4) (as := [.int (nI r), .int (nI o)]) (rest := []) B hl.1 (c_X4_distanceOf_w l D cI cZ ad rc rl rh r o (by omega) (by omega)) rfl (l_RX4_43 hts ⟨rfl, rfl⟩ ⟨Nat.le_of_ble_eq_true rfl, Nat.le_of_ble_eq_true rfl⟩) m_3_13 m_3_14 rfl rfl hP hD hS hA 0 rfl wf4 (Nat.le_of_ble_eq_true rfl) dX4_firstHop_3 (fun H locs hP hD hS => ?_)
  refine lv_istore_n (lv' := [(3, .int (f_X4_distanceOf r o rl)), (0, .ref (ad 0)), (1, .int (nI r)), (2, .int (nI o))]) hx hb dX4_firstHop_6 rfl hl (by decide) rfl (fun ls hl => ?_)
  refine lv_iload_n hx hb dX4_firstHop_7 rfl (lv_at hl 2 rfl) ?_
  refine lv_iload_n hx hb dX4_firstHop_8 rfl (lv_at hl 3 rfl) ?_
  refine r_icmp_eq (tgt := 17) hx hb (by omega) (by omega) dX4_firstHop_9 (by decide) (fun c1 => ?_) (fun c1 => ?_)
  · have hf := hf.trans (if_pos c1)
    refine lv_iconst (v := -1) hx hb dX4_firstHop_17 (by decide) ?_
    exact eI B hP hS ((congrArg (fun (u : Int32) => u) hf).symm) rfl dX4_firstHop_18
  · have hf := hf.trans (if_neg c1)
    refine lv_iload_n hx hb dX4_firstHop_12 rfl (lv_at hl 0 rfl) ?_
    refine lv_iconst (v := -1) hx hb dX4_firstHop_13 (by decide) ?_
    refine lv_icmp_ne (tgt := 19) hx hb dX4_firstHop_14 (by decide) (fun c2 => ?_) (fun c2 => ?_)
    · have hf := hf.trans (if_neg c2)
      refine lv_iconst (v := nI 0) hx hb dX4_firstHop_19 (by decide) ?_
      refine lv_istore (lv' := [(4, .int (nI 0)), (3, .int (f_X4_distanceOf r o rl)), (0, .ref (ad 0)), (1, .int (nI r)), (2, .int (nI o))]) hx hb dX4_firstHop_20 hl (by decide) rfl (fun ls hl => ?_)
      have L22 : ∀ (n22 : Nat) (k22 : Nat), k22 + n22 = 10 → f_X4_firstHop r o rc rl = (f_X4_firstHop_L22 r o rc rl n22 k22) → ∀ (H : Heap) (locs : List Loc), va_P D vwCl (w4 cI ad rc rl rh) H → va_D A (w4 cI ad rc rl rh) → va_S A s.heap H locs → ∀ ls : Array Slot, lv_has ls 6 [(0, .ref (ad 0)), (1, .int (nI r)), (2, .int (nI o)), (3, .int (f_X4_distanceOf r o rl)), (4, .int (nI k22))] → W p l e { frames := 2, cells := 0, slots := 0, locals := 44 } s m [.ref (ad 0), .int (nI r), .int (nI o)].toArray below meth c H locs 0 0 (QI below s A D [.ref (ad 0), .int (nI r), .int (nI o)] (w4 cI ad rc rl rh) (f_X4_firstHop r o rc rl)) (F0 m 22 ls []) := by
        intro n22
        induction n22 with
        | zero =>
          intro k22 hk22 hf H locs hP hD hS ls hl
          obtain rfl : 10 = k22 := by omega
          rw [f_X4_firstHop_L22] at hf
          have hl : lv_has ls 6 [(0, .ref (ad 0)), (1, .int (nI r)), (2, .int (nI o)), (3, .int (f_X4_distanceOf r o rl)), (4, .int (nI 10))] := hl
          refine lv_iload hx hb dX4_firstHop_22 (lv_at hl 4 rfl) ?_
          refine lv_bipush (v := nI 10) hx hb dX4_firstHop_24 (by decide) ?_
          refine r_icmp_ge (tgt := 66) hx hb (by omega) (by omega) dX4_firstHop_26 (by decide) (fun _ => ?_) (fun c => absurd c (by omega))
          refine lv_iconst (v := -1) hx hb dX4_firstHop_66 (by decide) ?_
          exact eI B hP hS ((congrArg (fun (u : Int32) => u) hf).symm) rfl dX4_firstHop_67
        | succ n22 ih22 =>
          intro k22 hk22 hf H locs hP hD hS ls hl
          rw [f_X4_firstHop_L22] at hf
          have hl : lv_has ls 6 [(0, .ref (ad 0)), (1, .int (nI r)), (2, .int (nI o)), (3, .int (f_X4_distanceOf r o rl)), (4, .int (nI k22))] := hl
          refine lv_iload hx hb dX4_firstHop_22 (lv_at hl 4 rfl) ?_
          refine lv_bipush (v := nI 10) hx hb dX4_firstHop_24 (by decide) ?_
          refine r_icmp_ge (tgt := 66) hx hb (by omega) (by omega) dX4_firstHop_26 (by decide) (fun c => absurd c (by omega)) (fun _ => ?_)
          refine lv_aload_n hx hb dX4_firstHop_29 rfl (lv_at hl 0 rfl) ?_
          refine lv_iload_n hx hb dX4_firstHop_30 rfl (lv_at hl 1 rfl) ?_
          refine lv_iload hx hb dX4_firstHop_31 (lv_at hl 4 rfl) ?_
          refine fV_i (ci := 4) (as := [.int (nI r), .int (nI k22)]) (rest := []) B hl.1 (c_X4_costOf_w l D cI cZ ad rc rl rh r k22 (by omega) (by omega)) rfl (l_RX4_32 hts ⟨rfl, rfl⟩ ⟨Nat.le_of_ble_eq_true rfl, Nat.le_of_ble_eq_true rfl⟩) m_3_20 m_3_21 rfl rfl hP hD hS hA 0 rfl wf4 (Nat.le_of_ble_eq_true rfl) dX4_firstHop_33 (fun H locs hP hD hS => ?_)
          refine lv_istore (lv' := [(5, .int (rc ((r * 10) + k22))), (0, .ref (ad 0)), (1, .int (nI r)), (2, .int (nI o)), (3, .int (f_X4_distanceOf r o rl)), (4, .int (nI k22))]) hx hb dX4_firstHop_36 hl (by decide) rfl (fun ls hl => ?_)
          refine lv_iload hx hb dX4_firstHop_38 (lv_at hl 0 rfl) ?_
          refine lv_if_eq (tgt := 60) hx hb dX4_firstHop_40 (by decide) (fun c6 => ?_) (fun c6 => ?_)
          · have hf := hf.trans (if_pos c6)
            refine lv_iinc (v := nI (k22 + 1)) (lv' := [(4, .int (nI (k22 + 1))), (5, .int (rc ((r * 10) + k22))), (0, .ref (ad 0)), (1, .int (nI r)), (2, .int (nI o)), (3, .int (f_X4_distanceOf r o rl))]) hx hb dX4_firstHop_60 hl (k := 5) rfl (nI_add _ _) (by decide) rfl (fun ls hl => ?_)
            refine lv_goto (tgt := 22) hx hb dX4_firstHop_63 (by decide) ?_
            exact ih22 (k22 + 1) (by omega) hf _ _ hP hD hS _ (lv_sub hl [2, 3, 4, 5, 0] rfl)
          · have hf := hf.trans (if_neg c6)
            refine lv_iload hx hb dX4_firstHop_43 (lv_at hl 0 rfl) ?_
            refine lv_aload_n hx hb dX4_firstHop_45 rfl (lv_at hl 1 rfl) ?_
            refine lv_iload hx hb dX4_firstHop_46 (lv_at hl 5 rfl) ?_
            refine lv_iload_n hx hb dX4_firstHop_48 rfl (lv_at hl 3 rfl) ?_
            refine fV_i (ci := 4) (as := [.int (nI k22), .int (nI o)]) (rest := [.int (rc ((r * 10) + k22))]) B hl.1 (c_X4_distanceOf_w l D cI cZ ad rc rl rh k22 o (by omega) (by omega)) rfl (l_RX4_43 hts ⟨rfl, rfl⟩ ⟨Nat.le_of_ble_eq_true rfl, Nat.le_of_ble_eq_true rfl⟩) m_3_13 m_3_14 rfl rfl hP hD hS hA 0 rfl wf4 (Nat.le_of_ble_eq_true rfl) dX4_firstHop_49 (fun H locs hP hD hS => ?_)
            refine lv_iadd hx hb dX4_firstHop_52 ?_
            refine lv_iload_n hx hb dX4_firstHop_53 rfl (lv_at hl 4 rfl) ?_
            refine lv_icmp_ne (tgt := 60) hx hb dX4_firstHop_54 (by decide) (fun c7 => ?_) (fun c7 => ?_)
            · have hf := hf.trans (if_neg c7)
              refine lv_iinc (v := nI (k22 + 1)) (lv' := [(4, .int (nI (k22 + 1))), (5, .int (rc ((r * 10) + k22))), (0, .ref (ad 0)), (1, .int (nI r)), (2, .int (nI o)), (3, .int (f_X4_distanceOf r o rl))]) hx hb dX4_firstHop_60 hl (k := 5) rfl (nI_add _ _) (by decide) rfl (fun ls hl => ?_)
              refine lv_goto (tgt := 22) hx hb dX4_firstHop_63 (by decide) ?_
              exact ih22 (k22 + 1) (by omega) hf _ _ hP hD hS _ (lv_sub hl [2, 3, 4, 5, 0] rfl)
            · have hf := hf.trans (if_pos c7)
              refine lv_iload hx hb dX4_firstHop_57 (lv_at hl 5 rfl) ?_
              exact eI B hP hS ((congrArg (fun (u : Int32) => u) hf).symm) rfl dX4_firstHop_59
      exact L22 10 0 (by omega) hf _ _ hP hD hS _ (lv_sub hl [2, 3, 4, 1, 0] rfl)
    · have hf := hf.trans (if_pos c2)
      refine lv_iconst (v := -1) hx hb dX4_firstHop_17 (by decide) ?_
      exact eI B hP hS ((congrArg (fun (u : Int32) => u) hf).symm) rfl dX4_firstHop_18
set_option maxHeartbeats 4000000 in
set_option maxRecDepth 100000 in
theorem c_X4_findHops_w (l : Launch) (D : va_G) (cI cZ : ClassId) (ad : Nat → Nat) (rc rl rh : Nat → Int32) : MV l yX4_findHops cX4_findHops 3 { frames := 3, cells := 0, slots := 0, locals := 69 } D (TY cI cZ) [.ref (ad 0)] (w4 cI ad rc rl rh) (w4 cI ad rc rl (f_X4_findHops rc rl rh)) := by
  refine MV.mk ⟨rfl, rfl⟩ (by decide +kernel) (Nat.le_of_ble_eq_true rfl) ?_
  intro p e s m below meth c A ls B hA hP hD hS hl
  have hx := B.1
  have hb := B.2.1
  have hts := B.2.2.2.2.2.1
  have hN := B.2.2.2.2.2.2.2.1
  have hK := B.2.2.2.2.2.2.2.2.1
  have hl : lv_has ls 3 [(0, .ref (ad 0))] := hl
  have hf := f_X4_findHops.eq_1 rc rl rh
  refine lv_iconst (v := nI 0) hx hb dX4_findHops_0 (by decide) ?_
  refine lv_istore_n (lv' := [(1, .int (nI 0)), (0, .ref (ad 0))]) hx hb dX4_findHops_1 rfl hl (by decide) rfl (fun ls hl => ?_)
  have L2 : ∀ (n2 : Nat) (k2 : Nat) (rh_2 : Nat → Int32), k2 + n2 = 10 → f_X4_findHops rc rl rh = (f_X4_findHops_L2 rc rl n2 k2 rh_2) → ∀ (H : Heap) (locs : List Loc), va_P D vwCl (w4 cI ad rc rl rh_2) H → va_D A (w4 cI ad rc rl rh_2) → va_S A s.heap H locs → ∀ ls : Array Slot, lv_has ls 3 [(0, .ref (ad 0)), (1, .int (nI k2))] → W p l e { frames := 3, cells := 0, slots := 0, locals := 69 } s m [.ref (ad 0)].toArray below meth c H locs 0 0 (QV below s A D [.ref (ad 0)] (w4 cI ad rc rl (f_X4_findHops rc rl rh))) (F0 m 2 ls []) := by
    intro n2
    induction n2 with
    | zero =>
      intro k2 rh_2 hk2 hf H locs hP hD hS ls hl
      obtain rfl : 10 = k2 := by omega
      rw [f_X4_findHops_L2] at hf
      have hl : lv_has ls 3 [(0, .ref (ad 0)), (1, .int (nI 10))] := hl
      refine lv_iload_n hx hb dX4_findHops_2 rfl (lv_at hl 1 rfl) ?_
      refine lv_bipush (v := nI 10) hx hb dX4_findHops_3 (by decide) ?_
      refine r_icmp_ge (tgt := 45) hx hb (by omega) (by omega) dX4_findHops_5 (by decide) (fun _ => ?_) (fun c => absurd c (by omega))
      exact eV B hP hS ((congrArg (fun (u : (Nat → Int32)) => w4 cI ad rc rl u) hf).symm) dX4_findHops_45
    | succ n2 ih2 =>
      intro k2 rh_2 hk2 hf H locs hP hD hS ls hl
      rw [f_X4_findHops_L2] at hf
      have hl : lv_has ls 3 [(0, .ref (ad 0)), (1, .int (nI k2))] := hl
      refine lv_iload_n hx hb dX4_findHops_2 rfl (lv_at hl 1 rfl) ?_
      refine lv_bipush (v := nI 10) hx hb dX4_findHops_3 (by decide) ?_
      refine r_icmp_ge (tgt := 45) hx hb (by omega) (by omega) dX4_findHops_5 (by decide) (fun c => absurd c (by omega)) (fun _ => ?_)
      refine lv_iconst (v := nI 0) hx hb dX4_findHops_8 (by decide) ?_
      refine lv_istore_n (lv' := [(2, .int (nI 0)), (0, .ref (ad 0)), (1, .int (nI k2))]) hx hb dX4_findHops_9 rfl hl (by decide) rfl (fun ls hl => ?_)
      have L10 : ∀ (n10 : Nat) (k10 : Nat) (rh_10 : Nat → Int32), k10 + n10 = 10 → f_X4_findHops rc rl rh = (f_X4_findHops_L2 rc rl n2 (k2 + 1) (f_X4_findHops_L10 rc rl k2 n10 k10 rh_10)) → ∀ (H : Heap) (locs : List Loc), va_P D vwCl (w4 cI ad rc rl rh_10) H → va_D A (w4 cI ad rc rl rh_10) → va_S A s.heap H locs → ∀ ls : Array Slot, lv_has ls 3 [(0, .ref (ad 0)), (1, .int (nI k2)), (2, .int (nI k10))] → W p l e { frames := 3, cells := 0, slots := 0, locals := 69 } s m [.ref (ad 0)].toArray below meth c H locs 0 0 (QV below s A D [.ref (ad 0)] (w4 cI ad rc rl (f_X4_findHops rc rl rh))) (F0 m 10 ls []) := by
        intro n10
        induction n10 with
        | zero =>
          intro k10 rh_10 hk10 hf H locs hP hD hS ls hl
          obtain rfl : 10 = k10 := by omega
          rw [f_X4_findHops_L10] at hf
          have hl : lv_has ls 3 [(0, .ref (ad 0)), (1, .int (nI k2)), (2, .int (nI 10))] := hl
          refine lv_iload_n hx hb dX4_findHops_10 rfl (lv_at hl 2 rfl) ?_
          refine lv_bipush (v := nI 10) hx hb dX4_findHops_11 (by decide) ?_
          refine r_icmp_ge (tgt := 39) hx hb (by omega) (by omega) dX4_findHops_13 (by decide) (fun _ => ?_) (fun c => absurd c (by omega))
          refine lv_iinc (v := nI (k2 + 1)) (lv' := [(1, .int (nI (k2 + 1))), (0, .ref (ad 0)), (2, .int (nI 10))]) hx hb dX4_findHops_39 hl (k := 1) rfl (nI_add _ _) (by decide) rfl (fun ls hl => ?_)
          refine lv_goto (tgt := 2) hx hb dX4_findHops_42 (by decide) ?_
          exact ih2 (k2 + 1) rh_10 (by omega) hf _ _ hP hD hS _ (lv_sub hl [1, 0] rfl)
        | succ n10 ih10 =>
          intro k10 rh_10 hk10 hf H locs hP hD hS ls hl
          rw [f_X4_findHops_L10] at hf
          have hl : lv_has ls 3 [(0, .ref (ad 0)), (1, .int (nI k2)), (2, .int (nI k10))] := hl
          refine lv_iload_n hx hb dX4_findHops_10 rfl (lv_at hl 2 rfl) ?_
          refine lv_bipush (v := nI 10) hx hb dX4_findHops_11 (by decide) ?_
          refine r_icmp_ge (tgt := 39) hx hb (by omega) (by omega) dX4_findHops_13 (by decide) (fun c => absurd c (by omega)) (fun _ => ?_)
          refine lv_aload_n hx hb dX4_findHops_16 rfl (lv_at hl 0 rfl) ?_
          refine g_X4_18 B hP 0 rfl rfl dX4_findHops_17 ?_
          refine lv_iload_n hx hb dX4_findHops_20 rfl (lv_at hl 1 rfl) ?_
          refine lv_bipush (v := nI 10) hx hb dX4_findHops_21 (by decide) ?_
          refine r_imul hx hb dX4_findHops_23 ?_
          refine lv_iload_n hx hb dX4_findHops_24 rfl (lv_at hl 2 rfl) ?_
          refine r_iadd hx hb dX4_findHops_25 ?_
          refine lv_aload_n hx hb dX4_findHops_26 rfl (lv_at hl 0 rfl) ?_
          refine lv_iload_n hx hb dX4_findHops_27 rfl (lv_at hl 1 rfl) ?_
          refine lv_iload_n hx hb dX4_findHops_28 rfl (lv_at hl 2 rfl) ?_
          refine fV_i (ci := 4) (as := [.int (nI k2), .int (nI k10)]) (rest := [.int (nI ((k2 * 10) + k10)), .ref (ad 3)]) B hl.1 (c_X4_firstHop_w l D cI cZ ad rc rl rh_10 k2 k10 (by omega) (by omega)) rfl (l_RX4_40 hts ⟨rfl, rfl⟩ ⟨Nat.le_of_ble_eq_true rfl, Nat.le_of_ble_eq_true rfl⟩) m_3_9 m_3_10 rfl rfl hP hD hS hA 0 rfl wf4 (Nat.le_of_ble_eq_true rfl) dX4_findHops_29 (fun H locs hP hD hS => ?_)
          refine r_iast hx hb hK hP hD hS 3 0 rfl rfl (by omega) (by decide) dX4_findHops_32 (fun H locs hP hD hS => ?_)
          have hP : va_P D vwCl (w4 cI ad rc rl (upd rh_10 ((k2 * 10) + k10) (f_X4_firstHop k2 k10 rc rl))) H := hP
          have hD : va_D A (w4 cI ad rc rl (upd rh_10 ((k2 * 10) + k10) (f_X4_firstHop k2 k10 rc rl))) := hD
          refine lv_iinc (v := nI (k10 + 1)) (lv' := [(2, .int (nI (k10 + 1))), (0, .ref (ad 0)), (1, .int (nI k2))]) hx hb dX4_findHops_33 hl (k := 2) rfl (nI_add _ _) (by decide) rfl (fun ls hl => ?_)
          refine lv_goto (tgt := 10) hx hb dX4_findHops_36 (by decide) ?_
          exact ih10 (k10 + 1) (upd rh_10 ((k2 * 10) + k10) (f_X4_firstHop k2 k10 rc rl)) (by omega) hf _ _ hP hD hS _ (lv_sub hl [1, 2, 0] rfl)
      exact L10 10 0 rh_2 (by omega) hf _ _ hP hD hS _ (lv_sub hl [1, 2, 0] rfl)
  exact L2 10 0 rh (by omega) hf _ _ hP hD hS _ (lv_sub hl [1, 0] rfl)
set_option maxHeartbeats 4000000 in
set_option maxRecDepth 100000 in
theorem c_X2_setRoot_w (l : Launch) (D : va_G) (cI cZ : ClassId) (ad : Nat → Nat) (fr fw fc fg : Nat → Int32) (t : Nat) (x : Int32) (ht : t < 44) : MV l yX2_setRoot cX2_setRoot 3 { frames := 1, cells := 0, slots := 0, locals := 20 } D (TY cI cZ) [.ref (ad 0), .int (nI t), .int x] (w2 cI ad fr fw fc fg) (w2 cI ad (upd fr t x) fw fc fg) := by
  refine MV.mk ⟨rfl, rfl⟩ (by decide +kernel) (Nat.le_of_ble_eq_true rfl) ?_
  intro p e s m below meth c A ls B hA hP hD hS hl
  have hx := B.1
  have hb := B.2.1
  have hts := B.2.2.2.2.2.1
  have hN := B.2.2.2.2.2.2.2.1
  have hK := B.2.2.2.2.2.2.2.2.1
  have hl : lv_has ls 3 [(0, .ref (ad 0)), (1, .int (nI t)), (2, .int x)] := hl
  refine lv_iload_n hx hb dX2_setRoot_0 rfl (lv_at hl 1 rfl) ?_
  refine fN_i (as := [.int (nI t)]) (rest := []) B hl.1 (c_X5_isTree l D cI cZ (w2 cI ad fr fw fc fg) t (by omega)) (l_RX2_38 hts hN ⟨rfl, rfl⟩ ⟨Nat.le_of_ble_eq_true rfl, Nat.le_of_ble_eq_true rfl⟩) m_4_23 rfl rfl hP hD hS hA rfl (Nat.le_of_ble_eq_true rfl) dX2_setRoot_1 (fun H locs hP hD hS => ?_)
  refine r_if_eq (tgt := 14) hx hb (by omega) dX2_setRoot_4 (by decide) (fun c => absurd c (by omega)) (fun _ => ?_)
  refine lv_aload_n hx hb dX2_setRoot_7 rfl (lv_at hl 0 rfl) ?_
  refine g_X2_9 B hP 0 rfl rfl dX2_setRoot_8 ?_
  refine lv_iload_n hx hb dX2_setRoot_11 rfl (lv_at hl 1 rfl) ?_
  refine lv_iload_n hx hb dX2_setRoot_12 rfl (lv_at hl 2 rfl) ?_
  refine r_iast hx hb hK hP hD hS 1 0 rfl rfl (by omega) (by decide) dX2_setRoot_13 (fun H locs hP hD hS => ?_)
  have hP : va_P D vwCl (w2 cI ad (upd fr t x) fw fc fg) H := hP
  have hD : va_D A (w2 cI ad (upd fr t x) fw fc fg) := hD
  exact eV B hP hS rfl dX2_setRoot_14
