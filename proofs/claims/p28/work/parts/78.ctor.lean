/-! the small constructors -/
set_option maxHeartbeats 4000000 in
theorem c_X0_init (l : Launch) (D : va_G) (cI cZ : ClassId) (a : Nat) : MC l yX0_init cX0_init 1 { frames := 1, cells := 4, slots := 800, locals := 12 } D (TY cI cZ) [.ref a] [(a, .inr (0, [.null, .null, .null, .null, .int 0, .int 0]))] (fun w1 => ∃ q1 q2 q3 q4 : Nat, w1 = [(a, .inr (0, [.ref q1, .ref q2, .ref q3, .ref q4, .int 0, .int 0])), (q1, .inl (cI, 200, .inl (fun _ => nI 0))), (q2, .inl (cI, 200, .inl (fun _ => nI 0))), (q3, .inl (cI, 200, .inl (fun _ => nI 0))), (q4, .inl (cI, 200, .inl (fun _ => nI 0)))]) 4 800 := by
  refine MC.mk (by decide +kernel) (Nat.le_of_ble_eq_true rfl) ?_
  intro p e s m below meth c A ls B hin hA hP hD hS hl
  have hin : meth.name = "<init>" := hin
  have hx := B.1
  have hb := B.2.1
  have hts := B.2.2.2.2.2.1
  have hK := B.2.2.2.2.2.2.2.2.1
  have hl : lv_has ls 1 [(0, .ref a)] := hl
  refine lv_aload_n hx hb dX0_init_0 rfl (lv_at hl 0 rfl) ?_
  refine rObj B hl.1 m_5_10 (Nat.le_of_ble_eq_true rfl) (Nat.le_of_ble_eq_true rfl) dX0_init_1 ?_
  refine lv_aload_n hx hb dX0_init_4 rfl (lv_at hl 0 rfl) ?_
  refine lv_sipush (v := nI 200) hx hb dX0_init_5 (by decide) ?_
  refine rArr (ty := .int) (N := 200) B rfl (fun c9 U h => h) m_1_7 (t0 := 0) (cA := cI) rfl hP hD hS hA (a0 := (200, .inl (fun _ => nI 0))) (fun cA => by rw [vp_cell_i]; rfl) (by decide) (by decide) (Nat.le_of_ble_eq_true rfl) (Nat.le_of_ble_eq_true rfl) dX0_init_8 (fun q1 H hP hD hS => ?_)
  have hP : va_P D vwCl [(a, .inr (0, [.null, .null, .null, .null, .int 0, .int 0])), (q1, .inl (cI, 200, .inl (fun _ => nI 0)))] H := hP
  have hD : va_D A [(a, .inr (0, [.null, .null, .null, .null, .int 0, .int 0])), (q1, .inl (cI, 200, .inl (fun _ => nI 0)))] := hD
  refine va_putF (ty := .array .int) B.1 B.2.1 B.2.2.2.2.2.1 inlX0 tyX0 tyX0_ok nmX0 B.2.2.2.2.1 B.2.2.2.2.2.2.2.2.1 hP hD hS 0 rfl rfl 0 (by decide) (B.2.2.2.2.2.1 _ m_5_11) (fun _ h => h) rfl hin rfl (by decide +kernel) rfl rfl (Nat.le_of_ble_eq_true rfl) dX0_init_10 (fun H locs hP hD hS => ?_)
  have hP : va_P D vwCl [(a, .inr (0, [.ref q1, .null, .null, .null, .int 0, .int 0])), (q1, .inl (cI, 200, .inl (fun _ => nI 0)))] H := hP
  have hD : va_D A [(a, .inr (0, [.ref q1, .null, .null, .null, .int 0, .int 0])), (q1, .inl (cI, 200, .inl (fun _ => nI 0)))] := hD
  refine lv_aload_n hx hb dX0_init_13 rfl (lv_at hl 0 rfl) ?_
  refine lv_sipush (v := nI 200) hx hb dX0_init_14 (by decide) ?_
  refine rArr (ty := .int) (N := 200) B rfl (fun c9 U h => h) m_1_7 (t0 := 0) (cA := cI) rfl hP hD hS hA (a0 := (200, .inl (fun _ => nI 0))) (fun cA => by rw [vp_cell_i]; rfl) (by decide) (by decide) (Nat.le_of_ble_eq_true rfl) (Nat.le_of_ble_eq_true rfl) dX0_init_17 (fun q2 H hP hD hS => ?_)
  have hP : va_P D vwCl [(a, .inr (0, [.ref q1, .null, .null, .null, .int 0, .int 0])), (q1, .inl (cI, 200, .inl (fun _ => nI 0))), (q2, .inl (cI, 200, .inl (fun _ => nI 0)))] H := hP
  have hD : va_D A [(a, .inr (0, [.ref q1, .null, .null, .null, .int 0, .int 0])), (q1, .inl (cI, 200, .inl (fun _ => nI 0))), (q2, .inl (cI, 200, .inl (fun _ => nI 0)))] := hD
  refine va_putF (ty := .array .int) B.1 B.2.1 B.2.2.2.2.2.1 inlX0 tyX0 tyX0_ok nmX0 B.2.2.2.2.1 B.2.2.2.2.2.2.2.2.1 hP hD hS 0 rfl rfl 1 (by decide) (B.2.2.2.2.2.1 _ m_5_12) (fun _ h => h) rfl hin rfl (by decide +kernel) rfl rfl (Nat.le_of_ble_eq_true rfl) dX0_init_19 (fun H locs hP hD hS => ?_)
  have hP : va_P D vwCl [(a, .inr (0, [.ref q1, .ref q2, .null, .null, .int 0, .int 0])), (q1, .inl (cI, 200, .inl (fun _ => nI 0))), (q2, .inl (cI, 200, .inl (fun _ => nI 0)))] H := hP
  have hD : va_D A [(a, .inr (0, [.ref q1, .ref q2, .null, .null, .int 0, .int 0])), (q1, .inl (cI, 200, .inl (fun _ => nI 0))), (q2, .inl (cI, 200, .inl (fun _ => nI 0)))] := hD
  refine lv_aload_n hx hb dX0_init_22 rfl (lv_at hl 0 rfl) ?_
  refine lv_sipush (v := nI 200) hx hb dX0_init_23 (by decide) ?_
  refine rArr (ty := .int) (N := 200) B rfl (fun c9 U h => h) m_1_7 (t0 := 0) (cA := cI) rfl hP hD hS hA (a0 := (200, .inl (fun _ => nI 0))) (fun cA => by rw [vp_cell_i]; rfl) (by decide) (by decide) (Nat.le_of_ble_eq_true rfl) (Nat.le_of_ble_eq_true rfl) dX0_init_26 (fun q3 H hP hD hS => ?_)
  have hP : va_P D vwCl [(a, .inr (0, [.ref q1, .ref q2, .null, .null, .int 0, .int 0])), (q1, .inl (cI, 200, .inl (fun _ => nI 0))), (q2, .inl (cI, 200, .inl (fun _ => nI 0))), (q3, .inl (cI, 200, .inl (fun _ => nI 0)))] H := hP
  have hD : va_D A [(a, .inr (0, [.ref q1, .ref q2, .null, .null, .int 0, .int 0])), (q1, .inl (cI, 200, .inl (fun _ => nI 0))), (q2, .inl (cI, 200, .inl (fun _ => nI 0))), (q3, .inl (cI, 200, .inl (fun _ => nI 0)))] := hD
  refine va_putF (ty := .array .int) B.1 B.2.1 B.2.2.2.2.2.1 inlX0 tyX0 tyX0_ok nmX0 B.2.2.2.2.1 B.2.2.2.2.2.2.2.2.1 hP hD hS 0 rfl rfl 2 (by decide) (B.2.2.2.2.2.1 _ m_5_13) (fun _ h => h) rfl hin rfl (by decide +kernel) rfl rfl (Nat.le_of_ble_eq_true rfl) dX0_init_28 (fun H locs hP hD hS => ?_)
  have hP : va_P D vwCl [(a, .inr (0, [.ref q1, .ref q2, .ref q3, .null, .int 0, .int 0])), (q1, .inl (cI, 200, .inl (fun _ => nI 0))), (q2, .inl (cI, 200, .inl (fun _ => nI 0))), (q3, .inl (cI, 200, .inl (fun _ => nI 0)))] H := hP
  have hD : va_D A [(a, .inr (0, [.ref q1, .ref q2, .ref q3, .null, .int 0, .int 0])), (q1, .inl (cI, 200, .inl (fun _ => nI 0))), (q2, .inl (cI, 200, .inl (fun _ => nI 0))), (q3, .inl (cI, 200, .inl (fun _ => nI 0)))] := hD
  refine lv_aload_n hx hb dX0_init_31 rfl (lv_at hl 0 rfl) ?_
  refine lv_sipush (v := nI 200) hx hb dX0_init_32 (by decide) ?_
  refine rArr (ty := .int) (N := 200) B rfl (fun c9 U h => h) m_1_7 (t0 := 0) (cA := cI) rfl hP hD hS hA (a0 := (200, .inl (fun _ => nI 0))) (fun cA => by rw [vp_cell_i]; rfl) (by decide) (by decide) (Nat.le_of_ble_eq_true rfl) (Nat.le_of_ble_eq_true rfl) dX0_init_35 (fun q4 H hP hD hS => ?_)
  have hP : va_P D vwCl [(a, .inr (0, [.ref q1, .ref q2, .ref q3, .null, .int 0, .int 0])), (q1, .inl (cI, 200, .inl (fun _ => nI 0))), (q2, .inl (cI, 200, .inl (fun _ => nI 0))), (q3, .inl (cI, 200, .inl (fun _ => nI 0))), (q4, .inl (cI, 200, .inl (fun _ => nI 0)))] H := hP
  have hD : va_D A [(a, .inr (0, [.ref q1, .ref q2, .ref q3, .null, .int 0, .int 0])), (q1, .inl (cI, 200, .inl (fun _ => nI 0))), (q2, .inl (cI, 200, .inl (fun _ => nI 0))), (q3, .inl (cI, 200, .inl (fun _ => nI 0))), (q4, .inl (cI, 200, .inl (fun _ => nI 0)))] := hD
  refine va_putF (ty := .array .int) B.1 B.2.1 B.2.2.2.2.2.1 inlX0 tyX0 tyX0_ok nmX0 B.2.2.2.2.1 B.2.2.2.2.2.2.2.2.1 hP hD hS 0 rfl rfl 3 (by decide) (B.2.2.2.2.2.1 _ m_5_14) (fun _ h => h) rfl hin rfl (by decide +kernel) rfl rfl (Nat.le_of_ble_eq_true rfl) dX0_init_37 (fun H locs hP hD hS => ?_)
  have hP : va_P D vwCl [(a, .inr (0, [.ref q1, .ref q2, .ref q3, .ref q4, .int 0, .int 0])), (q1, .inl (cI, 200, .inl (fun _ => nI 0))), (q2, .inl (cI, 200, .inl (fun _ => nI 0))), (q3, .inl (cI, 200, .inl (fun _ => nI 0))), (q4, .inl (cI, 200, .inl (fun _ => nI 0)))] H := hP
  have hD : va_D A [(a, .inr (0, [.ref q1, .ref q2, .ref q3, .ref q4, .int 0, .int 0])), (q1, .inl (cI, 200, .inl (fun _ => nI 0))), (q2, .inl (cI, 200, .inl (fun _ => nI 0))), (q3, .inl (cI, 200, .inl (fun _ => nI 0))), (q4, .inl (cI, 200, .inl (fun _ => nI 0)))] := hD
  exact W.vret hx hb B.2.2.1 (fun t ht hW => ⟨⟨_, rfl, ⟨q1, q2, q3, q4, rfl⟩, by rw [ht]; exact hP, hD⟩, hS.F ht⟩) hS.2.2 dX0_init_40 B.2.2.2.2.2.2.1
set_option maxHeartbeats 4000000 in
theorem c_X1_init (l : Launch) (D : va_G) (cI cZ : ClassId) (a : Nat) : MC l yX1_init cX1_init 1 { frames := 1, cells := 1, slots := 400, locals := 12 } D (TY cI cZ) [.ref a] [(a, .inr (1, [.null]))] (fun w1 => ∃ q1 : Nat, w1 = [(a, .inr (1, [.ref q1])), (q1, .inl (cI, 400, .inl (fun _ => nI 0)))]) 1 400 := by
  refine MC.mk (by decide +kernel) (Nat.le_of_ble_eq_true rfl) ?_
  intro p e s m below meth c A ls B hin hA hP hD hS hl
  have hin : meth.name = "<init>" := hin
  have hx := B.1
  have hb := B.2.1
  have hts := B.2.2.2.2.2.1
  have hK := B.2.2.2.2.2.2.2.2.1
  have hl : lv_has ls 1 [(0, .ref a)] := hl
  refine lv_aload_n hx hb dX1_init_0 rfl (lv_at hl 0 rfl) ?_
  refine rObj B hl.1 m_5_17 (Nat.le_of_ble_eq_true rfl) (Nat.le_of_ble_eq_true rfl) dX1_init_1 ?_
  refine lv_aload_n hx hb dX1_init_4 rfl (lv_at hl 0 rfl) ?_
  refine lv_sipush (v := nI 400) hx hb dX1_init_5 (by decide) ?_
  refine rArr (ty := .int) (N := 400) B rfl (fun c9 U h => h) m_1_7 (t0 := 0) (cA := cI) rfl hP hD hS hA (a0 := (400, .inl (fun _ => nI 0))) (fun cA => by rw [vp_cell_i]; rfl) (by decide) (by decide) (Nat.le_of_ble_eq_true rfl) (Nat.le_of_ble_eq_true rfl) dX1_init_8 (fun q1 H hP hD hS => ?_)
  have hP : va_P D vwCl [(a, .inr (1, [.null])), (q1, .inl (cI, 400, .inl (fun _ => nI 0)))] H := hP
  have hD : va_D A [(a, .inr (1, [.null])), (q1, .inl (cI, 400, .inl (fun _ => nI 0)))] := hD
  refine va_putF (ty := .array .int) B.1 B.2.1 B.2.2.2.2.2.1 inlX1 tyX1 tyX1_ok nmX1 B.2.2.2.2.1 B.2.2.2.2.2.2.2.2.1 hP hD hS 0 rfl rfl 0 (by decide) (B.2.2.2.2.2.1 _ m_5_18) (fun _ h => h) rfl hin rfl (by decide +kernel) rfl rfl (Nat.le_of_ble_eq_true rfl) dX1_init_10 (fun H locs hP hD hS => ?_)
  have hP : va_P D vwCl [(a, .inr (1, [.ref q1])), (q1, .inl (cI, 400, .inl (fun _ => nI 0)))] H := hP
  have hD : va_D A [(a, .inr (1, [.ref q1])), (q1, .inl (cI, 400, .inl (fun _ => nI 0)))] := hD
  exact W.vret hx hb B.2.2.1 (fun t ht hW => ⟨⟨_, rfl, ⟨q1, rfl⟩, by rw [ht]; exact hP, hD⟩, hS.F ht⟩) hS.2.2 dX1_init_13 B.2.2.2.2.2.2.1
set_option maxHeartbeats 4000000 in
theorem c_X3_init (l : Launch) (D : va_G) (cI cZ : ClassId) (a : Nat) : MC l yX3_init cX3_init 1 { frames := 1, cells := 4, slots := 800, locals := 12 } D (TY cI cZ) [.ref a] [(a, .inr (3, [.null, .null, .null, .null, .int 0]))] (fun w1 => ∃ q1 q2 q3 q4 : Nat, w1 = [(a, .inr (3, [.ref q1, .ref q2, .ref q3, .ref q4, .int 0])), (q1, .inl (cI, 200, .inl (fun _ => nI 0))), (q2, .inl (cI, 200, .inl (fun _ => nI 0))), (q3, .inl (cI, 200, .inl (fun _ => nI 0))), (q4, .inl (cI, 200, .inl (fun _ => nI 0)))]) 4 800 := by
  refine MC.mk (by decide +kernel) (Nat.le_of_ble_eq_true rfl) ?_
  intro p e s m below meth c A ls B hin hA hP hD hS hl
  have hin : meth.name = "<init>" := hin
  have hx := B.1
  have hb := B.2.1
  have hts := B.2.2.2.2.2.1
  have hK := B.2.2.2.2.2.2.2.2.1
  have hl : lv_has ls 1 [(0, .ref a)] := hl
  refine lv_aload_n hx hb dX3_init_0 rfl (lv_at hl 0 rfl) ?_
  refine rObj B hl.1 m_5_3 (Nat.le_of_ble_eq_true rfl) (Nat.le_of_ble_eq_true rfl) dX3_init_1 ?_
  refine lv_aload_n hx hb dX3_init_4 rfl (lv_at hl 0 rfl) ?_
  refine lv_sipush (v := nI 200) hx hb dX3_init_5 (by decide) ?_
  refine rArr (ty := .int) (N := 200) B rfl (fun c9 U h => h) m_1_7 (t0 := 0) (cA := cI) rfl hP hD hS hA (a0 := (200, .inl (fun _ => nI 0))) (fun cA => by rw [vp_cell_i]; rfl) (by decide) (by decide) (Nat.le_of_ble_eq_true rfl) (Nat.le_of_ble_eq_true rfl) dX3_init_8 (fun q1 H hP hD hS => ?_)
  have hP : va_P D vwCl [(a, .inr (3, [.null, .null, .null, .null, .int 0])), (q1, .inl (cI, 200, .inl (fun _ => nI 0)))] H := hP
  have hD : va_D A [(a, .inr (3, [.null, .null, .null, .null, .int 0])), (q1, .inl (cI, 200, .inl (fun _ => nI 0)))] := hD
  refine va_putF (ty := .array .int) B.1 B.2.1 B.2.2.2.2.2.1 inlX3 tyX3 tyX3_ok nmX3 B.2.2.2.2.1 B.2.2.2.2.2.2.2.2.1 hP hD hS 0 rfl rfl 0 (by decide) (B.2.2.2.2.2.1 _ m_5_4) (fun _ h => h) rfl hin rfl (by decide +kernel) rfl rfl (Nat.le_of_ble_eq_true rfl) dX3_init_10 (fun H locs hP hD hS => ?_)
  have hP : va_P D vwCl [(a, .inr (3, [.ref q1, .null, .null, .null, .int 0])), (q1, .inl (cI, 200, .inl (fun _ => nI 0)))] H := hP
  have hD : va_D A [(a, .inr (3, [.ref q1, .null, .null, .null, .int 0])), (q1, .inl (cI, 200, .inl (fun _ => nI 0)))] := hD
  refine lv_aload_n hx hb dX3_init_13 rfl (lv_at hl 0 rfl) ?_
  refine lv_sipush (v := nI 200) hx hb dX3_init_14 (by decide) ?_
  refine rArr (ty := .int) (N := 200) B rfl (fun c9 U h => h) m_1_7 (t0 := 0) (cA := cI) rfl hP hD hS hA (a0 := (200, .inl (fun _ => nI 0))) (fun cA => by rw [vp_cell_i]; rfl) (by decide) (by decide) (Nat.le_of_ble_eq_true rfl) (Nat.le_of_ble_eq_true rfl) dX3_init_17 (fun q2 H hP hD hS => ?_)
  have hP : va_P D vwCl [(a, .inr (3, [.ref q1, .null, .null, .null, .int 0])), (q1, .inl (cI, 200, .inl (fun _ => nI 0))), (q2, .inl (cI, 200, .inl (fun _ => nI 0)))] H := hP
  have hD : va_D A [(a, .inr (3, [.ref q1, .null, .null, .null, .int 0])), (q1, .inl (cI, 200, .inl (fun _ => nI 0))), (q2, .inl (cI, 200, .inl (fun _ => nI 0)))] := hD
  refine va_putF (ty := .array .int) B.1 B.2.1 B.2.2.2.2.2.1 inlX3 tyX3 tyX3_ok nmX3 B.2.2.2.2.1 B.2.2.2.2.2.2.2.2.1 hP hD hS 0 rfl rfl 1 (by decide) (B.2.2.2.2.2.1 _ m_5_5) (fun _ h => h) rfl hin rfl (by decide +kernel) rfl rfl (Nat.le_of_ble_eq_true rfl) dX3_init_19 (fun H locs hP hD hS => ?_)
  have hP : va_P D vwCl [(a, .inr (3, [.ref q1, .ref q2, .null, .null, .int 0])), (q1, .inl (cI, 200, .inl (fun _ => nI 0))), (q2, .inl (cI, 200, .inl (fun _ => nI 0)))] H := hP
  have hD : va_D A [(a, .inr (3, [.ref q1, .ref q2, .null, .null, .int 0])), (q1, .inl (cI, 200, .inl (fun _ => nI 0))), (q2, .inl (cI, 200, .inl (fun _ => nI 0)))] := hD
  refine lv_aload_n hx hb dX3_init_22 rfl (lv_at hl 0 rfl) ?_
  refine lv_sipush (v := nI 200) hx hb dX3_init_23 (by decide) ?_
  refine rArr (ty := .int) (N := 200) B rfl (fun c9 U h => h) m_1_7 (t0 := 0) (cA := cI) rfl hP hD hS hA (a0 := (200, .inl (fun _ => nI 0))) (fun cA => by rw [vp_cell_i]; rfl) (by decide) (by decide) (Nat.le_of_ble_eq_true rfl) (Nat.le_of_ble_eq_true rfl) dX3_init_26 (fun q3 H hP hD hS => ?_)
  have hP : va_P D vwCl [(a, .inr (3, [.ref q1, .ref q2, .null, .null, .int 0])), (q1, .inl (cI, 200, .inl (fun _ => nI 0))), (q2, .inl (cI, 200, .inl (fun _ => nI 0))), (q3, .inl (cI, 200, .inl (fun _ => nI 0)))] H := hP
  have hD : va_D A [(a, .inr (3, [.ref q1, .ref q2, .null, .null, .int 0])), (q1, .inl (cI, 200, .inl (fun _ => nI 0))), (q2, .inl (cI, 200, .inl (fun _ => nI 0))), (q3, .inl (cI, 200, .inl (fun _ => nI 0)))] := hD
  refine va_putF (ty := .array .int) B.1 B.2.1 B.2.2.2.2.2.1 inlX3 tyX3 tyX3_ok nmX3 B.2.2.2.2.1 B.2.2.2.2.2.2.2.2.1 hP hD hS 0 rfl rfl 2 (by decide) (B.2.2.2.2.2.1 _ m_5_6) (fun _ h => h) rfl hin rfl (by decide +kernel) rfl rfl (Nat.le_of_ble_eq_true rfl) dX3_init_28 (fun H locs hP hD hS => ?_)
  have hP : va_P D vwCl [(a, .inr (3, [.ref q1, .ref q2, .ref q3, .null, .int 0])), (q1, .inl (cI, 200, .inl (fun _ => nI 0))), (q2, .inl (cI, 200, .inl (fun _ => nI 0))), (q3, .inl (cI, 200, .inl (fun _ => nI 0)))] H := hP
  have hD : va_D A [(a, .inr (3, [.ref q1, .ref q2, .ref q3, .null, .int 0])), (q1, .inl (cI, 200, .inl (fun _ => nI 0))), (q2, .inl (cI, 200, .inl (fun _ => nI 0))), (q3, .inl (cI, 200, .inl (fun _ => nI 0)))] := hD
  refine lv_aload_n hx hb dX3_init_31 rfl (lv_at hl 0 rfl) ?_
  refine lv_sipush (v := nI 200) hx hb dX3_init_32 (by decide) ?_
  refine rArr (ty := .int) (N := 200) B rfl (fun c9 U h => h) m_1_7 (t0 := 0) (cA := cI) rfl hP hD hS hA (a0 := (200, .inl (fun _ => nI 0))) (fun cA => by rw [vp_cell_i]; rfl) (by decide) (by decide) (Nat.le_of_ble_eq_true rfl) (Nat.le_of_ble_eq_true rfl) dX3_init_35 (fun q4 H hP hD hS => ?_)
  have hP : va_P D vwCl [(a, .inr (3, [.ref q1, .ref q2, .ref q3, .null, .int 0])), (q1, .inl (cI, 200, .inl (fun _ => nI 0))), (q2, .inl (cI, 200, .inl (fun _ => nI 0))), (q3, .inl (cI, 200, .inl (fun _ => nI 0))), (q4, .inl (cI, 200, .inl (fun _ => nI 0)))] H := hP
  have hD : va_D A [(a, .inr (3, [.ref q1, .ref q2, .ref q3, .null, .int 0])), (q1, .inl (cI, 200, .inl (fun _ => nI 0))), (q2, .inl (cI, 200, .inl (fun _ => nI 0))), (q3, .inl (cI, 200, .inl (fun _ => nI 0))), (q4, .inl (cI, 200, .inl (fun _ => nI 0)))] := hD
  refine va_putF (ty := .array .int) B.1 B.2.1 B.2.2.2.2.2.1 inlX3 tyX3 tyX3_ok nmX3 B.2.2.2.2.1 B.2.2.2.2.2.2.2.2.1 hP hD hS 0 rfl rfl 3 (by decide) (B.2.2.2.2.2.1 _ m_5_7) (fun _ h => h) rfl hin rfl (by decide +kernel) rfl rfl (Nat.le_of_ble_eq_true rfl) dX3_init_37 (fun H locs hP hD hS => ?_)
  have hP : va_P D vwCl [(a, .inr (3, [.ref q1, .ref q2, .ref q3, .ref q4, .int 0])), (q1, .inl (cI, 200, .inl (fun _ => nI 0))), (q2, .inl (cI, 200, .inl (fun _ => nI 0))), (q3, .inl (cI, 200, .inl (fun _ => nI 0))), (q4, .inl (cI, 200, .inl (fun _ => nI 0)))] H := hP
  have hD : va_D A [(a, .inr (3, [.ref q1, .ref q2, .ref q3, .ref q4, .int 0])), (q1, .inl (cI, 200, .inl (fun _ => nI 0))), (q2, .inl (cI, 200, .inl (fun _ => nI 0))), (q3, .inl (cI, 200, .inl (fun _ => nI 0))), (q4, .inl (cI, 200, .inl (fun _ => nI 0)))] := hD
  exact W.vret hx hb B.2.2.1 (fun t ht hW => ⟨⟨_, rfl, ⟨q1, q2, q3, q4, rfl⟩, by rw [ht]; exact hP, hD⟩, hS.F ht⟩) hS.2.2 dX3_init_40 B.2.2.2.2.2.2.1
