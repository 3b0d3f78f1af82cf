/-! routes are made -/
set_option maxHeartbeats 4000000 in
set_option maxRecDepth 100000 in
theorem c_X4_init (l : Launch) (D : va_G) (cI cZ : ClassId) (a : Nat) : MC l yX4_init cX4_init 1 { frames := 6, cells := 3, slots := 300, locals := 200 } D (TY cI cZ) [.ref a] [(a, .inr (4, [.null, .null, .null]))] (fun w1 => ∃ ad : Nat → Nat, ad 0 = a ∧ w1 = w4 cI ad (fun _ => nI 0) (f_X4_findLeast (fun _ => nI 0) (fun _ => nI 0)) (f_X4_findHops (fun _ => nI 0) (f_X4_findLeast (fun _ => nI 0) (fun _ => nI 0)) (fun _ => nI 0))) 3 300 := by
  refine MC.mk (by decide +kernel) (Nat.le_of_ble_eq_true rfl) ?_
  intro p e s m below meth c A ls B hin hA hP hD hS hl
  have hin : meth.name = "<init>" := hin
  have hx := B.1
  have hb := B.2.1
  have hts := B.2.2.2.2.2.1
  have hN := B.2.2.2.2.2.2.2.1
  have hK := B.2.2.2.2.2.2.2.2.1
  have hl : lv_has ls 1 [(0, .ref a)] := hl
  refine lv_aload_n hx hb dX4_init_0 rfl (lv_at hl 0 rfl) ?_
  refine rObj B hl.1 m_2_15 (Nat.le_of_ble_eq_true rfl) (Nat.le_of_ble_eq_true rfl) dX4_init_1 ?_
  refine lv_aload_n hx hb dX4_init_4 rfl (lv_at hl 0 rfl) ?_
  refine lv_bipush (v := nI 100) hx hb dX4_init_5 (by decide) ?_
  refine rArr (ty := .int) (N := 100) B rfl (fun c9 U h => h) m_1_7 (t0 := 0) (cA := cI) rfl hP hD hS hA (a0 := (100, .inl (fun _ => nI 0))) (fun cA => by rw [vp_cell_i]; rfl) (by decide) (by decide) (Nat.le_of_ble_eq_true rfl) (Nat.le_of_ble_eq_true rfl) dX4_init_7 (fun q1 H hP hD hS => ?_)
  have hP : va_P D vwCl [(a, .inr (4, [.null, .null, .null])), (q1, .inl (cI, 100, .inl (fun _ => nI 0)))] H := hP
  have hD : va_D A [(a, .inr (4, [.null, .null, .null])), (q1, .inl (cI, 100, .inl (fun _ => nI 0)))] := hD
  refine va_putF (ty := .array .int) B.1 B.2.1 B.2.2.2.2.2.1 inlX4 tyX4 tyX4_ok nmX4 B.2.2.2.2.1 B.2.2.2.2.2.2.2.2.1 hP hD hS 0 rfl rfl 0 (by decide) (B.2.2.2.2.2.1 _ m_2_16) (fun _ h => h) rfl hin rfl (by decide +kernel) rfl rfl (Nat.le_of_ble_eq_true rfl) dX4_init_9 (fun H locs hP hD hS => ?_)
  have hP : va_P D vwCl [(a, .inr (4, [.ref q1, .null, .null])), (q1, .inl (cI, 100, .inl (fun _ => nI 0)))] H := hP
  have hD : va_D A [(a, .inr (4, [.ref q1, .null, .null])), (q1, .inl (cI, 100, .inl (fun _ => nI 0)))] := hD
  refine lv_aload_n hx hb dX4_init_12 rfl (lv_at hl 0 rfl) ?_
  refine lv_bipush (v := nI 100) hx hb dX4_init_13 (by decide) ?_
  refine rArr (ty := .int) (N := 100) B rfl (fun c9 U h => h) m_1_7 (t0 := 0) (cA := cI) rfl hP hD hS hA (a0 := (100, .inl (fun _ => nI 0))) (fun cA => by rw [vp_cell_i]; rfl) (by decide) (by decide) (Nat.le_of_ble_eq_true rfl) (Nat.le_of_ble_eq_true rfl) dX4_init_15 (fun q2 H hP hD hS => ?_)
  have hP : va_P D vwCl [(a, .inr (4, [.ref q1, .null, .null])), (q1, .inl (cI, 100, .inl (fun _ => nI 0))), (q2, .inl (cI, 100, .inl (fun _ => nI 0)))] H := hP
  have hD : va_D A [(a, .inr (4, [.ref q1, .null, .null])), (q1, .inl (cI, 100, .inl (fun _ => nI 0))), (q2, .inl (cI, 100, .inl (fun _ => nI 0)))] := hD
  refine va_putF (ty := .array .int) B.1 B.2.1 B.2.2.2.2.2.1 inlX4 tyX4 tyX4_ok nmX4 B.2.2.2.2.1 B.2.2.2.2.2.2.2.2.1 hP hD hS 0 rfl rfl 1 (by decide) (B.2.2.2.2.2.1 _ m_2_17) (fun _ h => h) rfl hin rfl (by decide +kernel) rfl rfl (Nat.le_of_ble_eq_true rfl) dX4_init_17 (fun H locs hP hD hS => ?_)
  have hP : va_P D vwCl [(a, .inr (4, [.ref q1, .ref q2, .null])), (q1, .inl (cI, 100, .inl (fun _ => nI 0))), (q2, .inl (cI, 100, .inl (fun _ => nI 0)))] H := hP
  have hD : va_D A [(a, .inr (4, [.ref q1, .ref q2, .null])), (q1, .inl (cI, 100, .inl (fun _ => nI 0))), (q2, .inl (cI, 100, .inl (fun _ => nI 0)))] := hD
  refine lv_aload_n hx hb dX4_init_20 rfl (lv_at hl 0 rfl) ?_
  refine lv_bipush (v := nI 100) hx hb dX4_init_21 (by decide) ?_
  refine rArr (ty := .int) (N := 100) B rfl (fun c9 U h => h) m_1_7 (t0 := 0) (cA := cI) rfl hP hD hS hA (a0 := (100, .inl (fun _ => nI 0))) (fun cA => by rw [vp_cell_i]; rfl) (by decide) (by decide) (Nat.le_of_ble_eq_true rfl) (Nat.le_of_ble_eq_true rfl) dX4_init_23 (fun q3 H hP hD hS => ?_)
  have hP : va_P D vwCl [(a, .inr (4, [.ref q1, .ref q2, .null])), (q1, .inl (cI, 100, .inl (fun _ => nI 0))), (q2, .inl (cI, 100, .inl (fun _ => nI 0))), (q3, .inl (cI, 100, .inl (fun _ => nI 0)))] H := hP
  have hD : va_D A [(a, .inr (4, [.ref q1, .ref q2, .null])), (q1, .inl (cI, 100, .inl (fun _ => nI 0))), (q2, .inl (cI, 100, .inl (fun _ => nI 0))), (q3, .inl (cI, 100, .inl (fun _ => nI 0)))] := hD
  refine va_putF (ty := .array .int) B.1 B.2.1 B.2.2.2.2.2.1 inlX4 tyX4 tyX4_ok nmX4 B.2.2.2.2.1 B.2.2.2.2.2.2.2.2.1 hP hD hS 0 rfl rfl 2 (by decide) (B.2.2.2.2.2.1 _ m_2_18) (fun _ h => h) rfl hin rfl (by decide +kernel) rfl rfl (Nat.le_of_ble_eq_true rfl) dX4_init_25 (fun H locs hP hD hS => ?_)
  have hP : va_P D vwCl [(a, .inr (4, [.ref q1, .ref q2, .ref q3])), (q1, .inl (cI, 100, .inl (fun _ => nI 0))), (q2, .inl (cI, 100, .inl (fun _ => nI 0))), (q3, .inl (cI, 100, .inl (fun _ => nI 0)))] H := hP
  have hD : va_D A [(a, .inr (4, [.ref q1, .ref q2, .ref q3])), (q1, .inl (cI, 100, .inl (fun _ => nI 0))), (q2, .inl (cI, 100, .inl (fun _ => nI 0))), (q3, .inl (cI, 100, .inl (fun _ => nI 0)))] := hD
  have hP : va_P D vwCl (w4 cI (adL [a, q1, q2, q3]) (fun _ => nI 0) (fun _ => nI 0) (fun _ => nI 0)) H := hP
  have hD : va_D A (w4 cI (adL [a, q1, q2, q3]) (fun _ => nI 0) (fun _ => nI 0) (fun _ => nI 0)) := hD
  refine lv_aload_n hx hb dX4_init_28 rfl (lv_at hl 0 rfl) ?_
  refine kV_v (ci := 4) (as := []) (rest := []) B hl.1 (c_X4_findLeast_w l D cI cZ (adL [a, q1, q2, q3]) (fun _ => nI 0) (fun _ => nI 0) (fun _ => nI 0)) rfl (x_cb ⟨rfl, rfl⟩ 0 hts m_2_22 m_1_17 m_2_19 (by decide +kernel) ⟨Nat.le_of_ble_eq_true rfl, Nat.le_of_ble_eq_true rfl⟩) m_2_20 m_2_21 rfl rfl hP hD hS hA (List.range 4) 0 rfl rfl wf4 (by decide) (Nat.le_of_ble_eq_true rfl) ⟨Nat.le_of_ble_eq_true rfl, Nat.le_of_ble_eq_true rfl⟩ dX4_init_29 (fun H locs hP hD hS => ?_)
  have hP : va_P D vwCl (w4 cI (adL [a, q1, q2, q3]) (fun _ => nI 0) (f_X4_findLeast (fun _ => nI 0) (fun _ => nI 0)) (fun _ => nI 0)) H := hP
  have hD : va_D A (w4 cI (adL [a, q1, q2, q3]) (fun _ => nI 0) (f_X4_findLeast (fun _ => nI 0) (fun _ => nI 0)) (fun _ => nI 0)) := hD
  refine lv_aload_n hx hb dX4_init_32 rfl (lv_at hl 0 rfl) ?_
  refine kV_v (ci := 4) (as := []) (rest := []) B hl.1 (c_X4_findHops_w l D cI cZ (adL [a, q1, q2, q3]) (fun _ => nI 0) (f_X4_findLeast (fun _ => nI 0) (fun _ => nI 0)) (fun _ => nI 0)) rfl (x_cb ⟨rfl, rfl⟩ 0 hts m_3_7 m_1_17 m_3_4 (by decide +kernel) ⟨Nat.le_of_ble_eq_true rfl, Nat.le_of_ble_eq_true rfl⟩) m_3_5 m_3_6 rfl rfl hP hD hS hA (List.range 4) 0 rfl rfl wf4 (by decide) (Nat.le_of_ble_eq_true rfl) ⟨Nat.le_of_ble_eq_true rfl, Nat.le_of_ble_eq_true rfl⟩ dX4_init_33 (fun H locs hP hD hS => ?_)
  have hP : va_P D vwCl (w4 cI (adL [a, q1, q2, q3]) (fun _ => nI 0) (f_X4_findLeast (fun _ => nI 0) (fun _ => nI 0)) (f_X4_findHops (fun _ => nI 0) (f_X4_findLeast (fun _ => nI 0) (fun _ => nI 0)) (fun _ => nI 0))) H := hP
  have hD : va_D A (w4 cI (adL [a, q1, q2, q3]) (fun _ => nI 0) (f_X4_findLeast (fun _ => nI 0) (fun _ => nI 0)) (f_X4_findHops (fun _ => nI 0) (f_X4_findLeast (fun _ => nI 0) (fun _ => nI 0)) (fun _ => nI 0))) := hD
  exact W.vret hx hb B.2.2.1 (fun t ht hW => ⟨⟨_, rfl, ⟨(adL [a, q1, q2, q3]), rfl, rfl⟩, by rw [ht]; exact hP, hD⟩, hS.F ht⟩) hS.2.2 dX4_init_36 B.2.2.2.2.2.2.1
