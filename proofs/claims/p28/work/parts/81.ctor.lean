/-! the forest is made -/
def RootsAt (fr : Nat → Int32) (i j : Nat) : Prop := ∀ e, e < 44 → fr e = if 4 ≤ e ∧ ((e - 4) / 10 < i ∨ ((e - 4) / 10 = i ∧ (e - 4) % 10 < j)) then nI ((e - 4) % 10) else -1
theorem roots_0 : RootsAt (fun _ => (-1)) 0 0 := fun e he => by rw [if_neg (by omega)]
theorem roots_next {fr : Nat → Int32} {i : Nat} (h : RootsAt fr i 10) : RootsAt fr (i + 1) 0 := fun e he => by
  rw [h e he]
  by_cases c : 4 ≤ e ∧ ((e - 4) / 10 < i ∨ ((e - 4) / 10 = i ∧ (e - 4) % 10 < 10))
  · rw [if_pos c, if_pos (by omega)]
  · rw [if_neg c, if_neg (by omega)]
theorem roots_put {fr : Nat → Int32} {i j : Nat} (h : RootsAt fr i j) (hi : i < 4) (hj : j < 10) : RootsAt (upd fr ((4 + (i * 10)) + j) (nI j)) i (j + 1) := fun e he => by
  by_cases q : e = (4 + (i * 10)) + j
  · rw [q, pk_us, if_pos (by omega), show (4 + i * 10 + j - 4) % 10 = j by omega]
  · rw [pk_un q, h e he]
    by_cases c : 4 ≤ e ∧ ((e - 4) / 10 < i ∨ ((e - 4) / 10 = i ∧ (e - 4) % 10 < j))
    · rw [if_pos c, if_pos (by omega)]
    · rw [if_neg c, if_neg (by omega)]
set_option maxHeartbeats 4000000 in
set_option maxRecDepth 100000 in
theorem c_X2_init (l : Launch) (D : va_G) (cI cZ : ClassId) (a : Nat) : MC l yX2_init cX2_init 3 { frames := 6, cells := 4, slots := 968, locals := 200 } D (TY cI cZ) [.ref a] [(a, .inr (2, [.null, .null, .null, .null]))] (fun w1 => ∃ (ad : Nat → Nat) (fr : Nat → Int32), ad 0 = a ∧ RootsAt fr 4 0 ∧ w1 = w2 cI ad fr (fun _ => nI 0) (fun _ => (-1)) (fun _ => (-1))) 4 968 := by
  refine MC.mk (by decide +kernel) (Nat.le_of_ble_eq_true rfl) ?_
  intro p e s m below meth c A ls B hin hA hP hD hS hl
  have hin : meth.name = "<init>" := hin
  have hx := B.1
  have hb := B.2.1
  have hts := B.2.2.2.2.2.1
  have hN := B.2.2.2.2.2.2.2.1
  have hK := B.2.2.2.2.2.2.2.2.1
  have hl : lv_has ls 3 [(0, .ref a)] := hl
  refine lv_aload_n hx hb dX2_init_0 rfl (lv_at hl 0 rfl) ?_
  refine rObj B hl.1 m_4_2 (Nat.le_of_ble_eq_true rfl) (Nat.le_of_ble_eq_true rfl) dX2_init_1 ?_
  refine lv_aload_n hx hb dX2_init_4 rfl (lv_at hl 0 rfl) ?_
  refine lv_bipush (v := nI 44) hx hb dX2_init_5 (by decide) ?_
  refine rArr (ty := .int) (N := 44) B rfl (fun c9 U h => h) m_1_7 (t0 := 0) (cA := cI) rfl hP hD hS hA (a0 := (44, .inl (fun _ => nI 0))) (fun cA => by rw [vp_cell_i]; rfl) (by decide) (by decide) (Nat.le_of_ble_eq_true rfl) (Nat.le_of_ble_eq_true rfl) dX2_init_7 (fun q1 H hP hD hS => ?_)
  have hP : va_P D vwCl [(a, .inr (2, [.null, .null, .null, .null])), (q1, .inl (cI, 44, .inl (fun _ => nI 0)))] H := hP
  have hD : va_D A [(a, .inr (2, [.null, .null, .null, .null])), (q1, .inl (cI, 44, .inl (fun _ => nI 0)))] := hD
  refine va_putF (ty := .array .int) B.1 B.2.1 B.2.2.2.2.2.1 inlX2 tyX2 tyX2_ok nmX2 B.2.2.2.2.1 B.2.2.2.2.2.2.2.2.1 hP hD hS 0 rfl rfl 0 (by decide) (B.2.2.2.2.2.1 _ m_4_3) (fun _ h => h) rfl hin rfl (by decide +kernel) rfl rfl (Nat.le_of_ble_eq_true rfl) dX2_init_9 (fun H locs hP hD hS => ?_)
  have hP : va_P D vwCl [(a, .inr (2, [.ref q1, .null, .null, .null])), (q1, .inl (cI, 44, .inl (fun _ => nI 0)))] H := hP
  have hD : va_D A [(a, .inr (2, [.ref q1, .null, .null, .null])), (q1, .inl (cI, 44, .inl (fun _ => nI 0)))] := hD
  refine lv_aload_n hx hb dX2_init_12 rfl (lv_at hl 0 rfl) ?_
  refine lv_bipush (v := nI 44) hx hb dX2_init_13 (by decide) ?_
  refine rArr (ty := .int) (N := 44) B rfl (fun c9 U h => h) m_1_7 (t0 := 0) (cA := cI) rfl hP hD hS hA (a0 := (44, .inl (fun _ => nI 0))) (fun cA => by rw [vp_cell_i]; rfl) (by decide) (by decide) (Nat.le_of_ble_eq_true rfl) (Nat.le_of_ble_eq_true rfl) dX2_init_15 (fun q2 H hP hD hS => ?_)
  have hP : va_P D vwCl [(a, .inr (2, [.ref q1, .null, .null, .null])), (q1, .inl (cI, 44, .inl (fun _ => nI 0))), (q2, .inl (cI, 44, .inl (fun _ => nI 0)))] H := hP
  have hD : va_D A [(a, .inr (2, [.ref q1, .null, .null, .null])), (q1, .inl (cI, 44, .inl (fun _ => nI 0))), (q2, .inl (cI, 44, .inl (fun _ => nI 0)))] := hD
  refine va_putF (ty := .array .int) B.1 B.2.1 B.2.2.2.2.2.1 inlX2 tyX2 tyX2_ok nmX2 B.2.2.2.2.1 B.2.2.2.2.2.2.2.2.1 hP hD hS 0 rfl rfl 1 (by decide) (B.2.2.2.2.2.1 _ m_4_4) (fun _ h => h) rfl hin rfl (by decide +kernel) rfl rfl (Nat.le_of_ble_eq_true rfl) dX2_init_17 (fun H locs hP hD hS => ?_)
  have hP : va_P D vwCl [(a, .inr (2, [.ref q1, .ref q2, .null, .null])), (q1, .inl (cI, 44, .inl (fun _ => nI 0))), (q2, .inl (cI, 44, .inl (fun _ => nI 0)))] H := hP
  have hD : va_D A [(a, .inr (2, [.ref q1, .ref q2, .null, .null])), (q1, .inl (cI, 44, .inl (fun _ => nI 0))), (q2, .inl (cI, 44, .inl (fun _ => nI 0)))] := hD
  refine lv_aload_n hx hb dX2_init_20 rfl (lv_at hl 0 rfl) ?_
  refine lv_sipush (v := nI 440) hx hb dX2_init_21 (by decide) ?_
  refine rArr (ty := .int) (N := 440) B rfl (fun c9 U h => h) m_1_7 (t0 := 0) (cA := cI) rfl hP hD hS hA (a0 := (440, .inl (fun _ => nI 0))) (fun cA => by rw [vp_cell_i]; rfl) (by decide) (by decide) (Nat.le_of_ble_eq_true rfl) (Nat.le_of_ble_eq_true rfl) dX2_init_24 (fun q3 H hP hD hS => ?_)
  have hP : va_P D vwCl [(a, .inr (2, [.ref q1, .ref q2, .null, .null])), (q1, .inl (cI, 44, .inl (fun _ => nI 0))), (q2, .inl (cI, 44, .inl (fun _ => nI 0))), (q3, .inl (cI, 440, .inl (fun _ => nI 0)))] H := hP
  have hD : va_D A [(a, .inr (2, [.ref q1, .ref q2, .null, .null])), (q1, .inl (cI, 44, .inl (fun _ => nI 0))), (q2, .inl (cI, 44, .inl (fun _ => nI 0))), (q3, .inl (cI, 440, .inl (fun _ => nI 0)))] := hD
  refine va_putF (ty := .array .int) B.1 B.2.1 B.2.2.2.2.2.1 inlX2 tyX2 tyX2_ok nmX2 B.2.2.2.2.1 B.2.2.2.2.2.2.2.2.1 hP hD hS 0 rfl rfl 2 (by decide) (B.2.2.2.2.2.1 _ m_4_5) (fun _ h => h) rfl hin rfl (by decide +kernel) rfl rfl (Nat.le_of_ble_eq_true rfl) dX2_init_26 (fun H locs hP hD hS => ?_)
  have hP : va_P D vwCl [(a, .inr (2, [.ref q1, .ref q2, .ref q3, .null])), (q1, .inl (cI, 44, .inl (fun _ => nI 0))), (q2, .inl (cI, 44, .inl (fun _ => nI 0))), (q3, .inl (cI, 440, .inl (fun _ => nI 0)))] H := hP
  have hD : va_D A [(a, .inr (2, [.ref q1, .ref q2, .ref q3, .null])), (q1, .inl (cI, 44, .inl (fun _ => nI 0))), (q2, .inl (cI, 44, .inl (fun _ => nI 0))), (q3, .inl (cI, 440, .inl (fun _ => nI 0)))] := hD
  refine lv_aload_n hx hb dX2_init_29 rfl (lv_at hl 0 rfl) ?_
  refine lv_sipush (v := nI 440) hx hb dX2_init_30 (by decide) ?_
  refine rArr (ty := .int) (N := 440) B rfl (fun c9 U h => h) m_1_7 (t0 := 0) (cA := cI) rfl hP hD hS hA (a0 := (440, .inl (fun _ => nI 0))) (fun cA => by rw [vp_cell_i]; rfl) (by decide) (by decide) (Nat.le_of_ble_eq_true rfl) (Nat.le_of_ble_eq_true rfl) dX2_init_33 (fun q4 H hP hD hS => ?_)
  have hP : va_P D vwCl [(a, .inr (2, [.ref q1, .ref q2, .ref q3, .null])), (q1, .inl (cI, 44, .inl (fun _ => nI 0))), (q2, .inl (cI, 44, .inl (fun _ => nI 0))), (q3, .inl (cI, 440, .inl (fun _ => nI 0))), (q4, .inl (cI, 440, .inl (fun _ => nI 0)))] H := hP
  have hD : va_D A [(a, .inr (2, [.ref q1, .ref q2, .ref q3, .null])), (q1, .inl (cI, 44, .inl (fun _ => nI 0))), (q2, .inl (cI, 44, .inl (fun _ => nI 0))), (q3, .inl (cI, 440, .inl (fun _ => nI 0))), (q4, .inl (cI, 440, .inl (fun _ => nI 0)))] := hD
  refine va_putF (ty := .array .int) B.1 B.2.1 B.2.2.2.2.2.1 inlX2 tyX2 tyX2_ok nmX2 B.2.2.2.2.1 B.2.2.2.2.2.2.2.2.1 hP hD hS 0 rfl rfl 3 (by decide) (B.2.2.2.2.2.1 _ m_4_6) (fun _ h => h) rfl hin rfl (by decide +kernel) rfl rfl (Nat.le_of_ble_eq_true rfl) dX2_init_35 (fun H locs hP hD hS => ?_)
  have hP : va_P D vwCl [(a, .inr (2, [.ref q1, .ref q2, .ref q3, .ref q4])), (q1, .inl (cI, 44, .inl (fun _ => nI 0))), (q2, .inl (cI, 44, .inl (fun _ => nI 0))), (q3, .inl (cI, 440, .inl (fun _ => nI 0))), (q4, .inl (cI, 440, .inl (fun _ => nI 0)))] H := hP
  have hD : va_D A [(a, .inr (2, [.ref q1, .ref q2, .ref q3, .ref q4])), (q1, .inl (cI, 44, .inl (fun _ => nI 0))), (q2, .inl (cI, 44, .inl (fun _ => nI 0))), (q3, .inl (cI, 440, .inl (fun _ => nI 0))), (q4, .inl (cI, 440, .inl (fun _ => nI 0)))] := hD
  have hP : va_P D vwCl (w2 cI (adL [a, q1, q2, q3, q4]) (fun _ => nI 0) (fun _ => nI 0) (fun _ => nI 0) (fun _ => nI 0)) H := hP
  have hD : va_D A (w2 cI (adL [a, q1, q2, q3, q4]) (fun _ => nI 0) (fun _ => nI 0) (fun _ => nI 0) (fun _ => nI 0)) := hD
  refine lv_aload_n hx hb dX2_init_38 rfl (lv_at hl 0 rfl) ?_
  refine g_X2_9 B hP 0 rfl rfl dX2_init_39 ?_
  refine lv_iconst (v := -1) hx hb dX2_init_42 (by decide) ?_
  refine kS_v (as := [.ref ((adL [a, q1, q2, q3, q4]) 1), .int (-1)]) (rest := []) B hl.1 (c_fill l D cI cZ (w2 cI (adL [a, q1, q2, q3, q4]) (fun _ => nI 0) (fun _ => nI 0) (fun _ => nI 0) (fun _ => nI 0)) 1 44 (fun _ => nI 0) ((adL [a, q1, q2, q3, q4]) 1) (-1) rfl (by decide)) (l_RX2_24 hts ⟨rfl, rfl⟩ ⟨Nat.le_of_ble_eq_true rfl, Nat.le_of_ble_eq_true rfl⟩) m_4_8 rfl rfl hP hD hS hA (List.range 5) rfl (set_fst rfl) (by decide) (Nat.le_of_ble_eq_true rfl) ⟨Nat.le_of_ble_eq_true rfl, Nat.le_of_ble_eq_true rfl⟩ dX2_init_43 (fun H locs hP hD hS => ?_)
  have hP : va_P D vwCl (w2 cI (adL [a, q1, q2, q3, q4]) (fun _ => (-1)) (fun _ => nI 0) (fun _ => nI 0) (fun _ => nI 0)) H := hP
  have hD : va_D A (w2 cI (adL [a, q1, q2, q3, q4]) (fun _ => (-1)) (fun _ => nI 0) (fun _ => nI 0) (fun _ => nI 0)) := hD
  refine lv_aload_n hx hb dX2_init_46 rfl (lv_at hl 0 rfl) ?_
  refine g_X2_18 B hP 0 rfl rfl dX2_init_47 ?_
  refine lv_iconst (v := -1) hx hb dX2_init_50 (by decide) ?_
  refine kS_v (as := [.ref ((adL [a, q1, q2, q3, q4]) 3), .int (-1)]) (rest := []) B hl.1 (c_fill l D cI cZ (w2 cI (adL [a, q1, q2, q3, q4]) (fun _ => (-1)) (fun _ => nI 0) (fun _ => nI 0) (fun _ => nI 0)) 3 440 (fun _ => nI 0) ((adL [a, q1, q2, q3, q4]) 3) (-1) rfl (by decide)) (l_RX2_24 hts ⟨rfl, rfl⟩ ⟨Nat.le_of_ble_eq_true rfl, Nat.le_of_ble_eq_true rfl⟩) m_4_8 rfl rfl hP hD hS hA (List.range 5) rfl (set_fst rfl) (by decide) (Nat.le_of_ble_eq_true rfl) ⟨Nat.le_of_ble_eq_true rfl, Nat.le_of_ble_eq_true rfl⟩ dX2_init_51 (fun H locs hP hD hS => ?_)
  have hP : va_P D vwCl (w2 cI (adL [a, q1, q2, q3, q4]) (fun _ => (-1)) (fun _ => nI 0) (fun _ => (-1)) (fun _ => nI 0)) H := hP
  have hD : va_D A (w2 cI (adL [a, q1, q2, q3, q4]) (fun _ => (-1)) (fun _ => nI 0) (fun _ => (-1)) (fun _ => nI 0)) := hD
  refine lv_aload_n hx hb dX2_init_54 rfl (lv_at hl 0 rfl) ?_
  refine g_X2_21 B hP 0 rfl rfl dX2_init_55 ?_
  refine lv_iconst (v := -1) hx hb dX2_init_58 (by decide) ?_
  refine kS_v (as := [.ref ((adL [a, q1, q2, q3, q4]) 4), .int (-1)]) (rest := []) B hl.1 (c_fill l D cI cZ (w2 cI (adL [a, q1, q2, q3, q4]) (fun _ => (-1)) (fun _ => nI 0) (fun _ => (-1)) (fun _ => nI 0)) 4 440 (fun _ => nI 0) ((adL [a, q1, q2, q3, q4]) 4) (-1) rfl (by decide)) (l_RX2_24 hts ⟨rfl, rfl⟩ ⟨Nat.le_of_ble_eq_true rfl, Nat.le_of_ble_eq_true rfl⟩) m_4_8 rfl rfl hP hD hS hA (List.range 5) rfl (set_fst rfl) (by decide) (Nat.le_of_ble_eq_true rfl) ⟨Nat.le_of_ble_eq_true rfl, Nat.le_of_ble_eq_true rfl⟩ dX2_init_59 (fun H locs hP hD hS => ?_)
  have hP : va_P D vwCl (w2 cI (adL [a, q1, q2, q3, q4]) (fun _ => (-1)) (fun _ => nI 0) (fun _ => (-1)) (fun _ => (-1))) H := hP
  have hD : va_D A (w2 cI (adL [a, q1, q2, q3, q4]) (fun _ => (-1)) (fun _ => nI 0) (fun _ => (-1)) (fun _ => (-1))) := hD
  refine lv_iconst (v := nI 0) hx hb dX2_init_62 (by decide) ?_
  refine lv_istore_n (lv' := [(1, .int (nI 0)), (0, .ref a)]) hx hb dX2_init_63 rfl hl (by decide) rfl (fun ls hl => ?_)
  have L64 : ∀ (n i : Nat) (fr : Nat → Int32), i + n = 4 → RootsAt fr i 0 → ∀ (H : Heap) (locs : List Loc), va_P D vwCl (w2 cI (adL [a, q1, q2, q3, q4]) fr (fun _ => nI 0) (fun _ => (-1)) (fun _ => (-1))) H → va_D A (w2 cI (adL [a, q1, q2, q3, q4]) fr (fun _ => nI 0) (fun _ => (-1)) (fun _ => (-1))) → va_S A s.heap H locs → ∀ ls : Array Slot, lv_has ls 3 [(0, .ref a), (1, .int (nI i))] → W p l e { frames := 6, cells := 4, slots := 968, locals := 200 } s m [.ref a].toArray below meth c H locs 4 968 (MQ below (va_Qv (fun w1 => ∃ (ad : Nat → Nat) (fr : Nat → Int32), ad 0 = a ∧ RootsAt fr 4 0 ∧ w1 = w2 cI ad fr (fun _ => nI 0) (fun _ => (-1)) (fun _ => (-1))) (fun w1 t => va_P D vwCl w1 t.heap ∧ va_D A w1) A) [.ref a].toArray s 4 968 A) (F0 m 64 ls []) := by
    intro n
    induction n with
    | zero =>
      intro i fr hi hr H locs hP hD hS ls hl
      obtain rfl : i = 4 := by omega
      refine lv_iload_n hx hb dX2_init_64 rfl (lv_at hl 1 rfl) ?_
      refine lv_iconst (v := nI 4) hx hb dX2_init_65 (by decide) ?_
      refine r_icmp_ge (tgt := 99) hx hb (by omega) (by omega) dX2_init_66 (by decide) (fun _ => ?_) (fun c => absurd c (by omega))
      exact W.vret hx hb B.2.2.1 (fun t ht hW => ⟨⟨_, rfl, ⟨(adL [a, q1, q2, q3, q4]), fr, rfl, hr, rfl⟩, by rw [ht]; exact hP, hD⟩, hS.F ht⟩) hS.2.2 dX2_init_99 B.2.2.2.2.2.2.1
    | succ n ih =>
      intro i fr hi hr H locs hP hD hS ls hl
      refine lv_iload_n hx hb dX2_init_64 rfl (lv_at hl 1 rfl) ?_
      refine lv_iconst (v := nI 4) hx hb dX2_init_65 (by decide) ?_
      refine r_icmp_ge (tgt := 99) hx hb (by omega) (by omega) dX2_init_66 (by decide) (fun c => absurd c (by omega)) (fun _ => ?_)
      refine lv_iconst (v := nI 0) hx hb dX2_init_69 (by decide) ?_
      refine lv_istore_n (lv' := [(2, .int (nI 0)), (0, .ref a), (1, .int (nI i))]) hx hb dX2_init_70 rfl hl (by decide) rfl (fun ls hl => ?_)
      have L71 : ∀ (n2 j : Nat) (fr : Nat → Int32), j + n2 = 10 → RootsAt fr i j → ∀ (H : Heap) (locs : List Loc), va_P D vwCl (w2 cI (adL [a, q1, q2, q3, q4]) fr (fun _ => nI 0) (fun _ => (-1)) (fun _ => (-1))) H → va_D A (w2 cI (adL [a, q1, q2, q3, q4]) fr (fun _ => nI 0) (fun _ => (-1)) (fun _ => (-1))) → va_S A s.heap H locs → ∀ ls : Array Slot, lv_has ls 3 [(0, .ref a), (1, .int (nI i)), (2, .int (nI j))] → W p l e { frames := 6, cells := 4, slots := 968, locals := 200 } s m [.ref a].toArray below meth c H locs 4 968 (MQ below (va_Qv (fun w1 => ∃ (ad : Nat → Nat) (fr : Nat → Int32), ad 0 = a ∧ RootsAt fr 4 0 ∧ w1 = w2 cI ad fr (fun _ => nI 0) (fun _ => (-1)) (fun _ => (-1))) (fun w1 t => va_P D vwCl w1 t.heap ∧ va_D A w1) A) [.ref a].toArray s 4 968 A) (F0 m 71 ls []) := by
        intro n2
        induction n2 with
        | zero =>
          intro j fr hj hr H locs hP hD hS ls hl
          obtain rfl : j = 10 := by omega
          refine lv_iload_n hx hb dX2_init_71 rfl (lv_at hl 2 rfl) ?_
          refine lv_bipush (v := nI 10) hx hb dX2_init_72 (by decide) ?_
          refine r_icmp_ge (tgt := 93) hx hb (by omega) (by omega) dX2_init_74 (by decide) (fun _ => ?_) (fun c => absurd c (by omega))
          refine lv_iinc (v := nI (i + 1)) (lv' := [(1, .int (nI (i + 1))), (0, .ref a), (2, .int (nI 10))]) hx hb dX2_init_93 hl (k := 1) rfl (nI_add _ _) (by decide) rfl (fun ls hl => ?_)
          refine lv_goto (tgt := 64) hx hb dX2_init_96 (by decide) ?_
          exact ih (i + 1) fr (by omega) (roots_next hr) _ _ hP hD hS _ (lv_sub hl [1, 0] rfl)
        | succ n2 ih2 =>
          intro j fr hj hr H locs hP hD hS ls hl
          refine lv_iload_n hx hb dX2_init_71 rfl (lv_at hl 2 rfl) ?_
          refine lv_bipush (v := nI 10) hx hb dX2_init_72 (by decide) ?_
          refine r_icmp_ge (tgt := 93) hx hb (by omega) (by omega) dX2_init_74 (by decide) (fun c => absurd c (by omega)) (fun _ => ?_)
          refine lv_aload_n hx hb dX2_init_77 rfl (lv_at hl 0 rfl) ?_
          refine lv_iload_n hx hb dX2_init_78 rfl (lv_at hl 2 rfl) ?_
          refine lv_iload_n hx hb dX2_init_79 rfl (lv_at hl 1 rfl) ?_
          refine kN_i (as := [.int (nI j), .int (nI i)]) (rest := [.ref a]) (ws := []) (ws' := []) B hl.1 (c_X5_sourceTree l D cI cZ [] j i (by omega) (by omega)) (l_RX2_30 hts hN ⟨rfl, rfl⟩ ⟨Nat.le_of_ble_eq_true rfl, Nat.le_of_ble_eq_true rfl⟩) m_4_11 rfl rfl hP hD hS hA [] rfl rfl rfl (Nat.le_of_ble_eq_true rfl) ⟨Nat.le_of_ble_eq_true rfl, Nat.le_of_ble_eq_true rfl⟩ dX2_init_80 (fun H locs hP hD hS => ?_)
          have hP : va_P D vwCl (w2 cI (adL [a, q1, q2, q3, q4]) fr (fun _ => nI 0) (fun _ => (-1)) (fun _ => (-1))) H := hP
          have hD : va_D A (w2 cI (adL [a, q1, q2, q3, q4]) fr (fun _ => nI 0) (fun _ => (-1)) (fun _ => (-1))) := hD
          refine lv_iload_n hx hb dX2_init_83 rfl (lv_at hl 2 rfl) ?_
          refine kV_v (ci := 2) (as := [.int (nI ((4 + (i * 10)) + j)), .int (nI j)]) (rest := []) B hl.1 (c_X2_setRoot_w l D cI cZ (adL [a, q1, q2, q3, q4]) fr (fun _ => nI 0) (fun _ => (-1)) (fun _ => (-1)) ((4 + (i * 10)) + j) (nI j) (by omega)) rfl (l_RX2_34 hts ⟨rfl, rfl⟩ ⟨Nat.le_of_ble_eq_true rfl, Nat.le_of_ble_eq_true rfl⟩) m_4_20 m_4_21 rfl rfl hP hD hS hA (List.range 5) 0 rfl rfl wf2 (by decide) (Nat.le_of_ble_eq_true rfl) ⟨Nat.le_of_ble_eq_true rfl, Nat.le_of_ble_eq_true rfl⟩ dX2_init_84 (fun H locs hP hD hS => ?_)
          have hP : va_P D vwCl (w2 cI (adL [a, q1, q2, q3, q4]) (upd fr ((4 + (i * 10)) + j) (nI j)) (fun _ => nI 0) (fun _ => (-1)) (fun _ => (-1))) H := hP
          have hD : va_D A (w2 cI (adL [a, q1, q2, q3, q4]) (upd fr ((4 + (i * 10)) + j) (nI j)) (fun _ => nI 0) (fun _ => (-1)) (fun _ => (-1))) := hD
          refine lv_iinc (v := nI (j + 1)) (lv' := [(2, .int (nI (j + 1))), (0, .ref a), (1, .int (nI i))]) hx hb dX2_init_87 hl (k := 2) rfl (nI_add _ _) (by decide) rfl (fun ls hl => ?_)
          refine lv_goto (tgt := 71) hx hb dX2_init_90 (by decide) ?_
          exact ih2 (j + 1) _ (by omega) (roots_put hr (by omega) (by omega)) _ _ hP hD hS _ (lv_sub hl [1, 2, 0] rfl)
      exact L71 10 0 fr (by omega) hr _ _ hP hD hS _ (lv_sub hl [1, 2, 0] rfl)
  exact L64 4 0 (fun _ => (-1)) (by omega) roots_0 _ _ hP hD hS _ (lv_sub hl [1, 0] rfl)
