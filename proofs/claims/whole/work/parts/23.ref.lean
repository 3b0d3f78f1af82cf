def f_X6_goesOn_L11 (pk : Nat) (r : Nat) (t : Nat) (ab : Nat → Int32) : Nat → Nat → (Nat → Int32) → Nat → Int32 → (Nat → Int32) × Nat × Int32
  | 0, _, cp_11, rqd_11, rwas_11 => (cp_11, rqd_11, rwas_11)
  | n11 + 1, k11, cp_11, rqd_11, rwas_11 => if (((f_X6_below t r ab) >>> ((nI k11) &&& 31)) &&& (nI 1)) = (nI 1) then (if rqd_11 = 200 then f_X6_goesOn_L11 pk r t ab n11 (k11 + 1) cp_11 rqd_11 (rwas_11 + (nI 1)) else f_X6_goesOn_L11 pk r t ab n11 (k11 + 1) (upd (upd (upd (upd cp_11 (4 * rqd_11) (nI pk)) ((4 * rqd_11) + 1) (nI t)) ((4 * rqd_11) + 2) (nI r)) ((4 * rqd_11) + 3) (nI k11)) (rqd_11 + 1) rwas_11) else f_X6_goesOn_L11 pk r t ab n11 (k11 + 1) cp_11 rqd_11 rwas_11
def f_X6_goesOn (pk : Nat) (r : Nat) (t : Nat) (ab : Nat → Int32) (cp : Nat → Int32) (rqd : Nat) (rwas : Int32) : (Nat → Int32) × Nat × Int32 :=
  f_X6_goesOn_L11 pk r t ab 10 0 cp rqd rwas
theorem fb_goesOnL (pk r t : Nat) (ab : Nat → Int32) : ∀ (n k : Nat) (cp : Nat → Int32) (rqd : Nat) (rwas : Int32), rqd ≤ 200 → (f_X6_goesOn_L11 pk r t ab n k cp rqd rwas).2.1 ≤ 200 := by
  intro n
  induction n with
  | zero => intro k cp rqd rwas h; rw [f_X6_goesOn_L11]; exact h
  | succ n ih =>
    intro k cp rqd rwas h
    rw [f_X6_goesOn_L11]
    repeat' split
    all_goals (apply ih; omega)
set_option maxHeartbeats 4000000 in
set_option maxRecDepth 100000 in
theorem c_X6_goesOn (l : Launch) (D : va_G) (cI cZ : ClassId) (ad : Nat → Nat) (co fa ic me sw cn ab go cp so gr re db : Nat → Int32) (rclk : Int32) (rlim : Int32) (rqd : Nat) (rpk : Nat) (rwas : Int32) (rthr : Int32) (pk : Nat) (r : Nat) (t : Nat) (hpk : pk < 200) (hr : r < 10) (ht : t < 44) (hrqd : rqd ≤ 200) : MV l yX6_goesOn cX6_goesOn 6 { frames := 1, cells := 0, slots := 0, locals := 24 } D (TY cI cZ) [.ref (ad 0), .int (nI pk), .int (nI r), .int (nI t)] (wR cI cZ ad co fa ic me sw cn ab go cp so gr re db rclk rlim (nI rqd) (nI rpk) rwas rthr) (wR cI cZ ad co fa ic me sw cn ab go ((f_X6_goesOn pk r t ab cp rqd rwas).1) so gr re db rclk rlim (nI ((f_X6_goesOn pk r t ab cp rqd rwas).2.1)) (nI rpk) ((f_X6_goesOn pk r t ab cp rqd rwas).2.2) rthr) := by
  refine MV.mk ⟨rfl, rfl⟩ (by decide +kernel) (Nat.le_of_ble_eq_true rfl) ?_
  intro p e s m below meth c A ls B hA hP hD hS hl
  have hx := B.1
  have hb := B.2.1
  have hts := B.2.2.2.2.2.1
  have hN := B.2.2.2.2.2.2.2.1
  have hK := B.2.2.2.2.2.2.2.2.1
  have hl : lv_has ls 6 [(0, .ref (ad 0)), (1, .int (nI pk)), (2, .int (nI r)), (3, .int (nI t))] := hl
  have hf := f_X6_goesOn.eq_1 pk r t ab cp rqd rwas
  refine lv_aload_n hx hb dX6_goesOn_0 rfl (lv_at hl 0 rfl) ?_
  refine lv_iload_n hx hb dX6_goesOn_1 rfl (lv_at hl 3 rfl) ?_
  refine lv_iload_n hx hb dX6_goesOn_2 rfl (lv_at hl 2 rfl) ?_
  refine fV_i (ci := 6) (as := [.int (nI t), .int (nI r)]) (rest := []) B hl.1 (c_X6_below l D cI cZ ad co fa ic me sw cn ab go cp so gr re db rclk rlim rqd rpk rwas rthr t r (by omega) (by omega)) rfl (l_RX6_76 hts ⟨rfl, rfl⟩ ⟨Nat.le_of_ble_eq_true rfl, Nat.le_of_ble_eq_true rfl⟩) m_17_5 m_17_6 rfl rfl hP hD hS hA 0 rfl wfR (Nat.le_of_ble_eq_true rfl) dX6_goesOn_3 (fun H locs hP hD hS => ?_)
  refine lv_istore (lv' := [(4, .int (f_X6_below t r ab)), (0, .ref (ad 0)), (1, .int (nI pk)), (2, .int (nI r)), (3, .int (nI t))]) hx hb dX6_goesOn_6 hl (by decide) rfl (fun ls hl => ?_)
  refine lv_iconst (v := nI 0) hx hb dX6_goesOn_8 (by decide) ?_
  refine lv_istore (lv' := [(5, .int (nI 0)), (4, .int (f_X6_below t r ab)), (0, .ref (ad 0)), (1, .int (nI pk)), (2, .int (nI r)), (3, .int (nI t))]) hx hb dX6_goesOn_9 hl (by decide) rfl (fun ls hl => ?_)
  have L11 : ∀ (n11 : Nat) (k11 : Nat) (cp_11 : Nat → Int32) (rqd_11 : Nat) (rwas_11 : Int32), k11 + n11 = 10 → rqd_11 ≤ 200 → f_X6_goesOn pk r t ab cp rqd rwas = (f_X6_goesOn_L11 pk r t ab n11 k11 cp_11 rqd_11 rwas_11) → ∀ (H : Heap) (locs : List Loc), va_P D vwCl (wR cI cZ ad co fa ic me sw cn ab go cp_11 so gr re db rclk rlim (nI rqd_11) (nI rpk) rwas_11 rthr) H → va_D A (wR cI cZ ad co fa ic me sw cn ab go cp_11 so gr re db rclk rlim (nI rqd_11) (nI rpk) rwas_11 rthr) → va_S A s.heap H locs → ∀ ls : Array Slot, lv_has ls 6 [(0, .ref (ad 0)), (1, .int (nI pk)), (2, .int (nI r)), (3, .int (nI t)), (4, .int (f_X6_below t r ab)), (5, .int (nI k11))] → W p l e { frames := 1, cells := 0, slots := 0, locals := 24 } s m [.ref (ad 0), .int (nI pk), .int (nI r), .int (nI t)].toArray below meth c H locs 0 0 (QV below s A D [.ref (ad 0), .int (nI pk), .int (nI r), .int (nI t)] (wR cI cZ ad co fa ic me sw cn ab go ((f_X6_goesOn pk r t ab cp rqd rwas).1) so gr re db rclk rlim (nI ((f_X6_goesOn pk r t ab cp rqd rwas).2.1)) (nI rpk) ((f_X6_goesOn pk r t ab cp rqd rwas).2.2) rthr)) (F0 m 11 ls []) := by
    intro n11
    induction n11 with
    | zero =>
      intro k11 cp_11 rqd_11 rwas_11 hk11 hb11_0 hf H locs hP hD hS ls hl
      obtain rfl : 10 = k11 := by omega
      rw [f_X6_goesOn_L11] at hf
      have hl : lv_has ls 6 [(0, .ref (ad 0)), (1, .int (nI pk)), (2, .int (nI r)), (3, .int (nI t)), (4, .int (f_X6_below t r ab)), (5, .int (nI 10))] := hl
      refine lv_iload hx hb dX6_goesOn_11 (lv_at hl 5 rfl) ?_
      refine lv_bipush (v := nI 10) hx hb dX6_goesOn_13 (by decide) ?_
      refine r_icmp_ge (tgt := 134) hx hb (by omega) (by omega) dX6_goesOn_15 (by decide) (fun _ => ?_) (fun c => absurd c (by omega))
      exact eV B hP hS (by simp only [hf]) dX6_goesOn_134
    | succ n11 ih11 =>
      intro k11 cp_11 rqd_11 rwas_11 hk11 hb11_0 hf H locs hP hD hS ls hl
      rw [f_X6_goesOn_L11] at hf
      have hl : lv_has ls 6 [(0, .ref (ad 0)), (1, .int (nI pk)), (2, .int (nI r)), (3, .int (nI t)), (4, .int (f_X6_below t r ab)), (5, .int (nI k11))] := hl
      refine lv_iload hx hb dX6_goesOn_11 (lv_at hl 5 rfl) ?_
      refine lv_bipush (v := nI 10) hx hb dX6_goesOn_13 (by decide) ?_
      refine r_icmp_ge (tgt := 134) hx hb (by omega) (by omega) dX6_goesOn_15 (by decide) (fun c => absurd c (by omega)) (fun _ => ?_)
      refine lv_iload hx hb dX6_goesOn_18 (lv_at hl 4 rfl) ?_
      refine lv_iload hx hb dX6_goesOn_20 (lv_at hl 5 rfl) ?_
      refine lv_ishr hx hb dX6_goesOn_22 ?_
      refine lv_iconst (v := nI 1) hx hb dX6_goesOn_23 (by decide) ?_
      refine lv_iand hx hb dX6_goesOn_24 ?_
      refine lv_iconst (v := nI 1) hx hb dX6_goesOn_25 (by decide) ?_
      refine lv_icmp_ne (tgt := 52) hx hb dX6_goesOn_26 (by decide) (fun c6 => ?_) (fun c6 => ?_)
      · have hf := hf.trans (if_neg c6)
        refine lv_iload hx hb dX6_goesOn_52 (lv_at hl 4 rfl) ?_
        refine lv_iload hx hb dX6_goesOn_54 (lv_at hl 5 rfl) ?_
        refine lv_ishr hx hb dX6_goesOn_56 ?_
        refine lv_iconst (v := nI 1) hx hb dX6_goesOn_57 (by decide) ?_
        refine lv_iand hx hb dX6_goesOn_58 ?_
        refine lv_iconst (v := nI 1) hx hb dX6_goesOn_59 (by decide) ?_
        refine lv_icmp_ne (tgt := 128) hx hb dX6_goesOn_60 (by decide) (fun _ => ?_) (fun c => absurd c c6)
        refine lv_iinc (v := nI (k11 + 1)) (lv' := [(5, .int (nI (k11 + 1))), (0, .ref (ad 0)), (1, .int (nI pk)), (2, .int (nI r)), (3, .int (nI t)), (4, .int (f_X6_below t r ab))]) hx hb dX6_goesOn_128 hl (k := 5) rfl (nI_add _ _) (by decide) rfl (fun ls hl => ?_)
        refine lv_goto (tgt := 11) hx hb dX6_goesOn_131 (by decide) ?_
        exact ih11 (k11 + 1) cp_11 rqd_11 rwas_11 (by omega) (by omega) hf _ _ hP hD hS _ (lv_sub hl [1, 2, 3, 4, 5, 0] rfl)
      · have hf := hf.trans (if_pos c6)
        refine lv_aload_n hx hb dX6_goesOn_29 rfl (lv_at hl 0 rfl) ?_
        refine g_X6_108 B hP 0 rfl rfl dX6_goesOn_30 ?_
        refine lv_sipush (v := nI 200) hx hb dX6_goesOn_33 (by decide) ?_
        refine r_icmp_ne (tgt := 52) hx hb (by omega) (by omega) dX6_goesOn_36 (by decide) (fun c7 => ?_) (fun c7 => ?_)
        · have hf := hf.trans (if_neg c7)
          refine lv_iload hx hb dX6_goesOn_52 (lv_at hl 4 rfl) ?_
          refine lv_iload hx hb dX6_goesOn_54 (lv_at hl 5 rfl) ?_
          refine lv_ishr hx hb dX6_goesOn_56 ?_
          refine lv_iconst (v := nI 1) hx hb dX6_goesOn_57 (by decide) ?_
          refine lv_iand hx hb dX6_goesOn_58 ?_
          refine lv_iconst (v := nI 1) hx hb dX6_goesOn_59 (by decide) ?_
          refine lv_icmp_ne (tgt := 128) hx hb dX6_goesOn_60 (by decide) (fun c => absurd c6 c) (fun _ => ?_)
          refine lv_aload_n hx hb dX6_goesOn_63 rfl (lv_at hl 0 rfl) ?_
          refine g_X6_39 B hP 0 rfl rfl dX6_goesOn_64 ?_
          refine lv_iconst (v := nI 4) hx hb dX6_goesOn_67 (by decide) ?_
          refine lv_aload_n hx hb dX6_goesOn_68 rfl (lv_at hl 0 rfl) ?_
          refine g_X6_108 B hP 0 rfl rfl dX6_goesOn_69 ?_
          refine r_imul hx hb dX6_goesOn_72 ?_
          refine lv_iload_n hx hb dX6_goesOn_73 rfl (lv_at hl 1 rfl) ?_
          refine r_iast hx hb hK hP hD hS 9 0 rfl rfl (by omega) (by decide) dX6_goesOn_74 (fun H locs hP hD hS => ?_)
          have hP : va_P D vwCl (wR cI cZ ad co fa ic me sw cn ab go (upd cp_11 (4 * rqd_11) (nI pk)) so gr re db rclk rlim (nI rqd_11) (nI rpk) rwas_11 rthr) H := hP
          have hD : va_D A (wR cI cZ ad co fa ic me sw cn ab go (upd cp_11 (4 * rqd_11) (nI pk)) so gr re db rclk rlim (nI rqd_11) (nI rpk) rwas_11 rthr) := hD
          refine lv_aload_n hx hb dX6_goesOn_75 rfl (lv_at hl 0 rfl) ?_
          refine g_X6_39 B hP 0 rfl rfl dX6_goesOn_76 ?_
          refine lv_iconst (v := nI 4) hx hb dX6_goesOn_79 (by decide) ?_
          refine lv_aload_n hx hb dX6_goesOn_80 rfl (lv_at hl 0 rfl) ?_
          refine g_X6_108 B hP 0 rfl rfl dX6_goesOn_81 ?_
          refine r_imul hx hb dX6_goesOn_84 ?_
          refine lv_iconst (v := nI 1) hx hb dX6_goesOn_85 (by decide) ?_
          refine r_iadd hx hb dX6_goesOn_86 ?_
          refine lv_iload_n hx hb dX6_goesOn_87 rfl (lv_at hl 3 rfl) ?_
          refine r_iast hx hb hK hP hD hS 9 0 rfl rfl (by omega) (by decide) dX6_goesOn_88 (fun H locs hP hD hS => ?_)
          have hP : va_P D vwCl (wR cI cZ ad co fa ic me sw cn ab go (upd (upd cp_11 (4 * rqd_11) (nI pk)) ((4 * rqd_11) + 1) (nI t)) so gr re db rclk rlim (nI rqd_11) (nI rpk) rwas_11 rthr) H := hP
          have hD : va_D A (wR cI cZ ad co fa ic me sw cn ab go (upd (upd cp_11 (4 * rqd_11) (nI pk)) ((4 * rqd_11) + 1) (nI t)) so gr re db rclk rlim (nI rqd_11) (nI rpk) rwas_11 rthr) := hD
          refine lv_aload_n hx hb dX6_goesOn_89 rfl (lv_at hl 0 rfl) ?_
          refine g_X6_39 B hP 0 rfl rfl dX6_goesOn_90 ?_
          refine lv_iconst (v := nI 4) hx hb dX6_goesOn_93 (by decide) ?_
          refine lv_aload_n hx hb dX6_goesOn_94 rfl (lv_at hl 0 rfl) ?_
          refine g_X6_108 B hP 0 rfl rfl dX6_goesOn_95 ?_
          refine r_imul hx hb dX6_goesOn_98 ?_
          refine lv_iconst (v := nI 2) hx hb dX6_goesOn_99 (by decide) ?_
          refine r_iadd hx hb dX6_goesOn_100 ?_
          refine lv_iload_n hx hb dX6_goesOn_101 rfl (lv_at hl 2 rfl) ?_
          refine r_iast hx hb hK hP hD hS 9 0 rfl rfl (by omega) (by decide) dX6_goesOn_102 (fun H locs hP hD hS => ?_)
          have hP : va_P D vwCl (wR cI cZ ad co fa ic me sw cn ab go (upd (upd (upd cp_11 (4 * rqd_11) (nI pk)) ((4 * rqd_11) + 1) (nI t)) ((4 * rqd_11) + 2) (nI r)) so gr re db rclk rlim (nI rqd_11) (nI rpk) rwas_11 rthr) H := hP
          have hD : va_D A (wR cI cZ ad co fa ic me sw cn ab go (upd (upd (upd cp_11 (4 * rqd_11) (nI pk)) ((4 * rqd_11) + 1) (nI t)) ((4 * rqd_11) + 2) (nI r)) so gr re db rclk rlim (nI rqd_11) (nI rpk) rwas_11 rthr) := hD
          refine lv_aload_n hx hb dX6_goesOn_103 rfl (lv_at hl 0 rfl) ?_
          refine g_X6_39 B hP 0 rfl rfl dX6_goesOn_104 ?_
          refine lv_iconst (v := nI 4) hx hb dX6_goesOn_107 (by decide) ?_
          refine lv_aload_n hx hb dX6_goesOn_108 rfl (lv_at hl 0 rfl) ?_
          refine g_X6_108 B hP 0 rfl rfl dX6_goesOn_109 ?_
          refine r_imul hx hb dX6_goesOn_112 ?_
          refine lv_iconst (v := nI 3) hx hb dX6_goesOn_113 (by decide) ?_
          refine r_iadd hx hb dX6_goesOn_114 ?_
          refine lv_iload hx hb dX6_goesOn_115 (lv_at hl 5 rfl) ?_
          refine r_iast hx hb hK hP hD hS 9 0 rfl rfl (by omega) (by decide) dX6_goesOn_117 (fun H locs hP hD hS => ?_)
          have hP : va_P D vwCl (wR cI cZ ad co fa ic me sw cn ab go (upd (upd (upd (upd cp_11 (4 * rqd_11) (nI pk)) ((4 * rqd_11) + 1) (nI t)) ((4 * rqd_11) + 2) (nI r)) ((4 * rqd_11) + 3) (nI k11)) so gr re db rclk rlim (nI rqd_11) (nI rpk) rwas_11 rthr) H := hP
          have hD : va_D A (wR cI cZ ad co fa ic me sw cn ab go (upd (upd (upd (upd cp_11 (4 * rqd_11) (nI pk)) ((4 * rqd_11) + 1) (nI t)) ((4 * rqd_11) + 2) (nI r)) ((4 * rqd_11) + 3) (nI k11)) so gr re db rclk rlim (nI rqd_11) (nI rpk) rwas_11 rthr) := hD
          refine lv_aload_n hx hb dX6_goesOn_118 rfl (lv_at hl 0 rfl) ?_
          refine lv_dup hx hb dX6_goesOn_119 rfl ?_
          refine g_X6_108 B hP 0 rfl rfl dX6_goesOn_120 ?_
          refine lv_iconst (v := nI 1) hx hb dX6_goesOn_123 (by decide) ?_
          refine r_iadd hx hb dX6_goesOn_124 ?_
          refine p_X6_108 B hP hD hS 0 rfl (Nat.le_of_ble_eq_true rfl) dX6_goesOn_125 (fun H locs hP hD hS => ?_)
          have hP : va_P D vwCl (wR cI cZ ad co fa ic me sw cn ab go (upd (upd (upd (upd cp_11 (4 * rqd_11) (nI pk)) ((4 * rqd_11) + 1) (nI t)) ((4 * rqd_11) + 2) (nI r)) ((4 * rqd_11) + 3) (nI k11)) so gr re db rclk rlim (nI (rqd_11 + 1)) (nI rpk) rwas_11 rthr) H := hP
          have hD : va_D A (wR cI cZ ad co fa ic me sw cn ab go (upd (upd (upd (upd cp_11 (4 * rqd_11) (nI pk)) ((4 * rqd_11) + 1) (nI t)) ((4 * rqd_11) + 2) (nI r)) ((4 * rqd_11) + 3) (nI k11)) so gr re db rclk rlim (nI (rqd_11 + 1)) (nI rpk) rwas_11 rthr) := hD
          refine lv_iinc (v := nI (k11 + 1)) (lv' := [(5, .int (nI (k11 + 1))), (0, .ref (ad 0)), (1, .int (nI pk)), (2, .int (nI r)), (3, .int (nI t)), (4, .int (f_X6_below t r ab))]) hx hb dX6_goesOn_128 hl (k := 5) rfl (nI_add _ _) (by decide) rfl (fun ls hl => ?_)
          refine lv_goto (tgt := 11) hx hb dX6_goesOn_131 (by decide) ?_
          exact ih11 (k11 + 1) (upd (upd (upd (upd cp_11 (4 * rqd_11) (nI pk)) ((4 * rqd_11) + 1) (nI t)) ((4 * rqd_11) + 2) (nI r)) ((4 * rqd_11) + 3) (nI k11)) (rqd_11 + 1) rwas_11 (by omega) (by omega) hf _ _ hP hD hS _ (lv_sub hl [1, 2, 3, 4, 5, 0] rfl)
        · have hf := hf.trans (if_pos c7)
          refine lv_aload_n hx hb dX6_goesOn_39 rfl (lv_at hl 0 rfl) ?_
          refine lv_dup hx hb dX6_goesOn_40 rfl ?_
          refine g_X6_111 B hP 0 rfl rfl dX6_goesOn_41 ?_
          refine lv_iconst (v := nI 1) hx hb dX6_goesOn_44 (by decide) ?_
          refine lv_iadd hx hb dX6_goesOn_45 ?_
          refine p_X6_111 B hP hD hS 0 rfl (Nat.le_of_ble_eq_true rfl) dX6_goesOn_46 (fun H locs hP hD hS => ?_)
          have hP : va_P D vwCl (wR cI cZ ad co fa ic me sw cn ab go cp_11 so gr re db rclk rlim (nI rqd_11) (nI rpk) (rwas_11 + (nI 1)) rthr) H := hP
          have hD : va_D A (wR cI cZ ad co fa ic me sw cn ab go cp_11 so gr re db rclk rlim (nI rqd_11) (nI rpk) (rwas_11 + (nI 1)) rthr) := hD
          refine lv_goto (tgt := 128) hx hb dX6_goesOn_49 (by decide) ?_
          refine lv_iinc (v := nI (k11 + 1)) (lv' := [(5, .int (nI (k11 + 1))), (0, .ref (ad 0)), (1, .int (nI pk)), (2, .int (nI r)), (3, .int (nI t)), (4, .int (f_X6_below t r ab))]) hx hb dX6_goesOn_128 hl (k := 5) rfl (nI_add _ _) (by decide) rfl (fun ls hl => ?_)
          refine lv_goto (tgt := 11) hx hb dX6_goesOn_131 (by decide) ?_
          exact ih11 (k11 + 1) cp_11 rqd_11 (rwas_11 + (nI 1)) (by omega) (by omega) hf _ _ hP hD hS _ (lv_sub hl [1, 2, 3, 4, 5, 0] rfl)
  exact L11 10 0 cp rqd rwas (by omega) (by omega) hf _ _ hP hD hS _ (lv_sub hl [2, 3, 4, 5, 1, 0] rfl)
def f_X6_counts (r : Nat) (s_ : Nat) (g : Nat) (co : Nat → Int32) (fa : Nat → Int32) (ic : Nat → Int32) (sw : Nat → Int32) (cn : Nat → Int32) (ab : Nat → Int32) (go : Nat → Int32) (rlim : Int32) : (Nat → Int32) × (Nat → Int32) × (Nat → Int32) × (Nat → Int32) :=
  if ((upd cn (((40 * r) + (4 * s_)) + g) ((cn (((40 * r) + (4 * s_)) + g)) + (nI 1))) (((40 * r) + (4 * s_)) + g)) < rlim then (sw, upd cn (((40 * r) + (4 * s_)) + g) ((cn (((40 * r) + (4 * s_)) + g)) + (nI 1)), ab, go) else if r = s_ then (sw, upd cn (((40 * r) + (4 * s_)) + g) ((cn (((40 * r) + (4 * s_)) + g)) + (nI 1)), ab, go) else if (((sw ((10 * g) + s_)) >>> ((nI r) &&& 31)) &&& (nI 1)) = 0 then (upd sw ((10 * g) + s_) ((sw ((10 * g) + s_)) ||| ((nI 1) <<< ((nI r) &&& 31))), upd cn (((40 * r) + (4 * s_)) + g) ((cn (((40 * r) + (4 * s_)) + g)) + (nI 1)), (f_X6_graft ((11 * g) + s_) r co fa ic ab go).1, (f_X6_graft ((11 * g) + s_) r co fa ic ab go).2) else (sw, upd cn (((40 * r) + (4 * s_)) + g) ((cn (((40 * r) + (4 * s_)) + g)) + (nI 1)), ab, go)
set_option maxHeartbeats 4000000 in
set_option maxRecDepth 100000 in
theorem c_X6_counts (l : Launch) (D : va_G) (cI cZ : ClassId) (ad : Nat → Nat) (co fa ic me sw cn ab go cp so gr re db : Nat → Int32) (rclk : Int32) (rlim : Int32) (rqd : Nat) (rpk : Nat) (rwas : Int32) (rthr : Int32) (r : Nat) (s_ : Nat) (g : Nat) (hr : r < 10) (hs_ : s_ < 10) (hg : g < 4) (hHE : HEnd co fa ic) : MV l yX6_counts cX6_counts 5 { frames := 3, cells := 0, slots := 0, locals := 73 } D (TY cI cZ) [.ref (ad 0), .int (nI r), .int (nI s_), .int (nI g)] (wR cI cZ ad co fa ic me sw cn ab go cp so gr re db rclk rlim (nI rqd) (nI rpk) rwas rthr) (wR cI cZ ad co fa ic me ((f_X6_counts r s_ g co fa ic sw cn ab go rlim).1) ((f_X6_counts r s_ g co fa ic sw cn ab go rlim).2.1) ((f_X6_counts r s_ g co fa ic sw cn ab go rlim).2.2.1) ((f_X6_counts r s_ g co fa ic sw cn ab go rlim).2.2.2) cp so gr re db rclk rlim (nI rqd) (nI rpk) rwas rthr) := by
  refine MV.mk ⟨rfl, rfl⟩ (by decide +kernel) (Nat.le_of_ble_eq_true rfl) ?_
  intro p e s m below meth c A ls B hA hP hD hS hl
  have hx := B.1
  have hb := B.2.1
  have hts := B.2.2.2.2.2.1
  have hN := B.2.2.2.2.2.2.2.1
  have hK := B.2.2.2.2.2.2.2.2.1
  have hl : lv_has ls 5 [(0, .ref (ad 0)), (1, .int (nI r)), (2, .int (nI s_)), (3, .int (nI g))] := hl
  have hf := f_X6_counts.eq_1 r s_ g co fa ic sw cn ab go rlim
  refine lv_bipush (v := nI 40) hx hb dX6_counts_0 (by decide) ?_
  refine lv_iload_n hx hb dX6_counts_2 rfl (lv_at hl 1 rfl) ?_
  refine r_imul hx hb dX6_counts_3 ?_
  refine lv_iconst (v := nI 4) hx hb dX6_counts_4 (by decide) ?_
  refine lv_iload_n hx hb dX6_counts_5 rfl (lv_at hl 2 rfl) ?_
  refine r_imul hx hb dX6_counts_6 ?_
  refine r_iadd hx hb dX6_counts_7 ?_
  refine lv_iload_n hx hb dX6_counts_8 rfl (lv_at hl 3 rfl) ?_
  refine r_iadd hx hb dX6_counts_9 ?_
  refine lv_istore (lv' := [(4, .int (nI (((40 * r) + (4 * s_)) + g))), (0, .ref (ad 0)), (1, .int (nI r)), (2, .int (nI s_)), (3, .int (nI g))]) hx hb dX6_counts_10 hl (by decide) rfl (fun ls hl => ?_)
  refine lv_aload_n hx hb dX6_counts_12 rfl (lv_at hl 1 rfl) ?_
  refine g_X6_30 B hP 0 rfl rfl dX6_counts_13 ?_
  refine lv_iload hx hb dX6_counts_16 (lv_at hl 0 rfl) ?_
  refine lv_dup2_11 hx hb dX6_counts_18 rfl rfl ?_
  refine r_iald hx hb hK hP 6 0 rfl rfl (by omega) (by decide) dX6_counts_19 ?_
  refine lv_iconst (v := nI 1) hx hb dX6_counts_20 (by decide) ?_
  refine lv_iadd hx hb dX6_counts_21 ?_
  refine r_iast hx hb hK hP hD hS 6 0 rfl rfl (by omega) (by decide) dX6_counts_22 (fun H locs hP hD hS => ?_)
  have hP : va_P D vwCl (wR cI cZ ad co fa ic me sw (upd cn (((40 * r) + (4 * s_)) + g) ((cn (((40 * r) + (4 * s_)) + g)) + (nI 1))) ab go cp so gr re db rclk rlim (nI rqd) (nI rpk) rwas rthr) H := hP
  have hD : va_D A (wR cI cZ ad co fa ic me sw (upd cn (((40 * r) + (4 * s_)) + g) ((cn (((40 * r) + (4 * s_)) + g)) + (nI 1))) ab go cp so gr re db rclk rlim (nI rqd) (nI rpk) rwas rthr) := hD
  refine lv_aload_n hx hb dX6_counts_23 rfl (lv_at hl 1 rfl) ?_
  refine g_X6_30 B hP 0 rfl rfl dX6_counts_24 ?_
  refine lv_iload hx hb dX6_counts_27 (lv_at hl 0 rfl) ?_
  refine r_iald hx hb hK hP 6 0 rfl rfl (by omega) (by decide) dX6_counts_29 ?_
  refine lv_aload_n hx hb dX6_counts_30 rfl (lv_at hl 1 rfl) ?_
  refine g_X6_7 B hP 0 rfl rfl dX6_counts_31 ?_
  refine lv_icmp_lt (tgt := 88) hx hb dX6_counts_34 (by decide) (fun c1 => ?_) (fun c1 => ?_)
  · have hf := hf.trans (if_pos c1)
    exact eV B hP hS (by simp only [hf]) dX6_counts_88
  · have hf := hf.trans (if_neg c1)
    refine lv_iload_n hx hb dX6_counts_37 rfl (lv_at hl 2 rfl) ?_
    refine lv_iload_n hx hb dX6_counts_38 rfl (lv_at hl 3 rfl) ?_
    refine r_icmp_eq (tgt := 88) hx hb (by omega) (by omega) dX6_counts_39 (by decide) (fun c2 => ?_) (fun c2 => ?_)
    · have hf := hf.trans (if_pos c2)
      exact eV B hP hS (by simp only [hf]) dX6_counts_88
    · have hf := hf.trans (if_neg c2)
      refine lv_aload_n hx hb dX6_counts_42 rfl (lv_at hl 1 rfl) ?_
      refine g_X6_27 B hP 0 rfl rfl dX6_counts_43 ?_
      refine lv_bipush (v := nI 10) hx hb dX6_counts_46 (by decide) ?_
      refine lv_iload_n hx hb dX6_counts_48 rfl (lv_at hl 4 rfl) ?_
      refine r_imul hx hb dX6_counts_49 ?_
      refine lv_iload_n hx hb dX6_counts_50 rfl (lv_at hl 3 rfl) ?_
      refine r_iadd hx hb dX6_counts_51 ?_
      refine r_iald hx hb hK hP 5 0 rfl rfl (by omega) (by decide) dX6_counts_52 ?_
      refine lv_iload_n hx hb dX6_counts_53 rfl (lv_at hl 2 rfl) ?_
      refine lv_ishr hx hb dX6_counts_54 ?_
      refine lv_iconst (v := nI 1) hx hb dX6_counts_55 (by decide) ?_
      refine lv_iand hx hb dX6_counts_56 ?_
      refine lv_if_ne (tgt := 88) hx hb dX6_counts_57 (by decide) (fun c3 => ?_) (fun c3 => ?_)
      · have hf := hf.trans (if_neg c3)
        exact eV B hP hS (by simp only [hf]) dX6_counts_88
      · have hf := hf.trans (if_pos c3)
        refine lv_aload_n hx hb dX6_counts_60 rfl (lv_at hl 1 rfl) ?_
        refine g_X6_27 B hP 0 rfl rfl dX6_counts_61 ?_
        refine lv_bipush (v := nI 10) hx hb dX6_counts_64 (by decide) ?_
        refine lv_iload_n hx hb dX6_counts_66 rfl (lv_at hl 4 rfl) ?_
        refine r_imul hx hb dX6_counts_67 ?_
        refine lv_iload_n hx hb dX6_counts_68 rfl (lv_at hl 3 rfl) ?_
        refine r_iadd hx hb dX6_counts_69 ?_
        refine lv_dup2_11 hx hb dX6_counts_70 rfl rfl ?_
        refine r_iald hx hb hK hP 5 0 rfl rfl (by omega) (by decide) dX6_counts_71 ?_
        refine lv_iconst (v := nI 1) hx hb dX6_counts_72 (by decide) ?_
        refine lv_iload_n hx hb dX6_counts_73 rfl (lv_at hl 2 rfl) ?_
        refine lv_ishl hx hb dX6_counts_74 ?_
        refine lv_ior hx hb dX6_counts_75 ?_
        refine r_iast hx hb hK hP hD hS 5 0 rfl rfl (by omega) (by decide) dX6_counts_76 (fun H locs hP hD hS => ?_)
        have hP : va_P D vwCl (wR cI cZ ad co fa ic me (upd sw ((10 * g) + s_) ((sw ((10 * g) + s_)) ||| ((nI 1) <<< ((nI r) &&& 31)))) (upd cn (((40 * r) + (4 * s_)) + g) ((cn (((40 * r) + (4 * s_)) + g)) + (nI 1))) ab go cp so gr re db rclk rlim (nI rqd) (nI rpk) rwas rthr) H := hP
        have hD : va_D A (wR cI cZ ad co fa ic me (upd sw ((10 * g) + s_) ((sw ((10 * g) + s_)) ||| ((nI 1) <<< ((nI r) &&& 31)))) (upd cn (((40 * r) + (4 * s_)) + g) ((cn (((40 * r) + (4 * s_)) + g)) + (nI 1))) ab go cp so gr re db rclk rlim (nI rqd) (nI rpk) rwas rthr) := hD
        refine lv_aload_n hx hb dX6_counts_77 rfl (lv_at hl 1 rfl) ?_
        refine lv_bipush (v := nI 11) hx hb dX6_counts_78 (by decide) ?_
        refine lv_iload_n hx hb dX6_counts_80 rfl (lv_at hl 4 rfl) ?_
        refine r_imul hx hb dX6_counts_81 ?_
        refine lv_iload_n hx hb dX6_counts_82 rfl (lv_at hl 3 rfl) ?_
        refine r_iadd hx hb dX6_counts_83 ?_
        refine lv_iload_n hx hb dX6_counts_84 rfl (lv_at hl 2 rfl) ?_
        refine fV_v (ci := 6) (as := [.int (nI ((11 * g) + s_)), .int (nI r)]) (rest := []) B hl.1 (c_X6_graft l D cI cZ ad co fa ic me (upd sw ((10 * g) + s_) ((sw ((10 * g) + s_)) ||| ((nI 1) <<< ((nI r) &&& 31)))) (upd cn (((40 * r) + (4 * s_)) + g) ((cn (((40 * r) + (4 * s_)) + g)) + (nI 1))) ab go cp so gr re db rclk rlim rqd rpk rwas rthr ((11 * g) + s_) r (by omega) (by omega) hHE) rfl (l_RX6_82 hts ⟨rfl, rfl⟩ ⟨Nat.le_of_ble_eq_true rfl, Nat.le_of_ble_eq_true rfl⟩) m_9_14 m_9_15 rfl rfl hP hD hS hA 0 rfl wfR (Nat.le_of_ble_eq_true rfl) dX6_counts_85 (fun H locs hP hD hS => ?_)
        exact eV B hP hS (by simp only [hf]) dX6_counts_88
def f_X6_gets (pk : Nat) (r : Nat) (t : Nat) (g : Nat) (s_ : Nat) (co : Nat → Int32) (fa : Nat → Int32) (ic : Nat → Int32) (me : Nat → Int32) (sw : Nat → Int32) (cn : Nat → Int32) (ab : Nat → Int32) (go : Nat → Int32) (cp : Nat → Int32) (re : Nat → Int32) (db : Nat → Int32) (rlim : Int32) (rqd : Nat) (rwas : Int32) : Bool × (Nat → Int32) × (Nat → Int32) × (Nat → Int32) × (Nat → Int32) × (Nat → Int32) × (Nat → Int32) × (Nat → Int32) × Nat × Int32 :=
  if (((re pk) >>> ((nI r) &&& 31)) &&& (nI 1)) = 0 then (if (f_X6_isMember r g me) = true then (if (t % 11) = 10 then (true, (f_X6_counts r s_ g co fa ic sw cn ab go rlim).1, (f_X6_counts r s_ g co fa ic sw cn ab go rlim).2.1, (f_X6_counts r s_ g co fa ic sw cn ab go rlim).2.2.1, (f_X6_counts r s_ g co fa ic sw cn ab go rlim).2.2.2, (f_X6_goesOn pk r t ((f_X6_counts r s_ g co fa ic sw cn ab go rlim).2.2.1) cp rqd rwas).1, upd re pk ((re pk) ||| ((nI 1) <<< ((nI r) &&& 31))), upd db pk ((db pk) + (nI 0)), (f_X6_goesOn pk r t ((f_X6_counts r s_ g co fa ic sw cn ab go rlim).2.2.1) cp rqd rwas).2.1, (f_X6_goesOn pk r t ((f_X6_counts r s_ g co fa ic sw cn ab go rlim).2.2.1) cp rqd rwas).2.2) else (true, sw, cn, ab, go, (f_X6_goesOn pk r t ab cp rqd rwas).1, upd re pk ((re pk) ||| ((nI 1) <<< ((nI r) &&& 31))), upd db pk ((db pk) + (nI 0)), (f_X6_goesOn pk r t ab cp rqd rwas).2.1, (f_X6_goesOn pk r t ab cp rqd rwas).2.2)) else (false, sw, cn, ab, go, (f_X6_goesOn pk r t ab cp rqd rwas).1, re, upd db pk ((db pk) + (nI 0)), (f_X6_goesOn pk r t ab cp rqd rwas).2.1, (f_X6_goesOn pk r t ab cp rqd rwas).2.2)) else if (f_X6_isMember r g me) = true then (false, sw, cn, ab, go, (f_X6_goesOn pk r t ab cp rqd rwas).1, re, upd db pk ((db pk) + (nI 1)), (f_X6_goesOn pk r t ab cp rqd rwas).2.1, (f_X6_goesOn pk r t ab cp rqd rwas).2.2) else (false, sw, cn, ab, go, (f_X6_goesOn pk r t ab cp rqd rwas).1, re, upd db pk ((db pk) + (nI 0)), (f_X6_goesOn pk r t ab cp rqd rwas).2.1, (f_X6_goesOn pk r t ab cp rqd rwas).2.2)
theorem fb_X6_gets_rqd (pk : Nat) (r : Nat) (t : Nat) (g : Nat) (s_ : Nat) (co : Nat → Int32) (fa : Nat → Int32) (ic : Nat → Int32) (me : Nat → Int32) (sw : Nat → Int32) (cn : Nat → Int32) (ab : Nat → Int32) (go : Nat → Int32) (cp : Nat → Int32) (re : Nat → Int32) (db : Nat → Int32) (rlim : Int32) (rqd : Nat) (rwas : Int32) (h_rqd : rqd ≤ 200) : (f_X6_gets pk r t g s_ co fa ic me sw cn ab go cp re db rlim rqd rwas).2.2.2.2.2.2.2.2.1 ≤ 200 := by
  unfold f_X6_gets
  (try repeat' split)
  all_goals (first | (dsimp only; omega) | omega | (apply fb_goesOnL; omega))
set_option maxHeartbeats 4000000 in
set_option maxRecDepth 100000 in
theorem c_X6_gets (l : Launch) (D : va_G) (cI cZ : ClassId) (ad : Nat → Nat) (co fa ic me sw cn ab go cp so gr re db : Nat → Int32) (rclk : Int32) (rlim : Int32) (rqd : Nat) (rpk : Nat) (rwas : Int32) (rthr : Int32) (pk : Nat) (r : Nat) (t : Nat) (g : Nat) (s_ : Nat) (hpk : pk < 200) (hr : r < 10) (ht : t < 44) (hg : g < 4) (hs_ : s_ < 10) (hrqd : rqd ≤ 200) (hHE : HEnd co fa ic) (hpg : gr pk = nI g) (hpso : so pk = nI s_) : MI l yX6_gets cX6_gets 6 .boolean { frames := 4, cells := 0, slots := 0, locals := 97 } D (TY cI cZ) [.ref (ad 0), .int (nI pk), .int (nI r), .int (nI t)] (wR cI cZ ad co fa ic me sw cn ab go cp so gr re db rclk rlim (nI rqd) (nI rpk) rwas rthr) (wR cI cZ ad co fa ic me ((f_X6_gets pk r t g s_ co fa ic me sw cn ab go cp re db rlim rqd rwas).2.1) ((f_X6_gets pk r t g s_ co fa ic me sw cn ab go cp re db rlim rqd rwas).2.2.1) ((f_X6_gets pk r t g s_ co fa ic me sw cn ab go cp re db rlim rqd rwas).2.2.2.1) ((f_X6_gets pk r t g s_ co fa ic me sw cn ab go cp re db rlim rqd rwas).2.2.2.2.1) ((f_X6_gets pk r t g s_ co fa ic me sw cn ab go cp re db rlim rqd rwas).2.2.2.2.2.1) so gr ((f_X6_gets pk r t g s_ co fa ic me sw cn ab go cp re db rlim rqd rwas).2.2.2.2.2.2.1) ((f_X6_gets pk r t g s_ co fa ic me sw cn ab go cp re db rlim rqd rwas).2.2.2.2.2.2.2.1) rclk rlim (nI ((f_X6_gets pk r t g s_ co fa ic me sw cn ab go cp re db rlim rqd rwas).2.2.2.2.2.2.2.2.1)) (nI rpk) ((f_X6_gets pk r t g s_ co fa ic me sw cn ab go cp re db rlim rqd rwas).2.2.2.2.2.2.2.2.2) rthr) (bI ((f_X6_gets pk r t g s_ co fa ic me sw cn ab go cp re db rlim rqd rwas).1)) := by
  refine MI.mk ⟨rfl, rfl⟩ (by decide +kernel) (Nat.le_of_ble_eq_true rfl) ?_
  intro p e s m below meth c A ls B hA hP hD hS hl
  have hx := B.1
  have hb := B.2.1
  have hts := B.2.2.2.2.2.1
  have hN := B.2.2.2.2.2.2.2.1
  have hK := B.2.2.2.2.2.2.2.2.1
  have hl : lv_has ls 6 [(0, .ref (ad 0)), (1, .int (nI pk)), (2, .int (nI r)), (3, .int (nI t))] := hl
  have hf := f_X6_gets.eq_1 pk r t g s_ co fa ic me sw cn ab go cp re db rlim rqd rwas
  refine lv_aload_n hx hb dX6_gets_0 rfl (lv_at hl 0 rfl) ?_
  refine g_X6_48 B hP 0 rfl rfl dX6_gets_1 ?_
  refine lv_iload_n hx hb dX6_gets_4 rfl (lv_at hl 1 rfl) ?_
  refine r_iald hx hb hK hP 12 0 rfl rfl (by omega) (by decide) dX6_gets_5 ?_
  refine lv_iload_n hx hb dX6_gets_6 rfl (lv_at hl 2 rfl) ?_
  refine lv_ishr hx hb dX6_gets_7 ?_
  refine lv_iconst (v := nI 1) hx hb dX6_gets_8 (by decide) ?_
  refine lv_iand hx hb dX6_gets_9 ?_
  refine lv_if_ne (tgt := 17) hx hb dX6_gets_10 (by decide) (fun c1 => ?_) (fun c1 => ?_)
  · have hf := hf.trans (if_neg c1)
    refine lv_iconst (v := nI 0) hx hb dX6_gets_17 (by decide) ?_
    refine lv_istore (lv' := [(4, .int (nI 0)), (0, .ref (ad 0)), (1, .int (nI pk)), (2, .int (nI r)), (3, .int (nI t))]) hx hb dX6_gets_18 hl (by decide) rfl (fun ls hl => ?_)
    refine lv_aload_n hx hb dX6_gets_20 rfl (lv_at hl 1 rfl) ?_
    refine lv_iload_n hx hb dX6_gets_21 rfl (lv_at hl 3 rfl) ?_
    refine lv_aload_n hx hb dX6_gets_22 rfl (lv_at hl 1 rfl) ?_
    refine g_X6_45 B hP 0 rfl rfl dX6_gets_23 ?_
    refine lv_iload_n hx hb dX6_gets_26 rfl (lv_at hl 2 rfl) ?_
    refine r_iald hx hb hK hP 11 0 rfl rfl (by omega) (by decide) dX6_gets_27 ?_
    refine r_eq hpg ?_
    refine fV_i (ci := 6) (as := [.int (nI r), .int (nI g)]) (rest := []) B hl.1 (c_X6_isMember l D cI cZ ad co fa ic me sw cn ab go cp so gr re db rclk rlim rqd rpk rwas rthr r g (by omega) (by omega)) rfl (l_RX6_99 hts ⟨rfl, rfl⟩ ⟨Nat.le_of_ble_eq_true rfl, Nat.le_of_ble_eq_true rfl⟩) m_15_1 m_15_2 rfl rfl hP hD hS hA 0 rfl wfR (Nat.le_of_ble_eq_true rfl) dX6_gets_28 (fun H locs hP hD hS => ?_)
    refine lv_istore (lv' := [(5, .int (bI (f_X6_isMember r g me))), (4, .int (nI 0)), (0, .ref (ad 0)), (1, .int (nI pk)), (2, .int (nI r)), (3, .int (nI t))]) hx hb dX6_gets_31 hl (by decide) rfl (fun ls hl => ?_)
    refine lv_iload hx hb dX6_gets_33 (lv_at hl 0 rfl) ?_
    refine r_if_eq_b (tgt := 81) hx hb dX6_gets_35 (by decide) (fun c7 => ?_) (fun c7 => ?_)
    · have hf := hf.trans (if_neg c7)
      refine lv_aload_n hx hb dX6_gets_81 rfl (lv_at hl 2 rfl) ?_
      refine g_X6_51 B hP 0 rfl rfl dX6_gets_82 ?_
      refine lv_iload_n hx hb dX6_gets_85 rfl (lv_at hl 3 rfl) ?_
      refine lv_dup2_11 hx hb dX6_gets_86 rfl rfl ?_
      refine r_iald hx hb hK hP 13 0 rfl rfl (by omega) (by decide) dX6_gets_87 ?_
      refine lv_iload hx hb dX6_gets_88 (lv_at hl 0 rfl) ?_
      refine r_if_eq_b (tgt := 102) hx hb dX6_gets_90 (by decide) (fun _ => ?_) (fun c => absurd c c7)
      refine lv_iconst (v := nI 0) hx hb dX6_gets_102 (by decide) ?_
      refine lv_iadd hx hb dX6_gets_103 ?_
      refine r_iast hx hb hK hP hD hS 13 0 rfl rfl (by omega) (by decide) dX6_gets_104 (fun H locs hP hD hS => ?_)
      have hP : va_P D vwCl (wR cI cZ ad co fa ic me sw cn ab go cp so gr re (upd db pk ((db pk) + (nI 0))) rclk rlim (nI rqd) (nI rpk) rwas rthr) H := hP
      have hD : va_D A (wR cI cZ ad co fa ic me sw cn ab go cp so gr re (upd db pk ((db pk) + (nI 0))) rclk rlim (nI rqd) (nI rpk) rwas rthr) := hD
      refine lv_aload_n hx hb dX6_gets_105 rfl (lv_at hl 2 rfl) ?_
      refine lv_iload_n hx hb dX6_gets_106 rfl (lv_at hl 3 rfl) ?_
      refine lv_iload_n hx hb dX6_gets_107 rfl (lv_at hl 4 rfl) ?_
      refine lv_iload_n hx hb dX6_gets_108 rfl (lv_at hl 5 rfl) ?_
      refine fV_v (ci := 6) (as := [.int (nI pk), .int (nI r), .int (nI t)]) (rest := []) B hl.1 (c_X6_goesOn l D cI cZ ad co fa ic me sw cn ab go cp so gr re (upd db pk ((db pk) + (nI 0))) rclk rlim rqd rpk rwas rthr pk r t (by omega) (by omega) (by omega) (by omega)) rfl (l_RX6_118 hts ⟨rfl, rfl⟩ ⟨Nat.le_of_ble_eq_true rfl, Nat.le_of_ble_eq_true rfl⟩) m_23_2 m_23_3 rfl rfl hP hD hS hA 0 rfl wfR (Nat.le_of_ble_eq_true rfl) dX6_gets_109 (fun H locs hP hD hS => ?_)
      have hq9 := fb_goesOnL pk r t ab 10 0 cp rqd rwas (by omega)
      refine lv_iload hx hb dX6_gets_112 (lv_at hl 0 rfl) ?_
      refine r_if_eq_b (tgt := 126) hx hb dX6_gets_114 (by decide) (fun _ => ?_) (fun c => absurd c c7)
      refine lv_iconst (v := nI 0) hx hb dX6_gets_126 (by decide) ?_
      exact eZ B hP hS (by decide) (by simp only [hf, bI_t, bI_f]) (by simp only [hf]) dX6_gets_127
    · have hf := hf.trans (if_pos c7)
      refine lv_iload hx hb dX6_gets_38 (lv_at hl 1 rfl) ?_
      refine r_if_eq (tgt := 81) hx hb (by omega) dX6_gets_40 (by decide) (fun _ => ?_) (fun c => absurd c (by omega))
      refine lv_aload_n hx hb dX6_gets_81 rfl (lv_at hl 2 rfl) ?_
      refine g_X6_51 B hP 0 rfl rfl dX6_gets_82 ?_
      refine lv_iload_n hx hb dX6_gets_85 rfl (lv_at hl 3 rfl) ?_
      refine lv_dup2_11 hx hb dX6_gets_86 rfl rfl ?_
      refine r_iald hx hb hK hP 13 0 rfl rfl (by omega) (by decide) dX6_gets_87 ?_
      refine lv_iload hx hb dX6_gets_88 (lv_at hl 0 rfl) ?_
      refine r_if_eq_b (tgt := 102) hx hb dX6_gets_90 (by decide) (fun c => absurd c7 c) (fun _ => ?_)
      refine lv_iload hx hb dX6_gets_93 (lv_at hl 1 rfl) ?_
      refine r_if_ne (tgt := 102) hx hb (by omega) dX6_gets_95 (by decide) (fun c => absurd c (by omega)) (fun _ => ?_)
      refine lv_iconst (v := nI 1) hx hb dX6_gets_98 (by decide) ?_
      refine lv_goto (tgt := 103) hx hb dX6_gets_99 (by decide) ?_
      refine lv_iadd hx hb dX6_gets_103 ?_
      refine r_iast hx hb hK hP hD hS 13 0 rfl rfl (by omega) (by decide) dX6_gets_104 (fun H locs hP hD hS => ?_)
      have hP : va_P D vwCl (wR cI cZ ad co fa ic me sw cn ab go cp so gr re (upd db pk ((db pk) + (nI 1))) rclk rlim (nI rqd) (nI rpk) rwas rthr) H := hP
      have hD : va_D A (wR cI cZ ad co fa ic me sw cn ab go cp so gr re (upd db pk ((db pk) + (nI 1))) rclk rlim (nI rqd) (nI rpk) rwas rthr) := hD
      refine lv_aload_n hx hb dX6_gets_105 rfl (lv_at hl 2 rfl) ?_
      refine lv_iload_n hx hb dX6_gets_106 rfl (lv_at hl 3 rfl) ?_
      refine lv_iload_n hx hb dX6_gets_107 rfl (lv_at hl 4 rfl) ?_
      refine lv_iload_n hx hb dX6_gets_108 rfl (lv_at hl 5 rfl) ?_
      refine fV_v (ci := 6) (as := [.int (nI pk), .int (nI r), .int (nI t)]) (rest := []) B hl.1 (c_X6_goesOn l D cI cZ ad co fa ic me sw cn ab go cp so gr re (upd db pk ((db pk) + (nI 1))) rclk rlim rqd rpk rwas rthr pk r t (by omega) (by omega) (by omega) (by omega)) rfl (l_RX6_118 hts ⟨rfl, rfl⟩ ⟨Nat.le_of_ble_eq_true rfl, Nat.le_of_ble_eq_true rfl⟩) m_23_2 m_23_3 rfl rfl hP hD hS hA 0 rfl wfR (Nat.le_of_ble_eq_true rfl) dX6_gets_109 (fun H locs hP hD hS => ?_)
      have hq8 := fb_goesOnL pk r t ab 10 0 cp rqd rwas (by omega)
      refine lv_iload hx hb dX6_gets_112 (lv_at hl 0 rfl) ?_
      refine r_if_eq_b (tgt := 126) hx hb dX6_gets_114 (by decide) (fun c => absurd c7 c) (fun _ => ?_)
      refine lv_iload hx hb dX6_gets_117 (lv_at hl 1 rfl) ?_
      refine r_if_eq (tgt := 126) hx hb (by omega) dX6_gets_119 (by decide) (fun _ => ?_) (fun c => absurd c (by omega))
      refine lv_iconst (v := nI 0) hx hb dX6_gets_126 (by decide) ?_
      exact eZ B hP hS (by decide) (by simp only [hf, bI_t, bI_f]) (by simp only [hf]) dX6_gets_127
  · have hf := hf.trans (if_pos c1)
    refine lv_iconst (v := nI 1) hx hb dX6_gets_13 (by decide) ?_
    refine lv_goto (tgt := 18) hx hb dX6_gets_14 (by decide) ?_
    refine lv_istore (lv' := [(4, .int (nI 1)), (0, .ref (ad 0)), (1, .int (nI pk)), (2, .int (nI r)), (3, .int (nI t))]) hx hb dX6_gets_18 hl (by decide) rfl (fun ls hl => ?_)
    refine lv_aload_n hx hb dX6_gets_20 rfl (lv_at hl 1 rfl) ?_
    refine lv_iload_n hx hb dX6_gets_21 rfl (lv_at hl 3 rfl) ?_
    refine lv_aload_n hx hb dX6_gets_22 rfl (lv_at hl 1 rfl) ?_
    refine g_X6_45 B hP 0 rfl rfl dX6_gets_23 ?_
    refine lv_iload_n hx hb dX6_gets_26 rfl (lv_at hl 2 rfl) ?_
    refine r_iald hx hb hK hP 11 0 rfl rfl (by omega) (by decide) dX6_gets_27 ?_
    refine r_eq hpg ?_
    refine fV_i (ci := 6) (as := [.int (nI r), .int (nI g)]) (rest := []) B hl.1 (c_X6_isMember l D cI cZ ad co fa ic me sw cn ab go cp so gr re db rclk rlim rqd rpk rwas rthr r g (by omega) (by omega)) rfl (l_RX6_99 hts ⟨rfl, rfl⟩ ⟨Nat.le_of_ble_eq_true rfl, Nat.le_of_ble_eq_true rfl⟩) m_15_1 m_15_2 rfl rfl hP hD hS hA 0 rfl wfR (Nat.le_of_ble_eq_true rfl) dX6_gets_28 (fun H locs hP hD hS => ?_)
    refine lv_istore (lv' := [(5, .int (bI (f_X6_isMember r g me))), (4, .int (nI 1)), (0, .ref (ad 0)), (1, .int (nI pk)), (2, .int (nI r)), (3, .int (nI t))]) hx hb dX6_gets_31 hl (by decide) rfl (fun ls hl => ?_)
    refine lv_iload hx hb dX6_gets_33 (lv_at hl 0 rfl) ?_
    refine r_if_eq_b (tgt := 81) hx hb dX6_gets_35 (by decide) (fun c2 => ?_) (fun c2 => ?_)
    · have hf := hf.trans (if_neg c2)
      refine lv_aload_n hx hb dX6_gets_81 rfl (lv_at hl 2 rfl) ?_
      refine g_X6_51 B hP 0 rfl rfl dX6_gets_82 ?_
      refine lv_iload_n hx hb dX6_gets_85 rfl (lv_at hl 3 rfl) ?_
      refine lv_dup2_11 hx hb dX6_gets_86 rfl rfl ?_
      refine r_iald hx hb hK hP 13 0 rfl rfl (by omega) (by decide) dX6_gets_87 ?_
      refine lv_iload hx hb dX6_gets_88 (lv_at hl 0 rfl) ?_
      refine r_if_eq_b (tgt := 102) hx hb dX6_gets_90 (by decide) (fun _ => ?_) (fun c => absurd c c2)
      refine lv_iconst (v := nI 0) hx hb dX6_gets_102 (by decide) ?_
      refine lv_iadd hx hb dX6_gets_103 ?_
      refine r_iast hx hb hK hP hD hS 13 0 rfl rfl (by omega) (by decide) dX6_gets_104 (fun H locs hP hD hS => ?_)
      have hP : va_P D vwCl (wR cI cZ ad co fa ic me sw cn ab go cp so gr re (upd db pk ((db pk) + (nI 0))) rclk rlim (nI rqd) (nI rpk) rwas rthr) H := hP
      have hD : va_D A (wR cI cZ ad co fa ic me sw cn ab go cp so gr re (upd db pk ((db pk) + (nI 0))) rclk rlim (nI rqd) (nI rpk) rwas rthr) := hD
      refine lv_aload_n hx hb dX6_gets_105 rfl (lv_at hl 2 rfl) ?_
      refine lv_iload_n hx hb dX6_gets_106 rfl (lv_at hl 3 rfl) ?_
      refine lv_iload_n hx hb dX6_gets_107 rfl (lv_at hl 4 rfl) ?_
      refine lv_iload_n hx hb dX6_gets_108 rfl (lv_at hl 5 rfl) ?_
      refine fV_v (ci := 6) (as := [.int (nI pk), .int (nI r), .int (nI t)]) (rest := []) B hl.1 (c_X6_goesOn l D cI cZ ad co fa ic me sw cn ab go cp so gr re (upd db pk ((db pk) + (nI 0))) rclk rlim rqd rpk rwas rthr pk r t (by omega) (by omega) (by omega) (by omega)) rfl (l_RX6_118 hts ⟨rfl, rfl⟩ ⟨Nat.le_of_ble_eq_true rfl, Nat.le_of_ble_eq_true rfl⟩) m_23_2 m_23_3 rfl rfl hP hD hS hA 0 rfl wfR (Nat.le_of_ble_eq_true rfl) dX6_gets_109 (fun H locs hP hD hS => ?_)
      have hq6 := fb_goesOnL pk r t ab 10 0 cp rqd rwas (by omega)
      refine lv_iload hx hb dX6_gets_112 (lv_at hl 0 rfl) ?_
      refine r_if_eq_b (tgt := 126) hx hb dX6_gets_114 (by decide) (fun _ => ?_) (fun c => absurd c c2)
      refine lv_iconst (v := nI 0) hx hb dX6_gets_126 (by decide) ?_
      exact eZ B hP hS (by decide) (by simp only [hf, bI_t, bI_f]) (by simp only [hf]) dX6_gets_127
    · have hf := hf.trans (if_pos c2)
      refine lv_iload hx hb dX6_gets_38 (lv_at hl 1 rfl) ?_
      refine r_if_eq (tgt := 81) hx hb (by omega) dX6_gets_40 (by decide) (fun c => absurd c (by omega)) (fun _ => ?_)
      refine lv_aload_n hx hb dX6_gets_43 rfl (lv_at hl 2 rfl) ?_
      refine g_X6_48 B hP 0 rfl rfl dX6_gets_44 ?_
      refine lv_iload_n hx hb dX6_gets_47 rfl (lv_at hl 3 rfl) ?_
      refine lv_dup2_11 hx hb dX6_gets_48 rfl rfl ?_
      refine r_iald hx hb hK hP 12 0 rfl rfl (by omega) (by decide) dX6_gets_49 ?_
      refine lv_iconst (v := nI 1) hx hb dX6_gets_50 (by decide) ?_
      refine lv_iload_n hx hb dX6_gets_51 rfl (lv_at hl 4 rfl) ?_
      refine lv_ishl hx hb dX6_gets_52 ?_
      refine lv_ior hx hb dX6_gets_53 ?_
      refine r_iast hx hb hK hP hD hS 12 0 rfl rfl (by omega) (by decide) dX6_gets_54 (fun H locs hP hD hS => ?_)
      have hP : va_P D vwCl (wR cI cZ ad co fa ic me sw cn ab go cp so gr (upd re pk ((re pk) ||| ((nI 1) <<< ((nI r) &&& 31)))) db rclk rlim (nI rqd) (nI rpk) rwas rthr) H := hP
      have hD : va_D A (wR cI cZ ad co fa ic me sw cn ab go cp so gr (upd re pk ((re pk) ||| ((nI 1) <<< ((nI r) &&& 31)))) db rclk rlim (nI rqd) (nI rpk) rwas rthr) := hD
      refine lv_iload_n hx hb dX6_gets_55 rfl (lv_at hl 5 rfl) ?_
      refine lv_bipush (v := nI 11) hx hb dX6_gets_56 (by decide) ?_
      refine r_irem hx hb (by omega) (by omega) (by omega) dX6_gets_58 ?_
      refine lv_bipush (v := nI 10) hx hb dX6_gets_59 (by decide) ?_
      refine r_icmp_ne (tgt := 81) hx hb (by omega) (by omega) dX6_gets_61 (by decide) (fun c3 => ?_) (fun c3 => ?_)
      · have hf := hf.trans (if_neg c3)
        refine lv_aload_n hx hb dX6_gets_81 rfl (lv_at hl 2 rfl) ?_
        refine g_X6_51 B hP 0 rfl rfl dX6_gets_82 ?_
        refine lv_iload_n hx hb dX6_gets_85 rfl (lv_at hl 3 rfl) ?_
        refine lv_dup2_11 hx hb dX6_gets_86 rfl rfl ?_
        refine r_iald hx hb hK hP 13 0 rfl rfl (by omega) (by decide) dX6_gets_87 ?_
        refine lv_iload hx hb dX6_gets_88 (lv_at hl 0 rfl) ?_
        refine r_if_eq_b (tgt := 102) hx hb dX6_gets_90 (by decide) (fun c => absurd c2 c) (fun _ => ?_)
        refine lv_iload hx hb dX6_gets_93 (lv_at hl 1 rfl) ?_
        refine r_if_ne (tgt := 102) hx hb (by omega) dX6_gets_95 (by decide) (fun _ => ?_) (fun c => absurd c (by omega))
        refine lv_iconst (v := nI 0) hx hb dX6_gets_102 (by decide) ?_
        refine lv_iadd hx hb dX6_gets_103 ?_
        refine r_iast hx hb hK hP hD hS 13 0 rfl rfl (by omega) (by decide) dX6_gets_104 (fun H locs hP hD hS => ?_)
        have hP : va_P D vwCl (wR cI cZ ad co fa ic me sw cn ab go cp so gr (upd re pk ((re pk) ||| ((nI 1) <<< ((nI r) &&& 31)))) (upd db pk ((db pk) + (nI 0))) rclk rlim (nI rqd) (nI rpk) rwas rthr) H := hP
        have hD : va_D A (wR cI cZ ad co fa ic me sw cn ab go cp so gr (upd re pk ((re pk) ||| ((nI 1) <<< ((nI r) &&& 31)))) (upd db pk ((db pk) + (nI 0))) rclk rlim (nI rqd) (nI rpk) rwas rthr) := hD
        refine lv_aload_n hx hb dX6_gets_105 rfl (lv_at hl 2 rfl) ?_
        refine lv_iload_n hx hb dX6_gets_106 rfl (lv_at hl 3 rfl) ?_
        refine lv_iload_n hx hb dX6_gets_107 rfl (lv_at hl 4 rfl) ?_
        refine lv_iload_n hx hb dX6_gets_108 rfl (lv_at hl 5 rfl) ?_
        refine fV_v (ci := 6) (as := [.int (nI pk), .int (nI r), .int (nI t)]) (rest := []) B hl.1 (c_X6_goesOn l D cI cZ ad co fa ic me sw cn ab go cp so gr (upd re pk ((re pk) ||| ((nI 1) <<< ((nI r) &&& 31)))) (upd db pk ((db pk) + (nI 0))) rclk rlim rqd rpk rwas rthr pk r t (by omega) (by omega) (by omega) (by omega)) rfl (l_RX6_118 hts ⟨rfl, rfl⟩ ⟨Nat.le_of_ble_eq_true rfl, Nat.le_of_ble_eq_true rfl⟩) m_23_2 m_23_3 rfl rfl hP hD hS hA 0 rfl wfR (Nat.le_of_ble_eq_true rfl) dX6_gets_109 (fun H locs hP hD hS => ?_)
        have hq5 := fb_goesOnL pk r t ab 10 0 cp rqd rwas (by omega)
        refine lv_iload hx hb dX6_gets_112 (lv_at hl 0 rfl) ?_
        refine r_if_eq_b (tgt := 126) hx hb dX6_gets_114 (by decide) (fun c => absurd c2 c) (fun _ => ?_)
        refine lv_iload hx hb dX6_gets_117 (lv_at hl 1 rfl) ?_
        refine r_if_eq (tgt := 126) hx hb (by omega) dX6_gets_119 (by decide) (fun c => absurd c (by omega)) (fun _ => ?_)
        refine lv_iconst (v := nI 1) hx hb dX6_gets_122 (by decide) ?_
        refine lv_goto (tgt := 127) hx hb dX6_gets_123 (by decide) ?_
        exact eZ B hP hS (by decide) (by simp only [hf, bI_t, bI_f]) (by simp only [hf]) dX6_gets_127
      · have hf := hf.trans (if_pos c3)
        refine lv_aload_n hx hb dX6_gets_64 rfl (lv_at hl 2 rfl) ?_
        refine lv_iload_n hx hb dX6_gets_65 rfl (lv_at hl 4 rfl) ?_
        refine lv_aload_n hx hb dX6_gets_66 rfl (lv_at hl 2 rfl) ?_
        refine g_X6_42 B hP 0 rfl rfl dX6_gets_67 ?_
        refine lv_iload_n hx hb dX6_gets_70 rfl (lv_at hl 3 rfl) ?_
        refine r_iald hx hb hK hP 10 0 rfl rfl (by omega) (by decide) dX6_gets_71 ?_
        refine r_eq hpso ?_
        refine lv_aload_n hx hb dX6_gets_72 rfl (lv_at hl 2 rfl) ?_
        refine g_X6_45 B hP 0 rfl rfl dX6_gets_73 ?_
        refine lv_iload_n hx hb dX6_gets_76 rfl (lv_at hl 3 rfl) ?_
        refine r_iald hx hb hK hP 11 0 rfl rfl (by omega) (by decide) dX6_gets_77 ?_
        refine r_eq hpg ?_
        refine fV_v (ci := 6) (as := [.int (nI r), .int (nI s_), .int (nI g)]) (rest := []) B hl.1 (c_X6_counts l D cI cZ ad co fa ic me sw cn ab go cp so gr (upd re pk ((re pk) ||| ((nI 1) <<< ((nI r) &&& 31)))) db rclk rlim rqd rpk rwas rthr r s_ g (by omega) (by omega) (by omega) hHE) rfl (l_RX6_114 hts ⟨rfl, rfl⟩ ⟨Nat.le_of_ble_eq_true rfl, Nat.le_of_ble_eq_true rfl⟩) m_22_22 m_22_23 rfl rfl hP hD hS hA 0 rfl wfR (Nat.le_of_ble_eq_true rfl) dX6_gets_78 (fun H locs hP hD hS => ?_)
        refine lv_aload_n hx hb dX6_gets_81 rfl (lv_at hl 2 rfl) ?_
        refine g_X6_51 B hP 0 rfl rfl dX6_gets_82 ?_
        refine lv_iload_n hx hb dX6_gets_85 rfl (lv_at hl 3 rfl) ?_
        refine lv_dup2_11 hx hb dX6_gets_86 rfl rfl ?_
        refine r_iald hx hb hK hP 13 0 rfl rfl (by omega) (by decide) dX6_gets_87 ?_
        refine lv_iload hx hb dX6_gets_88 (lv_at hl 0 rfl) ?_
        refine r_if_eq_b (tgt := 102) hx hb dX6_gets_90 (by decide) (fun c => absurd c2 c) (fun _ => ?_)
        refine lv_iload hx hb dX6_gets_93 (lv_at hl 1 rfl) ?_
        refine r_if_ne (tgt := 102) hx hb (by omega) dX6_gets_95 (by decide) (fun _ => ?_) (fun c => absurd c (by omega))
        refine lv_iconst (v := nI 0) hx hb dX6_gets_102 (by decide) ?_
        refine lv_iadd hx hb dX6_gets_103 ?_
        refine r_iast hx hb hK hP hD hS 13 0 rfl rfl (by omega) (by decide) dX6_gets_104 (fun H locs hP hD hS => ?_)
        have hP : va_P D vwCl (wR cI cZ ad co fa ic me ((f_X6_counts r s_ g co fa ic sw cn ab go rlim).1) ((f_X6_counts r s_ g co fa ic sw cn ab go rlim).2.1) ((f_X6_counts r s_ g co fa ic sw cn ab go rlim).2.2.1) ((f_X6_counts r s_ g co fa ic sw cn ab go rlim).2.2.2) cp so gr (upd re pk ((re pk) ||| ((nI 1) <<< ((nI r) &&& 31)))) (upd db pk ((db pk) + (nI 0))) rclk rlim (nI rqd) (nI rpk) rwas rthr) H := hP
        have hD : va_D A (wR cI cZ ad co fa ic me ((f_X6_counts r s_ g co fa ic sw cn ab go rlim).1) ((f_X6_counts r s_ g co fa ic sw cn ab go rlim).2.1) ((f_X6_counts r s_ g co fa ic sw cn ab go rlim).2.2.1) ((f_X6_counts r s_ g co fa ic sw cn ab go rlim).2.2.2) cp so gr (upd re pk ((re pk) ||| ((nI 1) <<< ((nI r) &&& 31)))) (upd db pk ((db pk) + (nI 0))) rclk rlim (nI rqd) (nI rpk) rwas rthr) := hD
        refine lv_aload_n hx hb dX6_gets_105 rfl (lv_at hl 2 rfl) ?_
        refine lv_iload_n hx hb dX6_gets_106 rfl (lv_at hl 3 rfl) ?_
        refine lv_iload_n hx hb dX6_gets_107 rfl (lv_at hl 4 rfl) ?_
        refine lv_iload_n hx hb dX6_gets_108 rfl (lv_at hl 5 rfl) ?_
        refine fV_v (ci := 6) (as := [.int (nI pk), .int (nI r), .int (nI t)]) (rest := []) B hl.1 (c_X6_goesOn l D cI cZ ad co fa ic me ((f_X6_counts r s_ g co fa ic sw cn ab go rlim).1) ((f_X6_counts r s_ g co fa ic sw cn ab go rlim).2.1) ((f_X6_counts r s_ g co fa ic sw cn ab go rlim).2.2.1) ((f_X6_counts r s_ g co fa ic sw cn ab go rlim).2.2.2) cp so gr (upd re pk ((re pk) ||| ((nI 1) <<< ((nI r) &&& 31)))) (upd db pk ((db pk) + (nI 0))) rclk rlim rqd rpk rwas rthr pk r t (by omega) (by omega) (by omega) (by omega)) rfl (l_RX6_118 hts ⟨rfl, rfl⟩ ⟨Nat.le_of_ble_eq_true rfl, Nat.le_of_ble_eq_true rfl⟩) m_23_2 m_23_3 rfl rfl hP hD hS hA 0 rfl wfR (Nat.le_of_ble_eq_true rfl) dX6_gets_109 (fun H locs hP hD hS => ?_)
        have hq4 := fb_goesOnL pk r t ((f_X6_counts r s_ g co fa ic sw cn ab go rlim).2.2.1) 10 0 cp rqd rwas (by omega)
        refine lv_iload hx hb dX6_gets_112 (lv_at hl 0 rfl) ?_
        refine r_if_eq_b (tgt := 126) hx hb dX6_gets_114 (by decide) (fun c => absurd c2 c) (fun _ => ?_)
        refine lv_iload hx hb dX6_gets_117 (lv_at hl 1 rfl) ?_
        refine r_if_eq (tgt := 126) hx hb (by omega) dX6_gets_119 (by decide) (fun c => absurd c (by omega)) (fun _ => ?_)
        refine lv_iconst (v := nI 1) hx hb dX6_gets_122 (by decide) ?_
        refine lv_goto (tgt := 127) hx hb dX6_gets_123 (by decide) ?_
        exact eZ B hP hS (by decide) (by simp only [hf, bI_t, bI_f]) (by simp only [hf]) dX6_gets_127
def f_X6_send (s_ : Nat) (g : Nat) (co : Nat → Int32) (fa : Nat → Int32) (ic : Nat → Int32) (me : Nat → Int32) (sw : Nat → Int32) (cn : Nat → Int32) (ab : Nat → Int32) (go : Nat → Int32) (cp : Nat → Int32) (so : Nat → Int32) (gr : Nat → Int32) (re : Nat → Int32) (db : Nat → Int32) (rlim : Int32) (rqd : Nat) (rpk : Nat) (rwas : Int32) : Int32 × (Nat → Int32) × (Nat → Int32) × (Nat → Int32) × (Nat → Int32) × (Nat → Int32) × (Nat → Int32) × (Nat → Int32) × (Nat → Int32) × (Nat → Int32) × Nat × Nat × Int32 × Int32 :=
  if (f_X6_meets g ic) = (-1) then (nI rpk, sw, cn, ab, go, (f_X6_goesOn rpk s_ ((11 * g) + s_) ab cp rqd rwas).1, upd so rpk (nI s_), upd gr rpk (nI g), upd re rpk ((me g) &&& ((nI 1) <<< ((nI s_) &&& 31))), db, (f_X6_goesOn rpk s_ ((11 * g) + s_) ab cp rqd rwas).2.1, rpk + 1, (f_X6_goesOn rpk s_ ((11 * g) + s_) ab cp rqd rwas).2.2, nI 0) else if (nI 1000000) ≤ (fa ((10 * s_) + ((f_X6_meets g ic).toNatClampNeg))) then (nI rpk, sw, cn, ab, go, (f_X6_goesOn rpk s_ ((11 * g) + s_) ab cp rqd rwas).1, upd so rpk (nI s_), upd gr rpk (nI g), upd re rpk ((me g) &&& ((nI 1) <<< ((nI s_) &&& 31))), db, (f_X6_goesOn rpk s_ ((11 * g) + s_) ab cp rqd rwas).2.1, rpk + 1, (f_X6_goesOn rpk s_ ((11 * g) + s_) ab cp rqd rwas).2.2, nI 0) else (nI rpk, (f_X6_gets rpk ((f_X6_meets g ic).toNatClampNeg) ((11 * g) + 10) g s_ co fa ic me sw cn ab go cp (upd re rpk ((me g) &&& ((nI 1) <<< ((nI s_) &&& 31)))) db rlim rqd rwas).2.1, (f_X6_gets rpk ((f_X6_meets g ic).toNatClampNeg) ((11 * g) + 10) g s_ co fa ic me sw cn ab go cp (upd re rpk ((me g) &&& ((nI 1) <<< ((nI s_) &&& 31)))) db rlim rqd rwas).2.2.1, (f_X6_gets rpk ((f_X6_meets g ic).toNatClampNeg) ((11 * g) + 10) g s_ co fa ic me sw cn ab go cp (upd re rpk ((me g) &&& ((nI 1) <<< ((nI s_) &&& 31)))) db rlim rqd rwas).2.2.2.1, (f_X6_gets rpk ((f_X6_meets g ic).toNatClampNeg) ((11 * g) + 10) g s_ co fa ic me sw cn ab go cp (upd re rpk ((me g) &&& ((nI 1) <<< ((nI s_) &&& 31)))) db rlim rqd rwas).2.2.2.2.1, (f_X6_goesOn rpk s_ ((11 * g) + s_) ((f_X6_gets rpk ((f_X6_meets g ic).toNatClampNeg) ((11 * g) + 10) g s_ co fa ic me sw cn ab go cp (upd re rpk ((me g) &&& ((nI 1) <<< ((nI s_) &&& 31)))) db rlim rqd rwas).2.2.2.1) ((f_X6_gets rpk ((f_X6_meets g ic).toNatClampNeg) ((11 * g) + 10) g s_ co fa ic me sw cn ab go cp (upd re rpk ((me g) &&& ((nI 1) <<< ((nI s_) &&& 31)))) db rlim rqd rwas).2.2.2.2.2.1) ((f_X6_gets rpk ((f_X6_meets g ic).toNatClampNeg) ((11 * g) + 10) g s_ co fa ic me sw cn ab go cp (upd re rpk ((me g) &&& ((nI 1) <<< ((nI s_) &&& 31)))) db rlim rqd rwas).2.2.2.2.2.2.2.2.1) ((f_X6_gets rpk ((f_X6_meets g ic).toNatClampNeg) ((11 * g) + 10) g s_ co fa ic me sw cn ab go cp (upd re rpk ((me g) &&& ((nI 1) <<< ((nI s_) &&& 31)))) db rlim rqd rwas).2.2.2.2.2.2.2.2.2)).1, upd so rpk (nI s_), upd gr rpk (nI g), (f_X6_gets rpk ((f_X6_meets g ic).toNatClampNeg) ((11 * g) + 10) g s_ co fa ic me sw cn ab go cp (upd re rpk ((me g) &&& ((nI 1) <<< ((nI s_) &&& 31)))) db rlim rqd rwas).2.2.2.2.2.2.1, (f_X6_gets rpk ((f_X6_meets g ic).toNatClampNeg) ((11 * g) + 10) g s_ co fa ic me sw cn ab go cp (upd re rpk ((me g) &&& ((nI 1) <<< ((nI s_) &&& 31)))) db rlim rqd rwas).2.2.2.2.2.2.2.1, (f_X6_goesOn rpk s_ ((11 * g) + s_) ((f_X6_gets rpk ((f_X6_meets g ic).toNatClampNeg) ((11 * g) + 10) g s_ co fa ic me sw cn ab go cp (upd re rpk ((me g) &&& ((nI 1) <<< ((nI s_) &&& 31)))) db rlim rqd rwas).2.2.2.1) ((f_X6_gets rpk ((f_X6_meets g ic).toNatClampNeg) ((11 * g) + 10) g s_ co fa ic me sw cn ab go cp (upd re rpk ((me g) &&& ((nI 1) <<< ((nI s_) &&& 31)))) db rlim rqd rwas).2.2.2.2.2.1) ((f_X6_gets rpk ((f_X6_meets g ic).toNatClampNeg) ((11 * g) + 10) g s_ co fa ic me sw cn ab go cp (upd re rpk ((me g) &&& ((nI 1) <<< ((nI s_) &&& 31)))) db rlim rqd rwas).2.2.2.2.2.2.2.2.1) ((f_X6_gets rpk ((f_X6_meets g ic).toNatClampNeg) ((11 * g) + 10) g s_ co fa ic me sw cn ab go cp (upd re rpk ((me g) &&& ((nI 1) <<< ((nI s_) &&& 31)))) db rlim rqd rwas).2.2.2.2.2.2.2.2.2)).2.1, rpk + 1, (f_X6_goesOn rpk s_ ((11 * g) + s_) ((f_X6_gets rpk ((f_X6_meets g ic).toNatClampNeg) ((11 * g) + 10) g s_ co fa ic me sw cn ab go cp (upd re rpk ((me g) &&& ((nI 1) <<< ((nI s_) &&& 31)))) db rlim rqd rwas).2.2.2.1) ((f_X6_gets rpk ((f_X6_meets g ic).toNatClampNeg) ((11 * g) + 10) g s_ co fa ic me sw cn ab go cp (upd re rpk ((me g) &&& ((nI 1) <<< ((nI s_) &&& 31)))) db rlim rqd rwas).2.2.2.2.2.1) ((f_X6_gets rpk ((f_X6_meets g ic).toNatClampNeg) ((11 * g) + 10) g s_ co fa ic me sw cn ab go cp (upd re rpk ((me g) &&& ((nI 1) <<< ((nI s_) &&& 31)))) db rlim rqd rwas).2.2.2.2.2.2.2.2.1) ((f_X6_gets rpk ((f_X6_meets g ic).toNatClampNeg) ((11 * g) + 10) g s_ co fa ic me sw cn ab go cp (upd re rpk ((me g) &&& ((nI 1) <<< ((nI s_) &&& 31)))) db rlim rqd rwas).2.2.2.2.2.2.2.2.2)).2.2, nI 0)
theorem fb_X6_send_rqd (s_ : Nat) (g : Nat) (co : Nat → Int32) (fa : Nat → Int32) (ic : Nat → Int32) (me : Nat → Int32) (sw : Nat → Int32) (cn : Nat → Int32) (ab : Nat → Int32) (go : Nat → Int32) (cp : Nat → Int32) (so : Nat → Int32) (gr : Nat → Int32) (re : Nat → Int32) (db : Nat → Int32) (rlim : Int32) (rqd : Nat) (rpk : Nat) (rwas : Int32) (h_rqd : rqd ≤ 200) (h_rpk : rpk ≤ 199) : (f_X6_send s_ g co fa ic me sw cn ab go cp so gr re db rlim rqd rpk rwas).2.2.2.2.2.2.2.2.2.2.1 ≤ 200 := by
  unfold f_X6_send
  (try repeat' split)
  all_goals (first | (dsimp only; omega) | omega | (apply fb_goesOnL; first | omega | (apply fb_X6_gets_rqd; omega)))
theorem fb_X6_send_rpk (s_ : Nat) (g : Nat) (co : Nat → Int32) (fa : Nat → Int32) (ic : Nat → Int32) (me : Nat → Int32) (sw : Nat → Int32) (cn : Nat → Int32) (ab : Nat → Int32) (go : Nat → Int32) (cp : Nat → Int32) (so : Nat → Int32) (gr : Nat → Int32) (re : Nat → Int32) (db : Nat → Int32) (rlim : Int32) (rqd : Nat) (rpk : Nat) (rwas : Int32) (h_rqd : rqd ≤ 200) (h_rpk : rpk ≤ 199) : (f_X6_send s_ g co fa ic me sw cn ab go cp so gr re db rlim rqd rpk rwas).2.2.2.2.2.2.2.2.2.2.2.1 ≤ 200 := by
  unfold f_X6_send
  (try repeat' split)
  all_goals (first | (dsimp only; omega) | omega | (apply fb_goesOnL; first | omega | (apply fb_X6_gets_rqd; omega)))
set_option maxHeartbeats 4000000 in
set_option maxRecDepth 100000 in
theorem c_X6_send (l : Launch) (D : va_G) (cI cZ : ClassId) (ad : Nat → Nat) (co fa ic me sw cn ab go cp so gr re db : Nat → Int32) (rclk : Int32) (rlim : Int32) (rqd : Nat) (rpk : Nat) (rwas : Int32) (rthr : Int32) (s_ : Nat) (g : Nat) (hs_ : s_ < 10) (hg : g < 4) (hrqd : rqd ≤ 200) (hrpk : rpk ≤ 200) (hHE : HEnd co fa ic) (hn1rpk : rpk ≤ 199) : MI l yX6_send cX6_send 6 .int { frames := 5, cells := 0, slots := 0, locals := 122 } D (TY cI cZ) [.ref (ad 0), .int (nI s_), .int (nI g)] (wR cI cZ ad co fa ic me sw cn ab go cp so gr re db rclk rlim (nI rqd) (nI rpk) rwas rthr) (wR cI cZ ad co fa ic me ((f_X6_send s_ g co fa ic me sw cn ab go cp so gr re db rlim rqd rpk rwas).2.1) ((f_X6_send s_ g co fa ic me sw cn ab go cp so gr re db rlim rqd rpk rwas).2.2.1) ((f_X6_send s_ g co fa ic me sw cn ab go cp so gr re db rlim rqd rpk rwas).2.2.2.1) ((f_X6_send s_ g co fa ic me sw cn ab go cp so gr re db rlim rqd rpk rwas).2.2.2.2.1) ((f_X6_send s_ g co fa ic me sw cn ab go cp so gr re db rlim rqd rpk rwas).2.2.2.2.2.1) ((f_X6_send s_ g co fa ic me sw cn ab go cp so gr re db rlim rqd rpk rwas).2.2.2.2.2.2.1) ((f_X6_send s_ g co fa ic me sw cn ab go cp so gr re db rlim rqd rpk rwas).2.2.2.2.2.2.2.1) ((f_X6_send s_ g co fa ic me sw cn ab go cp so gr re db rlim rqd rpk rwas).2.2.2.2.2.2.2.2.1) ((f_X6_send s_ g co fa ic me sw cn ab go cp so gr re db rlim rqd rpk rwas).2.2.2.2.2.2.2.2.2.1) rclk rlim (nI ((f_X6_send s_ g co fa ic me sw cn ab go cp so gr re db rlim rqd rpk rwas).2.2.2.2.2.2.2.2.2.2.1)) (nI ((f_X6_send s_ g co fa ic me sw cn ab go cp so gr re db rlim rqd rpk rwas).2.2.2.2.2.2.2.2.2.2.2.1)) ((f_X6_send s_ g co fa ic me sw cn ab go cp so gr re db rlim rqd rpk rwas).2.2.2.2.2.2.2.2.2.2.2.2.1) ((f_X6_send s_ g co fa ic me sw cn ab go cp so gr re db rlim rqd rpk rwas).2.2.2.2.2.2.2.2.2.2.2.2.2)) ((f_X6_send s_ g co fa ic me sw cn ab go cp so gr re db rlim rqd rpk rwas).1) := by
  refine MI.mk ⟨rfl, rfl⟩ (by decide +kernel) (Nat.le_of_ble_eq_true rfl) ?_
  intro p e s m below meth c A ls B hA hP hD hS hl
  have hx := B.1
  have hb := B.2.1
  have hts := B.2.2.2.2.2.1
  have hN := B.2.2.2.2.2.2.2.1
  have hK := B.2.2.2.2.2.2.2.2.1
  have hl : lv_has ls 6 [(0, .ref (ad 0)), (1, .int (nI s_)), (2, .int (nI g))] := hl
  have hf := f_X6_send.eq_1 s_ g co fa ic me sw cn ab go cp so gr re db rlim rqd rpk rwas
  refine lv_aload_n hx hb dX6_send_0 rfl (lv_at hl 0 rfl) ?_
  refine lv_iload_n hx hb dX6_send_1 rfl (lv_at hl 1 rfl) ?_
  refine fS_i (as := [.int (nI s_)]) (rest := [.ref (ad 0)]) B hl.1 (c_X6_isRouter l D cI cZ (wR cI cZ ad co fa ic me sw cn ab go cp so gr re db rclk rlim (nI rqd) (nI rpk) rwas rthr) s_ (by omega)) (l_RX6_86 hts ⟨rfl, rfl⟩ ⟨Nat.le_of_ble_eq_true rfl, Nat.le_of_ble_eq_true rfl⟩) m_8_22 rfl rfl hP hD hS hA rfl (Nat.le_of_ble_eq_true rfl) dX6_send_2 (fun H locs hP hD hS => ?_)
  refine r_if_eq (tgt := 15) hx hb (by omega) dX6_send_5 (by decide) (fun c => absurd c (by omega)) (fun _ => ?_)
  refine lv_iload_n hx hb dX6_send_8 rfl (lv_at hl 2 rfl) ?_
  refine fS_i (as := [.int (nI g)]) (rest := [.ref (ad 0)]) B hl.1 (c_X6_isGroup l D cI cZ (wR cI cZ ad co fa ic me sw cn ab go cp so gr re db rclk rlim (nI rqd) (nI rpk) rwas rthr) g (by omega)) (l_RX6_96 hts ⟨rfl, rfl⟩ ⟨Nat.le_of_ble_eq_true rfl, Nat.le_of_ble_eq_true rfl⟩) m_13_9 rfl rfl hP hD hS hA rfl (Nat.le_of_ble_eq_true rfl) dX6_send_9 (fun H locs hP hD hS => ?_)
  refine r_if_ne (tgt := 19) hx hb (by omega) dX6_send_12 (by decide) (fun _ => ?_) (fun c => absurd c (by omega))
  refine lv_aload_n hx hb dX6_send_19 rfl (lv_at hl 0 rfl) ?_
  refine g_X6_121 B hP 0 rfl rfl dX6_send_20 ?_
  refine lv_sipush (v := nI 200) hx hb dX6_send_23 (by decide) ?_
  refine r_icmp_ne (tgt := 33) hx hb (by omega) (by omega) dX6_send_26 (by decide) (fun _ => ?_) (fun c => absurd c (by omega))
  refine lv_iconst (v := nI 0) hx hb dX6_send_33 (by decide) ?_
  refine fV_i (ci := 6) (as := [.int (nI 0)]) (rest := []) B hl.1 (c_X6_can_0 l D cI cZ ad co fa ic me sw cn ab go cp so gr re db rclk rlim rqd rpk rwas rthr) rfl (l_RX6_90 hts ⟨rfl, rfl⟩ ⟨Nat.le_of_ble_eq_true rfl, Nat.le_of_ble_eq_true rfl⟩) m_9_1 m_9_2 rfl rfl hP hD hS hA 0 rfl wfR (Nat.le_of_ble_eq_true rfl) dX6_send_34 (fun H locs hP hD hS => ?_)
  refine r_if_ne (tgt := 42) hx hb (by omega) dX6_send_37 (by decide) (fun _ => ?_) (fun c => absurd c (by omega))
  refine lv_aload_n hx hb dX6_send_42 rfl (lv_at hl 0 rfl) ?_
  refine g_X6_121 B hP 0 rfl rfl dX6_send_43 ?_
  refine lv_istore_n (lv' := [(3, .int (nI rpk)), (0, .ref (ad 0)), (1, .int (nI s_)), (2, .int (nI g))]) hx hb dX6_send_46 rfl hl (by decide) rfl (fun ls hl => ?_)
  refine lv_aload_n hx hb dX6_send_47 rfl (lv_at hl 1 rfl) ?_
  refine lv_dup hx hb dX6_send_48 rfl ?_
  refine g_X6_121 B hP 0 rfl rfl dX6_send_49 ?_
  refine lv_iconst (v := nI 1) hx hb dX6_send_52 (by decide) ?_
  refine r_iadd hx hb dX6_send_53 ?_
  refine p_X6_121 B hP hD hS 0 rfl (Nat.le_of_ble_eq_true rfl) dX6_send_54 (fun H locs hP hD hS => ?_)
  have hP : va_P D vwCl (wR cI cZ ad co fa ic me sw cn ab go cp so gr re db rclk rlim (nI rqd) (nI (rpk + 1)) rwas (nI 0)) H := hP
  have hD : va_D A (wR cI cZ ad co fa ic me sw cn ab go cp so gr re db rclk rlim (nI rqd) (nI (rpk + 1)) rwas (nI 0)) := hD
  refine lv_aload_n hx hb dX6_send_57 rfl (lv_at hl 1 rfl) ?_
  refine g_X6_42 B hP 0 rfl rfl dX6_send_58 ?_
  refine lv_iload_n hx hb dX6_send_61 rfl (lv_at hl 0 rfl) ?_
  refine lv_iload_n hx hb dX6_send_62 rfl (lv_at hl 2 rfl) ?_
  refine r_iast hx hb hK hP hD hS 10 0 rfl rfl (by omega) (by decide) dX6_send_63 (fun H locs hP hD hS => ?_)
  have hP : va_P D vwCl (wR cI cZ ad co fa ic me sw cn ab go cp (upd so rpk (nI s_)) gr re db rclk rlim (nI rqd) (nI (rpk + 1)) rwas (nI 0)) H := hP
  have hD : va_D A (wR cI cZ ad co fa ic me sw cn ab go cp (upd so rpk (nI s_)) gr re db rclk rlim (nI rqd) (nI (rpk + 1)) rwas (nI 0)) := hD
  refine lv_aload_n hx hb dX6_send_64 rfl (lv_at hl 1 rfl) ?_
  refine g_X6_45 B hP 0 rfl rfl dX6_send_65 ?_
  refine lv_iload_n hx hb dX6_send_68 rfl (lv_at hl 0 rfl) ?_
  refine lv_iload_n hx hb dX6_send_69 rfl (lv_at hl 3 rfl) ?_
  refine r_iast hx hb hK hP hD hS 11 0 rfl rfl (by omega) (by decide) dX6_send_70 (fun H locs hP hD hS => ?_)
  have hP : va_P D vwCl (wR cI cZ ad co fa ic me sw cn ab go cp (upd so rpk (nI s_)) (upd gr rpk (nI g)) re db rclk rlim (nI rqd) (nI (rpk + 1)) rwas (nI 0)) H := hP
  have hD : va_D A (wR cI cZ ad co fa ic me sw cn ab go cp (upd so rpk (nI s_)) (upd gr rpk (nI g)) re db rclk rlim (nI rqd) (nI (rpk + 1)) rwas (nI 0)) := hD
  refine lv_aload_n hx hb dX6_send_71 rfl (lv_at hl 1 rfl) ?_
  refine g_X6_48 B hP 0 rfl rfl dX6_send_72 ?_
  refine lv_iload_n hx hb dX6_send_75 rfl (lv_at hl 0 rfl) ?_
  refine lv_aload_n hx hb dX6_send_76 rfl (lv_at hl 1 rfl) ?_
  refine g_X6_24 B hP 0 rfl rfl dX6_send_77 ?_
  refine lv_iload_n hx hb dX6_send_80 rfl (lv_at hl 3 rfl) ?_
  refine r_iald hx hb hK hP 4 0 rfl rfl (by omega) (by decide) dX6_send_81 ?_
  refine lv_iconst (v := nI 1) hx hb dX6_send_82 (by decide) ?_
  refine lv_iload_n hx hb dX6_send_83 rfl (lv_at hl 2 rfl) ?_
  refine lv_ishl hx hb dX6_send_84 ?_
  refine lv_iand hx hb dX6_send_85 ?_
  refine r_iast hx hb hK hP hD hS 12 0 rfl rfl (by omega) (by decide) dX6_send_86 (fun H locs hP hD hS => ?_)
  have hP : va_P D vwCl (wR cI cZ ad co fa ic me sw cn ab go cp (upd so rpk (nI s_)) (upd gr rpk (nI g)) (upd re rpk ((me g) &&& ((nI 1) <<< ((nI s_) &&& 31)))) db rclk rlim (nI rqd) (nI (rpk + 1)) rwas (nI 0)) H := hP
  have hD : va_D A (wR cI cZ ad co fa ic me sw cn ab go cp (upd so rpk (nI s_)) (upd gr rpk (nI g)) (upd re rpk ((me g) &&& ((nI 1) <<< ((nI s_) &&& 31)))) db rclk rlim (nI rqd) (nI (rpk + 1)) rwas (nI 0)) := hD
  refine lv_aload_n hx hb dX6_send_87 rfl (lv_at hl 1 rfl) ?_
  refine lv_iload_n hx hb dX6_send_88 rfl (lv_at hl 3 rfl) ?_
  refine fV_i (ci := 6) (as := [.int (nI g)]) (rest := []) B hl.1 (c_X6_meets l D cI cZ ad co fa ic me sw cn ab go cp (upd so rpk (nI s_)) (upd gr rpk (nI g)) (upd re rpk ((me g) &&& ((nI 1) <<< ((nI s_) &&& 31)))) db rclk rlim rqd (rpk + 1) rwas (nI 0) g (by omega)) rfl (l_RX6_61 hts ⟨rfl, rfl⟩ ⟨Nat.le_of_ble_eq_true rfl, Nat.le_of_ble_eq_true rfl⟩) m_9_22 m_9_23 rfl rfl hP hD hS hA 0 rfl wfR (Nat.le_of_ble_eq_true rfl) dX6_send_89 (fun H locs hP hD hS => ?_)
  refine lv_istore (lv' := [(4, .int (f_X6_meets g ic)), (3, .int (nI rpk)), (0, .ref (ad 0)), (1, .int (nI s_)), (2, .int (nI g))]) hx hb dX6_send_92 hl (by decide) rfl (fun ls hl => ?_)
  refine lv_iload hx hb dX6_send_94 (lv_at hl 0 rfl) ?_
  refine lv_iconst (v := -1) hx hb dX6_send_96 (by decide) ?_
  refine lv_icmp_eq (tgt := 133) hx hb dX6_send_97 (by decide) (fun c1 => ?_) (fun c1 => ?_)
  · have hf := hf.trans (if_pos c1)
    refine lv_aload_n hx hb dX6_send_133 rfl (lv_at hl 2 rfl) ?_
    refine lv_iload_n hx hb dX6_send_134 rfl (lv_at hl 1 rfl) ?_
    refine lv_iload_n hx hb dX6_send_135 rfl (lv_at hl 3 rfl) ?_
    refine lv_bipush (v := nI 11) hx hb dX6_send_136 (by decide) ?_
    refine lv_iload_n hx hb dX6_send_138 rfl (lv_at hl 4 rfl) ?_
    refine r_imul hx hb dX6_send_139 ?_
    refine lv_iload_n hx hb dX6_send_140 rfl (lv_at hl 3 rfl) ?_
    refine r_iadd hx hb dX6_send_141 ?_
    refine fV_v (ci := 6) (as := [.int (nI rpk), .int (nI s_), .int (nI ((11 * g) + s_))]) (rest := []) B hl.1 (c_X6_goesOn l D cI cZ ad co fa ic me sw cn ab go cp (upd so rpk (nI s_)) (upd gr rpk (nI g)) (upd re rpk ((me g) &&& ((nI 1) <<< ((nI s_) &&& 31)))) db rclk rlim rqd (rpk + 1) rwas (nI 0) rpk s_ ((11 * g) + s_) (by omega) (by omega) (by omega) (by omega)) rfl (l_RX6_118 hts ⟨rfl, rfl⟩ ⟨Nat.le_of_ble_eq_true rfl, Nat.le_of_ble_eq_true rfl⟩) m_23_2 m_23_3 rfl rfl hP hD hS hA 0 rfl wfR (Nat.le_of_ble_eq_true rfl) dX6_send_142 (fun H locs hP hD hS => ?_)
    have hq2 := fb_goesOnL rpk s_ ((11 * g) + s_) ab 10 0 cp rqd rwas (by omega)
    refine lv_iload_n hx hb dX6_send_145 rfl (lv_at hl 1 rfl) ?_
    exact eI B hP hS (by simp only [hf]) (by simp only [hf]) dX6_send_146
  · have hf := hf.trans (if_neg c1)
    have ej97 := ((meets_ok g ic).resolve_left c1).1
    have hj97 := ((meets_ok g ic).resolve_left c1).2
    refine lv_aload_n hx hb dX6_send_100 rfl (lv_at hl 2 rfl) ?_
    refine g_X6_17 B hP 0 rfl rfl dX6_send_101 ?_
    refine lv_bipush (v := nI 10) hx hb dX6_send_104 (by decide) ?_
    refine lv_iload_n hx hb dX6_send_106 rfl (lv_at hl 3 rfl) ?_
    refine r_imul hx hb dX6_send_107 ?_
    refine lv_iload hx hb dX6_send_108 (lv_at hl 0 rfl) ?_
    refine r_eq ej97 ?_
    refine r_iadd hx hb dX6_send_110 ?_
    refine r_iald hx hb hK hP 2 0 rfl rfl (by omega) (by decide) dX6_send_111 ?_
    refine lv_ldc (v := nI 1000000) hx hb B.2.2.2.2.1 (hts _ m_6_17) dX6_send_112 ?_
    refine lv_icmp_ge (tgt := 133) hx hb dX6_send_114 (by decide) (fun c3 => ?_) (fun c3 => ?_)
    · have hf := hf.trans (if_pos c3)
      refine lv_aload_n hx hb dX6_send_133 rfl (lv_at hl 2 rfl) ?_
      refine lv_iload_n hx hb dX6_send_134 rfl (lv_at hl 1 rfl) ?_
      refine lv_iload_n hx hb dX6_send_135 rfl (lv_at hl 3 rfl) ?_
      refine lv_bipush (v := nI 11) hx hb dX6_send_136 (by decide) ?_
      refine lv_iload_n hx hb dX6_send_138 rfl (lv_at hl 4 rfl) ?_
      refine r_imul hx hb dX6_send_139 ?_
      refine lv_iload_n hx hb dX6_send_140 rfl (lv_at hl 3 rfl) ?_
      refine r_iadd hx hb dX6_send_141 ?_
      refine fV_v (ci := 6) (as := [.int (nI rpk), .int (nI s_), .int (nI ((11 * g) + s_))]) (rest := []) B hl.1 (c_X6_goesOn l D cI cZ ad co fa ic me sw cn ab go cp (upd so rpk (nI s_)) (upd gr rpk (nI g)) (upd re rpk ((me g) &&& ((nI 1) <<< ((nI s_) &&& 31)))) db rclk rlim rqd (rpk + 1) rwas (nI 0) rpk s_ ((11 * g) + s_) (by omega) (by omega) (by omega) (by omega)) rfl (l_RX6_118 hts ⟨rfl, rfl⟩ ⟨Nat.le_of_ble_eq_true rfl, Nat.le_of_ble_eq_true rfl⟩) m_23_2 m_23_3 rfl rfl hP hD hS hA 0 rfl wfR (Nat.le_of_ble_eq_true rfl) dX6_send_142 (fun H locs hP hD hS => ?_)
      have hq4 := fb_goesOnL rpk s_ ((11 * g) + s_) ab 10 0 cp rqd rwas (by omega)
      refine lv_iload_n hx hb dX6_send_145 rfl (lv_at hl 1 rfl) ?_
      exact eI B hP hS (by simp only [hf]) (by simp only [hf]) dX6_send_146
    · have hf := hf.trans (if_neg c3)
      refine lv_aload_n hx hb dX6_send_117 rfl (lv_at hl 2 rfl) ?_
      refine lv_iload_n hx hb dX6_send_118 rfl (lv_at hl 1 rfl) ?_
      refine lv_iload hx hb dX6_send_119 (lv_at hl 0 rfl) ?_
      refine r_eq ej97 ?_
      refine lv_bipush (v := nI 11) hx hb dX6_send_121 (by decide) ?_
      refine lv_iload_n hx hb dX6_send_123 rfl (lv_at hl 4 rfl) ?_
      refine r_imul hx hb dX6_send_124 ?_
      refine lv_bipush (v := nI 10) hx hb dX6_send_125 (by decide) ?_
      refine r_iadd hx hb dX6_send_127 ?_
      refine fV_i (ci := 6) (as := [.int (nI rpk), .int (nI ((f_X6_meets g ic).toNatClampNeg)), .int (nI ((11 * g) + 10))]) (rest := []) B hl.1 (c_X6_gets l D cI cZ ad co fa ic me sw cn ab go cp (upd so rpk (nI s_)) (upd gr rpk (nI g)) (upd re rpk ((me g) &&& ((nI 1) <<< ((nI s_) &&& 31)))) db rclk rlim rqd (rpk + 1) rwas (nI 0) rpk ((f_X6_meets g ic).toNatClampNeg) ((11 * g) + 10) g s_ (by omega) (by omega) (by omega) (by omega) (by omega) (by omega) hHE pk_us pk_us) rfl (l_RX6_124 hts ⟨rfl, rfl⟩ ⟨Nat.le_of_ble_eq_true rfl, Nat.le_of_ble_eq_true rfl⟩) m_22_18 m_22_19 rfl rfl hP hD hS hA 0 rfl wfR (Nat.le_of_ble_eq_true rfl) dX6_send_128 (fun H locs hP hD hS => ?_)
      have hq5 := fb_X6_gets_rqd rpk ((f_X6_meets g ic).toNatClampNeg) ((11 * g) + 10) g s_ co fa ic me sw cn ab go cp (upd re rpk ((me g) &&& ((nI 1) <<< ((nI s_) &&& 31)))) db rlim rqd rwas (by omega)
      refine lv_istore (lv' := [(5, .int (bI ((f_X6_gets rpk ((f_X6_meets g ic).toNatClampNeg) ((11 * g) + 10) g s_ co fa ic me sw cn ab go cp (upd re rpk ((me g) &&& ((nI 1) <<< ((nI s_) &&& 31)))) db rlim rqd rwas).1))), (4, .int (f_X6_meets g ic)), (3, .int (nI rpk)), (0, .ref (ad 0)), (1, .int (nI s_)), (2, .int (nI g))]) hx hb dX6_send_131 hl (by decide) rfl (fun ls hl => ?_)
      refine lv_aload_n hx hb dX6_send_133 rfl (lv_at hl 3 rfl) ?_
      refine lv_iload_n hx hb dX6_send_134 rfl (lv_at hl 2 rfl) ?_
      refine lv_iload_n hx hb dX6_send_135 rfl (lv_at hl 4 rfl) ?_
      refine lv_bipush (v := nI 11) hx hb dX6_send_136 (by decide) ?_
      refine lv_iload_n hx hb dX6_send_138 rfl (lv_at hl 5 rfl) ?_
      refine r_imul hx hb dX6_send_139 ?_
      refine lv_iload_n hx hb dX6_send_140 rfl (lv_at hl 4 rfl) ?_
      refine r_iadd hx hb dX6_send_141 ?_
      refine fV_v (ci := 6) (as := [.int (nI rpk), .int (nI s_), .int (nI ((11 * g) + s_))]) (rest := []) B hl.1 (c_X6_goesOn l D cI cZ ad co fa ic me ((f_X6_gets rpk ((f_X6_meets g ic).toNatClampNeg) ((11 * g) + 10) g s_ co fa ic me sw cn ab go cp (upd re rpk ((me g) &&& ((nI 1) <<< ((nI s_) &&& 31)))) db rlim rqd rwas).2.1) ((f_X6_gets rpk ((f_X6_meets g ic).toNatClampNeg) ((11 * g) + 10) g s_ co fa ic me sw cn ab go cp (upd re rpk ((me g) &&& ((nI 1) <<< ((nI s_) &&& 31)))) db rlim rqd rwas).2.2.1) ((f_X6_gets rpk ((f_X6_meets g ic).toNatClampNeg) ((11 * g) + 10) g s_ co fa ic me sw cn ab go cp (upd re rpk ((me g) &&& ((nI 1) <<< ((nI s_) &&& 31)))) db rlim rqd rwas).2.2.2.1) ((f_X6_gets rpk ((f_X6_meets g ic).toNatClampNeg) ((11 * g) + 10) g s_ co fa ic me sw cn ab go cp (upd re rpk ((me g) &&& ((nI 1) <<< ((nI s_) &&& 31)))) db rlim rqd rwas).2.2.2.2.1) ((f_X6_gets rpk ((f_X6_meets g ic).toNatClampNeg) ((11 * g) + 10) g s_ co fa ic me sw cn ab go cp (upd re rpk ((me g) &&& ((nI 1) <<< ((nI s_) &&& 31)))) db rlim rqd rwas).2.2.2.2.2.1) (upd so rpk (nI s_)) (upd gr rpk (nI g)) ((f_X6_gets rpk ((f_X6_meets g ic).toNatClampNeg) ((11 * g) + 10) g s_ co fa ic me sw cn ab go cp (upd re rpk ((me g) &&& ((nI 1) <<< ((nI s_) &&& 31)))) db rlim rqd rwas).2.2.2.2.2.2.1) ((f_X6_gets rpk ((f_X6_meets g ic).toNatClampNeg) ((11 * g) + 10) g s_ co fa ic me sw cn ab go cp (upd re rpk ((me g) &&& ((nI 1) <<< ((nI s_) &&& 31)))) db rlim rqd rwas).2.2.2.2.2.2.2.1) rclk rlim ((f_X6_gets rpk ((f_X6_meets g ic).toNatClampNeg) ((11 * g) + 10) g s_ co fa ic me sw cn ab go cp (upd re rpk ((me g) &&& ((nI 1) <<< ((nI s_) &&& 31)))) db rlim rqd rwas).2.2.2.2.2.2.2.2.1) (rpk + 1) ((f_X6_gets rpk ((f_X6_meets g ic).toNatClampNeg) ((11 * g) + 10) g s_ co fa ic me sw cn ab go cp (upd re rpk ((me g) &&& ((nI 1) <<< ((nI s_) &&& 31)))) db rlim rqd rwas).2.2.2.2.2.2.2.2.2) (nI 0) rpk s_ ((11 * g) + s_) (by omega) (by omega) (by omega) (by omega)) rfl (l_RX6_118 hts ⟨rfl, rfl⟩ ⟨Nat.le_of_ble_eq_true rfl, Nat.le_of_ble_eq_true rfl⟩) m_23_2 m_23_3 rfl rfl hP hD hS hA 0 rfl wfR (Nat.le_of_ble_eq_true rfl) dX6_send_142 (fun H locs hP hD hS => ?_)
      have hq6 := fb_goesOnL rpk s_ ((11 * g) + s_) ((f_X6_gets rpk ((f_X6_meets g ic).toNatClampNeg) ((11 * g) + 10) g s_ co fa ic me sw cn ab go cp (upd re rpk ((me g) &&& ((nI 1) <<< ((nI s_) &&& 31)))) db rlim rqd rwas).2.2.2.1) 10 0 ((f_X6_gets rpk ((f_X6_meets g ic).toNatClampNeg) ((11 * g) + 10) g s_ co fa ic me sw cn ab go cp (upd re rpk ((me g) &&& ((nI 1) <<< ((nI s_) &&& 31)))) db rlim rqd rwas).2.2.2.2.2.1) ((f_X6_gets rpk ((f_X6_meets g ic).toNatClampNeg) ((11 * g) + 10) g s_ co fa ic me sw cn ab go cp (upd re rpk ((me g) &&& ((nI 1) <<< ((nI s_) &&& 31)))) db rlim rqd rwas).2.2.2.2.2.2.2.2.1) ((f_X6_gets rpk ((f_X6_meets g ic).toNatClampNeg) ((11 * g) + 10) g s_ co fa ic me sw cn ab go cp (upd re rpk ((me g) &&& ((nI 1) <<< ((nI s_) &&& 31)))) db rlim rqd rwas).2.2.2.2.2.2.2.2.2) (by omega)
      refine lv_iload_n hx hb dX6_send_145 rfl (lv_at hl 2 rfl) ?_
      exact eI B hP hS (by simp only [hf]) (by simp only [hf]) dX6_send_146
set_option maxHeartbeats 4000000 in
set_option maxRecDepth 100000 in
theorem c_X6_follows_e (l : Launch) (D : va_G) (cI cZ : ClassId) (ad : Nat → Nat) (co fa ic me sw cn ab go cp so gr re db : Nat → Int32) (rclk : Int32) (rlim : Int32) (rqd : Nat) (rpk : Nat) (rwas : Int32) (rthr : Int32) (hrqd : rqd ≤ 200) (hn1rqd : rqd ≤ 0) : MI l yX6_follows cX6_follows 7 .int { frames := 0, cells := 0, slots := 0, locals := 0 } D (TY cI cZ) [.ref (ad 0)] (wR cI cZ ad co fa ic me sw cn ab go cp so gr re db rclk rlim (nI rqd) (nI rpk) rwas rthr) (wR cI cZ ad co fa ic me sw cn ab go cp so gr re db rclk rlim (nI rqd) (nI rpk) rwas rthr) (nI 0) := by
  refine MI.mk ⟨rfl, rfl⟩ (by decide +kernel) (Nat.le_of_ble_eq_true rfl) ?_
  intro p e s m below meth c A ls B hA hP hD hS hl
  have hx := B.1
  have hb := B.2.1
  have hts := B.2.2.2.2.2.1
  have hN := B.2.2.2.2.2.2.2.1
  have hK := B.2.2.2.2.2.2.2.2.1
  have hl : lv_has ls 7 [(0, .ref (ad 0))] := hl
  refine lv_aload_n hx hb dX6_follows_0 rfl (lv_at hl 0 rfl) ?_
  refine g_X6_108 B hP 0 rfl rfl dX6_follows_1 ?_
  refine r_if_ne (tgt := 9) hx hb (by omega) dX6_follows_4 (by decide) (fun c => absurd c (by omega)) (fun _ => ?_)
  refine lv_iconst (v := nI 0) hx hb dX6_follows_7 (by decide) ?_
  exact eI B hP hS rfl rfl dX6_follows_8
def f_X6_follows_n_L51 (rqd : Nat) : Nat → Nat → (Nat → Int32) → (Nat → Int32)
  | 0, _, cp_51 => cp_51
  | n51 + 1, k51, cp_51 => f_X6_follows_n_L51 rqd n51 (k51 + 1) (upd cp_51 k51 (cp_51 (k51 + 4)))
def f_X6_follows_n (pk : Nat) (t : Nat) (fm : Nat) (to_ : Nat) (g : Nat) (s_ : Nat) (co : Nat → Int32) (fa : Nat → Int32) (ic : Nat → Int32) (me : Nat → Int32) (sw : Nat → Int32) (cn : Nat → Int32) (ab : Nat → Int32) (go : Nat → Int32) (cp : Nat → Int32) (re : Nat → Int32) (db : Nat → Int32) (rlim : Int32) (rqd : Nat) (rwas : Int32) : Int32 × (Nat → Int32) × (Nat → Int32) × (Nat → Int32) × (Nat → Int32) × (Nat → Int32) × (Nat → Int32) × (Nat → Int32) × Nat × Int32 :=
  if (co ((10 * fm) + to_)) ≤ 0 then (nI 1, sw, cn, ab, go, (f_X6_follows_n_L51 rqd (4 * (rqd - 1)) 0 cp), re, db, rqd - 1, rwas + (nI 1)) else if (f_X6_root t ic) = (-1) then (nI 2, sw, cn, ab, go, (f_X6_follows_n_L51 rqd (4 * (rqd - 1)) 0 cp), re, db, rqd - 1, rwas + (nI 1)) else if (f_X6_hop to_ ((f_X6_root t ic).toNatClampNeg) co fa) = (nI fm) then (if ((f_X6_gets pk to_ t g s_ co fa ic me sw cn ab go (f_X6_follows_n_L51 rqd (4 * (rqd - 1)) 0 cp) re db rlim (rqd - 1) rwas).1) = true then (nI 4, (f_X6_gets pk to_ t g s_ co fa ic me sw cn ab go (f_X6_follows_n_L51 rqd (4 * (rqd - 1)) 0 cp) re db rlim (rqd - 1) rwas).2.1, (f_X6_gets pk to_ t g s_ co fa ic me sw cn ab go (f_X6_follows_n_L51 rqd (4 * (rqd - 1)) 0 cp) re db rlim (rqd - 1) rwas).2.2.1, (f_X6_gets pk to_ t g s_ co fa ic me sw cn ab go (f_X6_follows_n_L51 rqd (4 * (rqd - 1)) 0 cp) re db rlim (rqd - 1) rwas).2.2.2.1, (f_X6_gets pk to_ t g s_ co fa ic me sw cn ab go (f_X6_follows_n_L51 rqd (4 * (rqd - 1)) 0 cp) re db rlim (rqd - 1) rwas).2.2.2.2.1, (f_X6_gets pk to_ t g s_ co fa ic me sw cn ab go (f_X6_follows_n_L51 rqd (4 * (rqd - 1)) 0 cp) re db rlim (rqd - 1) rwas).2.2.2.2.2.1, (f_X6_gets pk to_ t g s_ co fa ic me sw cn ab go (f_X6_follows_n_L51 rqd (4 * (rqd - 1)) 0 cp) re db rlim (rqd - 1) rwas).2.2.2.2.2.2.1, (f_X6_gets pk to_ t g s_ co fa ic me sw cn ab go (f_X6_follows_n_L51 rqd (4 * (rqd - 1)) 0 cp) re db rlim (rqd - 1) rwas).2.2.2.2.2.2.2.1, (f_X6_gets pk to_ t g s_ co fa ic me sw cn ab go (f_X6_follows_n_L51 rqd (4 * (rqd - 1)) 0 cp) re db rlim (rqd - 1) rwas).2.2.2.2.2.2.2.2.1, (f_X6_gets pk to_ t g s_ co fa ic me sw cn ab go (f_X6_follows_n_L51 rqd (4 * (rqd - 1)) 0 cp) re db rlim (rqd - 1) rwas).2.2.2.2.2.2.2.2.2) else (nI 3, (f_X6_gets pk to_ t g s_ co fa ic me sw cn ab go (f_X6_follows_n_L51 rqd (4 * (rqd - 1)) 0 cp) re db rlim (rqd - 1) rwas).2.1, (f_X6_gets pk to_ t g s_ co fa ic me sw cn ab go (f_X6_follows_n_L51 rqd (4 * (rqd - 1)) 0 cp) re db rlim (rqd - 1) rwas).2.2.1, (f_X6_gets pk to_ t g s_ co fa ic me sw cn ab go (f_X6_follows_n_L51 rqd (4 * (rqd - 1)) 0 cp) re db rlim (rqd - 1) rwas).2.2.2.1, (f_X6_gets pk to_ t g s_ co fa ic me sw cn ab go (f_X6_follows_n_L51 rqd (4 * (rqd - 1)) 0 cp) re db rlim (rqd - 1) rwas).2.2.2.2.1, (f_X6_gets pk to_ t g s_ co fa ic me sw cn ab go (f_X6_follows_n_L51 rqd (4 * (rqd - 1)) 0 cp) re db rlim (rqd - 1) rwas).2.2.2.2.2.1, (f_X6_gets pk to_ t g s_ co fa ic me sw cn ab go (f_X6_follows_n_L51 rqd (4 * (rqd - 1)) 0 cp) re db rlim (rqd - 1) rwas).2.2.2.2.2.2.1, (f_X6_gets pk to_ t g s_ co fa ic me sw cn ab go (f_X6_follows_n_L51 rqd (4 * (rqd - 1)) 0 cp) re db rlim (rqd - 1) rwas).2.2.2.2.2.2.2.1, (f_X6_gets pk to_ t g s_ co fa ic me sw cn ab go (f_X6_follows_n_L51 rqd (4 * (rqd - 1)) 0 cp) re db rlim (rqd - 1) rwas).2.2.2.2.2.2.2.2.1, (f_X6_gets pk to_ t g s_ co fa ic me sw cn ab go (f_X6_follows_n_L51 rqd (4 * (rqd - 1)) 0 cp) re db rlim (rqd - 1) rwas).2.2.2.2.2.2.2.2.2)) else (nI 2, sw, cn, ab, go, (f_X6_follows_n_L51 rqd (4 * (rqd - 1)) 0 cp), re, db, rqd - 1, rwas + (nI 1))
theorem fb_X6_follows_n_rqd (pk : Nat) (t : Nat) (fm : Nat) (to_ : Nat) (g : Nat) (s_ : Nat) (co : Nat → Int32) (fa : Nat → Int32) (ic : Nat → Int32) (me : Nat → Int32) (sw : Nat → Int32) (cn : Nat → Int32) (ab : Nat → Int32) (go : Nat → Int32) (cp : Nat → Int32) (re : Nat → Int32) (db : Nat → Int32) (rlim : Int32) (rqd : Nat) (rwas : Int32) (h_rqd : rqd ≤ 200) : (f_X6_follows_n pk t fm to_ g s_ co fa ic me sw cn ab go cp re db rlim rqd rwas).2.2.2.2.2.2.2.2.1 ≤ 200 := by
  unfold f_X6_follows_n
  (try repeat' split)
  all_goals (first | (dsimp only; omega) | omega | (apply fb_X6_gets_rqd; omega))
set_option maxHeartbeats 4000000 in
set_option maxRecDepth 100000 in
theorem c_X6_follows_n (l : Launch) (D : va_G) (cI cZ : ClassId) (ad : Nat → Nat) (co fa ic me sw cn ab go cp so gr re db : Nat → Int32) (rclk : Int32) (rlim : Int32) (rqd : Nat) (rpk : Nat) (rwas : Int32) (rthr : Int32) (pk : Nat) (t : Nat) (fm : Nat) (to_ : Nat) (g : Nat) (s_ : Nat) (hpk : pk < 200) (ht : t < 44) (hfm : fm < 10) (hto_ : to_ < 10) (hg : g < 4) (hs_ : s_ < 10) (hrqd : rqd ≤ 200) (hHE : HEnd co fa ic) (hq0 : cp 0 = nI pk) (hq1 : cp 1 = nI t) (hq2 : cp 2 = nI fm) (hq3 : cp 3 = nI to_) (hpg : gr pk = nI g) (hpso : so pk = nI s_) (hn1rqd : rqd ≤ 200) (hn0rqd : 1 ≤ rqd) : MI l yX6_follows cX6_follows 7 .int { frames := 5, cells := 0, slots := 0, locals := 122 } D (TY cI cZ) [.ref (ad 0)] (wR cI cZ ad co fa ic me sw cn ab go cp so gr re db rclk rlim (nI rqd) (nI rpk) rwas rthr) (wR cI cZ ad co fa ic me ((f_X6_follows_n pk t fm to_ g s_ co fa ic me sw cn ab go cp re db rlim rqd rwas).2.1) ((f_X6_follows_n pk t fm to_ g s_ co fa ic me sw cn ab go cp re db rlim rqd rwas).2.2.1) ((f_X6_follows_n pk t fm to_ g s_ co fa ic me sw cn ab go cp re db rlim rqd rwas).2.2.2.1) ((f_X6_follows_n pk t fm to_ g s_ co fa ic me sw cn ab go cp re db rlim rqd rwas).2.2.2.2.1) ((f_X6_follows_n pk t fm to_ g s_ co fa ic me sw cn ab go cp re db rlim rqd rwas).2.2.2.2.2.1) so gr ((f_X6_follows_n pk t fm to_ g s_ co fa ic me sw cn ab go cp re db rlim rqd rwas).2.2.2.2.2.2.1) ((f_X6_follows_n pk t fm to_ g s_ co fa ic me sw cn ab go cp re db rlim rqd rwas).2.2.2.2.2.2.2.1) rclk rlim (nI ((f_X6_follows_n pk t fm to_ g s_ co fa ic me sw cn ab go cp re db rlim rqd rwas).2.2.2.2.2.2.2.2.1)) (nI rpk) ((f_X6_follows_n pk t fm to_ g s_ co fa ic me sw cn ab go cp re db rlim rqd rwas).2.2.2.2.2.2.2.2.2) rthr) ((f_X6_follows_n pk t fm to_ g s_ co fa ic me sw cn ab go cp re db rlim rqd rwas).1) := by
  refine MI.mk ⟨rfl, rfl⟩ (by decide +kernel) (Nat.le_of_ble_eq_true rfl) ?_
  intro p e s m below meth c A ls B hA hP hD hS hl
  have hx := B.1
  have hb := B.2.1
  have hts := B.2.2.2.2.2.1
  have hN := B.2.2.2.2.2.2.2.1
  have hK := B.2.2.2.2.2.2.2.2.1
  have hl : lv_has ls 7 [(0, .ref (ad 0))] := hl
  have hf := f_X6_follows_n.eq_1 pk t fm to_ g s_ co fa ic me sw cn ab go cp re db rlim rqd rwas
  refine lv_aload_n hx hb dX6_follows_0 rfl (lv_at hl 0 rfl) ?_
  refine g_X6_108 B hP 0 rfl rfl dX6_follows_1 ?_
  refine r_if_ne (tgt := 9) hx hb (by omega) dX6_follows_4 (by decide) (fun _ => ?_) (fun c => absurd c (by omega))
  refine lv_aload_n hx hb dX6_follows_9 rfl (lv_at hl 0 rfl) ?_
  refine g_X6_39 B hP 0 rfl rfl dX6_follows_10 ?_
  refine lv_iconst (v := nI 0) hx hb dX6_follows_13 (by decide) ?_
  refine r_iald hx hb hK hP 9 0 rfl rfl (by omega) (by decide) dX6_follows_14 ?_
  refine r_eq hq0 ?_
  refine lv_istore_n (lv' := [(1, .int (nI pk)), (0, .ref (ad 0))]) hx hb dX6_follows_15 rfl hl (by decide) rfl (fun ls hl => ?_)
  refine lv_aload_n hx hb dX6_follows_16 rfl (lv_at hl 1 rfl) ?_
  refine g_X6_39 B hP 0 rfl rfl dX6_follows_17 ?_
  refine lv_iconst (v := nI 1) hx hb dX6_follows_20 (by decide) ?_
  refine r_iald hx hb hK hP 9 0 rfl rfl (by omega) (by decide) dX6_follows_21 ?_
  refine r_eq hq1 ?_
  refine lv_istore_n (lv' := [(2, .int (nI t)), (1, .int (nI pk)), (0, .ref (ad 0))]) hx hb dX6_follows_22 rfl hl (by decide) rfl (fun ls hl => ?_)
  refine lv_aload_n hx hb dX6_follows_23 rfl (lv_at hl 2 rfl) ?_
  refine g_X6_39 B hP 0 rfl rfl dX6_follows_24 ?_
  refine lv_iconst (v := nI 2) hx hb dX6_follows_27 (by decide) ?_
  refine r_iald hx hb hK hP 9 0 rfl rfl (by omega) (by decide) dX6_follows_28 ?_
  refine r_eq hq2 ?_
  refine lv_istore_n (lv' := [(3, .int (nI fm)), (2, .int (nI t)), (1, .int (nI pk)), (0, .ref (ad 0))]) hx hb dX6_follows_29 rfl hl (by decide) rfl (fun ls hl => ?_)
  refine lv_aload_n hx hb dX6_follows_30 rfl (lv_at hl 3 rfl) ?_
  refine g_X6_39 B hP 0 rfl rfl dX6_follows_31 ?_
  refine lv_iconst (v := nI 3) hx hb dX6_follows_34 (by decide) ?_
  refine r_iald hx hb hK hP 9 0 rfl rfl (by omega) (by decide) dX6_follows_35 ?_
  refine r_eq hq3 ?_
  refine lv_istore (lv' := [(4, .int (nI to_)), (3, .int (nI fm)), (2, .int (nI t)), (1, .int (nI pk)), (0, .ref (ad 0))]) hx hb dX6_follows_36 hl (by decide) rfl (fun ls hl => ?_)
  refine lv_aload_n hx hb dX6_follows_38 rfl (lv_at hl 4 rfl) ?_
  refine lv_dup hx hb dX6_follows_39 rfl ?_
  refine g_X6_108 B hP 0 rfl rfl dX6_follows_40 ?_
  refine lv_iconst (v := nI 1) hx hb dX6_follows_43 (by decide) ?_
  refine r_isub hx hb (by omega) dX6_follows_44 ?_
  refine p_X6_108 B hP hD hS 0 rfl (Nat.le_of_ble_eq_true rfl) dX6_follows_45 (fun H locs hP hD hS => ?_)
  have hP : va_P D vwCl (wR cI cZ ad co fa ic me sw cn ab go cp so gr re db rclk rlim (nI (rqd - 1)) (nI rpk) rwas rthr) H := hP
  have hD : va_D A (wR cI cZ ad co fa ic me sw cn ab go cp so gr re db rclk rlim (nI (rqd - 1)) (nI rpk) rwas rthr) := hD
  refine lv_iconst (v := nI 0) hx hb dX6_follows_48 (by decide) ?_
  refine lv_istore (lv' := [(5, .int (nI 0)), (4, .int (nI to_)), (3, .int (nI fm)), (2, .int (nI t)), (1, .int (nI pk)), (0, .ref (ad 0))]) hx hb dX6_follows_49 hl (by decide) rfl (fun ls hl => ?_)
  have L51 : ∀ (n51 : Nat) (k51 : Nat) (cp_51 : Nat → Int32), k51 + n51 = 4 * (rqd - 1) → f_X6_follows_n pk t fm to_ g s_ co fa ic me sw cn ab go cp re db rlim rqd rwas = (if (co ((10 * fm) + to_)) ≤ 0 then (nI 1, sw, cn, ab, go, (f_X6_follows_n_L51 rqd n51 k51 cp_51), re, db, rqd - 1, rwas + (nI 1)) else if (f_X6_root t ic) = (-1) then (nI 2, sw, cn, ab, go, (f_X6_follows_n_L51 rqd n51 k51 cp_51), re, db, rqd - 1, rwas + (nI 1)) else if (f_X6_hop to_ ((f_X6_root t ic).toNatClampNeg) co fa) = (nI fm) then (if ((f_X6_gets pk to_ t g s_ co fa ic me sw cn ab go (f_X6_follows_n_L51 rqd n51 k51 cp_51) re db rlim (rqd - 1) rwas).1) = true then (nI 4, (f_X6_gets pk to_ t g s_ co fa ic me sw cn ab go (f_X6_follows_n_L51 rqd n51 k51 cp_51) re db rlim (rqd - 1) rwas).2.1, (f_X6_gets pk to_ t g s_ co fa ic me sw cn ab go (f_X6_follows_n_L51 rqd n51 k51 cp_51) re db rlim (rqd - 1) rwas).2.2.1, (f_X6_gets pk to_ t g s_ co fa ic me sw cn ab go (f_X6_follows_n_L51 rqd n51 k51 cp_51) re db rlim (rqd - 1) rwas).2.2.2.1, (f_X6_gets pk to_ t g s_ co fa ic me sw cn ab go (f_X6_follows_n_L51 rqd n51 k51 cp_51) re db rlim (rqd - 1) rwas).2.2.2.2.1, (f_X6_gets pk to_ t g s_ co fa ic me sw cn ab go (f_X6_follows_n_L51 rqd n51 k51 cp_51) re db rlim (rqd - 1) rwas).2.2.2.2.2.1, (f_X6_gets pk to_ t g s_ co fa ic me sw cn ab go (f_X6_follows_n_L51 rqd n51 k51 cp_51) re db rlim (rqd - 1) rwas).2.2.2.2.2.2.1, (f_X6_gets pk to_ t g s_ co fa ic me sw cn ab go (f_X6_follows_n_L51 rqd n51 k51 cp_51) re db rlim (rqd - 1) rwas).2.2.2.2.2.2.2.1, (f_X6_gets pk to_ t g s_ co fa ic me sw cn ab go (f_X6_follows_n_L51 rqd n51 k51 cp_51) re db rlim (rqd - 1) rwas).2.2.2.2.2.2.2.2.1, (f_X6_gets pk to_ t g s_ co fa ic me sw cn ab go (f_X6_follows_n_L51 rqd n51 k51 cp_51) re db rlim (rqd - 1) rwas).2.2.2.2.2.2.2.2.2) else (nI 3, (f_X6_gets pk to_ t g s_ co fa ic me sw cn ab go (f_X6_follows_n_L51 rqd n51 k51 cp_51) re db rlim (rqd - 1) rwas).2.1, (f_X6_gets pk to_ t g s_ co fa ic me sw cn ab go (f_X6_follows_n_L51 rqd n51 k51 cp_51) re db rlim (rqd - 1) rwas).2.2.1, (f_X6_gets pk to_ t g s_ co fa ic me sw cn ab go (f_X6_follows_n_L51 rqd n51 k51 cp_51) re db rlim (rqd - 1) rwas).2.2.2.1, (f_X6_gets pk to_ t g s_ co fa ic me sw cn ab go (f_X6_follows_n_L51 rqd n51 k51 cp_51) re db rlim (rqd - 1) rwas).2.2.2.2.1, (f_X6_gets pk to_ t g s_ co fa ic me sw cn ab go (f_X6_follows_n_L51 rqd n51 k51 cp_51) re db rlim (rqd - 1) rwas).2.2.2.2.2.1, (f_X6_gets pk to_ t g s_ co fa ic me sw cn ab go (f_X6_follows_n_L51 rqd n51 k51 cp_51) re db rlim (rqd - 1) rwas).2.2.2.2.2.2.1, (f_X6_gets pk to_ t g s_ co fa ic me sw cn ab go (f_X6_follows_n_L51 rqd n51 k51 cp_51) re db rlim (rqd - 1) rwas).2.2.2.2.2.2.2.1, (f_X6_gets pk to_ t g s_ co fa ic me sw cn ab go (f_X6_follows_n_L51 rqd n51 k51 cp_51) re db rlim (rqd - 1) rwas).2.2.2.2.2.2.2.2.1, (f_X6_gets pk to_ t g s_ co fa ic me sw cn ab go (f_X6_follows_n_L51 rqd n51 k51 cp_51) re db rlim (rqd - 1) rwas).2.2.2.2.2.2.2.2.2)) else (nI 2, sw, cn, ab, go, (f_X6_follows_n_L51 rqd n51 k51 cp_51), re, db, rqd - 1, rwas + (nI 1))) → ∀ (H : Heap) (locs : List Loc), va_P D vwCl (wR cI cZ ad co fa ic me sw cn ab go cp_51 so gr re db rclk rlim (nI (rqd - 1)) (nI rpk) rwas rthr) H → va_D A (wR cI cZ ad co fa ic me sw cn ab go cp_51 so gr re db rclk rlim (nI (rqd - 1)) (nI rpk) rwas rthr) → va_S A s.heap H locs → ∀ ls : Array Slot, lv_has ls 7 [(0, .ref (ad 0)), (1, .int (nI pk)), (2, .int (nI t)), (3, .int (nI fm)), (4, .int (nI to_)), (5, .int (nI k51))] → W p l e { frames := 5, cells := 0, slots := 0, locals := 122 } s m [.ref (ad 0)].toArray below meth c H locs 0 0 (QI below s A D [.ref (ad 0)] (wR cI cZ ad co fa ic me ((f_X6_follows_n pk t fm to_ g s_ co fa ic me sw cn ab go cp re db rlim rqd rwas).2.1) ((f_X6_follows_n pk t fm to_ g s_ co fa ic me sw cn ab go cp re db rlim rqd rwas).2.2.1) ((f_X6_follows_n pk t fm to_ g s_ co fa ic me sw cn ab go cp re db rlim rqd rwas).2.2.2.1) ((f_X6_follows_n pk t fm to_ g s_ co fa ic me sw cn ab go cp re db rlim rqd rwas).2.2.2.2.1) ((f_X6_follows_n pk t fm to_ g s_ co fa ic me sw cn ab go cp re db rlim rqd rwas).2.2.2.2.2.1) so gr ((f_X6_follows_n pk t fm to_ g s_ co fa ic me sw cn ab go cp re db rlim rqd rwas).2.2.2.2.2.2.1) ((f_X6_follows_n pk t fm to_ g s_ co fa ic me sw cn ab go cp re db rlim rqd rwas).2.2.2.2.2.2.2.1) rclk rlim (nI ((f_X6_follows_n pk t fm to_ g s_ co fa ic me sw cn ab go cp re db rlim rqd rwas).2.2.2.2.2.2.2.2.1)) (nI rpk) ((f_X6_follows_n pk t fm to_ g s_ co fa ic me sw cn ab go cp re db rlim rqd rwas).2.2.2.2.2.2.2.2.2) rthr) ((f_X6_follows_n pk t fm to_ g s_ co fa ic me sw cn ab go cp re db rlim rqd rwas).1)) (F0 m 51 ls []) := by
    intro n51
    induction n51 with
    | zero =>
      intro k51 cp_51 hk51 hf H locs hP hD hS ls hl
      obtain rfl : 4 * (rqd - 1) = k51 := by omega
      rw [f_X6_follows_n_L51] at hf
      have hl : lv_has ls 7 [(0, .ref (ad 0)), (1, .int (nI pk)), (2, .int (nI t)), (3, .int (nI fm)), (4, .int (nI to_)), (5, .int (nI (4 * (rqd - 1))))] := hl
      refine lv_iload hx hb dX6_follows_51 (lv_at hl 5 rfl) ?_
      refine lv_iconst (v := nI 4) hx hb dX6_follows_53 (by decide) ?_
      refine lv_aload_n hx hb dX6_follows_54 rfl (lv_at hl 0 rfl) ?_
      refine g_X6_108 B hP 0 rfl rfl dX6_follows_55 ?_
      refine r_imul hx hb dX6_follows_58 ?_
      refine r_icmp_ge (tgt := 84) hx hb (by omega) (by omega) dX6_follows_59 (by decide) (fun _ => ?_) (fun c => absurd c (by omega))
      refine lv_aload_n hx hb dX6_follows_84 rfl (lv_at hl 0 rfl) ?_
      refine lv_iload_n hx hb dX6_follows_85 rfl (lv_at hl 2 rfl) ?_
      refine fV_i (ci := 6) (as := [.int (nI t)]) (rest := []) B hl.1 (c_X6_root l D cI cZ ad co fa ic me sw cn ab go cp_51 so gr re db rclk rlim (rqd - 1) rpk rwas rthr t (by omega)) rfl (l_RX6_65 hts ⟨rfl, rfl⟩ ⟨Nat.le_of_ble_eq_true rfl, Nat.le_of_ble_eq_true rfl⟩) m_9_18 m_9_19 rfl rfl hP hD hS hA 0 rfl wfR (Nat.le_of_ble_eq_true rfl) dX6_follows_86 (fun H locs hP hD hS => ?_)
      refine lv_istore (lv' := [(5, .int (f_X6_root t ic)), (0, .ref (ad 0)), (1, .int (nI pk)), (2, .int (nI t)), (3, .int (nI fm)), (4, .int (nI to_))]) hx hb dX6_follows_89 hl (by decide) rfl (fun ls hl => ?_)
      refine lv_aload_n hx hb dX6_follows_91 rfl (lv_at hl 1 rfl) ?_
      refine g_X6_13 B hP 0 rfl rfl dX6_follows_92 ?_
      refine lv_bipush (v := nI 10) hx hb dX6_follows_95 (by decide) ?_
      refine lv_iload_n hx hb dX6_follows_97 rfl (lv_at hl 4 rfl) ?_
      refine r_imul hx hb dX6_follows_98 ?_
      refine lv_iload hx hb dX6_follows_99 (lv_at hl 5 rfl) ?_
      refine r_iadd hx hb dX6_follows_101 ?_
      refine r_iald hx hb hK hP 1 0 rfl rfl (by omega) (by decide) dX6_follows_102 ?_
      refine lv_if_le (tgt := 110) hx hb dX6_follows_103 (by decide) (fun c2 => ?_) (fun c2 => ?_)
      · have hf := hf.trans (if_pos c2)
        refine lv_iconst (v := nI 0) hx hb dX6_follows_110 (by decide) ?_
        refine lv_istore (lv' := [(6, .int (nI 0)), (5, .int (f_X6_root t ic)), (0, .ref (ad 0)), (1, .int (nI pk)), (2, .int (nI t)), (3, .int (nI fm)), (4, .int (nI to_))]) hx hb dX6_follows_111 hl (by decide) rfl (fun ls hl => ?_)
        refine lv_iload hx hb dX6_follows_113 (lv_at hl 0 rfl) ?_
        refine r_if_eq (tgt := 136) hx hb (by omega) dX6_follows_115 (by decide) (fun _ => ?_) (fun c => absurd c (by omega))
        refine lv_aload_n hx hb dX6_follows_136 rfl (lv_at hl 2 rfl) ?_
        refine lv_dup hx hb dX6_follows_137 rfl ?_
        refine g_X6_111 B hP 0 rfl rfl dX6_follows_138 ?_
        refine lv_iconst (v := nI 1) hx hb dX6_follows_141 (by decide) ?_
        refine lv_iadd hx hb dX6_follows_142 ?_
        refine p_X6_111 B hP hD hS 0 rfl (Nat.le_of_ble_eq_true rfl) dX6_follows_143 (fun H locs hP hD hS => ?_)
        have hP : va_P D vwCl (wR cI cZ ad co fa ic me sw cn ab go cp_51 so gr re db rclk rlim (nI (rqd - 1)) (nI rpk) (rwas + (nI 1)) rthr) H := hP
        have hD : va_D A (wR cI cZ ad co fa ic me sw cn ab go cp_51 so gr re db rclk rlim (nI (rqd - 1)) (nI rpk) (rwas + (nI 1)) rthr) := hD
        refine lv_iload hx hb dX6_follows_146 (lv_at hl 0 rfl) ?_
        refine r_if_eq (tgt := 155) hx hb (by omega) dX6_follows_148 (by decide) (fun _ => ?_) (fun c => absurd c (by omega))
        refine lv_iconst (v := nI 1) hx hb dX6_follows_155 (by decide) ?_
        exact eI B hP hS (by simp only [hf]) (by simp only [hf]) dX6_follows_156
      · have hf := hf.trans (if_neg c2)
        refine lv_iconst (v := nI 1) hx hb dX6_follows_106 (by decide) ?_
        refine lv_goto (tgt := 111) hx hb dX6_follows_107 (by decide) ?_
        refine lv_istore (lv' := [(6, .int (nI 1)), (5, .int (f_X6_root t ic)), (0, .ref (ad 0)), (1, .int (nI pk)), (2, .int (nI t)), (3, .int (nI fm)), (4, .int (nI to_))]) hx hb dX6_follows_111 hl (by decide) rfl (fun ls hl => ?_)
        refine lv_iload hx hb dX6_follows_113 (lv_at hl 0 rfl) ?_
        refine r_if_eq (tgt := 136) hx hb (by omega) dX6_follows_115 (by decide) (fun c => absurd c (by omega)) (fun _ => ?_)
        refine lv_iload hx hb dX6_follows_118 (lv_at hl 1 rfl) ?_
        refine lv_iconst (v := -1) hx hb dX6_follows_120 (by decide) ?_
        refine lv_icmp_eq (tgt := 136) hx hb dX6_follows_121 (by decide) (fun c3 => ?_) (fun c3 => ?_)
        · have hf := hf.trans (if_pos c3)
          refine lv_aload_n hx hb dX6_follows_136 rfl (lv_at hl 2 rfl) ?_
          refine lv_dup hx hb dX6_follows_137 rfl ?_
          refine g_X6_111 B hP 0 rfl rfl dX6_follows_138 ?_
          refine lv_iconst (v := nI 1) hx hb dX6_follows_141 (by decide) ?_
          refine lv_iadd hx hb dX6_follows_142 ?_
          refine p_X6_111 B hP hD hS 0 rfl (Nat.le_of_ble_eq_true rfl) dX6_follows_143 (fun H locs hP hD hS => ?_)
          have hP : va_P D vwCl (wR cI cZ ad co fa ic me sw cn ab go cp_51 so gr re db rclk rlim (nI (rqd - 1)) (nI rpk) (rwas + (nI 1)) rthr) H := hP
          have hD : va_D A (wR cI cZ ad co fa ic me sw cn ab go cp_51 so gr re db rclk rlim (nI (rqd - 1)) (nI rpk) (rwas + (nI 1)) rthr) := hD
          refine lv_iload hx hb dX6_follows_146 (lv_at hl 0 rfl) ?_
          refine r_if_eq (tgt := 155) hx hb (by omega) dX6_follows_148 (by decide) (fun c => absurd c (by omega)) (fun _ => ?_)
          refine lv_iconst (v := nI 2) hx hb dX6_follows_151 (by decide) ?_
          refine lv_goto (tgt := 156) hx hb dX6_follows_152 (by decide) ?_
          exact eI B hP hS (by simp only [hf]) (by simp only [hf]) dX6_follows_156
        · have hf := hf.trans (if_neg c3)
          have ej121 := ((root_ok t ic).resolve_left c3).1
          have hj121 := ((root_ok t ic).resolve_left c3).2
          refine lv_aload_n hx hb dX6_follows_124 rfl (lv_at hl 2 rfl) ?_
          refine lv_iload hx hb dX6_follows_125 (lv_at hl 6 rfl) ?_
          refine lv_iload hx hb dX6_follows_127 (lv_at hl 1 rfl) ?_
          refine r_eq ej121 ?_
          refine fV_i (ci := 6) (as := [.int (nI to_), .int (nI ((f_X6_root t ic).toNatClampNeg))]) (rest := []) B hl.1 (c_X6_hop l D cI cZ ad co fa ic me sw cn ab go cp_51 so gr re db rclk rlim (rqd - 1) rpk rwas rthr to_ ((f_X6_root t ic).toNatClampNeg) (by omega) (by omega)) rfl (l_RX6_68 hts ⟨rfl, rfl⟩ ⟨Nat.le_of_ble_eq_true rfl, Nat.le_of_ble_eq_true rfl⟩) m_10_2 m_10_3 rfl rfl hP hD hS hA 0 rfl wfR (Nat.le_of_ble_eq_true rfl) dX6_follows_129 (fun H locs hP hD hS => ?_)
          refine lv_iload_n hx hb dX6_follows_132 rfl (lv_at hl 5 rfl) ?_
          refine lv_icmp_eq (tgt := 157) hx hb dX6_follows_133 (by decide) (fun c4 => ?_) (fun c4 => ?_)
          · have hf := hf.trans (if_pos c4)
            refine lv_aload_n hx hb dX6_follows_157 rfl (lv_at hl 2 rfl) ?_
            refine lv_iload_n hx hb dX6_follows_158 rfl (lv_at hl 3 rfl) ?_
            refine lv_iload hx hb dX6_follows_159 (lv_at hl 6 rfl) ?_
            refine lv_iload_n hx hb dX6_follows_161 rfl (lv_at hl 4 rfl) ?_
            refine fV_i (ci := 6) (as := [.int (nI pk), .int (nI to_), .int (nI t)]) (rest := []) B hl.1 (c_X6_gets l D cI cZ ad co fa ic me sw cn ab go cp_51 so gr re db rclk rlim (rqd - 1) rpk rwas rthr pk to_ t g s_ (by omega) (by omega) (by omega) (by omega) (by omega) (by omega) hHE hpg hpso) rfl (l_RX6_124 hts ⟨rfl, rfl⟩ ⟨Nat.le_of_ble_eq_true rfl, Nat.le_of_ble_eq_true rfl⟩) m_22_18 m_22_19 rfl rfl hP hD hS hA 0 rfl wfR (Nat.le_of_ble_eq_true rfl) dX6_follows_162 (fun H locs hP hD hS => ?_)
            have hq5 := fb_X6_gets_rqd pk to_ t g s_ co fa ic me sw cn ab go cp_51 re db rlim (rqd - 1) rwas (by omega)
            refine r_if_eq_b (tgt := 172) hx hb dX6_follows_165 (by decide) (fun c6 => ?_) (fun c6 => ?_)
            · have hf := hf.trans (if_neg c6)
              refine lv_iconst (v := nI 3) hx hb dX6_follows_172 (by decide) ?_
              exact eI B hP hS (by simp only [hf]) (by simp only [hf]) dX6_follows_173
            · have hf := hf.trans (if_pos c6)
              refine lv_iconst (v := nI 4) hx hb dX6_follows_168 (by decide) ?_
              refine lv_goto (tgt := 173) hx hb dX6_follows_169 (by decide) ?_
              exact eI B hP hS (by simp only [hf]) (by simp only [hf]) dX6_follows_173
          · have hf := hf.trans (if_neg c4)
            refine lv_aload_n hx hb dX6_follows_136 rfl (lv_at hl 2 rfl) ?_
            refine lv_dup hx hb dX6_follows_137 rfl ?_
            refine g_X6_111 B hP 0 rfl rfl dX6_follows_138 ?_
            refine lv_iconst (v := nI 1) hx hb dX6_follows_141 (by decide) ?_
            refine lv_iadd hx hb dX6_follows_142 ?_
            refine p_X6_111 B hP hD hS 0 rfl (Nat.le_of_ble_eq_true rfl) dX6_follows_143 (fun H locs hP hD hS => ?_)
            have hP : va_P D vwCl (wR cI cZ ad co fa ic me sw cn ab go cp_51 so gr re db rclk rlim (nI (rqd - 1)) (nI rpk) (rwas + (nI 1)) rthr) H := hP
            have hD : va_D A (wR cI cZ ad co fa ic me sw cn ab go cp_51 so gr re db rclk rlim (nI (rqd - 1)) (nI rpk) (rwas + (nI 1)) rthr) := hD
            refine lv_iload hx hb dX6_follows_146 (lv_at hl 0 rfl) ?_
            refine r_if_eq (tgt := 155) hx hb (by omega) dX6_follows_148 (by decide) (fun c => absurd c (by omega)) (fun _ => ?_)
            refine lv_iconst (v := nI 2) hx hb dX6_follows_151 (by decide) ?_
            refine lv_goto (tgt := 156) hx hb dX6_follows_152 (by decide) ?_
            exact eI B hP hS (by simp only [hf]) (by simp only [hf]) dX6_follows_156
    | succ n51 ih51 =>
      intro k51 cp_51 hk51 hf H locs hP hD hS ls hl
      rw [f_X6_follows_n_L51] at hf
      have hl : lv_has ls 7 [(0, .ref (ad 0)), (1, .int (nI pk)), (2, .int (nI t)), (3, .int (nI fm)), (4, .int (nI to_)), (5, .int (nI k51))] := hl
      refine lv_iload hx hb dX6_follows_51 (lv_at hl 5 rfl) ?_
      refine lv_iconst (v := nI 4) hx hb dX6_follows_53 (by decide) ?_
      refine lv_aload_n hx hb dX6_follows_54 rfl (lv_at hl 0 rfl) ?_
      refine g_X6_108 B hP 0 rfl rfl dX6_follows_55 ?_
      refine r_imul hx hb dX6_follows_58 ?_
      refine r_icmp_ge (tgt := 84) hx hb (by omega) (by omega) dX6_follows_59 (by decide) (fun c => absurd c (by omega)) (fun _ => ?_)
      refine lv_aload_n hx hb dX6_follows_62 rfl (lv_at hl 0 rfl) ?_
      refine g_X6_39 B hP 0 rfl rfl dX6_follows_63 ?_
      refine lv_iload hx hb dX6_follows_66 (lv_at hl 5 rfl) ?_
      refine lv_aload_n hx hb dX6_follows_68 rfl (lv_at hl 0 rfl) ?_
      refine g_X6_39 B hP 0 rfl rfl dX6_follows_69 ?_
      refine lv_iload hx hb dX6_follows_72 (lv_at hl 5 rfl) ?_
      refine lv_iconst (v := nI 4) hx hb dX6_follows_74 (by decide) ?_
      refine r_iadd hx hb dX6_follows_75 ?_
      refine r_iald hx hb hK hP 9 0 rfl rfl (by omega) (by decide) dX6_follows_76 ?_
      refine r_iast hx hb hK hP hD hS 9 0 rfl rfl (by omega) (by decide) dX6_follows_77 (fun H locs hP hD hS => ?_)
      have hP : va_P D vwCl (wR cI cZ ad co fa ic me sw cn ab go (upd cp_51 k51 (cp_51 (k51 + 4))) so gr re db rclk rlim (nI (rqd - 1)) (nI rpk) rwas rthr) H := hP
      have hD : va_D A (wR cI cZ ad co fa ic me sw cn ab go (upd cp_51 k51 (cp_51 (k51 + 4))) so gr re db rclk rlim (nI (rqd - 1)) (nI rpk) rwas rthr) := hD
      refine lv_iinc (v := nI (k51 + 1)) (lv' := [(5, .int (nI (k51 + 1))), (0, .ref (ad 0)), (1, .int (nI pk)), (2, .int (nI t)), (3, .int (nI fm)), (4, .int (nI to_))]) hx hb dX6_follows_78 hl (k := 5) rfl (nI_add _ _) (by decide) rfl (fun ls hl => ?_)
      refine lv_goto (tgt := 51) hx hb dX6_follows_81 (by decide) ?_
      exact ih51 (k51 + 1) (upd cp_51 k51 (cp_51 (k51 + 4))) (by omega) hf _ _ hP hD hS _ (lv_sub hl [1, 2, 3, 4, 5, 0] rfl)
  exact L51 (4 * (rqd - 1)) 0 cp (by omega) hf _ _ hP hD hS _ (lv_sub hl [5, 4, 3, 2, 1, 0] rfl)
set_option maxHeartbeats 4000000 in
set_option maxRecDepth 100000 in
theorem c_X6_follow_e (l : Launch) (D : va_G) (cI cZ : ClassId) (ad : Nat → Nat) (co fa ic me sw cn ab go cp so gr re db : Nat → Int32) (rclk : Int32) (rlim : Int32) (rqd : Nat) (rpk : Nat) (rwas : Int32) (rthr : Int32) (hrqd : rqd ≤ 200) (hn1rqd : rqd ≤ 0) : MI l yX6_follow cX6_follow 1 .int { frames := 1, cells := 0, slots := 0, locals := 26 } D (TY cI cZ) [.ref (ad 0)] (wR cI cZ ad co fa ic me sw cn ab go cp so gr re db rclk rlim (nI rqd) (nI rpk) rwas rthr) (wR cI cZ ad co fa ic me sw cn ab go cp so gr re db rclk rlim (nI rqd) (nI rpk) rwas (nI 0)) (nI 0) := by
  refine MI.mk ⟨rfl, rfl⟩ (by decide +kernel) (Nat.le_of_ble_eq_true rfl) ?_
  intro p e s m below meth c A ls B hA hP hD hS hl
  have hx := B.1
  have hb := B.2.1
  have hts := B.2.2.2.2.2.1
  have hN := B.2.2.2.2.2.2.2.1
  have hK := B.2.2.2.2.2.2.2.2.1
  have hl : lv_has ls 1 [(0, .ref (ad 0))] := hl
  refine lv_aload_n hx hb dX6_follow_0 rfl (lv_at hl 0 rfl) ?_
  refine lv_iconst (v := nI 0) hx hb dX6_follow_1 (by decide) ?_
  refine p_X6_57 B hP hD hS 0 rfl (Nat.le_of_ble_eq_true rfl) dX6_follow_2 (fun H locs hP hD hS => ?_)
  have hP : va_P D vwCl (wR cI cZ ad co fa ic me sw cn ab go cp so gr re db rclk rlim (nI rqd) (nI rpk) rwas (nI 0)) H := hP
  have hD : va_D A (wR cI cZ ad co fa ic me sw cn ab go cp so gr re db rclk rlim (nI rqd) (nI rpk) rwas (nI 0)) := hD
  refine lv_aload_n hx hb dX6_follow_5 rfl (lv_at hl 0 rfl) ?_
  refine fV_i (ci := 6) (as := []) (rest := []) B hl.1 (c_X6_follows_e l D cI cZ ad co fa ic me sw cn ab go cp so gr re db rclk rlim rqd rpk rwas (nI 0) (by omega) hn1rqd) rfl (l_RX6_128 hts ⟨rfl, rfl⟩ ⟨Nat.le_of_ble_eq_true rfl, Nat.le_of_ble_eq_true rfl⟩) m_24_20 m_24_21 rfl rfl hP hD hS hA 0 rfl wfR (Nat.le_of_ble_eq_true rfl) dX6_follow_6 (fun H locs hP hD hS => ?_)
  exact eI B hP hS rfl rfl dX6_follow_9
set_option maxHeartbeats 4000000 in
set_option maxRecDepth 100000 in
theorem c_X6_follow_n (l : Launch) (D : va_G) (cI cZ : ClassId) (ad : Nat → Nat) (co fa ic me sw cn ab go cp so gr re db : Nat → Int32) (rclk : Int32) (rlim : Int32) (rqd : Nat) (rpk : Nat) (rwas : Int32) (rthr : Int32) (pk : Nat) (t : Nat) (fm : Nat) (to_ : Nat) (g : Nat) (s_ : Nat) (hpk : pk < 200) (ht : t < 44) (hfm : fm < 10) (hto_ : to_ < 10) (hg : g < 4) (hs_ : s_ < 10) (hrqd : rqd ≤ 200) (hHE : HEnd co fa ic) (hq0 : cp 0 = nI pk) (hq1 : cp 1 = nI t) (hq2 : cp 2 = nI fm) (hq3 : cp 3 = nI to_) (hpg : gr pk = nI g) (hpso : so pk = nI s_) (hn1rqd : rqd ≤ 200) (hn0rqd : 1 ≤ rqd) : MI l yX6_follow cX6_follow 1 .int { frames := 6, cells := 0, slots := 0, locals := 148 } D (TY cI cZ) [.ref (ad 0)] (wR cI cZ ad co fa ic me sw cn ab go cp so gr re db rclk rlim (nI rqd) (nI rpk) rwas rthr) (wR cI cZ ad co fa ic me ((f_X6_follows_n pk t fm to_ g s_ co fa ic me sw cn ab go cp re db rlim rqd rwas).2.1) ((f_X6_follows_n pk t fm to_ g s_ co fa ic me sw cn ab go cp re db rlim rqd rwas).2.2.1) ((f_X6_follows_n pk t fm to_ g s_ co fa ic me sw cn ab go cp re db rlim rqd rwas).2.2.2.1) ((f_X6_follows_n pk t fm to_ g s_ co fa ic me sw cn ab go cp re db rlim rqd rwas).2.2.2.2.1) ((f_X6_follows_n pk t fm to_ g s_ co fa ic me sw cn ab go cp re db rlim rqd rwas).2.2.2.2.2.1) so gr ((f_X6_follows_n pk t fm to_ g s_ co fa ic me sw cn ab go cp re db rlim rqd rwas).2.2.2.2.2.2.1) ((f_X6_follows_n pk t fm to_ g s_ co fa ic me sw cn ab go cp re db rlim rqd rwas).2.2.2.2.2.2.2.1) rclk rlim (nI ((f_X6_follows_n pk t fm to_ g s_ co fa ic me sw cn ab go cp re db rlim rqd rwas).2.2.2.2.2.2.2.2.1)) (nI rpk) ((f_X6_follows_n pk t fm to_ g s_ co fa ic me sw cn ab go cp re db rlim rqd rwas).2.2.2.2.2.2.2.2.2) (nI 0)) ((f_X6_follows_n pk t fm to_ g s_ co fa ic me sw cn ab go cp re db rlim rqd rwas).1) := by
  refine MI.mk ⟨rfl, rfl⟩ (by decide +kernel) (Nat.le_of_ble_eq_true rfl) ?_
  intro p e s m below meth c A ls B hA hP hD hS hl
  have hx := B.1
  have hb := B.2.1
  have hts := B.2.2.2.2.2.1
  have hN := B.2.2.2.2.2.2.2.1
  have hK := B.2.2.2.2.2.2.2.2.1
  have hl : lv_has ls 1 [(0, .ref (ad 0))] := hl
  refine lv_aload_n hx hb dX6_follow_0 rfl (lv_at hl 0 rfl) ?_
  refine lv_iconst (v := nI 0) hx hb dX6_follow_1 (by decide) ?_
  refine p_X6_57 B hP hD hS 0 rfl (Nat.le_of_ble_eq_true rfl) dX6_follow_2 (fun H locs hP hD hS => ?_)
  have hP : va_P D vwCl (wR cI cZ ad co fa ic me sw cn ab go cp so gr re db rclk rlim (nI rqd) (nI rpk) rwas (nI 0)) H := hP
  have hD : va_D A (wR cI cZ ad co fa ic me sw cn ab go cp so gr re db rclk rlim (nI rqd) (nI rpk) rwas (nI 0)) := hD
  refine lv_aload_n hx hb dX6_follow_5 rfl (lv_at hl 0 rfl) ?_
  refine fV_i (ci := 6) (as := []) (rest := []) B hl.1 (c_X6_follows_n l D cI cZ ad co fa ic me sw cn ab go cp so gr re db rclk rlim rqd rpk rwas (nI 0) pk t fm to_ g s_ (by omega) (by omega) (by omega) (by omega) (by omega) (by omega) (by omega) hHE hq0 hq1 hq2 hq3 hpg hpso hn1rqd hn0rqd) rfl (l_RX6_128 hts ⟨rfl, rfl⟩ ⟨Nat.le_of_ble_eq_true rfl, Nat.le_of_ble_eq_true rfl⟩) m_24_20 m_24_21 rfl rfl hP hD hS hA 0 rfl wfR (Nat.le_of_ble_eq_true rfl) dX6_follow_6 (fun H locs hP hD hS => ?_)
  have hq1 := fb_X6_follows_n_rqd pk t fm to_ g s_ co fa ic me sw cn ab go cp re db rlim rqd rwas (by omega)
  exact eI B hP hS rfl rfl dX6_follow_9
