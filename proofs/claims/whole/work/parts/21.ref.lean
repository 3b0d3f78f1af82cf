def f_X6_graft_L18 (t : Nat) (co : Nat → Int32) (fa : Nat → Int32) (ic : Nat → Int32) : Nat → Int32 → (Nat → Int32) → (Nat → Int32) → (Nat → Int32) × (Nat → Int32)
  | 0, x4_18, ab_18, go_18 => (ab_18, go_18)
  | n18 + 1, x4_18, ab_18, go_18 => if x4_18 = (-1) then (ab_18, go_18) else if x4_18.toNatClampNeg = ((f_X6_root t ic).toNatClampNeg) then (ab_18, go_18) else if (ab_18 ((10 * t) + x4_18.toNatClampNeg)) = (-1) then f_X6_graft_L18 t co fa ic n18 ((upd ab_18 ((10 * t) + x4_18.toNatClampNeg) (f_X6_hop x4_18.toNatClampNeg ((f_X6_root t ic).toNatClampNeg) co fa)) ((10 * t) + x4_18.toNatClampNeg)) (upd ab_18 ((10 * t) + x4_18.toNatClampNeg) (f_X6_hop x4_18.toNatClampNeg ((f_X6_root t ic).toNatClampNeg) co fa)) (upd go_18 ((10 * t) + x4_18.toNatClampNeg) (-1)) else (upd ab_18 ((10 * t) + x4_18.toNatClampNeg) (ab_18 ((10 * t) + x4_18.toNatClampNeg)), upd go_18 ((10 * t) + x4_18.toNatClampNeg) (-1))
def e_X6_graft_L18 (t : Nat) (co : Nat → Int32) (fa : Nat → Int32) (ic : Nat → Int32) : Nat → Int32 → (Nat → Int32) → (Nat → Int32) → Prop
  | 0, _, _, _ => False
  | n18 + 1, x4_18, ab_18, go_18 => if x4_18 = (-1) then True else if x4_18.toNatClampNeg = ((f_X6_root t ic).toNatClampNeg) then True else if (ab_18 ((10 * t) + x4_18.toNatClampNeg)) = (-1) then e_X6_graft_L18 t co fa ic n18 ((upd ab_18 ((10 * t) + x4_18.toNatClampNeg) (f_X6_hop x4_18.toNatClampNeg ((f_X6_root t ic).toNatClampNeg) co fa)) ((10 * t) + x4_18.toNatClampNeg)) (upd ab_18 ((10 * t) + x4_18.toNatClampNeg) (f_X6_hop x4_18.toNatClampNeg ((f_X6_root t ic).toNatClampNeg) co fa)) (upd go_18 ((10 * t) + x4_18.toNatClampNeg) (-1)) else True
def f_X6_graft (t : Nat) (r : Nat) (co : Nat → Int32) (fa : Nat → Int32) (ic : Nat → Int32) (ab : Nat → Int32) (go : Nat → Int32) : (Nat → Int32) × (Nat → Int32) :=
  if (f_X6_root t ic) = (-1) then (ab, go) else f_X6_graft_L18 t co fa ic 11 (nI r) ab go
def HEnd (co fa ic : Nat → Int32) : Prop := ∀ (t r : Nat) (ab go : Nat → Int32), t < 44 → r < 10 → ¬ (f_X6_root t ic) = (-1) → e_X6_graft_L18 t co fa ic 11 (nI r) ab go
set_option maxHeartbeats 4000000 in
set_option maxRecDepth 100000 in
theorem c_X6_graft (l : Launch) (D : va_G) (cI cZ : ClassId) (ad : Nat → Nat) (co fa ic me sw cn ab go cp so gr re db : Nat → Int32) (rclk : Int32) (rlim : Int32) (rqd : Nat) (rpk : Nat) (rwas : Int32) (rthr : Int32) (t : Nat) (r : Nat) (ht : t < 44) (hr : r < 10) (hHE : HEnd co fa ic) : MV l yX6_graft cX6_graft 7 { frames := 2, cells := 0, slots := 0, locals := 47 } D (TY cI cZ) [.ref (ad 0), .int (nI t), .int (nI r)] (wR cI cZ ad co fa ic me sw cn ab go cp so gr re db rclk rlim (nI rqd) (nI rpk) rwas rthr) (wR cI cZ ad co fa ic me sw cn ((f_X6_graft t r co fa ic ab go).1) ((f_X6_graft t r co fa ic ab go).2) cp so gr re db rclk rlim (nI rqd) (nI rpk) rwas rthr) := by
  refine MV.mk ⟨rfl, rfl⟩ (by decide +kernel) (Nat.le_of_ble_eq_true rfl) ?_
  intro p e s m below meth c A ls B hA hP hD hS hl
  have hx := B.1
  have hb := B.2.1
  have hts := B.2.2.2.2.2.1
  have hN := B.2.2.2.2.2.2.2.1
  have hK := B.2.2.2.2.2.2.2.2.1
  have hl : lv_has ls 7 [(0, .ref (ad 0)), (1, .int (nI t)), (2, .int (nI r))] := hl
  have hf := f_X6_graft.eq_1 t r co fa ic ab go
  refine lv_aload_n hx hb dX6_graft_0 rfl (lv_at hl 0 rfl) ?_
  refine lv_iload_n hx hb dX6_graft_1 rfl (lv_at hl 1 rfl) ?_
  refine fV_i (ci := 6) (as := [.int (nI t)]) (rest := []) B hl.1 (c_X6_root l D cI cZ ad co fa ic me sw cn ab go cp so gr re db rclk rlim rqd rpk rwas rthr t (by omega)) rfl (l_RX6_65 hts ⟨rfl, rfl⟩ ⟨Nat.le_of_ble_eq_true rfl, Nat.le_of_ble_eq_true rfl⟩) m_9_18 m_9_19 rfl rfl hP hD hS hA 0 rfl wfR (Nat.le_of_ble_eq_true rfl) dX6_graft_2 (fun H locs hP hD hS => ?_)
  refine lv_istore_n (lv' := [(3, .int (f_X6_root t ic)), (0, .ref (ad 0)), (1, .int (nI t)), (2, .int (nI r))]) hx hb dX6_graft_5 rfl hl (by decide) rfl (fun ls hl => ?_)
  refine lv_iload_n hx hb dX6_graft_6 rfl (lv_at hl 0 rfl) ?_
  refine lv_iconst (v := -1) hx hb dX6_graft_7 (by decide) ?_
  refine lv_icmp_ne (tgt := 15) hx hb dX6_graft_8 (by decide) (fun c1 => ?_) (fun c1 => ?_)
  · have hf := hf.trans (if_neg c1)
    have ej8 := ((root_ok t ic).resolve_left c1).1
    have hj8 := ((root_ok t ic).resolve_left c1).2
    refine lv_iload_n hx hb dX6_graft_15 rfl (lv_at hl 3 rfl) ?_
    refine lv_istore (lv' := [(4, .int (nI r)), (3, .int (f_X6_root t ic)), (0, .ref (ad 0)), (1, .int (nI t)), (2, .int (nI r))]) hx hb dX6_graft_16 hl (by decide) rfl (fun ls hl => ?_)
    have L18 : ∀ (n18 : Nat) (x4_18 : Int32) (ab_18 : Nat → Int32) (go_18 : Nat → Int32), okA x4_18 → f_X6_graft t r co fa ic ab go = (f_X6_graft_L18 t co fa ic n18 x4_18 ab_18 go_18) → e_X6_graft_L18 t co fa ic n18 x4_18 ab_18 go_18 → ∀ (H : Heap) (locs : List Loc), va_P D vwCl (wR cI cZ ad co fa ic me sw cn ab_18 go_18 cp so gr re db rclk rlim (nI rqd) (nI rpk) rwas rthr) H → va_D A (wR cI cZ ad co fa ic me sw cn ab_18 go_18 cp so gr re db rclk rlim (nI rqd) (nI rpk) rwas rthr) → va_S A s.heap H locs → ∀ ls : Array Slot, lv_has ls 7 [(0, .ref (ad 0)), (1, .int (nI t)), (2, .int (nI r)), (3, .int (f_X6_root t ic)), (4, .int x4_18)] → W p l e { frames := 2, cells := 0, slots := 0, locals := 47 } s m [.ref (ad 0), .int (nI t), .int (nI r)].toArray below meth c H locs 0 0 (QV below s A D [.ref (ad 0), .int (nI t), .int (nI r)] (wR cI cZ ad co fa ic me sw cn ((f_X6_graft t r co fa ic ab go).1) ((f_X6_graft t r co fa ic ab go).2) cp so gr re db rclk rlim (nI rqd) (nI rpk) rwas rthr)) (F0 m 18 ls []) := by
      intro n18
      induction n18 with
      | zero =>
        intro x4_18 ab_18 go_18 hi18_0 hf hE H locs hP hD hS ls hl
        exact (show False from hE).elim
      | succ n18 ih18 =>
        intro x4_18 ab_18 go_18 hi18_0 hf hE H locs hP hD hS ls hl
        rw [f_X6_graft_L18] at hf
        rw [e_X6_graft_L18] at hE
        have hl : lv_has ls 7 [(0, .ref (ad 0)), (1, .int (nI t)), (2, .int (nI r)), (3, .int (f_X6_root t ic)), (4, .int x4_18)] := hl
        refine lv_iload hx hb dX6_graft_18 (lv_at hl 4 rfl) ?_
        refine lv_iconst (v := -1) hx hb dX6_graft_20 (by decide) ?_
        refine lv_icmp_eq (tgt := 115) hx hb dX6_graft_21 (by decide) (fun c8 => ?_) (fun c8 => ?_)
        · have hf := hf.trans (if_pos c8)
          rw [if_pos c8] at hE
          exact eV B hP hS (by simp only [hf]) dX6_graft_115
        · have hf := hf.trans (if_neg c8)
          rw [if_neg c8] at hE
          have ej21 := (hi18_0.resolve_left c8).1
          have hj21 := (hi18_0.resolve_left c8).2
          refine lv_iload hx hb dX6_graft_24 (lv_at hl 4 rfl) ?_
          refine r_eq ej21 ?_
          refine lv_iload_n hx hb dX6_graft_26 rfl (lv_at hl 3 rfl) ?_
          refine r_eq ej8 ?_
          refine r_icmp_eq (tgt := 115) hx hb (by omega) (by omega) dX6_graft_27 (by decide) (fun c9 => ?_) (fun c9 => ?_)
          · have hf := hf.trans (if_pos c9)
            rw [if_pos c9] at hE
            exact eV B hP hS (by simp only [hf]) dX6_graft_115
          · have hf := hf.trans (if_neg c9)
            rw [if_neg c9] at hE
            refine lv_bipush (v := nI 10) hx hb dX6_graft_30 (by decide) ?_
            refine lv_iload_n hx hb dX6_graft_32 rfl (lv_at hl 1 rfl) ?_
            refine r_imul hx hb dX6_graft_33 ?_
            refine lv_iload hx hb dX6_graft_34 (lv_at hl 4 rfl) ?_
            refine r_eq ej21 ?_
            refine r_iadd hx hb dX6_graft_36 ?_
            refine lv_istore (lv' := [(5, .int (nI ((10 * t) + x4_18.toNatClampNeg))), (0, .ref (ad 0)), (1, .int (nI t)), (2, .int (nI r)), (3, .int (f_X6_root t ic)), (4, .int x4_18)]) hx hb dX6_graft_37 hl (by decide) rfl (fun ls hl => ?_)
            refine lv_aload_n hx hb dX6_graft_39 rfl (lv_at hl 1 rfl) ?_
            refine g_X6_33 B hP 0 rfl rfl dX6_graft_40 ?_
            refine lv_iload hx hb dX6_graft_43 (lv_at hl 0 rfl) ?_
            refine r_iald hx hb hK hP 7 0 rfl rfl (by omega) (by decide) dX6_graft_45 ?_
            refine lv_iconst (v := -1) hx hb dX6_graft_46 (by decide) ?_
            refine lv_icmp_eq (tgt := 54) hx hb dX6_graft_47 (by decide) (fun c10 => ?_) (fun c10 => ?_)
            · have hf := hf.trans (if_pos c10)
              rw [if_pos c10] at hE
              refine lv_iconst (v := nI 0) hx hb dX6_graft_54 (by decide) ?_
              refine lv_istore (lv' := [(6, .int (nI 0)), (5, .int (nI ((10 * t) + x4_18.toNatClampNeg))), (0, .ref (ad 0)), (1, .int (nI t)), (2, .int (nI r)), (3, .int (f_X6_root t ic)), (4, .int x4_18)]) hx hb dX6_graft_55 hl (by decide) rfl (fun ls hl => ?_)
              refine lv_aload_n hx hb dX6_graft_57 rfl (lv_at hl 2 rfl) ?_
              refine g_X6_33 B hP 0 rfl rfl dX6_graft_58 ?_
              refine lv_iload hx hb dX6_graft_61 (lv_at hl 1 rfl) ?_
              refine lv_iload hx hb dX6_graft_63 (lv_at hl 0 rfl) ?_
              refine r_if_eq (tgt := 78) hx hb (by omega) dX6_graft_65 (by decide) (fun _ => ?_) (fun c => absurd c (by omega))
              refine lv_aload_n hx hb dX6_graft_78 rfl (lv_at hl 2 rfl) ?_
              refine lv_iload hx hb dX6_graft_79 (lv_at hl 6 rfl) ?_
              refine r_eq ej21 ?_
              refine lv_iload_n hx hb dX6_graft_81 rfl (lv_at hl 5 rfl) ?_
              refine r_eq ej8 ?_
              refine fV_i (ci := 6) (as := [.int (nI x4_18.toNatClampNeg), .int (nI ((f_X6_root t ic).toNatClampNeg))]) (rest := [.int (nI ((10 * t) + x4_18.toNatClampNeg)), .ref (ad 7)]) B hl.1 (c_X6_hop l D cI cZ ad co fa ic me sw cn ab_18 go_18 cp so gr re db rclk rlim rqd rpk rwas rthr x4_18.toNatClampNeg ((f_X6_root t ic).toNatClampNeg) (by omega) (by omega)) rfl (l_RX6_68 hts ⟨rfl, rfl⟩ ⟨Nat.le_of_ble_eq_true rfl, Nat.le_of_ble_eq_true rfl⟩) m_10_2 m_10_3 rfl rfl hP hD hS hA 0 rfl wfR (Nat.le_of_ble_eq_true rfl) dX6_graft_82 (fun H locs hP hD hS => ?_)
              refine r_iast hx hb hK hP hD hS 7 0 rfl rfl (by omega) (by decide) dX6_graft_85 (fun H locs hP hD hS => ?_)
              have hP : va_P D vwCl (wR cI cZ ad co fa ic me sw cn (upd ab_18 ((10 * t) + x4_18.toNatClampNeg) (f_X6_hop x4_18.toNatClampNeg ((f_X6_root t ic).toNatClampNeg) co fa)) go_18 cp so gr re db rclk rlim (nI rqd) (nI rpk) rwas rthr) H := hP
              have hD : va_D A (wR cI cZ ad co fa ic me sw cn (upd ab_18 ((10 * t) + x4_18.toNatClampNeg) (f_X6_hop x4_18.toNatClampNeg ((f_X6_root t ic).toNatClampNeg) co fa)) go_18 cp so gr re db rclk rlim (nI rqd) (nI rpk) rwas rthr) := hD
              refine lv_aload_n hx hb dX6_graft_86 rfl (lv_at hl 2 rfl) ?_
              refine g_X6_36 B hP 0 rfl rfl dX6_graft_87 ?_
              refine lv_iload hx hb dX6_graft_90 (lv_at hl 1 rfl) ?_
              refine lv_iconst (v := -1) hx hb dX6_graft_92 (by decide) ?_
              refine r_iast hx hb hK hP hD hS 8 0 rfl rfl (by omega) (by decide) dX6_graft_93 (fun H locs hP hD hS => ?_)
              have hP : va_P D vwCl (wR cI cZ ad co fa ic me sw cn (upd ab_18 ((10 * t) + x4_18.toNatClampNeg) (f_X6_hop x4_18.toNatClampNeg ((f_X6_root t ic).toNatClampNeg) co fa)) (upd go_18 ((10 * t) + x4_18.toNatClampNeg) (-1)) cp so gr re db rclk rlim (nI rqd) (nI rpk) rwas rthr) H := hP
              have hD : va_D A (wR cI cZ ad co fa ic me sw cn (upd ab_18 ((10 * t) + x4_18.toNatClampNeg) (f_X6_hop x4_18.toNatClampNeg ((f_X6_root t ic).toNatClampNeg) co fa)) (upd go_18 ((10 * t) + x4_18.toNatClampNeg) (-1)) cp so gr re db rclk rlim (nI rqd) (nI rpk) rwas rthr) := hD
              refine lv_iload hx hb dX6_graft_94 (lv_at hl 0 rfl) ?_
              refine r_if_eq (tgt := 103) hx hb (by omega) dX6_graft_96 (by decide) (fun _ => ?_) (fun c => absurd c (by omega))
              refine lv_aload_n hx hb dX6_graft_103 rfl (lv_at hl 2 rfl) ?_
              refine g_X6_33 B hP 0 rfl rfl dX6_graft_104 ?_
              refine lv_iload hx hb dX6_graft_107 (lv_at hl 1 rfl) ?_
              refine r_iald hx hb hK hP 7 0 rfl rfl (by omega) (by decide) dX6_graft_109 ?_
              refine lv_istore (lv' := [(4, .int ((upd ab_18 ((10 * t) + x4_18.toNatClampNeg) (f_X6_hop x4_18.toNatClampNeg ((f_X6_root t ic).toNatClampNeg) co fa)) ((10 * t) + x4_18.toNatClampNeg))), (6, .int (nI 0)), (5, .int (nI ((10 * t) + x4_18.toNatClampNeg))), (0, .ref (ad 0)), (1, .int (nI t)), (2, .int (nI r)), (3, .int (f_X6_root t ic))]) hx hb dX6_graft_110 hl (by decide) rfl (fun ls hl => ?_)
              refine lv_goto (tgt := 18) hx hb dX6_graft_112 (by decide) ?_
              exact ih18 ((upd ab_18 ((10 * t) + x4_18.toNatClampNeg) (f_X6_hop x4_18.toNatClampNeg ((f_X6_root t ic).toNatClampNeg) co fa)) ((10 * t) + x4_18.toNatClampNeg)) (upd ab_18 ((10 * t) + x4_18.toNatClampNeg) (f_X6_hop x4_18.toNatClampNeg ((f_X6_root t ic).toNatClampNeg) co fa)) (upd go_18 ((10 * t) + x4_18.toNatClampNeg) (-1)) (by first | exact okA_m1 | (rw [pk_us]; exact hop_ok _ _ _ _)) hf hE _ _ hP hD hS _ (lv_sub hl [3, 4, 5, 6, 0] rfl)
            · have hf := hf.trans (if_neg c10)
              rw [if_neg c10] at hE
              refine lv_iconst (v := nI 1) hx hb dX6_graft_50 (by decide) ?_
              refine lv_goto (tgt := 55) hx hb dX6_graft_51 (by decide) ?_
              refine lv_istore (lv' := [(6, .int (nI 1)), (5, .int (nI ((10 * t) + x4_18.toNatClampNeg))), (0, .ref (ad 0)), (1, .int (nI t)), (2, .int (nI r)), (3, .int (f_X6_root t ic)), (4, .int x4_18)]) hx hb dX6_graft_55 hl (by decide) rfl (fun ls hl => ?_)
              refine lv_aload_n hx hb dX6_graft_57 rfl (lv_at hl 2 rfl) ?_
              refine g_X6_33 B hP 0 rfl rfl dX6_graft_58 ?_
              refine lv_iload hx hb dX6_graft_61 (lv_at hl 1 rfl) ?_
              refine lv_iload hx hb dX6_graft_63 (lv_at hl 0 rfl) ?_
              refine r_if_eq (tgt := 78) hx hb (by omega) dX6_graft_65 (by decide) (fun c => absurd c (by omega)) (fun _ => ?_)
              refine lv_aload_n hx hb dX6_graft_68 rfl (lv_at hl 2 rfl) ?_
              refine g_X6_33 B hP 0 rfl rfl dX6_graft_69 ?_
              refine lv_iload hx hb dX6_graft_72 (lv_at hl 1 rfl) ?_
              refine r_iald hx hb hK hP 7 0 rfl rfl (by omega) (by decide) dX6_graft_74 ?_
              refine lv_goto (tgt := 85) hx hb dX6_graft_75 (by decide) ?_
              refine r_iast hx hb hK hP hD hS 7 0 rfl rfl (by omega) (by decide) dX6_graft_85 (fun H locs hP hD hS => ?_)
              have hP : va_P D vwCl (wR cI cZ ad co fa ic me sw cn (upd ab_18 ((10 * t) + x4_18.toNatClampNeg) (ab_18 ((10 * t) + x4_18.toNatClampNeg))) go_18 cp so gr re db rclk rlim (nI rqd) (nI rpk) rwas rthr) H := hP
              have hD : va_D A (wR cI cZ ad co fa ic me sw cn (upd ab_18 ((10 * t) + x4_18.toNatClampNeg) (ab_18 ((10 * t) + x4_18.toNatClampNeg))) go_18 cp so gr re db rclk rlim (nI rqd) (nI rpk) rwas rthr) := hD
              refine lv_aload_n hx hb dX6_graft_86 rfl (lv_at hl 2 rfl) ?_
              refine g_X6_36 B hP 0 rfl rfl dX6_graft_87 ?_
              refine lv_iload hx hb dX6_graft_90 (lv_at hl 1 rfl) ?_
              refine lv_iconst (v := -1) hx hb dX6_graft_92 (by decide) ?_
              refine r_iast hx hb hK hP hD hS 8 0 rfl rfl (by omega) (by decide) dX6_graft_93 (fun H locs hP hD hS => ?_)
              have hP : va_P D vwCl (wR cI cZ ad co fa ic me sw cn (upd ab_18 ((10 * t) + x4_18.toNatClampNeg) (ab_18 ((10 * t) + x4_18.toNatClampNeg))) (upd go_18 ((10 * t) + x4_18.toNatClampNeg) (-1)) cp so gr re db rclk rlim (nI rqd) (nI rpk) rwas rthr) H := hP
              have hD : va_D A (wR cI cZ ad co fa ic me sw cn (upd ab_18 ((10 * t) + x4_18.toNatClampNeg) (ab_18 ((10 * t) + x4_18.toNatClampNeg))) (upd go_18 ((10 * t) + x4_18.toNatClampNeg) (-1)) cp so gr re db rclk rlim (nI rqd) (nI rpk) rwas rthr) := hD
              refine lv_iload hx hb dX6_graft_94 (lv_at hl 0 rfl) ?_
              refine r_if_eq (tgt := 103) hx hb (by omega) dX6_graft_96 (by decide) (fun c => absurd c (by omega)) (fun _ => ?_)
              refine lv_iconst (v := -1) hx hb dX6_graft_99 (by decide) ?_
              refine lv_goto (tgt := 110) hx hb dX6_graft_100 (by decide) ?_
              refine lv_istore (lv' := [(4, .int (-1)), (6, .int (nI 1)), (5, .int (nI ((10 * t) + x4_18.toNatClampNeg))), (0, .ref (ad 0)), (1, .int (nI t)), (2, .int (nI r)), (3, .int (f_X6_root t ic))]) hx hb dX6_graft_110 hl (by decide) rfl (fun ls hl => ?_)
              refine lv_goto (tgt := 18) hx hb dX6_graft_112 (by decide) ?_
              refine lv_iload hx hb dX6_graft_18 (lv_at hl 0 rfl) ?_
              refine lv_iconst (v := -1) hx hb dX6_graft_20 (by decide) ?_
              refine lv_icmp_eq (tgt := 115) hx hb dX6_graft_21 (by decide) (fun _ => ?_) (fun c => absurd rfl c)
              exact eV B hP hS (by simp only [hf]) dX6_graft_115
    exact L18 11 (nI r) ab go (okA_nI (by omega)) hf (hHE t r _ _ ht hr c1) _ _ hP hD hS _ (lv_sub hl [2, 3, 4, 1, 0] rfl)
  · have hf := hf.trans (if_pos c1)
    refine lv_iconst (v := -1) hx hb dX6_graft_11 (by decide) ?_
    refine lv_goto (tgt := 16) hx hb dX6_graft_12 (by decide) ?_
    refine lv_istore (lv' := [(4, .int (-1)), (3, .int (f_X6_root t ic)), (0, .ref (ad 0)), (1, .int (nI t)), (2, .int (nI r))]) hx hb dX6_graft_16 hl (by decide) rfl (fun ls hl => ?_)
    refine lv_iload hx hb dX6_graft_18 (lv_at hl 0 rfl) ?_
    refine lv_iconst (v := -1) hx hb dX6_graft_20 (by decide) ?_
    refine lv_icmp_eq (tgt := 115) hx hb dX6_graft_21 (by decide) (fun _ => ?_) (fun c => absurd rfl c)
    exact eV B hP hS (by simp only [hf]) dX6_graft_115
