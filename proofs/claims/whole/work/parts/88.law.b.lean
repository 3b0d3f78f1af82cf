/-! the law's cases -/
set_option maxHeartbeats 4000000 in
theorem lo_join {p : Program} {l : Launch} {e : Env} {s : State} {m : MethodId} {below : List Frame} {meth : Method} {c : Code} {H : Heap} {locs : List Loc} {Q : State → Prop} {cells slots : Nat} {ls : Array Slot} {D : va_G} {A0 : Nat → Prop} {cI cZ cJ : ClassId} {b L ao i c0 k : Nat} {xs : Nat → Int32} {fo : Nat → Int64} {wc wr : va_W} {ad ad2 : Nat → Nat} (C : LCX p s m meth c D A0 cI cZ cJ b L xs) (hst : l.stackTraces = false) (hi : i + 4 ≤ L) (hc : c0 + 200 < 2 ^ 31) (hR : REL cI cZ ad ad2 c0 k wc wr) (hP : va_P D vwCl (LW cJ ao fo wc wr) H) (hD : va_D A0 (LW cJ ao fo wc wr)) (hS : va_S A0 s.heap H locs) (hroom : cells + 1 ≤ room_1.cells ∧ slots + 6 ≤ room_1.slots) (hl : lv_has ls 7 [(0, .ref b), (1, .ref (ad 0)), (2, .ref (ad2 0)), (3, .ref ao), (4, .int (nI i))]) (kk : LGO p l e s m below meth c D A0 cI cZ cJ b ao ad ad2 Q c0 i cells slots) : W p l e room_1 s m [Value.ref b].toArray below meth c H locs cells slots Q (F0 m 571 ls []) := by
  obtain ⟨B, hX, hNc, hA, hxs, hbl, hbA, hL⟩ := C
  have hx := B.1
  have hb := B.2.1
  have hK := B.2.2.2.2.2.2.2.2.1
  obtain ⟨hlen, hlr, -, h06, -⟩ := hR.facts
  have v1 : vp_in (nI (i + 1)) L := vp_in_nI (by omega) (by omega)
  have v2 : vp_in (nI (i + 2)) L := vp_in_nI (by omega) (by omega)
  obtain ⟨wc1, wr1, fo1, v, k1, c1, rm6, hM, hg, hM6, hR1, f5, f6, hc1, hk1, hv⟩ := sp_join (D := D) cJ ao fo hst hc hR (xs (nI (i + 1)).toNatClampNeg) (xs (nI (i + 2)).toNatClampNeg)
  obtain ⟨hlen1, hlr1, -, h061, hT1⟩ := hR1.facts
  refine lv_aload_n hx hb dL_law_571 rfl (lv_at hl 1 rfl) ?_
  refine lv_aload_n hx hb dL_law_572 rfl (lv_at hl 0 rfl) ?_
  refine lv_iload hx hb dL_law_573 (lv_at hl 4 rfl) ?_
  refine lv_iconst (v := nI 1) hx hb dL_law_575 (by decide) ?_
  refine r_iadd hx hb dL_law_576 ?_
  refine va_sld hx hb hxs hbl hbA hS v1 dL_law_577 ?_
  refine lv_aload_n hx hb dL_law_578 rfl (lv_at hl 0 rfl) ?_
  refine lv_iload hx hb dL_law_579 (lv_at hl 4 rfl) ?_
  refine lv_iconst (v := nI 2) hx hb dL_law_581 (by decide) ?_
  refine r_iadd hx hb dL_law_582 ?_
  refine va_sld hx hb hxs hbl hbA hS v2 dL_law_583 ?_
  refine lv_aload_n hx hb dL_law_584 rfl (lv_at hl 3 rfl) ?_
  refine kLH (k := 4) (wr := wr) (as := [.ref (ad 0), .int (xs (nI (i + 1)).toNatClampNeg), .int (xs (nI (i + 2)).toNatClampNeg), .ref ao]) B hl.1 hM m_13_13 m_13_12 rfl m_13_11 (by decide +kernel) (Nat.le_of_ble_eq_true rfl) rfl rfl hX hNc hP hD hS hA hlen f5 hroom dL_law_585 (fun H locs hP hD hS => ?_)
  refine lv_istore (lv' := [(5, .int (nI k1)), (0, .ref b), (1, .ref (ad 0)), (2, .ref (ad2 0)), (3, .ref ao), (4, .int (nI i))]) hx hb dL_law_588 hl (by decide) rfl (fun ls hl => ?_)
  refine lv_aload_n hx hb dL_law_590 rfl (lv_at hl 3 rfl) ?_
  refine lv_aload_n hx hb dL_law_591 rfl (lv_at hl 1 rfl) ?_
  refine lv_iload hx hb dL_law_592 (lv_at hl 5 rfl) ?_
  refine lv_iconst (v := nI 1) hx hb dL_law_594 (by decide) ?_
  refine r_iadd hx hb dL_law_595 ?_
  refine va_sld hx hb hxs hbl hbA hS v1 dL_law_596 ?_
  refine lv_aload_n hx hb dL_law_597 rfl (lv_at hl 1 rfl) ?_
  refine lv_iload hx hb dL_law_598 (lv_at hl 5 rfl) ?_
  refine lv_iconst (v := nI 2) hx hb dL_law_600 (by decide) ?_
  refine r_iadd hx hb dL_law_601 ?_
  refine va_sld hx hb hxs hbl hbA hS v2 dL_law_602 ?_
  refine kLR (k := 2) (wc := wc1) (as := [.int (xs (nI (i + 1)).toNatClampNeg), .int (xs (nI (i + 2)).toNatClampNeg)]) (rest := []) B hl.1 hM6 hg m_14_23 m_1_5 m_14_20 m_14_21 m_14_22 (by decide +kernel) rfl rfl hP hD hS hA hlen1 hlr h06 f6 (Nat.le_of_ble_eq_true rfl) hroom dL_law_603 (fun H locs hP hD hS => ?_)
  refine lv_istore (lv' := [(6, .int v), (5, .int (nI k1)), (0, .ref b), (1, .ref (ad 0)), (2, .ref (ad2 0)), (3, .ref ao), (4, .int (nI i))]) hx hb dL_law_606 hl (by decide) rfl (fun ls hl => ?_)
  refine lv_aload_n hx hb dL_law_608 rfl (lv_at hl 4 rfl) ?_
  refine kLR (k := 0) (wc := wc1) (as := []) (rest := []) B hl.1 (hT1 l D) ⟨⟨rfl, rfl⟩, Nat.le_of_ble_eq_true rfl, Nat.le_of_ble_eq_true rfl⟩ m_10_8 m_1_5 m_10_5 m_10_6 m_10_7 (by decide +kernel) rfl rfl hP hD hS hA hlen1 hlr1 h061 rfl (Nat.le_of_ble_eq_true rfl) hroom dL_law_609 (fun H locs hP hD hS => ?_)
  refine lv_iload hx hb dL_law_612 (lv_at hl 1 rfl) ?_
  refine lv_icmp_eq (tgt := 619) hx hb dL_law_614 (by decide) (fun _ => ?_) (fun q9 => absurd rfl q9)
  refine lv_iload hx hb dL_law_619 (lv_at hl 1 rfl) ?_
  refine r_if_ne (a := k1) (tgt := 636) hx hb (by omega) dL_law_621 (by decide) (fun _ => ?_) (fun q9 => ?_)
  · refine lv_goto (tgt := 1430) hx hb dL_law_636 (by decide) ?_
    exact kk _ _ _ _ _ _ _ _ hR1 hc1 hP hD hS (lv_sub hl [2, 3, 4, 5, 6] rfl)
  · refine lv_aload_n hx hb dL_law_624 rfl (lv_at hl 5 rfl) ?_
    refine lv_iconst (v := nI 0) hx hb dL_law_625 (by decide) ?_
    refine va_lald hx hb hK hP 22 2 (at_22 hlen1) rfl vin0 dL_law_626 ?_
    refine lv_iload hx hb dL_law_627 (lv_at hl 0 rfl) ?_
    refine lv_i2l (v := v.toInt64) hx hb dL_law_629 rfl ?_
    refine W.lcmp hx hb dL_law_630 ?_
    refine lv_if_eq (tgt := 636) hx hb dL_law_631 (by decide) (fun _ => ?_) (fun q8 => absurd (lcmp0 (hv q9)) q8)
    refine lv_goto (tgt := 1430) hx hb dL_law_636 (by decide) ?_
    exact kk _ _ _ _ _ _ _ _ hR1 hc1 hP hD hS (lv_sub hl [2, 3, 4, 5, 6] rfl)
set_option maxHeartbeats 4000000 in
theorem lo_leave {p : Program} {l : Launch} {e : Env} {s : State} {m : MethodId} {below : List Frame} {meth : Method} {c : Code} {H : Heap} {locs : List Loc} {Q : State → Prop} {cells slots : Nat} {ls : Array Slot} {D : va_G} {A0 : Nat → Prop} {cI cZ cJ : ClassId} {b L ao i c0 k : Nat} {xs : Nat → Int32} {fo : Nat → Int64} {wc wr : va_W} {ad ad2 : Nat → Nat} (C : LCX p s m meth c D A0 cI cZ cJ b L xs) (hst : l.stackTraces = false) (hi : i + 4 ≤ L) (hc : c0 + 200 < 2 ^ 31) (hR : REL cI cZ ad ad2 c0 k wc wr) (hP : va_P D vwCl (LW cJ ao fo wc wr) H) (hD : va_D A0 (LW cJ ao fo wc wr)) (hS : va_S A0 s.heap H locs) (hroom : cells + 1 ≤ room_1.cells ∧ slots + 6 ≤ room_1.slots) (hl : lv_has ls 7 [(0, .ref b), (1, .ref (ad 0)), (2, .ref (ad2 0)), (3, .ref ao), (4, .int (nI i))]) (kk : LGO p l e s m below meth c D A0 cI cZ cJ b ao ad ad2 Q c0 i cells slots) : W p l e room_1 s m [Value.ref b].toArray below meth c H locs cells slots Q (F0 m 639 ls []) := by
  obtain ⟨B, hX, hNc, hA, hxs, hbl, hbA, hL⟩ := C
  have hx := B.1
  have hb := B.2.1
  have hK := B.2.2.2.2.2.2.2.2.1
  obtain ⟨hlen, hlr, -, h06, -⟩ := hR.facts
  have v1 : vp_in (nI (i + 1)) L := vp_in_nI (by omega) (by omega)
  have v2 : vp_in (nI (i + 2)) L := vp_in_nI (by omega) (by omega)
  obtain ⟨wc1, wr1, fo1, v, k1, c1, rm6, hM, hg, hM6, hR1, f5, f6, hc1, hk1, hv⟩ := sp_leave (D := D) cJ ao fo hst hc hR (xs (nI (i + 1)).toNatClampNeg) (xs (nI (i + 2)).toNatClampNeg)
  obtain ⟨hlen1, hlr1, -, h061, hT1⟩ := hR1.facts
  refine lv_aload_n hx hb dL_law_639 rfl (lv_at hl 1 rfl) ?_
  refine lv_aload_n hx hb dL_law_640 rfl (lv_at hl 0 rfl) ?_
  refine lv_iload hx hb dL_law_641 (lv_at hl 4 rfl) ?_
  refine lv_iconst (v := nI 1) hx hb dL_law_643 (by decide) ?_
  refine r_iadd hx hb dL_law_644 ?_
  refine va_sld hx hb hxs hbl hbA hS v1 dL_law_645 ?_
  refine lv_aload_n hx hb dL_law_646 rfl (lv_at hl 0 rfl) ?_
  refine lv_iload hx hb dL_law_647 (lv_at hl 4 rfl) ?_
  refine lv_iconst (v := nI 2) hx hb dL_law_649 (by decide) ?_
  refine r_iadd hx hb dL_law_650 ?_
  refine va_sld hx hb hxs hbl hbA hS v2 dL_law_651 ?_
  refine lv_aload_n hx hb dL_law_652 rfl (lv_at hl 3 rfl) ?_
  refine kLH (k := 4) (wr := wr) (as := [.ref (ad 0), .int (xs (nI (i + 1)).toNatClampNeg), .int (xs (nI (i + 2)).toNatClampNeg), .ref ao]) B hl.1 hM m_15_9 m_15_8 rfl m_15_7 (by decide +kernel) (Nat.le_of_ble_eq_true rfl) rfl rfl hX hNc hP hD hS hA hlen f5 hroom dL_law_653 (fun H locs hP hD hS => ?_)
  refine lv_istore (lv' := [(5, .int (nI k1)), (0, .ref b), (1, .ref (ad 0)), (2, .ref (ad2 0)), (3, .ref ao), (4, .int (nI i))]) hx hb dL_law_656 hl (by decide) rfl (fun ls hl => ?_)
  refine lv_aload_n hx hb dL_law_658 rfl (lv_at hl 3 rfl) ?_
  refine lv_aload_n hx hb dL_law_659 rfl (lv_at hl 1 rfl) ?_
  refine lv_iload hx hb dL_law_660 (lv_at hl 5 rfl) ?_
  refine lv_iconst (v := nI 1) hx hb dL_law_662 (by decide) ?_
  refine r_iadd hx hb dL_law_663 ?_
  refine va_sld hx hb hxs hbl hbA hS v1 dL_law_664 ?_
  refine lv_aload_n hx hb dL_law_665 rfl (lv_at hl 1 rfl) ?_
  refine lv_iload hx hb dL_law_666 (lv_at hl 5 rfl) ?_
  refine lv_iconst (v := nI 2) hx hb dL_law_668 (by decide) ?_
  refine r_iadd hx hb dL_law_669 ?_
  refine va_sld hx hb hxs hbl hbA hS v2 dL_law_670 ?_
  refine kLR (k := 2) (wc := wc1) (as := [.int (xs (nI (i + 1)).toNatClampNeg), .int (xs (nI (i + 2)).toNatClampNeg)]) (rest := []) B hl.1 hM6 hg m_16_22 m_1_5 m_16_19 m_16_20 m_16_21 (by decide +kernel) rfl rfl hP hD hS hA hlen1 hlr h06 f6 (Nat.le_of_ble_eq_true rfl) hroom dL_law_671 (fun H locs hP hD hS => ?_)
  refine lv_istore (lv' := [(6, .int v), (5, .int (nI k1)), (0, .ref b), (1, .ref (ad 0)), (2, .ref (ad2 0)), (3, .ref ao), (4, .int (nI i))]) hx hb dL_law_674 hl (by decide) rfl (fun ls hl => ?_)
  refine lv_aload_n hx hb dL_law_676 rfl (lv_at hl 4 rfl) ?_
  refine kLR (k := 0) (wc := wc1) (as := []) (rest := []) B hl.1 (hT1 l D) ⟨⟨rfl, rfl⟩, Nat.le_of_ble_eq_true rfl, Nat.le_of_ble_eq_true rfl⟩ m_10_8 m_1_5 m_10_5 m_10_6 m_10_7 (by decide +kernel) rfl rfl hP hD hS hA hlen1 hlr1 h061 rfl (Nat.le_of_ble_eq_true rfl) hroom dL_law_677 (fun H locs hP hD hS => ?_)
  refine lv_iload hx hb dL_law_680 (lv_at hl 1 rfl) ?_
  refine lv_icmp_eq (tgt := 687) hx hb dL_law_682 (by decide) (fun _ => ?_) (fun q9 => absurd rfl q9)
  refine lv_iload hx hb dL_law_687 (lv_at hl 1 rfl) ?_
  refine r_if_ne (a := k1) (tgt := 704) hx hb (by omega) dL_law_689 (by decide) (fun _ => ?_) (fun q9 => ?_)
  · refine lv_goto (tgt := 1430) hx hb dL_law_704 (by decide) ?_
    exact kk _ _ _ _ _ _ _ _ hR1 hc1 hP hD hS (lv_sub hl [2, 3, 4, 5, 6] rfl)
  · refine lv_aload_n hx hb dL_law_692 rfl (lv_at hl 5 rfl) ?_
    refine lv_iconst (v := nI 0) hx hb dL_law_693 (by decide) ?_
    refine va_lald hx hb hK hP 22 2 (at_22 hlen1) rfl vin0 dL_law_694 ?_
    refine lv_iload hx hb dL_law_695 (lv_at hl 0 rfl) ?_
    refine lv_i2l (v := v.toInt64) hx hb dL_law_697 rfl ?_
    refine W.lcmp hx hb dL_law_698 ?_
    refine lv_if_eq (tgt := 704) hx hb dL_law_699 (by decide) (fun _ => ?_) (fun q8 => absurd (lcmp0 (hv q9)) q8)
    refine lv_goto (tgt := 1430) hx hb dL_law_704 (by decide) ?_
    exact kk _ _ _ _ _ _ _ _ hR1 hc1 hP hD hS (lv_sub hl [2, 3, 4, 5, 6] rfl)
set_option maxHeartbeats 4000000 in
theorem lo_members {p : Program} {l : Launch} {e : Env} {s : State} {m : MethodId} {below : List Frame} {meth : Method} {c : Code} {H : Heap} {locs : List Loc} {Q : State → Prop} {cells slots : Nat} {ls : Array Slot} {D : va_G} {A0 : Nat → Prop} {cI cZ cJ : ClassId} {b L ao i c0 k : Nat} {xs : Nat → Int32} {fo : Nat → Int64} {wc wr : va_W} {ad ad2 : Nat → Nat} (C : LCX p s m meth c D A0 cI cZ cJ b L xs) (hst : l.stackTraces = false) (hi : i + 4 ≤ L) (hc : c0 + 200 < 2 ^ 31) (hR : REL cI cZ ad ad2 c0 k wc wr) (hP : va_P D vwCl (LW cJ ao fo wc wr) H) (hD : va_D A0 (LW cJ ao fo wc wr)) (hS : va_S A0 s.heap H locs) (hroom : cells + 1 ≤ room_1.cells ∧ slots + 6 ≤ room_1.slots) (hl : lv_has ls 7 [(0, .ref b), (1, .ref (ad 0)), (2, .ref (ad2 0)), (3, .ref ao), (4, .int (nI i))]) (kk : LGO p l e s m below meth c D A0 cI cZ cJ b ao ad ad2 Q c0 i cells slots) : W p l e room_1 s m [Value.ref b].toArray below meth c H locs cells slots Q (F0 m 707 ls []) := by
  obtain ⟨B, hX, hNc, hA, hxs, hbl, hbA, hL⟩ := C
  have hx := B.1
  have hb := B.2.1
  have hK := B.2.2.2.2.2.2.2.2.1
  obtain ⟨hlen, hlr, -, h06, -⟩ := hR.facts
  have v1 : vp_in (nI (i + 1)) L := vp_in_nI (by omega) (by omega)
  obtain ⟨wc1, wr1, fo1, v, k1, c1, rm6, hM, hg, hM6, hR1, f5, f6, hc1, hk1, hv⟩ := sp_members (D := D) cJ ao fo hst hc hR (xs (nI (i + 1)).toNatClampNeg)
  obtain ⟨hlen1, hlr1, -, h061, hT1⟩ := hR1.facts
  refine lv_aload_n hx hb dL_law_707 rfl (lv_at hl 1 rfl) ?_
  refine lv_aload_n hx hb dL_law_708 rfl (lv_at hl 0 rfl) ?_
  refine lv_iload hx hb dL_law_709 (lv_at hl 4 rfl) ?_
  refine lv_iconst (v := nI 1) hx hb dL_law_711 (by decide) ?_
  refine r_iadd hx hb dL_law_712 ?_
  refine va_sld hx hb hxs hbl hbA hS v1 dL_law_713 ?_
  refine lv_aload_n hx hb dL_law_714 rfl (lv_at hl 3 rfl) ?_
  refine kLH (k := 3) (wr := wr) (as := [.ref (ad 0), .int (xs (nI (i + 1)).toNatClampNeg), .ref ao]) B hl.1 hM m_17_10 m_17_9 rfl m_17_8 (by decide +kernel) (Nat.le_of_ble_eq_true rfl) rfl rfl hX hNc hP hD hS hA hlen f5 hroom dL_law_715 (fun H locs hP hD hS => ?_)
  refine lv_istore (lv' := [(5, .int (nI k1)), (0, .ref b), (1, .ref (ad 0)), (2, .ref (ad2 0)), (3, .ref ao), (4, .int (nI i))]) hx hb dL_law_718 hl (by decide) rfl (fun ls hl => ?_)
  refine lv_aload_n hx hb dL_law_720 rfl (lv_at hl 3 rfl) ?_
  refine lv_aload_n hx hb dL_law_721 rfl (lv_at hl 1 rfl) ?_
  refine lv_iload hx hb dL_law_722 (lv_at hl 5 rfl) ?_
  refine lv_iconst (v := nI 1) hx hb dL_law_724 (by decide) ?_
  refine r_iadd hx hb dL_law_725 ?_
  refine va_sld hx hb hxs hbl hbA hS v1 dL_law_726 ?_
  refine kLR (k := 1) (wc := wc1) (as := [.int (xs (nI (i + 1)).toNatClampNeg)]) (rest := []) B hl.1 hM6 hg m_17_18 m_1_5 m_17_15 m_17_16 m_17_17 (by decide +kernel) rfl rfl hP hD hS hA hlen1 hlr h06 f6 (Nat.le_of_ble_eq_true rfl) hroom dL_law_727 (fun H locs hP hD hS => ?_)
  refine lv_istore (lv' := [(6, .int v), (5, .int (nI k1)), (0, .ref b), (1, .ref (ad 0)), (2, .ref (ad2 0)), (3, .ref ao), (4, .int (nI i))]) hx hb dL_law_730 hl (by decide) rfl (fun ls hl => ?_)
  refine lv_aload_n hx hb dL_law_732 rfl (lv_at hl 4 rfl) ?_
  refine kLR (k := 0) (wc := wc1) (as := []) (rest := []) B hl.1 (hT1 l D) ⟨⟨rfl, rfl⟩, Nat.le_of_ble_eq_true rfl, Nat.le_of_ble_eq_true rfl⟩ m_10_8 m_1_5 m_10_5 m_10_6 m_10_7 (by decide +kernel) rfl rfl hP hD hS hA hlen1 hlr1 h061 rfl (Nat.le_of_ble_eq_true rfl) hroom dL_law_733 (fun H locs hP hD hS => ?_)
  refine lv_iload hx hb dL_law_736 (lv_at hl 1 rfl) ?_
  refine lv_icmp_eq (tgt := 743) hx hb dL_law_738 (by decide) (fun _ => ?_) (fun q9 => absurd rfl q9)
  refine lv_iload hx hb dL_law_743 (lv_at hl 1 rfl) ?_
  refine r_if_ne (a := k1) (tgt := 760) hx hb (by omega) dL_law_745 (by decide) (fun _ => ?_) (fun q9 => ?_)
  · refine lv_goto (tgt := 1430) hx hb dL_law_760 (by decide) ?_
    exact kk _ _ _ _ _ _ _ _ hR1 hc1 hP hD hS (lv_sub hl [2, 3, 4, 5, 6] rfl)
  · refine lv_aload_n hx hb dL_law_748 rfl (lv_at hl 5 rfl) ?_
    refine lv_iconst (v := nI 0) hx hb dL_law_749 (by decide) ?_
    refine va_lald hx hb hK hP 22 2 (at_22 hlen1) rfl vin0 dL_law_750 ?_
    refine lv_iload hx hb dL_law_751 (lv_at hl 0 rfl) ?_
    refine lv_i2l (v := v.toInt64) hx hb dL_law_753 rfl ?_
    refine W.lcmp hx hb dL_law_754 ?_
    refine lv_if_eq (tgt := 760) hx hb dL_law_755 (by decide) (fun _ => ?_) (fun q8 => absurd (lcmp0 (hv q9)) q8)
    refine lv_goto (tgt := 1430) hx hb dL_law_760 (by decide) ?_
    exact kk _ _ _ _ _ _ _ _ hR1 hc1 hP hD hS (lv_sub hl [2, 3, 4, 5, 6] rfl)
set_option maxHeartbeats 4000000 in
theorem lo_switched {p : Program} {l : Launch} {e : Env} {s : State} {m : MethodId} {below : List Frame} {meth : Method} {c : Code} {H : Heap} {locs : List Loc} {Q : State → Prop} {cells slots : Nat} {ls : Array Slot} {D : va_G} {A0 : Nat → Prop} {cI cZ cJ : ClassId} {b L ao i c0 k : Nat} {xs : Nat → Int32} {fo : Nat → Int64} {wc wr : va_W} {ad ad2 : Nat → Nat} (C : LCX p s m meth c D A0 cI cZ cJ b L xs) (hst : l.stackTraces = false) (hi : i + 4 ≤ L) (hc : c0 + 200 < 2 ^ 31) (hR : REL cI cZ ad ad2 c0 k wc wr) (hP : va_P D vwCl (LW cJ ao fo wc wr) H) (hD : va_D A0 (LW cJ ao fo wc wr)) (hS : va_S A0 s.heap H locs) (hroom : cells + 1 ≤ room_1.cells ∧ slots + 6 ≤ room_1.slots) (hl : lv_has ls 7 [(0, .ref b), (1, .ref (ad 0)), (2, .ref (ad2 0)), (3, .ref ao), (4, .int (nI i))]) (kk : LGO p l e s m below meth c D A0 cI cZ cJ b ao ad ad2 Q c0 i cells slots) : W p l e room_1 s m [Value.ref b].toArray below meth c H locs cells slots Q (F0 m 763 ls []) := by
  obtain ⟨B, hX, hNc, hA, hxs, hbl, hbA, hL⟩ := C
  have hx := B.1
  have hb := B.2.1
  have hK := B.2.2.2.2.2.2.2.2.1
  obtain ⟨hlen, hlr, -, h06, -⟩ := hR.facts
  have v1 : vp_in (nI (i + 1)) L := vp_in_nI (by omega) (by omega)
  have v2 : vp_in (nI (i + 2)) L := vp_in_nI (by omega) (by omega)
  obtain ⟨wc1, wr1, fo1, v, k1, c1, rm6, hM, hg, hM6, hR1, f5, f6, hc1, hk1, hv⟩ := sp_switched (D := D) cJ ao fo hst hc hR (xs (nI (i + 1)).toNatClampNeg) (xs (nI (i + 2)).toNatClampNeg)
  obtain ⟨hlen1, hlr1, -, h061, hT1⟩ := hR1.facts
  refine lv_aload_n hx hb dL_law_763 rfl (lv_at hl 1 rfl) ?_
  refine lv_aload_n hx hb dL_law_764 rfl (lv_at hl 0 rfl) ?_
  refine lv_iload hx hb dL_law_765 (lv_at hl 4 rfl) ?_
  refine lv_iconst (v := nI 1) hx hb dL_law_767 (by decide) ?_
  refine r_iadd hx hb dL_law_768 ?_
  refine va_sld hx hb hxs hbl hbA hS v1 dL_law_769 ?_
  refine lv_aload_n hx hb dL_law_770 rfl (lv_at hl 0 rfl) ?_
  refine lv_iload hx hb dL_law_771 (lv_at hl 4 rfl) ?_
  refine lv_iconst (v := nI 2) hx hb dL_law_773 (by decide) ?_
  refine r_iadd hx hb dL_law_774 ?_
  refine va_sld hx hb hxs hbl hbA hS v2 dL_law_775 ?_
  refine lv_aload_n hx hb dL_law_776 rfl (lv_at hl 3 rfl) ?_
  refine kLH (k := 4) (wr := wr) (as := [.ref (ad 0), .int (xs (nI (i + 1)).toNatClampNeg), .int (xs (nI (i + 2)).toNatClampNeg), .ref ao]) B hl.1 hM m_17_21 m_17_20 rfl m_17_19 (by decide +kernel) (Nat.le_of_ble_eq_true rfl) rfl rfl hX hNc hP hD hS hA hlen f5 hroom dL_law_777 (fun H locs hP hD hS => ?_)
  refine lv_istore (lv' := [(5, .int (nI k1)), (0, .ref b), (1, .ref (ad 0)), (2, .ref (ad2 0)), (3, .ref ao), (4, .int (nI i))]) hx hb dL_law_780 hl (by decide) rfl (fun ls hl => ?_)
  refine lv_aload_n hx hb dL_law_782 rfl (lv_at hl 3 rfl) ?_
  refine lv_aload_n hx hb dL_law_783 rfl (lv_at hl 1 rfl) ?_
  refine lv_iload hx hb dL_law_784 (lv_at hl 5 rfl) ?_
  refine lv_iconst (v := nI 1) hx hb dL_law_786 (by decide) ?_
  refine r_iadd hx hb dL_law_787 ?_
  refine va_sld hx hb hxs hbl hbA hS v1 dL_law_788 ?_
  refine lv_aload_n hx hb dL_law_789 rfl (lv_at hl 1 rfl) ?_
  refine lv_iload hx hb dL_law_790 (lv_at hl 5 rfl) ?_
  refine lv_iconst (v := nI 2) hx hb dL_law_792 (by decide) ?_
  refine r_iadd hx hb dL_law_793 ?_
  refine va_sld hx hb hxs hbl hbA hS v2 dL_law_794 ?_
  refine kLR (k := 2) (wc := wc1) (as := [.int (xs (nI (i + 1)).toNatClampNeg), .int (xs (nI (i + 2)).toNatClampNeg)]) (rest := []) B hl.1 hM6 hg m_18_5 m_1_5 m_18_2 m_18_3 m_18_4 (by decide +kernel) rfl rfl hP hD hS hA hlen1 hlr h06 f6 (Nat.le_of_ble_eq_true rfl) hroom dL_law_795 (fun H locs hP hD hS => ?_)
  refine lv_istore (lv' := [(6, .int v), (5, .int (nI k1)), (0, .ref b), (1, .ref (ad 0)), (2, .ref (ad2 0)), (3, .ref ao), (4, .int (nI i))]) hx hb dL_law_798 hl (by decide) rfl (fun ls hl => ?_)
  refine lv_aload_n hx hb dL_law_800 rfl (lv_at hl 4 rfl) ?_
  refine kLR (k := 0) (wc := wc1) (as := []) (rest := []) B hl.1 (hT1 l D) ⟨⟨rfl, rfl⟩, Nat.le_of_ble_eq_true rfl, Nat.le_of_ble_eq_true rfl⟩ m_10_8 m_1_5 m_10_5 m_10_6 m_10_7 (by decide +kernel) rfl rfl hP hD hS hA hlen1 hlr1 h061 rfl (Nat.le_of_ble_eq_true rfl) hroom dL_law_801 (fun H locs hP hD hS => ?_)
  refine lv_iload hx hb dL_law_804 (lv_at hl 1 rfl) ?_
  refine lv_icmp_eq (tgt := 811) hx hb dL_law_806 (by decide) (fun _ => ?_) (fun q9 => absurd rfl q9)
  refine lv_iload hx hb dL_law_811 (lv_at hl 1 rfl) ?_
  refine r_if_ne (a := k1) (tgt := 828) hx hb (by omega) dL_law_813 (by decide) (fun _ => ?_) (fun q9 => ?_)
  · refine lv_goto (tgt := 1430) hx hb dL_law_828 (by decide) ?_
    exact kk _ _ _ _ _ _ _ _ hR1 hc1 hP hD hS (lv_sub hl [2, 3, 4, 5, 6] rfl)
  · refine lv_aload_n hx hb dL_law_816 rfl (lv_at hl 5 rfl) ?_
    refine lv_iconst (v := nI 0) hx hb dL_law_817 (by decide) ?_
    refine va_lald hx hb hK hP 22 2 (at_22 hlen1) rfl vin0 dL_law_818 ?_
    refine lv_iload hx hb dL_law_819 (lv_at hl 0 rfl) ?_
    refine lv_i2l (v := v.toInt64) hx hb dL_law_821 rfl ?_
    refine W.lcmp hx hb dL_law_822 ?_
    refine lv_if_eq (tgt := 828) hx hb dL_law_823 (by decide) (fun _ => ?_) (fun q8 => absurd (lcmp0 (hv q9)) q8)
    refine lv_goto (tgt := 1430) hx hb dL_law_828 (by decide) ?_
    exact kk _ _ _ _ _ _ _ _ hR1 hc1 hP hD hS (lv_sub hl [2, 3, 4, 5, 6] rfl)
set_option maxHeartbeats 4000000 in
theorem lo_branches {p : Program} {l : Launch} {e : Env} {s : State} {m : MethodId} {below : List Frame} {meth : Method} {c : Code} {H : Heap} {locs : List Loc} {Q : State → Prop} {cells slots : Nat} {ls : Array Slot} {D : va_G} {A0 : Nat → Prop} {cI cZ cJ : ClassId} {b L ao i c0 k : Nat} {xs : Nat → Int32} {fo : Nat → Int64} {wc wr : va_W} {ad ad2 : Nat → Nat} (C : LCX p s m meth c D A0 cI cZ cJ b L xs) (hst : l.stackTraces = false) (hi : i + 4 ≤ L) (hc : c0 + 200 < 2 ^ 31) (hR : REL cI cZ ad ad2 c0 k wc wr) (hP : va_P D vwCl (LW cJ ao fo wc wr) H) (hD : va_D A0 (LW cJ ao fo wc wr)) (hS : va_S A0 s.heap H locs) (hroom : cells + 1 ≤ room_1.cells ∧ slots + 6 ≤ room_1.slots) (hl : lv_has ls 7 [(0, .ref b), (1, .ref (ad 0)), (2, .ref (ad2 0)), (3, .ref ao), (4, .int (nI i))]) (kk : LGO p l e s m below meth c D A0 cI cZ cJ b ao ad ad2 Q c0 i cells slots) : W p l e room_1 s m [Value.ref b].toArray below meth c H locs cells slots Q (F0 m 831 ls []) := by
  obtain ⟨B, hX, hNc, hA, hxs, hbl, hbA, hL⟩ := C
  have hx := B.1
  have hb := B.2.1
  have hK := B.2.2.2.2.2.2.2.2.1
  obtain ⟨hlen, hlr, -, h06, -⟩ := hR.facts
  have v1 : vp_in (nI (i + 1)) L := vp_in_nI (by omega) (by omega)
  have v2 : vp_in (nI (i + 2)) L := vp_in_nI (by omega) (by omega)
  obtain ⟨wc1, wr1, fo1, v, k1, c1, rm6, hM, hg, hM6, hR1, f5, f6, hc1, hk1, hv⟩ := sp_branches (D := D) cJ ao fo hst hc hR (xs (nI (i + 1)).toNatClampNeg) (xs (nI (i + 2)).toNatClampNeg)
  obtain ⟨hlen1, hlr1, -, h061, hT1⟩ := hR1.facts
  refine lv_aload_n hx hb dL_law_831 rfl (lv_at hl 1 rfl) ?_
  refine lv_aload_n hx hb dL_law_832 rfl (lv_at hl 0 rfl) ?_
  refine lv_iload hx hb dL_law_833 (lv_at hl 4 rfl) ?_
  refine lv_iconst (v := nI 1) hx hb dL_law_835 (by decide) ?_
  refine r_iadd hx hb dL_law_836 ?_
  refine va_sld hx hb hxs hbl hbA hS v1 dL_law_837 ?_
  refine lv_aload_n hx hb dL_law_838 rfl (lv_at hl 0 rfl) ?_
  refine lv_iload hx hb dL_law_839 (lv_at hl 4 rfl) ?_
  refine lv_iconst (v := nI 2) hx hb dL_law_841 (by decide) ?_
  refine r_iadd hx hb dL_law_842 ?_
  refine va_sld hx hb hxs hbl hbA hS v2 dL_law_843 ?_
  refine lv_aload_n hx hb dL_law_844 rfl (lv_at hl 3 rfl) ?_
  refine kLH (k := 4) (wr := wr) (as := [.ref (ad 0), .int (xs (nI (i + 1)).toNatClampNeg), .int (xs (nI (i + 2)).toNatClampNeg), .ref ao]) B hl.1 hM m_18_8 m_18_7 rfl m_18_6 (by decide +kernel) (Nat.le_of_ble_eq_true rfl) rfl rfl hX hNc hP hD hS hA hlen f5 hroom dL_law_845 (fun H locs hP hD hS => ?_)
  refine lv_istore (lv' := [(5, .int (nI k1)), (0, .ref b), (1, .ref (ad 0)), (2, .ref (ad2 0)), (3, .ref ao), (4, .int (nI i))]) hx hb dL_law_848 hl (by decide) rfl (fun ls hl => ?_)
  refine lv_aload_n hx hb dL_law_850 rfl (lv_at hl 3 rfl) ?_
  refine lv_aload_n hx hb dL_law_851 rfl (lv_at hl 1 rfl) ?_
  refine lv_iload hx hb dL_law_852 (lv_at hl 5 rfl) ?_
  refine lv_iconst (v := nI 1) hx hb dL_law_854 (by decide) ?_
  refine r_iadd hx hb dL_law_855 ?_
  refine va_sld hx hb hxs hbl hbA hS v1 dL_law_856 ?_
  refine lv_aload_n hx hb dL_law_857 rfl (lv_at hl 1 rfl) ?_
  refine lv_iload hx hb dL_law_858 (lv_at hl 5 rfl) ?_
  refine lv_iconst (v := nI 2) hx hb dL_law_860 (by decide) ?_
  refine r_iadd hx hb dL_law_861 ?_
  refine va_sld hx hb hxs hbl hbA hS v2 dL_law_862 ?_
  refine kLR (k := 2) (wc := wc1) (as := [.int (xs (nI (i + 1)).toNatClampNeg), .int (xs (nI (i + 2)).toNatClampNeg)]) (rest := []) B hl.1 hM6 hg m_18_17 m_1_5 m_18_14 m_18_15 m_18_16 (by decide +kernel) rfl rfl hP hD hS hA hlen1 hlr h06 f6 (Nat.le_of_ble_eq_true rfl) hroom dL_law_863 (fun H locs hP hD hS => ?_)
  refine lv_istore (lv' := [(6, .int v), (5, .int (nI k1)), (0, .ref b), (1, .ref (ad 0)), (2, .ref (ad2 0)), (3, .ref ao), (4, .int (nI i))]) hx hb dL_law_866 hl (by decide) rfl (fun ls hl => ?_)
  refine lv_aload_n hx hb dL_law_868 rfl (lv_at hl 4 rfl) ?_
  refine kLR (k := 0) (wc := wc1) (as := []) (rest := []) B hl.1 (hT1 l D) ⟨⟨rfl, rfl⟩, Nat.le_of_ble_eq_true rfl, Nat.le_of_ble_eq_true rfl⟩ m_10_8 m_1_5 m_10_5 m_10_6 m_10_7 (by decide +kernel) rfl rfl hP hD hS hA hlen1 hlr1 h061 rfl (Nat.le_of_ble_eq_true rfl) hroom dL_law_869 (fun H locs hP hD hS => ?_)
  refine lv_iload hx hb dL_law_872 (lv_at hl 1 rfl) ?_
  refine lv_icmp_eq (tgt := 879) hx hb dL_law_874 (by decide) (fun _ => ?_) (fun q9 => absurd rfl q9)
  refine lv_iload hx hb dL_law_879 (lv_at hl 1 rfl) ?_
  refine r_if_ne (a := k1) (tgt := 896) hx hb (by omega) dL_law_881 (by decide) (fun _ => ?_) (fun q9 => ?_)
  · refine lv_goto (tgt := 1430) hx hb dL_law_896 (by decide) ?_
    exact kk _ _ _ _ _ _ _ _ hR1 hc1 hP hD hS (lv_sub hl [2, 3, 4, 5, 6] rfl)
  · refine lv_aload_n hx hb dL_law_884 rfl (lv_at hl 5 rfl) ?_
    refine lv_iconst (v := nI 0) hx hb dL_law_885 (by decide) ?_
    refine va_lald hx hb hK hP 22 2 (at_22 hlen1) rfl vin0 dL_law_886 ?_
    refine lv_iload hx hb dL_law_887 (lv_at hl 0 rfl) ?_
    refine lv_i2l (v := v.toInt64) hx hb dL_law_889 rfl ?_
    refine W.lcmp hx hb dL_law_890 ?_
    refine lv_if_eq (tgt := 896) hx hb dL_law_891 (by decide) (fun _ => ?_) (fun q8 => absurd (lcmp0 (hv q9)) q8)
    refine lv_goto (tgt := 1430) hx hb dL_law_896 (by decide) ?_
    exact kk _ _ _ _ _ _ _ _ hR1 hc1 hP hD hS (lv_sub hl [2, 3, 4, 5, 6] rfl)
set_option maxHeartbeats 4000000 in
theorem lo_sourceBranches {p : Program} {l : Launch} {e : Env} {s : State} {m : MethodId} {below : List Frame} {meth : Method} {c : Code} {H : Heap} {locs : List Loc} {Q : State → Prop} {cells slots : Nat} {ls : Array Slot} {D : va_G} {A0 : Nat → Prop} {cI cZ cJ : ClassId} {b L ao i c0 k : Nat} {xs : Nat → Int32} {fo : Nat → Int64} {wc wr : va_W} {ad ad2 : Nat → Nat} (C : LCX p s m meth c D A0 cI cZ cJ b L xs) (hst : l.stackTraces = false) (hi : i + 4 ≤ L) (hc : c0 + 200 < 2 ^ 31) (hR : REL cI cZ ad ad2 c0 k wc wr) (hP : va_P D vwCl (LW cJ ao fo wc wr) H) (hD : va_D A0 (LW cJ ao fo wc wr)) (hS : va_S A0 s.heap H locs) (hroom : cells + 1 ≤ room_1.cells ∧ slots + 6 ≤ room_1.slots) (hl : lv_has ls 7 [(0, .ref b), (1, .ref (ad 0)), (2, .ref (ad2 0)), (3, .ref ao), (4, .int (nI i))]) (kk : LGO p l e s m below meth c D A0 cI cZ cJ b ao ad ad2 Q c0 i cells slots) : W p l e room_1 s m [Value.ref b].toArray below meth c H locs cells slots Q (F0 m 899 ls []) := by
  obtain ⟨B, hX, hNc, hA, hxs, hbl, hbA, hL⟩ := C
  have hx := B.1
  have hb := B.2.1
  have hK := B.2.2.2.2.2.2.2.2.1
  obtain ⟨hlen, hlr, -, h06, -⟩ := hR.facts
  have v1 : vp_in (nI (i + 1)) L := vp_in_nI (by omega) (by omega)
  have v2 : vp_in (nI (i + 2)) L := vp_in_nI (by omega) (by omega)
  have v3 : vp_in (nI (i + 3)) L := vp_in_nI (by omega) (by omega)
  obtain ⟨wc1, wr1, fo1, v, k1, c1, rm6, hM, hg, hM6, hR1, f5, f6, hc1, hk1, hv⟩ := sp_sourceBranches (D := D) cJ ao fo hst hc hR (xs (nI (i + 1)).toNatClampNeg) (xs (nI (i + 2)).toNatClampNeg) (xs (nI (i + 3)).toNatClampNeg)
  obtain ⟨hlen1, hlr1, -, h061, hT1⟩ := hR1.facts
  refine lv_aload_n hx hb dL_law_899 rfl (lv_at hl 1 rfl) ?_
  refine lv_aload_n hx hb dL_law_900 rfl (lv_at hl 0 rfl) ?_
  refine lv_iload hx hb dL_law_901 (lv_at hl 4 rfl) ?_
  refine lv_iconst (v := nI 1) hx hb dL_law_903 (by decide) ?_
  refine r_iadd hx hb dL_law_904 ?_
  refine va_sld hx hb hxs hbl hbA hS v1 dL_law_905 ?_
  refine lv_aload_n hx hb dL_law_906 rfl (lv_at hl 0 rfl) ?_
  refine lv_iload hx hb dL_law_907 (lv_at hl 4 rfl) ?_
  refine lv_iconst (v := nI 2) hx hb dL_law_909 (by decide) ?_
  refine r_iadd hx hb dL_law_910 ?_
  refine va_sld hx hb hxs hbl hbA hS v2 dL_law_911 ?_
  refine lv_aload_n hx hb dL_law_912 rfl (lv_at hl 0 rfl) ?_
  refine lv_iload hx hb dL_law_913 (lv_at hl 4 rfl) ?_
  refine lv_iconst (v := nI 3) hx hb dL_law_915 (by decide) ?_
  refine r_iadd hx hb dL_law_916 ?_
  refine va_sld hx hb hxs hbl hbA hS v3 dL_law_917 ?_
  refine lv_aload_n hx hb dL_law_918 rfl (lv_at hl 3 rfl) ?_
  refine kLH (k := 5) (wr := wr) (as := [.ref (ad 0), .int (xs (nI (i + 1)).toNatClampNeg), .int (xs (nI (i + 2)).toNatClampNeg), .int (xs (nI (i + 3)).toNatClampNeg), .ref ao]) B hl.1 hM m_18_20 m_18_19 rfl m_18_18 (by decide +kernel) (Nat.le_of_ble_eq_true rfl) rfl rfl hX hNc hP hD hS hA hlen f5 hroom dL_law_919 (fun H locs hP hD hS => ?_)
  refine lv_istore (lv' := [(5, .int (nI k1)), (0, .ref b), (1, .ref (ad 0)), (2, .ref (ad2 0)), (3, .ref ao), (4, .int (nI i))]) hx hb dL_law_922 hl (by decide) rfl (fun ls hl => ?_)
  refine lv_aload_n hx hb dL_law_924 rfl (lv_at hl 3 rfl) ?_
  refine lv_aload_n hx hb dL_law_925 rfl (lv_at hl 1 rfl) ?_
  refine lv_iload hx hb dL_law_926 (lv_at hl 5 rfl) ?_
  refine lv_iconst (v := nI 1) hx hb dL_law_928 (by decide) ?_
  refine r_iadd hx hb dL_law_929 ?_
  refine va_sld hx hb hxs hbl hbA hS v1 dL_law_930 ?_
  refine lv_aload_n hx hb dL_law_931 rfl (lv_at hl 1 rfl) ?_
  refine lv_iload hx hb dL_law_932 (lv_at hl 5 rfl) ?_
  refine lv_iconst (v := nI 2) hx hb dL_law_934 (by decide) ?_
  refine r_iadd hx hb dL_law_935 ?_
  refine va_sld hx hb hxs hbl hbA hS v2 dL_law_936 ?_
  refine lv_aload_n hx hb dL_law_937 rfl (lv_at hl 1 rfl) ?_
  refine lv_iload hx hb dL_law_938 (lv_at hl 5 rfl) ?_
  refine lv_iconst (v := nI 3) hx hb dL_law_940 (by decide) ?_
  refine r_iadd hx hb dL_law_941 ?_
  refine va_sld hx hb hxs hbl hbA hS v3 dL_law_942 ?_
  refine kLR (k := 3) (wc := wc1) (as := [.int (xs (nI (i + 1)).toNatClampNeg), .int (xs (nI (i + 2)).toNatClampNeg), .int (xs (nI (i + 3)).toNatClampNeg)]) (rest := []) B hl.1 hM6 hg m_19_4 m_1_5 m_19_1 m_19_2 m_19_3 (by decide +kernel) rfl rfl hP hD hS hA hlen1 hlr h06 f6 (Nat.le_of_ble_eq_true rfl) hroom dL_law_943 (fun H locs hP hD hS => ?_)
  refine lv_istore (lv' := [(6, .int v), (5, .int (nI k1)), (0, .ref b), (1, .ref (ad 0)), (2, .ref (ad2 0)), (3, .ref ao), (4, .int (nI i))]) hx hb dL_law_946 hl (by decide) rfl (fun ls hl => ?_)
  refine lv_aload_n hx hb dL_law_948 rfl (lv_at hl 4 rfl) ?_
  refine kLR (k := 0) (wc := wc1) (as := []) (rest := []) B hl.1 (hT1 l D) ⟨⟨rfl, rfl⟩, Nat.le_of_ble_eq_true rfl, Nat.le_of_ble_eq_true rfl⟩ m_10_8 m_1_5 m_10_5 m_10_6 m_10_7 (by decide +kernel) rfl rfl hP hD hS hA hlen1 hlr1 h061 rfl (Nat.le_of_ble_eq_true rfl) hroom dL_law_949 (fun H locs hP hD hS => ?_)
  refine lv_iload hx hb dL_law_952 (lv_at hl 1 rfl) ?_
  refine lv_icmp_eq (tgt := 959) hx hb dL_law_954 (by decide) (fun _ => ?_) (fun q9 => absurd rfl q9)
  refine lv_iload hx hb dL_law_959 (lv_at hl 1 rfl) ?_
  refine r_if_ne (a := k1) (tgt := 976) hx hb (by omega) dL_law_961 (by decide) (fun _ => ?_) (fun q9 => ?_)
  · refine lv_goto (tgt := 1430) hx hb dL_law_976 (by decide) ?_
    exact kk _ _ _ _ _ _ _ _ hR1 hc1 hP hD hS (lv_sub hl [2, 3, 4, 5, 6] rfl)
  · refine lv_aload_n hx hb dL_law_964 rfl (lv_at hl 5 rfl) ?_
    refine lv_iconst (v := nI 0) hx hb dL_law_965 (by decide) ?_
    refine va_lald hx hb hK hP 22 2 (at_22 hlen1) rfl vin0 dL_law_966 ?_
    refine lv_iload hx hb dL_law_967 (lv_at hl 0 rfl) ?_
    refine lv_i2l (v := v.toInt64) hx hb dL_law_969 rfl ?_
    refine W.lcmp hx hb dL_law_970 ?_
    refine lv_if_eq (tgt := 976) hx hb dL_law_971 (by decide) (fun _ => ?_) (fun q8 => absurd (lcmp0 (hv q9)) q8)
    refine lv_goto (tgt := 1430) hx hb dL_law_976 (by decide) ?_
    exact kk _ _ _ _ _ _ _ _ hR1 hc1 hP hD hS (lv_sub hl [2, 3, 4, 5, 6] rfl)
