/-! the law's cases -/
set_option maxHeartbeats 4000000 in
theorem lo_send {p : Program} {l : Launch} {e : Env} {s : State} {m : MethodId} {below : List Frame} {meth : Method} {c : Code} {H : Heap} {locs : List Loc} {Q : State → Prop} {cells slots : Nat} {ls : Array Slot} {D : va_G} {A0 : Nat → Prop} {cI cZ cJ : ClassId} {b L ao i c0 k : Nat} {xs : Nat → Int32} {fo : Nat → Int64} {wc wr : va_W} {ad ad2 : Nat → Nat} (C : LCX p s m meth c D A0 cI cZ cJ b L xs) (hst : l.stackTraces = false) (hi : i + 4 ≤ L) (hc : c0 + 200 < 2 ^ 31) (hR : REL cI cZ ad ad2 c0 k wc wr) (hP : va_P D vwCl (LW cJ ao fo wc wr) H) (hD : va_D A0 (LW cJ ao fo wc wr)) (hS : va_S A0 s.heap H locs) (hroom : cells + 1 ≤ room_1.cells ∧ slots + 6 ≤ room_1.slots) (hl : lv_has ls 7 [(0, .ref b), (1, .ref (ad 0)), (2, .ref (ad2 0)), (3, .ref ao), (4, .int (nI i))]) (kk : LGO p l e s m below meth c D A0 cI cZ cJ b ao ad ad2 Q c0 i cells slots) : W p l e room_1 s m [Value.ref b].toArray below meth c H locs cells slots Q (F0 m 992 ls []) := by
  obtain ⟨B, hX, hNc, hA, hxs, hbl, hbA, hL⟩ := C
  have hx := B.1
  have hb := B.2.1
  have hK := B.2.2.2.2.2.2.2.2.1
  obtain ⟨hlen, hlr, -, h06, -⟩ := hR.facts
  have v1 : vp_in (nI (i + 1)) L := vp_in_nI (by omega) (by omega)
  have v2 : vp_in (nI (i + 2)) L := vp_in_nI (by omega) (by omega)
  obtain ⟨wc1, wr1, fo1, v, k1, c1, rm6, hM, hg, hM6, hR1, f5, f6, hc1, hk1, hv⟩ := sp_send (D := D) cJ ao fo hst hc hR (xs (nI (i + 1)).toNatClampNeg) (xs (nI (i + 2)).toNatClampNeg)
  obtain ⟨hlen1, hlr1, -, h061, hT1⟩ := hR1.facts
  refine lv_aload_n hx hb dL_law_992 rfl (lv_at hl 1 rfl) ?_
  refine lv_aload_n hx hb dL_law_993 rfl (lv_at hl 0 rfl) ?_
  refine lv_iload hx hb dL_law_994 (lv_at hl 4 rfl) ?_
  refine lv_iconst (v := nI 1) hx hb dL_law_996 (by decide) ?_
  refine r_iadd hx hb dL_law_997 ?_
  refine va_sld hx hb hxs hbl hbA hS v1 dL_law_998 ?_
  refine lv_aload_n hx hb dL_law_999 rfl (lv_at hl 0 rfl) ?_
  refine lv_iload hx hb dL_law_1000 (lv_at hl 4 rfl) ?_
  refine lv_iconst (v := nI 2) hx hb dL_law_1002 (by decide) ?_
  refine r_iadd hx hb dL_law_1003 ?_
  refine va_sld hx hb hxs hbl hbA hS v2 dL_law_1004 ?_
  refine lv_aload_n hx hb dL_law_1005 rfl (lv_at hl 3 rfl) ?_
  refine kLH (k := 4) (wr := wr) (as := [.ref (ad 0), .int (xs (nI (i + 1)).toNatClampNeg), .int (xs (nI (i + 2)).toNatClampNeg), .ref ao]) B hl.1 hM m_19_19 m_19_18 rfl m_19_17 (by decide +kernel) (Nat.le_of_ble_eq_true rfl) rfl rfl hX hNc hP hD hS hA hlen f5 hroom dL_law_1006 (fun H locs hP hD hS => ?_)
  refine lv_istore (lv' := [(5, .int (nI k1)), (0, .ref b), (1, .ref (ad 0)), (2, .ref (ad2 0)), (3, .ref ao), (4, .int (nI i))]) hx hb dL_law_1009 hl (by decide) rfl (fun ls hl => ?_)
  refine lv_aload_n hx hb dL_law_1011 rfl (lv_at hl 3 rfl) ?_
  refine lv_aload_n hx hb dL_law_1012 rfl (lv_at hl 1 rfl) ?_
  refine lv_iload hx hb dL_law_1013 (lv_at hl 5 rfl) ?_
  refine lv_iconst (v := nI 1) hx hb dL_law_1015 (by decide) ?_
  refine r_iadd hx hb dL_law_1016 ?_
  refine va_sld hx hb hxs hbl hbA hS v1 dL_law_1017 ?_
  refine lv_aload_n hx hb dL_law_1018 rfl (lv_at hl 1 rfl) ?_
  refine lv_iload hx hb dL_law_1019 (lv_at hl 5 rfl) ?_
  refine lv_iconst (v := nI 2) hx hb dL_law_1021 (by decide) ?_
  refine r_iadd hx hb dL_law_1022 ?_
  refine va_sld hx hb hxs hbl hbA hS v2 dL_law_1023 ?_
  refine kLR (k := 2) (wc := wc1) (as := [.int (xs (nI (i + 1)).toNatClampNeg), .int (xs (nI (i + 2)).toNatClampNeg)]) (rest := []) B hl.1 hM6 hg m_22_15 m_1_5 m_22_12 m_22_13 m_22_14 (by decide +kernel) rfl rfl hP hD hS hA hlen1 hlr h06 f6 (Nat.le_of_ble_eq_true rfl) hroom dL_law_1024 (fun H locs hP hD hS => ?_)
  refine lv_istore (lv' := [(6, .int v), (5, .int (nI k1)), (0, .ref b), (1, .ref (ad 0)), (2, .ref (ad2 0)), (3, .ref ao), (4, .int (nI i))]) hx hb dL_law_1027 hl (by decide) rfl (fun ls hl => ?_)
  refine lv_aload_n hx hb dL_law_1029 rfl (lv_at hl 4 rfl) ?_
  refine kLR (k := 0) (wc := wc1) (as := []) (rest := []) B hl.1 (hT1 l D) ⟨⟨rfl, rfl⟩, Nat.le_of_ble_eq_true rfl, Nat.le_of_ble_eq_true rfl⟩ m_10_8 m_1_5 m_10_5 m_10_6 m_10_7 (by decide +kernel) rfl rfl hP hD hS hA hlen1 hlr1 h061 rfl (Nat.le_of_ble_eq_true rfl) hroom dL_law_1030 (fun H locs hP hD hS => ?_)
  refine lv_iload hx hb dL_law_1033 (lv_at hl 1 rfl) ?_
  refine lv_icmp_eq (tgt := 1040) hx hb dL_law_1035 (by decide) (fun _ => ?_) (fun q9 => absurd rfl q9)
  refine lv_iload hx hb dL_law_1040 (lv_at hl 1 rfl) ?_
  refine r_if_ne (a := k1) (tgt := 1057) hx hb (by omega) dL_law_1042 (by decide) (fun _ => ?_) (fun q9 => ?_)
  · refine lv_goto (tgt := 1430) hx hb dL_law_1057 (by decide) ?_
    exact kk _ _ _ _ _ _ _ _ hR1 hc1 hP hD hS (lv_sub hl [2, 3, 4, 5, 6] rfl)
  · refine lv_aload_n hx hb dL_law_1045 rfl (lv_at hl 5 rfl) ?_
    refine lv_iconst (v := nI 0) hx hb dL_law_1046 (by decide) ?_
    refine va_lald hx hb hK hP 22 2 (at_22 hlen1) rfl vin0 dL_law_1047 ?_
    refine lv_iload hx hb dL_law_1048 (lv_at hl 0 rfl) ?_
    refine lv_i2l (v := v.toInt64) hx hb dL_law_1050 rfl ?_
    refine W.lcmp hx hb dL_law_1051 ?_
    refine lv_if_eq (tgt := 1057) hx hb dL_law_1052 (by decide) (fun _ => ?_) (fun q8 => absurd (lcmp0 (hv q9)) q8)
    refine lv_goto (tgt := 1430) hx hb dL_law_1057 (by decide) ?_
    exact kk _ _ _ _ _ _ _ _ hR1 hc1 hP hD hS (lv_sub hl [2, 3, 4, 5, 6] rfl)
set_option maxHeartbeats 4000000 in
theorem lo_received {p : Program} {l : Launch} {e : Env} {s : State} {m : MethodId} {below : List Frame} {meth : Method} {c : Code} {H : Heap} {locs : List Loc} {Q : State → Prop} {cells slots : Nat} {ls : Array Slot} {D : va_G} {A0 : Nat → Prop} {cI cZ cJ : ClassId} {b L ao i c0 k : Nat} {xs : Nat → Int32} {fo : Nat → Int64} {wc wr : va_W} {ad ad2 : Nat → Nat} (C : LCX p s m meth c D A0 cI cZ cJ b L xs) (hst : l.stackTraces = false) (hi : i + 4 ≤ L) (hc : c0 + 200 < 2 ^ 31) (hR : REL cI cZ ad ad2 c0 k wc wr) (hP : va_P D vwCl (LW cJ ao fo wc wr) H) (hD : va_D A0 (LW cJ ao fo wc wr)) (hS : va_S A0 s.heap H locs) (hroom : cells + 1 ≤ room_1.cells ∧ slots + 6 ≤ room_1.slots) (hl : lv_has ls 7 [(0, .ref b), (1, .ref (ad 0)), (2, .ref (ad2 0)), (3, .ref ao), (4, .int (nI i))]) (kk : LGO p l e s m below meth c D A0 cI cZ cJ b ao ad ad2 Q c0 i cells slots) : W p l e room_1 s m [Value.ref b].toArray below meth c H locs cells slots Q (F0 m 1112 ls []) := by
  obtain ⟨B, hX, hNc, hA, hxs, hbl, hbA, hL⟩ := C
  have hx := B.1
  have hb := B.2.1
  have hK := B.2.2.2.2.2.2.2.2.1
  obtain ⟨hlen, hlr, -, h06, -⟩ := hR.facts
  have v1 : vp_in (nI (i + 1)) L := vp_in_nI (by omega) (by omega)
  obtain ⟨wc1, wr1, fo1, v, k1, c1, rm6, hM, hg, hM6, hR1, f5, f6, hc1, hk1, hv⟩ := sp_received (D := D) cJ ao fo hst hc hR (xs (nI (i + 1)).toNatClampNeg)
  obtain ⟨hlen1, hlr1, -, h061, hT1⟩ := hR1.facts
  refine lv_aload_n hx hb dL_law_1112 rfl (lv_at hl 1 rfl) ?_
  refine lv_aload_n hx hb dL_law_1113 rfl (lv_at hl 0 rfl) ?_
  refine lv_iload hx hb dL_law_1114 (lv_at hl 4 rfl) ?_
  refine lv_iconst (v := nI 1) hx hb dL_law_1116 (by decide) ?_
  refine r_iadd hx hb dL_law_1117 ?_
  refine va_sld hx hb hxs hbl hbA hS v1 dL_law_1118 ?_
  refine lv_aload_n hx hb dL_law_1119 rfl (lv_at hl 3 rfl) ?_
  refine kLH (k := 3) (wr := wr) (as := [.ref (ad 0), .int (xs (nI (i + 1)).toNatClampNeg), .ref ao]) B hl.1 hM m_26_7 m_26_6 rfl m_26_5 (by decide +kernel) (Nat.le_of_ble_eq_true rfl) rfl rfl hX hNc hP hD hS hA hlen f5 hroom dL_law_1120 (fun H locs hP hD hS => ?_)
  refine lv_istore (lv' := [(5, .int (nI k1)), (0, .ref b), (1, .ref (ad 0)), (2, .ref (ad2 0)), (3, .ref ao), (4, .int (nI i))]) hx hb dL_law_1123 hl (by decide) rfl (fun ls hl => ?_)
  refine lv_aload_n hx hb dL_law_1125 rfl (lv_at hl 3 rfl) ?_
  refine lv_aload_n hx hb dL_law_1126 rfl (lv_at hl 1 rfl) ?_
  refine lv_iload hx hb dL_law_1127 (lv_at hl 5 rfl) ?_
  refine lv_iconst (v := nI 1) hx hb dL_law_1129 (by decide) ?_
  refine r_iadd hx hb dL_law_1130 ?_
  refine va_sld hx hb hxs hbl hbA hS v1 dL_law_1131 ?_
  refine kLR (k := 1) (wc := wc1) (as := [.int (xs (nI (i + 1)).toNatClampNeg)]) (rest := []) B hl.1 hM6 hg m_26_20 m_1_5 m_26_17 m_26_18 m_26_19 (by decide +kernel) rfl rfl hP hD hS hA hlen1 hlr h06 f6 (Nat.le_of_ble_eq_true rfl) hroom dL_law_1132 (fun H locs hP hD hS => ?_)
  refine lv_istore (lv' := [(6, .int v), (5, .int (nI k1)), (0, .ref b), (1, .ref (ad 0)), (2, .ref (ad2 0)), (3, .ref ao), (4, .int (nI i))]) hx hb dL_law_1135 hl (by decide) rfl (fun ls hl => ?_)
  refine lv_aload_n hx hb dL_law_1137 rfl (lv_at hl 4 rfl) ?_
  refine kLR (k := 0) (wc := wc1) (as := []) (rest := []) B hl.1 (hT1 l D) ⟨⟨rfl, rfl⟩, Nat.le_of_ble_eq_true rfl, Nat.le_of_ble_eq_true rfl⟩ m_10_8 m_1_5 m_10_5 m_10_6 m_10_7 (by decide +kernel) rfl rfl hP hD hS hA hlen1 hlr1 h061 rfl (Nat.le_of_ble_eq_true rfl) hroom dL_law_1138 (fun H locs hP hD hS => ?_)
  refine lv_iload hx hb dL_law_1141 (lv_at hl 1 rfl) ?_
  refine lv_icmp_eq (tgt := 1148) hx hb dL_law_1143 (by decide) (fun _ => ?_) (fun q9 => absurd rfl q9)
  refine lv_iload hx hb dL_law_1148 (lv_at hl 1 rfl) ?_
  refine r_if_ne (a := k1) (tgt := 1165) hx hb (by omega) dL_law_1150 (by decide) (fun _ => ?_) (fun q9 => ?_)
  · refine lv_goto (tgt := 1430) hx hb dL_law_1165 (by decide) ?_
    exact kk _ _ _ _ _ _ _ _ hR1 hc1 hP hD hS (lv_sub hl [2, 3, 4, 5, 6] rfl)
  · refine lv_aload_n hx hb dL_law_1153 rfl (lv_at hl 5 rfl) ?_
    refine lv_iconst (v := nI 0) hx hb dL_law_1154 (by decide) ?_
    refine va_lald hx hb hK hP 22 2 (at_22 hlen1) rfl vin0 dL_law_1155 ?_
    refine lv_iload hx hb dL_law_1156 (lv_at hl 0 rfl) ?_
    refine lv_i2l (v := v.toInt64) hx hb dL_law_1158 rfl ?_
    refine W.lcmp hx hb dL_law_1159 ?_
    refine lv_if_eq (tgt := 1165) hx hb dL_law_1160 (by decide) (fun _ => ?_) (fun q8 => absurd (lcmp0 (hv q9)) q8)
    refine lv_goto (tgt := 1430) hx hb dL_law_1165 (by decide) ?_
    exact kk _ _ _ _ _ _ _ _ hR1 hc1 hP hD hS (lv_sub hl [2, 3, 4, 5, 6] rfl)
set_option maxHeartbeats 4000000 in
theorem lo_doubles {p : Program} {l : Launch} {e : Env} {s : State} {m : MethodId} {below : List Frame} {meth : Method} {c : Code} {H : Heap} {locs : List Loc} {Q : State → Prop} {cells slots : Nat} {ls : Array Slot} {D : va_G} {A0 : Nat → Prop} {cI cZ cJ : ClassId} {b L ao i c0 k : Nat} {xs : Nat → Int32} {fo : Nat → Int64} {wc wr : va_W} {ad ad2 : Nat → Nat} (C : LCX p s m meth c D A0 cI cZ cJ b L xs) (hst : l.stackTraces = false) (hi : i + 4 ≤ L) (hc : c0 + 200 < 2 ^ 31) (hR : REL cI cZ ad ad2 c0 k wc wr) (hP : va_P D vwCl (LW cJ ao fo wc wr) H) (hD : va_D A0 (LW cJ ao fo wc wr)) (hS : va_S A0 s.heap H locs) (hroom : cells + 1 ≤ room_1.cells ∧ slots + 6 ≤ room_1.slots) (hl : lv_has ls 7 [(0, .ref b), (1, .ref (ad 0)), (2, .ref (ad2 0)), (3, .ref ao), (4, .int (nI i))]) (kk : LGO p l e s m below meth c D A0 cI cZ cJ b ao ad ad2 Q c0 i cells slots) : W p l e room_1 s m [Value.ref b].toArray below meth c H locs cells slots Q (F0 m 1168 ls []) := by
  obtain ⟨B, hX, hNc, hA, hxs, hbl, hbA, hL⟩ := C
  have hx := B.1
  have hb := B.2.1
  have hK := B.2.2.2.2.2.2.2.2.1
  obtain ⟨hlen, hlr, -, h06, -⟩ := hR.facts
  have v1 : vp_in (nI (i + 1)) L := vp_in_nI (by omega) (by omega)
  obtain ⟨wc1, wr1, fo1, v, k1, c1, rm6, hM, hg, hM6, hR1, f5, f6, hc1, hk1, hv⟩ := sp_doubles (D := D) cJ ao fo hst hc hR (xs (nI (i + 1)).toNatClampNeg)
  obtain ⟨hlen1, hlr1, -, h061, hT1⟩ := hR1.facts
  refine lv_aload_n hx hb dL_law_1168 rfl (lv_at hl 1 rfl) ?_
  refine lv_aload_n hx hb dL_law_1169 rfl (lv_at hl 0 rfl) ?_
  refine lv_iload hx hb dL_law_1170 (lv_at hl 4 rfl) ?_
  refine lv_iconst (v := nI 1) hx hb dL_law_1172 (by decide) ?_
  refine r_iadd hx hb dL_law_1173 ?_
  refine va_sld hx hb hxs hbl hbA hS v1 dL_law_1174 ?_
  refine lv_aload_n hx hb dL_law_1175 rfl (lv_at hl 3 rfl) ?_
  refine kLH (k := 3) (wr := wr) (as := [.ref (ad 0), .int (xs (nI (i + 1)).toNatClampNeg), .ref ao]) B hl.1 hM m_27_3 m_27_2 rfl m_27_1 (by decide +kernel) (Nat.le_of_ble_eq_true rfl) rfl rfl hX hNc hP hD hS hA hlen f5 hroom dL_law_1176 (fun H locs hP hD hS => ?_)
  refine lv_istore (lv' := [(5, .int (nI k1)), (0, .ref b), (1, .ref (ad 0)), (2, .ref (ad2 0)), (3, .ref ao), (4, .int (nI i))]) hx hb dL_law_1179 hl (by decide) rfl (fun ls hl => ?_)
  refine lv_aload_n hx hb dL_law_1181 rfl (lv_at hl 3 rfl) ?_
  refine lv_aload_n hx hb dL_law_1182 rfl (lv_at hl 1 rfl) ?_
  refine lv_iload hx hb dL_law_1183 (lv_at hl 5 rfl) ?_
  refine lv_iconst (v := nI 1) hx hb dL_law_1185 (by decide) ?_
  refine r_iadd hx hb dL_law_1186 ?_
  refine va_sld hx hb hxs hbl hbA hS v1 dL_law_1187 ?_
  refine kLR (k := 1) (wc := wc1) (as := [.int (xs (nI (i + 1)).toNatClampNeg)]) (rest := []) B hl.1 hM6 hg m_27_15 m_1_5 m_27_12 m_27_13 m_27_14 (by decide +kernel) rfl rfl hP hD hS hA hlen1 hlr h06 f6 (Nat.le_of_ble_eq_true rfl) hroom dL_law_1188 (fun H locs hP hD hS => ?_)
  refine lv_istore (lv' := [(6, .int v), (5, .int (nI k1)), (0, .ref b), (1, .ref (ad 0)), (2, .ref (ad2 0)), (3, .ref ao), (4, .int (nI i))]) hx hb dL_law_1191 hl (by decide) rfl (fun ls hl => ?_)
  refine lv_aload_n hx hb dL_law_1193 rfl (lv_at hl 4 rfl) ?_
  refine kLR (k := 0) (wc := wc1) (as := []) (rest := []) B hl.1 (hT1 l D) ⟨⟨rfl, rfl⟩, Nat.le_of_ble_eq_true rfl, Nat.le_of_ble_eq_true rfl⟩ m_10_8 m_1_5 m_10_5 m_10_6 m_10_7 (by decide +kernel) rfl rfl hP hD hS hA hlen1 hlr1 h061 rfl (Nat.le_of_ble_eq_true rfl) hroom dL_law_1194 (fun H locs hP hD hS => ?_)
  refine lv_iload hx hb dL_law_1197 (lv_at hl 1 rfl) ?_
  refine lv_icmp_eq (tgt := 1204) hx hb dL_law_1199 (by decide) (fun _ => ?_) (fun q9 => absurd rfl q9)
  refine lv_iload hx hb dL_law_1204 (lv_at hl 1 rfl) ?_
  refine r_if_ne (a := k1) (tgt := 1221) hx hb (by omega) dL_law_1206 (by decide) (fun _ => ?_) (fun q9 => ?_)
  · refine lv_goto (tgt := 1430) hx hb dL_law_1221 (by decide) ?_
    exact kk _ _ _ _ _ _ _ _ hR1 hc1 hP hD hS (lv_sub hl [2, 3, 4, 5, 6] rfl)
  · refine lv_aload_n hx hb dL_law_1209 rfl (lv_at hl 5 rfl) ?_
    refine lv_iconst (v := nI 0) hx hb dL_law_1210 (by decide) ?_
    refine va_lald hx hb hK hP 22 2 (at_22 hlen1) rfl vin0 dL_law_1211 ?_
    refine lv_iload hx hb dL_law_1212 (lv_at hl 0 rfl) ?_
    refine lv_i2l (v := v.toInt64) hx hb dL_law_1214 rfl ?_
    refine W.lcmp hx hb dL_law_1215 ?_
    refine lv_if_eq (tgt := 1221) hx hb dL_law_1216 (by decide) (fun _ => ?_) (fun q8 => absurd (lcmp0 (hv q9)) q8)
    refine lv_goto (tgt := 1430) hx hb dL_law_1221 (by decide) ?_
    exact kk _ _ _ _ _ _ _ _ hR1 hc1 hP hD hS (lv_sub hl [2, 3, 4, 5, 6] rfl)
set_option maxHeartbeats 4000000 in
theorem lo_pass {p : Program} {l : Launch} {e : Env} {s : State} {m : MethodId} {below : List Frame} {meth : Method} {c : Code} {H : Heap} {locs : List Loc} {Q : State → Prop} {cells slots : Nat} {ls : Array Slot} {D : va_G} {A0 : Nat → Prop} {cI cZ cJ : ClassId} {b L ao i c0 k : Nat} {xs : Nat → Int32} {fo : Nat → Int64} {wc wr : va_W} {ad ad2 : Nat → Nat} (C : LCX p s m meth c D A0 cI cZ cJ b L xs) (hst : l.stackTraces = false) (hi : i + 4 ≤ L) (hc : c0 + 200 < 2 ^ 31) (hR : REL cI cZ ad ad2 c0 k wc wr) (hP : va_P D vwCl (LW cJ ao fo wc wr) H) (hD : va_D A0 (LW cJ ao fo wc wr)) (hS : va_S A0 s.heap H locs) (hroom : cells + 1 ≤ room_1.cells ∧ slots + 6 ≤ room_1.slots) (hl : lv_has ls 7 [(0, .ref b), (1, .ref (ad 0)), (2, .ref (ad2 0)), (3, .ref ao), (4, .int (nI i))]) (kk : LGO p l e s m below meth c D A0 cI cZ cJ b ao ad ad2 Q c0 i cells slots) : W p l e room_1 s m [Value.ref b].toArray below meth c H locs cells slots Q (F0 m 1237 ls []) := by
  obtain ⟨B, hX, hNc, hA, hxs, hbl, hbA, hL⟩ := C
  have hx := B.1
  have hb := B.2.1
  have hK := B.2.2.2.2.2.2.2.2.1
  obtain ⟨hlen, hlr, -, h06, -⟩ := hR.facts
  have v1 : vp_in (nI (i + 1)) L := vp_in_nI (by omega) (by omega)
  obtain ⟨wc1, wr1, fo1, v, k1, c1, rm6, hM, hg, hM6, hR1, f5, f6, hc1, hk1, hv⟩ := sp_pass (D := D) cJ ao fo hst hc hR (xs (nI (i + 1)).toNatClampNeg)
  obtain ⟨hlen1, hlr1, -, h061, hT1⟩ := hR1.facts
  refine lv_aload_n hx hb dL_law_1237 rfl (lv_at hl 1 rfl) ?_
  refine lv_aload_n hx hb dL_law_1238 rfl (lv_at hl 0 rfl) ?_
  refine lv_iload hx hb dL_law_1239 (lv_at hl 4 rfl) ?_
  refine lv_iconst (v := nI 1) hx hb dL_law_1241 (by decide) ?_
  refine r_iadd hx hb dL_law_1242 ?_
  refine va_sld hx hb hxs hbl hbA hS v1 dL_law_1243 ?_
  refine lv_aload_n hx hb dL_law_1244 rfl (lv_at hl 3 rfl) ?_
  refine kLH (k := 3) (wr := wr) (as := [.ref (ad 0), .int (xs (nI (i + 1)).toNatClampNeg), .ref ao]) B hl.1 hM m_28_2 m_28_1 rfl m_28_0 (by decide +kernel) (Nat.le_of_ble_eq_true rfl) rfl rfl hX hNc hP hD hS hA hlen f5 hroom dL_law_1245 (fun H locs hP hD hS => ?_)
  refine lv_istore (lv' := [(5, .int (nI k1)), (0, .ref b), (1, .ref (ad 0)), (2, .ref (ad2 0)), (3, .ref ao), (4, .int (nI i))]) hx hb dL_law_1248 hl (by decide) rfl (fun ls hl => ?_)
  refine lv_aload_n hx hb dL_law_1250 rfl (lv_at hl 3 rfl) ?_
  refine lv_aload_n hx hb dL_law_1251 rfl (lv_at hl 1 rfl) ?_
  refine lv_iload hx hb dL_law_1252 (lv_at hl 5 rfl) ?_
  refine lv_iconst (v := nI 1) hx hb dL_law_1254 (by decide) ?_
  refine r_iadd hx hb dL_law_1255 ?_
  refine va_sld hx hb hxs hbl hbA hS v1 dL_law_1256 ?_
  refine kLR (k := 1) (wc := wc1) (as := [.int (xs (nI (i + 1)).toNatClampNeg)]) (rest := []) B hl.1 hM6 hg m_28_23 m_1_5 m_28_20 m_28_21 m_28_22 (by decide +kernel) rfl rfl hP hD hS hA hlen1 hlr h06 f6 (Nat.le_of_ble_eq_true rfl) hroom dL_law_1257 (fun H locs hP hD hS => ?_)
  refine lv_istore (lv' := [(6, .int v), (5, .int (nI k1)), (0, .ref b), (1, .ref (ad 0)), (2, .ref (ad2 0)), (3, .ref ao), (4, .int (nI i))]) hx hb dL_law_1260 hl (by decide) rfl (fun ls hl => ?_)
  refine lv_aload_n hx hb dL_law_1262 rfl (lv_at hl 4 rfl) ?_
  refine kLR (k := 0) (wc := wc1) (as := []) (rest := []) B hl.1 (hT1 l D) ⟨⟨rfl, rfl⟩, Nat.le_of_ble_eq_true rfl, Nat.le_of_ble_eq_true rfl⟩ m_10_8 m_1_5 m_10_5 m_10_6 m_10_7 (by decide +kernel) rfl rfl hP hD hS hA hlen1 hlr1 h061 rfl (Nat.le_of_ble_eq_true rfl) hroom dL_law_1263 (fun H locs hP hD hS => ?_)
  refine lv_iload hx hb dL_law_1266 (lv_at hl 1 rfl) ?_
  refine lv_icmp_eq (tgt := 1273) hx hb dL_law_1268 (by decide) (fun _ => ?_) (fun q9 => absurd rfl q9)
  refine lv_iload hx hb dL_law_1273 (lv_at hl 1 rfl) ?_
  refine r_if_ne (a := k1) (tgt := 1290) hx hb (by omega) dL_law_1275 (by decide) (fun _ => ?_) (fun q9 => ?_)
  · refine lv_goto (tgt := 1430) hx hb dL_law_1290 (by decide) ?_
    exact kk _ _ _ _ _ _ _ _ hR1 hc1 hP hD hS (lv_sub hl [2, 3, 4, 5, 6] rfl)
  · refine lv_aload_n hx hb dL_law_1278 rfl (lv_at hl 5 rfl) ?_
    refine lv_iconst (v := nI 0) hx hb dL_law_1279 (by decide) ?_
    refine va_lald hx hb hK hP 22 2 (at_22 hlen1) rfl vin0 dL_law_1280 ?_
    refine lv_iload hx hb dL_law_1281 (lv_at hl 0 rfl) ?_
    refine lv_i2l (v := v.toInt64) hx hb dL_law_1283 rfl ?_
    refine W.lcmp hx hb dL_law_1284 ?_
    refine lv_if_eq (tgt := 1290) hx hb dL_law_1285 (by decide) (fun _ => ?_) (fun q8 => absurd (lcmp0 (hv q9)) q8)
    refine lv_goto (tgt := 1430) hx hb dL_law_1290 (by decide) ?_
    exact kk _ _ _ _ _ _ _ _ hR1 hc1 hP hD hS (lv_sub hl [2, 3, 4, 5, 6] rfl)
set_option maxHeartbeats 4000000 in
theorem lo_floodMembers {p : Program} {l : Launch} {e : Env} {s : State} {m : MethodId} {below : List Frame} {meth : Method} {c : Code} {H : Heap} {locs : List Loc} {Q : State → Prop} {cells slots : Nat} {ls : Array Slot} {D : va_G} {A0 : Nat → Prop} {cI cZ cJ : ClassId} {b L ao i c0 k : Nat} {xs : Nat → Int32} {fo : Nat → Int64} {wc wr : va_W} {ad ad2 : Nat → Nat} (C : LCX p s m meth c D A0 cI cZ cJ b L xs) (hst : l.stackTraces = false) (hi : i + 4 ≤ L) (hc : c0 + 200 < 2 ^ 31) (hR : REL cI cZ ad ad2 c0 k wc wr) (hP : va_P D vwCl (LW cJ ao fo wc wr) H) (hD : va_D A0 (LW cJ ao fo wc wr)) (hS : va_S A0 s.heap H locs) (hroom : cells + 1 ≤ room_1.cells ∧ slots + 6 ≤ room_1.slots) (hl : lv_has ls 7 [(0, .ref b), (1, .ref (ad 0)), (2, .ref (ad2 0)), (3, .ref ao), (4, .int (nI i))]) (kk : LGO p l e s m below meth c D A0 cI cZ cJ b ao ad ad2 Q c0 i cells slots) : W p l e room_1 s m [Value.ref b].toArray below meth c H locs cells slots Q (F0 m 1306 ls []) := by
  obtain ⟨B, hX, hNc, hA, hxs, hbl, hbA, hL⟩ := C
  have hx := B.1
  have hb := B.2.1
  have hK := B.2.2.2.2.2.2.2.2.1
  obtain ⟨hlen, hlr, -, h06, -⟩ := hR.facts
  have v1 : vp_in (nI (i + 1)) L := vp_in_nI (by omega) (by omega)
  have v2 : vp_in (nI (i + 2)) L := vp_in_nI (by omega) (by omega)
  obtain ⟨wc1, wr1, fo1, v, k1, c1, rm6, hM, hg, hM6, hR1, f5, f6, hc1, hk1, hv⟩ := sp_floodMembers (D := D) cJ ao fo hst hc hR (xs (nI (i + 1)).toNatClampNeg) (xs (nI (i + 2)).toNatClampNeg)
  obtain ⟨hlen1, hlr1, -, h061, hT1⟩ := hR1.facts
  refine lv_aload_n hx hb dL_law_1306 rfl (lv_at hl 1 rfl) ?_
  refine lv_aload_n hx hb dL_law_1307 rfl (lv_at hl 0 rfl) ?_
  refine lv_iload hx hb dL_law_1308 (lv_at hl 4 rfl) ?_
  refine lv_iconst (v := nI 1) hx hb dL_law_1310 (by decide) ?_
  refine r_iadd hx hb dL_law_1311 ?_
  refine va_sld hx hb hxs hbl hbA hS v1 dL_law_1312 ?_
  refine lv_aload_n hx hb dL_law_1313 rfl (lv_at hl 0 rfl) ?_
  refine lv_iload hx hb dL_law_1314 (lv_at hl 4 rfl) ?_
  refine lv_iconst (v := nI 2) hx hb dL_law_1316 (by decide) ?_
  refine r_iadd hx hb dL_law_1317 ?_
  refine va_sld hx hb hxs hbl hbA hS v2 dL_law_1318 ?_
  refine lv_aload_n hx hb dL_law_1319 rfl (lv_at hl 3 rfl) ?_
  refine kLH (k := 4) (wr := wr) (as := [.ref (ad 0), .int (xs (nI (i + 1)).toNatClampNeg), .int (xs (nI (i + 2)).toNatClampNeg), .ref ao]) B hl.1 hM m_29_14 m_29_13 rfl m_29_12 (by decide +kernel) (Nat.le_of_ble_eq_true rfl) rfl rfl hX hNc hP hD hS hA hlen f5 hroom dL_law_1320 (fun H locs hP hD hS => ?_)
  refine lv_istore (lv' := [(5, .int (nI k1)), (0, .ref b), (1, .ref (ad 0)), (2, .ref (ad2 0)), (3, .ref ao), (4, .int (nI i))]) hx hb dL_law_1323 hl (by decide) rfl (fun ls hl => ?_)
  refine lv_aload_n hx hb dL_law_1325 rfl (lv_at hl 3 rfl) ?_
  refine lv_aload_n hx hb dL_law_1326 rfl (lv_at hl 1 rfl) ?_
  refine lv_iload hx hb dL_law_1327 (lv_at hl 5 rfl) ?_
  refine lv_iconst (v := nI 1) hx hb dL_law_1329 (by decide) ?_
  refine r_iadd hx hb dL_law_1330 ?_
  refine va_sld hx hb hxs hbl hbA hS v1 dL_law_1331 ?_
  refine lv_aload_n hx hb dL_law_1332 rfl (lv_at hl 1 rfl) ?_
  refine lv_iload hx hb dL_law_1333 (lv_at hl 5 rfl) ?_
  refine lv_iconst (v := nI 2) hx hb dL_law_1335 (by decide) ?_
  refine r_iadd hx hb dL_law_1336 ?_
  refine va_sld hx hb hxs hbl hbA hS v2 dL_law_1337 ?_
  refine kLR (k := 2) (wc := wc1) (as := [.int (xs (nI (i + 1)).toNatClampNeg), .int (xs (nI (i + 2)).toNatClampNeg)]) (rest := []) B hl.1 hM6 hg m_30_2 m_1_5 m_29_23 m_30_0 m_30_1 (by decide +kernel) rfl rfl hP hD hS hA hlen1 hlr h06 f6 (Nat.le_of_ble_eq_true rfl) hroom dL_law_1338 (fun H locs hP hD hS => ?_)
  refine lv_istore (lv' := [(6, .int v), (5, .int (nI k1)), (0, .ref b), (1, .ref (ad 0)), (2, .ref (ad2 0)), (3, .ref ao), (4, .int (nI i))]) hx hb dL_law_1341 hl (by decide) rfl (fun ls hl => ?_)
  refine lv_aload_n hx hb dL_law_1343 rfl (lv_at hl 4 rfl) ?_
  refine kLR (k := 0) (wc := wc1) (as := []) (rest := []) B hl.1 (hT1 l D) ⟨⟨rfl, rfl⟩, Nat.le_of_ble_eq_true rfl, Nat.le_of_ble_eq_true rfl⟩ m_10_8 m_1_5 m_10_5 m_10_6 m_10_7 (by decide +kernel) rfl rfl hP hD hS hA hlen1 hlr1 h061 rfl (Nat.le_of_ble_eq_true rfl) hroom dL_law_1344 (fun H locs hP hD hS => ?_)
  refine lv_iload hx hb dL_law_1347 (lv_at hl 1 rfl) ?_
  refine lv_icmp_eq (tgt := 1354) hx hb dL_law_1349 (by decide) (fun _ => ?_) (fun q9 => absurd rfl q9)
  refine lv_iload hx hb dL_law_1354 (lv_at hl 1 rfl) ?_
  refine r_if_ne (a := k1) (tgt := 1371) hx hb (by omega) dL_law_1356 (by decide) (fun _ => ?_) (fun q9 => ?_)
  · refine lv_goto (tgt := 1430) hx hb dL_law_1371 (by decide) ?_
    exact kk _ _ _ _ _ _ _ _ hR1 hc1 hP hD hS (lv_sub hl [2, 3, 4, 5, 6] rfl)
  · refine lv_aload_n hx hb dL_law_1359 rfl (lv_at hl 5 rfl) ?_
    refine lv_iconst (v := nI 0) hx hb dL_law_1360 (by decide) ?_
    refine va_lald hx hb hK hP 22 2 (at_22 hlen1) rfl vin0 dL_law_1361 ?_
    refine lv_iload hx hb dL_law_1362 (lv_at hl 0 rfl) ?_
    refine lv_i2l (v := v.toInt64) hx hb dL_law_1364 rfl ?_
    refine W.lcmp hx hb dL_law_1365 ?_
    refine lv_if_eq (tgt := 1371) hx hb dL_law_1366 (by decide) (fun _ => ?_) (fun q8 => absurd (lcmp0 (hv q9)) q8)
    refine lv_goto (tgt := 1430) hx hb dL_law_1371 (by decide) ?_
    exact kk _ _ _ _ _ _ _ _ hR1 hc1 hP hD hS (lv_sub hl [2, 3, 4, 5, 6] rfl)
set_option maxHeartbeats 4000000 in
theorem lo_floodCopies {p : Program} {l : Launch} {e : Env} {s : State} {m : MethodId} {below : List Frame} {meth : Method} {c : Code} {H : Heap} {locs : List Loc} {Q : State → Prop} {cells slots : Nat} {ls : Array Slot} {D : va_G} {A0 : Nat → Prop} {cI cZ cJ : ClassId} {b L ao i c0 k : Nat} {xs : Nat → Int32} {fo : Nat → Int64} {wc wr : va_W} {ad ad2 : Nat → Nat} (C : LCX p s m meth c D A0 cI cZ cJ b L xs) (hst : l.stackTraces = false) (hi : i + 4 ≤ L) (hc : c0 + 200 < 2 ^ 31) (hR : REL cI cZ ad ad2 c0 k wc wr) (hP : va_P D vwCl (LW cJ ao fo wc wr) H) (hD : va_D A0 (LW cJ ao fo wc wr)) (hS : va_S A0 s.heap H locs) (hroom : cells + 1 ≤ room_1.cells ∧ slots + 6 ≤ room_1.slots) (hl : lv_has ls 7 [(0, .ref b), (1, .ref (ad 0)), (2, .ref (ad2 0)), (3, .ref ao), (4, .int (nI i))]) (kk : LGO p l e s m below meth c D A0 cI cZ cJ b ao ad ad2 Q c0 i cells slots) : W p l e room_1 s m [Value.ref b].toArray below meth c H locs cells slots Q (F0 m 1374 ls []) := by
  obtain ⟨B, hX, hNc, hA, hxs, hbl, hbA, hL⟩ := C
  have hx := B.1
  have hb := B.2.1
  have hK := B.2.2.2.2.2.2.2.2.1
  obtain ⟨hlen, hlr, -, h06, -⟩ := hR.facts
  have v1 : vp_in (nI (i + 1)) L := vp_in_nI (by omega) (by omega)
  obtain ⟨wc1, wr1, fo1, v, k1, c1, rm6, hM, hg, hM6, hR1, f5, f6, hc1, hk1, hv⟩ := sp_floodCopies (D := D) cJ ao fo hst hc hR (xs (nI (i + 1)).toNatClampNeg)
  obtain ⟨hlen1, hlr1, -, h061, hT1⟩ := hR1.facts
  refine lv_aload_n hx hb dL_law_1374 rfl (lv_at hl 1 rfl) ?_
  refine lv_aload_n hx hb dL_law_1375 rfl (lv_at hl 0 rfl) ?_
  refine lv_iload hx hb dL_law_1376 (lv_at hl 4 rfl) ?_
  refine lv_iconst (v := nI 1) hx hb dL_law_1378 (by decide) ?_
  refine r_iadd hx hb dL_law_1379 ?_
  refine va_sld hx hb hxs hbl hbA hS v1 dL_law_1380 ?_
  refine lv_aload_n hx hb dL_law_1381 rfl (lv_at hl 3 rfl) ?_
  refine kLH (k := 3) (wr := wr) (as := [.ref (ad 0), .int (xs (nI (i + 1)).toNatClampNeg), .ref ao]) B hl.1 hM m_30_5 m_30_4 rfl m_30_3 (by decide +kernel) (Nat.le_of_ble_eq_true rfl) rfl rfl hX hNc hP hD hS hA hlen f5 hroom dL_law_1382 (fun H locs hP hD hS => ?_)
  refine lv_istore (lv' := [(5, .int (nI k1)), (0, .ref b), (1, .ref (ad 0)), (2, .ref (ad2 0)), (3, .ref ao), (4, .int (nI i))]) hx hb dL_law_1385 hl (by decide) rfl (fun ls hl => ?_)
  refine lv_aload_n hx hb dL_law_1387 rfl (lv_at hl 3 rfl) ?_
  refine lv_aload_n hx hb dL_law_1388 rfl (lv_at hl 1 rfl) ?_
  refine lv_iload hx hb dL_law_1389 (lv_at hl 5 rfl) ?_
  refine lv_iconst (v := nI 1) hx hb dL_law_1391 (by decide) ?_
  refine r_iadd hx hb dL_law_1392 ?_
  refine va_sld hx hb hxs hbl hbA hS v1 dL_law_1393 ?_
  refine kLR (k := 1) (wc := wc1) (as := [.int (xs (nI (i + 1)).toNatClampNeg)]) (rest := []) B hl.1 hM6 hg m_30_17 m_1_5 m_30_14 m_30_15 m_30_16 (by decide +kernel) rfl rfl hP hD hS hA hlen1 hlr h06 f6 (Nat.le_of_ble_eq_true rfl) hroom dL_law_1394 (fun H locs hP hD hS => ?_)
  refine lv_istore (lv' := [(6, .int v), (5, .int (nI k1)), (0, .ref b), (1, .ref (ad 0)), (2, .ref (ad2 0)), (3, .ref ao), (4, .int (nI i))]) hx hb dL_law_1397 hl (by decide) rfl (fun ls hl => ?_)
  refine lv_aload_n hx hb dL_law_1399 rfl (lv_at hl 4 rfl) ?_
  refine kLR (k := 0) (wc := wc1) (as := []) (rest := []) B hl.1 (hT1 l D) ⟨⟨rfl, rfl⟩, Nat.le_of_ble_eq_true rfl, Nat.le_of_ble_eq_true rfl⟩ m_10_8 m_1_5 m_10_5 m_10_6 m_10_7 (by decide +kernel) rfl rfl hP hD hS hA hlen1 hlr1 h061 rfl (Nat.le_of_ble_eq_true rfl) hroom dL_law_1400 (fun H locs hP hD hS => ?_)
  refine lv_iload hx hb dL_law_1403 (lv_at hl 1 rfl) ?_
  refine lv_icmp_eq (tgt := 1410) hx hb dL_law_1405 (by decide) (fun _ => ?_) (fun q9 => absurd rfl q9)
  refine lv_iload hx hb dL_law_1410 (lv_at hl 1 rfl) ?_
  refine r_if_ne (a := k1) (tgt := 1427) hx hb (by omega) dL_law_1412 (by decide) (fun _ => ?_) (fun q9 => ?_)
  · refine lv_goto (tgt := 1430) hx hb dL_law_1427 (by decide) ?_
    exact kk _ _ _ _ _ _ _ _ hR1 hc1 hP hD hS (lv_sub hl [2, 3, 4, 5, 6] rfl)
  · refine lv_aload_n hx hb dL_law_1415 rfl (lv_at hl 5 rfl) ?_
    refine lv_iconst (v := nI 0) hx hb dL_law_1416 (by decide) ?_
    refine va_lald hx hb hK hP 22 2 (at_22 hlen1) rfl vin0 dL_law_1417 ?_
    refine lv_iload hx hb dL_law_1418 (lv_at hl 0 rfl) ?_
    refine lv_i2l (v := v.toInt64) hx hb dL_law_1420 rfl ?_
    refine W.lcmp hx hb dL_law_1421 ?_
    refine lv_if_eq (tgt := 1427) hx hb dL_law_1422 (by decide) (fun _ => ?_) (fun q8 => absurd (lcmp0 (hv q9)) q8)
    refine lv_goto (tgt := 1430) hx hb dL_law_1427 (by decide) ?_
    exact kk _ _ _ _ _ _ _ _ hR1 hc1 hP hD hS (lv_sub hl [2, 3, 4, 5, 6] rfl)
