/-! the law's cases without a helper -/
set_option maxHeartbeats 4000000 in
theorem lo_leaving {p : Program} {l : Launch} {e : Env} {s : State} {m : MethodId} {below : List Frame} {meth : Method} {c : Code} {H : Heap} {locs : List Loc} {Q : State → Prop} {cells slots : Nat} {ls : Array Slot} {D : va_G} {A0 : Nat → Prop} {cI cZ cJ : ClassId} {b L ao i c0 k : Nat} {xs : Nat → Int32} {fo : Nat → Int64} {wc wr : va_W} {ad ad2 : Nat → Nat} (C : LCX p s m meth c D A0 cI cZ cJ b L xs) (hst : l.stackTraces = false) (hi : i + 4 ≤ L) (hc : c0 + 200 < 2 ^ 31) (hR : REL cI cZ ad ad2 c0 k wc wr) (hP : va_P D vwCl (LW cJ ao fo wc wr) H) (hD : va_D A0 (LW cJ ao fo wc wr)) (hS : va_S A0 s.heap H locs) (hroom : cells + 1 ≤ room_1.cells ∧ slots + 6 ≤ room_1.slots) (hl : lv_has ls 7 [(0, .ref b), (1, .ref (ad 0)), (2, .ref (ad2 0)), (3, .ref ao), (4, .int (nI i))]) (kk : LGO p l e s m below meth c D A0 cI cZ cJ b ao ad ad2 Q c0 i cells slots) : W p l e room_1 s m [Value.ref b].toArray below meth c H locs cells slots Q (F0 m 979 ls []) := by
  obtain ⟨B, hX, hNc, hA, hxs, hbl, hbA, hL⟩ := C
  have hx := B.1
  have hb := B.2.1
  obtain ⟨hlen, hlr, h05, h06, -⟩ := hR.facts
  obtain ⟨wc1, wr1, v, rm5, rm6, g5, g6, M5, M6, hR1, f5, f6, -⟩ := st_leaving (D := D) hst hc hR
  obtain ⟨hlen1, -, -, -, -⟩ := hR1.facts
  refine w_widen (Nat.le_succ cells) (Nat.le_add_right slots 6) ?_
  refine lv_aload_n hx hb dL_law_979 rfl (lv_at hl 1 rfl) ?_
  refine kLC (k := 0) (wr := wr) (as := []) (rest := []) B hl.1 M5 g5 m_19_8 m_1_2 m_19_5 m_19_6 m_19_7 (by decide +kernel) rfl rfl hP hD hS hA hlen h05 f5 (Nat.le_of_ble_eq_true rfl) hroom dL_law_980 (fun H locs hP hD hS => ?_)
  refine lv_aload_n hx hb dL_law_983 rfl (lv_at hl 2 rfl) ?_
  refine kLR (k := 0) (wc := wc1) (as := []) (rest := [.int v]) B hl.1 M6 g6 m_19_16 m_1_5 m_19_13 m_19_14 m_19_15 (by decide +kernel) rfl rfl hP hD hS hA hlen1 hlr h06 f6 (Nat.le_of_ble_eq_true rfl) hroom dL_law_984 (fun H locs hP hD hS => ?_)
  refine lv_icmp_eq (tgt := 1430) hx hb dL_law_987 (by decide) (fun _ => ?_) (fun q9 => absurd rfl q9)
  exact kk _ _ _ _ _ _ _ _ hR1 (Nat.le_add_right _ _) hP hD hS (lv_sub hl [0, 1, 2, 3, 4] rfl)
set_option maxHeartbeats 4000000 in
theorem lo_follow {p : Program} {l : Launch} {e : Env} {s : State} {m : MethodId} {below : List Frame} {meth : Method} {c : Code} {H : Heap} {locs : List Loc} {Q : State → Prop} {cells slots : Nat} {ls : Array Slot} {D : va_G} {A0 : Nat → Prop} {cI cZ cJ : ClassId} {b L ao i c0 k : Nat} {xs : Nat → Int32} {fo : Nat → Int64} {wc wr : va_W} {ad ad2 : Nat → Nat} (C : LCX p s m meth c D A0 cI cZ cJ b L xs) (hst : l.stackTraces = false) (hi : i + 4 ≤ L) (hc : c0 + 200 < 2 ^ 31) (hR : REL cI cZ ad ad2 c0 k wc wr) (hP : va_P D vwCl (LW cJ ao fo wc wr) H) (hD : va_D A0 (LW cJ ao fo wc wr)) (hS : va_S A0 s.heap H locs) (hroom : cells + 1 ≤ room_1.cells ∧ slots + 6 ≤ room_1.slots) (hl : lv_has ls 7 [(0, .ref b), (1, .ref (ad 0)), (2, .ref (ad2 0)), (3, .ref ao), (4, .int (nI i))]) (kk : LGO p l e s m below meth c D A0 cI cZ cJ b ao ad ad2 Q c0 i cells slots) : W p l e room_1 s m [Value.ref b].toArray below meth c H locs cells slots Q (F0 m 1060 ls []) := by
  obtain ⟨B, hX, hNc, hA, hxs, hbl, hbA, hL⟩ := C
  have hx := B.1
  have hb := B.2.1
  obtain ⟨hlen, hlr, h05, h06, -⟩ := hR.facts
  obtain ⟨wc1, wr1, v, rm5, rm6, g5, g6, M5, M6, hR1, f5, f6, -⟩ := st_follow (D := D) hst hc hR
  obtain ⟨hlen1, -, -, -, -⟩ := hR1.facts
  refine w_widen (Nat.le_succ cells) (Nat.le_add_right slots 6) ?_
  refine lv_aload_n hx hb dL_law_1060 rfl (lv_at hl 1 rfl) ?_
  refine kLC (k := 0) (wr := wr) (as := []) (rest := []) B hl.1 M5 g5 m_23_10 m_1_2 m_23_7 m_23_8 m_23_9 (by decide +kernel) rfl rfl hP hD hS hA hlen h05 f5 (Nat.le_of_ble_eq_true rfl) hroom dL_law_1061 (fun H locs hP hD hS => ?_)
  refine lv_aload_n hx hb dL_law_1064 rfl (lv_at hl 2 rfl) ?_
  refine kLR (k := 0) (wc := wc1) (as := []) (rest := [.int v]) B hl.1 M6 g6 m_24_18 m_1_5 m_24_15 m_24_16 m_24_17 (by decide +kernel) rfl rfl hP hD hS hA hlen1 hlr h06 f6 (Nat.le_of_ble_eq_true rfl) hroom dL_law_1065 (fun H locs hP hD hS => ?_)
  refine lv_icmp_eq (tgt := 1430) hx hb dL_law_1068 (by decide) (fun _ => ?_) (fun q9 => absurd rfl q9)
  exact kk _ _ _ _ _ _ _ _ hR1 (Nat.le_add_right _ _) hP hD hS (lv_sub hl [0, 1, 2, 3, 4] rfl)
set_option maxHeartbeats 4000000 in
theorem lo_followAll {p : Program} {l : Launch} {e : Env} {s : State} {m : MethodId} {below : List Frame} {meth : Method} {c : Code} {H : Heap} {locs : List Loc} {Q : State → Prop} {cells slots : Nat} {ls : Array Slot} {D : va_G} {A0 : Nat → Prop} {cI cZ cJ : ClassId} {b L ao i c0 k : Nat} {xs : Nat → Int32} {fo : Nat → Int64} {wc wr : va_W} {ad ad2 : Nat → Nat} (C : LCX p s m meth c D A0 cI cZ cJ b L xs) (hst : l.stackTraces = false) (hi : i + 4 ≤ L) (hc : c0 + 200 < 2 ^ 31) (hR : REL cI cZ ad ad2 c0 k wc wr) (hP : va_P D vwCl (LW cJ ao fo wc wr) H) (hD : va_D A0 (LW cJ ao fo wc wr)) (hS : va_S A0 s.heap H locs) (hroom : cells + 1 ≤ room_1.cells ∧ slots + 6 ≤ room_1.slots) (hl : lv_has ls 7 [(0, .ref b), (1, .ref (ad 0)), (2, .ref (ad2 0)), (3, .ref ao), (4, .int (nI i))]) (kk : LGO p l e s m below meth c D A0 cI cZ cJ b ao ad ad2 Q c0 i cells slots) : W p l e room_1 s m [Value.ref b].toArray below meth c H locs cells slots Q (F0 m 1073 ls []) := by
  obtain ⟨B, hX, hNc, hA, hxs, hbl, hbA, hL⟩ := C
  have hx := B.1
  have hb := B.2.1
  obtain ⟨hlen, hlr, h05, h06, -⟩ := hR.facts
  obtain ⟨wc1, wr1, v, rm5, rm6, g5, g6, M5, M6, hR1, f5, f6, -⟩ := st_followAll (D := D) hst hc hR
  obtain ⟨hlen1, -, -, -, -⟩ := hR1.facts
  refine w_widen (Nat.le_succ cells) (Nat.le_add_right slots 6) ?_
  refine lv_aload_n hx hb dL_law_1073 rfl (lv_at hl 1 rfl) ?_
  refine kLC (k := 0) (wr := wr) (as := []) (rest := []) B hl.1 M5 g5 m_25_2 m_1_2 m_24_23 m_25_0 m_25_1 (by decide +kernel) rfl rfl hP hD hS hA hlen h05 f5 (Nat.le_of_ble_eq_true rfl) hroom dL_law_1074 (fun H locs hP hD hS => ?_)
  refine lv_aload_n hx hb dL_law_1077 rfl (lv_at hl 2 rfl) ?_
  refine kLR (k := 0) (wc := wc1) (as := []) (rest := [.int v]) B hl.1 M6 g6 m_25_8 m_1_5 m_25_5 m_25_6 m_25_7 (by decide +kernel) rfl rfl hP hD hS hA hlen1 hlr h06 f6 (Nat.le_of_ble_eq_true rfl) hroom dL_law_1078 (fun H locs hP hD hS => ?_)
  refine lv_icmp_eq (tgt := 1430) hx hb dL_law_1081 (by decide) (fun _ => ?_) (fun q9 => absurd rfl q9)
  exact kk _ _ _ _ _ _ _ _ hR1 (Nat.le_add_right _ _) hP hD hS (lv_sub hl [0, 1, 2, 3, 4] rfl)
set_option maxHeartbeats 4000000 in
theorem lo_queued {p : Program} {l : Launch} {e : Env} {s : State} {m : MethodId} {below : List Frame} {meth : Method} {c : Code} {H : Heap} {locs : List Loc} {Q : State → Prop} {cells slots : Nat} {ls : Array Slot} {D : va_G} {A0 : Nat → Prop} {cI cZ cJ : ClassId} {b L ao i c0 k : Nat} {xs : Nat → Int32} {fo : Nat → Int64} {wc wr : va_W} {ad ad2 : Nat → Nat} (C : LCX p s m meth c D A0 cI cZ cJ b L xs) (hst : l.stackTraces = false) (hi : i + 4 ≤ L) (hc : c0 + 200 < 2 ^ 31) (hR : REL cI cZ ad ad2 c0 k wc wr) (hP : va_P D vwCl (LW cJ ao fo wc wr) H) (hD : va_D A0 (LW cJ ao fo wc wr)) (hS : va_S A0 s.heap H locs) (hroom : cells + 1 ≤ room_1.cells ∧ slots + 6 ≤ room_1.slots) (hl : lv_has ls 7 [(0, .ref b), (1, .ref (ad 0)), (2, .ref (ad2 0)), (3, .ref ao), (4, .int (nI i))]) (kk : LGO p l e s m below meth c D A0 cI cZ cJ b ao ad ad2 Q c0 i cells slots) : W p l e room_1 s m [Value.ref b].toArray below meth c H locs cells slots Q (F0 m 1086 ls []) := by
  obtain ⟨B, hX, hNc, hA, hxs, hbl, hbA, hL⟩ := C
  have hx := B.1
  have hb := B.2.1
  obtain ⟨hlen, hlr, h05, h06, -⟩ := hR.facts
  obtain ⟨wc1, wr1, v, rm5, rm6, g5, g6, M5, M6, hR1, f5, f6, -⟩ := st_queued (D := D) hst hc hR
  obtain ⟨hlen1, -, -, -, -⟩ := hR1.facts
  refine w_widen (Nat.le_succ cells) (Nat.le_add_right slots 6) ?_
  refine lv_aload_n hx hb dL_law_1086 rfl (lv_at hl 1 rfl) ?_
  refine kLC (k := 0) (wr := wr) (as := []) (rest := []) B hl.1 M5 g5 m_25_12 m_1_2 m_25_9 m_25_10 m_25_11 (by decide +kernel) rfl rfl hP hD hS hA hlen h05 f5 (Nat.le_of_ble_eq_true rfl) hroom dL_law_1087 (fun H locs hP hD hS => ?_)
  refine lv_aload_n hx hb dL_law_1090 rfl (lv_at hl 2 rfl) ?_
  refine kLR (k := 0) (wc := wc1) (as := []) (rest := [.int v]) B hl.1 M6 g6 m_25_20 m_1_5 m_25_17 m_25_18 m_25_19 (by decide +kernel) rfl rfl hP hD hS hA hlen1 hlr h06 f6 (Nat.le_of_ble_eq_true rfl) hroom dL_law_1091 (fun H locs hP hD hS => ?_)
  refine lv_icmp_eq (tgt := 1430) hx hb dL_law_1094 (by decide) (fun _ => ?_) (fun q9 => absurd rfl q9)
  exact kk _ _ _ _ _ _ _ _ hR1 (Nat.le_add_right _ _) hP hD hS (lv_sub hl [0, 1, 2, 3, 4] rfl)
set_option maxHeartbeats 4000000 in
theorem lo_nextTo {p : Program} {l : Launch} {e : Env} {s : State} {m : MethodId} {below : List Frame} {meth : Method} {c : Code} {H : Heap} {locs : List Loc} {Q : State → Prop} {cells slots : Nat} {ls : Array Slot} {D : va_G} {A0 : Nat → Prop} {cI cZ cJ : ClassId} {b L ao i c0 k : Nat} {xs : Nat → Int32} {fo : Nat → Int64} {wc wr : va_W} {ad ad2 : Nat → Nat} (C : LCX p s m meth c D A0 cI cZ cJ b L xs) (hst : l.stackTraces = false) (hi : i + 4 ≤ L) (hc : c0 + 200 < 2 ^ 31) (hR : REL cI cZ ad ad2 c0 k wc wr) (hP : va_P D vwCl (LW cJ ao fo wc wr) H) (hD : va_D A0 (LW cJ ao fo wc wr)) (hS : va_S A0 s.heap H locs) (hroom : cells + 1 ≤ room_1.cells ∧ slots + 6 ≤ room_1.slots) (hl : lv_has ls 7 [(0, .ref b), (1, .ref (ad 0)), (2, .ref (ad2 0)), (3, .ref ao), (4, .int (nI i))]) (kk : LGO p l e s m below meth c D A0 cI cZ cJ b ao ad ad2 Q c0 i cells slots) : W p l e room_1 s m [Value.ref b].toArray below meth c H locs cells slots Q (F0 m 1099 ls []) := by
  obtain ⟨B, hX, hNc, hA, hxs, hbl, hbA, hL⟩ := C
  have hx := B.1
  have hb := B.2.1
  obtain ⟨hlen, hlr, h05, h06, -⟩ := hR.facts
  obtain ⟨wc1, wr1, v, rm5, rm6, g5, g6, M5, M6, hR1, f5, f6, -⟩ := st_nextTo (D := D) hst hc hR
  obtain ⟨hlen1, -, -, -, -⟩ := hR1.facts
  refine w_widen (Nat.le_succ cells) (Nat.le_add_right slots 6) ?_
  refine lv_aload_n hx hb dL_law_1099 rfl (lv_at hl 1 rfl) ?_
  refine kLC (k := 0) (wr := wr) (as := []) (rest := []) B hl.1 M5 g5 m_26_0 m_1_2 m_25_21 m_25_22 m_25_23 (by decide +kernel) rfl rfl hP hD hS hA hlen h05 f5 (Nat.le_of_ble_eq_true rfl) hroom dL_law_1100 (fun H locs hP hD hS => ?_)
  refine lv_aload_n hx hb dL_law_1103 rfl (lv_at hl 2 rfl) ?_
  refine kLR (k := 0) (wc := wc1) (as := []) (rest := [.int v]) B hl.1 M6 g6 m_26_4 m_1_5 m_26_1 m_26_2 m_26_3 (by decide +kernel) rfl rfl hP hD hS hA hlen1 hlr h06 f6 (Nat.le_of_ble_eq_true rfl) hroom dL_law_1104 (fun H locs hP hD hS => ?_)
  refine lv_icmp_eq (tgt := 1430) hx hb dL_law_1107 (by decide) (fun _ => ?_) (fun q9 => absurd rfl q9)
  exact kk _ _ _ _ _ _ _ _ hR1 (Nat.le_add_right _ _) hP hD hS (lv_sub hl [0, 1, 2, 3, 4] rfl)
set_option maxHeartbeats 4000000 in
theorem lo_wasted {p : Program} {l : Launch} {e : Env} {s : State} {m : MethodId} {below : List Frame} {meth : Method} {c : Code} {H : Heap} {locs : List Loc} {Q : State → Prop} {cells slots : Nat} {ls : Array Slot} {D : va_G} {A0 : Nat → Prop} {cI cZ cJ : ClassId} {b L ao i c0 k : Nat} {xs : Nat → Int32} {fo : Nat → Int64} {wc wr : va_W} {ad ad2 : Nat → Nat} (C : LCX p s m meth c D A0 cI cZ cJ b L xs) (hst : l.stackTraces = false) (hi : i + 4 ≤ L) (hc : c0 + 200 < 2 ^ 31) (hR : REL cI cZ ad ad2 c0 k wc wr) (hP : va_P D vwCl (LW cJ ao fo wc wr) H) (hD : va_D A0 (LW cJ ao fo wc wr)) (hS : va_S A0 s.heap H locs) (hroom : cells + 1 ≤ room_1.cells ∧ slots + 6 ≤ room_1.slots) (hl : lv_has ls 7 [(0, .ref b), (1, .ref (ad 0)), (2, .ref (ad2 0)), (3, .ref ao), (4, .int (nI i))]) (kk : LGO p l e s m below meth c D A0 cI cZ cJ b ao ad ad2 Q c0 i cells slots) : W p l e room_1 s m [Value.ref b].toArray below meth c H locs cells slots Q (F0 m 1224 ls []) := by
  obtain ⟨B, hX, hNc, hA, hxs, hbl, hbA, hL⟩ := C
  have hx := B.1
  have hb := B.2.1
  obtain ⟨hlen, hlr, h05, h06, -⟩ := hR.facts
  obtain ⟨wc1, wr1, v, rm5, rm6, g5, g6, M5, M6, hR1, f5, f6, -⟩ := st_wasted (D := D) hst hc hR
  obtain ⟨hlen1, -, -, -, -⟩ := hR1.facts
  refine w_widen (Nat.le_succ cells) (Nat.le_add_right slots 6) ?_
  refine lv_aload_n hx hb dL_law_1224 rfl (lv_at hl 1 rfl) ?_
  refine kLC (k := 0) (wr := wr) (as := []) (rest := []) B hl.1 M5 g5 m_27_19 m_1_2 m_27_16 m_27_17 m_27_18 (by decide +kernel) rfl rfl hP hD hS hA hlen h05 f5 (Nat.le_of_ble_eq_true rfl) hroom dL_law_1225 (fun H locs hP hD hS => ?_)
  refine lv_aload_n hx hb dL_law_1228 rfl (lv_at hl 2 rfl) ?_
  refine kLR (k := 0) (wc := wc1) (as := []) (rest := [.int v]) B hl.1 M6 g6 m_27_23 m_1_5 m_27_20 m_27_21 m_27_22 (by decide +kernel) rfl rfl hP hD hS hA hlen1 hlr h06 f6 (Nat.le_of_ble_eq_true rfl) hroom dL_law_1229 (fun H locs hP hD hS => ?_)
  refine lv_icmp_eq (tgt := 1430) hx hb dL_law_1232 (by decide) (fun _ => ?_) (fun q9 => absurd rfl q9)
  exact kk _ _ _ _ _ _ _ _ hR1 (Nat.le_add_right _ _) hP hD hS (lv_sub hl [0, 1, 2, 3, 4] rfl)
set_option maxHeartbeats 4000000 in
theorem lo_clock {p : Program} {l : Launch} {e : Env} {s : State} {m : MethodId} {below : List Frame} {meth : Method} {c : Code} {H : Heap} {locs : List Loc} {Q : State → Prop} {cells slots : Nat} {ls : Array Slot} {D : va_G} {A0 : Nat → Prop} {cI cZ cJ : ClassId} {b L ao i c0 k : Nat} {xs : Nat → Int32} {fo : Nat → Int64} {wc wr : va_W} {ad ad2 : Nat → Nat} (C : LCX p s m meth c D A0 cI cZ cJ b L xs) (hst : l.stackTraces = false) (hi : i + 4 ≤ L) (hc : c0 + 200 < 2 ^ 31) (hR : REL cI cZ ad ad2 c0 k wc wr) (hP : va_P D vwCl (LW cJ ao fo wc wr) H) (hD : va_D A0 (LW cJ ao fo wc wr)) (hS : va_S A0 s.heap H locs) (hroom : cells + 1 ≤ room_1.cells ∧ slots + 6 ≤ room_1.slots) (hl : lv_has ls 7 [(0, .ref b), (1, .ref (ad 0)), (2, .ref (ad2 0)), (3, .ref ao), (4, .int (nI i))]) (kk : LGO p l e s m below meth c D A0 cI cZ cJ b ao ad ad2 Q c0 i cells slots) : W p l e room_1 s m [Value.ref b].toArray below meth c H locs cells slots Q (F0 m 1293 ls []) := by
  obtain ⟨B, hX, hNc, hA, hxs, hbl, hbA, hL⟩ := C
  have hx := B.1
  have hb := B.2.1
  obtain ⟨hlen, hlr, h05, h06, -⟩ := hR.facts
  obtain ⟨wc1, wr1, v, rm5, rm6, g5, g6, M5, M6, hR1, f5, f6, -⟩ := st_clock (D := D) hst hc hR
  obtain ⟨hlen1, -, -, -, -⟩ := hR1.facts
  refine w_widen (Nat.le_succ cells) (Nat.le_add_right slots 6) ?_
  refine lv_aload_n hx hb dL_law_1293 rfl (lv_at hl 1 rfl) ?_
  refine kLC (k := 0) (wr := wr) (as := []) (rest := []) B hl.1 M5 g5 m_29_7 m_1_2 m_29_4 m_29_5 m_29_6 (by decide +kernel) rfl rfl hP hD hS hA hlen h05 f5 (Nat.le_of_ble_eq_true rfl) hroom dL_law_1294 (fun H locs hP hD hS => ?_)
  refine lv_aload_n hx hb dL_law_1297 rfl (lv_at hl 2 rfl) ?_
  refine kLR (k := 0) (wc := wc1) (as := []) (rest := [.int v]) B hl.1 M6 g6 m_29_11 m_1_5 m_29_8 m_29_9 m_29_10 (by decide +kernel) rfl rfl hP hD hS hA hlen1 hlr h06 f6 (Nat.le_of_ble_eq_true rfl) hroom dL_law_1298 (fun H locs hP hD hS => ?_)
  refine lv_icmp_eq (tgt := 1430) hx hb dL_law_1301 (by decide) (fun _ => ?_) (fun q9 => absurd rfl q9)
  exact kk _ _ _ _ _ _ _ _ hR1 (Nat.le_add_right _ _) hP hD hS (lv_sub hl [0, 1, 2, 3, 4] rfl)
