/-! a round of the law's loop, from behind its test -/
set_option maxHeartbeats 4000000 in
theorem lo_round {p : Program} {l : Launch} {e : Env} {s : State} {m : MethodId} {below : List Frame} {meth : Method} {c : Code} {H : Heap} {locs : List Loc} {Q : State → Prop} {cells slots : Nat} {ls : Array Slot} {D : va_G} {A0 : Nat → Prop} {cI cZ cJ : ClassId} {b L ao i c0 k : Nat} {xs : Nat → Int32} {fo : Nat → Int64} {wc wr : va_W} {ad ad2 : Nat → Nat} (C : LCX p s m meth c D A0 cI cZ cJ b L xs) (hst : l.stackTraces = false) (hi : i + 4 ≤ L) (hc : c0 + 200 < 2 ^ 31) (hR : REL cI cZ ad ad2 c0 k wc wr) (hP : va_P D vwCl (LW cJ ao fo wc wr) H) (hD : va_D A0 (LW cJ ao fo wc wr)) (hS : va_S A0 s.heap H locs) (hroom : cells + 1 ≤ room_1.cells ∧ slots + 6 ≤ room_1.slots) (hl : lv_has ls 7 [(0, .ref b), (1, .ref (ad 0)), (2, .ref (ad2 0)), (3, .ref ao), (4, .int (nI i))]) (kk : LGO p l e s m below meth c D A0 cI cZ cJ b ao ad ad2 Q c0 i cells slots) : W p l e room_1 s m [Value.ref b].toArray below meth c H locs cells slots Q (F0 m 32 ls []) := by
  have C0 := C
  obtain ⟨B, hX, hNc, hA, hxs, hbl, hbA, hL⟩ := C
  have hx := B.1
  have hb := B.2.1
  have v0 : vp_in (nI i) L := vp_in_nI (by omega) (by omega)
  refine lv_aload_n hx hb dL_law_32 rfl (lv_at hl 0 rfl) ?_
  refine lv_iload hx hb dL_law_33 (lv_at hl 4 rfl) ?_
  refine va_sld hx hb hxs hbl hbA hS v0 dL_law_35 ?_
  refine lv_bipush (v := nI 31) hx hb dL_law_36 (by decide) ?_
  refine lv_iand hx hb dL_law_38 ?_
  obtain ⟨t, ht, et⟩ := and31 (xs (nI i).toNatClampNeg)
  refine r_eq et ?_
  by_cases h25 : t < 25
  · rcases (show t = 0 ∨ t = 1 ∨ t = 2 ∨ t = 3 ∨ t = 4 ∨ t = 5 ∨ t = 6 ∨ t = 7 ∨ t = 8 ∨ t = 9 ∨ t = 10 ∨ t = 11 ∨ t = 12 ∨ t = 13 ∨ t = 14 ∨ t = 15 ∨ t = 16 ∨ t = 17 ∨ t = 18 ∨ t = 19 ∨ t = 20 ∨ t = 21 ∨ t = 22 ∨ t = 23 ∨ t = 24 by omega) with rfl | rfl | rfl | rfl | rfl | rfl | rfl | rfl | rfl | rfl | rfl | rfl | rfl | rfl | rfl | rfl | rfl | rfl | rfl | rfl | rfl | rfl | rfl | rfl | rfl
    · exact lv_tableIn (tgt := 152) hx hb dL_law_39 (by decide) (by decide) rfl (by decide) (lo_setLink C0 hst hi hc hR hP hD hS hroom hl kk)
    · exact lv_tableIn (tgt := 232) hx hb dL_law_39 (by decide) (by decide) rfl (by decide) (lo_setCandidate C0 hst hi hc hR hP hD hS hroom hl kk)
    · exact lv_tableIn (tgt := 323) hx hb dL_law_39 (by decide) (by decide) rfl (by decide) (lo_setLimit C0 hst hi hc hR hP hD hS hroom hl kk)
    · exact lv_tableIn (tgt := 379) hx hb dL_law_39 (by decide) (by decide) rfl (by decide) (lo_distance C0 hst hi hc hR hP hD hS hroom hl kk)
    · exact lv_tableIn (tgt := 447) hx hb dL_law_39 (by decide) (by decide) rfl (by decide) (lo_nextHop C0 hst hi hc hR hP hD hS hroom hl kk)
    · exact lv_tableIn (tgt := 515) hx hb dL_law_39 (by decide) (by decide) rfl (by decide) (lo_rendezvous C0 hst hi hc hR hP hD hS hroom hl kk)
    · exact lv_tableIn (tgt := 571) hx hb dL_law_39 (by decide) (by decide) rfl (by decide) (lo_join C0 hst hi hc hR hP hD hS hroom hl kk)
    · exact lv_tableIn (tgt := 639) hx hb dL_law_39 (by decide) (by decide) rfl (by decide) (lo_leave C0 hst hi hc hR hP hD hS hroom hl kk)
    · exact lv_tableIn (tgt := 707) hx hb dL_law_39 (by decide) (by decide) rfl (by decide) (lo_members C0 hst hi hc hR hP hD hS hroom hl kk)
    · exact lv_tableIn (tgt := 763) hx hb dL_law_39 (by decide) (by decide) rfl (by decide) (lo_switched C0 hst hi hc hR hP hD hS hroom hl kk)
    · exact lv_tableIn (tgt := 831) hx hb dL_law_39 (by decide) (by decide) rfl (by decide) (lo_branches C0 hst hi hc hR hP hD hS hroom hl kk)
    · exact lv_tableIn (tgt := 899) hx hb dL_law_39 (by decide) (by decide) rfl (by decide) (lo_sourceBranches C0 hst hi hc hR hP hD hS hroom hl kk)
    · exact lv_tableIn (tgt := 979) hx hb dL_law_39 (by decide) (by decide) rfl (by decide) (lo_leaving C0 hst hi hc hR hP hD hS hroom hl kk)
    · exact lv_tableIn (tgt := 992) hx hb dL_law_39 (by decide) (by decide) rfl (by decide) (lo_send C0 hst hi hc hR hP hD hS hroom hl kk)
    · exact lv_tableIn (tgt := 1060) hx hb dL_law_39 (by decide) (by decide) rfl (by decide) (lo_follow C0 hst hi hc hR hP hD hS hroom hl kk)
    · exact lv_tableIn (tgt := 1073) hx hb dL_law_39 (by decide) (by decide) rfl (by decide) (lo_followAll C0 hst hi hc hR hP hD hS hroom hl kk)
    · exact lv_tableIn (tgt := 1086) hx hb dL_law_39 (by decide) (by decide) rfl (by decide) (lo_queued C0 hst hi hc hR hP hD hS hroom hl kk)
    · exact lv_tableIn (tgt := 1099) hx hb dL_law_39 (by decide) (by decide) rfl (by decide) (lo_nextTo C0 hst hi hc hR hP hD hS hroom hl kk)
    · exact lv_tableIn (tgt := 1112) hx hb dL_law_39 (by decide) (by decide) rfl (by decide) (lo_received C0 hst hi hc hR hP hD hS hroom hl kk)
    · exact lv_tableIn (tgt := 1168) hx hb dL_law_39 (by decide) (by decide) rfl (by decide) (lo_doubles C0 hst hi hc hR hP hD hS hroom hl kk)
    · exact lv_tableIn (tgt := 1224) hx hb dL_law_39 (by decide) (by decide) rfl (by decide) (lo_wasted C0 hst hi hc hR hP hD hS hroom hl kk)
    · exact lv_tableIn (tgt := 1237) hx hb dL_law_39 (by decide) (by decide) rfl (by decide) (lo_pass C0 hst hi hc hR hP hD hS hroom hl kk)
    · exact lv_tableIn (tgt := 1293) hx hb dL_law_39 (by decide) (by decide) rfl (by decide) (lo_clock C0 hst hi hc hR hP hD hS hroom hl kk)
    · exact lv_tableIn (tgt := 1306) hx hb dL_law_39 (by decide) (by decide) rfl (by decide) (lo_floodMembers C0 hst hi hc hR hP hD hS hroom hl kk)
    · exact lv_tableIn (tgt := 1374) hx hb dL_law_39 (by decide) (by decide) rfl (by decide) (lo_floodCopies C0 hst hi hc hR hP hD hS hroom hl kk)
  · refine lv_tableOut (tgt := 1430) hx hb dL_law_39 (Or.inr ?_) (by decide) ?_
    · rw [nI_toInt (by omega)]; omega
    · refine w_widen (Nat.le_succ cells) (Nat.le_add_right slots 6) ?_
      exact kk _ _ _ _ _ _ _ _ hR (Nat.le_add_right _ _) hP hD hS hl
