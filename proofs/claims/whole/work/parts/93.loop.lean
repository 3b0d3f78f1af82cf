/-! the law's loop -/
set_option maxHeartbeats 4000000 in
theorem lo_head {p : Program} {l : Launch} {e : Env} {s : State} {m : MethodId} {below : List Frame} {meth : Method} {c : Code} {H : Heap} {locs : List Loc} {Q : State → Prop} {cells slots : Nat} {ls : Array Slot} {D : va_G} {A0 : Nat → Prop} {cI cZ cJ : ClassId} {b L i : Nat} {xs : Nat → Int32} {lv : List (Nat × Value)} (C : LCX p s m meth c D A0 cI cZ cJ b L xs) (hi : i ≤ 4096) (hS : va_S A0 s.heap H locs) (hl : lv_has ls 7 ((0, .ref b) :: (4, .int (nI i)) :: lv))
    (kx : L < i + 4 → W p l e room_1 s m [Value.ref b].toArray below meth c H locs cells slots Q (F0 m 1436 ls [])) (kg : i + 4 ≤ L → W p l e room_1 s m [Value.ref b].toArray below meth c H locs cells slots Q (F0 m 32 ls [])) :
    W p l e room_1 s m [Value.ref b].toArray below meth c H locs cells slots Q (F0 m 23 ls []) := by
  obtain ⟨B, hX, hNc, hA, hxs, hbl, hbA, hL⟩ := C
  have hx := B.1
  have hb := B.2.1
  refine lv_iload hx hb dL_law_23 (lv_at hl 1 rfl) ?_
  refine lv_aload_n hx hb dL_law_25 rfl (lv_at hl 0 rfl) ?_
  refine va_slen hx hb hxs hbl hbA hS dL_law_26 ?_
  refine lv_iconst (v := nI 4) hx hb dL_law_27 (by decide) ?_
  refine lv_isub hx hb dL_law_28 ?_
  exact lv_icmp_gt (tgt := 1436) hx hb dL_law_29 (by decide) (fun h => kx ((sub4 hL hi).mp h)) (fun h => kg (Nat.not_lt.mp (fun h2 => h ((sub4 hL hi).mpr h2))))
set_option maxHeartbeats 4000000 in
theorem lo_exit {p : Program} {l : Launch} {e : Env} {s : State} {m : MethodId} {below : List Frame} {meth : Method} {c : Code} {H : Heap} {locs : List Loc} {cells slots : Nat} {ls : Array Slot} {D : va_G} {cI cZ cJ : ClassId} {b L : Nat} {xs : Nat → Int32} (C : LCX p s m meth c D (fun q => s.heap.size ≤ q) cI cZ cJ b L xs) (hS : va_S (fun q => s.heap.size ≤ q) s.heap H locs) (hcl : cells ≤ 1070) (hsl : slots ≤ 14696) :
    W p l e room_1 s m [Value.ref b].toArray below meth c H locs cells slots (lw_Z below #[Value.ref b] s) (F0 m 1436 ls []) := by
  obtain ⟨B, hX, hNc, hA, hxs, hbl, hbA, hL⟩ := C
  have hx := B.1
  have hb := B.2.1
  refine lv_iconst (v := 1) hx hb dL_law_1436 (by decide) ?_
  refine va_forget (fun q hq => hS.2.2 q hq) ?_
  refine W.widen (k := 1070) (n := 14696) hcl hsl ?_
  exact lw_ret hx hb B.2.2.1 B.2.2.2.2.2.2.1 dL_law_1437
set_option maxHeartbeats 4000000 in
theorem law_loop {p : Program} {l : Launch} {e : Env} {s : State} {m : MethodId} {below : List Frame} {meth : Method} {c : Code} {D : va_G} {cI cZ cJ : ClassId} {b L ao : Nat} {xs : Nat → Int32} {ad ad2 : Nat → Nat} (hst : l.stackTraces = false) (C : LCX p s m meth c D (fun q => s.heap.size ≤ q) cI cZ cJ b L xs) :
    ∀ (n j c0 k : Nat) (H : Heap) (locs : List Loc) (wc wr : va_W) (fo : Nat → Int64) (ls : Array Slot), L < 4 * j + 4 + 4 * n → 4 * j ≤ 2051 → c0 ≤ 100 * j → REL cI cZ ad ad2 c0 k wc wr → va_P D vwCl (LW cJ ao fo wc wr) H → va_D (fun q => s.heap.size ≤ q) (LW cJ ao fo wc wr) → va_S (fun q => s.heap.size ≤ q) s.heap H locs →
      lv_has ls 7 [(0, .ref b), (4, .int (nI (4 * j))), (1, .ref (ad 0)), (2, .ref (ad2 0)), (3, .ref ao)] →
      W p l e room_1 s m [Value.ref b].toArray below meth c H locs (37 + j) (6450 + 6 * j) (lw_Z below #[Value.ref b] s) (F0 m 23 ls []) := by
  have hx := C.1.1
  have hb := C.1.2.1
  have hL : L ≤ 2048 := C.2.2.2.2.2.2.2
  intro n
  induction n with
  | zero =>
    intro j c0 k H locs wc wr fo ls h1 h2 h3 hR hP hD hS hl
    exact lo_head C (by omega) hS hl (fun _ => lo_exit C hS (by omega) (by omega)) (fun h => absurd h (by omega))
  | succ n ih =>
    intro j c0 k H locs wc wr fo ls h1 h2 h3 hR hP hD hS hl
    refine lo_head C (by omega) hS hl (fun _ => lo_exit C hS (by omega) (by omega)) (fun h => ?_)
    refine lo_round C hst h (by omega) hR hP hD hS ⟨?_, ?_⟩ (lv_sub hl [0, 2, 3, 4, 1] rfl) ?_
    · show 37 + j + 1 ≤ 1070
      omega
    · show 6450 + 6 * j + 6 ≤ 14696
      omega
    · intro H1 locs1 wc1 wr1 fo1 c1 k1 ls1 hR1 hc1 hP1 hD1 hS1 hl1
      refine lv_iinc (v := nI (4 * j + 4)) (lv' := [(4, .int (nI (4 * j + 4))), (0, .ref b), (1, .ref (ad 0)), (2, .ref (ad2 0)), (3, .ref ao)]) hx hb dL_law_1430 hl1 (k := 4) rfl (nI_add _ _) (by decide) rfl (fun ls hl => ?_)
      refine lv_goto (tgt := 23) hx hb dL_law_1433 (by decide) ?_
      exact w_widen (by omega) (by omega) (ih (j + 1) c1 k1 H1 locs1 wc1 wr1 fo1 ls (by omega) (by omega) (by omega) hR1 hP1 hD1 hS1 (lv_sub hl [1, 0, 2, 3, 4] rfl))
/-- out of its order: the row of answers between the two -/
theorem perm_at {wc wr : va_W} {x : Nat × va_E} (k : Nat) (q : Nat × va_E) (h : ((wc ++ [x]) ++ wr)[k]? = some q) : ((wc ++ wr) ++ [x])[if k < wc.length then k else if k = wc.length then wc.length + wr.length else k - 1]? = some q := by
  by_cases c1 : k < wc.length
  · rw [if_pos c1, List.append_assoc, List.getElem?_append_left c1]
    rw [List.append_assoc, List.getElem?_append_left c1] at h
    exact h
  · rw [if_neg c1]
    by_cases c2 : k = wc.length
    · rw [if_pos c2, List.getElem?_append_right (by rw [List.length_append]; exact Nat.le_refl _), List.length_append, Nat.sub_self]
      rw [List.append_assoc, List.getElem?_append_right (by omega), c2, Nat.sub_self] at h
      exact h
    · rw [if_neg c2]
      rw [List.getElem?_append_right (by rw [List.length_append, List.length_singleton]; omega), List.length_append, List.length_singleton] at h
      have hl := (List.getElem?_eq_some_iff.mp h).1
      rw [List.append_assoc, List.getElem?_append_right (by omega), List.getElem?_append_left (by omega), ← h]
      congr 1
      omega
theorem perm_PD {D : va_G} {A0 : Nat → Prop} {H : Heap} {wc wr : va_W} {x : Nat × va_E} (hP : va_P D vwCl ((wc ++ wr) ++ [x]) H) (hD : va_D A0 ((wc ++ wr) ++ [x])) : va_P D vwCl ((wc ++ [x]) ++ wr) H ∧ va_D A0 ((wc ++ [x]) ++ wr) := by
  refine ⟨fun k q h => hP _ q (perm_at k q h), fun i j y z hy hz hyz => ?_, fun k q h => hD.2 _ q (perm_at k q h)⟩
  have h1 := hD.1 _ _ y z (perm_at i y hy) (perm_at j z hz) hyz
  have hli := (List.getElem?_eq_some_iff.mp hy).1
  have hlj := (List.getElem?_eq_some_iff.mp hz).1
  rw [List.length_append, List.length_append, List.length_singleton] at hli hlj
  split at h1 <;> split at h1 <;> (try split at h1) <;> (try split at h1) <;> omega
