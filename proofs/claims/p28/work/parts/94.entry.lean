/-! THE LAW, from its entry -/
set_option maxHeartbeats 4000000 in
set_option maxRecDepth 100000 in
theorem whole_start {p : Program} {e : Env} {s : State} {m : MethodId} {below : List Frame} {meth : Method} {c : Code} (l : Launch) (hflags : l.flags = flags0) {b L : Nat} {xs : Nat → Int32} (hL : L ≤ 260) (C0 : lw_At p s m meth c b L xs) : W p l e room_1 s m #[Value.ref b] below meth c s.heap [] 0 0 (lw_Z below #[Value.ref b] s) (entryFrame m ([Value.ref b] : List Value).toArray 1) := by
  obtain ⟨hx, hb, hr, hml, hown, hts, hX, hbl, hlocks, hgv⟩ := id C0
  have hA : ∀ q : Nat, s.heap.size ≤ q → (fun q : Nat => s.heap.size ≤ q) q := fun _ h => h
  have hbA : ¬ (fun q : Nat => s.heap.size ≤ q) b := Nat.not_le.mpr hbl
  have hW : ∀ w ∈ wsL_law, w.before [Value.ref b].toArray s = true := fun w h => hts w (wsL_law_in w h)
  obtain ⟨D, cI, hK⟩ := st_K hW
  have B : Bd p s m meth c cL_law 1 (some .boolean) RL D (TY cI cI) [.ref b] := ⟨hx, hb, hr, hml, hown, hW, hlocks, st_N hts, hK cI, Or.inr trivial⟩
  have hS : va_S (fun q : Nat => s.heap.size ≤ q) s.heap s.heap [] := va_S.rf
  have hP : va_P D vwCl [] s.heap := fun k q h => by simp at h
  have hl := lv_entry ([.ref b]) (n := 1) (Nat.le_of_ble_eq_true rfl)
  rw [lg_entry_eq]
  generalize (lg_sl ([.ref b]) ++ List.replicate (1 - (lg_sl ([.ref b])).length) Slot.unset).toArray = ls at hl ⊢
  have hl : lv_has ls 1 [(0, .ref b)] := hl
  show W p l e room_1 s m [Value.ref b].toArray below meth c s.heap [] 0 0 (lw_Z below #[Value.ref b] s) (F0 m 0 ls [])
  refine lv_aload_n hx hb dL_law_0 rfl (lv_at hl 0 rfl) ?_
  refine lv_iconst (v := nI 0) hx hb dL_law_1 (by decide) ?_
  refine kX (as := [.ref b, .int (nI 0)]) (rest := []) B hl.1 (c_L_network l D cI cI b L xs 0 hL (by omega)) (x_cbm ⟨rfl, rfl⟩ 2 hW m_1_3 m_1_2 m_1_0 (by decide +kernel) ⟨Nat.le_of_ble_eq_true rfl, Nat.le_of_ble_eq_true rfl⟩) m_1_1 rfl rfl hX hbl hbA hP hS hA (Nat.le_of_ble_eq_true rfl) ⟨Nat.le_of_ble_eq_true rfl, Nat.le_of_ble_eq_true rfl⟩ dL_law_2 (fun r H locs hr hP hS => ?_)
  subst hr
  refine r_if_eq (a := 1) (tgt := 32) hx hb (by omega) dL_law_5 (by decide) (fun h => absurd h (by decide)) (fun _ => ?_)
  refine lv_aload_n hx hb dL_law_8 rfl (lv_at hl 0 rfl) ?_
  refine lv_sipush (v := nI 170) hx hb dL_law_9 (by decide) ?_
  refine kX (as := [.ref b, .int (nI 170)]) (rest := []) B hl.1 (c_L_network l D cI cI b L xs 170 hL (by omega)) (x_cbm ⟨rfl, rfl⟩ 2 hW m_1_3 m_1_2 m_1_0 (by decide +kernel) ⟨Nat.le_of_ble_eq_true rfl, Nat.le_of_ble_eq_true rfl⟩) m_1_1 rfl rfl hX hbl hbA hP hS hA (Nat.le_of_ble_eq_true rfl) ⟨Nat.le_of_ble_eq_true rfl, Nat.le_of_ble_eq_true rfl⟩ dL_law_12 (fun r H locs hr hP hS => ?_)
  subst hr
  refine r_if_eq (a := 1) (tgt := 32) hx hb (by omega) dL_law_15 (by decide) (fun h => absurd h (by decide)) (fun _ => ?_)
  refine lv_aload_n hx hb dL_law_18 rfl (lv_at hl 0 rfl) ?_
  refine lv_sipush (v := nI 340) hx hb dL_law_19 (by decide) ?_
  refine kX (as := [.ref b, .int (nI 340)]) (rest := []) B hl.1 (c_L_network l D cI cI b L xs 340 hL (by omega)) (x_cbm ⟨rfl, rfl⟩ 2 hW m_1_3 m_1_2 m_1_0 (by decide +kernel) ⟨Nat.le_of_ble_eq_true rfl, Nat.le_of_ble_eq_true rfl⟩) m_1_1 rfl rfl hX hbl hbA hP hS hA (Nat.le_of_ble_eq_true rfl) ⟨Nat.le_of_ble_eq_true rfl, Nat.le_of_ble_eq_true rfl⟩ dL_law_22 (fun r H locs hr hP hS => ?_)
  subst hr
  refine r_if_eq (a := 1) (tgt := 32) hx hb (by omega) dL_law_25 (by decide) (fun h => absurd h (by decide)) (fun _ => ?_)
  refine lv_iconst (v := 1) hx hb dL_law_28 (by decide) ?_
  refine lv_goto (tgt := 33) hx hb dL_law_29 (by decide) ?_
  refine va_forget (fun q hq => hS.2.2 q hq) ?_
  refine W.widen (k := 600130) (n := 7301080) (Nat.le_of_ble_eq_true rfl) (Nat.le_of_ble_eq_true rfl) ?_
  exact lw_ret hx hb B.2.2.1 B.2.2.2.2.2.2.1 dL_law_33
