/-! THE LAW, from its entry -/
theorem rel0_at {cI cZ : ClassId} {c k : Nat} {ad ad2 : Nat → Nat} {wc wr : va_W} (h : REL cI cZ ad ad2 c k wc wr) : wc.length = 22 ∧ wr.length = 14 := ⟨h.facts.1, h.facts.2.1⟩
set_option maxHeartbeats 4000000 in
set_option maxRecDepth 100000 in
theorem whole_start {p : Program} {e : Env} {s : State} {m : MethodId} {below : List Frame} {meth : Method} {c : Code} (l : Launch) (hflags : l.flags = flags0) {b L : Nat} {xs : Nat → Int32} (hL : L ≤ 2048) (C0 : lw_At p s m meth c b L xs) : W p l e room_1 s m #[Value.ref b] below meth c s.heap [] 0 0 (lw_Z below #[Value.ref b] s) (entryFrame m ([Value.ref b] : List Value).toArray 7) := by
  obtain ⟨hx, hb, hr, hml, hown, hts, hX, hbl, hlocks, hgv⟩ := id C0
  have hA : ∀ q : Nat, s.heap.size ≤ q → (fun q : Nat => s.heap.size ≤ q) q := fun _ h => h
  have hbA : ¬ (fun q : Nat => s.heap.size ≤ q) b := Nat.not_le.mpr hbl
  have hW : ∀ w ∈ wsL_law, w.before [Value.ref b].toArray s = true := fun w h => hts w (wsL_law_in w h)
  have hst : l.stackTraces = false := by rw [Launch.stackTraces, hflags]; decide
  obtain ⟨D, cI, cZ, cJ, hK⟩ := st_K hW
  obtain ⟨hXQ, hNc⟩ := st_XQ hts hgv
  have B : Bd p s m meth c cL_law 7 (some .boolean) RL D (TYH cI cZ cJ) [.ref b] := ⟨hx, hb, hr, hml, hown, hW, hlocks, st_N hts, hK, Or.inr trivial⟩
  have C : LCX p s m meth c D (fun q => s.heap.size ≤ q) cI cZ cJ b L xs := ⟨B, hXQ, hNc, hA, hX, hbl, hbA, hL⟩
  have hS : va_S (fun q : Nat => s.heap.size ≤ q) s.heap s.heap [] := va_S.rf
  have hP : va_P D vwCl [] s.heap := fun k q h => by simp at h
  have hD : va_D (fun q : Nat => s.heap.size ≤ q) [] := ⟨fun i j p q h => by simp at h, fun k q h => by simp at h⟩
  have hl := lv_entry ([.ref b]) (n := 7) (Nat.le_of_ble_eq_true rfl)
  rw [lg_entry_eq]
  generalize (lg_sl ([.ref b]) ++ List.replicate (7 - (lg_sl ([.ref b])).length) Slot.unset).toArray = ls at hl ⊢
  have hl : lv_has ls 7 [(0, .ref b)] := hl
  show W p l e room_1 s m [Value.ref b].toArray below meth c s.heap [] 0 0 (lw_Z below #[Value.ref b] s) (F0 m 0 ls [])
  refine va_new hx hb hW inlX5 tyX5 tyX5_ok hown (hW _ m_1_0) (hW _ m_1_1) (hW _ m_1_2) hK hP hD hS hA (ci := 5) rfl (fs := [.null, .null, .null, .null, .null, .int 0, .int 0, .int 0, .int 0]) (by decide +kernel) (Nat.le_of_ble_eq_true rfl) (Nat.le_of_ble_eq_true rfl) dL_law_0 (fun o0 H hP hD hS => ?_)
  have hP : va_P D vwCl [(o0, .inr (5, [.null, .null, .null, .null, .null, .int 0, .int 0, .int 0, .int 0]))] H := hP
  have hD : va_D (fun q : Nat => s.heap.size ≤ q) [(o0, .inr (5, [.null, .null, .null, .null, .null, .int 0, .int 0, .int 0, .int 0]))] := hD
  refine lv_dup hx hb dL_law_3 rfl ?_
  refine rInit (own := RL) (Bd.less B) hl.1 (c_X5_init l D cI cZ o0) (x_cb9 ⟨rfl, rfl⟩ hW m_1_9 m_1_2 m_1_7 (by decide +kernel) ⟨Nat.le_of_ble_eq_true rfl, Nat.le_of_ble_eq_true rfl⟩) rfl m_1_8 hP hD hS hA [0] [] rfl (by decide) (wr := []) rfl (by decide) (by decide) (Nat.le_of_ble_eq_true rfl) ⟨Nat.le_of_ble_eq_true rfl, Nat.le_of_ble_eq_true rfl⟩ dL_law_4 (fun w1 H locs hw hP1 hD1 hS1 => ?_)
  obtain ⟨ad, fr, rfl, hfr, ew⟩ := hw
  rw [List.nil_append] at hP1 hD1
  have hP := hP1
  have hD := hD1
  have hS := hS1
  refine lv_astore_n (lv' := [(1, .ref (ad 0)), (0, .ref b)]) hx hb dL_law_7 rfl hl (by decide) rfl (fun ls hl => ?_)
  refine va_new hx hb hW inlX6 tyX6 tyX6_ok hown (hW _ m_1_3) (hW _ m_1_4) (hW _ m_1_5) hK hP hD hS hA (ci := 6) rfl (fs := [.int 0, .int 0, .null, .null, .null, .null, .null, .null, .null, .null, .int 0, .null, .int 0, .null, .null, .null, .null, .int 0, .int 0]) (by decide +kernel) (Nat.le_of_ble_eq_true rfl) (Nat.le_of_ble_eq_true rfl) dL_law_8 (fun o1 H hP hD hS => ?_)
  refine lv_dup hx hb dL_law_11 rfl ?_
  have hlw : w1.length = 22 := by rw [ew]; rfl
  refine rInit (own := RL) (Bd.less B) hl.1 (c_X6_init l D cI cZ o1) (x_cb9 ⟨rfl, rfl⟩ hW m_5_20 m_1_5 m_5_18 (by decide +kernel) ⟨Nat.le_of_ble_eq_true rfl, Nat.le_of_ble_eq_true rfl⟩) rfl m_5_19 hP hD hS hA [22] (List.range 22) ?_ (by decide) (wr := w1) (rg_C w1 _ 22 hlw) (by decide) (by decide) (Nat.le_of_ble_eq_true rfl) ⟨Nat.le_of_ble_eq_true rfl, Nat.le_of_ble_eq_true rfl⟩ dL_law_12 (fun w2 H locs hw2 hP2 hD2 hS2 => ?_)
  · show [(w1 ++ _)[22]?] = _
    rw [at_tl hlw]
    rfl
  obtain ⟨ad2, ab, go, rfl, hag, ew2⟩ := hw2
  have hP := hP2
  have hD := hD2
  have hS := hS2
  refine lv_astore_n (lv' := [(2, .ref (ad2 0)), (1, .ref (ad 0)), (0, .ref b)]) hx hb dL_law_15 rfl hl (by decide) rfl (fun ls hl => ?_)
  refine lv_iconst (v := nI 1) hx hb dL_law_16 (by decide) ?_
  refine rArr (ty := .long) (N := 1) B rfl (fun c9 U h => h) m_1_6 (t0 := 2) (cA := cJ) rfl hP hD hS hA (a0 := (1, .inr (.inl (fun _ => 0)))) (fun cA => by rw [vp_cell_l]; rfl) (by decide) (by decide) (Nat.le_of_ble_eq_true rfl) (Nat.le_of_ble_eq_true rfl) dL_law_17 (fun ao H hP hD hS => ?_)
  obtain ⟨hP, hD⟩ := perm_PD hP hD
  refine lv_astore_n (lv' := [(3, .ref ao), (2, .ref (ad2 0)), (1, .ref (ad 0)), (0, .ref b)]) hx hb dL_law_19 rfl hl (by decide) rfl (fun ls hl => ?_)
  refine lv_iconst (v := nI 0) hx hb dL_law_20 (by decide) ?_
  refine lv_istore (lv' := [(4, .int (nI 0)), (3, .ref ao), (2, .ref (ad2 0)), (1, .ref (ad 0)), (0, .ref b)]) hx hb dL_law_21 hl (by decide) rfl (fun ls hl => ?_)
  have hR : REL cI cZ ad ad2 0 0 w1 w2 := by
    rw [ew, ew2]
    exact rel0 hfr hag
  exact w_widen (Nat.le_of_ble_eq_true rfl) (Nat.le_of_ble_eq_true rfl) (law_loop hst C 512 0 0 0 H _ w1 w2 _ ls (by omega) (by omega) (by omega) hR hP hD hS (lv_sub hl [4, 0, 3, 2, 1] rfl))
