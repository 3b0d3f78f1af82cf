/-! one network, from its start -/
set_option maxHeartbeats 4000000 in
set_option maxRecDepth 100000 in
theorem c_L_network (l : Launch) (D : va_G) (cI cZ : ClassId) (sb L : Nat) (xs : Nat → Int32) (f : Nat) (hL : L ≤ 260) (hf : f ≤ 1000) : MX l yL_network cL_network 9 .boolean rmN D (TY cI cZ) [.ref sb, .int (nI f)] sb L xs (fun r => r = nI 1) 24 3347 := by
  refine MX.mk (by decide +kernel) (Nat.le_of_ble_eq_true rfl) ?_
  intro p e s m below meth c ls B hX hbl hl
  have hx := B.1
  have hb := B.2.1
  have hts := B.2.2.2.2.2.1
  have hK := B.2.2.2.2.2.2.2.2.1
  have C : NC p s m meth c D cI cZ sb L f xs := ⟨B, hX, hbl, hL, hf⟩
  have hA : ∀ q : Nat, s.heap.size ≤ q → (fun q : Nat => s.heap.size ≤ q) q := fun _ h => h
  have hS : va_S (fun q : Nat => s.heap.size ≤ q) s.heap s.heap [] := va_S.rf
  have hP : va_P D vwCl [] s.heap := fun k q h => by simp at h
  have hD : va_D (fun q : Nat => s.heap.size ≤ q) [] := ⟨fun i j p q h => by simp at h, fun k q h => by simp at h⟩
  have hl : lv_has ls 9 [(0, .ref sb), (1, .int (nI f))] := hl
  refine va_new hx hb hts inlX5 tyX5 tyX5_ok B.2.2.2.2.1 (hts _ m_1_4) (hts _ m_1_5) (hts _ m_1_6) hK hP hD hS hA (ci := 5) rfl (fs := [.null, .null, .null, .null, .null, .int 0, .int 0, .int 0, .int 0]) (by decide +kernel) (Nat.le_of_ble_eq_true rfl) (Nat.le_of_ble_eq_true rfl) dL_network_0 (fun o0 H hP hD hS => ?_)
  have hP : va_P D vwCl [(o0, .inr (5, [.null, .null, .null, .null, .null, .int 0, .int 0, .int 0, .int 0]))] H := hP
  have hD : va_D (fun q : Nat => s.heap.size ≤ q) [(o0, .inr (5, [.null, .null, .null, .null, .null, .int 0, .int 0, .int 0, .int 0]))] := hD
  refine lv_dup hx hb dL_network_3 rfl ?_
  refine rInit B hl.1 (c_X5_init l D cI cZ o0) (x_cb9 ⟨rfl, rfl⟩ hts m_1_11 m_1_6 m_1_9 (by decide +kernel) ⟨Nat.le_of_ble_eq_true rfl, Nat.le_of_ble_eq_true rfl⟩) rfl m_1_10 hP hD hS hA [0] [] rfl (by decide) (wr := []) rfl (by decide) (by decide) (Nat.le_of_ble_eq_true rfl) ⟨Nat.le_of_ble_eq_true rfl, Nat.le_of_ble_eq_true rfl⟩ dL_network_4 (fun w1 H locs hw hP hD hS => ?_)
  obtain ⟨ad, fr, rfl, hfr, rfl⟩ := hw
  rw [List.nil_append] at hP hD
  refine lv_astore_n (lv' := [(2, .ref (ad 0)), (0, .ref sb), (1, .int (nI f))]) hx hb dL_network_7 rfl hl (by decide) rfl (fun ls hl => ?_)
  refine lv_bipush (v := nI 45) hx hb dL_network_8 (by decide) ?_
  refine rArr (ty := .int) (N := 45) B rfl (fun c9 U h => h) m_1_7 (t0 := 0) (cA := cI) rfl hP hD hS hA (a0 := (45, .inl (fun _ => nI 0))) (fun cA => by rw [vp_cell_i]; rfl) (by decide) (by decide) (Nat.le_of_ble_eq_true rfl) (Nat.le_of_ble_eq_true rfl) dL_network_10 (fun q1 H hP hD hS => ?_)
  refine lv_astore_n (lv' := [(3, .ref q1), (2, .ref (ad 0)), (0, .ref sb), (1, .int (nI f))]) hx hb dL_network_12 rfl hl (by decide) rfl (fun ls hl => ?_)
  refine lv_bipush (v := nI 6) hx hb dL_network_13 (by decide) ?_
  refine rArr (ty := .int) (N := 6) B rfl (fun c9 U h => h) m_1_7 (t0 := 0) (cA := cI) rfl hP hD hS hA (a0 := (6, .inl (fun _ => nI 0))) (fun cA => by rw [vp_cell_i]; rfl) (by decide) (by decide) (Nat.le_of_ble_eq_true rfl) (Nat.le_of_ble_eq_true rfl) dL_network_15 (fun q2 H hP hD hS => ?_)
  have hP : va_P D vwCl (wC cI (adL [ad 0, ad 1, ad 2, ad 3, ad 4, ad 5, ad 6, ad 7, ad 8, ad 9, ad 10, ad 11, ad 12, ad 13, ad 14, ad 15, ad 16, ad 17, ad 18, ad 19, ad 20, ad 21, q1, q2]) (fun _ => nI 0) (f_X4_findLeast (fun _ => nI 0) (fun _ => nI 0)) (f_X4_findHops (fun _ => nI 0) (f_X4_findLeast (fun _ => nI 0) (fun _ => nI 0)) (fun _ => nI 0)) fr (fun _ => nI 0) (fun _ => (-1)) (fun _ => (-1)) (fun _ => nI 0) (fun _ => nI 0) (fun _ => nI 0) (fun _ => nI 0) (fun _ => nI 0) (fun _ => nI 0) (fun _ => nI 0) (fun _ => nI 0) (fun _ => nI 0) (fun _ => nI 0) (fun _ => nI 0) (nI 0) (nI 3) (nI 0) (nI 0) (nI 0) (nI 0) (nI 0)) H := hP
  have hD : va_D (fun q : Nat => s.heap.size ≤ q) (wC cI (adL [ad 0, ad 1, ad 2, ad 3, ad 4, ad 5, ad 6, ad 7, ad 8, ad 9, ad 10, ad 11, ad 12, ad 13, ad 14, ad 15, ad 16, ad 17, ad 18, ad 19, ad 20, ad 21, q1, q2]) (fun _ => nI 0) (f_X4_findLeast (fun _ => nI 0) (fun _ => nI 0)) (f_X4_findHops (fun _ => nI 0) (f_X4_findLeast (fun _ => nI 0) (fun _ => nI 0)) (fun _ => nI 0)) fr (fun _ => nI 0) (fun _ => (-1)) (fun _ => (-1)) (fun _ => nI 0) (fun _ => nI 0) (fun _ => nI 0) (fun _ => nI 0) (fun _ => nI 0) (fun _ => nI 0) (fun _ => nI 0) (fun _ => nI 0) (fun _ => nI 0) (fun _ => nI 0) (fun _ => nI 0) (nI 0) (nI 3) (nI 0) (nI 0) (nI 0) (nI 0) (nI 0)) := hD
  refine lv_astore (lv' := [(4, .ref q2), (3, .ref q1), (2, .ref (ad 0)), (0, .ref sb), (1, .int (nI f))]) hx hb dL_network_17 hl (by decide) rfl (fun ls hl => ?_)
  refine lv_iconst (v := nI 0) hx hb dL_network_19 (by decide) ?_
  refine lv_istore (lv' := [(5, .int (nI 0)), (4, .ref q2), (3, .ref q1), (2, .ref (ad 0)), (0, .ref sb), (1, .int (nI f))]) hx hb dL_network_20 hl (by decide) rfl (fun ls hl => ?_)
  have hW : WI 0 cI (adL [ad 0, ad 1, ad 2, ad 3, ad 4, ad 5, ad 6, ad 7, ad 8, ad 9, ad 10, ad 11, ad 12, ad 13, ad 14, ad 15, ad 16, ad 17, ad 18, ad 19, ad 20, ad 21, q1, q2]) (wC cI (adL [ad 0, ad 1, ad 2, ad 3, ad 4, ad 5, ad 6, ad 7, ad 8, ad 9, ad 10, ad 11, ad 12, ad 13, ad 14, ad 15, ad 16, ad 17, ad 18, ad 19, ad 20, ad 21, q1, q2]) (fun _ => nI 0) (f_X4_findLeast (fun _ => nI 0) (fun _ => nI 0)) (f_X4_findHops (fun _ => nI 0) (f_X4_findLeast (fun _ => nI 0) (fun _ => nI 0)) (fun _ => nI 0)) fr (fun _ => nI 0) (fun _ => (-1)) (fun _ => (-1)) (fun _ => nI 0) (fun _ => nI 0) (fun _ => nI 0) (fun _ => nI 0) (fun _ => nI 0) (fun _ => nI 0) (fun _ => nI 0) (fun _ => nI 0) (fun _ => nI 0) (fun _ => nI 0) (fun _ => nI 0) (nI 0) (nI 3) (nI 0) (nI 0) (nI 0) (nI 0) (nI 0)) := ⟨_, _, _, _, _, _, _, _, _, _, _, _, _, _, _, _, _, _, _, _, _, _, _, _, _, rfl, INV_start hfr⟩
  exact n_loop (ad := (adL [ad 0, ad 1, ad 2, ad 3, ad 4, ad 5, ad 6, ad 7, ad 8, ad 9, ad 10, ad 11, ad 12, ad 13, ad 14, ad 15, ad 16, ad 17, ad 18, ad 19, ad 20, ad 21, q1, q2])) C 56 0 _ H _ ls rfl hW hP hD hS (lv_sub hl [4, 5, 3, 2, 1, 0] rfl)
