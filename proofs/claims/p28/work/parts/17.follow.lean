/-! following: one copy, all copies (whatever waits, as long as it is a copy) -/
/-! all copies are followed: both, step by step -/
abbrev CT : Type := (Nat → Int32) × (Nat → Int32) × (Nat → Int32) × (Nat → Int32) × (Nat → Int32) × (Nat → Int32) × (Nat → Int32) × (Nat → Int32) × (Nat → Int32) × (Nat → Int32) × Int32 × Nat × Nat
def Jc (rc rh fr ps pg : Nat → Int32) (lim : Int32) (sent : Nat) : Nat → CT → CT → Prop
  | 0, x, y => x.2.2.2.2.2.2.2.2.2.2.2.2 = 0 ∧ y = x
  | n + 1, x, y => ∃ pk t f o g s, (pk < 200 ∧ t < 44 ∧ f < 10 ∧ o < 10 ∧ g < 4 ∧ s < 10) ∧ (x.2.2.2.2.2.2.2.2.2.2.2.1 ≤ 199 ∧ x.2.2.2.2.2.2.2.2.2.2.2.2 ≤ 200 ∧ 1 ≤ x.2.2.2.2.2.2.2.2.2.2.2.2) ∧ (x.2.2.2.2.2.1 x.2.2.2.2.2.2.2.2.2.2.2.1 = nI pk ∧ x.2.2.2.2.2.2.1 x.2.2.2.2.2.2.2.2.2.2.2.1 = nI t ∧ x.2.2.2.2.2.2.2.1 x.2.2.2.2.2.2.2.2.2.2.2.1 = nI f ∧ x.2.2.2.2.2.2.2.2.1 x.2.2.2.2.2.2.2.2.2.2.2.1 = nI o) ∧ (pk < sent ∧ pg pk = nI g ∧ ps pk = nI s) ∧
    Jc rc rh fr ps pg lim sent n (f_X5_follow_n pk t f o g s rc rh fr x.1 x.2.1 x.2.2.1 x.2.2.2.1 x.2.2.2.2.1 x.2.2.2.2.2.1 x.2.2.2.2.2.2.1 x.2.2.2.2.2.2.2.1 x.2.2.2.2.2.2.2.2.1 x.2.2.2.2.2.2.2.2.2.1 lim x.2.2.2.2.2.2.2.2.2.2.1 x.2.2.2.2.2.2.2.2.2.2.2.1 x.2.2.2.2.2.2.2.2.2.2.2.2).2 y
/-! all copies are followed: the two methods -/
set_option maxHeartbeats 4000000 in
set_option maxRecDepth 100000 in
theorem c_X5_followAll (l : Launch) (D : va_G) (cI cZ : ClassId) (ad : Nat → Nat) (rc rl rh fr ps pg lE lC : Nat → Int32) (cand lim now : Int32) (sent : Nat) (hsent : sent ≤ 200) (x0 x1 : CT) (n0 : Nat) (hn0 : n0 ≤ 20000) (hq0 : x0.2.2.2.2.2.2.2.2.2.2.2.2 ≤ 200) (J : Jc rc rh fr ps pg lim sent n0 x0 x1) :
    MI l yX5_followAll cX5_followAll 2 .int { frames := 6, cells := 0, slots := 0, locals := 145 } D (TY cI cZ) [.ref (ad 0)] (wC cI ad rc rl rh fr (x0.1) (x0.2.1) (x0.2.2.1) ps pg (x0.2.2.2.1) (x0.2.2.2.2.1) (x0.2.2.2.2.2.1) (x0.2.2.2.2.2.2.1) (x0.2.2.2.2.2.2.2.1) (x0.2.2.2.2.2.2.2.2.1) (x0.2.2.2.2.2.2.2.2.2.1) lE lC cand lim now (x0.2.2.2.2.2.2.2.2.2.2.1) (nI sent) (nI (x0.2.2.2.2.2.2.2.2.2.2.2.1)) (nI (x0.2.2.2.2.2.2.2.2.2.2.2.2))) (wC cI ad rc rl rh fr (x1.1) (x1.2.1) (x1.2.2.1) ps pg (x1.2.2.2.1) (x1.2.2.2.2.1) (x1.2.2.2.2.2.1) (x1.2.2.2.2.2.2.1) (x1.2.2.2.2.2.2.2.1) (x1.2.2.2.2.2.2.2.2.1) (x1.2.2.2.2.2.2.2.2.2.1) lE lC cand lim now (x1.2.2.2.2.2.2.2.2.2.2.1) (nI sent) (nI (x1.2.2.2.2.2.2.2.2.2.2.2.1)) (nI (x1.2.2.2.2.2.2.2.2.2.2.2.2))) (nI n0) := by
  refine MI.mk ⟨rfl, rfl⟩ (by decide +kernel) (Nat.le_of_ble_eq_true rfl) ?_
  intro p e s m below meth c A ls B hA hP hD hS hl
  have hx := B.1
  have hb := B.2.1
  have hts := B.2.2.2.2.2.1
  have hN := B.2.2.2.2.2.2.2.1
  have hK := B.2.2.2.2.2.2.2.2.1
  have hl : lv_has ls 2 [(0, .ref (ad 0))] := hl
  refine lv_iconst (v := nI 0) hx hb dX5_followAll_0 (by decide) ?_
  refine lv_istore_n (lv' := [(1, .int (nI 0)), (0, .ref (ad 0))]) hx hb dX5_followAll_1 rfl hl (by decide) rfl (fun ls hl => ?_)
  have L2 : ∀ (n k : Nat) (x : CT), k + n = n0 → Jc rc rh fr ps pg lim sent n x x1 → x.2.2.2.2.2.2.2.2.2.2.2.2 ≤ 200 → ∀ (H : Heap) (locs : List Loc), va_P D vwCl (wC cI ad rc rl rh fr (x.1) (x.2.1) (x.2.2.1) ps pg (x.2.2.2.1) (x.2.2.2.2.1) (x.2.2.2.2.2.1) (x.2.2.2.2.2.2.1) (x.2.2.2.2.2.2.2.1) (x.2.2.2.2.2.2.2.2.1) (x.2.2.2.2.2.2.2.2.2.1) lE lC cand lim now (x.2.2.2.2.2.2.2.2.2.2.1) (nI sent) (nI (x.2.2.2.2.2.2.2.2.2.2.2.1)) (nI (x.2.2.2.2.2.2.2.2.2.2.2.2))) H → va_D A (wC cI ad rc rl rh fr (x.1) (x.2.1) (x.2.2.1) ps pg (x.2.2.2.1) (x.2.2.2.2.1) (x.2.2.2.2.2.1) (x.2.2.2.2.2.2.1) (x.2.2.2.2.2.2.2.1) (x.2.2.2.2.2.2.2.2.1) (x.2.2.2.2.2.2.2.2.2.1) lE lC cand lim now (x.2.2.2.2.2.2.2.2.2.2.1) (nI sent) (nI (x.2.2.2.2.2.2.2.2.2.2.2.1)) (nI (x.2.2.2.2.2.2.2.2.2.2.2.2))) → va_S A s.heap H locs → ∀ ls : Array Slot, lv_has ls 2 [(0, .ref (ad 0)), (1, .int (nI k))] →
      W p l e { frames := 6, cells := 0, slots := 0, locals := 145 } s m [.ref (ad 0)].toArray below meth c H locs 0 0 (QI below s A D [.ref (ad 0)] (wC cI ad rc rl rh fr (x1.1) (x1.2.1) (x1.2.2.1) ps pg (x1.2.2.2.1) (x1.2.2.2.2.1) (x1.2.2.2.2.2.1) (x1.2.2.2.2.2.2.1) (x1.2.2.2.2.2.2.2.1) (x1.2.2.2.2.2.2.2.2.1) (x1.2.2.2.2.2.2.2.2.2.1) lE lC cand lim now (x1.2.2.2.2.2.2.2.2.2.2.1) (nI sent) (nI (x1.2.2.2.2.2.2.2.2.2.2.2.1)) (nI (x1.2.2.2.2.2.2.2.2.2.2.2.2))) (nI n0)) (F0 m 2 ls []) := by
    intro n
    induction n with
    | zero =>
      intro k x hk J hq H locs hP hD hS ls hl
      obtain ⟨q, rfl⟩ := J
      obtain rfl : k = n0 := by omega
      refine lv_iload_n hx hb dX5_followAll_2 rfl (lv_at hl 1 rfl) ?_
      refine lv_ldc (v := nI 1000000) hx hb B.2.2.2.2.1 (hts _ m_17_21) dX5_followAll_3 ?_
      refine r_icmp_ge (tgt := 29) hx hb (by omega) (by omega) dX5_followAll_5 (by decide) (fun c => absurd c (by omega)) (fun _ => ?_)
      refine lv_aload_n hx hb dX5_followAll_8 rfl (lv_at hl 0 rfl) ?_
      refine g_X5_33 B hP 0 rfl rfl dX5_followAll_9 ?_
      refine fV_i (ci := 0) (as := []) (rest := []) B hl.1 (c_X0_isEmpty_e l D cI cZ ad rc rl rh fr (x1.1) (x1.2.1) (x1.2.2.1) ps pg (x1.2.2.2.1) (x1.2.2.2.2.1) (x1.2.2.2.2.2.1) (x1.2.2.2.2.2.2.1) (x1.2.2.2.2.2.2.2.1) (x1.2.2.2.2.2.2.2.2.1) (x1.2.2.2.2.2.2.2.2.2.1) lE lC cand lim now (x1.2.2.2.2.2.2.2.2.2.2.1) sent (x1.2.2.2.2.2.2.2.2.2.2.2.1) (x1.2.2.2.2.2.2.2.2.2.2.2.2) (by omega) (by omega)) rfl (l_RX5_169 hts ⟨rfl, rfl⟩ ⟨Nat.le_of_ble_eq_true rfl, Nat.le_of_ble_eq_true rfl⟩) m_17_23 m_18_0 rfl rfl hP hD hS hA 15 rfl wfC (Nat.le_of_ble_eq_true rfl) dX5_followAll_12 (fun H locs hP hD hS => ?_)
      refine r_if_ne (tgt := 29) hx hb (by omega) dX5_followAll_15 (by decide) (fun _ => ?_) (fun c => absurd c (by omega))
      refine lv_iload_n hx hb dX5_followAll_29 rfl (lv_at hl 1 rfl) ?_
      exact eI B hP hS rfl rfl dX5_followAll_30
    | succ n ih =>
      intro k x hk J hq H locs hP hD hS ls hl
      obtain ⟨pk, t, f, o, g, s_, ⟨a1, a2, a3, a4, a5, a6⟩, ⟨b1, b2, b3⟩, ⟨d1, d2, d3, d4⟩, ⟨e1, e2, e3⟩, J2⟩ := J
      refine lv_iload_n hx hb dX5_followAll_2 rfl (lv_at hl 1 rfl) ?_
      refine lv_ldc (v := nI 1000000) hx hb B.2.2.2.2.1 (hts _ m_17_21) dX5_followAll_3 ?_
      refine r_icmp_ge (tgt := 29) hx hb (by omega) (by omega) dX5_followAll_5 (by decide) (fun c => absurd c (by omega)) (fun _ => ?_)
      refine lv_aload_n hx hb dX5_followAll_8 rfl (lv_at hl 0 rfl) ?_
      refine g_X5_33 B hP 0 rfl rfl dX5_followAll_9 ?_
      refine fV_i (ci := 0) (as := []) (rest := []) B hl.1 (c_X0_isEmpty_n l D cI cZ ad rc rl rh fr (x.1) (x.2.1) (x.2.2.1) ps pg (x.2.2.2.1) (x.2.2.2.2.1) (x.2.2.2.2.2.1) (x.2.2.2.2.2.2.1) (x.2.2.2.2.2.2.2.1) (x.2.2.2.2.2.2.2.2.1) (x.2.2.2.2.2.2.2.2.2.1) lE lC cand lim now (x.2.2.2.2.2.2.2.2.2.2.1) sent (x.2.2.2.2.2.2.2.2.2.2.2.1) (x.2.2.2.2.2.2.2.2.2.2.2.2) (by omega) (by omega) b3) rfl (l_RX5_169 hts ⟨rfl, rfl⟩ ⟨Nat.le_of_ble_eq_true rfl, Nat.le_of_ble_eq_true rfl⟩) m_17_23 m_18_0 rfl rfl hP hD hS hA 15 rfl wfC (Nat.le_of_ble_eq_true rfl) dX5_followAll_12 (fun H locs hP hD hS => ?_)
      refine r_if_ne (tgt := 29) hx hb (by omega) dX5_followAll_15 (by decide) (fun c => absurd c (by omega)) (fun _ => ?_)
      refine lv_aload_n hx hb dX5_followAll_18 rfl (lv_at hl 0 rfl) ?_
      refine fV_i (ci := 5) (as := []) (rest := []) B hl.1 (c_X5_follow_n l D cI cZ ad rc rl rh fr (x.1) (x.2.1) (x.2.2.1) ps pg (x.2.2.2.1) (x.2.2.2.2.1) (x.2.2.2.2.2.1) (x.2.2.2.2.2.2.1) (x.2.2.2.2.2.2.2.1) (x.2.2.2.2.2.2.2.2.1) (x.2.2.2.2.2.2.2.2.2.1) lE lC cand lim now (x.2.2.2.2.2.2.2.2.2.2.1) sent (x.2.2.2.2.2.2.2.2.2.2.2.1) (x.2.2.2.2.2.2.2.2.2.2.2.2) pk t f o g s_ a1 a2 a3 a4 a5 a6 hsent b1 b2 d1 d2 d3 d4 e1 e2 e3 b2 b3) rfl (l_RX5_191 hts ⟨rfl, rfl⟩ ⟨Nat.le_of_ble_eq_true rfl, Nat.le_of_ble_eq_true rfl⟩) m_18_3 m_18_4 rfl rfl hP hD hS hA 0 rfl wfC (Nat.le_of_ble_eq_true rfl) dX5_followAll_19 (fun H locs hP hD hS => ?_)
      refine lv_pop hx hb dX5_followAll_22 rfl ?_
      refine lv_iinc (v := nI (k + 1)) (lv' := [(1, .int (nI (k + 1))), (0, .ref (ad 0))]) hx hb dX5_followAll_23 hl (k := 1) rfl (nI_add _ _) (by decide) rfl (fun ls hl => ?_)
      refine lv_goto (tgt := 2) hx hb dX5_followAll_26 (by decide) ?_
      exact ih (k + 1) (f_X5_follow_n pk t f o g s_ rc rh fr x.1 x.2.1 x.2.2.1 x.2.2.2.1 x.2.2.2.2.1 x.2.2.2.2.2.1 x.2.2.2.2.2.2.1 x.2.2.2.2.2.2.2.1 x.2.2.2.2.2.2.2.2.1 x.2.2.2.2.2.2.2.2.2.1 lim x.2.2.2.2.2.2.2.2.2.2.1 x.2.2.2.2.2.2.2.2.2.2.2.1 x.2.2.2.2.2.2.2.2.2.2.2.2).2 (by omega) J2 (fb_X5_follow_n_qsz _ _ _ _ _ _ _ _ _ _ _ _ _ _ _ _ _ _ _ _ _ _ _ b1 b2) _ _ hP hD hS _ (lv_sub hl [1, 0] rfl)
  exact L2 n0 0 x0 (by omega) J hq0 _ _ hP hD hS _ (lv_sub hl [1, 0] rfl)
