/-! what the law reads of the routes holds -/
/-- the law's costs -/
def EOk (lE : Nat → Int32) (C : Nat → Nat → Nat) : Prop := ∀ i j, i < 10 → j < 10 → ¬ i = j → lE (f_L_at i j) = nI (C i j)
theorem cost_ok {lE : Nat → Int32} {C : Nat → Nat → Nat} (hE : EOk lE C) (hC : Cst C) {i j : Nat} (hi : i < 10) (hj : j < 10) : f_L_cost i j lE = nI (C i j) := by
  unfold f_L_cost j_L_cost_2
  by_cases c : i = j
  · subst c; rw [if_pos rfl, hC.2 i hi]
  · rw [if_neg c, hE i j hi hj c]
/-- the least over the neighbours from n on, and the lowest of them -/
def Least (C D : Nat → Nat → Nat) (r o n : Nat) (least hop : Int32) : Prop :=
  (least = -1 ∧ hop = -1 ∧ ∀ k, n ≤ k → k < 10 → ¬ (0 < C r k ∧ D k o < 1000000)) ∨
  ∃ b, n ≤ b ∧ b < 10 ∧ 0 < C r b ∧ D b o < 1000000 ∧ hop = nI b ∧ least = nI (C r b + D b o) ∧ (∀ k, n ≤ k → k < 10 → 0 < C r k → D k o < 1000000 → C r b + D b o ≤ C r k + D k o) ∧ ∀ k, n ≤ k → k < b → 0 < C r k → D k o < 1000000 → C r b + D b o < C r k + D k o
theorem neg_m1 : (-1 : Int32) < 0 := by decide
theorem m1_nn : ¬ (0 : Int32) ≤ -1 := by decide
theorem nn_nI {n : Nat} (h : n < 2 ^ 31) : (0 : Int32) ≤ nI n := nI_pos' h
theorem over_ok {rc rl rh lE : Nat → Int32} {C D : Nat → Nat → Nat} (hR : Rt rc rl rh C D) (hE : EOk lE C) {r o n : Nat} (hr : r < 10) (ho : o < 10) (hn : n < 10) : j_L_areRoutes_89 r rl lE o n = if 0 < C r n ∧ D n o < 1000000 then nI (C r n + D n o) else -1 := by
  have hc := (hR.2.1.1 r n hr hn).1
  have hb := hR.2.2.2.1.2.1 n o hn ho
  have hrest : j_L_areRoutes_70 r rl lE o n = if 0 < C r n ∧ D n o < 1000000 then nI (D n o) else -1 := by
    unfold j_L_areRoutes_70
    rw [cost_ok hE hR.2.1 hr hn, Rt_dist hR hn ho]
    by_cases c : C r n = 0
    · rw [if_pos ((nI_le0 (by omega)).mpr c), if_neg (by omega)]
    · rw [if_neg (fun q => c ((nI_le0 (by omega)).mp q))]
      by_cases c2 : D n o < 1000000
      · rw [if_pos c2, if_pos (by omega)]
      · rw [if_neg c2, if_neg (by omega)]
  unfold j_L_areRoutes_89
  rw [hrest, cost_ok hE hR.2.1 hr hn]
  by_cases c : 0 < C r n ∧ D n o < 1000000
  · rw [if_pos c, if_pos c, if_pos (nn_nI (by omega)), nI_add, Nat.add_comm]
  · rw [if_neg c, if_neg c, if_neg m1_nn]
theorem least_L {rc rl rh lE : Nat → Int32} {C D : Nat → Nat → Nat} (hR : Rt rc rl rh C D) (hE : EOk lE C) {r o : Nat} (hr : r < 10) (ho : o < 10) : ∀ (n : Nat) (least hop : Int32), n ≤ 10 → Least C D r o n least hop →
    Least C D r o 0 (f_L_areRoutes_L58 r rl lE o n least hop).1 (f_L_areRoutes_L58 r rl lE o n least hop).2 := by
  intro n
  induction n with
  | zero => intro least hop _ h; rw [f_L_areRoutes_L58]; exact h
  | succ n ih =>
    intro least hop hn h
    rw [f_L_areRoutes_L58]
    refine ih _ _ (by omega) ?_
    have hn10 : n < 10 := by omega
    have hc := (hR.2.1.1 r n hr hn10).1
    have hb := hR.2.2.2.1.2.1 n o hn10 ho
    unfold j_L_areRoutes_136 j_L_areRoutes_110
    rw [over_ok hR hE hr ho hn10]
    by_cases c : 0 < C r n ∧ D n o < 1000000
    · rw [if_pos c, if_neg (nI_pos (by omega)), if_neg (nI_pos (by omega))]
      rcases h with ⟨rfl, rfl, h3⟩ | ⟨b, b1, b2, b3, b4, rfl, rfl, b5, b6⟩
      · rw [if_pos neg_m1, if_pos neg_m1]
        refine Or.inr ⟨n, Nat.le_refl n, hn10, c.1, c.2, rfl, rfl, fun k h1 h2 h4 h5 => ?_, fun k h1 h2 => by omega⟩
        by_cases e : k = n
        · subst e; exact Nat.le_refl _
        · exact absurd ⟨h4, h5⟩ (h3 k (by omega) h2)
      · have hcb := (hR.2.1.1 r b hr b2).1
        rw [if_neg (nI_pos (by omega)), if_neg (nI_pos (by omega))]
        by_cases c2 : C r n + D n o ≤ C r b + D b o
        · rw [if_neg (show ¬ nI (C r b + D b o) < nI (C r n + D n o) from fun q => by have := (nI_ltI (by omega) (by omega)).mp q; omega)]
          refine Or.inr ⟨n, Nat.le_refl n, hn10, c.1, c.2, rfl, ?_, fun k h1 h2 h4 h5 => ?_, fun k h1 h2 => by omega⟩
          · by_cases c3 : C r b + D b o ≤ C r n + D n o
            · rw [if_pos ((nI_leI (by omega) (by omega)).mpr c3), show C r b + D b o = C r n + D n o by omega]
            · rw [if_neg (fun q => c3 ((nI_leI (by omega) (by omega)).mp q))]
          · by_cases e : k = n
            · subst e; exact Nat.le_refl _
            · have := b5 k (by omega) h2 h4 h5
              omega
        · rw [if_pos ((nI_ltI (by omega) (by omega)).mpr (by omega)), if_pos ((nI_leI (by omega) (by omega)).mpr (by omega))]
          refine Or.inr ⟨b, by omega, b2, b3, b4, rfl, rfl, fun k h1 h2 h4 h5 => ?_, fun k h1 h2 h4 h5 => ?_⟩
          · by_cases e : k = n
            · subst e; omega
            · exact b5 k (by omega) h2 h4 h5
          · by_cases e : k = n
            · subst e; omega
            · exact b6 k (by omega) h2 h4 h5
    · rw [if_neg c, if_pos neg_m1, if_pos neg_m1]
      rcases h with ⟨h1, h2, h3⟩ | ⟨b, b1, b2, b3, b4, h1, h2, b5, b6⟩
      · refine Or.inl ⟨h1, h2, fun k g1 g2 => ?_⟩
        by_cases e : k = n
        · subst e; exact c
        · exact h3 k (by omega) g2
      · refine Or.inr ⟨b, by omega, b2, b3, b4, h1, h2, fun k g1 g2 g3 g4 => ?_, fun k g1 g2 g3 g4 => ?_⟩
        · by_cases e : k = n
          · subst e; exact absurd ⟨g3, g4⟩ c
          · exact b5 k (by omega) g2 g3 g4
        · by_cases e : k = n
          · subst e; exact absurd ⟨g3, g4⟩ c
          · exact b6 k (by omega) g2 g3 g4
theorem route_ok {rc rl rh lE : Nat → Int32} {C D : Nat → Nat → Nat} (hR : Rt rc rl rh C D) (hE : EOk lE C) {r o : Nat} (hr : r < 10) (ho : o < 10) :
    j_L_areRoutes_175 r rl rh o (f_L_areRoutes_L58 r rl lE o 10 (-1) (-1)).1 (f_L_areRoutes_L58 r rl lE o 10 (-1) (-1)).2 = true := by
  have hL := least_L hR hE hr ho 10 (-1) (-1) (Nat.le_refl _) (Or.inl ⟨rfl, rfl, fun k h1 h2 => absurd h1 (by omega)⟩)
  generalize (f_L_areRoutes_L58 r rl lE o 10 (-1) (-1)).1 = least at hL ⊢
  generalize (f_L_areRoutes_L58 r rl lE o 10 (-1) (-1)).2 = hop at hL ⊢
  unfold j_L_areRoutes_175 j_L_areRoutes_200
  have hs := hR.2.2.2.1.2.2.1 r o hr ho
  have hb := hR.2.2.2.1.2.1 r o hr ho
  have ht := hR.2.2.2.1.2.2.2.1
  have he := hR.2.2.2.1.2.2.2.2.1
  rw [Rt_dist hR hr ho, Rt_dist hR ho hr, ← hs, if_pos rfl]
  by_cases e : o = r
  · rw [if_pos e]
  · rw [if_neg e]
    rcases hL with ⟨rfl, rfl, h3⟩ | ⟨b, -, b2, b3, b4, rfl, rfl, b5, b6⟩
    · have hnr : ¬ D r o < 1000000 := fun q => by
        obtain ⟨k, k1, k2, k3⟩ := hR.2.2.2.1.2.2.2.2.2 r o hr ho (fun z => e z.symm) q
        exact h3 k (Nat.zero_le _) k1 ⟨k2, by omega⟩
      rw [if_neg hnr, if_pos rfl, if_neg m1_nn]
      rcases Rt_hop hR hr ho with ⟨q, -⟩ | ⟨k, _, _, _, q, _⟩
      · rw [if_pos q]
      · exact absurd q hnr
    · have hcb := (hR.2.1.1 r b hr b2).1
      have hbb := hR.2.2.2.1.2.1 b o b2 ho
      have t1 := ht b r o b2 hr ho
      have t2 := he r b hr b2 b3
      have hyr : D r o < 1000000 := by omega
      have hfull := (hR.2.2.2.2 r o hr ho).2 (fun z => e z.symm) hyr
      obtain ⟨k, k1, k2, k3, k4, k5⟩ := hfull
      have hk := b5 k (Nat.zero_le _) k1 k3 (by omega)
      have heq : D r o = C r b + D b o := by omega
      rw [if_pos hyr, if_pos (by rw [heq]), if_pos (nn_nI (by omega)), k2]
      have ekb : k = b := by
        rcases Nat.lt_trichotomy k b with q | q | q
        · have := b6 k (Nat.zero_le _) q k3 (by omega)
          omega
        · exact q
        · exact absurd ⟨b3, heq⟩ (k5 b q)
      rw [ekb, if_pos rfl]
theorem areRoutes_L {rc rl rh lE : Nat → Int32} {C D : Nat → Nat → Nat} (hR : Rt rc rl rh C D) (hE : EOk lE C) {r : Nat} (hr : r < 10) : ∀ (n k : Nat), k + n = 10 → f_L_areRoutes_L28 r rl rh lE n k true = true := by
  intro n
  induction n with
  | zero => intro k _; rw [f_L_areRoutes_L28]
  | succ n ih =>
    intro k hk
    rw [f_L_areRoutes_L28, if_pos rfl, route_ok hR hE hr (by omega)]
    exact ih (k + 1) (by omega)
/-- distances fit links, the same both ways; the next hop is the lowest on a shortest way -/
theorem areRoutes_ok {rc rl rh lE : Nat → Int32} {C D : Nat → Nat → Nat} (hR : Rt rc rl rh C D) (hE : EOk lE C) {r : Nat} (hr : r < 10) : f_L_areRoutes r rl rh lE = true := by
  unfold f_L_areRoutes
  have h1 : j_L_areRoutes_6 r rl rh = true := by
    unfold j_L_areRoutes_6
    rw [Rt_dist hR hr hr, hR.2.2.2.1.1 r hr, if_pos (by decide)]
    rcases Rt_hop hR hr hr with ⟨q, -⟩ | ⟨k, _, _, q, _⟩
    · rw [if_pos q]
    · exact absurd rfl q
  rw [h1]
  exact areRoutes_L hR hE hr 10 0 rfl
