/-! both as they are made: alike -/
theorem meets_0 : ∀ g, g < 4 → f_X6_meets g (fun _ => nI 0) = -1 := by decide +kernel
theorem costs_0 : Costs (fun _ => nI 0) := ⟨fun _ _ => ⟨0, by omega, rfl⟩, fun _ _ _ _ => rfl⟩
theorem rel0 {cI cZ : ClassId} {ad ad2 : Nat → Nat} {fr ab go : Nat → Int32} (hr : RootsAt fr 4 0) (h : ∀ e, e < 440 → ab e = -1 ∧ go e = -1) :
    REL cI cZ ad ad2 0 0 (wC cI ad (fun _ => nI 0) (f_X4_findLeast (fun _ => nI 0) (fun _ => nI 0)) (f_X4_findHops (fun _ => nI 0) (f_X4_findLeast (fun _ => nI 0) (fun _ => nI 0)) (fun _ => nI 0)) fr (fun _ => nI 0) (fun _ => (-1)) (fun _ => (-1)) (fun _ => nI 0) (fun _ => nI 0) (fun _ => nI 0) (fun _ => nI 0) (fun _ => nI 0) (fun _ => nI 0) (fun _ => nI 0) (fun _ => nI 0) (fun _ => nI 0) (nI 0) (nI 3) (nI 0) (nI 0) (nI 0) (nI 0) (nI 0))
      (wR cI cZ ad2 (fun _ => nI 0) (f_X6_measures (fun _ => nI 0) (fun _ => nI 0)) (fun _ => nI 0) (fun _ => nI 0) (fun _ => nI 0) (fun _ => nI 0) ab go (fun _ => nI 0) (fun _ => nI 0) (fun _ => nI 0) (fun _ => nI 0) (fun _ => nI 0) (nI 0) (nI 3) (nI 0) (nI 0) (nI 0) (nI 0)) := by
  refine ⟨_, _, _, _, _, _, _, _, _, _, _, _, _, _, _, _, _, _, _, _, 0, 0, 0, _, _, _, _, _, _, _, _, _, _, _, _, _, _, _, 0, 0, _, rfl, rfl, ?_⟩
  refine ⟨routes_new (EQ.refl _) (EQ.refl _) costs_0, fun t ht => ?_, fun r hr' => ?_, ⟨⟨fun _ _ => rfl, fun _ _ _ _ => rfl, fun _ _ => B10_0⟩, fun t ht => ⟨fun r hr' => ⟨(h _ (by omega)).1.symm, (h _ (by omega)).2.symm⟩, fun r hr' => Or.inl (h _ (by omega))⟩, fun _ _ _ _ _ _ => rfl, fun _ _ => rfl, fun _ _ => rfl, fun _ _ _ => rfl, ⟨by omega, by omega, fun j hj => absurd hj (Nat.not_lt_zero j)⟩, rfl, rfl⟩, fun e he => absurd he (Nat.not_lt_zero e), by omega, rfl, rfl, rfl, rfl⟩
  · rw [hr _ (tau_lt ht)]
    unfold f_X6_root tau
    by_cases c : t % 11 = 10
    · rw [if_pos c, if_pos c, if_neg (by omega), meets_0 _ (by omega)]
    · rw [if_neg c, if_neg c, if_pos (by omega), show (4 + t / 11 * 10 + t % 11 - 4) % 10 = t % 11 by omega]
  · rw [show nI 0 = (0 : Int32) from rfl, b_0]; rfl
