/-! seconds pass; counts, alike -/
def RCt (ct cn : Nat → Int32) : Prop := ∀ m s g, m < 10 → s < 10 → g < 4 → ct (((g * 10) + s) * 10 + m) = cn (40 * m + 4 * s + g)
theorem p60_no {rclk x2 rc2 : Int32} {ab go : Nat → Int32} (h : rc2 / (nI 10) ≤ rclk / (nI 10)) : ∀ (n k : Nat) (cn : Nat → Int32), f_X6_pass_L60 rclk x2 ab go rc2 n k cn = (x2, cn, ab, go, rc2, nI 0) := by
  intro n k cn
  cases n with
  | zero => rw [f_X6_pass_L60]
  | succ n => rw [f_X6_pass_L60, if_pos h]
theorem p60_yes {rclk x2 rc2 : Int32} {ab go : Nat → Int32} (h : ¬ rc2 / (nI 10) ≤ rclk / (nI 10)) : ∀ (n k : Nat) (cn : Nat → Int32), k + n = 400 → (∀ e, e < k → cn e = nI 0) → ∃ cn2, f_X6_pass_L60 rclk x2 ab go rc2 n k cn = (x2, cn2, ab, go, rc2, nI 0) ∧ ∀ e, e < 400 → cn2 e = nI 0 := by
  intro n
  induction n with
  | zero =>
    intro k cn hk h0
    rw [f_X6_pass_L60]
    exact ⟨cn, rfl, fun e he => h0 e (by omega)⟩
  | succ n ih =>
    intro k cn hk h0
    rw [f_X6_pass_L60, if_neg h]
    refine ih (k + 1) _ (by omega) (fun e he => ?_)
    by_cases q : e = k
    · subst q; exact pk_us
    · rw [pk_un (by omega)]; exact h0 e (by omega)
theorem pass_L {co fa ic fw me sw cn : Nat → Int32} {se c0 : Nat} (hW : RWa fw me sw) : ∀ (n k c : Nat) (x : Int32) (fc fg ct ab go : Nat → Int32), c + n + 3 < 2 ^ 31 → c0 ≤ c →
    RFo co fa ic fc fg ab go → (c0 / 10 < c / 10 → ∀ e, e < 400 → ct e = nI 0) → (¬ c0 / 10 < c / 10 → RCt ct cn) →
    (f_X5_pass_L25 se fw n k x fc fg ct (nI c)).1 = (f_X6_pass_L38 se me sw cn (nI c0) n k x ab go (nI c)).1 ∧
    RFo co fa ic (f_X5_pass_L25 se fw n k x fc fg ct (nI c)).2.1 (f_X5_pass_L25 se fw n k x fc fg ct (nI c)).2.2.1 (f_X6_pass_L38 se me sw cn (nI c0) n k x ab go (nI c)).2.2.1 (f_X6_pass_L38 se me sw cn (nI c0) n k x ab go (nI c)).2.2.2.1 ∧
    RCt (f_X5_pass_L25 se fw n k x fc fg ct (nI c)).2.2.2.1 (f_X6_pass_L38 se me sw cn (nI c0) n k x ab go (nI c)).2.1 ∧
    (f_X5_pass_L25 se fw n k x fc fg ct (nI c)).2.2.2.2 = nI (c + n) ∧ (f_X6_pass_L38 se me sw cn (nI c0) n k x ab go (nI c)).2.2.2.2.1 = nI (c + n) ∧ (f_X6_pass_L38 se me sw cn (nI c0) n k x ab go (nI c)).2.2.2.2.2 = nI 0 := by
  intro n
  induction n with
  | zero =>
    intro k c x fc fg ct ab go hc hcc hF h1 h2
    rw [f_X5_pass_L25, f_X6_pass_L38]
    by_cases q : c0 / 10 < c / 10
    · obtain ⟨cn2, e, z⟩ := p60_yes (rclk := nI c0) (x2 := x) (rc2 := nI c) (ab := ab) (go := go) (by rw [pk_div (by omega) (by decide) (by decide), pk_div (by omega) (by decide) (by decide), nI_leI (by omega) (by omega)]; omega) 400 0 cn rfl (fun e he => absurd he (Nat.not_lt_zero _))
      rw [e]
      exact ⟨rfl, hF, fun m s g hm hs hg => (h1 q _ (by omega)).trans (z _ (by omega)).symm, rfl, rfl, rfl⟩
    · rw [p60_no (by rw [pk_div (by omega) (by decide) (by decide), pk_div (by omega) (by decide) (by decide), nI_leI (by omega) (by omega)]; omega)]
      exact ⟨rfl, hF, h2 q, rfl, rfl, rfl⟩
  | succ n ih =>
    intro k c x fc fg ct ab go hc hcc hF h1 h2
    rw [f_X5_pass_L25, f_X6_pass_L38]
    obtain ⟨e1, e2, e3⟩ := second_eq (clk := nI c) (sec := nI c + nI 1) (s := c + 1) rfl (nI_add c 1) (by omega) hW hF
    rw [e3, ← e1, nI_add] at *
    have hdiv : nI (c + 1) - nI (c + 1) / (nI 10) * (nI 10) = nI ((c + 1) - (c + 1) / 10 * 10) := by
      rw [pk_div (by omega) (by decide) (by decide), pk_mul, pk_sub (by omega)]
    have hz : nI ((c + 1) - (c + 1) / 10 * 10) = 0 ↔ (c + 1) - (c + 1) / 10 * 10 = 0 := nI_eq (a := (c + 1) - (c + 1) / 10 * 10) (b := 0) (by omega) (by omega)
    rw [hdiv, show c + (n + 1) = (c + 1) + n by omega]
    by_cases q : (c + 1) - (c + 1) / 10 * 10 = 0
    · rw [if_pos (hz.mpr q)]
      exact ih (k + 1) (c + 1) _ _ _ _ _ _ (by omega) (by omega) e2 (fun _ _ _ => rfl) (fun z => absurd (show c0 / 10 < (c + 1) / 10 by omega) z)
    · rw [if_neg (fun z => q (hz.mp z))]
      have hd : (c + 1) / 10 = c / 10 := by omega
      exact ih (k + 1) (c + 1) _ _ _ _ _ _ (by omega) (by omega) e2 (by rw [hd]; exact h1) (by rw [hd]; exact h2)
theorem pass_eq {co fa ic fw me sw cn fc fg ct ab go : Nat → Int32} {se c : Nat} (hW : RWa fw me sw) (hF : RFo co fa ic fc fg ab go) (hC : RCt ct cn) (hc : c + se + 3 < 2 ^ 31) :
    (f_X5_pass se fw fc fg ct (nI c)).1 = (f_X6_pass se me sw cn ab go (nI c)).1 ∧
    RFo co fa ic (f_X5_pass se fw fc fg ct (nI c)).2.1 (f_X5_pass se fw fc fg ct (nI c)).2.2.1 (f_X6_pass se me sw cn ab go (nI c)).2.2.1 (f_X6_pass se me sw cn ab go (nI c)).2.2.2.1 ∧
    RCt (f_X5_pass se fw fc fg ct (nI c)).2.2.2.1 (f_X6_pass se me sw cn ab go (nI c)).2.1 ∧
    (f_X5_pass se fw fc fg ct (nI c)).2.2.2.2 = nI (c + se) ∧ (f_X6_pass se me sw cn ab go (nI c)).2.2.2.2.1 = nI (c + se) ∧ (f_X6_pass se me sw cn ab go (nI c)).2.2.2.2.2 = nI 0 := by
  unfold f_X5_pass f_X6_pass
  exact pass_L hW se 0 c (nI 0) fc fg ct ab go hc (Nat.le_refl c) hF (fun q => absurd q (Nat.lt_irrefl _)) (fun _ => hC)
