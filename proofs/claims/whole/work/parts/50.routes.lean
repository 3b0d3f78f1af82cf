/-! LAYER 2: the class's functions and the reference's, side by side. Routes. -/
def EQ (n : Nat) (x y : Nat → Int32) : Prop := ∀ k, k < n → x k = y k
theorem EQ.refl {n : Nat} (x : Nat → Int32) : EQ n x x := fun _ _ => rfl
theorem EQ.symm {n : Nat} {x y : Nat → Int32} (h : EQ n x y) : EQ n y x := fun k hk => (h k hk).symm
theorem EQ.trans {n : Nat} {x y z : Nat → Int32} (h : EQ n x y) (h2 : EQ n y z) : EQ n x z := fun k hk => (h k hk).trans (h2 k hk)
theorem EQ_upd {n : Nat} {x y : Nat → Int32} (h : EQ n x y) {k j : Nat} (v w : Int32) (hk : k = j) (hv : v = w) : EQ n (upd x k v) (upd y j w) := by
  intro i hi
  subst hk; subst hv
  by_cases e : i = k
  · subst e; rw [pk_us, pk_us]
  · rw [pk_un e, pk_un e]; exact h i hi
theorem EQ_updr {n : Nat} {x y : Nat → Int32} (h : EQ n x y) {k : Nat} {v : Int32} (hv : y k = v) : EQ n x (upd y k v) := by
  intro i hi
  by_cases e : i = k
  · subst e; rw [pk_us, ← hv]; exact h i hi
  · rw [pk_un e]; exact h i hi
/-- costs: none is negative or large, the same both ways -/
def Costs (co : Nat → Int32) : Prop := (∀ k, k < 100 → ∃ c : Nat, c ≤ 20 ∧ co k = nI c) ∧ ∀ r o, r < 10 → o < 10 → co (10 * r + o) = co (10 * o + r)
theorem fl_inner {rc co : Nat → Int32} (hE : EQ 100 rc co) (hC : Costs co) {k2 : Nat} (hk2 : k2 < 10) : ∀ (n k m : Nat) (x y : Nat → Int32), k + n = 10 → EQ 100 x y →
    ∃ y', EQ 100 (f_X4_findLeast_L10 rc k2 n k x) y' ∧ f_X6_measures_L2 co (n + m) (10 * k2 + k) y = f_X6_measures_L2 co m (10 * k2 + 10) y' := by
  intro n
  induction n with
  | zero =>
    intro k m x y hk h
    refine ⟨y, by rw [f_X4_findLeast_L10]; exact h, ?_⟩
    obtain rfl : k = 10 := by omega
    rw [Nat.zero_add]
  | succ n ih =>
    intro k m x y hk h
    rw [f_X4_findLeast_L10, show n + 1 + m = (n + m) + 1 by omega, f_X6_measures_L2]
    have hidx : k2 * 10 + k = 10 * k2 + k := by omega
    obtain ⟨c, hc, hcc⟩ := hC.1 (10 * k2 + k) (by omega)
    by_cases e : k2 = k
    · rw [if_pos e, if_pos (show (10 * k2 + k) / 10 = (10 * k2 + k) % 10 by omega)]
      exact ih (k + 1) m _ _ (by omega) (EQ_upd h _ _ hidx rfl)
    · rw [if_neg e, if_neg (show ¬ (10 * k2 + k) / 10 = (10 * k2 + k) % 10 by omega)]
      rw [hidx, hE _ (by omega), hcc]
      by_cases c0 : c = 0
      · subst c0
        rw [if_pos (show nI 0 = 0 from rfl), if_pos (show nI 0 ≤ 0 from (nI_le0 (by omega)).mpr rfl)]
        exact ih (k + 1) m _ _ (by omega) (EQ_upd h _ _ rfl rfl)
      · rw [if_neg (show ¬ nI c = 0 from fun q => c0 ((nI_eq (b := 0) (by omega) (by decide)).mp q)), if_neg (show ¬ nI c ≤ 0 from fun q => c0 ((nI_le0 (by omega)).mp q))]
        exact ih (k + 1) m _ _ (by omega) (EQ_upd h _ _ rfl rfl)
theorem sh_inner {mi k2 : Nat} (hm : mi < 10) (hk2 : k2 < 10) : ∀ (n k m : Nat) (x y : Nat → Int32), k + n = 10 → EQ 100 x y →
    ∃ y', EQ 100 (f_X4_shortenThrough_L10 mi k2 n k x) y' ∧ f_X6_measures_L65 mi (n + m) (10 * k2 + k) y = f_X6_measures_L65 mi m (10 * k2 + 10) y' := by
  intro n
  induction n with
  | zero =>
    intro k m x y hk h
    refine ⟨y, by rw [f_X4_shortenThrough_L10]; exact h, ?_⟩
    obtain rfl : k = 10 := by omega
    rw [Nat.zero_add]
  | succ n ih =>
    intro k m x y hk h
    rw [f_X4_shortenThrough_L10, show n + 1 + m = (n + m) + 1 by omega, f_X6_measures_L65]
    have e1 : k2 * 10 + k = 10 * k2 + k := by omega
    have e2 : 10 * ((10 * k2 + k) / 10) + mi = k2 * 10 + mi := by omega
    have e3 : 10 * mi + (10 * k2 + k) % 10 = mi * 10 + k := by omega
    rw [e1, e2, e3, h _ (show 10 * k2 + k < 100 by omega), h _ (show k2 * 10 + mi < 100 by omega), h _ (show mi * 10 + k < 100 by omega)]
    by_cases c : y (10 * k2 + k) ≤ y (k2 * 10 + mi) + y (mi * 10 + k)
    · rw [if_pos c, if_pos c]
      exact ih (k + 1) m _ _ (by omega) (EQ_updr h rfl)
    · rw [if_neg c, if_neg c]
      exact ih (k + 1) m _ _ (by omega) (EQ_upd h _ _ rfl rfl)
theorem sh_outer {mi : Nat} (hm : mi < 10) : ∀ (n k : Nat) (x y : Nat → Int32), k + n = 10 → EQ 100 x y → EQ 100 (f_X4_shortenThrough_L2 mi n k x) (f_X6_measures_L65 mi (10 * n) (10 * k) y) := by
  intro n
  induction n with
  | zero => intro k x y hk h; rw [f_X4_shortenThrough_L2, f_X6_measures_L65]; exact h
  | succ n ih =>
    intro k x y hk h
    rw [f_X4_shortenThrough_L2]
    obtain ⟨y', h1, h2⟩ := sh_inner hm (show k < 10 by omega) 10 0 (10 * n) x y (by omega) h
    rw [show 10 * (n + 1) = 10 + 10 * n by omega, show 10 * k = 10 * k + 0 by omega, h2, show 10 * k + 10 = 10 * (k + 1) by omega]
    exact ih (k + 1) _ _ (by omega) h1
theorem fl_72 : ∀ (n k : Nat) (x y : Nat → Int32), k + n = 10 → EQ 100 x y → EQ 100 (f_X4_findLeast_L72 n k x) (f_X6_measures_L57 n k y) := by
  intro n
  induction n with
  | zero => intro k x y hk h; rw [f_X4_findLeast_L72, f_X6_measures_L57]; exact h
  | succ n ih =>
    intro k x y hk h
    rw [f_X4_findLeast_L72, f_X6_measures_L57]
    exact ih (k + 1) _ _ (by omega) (sh_outer (by omega) 10 0 x y (by omega) h)
theorem fl_outer {rc co : Nat → Int32} (hE : EQ 100 rc co) (hC : Costs co) : ∀ (n k : Nat) (x y : Nat → Int32), k + n = 10 → EQ 100 x y → EQ 100 (f_X4_findLeast_L2 rc n k x) (f_X6_measures_L2 co (10 * n) (10 * k) y) := by
  intro n
  induction n with
  | zero => intro k x y hk h; rw [f_X4_findLeast_L2, f_X6_measures_L2]; exact fl_72 10 0 x y (by omega) h
  | succ n ih =>
    intro k x y hk h
    rw [f_X4_findLeast_L2]
    obtain ⟨y', h1, h2⟩ := fl_inner hE hC (show k < 10 by omega) 10 0 (10 * n) x y (by omega) h
    rw [show 10 * (n + 1) = 10 + 10 * n by omega, show 10 * k = 10 * k + 0 by omega, h2, show 10 * k + 10 = 10 * (k + 1) by omega]
    exact ih (k + 1) _ _ (by omega) h1
/-- the distances of both are alike -/
theorem least_eq {rc co : Nat → Int32} (hE : EQ 100 rc co) (hC : Costs co) {rl fa : Nat → Int32} (h : EQ 100 rl fa) : EQ 100 (f_X4_findLeast rc rl) (f_X6_measures co fa) := by
  unfold f_X4_findLeast f_X6_measures
  exact fl_outer hE hC 10 0 rl fa (by omega) h
