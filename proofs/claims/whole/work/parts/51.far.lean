/-! the distances that Floyd and Warshall's loops leave: numbers, none past 1000000 (not reached); who reaches one that reaches another one reaches that one -/
def stN (m : Nat) (D : Nat → Nat) : Nat → Nat := fun e => min (D e) (D (10 * (e / 10) + m) + D (10 * m + e % 10))
theorem st_row {m : Nat} (hm : m < 10) {D : Nat → Nat} (h0 : D (10 * m + m) = 0) {i : Nat} : stN m D (10 * i + m) = D (10 * i + m) := by
  unfold stN
  rw [show (10 * i + m) / 10 = i by omega, show (10 * i + m) % 10 = m by omega, h0]
  omega
theorem st_col {m : Nat} (_ : m < 10) {D : Nat → Nat} (h0 : D (10 * m + m) = 0) {j : Nat} (hj : j < 10) : stN m D (10 * m + j) = D (10 * m + j) := by
  unfold stN
  rw [show (10 * m + j) / 10 = m by omega, show (10 * m + j) % 10 = j by omega, h0]
  omega
theorem stage_L {m : Nat} (hm : m < 10) {D : Nat → Nat} (h0 : D (10 * m + m) = 0) (hb : ∀ e, e < 100 → D e ≤ 1000000) : ∀ (n k : Nat) (y : Nat → Int32), k + n = 100 →
    (∀ e, e < 100 → y e = nI (if e < k then stN m D e else D e)) → ∀ e, e < 100 → f_X6_measures_L65 m n k y e = nI (stN m D e) := by
  intro n
  induction n with
  | zero =>
    intro k y hk h e he
    rw [f_X6_measures_L65, h e he, if_pos (by omega)]
  | succ n ih =>
    intro k y hk h e he
    have ha : y (10 * (k / 10) + m) = nI (D (10 * (k / 10) + m)) := by
      rw [h _ (by omega), st_row hm h0, ite_self]
    have hbb : y (10 * m + k % 10) = nI (D (10 * m + k % 10)) := by
      rw [h _ (by omega), st_col hm h0 (by omega), ite_self]
    have hkk : y k = nI (D k) := by rw [h k (by omega), if_neg (by omega)]
    have b1 := hb (10 * (k / 10) + m) (by omega)
    have b2 := hb (10 * m + k % 10) (by omega)
    have b3 := hb k (by omega)
    rw [f_X6_measures_L65, ha, hbb, nI_add, hkk]
    have step : ∀ v : Int32, v = nI (stN m D k) → ∀ e, e < 100 → upd y k v e = nI (if e < k + 1 then stN m D e else D e) := by
      intro v hv e he
      by_cases ek : e = k
      · subst ek; rw [pk_us, hv, if_pos (by omega)]
      · rw [pk_un ek, h e he]
        by_cases e1 : e < k
        · rw [if_pos e1, if_pos (by omega)]
        · rw [if_neg e1, if_neg (by omega)]
    by_cases c : D k ≤ D (10 * (k / 10) + m) + D (10 * m + k % 10)
    · rw [if_pos ((nI_leI (by omega) (by omega)).mpr c)]
      exact ih (k + 1) _ (by omega) (step _ (by unfold stN; rw [Nat.min_eq_left c])) e he
    · rw [if_neg (fun q => c ((nI_leI (by omega) (by omega)).mp q))]
      exact ih (k + 1) _ (by omega) (step _ (by unfold stN; rw [Nat.min_eq_right (by omega)])) e he
def WInv (B m : Nat) (D : Nat → Nat) : Prop := (∀ i, i < 10 → D (10 * i + i) = 0) ∧ (∀ e, e < 100 → D e = 1000000 ∨ D e ≤ B) ∧
  ∀ k i j, k < m → i < 10 → j < 10 → D (10 * i + k) < 1000000 → D (10 * k + j) < 1000000 → D (10 * i + j) < 1000000
theorem st_reach {B m : Nat} (hB : 2 * B < 1000000) (hm : m < 10) {D : Nat → Nat} (hb : ∀ e, e < 100 → D e = 1000000 ∨ D e ≤ B) {i j : Nat} (hi : i < 10) (hj : j < 10) :
    stN m D (10 * i + j) < 1000000 ↔ (D (10 * i + j) < 1000000 ∨ (D (10 * i + m) < 1000000 ∧ D (10 * m + j) < 1000000)) := by
  unfold stN
  rw [show (10 * i + j) / 10 = i by omega, show (10 * i + j) % 10 = j by omega]
  have h1 := hb (10 * i + m) (by omega)
  have h2 := hb (10 * m + j) (by omega)
  have h3 := hb (10 * i + j) (by omega)
  omega
theorem st_inv {B m : Nat} (hB : 2 * B < 1000000) (hm : m < 10) {D : Nat → Nat} (h : WInv B m D) : WInv (2 * B) (m + 1) (stN m D) := by
  obtain ⟨hd, hb, ht⟩ := h
  refine ⟨fun i hi => ?_, fun e he => ?_, fun k i j hk hi hj h1 h2 => ?_⟩
  · have := hd i hi
    unfold stN
    omega
  · unfold stN
    have h1 := hb e he
    have h2 := hb (10 * (e / 10) + m) (by omega)
    have h3 := hb (10 * m + e % 10) (by omega)
    omega
  · rw [st_reach hB hm hb hi (by omega)] at h1
    rw [st_reach hB hm hb (by omega) hj] at h2
    rw [st_reach hB hm hb hi hj]
    by_cases e : k = m
    · subst e
      right
      exact ⟨h1.elim id (fun q => q.1), h2.elim id (fun q => q.2)⟩
    · have hkm : k < m := by omega
      rcases h1 with h1 | ⟨h1, h1'⟩ <;> rcases h2 with h2 | ⟨h2, h2'⟩
      · exact Or.inl (ht k i j hkm hi hj h1 h2)
      · exact Or.inr ⟨ht k i m hkm hi hm h1 h2, h2'⟩
      · exact Or.inr ⟨h1, ht k m j hkm hm hj h1' h2⟩
      · exact Or.inr ⟨h1, h2'⟩
theorem st_all : ∀ (n k : Nat) (y : Nat → Int32) (D : Nat → Nat), k + n = 10 → (∀ e, e < 100 → y e = nI (D e)) → WInv (20 * 2 ^ k) k D →
    ∃ D' : Nat → Nat, (∀ e, e < 100 → f_X6_measures_L57 n k y e = nI (D' e)) ∧ WInv (20 * 2 ^ 10) 10 D' ∧ ∀ e, e < 100 → D' e ≤ D e := by
  intro n
  induction n with
  | zero =>
    intro k y D hk h hw
    obtain rfl : k = 10 := by omega
    exact ⟨D, by rw [f_X6_measures_L57]; exact h, hw, fun _ _ => Nat.le_refl _⟩
  | succ n ih =>
    intro k y D hk h hw
    rw [f_X6_measures_L57]
    have hp : (2 : Nat) ^ k ≤ 2 ^ 9 := Nat.pow_le_pow_right (by decide) (by omega)
    have h512 : (2 : Nat) ^ 9 = 512 := by decide
    have hB : 2 * (20 * 2 ^ k) < 1000000 := by omega
    have hs := stage_L (show k < 10 by omega) (hw.1 k (by omega)) (fun e he => by rcases hw.2.1 e he with q | q <;> omega) 100 0 y (by omega) (fun e he => by rw [if_neg (by omega)]; exact h e he)
    have hi := st_inv hB (show k < 10 by omega) hw
    rw [show 2 * (20 * 2 ^ k) = 20 * 2 ^ (k + 1) by rw [Nat.pow_succ]; omega] at hi
    obtain ⟨D', h1, h2, h3⟩ := ih (k + 1) _ (stN k D) (by omega) hs hi
    exact ⟨D', h1, h2, fun e he => Nat.le_trans (h3 e he) (by unfold stN; omega)⟩
def FarOK (co fa : Nat → Int32) : Prop := ∃ D : Nat → Nat, (∀ e, e < 100 → fa e = nI (D e)) ∧ WInv 20480 10 D ∧ ∀ i j, i < 10 → j < 10 → ¬ co (10 * i + j) = nI 0 → D (10 * i + j) < 1000000
theorem far_L2 {co : Nat → Int32} {c : Nat → Nat} (hc : ∀ e, e < 100 → co e = nI (c e) ∧ c e ≤ 20) : ∀ (n k : Nat) (y : Nat → Int32), k + n = 100 →
    (∀ e, e < k → y e = nI (if e / 10 = e % 10 then 0 else if c e = 0 then 1000000 else c e)) →
    ∃ y', (∀ e, e < 100 → y' e = nI (if e / 10 = e % 10 then 0 else if c e = 0 then 1000000 else c e)) ∧ f_X6_measures_L2 co n k y = f_X6_measures_L57 10 0 y' := by
  intro n
  induction n with
  | zero =>
    intro k y hk h
    exact ⟨y, fun e he => h e (by omega), by rw [f_X6_measures_L2]⟩
  | succ n ih =>
    intro k y hk h
    rw [f_X6_measures_L2]
    obtain ⟨h1, h2⟩ := hc k (by omega)
    have step : ∀ v : Int32, v = nI (if k / 10 = k % 10 then 0 else if c k = 0 then 1000000 else c k) → ∀ e, e < k + 1 → upd y k v e = nI (if e / 10 = e % 10 then 0 else if c e = 0 then 1000000 else c e) := by
      intro v hv e he
      by_cases ek : e = k
      · subst ek; rw [pk_us, hv]
      · rw [pk_un ek]; exact h e (by omega)
    by_cases e1 : k / 10 = k % 10
    · rw [if_pos e1]
      exact ih (k + 1) _ (by omega) (step _ (by rw [if_pos e1]))
    · rw [if_neg e1, h1]
      by_cases e2 : c k = 0
      · rw [if_pos ((nI_le0 (by omega)).mpr e2)]
        exact ih (k + 1) _ (by omega) (step _ (by rw [if_neg e1, if_pos e2]))
      · rw [if_neg (fun q => e2 ((nI_le0 (by omega)).mp q))]
        exact ih (k + 1) _ (by omega) (step _ (by rw [if_neg e1, if_neg e2]))
theorem far_ok {co : Nat → Int32} (hC : Costs co) (fa : Nat → Int32) : FarOK co (f_X6_measures co fa) := by
  have hc : ∀ e, e < 100 → co e = nI ((co e).toNatClampNeg) ∧ (co e).toNatClampNeg ≤ 20 := by
    intro e he
    obtain ⟨c, h1, h2⟩ := hC.1 e he
    rw [h2, nI_clamp (by omega)]
    exact ⟨rfl, h1⟩
  obtain ⟨y', h1, h2⟩ := far_L2 hc 100 0 fa (by omega) (fun e he => absurd he (by omega))
  unfold f_X6_measures
  rw [h2]
  have hw : WInv (20 * 2 ^ 0) 0 (fun e => if e / 10 = e % 10 then 0 else if (co e).toNatClampNeg = 0 then 1000000 else (co e).toNatClampNeg) := by
    refine ⟨fun i hi => ?_, fun e he => ?_, fun k i j hk => absurd hk (by omega)⟩
    · show (if (10 * i + i) / 10 = (10 * i + i) % 10 then 0 else _) = 0
      rw [if_pos (by omega)]
    · have := (hc e he).2
      show (if e / 10 = e % 10 then 0 else if (co e).toNatClampNeg = 0 then 1000000 else (co e).toNatClampNeg) = 1000000 ∨ (if e / 10 = e % 10 then 0 else if (co e).toNatClampNeg = 0 then 1000000 else (co e).toNatClampNeg) ≤ 20 * 2 ^ 0
      split
      · right; omega
      · split
        · left; rfl
        · right; omega
  obtain ⟨D', h3, h4, h5⟩ := st_all 10 0 y' _ (by omega) h1 hw
  refine ⟨D', h3, h4, fun i j hi hj hne => ?_⟩
  have h6 := h5 (10 * i + j) (by omega)
  obtain ⟨h7, h8⟩ := hc (10 * i + j) (by omega)
  have h9 : ¬ (co (10 * i + j)).toNatClampNeg = 0 := fun q => hne (by rw [h7, q])
  rw [if_neg h9] at h6
  split at h6 <;> omega
