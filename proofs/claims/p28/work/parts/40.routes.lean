/-! routes: the distances are those of the shortest ways -/
theorem nI_z {n : Nat} (h : n < 2 ^ 31) : nI n = 0 ↔ n = 0 := by
  rw [← nI_0]
  exact nI_eq h (by omega)
/-- n links from i to j, d long in all -/
def Wk (C : Nat → Nat → Nat) : Nat → Nat → Nat → Nat → Prop
  | 0, i, j, d => i = j ∧ d = 0
  | n + 1, i, j, d => ∃ k, k < 10 ∧ 0 < C i k ∧ ∃ d', d = C i k + d' ∧ Wk C n k j d'
theorem Wk_app {C : Nat → Nat → Nat} {k j e : Nat} : ∀ (n m i d : Nat), Wk C n i k d → Wk C m k j e → Wk C (n + m) i j (d + e) := by
  intro n
  induction n with
  | zero =>
    intro m i d h1 h2
    obtain ⟨rfl, rfl⟩ := h1
    rw [Nat.zero_add, Nat.zero_add]; exact h2
  | succ n ih =>
    intro m i d h1 h2
    obtain ⟨k', hk, hC, d', rfl, h⟩ := h1
    rw [Nat.add_right_comm]
    exact ⟨k', hk, hC, d' + e, by omega, ih m k' d' h h2⟩
/-- a stage of Floyd and Warshall's -/
def stg (m : Nat) (D : Nat → Nat → Nat) (i j : Nat) : Nat := min (D i j) (D i m + D m j)
def InfB (B : Nat) (D : Nat → Nat → Nat) : Prop := ∀ i j, i < 10 → j < 10 → D i j = 1000000 ∨ D i j ≤ B
/-- rows before k2, and in row k2 the columns before k, are of the next stage -/
def Half (F D : Nat → Nat → Nat) (k2 k : Nat) (x : Nat → Int32) : Prop := ∀ i j, i < 10 → j < 10 → x (i * 10 + j) = nI (if i < k2 ∨ (i = k2 ∧ j < k) then F i j else D i j)
theorem Half_put {F D : Nat → Nat → Nat} {k2 k : Nat} {x : Nat → Int32} {v : Int32} (h : Half F D k2 k x) (hk2 : k2 < 10) (hk : k < 10) (hv : v = nI (F k2 k)) : Half F D k2 (k + 1) (upd x (k2 * 10 + k) v) := by
  intro i j hi hj
  by_cases e : i = k2 ∧ j = k
  · obtain ⟨rfl, rfl⟩ := e
    rw [pk_us, if_pos (by omega), hv]
  · rw [pk_un (by omega), h i j hi hj]
    by_cases c : i < k2 ∨ (i = k2 ∧ j < k)
    · rw [if_pos c, if_pos (by omega)]
    · rw [if_neg c, if_neg (by omega)]
theorem Half_keep {F D : Nat → Nat → Nat} {k2 k : Nat} {x : Nat → Int32} (h : Half F D k2 k x) (hv : F k2 k = D k2 k) : Half F D k2 (k + 1) x := by
  intro i j hi hj
  rw [h i j hi hj]
  by_cases c : i < k2 ∨ (i = k2 ∧ j < k)
  · rw [if_pos c, if_pos (by omega)]
  · rw [if_neg c]
    by_cases e : i = k2 ∧ j = k
    · obtain ⟨rfl, rfl⟩ := e
      rw [if_pos (by omega), hv]
    · rw [if_neg (by omega)]
theorem Half_next {F D : Nat → Nat → Nat} {k2 : Nat} {x : Nat → Int32} (h : Half F D k2 10 x) : Half F D (k2 + 1) 0 x := by
  intro i j hi hj
  rw [h i j hi hj]
  by_cases c : i < k2 ∨ (i = k2 ∧ j < 10)
  · rw [if_pos c, if_pos (by omega)]
  · rw [if_neg c, if_neg (by omega)]
theorem Half_end {F D : Nat → Nat → Nat} {x : Nat → Int32} (h : Half F D 10 0 x) : ∀ i j, i < 10 → j < 10 → x (i * 10 + j) = nI (F i j) := by
  intro i j hi hj
  rw [h i j hi hj, if_pos (by omega)]
theorem Half_0 {F D : Nat → Nat → Nat} {x : Nat → Int32} (h : ∀ i j, i < 10 → j < 10 → x (i * 10 + j) = nI (D i j)) : Half F D 0 0 x := by
  intro i j hi hj
  rw [h i j hi hj, if_neg (by omega)]
theorem sh_L10 {mi k2 B : Nat} {D : Nat → Nat → Nat} (hm : mi < 10) (hk2 : k2 < 10) (hB : B ≤ 1000000) (h0 : D mi mi = 0) (hb : InfB B D) : ∀ (n k : Nat) (x : Nat → Int32), k + n = 10 → Half (stg mi D) D k2 k x → Half (stg mi D) D k2 10 (f_X4_shortenThrough_L10 mi k2 n k x) := by
  intro n
  induction n with
  | zero =>
    intro k x hk h
    obtain rfl : k = 10 := by omega
    rw [f_X4_shortenThrough_L10]; exact h
  | succ n ih =>
    intro k x hk h
    have b1 := hb k2 k hk2 (by omega)
    have b2 := hb k2 mi hk2 hm
    have b3 := hb mi k hm (by omega)
    have e1 : x (k2 * 10 + k) = nI (D k2 k) := by rw [h k2 k hk2 (by omega), if_neg (by omega)]
    have e2 : x (k2 * 10 + mi) = nI (D k2 mi) := by
      rw [h k2 mi hk2 hm]
      have : stg mi D k2 mi = D k2 mi := by unfold stg; rw [h0]; omega
      rw [this, ite_self]
    have e3 : x (mi * 10 + k) = nI (D mi k) := by
      rw [h mi k hm (by omega)]
      have : stg mi D mi k = D mi k := by unfold stg; rw [h0]; omega
      rw [this, ite_self]
    rw [f_X4_shortenThrough_L10, e1, e2, e3, nI_add]
    by_cases c : D k2 k ≤ D k2 mi + D mi k
    · rw [if_pos ((nI_leI (by omega) (by omega)).mpr c)]
      exact ih (k + 1) x (by omega) (Half_keep h (by unfold stg; exact Nat.min_eq_left c))
    · rw [if_neg (fun q => c ((nI_leI (by omega) (by omega)).mp q))]
      exact ih (k + 1) _ (by omega) (Half_put h hk2 (by omega) (by unfold stg; rw [Nat.min_eq_right (by omega)]))
theorem sh_L2 {mi B : Nat} {D : Nat → Nat → Nat} (hm : mi < 10) (hB : B ≤ 1000000) (h0 : D mi mi = 0) (hb : InfB B D) : ∀ (n k : Nat) (x : Nat → Int32), k + n = 10 → Half (stg mi D) D k 0 x → Half (stg mi D) D 10 0 (f_X4_shortenThrough_L2 mi n k x) := by
  intro n
  induction n with
  | zero =>
    intro k x hk h
    obtain rfl : k = 10 := by omega
    rw [f_X4_shortenThrough_L2]; exact h
  | succ n ih =>
    intro k x hk h
    rw [f_X4_shortenThrough_L2]
    exact ih (k + 1) _ (by omega) (Half_next (sh_L10 hm (by omega) hB h0 hb 10 0 x rfl h))
/-- what stands after the stages before m -/
def FW (C : Nat → Nat → Nat) (B m : Nat) (D : Nat → Nat → Nat) : Prop :=
  (∀ i, i < 10 → D i i = 0) ∧ InfB B D ∧ (∀ i j, i < 10 → j < 10 → D i j = D j i) ∧ (∀ k i j, k < m → i < 10 → j < 10 → D i j ≤ D i k + D k j) ∧
  (∀ i j, i < 10 → j < 10 → D i j < 1000000 → ∃ n, Wk C n i j (D i j)) ∧ ∀ i j, i < 10 → j < 10 → 0 < C i j → D i j ≤ C i j
theorem FW_step {C : Nat → Nat → Nat} {B m : Nat} {D : Nat → Nat → Nat} (hm : m < 10) (hB : 2 * B < 1000000) (h : FW C B m D) : FW C (2 * B) (m + 1) (stg m D) := by
  obtain ⟨h1, h2, h3, h4, h5, h6⟩ := h
  refine ⟨fun i hi => ?_, fun i j hi hj => ?_, fun i j hi hj => ?_, fun k i j hk hi hj => ?_, fun i j hi hj hf => ?_, fun i j hi hj hc => ?_⟩
  · have := h1 i hi
    unfold stg; omega
  · have a := h2 i j hi hj
    have b := h2 i m hi hm
    have c := h2 m j hm hj
    unfold stg; omega
  · have a := h3 i j hi hj
    have b := h3 i m hi hm
    have c := h3 m j hm hj
    unfold stg; omega
  · have hm0 := h1 m hm
    by_cases e : k = m
    · subst e
      unfold stg; omega
    · have hkm : k < m := by omega
      have a1 := h4 k i j hkm hi hj
      have a2 := h4 k i m hkm hi hm
      have a3 := h4 k m j hkm hm hj
      unfold stg; omega
  · unfold stg at hf ⊢
    have a := h2 i j hi hj
    by_cases c : D i j ≤ D i m + D m j
    · rw [Nat.min_eq_left c] at hf ⊢
      exact h5 i j hi hj hf
    · rw [Nat.min_eq_right (by omega)] at hf ⊢
      obtain ⟨n1, w1⟩ := h5 i m hi hm (by omega)
      obtain ⟨n2, w2⟩ := h5 m j hm hj (by omega)
      exact ⟨n1 + n2, Wk_app n1 n2 i _ w1 w2⟩
  · have := h6 i j hi hj hc
    unfold stg; omega
theorem FW_all {C : Nat → Nat → Nat} : ∀ (n k : Nat) (x : Nat → Int32) (D : Nat → Nat → Nat), k + n = 10 → (∀ i j, i < 10 → j < 10 → x (i * 10 + j) = nI (D i j)) → FW C (20 * 2 ^ k) k D →
    ∃ D', (∀ i j, i < 10 → j < 10 → f_X4_findLeast_L72 n k x (i * 10 + j) = nI (D' i j)) ∧ FW C (20 * 2 ^ 10) 10 D' := by
  intro n
  induction n with
  | zero =>
    intro k x D hk h hf
    obtain rfl : k = 10 := by omega
    exact ⟨D, by rw [f_X4_findLeast_L72]; exact h, hf⟩
  | succ n ih =>
    intro k x D hk h hf
    rw [f_X4_findLeast_L72]
    have hp : (2 : Nat) ^ k ≤ 2 ^ 9 := Nat.pow_le_pow_right (by decide) (by omega)
    have h512 : (2 : Nat) ^ 9 = 512 := by decide
    have hB : 2 * (20 * 2 ^ k) < 1000000 := by omega
    have hf2 := FW_step (show k < 10 by omega) hB hf
    rw [show 2 * (20 * 2 ^ k) = 20 * 2 ^ (k + 1) by rw [Nat.pow_succ]; omega] at hf2
    exact ih (k + 1) _ (stg k D) (by omega) (Half_end (by
      unfold f_X4_shortenThrough
      exact sh_L2 (show k < 10 by omega) (by omega) (hf.1 k (by omega)) hf.2.1 10 0 x rfl (Half_0 h))) hf2
/-- costs of links: the same both ways, 0 where there is none -/
def Cst (C : Nat → Nat → Nat) : Prop := (∀ i j, i < 10 → j < 10 → C i j ≤ 20 ∧ C i j = C j i) ∧ ∀ i, i < 10 → C i i = 0
def D0 (C : Nat → Nat → Nat) (i j : Nat) : Nat := if i = j then 0 else if C i j = 0 then 1000000 else C i j
theorem fl_L10 {rc : Nat → Int32} {C : Nat → Nat → Nat} (hrc : ∀ i j, i < 10 → j < 10 → rc (i * 10 + j) = nI (C i j)) (hC : Cst C) {k2 : Nat} (hk2 : k2 < 10) : ∀ (n k : Nat) (x : Nat → Int32), k + n = 10 →
    (∀ i j, i < 10 → j < 10 → i < k2 ∨ (i = k2 ∧ j < k) → x (i * 10 + j) = nI (D0 C i j)) → ∀ i j, i < 10 → j < 10 → i < k2 + 1 → f_X4_findLeast_L10 rc k2 n k x (i * 10 + j) = nI (D0 C i j) := by
  intro n
  induction n with
  | zero =>
    intro k x hk h i j hi hj hik
    rw [f_X4_findLeast_L10]
    exact h i j hi hj (by omega)
  | succ n ih =>
    intro k x hk h
    rw [f_X4_findLeast_L10]
    have step : ∀ v : Int32, v = nI (D0 C k2 k) → ∀ i j, i < 10 → j < 10 → i < k2 ∨ (i = k2 ∧ j < k + 1) → upd x (k2 * 10 + k) v (i * 10 + j) = nI (D0 C i j) := by
      intro v hv i j hi hj hik
      by_cases e : i = k2 ∧ j = k
      · obtain ⟨rfl, rfl⟩ := e
        rw [pk_us, hv]
      · rw [pk_un (by omega)]
        exact h i j hi hj (by omega)
    by_cases e1 : k2 = k
    · rw [if_pos e1]
      exact ih (k + 1) _ (by omega) (step _ (by unfold D0; rw [if_pos e1]))
    · rw [if_neg e1, hrc k2 k hk2 (by omega)]
      have hc := (hC.1 k2 k hk2 (by omega)).1
      by_cases e2 : C k2 k = 0
      · rw [if_pos (by rw [e2]; exact nI_0)]
        exact ih (k + 1) _ (by omega) (step _ (by unfold D0; rw [if_neg e1, if_pos e2]))
      · rw [if_neg (fun q => e2 ((nI_z (by omega)).mp q))]
        exact ih (k + 1) _ (by omega) (step _ (by unfold D0; rw [if_neg e1, if_neg e2]))
theorem fl_L2 {rc : Nat → Int32} {C : Nat → Nat → Nat} (hrc : ∀ i j, i < 10 → j < 10 → rc (i * 10 + j) = nI (C i j)) (hC : Cst C) : ∀ (n k : Nat) (x : Nat → Int32), k + n = 10 →
    (∀ i j, i < 10 → j < 10 → i < k → x (i * 10 + j) = nI (D0 C i j)) → ∃ y, (∀ i j, i < 10 → j < 10 → y (i * 10 + j) = nI (D0 C i j)) ∧ f_X4_findLeast_L2 rc n k x = f_X4_findLeast_L72 10 0 y := by
  intro n
  induction n with
  | zero =>
    intro k x hk h
    exact ⟨x, fun i j hi hj => h i j hi hj (by omega), by rw [f_X4_findLeast_L2]⟩
  | succ n ih =>
    intro k x hk h
    rw [f_X4_findLeast_L2]
    exact ih (k + 1) _ (by omega) (fl_L10 hrc hC (show k < 10 by omega) 10 0 x rfl (fun i j hi hj hik => h i j hi hj (by omega)))
theorem FW_0 {C : Nat → Nat → Nat} (hC : Cst C) : FW C (20 * 2 ^ 0) 0 (D0 C) := by
  refine ⟨fun i hi => if_pos rfl, fun i j hi hj => ?_, fun i j hi hj => ?_, fun k i j hk => absurd hk (Nat.not_lt_zero _), fun i j hi hj hf => ?_, fun i j hi hj hc => ?_⟩
  · have := (hC.1 i j hi hj).1
    unfold D0
    split
    · right; omega
    · split
      · left; rfl
      · right; omega
  · have h1 := (hC.1 i j hi hj).2
    unfold D0
    rw [h1]
    by_cases e : i = j
    · subst e; rfl
    · rw [if_neg e, if_neg (show ¬ j = i from fun q => e q.symm)]
  · unfold D0 at hf ⊢
    by_cases e : i = j
    · rw [if_pos e]; exact ⟨0, e, rfl⟩
    · rw [if_neg e] at hf ⊢
      by_cases e2 : C i j = 0
      · rw [if_pos e2] at hf; omega
      · rw [if_neg e2]; exact ⟨1, j, hj, by omega, 0, rfl, rfl, rfl⟩
  · unfold D0
    by_cases e : i = j
    · rw [if_pos e]; omega
    · rw [if_neg e, if_neg (by omega)]; exact Nat.le_refl _
/-- distances: none past 1000000 (not reached), the same both ways, no way over a third one is shorter, and there is a way as long -/
def DOk (C D : Nat → Nat → Nat) : Prop :=
  (∀ i, i < 10 → D i i = 0) ∧ InfB 20480 D ∧ (∀ i j, i < 10 → j < 10 → D i j = D j i) ∧ (∀ k i j, k < 10 → i < 10 → j < 10 → D i j ≤ D i k + D k j) ∧
  (∀ i j, i < 10 → j < 10 → 0 < C i j → D i j ≤ C i j) ∧ ∀ i j, i < 10 → j < 10 → ¬ i = j → D i j < 1000000 → ∃ k, k < 10 ∧ 0 < C i k ∧ D i j = C i k + D k j
theorem Wk_ge {C D : Nat → Nat → Nat} {j : Nat} (hj : j < 10) (h0 : ∀ i, i < 10 → D i i = 0) (ht : ∀ k i j, k < 10 → i < 10 → j < 10 → D i j ≤ D i k + D k j) (he : ∀ i j, i < 10 → j < 10 → 0 < C i j → D i j ≤ C i j) : ∀ (n i d : Nat), i < 10 → Wk C n i j d → D i j ≤ d := by
  intro n
  induction n with
  | zero => intro i d hi h; obtain ⟨rfl, rfl⟩ := h; rw [h0 i hi]; exact Nat.le_refl _
  | succ n ih =>
    intro i d hi h
    obtain ⟨k, hk, hc, d', rfl, h⟩ := h
    have a := ih k d' hk h
    have b := ht k i j hk hi hj
    have c := he i k hi hk hc
    omega
theorem least_ok {rc : Nat → Int32} {C : Nat → Nat → Nat} (hrc : ∀ i j, i < 10 → j < 10 → rc (i * 10 + j) = nI (C i j)) (hC : Cst C) (rl : Nat → Int32) :
    ∃ D, (∀ i j, i < 10 → j < 10 → f_X4_findLeast rc rl (i * 10 + j) = nI (D i j)) ∧ DOk C D := by
  obtain ⟨y, hy, he⟩ := fl_L2 hrc hC 10 0 rl rfl (fun i j hi hj h => absurd h (Nat.not_lt_zero _))
  obtain ⟨D, h1, h2, h3, h4, h5, h6, h7⟩ := FW_all 10 0 y _ rfl hy (FW_0 hC)
  unfold f_X4_findLeast
  rw [he]
  refine ⟨D, h1, h2, h3, h4, h5, h7, fun i j hi hj hne hf => ?_⟩
  obtain ⟨n, w⟩ := h6 i j hi hj hf
  cases n with
  | zero => exact absurd w.1 hne
  | succ n =>
    obtain ⟨k, hk, hc, d', e, w'⟩ := w
    have a := Wk_ge hj h2 h5 h7 n k d' hk w'
    have b := h5 k i j hk hi hj
    have c := h7 i k hi hk hc
    exact ⟨k, hk, hc, by omega⟩
theorem dist_ok {rl : Nat → Int32} {C D : Nat → Nat → Nat} (hrl : ∀ i j, i < 10 → j < 10 → rl (i * 10 + j) = nI (D i j)) (hD : DOk C D) {r o : Nat} (hr : r < 10) (ho : o < 10) :
    f_X4_distanceOf r o rl = if D r o < 1000000 then nI (D r o) else -1 := by
  unfold f_X4_distanceOf
  rw [hrl r o hr ho]
  have := hD.2.1 r o hr ho
  by_cases c : D r o < 1000000
  · rw [if_pos c, if_neg (fun q => absurd ((nI_leI (by omega) (by omega)).mp q) (by omega))]
  · rw [if_neg c, if_pos ((nI_leI (by omega) (by omega)).mpr (by omega))]
/-- the next hop: the lowest neighbour on a shortest way -/
def Hop1 (C D : Nat → Nat → Nat) (r o : Nat) (v : Int32) : Prop :=
  (r = o ∨ ¬ D r o < 1000000 → v = -1) ∧ (¬ r = o → D r o < 1000000 → ∃ k, k < 10 ∧ v = nI k ∧ 0 < C r k ∧ D r o = C r k + D k o ∧ ∀ k', k' < k → ¬ (0 < C r k' ∧ D r o = C r k' + D k' o))
theorem fhop_L {rc rl : Nat → Int32} {C D : Nat → Nat → Nat} (hrc : ∀ i j, i < 10 → j < 10 → rc (i * 10 + j) = nI (C i j)) (hC : Cst C) (hrl : ∀ i j, i < 10 → j < 10 → rl (i * 10 + j) = nI (D i j)) (hD : DOk C D) {r o : Nat} (hr : r < 10) (ho : o < 10) (hf : D r o < 1000000) (hex : ∃ k, k < 10 ∧ 0 < C r k ∧ D r o = C r k + D k o) : ∀ (n k : Nat), k + n = 10 →
    (∀ k', k' < k → ¬ (0 < C r k' ∧ D r o = C r k' + D k' o)) →
    ∃ j, j < 10 ∧ f_X4_firstHop_L22 r o rc rl n k = nI j ∧ 0 < C r j ∧ D r o = C r j + D j o ∧ ∀ k', k' < j → ¬ (0 < C r k' ∧ D r o = C r k' + D k' o) := by
  intro n
  induction n with
  | zero =>
    intro k hk h
    obtain ⟨j, h1, h2, h3⟩ := hex
    exact absurd ⟨h2, h3⟩ (h j (by omega))
  | succ n ih =>
    intro k hk h
    have hk10 : k < 10 := by omega
    have hc := (hC.1 r k hr hk10).1
    have b1 := hD.2.1 k o hk10 ho
    have b2 := hD.2.1 r o hr ho
    rw [f_X4_firstHop_L22, hrc r k hr hk10, dist_ok hrl hD hk10 ho, dist_ok hrl hD hr ho, if_pos hf]
    by_cases c : C r k = 0
    · rw [if_pos ((nI_z (by omega)).mpr c)]
      refine ih (k + 1) (by omega) (fun k' hk' => ?_)
      by_cases e : k' = k
      · subst e; exact fun q => by omega
      · exact h k' (by omega)
    · rw [if_neg (fun q => c ((nI_z (by omega)).mp q))]
      have t1 := hD.2.2.2.1 r k o hr hk10 ho
      have t2 := hD.2.2.2.2.1 r k hr hk10 (by omega)
      have t3 := hD.2.2.1 r k hr hk10
      have hfk : D k o < 1000000 := by omega
      rw [if_pos hfk, nI_add]
      by_cases c2 : C r k + D k o = D r o
      · rw [if_pos (by rw [c2])]
        exact ⟨k, hk10, rfl, by omega, c2.symm, h⟩
      · rw [if_neg (fun q => c2 ((nI_eq (by omega) (by omega)).mp q))]
        refine ih (k + 1) (by omega) (fun k' hk' => ?_)
        by_cases e : k' = k
        · subst e; exact fun q => c2 q.2.symm
        · exact h k' (by omega)
theorem fhop_ok {rc rl : Nat → Int32} {C D : Nat → Nat → Nat} (hrc : ∀ i j, i < 10 → j < 10 → rc (i * 10 + j) = nI (C i j)) (hC : Cst C) (hrl : ∀ i j, i < 10 → j < 10 → rl (i * 10 + j) = nI (D i j)) (hD : DOk C D) {r o : Nat} (hr : r < 10) (ho : o < 10) :
    Hop1 C D r o (f_X4_firstHop r o rc rl) := by
  unfold f_X4_firstHop
  rw [dist_ok hrl hD hr ho]
  have b := hD.2.1 r o hr ho
  by_cases e : r = o
  · rw [if_pos e]
    exact ⟨fun _ => rfl, fun q => absurd e q⟩
  · rw [if_neg e]
    by_cases c : D r o < 1000000
    · rw [if_pos c, if_neg (nI_neg1 (by omega))]
      exact ⟨fun q => absurd c (q.resolve_left e), fun _ _ => fhop_L hrc hC hrl hD hr ho c (hD.2.2.2.2.2 r o hr ho e c) 10 0 rfl (fun k' h => absurd h (Nat.not_lt_zero _))⟩
    · rw [if_neg c, if_pos rfl]
      exact ⟨fun _ => rfl, fun _ q => absurd q c⟩
theorem fh_inner {rc rl : Nat → Int32} {k2 : Nat} (hk2 : k2 < 10) : ∀ (n k : Nat) (x : Nat → Int32), k + n = 10 → ∀ r o, r < 10 → o < 10 →
    f_X4_findHops_L10 rc rl k2 n k x (r * 10 + o) = if r = k2 ∧ k ≤ o then f_X4_firstHop r o rc rl else x (r * 10 + o) := by
  intro n
  induction n with
  | zero =>
    intro k x hk r o hr ho
    rw [f_X4_findHops_L10, if_neg (by omega)]
  | succ n ih =>
    intro k x hk r o hr ho
    rw [f_X4_findHops_L10, ih (k + 1) _ (by omega) r o hr ho]
    by_cases c : r = k2 ∧ k + 1 ≤ o
    · rw [if_pos c, if_pos (by omega)]
    · rw [if_neg c]
      by_cases c2 : r = k2 ∧ k = o
      · obtain ⟨rfl, rfl⟩ := c2
        rw [pk_us, if_pos (by omega)]
      · rw [pk_un (by omega), if_neg (by omega)]
theorem fh_outer {rc rl : Nat → Int32} : ∀ (n k : Nat) (x : Nat → Int32), k + n = 10 → ∀ r o, r < 10 → o < 10 →
    f_X4_findHops_L2 rc rl n k x (r * 10 + o) = if k ≤ r then f_X4_firstHop r o rc rl else x (r * 10 + o) := by
  intro n
  induction n with
  | zero =>
    intro k x hk r o hr ho
    rw [f_X4_findHops_L2, if_neg (by omega)]
  | succ n ih =>
    intro k x hk r o hr ho
    rw [f_X4_findHops_L2, ih (k + 1) _ (by omega) r o hr ho]
    by_cases c : k + 1 ≤ r
    · rw [if_pos c, if_pos (by omega)]
    · rw [if_neg c, fh_inner (show k < 10 by omega) 10 0 x (by omega) r o hr ho]
      by_cases c2 : r = k
      · subst c2
        rw [if_pos (by omega), if_pos (by omega)]
      · rw [if_neg (by omega), if_neg (by omega)]
/-- links, distances and next hops are as they should be -/
def Rt (rc rl rh : Nat → Int32) (C D : Nat → Nat → Nat) : Prop :=
  (∀ i j, i < 10 → j < 10 → rc (i * 10 + j) = nI (C i j)) ∧ Cst C ∧ (∀ i j, i < 10 → j < 10 → rl (i * 10 + j) = nI (D i j)) ∧ DOk C D ∧ ∀ r o, r < 10 → o < 10 → Hop1 C D r o (rh (r * 10 + o))
theorem Rt_new {rc : Nat → Int32} {C : Nat → Nat → Nat} (hrc : ∀ i j, i < 10 → j < 10 → rc (i * 10 + j) = nI (C i j)) (hC : Cst C) (rl rh : Nat → Int32) :
    ∃ D, Rt rc (f_X4_findLeast rc rl) (f_X4_findHops rc (f_X4_findLeast rc rl) rh) C D := by
  obtain ⟨D, h1, h2⟩ := least_ok hrc hC rl
  refine ⟨D, hrc, hC, h1, h2, fun r o hr ho => ?_⟩
  unfold f_X4_findHops
  rw [fh_outer 10 0 rh rfl r o hr ho, if_pos (Nat.zero_le _)]
  exact fhop_ok hrc hC h1 h2 hr ho
/-- a hop, if there is one, comes nearer -/
theorem Rt_hop {rc rl rh : Nat → Int32} {C D : Nat → Nat → Nat} (h : Rt rc rl rh C D) {r o : Nat} (hr : r < 10) (ho : o < 10) : (rh (r * 10 + o) = -1 ∧ (r = o ∨ ¬ D r o < 1000000)) ∨ ∃ k, k < 10 ∧ rh (r * 10 + o) = nI k ∧ ¬ r = o ∧ D r o < 1000000 ∧ 0 < C r k ∧ D r o = C r k + D k o := by
  obtain ⟨h1, h2⟩ := h.2.2.2.2 r o hr ho
  by_cases c : r = o ∨ ¬ D r o < 1000000
  · exact Or.inl ⟨h1 c, c⟩
  · have c1 : ¬ r = o := fun q => c (Or.inl q)
    have c2 : D r o < 1000000 := by
      by_cases q : D r o < 1000000
      · exact q
      · exact absurd (Or.inr q) c
    obtain ⟨k, a1, a2, a3, a4, -⟩ := h2 c1 c2
    exact Or.inr ⟨k, a1, a2, c1, c2, a3, a4⟩
theorem Rt_dist {rc rl rh : Nat → Int32} {C D : Nat → Nat → Nat} (h : Rt rc rl rh C D) {r o : Nat} (hr : r < 10) (ho : o < 10) : f_X4_distanceOf r o rl = if D r o < 1000000 then nI (D r o) else -1 := dist_ok h.2.2.1 h.2.2.2.1 hr ho
