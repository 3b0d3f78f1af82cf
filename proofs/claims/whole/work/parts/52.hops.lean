/-! next hops of both; a hop comes nearer; so grafting ends -/
theorem nI_neg1 {n : Nat} (h : n < 2 ^ 31) : ¬ nI n = -1 := nI_m1' h
theorem dist_c {rl fa : Nat → Int32} (hl : EQ 100 rl fa) {D : Nat → Nat} (hD : ∀ e, e < 100 → fa e = nI (D e)) (hb : ∀ e, e < 100 → D e = 1000000 ∨ D e ≤ 20480) {r o : Nat} (hr : r < 10) (ho : o < 10) :
    f_X4_distanceOf r o rl = if D (10 * r + o) < 1000000 then nI (D (10 * r + o)) else -1 := by
  unfold f_X4_distanceOf
  rw [show r * 10 + o = 10 * r + o by omega, hl _ (by omega), hD _ (by omega)]
  have := hb (10 * r + o) (by omega)
  by_cases c : D (10 * r + o) < 1000000
  · rw [if_pos c, if_neg (fun q => absurd ((nI_leI (by omega) (by omega)).mp q) (by omega))]
  · rw [if_neg c, if_pos ((nI_leI (by omega) (by omega)).mpr (by omega))]
theorem hop_step {rc co rl fa : Nat → Int32} (hE : EQ 100 rc co) (hl : EQ 100 rl fa) (hC : Costs co) {D : Nat → Nat} (hD : ∀ e, e < 100 → fa e = nI (D e)) (hw : WInv 20480 10 D) (hco : ∀ i j, i < 10 → j < 10 → ¬ co (10 * i + j) = nI 0 → D (10 * i + j) < 1000000)
    {r o : Nat} (hr : r < 10) (ho : o < 10) (hne : ¬ r = o) (hf : D (10 * r + o) < 1000000) : ∀ (n k : Nat), n + k = 10 → f_X6_hop_L19 r o co fa n (f_X4_firstHop_L22 r o rc rl k n) = f_X4_firstHop_L22 r o rc rl 10 0 := by
  intro n
  induction n with
  | zero =>
    intro k hk
    obtain rfl : k = 10 := by omega
    rw [f_X6_hop_L19]
  | succ n ih =>
    intro k hk
    rw [f_X6_hop_L19, if_neg hne]
    have hfa : fa (10 * r + o) = nI (D (10 * r + o)) := hD _ (by omega)
    rw [hfa, if_neg (fun q => absurd ((nI_leI (by omega) (by omega)).mp q) (by omega))]
    have h2 := ih (k + 1) (by omega)
    rw [f_X4_firstHop_L22] at h2
    obtain ⟨c, hc, hcc⟩ := hC.1 (10 * r + n) (by omega)
    rw [show r * 10 + n = 10 * r + n by omega, hE _ (by omega), hcc] at h2
    rw [hcc]
    by_cases c0 : c = 0
    · rw [if_pos ((nI_le0 (by omega)).mpr c0)]
      rw [if_pos (show nI c = 0 by rw [c0]; rfl)] at h2
      exact h2
    · rw [if_neg (fun q => c0 ((nI_le0 (by omega)).mp q))]
      rw [if_neg (show ¬ nI c = 0 from fun q => c0 ((nI_eq (b := 0) (by omega) (by decide)).mp q))] at h2
      have hs : ¬ co (10 * n + r) = nI 0 := by
        rw [← hC.2 r n hr (by omega), hcc]
        exact fun q => c0 ((nI_eq (b := 0) (by omega) (by decide)).mp q)
      have h3 := hco n r (by omega) hr hs
      have h4 := hw.2.2 r n o hr (by omega) ho h3 hf
      rw [dist_c hl hD hw.2.1 (show n < 10 by omega) ho, if_pos h4, dist_c hl hD hw.2.1 hr ho, if_pos hf] at h2
      rw [hD (10 * n + o) (by omega)]
      by_cases c1 : nI c + nI (D (10 * n + o)) = nI (D (10 * r + o))
      · rw [if_pos c1]
        rw [if_pos c1] at h2
        exact h2
      · rw [if_neg c1]
        rw [if_neg c1] at h2
        exact h2
theorem hop_eq {rc co rl fa : Nat → Int32} (hE : EQ 100 rc co) (hl : EQ 100 rl fa) (hC : Costs co) (hF : FarOK co fa) {r o : Nat} (hr : r < 10) (ho : o < 10) : f_X4_firstHop r o rc rl = f_X6_hop r o co fa := by
  obtain ⟨D, hD, hw, hco⟩ := hF
  unfold f_X4_firstHop f_X6_hop
  by_cases hne : r = o
  · rw [if_pos hne, f_X6_hop_L19, if_pos hne]
  · rw [if_neg hne, dist_c hl hD hw.2.1 hr ho]
    have hb := hw.2.1 (10 * r + o) (by omega)
    by_cases hf : D (10 * r + o) < 1000000
    · rw [if_pos hf, if_neg (nI_neg1 (by omega))]
      have h := hop_step hE hl hC hD hw hco hr ho hne hf 10 0 rfl
      rw [← h, f_X4_firstHop_L22]
    · rw [if_neg hf, if_pos rfl, f_X6_hop_L19, if_neg hne, hD _ (by omega), if_pos ((nI_leI (by omega) (by omega)).mpr (by omega))]
theorem fh_inner {rc rl : Nat → Int32} {k2 : Nat} (hk2 : k2 < 10) : ∀ (n k : Nat) (x : Nat → Int32), k + n = 10 → ∀ r o, r < 10 → o < 10 →
    f_X4_findHops_L10 rc rl k2 n k x (r * 10 + o) = if r = k2 ∧ k ≤ o then f_X4_firstHop k2 o rc rl else x (r * 10 + o) := by
  intro n
  induction n with
  | zero =>
    intro k x hk r o hr ho
    rw [f_X4_findHops_L10, if_neg (by omega)]
  | succ n ih =>
    intro k x hk r o hr ho
    rw [f_X4_findHops_L10, ih (k + 1) _ (by omega) r o hr ho]
    by_cases c : r = k2 ∧ k + 1 ≤ o
    · rw [if_pos c, if_pos (by omega)]
    · rw [if_neg c]
      by_cases c2 : r = k2 ∧ k = o
      · obtain ⟨rfl, rfl⟩ := c2
        rw [pk_us, if_pos (by omega)]
      · rw [pk_un (by omega), if_neg (by omega)]
theorem fh_outer {rc rl : Nat → Int32} : ∀ (n k : Nat) (x : Nat → Int32), k + n = 10 → ∀ r o, r < 10 → o < 10 →
    f_X4_findHops_L2 rc rl n k x (r * 10 + o) = if k ≤ r then f_X4_firstHop r o rc rl else x (r * 10 + o) := by
  intro n
  induction n with
  | zero =>
    intro k x hk r o hr ho
    rw [f_X4_findHops_L2, if_neg (by omega)]
  | succ n ih =>
    intro k x hk r o hr ho
    rw [f_X4_findHops_L2, ih (k + 1) _ (by omega) r o hr ho]
    by_cases c : k + 1 ≤ r
    · rw [if_pos c, if_pos (by omega)]
    · rw [if_neg c, fh_inner (show k < 10 by omega) 10 0 x (by omega) r o hr ho]
      by_cases c2 : r = k
      · subst c2
        rw [if_pos (by omega), if_pos (by omega)]
      · rw [if_neg (by omega), if_neg (by omega)]
/-- routes of both -/
def RRt (rc rl rh co fa : Nat → Int32) : Prop := EQ 100 rc co ∧ EQ 100 rl fa ∧ Costs co ∧ FarOK co fa ∧ ∀ r o, r < 10 → o < 10 → rh (r * 10 + o) = f_X6_hop r o co fa
theorem routes_new {rc rl rh co fa : Nat → Int32} (hE : EQ 100 rc co) (hl : EQ 100 rl fa) (hC : Costs co) : RRt rc (f_X4_findLeast rc rl) (f_X4_findHops rc (f_X4_findLeast rc rl) rh) co (f_X6_measures co fa) := by
  have h1 := least_eq hE hC hl
  have h2 := far_ok hC fa
  refine ⟨hE, h1, hC, h2, fun r o hr ho => ?_⟩
  unfold f_X4_findHops
  rw [fh_outer 10 0 rh rfl r o hr ho, if_pos (Nat.zero_le _)]
  exact hop_eq hE h1 hC h2 hr ho
/-- how many routers are nearer than v to the router o -/
def near (D : Nat → Nat) (o v : Nat) : Nat → Nat
  | 0 => 0
  | n + 1 => near D o v n + if D (10 * n + o) < v then 1 else 0
theorem near_le (D : Nat → Nat) (o v : Nat) : ∀ n, near D o v n ≤ n := by
  intro n
  induction n with
  | zero => exact Nat.le_refl _
  | succ n ih => rw [near]; split <;> omega
theorem near_lt {D : Nat → Nat} {o v : Nat} : ∀ (n x : Nat), x < n → ¬ D (10 * x + o) < v → near D o v n + 1 ≤ n := by
  intro n
  induction n with
  | zero => intro x h; omega
  | succ n ih =>
    intro x hx h
    rw [near]
    by_cases e : x = n
    · subst e
      rw [if_neg h]
      have := near_le D o v x
      omega
    · have := ih x (by omega) h
      split <;> omega
theorem near_mono {D : Nat → Nat} {o v w : Nat} (h : v ≤ w) : ∀ n, near D o v n ≤ near D o w n := by
  intro n
  induction n with
  | zero => exact Nat.le_refl _
  | succ n ih => rw [near, near]; split <;> split <;> omega
theorem near_strict {D : Nat → Nat} {o v w : Nat} (h : v ≤ w) : ∀ (n x : Nat), x < n → ¬ D (10 * x + o) < v → D (10 * x + o) < w → near D o v n + 1 ≤ near D o w n := by
  intro n
  induction n with
  | zero => intro x hx; omega
  | succ n ih =>
    intro x hx h1 h2
    rw [near, near]
    by_cases e : x = n
    · subst e
      rw [if_neg h1, if_pos h2]
      have := near_mono (D := D) (o := o) h x
      omega
    · have := ih x (by omega) h1 h2
      split <;> split <;> omega
def rank (D : Nat → Nat) (o x : Nat) : Nat := near D o (D (10 * x + o)) 10
theorem rank_lt {D : Nat → Nat} {o x : Nat} (hx : x < 10) : rank D o x + 1 ≤ 10 := near_lt 10 x hx (Nat.lt_irrefl _)
theorem rank_dec {D : Nat → Nat} {o x y : Nat} (hy : y < 10) (h : D (10 * y + o) < D (10 * x + o)) : rank D o y + 1 ≤ rank D o x := near_strict (Nat.le_of_lt h) 10 y hy (Nat.lt_irrefl _) h
theorem hop_decL {co fa : Nat → Int32} (hC : Costs co) {D : Nat → Nat} (hD : ∀ e, e < 100 → fa e = nI (D e)) (hb : ∀ e, e < 100 → D e = 1000000 ∨ D e ≤ 20480) {r o : Nat} (hr : r < 10) (ho : o < 10) : ∀ (n : Nat) (x : Int32), n ≤ 10 →
    (x = -1 ∨ ∃ k, k < 10 ∧ x = nI k ∧ D (10 * k + o) < D (10 * r + o)) → (f_X6_hop_L19 r o co fa n x = -1 ∨ ∃ k, k < 10 ∧ f_X6_hop_L19 r o co fa n x = nI k ∧ D (10 * k + o) < D (10 * r + o)) := by
  intro n
  induction n with
  | zero => intro x _ h; rw [f_X6_hop_L19]; exact h
  | succ n ih =>
    intro x hn h
    rw [f_X6_hop_L19]
    by_cases h1 : r = o
    · rw [if_pos h1]; exact h
    · rw [if_neg h1]
      by_cases h2 : nI 1000000 ≤ fa (10 * r + o)
      · rw [if_pos h2]; exact h
      · rw [if_neg h2]
        obtain ⟨c, hc, hcc⟩ := hC.1 (10 * r + n) (by omega)
        rw [hcc]
        by_cases c0 : nI c ≤ 0
        · rw [if_pos c0]; exact ih x (by omega) h
        · rw [if_neg c0]
          rw [hD (10 * n + o) (by omega), hD (10 * r + o) (by omega), nI_add]
          have b1 := hb (10 * n + o) (by omega)
          have b2 := hb (10 * r + o) (by omega)
          by_cases c1 : nI (c + D (10 * n + o)) = nI (D (10 * r + o))
          · rw [if_pos c1]
            have c2 := (nI_eq (by omega) (by omega)).mp c1
            have c3 : ¬ c = 0 := fun q => c0 ((nI_le0 (by omega)).mpr q)
            exact ih _ (by omega) (Or.inr ⟨n, by omega, rfl, by omega⟩)
          · rw [if_neg c1]; exact ih x (by omega) h
/-- a hop is none, or a router that is nearer -/
theorem hop_dec {co fa : Nat → Int32} (hC : Costs co) {D : Nat → Nat} (hD : ∀ e, e < 100 → fa e = nI (D e)) (hb : ∀ e, e < 100 → D e = 1000000 ∨ D e ≤ 20480) {r o : Nat} (hr : r < 10) (ho : o < 10) :
    f_X6_hop r o co fa = -1 ∨ ∃ k, k < 10 ∧ f_X6_hop r o co fa = nI k ∧ D (10 * k + o) < D (10 * r + o) := by
  unfold f_X6_hop
  exact hop_decL hC hD hb hr ho 10 _ (by omega) (Or.inl rfl)
theorem hend_L {co fa ic : Nat → Int32} (hC : Costs co) {D : Nat → Nat} (hD : ∀ e, e < 100 → fa e = nI (D e)) (hb : ∀ e, e < 100 → D e = 1000000 ∨ D e ≤ 20480) {t o : Nat} (ho : o < 10) (hr : f_X6_root t ic = nI o) : ∀ (n : Nat) (x : Int32) (ab go : Nat → Int32),
    (x = -1 ∨ ∃ k, k < 10 ∧ x = nI k ∧ rank D o k + 1 ≤ n) → e_X6_graft_L18 t co fa ic (n + 1) x ab go := by
  intro n
  induction n with
  | zero =>
    intro x ab go h
    rcases h with rfl | ⟨k, h1, h2, h3⟩
    · rw [e_X6_graft_L18, if_pos rfl]; trivial
    · omega
  | succ n ih =>
    intro x ab go h
    rw [e_X6_graft_L18]
    rcases h with rfl | ⟨k, h1, rfl, h3⟩
    · rw [if_pos rfl]; trivial
    · rw [if_neg (nI_neg1 (by omega)), nI_clamp (by omega), hr, nI_clamp (by omega)]
      by_cases c : k = o
      · rw [if_pos c]; trivial
      · rw [if_neg c]
        by_cases c2 : ab (10 * t + k) = -1
        · rw [if_pos c2, pk_us]
          refine ih _ _ _ ?_
          rcases hop_dec hC hD hb h1 ho with q | ⟨j, j1, j2, j3⟩
          · exact Or.inl q
          · exact Or.inr ⟨j, j1, j2, by have := rank_dec j1 j3; omega⟩
        · rw [if_neg c2]; trivial
theorem hend {co fa : Nat → Int32} (hC : Costs co) (hF : FarOK co fa) (ic : Nat → Int32) : HEnd co fa ic := by
  intro t r ab go ht hr hne
  obtain ⟨D, hD, hw, -⟩ := hF
  rcases root_ok t ic with q | ⟨q1, q2⟩
  · exact absurd q hne
  · exact hend_L hC hD hw.2.1 q2 q1 10 _ ab go (Or.inr ⟨r, hr, rfl, rank_lt hr⟩)
