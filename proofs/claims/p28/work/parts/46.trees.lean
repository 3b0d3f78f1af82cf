/-! what the law reads of the trees holds -/
theorem below_sh {k g : Nat} {fc : Nat → Int32} : f_L_below k 10 g fc = f_X2_branchesFrom g k fc := by
  unfold f_L_below j_L_below_3
  rw [if_pos rfl]
theorem below_sr {k g s : Nat} {fc : Nat → Int32} (h : s < 10) : f_L_below k s g fc = f_X2_branchesFrom ((4 + (g * 10)) + s) k fc := by
  unfold f_L_below j_L_below_3
  rw [if_neg (by omega)]
theorem set_bt {T k i : Nat} {fc : Nat → Int32} (hi : i < 32) : bt (f_X2_branchesFrom T k fc) i = true ↔ i < 10 ∧ fc (T * 10 + i) = nI k := by
  rw [branches_bt hi, Bool.and_eq_true, decide_eq_true_iff, decide_eq_true_iff]
/-- the routers with a branch from one below k -/
def OnB (fc : Nat → Int32) (T k : Nat) (x : Int32) : Prop := ∀ i, i < 32 → (bt x i = true ↔ i < 10 ∧ ∃ r, r < k ∧ fc (T * 10 + i) = nI r)
theorem OnB_0 {fc : Nat → Int32} {T : Nat} : OnB fc T 0 (nI 0) := fun i _ => by
  rw [show nI 0 = (0 : Int32) from rfl, b_0]
  exact ⟨fun h => (by cases h), fun ⟨_, r, h, _⟩ => absurd h (Nat.not_lt_zero r)⟩
theorem OnB_next {fc : Nat → Int32} {T k : Nat} {x : Int32} (h : OnB fc T k x) : OnB fc T (k + 1) (x ||| f_X2_branchesFrom T k fc) := fun i hi => by
  rw [b_or, Bool.or_eq_true, h i hi, set_bt hi]
  constructor
  · rintro (⟨h1, r, h2, h3⟩ | ⟨h1, h2⟩)
    · exact ⟨h1, r, by omega, h3⟩
    · exact ⟨h1, k, by omega, h2⟩
  · rintro ⟨h1, r, h2, h3⟩
    by_cases e : r = k
    · subst e; exact Or.inr ⟨h1, h3⟩
    · exact Or.inl ⟨h1, r, by omega, h3⟩
theorem OnB_off {fc : Nat → Int32} {T k : Nat} {x : Int32} (h : OnB fc T k x) (hk : k < 10) : f_X2_branchesFrom T k fc &&& x = 0 := by
  refine b_ext fun i hi => ?_
  rw [b_and, b_0]
  cases h1 : bt (f_X2_branchesFrom T k fc) i
  · rfl
  · cases h2 : bt x i
    · rfl
    · obtain ⟨_, a⟩ := (set_bt hi).mp h1
      obtain ⟨_, r, b, c⟩ := (h i hi).mp h2
      have := (nI_eq (by omega) (by omega)).mp (a.symm.trans c)
      omega
/-- who is on the tree -/
theorem On_iff {rh : Nat → Int32} {D : Nat → Nat → Nat} {ro : Int32} {w : Nat → Bool} {bd : Nat → Nat → Prop} {T : Nat} {fc fg : Nat → Int32} (h : TI rh D ro w bd T fc fg) {x : Int32} (hx : OnB fc T 10 x) {i : Nat} (hi : i < 10) : f_L_isIn x i = true ↔ ¬ fc (T * 10 + i) = -1 := by
  rw [isIn_bt' hi, hx i (by omega)]
  constructor
  · rintro ⟨_, r, h1, h2⟩ z
    rw [z] at h2; exact nI_m1 (by omega) h2
  · intro z
    obtain ⟨p, o, h1, _, _, h4, _⟩ := (h.1 i hi).resolve_left (fun q => z q.1)
    exact ⟨hi, p, h1, h4⟩
theorem set_0 {T k : Nat} {fc : Nat → Int32} : f_X2_branchesFrom T k fc = 0 ↔ ¬ ∃ i, i < 10 ∧ fc (T * 10 + i) = nI k := by
  rw [br_zero]
  exact ⟨fun h ⟨i, hi, q⟩ => h i hi q, fun h i hi q => h ⟨i, hi, q⟩⟩
/-- facts of a tree with the root o, router by router -/
theorem tree_facts {rc rl rh : Nat → Int32} {C D : Nat → Nat → Nat} (hR : Rt rc rl rh C D) {w : Nat → Bool} {t T o : Nat} (ho : o < 10) {fc fg : Nat → Int32} (h : TI rh D (nI o) w (bnd t T) T fc fg) {r : Nat} (hr : r < 10) :
    (r = o → fc (T * 10 + r) = -1) ∧ (fc (T * 10 + r) = -1 → fg (T * 10 + r) = -1) ∧ ¬ fc (T * 10 + r) = nI r ∧ (∀ k, k < 10 → fc (T * 10 + r) = nI k → rh (r * 10 + o) = nI k) ∧ ((∃ i, i < 10 ∧ fc (T * 10 + i) = nI r) → ¬ r = o → ¬ fc (T * 10 + r) = -1) ∧
    (w r = true → ¬ r = o → D r o < 1000000 → ¬ fc (T * 10 + r) = -1) ∧ (need fc T w r → fg (T * 10 + r) = -1) ∧ (¬ need fc T w r → ¬ fc (T * 10 + r) = -1 → lv (fg (T * 10 + r)) = 1) := by
  refine ⟨fun e => ?_, fun z => ?_, fun z => ?_, fun k hk z => ?_, fun ⟨i, hi, z⟩ hne => ?_, fun hw hne hd => h.2 r o hr ho rfl hw hne hd, fun hn => ?_, fun hn z => ?_⟩
  · subst e
    rcases h.1 r hr with z | ⟨p, o', a1, a2, a3, a4, a5, _⟩
    · exact z.1
    · have e : r = o' := (nI_eq (by omega) (by omega)).mp a3
      subst e
      rcases Rt_hop hR hr hr with ⟨q, -⟩ | ⟨_, _, _, q, _⟩
      · rw [q] at a5; exact absurd a5 (nI_m1 (by omega))
      · exact absurd rfl q
  · rcases h.1 r hr with q | ⟨p, o', a1, a2, a3, a4, _⟩
    · exact q.2
    · rw [z] at a4; exact absurd a4 (nI_m1 (by omega))
  · rcases h.1 r hr with q | ⟨p, o', a1, a2, a3, a4, a5, _⟩
    · rw [q.1] at z; exact nI_m1 (by omega) z
    · have e : o = o' := (nI_eq (by omega) (by omega)).mp a3
      subst e
      have e2 : p = r := (nI_eq (by omega) (by omega)).mp (a4.symm.trans z)
      subst e2
      rcases Rt_hop hR hr ho with ⟨q, -⟩ | ⟨j, _, q, _, _, q2, q3⟩
      · rw [q] at a5; exact nI_m1 (by omega) a5
      · have : j = p := (nI_eq (by omega) (by omega)).mp (q.symm.trans a5)
        subst this; omega
  · rcases h.1 r hr with q | ⟨p, o', a1, a2, a3, a4, a5, _⟩
    · rw [q.1] at z; exact absurd z (nI_m1 (by omega))
    · have e : o = o' := (nI_eq (by omega) (by omega)).mp a3
      subst e
      rw [a5, ← a4, z]
  · rcases h.1 i hi with q | ⟨p, o', a1, a2, a3, a4, a5, a6, _⟩
    · rw [q.1] at z; exact absurd z (nI_m1 (by omega))
    · have e : o = o' := (nI_eq (by omega) (by omega)).mp a3
      subst e
      have e2 : p = r := (nI_eq (by omega) (by omega)).mp (a4.symm.trans z)
      subst e2
      exact a6.resolve_left hne
  · rcases h.1 r hr with q | ⟨p, o', a1, a2, a3, a4, a5, a6, a7⟩
    · exact q.2
    · rcases a7 with q | q
      · exact q.2
      · exact absurd hn q.1
  · rcases h.1 r hr with q | ⟨p, o', a1, a2, a3, a4, a5, a6, a7⟩
    · exact absurd q.1 z
    · rcases a7 with q | ⟨_, x, b1, b2, _⟩
      · exact absurd q.1 hn
      · rw [b1]; exact lv_nI (by omega)
theorem need_set {T r : Nat} {fw fc : Nat → Int32} (hr : r < 10) : need fc T (wof fw T) r ↔ (f_L_isIn (fw T) r = true ∨ ¬ f_X2_branchesFrom T r fc = 0) := by
  rw [isIn_bt' hr, set_0, Classical.not_not]
  exact Iff.rfl
theorem lv103_r {rc rl rh : Nat → Int32} {C D : Nat → Nat → Nat} (hR : Rt rc rl rh C D) {fw : Nat → Int32} {t g o : Nat} (ho : o < 10) {fc fg : Nat → Int32} (h : TI rh D (nI o) (wof fw g) (bnd t g) g fc fg) {k : Nat} (hk : k < 10) : ∀ (n i : Nat), i + n = 10 → f_L_leavingIn_r_L103 g o rh fc k n i = false := by
  intro n
  induction n with
  | zero => intro i _; rw [f_L_leavingIn_r_L103]
  | succ n ih =>
    intro i hi
    have hi10 : i < 10 := by omega
    rw [f_L_leavingIn_r_L103, below_sh]
    by_cases c : f_L_isIn (f_X2_branchesFrom g k fc) i = true
    · rw [if_pos c]
      rw [isIn_bt' hi10, set_bt (by omega)] at c
      rw [if_pos ((tree_facts hR ho h hi10).2.2.2.1 k hk c.2)]
      exact ih (i + 1) (by omega)
    · rw [if_neg c]; exact ih (i + 1) (by omega)
theorem lv149_r {rc rl rh : Nat → Int32} {C D : Nat → Nat → Nat} (hR : Rt rc rl rh C D) {fw : Nat → Int32} {t g o : Nat} (ho : o < 10) {fc fg : Nat → Int32} (h : TI rh D (nI o) (wof fw g) (bnd t g) g fc fg) {on : Int32} (hon : OnB fc g 10 on) : ∀ (n k : Nat), k + n = 10 → f_L_leavingIn_r_L149 g o rl fw fc on n k (nI (sm (fun i => lv (fg (g * 10 + i))) k)) = nI (sm (fun i => lv (fg (g * 10 + i))) 10) := by
  intro n
  induction n with
  | zero => intro k hk; obtain rfl : k = 10 := by omega
            rw [f_L_leavingIn_r_L149]
  | succ n ih =>
    intro k hk
    have hk10 : k < 10 := by omega
    have hi := On_iff h hon hk10
    obtain ⟨f1, f2, f3, f4, f5, f6, f7, f8⟩ := tree_facts hR ho h hk10
    have hn := need_set (fw := fw) (fc := fc) (T := g) hk10
    have hs : sm (fun i => lv (fg (g * 10 + i))) (k + 1) = sm (fun i => lv (fg (g * 10 + i))) k + lv (fg (g * 10 + k)) := by rw [sm]
    have ih1 := ih (k + 1) (by omega)
    have k0 : lv (fg (g * 10 + k)) = 0 → f_L_leavingIn_r_L149 g o rl fw fc on n (k + 1) (nI (sm (fun i => lv (fg (g * 10 + i))) k) + nI 0) = nI (sm (fun i => lv (fg (g * 10 + i))) 10) := fun z => by
      rw [hs, z] at ih1
      rw [nI_add]; exact ih1
    have k1 : lv (fg (g * 10 + k)) = 1 → f_L_leavingIn_r_L149 g o rl fw fc on n (k + 1) (nI (sm (fun i => lv (fg (g * 10 + i))) k) + nI 1) = nI (sm (fun i => lv (fg (g * 10 + i))) 10) := fun z => by
      rw [hs, z] at ih1
      rw [nI_add]; exact ih1
    have hm : fg (g * 10 + k) = -1 → lv (fg (g * 10 + k)) = 0 := fun z => by rw [z, lv_m1]
    rw [f_L_leavingIn_r_L149, below_sh]
    by_cases c1 : k = o
    · rw [if_pos c1, if_neg (fun z => (hi.mp z) (f1 c1))]
      exact k0 (hm (f2 (f1 c1)))
    · rw [if_neg c1]
      by_cases c2 : f_L_isIn (fw g) k = true
      · rw [if_pos c2]
        have hz := hm (f7 (hn.mpr (Or.inl c2)))
        by_cases c3 : f_X4_distanceOf k o rl < 0
        · rw [if_pos c3]
          by_cases c4 : f_X2_branchesFrom g k fc = 0
          · rw [if_pos c4]
            have e : bI (j_L_leavingIn_r_249 on k) = nI 0 := by
              unfold j_L_leavingIn_r_249
              rw [ite_self]; rfl
            rw [e]; exact k0 hz
          · rw [if_neg c4, if_pos (hi.mpr (f5 (Classical.not_not.mp (fun q => c4 (set_0.mpr q))) c1))]; exact k0 hz
        · rw [if_neg c3]
          have hd : D k o < 1000000 := Classical.not_not.mp (fun q => c3 ((dist_neg hR hk10 ho).2.mpr q))
          have hw : wof fw g k = true := by rw [isIn_bt' hk10] at c2; exact c2
          rw [if_pos (hi.mpr (f6 hw c1 hd))]
          split
          · exact k0 hz
          · exact k0 hz
      · rw [if_neg c2]
        by_cases c4 : f_X2_branchesFrom g k fc = 0
        · rw [if_pos c4]
          have hnn : ¬ need fc g (wof fw g) k := fun z => (hn.mp z).elim c2 (fun q => q c4)
          unfold j_L_leavingIn_r_249b
          by_cases c5 : f_L_isIn on k = true
          · rw [if_pos c5]; exact k1 (f8 hnn (hi.mp c5))
          · rw [if_neg c5]; exact k0 (hm (f2 (Classical.not_not.mp (fun q => c5 (hi.mpr q)))))
        · rw [if_neg c4, if_pos (hi.mpr (f5 (Classical.not_not.mp (fun q => c4 (set_0.mpr q))) c1))]
          exact k0 (hm (f7 (hn.mpr (Or.inr c4))))
theorem lv47_r {rc rl rh : Nat → Int32} {C D : Nat → Nat → Nat} (hR : Rt rc rl rh C D) {fw : Nat → Int32} {t g o : Nat} (ho : o < 10) {fc fg : Nat → Int32} (h : TI rh D (nI o) (wof fw g) (bnd t g) g fc fg) : ∀ (n k : Nat) (x : Int32), k + n = 10 → OnB fc g k x → f_L_leavingIn_r_L47 g o rl rh fw fc n k x = nI (sm (fun i => lv (fg (g * 10 + i))) 10) := by
  intro n
  induction n with
  | zero =>
    intro k x hk hx
    obtain rfl : k = 10 := by omega
    rw [f_L_leavingIn_r_L47]
    exact lv149_r hR ho h hx 10 0 rfl
  | succ n ih =>
    intro k x hk hx
    have hk10 : k < 10 := by omega
    obtain ⟨f1, f2, f3, f4, f5, f6, f7, f8⟩ := tree_facts hR ho h hk10
    rw [f_L_leavingIn_r_L47, below_sh, if_pos (OnB_off hx hk10), if_neg (show ¬ f_L_isIn (f_X2_branchesFrom g k fc) k = true from fun z => by
      rw [isIn_bt' hk10, set_bt (by omega)] at z; exact f3 z.2), if_pos (nI_pos' (by omega)), lv103_r hR ho h hk10 10 0 rfl, if_neg Bool.false_ne_true]
    exact ih (k + 1) _ (by omega) (OnB_next hx)
theorem lv103_s {rc rl rh : Nat → Int32} {C D : Nat → Nat → Nat} (hR : Rt rc rl rh C D) {fw : Nat → Int32} {t g src : Nat} (ho : src < 10) {fc fg : Nat → Int32} (h : TI rh D (nI src) (wof fw (4 + (g * 10) + src)) (bnd t (4 + (g * 10) + src)) (4 + (g * 10) + src) fc fg) {k : Nat} (hk : k < 10) : ∀ (n i : Nat), i + n = 10 → f_L_leavingIn_s_L103 src g rh fc k n i = false := by
  intro n
  induction n with
  | zero => intro i _; rw [f_L_leavingIn_s_L103]
  | succ n ih =>
    intro i hi
    have hi10 : i < 10 := by omega
    rw [f_L_leavingIn_s_L103, below_sr ho]
    by_cases c : f_L_isIn (f_X2_branchesFrom (4 + (g * 10) + src) k fc) i = true
    · rw [if_pos c]
      rw [isIn_bt' hi10, set_bt (by omega)] at c
      rw [if_pos ((tree_facts hR ho h hi10).2.2.2.1 k hk c.2)]
      exact ih (i + 1) (by omega)
    · rw [if_neg c]; exact ih (i + 1) (by omega)
theorem lv149_s {rc rl rh : Nat → Int32} {C D : Nat → Nat → Nat} (hR : Rt rc rl rh C D) {fw : Nat → Int32} {t g src : Nat} (ho : src < 10) {fc fg : Nat → Int32} (h : TI rh D (nI src) (wof fw (4 + (g * 10) + src)) (bnd t (4 + (g * 10) + src)) (4 + (g * 10) + src) fc fg) {on : Int32} (hon : OnB fc (4 + (g * 10) + src) 10 on) : ∀ (n k : Nat), k + n = 10 → f_L_leavingIn_s_L149 src g rl fw fc on n k (nI (sm (fun i => lv (fg ((4 + (g * 10) + src) * 10 + i))) k)) = nI (sm (fun i => lv (fg ((4 + (g * 10) + src) * 10 + i))) 10) := by
  intro n
  induction n with
  | zero => intro k hk; obtain rfl : k = 10 := by omega
            rw [f_L_leavingIn_s_L149]
  | succ n ih =>
    intro k hk
    have hk10 : k < 10 := by omega
    have hi := On_iff h hon hk10
    obtain ⟨f1, f2, f3, f4, f5, f6, f7, f8⟩ := tree_facts hR ho h hk10
    have hn := need_set (fw := fw) (fc := fc) (T := (4 + (g * 10) + src)) hk10
    have hs : sm (fun i => lv (fg ((4 + (g * 10) + src) * 10 + i))) (k + 1) = sm (fun i => lv (fg ((4 + (g * 10) + src) * 10 + i))) k + lv (fg ((4 + (g * 10) + src) * 10 + k)) := by rw [sm]
    have ih1 := ih (k + 1) (by omega)
    have k0 : lv (fg ((4 + (g * 10) + src) * 10 + k)) = 0 → f_L_leavingIn_s_L149 src g rl fw fc on n (k + 1) (nI (sm (fun i => lv (fg ((4 + (g * 10) + src) * 10 + i))) k) + nI 0) = nI (sm (fun i => lv (fg ((4 + (g * 10) + src) * 10 + i))) 10) := fun z => by
      rw [hs, z] at ih1
      rw [nI_add]; exact ih1
    have k1 : lv (fg ((4 + (g * 10) + src) * 10 + k)) = 1 → f_L_leavingIn_s_L149 src g rl fw fc on n (k + 1) (nI (sm (fun i => lv (fg ((4 + (g * 10) + src) * 10 + i))) k) + nI 1) = nI (sm (fun i => lv (fg ((4 + (g * 10) + src) * 10 + i))) 10) := fun z => by
      rw [hs, z] at ih1
      rw [nI_add]; exact ih1
    have hm : fg ((4 + (g * 10) + src) * 10 + k) = -1 → lv (fg ((4 + (g * 10) + src) * 10 + k)) = 0 := fun z => by rw [z, lv_m1]
    rw [f_L_leavingIn_s_L149, below_sr ho]
    by_cases c1 : k = src
    · rw [if_pos c1, if_neg (fun z => (hi.mp z) (f1 c1))]
      exact k0 (hm (f2 (f1 c1)))
    · rw [if_neg c1]
      by_cases c2 : f_L_isIn (fw (4 + (g * 10) + src)) k = true
      · rw [if_pos c2]
        have hz := hm (f7 (hn.mpr (Or.inl c2)))
        by_cases c3 : f_X4_distanceOf k src rl < 0
        · rw [if_pos c3]
          by_cases c4 : f_X2_branchesFrom (4 + (g * 10) + src) k fc = 0
          · rw [if_pos c4]
            have e : bI (j_L_leavingIn_s_249 on k) = nI 0 := by
              unfold j_L_leavingIn_s_249
              rw [ite_self]; rfl
            rw [e]; exact k0 hz
          · rw [if_neg c4, if_pos (hi.mpr (f5 (Classical.not_not.mp (fun q => c4 (set_0.mpr q))) c1))]; exact k0 hz
        · rw [if_neg c3]
          have hd : D k src < 1000000 := Classical.not_not.mp (fun q => c3 ((dist_neg hR hk10 ho).2.mpr q))
          have hw : wof fw (4 + (g * 10) + src) k = true := by rw [isIn_bt' hk10] at c2; exact c2
          rw [if_pos (hi.mpr (f6 hw c1 hd))]
          split
          · exact k0 hz
          · exact k0 hz
      · rw [if_neg c2]
        by_cases c4 : f_X2_branchesFrom (4 + (g * 10) + src) k fc = 0
        · rw [if_pos c4]
          have hnn : ¬ need fc (4 + (g * 10) + src) (wof fw (4 + (g * 10) + src)) k := fun z => (hn.mp z).elim c2 (fun q => q c4)
          unfold j_L_leavingIn_s_249b
          by_cases c5 : f_L_isIn on k = true
          · rw [if_pos c5]; exact k1 (f8 hnn (hi.mp c5))
          · rw [if_neg c5]; exact k0 (hm (f2 (Classical.not_not.mp (fun q => c5 (hi.mpr q)))))
        · rw [if_neg c4, if_pos (hi.mpr (f5 (Classical.not_not.mp (fun q => c4 (set_0.mpr q))) c1))]
          exact k0 (hm (f7 (hn.mpr (Or.inr c4))))
theorem lv47_s {rc rl rh : Nat → Int32} {C D : Nat → Nat → Nat} (hR : Rt rc rl rh C D) {fw : Nat → Int32} {t g src : Nat} (ho : src < 10) {fc fg : Nat → Int32} (h : TI rh D (nI src) (wof fw (4 + (g * 10) + src)) (bnd t (4 + (g * 10) + src)) (4 + (g * 10) + src) fc fg) : ∀ (n k : Nat) (x : Int32), k + n = 10 → OnB fc (4 + (g * 10) + src) k x → f_L_leavingIn_s_L47 src g rl rh fw fc n k x = nI (sm (fun i => lv (fg ((4 + (g * 10) + src) * 10 + i))) 10) := by
  intro n
  induction n with
  | zero =>
    intro k x hk hx
    obtain rfl : k = 10 := by omega
    rw [f_L_leavingIn_s_L47]
    exact lv149_s hR ho h hx 10 0 rfl
  | succ n ih =>
    intro k x hk hx
    have hk10 : k < 10 := by omega
    obtain ⟨f1, f2, f3, f4, f5, f6, f7, f8⟩ := tree_facts hR ho h hk10
    rw [f_L_leavingIn_s_L47, below_sr ho, if_pos (OnB_off hx hk10), if_neg (show ¬ f_L_isIn (f_X2_branchesFrom (4 + (g * 10) + src) k fc) k = true from fun z => by
      rw [isIn_bt' hk10, set_bt (by omega)] at z; exact f3 z.2), if_pos (nI_pos' (by omega)), lv103_s hR ho h hk10 10 0 rfl, if_neg Bool.false_ne_true]
    exact ih (k + 1) _ (by omega) (OnB_next hx)
theorem lvn {g : Nat} {fc : Nat → Int32} (hb : ∀ i, i < 10 → fc (g * 10 + i) = -1) : ∀ (n k : Nat) (x : Int32), k + n = 10 → f_L_leavingIn_n_L47 g fc n k x = nI 0 := by
  have h103 : ∀ (n k : Nat), f_L_leavingIn_n_L103 n k = false := by
    intro n
    induction n with
    | zero => intro k; rw [f_L_leavingIn_n_L103]
    | succ n ih => intro k; rw [f_L_leavingIn_n_L103]; exact ih (k + 1)
  intro n
  induction n with
  | zero => intro k x _; rw [f_L_leavingIn_n_L47, f_L_leavingIn_n_L149]
  | succ n ih =>
    intro k x hk
    have hz : f_X2_branchesFrom g k fc = 0 := set_0.mpr (fun ⟨i, hi, q⟩ => by rw [hb i hi] at q; exact nI_m1 (by omega) q)
    rw [f_L_leavingIn_n_L47, below_sh, hz, if_pos (b_ext fun i hi => by rw [b_and, b_0, Bool.false_and]), if_neg (isIn_z (by omega) rfl), if_pos rfl, h103, if_neg Bool.false_ne_true]
    exact ih (k + 1) _ (by omega)
/-- the tree that the law calls the source src (10: the shared one) of the group g -/
def trT (src g : Nat) : Nat := if src = 10 then g else 4 + (g * 10) + src
def RoS (fr : Nat → Int32) : Prop := ∀ g s, g < 4 → s < 10 → fr (4 + (g * 10) + s) = nI s
theorem leavingIn_ok {rc rl rh fr fw : Nat → Int32} {C D : Nat → Nat → Nat} (hR : Rt rc rl rh C D) (hro : RoOk fr) (hrs : RoS fr) {t : Nat} {fc fg : Nat → Int32} (h : FI rh D fr fw (bnd t) fc fg) {src g : Nat} (hs : src < 11) (hg : g < 4) :
    f_L_leavingIn src g rl rh fr fw fc = nI (sm (fun i => lv (fg (trT src g * 10 + i))) 10) := by
  unfold f_L_leavingIn trT
  by_cases c : src = 10
  · rw [if_pos c, if_pos c]
    have hT := h g (by omega)
    rcases hro g (by omega) with q | ⟨o, ho, q⟩
    · rw [if_pos q]
      have hb : ∀ i, i < 10 → fc (g * 10 + i) = -1 ∧ fg (g * 10 + i) = -1 := fun i hi => by
        rcases hT.1 i hi with z | ⟨p, o, _, ho, z, _⟩
        · exact z
        · rw [q] at z; exact absurd z (nI_m1 (by omega))
      have e : f_L_leavingIn_n g fc = nI 0 := by
        unfold f_L_leavingIn_n
        exact lvn (fun i hi => (hb i hi).1) 10 0 _ rfl
      rw [e, sm_zero 10 (fun i hi => by show lv (fg (g * 10 + i)) = 0; rw [(hb i hi).2, lv_m1])]
    · rw [if_neg (by rw [q]; exact nI_neg1 (by omega)), q, nI_clamp (by omega)]
      rw [q] at hT
      unfold f_L_leavingIn_r
      exact lv47_r hR ho hT 10 0 _ rfl OnB_0
  · rw [if_neg c, if_neg c]
    have hs10 : src < 10 := by omega
    have hT := h (4 + (g * 10) + src) (by omega)
    rw [hrs g src hg hs10] at hT
    unfold f_L_leavingIn_s
    exact lv47_s hR hs10 hT 10 0 _ rfl OnB_0
theorem sm_block (f : Nat → Nat) : ∀ n, sm f (n * 10) = sm (fun T => sm (fun i => f (T * 10 + i)) 10) n := by
  intro n
  induction n with
  | zero => rw [Nat.zero_mul, sm, sm]
  | succ n ih =>
    have e : sm (fun T => sm (fun i => f (T * 10 + i)) 10) (n + 1) = sm (fun T => sm (fun i => f (T * 10 + i)) 10) n + sm (fun i => f (n * 10 + i)) 10 := by rw [sm]
    rw [e, ← ih, show (n + 1) * 10 = n * 10 + 10 by omega]
    have key : ∀ m, sm f (n * 10 + m) = sm f (n * 10) + sm (fun i => f (n * 10 + i)) m := by
      intro m
      induction m with
      | zero => rw [Nat.add_zero, sm, Nat.add_zero]
      | succ m ih2 => rw [← Nat.add_assoc, sm, ih2, sm]; omega
    exact key 10
theorem sm_perm (f : Nat → Nat) : sm (fun k => f (trT (k % 11) (k / 11))) 44 = sm f 44 := by
  simp only [sm, trT, Nat.reduceAdd, Nat.reduceMul, Nat.reduceDiv, Nat.reduceMod, Nat.reduceEqDiff, if_true, if_false, Nat.zero_add, Nat.zero_mul, Nat.add_zero]
  omega
theorem areTrees_ok {rc rl rh fr fw : Nat → Int32} {C D : Nat → Nat → Nat} (hR : Rt rc rl rh C D) (hro : RoOk fr) (hrs : RoS fr) {t : Nat} {fc fg : Nat → Int32} (h : FI rh D fr fw (bnd t) fc fg) : f_L_areTrees rl rh fr fw fc fg = true := by
  have hc : ∀ T, sm (fun i => lv (fg (T * 10 + i))) 10 ≤ 10 := fun T => sm_le (f := fun i => lv (fg (T * 10 + i))) (fun i => by unfold lv; split <;> omega) 10
  have key : ∀ (n k : Nat), k + n = 44 → f_L_areTrees_L4 rl rh fr fw fc fg n k (nI (sm (fun k => sm (fun i => lv (fg (trT (k % 11) (k / 11) * 10 + i))) 10) k)) = true := by
    intro n
    induction n with
    | zero =>
      intro k hk
      obtain rfl : k = 44 := by omega
      rw [f_L_areTrees_L4]
      unfold j_L_areTrees_44
      rw [leaving_sm, show (440 : Nat) = 44 * 10 from rfl, sm_block (fun e => lv (fg e)) 44, sm_perm (fun T => sm (fun i => lv (fg (T * 10 + i))) 10), if_pos rfl]
    | succ n ih =>
      intro k hk
      rw [f_L_areTrees_L4, leavingIn_ok hR hro hrs h (show k % 11 < 11 by omega) (show k / 11 < 4 by omega)]
      have hb := hc (trT (k % 11) (k / 11))
      rw [if_pos (nI_pos' (by omega)), nI_add]
      have := ih (k + 1) (by omega)
      rw [sm] at this
      exact this
  unfold f_L_areTrees
  exact key 44 0 rfl
