/-! what the law reads of members and of flooding holds -/
theorem and_not {x y : Int32} : x &&& (y ^^^ (-1)) = 0 ↔ ∀ i, i < 32 → bt x i = true → bt y i = true := by
  constructor
  · intro h i hi hx
    have h1 := congrArg (fun z => bt z i) h
    simp only [b_and, b_xor, b_m1 i hi, b_0, hx, Bool.true_and, Bool.xor_true] at h1
    cases hy : bt y i
    · rw [hy] at h1; cases h1
    · rfl
  · intro h
    refine b_ext fun i hi => ?_
    rw [b_and, b_xor, b_m1 i hi, b_0, Bool.xor_true]
    cases hx : bt x i
    · rfl
    · rw [h i hi hx]; rfl
theorem isIn_bt' {x : Int32} {r : Nat} (hr : r < 10) : f_L_isIn x r = bt x r := by
  unfold f_L_isIn j_L_isIn_6
  by_cases c : ((x >>> ((nI r) &&& 31)) &&& (nI 1)) = nI 1
  · rw [if_pos c, (shr_1 x hr).mp c]
  · rw [if_neg c]
    cases h : bt x r
    · rfl
    · exact absurd ((shr_1 x hr).mpr h) c
theorem meets_L {x : Int32} {g : Nat} : ∀ (n k : Nat) (a b : Int32), k + n = 10 → f_X5_bestCandidate_L7 g x n k a b = f_L_meets_L7 x g n k a b := by
  intro n
  induction n with
  | zero => intro k a b _; rw [f_X5_bestCandidate_L7, f_L_meets_L7]
  | succ n ih =>
    intro k a b hk
    rw [f_X5_bestCandidate_L7, f_L_meets_L7]
    unfold j_L_meets_42 j_L_meets_64
    rw [isIn_bt' (show k < 10 by omega), has_bt x (show k < 10 by omega)]
    by_cases c : bt x k = true
    · rw [if_pos c, if_pos c, if_pos c]
      by_cases c2 : nI ((((31 * g) + 17) * ((53 * k) + 29)) % 997) ≤ b
      · rw [if_pos c2, if_pos c2, if_pos c2]; exact ih (k + 1) _ _ (by omega)
      · rw [if_neg c2, if_neg c2, if_neg c2]; exact ih (k + 1) _ _ (by omega)
    · rw [if_neg c, if_neg c, if_neg c]; exact ih (k + 1) _ _ (by omega)
theorem meets_eq {x : Int32} {g : Nat} : f_X5_bestCandidate g x = f_L_meets x g := by
  unfold f_X5_bestCandidate f_L_meets
  exact meets_L 10 0 _ _ rfl
/-- members, as the law knows them; the switched ones are members, and not the source -/
def Mem (fr fw lC : Nat → Int32) : Prop := (∀ g, g < 4 → lC (1 + g) = fw g ∧ fr g = f_L_meets (lC 0) g) ∧ ∀ g s, g < 4 → s < 10 → (∀ i, i < 32 → bt (fw (4 + g * 10 + s)) i = true → bt (fw g) i = true) ∧ bt (fw (4 + g * 10 + s)) s = false
theorem areMembers_L50 {fr fw lC : Nat → Int32} (h : Mem fr fw lC) {g : Nat} (hg : g < 4) : ∀ (n k : Nat), k + n = 10 → f_L_areMembers_L50 fw lC g n k true = true := by
  intro n
  induction n with
  | zero => intro k _; rw [f_L_areMembers_L50]
  | succ n ih =>
    intro k hk
    have hk10 : k < 10 := by omega
    have e : j_L_areMembers_80 fw lC g k = true := by
      unfold j_L_areMembers_80
      obtain ⟨h1, h2⟩ := h.2 g k hg hk10
      rw [(h.1 g hg).1, if_pos (and_not.mpr h1), isIn_bt' hk10, h2, if_neg Bool.false_ne_true]
    rw [f_L_areMembers_L50, if_pos rfl, e]
    exact ih (k + 1) (by omega)
theorem areMembers_L4 {fr fw lC : Nat → Int32} (h : Mem fr fw lC) : ∀ (n k : Nat), k + n = 4 → f_L_areMembers_L4 fr fw lC n k true = true := by
  intro n
  induction n with
  | zero => intro k _; rw [f_L_areMembers_L4]
  | succ n ih =>
    intro k hk
    have hk4 : k < 4 := by omega
    have e : j_L_areMembers_23 fr fw lC k = true := by
      unfold j_L_areMembers_23
      rw [if_pos (h.1 k hk4).1.symm, if_pos (h.1 k hk4).2]
    rw [f_L_areMembers_L4, if_pos rfl, e, areMembers_L50 h hk4 10 0 rfl]
    exact ih (k + 1) (by omega)
theorem areMembers_ok {fr fw lC : Nat → Int32} (h : Mem fr fw lC) : f_L_areMembers fr fw lC = true := by
  unfold f_L_areMembers
  exact areMembers_L4 h 4 0 rfl
/-! flooding -/
def reach (D : Nat → Nat → Nat) (s i : Nat) : Bool := decide (D s i < 1000000)
theorem dist_neg {rc rl rh : Nat → Int32} {C D : Nat → Nat → Nat} (hR : Rt rc rl rh C D) {s k : Nat} (hs : s < 10) (hk : k < 10) : (f_X4_distanceOf s k rl = -1 ↔ ¬ D s k < 1000000) ∧ (f_X4_distanceOf s k rl < 0 ↔ ¬ D s k < 1000000) := by
  rw [Rt_dist hR hs hk]
  by_cases c : D s k < 1000000
  · rw [if_pos c]
    exact ⟨⟨fun q => absurd q (nI_neg1 (by omega)), fun q => absurd c q⟩, ⟨fun q => absurd q (nI_pos (by omega)), fun q => absurd c q⟩⟩
  · rw [if_neg c]
    exact ⟨⟨fun _ => c, fun _ => rfl⟩, ⟨fun _ => c, fun _ => neg_m1⟩⟩
theorem flooded_L {rc rl rh : Nat → Int32} {C D : Nat → Nat → Nat} (hR : Rt rc rl rh C D) {s i : Nat} (hs : s < 10) (hi : i < 32) : ∀ (n k : Nat) (x : Int32), k + n = 10 → bt (f_X5_floodedFrom_L4 s rl n k x) i = (bt x i || (decide (k ≤ i) && (decide (i < 10) && reach D s i))) := by
  intro n
  induction n with
  | zero =>
    intro k x hk
    rw [f_X5_floodedFrom_L4]
    by_cases c : i < 10
    · rw [decide_eq_false (show ¬ k ≤ i by omega), Bool.false_and, Bool.or_false]
    · rw [decide_eq_false c, Bool.false_and, Bool.and_false, Bool.or_false]
  | succ n ih =>
    intro k x hk
    rw [f_X5_floodedFrom_L4]
    have hd := (dist_neg hR hs (show k < 10 by omega)).1
    by_cases c : f_X4_distanceOf s k rl = -1
    · rw [if_pos c, ih (k + 1) _ (by omega)]
      by_cases e : i = k
      · subst e
        have : reach D s i = false := decide_eq_false (hd.mp c)
        rw [this]; simp
      · by_cases e2 : k ≤ i
        · rw [decide_eq_true e2, decide_eq_true (show k + 1 ≤ i by omega)]
        · rw [decide_eq_false e2, decide_eq_false (show ¬ k + 1 ≤ i by omega)]
    · rw [if_neg c, ih (k + 1) _ (by omega), b_or, bt_one (by omega) hi]
      by_cases e : i = k
      · subst e
        have : reach D s i = true := decide_eq_true (Classical.not_not.mp (fun q => c (hd.mpr q)))
        rw [this, decide_eq_true rfl, decide_eq_true (show i < 10 by omega), decide_eq_true (Nat.le_refl i)]
        simp
      · rw [decide_eq_false e, Bool.or_false]
        by_cases e2 : k ≤ i
        · rw [decide_eq_true e2, decide_eq_true (show k + 1 ≤ i by omega)]
        · rw [decide_eq_false e2, decide_eq_false (show ¬ k + 1 ≤ i by omega)]
theorem flooded_bt {rc rl rh : Nat → Int32} {C D : Nat → Nat → Nat} (hR : Rt rc rl rh C D) {s i : Nat} (hs : s < 10) (hi : i < 32) : bt (f_X5_floodedFrom s rl) i = (decide (i < 10) && reach D s i) := by
  unfold f_X5_floodedFrom
  rw [flooded_L hR hs hi 10 0 _ rfl, show nI 0 = (0 : Int32) from rfl, b_0, decide_eq_true (Nat.zero_le i)]
  simp
theorem links_L {rc rl rh lE : Nat → Int32} {C D : Nat → Nat → Nat} (hR : Rt rc rl rh C D) (hE : EOk lE C) {r : Nat} (hr : r < 10) : ∀ (n k : Nat) (x : Int32), k + n = 10 → f_X4_linksOf_L4 r rc n k x = f_L_floods_L22 lE r n k x := by
  intro n
  induction n with
  | zero => intro k x _; rw [f_X4_linksOf_L4, f_L_floods_L22]
  | succ n ih =>
    intro k x hk
    have hc := (hR.2.1.1 r k hr (show k < 10 by omega)).1
    rw [f_X4_linksOf_L4, f_L_floods_L22]
    unfold j_L_floods_39
    rw [hR.1 r k hr (by omega), cost_ok hE hR.2.1 hr (show k < 10 by omega)]
    by_cases c : C r k = 0
    · rw [if_pos ((nI_z (by omega)).mpr c), if_pos ((nI_le0 (by omega)).mpr c), show bI false = nI 0 from rfl, nI_0, Int32.add_zero]
      exact ih (k + 1) _ (by omega)
    · rw [if_neg (fun q => c ((nI_z (by omega)).mp q)), if_neg (fun q => c ((nI_le0 (by omega)).mp q)), show bI true = nI 1 from rfl]
      exact ih (k + 1) _ (by omega)
theorem floods_L {rc rl rh fw lE : Nat → Int32} {C D : Nat → Nat → Nat} (hR : Rt rc rl rh C D) (hE : EOk lE C) {s g : Nat} (hs : s < 10) {a b : Int32} : ∀ (n k : Nat) (x y : Int32), k + n = 10 →
    a = f_X5_floodedFrom_L4 s rl n k x → b = f_X5_floodCopies_L15 s rc rl n k y → a = f_X5_floodedFrom s rl → b = f_X5_floodCopies s rc rl → f_L_floods_L9 s g rc rl fw lE n k x y = true := by
  intro n
  induction n with
  | zero =>
    intro k x y _ ha hb ha2 hb2
    rw [f_X5_floodedFrom_L4] at ha
    rw [f_X5_floodCopies_L15] at hb
    rw [f_L_floods_L9]
    unfold j_L_floods_140
    rw [← ha2, ← hb2, ← ha, ← hb, if_pos (by rw [Int32.and_comm]), if_pos rfl]
  | succ n ih =>
    intro k x y hk ha hb ha2 hb2
    have hk10 : k < 10 := by omega
    obtain ⟨d1, d2⟩ := dist_neg hR hs hk10
    rw [f_L_floods_L9]
    have h63 : j_L_floods_63 s rl k = reach D s k := by
      unfold j_L_floods_63
      by_cases c : D s k < 1000000
      · rw [if_neg (fun q => (d2.mp q) c)]; exact (decide_eq_true c).symm
      · rw [if_pos (d2.mpr c)]; exact (decide_eq_false c).symm
    have hhas : f_X5_has (f_X5_floodedFrom s rl) k = reach D s k := by
      rw [has_bt _ hk10, flooded_bt hR hs (by omega), decide_eq_true hk10, Bool.true_and]
    refine ih (k + 1) _ _ (by omega) ?_ ?_ ha2 hb2
    · rw [ha, f_X5_floodedFrom_L4]
      unfold j_L_floods_77
      rw [h63]
      by_cases c : D s k < 1000000
      · rw [if_neg (fun q => (d1.mp q) c), if_pos (show reach D s k = true from decide_eq_true c)]
      · rw [if_pos (d1.mpr c), if_neg (show ¬ reach D s k = true from fun q => c (of_decide_eq_true q)), or_0]
    · rw [hb, f_X5_floodCopies_L15]
      unfold j_L_floods_95
      rw [h63, hhas]
      have hl : f_X4_linksOf k rc = f_L_floods_L22 lE k 10 0 (nI 0) := by
        unfold f_X4_linksOf
        exact links_L hR hE hk10 10 0 _ rfl
      by_cases c : reach D s k = true
      · rw [if_pos c, if_pos c, hl]
        by_cases e : k = s
        · rw [if_pos e, if_pos e, nI_0, Int32.sub_zero]
        · rw [if_neg e, if_neg e]
      · rw [if_neg c, if_neg c, nI_0, Int32.add_zero]
theorem floods_ok {rc rl rh fw lE : Nat → Int32} {C D : Nat → Nat → Nat} (hR : Rt rc rl rh C D) (hE : EOk lE C) {s g : Nat} (hs : s < 10) : f_L_floods s g rc rl fw lE = true := by
  unfold f_L_floods
  exact floods_L (a := f_X5_floodedFrom s rl) (b := f_X5_floodCopies s rc rl) hR hE hs 10 0 _ _ rfl rfl rfl rfl rfl
