/-! flooding, leaving branches, alike -/
theorem FarOK.far {co fa : Nat → Int32} (h : FarOK co fa) {e : Nat} (he : e < 100) : (nI 1000000 ≤ fa e ↔ fa e = nI 1000000) ∧ ¬ fa e = -1 := by
  obtain ⟨D, hD, hw, _⟩ := h
  have hb := hw.2.1 e he
  rw [hD e he, nI_leI (by omega) (by omega), nI_eq (by omega) (by omega)]
  exact ⟨by omega, nI_neg1 (by omega)⟩
theorem flooded_eq {rl fa co : Nat → Int32} (h : EQ 100 rl fa) (hF : FarOK co fa) {s g : Nat} (hs : s < 10) {fw me : Nat → Int32} (hw : fw g = me g) : (fw g) &&& (f_X5_floodedFrom s rl) = (f_X6_floodMembers s g fa me).1 ∧ (f_X6_floodMembers s g fa me).2 = nI 0 := by
  unfold f_X5_floodedFrom f_X6_floodMembers
  have key : ∀ (n k : Nat) (x : Int32), k + n = 10 → (f_X6_floodMembers_L33 s g fa me n k x).1 = (f_X5_floodedFrom_L4 s rl n k x) &&& (me g) ∧ (f_X6_floodMembers_L33 s g fa me n k x).2 = nI 0 := by
    intro n
    induction n with
    | zero => intro k x _; rw [f_X5_floodedFrom_L4, f_X6_floodMembers_L33]; exact ⟨rfl, rfl⟩
    | succ n ih =>
      intro k x hk
      rw [f_X5_floodedFrom_L4, f_X6_floodMembers_L33]
      unfold f_X4_distanceOf
      rw [Nat.mul_comm s 10, h _ (by omega)]
      by_cases c : nI 1000000 ≤ fa (10 * s + k)
      · rw [if_pos c, if_pos c, if_pos rfl, or_0]
        exact ih _ _ (by omega)
      · rw [if_neg c, if_neg c, if_neg (hF.far (by omega)).2]
        exact ih _ _ (by omega)
  rw [hw, (key 10 0 _ rfl).1]
  exact ⟨Int32.and_comm _ _, (key 10 0 _ rfl).2⟩
theorem flooded_bt {rl fa co : Nat → Int32} (h : EQ 100 rl fa) (hF : FarOK co fa) {s i : Nat} (hs : s < 10) (hi : i < 10) : bt (f_X5_floodedFrom s rl) i = true ↔ ¬ fa (10 * s + i) = nI 1000000 := by
  unfold f_X5_floodedFrom
  have key : ∀ (n k : Nat) (x : Int32), k + n = 10 → (bt (f_X5_floodedFrom_L4 s rl n k x) i = true ↔ (bt x i = true ∨ (k ≤ i ∧ ¬ fa (10 * s + i) = nI 1000000))) := by
    intro n
    induction n with
    | zero =>
      intro k x hk
      rw [f_X5_floodedFrom_L4]
      exact ⟨Or.inl, fun q => q.elim id (fun z => absurd z.1 (by omega))⟩
    | succ n ih =>
      intro k x hk
      rw [f_X5_floodedFrom_L4]
      have hd : f_X4_distanceOf s k rl = -1 ↔ fa (10 * s + k) = nI 1000000 := by
        unfold f_X4_distanceOf
        rw [Nat.mul_comm s 10, h _ (by omega)]
        by_cases c : nI 1000000 ≤ fa (10 * s + k)
        · rw [if_pos c]; exact ⟨fun _ => (hF.far (by omega)).1.mp c, fun _ => rfl⟩
        · rw [if_neg c]; exact ⟨fun q => absurd q (hF.far (by omega)).2, fun q => absurd ((hF.far (by omega)).1.mpr q) c⟩
      by_cases c : fa (10 * s + k) = nI 1000000
      · rw [if_pos (hd.mpr c), ih (k + 1) _ (by omega)]
        constructor
        · rintro (q | q)
          · exact Or.inl q
          · exact Or.inr ⟨by omega, q.2⟩
        · rintro (q | q)
          · exact Or.inl q
          · by_cases e : i = k
            · subst e; exact absurd c q.2
            · exact Or.inr ⟨by omega, q.2⟩
      · rw [if_neg (fun z => c (hd.mp z)), ih (k + 1) _ (by omega), b_or, bt_one (by omega) (by omega), Bool.or_eq_true, decide_eq_true_iff]
        constructor
        · rintro ((q | q) | q)
          · exact Or.inl q
          · subst q; exact Or.inr ⟨Nat.le_refl _, c⟩
          · exact Or.inr ⟨by omega, q.2⟩
        · rintro (q | q)
          · exact Or.inl (Or.inl q)
          · by_cases e : i = k
            · exact Or.inl (Or.inr e)
            · exact Or.inr ⟨by omega, q.2⟩
  rw [key 10 0 _ rfl, show nI 0 = (0 : Int32) from rfl, b_0]
  exact ⟨fun q => q.elim (fun z => absurd z (by decide)) (fun z => z.2), fun q => Or.inr ⟨Nat.zero_le _, q⟩⟩
theorem links_eq {rc co : Nat → Int32} (h : EQ 100 rc co) (hC : Costs co) {r : Nat} (hr : r < 10) : f_X4_linksOf r rc = f_X6_floodCopies_L37 co r 10 0 (nI 0) := by
  unfold f_X4_linksOf
  have key : ∀ (n k : Nat) (x : Int32), k + n = 10 → f_X4_linksOf_L4 r rc n k x = f_X6_floodCopies_L37 co r n k x := by
    intro n
    induction n with
    | zero => intro k x _; rw [f_X4_linksOf_L4, f_X6_floodCopies_L37]
    | succ n ih =>
      intro k x hk
      rw [f_X4_linksOf_L4, f_X6_floodCopies_L37, Nat.mul_comm r 10, h _ (by omega)]
      obtain ⟨c, hc, e⟩ := hC.1 (10 * r + k) (by omega)
      have hz : co (10 * r + k) ≤ 0 ↔ co (10 * r + k) = 0 := by
        rw [e, nI_le0 (by omega)]
        exact ⟨fun q => by rw [q]; rfl, fun q => (nI_eq (a := c) (b := 0) (by omega) (by omega)).mp q⟩
      by_cases q : co (10 * r + k) = 0
      · rw [if_pos q, if_pos (hz.mpr q), nI_0, Int32.add_zero]; exact ih _ _ (by omega)
      · rw [if_neg q, if_neg (fun z => q (hz.mp z))]; exact ih _ _ (by omega)
  exact key 10 0 _ rfl
theorem copies_eq {rc rl co fa : Nat → Int32} (hE : EQ 100 rc co) (h : EQ 100 rl fa) (hC : Costs co) (hF : FarOK co fa) {s : Nat} (hs : s < 10) : f_X5_floodCopies s rc rl = (f_X6_floodCopies s co fa).1 ∧ (f_X6_floodCopies s co fa).2 = nI 0 := by
  unfold f_X5_floodCopies f_X6_floodCopies
  have key : ∀ (n k : Nat) (x : Int32), k + n = 10 → f_X5_floodCopies_L15 s rc rl n k x = (f_X6_floodCopies_L25 s co fa n k x).1 ∧ (f_X6_floodCopies_L25 s co fa n k x).2 = nI 0 := by
    intro n
    induction n with
    | zero => intro k x _; rw [f_X5_floodCopies_L15, f_X6_floodCopies_L25]; exact ⟨rfl, rfl⟩
    | succ n ih =>
      intro k x hk
      rw [f_X5_floodCopies_L15, f_X6_floodCopies_L25, has_bt _ (by omega), links_eq hE hC (by omega)]
      by_cases c : fa (10 * s + k) = nI 1000000
      · rw [if_pos c, if_neg (fun z => (flooded_bt h hF hs (by omega)).mp z c), nI_0, Int32.add_zero]
        exact ih _ _ (by omega)
      · rw [if_neg c, if_pos ((flooded_bt h hF hs (by omega)).mpr c)]
        by_cases q : k = s
        · rw [if_pos q, if_pos q, nI_0, Int32.sub_zero]; exact ih _ _ (by omega)
        · rw [if_neg q, if_neg q]; exact ih _ _ (by omega)
  exact key 10 0 _ rfl
/-! sums -/
theorem csum_congr {f g : Nat → Nat} : ∀ (n k j : Nat), (∀ i, i < n → f (k + i) = g (j + i)) → csum f n k = csum g n j := by
  intro n
  induction n with
  | zero => intro k j _; rw [csum, csum]
  | succ n ih =>
    intro k j h
    rw [csum, csum, ih (k + 1) (j + 1) (fun i hi => by have := h (i + 1) (by omega); rw [show k + 1 + i = k + (i + 1) by omega, show j + 1 + i = j + (i + 1) by omega]; exact this)]
    have := h 0 (by omega)
    simp only [Nat.add_zero] at this
    rw [this]
theorem csum_add (f : Nat → Nat) (b : Nat) : ∀ (a k : Nat), csum f (a + b) k = csum f a k + csum f b (k + a) := by
  intro a
  induction a with
  | zero => intro k; rw [csum, Nat.zero_add, Nat.zero_add, Nat.add_zero]
  | succ a ih => intro k; rw [show a + 1 + b = (a + b) + 1 by omega, csum, csum, ih (k + 1), show k + 1 + a = k + (a + 1) by omega, Nat.add_assoc]
theorem csum_10 (f : Nat → Nat) : ∀ (n k : Nat), csum f (10 * n) (10 * k) = csum (fun T => csum f 10 (10 * T)) n k := by
  intro n
  induction n with
  | zero => intro k; rw [Nat.mul_zero, csum, csum]
  | succ n ih => intro k; rw [show 10 * (n + 1) = 10 + 10 * n by omega, csum_add, show 10 * k + 10 = 10 * (k + 1) by omega, ih (k + 1), show csum (fun T => csum f 10 (10 * T)) (n + 1) k = csum f 10 (10 * k) + csum (fun T => csum f 10 (10 * T)) n (k + 1) from rfl]
theorem leav_c {fg : Nat → Int32} : ∀ (n k : Nat) (x : Int32), f_X2_leavingBranches_L4 fg n k x = x + nI (csum (fun e => if fg e = -1 then 0 else 1) n k) := by
  intro n
  induction n with
  | zero => intro k x; rw [f_X2_leavingBranches_L4, csum, nI_0, Int32.add_zero]
  | succ n ih =>
    intro k x
    rw [f_X2_leavingBranches_L4, csum]
    by_cases c : fg k = -1
    · rw [if_pos c, if_pos c, ih, Nat.zero_add]
    · rw [if_neg c, if_neg c, ih, Int32.add_assoc, nI_add]
theorem leav_r {go : Nat → Int32} : ∀ (n k : Nat) (x : Int32), f_X6_leaving_L9 go n k x = (x + nI (csum (fun e => if go e = -1 then 0 else 1) n k), nI 0) := by
  intro n
  induction n with
  | zero => intro k x; rw [f_X6_leaving_L9, csum, nI_0, Int32.add_zero]
  | succ n ih =>
    intro k x
    rw [f_X6_leaving_L9, csum]
    by_cases c : go k = -1
    · rw [if_pos c, if_pos c, ih, Nat.zero_add, nI_0, Int32.add_zero]
    · rw [if_neg c, if_neg c, ih, Int32.add_assoc, nI_add]
theorem leaving_eq {co fa ic fc fg ab go : Nat → Int32} (hF : RFo co fa ic fc fg ab go) : f_X2_leavingBranches fg = (f_X6_leaving go).1 ∧ (f_X6_leaving go).2 = nI 0 := by
  unfold f_X2_leavingBranches f_X6_leaving
  rw [leav_c, leav_r]
  refine ⟨?_, rfl⟩
  have e : csum (fun e => if fg e = -1 then 0 else 1) 440 0 = csum (fun e => if go e = -1 then 0 else 1) 440 0 := by
    have h1 := csum_10 (fun e => if fg e = -1 then 0 else 1) 44 0
    have h2 := csum_10 (fun e => if go e = -1 then 0 else 1) 44 0
    rw [show (440 : Nat) = 10 * 44 from rfl, show csum (fun e => if fg e = -1 then 0 else 1) (10 * 44) 0 = _ from h1, show csum (fun e => if go e = -1 then 0 else 1) (10 * 44) 0 = _ from h2]
    refine Eq.trans ?_ (csum_sig (fun T => csum (fun e => if go e = -1 then 0 else 1) 10 (10 * T)))
    refine csum_congr 44 0 0 (fun T hT => ?_)
    rw [Nat.zero_add]
    refine csum_congr 10 (10 * T) (10 * sig T) (fun r hr => ?_)
    have h3 := ((hF (sig T) (sig_lt hT)).1 r hr).2
    rw [tau_sig hT, Nat.mul_comm T 10] at h3
    rw [h3]
  rw [e]
