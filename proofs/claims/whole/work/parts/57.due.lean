/-! a second passes: the same in the reference -/
def SpH (sec : Int32) (go : Nat → Int32) (t k : Nat) (f : Nat → Int32) : Prop := ∀ j, j < 10 → ((j < k ∧ go (10 * t + j) = sec) → f j = -1) ∧ (¬ (j < k ∧ go (10 * t + j) = sec) → f j = go (10 * t + j))
theorem SpH_skip {sec : Int32} {go : Nat → Int32} {t k : Nat} {f : Nat → Int32} (h : SpH sec go t k f) (hd : ¬ go (10 * t + k) = sec) : SpH sec go t (k + 1) f := fun j hj => by
  obtain ⟨a1, a2⟩ := h j hj
  refine ⟨fun q => a1 ⟨?_, q.2⟩, fun q => a2 (fun z => q ⟨by omega, z.2⟩)⟩
  by_cases e : j = k
  · subst e; exact absurd q.2 hd
  · omega
theorem SpA_skip {sec : Int32} {ab go : Nat → Int32} {t k : Nat} {f : Nat → Int32} (h : SpA sec ab go t k f) (hd : ¬ go (10 * t + k) = sec) : SpA sec ab go t (k + 1) f := fun j hj => by
  obtain ⟨a1, a2⟩ := h j hj
  refine ⟨fun q => a1 ⟨?_, q.2⟩, fun q => a2 (fun z => q ⟨by omega, z.2⟩)⟩
  by_cases e : j = k
  · subst e; exact absurd q.2 hd
  · omega
theorem SpH_step {sec : Int32} {go x : Nat → Int32} {t k : Nat} (h : SpH sec go t k (fun j => x (10 * t + j))) (hd : go (10 * t + k) = sec) : SpH sec go t (k + 1) (fun j => upd x (10 * t + k) (-1) (10 * t + j)) := fun j hj => by
  obtain ⟨a1, a2⟩ := h j hj
  by_cases e : j = k
  · subst e
    exact ⟨fun _ => pk_us, fun q => absurd ⟨by omega, hd⟩ q⟩
  · refine ⟨fun q => ?_, fun q => ?_⟩
    · show upd x (10 * t + k) (-1) (10 * t + j) = -1
      rw [pk_un (by omega)]; exact a1 ⟨by omega, q.2⟩
    · show upd x (10 * t + k) (-1) (10 * t + j) = _
      rw [pk_un (by omega)]; exact a2 (fun z => q ⟨by omega, z.2⟩)
theorem SpA_step {sec : Int32} {ab go x : Nat → Int32} {t k : Nat} (h : SpA sec ab go t k (fun j => x (10 * t + j))) (hd : go (10 * t + k) = sec) : SpA sec ab go t (k + 1) (fun j => upd x (10 * t + k) (-1) (10 * t + j)) := fun j hj => by
  obtain ⟨a1, a2⟩ := h j hj
  by_cases e : j = k
  · subst e
    exact ⟨fun _ => pk_us, fun q => absurd ⟨by omega, hd⟩ q⟩
  · refine ⟨fun q => ?_, fun q => ?_⟩
    · show upd x (10 * t + k) (-1) (10 * t + j) = -1
      rw [pk_un (by omega)]; exact a1 ⟨by omega, q.2⟩
    · show upd x (10 * t + k) (-1) (10 * t + j) = _
      rw [pk_un (by omega)]; exact a2 (fun z => q ⟨by omega, z.2⟩)
def Par (sec : Int32) (ab go : Nat → Int32) (t k : Nat) (x : Int32) : Prop := ∀ i, i < 10 → (bt x i = true ↔ ∃ j, j < k ∧ go (10 * t + j) = sec ∧ ab (10 * t + j) = nI i)
theorem due_r1 {t : Nat} {ab go : Nat → Int32} {sec clk : Int32} (hs1 : clk + nI 1 = sec) (hsm : ¬ sec = -1) (hT : TOk t ab go) : ∀ (n k : Nat) (x1 x3 : Int32) (a1 g1 : Nat → Int32), k + n = 10 →
    SpA sec ab go t k (fun j => a1 (10 * t + j)) → SpH sec go t k (fun j => g1 (10 * t + j)) → Par sec ab go t k x3 →
    SpA sec ab go t 10 (fun j => (f_X6_second_L25 clk t n k x1 x3 a1 g1).2.2.1 (10 * t + j)) ∧ SpH sec go t 10 (fun j => (f_X6_second_L25 clk t n k x1 x3 a1 g1).2.2.2 (10 * t + j)) ∧ Par sec ab go t 10 (f_X6_second_L25 clk t n k x1 x3 a1 g1).2.1 ∧
    (f_X6_second_L25 clk t n k x1 x3 a1 g1).1 = x1 + nI (cnt sec go t n k) ∧ Fr t a1 (f_X6_second_L25 clk t n k x1 x3 a1 g1).2.2.1 ∧ Fr t g1 (f_X6_second_L25 clk t n k x1 x3 a1 g1).2.2.2 := by
  intro n
  induction n with
  | zero =>
    intro k x1 x3 a1 g1 hk hA hH hP
    obtain rfl : k = 10 := by omega
    rw [f_X6_second_L25, cnt]
    exact ⟨hA, hH, hP, by rw [nI_0, Int32.add_zero], Fr.refl _, Fr.refl _⟩
  | succ n ih =>
    intro k x1 x3 a1 g1 hk hA hH hP
    rw [f_X6_second_L25, cnt, hs1]
    have hk10 : k < 10 := by omega
    have hak : a1 (10 * t + k) = ab (10 * t + k) := (hA k hk10).2 (by omega)
    have hgk : g1 (10 * t + k) = go (10 * t + k) := (hH k hk10).2 (by omega)
    rw [hgk, hak]
    by_cases hd : go (10 * t + k) = sec
    · rw [if_pos hd, if_pos hd]
      obtain ⟨p0, hp0, hab⟩ := (hT k hk10).resolve_left (fun q => hsm (hd.symm.trans q.2))
      obtain ⟨r1, r2, r3, r4, r5, r6⟩ := ih (k + 1) (x1 + nI 1) (x3 ||| ((nI 1) <<< ((ab (10 * t + k)) &&& 31))) _ _ (by omega) (SpA_step hA hd) (SpH_step hH hd) (fun i hi => by
        rw [hab, b_or, bt_one (by omega) (by omega), Bool.or_eq_true, hP i hi, decide_eq_true_iff]
        constructor
        · rintro (⟨j, j1, j2, j3⟩ | e)
          · exact ⟨j, by omega, j2, j3⟩
          · subst e; exact ⟨k, by omega, hd, hab⟩
        · rintro ⟨j, j1, j2, j3⟩
          by_cases e : j = k
          · subst e
            rw [hab] at j3
            exact Or.inr ((nI_eq (by omega) (by omega)).mp j3).symm
          · exact Or.inl ⟨j, by omega, j2, j3⟩)
      refine ⟨r1, r2, r3, ?_, (Fr_upd _ (by omega)).trans r5, (Fr_upd _ (by omega)).trans r6⟩
      rw [r4, Int32.add_assoc, nI_add]
    · rw [if_neg hd, if_neg hd, Nat.zero_add]
      refine ih (k + 1) x1 x3 a1 g1 (by omega) (SpA_skip hA hd) (SpH_skip hH hd) (fun i hi => ?_)
      rw [hP i hi]
      constructor
      · rintro ⟨j, j1, j2, j3⟩
        exact ⟨j, by omega, j2, j3⟩
      · rintro ⟨j, j1, j2, j3⟩
        by_cases e : j = k
        · subst e; exact absurd j2 hd
        · exact ⟨j, by omega, j2, j3⟩
theorem looks_other {t p : Nat} {me sw ab go : Nat → Int32} {clk : Int32} {q : Nat} (h : ¬ q = 10 * t + p) : f_X6_looks t p me sw ab go clk q = go q := by
  unfold f_X6_looks
  split
  · rfl
  · split
    · split
      · rfl
      · split
        · exact pk_un h
        · rfl
    · rfl
theorem due_r2 {t : Nat} {me sw ab go a1 g1 : Nat → Int32} {sec clk x3 : Int32} (hs1 : clk + nI 1 = sec) (hsm : ¬ sec = -1)
    (hA : SpA sec ab go t 10 (fun j => a1 (10 * t + j))) (hH : SpH sec go t 10 (fun j => g1 (10 * t + j))) (hP : Par sec ab go t 10 x3) : ∀ (n k : Nat) (g2 : Nat → Int32), k + n = 10 →
    (∀ p, p < 10 → k ≤ p → g2 (10 * t + p) = g1 (10 * t + p)) → (∀ p, p < k → ((p < 10 ∧ go (10 * t + p) = sec) → g2 (10 * t + p) = -1) ∧ (¬ (p < 10 ∧ go (10 * t + p) = sec) → (Gone (fun p => f_X6_wants t p me sw) sec ab go t 10 p → g2 (10 * t + p) = sec + nI 3) ∧ (¬ Gone (fun p => f_X6_wants t p me sw) sec ab go t 10 p → g2 (10 * t + p) = go (10 * t + p)))) →
    SpG (fun p => f_X6_wants t p me sw) sec ab go t 10 (fun p => f_X6_second_L95 me sw clk t x3 a1 n k g2 (10 * t + p)) ∧ Fr t g2 (f_X6_second_L95 me sw clk t x3 a1 n k g2) := by
  intro n
  induction n with
  | zero =>
    intro k g2 hk _ h2
    obtain rfl : k = 10 := by omega
    rw [f_X6_second_L95]
    exact ⟨h2, Fr.refl _⟩
  | succ n ih =>
    intro k g2 hk h1 h2
    have hk10 : k < 10 := by omega
    rw [f_X6_second_L95, hs1]
    have e2 : g2 (10 * t + k) = g1 (10 * t + k) := h1 k hk10 (Nat.le_refl k)
    by_cases c : ((x3 >>> ((nI k) &&& 31)) &&& (nI 1)) = nI 1
    · rw [if_pos c]
      have c' := (hP k hk10).mp ((shr_1 x3 hk10).mp c)
      have hL : f_X6_looks t k me sw a1 g2 sec = (if (a1 ((10 * t) + k)) = (-1) then g2 else if (g2 ((10 * t) + k)) = (-1) then (if (f_X6_wants t k me sw) = true then g2 else if (f_X6_below t k a1) = 0 then upd g2 ((10 * t) + k) (sec + (nI 3)) else g2) else g2) := by unfold f_X6_looks; rfl
      have hbel : f_X6_below t k a1 = 0 ↔ ∀ i, i < 10 → ab (10 * t + i) = nI k → i < 10 ∧ go (10 * t + i) = sec := by
        rw [bl_zero]
        constructor
        · intro h i hi z
          by_cases q : i < 10 ∧ go (10 * t + i) = sec
          · exact q
          · exact absurd (((hA i hi).2 q).trans z) (h i hi)
        · intro h i hi z
          by_cases q : i < 10 ∧ go (10 * t + i) = sec
          · have e : a1 (10 * t + i) = -1 := (hA i hi).1 q
            rw [e] at z
            exact nI_m1 (by omega) z
          · have e : a1 (10 * t + i) = ab (10 * t + i) := (hA i hi).2 q
            rw [e] at z
            exact q (h i hi z)
      have hnew : ((k < 10 ∧ go (10 * t + k) = sec) → f_X6_looks t k me sw a1 g2 sec (10 * t + k) = -1) ∧ (¬ (k < 10 ∧ go (10 * t + k) = sec) → (Gone (fun p => f_X6_wants t p me sw) sec ab go t 10 k → f_X6_looks t k me sw a1 g2 sec (10 * t + k) = sec + nI 3) ∧ (¬ Gone (fun p => f_X6_wants t p me sw) sec ab go t 10 k → f_X6_looks t k me sw a1 g2 sec (10 * t + k) = go (10 * t + k))) := by
        refine ⟨fun q => ?_, fun q => ?_⟩
        · have e : a1 (10 * t + k) = -1 := (hA k hk10).1 q
          rw [hL, if_pos e, e2]
          exact (hH k hk10).1 q
        · have ea : a1 (10 * t + k) = ab (10 * t + k) := (hA k hk10).2 q
          have eg : g2 (10 * t + k) = go (10 * t + k) := e2.trans ((hH k hk10).2 q)
          rw [hL, ea, eg]
          refine ⟨fun z => ?_, fun z => ?_⟩
          · rw [if_neg z.2.1, if_pos z.1, if_neg z.2.2.1, if_pos (hbel.mpr z.2.2.2.2), pk_us]
          · by_cases c1 : ab (10 * t + k) = -1
            · rw [if_pos c1, eg]
            · rw [if_neg c1]
              by_cases c3 : go (10 * t + k) = -1
              · rw [if_pos c3]
                by_cases c4 : f_X6_wants t k me sw = true
                · rw [if_pos c4, eg]
                · rw [if_neg c4]
                  by_cases c5 : f_X6_below t k a1 = 0
                  · exact absurd ⟨c3, c1, c4, c', hbel.mp c5⟩ z
                  · rw [if_neg c5, eg]
              · rw [if_neg c3, eg]
      obtain ⟨r1, r2⟩ := ih (k + 1) (f_X6_looks t k me sw a1 g2 sec) (by omega) (fun p hp q => by rw [looks_other (by omega)]; exact h1 p hp (by omega)) (fun p hp => by
        by_cases e : p = k
        · subst e; exact hnew
        · rw [looks_other (by omega)]; exact h2 p (by omega))
      exact ⟨r1, Fr.trans (fun e he => looks_other (by omega)) r2⟩
    · rw [if_neg c]
      refine ih (k + 1) g2 (by omega) (fun p hp q => h1 p hp (by omega)) (fun p hp => ?_)
      by_cases e : p = k
      · subst e
        rw [e2]
        refine ⟨(hH p hk10).1, fun q => ⟨fun z => ?_, fun _ => (hH p hk10).2 q⟩⟩
        exact absurd ((shr_1 x3 hk10).mpr ((hP p hk10).mpr z.2.2.2.1)) c
      · exact h2 p (by omega)
/-- a tree after a second, alike -/
theorem Sp_RTr {W1 W2 : Nat → Bool} {sec : Int32} {T t : Nat} {ab go fc fg a1 g1 : Nat → Int32} (hW : ∀ p, p < 10 → W1 p = W2 p) (h1 : SpA sec ab go t 10 (fun j => fc (T * 10 + j))) (h2 : SpG W1 sec ab go t 10 (fun p => fg (T * 10 + p)))
    (h3 : SpA sec ab go t 10 (fun j => a1 (10 * t + j))) (h4 : SpG W2 sec ab go t 10 (fun p => g1 (10 * t + p))) : RTr T t fc fg a1 g1 := fun r hr => by
  have hg : Gone W1 sec ab go t 10 r ↔ Gone W2 sec ab go t 10 r := by unfold Gone; rw [hW r hr]
  by_cases q : r < 10 ∧ go (10 * t + r) = sec
  · exact ⟨((h1 r hr).1 q).trans ((h3 r hr).1 q).symm, ((h2 r hr).1 q).trans ((h4 r hr).1 q).symm⟩
  · refine ⟨((h1 r hr).2 q).trans ((h3 r hr).2 q).symm, ?_⟩
    by_cases z : Gone W1 sec ab go t 10 r
    · exact (((h2 r hr).2 q).1 z).trans (((h4 r hr).2 q).1 (hg.mp z)).symm
    · exact (((h2 r hr).2 q).2 z).trans (((h4 r hr).2 q).2 (fun y => z (hg.mpr y))).symm
theorem Sp_TInv {W : Nat → Bool} {co fa : Nat → Int32} {root sec : Int32} {t : Nat} {ab go a1 g1 : Nat → Int32} (hI : TInv co fa root t ab go)
    (h3 : SpA sec ab go t 10 (fun j => a1 (10 * t + j))) (h4 : SpG W sec ab go t 10 (fun p => g1 (10 * t + p))) : TInv co fa root t a1 g1 := fun r hr => by
  by_cases q : r < 10 ∧ go (10 * t + r) = sec
  · exact Or.inl ⟨(h3 r hr).1 q, (h4 r hr).1 q⟩
  · have ea : a1 (10 * t + r) = ab (10 * t + r) := (h3 r hr).2 q
    rw [ea]
    by_cases z : Gone W sec ab go t 10 r
    · exact Or.inr ((hI r hr).resolve_left (fun y => z.2.1 y.1))
    · have eg : g1 (10 * t + r) = go (10 * t + r) := ((h4 r hr).2 q).2 z
      rw [eg]; exact hI r hr
