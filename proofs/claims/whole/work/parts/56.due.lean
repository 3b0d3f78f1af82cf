/-! a second passes: the branches whose time has come go, in both -/
theorem bl_zero {t p : Nat} {ab : Nat → Int32} : f_X6_below t p ab = 0 ↔ ∀ i, i < 10 → ¬ ab (10 * t + i) = nI p := by
  constructor
  · intro h i hi q
    have h1 := below_bt (t := t) (r := p) (ab := ab) (show i < 32 by omega)
    rw [h, b_0, decide_eq_true hi, decide_eq_true q] at h1
    cases h1
  · intro h
    refine b_ext fun i hi => ?_
    rw [below_bt hi, b_0]
    by_cases c : i < 10
    · rw [decide_eq_false (h i c), Bool.and_false]
    · rw [decide_eq_false c, Bool.false_and]
theorem br_zero {T p : Nat} {fc : Nat → Int32} : f_X2_branchesFrom T p fc = 0 ↔ ∀ i, i < 10 → ¬ fc (T * 10 + i) = nI p := by
  rw [below_eq (t := T) (ab := fc) (fun k _ => by rw [Nat.mul_comm]), bl_zero]
  exact ⟨fun h i hi => by rw [Nat.mul_comm]; exact h i hi, fun h i hi => by rw [Nat.mul_comm]; exact h i hi⟩
theorem letLeave_nI {T p : Nat} {sec : Int32} {fw fc fg : Nat → Int32} (h : p < 10) : f_X2_letLeave_r T (nI p) sec fw fc fg = f_X2_letLeave T p sec fw fc fg := by
  unfold f_X2_letLeave_r f_X2_letLeave f_X2_parentOf_r
  rw [if_pos (isRouter_nI h), nI_clamp (by omega)]
theorem ll_other {T p : Nat} {sec : Int32} {fw fc fg : Nat → Int32} {q : Nat} (h : ¬ q = T * 10 + p) : f_X2_letLeave T p sec fw fc fg q = fg q := by
  unfold f_X2_letLeave
  split
  · rfl
  · split
    · rfl
    · split
      · exact pk_un h
      · rfl
theorem needed_iff {T p : Nat} {fw fc : Nat → Int32} : f_X2_isNeeded T p fw fc = true ↔ (f_X5_has (fw T) p = true ∨ ¬ ∀ i, i < 10 → ¬ fc (T * 10 + i) = nI p) := by
  unfold f_X2_isNeeded
  rw [← br_zero]
  by_cases c : f_X5_has (fw T) p = true
  · rw [if_pos c]; exact ⟨fun _ => Or.inl c, fun _ => rfl⟩
  · rw [if_neg c]
    by_cases c2 : f_X2_branchesFrom T p fc = 0
    · rw [if_pos c2]; exact ⟨fun h => absurd h (by decide), fun h => h.elim (fun q => absurd q c) (fun q => absurd c2 q)⟩
    · rw [if_neg c2]; exact ⟨fun _ => Or.inr c2, fun _ => rfl⟩
/-- which branch p is let leave when those before k have gone -/
def Gone (W : Nat → Bool) (sec : Int32) (ab go : Nat → Int32) (t k p : Nat) : Prop := go (10 * t + p) = -1 ∧ ¬ ab (10 * t + p) = -1 ∧ ¬ W p = true ∧ (∃ j, j < k ∧ go (10 * t + j) = sec ∧ ab (10 * t + j) = nI p) ∧ ∀ i, i < 10 → ab (10 * t + i) = nI p → i < k ∧ go (10 * t + i) = sec
def SpA (sec : Int32) (ab go : Nat → Int32) (t k : Nat) (f : Nat → Int32) : Prop := ∀ j, j < 10 → ((j < k ∧ go (10 * t + j) = sec) → f j = -1) ∧ (¬ (j < k ∧ go (10 * t + j) = sec) → f j = ab (10 * t + j))
def SpG (W : Nat → Bool) (sec : Int32) (ab go : Nat → Int32) (t k : Nat) (f : Nat → Int32) : Prop := ∀ p, p < 10 → ((p < k ∧ go (10 * t + p) = sec) → f p = -1) ∧ (¬ (p < k ∧ go (10 * t + p) = sec) → (Gone W sec ab go t k p → f p = sec + nI 3) ∧ (¬ Gone W sec ab go t k p → f p = go (10 * t + p)))
def cnt (sec : Int32) (go : Nat → Int32) (t : Nat) : Nat → Nat → Nat
  | 0, _ => 0
  | n + 1, k => (if go (10 * t + k) = sec then 1 else 0) + cnt sec go t n (k + 1)
/-- a tree's branches, what is needed of them here -/
def TOk (t : Nat) (ab go : Nat → Int32) : Prop := ∀ r, r < 10 → (ab (10 * t + r) = -1 ∧ go (10 * t + r) = -1) ∨ ∃ k, k < 10 ∧ ab (10 * t + r) = nI k
theorem TInv.ok {co fa : Nat → Int32} {root : Int32} {t : Nat} {ab go : Nat → Int32} (h : TInv co fa root t ab go) : TOk t ab go := fun r hr => (h r hr).elim Or.inl (fun ⟨k, _, h1, _, _, h2, _⟩ => Or.inr ⟨k, h1, h2⟩)
theorem Gone_same {W : Nat → Bool} {sec : Int32} {ab go : Nat → Int32} {t k p : Nat} (h : ¬ (go (10 * t + k) = sec ∧ ab (10 * t + k) = nI p)) (hk : ab (10 * t + k) = nI p → ¬ go (10 * t + k) = sec) : Gone W sec ab go t (k + 1) p ↔ Gone W sec ab go t k p := by
  unfold Gone
  constructor
  · rintro ⟨a1, a2, a3, ⟨j, j1, j2, j3⟩, a5⟩
    refine ⟨a1, a2, a3, ⟨j, ?_, j2, j3⟩, fun i hi q => ?_⟩
    · by_cases e : j = k
      · subst e; exact absurd ⟨j2, j3⟩ h
      · omega
    · obtain ⟨b1, b2⟩ := a5 i hi q
      by_cases e : i = k
      · subst e; exact absurd b2 (hk q)
      · exact ⟨by omega, b2⟩
  · rintro ⟨a1, a2, a3, ⟨j, j1, j2, j3⟩, a5⟩
    exact ⟨a1, a2, a3, ⟨j, by omega, j2, j3⟩, fun i hi q => ⟨by have := (a5 i hi q).1; omega, (a5 i hi q).2⟩⟩
/-- one walk over all places, told as a walk over the trees and in each over the routers -/
def dueT (sec : Int32) (fw : Nat → Int32) (T : Nat) : Nat → Nat → Int32 → (Nat → Int32) → (Nat → Int32) → Int32 × (Nat → Int32) × (Nat → Int32)
  | 0, _, x, fc, fg => (x, fc, fg)
  | n + 1, k, x, fc, fg => if fg (T * 10 + k) = sec then dueT sec fw T n (k + 1) (x + nI 1) (upd fc (T * 10 + k) (-1)) (f_X2_letLeave_r T (fc (T * 10 + k)) sec fw (upd fc (T * 10 + k) (-1)) (upd fg (T * 10 + k) (-1))) else dueT sec fw T n (k + 1) x fc fg
def dueA (sec : Int32) (fw : Nat → Int32) : Nat → Nat → Int32 → (Nat → Int32) → (Nat → Int32) → Int32 × (Nat → Int32) × (Nat → Int32)
  | 0, _, x, fc, fg => (x, fc, fg)
  | n + 1, k, x, fc, fg => dueA sec fw n (k + 1) (dueT sec fw k 10 0 x fc fg).1 (dueT sec fw k 10 0 x fc fg).2.1 (dueT sec fw k 10 0 x fc fg).2.2
theorem due_row (sec : Int32) (fw : Nat → Int32) (T m : Nat) : ∀ (n k : Nat) (x : Int32) (fc fg : Nat → Int32), k + n = 10 →
    f_X2_removeDue_L4 sec fw (m + n) (T * 10 + k) x fc fg = f_X2_removeDue_L4 sec fw m (T * 10 + 10) (dueT sec fw T n k x fc fg).1 (dueT sec fw T n k x fc fg).2.1 (dueT sec fw T n k x fc fg).2.2 := by
  intro n
  induction n with
  | zero =>
    intro k x fc fg hk
    obtain rfl : k = 10 := by omega
    rw [dueT, Nat.add_zero]
  | succ n ih =>
    intro k x fc fg hk
    rw [← Nat.add_assoc, f_X2_removeDue_L4, dueT, show (T * 10 + k) / 10 = T by omega, show (T * 10 + k) % 10 = k by omega, Nat.add_assoc (T * 10) k 1]
    by_cases c : fg (T * 10 + k) = sec
    · rw [if_pos c, if_pos c]; exact ih (k + 1) _ _ _ (by omega)
    · rw [if_neg c, if_neg c]; exact ih (k + 1) _ _ _ (by omega)
theorem due_flat (sec : Int32) (fw : Nat → Int32) : ∀ (n k : Nat) (x : Int32) (fc fg : Nat → Int32), f_X2_removeDue_L4 sec fw (n * 10) (k * 10) x fc fg = dueA sec fw n k x fc fg := by
  intro n
  induction n with
  | zero => intro k x fc fg; rw [Nat.zero_mul, f_X2_removeDue_L4, dueA]
  | succ n ih =>
    intro k x fc fg
    rw [dueA, Nat.add_mul, Nat.one_mul]
    have h := due_row sec fw k (n * 10) 10 0 x fc fg rfl
    have e0 : k * 10 + 0 = k * 10 := rfl
    rw [e0] at h
    rw [h, show k * 10 + 10 = (k + 1) * 10 by omega]
    exact ih (k + 1) _ _ _
theorem due_c {T t : Nat} {fw ab go : Nat → Int32} {sec : Int32} {s : Nat} (hs : sec = nI s) (hs2 : s + 3 < 2 ^ 31) (hT : TOk t ab go) : ∀ (n k : Nat) (x : Int32) (fc fg : Nat → Int32), k + n = 10 →
    SpA sec ab go t k (fun j => fc (T * 10 + j)) → SpG (f_X5_has (fw T)) sec ab go t k (fun p => fg (T * 10 + p)) →
    SpA sec ab go t 10 (fun j => (dueT sec fw T n k x fc fg).2.1 (T * 10 + j)) ∧ SpG (f_X5_has (fw T)) sec ab go t 10 (fun p => (dueT sec fw T n k x fc fg).2.2 (T * 10 + p)) ∧
    (dueT sec fw T n k x fc fg).1 = x + nI (cnt sec go t n k) ∧ Fr T fc (dueT sec fw T n k x fc fg).2.1 ∧ Fr T fg (dueT sec fw T n k x fc fg).2.2 := by
  intro n
  have hsm : ¬ sec = -1 := by rw [hs]; exact nI_neg1 (by omega)
  induction n with
  | zero =>
    intro k x fc fg hk hA hG
    obtain rfl : k = 10 := by omega
    rw [dueT, cnt]
    exact ⟨hA, hG, by rw [nI_0, Int32.add_zero], Fr.refl _, Fr.refl _⟩
  | succ n ih =>
    intro k x fc fg hk hA hG
    rw [dueT, cnt]
    have hk10 : k < 10 := by omega
    have hfck : fc (T * 10 + k) = ab (10 * t + k) := (hA k hk10).2 (by omega)
    by_cases hd : go (10 * t + k) = sec
    · -- it goes
      obtain ⟨p0, hp0, hab⟩ := (hT k hk10).resolve_left (fun q => hsm (hd.symm.trans q.2))
      have hfgk : fg (T * 10 + k) = sec := by
        have e : fg (T * 10 + k) = go (10 * t + k) := ((hG k hk10).2 (by omega)).2 (fun q => hsm (hd.symm.trans q.1))
        rw [e, hd]
      rw [if_pos hfgk, if_pos hd, hfck, hab, letLeave_nI hp0]
      have hA' : SpA sec ab go t (k + 1) (fun j => upd fc (T * 10 + k) (-1) (T * 10 + j)) := by
        intro j hj
        by_cases e : j = k
        · subst e
          refine ⟨fun _ => pk_us, fun q => absurd ⟨by omega, hd⟩ q⟩
        · obtain ⟨a1, a2⟩ := hA j hj
          refine ⟨fun q => ?_, fun q => ?_⟩
          · show upd fc (T * 10 + k) (-1) (T * 10 + j) = -1
            rw [pk_un (by omega)]; exact a1 ⟨by omega, q.2⟩
          · show upd fc (T * 10 + k) (-1) (T * 10 + j) = _
            rw [pk_un (by omega)]; exact a2 (fun z => q ⟨by omega, z.2⟩)
      have hG' : SpG (f_X5_has (fw T)) sec ab go t (k + 1) (fun p => f_X2_letLeave T p0 sec fw (upd fc (T * 10 + k) (-1)) (upd fg (T * 10 + k) (-1)) (T * 10 + p)) := by
        intro p hp
        by_cases ep : p = p0
        · subst ep
          -- the branch to the one that it came from
          have hL : f_X2_letLeave T p sec fw (upd fc (T * 10 + k) (-1)) (upd fg (T * 10 + k) (-1)) = (if upd fc (T * 10 + k) (-1) (T * 10 + p) = (-1) then upd fg (T * 10 + k) (-1) else if (f_X2_isNeeded T p fw (upd fc (T * 10 + k) (-1))) = true then upd fg (T * 10 + k) (-1) else if (upd fg (T * 10 + k) (-1) (T * 10 + p)) = (-1) then upd (upd fg (T * 10 + k) (-1)) (T * 10 + p) (sec + (nI 3)) else upd fg (T * 10 + k) (-1)) := by unfold f_X2_letLeave; rfl
          refine ⟨fun q => ?_, fun q => ?_⟩
          · show f_X2_letLeave T p sec fw _ _ (T * 10 + p) = -1
            rw [hL, if_pos ((hA' p hp).1 q)]
            by_cases e : p = k
            · subst e; exact pk_us
            · rw [pk_un (by omega)]; exact (hG p hp).1 ⟨by omega, q.2⟩
          · have epk : ¬ p = k := fun z => q (by subst z; exact ⟨by omega, hd⟩)
            have q' : ¬ (p < k ∧ go (10 * t + p) = sec) := fun z => q ⟨by omega, z.2⟩
            have hfcp : upd fc (T * 10 + k) (-1) (T * 10 + p) = ab (10 * t + p) := (hA' p hp).2 q
            have nG : ¬ Gone (f_X5_has (fw T)) sec ab go t k p := fun z => by
              have := (z.2.2.2.2 k hk10 hab).1
              omega
            have hfgp : upd fg (T * 10 + k) (-1) (T * 10 + p) = go (10 * t + p) := by
              rw [pk_un (by omega)]; exact ((hG p hp).2 q').2 nG
            have hall : (∀ i, i < 10 → ¬ upd fc (T * 10 + k) (-1) (T * 10 + i) = nI p) ↔ ∀ i, i < 10 → ab (10 * t + i) = nI p → i < k + 1 ∧ go (10 * t + i) = sec := by
              constructor
              · intro h i hi z
                by_cases c : i < k + 1 ∧ go (10 * t + i) = sec
                · exact c
                · exact absurd (((hA' i hi).2 c).trans z) (h i hi)
              · intro h i hi z
                by_cases c : i < k + 1 ∧ go (10 * t + i) = sec
                · have := (hA' i hi).1 c
                  dsimp only at this
                  rw [this] at z
                  exact nI_m1 (by omega) z
                · have := (hA' i hi).2 c
                  dsimp only at this
                  rw [this] at z
                  exact c (h i hi z)
            refine ⟨fun z => ?_, fun z => ?_⟩
            · show f_X2_letLeave T p sec fw _ _ (T * 10 + p) = _
              rw [hL, hfcp, if_neg z.2.1, if_neg (fun y => (needed_iff.mp y).elim z.2.2.1 (fun y => y (hall.mpr z.2.2.2.2))), hfgp, if_pos z.1, pk_us]
            · show f_X2_letLeave T p sec fw _ _ (T * 10 + p) = _
              rw [hL, hfcp]
              by_cases c1 : ab (10 * t + p) = -1
              · rw [if_pos c1, hfgp]
              · rw [if_neg c1]
                by_cases c2 : f_X2_isNeeded T p fw (upd fc (T * 10 + k) (-1)) = true
                · rw [if_pos c2, hfgp]
                · rw [if_neg c2, hfgp]
                  by_cases c3 : go (10 * t + p) = -1
                  · refine absurd ?_ z
                    have c4 : ¬ f_X5_has (fw T) p = true := fun y => c2 (needed_iff.mpr (Or.inl y))
                    have c5 : ∀ i, i < 10 → ¬ upd fc (T * 10 + k) (-1) (T * 10 + i) = nI p := Classical.not_not.mp (fun y => c2 (needed_iff.mpr (Or.inr y)))
                    exact ⟨c3, c1, c4, ⟨k, by omega, hd, hab⟩, hall.mp c5⟩
                  · rw [if_neg c3, hfgp]
        · -- another branch
          have hne : ab (10 * t + k) = nI p → ¬ go (10 * t + k) = sec := fun z => by
            rw [hab] at z
            exact absurd ((nI_eq (by omega) (by omega)).mp z).symm ep
          have hG2 := Gone_same (W := f_X5_has (fw T)) (sec := sec) (ab := ab) (go := go) (t := t) (k := k) (p := p) (fun z => hne z.2 z.1) hne
          refine ⟨fun q => ?_, fun q => ?_⟩
          · show f_X2_letLeave T p0 sec fw _ _ (T * 10 + p) = -1
            rw [ll_other (by omega)]
            by_cases e : p = k
            · subst e; exact pk_us
            · rw [pk_un (by omega)]; exact (hG p hp).1 ⟨by omega, q.2⟩
          · have epk : ¬ p = k := fun z => q (by subst z; exact ⟨by omega, hd⟩)
            have q' : ¬ (p < k ∧ go (10 * t + p) = sec) := fun z => q ⟨by omega, z.2⟩
            show (_ → f_X2_letLeave T p0 sec fw _ _ (T * 10 + p) = _) ∧ (_ → f_X2_letLeave T p0 sec fw _ _ (T * 10 + p) = _)
            rw [ll_other (by omega), pk_un (by omega), hG2]
            exact (hG p hp).2 q'
      obtain ⟨r1, r2, r3, r4, r5⟩ := ih (k + 1) (x + nI 1) _ _ (by omega) hA' hG'
      refine ⟨r1, r2, ?_, (Fr_upd _ (by omega)).trans r4, Fr.trans (fun e he => ?_) r5⟩
      · rw [r3, Int32.add_assoc, nI_add]
      · rw [ll_other (by omega), pk_un (by omega)]
    · -- it stays
      have hnd : ¬ fg (T * 10 + k) = sec := by
        by_cases g : Gone (f_X5_has (fw T)) sec ab go t k k
        · have e : fg (T * 10 + k) = sec + nI 3 := ((hG k hk10).2 (by omega)).1 g
          rw [e, hs, nI_add]
          exact fun z => absurd ((nI_eq (by omega) (by omega)).mp z) (by omega)
        · have e : fg (T * 10 + k) = go (10 * t + k) := ((hG k hk10).2 (by omega)).2 g
          rw [e]; exact hd
      rw [if_neg hnd, if_neg hd, Nat.zero_add]
      refine ih (k + 1) x fc fg (by omega) (fun j hj => ?_) (fun p hp => ?_)
      · obtain ⟨a1, a2⟩ := hA j hj
        refine ⟨fun q => a1 ⟨?_, q.2⟩, fun q => a2 (fun z => q ⟨by omega, z.2⟩)⟩
        by_cases e : j = k
        · subst e; exact absurd q.2 hd
        · omega
      · obtain ⟨a1, a2⟩ := hG p hp
        rw [Gone_same (fun z => hd z.1) (fun _ => hd)]
        refine ⟨fun q => a1 ⟨?_, q.2⟩, fun q => a2 (fun z => q ⟨by omega, z.2⟩)⟩
        by_cases e : p = k
        · subst e; exact absurd q.2 hd
        · omega
