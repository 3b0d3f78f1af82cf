/-! all trees: built anew, wanted, left -/
def wof (fw : Nat → Int32) (T : Nat) : Nat → Bool := fun i => bt (fw T) i
/-- the law of all trees; B: when what is leaving goes -/
def FI (rh : Nat → Int32) (D : Nat → Nat → Nat) (fr fw : Nat → Int32) (B : Nat → Nat → Nat → Prop) (fc fg : Nat → Int32) : Prop := ∀ T, T < 44 → TI rh D (fr T) (wof fw T) (B T) T fc fg
def bnd (t : Nat) (_ : Nat) (_ : Nat) (x : Nat) : Prop := t < x ∧ x ≤ t + 3
def RoOk (fr : Nat → Int32) : Prop := ∀ T, T < 44 → fr T = -1 ∨ ∃ o : Nat, o < 10 ∧ fr T = nI o
theorem SR_of {S T : Nat} {x y : Nat → Int32} (h : Fr S x y) (hne : ¬ T = S) : SR T x y := fun e he => (h e (by omega)).symm
/-- one tree changes -/
theorem FI_upd {rh : Nat → Int32} {D : Nat → Nat → Nat} {fr fw fw' : Nat → Int32} {B : Nat → Nat → Nat → Prop} {fc fg fc' fg' : Nat → Int32} (h : FI rh D fr fw B fc fg) (T0 : Nat) (hfw : ∀ T, ¬ T = T0 → fw' T = fw T) (h1 : Fr T0 fc fc') (h2 : Fr T0 fg fg') (h3 : TI rh D (fr T0) (wof fw' T0) (B T0) T0 fc' fg') : FI rh D fr fw' B fc' fg' := by
  intro T hT
  by_cases e : T = T0
  · subst e; exact h3
  · exact ((h T hT).rows (SR_of h1 e) (SR_of h2 e)).congr (fun r _ => by unfold wof; rw [hfw T e])
/-- a router wants a tree from now on -/
theorem want_FI {rc rl rh fr fw : Nat → Int32} {C D : Nat → Nat → Nat} (hR : Rt rc rl rh C D) (hro : RoOk fr) {B : Nat → Nat → Nat → Prop} {fc fg : Nat → Int32} (h : FI rh D fr fw B fc fg) {T r : Nat} (hT : T < 44) (hr : r < 10) :
    FI rh D fr (upd fw T ((fw T) ||| ((nI 1) <<< ((nI r) &&& 31)))) B (f_X2_graft T r rh fr fc fg).1 (f_X2_graft T r rh fr fc fg).2 := by
  refine FI_upd h T (fun S hS => pk_un hS) graft_fr.1 graft_fr.2 ?_
  refine (graft_TI hR hr (hro T hT) (h T hT)).congr (fun i hi => ?_)
  unfold wadd wof
  rw [pk_us, b_or, bt_one (by omega) (by omega)]
theorem needed_iff {T p : Nat} {fw fc : Nat → Int32} (hp : p < 10) : f_X2_isNeeded T p fw fc = true ↔ need fc T (wof fw T) p := by
  have hb : f_X2_branchesFrom T p fc = 0 ↔ ¬ ∃ i, i < 10 ∧ fc (T * 10 + i) = nI p := by
    rw [br_zero]
    exact ⟨fun h ⟨i, hi, q⟩ => h i hi q, fun h i hi q => h ⟨i, hi, q⟩⟩
  unfold f_X2_isNeeded need wof
  rw [has_bt _ hp]
  by_cases c : bt (fw T) p = true
  · rw [if_pos c]; exact ⟨fun _ => Or.inl c, fun _ => rfl⟩
  · rw [if_neg c]
    by_cases c2 : f_X2_branchesFrom T p fc = 0
    · rw [if_pos c2]; exact ⟨fun h => absurd h (by decide), fun h => h.elim (fun q => absurd q c) (fun q => absurd q (hb.mp c2))⟩
    · rw [if_neg c2]; exact ⟨fun _ => Or.inr (Classical.not_not.mp (fun q => c2 (hb.mpr q))), fun _ => rfl⟩
/-- a router wants a tree no more (or did not), or a branch from it went: the branch to it may be leaving from now on -/
theorem letLeave_TI {rh : Nat → Int32} {D : Nat → Nat → Nat} {ro : Int32} {bd : Nat → Nat → Prop} {T r s : Nat} {sec : Int32} {fw fc fg : Nat → Int32} (hr : r < 10) (hs : sec = nI s) (hs2 : s + 3 < 100000) (hbd : bd r (s + 3))
    (h1 : ∀ q, q < 10 → (fc (T * 10 + q) = -1 ∧ fg (T * 10 + q) = -1) ∨ ∃ p o, p < 10 ∧ o < 10 ∧ ro = nI o ∧ fc (T * 10 + q) = nI p ∧ rh (q * 10 + o) = nI p ∧ (p = o ∨ ¬ fc (T * 10 + p) = -1) ∧ (¬ q = r → stat fc fg T (wof fw T) bd q) ∧ (q = r → (need fc T (wof fw T) r → fg (T * 10 + r) = -1) ∧ (fg (T * 10 + r) = -1 ∨ ∃ x, fg (T * 10 + r) = nI x ∧ x < 100000 ∧ bd r x)))
    (h2 : ∀ q o, q < 10 → o < 10 → ro = nI o → wof fw T q = true → ¬ q = o → D q o < 1000000 → ¬ fc (T * 10 + q) = -1) : TI rh D ro (wof fw T) bd T fc (f_X2_letLeave T r sec fw fc fg) := by
  have fin : ∀ fg' : Nat → Int32, (∀ q, ¬ q = r → fg' (T * 10 + q) = fg (T * 10 + q)) → (fc (T * 10 + r) = -1 → fg' (T * 10 + r) = fg (T * 10 + r)) → (¬ fc (T * 10 + r) = -1 → stat fc fg' T (wof fw T) bd r) → TI rh D ro (wof fw T) bd T fc fg' := by
    intro fg' e1 e2 e3
    refine ⟨fun q hq => ?_, h2⟩
    rcases h1 q hq with z | ⟨p, o, g1, g2, g3, g4, g5, g6, g7, g8⟩
    · by_cases e : q = r
      · subst e; exact Or.inl ⟨z.1, by rw [e2 z.1]; exact z.2⟩
      · exact Or.inl ⟨z.1, by rw [e1 q e]; exact z.2⟩
    · refine Or.inr ⟨p, o, g1, g2, g3, g4, g5, g6, ?_⟩
      by_cases e : q = r
      · subst e; exact e3 (by rw [g4]; exact nI_neg1 (by omega))
      · have := g7 e
        unfold stat at this ⊢
        rw [e1 q e]; exact this
  have hcur : ¬ fc (T * 10 + r) = -1 → (need fc T (wof fw T) r → fg (T * 10 + r) = -1) ∧ (fg (T * 10 + r) = -1 ∨ ∃ x, fg (T * 10 + r) = nI x ∧ x < 100000 ∧ bd r x) := by
    intro hne
    rcases h1 r hr with z | ⟨p, o, _, _, _, _, _, _, _, g8⟩
    · exact absurd z.1 hne
    · exact g8 rfl
  unfold f_X2_letLeave
  by_cases c1 : fc (T * 10 + r) = -1
  · rw [if_pos c1]
    exact fin fg (fun _ _ => rfl) (fun _ => rfl) (fun z => absurd c1 z)
  · rw [if_neg c1]
    obtain ⟨k1, k2⟩ := hcur c1
    by_cases c2 : f_X2_isNeeded T r fw fc = true
    · rw [if_pos c2]
      have hn := (needed_iff hr).mp c2
      exact fin fg (fun _ _ => rfl) (fun _ => rfl) (fun _ => Or.inl ⟨hn, k1 hn⟩)
    · rw [if_neg c2]
      have hn : ¬ need fc T (wof fw T) r := fun q => c2 ((needed_iff hr).mpr q)
      by_cases c3 : fg (T * 10 + r) = -1
      · rw [if_pos c3]
        refine fin _ (fun q hq => pk_un (by omega)) (fun z => absurd z c1) (fun _ => Or.inr ⟨hn, s + 3, ?_, hs2, hbd⟩)
        rw [pk_us, hs, nI_add]
      · rw [if_neg c3]
        exact fin fg (fun _ _ => rfl) (fun _ => rfl) (fun _ => Or.inr ⟨hn, k2.resolve_left c3⟩)
theorem letLeave_fr {T p : Nat} {sec : Int32} {fw fc fg : Nat → Int32} (hp : p < 10) : Fr T fg (f_X2_letLeave T p sec fw fc fg) := by
  intro e he
  unfold f_X2_letLeave
  split
  · rfl
  · split
    · rfl
    · split
      · exact pk_un (by omega)
      · rfl
/-- a router leaves: one tree -/
theorem unwant_FI {rh fr fw : Nat → Int32} {D : Nat → Nat → Nat} {t : Nat} {sec : Int32} {fc fg : Nat → Int32} (h : FI rh D fr fw (bnd t) fc fg) {T r : Nat} (hT : T < 44) (hr : r < 10) (hs : sec = nI t) (ht : t + 3 < 100000) :
    FI rh D fr (upd fw T ((fw T) &&& (((nI 1) <<< ((nI r) &&& 31)) ^^^ (-1)))) (bnd t) fc (f_X2_letLeave T r sec (upd fw T ((fw T) &&& (((nI 1) <<< ((nI r) &&& 31)) ^^^ (-1)))) fc fg) := by
  have hw : ∀ q, q < 10 → wof (upd fw T ((fw T) &&& (((nI 1) <<< ((nI r) &&& 31)) ^^^ (-1)))) T q = (wof fw T q && !decide (q = r)) := fun q hq => by
    unfold wof
    rw [pk_us, b_and, bt_not (by omega) (by omega)]
  generalize hfw : upd fw T ((fw T) &&& (((nI 1) <<< ((nI r) &&& 31)) ^^^ (-1))) = fw' at hw ⊢
  have hne : ∀ S, ¬ S = T → fw' S = fw S := fun S hS => by rw [← hfw]; exact pk_un hS
  have hwo : ∀ q, q < 10 → ¬ q = r → wof fw' T q = wof fw T q := fun q hq e => by rw [hw q hq, decide_eq_false e]; simp
  have hws : ∀ q, q < 10 → wof fw' T q = true → wof fw T q = true := fun q hq e => by
    rw [hw q hq] at e
    cases z : wof fw T q
    · rw [z] at e; cases e
    · rfl
  obtain ⟨g1, g2⟩ := h T hT
  refine FI_upd h T hne (Fr.refl _) (letLeave_fr hr) (letLeave_TI hr hs ht ⟨by omega, Nat.le_refl _⟩ (fun q hq => ?_) (fun q o hq ho e hwq => g2 q o hq ho e (hws q hq hwq)))
  rcases g1 q hq with z | ⟨p, o, a1, a2, a3, a4, a5, a6, a7⟩
  · exact Or.inl z
  · refine Or.inr ⟨p, o, a1, a2, a3, a4, a5, a6, fun e => stat_congr (hwo q hq e).symm a7, fun e => ?_⟩
    subst e
    rcases a7 with ⟨b1, b2⟩ | ⟨b1, x, b2, b3, b4⟩
    · exact ⟨fun _ => b2, Or.inl b2⟩
    · refine ⟨fun hn => ?_, Or.inr ⟨x, b2, b3, b4⟩⟩
      exact absurd (hn.elim (fun z => Or.inl (hws q hq z)) Or.inr) b1
/-- a tree built anew, router by router -/
theorem build_L26 {rc rl rh fr fw : Nat → Int32} {C D : Nat → Nat → Nat} (hR : Rt rc rl rh C D) {bd : Nat → Nat → Prop} {T : Nat} (hro : fr T = -1 ∨ ∃ o : Nat, o < 10 ∧ fr T = nI o) : ∀ (n k : Nat) (fc fg : Nat → Int32), k + n = 10 → TI rh D (fr T) (fun i => wof fw T i && decide (i < k)) bd T fc fg →
    TI rh D (fr T) (wof fw T) bd T (f_X2_buildAnew_L26 rh fr fw T n k fc fg).1 (f_X2_buildAnew_L26 rh fr fw T n k fc fg).2 := by
  intro n
  induction n with
  | zero =>
    intro k fc fg hk h
    rw [f_X2_buildAnew_L26]
    exact h.congr (fun i hi => by rw [decide_eq_true (show i < k by omega), Bool.and_true])
  | succ n ih =>
    intro k fc fg hk h
    rw [f_X2_buildAnew_L26, has_bt _ (by omega)]
    by_cases c : bt (fw T) k = true
    · rw [if_pos c]
      refine ih (k + 1) _ _ (by omega) ((graft_TI hR (show k < 10 by omega) hro h).congr (fun i hi => ?_))
      by_cases e : i = k
      · subst e
        rw [wadd_self, decide_eq_true (show i < i + 1 by omega), Bool.and_true]; exact c.symm
      · rw [wadd_other e]
        by_cases e2 : i < k
        · rw [decide_eq_true e2, decide_eq_true (show i < k + 1 by omega)]
        · rw [decide_eq_false e2, decide_eq_false (show ¬ i < k + 1 by omega)]
    · rw [if_neg c]
      refine ih (k + 1) _ _ (by omega) (h.congr (fun i hi => ?_))
      by_cases e : i = k
      · subst e
        have c' : wof fw T i = false := Bool.eq_false_iff.mpr c
        rw [c', Bool.false_and, Bool.false_and]
      · by_cases e2 : i < k
        · rw [decide_eq_true e2, decide_eq_true (show i < k + 1 by omega)]
        · rw [decide_eq_false e2, decide_eq_false (show ¬ i < k + 1 by omega)]
theorem build_fr {rh fr fw : Nat → Int32} {T : Nat} : ∀ (n k : Nat) (fc fg : Nat → Int32), Fr T fc (f_X2_buildAnew_L26 rh fr fw T n k fc fg).1 ∧ Fr T fg (f_X2_buildAnew_L26 rh fr fw T n k fc fg).2 := by
  intro n
  induction n with
  | zero => intro k fc fg; rw [f_X2_buildAnew_L26]; exact ⟨Fr.refl _, Fr.refl _⟩
  | succ n ih =>
    intro k fc fg
    rw [f_X2_buildAnew_L26]
    split
    · obtain ⟨h1, h2⟩ := graft_fr (rh := rh) (fr := fr) (fc := fc) (fg := fg) (T := T) (r := k)
      obtain ⟨h3, h4⟩ := ih (k + 1) (f_X2_graft T k rh fr fc fg).1 (f_X2_graft T k rh fr fc fg).2
      exact ⟨h1.trans h3, h2.trans h4⟩
    · exact ih (k + 1) fc fg
theorem build_L18 {rc rl rh fr fw : Nat → Int32} {C D : Nat → Nat → Nat} (hR : Rt rc rl rh C D) (hro : RoOk fr) {B : Nat → Nat → Nat → Prop} : ∀ (n k : Nat) (fc fg : Nat → Int32), k + n = 44 →
    (∀ T, T < k → TI rh D (fr T) (wof fw T) (B T) T fc fg) → (∀ T, k ≤ T → ∀ i, i < 10 → fc (T * 10 + i) = -1 ∧ fg (T * 10 + i) = -1) → FI rh D fr fw B (f_X2_buildAnew_L18 rh fr fw n k fc fg).1 (f_X2_buildAnew_L18 rh fr fw n k fc fg).2 := by
  intro n
  induction n with
  | zero =>
    intro k fc fg hk h1 _
    rw [f_X2_buildAnew_L18]
    exact fun T hT => h1 T (by omega)
  | succ n ih =>
    intro k fc fg hk h1 h2
    rw [f_X2_buildAnew_L18]
    obtain ⟨f1, f2⟩ := build_fr (rh := rh) (fr := fr) (fw := fw) (T := k) 10 0 fc fg
    refine ih (k + 1) _ _ (by omega) (fun T hT => ?_) (fun T hT i hi => ?_)
    · by_cases e : T = k
      · subst e
        refine build_L26 hR (hro T (by omega)) 10 0 fc fg rfl ⟨fun r hr => Or.inl (h2 T (Nat.le_refl _) r hr), fun r o hr ho _ hw => ?_⟩
        have hw : (wof fw T r && decide (r < 0)) = true := hw
        rw [decide_eq_false (Nat.not_lt_zero r), Bool.and_false] at hw; cases hw
      · exact (h1 T (by omega)).rows (SR_of f1 e) (SR_of f2 e)
    · rw [f1 _ (by omega), f2 _ (by omega)]
      exact h2 T (by omega) i hi
/-- all trees built anew -/
theorem build_FI {rc rl rh fr fw : Nat → Int32} {C D : Nat → Nat → Nat} (hR : Rt rc rl rh C D) (hro : RoOk fr) {B : Nat → Nat → Nat → Prop} : FI rh D fr fw B (f_X2_buildAnew rh fr fw).1 (f_X2_buildAnew rh fr fw).2 := by
  unfold f_X2_buildAnew
  exact build_L18 hR hro 44 0 _ _ rfl (fun T h => absurd h (Nat.not_lt_zero _)) (fun T _ i _ => ⟨rfl, rfl⟩)
/-- and none is leaving then -/
theorem graft_none {rh fr fg : Nat → Int32} {T : Nat} (h : ∀ e, fg e = -1) : ∀ (n k : Nat) (x : Int32) (fc : Nat → Int32) (e : Nat), (f_X2_graft_L13 T rh fr fg n k x fc).2 e = -1 := by
  intro n
  induction n with
  | zero => intro k x fc e; rw [f_X2_graft_L13]; exact h e
  | succ n ih =>
    intro k x fc e
    rw [f_X2_graft_L13]
    split
    · split
      · exact h e
      · split
        · exact ih _ _ _ e
        · show upd fg _ (-1) e = -1
          by_cases c : e = T * 10 + x.toNatClampNeg
          · subst c; exact pk_us
          · rw [pk_un c]; exact h e
    · exact h e
theorem build_none26 {rh fr fw : Nat → Int32} {T : Nat} : ∀ (n k : Nat) (fc fg : Nat → Int32), (∀ e, fg e = -1) → ∀ e, (f_X2_buildAnew_L26 rh fr fw T n k fc fg).2 e = -1 := by
  intro n
  induction n with
  | zero => intro k fc fg h e; rw [f_X2_buildAnew_L26]; exact h e
  | succ n ih =>
    intro k fc fg h
    rw [f_X2_buildAnew_L26]
    split
    · refine ih _ _ _ (fun e => ?_)
      unfold f_X2_graft
      exact graft_none h 10 0 _ fc e
    · exact ih _ _ _ h
theorem build_none {rh fr fw : Nat → Int32} : ∀ e, (f_X2_buildAnew rh fr fw).2 e = -1 := by
  unfold f_X2_buildAnew
  have key : ∀ (n k : Nat) (fc fg : Nat → Int32), (∀ e, fg e = -1) → ∀ e, (f_X2_buildAnew_L18 rh fr fw n k fc fg).2 e = -1 := by
    intro n
    induction n with
    | zero => intro k fc fg h e; rw [f_X2_buildAnew_L18]; exact h e
    | succ n ih =>
      intro k fc fg h
      rw [f_X2_buildAnew_L18]
      exact ih _ _ _ (build_none26 10 0 fc fg h)
  exact key 44 0 _ _ (fun _ => rfl)
