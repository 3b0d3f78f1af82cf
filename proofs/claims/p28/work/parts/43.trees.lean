/-! trees: what holds of each, and grafting keeps it -/
/-- how many routers are nearer than v to the router o -/
def near (D : Nat → Nat → Nat) (o v : Nat) : Nat → Nat
  | 0 => 0
  | n + 1 => near D o v n + if D n o < v then 1 else 0
theorem near_le (D : Nat → Nat → Nat) (o v : Nat) : ∀ n, near D o v n ≤ n := by
  intro n
  induction n with
  | zero => exact Nat.le_refl _
  | succ n ih => rw [near]; split <;> omega
theorem near_lt {D : Nat → Nat → Nat} {o v : Nat} : ∀ (n x : Nat), x < n → ¬ D x o < v → near D o v n + 1 ≤ n := by
  intro n
  induction n with
  | zero => intro x h; omega
  | succ n ih =>
    intro x hx h
    rw [near]
    by_cases e : x = n
    · subst e
      rw [if_neg h]
      have := near_le D o v x
      omega
    · have := ih x (by omega) h
      split <;> omega
theorem near_mono {D : Nat → Nat → Nat} {o v w : Nat} (h : v ≤ w) : ∀ n, near D o v n ≤ near D o w n := by
  intro n
  induction n with
  | zero => exact Nat.le_refl _
  | succ n ih => rw [near, near]; split <;> split <;> omega
theorem near_strict {D : Nat → Nat → Nat} {o v w : Nat} (h : v ≤ w) : ∀ (n x : Nat), x < n → ¬ D x o < v → D x o < w → near D o v n + 1 ≤ near D o w n := by
  intro n
  induction n with
  | zero => intro x hx; omega
  | succ n ih =>
    intro x hx h1 h2
    rw [near, near]
    by_cases e : x = n
    · subst e
      rw [if_neg h1, if_pos h2]
      have := near_mono (D := D) (o := o) h x
      omega
    · have := ih x (by omega) h1 h2
      split <;> split <;> omega
def rank (D : Nat → Nat → Nat) (o x : Nat) : Nat := near D o (D x o) 10
theorem rank_lt {D : Nat → Nat → Nat} {o x : Nat} (hx : x < 10) : rank D o x + 1 ≤ 10 := near_lt 10 x hx (Nat.lt_irrefl _)
theorem rank_dec {D : Nat → Nat → Nat} {o x y : Nat} (hy : y < 10) (h : D y o < D x o) : rank D o y + 1 ≤ rank D o x := near_strict (Nat.le_of_lt h) 10 y hy (Nat.lt_irrefl _) h
/-- a router is needed: it wants the tree, or there are branches from it -/
def need (fc : Nat → Int32) (T : Nat) (w : Nat → Bool) (r : Nat) : Prop := w r = true ∨ ∃ i, i < 10 ∧ fc (T * 10 + i) = nI r
/-- the branch to a router stays, since it is needed, or is leaving, since it is not -/
def stat (fc fg : Nat → Int32) (T : Nat) (w : Nat → Bool) (bd : Nat → Nat → Prop) (r : Nat) : Prop := (need fc T w r ∧ fg (T * 10 + r) = -1) ∨ (¬ need fc T w r ∧ ∃ x, fg (T * 10 + r) = nI x ∧ x < 100000 ∧ bd r x)
/-- a tree: each branch comes from the next hop to the root, which is the root or has a branch itself; who wants the tree and can come to the root is on it; bd: when what is leaving goes -/
def TI (rh : Nat → Int32) (D : Nat → Nat → Nat) (ro : Int32) (w : Nat → Bool) (bd : Nat → Nat → Prop) (T : Nat) (fc fg : Nat → Int32) : Prop :=
  (∀ r, r < 10 → (fc (T * 10 + r) = -1 ∧ fg (T * 10 + r) = -1) ∨ ∃ p o, p < 10 ∧ o < 10 ∧ ro = nI o ∧ fc (T * 10 + r) = nI p ∧ rh (r * 10 + o) = nI p ∧ (p = o ∨ ¬ fc (T * 10 + p) = -1) ∧ stat fc fg T w bd r) ∧
  ∀ r o, r < 10 → o < 10 → ro = nI o → w r = true → ¬ r = o → D r o < 1000000 → ¬ fc (T * 10 + r) = -1
theorem TI.mono {rh : Nat → Int32} {D : Nat → Nat → Nat} {ro : Int32} {w : Nat → Bool} {bd bd' : Nat → Nat → Prop} {T : Nat} {fc fg : Nat → Int32} (h : TI rh D ro w bd T fc fg) (hb : ∀ r x, r < 10 → fg (T * 10 + r) = nI x → x < 100000 → bd r x → bd' r x) : TI rh D ro w bd' T fc fg := by
  refine ⟨fun r hr => (h.1 r hr).imp id ?_, h.2⟩
  rintro ⟨p, o, h1, h2, h3, h4, h5, h6, h7⟩
  exact ⟨p, o, h1, h2, h3, h4, h5, h6, h7.imp id (fun ⟨a, x, b, c, d⟩ => ⟨a, x, b, c, hb r x hr b c d⟩)⟩
theorem need_congr {fc : Nat → Int32} {T : Nat} {w w' : Nat → Bool} {r : Nat} (h : w r = w' r) : need fc T w r ↔ need fc T w' r := by unfold need; rw [h]
theorem stat_congr {fc fg : Nat → Int32} {T : Nat} {w w' : Nat → Bool} {bd : Nat → Nat → Prop} {r : Nat} (h : w r = w' r) (hs : stat fc fg T w bd r) : stat fc fg T w' bd r := by
  unfold stat at hs ⊢
  rw [← need_congr (w := w) (w' := w') h]; exact hs
theorem TI.congr {rh : Nat → Int32} {D : Nat → Nat → Nat} {ro : Int32} {w w' : Nat → Bool} {bd : Nat → Nat → Prop} {T : Nat} {fc fg : Nat → Int32} (h : TI rh D ro w bd T fc fg) (hw : ∀ r, r < 10 → w r = w' r) : TI rh D ro w' bd T fc fg := by
  refine ⟨fun r hr => (h.1 r hr).imp id ?_, fun r o hr ho e hwr => h.2 r o hr ho e (by rw [hw r hr]; exact hwr)⟩
  rintro ⟨p, o, h1, h2, h3, h4, h5, h6, h7⟩
  exact ⟨p, o, h1, h2, h3, h4, h5, h6, stat_congr (hw r hr) h7⟩
/-- the rows of a tree -/
def SR (T : Nat) (x y : Nat → Int32) : Prop := ∀ e, e / 10 = T → x e = y e
theorem TI.rows {rh : Nat → Int32} {D : Nat → Nat → Nat} {ro : Int32} {w : Nat → Bool} {bd : Nat → Nat → Prop} {T : Nat} {fc fg fc' fg' : Nat → Int32} (h : TI rh D ro w bd T fc fg) (h1 : SR T fc fc') (h2 : SR T fg fg') : TI rh D ro w bd T fc' fg' := by
  have e1 : ∀ i, i < 10 → fc' (T * 10 + i) = fc (T * 10 + i) := fun i hi => (h1 _ (by omega)).symm
  have e2 : ∀ i, i < 10 → fg' (T * 10 + i) = fg (T * 10 + i) := fun i hi => (h2 _ (by omega)).symm
  have en : ∀ r, need fc' T w r ↔ need fc T w r := by
    intro r
    unfold need
    constructor
    · rintro (q | ⟨i, hi, q⟩)
      · exact Or.inl q
      · exact Or.inr ⟨i, hi, (e1 i hi).symm.trans q⟩
    · rintro (q | ⟨i, hi, q⟩)
      · exact Or.inl q
      · exact Or.inr ⟨i, hi, (e1 i hi).trans q⟩
  refine ⟨fun r hr => ?_, fun r o hr ho e hwr => ?_⟩
  · rw [e1 r hr, e2 r hr]
    refine (h.1 r hr).imp id ?_
    rintro ⟨p, o, g1, g2, g3, g4, g5, g6, g7⟩
    refine ⟨p, o, g1, g2, g3, g4, g5, by rw [e1 p g1]; exact g6, ?_⟩
    unfold stat at g7 ⊢
    rw [en r, e2 r hr]; exact g7
  · rw [e1 r hr]; exact h.2 r o hr ho e hwr
/-- a tree while the router x is being grafted -/
def GI (rh : Nat → Int32) (D : Nat → Nat → Nat) (o : Nat) (w : Nat → Bool) (bd : Nat → Nat → Prop) (T : Nat) (fc fg : Nat → Int32) (x : Nat) : Prop :=
  (∀ r, r < 10 → (fc (T * 10 + r) = -1 ∧ fg (T * 10 + r) = -1) ∨ ∃ p, p < 10 ∧ fc (T * 10 + r) = nI p ∧ rh (r * 10 + o) = nI p ∧ (p = o ∨ ¬ fc (T * 10 + p) = -1 ∨ p = x) ∧ (¬ r = x → stat fc fg T w bd r)) ∧
  (∀ r, r < 10 → w r = true → ¬ r = o → D r o < 1000000 → ¬ fc (T * 10 + r) = -1 ∨ r = x) ∧ need fc T w x
theorem graft_m1 {T n k : Nat} {rh fr fg fc : Nat → Int32} : f_X2_graft_L13 T rh fr fg n k (-1) fc = (fc, fg) := by
  cases n with
  | zero => rw [f_X2_graft_L13]
  | succ n => rw [f_X2_graft_L13, if_neg (by rw [isRouter_m1]; decide)]
theorem graft_L {rc rl rh fr fg : Nat → Int32} {C D : Nat → Nat → Nat} (hR : Rt rc rl rh C D) {w : Nat → Bool} {bd : Nat → Nat → Prop} {T o : Nat} (ho : o < 10) (hfr : fr T = nI o) : ∀ (n k x : Nat) (fc : Nat → Int32), x < 10 → rank D o x + 1 ≤ n → GI rh D o w bd T fc fg x →
    TI rh D (nI o) w bd T (f_X2_graft_L13 T rh fr fg n k (nI x) fc).1 (f_X2_graft_L13 T rh fr fg n k (nI x) fc).2 := by
  intro n
  induction n with
  | zero => intro k x fc hx hr; omega
  | succ n ih =>
    intro k x fc hx hrk h
    obtain ⟨g1, g2, g3⟩ := h
    rw [f_X2_graft_L13, if_pos (isRouter_nI hx), nI_clamp (by omega), hfr]
    by_cases c : x = o
    · rw [if_pos (by rw [c])]
      subst c
      refine ⟨fun r hr => ?_, fun r o' hr ho' e hwr hne hd => ?_⟩
      · rcases g1 r hr with q | ⟨p, h1, h2, h3, h4, h5⟩
        · exact Or.inl q
        · by_cases e : r = x
          · subst e
            rcases Rt_hop hR hr ho with ⟨q, -⟩ | ⟨_, _, _, q, _⟩
            · rw [q] at h3; exact absurd h3 (nI_m1 (by omega))
            · exact absurd rfl q
          · exact Or.inr ⟨p, x, h1, ho, rfl, h2, h3, h4.elim Or.inl (fun q => q.elim Or.inr Or.inl), h5 e⟩
      · have e2 : x = o' := (nI_eq (by omega) (by omega)).mp e
        subst e2
        exact (g2 r hr hwr hne hd).resolve_right hne
    · rw [if_neg (fun q => c ((nI_eq (by omega) (by omega)).mp q))]
      by_cases c2 : fc (T * 10 + x) = -1
      · rw [if_pos c2, hopOf_nI hx ho]
        have hg0 : fg (T * 10 + x) = -1 := by
          rcases g1 x hx with q | ⟨p, h1, h2, _⟩
          · exact q.2
          · rw [c2] at h2; exact absurd h2 (nI_m1 (by omega))
        rcases Rt_hop hR hx ho with ⟨q, q2⟩ | ⟨y, hy, hyr, -, hdx, hcy, hdy⟩
        · -- no way to the root
          have hnd : ¬ D x o < 1000000 := q2.resolve_left c
          rw [q, graft_m1, upd_same c2]
          refine ⟨fun r hr => ?_, fun r o' hr ho' e hwr hne hd => ?_⟩
          · rcases g1 r hr with z | ⟨p, h1, h2, h3, h4, h5⟩
            · exact Or.inl z
            · have hrx : ¬ r = x := fun e => by subst e; rw [c2] at h2; exact nI_m1 (by omega) h2
              have hpx : ¬ p = x := fun e => by
                subst e
                rcases Rt_hop hR hr ho with ⟨z, -⟩ | ⟨k', hk', z, _, hdr, hc', hd'⟩
                · rw [z] at h3; exact nI_m1 (by omega) h3
                · have : k' = p := (nI_eq (by omega) (by omega)).mp (z.symm.trans h3)
                  subst this
                  omega
              exact Or.inr ⟨p, o, h1, ho, rfl, h2, h3, h4.elim Or.inl (fun z => z.elim Or.inr (fun z => absurd z hpx)), h5 hrx⟩
          · have e2 : o = o' := (nI_eq (by omega) (by omega)).mp e
            subst e2
            exact (g2 r hr hwr hne hd).resolve_right (fun z => hnd (z ▸ hd))
        · -- a branch from the next hop
          rw [hyr]
          have hyx : ¬ y = x := fun e => by subst e; omega
          have ux : upd fc (T * 10 + x) (nI y) (T * 10 + x) = nI y := pk_us
          have un : ∀ i, ¬ i = x → upd fc (T * 10 + x) (nI y) (T * 10 + i) = fc (T * 10 + i) := fun i hi => pk_un (by omega)
          have keep : ∀ i, ¬ fc (T * 10 + i) = -1 → ¬ upd fc (T * 10 + x) (nI y) (T * 10 + i) = -1 := fun i hi => by
            by_cases e : i = x
            · subst e; exact absurd c2 hi
            · rw [un i e]; exact hi
          have nd : ∀ r, ¬ r = y → r < 10 → (need (upd fc (T * 10 + x) (nI y)) T w r ↔ need fc T w r) := by
            intro r hr hr10
            unfold need
            constructor
            · rintro (z | ⟨i, hi, z⟩)
              · exact Or.inl z
              · by_cases e : i = x
                · subst e; rw [ux] at z; exact absurd ((nI_eq (by omega) (by omega)).mp z).symm hr
                · rw [un i e] at z; exact Or.inr ⟨i, hi, z⟩
            · rintro (z | ⟨i, hi, z⟩)
              · exact Or.inl z
              · by_cases e : i = x
                · subst e; rw [c2] at z; exact absurd z (nI_m1 (by omega))
                · exact Or.inr ⟨i, hi, by rw [un i e]; exact z⟩
          have hrk2 := rank_dec (D := D) (o := o) (x := x) hy (by omega)
          refine ih (k + 1) y _ hy (by omega) ⟨fun r hr => ?_, fun r hr hwr hne hd => ?_, ?_⟩
          · by_cases e : r = x
            · subst e
              refine Or.inr ⟨y, hy, ux, hyr, Or.inr (Or.inr rfl), fun _ => ?_⟩
              exact Or.inl ⟨(nd r (fun z => hyx z.symm) hr).mpr g3, hg0⟩
            · rw [un r e]
              rcases g1 r hr with z | ⟨p, h1, h2, h3, h4, h5⟩
              · exact Or.inl z
              · refine Or.inr ⟨p, h1, h2, h3, ?_, fun hry => ?_⟩
                · rcases h4 with z | z | z
                  · exact Or.inl z
                  · exact Or.inr (Or.inl (keep p z))
                  · subst z; exact Or.inr (Or.inl (by rw [ux]; exact nI_neg1 (by omega)))
                · have := h5 e
                  unfold stat at this ⊢
                  rw [nd r hry hr]; exact this
          · by_cases e : r = x
            · subst e; exact Or.inl (by rw [ux]; exact nI_neg1 (by omega))
            · exact Or.inl (keep r ((g2 r hr hwr hne hd).resolve_right e))
          · exact Or.inr ⟨x, hx, ux⟩
      · rw [if_neg c2]
        have un : ∀ i, ¬ i = x → upd fg (T * 10 + x) (-1) (T * 10 + i) = fg (T * 10 + i) := fun i hi => pk_un (by omega)
        show TI rh D (nI o) w bd T fc (upd fg (T * 10 + x) (-1))
        refine ⟨fun r hr => ?_, fun r o' hr ho' e hwr hne hd => ?_⟩
        · rcases g1 r hr with z | ⟨p, h1, h2, h3, h4, h5⟩
          · by_cases e : r = x
            · subst e; exact absurd z.1 c2
            · exact Or.inl ⟨z.1, by rw [un r e]; exact z.2⟩
          · refine Or.inr ⟨p, o, h1, ho, rfl, h2, h3, ?_, ?_⟩
            · rcases h4 with z | z | z
              · exact Or.inl z
              · exact Or.inr z
              · subst z; exact Or.inr c2
            · by_cases e : r = x
              · subst e; exact Or.inl ⟨g3, pk_us⟩
              · have := h5 e
                unfold stat at this ⊢
                rw [un r e]; exact this
        · have e2 : o = o' := (nI_eq (by omega) (by omega)).mp e
          subst e2
          rcases g2 r hr hwr hne hd with z | z
          · exact z
          · subst z; exact c2
/-- with one router more that wants the tree -/
def wadd (w : Nat → Bool) (r : Nat) : Nat → Bool := fun i => w i || decide (i = r)
theorem wadd_self {w : Nat → Bool} {r : Nat} : wadd w r r = true := by unfold wadd; rw [decide_eq_true rfl, Bool.or_true]
theorem wadd_other {w : Nat → Bool} {r i : Nat} (h : ¬ i = r) : wadd w r i = w i := by unfold wadd; rw [decide_eq_false h, Bool.or_false]
theorem graft_TI {rc rl rh fr : Nat → Int32} {C D : Nat → Nat → Nat} (hR : Rt rc rl rh C D) {w : Nat → Bool} {bd : Nat → Nat → Prop} {T r : Nat} (hr : r < 10) (hro : fr T = -1 ∨ ∃ o : Nat, o < 10 ∧ fr T = nI o) {fc fg : Nat → Int32} (h : TI rh D (fr T) w bd T fc fg) :
    TI rh D (fr T) (wadd w r) bd T (f_X2_graft T r rh fr fc fg).1 (f_X2_graft T r rh fr fc fg).2 := by
  unfold f_X2_graft
  rcases hro with q | ⟨o, ho, q⟩
  · have hfc : fc (T * 10 + r) = -1 := by
      rcases h.1 r hr with z | ⟨p, o, _, ho, z, _⟩
      · exact z.1
      · rw [q] at z; exact absurd z (nI_m1 (by omega))
    rw [f_X2_graft_L13, if_pos (isRouter_nI hr), nI_clamp (by omega), q, if_neg (nI_neg1 (by omega)), if_pos hfc, hopOf_m1, graft_m1, upd_same hfc]
    refine ⟨fun r' hr' => ?_, fun r' o hr' ho z => absurd z (nI_m1 (by omega))⟩
    rcases h.1 r' hr' with z | ⟨p, o, _, ho, z, _⟩
    · exact Or.inl z
    · rw [q] at z; exact absurd z (nI_m1 (by omega))
  · rw [q]
    rw [q] at h
    refine graft_L hR ho q 10 0 r fc hr (rank_lt hr) ⟨fun r' hr' => ?_, fun r' hr' hwr hne hd => ?_, Or.inl wadd_self⟩
    · rcases h.1 r' hr' with z | ⟨p, o', h1, h2, h3, h4, h5, h6, h7⟩
      · exact Or.inl z
      · have e : o = o' := (nI_eq (by omega) (by omega)).mp h3
        subst e
        exact Or.inr ⟨p, h1, h4, h5, h6.elim Or.inl (fun z => Or.inr (Or.inl z)), fun e => stat_congr (wadd_other e).symm h7⟩
    · by_cases e : r' = r
      · exact Or.inr e
      · rw [wadd_other e] at hwr
        exact Or.inl (h.2 r' o hr' ho rfl hwr hne hd)
theorem graft_fr_L {rh fr fg : Nat → Int32} {T : Nat} : ∀ (n k : Nat) (x : Int32) (fc : Nat → Int32), Fr T fc (f_X2_graft_L13 T rh fr fg n k x fc).1 ∧ Fr T fg (f_X2_graft_L13 T rh fr fg n k x fc).2 := by
  intro n
  induction n with
  | zero => intro k x fc; rw [f_X2_graft_L13]; exact ⟨Fr.refl _, Fr.refl _⟩
  | succ n ih =>
    intro k x fc
    rw [f_X2_graft_L13]
    by_cases c : f_X5_isRouter_r x = true
    · rw [if_pos c]
      have hx := (isRouter_r c).2
      by_cases c2 : nI x.toNatClampNeg = fr T
      · rw [if_pos c2]; exact ⟨Fr.refl _, Fr.refl _⟩
      · rw [if_neg c2]
        by_cases c3 : fc (T * 10 + x.toNatClampNeg) = -1
        · rw [if_pos c3]
          obtain ⟨h1, h2⟩ := ih (k + 1) (f_X4_hopOf_r x.toNatClampNeg (fr T) rh) (upd fc (T * 10 + x.toNatClampNeg) (f_X4_hopOf_r x.toNatClampNeg (fr T) rh))
          exact ⟨(Fr_upd _ (by omega)).trans h1, h2⟩
        · rw [if_neg c3]; exact ⟨Fr.refl _, Fr_upd _ (by omega)⟩
    · rw [if_neg c]; exact ⟨Fr.refl _, Fr.refl _⟩
theorem graft_fr {rh fr fc fg : Nat → Int32} {T r : Nat} : Fr T fc (f_X2_graft T r rh fr fc fg).1 ∧ Fr T fg (f_X2_graft T r rh fr fc fg).2 := by
  unfold f_X2_graft
  exact graft_fr_L 10 0 _ fc
