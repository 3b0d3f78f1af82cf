/-! a second passes; seconds pass -/
def ind (B : Nat) (z : Int32) : Nat := if 0 ≤ z ∧ z ≤ nI B then 1 else 0
def lv (z : Int32) : Nat := if z = -1 then 0 else 1
theorem ind_le (B : Nat) (z : Int32) : ind B z ≤ 1 := by unfold ind; split <;> omega
theorem ind_m1 (B : Nat) : ind B (-1) = 0 := by unfold ind; rw [if_neg (fun h => absurd h.1 (by decide))]
theorem ind_nI {B x : Nat} (hx : x < 2 ^ 31) (hB : B < 2 ^ 31) : ind B (nI x) = if x ≤ B then 1 else 0 := by
  unfold ind
  by_cases c : x ≤ B
  · rw [if_pos c, if_pos ⟨nI_pos' hx, (nI_leI hx hB).mpr c⟩]
  · rw [if_neg c, if_neg (fun h => c ((nI_leI hx hB).mp h.2))]
theorem lv_m1 : lv (-1) = 0 := if_pos rfl
theorem lv_nI {x : Nat} (hx : x < 2 ^ 31) : lv (nI x) = 1 := if_neg (nI_neg1 hx)
theorem leaving_sm {fg : Nat → Int32} : f_X2_leavingBranches fg = nI (sm (fun e => lv (fg e)) 440) := by
  have key : ∀ (n k : Nat), k + n = 440 → f_X2_leavingBranches_L4 fg n k (nI (sm (fun e => lv (fg e)) k)) = nI (sm (fun e => lv (fg e)) 440) := by
    intro n
    induction n with
    | zero => intro k hk; obtain rfl : k = 440 := by omega
              rw [f_X2_leavingBranches_L4]
    | succ n ih =>
      intro k hk
      rw [f_X2_leavingBranches_L4]
      have hs : sm (fun e => lv (fg e)) (k + 1) = sm (fun e => lv (fg e)) k + lv (fg k) := by rw [sm]
      have := ih (k + 1) (by omega)
      by_cases c : fg k = -1
      · rw [if_pos c]
        rw [hs, c, lv_m1, Nat.add_zero] at this
        exact this
      · rw [if_neg c, nI_add]
        have e1 : lv (fg k) = 1 := if_neg c
        rw [hs, e1] at this
        exact this
  unfold f_X2_leavingBranches
  exact key 440 0 rfl
theorem letLeave_nI {T p : Nat} {sec : Int32} {fw fc fg : Nat → Int32} (h : p < 10) : f_X2_letLeave_r T (nI p) sec fw fc fg = f_X2_letLeave T p sec fw fc fg := by
  unfold f_X2_letLeave_r f_X2_letLeave f_X2_parentOf_r
  rw [if_pos (isRouter_nI h), nI_clamp (by omega)]
theorem letLeave_ind {T p s B : Nat} {sec : Int32} {fw fc fg : Nat → Int32} (hs : sec = nI s) (hs2 : s + 3 < 100000) (hB : B < s + 3) (e : Nat) : ind B (f_X2_letLeave T p sec fw fc fg e) = ind B (fg e) := by
  unfold f_X2_letLeave
  split
  · rfl
  · split
    · rfl
    · split
      · rename_i h
        by_cases c : e = T * 10 + p
        · subst c
          rw [pk_us, h, ind_m1, hs, nI_add, ind_nI (by omega) (by omega), if_neg (by omega)]
        · rw [pk_un c]
      · rfl
/-- in the second t1: what is leaving goes then or later; before the place k nothing goes in it any more -/
def Bk (Q : Nat → Nat → Nat → Prop) (t1 k : Nat) (T r x : Nat) : Prop := Q T r x ∧ t1 ≤ x ∧ x ≤ t1 + 3 ∧ (x = t1 → k ≤ T * 10 + r)
def Bs (Q : Nat → Nat → Nat → Prop) (t : Nat) (T r x : Nat) : Prop := Q T r x ∧ t < x ∧ x ≤ t + 3
/-- Q goes on from a branch that goes in t1 to the one before it -/
def Qok (rh fr : Nat → Int32) (Q : Nat → Nat → Nat → Prop) (t1 : Nat) : Prop := ∀ T r p o, T < 44 → r < 10 → p < 10 → o < 10 → fr T = nI o → rh (r * 10 + o) = nI p → Q T r t1 → Q T p (t1 + 3)
theorem remove_FI {rc rl rh fr fw : Nat → Int32} {C D : Nat → Nat → Nat} (hR : Rt rc rl rh C D) {Q : Nat → Nat → Nat → Prop} {t1 k : Nat} {sec : Int32} {fc fg : Nat → Int32} (hQ : Qok rh fr Q t1) (h : FI rh D fr fw (Bk Q t1 k) fc fg) (hk : k < 440) (hs : sec = nI t1) (ht : t1 + 3 < 100000) (hd : fg k = sec) :
    FI rh D fr fw (Bk Q t1 (k + 1)) (upd fc k (-1)) (f_X2_letLeave_r (k / 10) (fc k) sec fw (upd fc k (-1)) (upd fg k (-1))) ∧ ∀ B, B < t1 + 3 → sm (fun e => ind B (fg e)) 440 ≤ sm (fun e => ind B (f_X2_letLeave_r (k / 10) (fc k) sec fw (upd fc k (-1)) (upd fg k (-1)) e)) 440 + 1 := by
  obtain ⟨T, r, hT, hr, rfl⟩ : ∃ T r, T < 44 ∧ r < 10 ∧ k = T * 10 + r := ⟨k / 10, k % 10, by omega, by omega, by omega⟩
  rw [show (T * 10 + r) / 10 = T by omega]
  obtain ⟨g1, g2⟩ := h T hT
  obtain ⟨p, o, hp, ho, hro, hfc, hrh, hpar, hst⟩ := (g1 r hr).resolve_left (fun z => by rw [hd, hs] at z; exact nI_neg1 (by omega) z.2)
  obtain ⟨hnn, x, hx, hx1, hq, hx2, hx3, hx4⟩ := hst.resolve_left (fun z => by rw [hd, hs] at z; exact nI_neg1 (by omega) z.2)
  have hxt : x = t1 := (nI_eq (by omega) (by omega)).mp (hx.symm.trans (hd.trans hs))
  rw [hxt] at hq
  rw [hfc, letLeave_nI hp]
  have hpr : ¬ p = r := by
    intro e
    subst e
    rcases Rt_hop hR hr ho with ⟨z, -⟩ | ⟨j, _, z, _, _, hc, hdd⟩
    · rw [z] at hrh; exact nI_m1 (by omega) hrh
    · have : j = p := (nI_eq (by omega) (by omega)).mp (z.symm.trans hrh)
      subst this; omega
  have ur : upd fc (T * 10 + r) (-1) (T * 10 + r) = -1 := pk_us
  have un : ∀ i, ¬ i = r → upd fc (T * 10 + r) (-1) (T * 10 + i) = fc (T * 10 + i) := fun i hi => pk_un (by omega)
  have gr : upd fg (T * 10 + r) (-1) (T * 10 + r) = -1 := pk_us
  have gn : ∀ i, ¬ i = r → upd fg (T * 10 + r) (-1) (T * 10 + i) = fg (T * 10 + i) := fun i hi => pk_un (by omega)
  have nd : ∀ q, q < 10 → ¬ q = p → (need (upd fc (T * 10 + r) (-1)) T (wof fw T) q ↔ need fc T (wof fw T) q) := by
    intro q hq hqp
    unfold need
    constructor
    · rintro (z | ⟨i, hi, z⟩)
      · exact Or.inl z
      · by_cases e : i = r
        · subst e; rw [ur] at z; exact absurd z (nI_m1 (by omega))
        · rw [un i e] at z; exact Or.inr ⟨i, hi, z⟩
    · rintro (z | ⟨i, hi, z⟩)
      · exact Or.inl z
      · by_cases e : i = r
        · subst e; rw [hfc] at z; exact absurd ((nI_eq (by omega) (by omega)).mp z).symm hqp
        · exact Or.inr ⟨i, hi, by rw [un i e]; exact z⟩
  refine ⟨fun S hS => ?_, fun B hB => ?_⟩
  · by_cases e : S = T
    · subst e
      refine letLeave_TI hp hs ht ⟨hQ S r p o hT hr hp ho hro hrh hq, by omega, by omega, fun z => by omega⟩ (fun q hq' => ?_) (fun q o' hq' ho' e' hwq hne hdq => ?_)
      · by_cases e : q = r
        · subst e; exact Or.inl ⟨ur, gr⟩
        · rw [un q e, gn q e]
          rcases g1 q hq' with z | ⟨p', o', a1, a2, a3, a4, a5, a6, a7⟩
          · exact Or.inl z
          · have hp'r : ¬ p' = r := fun z => hnn (Or.inr ⟨q, hq', by rw [a4, z]⟩)
            refine Or.inr ⟨p', o', a1, a2, a3, a4, a5, a6.imp id (fun z => by rw [un p' hp'r]; exact z), fun hqp => ?_, fun hqp => ?_⟩
            · unfold stat
              rw [nd q hq' hqp, gn q e]
              refine a7.imp id ?_
              rintro ⟨b1, y, b2, b3, b4, b5, b6, b7⟩
              exact ⟨b1, y, b2, b3, b4, b5, b6, fun z => by have := b7 z; omega⟩
            · subst hqp
              have hgp : fg (S * 10 + q) = -1 := by
                rcases a7 with z | z
                · exact z.2
                · exact absurd (Or.inr ⟨r, hr, hfc⟩) z.1
              rw [gn q e]
              exact ⟨fun _ => hgp, Or.inl hgp⟩
      · have hqr : ¬ q = r := fun z => by subst z; exact hnn (Or.inl hwq)
        rw [un q hqr]
        exact g2 q o' hq' ho' e' hwq hne hdq
    · have f1 : Fr T fc (upd fc (T * 10 + r) (-1)) := Fr_upd _ (by omega)
      have f2 : Fr T fg (f_X2_letLeave T p sec fw (upd fc (T * 10 + r) (-1)) (upd fg (T * 10 + r) (-1))) := Fr.trans (Fr_upd _ (by omega)) (letLeave_fr hp)
      refine ((h S hS).mono (fun q y hq' hy _ hb => ?_)).rows (SR_of f1 e) (SR_of f2 e)
      obtain ⟨b4, b5, b6, b7⟩ := hb
      exact ⟨b4, b5, b6, fun z => by have := b7 z; omega⟩
  · rw [sm_congr (f := fun e => ind B (f_X2_letLeave T p sec fw (upd fc (T * 10 + r) (-1)) (upd fg (T * 10 + r) (-1)) e)) (g := fun e => ind B (upd fg (T * 10 + r) (-1) e)) 440 (fun i _ => letLeave_ind hs ht hB i)]
    have h1 := sm_upd (I := ind B) (f := fg) (k := T * 10 + r) (v := -1) 440 (by omega)
    have h2 := ind_le B (fg (T * 10 + r))
    rw [ind_m1] at h1
    omega
theorem due_L {rc rl rh fr fw : Nat → Int32} {C D : Nat → Nat → Nat} (hR : Rt rc rl rh C D) {Q : Nat → Nat → Nat → Prop} {t1 : Nat} {sec : Int32} (hQ : Qok rh fr Q t1) (hs : sec = nI t1) (ht : t1 + 3 < 100000) : ∀ (n k gone : Nat) (fc fg : Nat → Int32), k + n = 440 → FI rh D fr fw (Bk Q t1 k) fc fg →
    FI rh D fr fw (Bs Q t1) (f_X2_removeDue_L4 sec fw n k (nI gone) fc fg).2.1 (f_X2_removeDue_L4 sec fw n k (nI gone) fc fg).2.2 ∧ ∃ gone', (f_X2_removeDue_L4 sec fw n k (nI gone) fc fg).1 = nI gone' ∧ gone ≤ gone' ∧ gone' ≤ gone + n ∧
      ∀ B, B < t1 + 3 → gone + sm (fun e => ind B (fg e)) 440 ≤ gone' + sm (fun e => ind B ((f_X2_removeDue_L4 sec fw n k (nI gone) fc fg).2.2 e)) 440 := by
  intro n
  induction n with
  | zero =>
    intro k gone fc fg hk h
    rw [f_X2_removeDue_L4]
    refine ⟨fun T hT => (h T hT).mono (fun r x hr _ _ hb => ⟨hb.1, ?_, hb.2.2.1⟩), gone, rfl, Nat.le_refl _, Nat.le_refl _, fun B _ => Nat.le_refl _⟩
    have h1 := hb.2.1
    by_cases e : x = t1
    · have := hb.2.2.2 e; omega
    · omega
  | succ n ih =>
    intro k gone fc fg hk h
    rw [f_X2_removeDue_L4]
    by_cases c : fg k = sec
    · rw [if_pos c, nI_add]
      have hkk : k / 10 * 10 + k % 10 = k := by omega
      rw [hkk]
      obtain ⟨r1, r2⟩ := remove_FI hR hQ h (by omega) hs ht c
      obtain ⟨s1, g', s2, s3, s4, s5⟩ := ih (k + 1) (gone + 1) _ _ (by omega) r1
      refine ⟨s1, g', s2, by omega, by omega, fun B hB => ?_⟩
      have := s5 B hB
      have := r2 B hB
      omega
    · rw [if_neg c]
      have hF : FI rh D fr fw (Bk Q t1 (k + 1)) fc fg := fun T hT => (h T hT).mono (fun r x hr hx _ hb => ⟨hb.1, hb.2.1, hb.2.2.1, fun e => by
        have h1 := hb.2.2.2 e
        by_cases e2 : k = T * 10 + r
        · exact absurd (by rw [e2, hx, e, hs]) c
        · omega⟩)
      obtain ⟨s1, g', s2, s3, s4, s5⟩ := ih (k + 1) gone fc fg (by omega) hF
      exact ⟨s1, g', s2, s3, by omega, s5⟩
/-- seconds pass -/
theorem pass_L {rc rl rh fr fw : Nat → Int32} {C D : Nat → Nat → Nat} (hR : Rt rc rl rh C D) {Q : Nat → Nat → Nat → Prop} {se : Nat} (hQ : ∀ t1, Qok rh fr Q t1) : ∀ (n k t gone : Nat) (fc fg ct : Nat → Int32) (now : Int32), now = nI t → t + n + 3 < 100000 → FI rh D fr fw (Bs Q t) fc fg →
    FI rh D fr fw (Bs Q (t + n)) (f_X5_pass_L25 se fw n k (nI gone) fc fg ct now).2.1 (f_X5_pass_L25 se fw n k (nI gone) fc fg ct now).2.2.1 ∧ (f_X5_pass_L25 se fw n k (nI gone) fc fg ct now).2.2.2.2 = nI (t + n) ∧ ∃ gone', (f_X5_pass_L25 se fw n k (nI gone) fc fg ct now).1 = nI gone' ∧ gone' ≤ gone + 440 * n ∧
      ∀ B, B < t + 4 → gone + sm (fun e => ind B (fg e)) 440 ≤ gone' + sm (fun e => ind B ((f_X5_pass_L25 se fw n k (nI gone) fc fg ct now).2.2.1 e)) 440 := by
  intro n
  induction n with
  | zero =>
    intro k t gone fc fg ct now hn ht h
    rw [f_X5_pass_L25]
    exact ⟨h, hn, gone, rfl, Nat.le_refl _, fun B _ => Nat.le_refl _⟩
  | succ n ih =>
    intro k t gone fc fg ct now hn ht h
    rw [f_X5_pass_L25]
    have hn1 : now + nI 1 = nI (t + 1) := by rw [hn, nI_add]
    have hd := due_L hR (hQ (t + 1)) hn1 (by omega) 440 0 0 fc fg rfl (fun T hT => (h T hT).mono (fun r x hr _ _ hb => ⟨hb.1, by have := hb.2.1; omega, by have := hb.2.2; omega, fun _ => Nat.zero_le _⟩))
    have e0 : f_X2_removeDue (now + nI 1) fw fc fg = f_X2_removeDue_L4 (now + nI 1) fw 440 0 (nI 0) fc fg := rfl
    rw [← e0] at hd
    obtain ⟨d1, g', d2, d3, d4, d5⟩ := hd
    rw [d2, nI_add]
    have key : ∀ ct' : Nat → Int32, FI rh D fr fw (Bs Q (t + (n + 1))) (f_X5_pass_L25 se fw n (k + 1) (nI (gone + g')) (f_X2_removeDue (now + nI 1) fw fc fg).2.1 (f_X2_removeDue (now + nI 1) fw fc fg).2.2 ct' (now + nI 1)).2.1 (f_X5_pass_L25 se fw n (k + 1) (nI (gone + g')) (f_X2_removeDue (now + nI 1) fw fc fg).2.1 (f_X2_removeDue (now + nI 1) fw fc fg).2.2 ct' (now + nI 1)).2.2.1 ∧ (f_X5_pass_L25 se fw n (k + 1) (nI (gone + g')) (f_X2_removeDue (now + nI 1) fw fc fg).2.1 (f_X2_removeDue (now + nI 1) fw fc fg).2.2 ct' (now + nI 1)).2.2.2.2 = nI (t + (n + 1)) ∧ ∃ gone', (f_X5_pass_L25 se fw n (k + 1) (nI (gone + g')) (f_X2_removeDue (now + nI 1) fw fc fg).2.1 (f_X2_removeDue (now + nI 1) fw fc fg).2.2 ct' (now + nI 1)).1 = nI gone' ∧ gone' ≤ gone + 440 * (n + 1) ∧
        ∀ B, B < t + 4 → gone + sm (fun e => ind B (fg e)) 440 ≤ gone' + sm (fun e => ind B ((f_X5_pass_L25 se fw n (k + 1) (nI (gone + g')) (f_X2_removeDue (now + nI 1) fw fc fg).2.1 (f_X2_removeDue (now + nI 1) fw fc fg).2.2 ct' (now + nI 1)).2.2.1 e)) 440 := by
      intro ct'
      obtain ⟨s1, s2, g2, s3, s4, s5⟩ := ih (k + 1) (t + 1) (gone + g') _ _ ct' (now + nI 1) hn1 (by omega) d1
      rw [show t + 1 + n = t + (n + 1) by omega] at s1 s2
      refine ⟨s1, s2, g2, s3, by omega, fun B hB => ?_⟩
      have := s5 B (by omega)
      have := d5 B (by omega)
      omega
    split
    · exact key _
    · exact key _
theorem FI_fg {rh fr fw : Nat → Int32} {D : Nat → Nat → Nat} {B : Nat → Nat → Nat → Prop} {fc fg : Nat → Int32} (h : FI rh D fr fw B fc fg) {e : Nat} (he : e < 440) : fg e = -1 ∨ ∃ x o, fg e = nI x ∧ x < 100000 ∧ B (e / 10) (e % 10) x ∧ o < 10 ∧ fr (e / 10) = nI o := by
  have hk : e / 10 * 10 + e % 10 = e := by omega
  have h1 := (h (e / 10) (by omega)).1 (e % 10) (by omega)
  rw [hk] at h1
  rcases h1 with z | ⟨p, o, a1, a2, a3, a4, a5, a6, a7⟩
  · exact Or.inl z.2
  · rcases a7 with z | ⟨_, x, b1, b2, b3⟩
    · rw [hk] at z; exact Or.inl z.2
    · rw [hk] at b1; exact Or.inr ⟨x, o, b1, b2, b3, a2, a3⟩
/-- seconds pass: the law's check, and all trees are as they should be -/
theorem passes_ok {rc rl rh fr fw : Nat → Int32} {C D : Nat → Nat → Nat} (hR : Rt rc rl rh C D) {se t : Nat} {fc fg ct : Nat → Int32} {now : Int32} (h1 : 1 ≤ se) (h2 : se ≤ 100) (hn : now = nI t) (ht : t + 200 < 100000) (h : FI rh D fr fw (bnd t) fc fg) :
    (f_L_passes se fw fc fg ct now).1 = true ∧ FI rh D fr fw (bnd (t + se)) (f_L_passes se fw fc fg ct now).2.1 (f_L_passes se fw fc fg ct now).2.2.1 ∧ (f_L_passes se fw fc fg ct now).2.2.2.2 = nI (t + se) := by
  have hQ : ∀ t1, Qok rh fr (fun T r x => ∀ o, o < 10 → fr T = nI o → x ≤ t + 3 * (10 - rank D o r)) t1 := by
    intro t1 T r p o hT hr hp ho hro hrh hq o' ho' hro'
    have e : o' = o := (nI_eq (by omega) (by omega)).mp (hro'.symm.trans hro)
    subst e
    have hq' := hq o' ho' hro
    rcases Rt_hop hR hr ho' with ⟨z, -⟩ | ⟨j, hj, z, _, _, hc, hdd⟩
    · rw [z] at hrh; exact absurd hrh (nI_m1 (by omega))
    · have e2 : j = p := (nI_eq (by omega) (by omega)).mp (z.symm.trans hrh)
      subst e2
      have hd := rank_dec (D := D) (o := o') (x := r) hj (by omega)
      have hl := rank_lt (D := D) (o := o') hr
      omega
  have hp := pass_L (se := se) hR hQ se 0 t 0 fc fg ct now hn (by omega) (fun T hT => (h T hT).mono (fun r x hr _ _ hb => ⟨fun o ho _ => by have := rank_lt (D := D) (o := o) hr; have := hb.2; omega, hb.1, hb.2⟩))
  have e0 : f_X5_pass se fw fc fg ct now = f_X5_pass_L25 se fw se 0 (nI 0) fc fg ct now := rfl
  rw [← e0] at hp
  obtain ⟨p1, p2, g', p3, p4, p5⟩ := hp
  have hFI : FI rh D fr fw (bnd (t + se)) (f_X5_pass se fw fc fg ct now).2.1 (f_X5_pass se fw fc fg ct now).2.2.1 := fun T hT => (p1 T hT).mono (fun r x hr _ _ hb => hb.2)
  refine ⟨?_, hFI, p2⟩
  show j_L_passes_24 se fw fc fg ct now = true
  unfold j_L_passes_24
  rw [p2, show now + nI se = nI (t + se) by rw [hn, nI_add], if_pos rfl, p3]
  by_cases c : 3 ≤ se
  · rw [if_pos c]
    have hlv : sm (fun e => lv (fg e)) 440 ≤ g' := by
      have h5 := p5 (t + 3) (by omega)
      have ea : sm (fun e => ind (t + 3) (fg e)) 440 = sm (fun e => lv (fg e)) 440 := sm_congr 440 (fun e he => by
        show ind (t + 3) (fg e) = lv (fg e)
        rcases FI_fg h he with z | ⟨x, o, z1, z2, z3, _⟩
        · rw [z, ind_m1, lv_m1]
        · have := z3.2
          rw [z1, ind_nI (by omega) (by omega), lv_nI (by omega), if_pos this])
      have eb : sm (fun e => ind (t + 3) ((f_X5_pass se fw fc fg ct now).2.2.1 e)) 440 = 0 := sm_zero 440 (fun e he => by
        show ind (t + 3) ((f_X5_pass se fw fc fg ct now).2.2.1 e) = 0
        rcases FI_fg hFI he with z | ⟨x, o, z1, z2, z3, _⟩
        · rw [z, ind_m1]
        · have := z3.1
          rw [z1, ind_nI (by omega) (by omega), if_neg (by omega)])
      rw [ea, eb] at h5
      omega
    have hl440 := sm_le (f := fun e => lv (fg e)) (fun i => by unfold lv; split <;> omega) 440
    rw [leaving_sm, if_neg (show ¬ nI g' < nI (sm (fun e => lv (fg e)) 440) from fun q => by have := (nI_ltI (by omega) (by omega)).mp q; omega)]
    by_cases c2 : se < 33
    · rw [if_pos c2]
    · rw [if_neg c2, leaving_sm]
      have e0 : sm (fun e => lv ((f_X5_pass se fw fc fg ct now).2.2.1 e)) 440 = 0 := sm_zero 440 (fun e he => by
        show lv ((f_X5_pass se fw fc fg ct now).2.2.1 e) = 0
        rcases FI_fg p1 he with z | ⟨x, o, z1, z2, ⟨z3, z4, z5⟩, z6, z7⟩
        · rw [z, lv_m1]
        · have := z3 o z6 z7
          omega)
      rw [e0, nI_0, if_pos rfl]
  · rw [if_neg c, if_neg (nI_pos (by omega))]
