/-! a packet is sent and followed: the law's check -/
theorem many_L {x : Int32} : ∀ (n k : Nat), k + n = 10 → f_L_many_L4 x n k (nI (sm (fun i => if bt x i = true then 1 else 0) k)) = nI (cn (bt x)) := by
  intro n
  induction n with
  | zero => intro k hk; obtain rfl : k = 10 := by omega
            rw [f_L_many_L4]; rfl
  | succ n ih =>
    intro k hk
    have e : sm (fun i => if bt x i = true then 1 else 0) (k + 1) = sm (fun i => if bt x i = true then 1 else 0) k + (if bt x k = true then 1 else 0) := by rw [sm]
    have h := ih (k + 1) (by omega)
    rw [f_L_many_L4, shr_one x (show k < 10 by omega)]
    by_cases c : bt x k = true
    · rw [if_pos c] at e ⊢
      rw [nI_add, ← e]; exact h
    · rw [if_neg c] at e ⊢
      rw [Int32.add_zero, show sm (fun i => if bt x i = true then 1 else 0) k = sm (fun i => if bt x i = true then 1 else 0) (k + 1) by omega]
      exact h
theorem many_cn (x : Int32) : f_L_many x = nI (cn (bt x)) := by
  unfold f_L_many
  exact many_L 10 0 rfl
theorem own_L {s g : Nat} {fc : Nat → Int32} {i : Nat} (hi : i < 10) : ∀ (n k : Nat) (x : Int32), k + n = 10 → (bt (f_L_sends_r_L81 s g fc n k x) i = true ↔ bt x i = true ∨ ∃ r, k ≤ r ∧ r < 10 ∧ fc ((4 + g * 10 + s) * 10 + i) = nI r) := by
  intro n
  induction n with
  | zero =>
    intro k x hk
    rw [f_L_sends_r_L81]
    exact ⟨Or.inl, fun z => z.elim id (fun ⟨r, h1, h2, _⟩ => by omega)⟩
  | succ n ih =>
    intro k x hk
    rw [f_L_sends_r_L81, ih (k + 1) _ (by omega), b_or, Bool.or_eq_true, set_bt (by omega)]
    constructor
    · rintro ((z | z) | ⟨r, h1, h2, h3⟩)
      · exact Or.inl z
      · exact Or.inr ⟨k, Nat.le_refl k, by omega, z.2⟩
      · exact Or.inr ⟨r, by omega, h2, h3⟩
    · rintro (z | ⟨r, h1, h2, h3⟩)
      · exact Or.inl (Or.inl z)
      · by_cases e : r = k
        · subst e; exact Or.inl (Or.inr ⟨hi, h3⟩)
        · exact Or.inr ⟨r, by omega, h2, h3⟩
theorem own_bt {rh : Nat → Int32} {D : Nat → Nat → Nat} {ro : Int32} {w : Nat → Bool} {bd : Nat → Nat → Prop} {s g : Nat} {fc fg : Nat → Int32} (h : TI rh D ro w bd (4 + g * 10 + s) fc fg) {i : Nat} (hi : i < 10) : bt (f_L_sends_r_L81 s g fc 10 0 (nI 0)) i = decide (¬ fc ((4 + g * 10 + s) * 10 + i) = -1) := by
  have hb := own_L (s := s) (g := g) (fc := fc) hi 10 0 (nI 0) rfl
  rw [show bt (nI 0) i = false from by rw [show nI 0 = (0 : Int32) from rfl, b_0]] at hb
  by_cases c : fc ((4 + g * 10 + s) * 10 + i) = -1
  · rw [decide_eq_false (fun z => z c)]
    cases q : bt (f_L_sends_r_L81 s g fc 10 0 (nI 0)) i
    · rfl
    · rcases hb.mp q with z | ⟨r, _, h2, h3⟩
      · cases z
      · rw [c] at h3; exact absurd h3 (nI_m1 (by omega))
  · rw [decide_eq_true c]
    obtain ⟨p, o, h1, _, _, h4, _⟩ := (h.1 i hi).resolve_left (fun z => c z.1)
    exact hb.mpr (Or.inr ⟨p, Nat.zero_le _, h1, h4⟩)
/-- what stands behind the sending and all following -/
theorem sent_end {s g : Nat} {rc rl rh fr fw fc fg ps pg pr pd qp qt qf qo ct : Nat → Int32} {lim was : Int32} {sent qfi qsz : Nat} {C D : Nat → Nat → Nat} (hR : Rt rc rl rh C D) (hro : RoOk fr) (hrs : RoS fr) {t : Nat} (h : PI rh D fr fw t ps pg sent fw fc fg pr pd qp qt qf qo qfi qsz) (hq0 : qsz = 0) (hs : s < 10) (hg : g < 4) (h199 : sent ≤ 199) :
    eA rc rh fr ((f_X5_send s g rl rh fr fw fc fg ps pg pr pd qp qt qf qo ct lim was sent qfi qsz)).2.2.2.2.1 ((f_X5_send s g rl rh fr fw fc fg ps pg pr pd qp qt qf qo ct lim was sent qfi qsz)).2.2.2.2.2.1 lim ((f_X5_send s g rl rh fr fw fc fg ps pg pr pd qp qt qf qo ct lim was sent qfi qsz)).2.2.2.2.2.2.2.2.2.2.2.2.2.2.1 20000 (((f_X5_send s g rl rh fr fw fc fg ps pg pr pd qp qt qf qo ct lim was sent qfi qsz)).2.1, ((f_X5_send s g rl rh fr fw fc fg ps pg pr pd qp qt qf qo ct lim was sent qfi qsz)).2.2.1, ((f_X5_send s g rl rh fr fw fc fg ps pg pr pd qp qt qf qo ct lim was sent qfi qsz)).2.2.2.1, ((f_X5_send s g rl rh fr fw fc fg ps pg pr pd qp qt qf qo ct lim was sent qfi qsz)).2.2.2.2.2.2.1, ((f_X5_send s g rl rh fr fw fc fg ps pg pr pd qp qt qf qo ct lim was sent qfi qsz)).2.2.2.2.2.2.2.1, ((f_X5_send s g rl rh fr fw fc fg ps pg pr pd qp qt qf qo ct lim was sent qfi qsz)).2.2.2.2.2.2.2.2.1, ((f_X5_send s g rl rh fr fw fc fg ps pg pr pd qp qt qf qo ct lim was sent qfi qsz)).2.2.2.2.2.2.2.2.2.1, ((f_X5_send s g rl rh fr fw fc fg ps pg pr pd qp qt qf qo ct lim was sent qfi qsz)).2.2.2.2.2.2.2.2.2.2.1, ((f_X5_send s g rl rh fr fw fc fg ps pg pr pd qp qt qf qo ct lim was sent qfi qsz)).2.2.2.2.2.2.2.2.2.2.2.1, ((f_X5_send s g rl rh fr fw fc fg ps pg pr pd qp qt qf qo ct lim was sent qfi qsz)).2.2.2.2.2.2.2.2.2.2.2.2.1, ((f_X5_send s g rl rh fr fw fc fg ps pg pr pd qp qt qf qo ct lim was sent qfi qsz)).2.2.2.2.2.2.2.2.2.2.2.2.2.1, qfi, ((f_X5_send s g rl rh fr fw fc fg ps pg pr pd qp qt qf qo ct lim was sent qfi qsz)).2.2.2.2.2.2.2.2.2.2.2.2.2.2.2) ∧ ∀ N, eA rc rh fr ((f_X5_send s g rl rh fr fw fc fg ps pg pr pd qp qt qf qo ct lim was sent qfi qsz)).2.2.2.2.1 ((f_X5_send s g rl rh fr fw fc fg ps pg pr pd qp qt qf qo ct lim was sent qfi qsz)).2.2.2.2.2.1 lim ((f_X5_send s g rl rh fr fw fc fg ps pg pr pd qp qt qf qo ct lim was sent qfi qsz)).2.2.2.2.2.2.2.2.2.2.2.2.2.2.1 N (((f_X5_send s g rl rh fr fw fc fg ps pg pr pd qp qt qf qo ct lim was sent qfi qsz)).2.1, ((f_X5_send s g rl rh fr fw fc fg ps pg pr pd qp qt qf qo ct lim was sent qfi qsz)).2.2.1, ((f_X5_send s g rl rh fr fw fc fg ps pg pr pd qp qt qf qo ct lim was sent qfi qsz)).2.2.2.1, ((f_X5_send s g rl rh fr fw fc fg ps pg pr pd qp qt qf qo ct lim was sent qfi qsz)).2.2.2.2.2.2.1, ((f_X5_send s g rl rh fr fw fc fg ps pg pr pd qp qt qf qo ct lim was sent qfi qsz)).2.2.2.2.2.2.2.1, ((f_X5_send s g rl rh fr fw fc fg ps pg pr pd qp qt qf qo ct lim was sent qfi qsz)).2.2.2.2.2.2.2.2.1, ((f_X5_send s g rl rh fr fw fc fg ps pg pr pd qp qt qf qo ct lim was sent qfi qsz)).2.2.2.2.2.2.2.2.2.1, ((f_X5_send s g rl rh fr fw fc fg ps pg pr pd qp qt qf qo ct lim was sent qfi qsz)).2.2.2.2.2.2.2.2.2.2.1, ((f_X5_send s g rl rh fr fw fc fg ps pg pr pd qp qt qf qo ct lim was sent qfi qsz)).2.2.2.2.2.2.2.2.2.2.2.1, ((f_X5_send s g rl rh fr fw fc fg ps pg pr pd qp qt qf qo ct lim was sent qfi qsz)).2.2.2.2.2.2.2.2.2.2.2.2.1, ((f_X5_send s g rl rh fr fw fc fg ps pg pr pd qp qt qf qo ct lim was sent qfi qsz)).2.2.2.2.2.2.2.2.2.2.2.2.2.1, qfi, ((f_X5_send s g rl rh fr fw fc fg ps pg pr pd qp qt qf qo ct lim was sent qfi qsz)).2.2.2.2.2.2.2.2.2.2.2.2.2.2.2) → ∃ (n0 : Nat) (y : CT) (mt : Bool) (V P : Nat → Nat → Bool), fA rc rh fr ((f_X5_send s g rl rh fr fw fc fg ps pg pr pd qp qt qf qo ct lim was sent qfi qsz)).2.2.2.2.1 ((f_X5_send s g rl rh fr fw fc fg ps pg pr pd qp qt qf qo ct lim was sent qfi qsz)).2.2.2.2.2.1 lim N (((f_X5_send s g rl rh fr fw fc fg ps pg pr pd qp qt qf qo ct lim was sent qfi qsz)).2.1, ((f_X5_send s g rl rh fr fw fc fg ps pg pr pd qp qt qf qo ct lim was sent qfi qsz)).2.2.1, ((f_X5_send s g rl rh fr fw fc fg ps pg pr pd qp qt qf qo ct lim was sent qfi qsz)).2.2.2.1, ((f_X5_send s g rl rh fr fw fc fg ps pg pr pd qp qt qf qo ct lim was sent qfi qsz)).2.2.2.2.2.2.1, ((f_X5_send s g rl rh fr fw fc fg ps pg pr pd qp qt qf qo ct lim was sent qfi qsz)).2.2.2.2.2.2.2.1, ((f_X5_send s g rl rh fr fw fc fg ps pg pr pd qp qt qf qo ct lim was sent qfi qsz)).2.2.2.2.2.2.2.2.1, ((f_X5_send s g rl rh fr fw fc fg ps pg pr pd qp qt qf qo ct lim was sent qfi qsz)).2.2.2.2.2.2.2.2.2.1, ((f_X5_send s g rl rh fr fw fc fg ps pg pr pd qp qt qf qo ct lim was sent qfi qsz)).2.2.2.2.2.2.2.2.2.2.1, ((f_X5_send s g rl rh fr fw fc fg ps pg pr pd qp qt qf qo ct lim was sent qfi qsz)).2.2.2.2.2.2.2.2.2.2.2.1, ((f_X5_send s g rl rh fr fw fc fg ps pg pr pd qp qt qf qo ct lim was sent qfi qsz)).2.2.2.2.2.2.2.2.2.2.2.2.1, ((f_X5_send s g rl rh fr fw fc fg ps pg pr pd qp qt qf qo ct lim was sent qfi qsz)).2.2.2.2.2.2.2.2.2.2.2.2.2.1, qfi, ((f_X5_send s g rl rh fr fw fc fg ps pg pr pd qp qt qf qo ct lim was sent qfi qsz)).2.2.2.2.2.2.2.2.2.2.2.2.2.2.2) = (n0, y) ∧ n0 ≤ N ∧ ((f_X5_send s g rl rh fr fw fc fg ps pg pr pd qp qt qf qo ct lim was sent qfi qsz)).2.2.2.2.2.2.2.2.2.2.2.2.2.2.2 ≤ n0 ∧ y.2.2.2.2.2.2.2.2.2.2.2.2 = 0 ∧ PIc rh D fr fw t ((f_X5_send s g rl rh fr fw fc fg ps pg pr pd qp qt qf qo ct lim was sent qfi qsz)).2.2.2.2.1 ((f_X5_send s g rl rh fr fw fc fg ps pg pr pd qp qt qf qo ct lim was sent qfi qsz)).2.2.2.2.2.1 ((f_X5_send s g rl rh fr fw fc fg ps pg pr pd qp qt qf qo ct lim was sent qfi qsz)).2.2.2.2.2.2.2.2.2.2.2.2.2.2.1 y ∧ ((f_X5_send s g rl rh fr fw fc fg ps pg pr pd qp qt qf qo ct lim was sent qfi qsz)).2.2.2.2.2.2.2.2.2.2.2.2.2.2.1 = sent + 1 ∧
      SI fr g s sent (fw (4 + g * 10 + s)) fc was true mt [] V P [] y.1 y.2.1 y.2.2.2.1 y.2.2.2.2.1 y.2.2.2.2.2.2.2.2.2.2.1 ∧ (mt = true ↔ ∃ o, o < 10 ∧ fr g = nI o ∧ D s o < 1000000) := by
  obtain ⟨V, P, l, mt, q1, q2, q3⟩ := sent_SI (lim := lim) (ct := ct) (was := was) hR hro (hrs g s hg hs) h hq0 hs hg
  obtain ⟨fw', fc', fg', pr', pd', a, b, c, d, ct', was', qsz', e, hp⟩ := PI_send (lim := lim) (ct := ct) (was := was) hR hro h h199 hs hg
  rw [e] at q1 q2 ⊢
  dsimp only at q1 q2 ⊢
  have hpc : PIc rh D fr fw t (upd ps sent (nI s)) (upd pg sent (nI g)) (sent + 1) (fw', fc', fg', pr', pd', a, b, c, d, ct', was', qfi, qsz') := hp
  refine ⟨eA_all hR hro _ hpc, fun N he => ?_⟩
  obtain ⟨V', P', r1, r2⟩ := SI_run (lim := lim) hR hro hs hg (Nat.lt_succ_self sent) pk_us pk_us N _ l V P hpc q1 q2 he
  obtain ⟨j1, j2, j3⟩ := eA_J _ _ he
  have hpa := PI_all (lim := lim) hR hro N _ hpc
  have hl := q1.2.2.1
  generalize fA rc rh fr (upd ps sent (nI s)) (upd pg sent (nI g)) lim N (fw', fc', fg', pr', pd', a, b, c, d, ct', was', qfi, qsz') = z at r1 r2 j2 j3 hpa ⊢
  obtain ⟨n0, y⟩ := z
  exact ⟨n0, y, mt, V', P', rfl, j2, by rw [← hl]; exact r2, j3, hpa, rfl, r1, q3⟩
/-- who got it, without the rendezvous point -/
theorem got_alone {rc rl rh fr : Nat → Int32} {C D : Nat → Nat → Nat} (hR : Rt rc rl rh C D) {g s pk t : Nat} (hg : g < 4) (hs : s < 10) (hrs : fr (4 + g * 10 + s) = nI s) {w0 : Int32} {fc0 : Nat → Int32} {was0 : Int32} {V P : Nat → Nat → Bool} {fw fc fg pr pd : Nat → Int32} {was : Int32} (h : SI fr g s pk w0 fc0 was0 true false [] V P [] fw fc pr pd was) (hF : FI rh D fr fw (bnd t) fc fg) (hw10 : B10 w0) :
    pr pk &&& ((fw g &&& f_X5_floodedFrom s rl) ^^^ (-1)) = 0 ∧ pr pk &&& w0 = (fw g &&& f_X5_floodedFrom s rl) &&& w0 := by
  have ha := end_alone hR hg hs hrs h hF
  have hb := h.2.2.2.2.2.2.1
  refine ⟨and_not.mpr (fun i hi z => ?_), b_ext fun i hi => ?_⟩
  · rw [hb i hi, Bool.and_eq_true, decide_eq_true_iff, Bool.and_eq_true] at z
    obtain ⟨z1, z2, z3⟩ := z
    obtain ⟨a1, a2, a3⟩ := ha i z1
    rw [a1, Bool.false_or] at z3
    rw [b_and, z2, flooded_bt hR hs hi, decide_eq_true z1, a2 z3]; rfl
  · rw [b_and, b_and, b_and, hb i hi, flooded_bt hR hs hi]
    by_cases c : i < 10
    · obtain ⟨a1, a2, a3⟩ := ha i c
      rw [decide_eq_true c, a1, Bool.false_or, Bool.true_and, Bool.true_and]
      cases q : bt w0 i
      · rw [Bool.and_false, Bool.and_false]
      · cases q2 : V (4 + g * 10 + s) i
        · cases q3 : reach D s i
          · rfl
          · rw [a3 q q3] at q2; cases q2
        · rw [a2 q2]
    · rw [hw10 i (by omega) hi, Bool.and_false, Bool.and_false]
theorem got_all {rc rl rh fr : Nat → Int32} {C D : Nat → Nat → Nat} (hR : Rt rc rl rh C D) {g s pk t o : Nat} (hg : g < 4) (hs : s < 10) (hrs : fr (4 + g * 10 + s) = nI s) {w0 : Int32} {fc0 : Nat → Int32} {was0 : Int32} {V P : Nat → Nat → Bool} {fw fc fg pr pd : Nat → Int32} {was : Int32} (h : SI fr g s pk w0 fc0 was0 true true [] V P [] fw fc pr pd was) (hF : FI rh D fr fw (bnd t) fc fg)
    (ho : o < 10) (hfo : fr g = nI o) (hd : D s o < 1000000) : pr pk = fw g &&& f_X5_floodedFrom s rl := by
  have hm := end_meets hR hg hs hrs h hF ho hfo hd
  have hb := h.2.2.2.2.2.2.1
  refine b_ext fun i hi => ?_
  rw [b_and, hb i hi, flooded_bt hR hs hi]
  by_cases c : i < 10
  · rw [decide_eq_true c, Bool.true_and, Bool.true_and]
    cases q : bt (fw g) i
    · rfl
    · obtain ⟨m1, m2⟩ := hm i c q
      rw [m1]
      cases q2 : V (4 + g * 10 + s) i
      · rw [Bool.or_false]
      · rw [m2 q2]; rfl
  · rw [decide_eq_false c, Bool.false_and, Bool.false_and, Bool.and_false]
theorem first_none {qo : Nat → Int32} {qfi qsz : Nat} (h : qsz = 0) : f_X0_firstIn_qo qo qfi qsz = -1 := if_pos h
set_option maxHeartbeats 4000000 in
set_option maxRecDepth 100000 in
/-- the law's check holds, and what always holds -/
theorem sends_ok {s g : Nat} {rc rl rh fr fw fc fg ps pg pr pd qp qt qf qo ct lC : Nat → Int32} {lim was : Int32} {sent qfi qsz : Nat} {C D : Nat → Nat → Nat} (hR : Rt rc rl rh C D) (hro : RoOk fr) (hrs : RoS fr) {t : Nat} (h : PI rh D fr fw t ps pg sent fw fc fg pr pd qp qt qf qo qfi qsz) (hq0 : qsz = 0) (hs : s < 10) (hg : g < 4) (h199 : sent ≤ 199) (hlC : lC (1 + g) = fw g) :
    ((f_L_sends s g rc rl rh fr fw fc fg ps pg pr pd qp qt qf qo ct lC lim was sent qfi qsz)).1 = true ∧ ((f_L_sends s g rc rl rh fr fw fc fg ps pg pr pd qp qt qf qo ct lC lim was sent qfi qsz)).2.2.2.2.2.2.2.2.2.2.2.2.2.1 = upd lC 5 (nI (sent + 1)) ∧ ((f_L_sends s g rc rl rh fr fw fc fg ps pg pr pd qp qt qf qo ct lC lim was sent qfi qsz)).2.2.2.2.2.2.2.2.2.2.2.2.2.2.2.1 = sent + 1 ∧ PI rh D fr fw t (((f_L_sends s g rc rl rh fr fw fc fg ps pg pr pd qp qt qf qo ct lC lim was sent qfi qsz)).2.2.2.2.1) (((f_L_sends s g rc rl rh fr fw fc fg ps pg pr pd qp qt qf qo ct lC lim was sent qfi qsz)).2.2.2.2.2.1) (sent + 1) (((f_L_sends s g rc rl rh fr fw fc fg ps pg pr pd qp qt qf qo ct lC lim was sent qfi qsz)).2.1) (((f_L_sends s g rc rl rh fr fw fc fg ps pg pr pd qp qt qf qo ct lC lim was sent qfi qsz)).2.2.1) (((f_L_sends s g rc rl rh fr fw fc fg ps pg pr pd qp qt qf qo ct lC lim was sent qfi qsz)).2.2.2.1) (((f_L_sends s g rc rl rh fr fw fc fg ps pg pr pd qp qt qf qo ct lC lim was sent qfi qsz)).2.2.2.2.2.2.1) (((f_L_sends s g rc rl rh fr fw fc fg ps pg pr pd qp qt qf qo ct lC lim was sent qfi qsz)).2.2.2.2.2.2.2.1) (((f_L_sends s g rc rl rh fr fw fc fg ps pg pr pd qp qt qf qo ct lC lim was sent qfi qsz)).2.2.2.2.2.2.2.2.1) (((f_L_sends s g rc rl rh fr fw fc fg ps pg pr pd qp qt qf qo ct lC lim was sent qfi qsz)).2.2.2.2.2.2.2.2.2.1) (((f_L_sends s g rc rl rh fr fw fc fg ps pg pr pd qp qt qf qo ct lC lim was sent qfi qsz)).2.2.2.2.2.2.2.2.2.2.1) (((f_L_sends s g rc rl rh fr fw fc fg ps pg pr pd qp qt qf qo ct lC lim was sent qfi qsz)).2.2.2.2.2.2.2.2.2.2.2.1) (((f_L_sends s g rc rl rh fr fw fc fg ps pg pr pd qp qt qf qo ct lC lim was sent qfi qsz)).2.2.2.2.2.2.2.2.2.2.2.2.2.2.2.2.1) (((f_L_sends s g rc rl rh fr fw fc fg ps pg pr pd qp qt qf qo ct lC lim was sent qfi qsz)).2.2.2.2.2.2.2.2.2.2.2.2.2.2.2.2.2) := by
  obtain ⟨he, hse⟩ := sent_end (lim := lim) (ct := ct) (was := was) hR hro hrs h hq0 hs hg h199
  obtain ⟨n0, y, mt, V, P, hfa, hn, hqn, hy0, hpc, hst, hSI, hmt⟩ := hse 20000 he
  have hlt : ((f_X5_send s g rl rh fr fw fc fg ps pg pr pd qp qt qf qo ct lim was sent qfi qsz)).2.2.2.2.2.2.2.2.2.2.2.2.2.2.2 < 100000 := by omega
  have hF := hpc.2.1
  have hfg : y.1 g = fw g := hpc.2.2.1 g hg
  have hw10 : B10 (fw (4 + g * 10 + s)) := h.2.2.2.2.1 _ (by omega)
  have hrs' := hrs g s hg hs
  have hall : f_X5_followAll rc rh fr (((f_X5_send s g rl rh fr fw fc fg ps pg pr pd qp qt qf qo ct lim was sent qfi qsz)).2.1) (((f_X5_send s g rl rh fr fw fc fg ps pg pr pd qp qt qf qo ct lim was sent qfi qsz)).2.2.1) (((f_X5_send s g rl rh fr fw fc fg ps pg pr pd qp qt qf qo ct lim was sent qfi qsz)).2.2.2.1) (((f_X5_send s g rl rh fr fw fc fg ps pg pr pd qp qt qf qo ct lim was sent qfi qsz)).2.2.2.2.1) (((f_X5_send s g rl rh fr fw fc fg ps pg pr pd qp qt qf qo ct lim was sent qfi qsz)).2.2.2.2.2.1) (((f_X5_send s g rl rh fr fw fc fg ps pg pr pd qp qt qf qo ct lim was sent qfi qsz)).2.2.2.2.2.2.1) (((f_X5_send s g rl rh fr fw fc fg ps pg pr pd qp qt qf qo ct lim was sent qfi qsz)).2.2.2.2.2.2.2.1) (((f_X5_send s g rl rh fr fw fc fg ps pg pr pd qp qt qf qo ct lim was sent qfi qsz)).2.2.2.2.2.2.2.2.1) (((f_X5_send s g rl rh fr fw fc fg ps pg pr pd qp qt qf qo ct lim was sent qfi qsz)).2.2.2.2.2.2.2.2.2.1) (((f_X5_send s g rl rh fr fw fc fg ps pg pr pd qp qt qf qo ct lim was sent qfi qsz)).2.2.2.2.2.2.2.2.2.2.1) (((f_X5_send s g rl rh fr fw fc fg ps pg pr pd qp qt qf qo ct lim was sent qfi qsz)).2.2.2.2.2.2.2.2.2.2.2.1) (((f_X5_send s g rl rh fr fw fc fg ps pg pr pd qp qt qf qo ct lim was sent qfi qsz)).2.2.2.2.2.2.2.2.2.2.2.2.1) lim (((f_X5_send s g rl rh fr fw fc fg ps pg pr pd qp qt qf qo ct lim was sent qfi qsz)).2.2.2.2.2.2.2.2.2.2.2.2.2.1) qfi (((f_X5_send s g rl rh fr fw fc fg ps pg pr pd qp qt qf qo ct lim was sent qfi qsz)).2.2.2.2.2.2.2.2.2.2.2.2.2.2.2) = (nI n0, y) := by
    show (nI (fA rc rh fr (((f_X5_send s g rl rh fr fw fc fg ps pg pr pd qp qt qf qo ct lim was sent qfi qsz)).2.2.2.2.1) (((f_X5_send s g rl rh fr fw fc fg ps pg pr pd qp qt qf qo ct lim was sent qfi qsz)).2.2.2.2.2.1) lim 20000 (((f_X5_send s g rl rh fr fw fc fg ps pg pr pd qp qt qf qo ct lim was sent qfi qsz)).2.1, ((f_X5_send s g rl rh fr fw fc fg ps pg pr pd qp qt qf qo ct lim was sent qfi qsz)).2.2.1, ((f_X5_send s g rl rh fr fw fc fg ps pg pr pd qp qt qf qo ct lim was sent qfi qsz)).2.2.2.1, ((f_X5_send s g rl rh fr fw fc fg ps pg pr pd qp qt qf qo ct lim was sent qfi qsz)).2.2.2.2.2.2.1, ((f_X5_send s g rl rh fr fw fc fg ps pg pr pd qp qt qf qo ct lim was sent qfi qsz)).2.2.2.2.2.2.2.1, ((f_X5_send s g rl rh fr fw fc fg ps pg pr pd qp qt qf qo ct lim was sent qfi qsz)).2.2.2.2.2.2.2.2.1, ((f_X5_send s g rl rh fr fw fc fg ps pg pr pd qp qt qf qo ct lim was sent qfi qsz)).2.2.2.2.2.2.2.2.2.1, ((f_X5_send s g rl rh fr fw fc fg ps pg pr pd qp qt qf qo ct lim was sent qfi qsz)).2.2.2.2.2.2.2.2.2.2.1, ((f_X5_send s g rl rh fr fw fc fg ps pg pr pd qp qt qf qo ct lim was sent qfi qsz)).2.2.2.2.2.2.2.2.2.2.2.1, ((f_X5_send s g rl rh fr fw fc fg ps pg pr pd qp qt qf qo ct lim was sent qfi qsz)).2.2.2.2.2.2.2.2.2.2.2.2.1, ((f_X5_send s g rl rh fr fw fc fg ps pg pr pd qp qt qf qo ct lim was sent qfi qsz)).2.2.2.2.2.2.2.2.2.2.2.2.2.1, qfi, ((f_X5_send s g rl rh fr fw fc fg ps pg pr pd qp qt qf qo ct lim was sent qfi qsz)).2.2.2.2.2.2.2.2.2.2.2.2.2.2.2)).1, (fA rc rh fr (((f_X5_send s g rl rh fr fw fc fg ps pg pr pd qp qt qf qo ct lim was sent qfi qsz)).2.2.2.2.1) (((f_X5_send s g rl rh fr fw fc fg ps pg pr pd qp qt qf qo ct lim was sent qfi qsz)).2.2.2.2.2.1) lim 20000 (((f_X5_send s g rl rh fr fw fc fg ps pg pr pd qp qt qf qo ct lim was sent qfi qsz)).2.1, ((f_X5_send s g rl rh fr fw fc fg ps pg pr pd qp qt qf qo ct lim was sent qfi qsz)).2.2.1, ((f_X5_send s g rl rh fr fw fc fg ps pg pr pd qp qt qf qo ct lim was sent qfi qsz)).2.2.2.1, ((f_X5_send s g rl rh fr fw fc fg ps pg pr pd qp qt qf qo ct lim was sent qfi qsz)).2.2.2.2.2.2.1, ((f_X5_send s g rl rh fr fw fc fg ps pg pr pd qp qt qf qo ct lim was sent qfi qsz)).2.2.2.2.2.2.2.1, ((f_X5_send s g rl rh fr fw fc fg ps pg pr pd qp qt qf qo ct lim was sent qfi qsz)).2.2.2.2.2.2.2.2.1, ((f_X5_send s g rl rh fr fw fc fg ps pg pr pd qp qt qf qo ct lim was sent qfi qsz)).2.2.2.2.2.2.2.2.2.1, ((f_X5_send s g rl rh fr fw fc fg ps pg pr pd qp qt qf qo ct lim was sent qfi qsz)).2.2.2.2.2.2.2.2.2.2.1, ((f_X5_send s g rl rh fr fw fc fg ps pg pr pd qp qt qf qo ct lim was sent qfi qsz)).2.2.2.2.2.2.2.2.2.2.2.1, ((f_X5_send s g rl rh fr fw fc fg ps pg pr pd qp qt qf qo ct lim was sent qfi qsz)).2.2.2.2.2.2.2.2.2.2.2.2.1, ((f_X5_send s g rl rh fr fw fc fg ps pg pr pd qp qt qf qo ct lim was sent qfi qsz)).2.2.2.2.2.2.2.2.2.2.2.2.2.1, qfi, ((f_X5_send s g rl rh fr fw fc fg ps pg pr pd qp qt qf qo ct lim was sent qfi qsz)).2.2.2.2.2.2.2.2.2.2.2.2.2.2.2)).2) = (nI n0, y)
    rw [hfa]
  rw [hst] at hpc
  unfold f_L_sends
  by_cases c : fr g = -1
  · have hmf : mt = false := by
      cases mt
      · rfl
      · obtain ⟨o, ho, z, _⟩ := hmt.mp rfl
        rw [c] at z; exact absurd z (nI_m1 (by omega))
    subst hmf
    have e144 : s_L_sends_n_144 s g rc rl rh fr fw fc fg ps pg pr pd qp qt qf qo ct lim was sent qfi qsz = (nI n0, y) := hall
    have e110 : s_L_sends_n_110 s g rl rh fr fw fc fg ps pg pr pd qp qt qf qo ct lim was sent qfi qsz = (f_X5_send s g rl rh fr fw fc fg ps pg pr pd qp qt qf qo ct lim was sent qfi qsz) := rfl
    obtain ⟨k1, k2⟩ := got_alone hR hg hs hrs' hSI hF hw10
    rw [hfg] at k1 k2
    rw [if_pos c]
    unfold f_L_sends_n
    refine ⟨?_, rfl, ?_, ?_⟩
    · show j_L_sends_n_259 s g rc rl rh fr fw fc fg ps pg pr pd qp qt qf qo ct lim was sent qfi qsz = true
      unfold j_L_sends_n_259 j_L_sends_n_209 j_L_sends_n_159
      rw [e144, e110]
      dsimp only
      rw [if_neg (show ¬ nI n0 < nI ((f_X5_send s g rl rh fr fw fc fg ps pg pr pd qp qt qf qo ct lim was sent qfi qsz)).2.2.2.2.2.2.2.2.2.2.2.2.2.2.2 from fun z => by have := (nI_ltI (by omega) (by omega)).mp z; omega), if_pos hy0, if_pos (first_none hy0), if_pos hSI.2.2.2.2.2.2.2.2.1, if_pos rfl, if_pos k1, if_pos k2, if_pos rfl, ite_self]
    · show (s_L_sends_n_110 s g rl rh fr fw fc fg ps pg pr pd qp qt qf qo ct lim was sent qfi qsz).2.2.2.2.2.2.2.2.2.2.2.2.2.2.1 = sent + 1
      exact hst
    · rw [e144, e110]; exact hpc
  · obtain ⟨o, ho, hfo⟩ := (hro g (by omega)).resolve_left c
    have eo : (fr g).toNatClampNeg = o := by rw [hfo, nI_clamp (by omega)]
    have e144 : s_L_sends_r_144 s g rc rl rh fr fw fc fg ps pg pr pd qp qt qf qo ct lim was sent qfi qsz = (nI n0, y) := hall
    have e110 : s_L_sends_r_110 s g rl rh fr fw fc fg ps pg pr pd qp qt qf qo ct lim was sent qfi qsz = (f_X5_send s g rl rh fr fw fc fg ps pg pr pd qp qt qf qo ct lim was sent qfi qsz) := rfl
    rw [if_neg c, eo]
    unfold f_L_sends_r
    refine ⟨?_, rfl, ?_, ?_⟩
    · show j_L_sends_r_259 s g o rc rl rh fr fw fc fg ps pg pr pd qp qt qf qo ct lC lim was sent qfi qsz (f_L_sends_r_L81 s g fc 10 0 (nI 0)) = true
      have h9 : j_L_sends_r_9 s o rl = mt := by
        unfold j_L_sends_r_9
        have hdn := (dist_neg hR hs ho).2
        cases hm : mt
        · rw [if_pos (hdn.mpr (fun z => by have := hmt.mpr ⟨o, ho, hfo, z⟩; rw [hm] at this; cases this))]
        · obtain ⟨o', ho', hfo', hd'⟩ := hmt.mp hm
          have : o' = o := (nI_eq (by omega) (by omega)).mp (hfo'.symm.trans hfo)
          subst this
          rw [if_neg (fun z => (hdn.mp z) hd')]
      unfold j_L_sends_r_259 j_L_sends_r_209 j_L_sends_r_159
      rw [e144, e110, h9]
      dsimp only
      rw [if_neg (show ¬ nI n0 < nI ((f_X5_send s g rl rh fr fw fc fg ps pg pr pd qp qt qf qo ct lim was sent qfi qsz)).2.2.2.2.2.2.2.2.2.2.2.2.2.2.2 from fun z => by have := (nI_ltI (by omega) (by omega)).mp z; omega), if_pos hy0, if_pos (first_none hy0), if_pos hSI.2.2.2.2.2.2.2.2.1, if_pos rfl]
      cases hm : mt
      · rw [hm] at hSI
        obtain ⟨k1, k2⟩ := got_alone hR hg hs hrs' hSI hF hw10
        rw [hfg] at k1 k2
        rw [if_neg Bool.false_ne_true, if_pos k1, if_pos k2, if_pos rfl, if_neg Bool.false_ne_true, ite_self]
      · obtain ⟨o', ho', hfo', hd'⟩ := hmt.mp hm
        have : o' = o := (nI_eq (by omega) (by omega)).mp (hfo'.symm.trans hfo)
        subst this
        rw [hm] at hSI
        have k1 := got_all hR hg hs hrs' hSI hF ho' hfo' hd'
        rw [hfg] at k1
        rw [if_pos rfl, if_pos k1, if_pos rfl, if_pos rfl]
        by_cases cw : y.1 (4 + g * 10 + s) = fw (4 + g * 10 + s)
        · rw [if_pos cw]
          have k2 := end_doubles hR hg hs hrs' hSI hF ho' hfo' hd' cw
          rw [hfg] at k2
          rw [k2, pk_un (show ¬ 1 + g = 5 by omega), hlC, many_cn]
          have hT := h.2.1 (4 + g * 10 + s) (by omega)
          have hroot : fc ((4 + g * 10 + s) * 10 + s) = -1 := TI_root hR hs (by have := hT; rw [hrs'] at this; exact this)
          have e1 : cn (bt (f_L_sends_r_L81 s g fc 10 0 (nI 0) &&& fw g)) = cn (fun i => bt (fw g) i && decide (¬ fc ((4 + g * 10 + s) * 10 + i) = -1)) := cn_congr (fun i hi => by
            rw [b_and, own_bt hT hi, Bool.and_comm])
          have e2 : cn (fun i => bt (fw g) i && (decide (¬ fc ((4 + g * 10 + s) * 10 + i) = -1) || decide (i = s))) = cn (fun i => bt (fw g) i && decide (¬ fc ((4 + g * 10 + s) * 10 + i) = -1)) + cn (fun i => bt (fw g) i && decide (i = s)) := by
            rw [← cn_add (f := fun i => bt (fw g) i && decide (¬ fc ((4 + g * 10 + s) * 10 + i) = -1)) (g := fun i => bt (fw g) i && decide (i = s)) (fun i hi z => by
              show (bt (fw g) i && decide (i = s)) = false
              by_cases e : i = s
              · subst e
                have z : (bt (fw g) i && decide (¬ fc ((4 + g * 10 + i) * 10 + i) = -1)) = true := z
                rw [decide_eq_false (fun q => q hroot), Bool.and_false] at z; cases z
              · rw [decide_eq_false e, Bool.and_false])]
            exact cn_congr (fun i hi => by
              show (bt (fw g) i && (decide (¬ fc ((4 + g * 10 + s) * 10 + i) = -1) || decide (i = s))) = ((bt (fw g) i && decide (¬ fc ((4 + g * 10 + s) * 10 + i) = -1)) || (bt (fw g) i && decide (i = s)))
              rw [Bool.and_or_distrib_left])
          have e3 : nI (cn (fun i => bt (fw g) i && decide (i = s))) = bI (j_L_sends_r_60 s g o' rl lC) := by
            unfold j_L_sends_r_60
            rw [hlC, isIn_bt hs, h9, hm]
            cases q : bt (fw g) s
            · rw [if_neg Bool.false_ne_true, cn_congr (f := fun i => bt (fw g) i && decide (i = s)) (g := fun _ => false) (fun i hi => by
                show (bt (fw g) i && decide (i = s)) = false
                by_cases e : i = s
                · subst e; rw [q]; rfl
                · rw [decide_eq_false e, Bool.and_false]), cn_false]
              rfl
            · rw [if_pos rfl, if_pos rfl, cn_congr (f := fun i => bt (fw g) i && decide (i = s)) (g := fun i => decide (i = s)) (fun i hi => by
                show (bt (fw g) i && decide (i = s)) = decide (i = s)
                by_cases e : i = s
                · subst e; rw [q]; rfl
                · rw [decide_eq_false e, Bool.and_false]), cn_one hs]
              rfl
          rw [e1, e2, ← e3, nI_add, if_pos rfl]
        · rw [if_neg cw]
    · show (s_L_sends_r_110 s g rl rh fr fw fc fg ps pg pr pd qp qt qf qo ct lim was sent qfi qsz).2.2.2.2.2.2.2.2.2.2.2.2.2.2.1 = sent + 1
      exact hst
    · rw [e144, e110]; exact hpc
