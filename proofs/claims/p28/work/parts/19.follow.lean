/-! following, as functions of whatever waits -/
/-- the first copy, if there is one, is a copy -/
def QVf (ps pg qp qt qf qo : Nat → Int32) (sent qfi qsz : Nat) : Prop := 1 ≤ qsz → ∃ pk t fm to_ g s_ : Nat, (pk < 200 ∧ t < 44 ∧ fm < 10 ∧ to_ < 10 ∧ g < 4 ∧ s_ < 10) ∧ (qp qfi = nI pk ∧ qt qfi = nI t ∧ qf qfi = nI fm ∧ qo qfi = nI to_) ∧ pk < sent ∧ pg pk = nI g ∧ ps pk = nI s_
def f_X5_follow (rc rh fr fw fc fg ps pg pr pd qp qt qf qo ct : Nat → Int32) (lim was : Int32) (qfi qsz : Nat) : Int32 × CT :=
  if qsz = 0 then (nI 0, fw, fc, fg, pr, pd, qp, qt, qf, qo, ct, was, qfi, qsz) else f_X5_follow_n (qp qfi).toNatClampNeg (qt qfi).toNatClampNeg (qf qfi).toNatClampNeg (qo qfi).toNatClampNeg (pg (qp qfi).toNatClampNeg).toNatClampNeg (ps (qp qfi).toNatClampNeg).toNatClampNeg rc rh fr fw fc fg pr pd qp qt qf qo ct lim was qfi qsz
theorem follow_0 {rc rh fr fw fc fg ps pg pr pd qp qt qf qo ct : Nat → Int32} {lim was : Int32} {qfi qsz : Nat} (h : qsz = 0) : f_X5_follow rc rh fr fw fc fg ps pg pr pd qp qt qf qo ct lim was qfi qsz = (nI 0, fw, fc, fg, pr, pd, qp, qt, qf, qo, ct, was, qfi, qsz) := if_pos h
theorem follow_1 {rc rh fr fw fc fg ps pg pr pd qp qt qf qo ct : Nat → Int32} {lim was : Int32} {qfi qsz pk t fm to_ g s_ : Nat} (h : 1 ≤ qsz) (b : pk < 200 ∧ t < 44 ∧ fm < 10 ∧ to_ < 10 ∧ g < 4 ∧ s_ < 10) (e : qp qfi = nI pk ∧ qt qfi = nI t ∧ qf qfi = nI fm ∧ qo qfi = nI to_) (eg : pg pk = nI g) (es : ps pk = nI s_) : f_X5_follow rc rh fr fw fc fg ps pg pr pd qp qt qf qo ct lim was qfi qsz = f_X5_follow_n pk t fm to_ g s_ rc rh fr fw fc fg pr pd qp qt qf qo ct lim was qfi qsz := by
  unfold f_X5_follow
  rw [if_neg (by omega), e.1, e.2.1, e.2.2.1, e.2.2.2, nI_clamp (by omega), nI_clamp (by omega), nI_clamp (by omega), nI_clamp (by omega), eg, es, nI_clamp (by omega), nI_clamp (by omega)]
theorem fb_X5_follow_qfi (rc rh fr fw fc fg ps pg pr pd qp qt qf qo ct : Nat → Int32) (lim was : Int32) (qfi qsz : Nat) (h1 : qfi ≤ 199) (h2 : qsz ≤ 200) : ((f_X5_follow rc rh fr fw fc fg ps pg pr pd qp qt qf qo ct lim was qfi qsz).2.2.2.2.2.2.2.2.2.2.2.2.1) ≤ 199 := by
  unfold f_X5_follow
  split
  · exact h1
  · exact fb_X5_follow_n_qfi _ _ _ _ _ _ _ _ _ _ _ _ _ _ _ _ _ _ _ _ _ _ _ h1 h2
theorem fb_X5_follow_qsz (rc rh fr fw fc fg ps pg pr pd qp qt qf qo ct : Nat → Int32) (lim was : Int32) (qfi qsz : Nat) (h1 : qfi ≤ 199) (h2 : qsz ≤ 200) : ((f_X5_follow rc rh fr fw fc fg ps pg pr pd qp qt qf qo ct lim was qfi qsz).2.2.2.2.2.2.2.2.2.2.2.2.2) ≤ 200 := by
  unfold f_X5_follow
  split
  · exact h2
  · exact fb_X5_follow_n_qsz _ _ _ _ _ _ _ _ _ _ _ _ _ _ _ _ _ _ _ _ _ _ _ h1 h2
set_option maxHeartbeats 4000000 in
set_option maxRecDepth 100000 in
theorem c_X5_follow (l : Launch) (D : va_G) (cI cZ : ClassId) (ad : Nat → Nat) (rc rl rh fr fw fc fg ps pg pr pd qp qt qf qo ct lE lC : Nat → Int32) (cand : Int32) (lim : Int32) (now : Int32) (was : Int32) (sent : Nat) (qfi : Nat) (qsz : Nat) (hsent : sent ≤ 200) (hqfi : qfi ≤ 199) (hqsz : qsz ≤ 200) (hqv : QVf ps pg qp qt qf qo sent qfi qsz) : MI l yX5_follow cX5_follow 5 .int { frames := 5, cells := 0, slots := 0, locals := 121 } D (TY cI cZ) [.ref (ad 0)] (wC cI ad rc rl rh fr fw fc fg ps pg pr pd qp qt qf qo ct lE lC cand lim now was (nI sent) (nI qfi) (nI qsz)) (wC cI ad rc rl rh fr ((f_X5_follow rc rh fr fw fc fg ps pg pr pd qp qt qf qo ct lim was qfi qsz).2.1) ((f_X5_follow rc rh fr fw fc fg ps pg pr pd qp qt qf qo ct lim was qfi qsz).2.2.1) ((f_X5_follow rc rh fr fw fc fg ps pg pr pd qp qt qf qo ct lim was qfi qsz).2.2.2.1) ps pg ((f_X5_follow rc rh fr fw fc fg ps pg pr pd qp qt qf qo ct lim was qfi qsz).2.2.2.2.1) ((f_X5_follow rc rh fr fw fc fg ps pg pr pd qp qt qf qo ct lim was qfi qsz).2.2.2.2.2.1) ((f_X5_follow rc rh fr fw fc fg ps pg pr pd qp qt qf qo ct lim was qfi qsz).2.2.2.2.2.2.1) ((f_X5_follow rc rh fr fw fc fg ps pg pr pd qp qt qf qo ct lim was qfi qsz).2.2.2.2.2.2.2.1) ((f_X5_follow rc rh fr fw fc fg ps pg pr pd qp qt qf qo ct lim was qfi qsz).2.2.2.2.2.2.2.2.1) ((f_X5_follow rc rh fr fw fc fg ps pg pr pd qp qt qf qo ct lim was qfi qsz).2.2.2.2.2.2.2.2.2.1) ((f_X5_follow rc rh fr fw fc fg ps pg pr pd qp qt qf qo ct lim was qfi qsz).2.2.2.2.2.2.2.2.2.2.1) lE lC cand lim now ((f_X5_follow rc rh fr fw fc fg ps pg pr pd qp qt qf qo ct lim was qfi qsz).2.2.2.2.2.2.2.2.2.2.2.1) (nI sent) (nI (((f_X5_follow rc rh fr fw fc fg ps pg pr pd qp qt qf qo ct lim was qfi qsz).2.2.2.2.2.2.2.2.2.2.2.2.1))) (nI (((f_X5_follow rc rh fr fw fc fg ps pg pr pd qp qt qf qo ct lim was qfi qsz).2.2.2.2.2.2.2.2.2.2.2.2.2)))) ((f_X5_follow rc rh fr fw fc fg ps pg pr pd qp qt qf qo ct lim was qfi qsz).1) := by
  by_cases c : qsz = 0
  · rw [follow_0 c]
    exact c_X5_follow_e l D cI cZ ad rc rl rh fr fw fc fg ps pg pr pd qp qt qf qo ct lE lC cand lim now was sent qfi qsz hqsz (by omega)
  · obtain ⟨pk, t, fm, to_, g, s_, b, e, hp, eg, es⟩ := hqv (by omega)
    rw [follow_1 (by omega) b e eg es]
    exact c_X5_follow_n l D cI cZ ad rc rl rh fr fw fc fg ps pg pr pd qp qt qf qo ct lE lC cand lim now was sent qfi qsz pk t fm to_ g s_ b.1 b.2.1 b.2.2.1 b.2.2.2.1 b.2.2.2.2.1 b.2.2.2.2.2 hsent hqfi hqsz e.1 e.2.1 e.2.2.1 e.2.2.2 hp eg es hqsz (by omega)
def stp (rc rh fr ps pg : Nat → Int32) (lim : Int32) (x : CT) : CT := (f_X5_follow rc rh fr (x.1) (x.2.1) (x.2.2.1) ps pg (x.2.2.2.1) (x.2.2.2.2.1) (x.2.2.2.2.2.1) (x.2.2.2.2.2.2.1) (x.2.2.2.2.2.2.2.1) (x.2.2.2.2.2.2.2.2.1) (x.2.2.2.2.2.2.2.2.2.1) lim (x.2.2.2.2.2.2.2.2.2.2.1) (x.2.2.2.2.2.2.2.2.2.2.2.1) (x.2.2.2.2.2.2.2.2.2.2.2.2)).2
def fA (rc rh fr ps pg : Nat → Int32) (lim : Int32) : Nat → CT → Nat × CT
  | 0, x => (0, x)
  | n + 1, x => if x.2.2.2.2.2.2.2.2.2.2.2.2 = 0 then (0, x) else ((fA rc rh fr ps pg lim n (stp rc rh fr ps pg lim x)).1 + 1, (fA rc rh fr ps pg lim n (stp rc rh fr ps pg lim x)).2)
/-- following comes to its end within n copies, all of them copies -/
def eA (rc rh fr ps pg : Nat → Int32) (lim : Int32) (sent : Nat) : Nat → CT → Prop
  | 0, x => x.2.2.2.2.2.2.2.2.2.2.2.2 = 0
  | n + 1, x => 1 ≤ x.2.2.2.2.2.2.2.2.2.2.2.2 → (x.2.2.2.2.2.2.2.2.2.2.2.1 ≤ 199 ∧ x.2.2.2.2.2.2.2.2.2.2.2.2 ≤ 200 ∧ QVf ps pg (x.2.2.2.2.2.1) (x.2.2.2.2.2.2.1) (x.2.2.2.2.2.2.2.1) (x.2.2.2.2.2.2.2.2.1) sent (x.2.2.2.2.2.2.2.2.2.2.2.1) (x.2.2.2.2.2.2.2.2.2.2.2.2)) ∧ eA rc rh fr ps pg lim sent n (stp rc rh fr ps pg lim x)
theorem eA_J {rc rh fr ps pg : Nat → Int32} {lim : Int32} {sent : Nat} : ∀ (n : Nat) (x : CT), eA rc rh fr ps pg lim sent n x → Jc rc rh fr ps pg lim sent (fA rc rh fr ps pg lim n x).1 x (fA rc rh fr ps pg lim n x).2 ∧ (fA rc rh fr ps pg lim n x).1 ≤ n ∧ (fA rc rh fr ps pg lim n x).2.2.2.2.2.2.2.2.2.2.2.2.2 = 0 := by
  intro n
  induction n with
  | zero => intro x h; rw [fA]; exact ⟨⟨h, rfl⟩, Nat.le_refl _, h⟩
  | succ n ih =>
    intro x h
    rw [fA]
    by_cases c : x.2.2.2.2.2.2.2.2.2.2.2.2 = 0
    · rw [if_pos c]; exact ⟨⟨c, rfl⟩, Nat.zero_le _, c⟩
    · rw [if_neg c]
      obtain ⟨⟨h1, h2, h3⟩, h4⟩ := h (by omega)
      obtain ⟨j1, j2, j3⟩ := ih _ h4
      obtain ⟨pk, t, fm, to_, g, s_, b, e, hp, eg, es⟩ := h3 (by omega)
      refine ⟨⟨pk, t, fm, to_, g, s_, b, ⟨h1, h2, by omega⟩, e, ⟨hp, eg, es⟩, ?_⟩, by dsimp only; omega, j3⟩
      have e2 : stp rc rh fr ps pg lim x = (f_X5_follow_n pk t fm to_ g s_ rc rh fr (x.1) (x.2.1) (x.2.2.1) (x.2.2.2.1) (x.2.2.2.2.1) (x.2.2.2.2.2.1) (x.2.2.2.2.2.2.1) (x.2.2.2.2.2.2.2.1) (x.2.2.2.2.2.2.2.2.1) (x.2.2.2.2.2.2.2.2.2.1) lim (x.2.2.2.2.2.2.2.2.2.2.1) (x.2.2.2.2.2.2.2.2.2.2.2.1) (x.2.2.2.2.2.2.2.2.2.2.2.2)).2 := by
        unfold stp
        rw [follow_1 (by omega) b e eg es]
      rw [← e2]
      exact j1
def f_X5_followAll (rc rh fr fw fc fg ps pg pr pd qp qt qf qo ct : Nat → Int32) (lim was : Int32) (qfi qsz : Nat) : Int32 × CT := (nI (fA rc rh fr ps pg lim 20000 (fw, fc, fg, pr, pd, qp, qt, qf, qo, ct, was, qfi, qsz)).1, (fA rc rh fr ps pg lim 20000 (fw, fc, fg, pr, pd, qp, qt, qf, qo, ct, was, qfi, qsz)).2)
theorem Jc_b {rc rh fr ps pg : Nat → Int32} {lim : Int32} {sent : Nat} : ∀ (n : Nat) (x y : CT), x.2.2.2.2.2.2.2.2.2.2.2.1 ≤ 199 → x.2.2.2.2.2.2.2.2.2.2.2.2 ≤ 200 → Jc rc rh fr ps pg lim sent n x y → y.2.2.2.2.2.2.2.2.2.2.2.1 ≤ 199 ∧ y.2.2.2.2.2.2.2.2.2.2.2.2 ≤ 200 := by
  intro n
  induction n with
  | zero => intro x y h1 h2 h; obtain ⟨-, rfl⟩ := h; exact ⟨h1, h2⟩
  | succ n ih =>
    intro x y h1 h2 h
    obtain ⟨pk, t, f, o, g, s, -, -, -, -, h⟩ := h
    exact ih _ y (fb_X5_follow_n_qfi _ _ _ _ _ _ _ _ _ _ _ _ _ _ _ _ _ _ _ _ _ _ _ h1 h2) (fb_X5_follow_n_qsz _ _ _ _ _ _ _ _ _ _ _ _ _ _ _ _ _ _ _ _ _ _ _ h1 h2) h
theorem fb_X5_followAll_qfi (rc rh fr fw fc fg ps pg pr pd qp qt qf qo ct : Nat → Int32) (lim was : Int32) (qfi qsz : Nat) (sent : Nat) (h1 : qfi ≤ 199) (h2 : qsz ≤ 200) (he : eA rc rh fr ps pg lim sent 20000 (fw, fc, fg, pr, pd, qp, qt, qf, qo, ct, was, qfi, qsz)) : ((f_X5_followAll rc rh fr fw fc fg ps pg pr pd qp qt qf qo ct lim was qfi qsz).2.2.2.2.2.2.2.2.2.2.2.2.1) ≤ 199 := (Jc_b _ _ _ h1 h2 (eA_J _ _ he).1).1
theorem fb_X5_followAll_qsz (rc rh fr fw fc fg ps pg pr pd qp qt qf qo ct : Nat → Int32) (lim was : Int32) (qfi qsz : Nat) (sent : Nat) (h1 : qfi ≤ 199) (h2 : qsz ≤ 200) (he : eA rc rh fr ps pg lim sent 20000 (fw, fc, fg, pr, pd, qp, qt, qf, qo, ct, was, qfi, qsz)) : ((f_X5_followAll rc rh fr fw fc fg ps pg pr pd qp qt qf qo ct lim was qfi qsz).2.2.2.2.2.2.2.2.2.2.2.2.2) ≤ 200 := (Jc_b _ _ _ h1 h2 (eA_J _ _ he).1).2
set_option maxHeartbeats 4000000 in
set_option maxRecDepth 100000 in
theorem c_X5_followAll_t (l : Launch) (D : va_G) (cI cZ : ClassId) (ad : Nat → Nat) (rc rl rh fr fw fc fg ps pg pr pd qp qt qf qo ct lE lC : Nat → Int32) (cand : Int32) (lim : Int32) (now : Int32) (was : Int32) (sent : Nat) (qfi : Nat) (qsz : Nat) (hsent : sent ≤ 200) (hqfi : qfi ≤ 199) (hqsz : qsz ≤ 200) (hev : eA rc rh fr ps pg lim sent 20000 (fw, fc, fg, pr, pd, qp, qt, qf, qo, ct, was, qfi, qsz)) : MI l yX5_followAll cX5_followAll 2 .int { frames := 6, cells := 0, slots := 0, locals := 145 } D (TY cI cZ) [.ref (ad 0)] (wC cI ad rc rl rh fr fw fc fg ps pg pr pd qp qt qf qo ct lE lC cand lim now was (nI sent) (nI qfi) (nI qsz)) (wC cI ad rc rl rh fr ((f_X5_followAll rc rh fr fw fc fg ps pg pr pd qp qt qf qo ct lim was qfi qsz).2.1) ((f_X5_followAll rc rh fr fw fc fg ps pg pr pd qp qt qf qo ct lim was qfi qsz).2.2.1) ((f_X5_followAll rc rh fr fw fc fg ps pg pr pd qp qt qf qo ct lim was qfi qsz).2.2.2.1) ps pg ((f_X5_followAll rc rh fr fw fc fg ps pg pr pd qp qt qf qo ct lim was qfi qsz).2.2.2.2.1) ((f_X5_followAll rc rh fr fw fc fg ps pg pr pd qp qt qf qo ct lim was qfi qsz).2.2.2.2.2.1) ((f_X5_followAll rc rh fr fw fc fg ps pg pr pd qp qt qf qo ct lim was qfi qsz).2.2.2.2.2.2.1) ((f_X5_followAll rc rh fr fw fc fg ps pg pr pd qp qt qf qo ct lim was qfi qsz).2.2.2.2.2.2.2.1) ((f_X5_followAll rc rh fr fw fc fg ps pg pr pd qp qt qf qo ct lim was qfi qsz).2.2.2.2.2.2.2.2.1) ((f_X5_followAll rc rh fr fw fc fg ps pg pr pd qp qt qf qo ct lim was qfi qsz).2.2.2.2.2.2.2.2.2.1) ((f_X5_followAll rc rh fr fw fc fg ps pg pr pd qp qt qf qo ct lim was qfi qsz).2.2.2.2.2.2.2.2.2.2.1) lE lC cand lim now ((f_X5_followAll rc rh fr fw fc fg ps pg pr pd qp qt qf qo ct lim was qfi qsz).2.2.2.2.2.2.2.2.2.2.2.1) (nI sent) (nI (((f_X5_followAll rc rh fr fw fc fg ps pg pr pd qp qt qf qo ct lim was qfi qsz).2.2.2.2.2.2.2.2.2.2.2.2.1))) (nI (((f_X5_followAll rc rh fr fw fc fg ps pg pr pd qp qt qf qo ct lim was qfi qsz).2.2.2.2.2.2.2.2.2.2.2.2.2)))) ((f_X5_followAll rc rh fr fw fc fg ps pg pr pd qp qt qf qo ct lim was qfi qsz).1) := by
  obtain ⟨j1, j2, -⟩ := eA_J _ _ hev
  exact c_X5_followAll l D cI cZ ad rc rl rh fr ps pg lE lC cand lim now sent hsent (fw, fc, fg, pr, pd, qp, qt, qf, qo, ct, was, qfi, qsz) (fA rc rh fr ps pg lim 20000 (fw, fc, fg, pr, pd, qp, qt, qf, qo, ct, was, qfi, qsz)).2 _ j2 hqsz j1
