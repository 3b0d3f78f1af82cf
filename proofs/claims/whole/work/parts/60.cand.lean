/-! candidates, links, small answers, alike -/
def RCa (cand : Int32) (ic : Nat → Int32) : Prop := ∀ r, r < 10 → ic r = bI (bt cand r)
theorem best_eq {cand : Int32} {ic : Nat → Int32} (h : RCa cand ic) (g : Nat) : f_X5_bestCandidate g cand = f_X6_meets g ic := by
  unfold f_X5_bestCandidate f_X6_meets
  have key : ∀ (n k : Nat) (x y : Int32), k + n = 10 → f_X5_bestCandidate_L7 g cand n k x y = f_X6_meets_L7 g ic n k x y := by
    intro n
    induction n with
    | zero => intro k x y _; rw [f_X5_bestCandidate_L7, f_X6_meets_L7]
    | succ n ih =>
      intro k x y hk
      rw [f_X5_bestCandidate_L7, f_X6_meets_L7, has_bt _ (by omega), h k (by omega)]
      by_cases c : bt cand k = true
      · rw [if_pos c, if_neg (fun z => (bI_0 _).mp z c), ih _ _ _ (by omega), ih _ _ _ (by omega)]
      · rw [if_neg c, if_pos ((bI_0 _).mpr c), ih _ _ _ (by omega)]
  exact key 10 0 _ _ rfl
theorem cand_fr {cand : Int32} {rh fr fw : Nat → Int32} {r : Nat} : ∀ (n k : Nat) (fr0 : Nat → Int32), k + n = 4 → (∀ g, g < k → fr0 g = f_X5_bestCandidate g (cand ^^^ ((nI 1) <<< ((nI r) &&& 31)))) → (∀ e, 4 ≤ e → fr0 e = fr e) →
    ∃ fr1, f_X5_setCandidate_L33 r rh fw cand n k fr0 = (true, fr1, (f_X2_buildAnew rh fr1 fw).1, (f_X2_buildAnew rh fr1 fw).2, cand ^^^ ((nI 1) <<< ((nI r) &&& 31))) ∧ (∀ g, g < 4 → fr1 g = f_X5_bestCandidate g (cand ^^^ ((nI 1) <<< ((nI r) &&& 31)))) ∧ (∀ e, 4 ≤ e → fr1 e = fr e) := by
  intro n
  induction n with
  | zero =>
    intro k fr0 hk h1 h2
    rw [f_X5_setCandidate_L33]
    exact ⟨fr0, rfl, fun g hg => h1 g (by omega), h2⟩
  | succ n ih =>
    intro k fr0 hk h1 h2
    rw [f_X5_setCandidate_L33]
    refine ih (k + 1) _ (by omega) (fun g hg => ?_) (fun e he => ?_)
    · by_cases q : g = k
      · subst q; exact pk_us
      · rw [pk_un q]; exact h1 g (by omega)
    · rw [pk_un (by omega)]; exact h2 e he
theorem RCa_new {cand : Int32} {ic : Nat → Int32} (h : RCa cand ic) {r : Nat} (hr : r < 10) {on : Bool} (hne : ¬ bt cand r = on) : RCa (cand ^^^ ((nI 1) <<< ((nI r) &&& 31))) (upd ic r (bI on)) := fun i hi => by
  rw [b_xor, bt_one (by omega) (by omega)]
  by_cases q : i = r
  · subst q
    rw [pk_us, decide_eq_true rfl]
    cases on <;> cases e : bt cand i <;> first | rfl | exact absurd e hne
  · rw [pk_un q, decide_eq_false q, Bool.xor_false]; exact h i hi
/-- a router becomes a candidate or no longer is one -/
theorem cand_eq {rc rl rh fr fw co fa ic me sw fc fg ab go : Nat → Int32} {cand : Int32} (hRt : RRt rc rl rh co fa) (hW : RWa fw me sw) (hRo : RRo fr ic) (hCa : RCa cand ic) (hF : RFo co fa ic fc fg ab go) {r : Nat} (hr : r < 10) (on : Bool) :
    (f_X5_setCandidate r on rh fr fw fc fg cand).1 = (f_X6_setCandidate r on co fa ic me sw ab go).1 ∧
    RRo (f_X5_setCandidate r on rh fr fw fc fg cand).2.1 (f_X6_setCandidate r on co fa ic me sw ab go).2.1 ∧
    RFo co fa (f_X6_setCandidate r on co fa ic me sw ab go).2.1 (f_X5_setCandidate r on rh fr fw fc fg cand).2.2.1 (f_X5_setCandidate r on rh fr fw fc fg cand).2.2.2.1 (f_X6_setCandidate r on co fa ic me sw ab go).2.2.1 (f_X6_setCandidate r on co fa ic me sw ab go).2.2.2.1 ∧
    RCa (f_X5_setCandidate r on rh fr fw fc fg cand).2.2.2.2 (f_X6_setCandidate r on co fa ic me sw ab go).2.1 ∧ (f_X6_setCandidate r on co fa ic me sw ab go).2.2.2.2 = nI 0 := by
  unfold f_X5_setCandidate f_X6_setCandidate
  rw [has_bt _ hr]
  by_cases c : bt cand r = on
  · rw [if_pos c, if_pos (by rw [hCa r hr, c])]
    exact ⟨rfl, hRo, hF, hCa, rfl⟩
  · rw [if_neg c, if_neg (fun z => c ((bI_i _ _).mp ((hCa r hr).symm.trans z)))]
    obtain ⟨fr1, e1, e2, e3⟩ := cand_fr (cand := cand) (rh := rh) (fr := fr) (fw := fw) (r := r) 4 0 fr rfl (fun g hg => absurd hg (Nat.not_lt_zero _)) (fun _ _ => rfl)
    rw [e1]
    have hCa2 := RCa_new hCa hr c
    have hRo2 : RRo fr1 (upd ic r (bI on)) := fun t ht => by
      have h0 := hRo t ht
      unfold tau f_X6_root at *
      by_cases q : t % 11 = 10
      · rw [if_pos q, if_pos q, e2 _ (by omega), best_eq hCa2]
      · rw [if_neg q, if_neg q] at *
        rw [e3 _ (by omega)]; exact h0
    dsimp only
    exact ⟨rfl, hRo2, build_eq hRt hW hRo2, hCa2, rfl⟩
theorem Costs_new {co : Nat → Int32} (h : Costs co) {r o c : Nat} (hr : r < 10) (ho : o < 10) (hc : c < 21) : Costs (upd (upd co ((10 * r) + o) (nI c)) ((10 * o) + r) (nI c)) := by
  refine ⟨fun k hk => ?_, fun i j hi hj => ?_⟩
  · by_cases q : k = 10 * o + r
    · rw [q, pk_us]; exact ⟨c, by omega, rfl⟩
    · rw [pk_un q]
      by_cases q2 : k = 10 * r + o
      · rw [q2, pk_us]; exact ⟨c, by omega, rfl⟩
      · rw [pk_un q2]; exact h.1 k hk
  · by_cases q : i = o ∧ j = r
    · obtain ⟨rfl, rfl⟩ := q
      rw [pk_us]
      by_cases q3 : i = j
      · subst q3; rw [pk_us]
      · rw [pk_un (by omega), pk_us]
    · by_cases q2 : i = r ∧ j = o
      · obtain ⟨rfl, rfl⟩ := q2
        rw [pk_us, pk_un (by omega), pk_us]
      · rw [pk_un (by omega), pk_un (by omega), pk_un (by omega), pk_un (by omega)]
        exact h.2 i j hi hj
/-- a link is set -/
theorem link_eq {rc rl rh fr fw co fa ic me sw fc fg ab go : Nat → Int32} (hRt : RRt rc rl rh co fa) (hW : RWa fw me sw) (hRo : RRo fr ic) (hF : RFo co fa ic fc fg ab go) {r o c : Nat} (hr : r < 10) (ho : o < 10) (hc : c < 21) :
    (f_X5_setLink r o c rc rl rh fr fw fc fg).1 = (f_X6_setLink r o c co fa ic me sw ab go).1 ∧
    RRt (f_X5_setLink r o c rc rl rh fr fw fc fg).2.1 (f_X5_setLink r o c rc rl rh fr fw fc fg).2.2.1 (f_X5_setLink r o c rc rl rh fr fw fc fg).2.2.2.1 (f_X6_setLink r o c co fa ic me sw ab go).2.1 (f_X6_setLink r o c co fa ic me sw ab go).2.2.1 ∧
    RFo (f_X6_setLink r o c co fa ic me sw ab go).2.1 (f_X6_setLink r o c co fa ic me sw ab go).2.2.1 ic (f_X5_setLink r o c rc rl rh fr fw fc fg).2.2.2.2.1 (f_X5_setLink r o c rc rl rh fr fw fc fg).2.2.2.2.2 (f_X6_setLink r o c co fa ic me sw ab go).2.2.2.1 (f_X6_setLink r o c co fa ic me sw ab go).2.2.2.2.1 ∧
    (f_X6_setLink r o c co fa ic me sw ab go).2.2.2.2.2 = nI 0 := by
  have e : rc ((r * 10) + o) = co ((10 * r) + o) := by rw [Nat.mul_comm]; exact hRt.1 _ (by omega)
  unfold f_X5_setLink f_X6_setLink
  rw [e]
  by_cases q : co ((10 * r) + o) = nI c
  · rw [if_pos q, if_pos q]
    exact ⟨rfl, hRt, hF, rfl⟩
  · rw [if_neg q, if_neg q]
    have hE : EQ 100 (upd (upd rc ((r * 10) + o) (nI c)) ((o * 10) + r) (nI c)) (upd (upd co ((10 * r) + o) (nI c)) ((10 * o) + r) (nI c)) := EQ_upd (EQ_upd hRt.1 _ _ (by omega) rfl) _ _ (by omega) rfl
    have hn := routes_new (rh := rh) hE hRt.2.1 (Costs_new hRt.2.2.1 hr ho hc)
    dsimp only
    exact ⟨rfl, hn, build_eq hn hW hRo, rfl⟩
theorem dist_eq {rl fa : Nat → Int32} (h : EQ 100 rl fa) {r o : Nat} (hr : r < 10) (ho : o < 10) : f_X4_distanceOf r o rl = (f_X6_distance r o fa).1 := by
  unfold f_X4_distanceOf f_X6_distance
  rw [Nat.mul_comm r 10, h _ (by omega)]
  split <;> rfl
