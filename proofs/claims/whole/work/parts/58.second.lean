/-! a second passes: all trees -/
def sig (T : Nat) : Nat := if T < 4 then 11 * T + 10 else 11 * ((T - 4) / 10) + (T - 4) % 10
theorem sig_lt {T : Nat} (h : T < 44) : sig T < 44 := by unfold sig; split <;> omega
theorem tau_sig {T : Nat} (h : T < 44) : tau (sig T) = T := by
  unfold sig
  by_cases c : T < 4
  · rw [if_pos c, tau_shr]
  · rw [if_neg c, tau_src (Nat.mod_lt _ (by decide))]; omega
def csum (f : Nat → Nat) : Nat → Nat → Nat
  | 0, _ => 0
  | n + 1, k => f k + csum f n (k + 1)
theorem csum_sig (f : Nat → Nat) : csum (fun T => f (sig T)) 44 0 = csum f 44 0 := by
  simp only [csum, sig, Nat.reduceAdd, Nat.reduceMul, Nat.reduceSub, Nat.reduceDiv, Nat.reduceMod, Nat.reduceLT, Nat.reduceLeDiff, if_true, if_false, Nat.zero_add, Nat.zero_lt_succ, ite_true, ite_false, Nat.mul_zero, Nat.zero_mul, Nat.lt_irrefl]
  omega
theorem due_all_c {ab go fw : Nat → Int32} {sec : Int32} {s : Nat} (hs : sec = nI s) (hs2 : s + 3 < 2 ^ 31) (hT : ∀ t, t < 44 → TOk t ab go) : ∀ (n k : Nat) (x : Int32) (fc fg : Nat → Int32), k + n = 44 →
    (∀ t, t < 44 → k ≤ tau t → RTr (tau t) t fc fg ab go) → (∀ t, t < 44 → tau t < k → SpA sec ab go t 10 (fun j => fc (tau t * 10 + j)) ∧ SpG (f_X5_has (fw (tau t))) sec ab go t 10 (fun p => fg (tau t * 10 + p))) →
    (∀ t, t < 44 → SpA sec ab go t 10 (fun j => (dueA sec fw n k x fc fg).2.1 (tau t * 10 + j)) ∧ SpG (f_X5_has (fw (tau t))) sec ab go t 10 (fun p => (dueA sec fw n k x fc fg).2.2 (tau t * 10 + p))) ∧
    (dueA sec fw n k x fc fg).1 = x + nI (csum (fun T => cnt sec go (sig T) 10 0) n k) := by
  intro n
  induction n with
  | zero =>
    intro k x fc fg hk _ h2
    rw [dueA, csum]
    exact ⟨fun t ht => h2 t ht (by have := tau_lt ht; omega), by rw [nI_0, Int32.add_zero]⟩
  | succ n ih =>
    intro k x fc fg hk h1 h2
    have hk44 : k < 44 := by omega
    rw [dueA, csum]
    have hts := tau_sig hk44
    have hR := h1 (sig k) (sig_lt hk44) (by omega)
    rw [hts] at hR
    obtain ⟨r1, r2, r3, r4, r5⟩ := due_c (T := k) (fw := fw) hs hs2 (hT (sig k) (sig_lt hk44)) 10 0 x fc fg rfl
      (fun j hj => ⟨fun q => absurd q.1 (Nat.not_lt_zero _), fun _ => (hR j hj).1⟩)
      (fun p hp => ⟨fun q => absurd q.1 (Nat.not_lt_zero _), fun _ => ⟨fun z => by obtain ⟨j, j1, _⟩ := z.2.2.2.1; exact absurd j1 (Nat.not_lt_zero _), fun _ => (hR p hp).2⟩⟩)
    obtain ⟨s1, s2⟩ := ih (k + 1) _ (dueT sec fw k 10 0 x fc fg).2.1 (dueT sec fw k 10 0 x fc fg).2.2 (by omega) (fun t ht q => fun r hr => by
        obtain ⟨a1, a2⟩ := h1 t ht (by omega) r hr
        rw [r4 _ (by omega), r5 _ (by omega)]
        exact ⟨a1, a2⟩) (fun t ht q => by
        by_cases e : tau t = k
        · have et : t = sig k := tau_inj ht (sig_lt hk44) (by rw [e, hts])
          rw [e, et]
          exact ⟨r1, r2⟩
        · obtain ⟨a1, a2⟩ := h2 t ht (by omega)
          refine ⟨fun j hj => ?_, fun p hp => ?_⟩
          · have e1 : (dueT sec fw k 10 0 x fc fg).2.1 (tau t * 10 + j) = fc (tau t * 10 + j) := r4 _ (by omega)
            show (_ → (dueT sec fw k 10 0 x fc fg).2.1 (tau t * 10 + j) = _) ∧ (_ → (dueT sec fw k 10 0 x fc fg).2.1 (tau t * 10 + j) = _)
            rw [e1]; exact a1 j hj
          · have e1 : (dueT sec fw k 10 0 x fc fg).2.2 (tau t * 10 + p) = fg (tau t * 10 + p) := r5 _ (by omega)
            show (_ → (dueT sec fw k 10 0 x fc fg).2.2 (tau t * 10 + p) = _) ∧ (_ → (_ → (dueT sec fw k 10 0 x fc fg).2.2 (tau t * 10 + p) = _) ∧ (_ → (dueT sec fw k 10 0 x fc fg).2.2 (tau t * 10 + p) = _))
            rw [e1]; exact a2 p hp)
    refine ⟨s1, ?_⟩
    rw [s2, r3, Int32.add_assoc, nI_add]
theorem due_all_r {me sw ab go : Nat → Int32} {sec clk : Int32} (hs1 : clk + nI 1 = sec) (hsm : ¬ sec = -1) (hT : ∀ t, t < 44 → TOk t ab go) : ∀ (n k : Nat) (x : Int32) (a1 g1 : Nat → Int32), k + n = 44 →
    (∀ t, t < 44 → k ≤ t → SR t ab a1 ∧ SR t go g1) → (∀ t, t < k → SpA sec ab go t 10 (fun j => a1 (10 * t + j)) ∧ SpG (fun p => f_X6_wants t p me sw) sec ab go t 10 (fun p => g1 (10 * t + p))) →
    (∀ t, t < 44 → SpA sec ab go t 10 (fun j => (f_X6_second_L14 me sw clk n k x a1 g1).2.1 (10 * t + j)) ∧ SpG (fun p => f_X6_wants t p me sw) sec ab go t 10 (fun p => (f_X6_second_L14 me sw clk n k x a1 g1).2.2.1 (10 * t + p))) ∧
    (f_X6_second_L14 me sw clk n k x a1 g1).1 = x + nI (csum (fun t => cnt sec go t 10 0) n k) ∧ (f_X6_second_L14 me sw clk n k x a1 g1).2.2.2 = sec := by
  intro n
  induction n with
  | zero =>
    intro k x a1 g1 hk _ h2
    rw [f_X6_second_L14, csum]
    exact ⟨fun t ht => h2 t (by omega), by rw [nI_0, Int32.add_zero], hs1⟩
  | succ n ih =>
    intro k x a1 g1 hk h1 h2
    have hk44 : k < 44 := by omega
    rw [f_X6_second_L14, csum]
    obtain ⟨ha, hg⟩ := h1 k hk44 (Nat.le_refl k)
    obtain ⟨r1, r2, r3, r4, r5, r6⟩ := due_r1 (t := k) hs1 hsm (hT k hk44) 10 0 x (nI 0) a1 g1 rfl
      (fun j hj => ⟨fun q => absurd q.1 (Nat.not_lt_zero _), fun _ => (ha _ (by omega)).symm⟩)
      (fun j hj => ⟨fun q => absurd q.1 (Nat.not_lt_zero _), fun _ => (hg _ (by omega)).symm⟩)
      (fun i hi => by
        rw [show nI 0 = (0 : Int32) from rfl, b_0]
        exact ⟨fun z => absurd z (by decide), fun ⟨j, j1, _⟩ => absurd j1 (Nat.not_lt_zero _)⟩)
    obtain ⟨q1, q2⟩ := due_r2 (t := k) (me := me) (sw := sw) hs1 hsm r1 r2 r3 10 0 _ rfl (fun p _ _ => rfl) (fun p hp => absurd hp (Nat.not_lt_zero _))
    obtain ⟨s1, s2, s3⟩ := ih (k + 1) _ _ _ (by omega) (fun t ht q => by
        obtain ⟨b1, b2⟩ := h1 t ht (by omega)
        exact ⟨fun e he => (b1 e he).trans (r5 e (by omega)).symm, fun e he => (b2 e he).trans ((q2 e (by omega)).trans (r6 e (by omega))).symm⟩) (fun t ht => by
        by_cases e : t = k
        · subst e; exact ⟨r1, q1⟩
        · obtain ⟨b1, b2⟩ := h2 t (by omega)
          refine ⟨fun j hj => ?_, fun p hp => ?_⟩
          · have e1 : (f_X6_second_L25 clk k 10 0 x (nI 0) a1 g1).2.2.1 (10 * t + j) = a1 (10 * t + j) := r5 _ (by omega)
            show (_ → (f_X6_second_L25 clk k 10 0 x (nI 0) a1 g1).2.2.1 (10 * t + j) = _) ∧ (_ → (f_X6_second_L25 clk k 10 0 x (nI 0) a1 g1).2.2.1 (10 * t + j) = _)
            rw [e1]; exact b1 j hj
          · have e1 : (f_X6_second_L95 me sw clk k (f_X6_second_L25 clk k 10 0 x (nI 0) a1 g1).2.1 (f_X6_second_L25 clk k 10 0 x (nI 0) a1 g1).2.2.1 10 0 (f_X6_second_L25 clk k 10 0 x (nI 0) a1 g1).2.2.2) (10 * t + p) = g1 (10 * t + p) := (q2 _ (by omega)).trans (r6 _ (by omega))
            dsimp only
            rw [e1]; exact b2 p hp)
    refine ⟨s1, ?_, s3⟩
    rw [s2, r4, Int32.add_assoc, nI_add]
/-- a second, alike -/
theorem second_eq {co fa ic fw me sw fc fg ab go : Nat → Int32} {sec clk : Int32} {s : Nat} (hs1 : clk + nI 1 = sec) (hs : sec = nI s) (hs2 : s + 3 < 2 ^ 31) (hW : RWa fw me sw) (hF : RFo co fa ic fc fg ab go) :
    (f_X2_removeDue sec fw fc fg).1 = (f_X6_second me sw ab go clk).1 ∧ RFo co fa ic (f_X2_removeDue sec fw fc fg).2.1 (f_X2_removeDue sec fw fc fg).2.2 (f_X6_second me sw ab go clk).2.1 (f_X6_second me sw ab go clk).2.2.1 ∧ (f_X6_second me sw ab go clk).2.2.2 = sec := by
  unfold f_X2_removeDue f_X6_second
  rw [show f_X2_removeDue_L4 sec fw 440 0 (nI 0) fc fg = dueA sec fw 44 0 (nI 0) fc fg from due_flat sec fw 44 0 (nI 0) fc fg]
  have hsm : ¬ sec = -1 := by rw [hs]; exact nI_neg1 (by omega)
  have hT : ∀ t, t < 44 → TOk t ab go := fun t ht => (hF t ht).2.ok
  obtain ⟨c1, c2⟩ := due_all_c (fw := fw) hs hs2 hT 44 0 (nI 0) fc fg rfl (fun t ht _ => (hF t ht).1) (fun t _ h => absurd h (Nat.not_lt_zero _))
  obtain ⟨d1, d2, d3⟩ := due_all_r (me := me) (sw := sw) hs1 hsm hT 44 0 (nI 0) ab go rfl (fun t _ _ => ⟨fun _ _ => rfl, fun _ _ => rfl⟩) (fun t h => absurd h (Nat.not_lt_zero _))
  refine ⟨?_, fun t ht => ⟨?_, ?_⟩, d3⟩
  · rw [c2, d2, csum_sig (fun t => cnt sec go t 10 0)]
  · exact Sp_RTr (fun p hp => (wants_eq hW ht hp).symm) (c1 t ht).1 (c1 t ht).2 (d1 t ht).1 (d1 t ht).2
  · exact Sp_TInv (hF t ht).2 (d1 t ht).1 (d1 t ht).2
