/-! the steps of members -/
theorem count_1024 : ∀ m, m < 1024 → f_J6_bitCount_0f7a4 (nI m) = f_L_many (nI m) := by decide +kernel
theorem count_eq {x : Int32} (h : B10 x) : f_J6_bitCount_0f7a4 x = f_L_many x := by
  obtain ⟨m, hm, rfl⟩ := B10_small h
  exact count_1024 m hm
/-- a set without r -/
def wo (x : Int32) (r : Nat) : Int32 := x &&& (((nI 1) <<< ((nI r) &&& 31)) ^^^ (-1))
theorem wo_bt {x : Int32} {r i : Nat} (hr : r < 10) (hi : i < 32) : bt (wo x r) i = (bt x i && !decide (i = r)) := by
  unfold wo
  rw [b_and, bt_not (by omega) hi]
theorem wo_sub {x : Int32} {r i : Nat} (hr : r < 10) (hi : i < 32) (h : bt (wo x r) i = true) : bt x i = true ∧ ¬ i = r := by
  rw [wo_bt hr hi, Bool.and_eq_true] at h
  refine ⟨h.1, fun e => ?_⟩
  rw [decide_eq_true e] at h
  cases h.2
theorem wo_mono {x y : Int32} {r i : Nat} (hr : r < 10) (hi : i < 32) (h : bt x i = true → bt y i = true) (hx : bt (wo x r) i = true) : bt (wo y r) i = true := by
  obtain ⟨h1, h2⟩ := wo_sub hr hi hx
  rw [wo_bt hr hi, h h1, decide_eq_false h2]; rfl
theorem leave_L {rc rl rh fr : Nat → Int32} {C D : Nat → Nat → Nat} {t r g : Nat} {fc : Nat → Int32} {now : Int32} (hr : r < 10) (hg : g < 4) (hn : now = nI t) (ht : t + 3 < 100000) : ∀ (n k : Nat) (fw fg ct : Nat → Int32), k + n = 10 → FI rh D fr fw (bnd t) fc fg →
    ∃ fw' fg' ct' : Nat → Int32, f_X5_leave_L45 r g fc now n k fw fg ct = (f_J6_bitCount_0f7a4 (fw' g), fw', fg', ct') ∧ FI rh D fr fw' (bnd t) fc fg' ∧ (∀ s, k ≤ s → s < 10 → fw' (4 + g * 10 + s) = wo (fw (4 + g * 10 + s)) r) ∧ ∀ T, (T < 4 + g * 10 + k ∨ 4 + g * 10 + 10 ≤ T) → fw' T = fw T := by
  intro n
  induction n with
  | zero =>
    intro k fw fg ct hk h
    rw [f_X5_leave_L45]
    exact ⟨fw, fg, ct, rfl, h, fun s h1 h2 => by omega, fun T _ => rfl⟩
  | succ n ih =>
    intro k fw fg ct hk h
    rw [f_X5_leave_L45]
    have h1 := unwant_FI h (T := 4 + g * 10 + k) (r := r) (by omega) hr hn ht
    obtain ⟨fw', fg', ct', e1, e2, e3, e4⟩ := ih (k + 1) _ _ (upd ct ((((g * 10) + k) * 10) + r) (nI 0)) (by omega) h1
    refine ⟨fw', fg', ct', e1, e2, fun s h1 h2 => ?_, fun T hT => ?_⟩
    · by_cases e : s = k
      · subst e
        rw [e4 _ (Or.inl (by omega)), pk_us]; rfl
      · rw [e3 s (by omega) h2, pk_un (by omega)]
    · rw [e4 T (by omega), pk_un (by omega)]
theorem leave_is {r g : Nat} {fw fc fg ct lC : Nat → Int32} {now : Int32} (hr : r < 10) (hw : ∀ s, s < 10 → bt ((f_X5_leave r g fw fc fg ct now).2.1 (4 + g * 10 + s)) r = false) : ∀ (n k : Nat) (b : Bool), k + n = 10 → (f_L_joins_L52 r g fw fc fg ct lC now n k b).1 = b ∧ (f_L_joins_L52 r g fw fc fg ct lC now n k b).2 = ((f_X5_leave r g fw fc fg ct now).2.1, fc, (f_X5_leave r g fw fc fg ct now).2.2.1, (f_X5_leave r g fw fc fg ct now).2.2.2, upd lC (1 + g) (wo (lC (1 + g)) r)) := by
  intro n
  induction n with
  | zero => intro k b _; rw [f_L_joins_L52]; exact ⟨rfl, rfl⟩
  | succ n ih =>
    intro k b hk
    rw [f_L_joins_L52]
    have e : j_L_joins_61 r g fw fc fg ct now b k = b := by
      unfold j_L_joins_61
      rw [isIn_bt hr, hw k (by omega), if_neg Bool.false_ne_true]
      cases b <;> rfl
    rw [e]
    exact ih (k + 1) b (by omega)
set_option maxRecDepth 100000 in
theorem joins_ok {k : Nat} {rc rl rh fr fw fc fg ps pg pr pd qp qt qf qo lE lC ct : Nat → Int32} {cand lim now was : Int32} {sent qfi qsz : Nat} (h : INV k rc rl rh fr fw fc fg ps pg pr pd qp qt qf qo lE lC cand lim now sent qfi qsz) (hk : k ≤ 100) {r g : Nat} (hr : r < 10) (hg : g < 4) : (f_L_joins r g rh fr fw fc fg ct lC now).1 = true ∧ INV k rc rl rh fr ((f_L_joins r g rh fr fw fc fg ct lC now).2.1) ((f_L_joins r g rh fr fw fc fg ct lC now).2.2.1) ((f_L_joins r g rh fr fw fc fg ct lC now).2.2.2.1) ps pg pr pd qp qt qf qo lE ((f_L_joins r g rh fr fw fc fg ct lC now).2.2.2.2.2) cand lim now sent qfi qsz := by
  obtain ⟨C, D, t, hR, hE, hro, hrs, hm, hp, h7, h8, h9, h10, h11⟩ := h
  obtain ⟨p1, p2, p3, p4, p5, p6⟩ := hp
  have hlC := (hm g hg).1
  unfold f_L_joins
  rw [hlC, isIn_bt hr]
  by_cases c : bt (fw g) r = true
  · rw [if_pos c]
    have h1 := unwant_FI p2 (T := g) (r := r) (by omega) hr h9 (by omega)
    obtain ⟨fw', fg', ct', e1, e2, e3, e4⟩ := leave_L (rc := rc) (rl := rl) (C := C) hr hg h9 (by omega) 10 0 _ _ ct rfl h1
    have hl : f_X5_leave r g fw fc fg ct now = (f_J6_bitCount_0f7a4 (fw' g), fw', fg', ct') := e1
    have hg' : fw' g = wo (fw g) r := by rw [e4 g (Or.inl (by omega)), pk_us]; rfl
    have hs' : ∀ s, s < 10 → fw' (4 + g * 10 + s) = wo (fw (4 + g * 10 + s)) r := fun s hs => by rw [e3 s (Nat.zero_le _) hs, pk_un (by omega)]
    have ho' : ∀ T, ¬ T = g → (T < 4 + g * 10 ∨ 4 + g * 10 + 10 ≤ T) → fw' T = fw T := fun T h1 h2 => by rw [e4 T (by omega), pk_un h1]
    obtain ⟨l1, l2⟩ := leave_is (lC := lC) (fw := fw) (fc := fc) (fg := fg) (ct := ct) (now := now) (g := g) hr (fun s hs => by
      rw [hl]
      show bt (fw' (4 + g * 10 + s)) r = false
      rw [hs' s hs, wo_bt hr (by omega), decide_eq_true rfl]; simp) 10 0 (j_L_joins_39 r g fw fc fg ct lC now) rfl
    have hj : j_L_joins_39 r g fw fc fg ct lC now = true := by
      unfold j_L_joins_39
      rw [hl, pk_us, hlC]
      show (if f_J6_bitCount_0f7a4 (fw' g) = f_L_many (wo (fw g) r) then true else false) = true
      rw [hg', count_eq (show B10 (wo (fw g) r) from B10_and (p5 g (by omega)) _), if_pos rfl]
    refine ⟨by rw [l1, hj], ?_⟩
    rw [l2, hl]
    dsimp only
    refine ⟨C, D, t, hR, hE, hro, hrs, fun g2 hg2 => ⟨?_, ?_⟩, ⟨p1, e2, fun _ _ => rfl, fun g2 s hg2 hs => ?_, fun T hT => ?_, p6⟩, ?_, ?_, h9, h10, h11⟩
    · by_cases e : g2 = g
      · subst e; rw [pk_us, hg', hlC]
      · rw [pk_un (by omega), ho' g2 e (Or.inl (by omega))]; exact (hm g2 hg2).1
    · rw [pk_un (by omega)]; exact (hm g2 hg2).2
    · obtain ⟨q1, q2⟩ := p4 g2 s hg2 hs
      by_cases e : g2 = g
      · subst e
        rw [hg', hs' s hs]
        refine ⟨fun i hi z => wo_mono hr hi (q1 i hi) z, ?_⟩
        rw [wo_bt hr (by omega), q2]; rfl
      · rw [ho' g2 e (Or.inl (by omega)), ho' (4 + g2 * 10 + s) (by omega) (by omega)]; exact ⟨q1, q2⟩
    · by_cases e : T = g
      · subst e; rw [hg']; exact B10_and (p5 _ hT) _
      · by_cases e2 : T < 4 + g * 10 ∨ 4 + g * 10 + 10 ≤ T
        · rw [ho' T e e2]; exact p5 T hT
        · have := hs' (T - (4 + g * 10)) (by omega)
          rw [show 4 + g * 10 + (T - (4 + g * 10)) = T by omega] at this
          rw [this]; exact B10_and (p5 T hT) _
    · rw [pk_un (by omega)]; exact h7
    · rw [pk_un (by omega)]; exact h8
  · rw [if_neg c]
    dsimp only
    have hF := want_FI hR hro p2 (T := g) (by omega) hr
    have hB : B10 ((fw g) ||| ((nI 1) <<< ((nI r) &&& 31))) := B10_or (p5 g (by omega)) hr
    refine ⟨?_, C, D, t, hR, hE, hro, hrs, fun g2 hg2 => ⟨?_, ?_⟩, ⟨p1, hF, fun _ _ => rfl, fun g2 s hg2 hs => ?_, fun T hT => ?_, p6⟩, ?_, ?_, h9, h10, h11⟩
    · show j_L_joins_119 r g fw lC = true
      unfold j_L_joins_119
      rw [pk_us, pk_us, hlC, count_eq hB, if_pos rfl]
    · show upd lC (1 + g) ((fw g) ||| ((nI 1) <<< ((nI r) &&& 31))) (1 + g2) = upd fw g ((fw g) ||| ((nI 1) <<< ((nI r) &&& 31))) g2
      by_cases e : g2 = g
      · subst e; rw [pk_us, pk_us]
      · rw [pk_un (by omega), pk_un e]; exact (hm g2 hg2).1
    · show fr g2 = f_L_meets (upd lC (1 + g) ((fw g) ||| ((nI 1) <<< ((nI r) &&& 31))) 0) g2
      rw [pk_un (by omega)]; exact (hm g2 hg2).2
    · obtain ⟨q1, q2⟩ := p4 g2 s hg2 hs
      rw [pk_un (show ¬ 4 + g2 * 10 + s = g by omega)]
      refine ⟨fun i hi z => ?_, q2⟩
      by_cases e : g2 = g
      · subst e; rw [pk_us, b_or, q1 i hi z]; rfl
      · rw [pk_un e]; exact q1 i hi z
    · by_cases e : T = g
      · subst e; rw [pk_us]; exact hB
      · rw [pk_un e]; exact p5 T hT
    · show cand = upd lC (1 + g) ((fw g) ||| ((nI 1) <<< ((nI r) &&& 31))) 0
      rw [pk_un (by omega)]; exact h7
    · show upd lC (1 + g) ((fw g) ||| ((nI 1) <<< ((nI r) &&& 31))) 5 = nI sent
      rw [pk_un (by omega)]; exact h8
/-! seconds, the limit -/
theorem pass_ok {k : Nat} {rc rl rh fr fw fc fg ps pg pr pd qp qt qf qo lE lC ct : Nat → Int32} {cand lim now was : Int32} {sent qfi qsz : Nat} (h : INV k rc rl rh fr fw fc fg ps pg pr pd qp qt qf qo lE lC cand lim now sent qfi qsz) (hk : k ≤ 100) {se : Nat} (h1 : 1 ≤ se) (h2 : se ≤ 100) : (f_L_passes se fw fc fg ct now).1 = true ∧ INV (k + 1) rc rl rh fr fw ((f_L_passes se fw fc fg ct now).2.1) ((f_L_passes se fw fc fg ct now).2.2.1) ps pg pr pd qp qt qf qo lE lC cand lim ((f_L_passes se fw fc fg ct now).2.2.2.2) sent qfi qsz := by
  obtain ⟨C, D, t, hR, hE, hro, hrs, hm, hp, h7, h8, h9, h10, h11⟩ := h
  obtain ⟨r1, r2, r3⟩ := passes_ok (ct := ct) hR h1 h2 h9 (by omega) hp.2.1
  exact ⟨r1, C, D, t + se, hR, hE, hro, hrs, hm, ⟨hp.1, r2, hp.2.2⟩, h7, h8, r3, by omega, h11⟩
theorem limit_ok {k : Nat} {rc rl rh fr fw fc fg ps pg pr pd qp qt qf qo lE lC : Nat → Int32} {cand lim now : Int32} {sent qfi qsz : Nat} (h : INV k rc rl rh fr fw fc fg ps pg pr pd qp qt qf qo lE lC cand lim now sent qfi qsz) {y : Nat} : (f_L_step_t y lim).1 = true ∧ INV k rc rl rh fr fw fc fg ps pg pr pd qp qt qf qo lE lC cand ((f_L_step_t y lim).2) now sent qfi qsz := by
  obtain ⟨C, D, t, hR, hE, hro, hrs, hm, hp, h7, h8, h9, h10, L, h11, h12, h13⟩ := h
  refine ⟨?_, C, D, t, hR, hE, hro, hrs, hm, hp, h7, h8, h9, h10, 1 + y % 4, rfl, by omega, by omega⟩
  show j_L_step_t_193 lim = true
  unfold j_L_step_t_193
  rw [h11, if_neg (fun z => by have := (nI_ltI (by omega) (by omega)).mp z; omega)]
/-! packets -/
theorem INV_lC {k : Nat} {rc rl rh fr fw fc fg ps pg pr pd qp qt qf qo lE lC : Nat → Int32} {cand lim now : Int32} {sent qfi qsz : Nat} (h : INV k rc rl rh fr fw fc fg ps pg pr pd qp qt qf qo lE lC cand lim now sent qfi qsz) : lC 5 = nI sent ∧ (∀ g, g < 4 → lC (1 + g) = fw g) ∧ (∀ g, g < 4 → fr g = -1 ∨ ∃ o : Nat, o < 10 ∧ fr g = nI o) ∧ sent ≤ 200 ∧ qfi ≤ 199 ∧ qsz ≤ 200 ∧ QAl ps pg qp qt qf qo sent qfi qsz := by
  obtain ⟨C, D, t, hR, hE, hro, hrs, hm, hp, h7, h8, h9, h10, h11⟩ := h
  obtain ⟨hk, l, hq, hl⟩ := hp.1
  exact ⟨h8, fun g hg => (hm g hg).1, fun g hg => hro g (by omega), hk.1, hq.1, hq.2.1, hp.1⟩
theorem INV_eA {k : Nat} {rc rl rh fr fw fc fg ps pg pr pd qp qt qf qo lE lC : Nat → Int32} {cand lim now : Int32} {sent qfi qsz : Nat} (h : INV k rc rl rh fr fw fc fg ps pg pr pd qp qt qf qo lE lC cand lim now sent qfi qsz) (ct : Nat → Int32) (was : Int32) : eA rc rh fr ps pg lim sent 20000 (fw, fc, fg, pr, pd, qp, qt, qf, qo, ct, was, qfi, qsz) := by
  obtain ⟨C, D, t, hR, hE, hro, hrs, hm, hp, _⟩ := h
  exact eA_all hR hro (fw, fc, fg, pr, pd, qp, qt, qf, qo, ct, was, qfi, qsz) hp
theorem INV_eAs {k : Nat} {rc rl rh fr fw fc fg ps pg pr pd qp qt qf qo lE lC : Nat → Int32} {cand lim now : Int32} {sent qfi qsz : Nat} (h : INV k rc rl rh fr fw fc fg ps pg pr pd qp qt qf qo lE lC cand lim now sent qfi qsz) (ct : Nat → Int32) (was : Int32) {s g : Nat} (hs : s < 10) (hg : g < 4) (h199 : sent ≤ 199) : eA rc rh fr ((f_X5_send s g rl rh fr fw fc fg ps pg pr pd qp qt qf qo ct lim was sent qfi qsz).2.2.2.2.1) ((f_X5_send s g rl rh fr fw fc fg ps pg pr pd qp qt qf qo ct lim was sent qfi qsz).2.2.2.2.2.1) lim ((f_X5_send s g rl rh fr fw fc fg ps pg pr pd qp qt qf qo ct lim was sent qfi qsz).2.2.2.2.2.2.2.2.2.2.2.2.2.2.1) 20000 ((f_X5_send s g rl rh fr fw fc fg ps pg pr pd qp qt qf qo ct lim was sent qfi qsz).2.1, (f_X5_send s g rl rh fr fw fc fg ps pg pr pd qp qt qf qo ct lim was sent qfi qsz).2.2.1, (f_X5_send s g rl rh fr fw fc fg ps pg pr pd qp qt qf qo ct lim was sent qfi qsz).2.2.2.1, (f_X5_send s g rl rh fr fw fc fg ps pg pr pd qp qt qf qo ct lim was sent qfi qsz).2.2.2.2.2.2.1, (f_X5_send s g rl rh fr fw fc fg ps pg pr pd qp qt qf qo ct lim was sent qfi qsz).2.2.2.2.2.2.2.1, (f_X5_send s g rl rh fr fw fc fg ps pg pr pd qp qt qf qo ct lim was sent qfi qsz).2.2.2.2.2.2.2.2.1, (f_X5_send s g rl rh fr fw fc fg ps pg pr pd qp qt qf qo ct lim was sent qfi qsz).2.2.2.2.2.2.2.2.2.1, (f_X5_send s g rl rh fr fw fc fg ps pg pr pd qp qt qf qo ct lim was sent qfi qsz).2.2.2.2.2.2.2.2.2.2.1, (f_X5_send s g rl rh fr fw fc fg ps pg pr pd qp qt qf qo ct lim was sent qfi qsz).2.2.2.2.2.2.2.2.2.2.2.1, (f_X5_send s g rl rh fr fw fc fg ps pg pr pd qp qt qf qo ct lim was sent qfi qsz).2.2.2.2.2.2.2.2.2.2.2.2.1, (f_X5_send s g rl rh fr fw fc fg ps pg pr pd qp qt qf qo ct lim was sent qfi qsz).2.2.2.2.2.2.2.2.2.2.2.2.2.1, qfi, (f_X5_send s g rl rh fr fw fc fg ps pg pr pd qp qt qf qo ct lim was sent qfi qsz).2.2.2.2.2.2.2.2.2.2.2.2.2.2.2) := by
  obtain ⟨C, D, t, hR, hE, hro, hrs, hm, hp, _⟩ := h
  obtain ⟨fw', fc', fg', pr', pd', a, b, c, d, ct', was', qsz', e, hp'⟩ := PI_send (lim := lim) (ct := ct) (was := was) hR hro hp h199 hs hg
  rw [e]
  exact eA_all hR hro (fw', fc', fg', pr', pd', a, b, c, d, ct', was', qfi, qsz') hp'
/-- a packet is sent and followed -/
theorem packet_ok {k : Nat} {rc rl rh fr fw fc fg ps pg pr pd qp qt qf qo lE lC ct : Nat → Int32} {cand lim now was : Int32} {sent qfi qsz : Nat} (h : INV k rc rl rh fr fw fc fg ps pg pr pd qp qt qf qo lE lC cand lim now sent qfi qsz) {s g : Nat} (hs : s < 10) (hg : g < 4) (h199 : sent ≤ 199) (hq0 : qsz = 0) : (f_L_sends s g rc rl rh fr fw fc fg ps pg pr pd qp qt qf qo ct lC lim was sent qfi qsz).1 = true ∧ INV k rc rl rh fr ((f_L_sends s g rc rl rh fr fw fc fg ps pg pr pd qp qt qf qo ct lC lim was sent qfi qsz).2.1) ((f_L_sends s g rc rl rh fr fw fc fg ps pg pr pd qp qt qf qo ct lC lim was sent qfi qsz).2.2.1) ((f_L_sends s g rc rl rh fr fw fc fg ps pg pr pd qp qt qf qo ct lC lim was sent qfi qsz).2.2.2.1) ((f_L_sends s g rc rl rh fr fw fc fg ps pg pr pd qp qt qf qo ct lC lim was sent qfi qsz).2.2.2.2.1) ((f_L_sends s g rc rl rh fr fw fc fg ps pg pr pd qp qt qf qo ct lC lim was sent qfi qsz).2.2.2.2.2.1) ((f_L_sends s g rc rl rh fr fw fc fg ps pg pr pd qp qt qf qo ct lC lim was sent qfi qsz).2.2.2.2.2.2.1) ((f_L_sends s g rc rl rh fr fw fc fg ps pg pr pd qp qt qf qo ct lC lim was sent qfi qsz).2.2.2.2.2.2.2.1) ((f_L_sends s g rc rl rh fr fw fc fg ps pg pr pd qp qt qf qo ct lC lim was sent qfi qsz).2.2.2.2.2.2.2.2.1) ((f_L_sends s g rc rl rh fr fw fc fg ps pg pr pd qp qt qf qo ct lC lim was sent qfi qsz).2.2.2.2.2.2.2.2.2.1) ((f_L_sends s g rc rl rh fr fw fc fg ps pg pr pd qp qt qf qo ct lC lim was sent qfi qsz).2.2.2.2.2.2.2.2.2.2.1) ((f_L_sends s g rc rl rh fr fw fc fg ps pg pr pd qp qt qf qo ct lC lim was sent qfi qsz).2.2.2.2.2.2.2.2.2.2.2.1) lE ((f_L_sends s g rc rl rh fr fw fc fg ps pg pr pd qp qt qf qo ct lC lim was sent qfi qsz).2.2.2.2.2.2.2.2.2.2.2.2.2.1) cand lim now ((f_L_sends s g rc rl rh fr fw fc fg ps pg pr pd qp qt qf qo ct lC lim was sent qfi qsz).2.2.2.2.2.2.2.2.2.2.2.2.2.2.2.1) ((f_L_sends s g rc rl rh fr fw fc fg ps pg pr pd qp qt qf qo ct lC lim was sent qfi qsz).2.2.2.2.2.2.2.2.2.2.2.2.2.2.2.2.1) ((f_L_sends s g rc rl rh fr fw fc fg ps pg pr pd qp qt qf qo ct lC lim was sent qfi qsz).2.2.2.2.2.2.2.2.2.2.2.2.2.2.2.2.2) := by
  obtain ⟨C, D, t, hR, hE, hro, hrs, hm, hp, h7, h8, h9, h10, h11⟩ := h
  obtain ⟨r1, r2, r3, r4⟩ := sends_ok (lim := lim) (ct := ct) (was := was) hR hro hrs hp hq0 hs hg h199 (hm g hg).1
  refine ⟨r1, C, D, t, hR, hE, hro, hrs, fun g2 hg2 => ?_, by rw [r3]; exact PI_self r4, by rw [r2, pk_un (by omega)]; exact h7, by rw [r2, r3, pk_us], h9, h10, h11⟩
  rw [r2, pk_un (by omega), pk_un (by omega), r4.2.2.1 g2 hg2]
  exact hm g2 hg2
/-- a packet is sent -/
theorem send_ok {k : Nat} {rc rl rh fr fw fc fg ps pg pr pd qp qt qf qo lE lC ct : Nat → Int32} {cand lim now was : Int32} {sent qfi qsz : Nat} (h : INV k rc rl rh fr fw fc fg ps pg pr pd qp qt qf qo lE lC cand lim now sent qfi qsz) {s g : Nat} (hs : s < 10) (hg : g < 4) (h199 : sent ≤ 199) : INV k rc rl rh fr ((f_X5_send s g rl rh fr fw fc fg ps pg pr pd qp qt qf qo ct lim was sent qfi qsz).2.1) ((f_X5_send s g rl rh fr fw fc fg ps pg pr pd qp qt qf qo ct lim was sent qfi qsz).2.2.1) ((f_X5_send s g rl rh fr fw fc fg ps pg pr pd qp qt qf qo ct lim was sent qfi qsz).2.2.2.1) ((f_X5_send s g rl rh fr fw fc fg ps pg pr pd qp qt qf qo ct lim was sent qfi qsz).2.2.2.2.1) ((f_X5_send s g rl rh fr fw fc fg ps pg pr pd qp qt qf qo ct lim was sent qfi qsz).2.2.2.2.2.1) ((f_X5_send s g rl rh fr fw fc fg ps pg pr pd qp qt qf qo ct lim was sent qfi qsz).2.2.2.2.2.2.1) ((f_X5_send s g rl rh fr fw fc fg ps pg pr pd qp qt qf qo ct lim was sent qfi qsz).2.2.2.2.2.2.2.1) ((f_X5_send s g rl rh fr fw fc fg ps pg pr pd qp qt qf qo ct lim was sent qfi qsz).2.2.2.2.2.2.2.2.1) ((f_X5_send s g rl rh fr fw fc fg ps pg pr pd qp qt qf qo ct lim was sent qfi qsz).2.2.2.2.2.2.2.2.2.1) ((f_X5_send s g rl rh fr fw fc fg ps pg pr pd qp qt qf qo ct lim was sent qfi qsz).2.2.2.2.2.2.2.2.2.2.1) ((f_X5_send s g rl rh fr fw fc fg ps pg pr pd qp qt qf qo ct lim was sent qfi qsz).2.2.2.2.2.2.2.2.2.2.2.1) lE (upd lC 5 (nI (sent + 1))) cand lim now ((f_X5_send s g rl rh fr fw fc fg ps pg pr pd qp qt qf qo ct lim was sent qfi qsz).2.2.2.2.2.2.2.2.2.2.2.2.2.2.1) qfi ((f_X5_send s g rl rh fr fw fc fg ps pg pr pd qp qt qf qo ct lim was sent qfi qsz).2.2.2.2.2.2.2.2.2.2.2.2.2.2.2) := by
  obtain ⟨C, D, t, hR, hE, hro, hrs, hm, hp, h7, h8, h9, h10, h11⟩ := h
  obtain ⟨fw', fc', fg', pr', pd', a, b, c, d, ct', was', qsz', e, hp'⟩ := PI_send (lim := lim) (ct := ct) (was := was) hR hro hp h199 hs hg
  rw [e]
  dsimp only
  refine ⟨C, D, t, hR, hE, hro, hrs, fun g2 hg2 => ?_, PI_self hp', by rw [pk_un (by omega)]; exact h7, pk_us, h9, h10, h11⟩
  rw [pk_un (by omega), pk_un (by omega)]
  have := hp'.2.2.1 g2 hg2
  rw [show fw' g2 = fw g2 from this]
  exact hm g2 hg2
/-- what changes while packets go keeps it all -/
theorem INV_PI {k : Nat} {rc rl rh fr fw fc fg ps pg pr pd qp qt qf qo lE lC : Nat → Int32} {cand lim now : Int32} {sent qfi qsz : Nat} (h : INV k rc rl rh fr fw fc fg ps pg pr pd qp qt qf qo lE lC cand lim now sent qfi qsz) {fw' fc' fg' pr' pd' qp' qt' qf' qo' : Nat → Int32} {qfi' qsz' : Nat} (hP : ∀ D t, PI rh D fr fw t ps pg sent fw fc fg pr pd qp qt qf qo qfi qsz → (∃ C, Rt rc rl rh C D) → RoOk fr → PI rh D fr fw t ps pg sent fw' fc' fg' pr' pd' qp' qt' qf' qo' qfi' qsz') : INV k rc rl rh fr (fw') (fc') (fg') ps pg (pr') (pd') (qp') (qt') (qf') (qo') lE lC cand lim now sent (qfi') (qsz') := by
  obtain ⟨C, D, t, hR, hE, hro, hrs, hm, hp, h7, h8, h9, h10, h11⟩ := h
  have hp' := hP D t hp ⟨C, hR⟩ hro
  refine ⟨C, D, t, hR, hE, hro, hrs, fun g2 hg2 => ?_, PI_self hp', h7, h8, h9, h10, h11⟩
  rw [hp'.2.2.1 g2 hg2]
  exact hm g2 hg2
/-- a copy is followed -/
theorem follow_ok {k : Nat} {rc rl rh fr fw fc fg ps pg pr pd qp qt qf qo lE lC ct : Nat → Int32} {cand lim now was : Int32} {sent qfi qsz : Nat} (h : INV k rc rl rh fr fw fc fg ps pg pr pd qp qt qf qo lE lC cand lim now sent qfi qsz) : INV k rc rl rh fr ((f_X5_follow rc rh fr fw fc fg ps pg pr pd qp qt qf qo ct lim was qfi qsz).2.1) ((f_X5_follow rc rh fr fw fc fg ps pg pr pd qp qt qf qo ct lim was qfi qsz).2.2.1) ((f_X5_follow rc rh fr fw fc fg ps pg pr pd qp qt qf qo ct lim was qfi qsz).2.2.2.1) ps pg ((f_X5_follow rc rh fr fw fc fg ps pg pr pd qp qt qf qo ct lim was qfi qsz).2.2.2.2.1) ((f_X5_follow rc rh fr fw fc fg ps pg pr pd qp qt qf qo ct lim was qfi qsz).2.2.2.2.2.1) ((f_X5_follow rc rh fr fw fc fg ps pg pr pd qp qt qf qo ct lim was qfi qsz).2.2.2.2.2.2.1) ((f_X5_follow rc rh fr fw fc fg ps pg pr pd qp qt qf qo ct lim was qfi qsz).2.2.2.2.2.2.2.1) ((f_X5_follow rc rh fr fw fc fg ps pg pr pd qp qt qf qo ct lim was qfi qsz).2.2.2.2.2.2.2.2.1) ((f_X5_follow rc rh fr fw fc fg ps pg pr pd qp qt qf qo ct lim was qfi qsz).2.2.2.2.2.2.2.2.2.1) lE lC cand lim now sent ((f_X5_follow rc rh fr fw fc fg ps pg pr pd qp qt qf qo ct lim was qfi qsz).2.2.2.2.2.2.2.2.2.2.2.2.1) ((f_X5_follow rc rh fr fw fc fg ps pg pr pd qp qt qf qo ct lim was qfi qsz).2.2.2.2.2.2.2.2.2.2.2.2.2) := INV_PI h (fun D t hp hR hro => by
  obtain ⟨C, hR⟩ := hR
  exact PI_stp (lim := lim) hR hro (fw, fc, fg, pr, pd, qp, qt, qf, qo, ct, was, qfi, qsz) hp)
theorem all_L {rc rl rh fr M : Nat → Int32} {C D : Nat → Nat → Nat} (hR : Rt rc rl rh C D) (hro : RoOk fr) {t : Nat} {ps pg : Nat → Int32} {lim : Int32} {sent : Nat} (N : Nat) (x : CT) (h : PIc rh D fr M t ps pg sent x) : PIc rh D fr M t ps pg sent (fA rc rh fr ps pg lim N x).2 := PI_all hR hro N x h
/-- all copies are followed -/
theorem followAll_ok {k : Nat} {rc rl rh fr fw fc fg ps pg pr pd qp qt qf qo lE lC ct : Nat → Int32} {cand lim now was : Int32} {sent qfi qsz : Nat} (h : INV k rc rl rh fr fw fc fg ps pg pr pd qp qt qf qo lE lC cand lim now sent qfi qsz) : ¬ ((f_X5_followAll rc rh fr fw fc fg ps pg pr pd qp qt qf qo ct lim was qfi qsz).1) < 0 ∧ (f_X5_followAll rc rh fr fw fc fg ps pg pr pd qp qt qf qo ct lim was qfi qsz).2.2.2.2.2.2.2.2.2.2.2.2.2 = 0 ∧ INV k rc rl rh fr ((f_X5_followAll rc rh fr fw fc fg ps pg pr pd qp qt qf qo ct lim was qfi qsz).2.1) ((f_X5_followAll rc rh fr fw fc fg ps pg pr pd qp qt qf qo ct lim was qfi qsz).2.2.1) ((f_X5_followAll rc rh fr fw fc fg ps pg pr pd qp qt qf qo ct lim was qfi qsz).2.2.2.1) ps pg ((f_X5_followAll rc rh fr fw fc fg ps pg pr pd qp qt qf qo ct lim was qfi qsz).2.2.2.2.1) ((f_X5_followAll rc rh fr fw fc fg ps pg pr pd qp qt qf qo ct lim was qfi qsz).2.2.2.2.2.1) ((f_X5_followAll rc rh fr fw fc fg ps pg pr pd qp qt qf qo ct lim was qfi qsz).2.2.2.2.2.2.1) ((f_X5_followAll rc rh fr fw fc fg ps pg pr pd qp qt qf qo ct lim was qfi qsz).2.2.2.2.2.2.2.1) ((f_X5_followAll rc rh fr fw fc fg ps pg pr pd qp qt qf qo ct lim was qfi qsz).2.2.2.2.2.2.2.2.1) ((f_X5_followAll rc rh fr fw fc fg ps pg pr pd qp qt qf qo ct lim was qfi qsz).2.2.2.2.2.2.2.2.2.1) lE lC cand lim now sent ((f_X5_followAll rc rh fr fw fc fg ps pg pr pd qp qt qf qo ct lim was qfi qsz).2.2.2.2.2.2.2.2.2.2.2.2.1) ((f_X5_followAll rc rh fr fw fc fg ps pg pr pd qp qt qf qo ct lim was qfi qsz).2.2.2.2.2.2.2.2.2.2.2.2.2) := by
  have he := INV_eA h ct was
  obtain ⟨-, j2, j3⟩ := eA_J _ _ he
  refine ⟨?_, j3, INV_PI h (fun D t hp hR hro => ?_)⟩
  · show ¬ nI (fA rc rh fr ps pg lim 20000 (fw, fc, fg, pr, pd, qp, qt, qf, qo, ct, was, qfi, qsz)).1 < 0
    exact nI_pos (by omega)
  · obtain ⟨C, hR⟩ := hR
    exact all_L (lim := lim) hR hro 20000 (fw, fc, fg, pr, pd, qp, qt, qf, qo, ct, was, qfi, qsz) hp
/-- what a copy's following tells -/
theorem follow_tell {rc rh fr fw fc fg ps pg pr pd qp qt qf qo ct : Nat → Int32} {lim was : Int32} {sent qfi qsz : Nat} (h : QAl ps pg qp qt qf qo sent qfi qsz) : j_L_follows_39 rc rh fr ps pg lim fw fc fg pr pd qp qt qf qo ct was qfi qsz = true := by
  have e32 : s_L_follows_32 rc rh fr ps pg lim fw fc fg pr pd qp qt qf qo ct was qfi qsz = f_X5_follow rc rh fr fw fc fg ps pg pr pd qp qt qf qo ct lim was qfi qsz := rfl
  unfold j_L_follows_39
  rw [e32]
  obtain ⟨hp, l, hq, hl⟩ := h
  cases l with
  | nil =>
    have h0 : qsz = 0 := hq.2.2.1.symm
    rw [if_pos h0, follow_0 h0, if_pos nI_0, if_pos (first_none h0)]
  | cons y l =>
    have h1 := hq.2.2.1
    rw [List.length_cons] at h1
    have h2 := hq.2.1
    have hy := hl y List.mem_cons_self
    obtain ⟨-, -, -, -, ho⟩ := Qr_head hq
    have hf : f_X0_firstIn_qo qo qfi qsz = nI y.2.2.2 := by unfold f_X0_firstIn_qo; rw [if_neg (by omega)]; exact ho
    have hy4 := hy.2.2.2
    obtain ⟨g, s, a1, a2, a3, a4⟩ := hp.2 y.1 hy.1
    rw [if_neg (show ¬ qsz = 0 by omega), hf, if_neg (nI_pos (by omega)), if_neg (fun z => by have := (nI_ltI (by omega) (by omega)).mp z; omega)]
    rcases follow_cases (rc := rc) (rh := rh) (fr := fr) (fw := fw) (fc := fc) (fg := fg) (pr := pr) (pd := pd) (ct := ct) (lim := lim) (was := was) hq hp hy a1 a2 a3 a4 with ⟨-, e⟩ | ⟨-, e⟩ | ⟨-, -, sw, ct', a, b, c, d, hsw, e, hq2⟩
    · rw [e]
      dsimp only
      rw [if_neg (by decide), if_neg (by decide), if_neg (by decide), if_pos rfl, if_pos rfl]
    · rw [e]
      dsimp only
      rw [if_neg (by decide), if_neg (by decide), if_neg (by decide), if_pos rfl, if_pos rfl]
    · rw [e]
      dsimp only
      have hlen : ¬ (l ++ news y.1 y.2.1 y.2.2.2 ((kids (swF sw g s y.2.2.2 rh fr fc fg).1 y.2.1 y.2.2.2).take (200 - l.length))).length < qsz - 1 := by rw [List.length_append]; omega
      cases f_X5_has (fw g) y.2.2.2 && !f_X5_has (pr y.1) y.2.2.2
      · rw [if_neg Bool.false_ne_true, if_neg (by decide), if_neg (by decide), if_pos (by decide), if_neg hlen]
      · rw [if_pos rfl, if_neg (by decide), if_neg (by decide), if_pos (by decide), if_neg hlen]
