/-! leaving: the reference; both -/
theorem leave_r1 {r g : Nat} {me sw cn ab go : Nat → Int32} {clk : Int32} (hr : r < 10) (hg : g < 4) : ∀ (n k : Nat) (sw1 cn1 : Nat → Int32), k + n = 10 →
    (∀ e, sw1 e = if 10 * g ≤ e ∧ e < 10 * g + k then off r (sw e) else sw e) →
    (∀ m s g2, m < 10 → s < 10 → g2 < 4 → cn1 (40 * m + 4 * s + g2) = if g2 = g ∧ m = r ∧ s < k then nI 0 else cn (40 * m + 4 * s + g2)) →
    ∃ swR cnR, f_X6_leave_L57 r g me ab go clk n k sw1 cn1 = f_X6_leave_L109 r g me ab clk swR cnR 11 0 go ∧ (∀ e, swR e = if 10 * g ≤ e ∧ e < 10 * g + 10 then off r (sw e) else sw e) ∧
    (∀ m s g2, m < 10 → s < 10 → g2 < 4 → cnR (40 * m + 4 * s + g2) = if g2 = g ∧ m = r then nI 0 else cn (40 * m + 4 * s + g2)) := by
  intro n
  induction n with
  | zero =>
    intro k sw1 cn1 hk h1 h3
    obtain rfl : k = 10 := by omega
    rw [f_X6_leave_L57]
    refine ⟨sw1, cn1, rfl, h1, fun m s g2 hm hs hg2 => ?_⟩
    rw [h3 m s g2 hm hs hg2]
    by_cases q : g2 = g ∧ m = r
    · rw [if_pos q, if_pos ⟨q.1, q.2, hs⟩]
    · rw [if_neg q, if_neg (fun z => q ⟨z.1, z.2.1⟩)]
  | succ n ih =>
    intro k sw1 cn1 hk h1 h3
    rw [f_X6_leave_L57]
    have hold : sw1 (10 * g + k) = sw (10 * g + k) := by rw [h1, if_neg (by omega)]
    refine ih (k + 1) _ _ (by omega) (fun e => ?_) (fun m s g2 hm hs hg2 => ?_)
    · by_cases q : e = 10 * g + k
      · rw [q, pk_us, hold, if_pos (by omega)]; rfl
      · rw [pk_un q, h1]
        by_cases q2 : 10 * g ≤ e ∧ e < 10 * g + k
        · rw [if_pos q2, if_pos (by omega)]
        · rw [if_neg q2, if_neg (by omega)]
    · by_cases q : 40 * m + 4 * s + g2 = 40 * r + 4 * k + g
      · rw [q, pk_us, if_pos (by omega)]
      · rw [pk_un q, h3 m s g2 hm hs hg2]
        by_cases q2 : g2 = g ∧ m = r ∧ s < k
        · rw [if_pos q2, if_pos ⟨q2.1, q2.2.1, by omega⟩]
        · rw [if_neg q2, if_neg (fun z => q2 ⟨z.1, z.2.1, by
            have : ¬ s = k := fun y => q (by rw [y, z.1, z.2.1])
            omega⟩)]
theorem leave_r2 {r g : Nat} {me swR cnR ab go : Nat → Int32} {clk : Int32} (hr : r < 10) : ∀ (n k : Nat) (go1 : Nat → Int32), k + n = 11 →
    (∀ t, ((11 * g ≤ t ∧ t < 11 * g + k) → SR t (f_X6_looks t r (upd me g (off r (me g))) swR ab go clk) go1) ∧ (¬ (11 * g ≤ t ∧ t < 11 * g + k) → SR t go go1)) →
    ∃ goR, f_X6_leave_L109 r g me ab clk swR cnR n k go1 = (f_X6_many (off r (me g)), upd me g (off r (me g)), swR, cnR, goR, nI 0) ∧
    ∀ t, ((11 * g ≤ t ∧ t < 11 * g + 11) → SR t (f_X6_looks t r (upd me g (off r (me g))) swR ab go clk) goR) ∧ (¬ (11 * g ≤ t ∧ t < 11 * g + 11) → SR t go goR) := by
  intro n
  induction n with
  | zero =>
    intro k go1 hk h
    obtain rfl : k = 11 := by omega
    rw [f_X6_leave_L109]
    refine ⟨go1, ?_, h⟩
    rw [pk_us]; rfl
  | succ n ih =>
    intro k go1 hk h
    rw [f_X6_leave_L109]
    refine ih (k + 1) _ (by omega) (fun t => ?_)
    by_cases q : t = 11 * g + k
    · subst q
      refine ⟨fun _ => ?_, fun z => absurd (by omega) z⟩
      exact lk_cong ((h _).2 (by omega)) hr
    · have hs := SR_of (lk_fr (t := 11 * g + k) (r := r) (clk := clk) (me := upd me g (off r (me g))) (sw := swR) (ab := ab) (go := go1) hr) q
      exact ⟨fun z => ((h t).1 (by omega)).trans hs, fun z => ((h t).2 (by omega)).trans hs⟩
theorem B10_off {x : Int32} (h : B10 x) (r : Nat) : B10 (off r x) := B10_and h _
/-- a router leaves -/
theorem leave_eq {co fa ic fw me sw fc fg ab go ct cn : Nat → Int32} {now : Int32} (hW : RWa fw me sw) (hF : RFo co fa ic fc fg ab go) (hC : RCt ct cn) {r g : Nat} (hr : r < 10) (hg : g < 4) :
    (f_X5_leave r g fw fc fg ct now).1 = (f_X6_leave r g me sw cn ab go now).1 ∧
    RWa (f_X5_leave r g fw fc fg ct now).2.1 (f_X6_leave r g me sw cn ab go now).2.1 (f_X6_leave r g me sw cn ab go now).2.2.1 ∧
    RFo co fa ic fc (f_X5_leave r g fw fc fg ct now).2.2.1 ab (f_X6_leave r g me sw cn ab go now).2.2.2.2.1 ∧
    RCt (f_X5_leave r g fw fc fg ct now).2.2.2 (f_X6_leave r g me sw cn ab go now).2.2.2.1 ∧ (f_X6_leave r g me sw cn ab go now).2.2.2.2.2 = nI 0 := by
  have hfw0 : ∀ e, upd fw g ((fw g) &&& (((nI 1) <<< ((nI r) &&& 31)) ^^^ (-1))) e = FW r g 0 fw e := fun e => by
    unfold FW
    by_cases q : e = g
    · rw [q, pk_us, if_pos (by omega)]; rfl
    · rw [pk_un q, if_neg (by omega)]
  obtain ⟨fwR, fgR, ctR, a1, a2, a3, a4⟩ := leave_c (fw := fw) (fc := fc) (fg := fg) (ct := ct) (now := now) hr hg 10 0 (upd fw g ((fw g) &&& (((nI 1) <<< ((nI r) &&& 31)) ^^^ (-1)))) (f_X2_letLeave g r now (upd fw g ((fw g) &&& (((nI 1) <<< ((nI r) &&& 31)) ^^^ (-1)))) fc fg) ct rfl hfw0 (fun T => by
      by_cases q : T = g
      · subst q
        refine ⟨fun _ => ll_cong ?_ (SR.refl fg) hr, fun z => absurd (by omega) z⟩
        rw [hfw0]; unfold FW; rw [if_pos (by omega), if_pos (by omega)]
      · exact ⟨fun z => absurd z (by omega), fun _ => SR_of (ll_fr hr) q⟩) (fun m s g2 _ _ _ => by rw [if_neg (by omega)])
  obtain ⟨swR, cnR, b1, b2, b3⟩ := leave_r1 (me := me) (sw := sw) (cn := cn) (ab := ab) (go := go) (clk := now) hr hg 10 0 sw cn rfl (fun e => by rw [if_neg (by omega)]) (fun m s g2 _ _ _ => by rw [if_neg (by omega)])
  obtain ⟨goR, d1, d2⟩ := leave_r2 (g := g) (me := me) (swR := swR) (cnR := cnR) (ab := ab) (go := go) (clk := now) hr 11 0 go rfl (fun t => ⟨fun z => absurd z (by omega), fun _ => SR.refl go⟩)
  unfold f_X5_leave f_X6_leave
  rw [a1, b1, d1]
  have hfg : fwR g = off r (me g) := by rw [a2]; unfold FW; rw [if_pos (by omega), hW.1 g hg]
  have hW2 : RWa fwR (upd me g (off r (me g))) swR := by
    refine ⟨fun i hi => ?_, fun i s hi hs => ?_, fun T hT => ?_⟩
    · by_cases q : i = g
      · subst q; rw [hfg, pk_us]
      · rw [pk_un q, a2]; unfold FW; rw [if_neg (by omega)]; exact hW.1 i hi
    · rw [a2, b2]; unfold FW
      by_cases q : i = g
      · subst q; rw [if_pos (by omega), if_pos (by omega), hW.2.1 i s hi hs]
      · rw [if_neg (by omega), if_neg (by omega)]; exact hW.2.1 i s hi hs
    · rw [a2]; unfold FW
      split
      · exact B10_off (hW.2.2 T hT) r
      · exact hW.2.2 T hT
  refine ⟨?_, hW2, fun t ht => ?_, fun m s g2 hm hs hg2 => ?_, rfl⟩
  · show f_J6_bitCount_0f7a4 (fwR g) = f_X6_many (off r (me g))
    rw [hfg]
    exact count_eq (B10_off (by rw [← hW.1 g hg]; exact hW.2.2 g (by omega)) r)
  · show RTr (tau t) t fc fgR ab goR ∧ TInv co fa (f_X6_root t ic) t ab goR
    have hiff : (tau t = g ∨ (4 + g * 10 ≤ tau t ∧ tau t < 4 + g * 10 + 10)) ↔ (11 * g ≤ t ∧ t < 11 * g + 11) := by
      unfold tau
      by_cases q : t % 11 = 10
      · rw [if_pos q]; omega
      · rw [if_neg q]; omega
    by_cases q : 11 * g ≤ t ∧ t < 11 * g + 11
    · obtain ⟨l1, l2, _, _⟩ := look_eq (clk := now) hW2 ht hr (hF t ht).1 (hF t ht).2
      have s1 : SR (tau t) (f_X2_letLeave (tau t) r now fwR fc fg) fgR := (ll_cong (a2 _) (SR.refl fg) hr).trans ((a3 (tau t)).1 (hiff.mpr q))
      exact ⟨RTr_SR l1 (SR.refl fc) s1 (SR.refl ab) ((d2 t).1 q), TInv_SR l2 (SR.refl ab) ((d2 t).1 q)⟩
    · exact ⟨RTr_SR (hF t ht).1 (SR.refl fc) ((a3 (tau t)).2 (fun z => q (hiff.mp z))) (SR.refl ab) ((d2 t).2 q), TInv_SR (hF t ht).2 (SR.refl ab) ((d2 t).2 q)⟩
  · show ctR _ = cnR _
    rw [a4 m s g2 hm hs hg2, b3 m s g2 hm hs hg2, hC m s g2 hm hs hg2]
