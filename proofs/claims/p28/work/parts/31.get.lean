/-! a router gets a packet; a copy is followed: what comes of it -/
def swFw (sw : Bool) (fw : Nat → Int32) (g s_ r : Nat) : Nat → Int32 := if sw = true then upd fw ((4 + (g * 10)) + s_) ((fw ((4 + (g * 10)) + s_)) ||| ((nI 1) <<< ((nI r) &&& 31))) else fw
def swF (sw : Bool) (g s_ r : Nat) (rh fr fc fg : Nat → Int32) : (Nat → Int32) × (Nat → Int32) := if sw = true then f_X2_graft ((4 + (g * 10)) + s_) r rh fr fc fg else (fc, fg)
def gPr (b : Bool) (pk r : Nat) (pr : Nat → Int32) : Nat → Int32 := if b = true then upd pr pk ((pr pk) ||| ((nI 1) <<< ((nI r) &&& 31))) else pr
def gPd (b : Bool) (pk : Nat) (pd : Nat → Int32) : Nat → Int32 := if b = true then upd pd pk ((pd pk) + (nI 1)) else pd
theorem says_cases {m s g : Nat} {fw ct : Nat → Int32} {lim : Int32} : ∃ b ct', f_X5_countSaysSwitch m s g fw ct lim = (b, ct') ∧ (b = true → ¬ m = s ∧ ¬ f_X5_has (fw ((4 + (g * 10)) + s)) m = true) := by
  unfold f_X5_countSaysSwitch
  split
  · exact ⟨_, _, rfl, fun h => absurd h Bool.false_ne_true⟩
  · split
    · exact ⟨_, _, rfl, fun h => absurd h Bool.false_ne_true⟩
    · split
      · exact ⟨_, _, rfl, fun h => absurd h Bool.false_ne_true⟩
      · rename_i h1 h2 h3
        exact ⟨_, _, rfl, fun _ => ⟨h2, h3⟩⟩
theorem shared_lt {t : Nat} : f_X5_isShared t = true ↔ t < 4 := by
  unfold f_X5_isShared
  by_cases c : 4 ≤ t
  · rw [if_pos c]; exact ⟨fun h => absurd h (by decide), fun h => by omega⟩
  · rw [if_neg c]; exact ⟨fun _ => by omega, fun _ => rfl⟩
theorem get_cases {pk t r g s_ : Nat} {rh fr fw fc fg pr pd qp qt qf qo ct : Nat → Int32} {lim was : Int32} {qfi qsz : Nat} {l : List Cp} (h : Qr qp qt qf qo qfi qsz l) :
    ∃ (sw : Bool) (ct' a b c d : Nat → Int32), (sw = true → f_X5_has (fw g) r = true ∧ ¬ f_X5_has (pr pk) r = true ∧ t < 4 ∧ ¬ r = s_ ∧ ¬ f_X5_has (fw ((4 + (g * 10)) + s_)) r = true) ∧
      f_X5_getPacket pk t r g s_ rh fr fw fc fg pr pd qp qt qf qo ct lim was qfi qsz = (f_X5_has (fw g) r && !f_X5_has (pr pk) r, swFw sw fw g s_ r, (swF sw g s_ r rh fr fc fg).1, (swF sw g s_ r rh fr fc fg).2,
        gPr (f_X5_has (fw g) r && !f_X5_has (pr pk) r) pk r pr, gPd (f_X5_has (fw g) r && f_X5_has (pr pk) r) pk pd, a, b, c, d, ct', was + nI ((kids (swF sw g s_ r rh fr fc fg).1 t r).length - (200 - l.length)), (l ++ news pk t r ((kids (swF sw g s_ r rh fr fc fg).1 t r).take (200 - l.length))).length) ∧
      Qr a b c d qfi (l ++ news pk t r ((kids (swF sw g s_ r rh fr fc fg).1 t r).take (200 - l.length))).length (l ++ news pk t r ((kids (swF sw g s_ r rh fr fc fg).1 t r).take (200 - l.length))) := by
  unfold f_X5_getPacket
  by_cases c1 : f_X5_has (fw g) r = true
  · rw [if_pos c1, c1]
    by_cases c2 : f_X5_has (pr pk) r = true
    · rw [if_pos c2, c2]
      obtain ⟨a, b, c, d, e1, e2⟩ := goOn_q (pk := pk) (t := t) (r := r) (fc := fc) (was := was) h
      rw [e1]
      exact ⟨false, ct, a, b, c, d, fun h => absurd h Bool.false_ne_true, rfl, e2⟩
    · rw [if_neg c2]
      have c2' : f_X5_has (pr pk) r = false := Bool.eq_false_iff.mpr c2
      rw [c2']
      by_cases c3 : f_X5_isShared t = true
      · rw [if_pos c3]
        obtain ⟨b0, ct', e0, e00⟩ := says_cases (m := r) (s := s_) (g := g) (fw := fw) (ct := ct) (lim := lim)
        rw [e0]
        cases b0
        · rw [if_neg Bool.false_ne_true]
          obtain ⟨a, b, c, d, e1, e2⟩ := goOn_q (pk := pk) (t := t) (r := r) (fc := fc) (was := was) h
          rw [e1]
          exact ⟨false, ct', a, b, c, d, fun h => absurd h Bool.false_ne_true, rfl, e2⟩
        · rw [if_pos rfl]
          obtain ⟨a, b, c, d, e1, e2⟩ := goOn_q (pk := pk) (t := t) (r := r) (fc := (f_X2_graft ((4 + (g * 10)) + s_) r rh fr fc fg).1) (was := was) h
          rw [e1]
          exact ⟨true, ct', a, b, c, d, fun _ => ⟨rfl, Bool.false_ne_true, shared_lt.mp c3, (e00 rfl).1, (e00 rfl).2⟩, rfl, e2⟩
      · rw [if_neg c3]
        obtain ⟨a, b, c, d, e1, e2⟩ := goOn_q (pk := pk) (t := t) (r := r) (fc := fc) (was := was) h
        rw [e1]
        exact ⟨false, ct, a, b, c, d, fun h => absurd h Bool.false_ne_true, rfl, e2⟩
  · rw [if_neg c1]
    have c1' : f_X5_has (fw g) r = false := Bool.eq_false_iff.mpr c1
    rw [c1']
    obtain ⟨a, b, c, d, e1, e2⟩ := goOn_q (pk := pk) (t := t) (r := r) (fc := fc) (was := was) h
    rw [e1]
    exact ⟨false, ct, a, b, c, d, fun h => absurd h Bool.false_ne_true, rfl, e2⟩
/-- the numbers of a copy are numbers -/
def CpOk (sent : Nat) (x : Cp) : Prop := x.1 < sent ∧ x.2.1 < 44 ∧ x.2.2.1 < 10 ∧ x.2.2.2 < 10
def PkOk (ps pg : Nat → Int32) (sent : Nat) : Prop := sent ≤ 200 ∧ ∀ pk, pk < sent → ∃ g s : Nat, g < 4 ∧ s < 10 ∧ pg pk = nI g ∧ ps pk = nI s
theorem follow_hd {rc rh fr fw fc fg ps pg pr pd qp qt qf qo ct : Nat → Int32} {lim was : Int32} {sent qfi qsz g s_ : Nat} {x : Cp} {l : List Cp} (h : Qr qp qt qf qo qfi qsz (x :: l)) (hp : PkOk ps pg sent) (hx : CpOk sent x) (hg : g < 4) (hs : s_ < 10) (eg : pg x.1 = nI g) (es : ps x.1 = nI s_) :
    f_X5_follow rc rh fr fw fc fg ps pg pr pd qp qt qf qo ct lim was qfi qsz = f_X5_follow_n x.1 x.2.1 x.2.2.1 x.2.2.2 g s_ rc rh fr fw fc fg pr pd qp qt qf qo ct lim was qfi qsz := by
  obtain ⟨h1, h2, h3, h4, h5⟩ := Qr_head h
  exact follow_1 h1 ⟨Nat.lt_of_lt_of_le hx.1 hp.1, hx.2.1, hx.2.2.1, hx.2.2.2, hg, hs⟩ ⟨h2, h3, h4, h5⟩ eg es
/-- a copy that is followed: lost, dropped, or the router gets it -/
theorem follow_cases {rc rh fr fw fc fg ps pg pr pd qp qt qf qo ct : Nat → Int32} {lim was : Int32} {sent qfi qsz g s_ : Nat} {x : Cp} {l : List Cp} (h : Qr qp qt qf qo qfi qsz (x :: l)) (hp : PkOk ps pg sent) (hx : CpOk sent x) (hg : g < 4) (hs : s_ < 10) (eg : pg x.1 = nI g) (es : ps x.1 = nI s_) :
    (rc (x.2.2.1 * 10 + x.2.2.2) = 0 ∧ f_X5_follow rc rh fr fw fc fg ps pg pr pd qp qt qf qo ct lim was qfi qsz = (nI 1, fw, fc, fg, pr, pd, qp, qt, qf, qo, ct, was + nI 1, (qfi + 1) % 200, qsz - 1)) ∨
    (¬ f_X4_hopOf_r x.2.2.2 (fr x.2.1) rh = nI x.2.2.1 ∧ f_X5_follow rc rh fr fw fc fg ps pg pr pd qp qt qf qo ct lim was qfi qsz = (nI 2, fw, fc, fg, pr, pd, qp, qt, qf, qo, ct, was + nI 1, (qfi + 1) % 200, qsz - 1)) ∨
    (¬ rc (x.2.2.1 * 10 + x.2.2.2) = 0 ∧ f_X4_hopOf_r x.2.2.2 (fr x.2.1) rh = nI x.2.2.1 ∧ ∃ (sw : Bool) (ct' a b c d : Nat → Int32), (sw = true → f_X5_has (fw g) x.2.2.2 = true ∧ ¬ f_X5_has (pr x.1) x.2.2.2 = true ∧ x.2.1 < 4 ∧ ¬ x.2.2.2 = s_ ∧ ¬ f_X5_has (fw ((4 + (g * 10)) + s_)) x.2.2.2 = true) ∧
      f_X5_follow rc rh fr fw fc fg ps pg pr pd qp qt qf qo ct lim was qfi qsz = (if (f_X5_has (fw g) x.2.2.2 && !f_X5_has (pr x.1) x.2.2.2) = true then nI 4 else nI 3, swFw sw fw g s_ x.2.2.2, (swF sw g s_ x.2.2.2 rh fr fc fg).1, (swF sw g s_ x.2.2.2 rh fr fc fg).2,
        gPr (f_X5_has (fw g) x.2.2.2 && !f_X5_has (pr x.1) x.2.2.2) x.1 x.2.2.2 pr, gPd (f_X5_has (fw g) x.2.2.2 && f_X5_has (pr x.1) x.2.2.2) x.1 pd, a, b, c, d, ct', was + nI ((kids (swF sw g s_ x.2.2.2 rh fr fc fg).1 x.2.1 x.2.2.2).length - (200 - l.length)), (qfi + 1) % 200, (l ++ news x.1 x.2.1 x.2.2.2 ((kids (swF sw g s_ x.2.2.2 rh fr fc fg).1 x.2.1 x.2.2.2).take (200 - l.length))).length) ∧
      Qr a b c d ((qfi + 1) % 200) (l ++ news x.1 x.2.1 x.2.2.2 ((kids (swF sw g s_ x.2.2.2 rh fr fc fg).1 x.2.1 x.2.2.2).take (200 - l.length))).length (l ++ news x.1 x.2.1 x.2.2.2 ((kids (swF sw g s_ x.2.2.2 rh fr fc fg).1 x.2.1 x.2.2.2).take (200 - l.length)))) := by
  rw [follow_hd h hp hx hg hs eg es]
  unfold f_X5_follow_n
  by_cases c1 : rc (x.2.2.1 * 10 + x.2.2.2) = 0
  · rw [if_pos c1]; exact Or.inl ⟨c1, rfl⟩
  · rw [if_neg c1]
    by_cases c2 : f_X4_hopOf_r x.2.2.2 (fr x.2.1) rh = nI x.2.2.1
    · rw [if_pos c2]
      obtain ⟨sw, ct', a, b, c, d, e1, e2, e3⟩ := get_cases (pk := x.1) (t := x.2.1) (r := x.2.2.2) (g := g) (s_ := s_) (rh := rh) (fr := fr) (fw := fw) (fc := fc) (fg := fg) (pr := pr) (pd := pd) (ct := ct) (lim := lim) (was := was) (Qr_rest h)
      rw [e2]
      refine Or.inr (Or.inr ⟨c1, c2, sw, ct', a, b, c, d, e1, ?_, e3⟩)
      cases hb : (f_X5_has (fw g) x.2.2.2 && !f_X5_has (pr x.1) x.2.2.2)
      · rw [if_neg Bool.false_ne_true, if_neg Bool.false_ne_true]
      · rw [if_pos rfl, if_pos rfl]
    · rw [if_neg c2]; exact Or.inr (Or.inl ⟨c2, rfl⟩)
def QAl (ps pg qp qt qf qo : Nat → Int32) (sent qfi qsz : Nat) : Prop := PkOk ps pg sent ∧ ∃ l, Qr qp qt qf qo qfi qsz l ∧ ∀ x ∈ l, CpOk sent x
theorem QAl_V {ps pg qp qt qf qo : Nat → Int32} {sent qfi qsz : Nat} (h : QAl ps pg qp qt qf qo sent qfi qsz) : QVf ps pg qp qt qf qo sent qfi qsz := by
  obtain ⟨hp, l, hq, hl⟩ := h
  intro h1
  cases l with
  | nil => have := hq.2.2.1; rw [List.length_nil] at this; omega
  | cons x l =>
    obtain ⟨-, h2, h3, h4, h5⟩ := Qr_head hq
    have hx := hl x List.mem_cons_self
    obtain ⟨g, s, a1, a2, a3, a4⟩ := hp.2 x.1 hx.1
    exact ⟨x.1, x.2.1, x.2.2.1, x.2.2.2, g, s, ⟨Nat.lt_of_lt_of_le hx.1 hp.1, hx.2.1, hx.2.2.1, hx.2.2.2, a1, a2⟩, ⟨h2, h3, h4, h5⟩, hx.1, a3, a4⟩
theorem news_ok {sent pk t r : Nat} {ks : List Nat} (h1 : pk < sent) (h2 : t < 44) (h3 : r < 10) (hk : ∀ k ∈ ks, k < 10) : ∀ x ∈ news pk t r ks, CpOk sent x := by
  intro x hx
  obtain ⟨k, a, rfl⟩ := List.mem_map.mp hx
  exact ⟨h1, h2, h3, hk k a⟩
theorem QAl_step {rc rh fr fw fc fg ps pg pr pd qp qt qf qo ct : Nat → Int32} {lim was : Int32} {sent qfi qsz : Nat} (h : QAl ps pg qp qt qf qo sent qfi qsz) :
    QAl ps pg (f_X5_follow rc rh fr fw fc fg ps pg pr pd qp qt qf qo ct lim was qfi qsz).2.2.2.2.2.2.1 (f_X5_follow rc rh fr fw fc fg ps pg pr pd qp qt qf qo ct lim was qfi qsz).2.2.2.2.2.2.2.1 (f_X5_follow rc rh fr fw fc fg ps pg pr pd qp qt qf qo ct lim was qfi qsz).2.2.2.2.2.2.2.2.1 (f_X5_follow rc rh fr fw fc fg ps pg pr pd qp qt qf qo ct lim was qfi qsz).2.2.2.2.2.2.2.2.2.1 sent
      (f_X5_follow rc rh fr fw fc fg ps pg pr pd qp qt qf qo ct lim was qfi qsz).2.2.2.2.2.2.2.2.2.2.2.2.1 (f_X5_follow rc rh fr fw fc fg ps pg pr pd qp qt qf qo ct lim was qfi qsz).2.2.2.2.2.2.2.2.2.2.2.2.2 := by
  obtain ⟨hp, l, hq, hl⟩ := h
  cases l with
  | nil =>
    have h0 := hq.2.2.1
    rw [List.length_nil] at h0
    rw [follow_0 h0.symm]
    exact ⟨hp, [], hq, hl⟩
  | cons x l =>
    have hx := hl x List.mem_cons_self
    obtain ⟨g, s, a1, a2, a3, a4⟩ := hp.2 x.1 hx.1
    rcases follow_cases (rc := rc) (rh := rh) (fr := fr) (fw := fw) (fc := fc) (fg := fg) (pr := pr) (pd := pd) (ct := ct) (lim := lim) (was := was) hq hp hx a1 a2 a3 a4 with ⟨-, e⟩ | ⟨-, e⟩ | ⟨-, -, sw, ct', a, b, c, d, -, e, hq2⟩
    · rw [e]; exact ⟨hp, l, Qr_rest hq, fun y hy => hl y (List.mem_cons_of_mem _ hy)⟩
    · rw [e]; exact ⟨hp, l, Qr_rest hq, fun y hy => hl y (List.mem_cons_of_mem _ hy)⟩
    · rw [e]
      refine ⟨hp, _, hq2, fun y hy => ?_⟩
      rcases List.mem_append.mp hy with hy | hy
      · exact hl y (List.mem_cons_of_mem _ hy)
      · exact news_ok hx.1 hx.2.1 hx.2.2.2 (fun k hk => (mem_kids.mp (List.mem_of_mem_take hk)).1) y hy
