/-! all copies are followed: both, step by step -/
abbrev CT : Type := (Nat → Int32) × (Nat → Int32) × (Nat → Int32) × (Nat → Int32) × (Nat → Int32) × (Nat → Int32) × (Nat → Int32) × (Nat → Int32) × (Nat → Int32) × (Nat → Int32) × Int32 × Nat × Nat
abbrev RT : Type := (Nat → Int32) × (Nat → Int32) × (Nat → Int32) × (Nat → Int32) × (Nat → Int32) × (Nat → Int32) × (Nat → Int32) × Nat × Int32
def Jc (rc rh fr ps pg : Nat → Int32) (lim : Int32) (sent : Nat) : Nat → CT → CT → Prop
  | 0, x, y => x.2.2.2.2.2.2.2.2.2.2.2.2 = 0 ∧ y = x
  | n + 1, x, y => ∃ pk t f o g s, (pk < 200 ∧ t < 44 ∧ f < 10 ∧ o < 10 ∧ g < 4 ∧ s < 10) ∧ (x.2.2.2.2.2.2.2.2.2.2.2.1 ≤ 199 ∧ x.2.2.2.2.2.2.2.2.2.2.2.2 ≤ 200 ∧ 1 ≤ x.2.2.2.2.2.2.2.2.2.2.2.2) ∧ (x.2.2.2.2.2.1 x.2.2.2.2.2.2.2.2.2.2.2.1 = nI pk ∧ x.2.2.2.2.2.2.1 x.2.2.2.2.2.2.2.2.2.2.2.1 = nI t ∧ x.2.2.2.2.2.2.2.1 x.2.2.2.2.2.2.2.2.2.2.2.1 = nI f ∧ x.2.2.2.2.2.2.2.2.1 x.2.2.2.2.2.2.2.2.2.2.2.1 = nI o) ∧ (pk < sent ∧ pg pk = nI g ∧ ps pk = nI s) ∧
    Jc rc rh fr ps pg lim sent n (f_X5_follow_n pk t f o g s rc rh fr x.1 x.2.1 x.2.2.1 x.2.2.2.1 x.2.2.2.2.1 x.2.2.2.2.2.1 x.2.2.2.2.2.2.1 x.2.2.2.2.2.2.2.1 x.2.2.2.2.2.2.2.2.1 x.2.2.2.2.2.2.2.2.2.1 lim x.2.2.2.2.2.2.2.2.2.2.1 x.2.2.2.2.2.2.2.2.2.2.2.1 x.2.2.2.2.2.2.2.2.2.2.2.2).2 y
def Jr (co fa ic me so gr : Nat → Int32) (lim : Int32) : Nat → RT → RT → Prop
  | 0, x, y => x.2.2.2.2.2.2.2.1 = 0 ∧ y = x
  | n + 1, x, y => ∃ pk t f o g s, (pk < 200 ∧ t < 44 ∧ f < 10 ∧ o < 10 ∧ g < 4 ∧ s < 10) ∧ (x.2.2.2.2.2.2.2.1 ≤ 200 ∧ 1 ≤ x.2.2.2.2.2.2.2.1) ∧ (x.2.2.2.2.1 0 = nI pk ∧ x.2.2.2.2.1 1 = nI t ∧ x.2.2.2.2.1 2 = nI f ∧ x.2.2.2.2.1 3 = nI o) ∧ (gr pk = nI g ∧ so pk = nI s) ∧
    Jr co fa ic me so gr lim n (f_X6_follows_n pk t f o g s co fa ic me x.1 x.2.1 x.2.2.1 x.2.2.2.1 x.2.2.2.2.1 x.2.2.2.2.2.1 x.2.2.2.2.2.2.1 lim x.2.2.2.2.2.2.2.1 x.2.2.2.2.2.2.2.2).2 y
def PRt (co fa ic me : Nat → Int32) (sent : Nat) (x : CT) (y : RT) : Prop := PR co fa ic me sent x.2.2.2.2.2.2.2.2.2.2.2.1 x.1 x.2.1 x.2.2.1 x.2.2.2.1 x.2.2.2.2.1 x.2.2.2.2.2.1 x.2.2.2.2.2.2.1 x.2.2.2.2.2.2.2.1 x.2.2.2.2.2.2.2.2.1 x.2.2.2.2.2.2.2.2.2.1 x.2.2.2.2.2.2.2.2.2.2.1 x.2.2.2.2.2.2.2.2.2.2.2.2 y.1 y.2.1 y.2.2.1 y.2.2.2.1 y.2.2.2.2.1 y.2.2.2.2.2.1 y.2.2.2.2.2.2.1 y.2.2.2.2.2.2.2.1 y.2.2.2.2.2.2.2.2
theorem all_eq {rc rl rh fr co fa ic me ps pg so gr : Nat → Int32} {lim : Int32} {sent : Nat} (hRt : RRt rc rl rh co fa) (hRo : RRo fr ic) (hps : RPs sent ps pg so gr) (hn : sent ≤ 200) {D : Nat → Nat} (hD : ∀ e, e < 100 → fa e = nI (D e)) (hb : ∀ e, e < 100 → D e = 1000000 ∨ D e ≤ 20480) :
    ∀ (N : Nat) (x : CT) (y : RT), PRt co fa ic me sent x y → MM (wt D co fa ic) y.2.2.2.2.1 x.2.2.2.2.2.2.2.2.2.2.2.2 ≤ N →
    ∃ n x1 y1, n ≤ N ∧ Jc rc rh fr ps pg lim sent n x x1 ∧ Jr co fa ic me so gr lim n y y1 ∧ PRt co fa ic me sent x1 y1 := by
  intro N
  induction N with
  | zero =>
    intro x y h hM
    by_cases q : x.2.2.2.2.2.2.2.2.2.2.2.2 = 0
    · obtain ⟨p1, p2, p3, p4, p5, p6, p7, p8, p9⟩ := h
      exact ⟨0, x, y, Nat.le_refl _, ⟨q, rfl⟩, ⟨p8.trans q, rfl⟩, p1, p2, p3, p4, p5, p6, p7, p8, p9⟩
    · exfalso
      obtain ⟨p1, p2, p3, p4, p5, p6, p7, p8, p9⟩ := h
      obtain ⟨pk, t, f, o, a1, a2, a3, a4, b, d1, d2, d3, d4⟩ := RQ_first p7 (by omega)
      have hk := wt_kids (D := D) (co := co) (fa := fa) (ic := ic) hRt.2.2.1 hD hb a4 (p2 t a2).2
      have hr := rest_M (w := wt D co fa ic) (rqd := x.2.2.2.2.2.2.2.2.2.2.2.2) (by omega) a2 a4 d2 d4
      omega
  | succ N ih =>
    intro x y h hM
    by_cases q : x.2.2.2.2.2.2.2.2.2.2.2.2 = 0
    · obtain ⟨p1, p2, p3, p4, p5, p6, p7, p8, p9⟩ := h
      exact ⟨0, x, y, Nat.zero_le _, ⟨q, rfl⟩, ⟨p8.trans q, rfl⟩, p1, p2, p3, p4, p5, p6, p7, p8, p9⟩
    · obtain ⟨p1, p2, p3, p4, p5, p6, p7, p8, p9⟩ := h
      obtain ⟨pk, t, f, o, a1, a2, a3, a4, ⟨b1, b2, b3, b4⟩, d1, d2, d3, d4⟩ := RQ_first p7 (by omega)
      obtain ⟨g, s, g1, g2, g3, g4, g5, g6⟩ := hps pk a1
      have h0 : PR co fa ic me sent x.2.2.2.2.2.2.2.2.2.2.2.1 x.1 x.2.1 x.2.2.1 x.2.2.2.1 x.2.2.2.2.1 x.2.2.2.2.2.1 x.2.2.2.2.2.2.1 x.2.2.2.2.2.2.2.1 x.2.2.2.2.2.2.2.2.1 x.2.2.2.2.2.2.2.2.2.1 x.2.2.2.2.2.2.2.2.2.2.1 x.2.2.2.2.2.2.2.2.2.2.2.2 y.1 y.2.1 y.2.2.1 y.2.2.2.1 y.2.2.2.2.1 y.2.2.2.2.2.1 y.2.2.2.2.2.2.1 x.2.2.2.2.2.2.2.2.2.2.2.2 x.2.2.2.2.2.2.2.2.2.2.1 := ⟨p1, p2, p3, p4, p5, p6, p7, rfl, rfl⟩
      have hst := follow_eq (lim := lim) hRt hRo h0 hn (by omega) (pk := pk) (t := t) (f := f) (o := o) (g := g) (s := s) a1 a2 a3 a4 g1 g2
      have hk1 := wt_kids (D := D) (co := co) (fa := fa) (ic := ic) hRt.2.2.1 hD hb a4 (p2 t a2).2
      have hk2 := wt_kids (D := D) (co := co) (fa := fa) (ic := ic) hRt.2.2.1 hD hb a4 ((RFo_graft hRt hRo p2 (t := 11 * g + s) (by omega) a4) t a2).2
      have hM2 := follow_M (w := wt D co fa ic) (pk := pk) (f := f) (s := s) (g := g) (me := me) (sw := y.1) (cn := y.2.1) (re := y.2.2.2.2.2.1) (db := y.2.2.2.2.2.2.1) (lim := lim) (was := x.2.2.2.2.2.2.2.2.2.2.1) (rqd := x.2.2.2.2.2.2.2.2.2.2.2.2) (by omega) a2 a4 d2 d4 hk1 hk2
      have hst2 : PRt co fa ic me sent (f_X5_follow_n pk (tau t) f o g s rc rh fr x.1 x.2.1 x.2.2.1 x.2.2.2.1 x.2.2.2.2.1 x.2.2.2.2.2.1 x.2.2.2.2.2.2.1 x.2.2.2.2.2.2.2.1 x.2.2.2.2.2.2.2.2.1 x.2.2.2.2.2.2.2.2.2.1 lim x.2.2.2.2.2.2.2.2.2.2.1 x.2.2.2.2.2.2.2.2.2.2.2.1 x.2.2.2.2.2.2.2.2.2.2.2.2).2 (f_X6_follows_n pk t f o g s co fa ic me y.1 y.2.1 y.2.2.1 y.2.2.2.1 y.2.2.2.2.1 y.2.2.2.2.2.1 y.2.2.2.2.2.2.1 lim x.2.2.2.2.2.2.2.2.2.2.2.2 x.2.2.2.2.2.2.2.2.2.2.1).2 := hst.2
      have hq2 := hst2.2.2.2.2.2.2.2.1
      obtain ⟨n, x1, y1, k1, k2, k3, k4⟩ := ih _ _ hst2 (by
        have e := hq2
        rw [← e]
        omega)
      refine ⟨n + 1, x1, y1, by omega, ⟨pk, tau t, f, o, g, s, ⟨by omega, tau_lt a2, a3, a4, g1, g2⟩, ⟨p7.1, p7.2.1, by omega⟩, ⟨b1, b2, b3, b4⟩, ⟨a1, g3, g4⟩, k2⟩, ⟨pk, t, f, o, g, s, ⟨by omega, a2, a3, a4, g1, g2⟩, ⟨by rw [p8]; exact p7.2.1, by rw [p8]; omega⟩, ⟨d1, d2, d3, d4⟩, ⟨g5, g6⟩, ?_⟩, k4⟩
      rw [p8, ← p9]
      exact k3
