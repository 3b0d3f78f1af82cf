/-! one step of both: the calls that change things -/
theorem rS {x : Int32} {n : Nat} (hn : n < 2 ^ 31) (h1 : ¬ x < nI 1) (h2 : x ≤ nI n) : x = nI x.toNatClampNeg ∧ 1 ≤ x.toNatClampNeg ∧ x.toNatClampNeg ≤ n := by
  have h3 : 1 ≤ x.toInt := by
    have := mt Int32.lt_iff_toInt_lt.mpr h1
    rw [nI_toInt (by omega)] at this
    omega
  have h4 : x.toInt ≤ n := by
    have := Int32.le_iff_toInt_le.mp h2
    rw [nI_toInt hn] at this
    exact this
  have e : x.toNatClampNeg = x.toInt.toNat := rfl
  refine ⟨Int32.toInt_inj.mp ?_, by omega, by omega⟩
  rw [nI_toInt (by omega)]
  omega
theorem rC {x : Int32} {n : Nat} (hn : n < 2 ^ 31) (h1 : ¬ x < 0) (h2 : x ≤ nI n) : x = nI x.toNatClampNeg ∧ x.toNatClampNeg ≤ n := by
  have h3 : 0 ≤ x.toInt := by
    have := mt Int32.lt_iff_toInt_lt.mpr h1
    have e : (0 : Int32).toInt = 0 := by decide
    omega
  have h4 : x.toInt ≤ n := by
    have := Int32.le_iff_toInt_le.mp h2
    rw [nI_toInt hn] at this
    exact this
  have e : x.toNatClampNeg = x.toInt.toNat := rfl
  refine ⟨Int32.toInt_inj.mp ?_, by omega⟩
  rw [nI_toInt (by omega)]
  omega
theorem rP {x : Int32} {sent : Nat} (hs : sent ≤ 200) (h : f_X3_isPacket_r x sent = true) : x = nI x.toNatClampNeg ∧ x.toNatClampNeg < sent := by
  unfold f_X3_isPacket_r at h
  by_cases c : x < 0
  · rw [if_pos c] at h; cases h
  · rw [if_neg c] at h
    by_cases c2 : nI sent ≤ x
    · rw [if_pos c2] at h; cases h
    · exact nat_of (by omega) c c2
theorem rPb {x : Int32} {sent : Nat} (hs : sent ≤ 200) (h : ¬ f_X3_isPacket_r x sent = true) : x < 0 ∨ (¬ x < 0 ∧ nI sent ≤ x) := by
  by_cases c : x < 0
  · exact Or.inl c
  · refine Or.inr ⟨c, ?_⟩
    by_cases c2 : nI sent ≤ x
    · exact c2
    · exfalso
      apply h
      unfold f_X3_isPacket_r
      obtain ⟨e, h2⟩ := nat_of (by omega) c c2
      rw [if_neg c, if_neg c2, if_neg (fun q => by rw [e, nI_leI (by omega) (by omega)] at q; omega)]
theorem st_setLimit {l : Launch} {D : va_G} {cI cZ : ClassId} {ad ad2 : Nat → Nat} {c k : Nat} {wc wr : va_W} (hst : l.stackTraces = false) (hc : c + 200 < 2 ^ 31) (h : REL cI cZ ad ad2 c k wc wr) (p0 : Int32) : StG l D cI cZ ad ad2 c yX5_setLimit cX5_setLimit 3 yX6_setLimit cX6_setLimit 3 .int [.int p0] wc wr (fun _ => True) ∨ StX l D cI cZ ad ad2 c 1 "java/lang/IllegalArgumentException" yX5_setLimit cX5_setLimit 3 yX6_setLimit cX6_setLimit 3 .int [.int p0] wc wr := by
  obtain ⟨rc, rl, rh, fr, fw, fc, fg, ps, pg, pr, pd, qp, qt, qf, qo, ct, cand, lim, now, was, sent, qfi, qsz, co, fa, ic, me, sw, cn, ab, go, cp, so, gr, re, db, rclk, rlim, rqd, rpk, rwas, rfl, rfl, hRt, hRo, hCa, hPR, hPs, hs200, e1, e2, e3, e4⟩ := h
  obtain ⟨hW, hF, hC, hrv, hdu, hfr, hQ, e5, e6⟩ := hPR
  have e1' := e1.symm
  have e2' := e2.symm
  have e5' := e5.symm
  subst e1'
  subst e2'
  subst e3
  subst e4
  subst e5'
  subst e6
  by_cases c1 : p0 < nI 1
  · right
    have h5 := c_X5_setLimit_b1 l D cI cZ ad rc rl rh fr fw fc fg ps pg pr pd qp qt qf qo ct cand lim (nI c) was sent qfi qsz p0 hst c1
    have h6 := c_X6_setLimit_b1 l D cI cZ ad2 co fa ic me sw cn ab go cp so gr re db (nI c) lim qsz sent was (nI k) p0 c1
    exact StX.mk h5 h6 ⟨⟨rfl, rfl⟩, Nat.le_of_ble_eq_true rfl, Nat.le_of_ble_eq_true rfl⟩ ⟨⟨rfl, rfl⟩, Nat.le_of_ble_eq_true rfl, Nat.le_of_ble_eq_true rfl⟩ ⟨rc, rl, rh, fr, fw, fc, fg, ps, pg, pr, pd, qp, qt, qf, qo, ct, cand, lim, (nI c), was, sent, qfi, qsz, co, fa, ic, me, sw, cn, ab, go, cp, so, gr, re, db, (nI c), lim, qsz, sent, was, rfl, rfl, hRt, hRo, hCa, ⟨hW, hF, hC, hrv, hdu, hfr, hQ, rfl, rfl⟩, hPs, hs200, rfl, rfl, rfl, rfl⟩ wfR
  · by_cases c2 : p0 ≤ nI 100
    · obtain ⟨q, b1, b2⟩ := rS (by decide) c1 c2
      generalize p0.toNatClampNeg = li at q b1 b2
      subst q
      left
      have h5 := c_X5_setLimit l D cI cZ ad rc rl rh fr fw fc fg ps pg pr pd qp qt qf qo ct cand lim (nI c) was sent qfi qsz li (by omega) b1
      have h6 := c_X6_setLimit l D cI cZ ad2 co fa ic me sw cn ab go cp so gr re db (nI c) lim qsz sent was (nI k) li (by omega) b1
      exact StG.mk h5 h6 rfl ⟨⟨rfl, rfl⟩, Nat.le_of_ble_eq_true rfl, Nat.le_of_ble_eq_true rfl⟩ ⟨⟨rfl, rfl⟩, Nat.le_of_ble_eq_true rfl, Nat.le_of_ble_eq_true rfl⟩ ⟨rc, rl, rh, fr, fw, fc, fg, ps, pg, pr, pd, qp, qt, qf, qo, ct, cand, (nI li), (nI c), was, sent, qfi, qsz, co, fa, ic, me, sw, cn, ab, go, cp, so, gr, re, db, (nI c), (nI li), qsz, sent, was, rfl, rfl, hRt, hRo, hCa, ⟨hW, hF, hC, hrv, hdu, hfr, hQ, rfl, rfl⟩, hPs, hs200, rfl, rfl, rfl, rfl⟩ wfC wfR trivial
    · right
      have h5 := c_X5_setLimit_b2 l D cI cZ ad rc rl rh fr fw fc fg ps pg pr pd qp qt qf qo ct cand lim (nI c) was sent qfi qsz p0 hst c1 c2
      have h6 := c_X6_setLimit_b2 l D cI cZ ad2 co fa ic me sw cn ab go cp so gr re db (nI c) lim qsz sent was (nI k) p0 c1 c2
      exact StX.mk h5 h6 ⟨⟨rfl, rfl⟩, Nat.le_of_ble_eq_true rfl, Nat.le_of_ble_eq_true rfl⟩ ⟨⟨rfl, rfl⟩, Nat.le_of_ble_eq_true rfl, Nat.le_of_ble_eq_true rfl⟩ ⟨rc, rl, rh, fr, fw, fc, fg, ps, pg, pr, pd, qp, qt, qf, qo, ct, cand, lim, (nI c), was, sent, qfi, qsz, co, fa, ic, me, sw, cn, ab, go, cp, so, gr, re, db, (nI c), lim, qsz, sent, was, rfl, rfl, hRt, hRo, hCa, ⟨hW, hF, hC, hrv, hdu, hfr, hQ, rfl, rfl⟩, hPs, hs200, rfl, rfl, rfl, rfl⟩ wfR
theorem st_pass {l : Launch} {D : va_G} {cI cZ : ClassId} {ad ad2 : Nat → Nat} {c k : Nat} {wc wr : va_W} (hst : l.stackTraces = false) (hc : c + 200 < 2 ^ 31) (h : REL cI cZ ad ad2 c k wc wr) (p0 : Int32) : (∃ c1, c1 ≤ c + 100 ∧ StG l D cI cZ ad ad2 c1 yX5_pass cX5_pass 4 yX6_pass cX6_pass 5 .int [.int p0] wc wr (fun _ => True)) ∨ StX l D cI cZ ad ad2 c 1 "java/lang/IllegalArgumentException" yX5_pass cX5_pass 4 yX6_pass cX6_pass 5 .int [.int p0] wc wr := by
  obtain ⟨rc, rl, rh, fr, fw, fc, fg, ps, pg, pr, pd, qp, qt, qf, qo, ct, cand, lim, now, was, sent, qfi, qsz, co, fa, ic, me, sw, cn, ab, go, cp, so, gr, re, db, rclk, rlim, rqd, rpk, rwas, rfl, rfl, hRt, hRo, hCa, hPR, hPs, hs200, e1, e2, e3, e4⟩ := h
  obtain ⟨hW, hF, hC, hrv, hdu, hfr, hQ, e5, e6⟩ := hPR
  have e1' := e1.symm
  have e2' := e2.symm
  have e5' := e5.symm
  subst e1'
  subst e2'
  subst e3
  subst e4
  subst e5'
  subst e6
  by_cases c1 : p0 < nI 1
  · right
    have h5 := c_X5_pass_b1 l D cI cZ ad rc rl rh fr fw fc fg ps pg pr pd qp qt qf qo ct cand lim (nI c) was sent qfi qsz p0 hst c1
    have h6 := c_X6_pass_b1 l D cI cZ ad2 co fa ic me sw cn ab go cp so gr re db (nI c) lim qsz sent was (nI k) p0 c1
    exact StX.mk h5 h6 ⟨⟨rfl, rfl⟩, Nat.le_of_ble_eq_true rfl, Nat.le_of_ble_eq_true rfl⟩ ⟨⟨rfl, rfl⟩, Nat.le_of_ble_eq_true rfl, Nat.le_of_ble_eq_true rfl⟩ ⟨rc, rl, rh, fr, fw, fc, fg, ps, pg, pr, pd, qp, qt, qf, qo, ct, cand, lim, (nI c), was, sent, qfi, qsz, co, fa, ic, me, sw, cn, ab, go, cp, so, gr, re, db, (nI c), lim, qsz, sent, was, rfl, rfl, hRt, hRo, hCa, ⟨hW, hF, hC, hrv, hdu, hfr, hQ, rfl, rfl⟩, hPs, hs200, rfl, rfl, rfl, rfl⟩ wfR
  · by_cases c2 : p0 ≤ nI 100
    · obtain ⟨q, b1, b2⟩ := rS (by decide) c1 c2
      generalize p0.toNatClampNeg = se at q b1 b2
      subst q
      left
      refine ⟨c + se, by omega, ?_⟩
      have h5 := c_X5_pass l D cI cZ ad rc rl rh fr fw fc fg ps pg pr pd qp qt qf qo ct cand lim (nI c) was sent qfi qsz se (by omega) b1
      have h6 := c_X6_pass l D cI cZ ad2 co fa ic me sw cn ab go cp so gr re db (nI c) lim qsz sent was (nI k) se (by omega) b1
      obtain ⟨e1, e2, e3, e4, e5, e6⟩ := pass_eq (se := se) (c := c) hW hF hC (by omega)
      rw [e4] at h5
      rw [e5, e6] at h6
      exact StG.mk h5 h6 e1 ⟨⟨rfl, rfl⟩, Nat.le_of_ble_eq_true rfl, Nat.le_of_ble_eq_true rfl⟩ ⟨⟨rfl, rfl⟩, Nat.le_of_ble_eq_true rfl, Nat.le_of_ble_eq_true rfl⟩ ⟨rc, rl, rh, fr, fw, (f_X5_pass se fw fc fg ct (nI c)).2.1, (f_X5_pass se fw fc fg ct (nI c)).2.2.1, ps, pg, pr, pd, qp, qt, qf, qo, (f_X5_pass se fw fc fg ct (nI c)).2.2.2.1, cand, lim, (nI (c + se)), was, sent, qfi, qsz, co, fa, ic, me, sw, (f_X6_pass se me sw cn ab go (nI c)).2.1, (f_X6_pass se me sw cn ab go (nI c)).2.2.1, (f_X6_pass se me sw cn ab go (nI c)).2.2.2.1, cp, so, gr, re, db, (nI (c + se)), lim, qsz, sent, was, rfl, rfl, hRt, hRo, hCa, ⟨hW, e2, e3, hrv, hdu, hfr, hQ, rfl, rfl⟩, hPs, hs200, rfl, rfl, rfl, rfl⟩ wfC wfR trivial
    · right
      have h5 := c_X5_pass_b2 l D cI cZ ad rc rl rh fr fw fc fg ps pg pr pd qp qt qf qo ct cand lim (nI c) was sent qfi qsz p0 hst c1 c2
      have h6 := c_X6_pass_b2 l D cI cZ ad2 co fa ic me sw cn ab go cp so gr re db (nI c) lim qsz sent was (nI k) p0 c1 c2
      exact StX.mk h5 h6 ⟨⟨rfl, rfl⟩, Nat.le_of_ble_eq_true rfl, Nat.le_of_ble_eq_true rfl⟩ ⟨⟨rfl, rfl⟩, Nat.le_of_ble_eq_true rfl, Nat.le_of_ble_eq_true rfl⟩ ⟨rc, rl, rh, fr, fw, fc, fg, ps, pg, pr, pd, qp, qt, qf, qo, ct, cand, lim, (nI c), was, sent, qfi, qsz, co, fa, ic, me, sw, cn, ab, go, cp, so, gr, re, db, (nI c), lim, qsz, sent, was, rfl, rfl, hRt, hRo, hCa, ⟨hW, hF, hC, hrv, hdu, hfr, hQ, rfl, rfl⟩, hPs, hs200, rfl, rfl, rfl, rfl⟩ wfR
theorem st_setLink {l : Launch} {D : va_G} {cI cZ : ClassId} {ad ad2 : Nat → Nat} {c k : Nat} {wc wr : va_W} (hst : l.stackTraces = false) (hc : c + 200 < 2 ^ 31) (h : REL cI cZ ad ad2 c k wc wr) (p0 : Int32) (p1 : Int32) (p2 : Int32) : StG l D cI cZ ad ad2 c yX5_setLink cX5_setLink 5 yX6_setLink cX6_setLink 5 .int [.int p0, .int p1, .int p2] wc wr (fun _ => True) ∨ StX l D cI cZ ad ad2 c 1 "java/lang/IndexOutOfBoundsException" yX5_setLink cX5_setLink 5 yX6_setLink cX6_setLink 5 .int [.int p0, .int p1, .int p2] wc wr ∨ StX l D cI cZ ad ad2 c 2 "java/lang/IllegalArgumentException" yX5_setLink cX5_setLink 5 yX6_setLink cX6_setLink 5 .int [.int p0, .int p1, .int p2] wc wr := by
  obtain ⟨rc, rl, rh, fr, fw, fc, fg, ps, pg, pr, pd, qp, qt, qf, qo, ct, cand, lim, now, was, sent, qfi, qsz, co, fa, ic, me, sw, cn, ab, go, cp, so, gr, re, db, rclk, rlim, rqd, rpk, rwas, rfl, rfl, hRt, hRo, hCa, hPR, hPs, hs200, e1, e2, e3, e4⟩ := h
  obtain ⟨hW, hF, hC, hrv, hdu, hfr, hQ, e5, e6⟩ := hPR
  have e1' := e1.symm
  have e2' := e2.symm
  have e5' := e5.symm
  subst e1'
  subst e2'
  subst e3
  subst e4
  subst e5'
  subst e6
  by_cases zr : f_X5_isRouter_r p0 = true
  · obtain ⟨qr, br⟩ := isRouter_r zr
    generalize p0.toNatClampNeg = r at qr br
    subst qr
    by_cases zo : f_X5_isRouter_r p1 = true
    · obtain ⟨qo, bo⟩ := isRouter_r zo
      generalize p1.toNatClampNeg = o at qo bo
      subst qo
      by_cases c3 : r = o
      · right
        right
        have h5 := c_X5_setLink_b3 l D cI cZ ad rc rl rh fr fw fc fg ps pg pr pd qp qt qf qo ct cand lim (nI c) was sent qfi qsz r o p2 br bo hst c3
        have h6 := c_X6_setLink_b3 l D cI cZ ad2 co fa ic me sw cn ab go cp so gr re db (nI c) lim qsz sent was (nI k) r o p2 br bo c3
        exact StX.mk h5 h6 ⟨⟨rfl, rfl⟩, Nat.le_of_ble_eq_true rfl, Nat.le_of_ble_eq_true rfl⟩ ⟨⟨rfl, rfl⟩, Nat.le_of_ble_eq_true rfl, Nat.le_of_ble_eq_true rfl⟩ ⟨rc, rl, rh, fr, fw, fc, fg, ps, pg, pr, pd, qp, qt, qf, qo, ct, cand, lim, (nI c), was, sent, qfi, qsz, co, fa, ic, me, sw, cn, ab, go, cp, so, gr, re, db, (nI c), lim, qsz, sent, was, rfl, rfl, hRt, hRo, hCa, ⟨hW, hF, hC, hrv, hdu, hfr, hQ, rfl, rfl⟩, hPs, hs200, rfl, rfl, rfl, rfl⟩ wfR
      · by_cases c4 : p2 < 0
        · right
          right
          have h5 := c_X5_setLink_b4 l D cI cZ ad rc rl rh fr fw fc fg ps pg pr pd qp qt qf qo ct cand lim (nI c) was sent qfi qsz r o p2 br bo hst c3 c4
          have h6 := c_X6_setLink_b4 l D cI cZ ad2 co fa ic me sw cn ab go cp so gr re db (nI c) lim qsz sent was (nI k) r o p2 br bo c3 c4
          exact StX.mk h5 h6 ⟨⟨rfl, rfl⟩, Nat.le_of_ble_eq_true rfl, Nat.le_of_ble_eq_true rfl⟩ ⟨⟨rfl, rfl⟩, Nat.le_of_ble_eq_true rfl, Nat.le_of_ble_eq_true rfl⟩ ⟨rc, rl, rh, fr, fw, fc, fg, ps, pg, pr, pd, qp, qt, qf, qo, ct, cand, lim, (nI c), was, sent, qfi, qsz, co, fa, ic, me, sw, cn, ab, go, cp, so, gr, re, db, (nI c), lim, qsz, sent, was, rfl, rfl, hRt, hRo, hCa, ⟨hW, hF, hC, hrv, hdu, hfr, hQ, rfl, rfl⟩, hPs, hs200, rfl, rfl, rfl, rfl⟩ wfR
        · by_cases c5 : p2 ≤ nI 20
          · obtain ⟨q, b2⟩ := rC (by decide) c4 c5
            generalize p2.toNatClampNeg = v_ at q b2
            subst q
            left
            have h5 := c_X5_setLink l D cI cZ ad rc rl rh fr fw fc fg ps pg pr pd qp qt qf qo ct cand lim (nI c) was sent qfi qsz r o v_ br bo (by omega) c3
            have h6 := c_X6_setLink l D cI cZ ad2 co fa ic me sw cn ab go cp so gr re db (nI c) lim qsz sent was (nI k) r o v_ br bo (by omega) c3 (hend (Costs_new hRt.2.2.1 br bo (by omega)) (far_ok (Costs_new hRt.2.2.1 br bo (by omega)) fa) ic)
            obtain ⟨e1, e2, e3, e4⟩ := link_eq (c := v_) hRt hW hRo hF br bo (by omega)
            rw [e4] at h6
            exact StG.mk h5 h6 e1 ⟨⟨rfl, rfl⟩, Nat.le_of_ble_eq_true rfl, Nat.le_of_ble_eq_true rfl⟩ ⟨⟨rfl, rfl⟩, Nat.le_of_ble_eq_true rfl, Nat.le_of_ble_eq_true rfl⟩ ⟨(f_X5_setLink r o v_ rc rl rh fr fw fc fg).2.1, (f_X5_setLink r o v_ rc rl rh fr fw fc fg).2.2.1, (f_X5_setLink r o v_ rc rl rh fr fw fc fg).2.2.2.1, fr, fw, (f_X5_setLink r o v_ rc rl rh fr fw fc fg).2.2.2.2.1, (f_X5_setLink r o v_ rc rl rh fr fw fc fg).2.2.2.2.2, ps, pg, pr, pd, qp, qt, qf, qo, ct, cand, lim, (nI c), was, sent, qfi, qsz, (f_X6_setLink r o v_ co fa ic me sw ab go).2.1, (f_X6_setLink r o v_ co fa ic me sw ab go).2.2.1, ic, me, sw, cn, (f_X6_setLink r o v_ co fa ic me sw ab go).2.2.2.1, (f_X6_setLink r o v_ co fa ic me sw ab go).2.2.2.2.1, cp, so, gr, re, db, (nI c), lim, qsz, sent, was, rfl, rfl, e2, hRo, hCa, ⟨hW, e3, hC, hrv, hdu, hfr, hQ, rfl, rfl⟩, hPs, hs200, rfl, rfl, rfl, rfl⟩ wfC wfR trivial
          · right
            right
            have h5 := c_X5_setLink_b5 l D cI cZ ad rc rl rh fr fw fc fg ps pg pr pd qp qt qf qo ct cand lim (nI c) was sent qfi qsz r o p2 br bo hst c3 c4 c5
            have h6 := c_X6_setLink_b5 l D cI cZ ad2 co fa ic me sw cn ab go cp so gr re db (nI c) lim qsz sent was (nI k) r o p2 br bo c3 c4 c5
            exact StX.mk h5 h6 ⟨⟨rfl, rfl⟩, Nat.le_of_ble_eq_true rfl, Nat.le_of_ble_eq_true rfl⟩ ⟨⟨rfl, rfl⟩, Nat.le_of_ble_eq_true rfl, Nat.le_of_ble_eq_true rfl⟩ ⟨rc, rl, rh, fr, fw, fc, fg, ps, pg, pr, pd, qp, qt, qf, qo, ct, cand, lim, (nI c), was, sent, qfi, qsz, co, fa, ic, me, sw, cn, ab, go, cp, so, gr, re, db, (nI c), lim, qsz, sent, was, rfl, rfl, hRt, hRo, hCa, ⟨hW, hF, hC, hrv, hdu, hfr, hQ, rfl, rfl⟩, hPs, hs200, rfl, rfl, rfl, rfl⟩ wfR
    · right
      left
      have h5 := c_X5_setLink_b2 l D cI cZ ad rc rl rh fr fw fc fg ps pg pr pd qp qt qf qo ct cand lim (nI c) was sent qfi qsz r p1 p2 br hst zo
      have h6 := c_X6_setLink_b2 l D cI cZ ad2 co fa ic me sw cn ab go cp so gr re db (nI c) lim qsz sent was (nI k) r p1 p2 br zo
      exact StX.mk h5 h6 ⟨⟨rfl, rfl⟩, Nat.le_of_ble_eq_true rfl, Nat.le_of_ble_eq_true rfl⟩ ⟨⟨rfl, rfl⟩, Nat.le_of_ble_eq_true rfl, Nat.le_of_ble_eq_true rfl⟩ ⟨rc, rl, rh, fr, fw, fc, fg, ps, pg, pr, pd, qp, qt, qf, qo, ct, cand, lim, (nI c), was, sent, qfi, qsz, co, fa, ic, me, sw, cn, ab, go, cp, so, gr, re, db, (nI c), lim, qsz, sent, was, rfl, rfl, hRt, hRo, hCa, ⟨hW, hF, hC, hrv, hdu, hfr, hQ, rfl, rfl⟩, hPs, hs200, rfl, rfl, rfl, rfl⟩ wfR
  · right
    left
    have h5 := c_X5_setLink_b1 l D cI cZ ad rc rl rh fr fw fc fg ps pg pr pd qp qt qf qo ct cand lim (nI c) was sent qfi qsz p0 p1 p2 hst zr
    have h6 := c_X6_setLink_b1 l D cI cZ ad2 co fa ic me sw cn ab go cp so gr re db (nI c) lim qsz sent was (nI k) p0 p1 p2 zr
    exact StX.mk h5 h6 ⟨⟨rfl, rfl⟩, Nat.le_of_ble_eq_true rfl, Nat.le_of_ble_eq_true rfl⟩ ⟨⟨rfl, rfl⟩, Nat.le_of_ble_eq_true rfl, Nat.le_of_ble_eq_true rfl⟩ ⟨rc, rl, rh, fr, fw, fc, fg, ps, pg, pr, pd, qp, qt, qf, qo, ct, cand, lim, (nI c), was, sent, qfi, qsz, co, fa, ic, me, sw, cn, ab, go, cp, so, gr, re, db, (nI c), lim, qsz, sent, was, rfl, rfl, hRt, hRo, hCa, ⟨hW, hF, hC, hrv, hdu, hfr, hQ, rfl, rfl⟩, hPs, hs200, rfl, rfl, rfl, rfl⟩ wfR
theorem st_setCandidate {l : Launch} {D : va_G} {cI cZ : ClassId} {ad ad2 : Nat → Nat} {c k : Nat} {wc wr : va_W} (hst : l.stackTraces = false) (hc : c + 200 < 2 ^ 31) (h : REL cI cZ ad ad2 c k wc wr) (p0 : Int32) (on : Bool) : StG l D cI cZ ad ad2 c yX5_setCandidate cX5_setCandidate 4 yX6_setCandidate cX6_setCandidate 3 .boolean [.int p0, .int (bI on)] wc wr (fun v => ∃ b : Bool, v = bI b) ∨ StX l D cI cZ ad ad2 c 1 "java/lang/IndexOutOfBoundsException" yX5_setCandidate cX5_setCandidate 4 yX6_setCandidate cX6_setCandidate 3 .boolean [.int p0, .int (bI on)] wc wr := by
  obtain ⟨rc, rl, rh, fr, fw, fc, fg, ps, pg, pr, pd, qp, qt, qf, qo, ct, cand, lim, now, was, sent, qfi, qsz, co, fa, ic, me, sw, cn, ab, go, cp, so, gr, re, db, rclk, rlim, rqd, rpk, rwas, rfl, rfl, hRt, hRo, hCa, hPR, hPs, hs200, e1, e2, e3, e4⟩ := h
  obtain ⟨hW, hF, hC, hrv, hdu, hfr, hQ, e5, e6⟩ := hPR
  have e1' := e1.symm
  have e2' := e2.symm
  have e5' := e5.symm
  subst e1'
  subst e2'
  subst e3
  subst e4
  subst e5'
  subst e6
  by_cases zr : f_X5_isRouter_r p0 = true
  · obtain ⟨qr, br⟩ := isRouter_r zr
    generalize p0.toNatClampNeg = r at qr br
    subst qr
    left
    have h5 := c_X5_setCandidate l D cI cZ ad rc rl rh fr fw fc fg ps pg pr pd qp qt qf qo ct cand lim (nI c) was sent qfi qsz r on br
    have h6 := c_X6_setCandidate l D cI cZ ad2 co fa ic me sw cn ab go cp so gr re db (nI c) lim qsz sent was (nI k) r on br (hend hRt.2.2.1 hRt.2.2.2.1 _)
    obtain ⟨e1, e2, e3, e4, e5⟩ := cand_eq hRt hW hRo hCa hF br on
    rw [e5] at h6
    exact StG.mk h5 h6 (congrArg bI e1) ⟨⟨rfl, rfl⟩, Nat.le_of_ble_eq_true rfl, Nat.le_of_ble_eq_true rfl⟩ ⟨⟨rfl, rfl⟩, Nat.le_of_ble_eq_true rfl, Nat.le_of_ble_eq_true rfl⟩ ⟨rc, rl, rh, (f_X5_setCandidate r on rh fr fw fc fg cand).2.1, fw, (f_X5_setCandidate r on rh fr fw fc fg cand).2.2.1, (f_X5_setCandidate r on rh fr fw fc fg cand).2.2.2.1, ps, pg, pr, pd, qp, qt, qf, qo, ct, (f_X5_setCandidate r on rh fr fw fc fg cand).2.2.2.2, lim, (nI c), was, sent, qfi, qsz, co, fa, (f_X6_setCandidate r on co fa ic me sw ab go).2.1, me, sw, cn, (f_X6_setCandidate r on co fa ic me sw ab go).2.2.1, (f_X6_setCandidate r on co fa ic me sw ab go).2.2.2.1, cp, so, gr, re, db, (nI c), lim, qsz, sent, was, rfl, rfl, hRt, e2, e4, ⟨hW, e3, hC, hrv, hdu, hfr, hQ, rfl, rfl⟩, hPs, hs200, rfl, rfl, rfl, rfl⟩ wfC wfR ⟨_, rfl⟩
  · right
    have h5 := c_X5_setCandidate_b1 l D cI cZ ad rc rl rh fr fw fc fg ps pg pr pd qp qt qf qo ct cand lim (nI c) was sent qfi qsz p0 on hst zr
    have h6 := c_X6_setCandidate_b1 l D cI cZ ad2 co fa ic me sw cn ab go cp so gr re db (nI c) lim qsz sent was (nI k) p0 on zr
    exact StX.mk h5 h6 ⟨⟨rfl, rfl⟩, Nat.le_of_ble_eq_true rfl, Nat.le_of_ble_eq_true rfl⟩ ⟨⟨rfl, rfl⟩, Nat.le_of_ble_eq_true rfl, Nat.le_of_ble_eq_true rfl⟩ ⟨rc, rl, rh, fr, fw, fc, fg, ps, pg, pr, pd, qp, qt, qf, qo, ct, cand, lim, (nI c), was, sent, qfi, qsz, co, fa, ic, me, sw, cn, ab, go, cp, so, gr, re, db, (nI c), lim, qsz, sent, was, rfl, rfl, hRt, hRo, hCa, ⟨hW, hF, hC, hrv, hdu, hfr, hQ, rfl, rfl⟩, hPs, hs200, rfl, rfl, rfl, rfl⟩ wfR
theorem st_join {l : Launch} {D : va_G} {cI cZ : ClassId} {ad ad2 : Nat → Nat} {c k : Nat} {wc wr : va_W} (hst : l.stackTraces = false) (hc : c + 200 < 2 ^ 31) (h : REL cI cZ ad ad2 c k wc wr) (p0 : Int32) (p1 : Int32) : StG l D cI cZ ad ad2 c yX5_join cX5_join 3 yX6_join cX6_join 3 .int [.int p0, .int p1] wc wr (fun _ => True) ∨ StX l D cI cZ ad ad2 c 1 "java/lang/IndexOutOfBoundsException" yX5_join cX5_join 3 yX6_join cX6_join 3 .int [.int p0, .int p1] wc wr ∨ StX l D cI cZ ad ad2 c 2 "java/lang/IllegalStateException" yX5_join cX5_join 3 yX6_join cX6_join 3 .int [.int p0, .int p1] wc wr := by
  obtain ⟨rc, rl, rh, fr, fw, fc, fg, ps, pg, pr, pd, qp, qt, qf, qo, ct, cand, lim, now, was, sent, qfi, qsz, co, fa, ic, me, sw, cn, ab, go, cp, so, gr, re, db, rclk, rlim, rqd, rpk, rwas, rfl, rfl, hRt, hRo, hCa, hPR, hPs, hs200, e1, e2, e3, e4⟩ := h
  obtain ⟨hW, hF, hC, hrv, hdu, hfr, hQ, e5, e6⟩ := hPR
  have e1' := e1.symm
  have e2' := e2.symm
  have e5' := e5.symm
  subst e1'
  subst e2'
  subst e3
  subst e4
  subst e5'
  subst e6
  by_cases zr : f_X5_isRouter_r p0 = true
  · obtain ⟨qr, br⟩ := isRouter_r zr
    generalize p0.toNatClampNeg = r at qr br
    subst qr
    by_cases zg : f_X5_isGroup_r p1 = true
    · obtain ⟨qg, bg⟩ := rG zg
      generalize p1.toNatClampNeg = g at qg bg
      subst qg
      by_cases hm : f_X5_has (fw g) r = true
      · right
        right
        have h5 := c_X5_join_b3 l D cI cZ ad rc rl rh fr fw fc fg ps pg pr pd qp qt qf qo ct cand lim (nI c) was sent qfi qsz r g br bg hst hm
        have h6 := c_X6_join_b3 l D cI cZ ad2 co fa ic me sw cn ab go cp so gr re db (nI c) lim qsz sent was (nI k) r g br bg ((member_eq hW br bg).symm.trans hm)
        exact StX.mk h5 h6 ⟨⟨rfl, rfl⟩, Nat.le_of_ble_eq_true rfl, Nat.le_of_ble_eq_true rfl⟩ ⟨⟨rfl, rfl⟩, Nat.le_of_ble_eq_true rfl, Nat.le_of_ble_eq_true rfl⟩ ⟨rc, rl, rh, fr, fw, fc, fg, ps, pg, pr, pd, qp, qt, qf, qo, ct, cand, lim, (nI c), was, sent, qfi, qsz, co, fa, ic, me, sw, cn, ab, go, cp, so, gr, re, db, (nI c), lim, qsz, sent, was, rfl, rfl, hRt, hRo, hCa, ⟨hW, hF, hC, hrv, hdu, hfr, hQ, rfl, rfl⟩, hPs, hs200, rfl, rfl, rfl, rfl⟩ wfR
      · left
        have h5 := c_X5_join l D cI cZ ad rc rl rh fr fw fc fg ps pg pr pd qp qt qf qo ct cand lim (nI c) was sent qfi qsz r g br bg hm
        have h6 := c_X6_join l D cI cZ ad2 co fa ic me sw cn ab go cp so gr re db (nI c) lim qsz sent was (nI k) r g br bg (hend hRt.2.2.1 hRt.2.2.2.1 ic) (fun z => hm ((member_eq hW br bg).trans z))
        obtain ⟨e1, e2, e3⟩ := join_eq hRt hW hRo hF br bg
        exact StG.mk h5 h6 e1 ⟨⟨rfl, rfl⟩, Nat.le_of_ble_eq_true rfl, Nat.le_of_ble_eq_true rfl⟩ ⟨⟨rfl, rfl⟩, Nat.le_of_ble_eq_true rfl, Nat.le_of_ble_eq_true rfl⟩ ⟨rc, rl, rh, fr, (upd fw g ((fw g) ||| ((nI 1) <<< ((nI r) &&& 31)))), (f_X2_graft g r rh fr fc fg).1, (f_X2_graft g r rh fr fc fg).2, ps, pg, pr, pd, qp, qt, qf, qo, ct, cand, lim, (nI c), was, sent, qfi, qsz, co, fa, ic, (upd me g ((me g) ||| ((nI 1) <<< ((nI r) &&& 31)))), sw, cn, (f_X6_graft ((11 * g) + 10) r co fa ic ab go).1, (f_X6_graft ((11 * g) + 10) r co fa ic ab go).2, cp, so, gr, re, db, (nI c), lim, qsz, sent, was, rfl, rfl, hRt, hRo, hCa, ⟨e2, e3, hC, hrv, hdu, hfr, hQ, rfl, rfl⟩, hPs, hs200, rfl, rfl, rfl, rfl⟩ wfC wfR trivial
    · right
      left
      have h5 := c_X5_join_b2 l D cI cZ ad rc rl rh fr fw fc fg ps pg pr pd qp qt qf qo ct cand lim (nI c) was sent qfi qsz r p1 br hst zg
      have h6 := c_X6_join_b2 l D cI cZ ad2 co fa ic me sw cn ab go cp so gr re db (nI c) lim qsz sent was (nI k) r p1 br zg
      exact StX.mk h5 h6 ⟨⟨rfl, rfl⟩, Nat.le_of_ble_eq_true rfl, Nat.le_of_ble_eq_true rfl⟩ ⟨⟨rfl, rfl⟩, Nat.le_of_ble_eq_true rfl, Nat.le_of_ble_eq_true rfl⟩ ⟨rc, rl, rh, fr, fw, fc, fg, ps, pg, pr, pd, qp, qt, qf, qo, ct, cand, lim, (nI c), was, sent, qfi, qsz, co, fa, ic, me, sw, cn, ab, go, cp, so, gr, re, db, (nI c), lim, qsz, sent, was, rfl, rfl, hRt, hRo, hCa, ⟨hW, hF, hC, hrv, hdu, hfr, hQ, rfl, rfl⟩, hPs, hs200, rfl, rfl, rfl, rfl⟩ wfR
  · right
    left
    have h5 := c_X5_join_b1 l D cI cZ ad rc rl rh fr fw fc fg ps pg pr pd qp qt qf qo ct cand lim (nI c) was sent qfi qsz p0 p1 hst zr
    have h6 := c_X6_join_b1 l D cI cZ ad2 co fa ic me sw cn ab go cp so gr re db (nI c) lim qsz sent was (nI k) p0 p1 zr
    exact StX.mk h5 h6 ⟨⟨rfl, rfl⟩, Nat.le_of_ble_eq_true rfl, Nat.le_of_ble_eq_true rfl⟩ ⟨⟨rfl, rfl⟩, Nat.le_of_ble_eq_true rfl, Nat.le_of_ble_eq_true rfl⟩ ⟨rc, rl, rh, fr, fw, fc, fg, ps, pg, pr, pd, qp, qt, qf, qo, ct, cand, lim, (nI c), was, sent, qfi, qsz, co, fa, ic, me, sw, cn, ab, go, cp, so, gr, re, db, (nI c), lim, qsz, sent, was, rfl, rfl, hRt, hRo, hCa, ⟨hW, hF, hC, hrv, hdu, hfr, hQ, rfl, rfl⟩, hPs, hs200, rfl, rfl, rfl, rfl⟩ wfR
theorem st_leave {l : Launch} {D : va_G} {cI cZ : ClassId} {ad ad2 : Nat → Nat} {c k : Nat} {wc wr : va_W} (hst : l.stackTraces = false) (hc : c + 200 < 2 ^ 31) (h : REL cI cZ ad ad2 c k wc wr) (p0 : Int32) (p1 : Int32) : StG l D cI cZ ad ad2 c yX5_leave cX5_leave 4 yX6_leave cX6_leave 4 .int [.int p0, .int p1] wc wr (fun _ => True) ∨ StX l D cI cZ ad ad2 c 1 "java/lang/IndexOutOfBoundsException" yX5_leave cX5_leave 4 yX6_leave cX6_leave 4 .int [.int p0, .int p1] wc wr ∨ StX l D cI cZ ad ad2 c 2 "java/lang/IllegalStateException" yX5_leave cX5_leave 4 yX6_leave cX6_leave 4 .int [.int p0, .int p1] wc wr := by
  obtain ⟨rc, rl, rh, fr, fw, fc, fg, ps, pg, pr, pd, qp, qt, qf, qo, ct, cand, lim, now, was, sent, qfi, qsz, co, fa, ic, me, sw, cn, ab, go, cp, so, gr, re, db, rclk, rlim, rqd, rpk, rwas, rfl, rfl, hRt, hRo, hCa, hPR, hPs, hs200, e1, e2, e3, e4⟩ := h
  obtain ⟨hW, hF, hC, hrv, hdu, hfr, hQ, e5, e6⟩ := hPR
  have e1' := e1.symm
  have e2' := e2.symm
  have e5' := e5.symm
  subst e1'
  subst e2'
  subst e3
  subst e4
  subst e5'
  subst e6
  by_cases zr : f_X5_isRouter_r p0 = true
  · obtain ⟨qr, br⟩ := isRouter_r zr
    generalize p0.toNatClampNeg = r at qr br
    subst qr
    by_cases zg : f_X5_isGroup_r p1 = true
    · obtain ⟨qg, bg⟩ := rG zg
      generalize p1.toNatClampNeg = g at qg bg
      subst qg
      by_cases hm : f_X5_has (fw g) r = true
      · left
        have h5 := c_X5_leave l D cI cZ ad rc rl rh fr fw fc fg ps pg pr pd qp qt qf qo ct cand lim (nI c) was sent qfi qsz r g br bg hm
        have h6 := c_X6_leave l D cI cZ ad2 co fa ic me sw cn ab go cp so gr re db (nI c) lim qsz sent was (nI k) r g br bg ((member_eq hW br bg).symm.trans hm)
        obtain ⟨e1, e2, e3, e4, e5⟩ := leave_eq (now := nI c) hW hF hC br bg
        rw [e5] at h6
        exact StG.mk h5 h6 e1 ⟨⟨rfl, rfl⟩, Nat.le_of_ble_eq_true rfl, Nat.le_of_ble_eq_true rfl⟩ ⟨⟨rfl, rfl⟩, Nat.le_of_ble_eq_true rfl, Nat.le_of_ble_eq_true rfl⟩ ⟨rc, rl, rh, fr, (f_X5_leave r g fw fc fg ct (nI c)).2.1, fc, (f_X5_leave r g fw fc fg ct (nI c)).2.2.1, ps, pg, pr, pd, qp, qt, qf, qo, (f_X5_leave r g fw fc fg ct (nI c)).2.2.2, cand, lim, (nI c), was, sent, qfi, qsz, co, fa, ic, (f_X6_leave r g me sw cn ab go (nI c)).2.1, (f_X6_leave r g me sw cn ab go (nI c)).2.2.1, (f_X6_leave r g me sw cn ab go (nI c)).2.2.2.1, ab, (f_X6_leave r g me sw cn ab go (nI c)).2.2.2.2.1, cp, so, gr, re, db, (nI c), lim, qsz, sent, was, rfl, rfl, hRt, hRo, hCa, ⟨e2, e3, e4, hrv, hdu, hfr, hQ, rfl, rfl⟩, hPs, hs200, rfl, rfl, rfl, rfl⟩ wfC wfR trivial
      · right
        right
        have h5 := c_X5_leave_b3 l D cI cZ ad rc rl rh fr fw fc fg ps pg pr pd qp qt qf qo ct cand lim (nI c) was sent qfi qsz r g br bg hst hm
        have h6 := c_X6_leave_b3 l D cI cZ ad2 co fa ic me sw cn ab go cp so gr re db (nI c) lim qsz sent was (nI k) r g br bg (fun z => hm ((member_eq hW br bg).trans z))
        exact StX.mk h5 h6 ⟨⟨rfl, rfl⟩, Nat.le_of_ble_eq_true rfl, Nat.le_of_ble_eq_true rfl⟩ ⟨⟨rfl, rfl⟩, Nat.le_of_ble_eq_true rfl, Nat.le_of_ble_eq_true rfl⟩ ⟨rc, rl, rh, fr, fw, fc, fg, ps, pg, pr, pd, qp, qt, qf, qo, ct, cand, lim, (nI c), was, sent, qfi, qsz, co, fa, ic, me, sw, cn, ab, go, cp, so, gr, re, db, (nI c), lim, qsz, sent, was, rfl, rfl, hRt, hRo, hCa, ⟨hW, hF, hC, hrv, hdu, hfr, hQ, rfl, rfl⟩, hPs, hs200, rfl, rfl, rfl, rfl⟩ wfR
    · right
      left
      have h5 := c_X5_leave_b2 l D cI cZ ad rc rl rh fr fw fc fg ps pg pr pd qp qt qf qo ct cand lim (nI c) was sent qfi qsz r p1 br hst zg
      have h6 := c_X6_leave_b2 l D cI cZ ad2 co fa ic me sw cn ab go cp so gr re db (nI c) lim qsz sent was (nI k) r p1 br zg
      exact StX.mk h5 h6 ⟨⟨rfl, rfl⟩, Nat.le_of_ble_eq_true rfl, Nat.le_of_ble_eq_true rfl⟩ ⟨⟨rfl, rfl⟩, Nat.le_of_ble_eq_true rfl, Nat.le_of_ble_eq_true rfl⟩ ⟨rc, rl, rh, fr, fw, fc, fg, ps, pg, pr, pd, qp, qt, qf, qo, ct, cand, lim, (nI c), was, sent, qfi, qsz, co, fa, ic, me, sw, cn, ab, go, cp, so, gr, re, db, (nI c), lim, qsz, sent, was, rfl, rfl, hRt, hRo, hCa, ⟨hW, hF, hC, hrv, hdu, hfr, hQ, rfl, rfl⟩, hPs, hs200, rfl, rfl, rfl, rfl⟩ wfR
  · right
    left
    have h5 := c_X5_leave_b1 l D cI cZ ad rc rl rh fr fw fc fg ps pg pr pd qp qt qf qo ct cand lim (nI c) was sent qfi qsz p0 p1 hst zr
    have h6 := c_X6_leave_b1 l D cI cZ ad2 co fa ic me sw cn ab go cp so gr re db (nI c) lim qsz sent was (nI k) p0 p1 zr
    exact StX.mk h5 h6 ⟨⟨rfl, rfl⟩, Nat.le_of_ble_eq_true rfl, Nat.le_of_ble_eq_true rfl⟩ ⟨⟨rfl, rfl⟩, Nat.le_of_ble_eq_true rfl, Nat.le_of_ble_eq_true rfl⟩ ⟨rc, rl, rh, fr, fw, fc, fg, ps, pg, pr, pd, qp, qt, qf, qo, ct, cand, lim, (nI c), was, sent, qfi, qsz, co, fa, ic, me, sw, cn, ab, go, cp, so, gr, re, db, (nI c), lim, qsz, sent, was, rfl, rfl, hRt, hRo, hCa, ⟨hW, hF, hC, hrv, hdu, hfr, hQ, rfl, rfl⟩, hPs, hs200, rfl, rfl, rfl, rfl⟩ wfR
theorem st_send {l : Launch} {D : va_G} {cI cZ : ClassId} {ad ad2 : Nat → Nat} {c k : Nat} {wc wr : va_W} (hst : l.stackTraces = false) (hc : c + 200 < 2 ^ 31) (h : REL cI cZ ad ad2 c k wc wr) (p0 : Int32) (p1 : Int32) : StG l D cI cZ ad ad2 c yX5_send cX5_send 5 yX6_send cX6_send 6 .int [.int p0, .int p1] wc wr (fun _ => True) ∨ StX l D cI cZ ad ad2 c 1 "java/lang/IndexOutOfBoundsException" yX5_send cX5_send 5 yX6_send cX6_send 6 .int [.int p0, .int p1] wc wr ∨ StX l D cI cZ ad ad2 c 2 "java/lang/IllegalStateException" yX5_send cX5_send 5 yX6_send cX6_send 6 .int [.int p0, .int p1] wc wr := by
  obtain ⟨rc, rl, rh, fr, fw, fc, fg, ps, pg, pr, pd, qp, qt, qf, qo, ct, cand, lim, now, was, sent, qfi, qsz, co, fa, ic, me, sw, cn, ab, go, cp, so, gr, re, db, rclk, rlim, rqd, rpk, rwas, rfl, rfl, hRt, hRo, hCa, hPR, hPs, hs200, e1, e2, e3, e4⟩ := h
  obtain ⟨hW, hF, hC, hrv, hdu, hfr, hQ, e5, e6⟩ := hPR
  have e1' := e1.symm
  have e2' := e2.symm
  have e5' := e5.symm
  subst e1'
  subst e2'
  subst e3
  subst e4
  subst e5'
  subst e6
  by_cases zr : f_X5_isRouter_r p0 = true
  · obtain ⟨qr, br⟩ := isRouter_r zr
    generalize p0.toNatClampNeg = r at qr br
    subst qr
    by_cases zg : f_X5_isGroup_r p1 = true
    · obtain ⟨qg, bg⟩ := rG zg
      generalize p1.toNatClampNeg = g at qg bg
      subst qg
      by_cases hn : sent ≤ 199
      · left
        have h5 := c_X5_send l D cI cZ ad rc rl rh fr fw fc fg ps pg pr pd qp qt qf qo ct cand lim (nI c) was sent qfi qsz r g br bg hs200 hQ.1 hQ.2.1 (by omega)
        have h6 := c_X6_send l D cI cZ ad2 co fa ic me sw cn ab go cp so gr re db (nI c) lim qsz sent was (nI k) r g br bg hQ.2.1 hs200 (hend hRt.2.2.1 hRt.2.2.2.1 ic) (by omega)
        have hPR0 : PR co fa ic me sent qfi fw fc fg pr pd qp qt qf qo ct was qsz sw cn ab go cp re db qsz was := ⟨hW, hF, hC, hrv, hdu, hfr, hQ, rfl, rfl⟩
        obtain ⟨e1, e2, e3, e4, e5, e6⟩ := send_eq (lim := lim) hRt hRo hPR0 hPs (by omega) bg br
        rw [e4] at h5
        rw [e5, e6] at h6
        exact StG.mk h5 h6 e1 ⟨⟨rfl, rfl⟩, Nat.le_of_ble_eq_true rfl, Nat.le_of_ble_eq_true rfl⟩ ⟨⟨rfl, rfl⟩, Nat.le_of_ble_eq_true rfl, Nat.le_of_ble_eq_true rfl⟩ ⟨rc, rl, rh, fr, (f_X5_send r g rl rh fr fw fc fg ps pg pr pd qp qt qf qo ct lim was sent qfi qsz).2.1, (f_X5_send r g rl rh fr fw fc fg ps pg pr pd qp qt qf qo ct lim was sent qfi qsz).2.2.1, (f_X5_send r g rl rh fr fw fc fg ps pg pr pd qp qt qf qo ct lim was sent qfi qsz).2.2.2.1, (f_X5_send r g rl rh fr fw fc fg ps pg pr pd qp qt qf qo ct lim was sent qfi qsz).2.2.2.2.1, (f_X5_send r g rl rh fr fw fc fg ps pg pr pd qp qt qf qo ct lim was sent qfi qsz).2.2.2.2.2.1, (f_X5_send r g rl rh fr fw fc fg ps pg pr pd qp qt qf qo ct lim was sent qfi qsz).2.2.2.2.2.2.1, (f_X5_send r g rl rh fr fw fc fg ps pg pr pd qp qt qf qo ct lim was sent qfi qsz).2.2.2.2.2.2.2.1, (f_X5_send r g rl rh fr fw fc fg ps pg pr pd qp qt qf qo ct lim was sent qfi qsz).2.2.2.2.2.2.2.2.1, (f_X5_send r g rl rh fr fw fc fg ps pg pr pd qp qt qf qo ct lim was sent qfi qsz).2.2.2.2.2.2.2.2.2.1, (f_X5_send r g rl rh fr fw fc fg ps pg pr pd qp qt qf qo ct lim was sent qfi qsz).2.2.2.2.2.2.2.2.2.2.1, (f_X5_send r g rl rh fr fw fc fg ps pg pr pd qp qt qf qo ct lim was sent qfi qsz).2.2.2.2.2.2.2.2.2.2.2.1, (f_X5_send r g rl rh fr fw fc fg ps pg pr pd qp qt qf qo ct lim was sent qfi qsz).2.2.2.2.2.2.2.2.2.2.2.2.1, cand, lim, (nI c), (f_X5_send r g rl rh fr fw fc fg ps pg pr pd qp qt qf qo ct lim was sent qfi qsz).2.2.2.2.2.2.2.2.2.2.2.2.2.1, (sent + 1), qfi, (f_X5_send r g rl rh fr fw fc fg ps pg pr pd qp qt qf qo ct lim was sent qfi qsz).2.2.2.2.2.2.2.2.2.2.2.2.2.2.2, co, fa, ic, me, (f_X6_send r g co fa ic me sw cn ab go cp so gr re db lim qsz sent was).2.1, (f_X6_send r g co fa ic me sw cn ab go cp so gr re db lim qsz sent was).2.2.1, (f_X6_send r g co fa ic me sw cn ab go cp so gr re db lim qsz sent was).2.2.2.1, (f_X6_send r g co fa ic me sw cn ab go cp so gr re db lim qsz sent was).2.2.2.2.1, (f_X6_send r g co fa ic me sw cn ab go cp so gr re db lim qsz sent was).2.2.2.2.2.1, (f_X6_send r g co fa ic me sw cn ab go cp so gr re db lim qsz sent was).2.2.2.2.2.2.1, (f_X6_send r g co fa ic me sw cn ab go cp so gr re db lim qsz sent was).2.2.2.2.2.2.2.1, (f_X6_send r g co fa ic me sw cn ab go cp so gr re db lim qsz sent was).2.2.2.2.2.2.2.2.1, (f_X6_send r g co fa ic me sw cn ab go cp so gr re db lim qsz sent was).2.2.2.2.2.2.2.2.2.1, (nI c), lim, (f_X6_send r g co fa ic me sw cn ab go cp so gr re db lim qsz sent was).2.2.2.2.2.2.2.2.2.2.1, (sent + 1), (f_X6_send r g co fa ic me sw cn ab go cp so gr re db lim qsz sent was).2.2.2.2.2.2.2.2.2.2.2.2.1, rfl, rfl, hRt, hRo, hCa, e2, e3, (by omega), rfl, rfl, rfl, rfl⟩ wfC wfR trivial
      · right
        right
        have h5 := c_X5_send_b3 l D cI cZ ad rc rl rh fr fw fc fg ps pg pr pd qp qt qf qo ct cand lim (nI c) was sent qfi qsz r g br bg hs200 hst (by omega) (by omega)
        have h6 := c_X6_send_b3 l D cI cZ ad2 co fa ic me sw cn ab go cp so gr re db (nI c) lim qsz sent was (nI k) r g br bg hs200 (by omega) (by omega)
        exact StX.mk h5 h6 ⟨⟨rfl, rfl⟩, Nat.le_of_ble_eq_true rfl, Nat.le_of_ble_eq_true rfl⟩ ⟨⟨rfl, rfl⟩, Nat.le_of_ble_eq_true rfl, Nat.le_of_ble_eq_true rfl⟩ ⟨rc, rl, rh, fr, fw, fc, fg, ps, pg, pr, pd, qp, qt, qf, qo, ct, cand, lim, (nI c), was, sent, qfi, qsz, co, fa, ic, me, sw, cn, ab, go, cp, so, gr, re, db, (nI c), lim, qsz, sent, was, rfl, rfl, hRt, hRo, hCa, ⟨hW, hF, hC, hrv, hdu, hfr, hQ, rfl, rfl⟩, hPs, hs200, rfl, rfl, rfl, rfl⟩ wfR
    · right
      left
      have h5 := c_X5_send_b2 l D cI cZ ad rc rl rh fr fw fc fg ps pg pr pd qp qt qf qo ct cand lim (nI c) was sent qfi qsz r p1 br hst zg
      have h6 := c_X6_send_b2 l D cI cZ ad2 co fa ic me sw cn ab go cp so gr re db (nI c) lim qsz sent was (nI k) r p1 br zg
      exact StX.mk h5 h6 ⟨⟨rfl, rfl⟩, Nat.le_of_ble_eq_true rfl, Nat.le_of_ble_eq_true rfl⟩ ⟨⟨rfl, rfl⟩, Nat.le_of_ble_eq_true rfl, Nat.le_of_ble_eq_true rfl⟩ ⟨rc, rl, rh, fr, fw, fc, fg, ps, pg, pr, pd, qp, qt, qf, qo, ct, cand, lim, (nI c), was, sent, qfi, qsz, co, fa, ic, me, sw, cn, ab, go, cp, so, gr, re, db, (nI c), lim, qsz, sent, was, rfl, rfl, hRt, hRo, hCa, ⟨hW, hF, hC, hrv, hdu, hfr, hQ, rfl, rfl⟩, hPs, hs200, rfl, rfl, rfl, rfl⟩ wfR
  · right
    left
    have h5 := c_X5_send_b1 l D cI cZ ad rc rl rh fr fw fc fg ps pg pr pd qp qt qf qo ct cand lim (nI c) was sent qfi qsz p0 p1 hst zr
    have h6 := c_X6_send_b1 l D cI cZ ad2 co fa ic me sw cn ab go cp so gr re db (nI c) lim qsz sent was (nI k) p0 p1 zr
    exact StX.mk h5 h6 ⟨⟨rfl, rfl⟩, Nat.le_of_ble_eq_true rfl, Nat.le_of_ble_eq_true rfl⟩ ⟨⟨rfl, rfl⟩, Nat.le_of_ble_eq_true rfl, Nat.le_of_ble_eq_true rfl⟩ ⟨rc, rl, rh, fr, fw, fc, fg, ps, pg, pr, pd, qp, qt, qf, qo, ct, cand, lim, (nI c), was, sent, qfi, qsz, co, fa, ic, me, sw, cn, ab, go, cp, so, gr, re, db, (nI c), lim, qsz, sent, was, rfl, rfl, hRt, hRo, hCa, ⟨hW, hF, hC, hrv, hdu, hfr, hQ, rfl, rfl⟩, hPs, hs200, rfl, rfl, rfl, rfl⟩ wfR
theorem st_received {l : Launch} {D : va_G} {cI cZ : ClassId} {ad ad2 : Nat → Nat} {c k : Nat} {wc wr : va_W} (hst : l.stackTraces = false) (hc : c + 200 < 2 ^ 31) (h : REL cI cZ ad ad2 c k wc wr) (p0 : Int32) : StG l D cI cZ ad ad2 c yX5_received cX5_received 2 yX6_received cX6_received 2 .int [.int p0] wc wr (fun _ => True) ∨ StX l D cI cZ ad ad2 c 1 "java/lang/IndexOutOfBoundsException" yX5_received cX5_received 2 yX6_received cX6_received 2 .int [.int p0] wc wr := by
  obtain ⟨rc, rl, rh, fr, fw, fc, fg, ps, pg, pr, pd, qp, qt, qf, qo, ct, cand, lim, now, was, sent, qfi, qsz, co, fa, ic, me, sw, cn, ab, go, cp, so, gr, re, db, rclk, rlim, rqd, rpk, rwas, rfl, rfl, hRt, hRo, hCa, hPR, hPs, hs200, e1, e2, e3, e4⟩ := h
  obtain ⟨hW, hF, hC, hrv, hdu, hfr, hQ, e5, e6⟩ := hPR
  have e1' := e1.symm
  have e2' := e2.symm
  have e5' := e5.symm
  subst e1'
  subst e2'
  subst e3
  subst e4
  subst e5'
  subst e6
  by_cases c1 : f_X3_isPacket_r p0 sent = true
  · obtain ⟨q, b1⟩ := rP hs200 c1
    generalize p0.toNatClampNeg = pk at q b1
    subst q
    left
    have h5 := c_X5_received l D cI cZ ad rc rl rh fr fw fc fg ps pg pr pd qp qt qf qo ct cand lim (nI c) was sent qfi qsz pk (by omega) hs200 b1
    have h6 := c_X6_received l D cI cZ ad2 co fa ic me sw cn ab go cp so gr re db (nI c) lim qsz sent was (nI k) pk (by omega) hs200 b1
    exact StG.mk h5 h6 (hrv pk (by omega)) ⟨⟨rfl, rfl⟩, Nat.le_of_ble_eq_true rfl, Nat.le_of_ble_eq_true rfl⟩ ⟨⟨rfl, rfl⟩, Nat.le_of_ble_eq_true rfl, Nat.le_of_ble_eq_true rfl⟩ ⟨rc, rl, rh, fr, fw, fc, fg, ps, pg, pr, pd, qp, qt, qf, qo, ct, cand, lim, (nI c), was, sent, qfi, qsz, co, fa, ic, me, sw, cn, ab, go, cp, so, gr, re, db, (nI c), lim, qsz, sent, was, rfl, rfl, hRt, hRo, hCa, ⟨hW, hF, hC, hrv, hdu, hfr, hQ, rfl, rfl⟩, hPs, hs200, rfl, rfl, rfl, rfl⟩ wfC wfR trivial
  · right
    rcases rPb hs200 c1 with c2 | ⟨c2, c3⟩
    · have h5 := c_X5_received_b1 l D cI cZ ad rc rl rh fr fw fc fg ps pg pr pd qp qt qf qo ct cand lim (nI c) was sent qfi qsz p0 hs200 hst c1
      have h6 := c_X6_received_b1 l D cI cZ ad2 co fa ic me sw cn ab go cp so gr re db (nI c) lim qsz sent was (nI k) p0 c2
      exact StX.mk h5 h6 ⟨⟨rfl, rfl⟩, Nat.le_of_ble_eq_true rfl, Nat.le_of_ble_eq_true rfl⟩ ⟨⟨rfl, rfl⟩, Nat.le_of_ble_eq_true rfl, Nat.le_of_ble_eq_true rfl⟩ ⟨rc, rl, rh, fr, fw, fc, fg, ps, pg, pr, pd, qp, qt, qf, qo, ct, cand, lim, (nI c), was, sent, qfi, qsz, co, fa, ic, me, sw, cn, ab, go, cp, so, gr, re, db, (nI c), lim, qsz, sent, was, rfl, rfl, hRt, hRo, hCa, ⟨hW, hF, hC, hrv, hdu, hfr, hQ, rfl, rfl⟩, hPs, hs200, rfl, rfl, rfl, rfl⟩ wfR
    · have h5 := c_X5_received_b1 l D cI cZ ad rc rl rh fr fw fc fg ps pg pr pd qp qt qf qo ct cand lim (nI c) was sent qfi qsz p0 hs200 hst c1
      have h6 := c_X6_received_b2 l D cI cZ ad2 co fa ic me sw cn ab go cp so gr re db (nI c) lim qsz sent was (nI k) p0 hs200 c2 c3
      exact StX.mk h5 h6 ⟨⟨rfl, rfl⟩, Nat.le_of_ble_eq_true rfl, Nat.le_of_ble_eq_true rfl⟩ ⟨⟨rfl, rfl⟩, Nat.le_of_ble_eq_true rfl, Nat.le_of_ble_eq_true rfl⟩ ⟨rc, rl, rh, fr, fw, fc, fg, ps, pg, pr, pd, qp, qt, qf, qo, ct, cand, lim, (nI c), was, sent, qfi, qsz, co, fa, ic, me, sw, cn, ab, go, cp, so, gr, re, db, (nI c), lim, qsz, sent, was, rfl, rfl, hRt, hRo, hCa, ⟨hW, hF, hC, hrv, hdu, hfr, hQ, rfl, rfl⟩, hPs, hs200, rfl, rfl, rfl, rfl⟩ wfR
theorem st_doubles {l : Launch} {D : va_G} {cI cZ : ClassId} {ad ad2 : Nat → Nat} {c k : Nat} {wc wr : va_W} (hst : l.stackTraces = false) (hc : c + 200 < 2 ^ 31) (h : REL cI cZ ad ad2 c k wc wr) (p0 : Int32) : StG l D cI cZ ad ad2 c yX5_doubles cX5_doubles 2 yX6_doubles cX6_doubles 2 .int [.int p0] wc wr (fun _ => True) ∨ StX l D cI cZ ad ad2 c 1 "java/lang/IndexOutOfBoundsException" yX5_doubles cX5_doubles 2 yX6_doubles cX6_doubles 2 .int [.int p0] wc wr := by
  obtain ⟨rc, rl, rh, fr, fw, fc, fg, ps, pg, pr, pd, qp, qt, qf, qo, ct, cand, lim, now, was, sent, qfi, qsz, co, fa, ic, me, sw, cn, ab, go, cp, so, gr, re, db, rclk, rlim, rqd, rpk, rwas, rfl, rfl, hRt, hRo, hCa, hPR, hPs, hs200, e1, e2, e3, e4⟩ := h
  obtain ⟨hW, hF, hC, hrv, hdu, hfr, hQ, e5, e6⟩ := hPR
  have e1' := e1.symm
  have e2' := e2.symm
  have e5' := e5.symm
  subst e1'
  subst e2'
  subst e3
  subst e4
  subst e5'
  subst e6
  by_cases c1 : f_X3_isPacket_r p0 sent = true
  · obtain ⟨q, b1⟩ := rP hs200 c1
    generalize p0.toNatClampNeg = pk at q b1
    subst q
    left
    have h5 := c_X5_doubles l D cI cZ ad rc rl rh fr fw fc fg ps pg pr pd qp qt qf qo ct cand lim (nI c) was sent qfi qsz pk (by omega) hs200 b1
    have h6 := c_X6_doubles l D cI cZ ad2 co fa ic me sw cn ab go cp so gr re db (nI c) lim qsz sent was (nI k) pk (by omega) hs200 b1
    exact StG.mk h5 h6 (hdu pk (by omega)) ⟨⟨rfl, rfl⟩, Nat.le_of_ble_eq_true rfl, Nat.le_of_ble_eq_true rfl⟩ ⟨⟨rfl, rfl⟩, Nat.le_of_ble_eq_true rfl, Nat.le_of_ble_eq_true rfl⟩ ⟨rc, rl, rh, fr, fw, fc, fg, ps, pg, pr, pd, qp, qt, qf, qo, ct, cand, lim, (nI c), was, sent, qfi, qsz, co, fa, ic, me, sw, cn, ab, go, cp, so, gr, re, db, (nI c), lim, qsz, sent, was, rfl, rfl, hRt, hRo, hCa, ⟨hW, hF, hC, hrv, hdu, hfr, hQ, rfl, rfl⟩, hPs, hs200, rfl, rfl, rfl, rfl⟩ wfC wfR trivial
  · right
    rcases rPb hs200 c1 with c2 | ⟨c2, c3⟩
    · have h5 := c_X5_doubles_b1 l D cI cZ ad rc rl rh fr fw fc fg ps pg pr pd qp qt qf qo ct cand lim (nI c) was sent qfi qsz p0 hs200 hst c1
      have h6 := c_X6_doubles_b1 l D cI cZ ad2 co fa ic me sw cn ab go cp so gr re db (nI c) lim qsz sent was (nI k) p0 c2
      exact StX.mk h5 h6 ⟨⟨rfl, rfl⟩, Nat.le_of_ble_eq_true rfl, Nat.le_of_ble_eq_true rfl⟩ ⟨⟨rfl, rfl⟩, Nat.le_of_ble_eq_true rfl, Nat.le_of_ble_eq_true rfl⟩ ⟨rc, rl, rh, fr, fw, fc, fg, ps, pg, pr, pd, qp, qt, qf, qo, ct, cand, lim, (nI c), was, sent, qfi, qsz, co, fa, ic, me, sw, cn, ab, go, cp, so, gr, re, db, (nI c), lim, qsz, sent, was, rfl, rfl, hRt, hRo, hCa, ⟨hW, hF, hC, hrv, hdu, hfr, hQ, rfl, rfl⟩, hPs, hs200, rfl, rfl, rfl, rfl⟩ wfR
    · have h5 := c_X5_doubles_b1 l D cI cZ ad rc rl rh fr fw fc fg ps pg pr pd qp qt qf qo ct cand lim (nI c) was sent qfi qsz p0 hs200 hst c1
      have h6 := c_X6_doubles_b2 l D cI cZ ad2 co fa ic me sw cn ab go cp so gr re db (nI c) lim qsz sent was (nI k) p0 hs200 c2 c3
      exact StX.mk h5 h6 ⟨⟨rfl, rfl⟩, Nat.le_of_ble_eq_true rfl, Nat.le_of_ble_eq_true rfl⟩ ⟨⟨rfl, rfl⟩, Nat.le_of_ble_eq_true rfl, Nat.le_of_ble_eq_true rfl⟩ ⟨rc, rl, rh, fr, fw, fc, fg, ps, pg, pr, pd, qp, qt, qf, qo, ct, cand, lim, (nI c), was, sent, qfi, qsz, co, fa, ic, me, sw, cn, ab, go, cp, so, gr, re, db, (nI c), lim, qsz, sent, was, rfl, rfl, hRt, hRo, hCa, ⟨hW, hF, hC, hrv, hdu, hfr, hQ, rfl, rfl⟩, hPs, hs200, rfl, rfl, rfl, rfl⟩ wfR
theorem st_follow {l : Launch} {D : va_G} {cI cZ : ClassId} {ad ad2 : Nat → Nat} {c k : Nat} {wc wr : va_W} (hst : l.stackTraces = false) (hc : c + 200 < 2 ^ 31) (h : REL cI cZ ad ad2 c k wc wr) : StG l D cI cZ ad ad2 c yX5_follow cX5_follow 5 yX6_follow cX6_follow 1 .int [] wc wr (fun _ => True) := by
  obtain ⟨rc, rl, rh, fr, fw, fc, fg, ps, pg, pr, pd, qp, qt, qf, qo, ct, cand, lim, now, was, sent, qfi, qsz, co, fa, ic, me, sw, cn, ab, go, cp, so, gr, re, db, rclk, rlim, rqd, rpk, rwas, rfl, rfl, hRt, hRo, hCa, hPR, hPs, hs200, e1, e2, e3, e4⟩ := h
  obtain ⟨hW, hF, hC, hrv, hdu, hfr, hQ, e5, e6⟩ := hPR
  have e1' := e1.symm
  have e2' := e2.symm
  have e5' := e5.symm
  subst e1'
  subst e2'
  subst e3
  subst e4
  subst e5'
  subst e6
  by_cases hz : qsz = 0
  · have h5 := c_X5_follow_e l D cI cZ ad rc rl rh fr fw fc fg ps pg pr pd qp qt qf qo ct cand lim (nI c) was sent qfi qsz hQ.2.1 (by omega)
    have h6 := c_X6_follow_e l D cI cZ ad2 co fa ic me sw cn ab go cp so gr re db (nI c) lim qsz sent was (nI k) hQ.2.1 (by omega)
    exact StG.mk h5 h6 rfl ⟨⟨rfl, rfl⟩, Nat.le_of_ble_eq_true rfl, Nat.le_of_ble_eq_true rfl⟩ ⟨⟨rfl, rfl⟩, Nat.le_of_ble_eq_true rfl, Nat.le_of_ble_eq_true rfl⟩ ⟨rc, rl, rh, fr, fw, fc, fg, ps, pg, pr, pd, qp, qt, qf, qo, ct, cand, lim, (nI c), was, sent, qfi, qsz, co, fa, ic, me, sw, cn, ab, go, cp, so, gr, re, db, (nI c), lim, qsz, sent, was, rfl, rfl, hRt, hRo, hCa, ⟨hW, hF, hC, hrv, hdu, hfr, hQ, rfl, rfl⟩, hPs, hs200, rfl, rfl, rfl, rfl⟩ wfC wfR trivial
  · obtain ⟨pk, t, f, o, a1, a2, a3, a4, ⟨b1, b2, b3, b4⟩, d1, d2, d3, d4⟩ := RQ_first hQ (by omega)
    obtain ⟨g, s, g1, g2, g3, g4, g5, g6⟩ := hPs pk a1
    have h5 := c_X5_follow_n l D cI cZ ad rc rl rh fr fw fc fg ps pg pr pd qp qt qf qo ct cand lim (nI c) was sent qfi qsz pk (tau t) f o g s (by omega) (tau_lt a2) a3 a4 g1 g2 hs200 hQ.1 hQ.2.1 b1 b2 b3 b4 a1 g3 g4 hQ.2.1 (by omega)
    have h6 := c_X6_follow_n l D cI cZ ad2 co fa ic me sw cn ab go cp so gr re db (nI c) lim qsz sent was (nI k) pk t f o g s (by omega) a2 a3 a4 g1 g2 hQ.2.1 (hend hRt.2.2.1 hRt.2.2.2.1 ic) d1 d2 d3 d4 g5 g6 hQ.2.1 (by omega)
    have hPR0 : PR co fa ic me sent qfi fw fc fg pr pd qp qt qf qo ct was qsz sw cn ab go cp re db qsz was := ⟨hW, hF, hC, hrv, hdu, hfr, hQ, rfl, rfl⟩
    obtain ⟨e1, e2⟩ := follow_eq (lim := lim) (g := g) (s := s) (f := f) hRt hRo hPR0 hs200 (by omega) a1 a2 a3 a4 g1 g2
    exact StG.mk h5 h6 e1 ⟨⟨rfl, rfl⟩, Nat.le_of_ble_eq_true rfl, Nat.le_of_ble_eq_true rfl⟩ ⟨⟨rfl, rfl⟩, Nat.le_of_ble_eq_true rfl, Nat.le_of_ble_eq_true rfl⟩ ⟨rc, rl, rh, fr, (f_X5_follow_n pk (tau t) f o g s rc rh fr fw fc fg pr pd qp qt qf qo ct lim was qfi qsz).2.1, (f_X5_follow_n pk (tau t) f o g s rc rh fr fw fc fg pr pd qp qt qf qo ct lim was qfi qsz).2.2.1, (f_X5_follow_n pk (tau t) f o g s rc rh fr fw fc fg pr pd qp qt qf qo ct lim was qfi qsz).2.2.2.1, ps, pg, (f_X5_follow_n pk (tau t) f o g s rc rh fr fw fc fg pr pd qp qt qf qo ct lim was qfi qsz).2.2.2.2.1, (f_X5_follow_n pk (tau t) f o g s rc rh fr fw fc fg pr pd qp qt qf qo ct lim was qfi qsz).2.2.2.2.2.1, (f_X5_follow_n pk (tau t) f o g s rc rh fr fw fc fg pr pd qp qt qf qo ct lim was qfi qsz).2.2.2.2.2.2.1, (f_X5_follow_n pk (tau t) f o g s rc rh fr fw fc fg pr pd qp qt qf qo ct lim was qfi qsz).2.2.2.2.2.2.2.1, (f_X5_follow_n pk (tau t) f o g s rc rh fr fw fc fg pr pd qp qt qf qo ct lim was qfi qsz).2.2.2.2.2.2.2.2.1, (f_X5_follow_n pk (tau t) f o g s rc rh fr fw fc fg pr pd qp qt qf qo ct lim was qfi qsz).2.2.2.2.2.2.2.2.2.1, (f_X5_follow_n pk (tau t) f o g s rc rh fr fw fc fg pr pd qp qt qf qo ct lim was qfi qsz).2.2.2.2.2.2.2.2.2.2.1, cand, lim, (nI c), (f_X5_follow_n pk (tau t) f o g s rc rh fr fw fc fg pr pd qp qt qf qo ct lim was qfi qsz).2.2.2.2.2.2.2.2.2.2.2.1, sent, (f_X5_follow_n pk (tau t) f o g s rc rh fr fw fc fg pr pd qp qt qf qo ct lim was qfi qsz).2.2.2.2.2.2.2.2.2.2.2.2.1, (f_X5_follow_n pk (tau t) f o g s rc rh fr fw fc fg pr pd qp qt qf qo ct lim was qfi qsz).2.2.2.2.2.2.2.2.2.2.2.2.2, co, fa, ic, me, (f_X6_follows_n pk t f o g s co fa ic me sw cn ab go cp re db lim qsz was).2.1, (f_X6_follows_n pk t f o g s co fa ic me sw cn ab go cp re db lim qsz was).2.2.1, (f_X6_follows_n pk t f o g s co fa ic me sw cn ab go cp re db lim qsz was).2.2.2.1, (f_X6_follows_n pk t f o g s co fa ic me sw cn ab go cp re db lim qsz was).2.2.2.2.1, (f_X6_follows_n pk t f o g s co fa ic me sw cn ab go cp re db lim qsz was).2.2.2.2.2.1, so, gr, (f_X6_follows_n pk t f o g s co fa ic me sw cn ab go cp re db lim qsz was).2.2.2.2.2.2.1, (f_X6_follows_n pk t f o g s co fa ic me sw cn ab go cp re db lim qsz was).2.2.2.2.2.2.2.1, (nI c), lim, (f_X6_follows_n pk t f o g s co fa ic me sw cn ab go cp re db lim qsz was).2.2.2.2.2.2.2.2.1, sent, (f_X6_follows_n pk t f o g s co fa ic me sw cn ab go cp re db lim qsz was).2.2.2.2.2.2.2.2.2, rfl, rfl, hRt, hRo, hCa, e2, hPs, hs200, rfl, rfl, rfl, rfl⟩ wfC wfR trivial
theorem st_followAll {l : Launch} {D : va_G} {cI cZ : ClassId} {ad ad2 : Nat → Nat} {c k : Nat} {wc wr : va_W} (hst : l.stackTraces = false) (hc : c + 200 < 2 ^ 31) (h : REL cI cZ ad ad2 c k wc wr) : StG l D cI cZ ad ad2 c yX5_followAll cX5_followAll 2 yX6_followAll cX6_followAll 2 .int [] wc wr (fun _ => True) := by
  obtain ⟨rc, rl, rh, fr, fw, fc, fg, ps, pg, pr, pd, qp, qt, qf, qo, ct, cand, lim, now, was, sent, qfi, qsz, co, fa, ic, me, sw, cn, ab, go, cp, so, gr, re, db, rclk, rlim, rqd, rpk, rwas, rfl, rfl, hRt, hRo, hCa, hPR, hPs, hs200, e1, e2, e3, e4⟩ := h
  obtain ⟨hW, hF, hC, hrv, hdu, hfr, hQ, e5, e6⟩ := hPR
  have e1' := e1.symm
  have e2' := e2.symm
  have e5' := e5.symm
  subst e1'
  subst e2'
  subst e3
  subst e4
  subst e5'
  subst e6
  have hPR0 : PR co fa ic me sent qfi fw fc fg pr pd qp qt qf qo ct was qsz sw cn ab go cp re db qsz was := ⟨hW, hF, hC, hrv, hdu, hfr, hQ, rfl, rfl⟩
  obtain ⟨Dd, hD1, hD2, -⟩ := hRt.2.2.2.1
  obtain ⟨n, x1, y1, hn, J1, J2, hP1⟩ := all_eq (lim := lim) hRt hRo hPs hs200 hD1 hD2.2.1 20000 (fw, fc, fg, pr, pd, qp, qt, qf, qo, ct, was, qfi, qsz) (sw, cn, ab, go, cp, re, db, qsz, was) hPR0 (MM_le (x := (fw, fc, fg, pr, pd, qp, qt, qf, qo, ct, was, qfi, qsz)) (y := (sw, cn, ab, go, cp, re, db, qsz, was)) hPR0)
  have h5 := c_X5_followAll l D cI cZ ad rc rl rh fr ps pg cand lim (nI c) sent hs200 (fw, fc, fg, pr, pd, qp, qt, qf, qo, ct, was, qfi, qsz) x1 n hn hQ.2.1 J1
  have h6 := c_X6_followAll l D cI cZ ad2 co fa ic me so gr (nI c) lim sent (nI k) (hend hRt.2.2.1 hRt.2.2.2.1 ic) (sw, cn, ab, go, cp, re, db, qsz, was) y1 n hn J2
  exact StG.mk h5 h6 rfl ⟨⟨rfl, rfl⟩, Nat.le_of_ble_eq_true rfl, Nat.le_of_ble_eq_true rfl⟩ ⟨⟨rfl, rfl⟩, Nat.le_of_ble_eq_true rfl, Nat.le_of_ble_eq_true rfl⟩ ⟨rc, rl, rh, fr, x1.1, x1.2.1, x1.2.2.1, ps, pg, x1.2.2.2.1, x1.2.2.2.2.1, x1.2.2.2.2.2.1, x1.2.2.2.2.2.2.1, x1.2.2.2.2.2.2.2.1, x1.2.2.2.2.2.2.2.2.1, x1.2.2.2.2.2.2.2.2.2.1, cand, lim, (nI c), x1.2.2.2.2.2.2.2.2.2.2.1, sent, x1.2.2.2.2.2.2.2.2.2.2.2.1, x1.2.2.2.2.2.2.2.2.2.2.2.2, co, fa, ic, me, y1.1, y1.2.1, y1.2.2.1, y1.2.2.2.1, y1.2.2.2.2.1, so, gr, y1.2.2.2.2.2.1, y1.2.2.2.2.2.2.1, (nI c), lim, y1.2.2.2.2.2.2.2.1, sent, y1.2.2.2.2.2.2.2.2, rfl, rfl, hRt, hRo, hCa, hP1, hPs, hs200, rfl, rfl, rfl, rfl⟩ wfC wfR trivial
