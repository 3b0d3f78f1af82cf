/-! the two states, alike; one step of both -/
def Rel (c : Nat) (rc rl rh fr fw fc fg ps pg pr pd qp qt qf qo ct : Nat → Int32) (cand lim now was : Int32) (sent qfi qsz : Nat) (co fa ic me sw cn ab go cp so gr re db : Nat → Int32) (rclk rlim : Int32) (rqd rpk : Nat) (rwas : Int32) : Prop :=
  RRt rc rl rh co fa ∧ RRo fr ic ∧ RCa cand ic ∧ PR co fa ic me sent qfi fw fc fg pr pd qp qt qf qo ct was qsz sw cn ab go cp re db rqd rwas ∧ RPs sent ps pg so gr ∧ sent ≤ 200 ∧ rpk = sent ∧ rlim = lim ∧ now = nI c ∧ rclk = nI c
def REL (cI cZ : ClassId) (ad ad2 : Nat → Nat) (c k : Nat) (wc wr : va_W) : Prop := ∃ (rc rl rh fr fw fc fg ps pg pr pd qp qt qf qo ct : Nat → Int32) (cand lim now was : Int32) (sent qfi qsz : Nat) (co fa ic me sw cn ab go cp so gr re db : Nat → Int32) (rclk rlim : Int32) (rqd rpk : Nat) (rwas : Int32), wc = (wC cI ad rc rl rh fr fw fc fg ps pg pr pd qp qt qf qo ct cand lim now was (nI sent) (nI qfi) (nI qsz)) ∧ wr = (wR cI cZ ad2 co fa ic me sw cn ab go cp so gr re db rclk rlim (nI rqd) (nI rpk) rwas (nI k)) ∧ Rel c rc rl rh fr fw fc fg ps pg pr pd qp qt qf qo ct cand lim now was sent qfi qsz co fa ic me sw cn ab go cp so gr re db rclk rlim rqd rpk rwas
def RmG (rm : Room) (n : Nat) : Prop := (rm.cells = 0 ∧ rm.slots = 0) ∧ rm.frames + 1 ≤ 10 ∧ 8 + (n + 11) + rm.locals ≤ 363
def RmX (rm : Room) (n : Nat) : Prop := (rm.cells = 1 ∧ rm.slots = 6) ∧ rm.frames + 1 ≤ 10 ∧ 8 + (n + 11) + rm.locals ≤ 363
/-- both answer v -/
def StG (l : Launch) (D : va_G) (cI cZ : ClassId) (ad ad2 : Nat → Nat) (c : Nat) (y5 : MethodName) (b5 : ByteArray) (n5 : Nat) (y6 : MethodName) (b6 : ByteArray) (n6 : Nat) (rt : FieldType) (ps : List Value) (wc wr : va_W) (Pv : Int32 → Prop) : Prop :=
  ∃ (wc1 wr1 : va_W) (v : Int32) (rm5 rm6 : Room), RmG rm5 n5 ∧ RmG rm6 n6 ∧ MI l y5 b5 n5 rt rm5 D (TY cI cZ) (.ref (ad 0) :: ps) wc wc1 v ∧ MI l y6 b6 n6 rt rm6 D (TY cI cZ) (.ref (ad2 0) :: ps) wr wr1 v ∧ REL cI cZ ad ad2 c 0 wc1 wr1 ∧ wc1.map Prod.fst = wc.map Prod.fst ∧ wr1.map Prod.fst = wr.map Prod.fst ∧ Pv v
/-- the class throws E, the reference says k -/
def StX (l : Launch) (D : va_G) (cI cZ : ClassId) (ad ad2 : Nat → Nat) (c k : Nat) (E : String) (y5 : MethodName) (b5 : ByteArray) (n5 : Nat) (y6 : MethodName) (b6 : ByteArray) (n6 : Nat) (rt : FieldType) (ps : List Value) (wc wr : va_W) : Prop :=
  ∃ (wr1 : va_W) (v : Int32) (rm5 rm6 : Room), RmX rm5 n5 ∧ RmG rm6 n6 ∧ MXi l y5 b5 n5 rt rm5 D (TY cI cZ) (.ref (ad 0) :: ps) wc E ∧ MI l y6 b6 n6 rt rm6 D (TY cI cZ) (.ref (ad2 0) :: ps) wr wr1 v ∧ REL cI cZ ad ad2 c k wc wr1 ∧ wr1.map Prod.fst = wr.map Prod.fst
theorem rG {x : Int32} (h : f_X5_isGroup_r x = true) : x = nI x.toNatClampNeg ∧ x.toNatClampNeg < 4 := by
  unfold f_X5_isGroup_r at h
  by_cases c : x < 0
  · rw [if_pos c] at h; cases h
  · rw [if_neg c] at h
    by_cases c2 : nI 4 ≤ x
    · rw [if_pos c2] at h; cases h
    · have h1 : 0 ≤ x.toInt := by
        have := mt Int32.lt_iff_toInt_lt.mpr c
        have e : (0 : Int32).toInt = 0 := by decide
        omega
      have h2 : x.toInt < 4 := by
        have := mt Int32.le_iff_toInt_le.mpr c2
        have e : (nI 4).toInt = 4 := by decide
        omega
      have e : x.toNatClampNeg = x.toInt.toNat := rfl
      refine ⟨Int32.toInt_inj.mp ?_, by omega⟩
      rw [nI_toInt (by omega)]
      omega
theorem StG.mk {l : Launch} {D : va_G} {cI cZ : ClassId} {ad ad2 : Nat → Nat} {c : Nat} {y5 : MethodName} {b5 : ByteArray} {n5 : Nat} {y6 : MethodName} {b6 : ByteArray} {n6 : Nat} {rt : FieldType} {ps : List Value} {wc wr : va_W} {Pv : Int32 → Prop} {wc1 wr1 : va_W} {v v6 : Int32} {rm5 rm6 : Room}
    (h5 : MI l y5 b5 n5 rt rm5 D (TY cI cZ) (.ref (ad 0) :: ps) wc wc1 v) (h6 : MI l y6 b6 n6 rt rm6 D (TY cI cZ) (.ref (ad2 0) :: ps) wr wr1 v6) (e : v = v6) (g5 : RmG rm5 n5) (g6 : RmG rm6 n6) (hr : REL cI cZ ad ad2 c 0 wc1 wr1) (f5 : wc1.map Prod.fst = wc.map Prod.fst) (f6 : wr1.map Prod.fst = wr.map Prod.fst) (hv : Pv v) : StG l D cI cZ ad ad2 c y5 b5 n5 y6 b6 n6 rt ps wc wr Pv := by
  subst e
  exact ⟨wc1, wr1, v, rm5, rm6, g5, g6, h5, h6, hr, f5, f6, hv⟩
theorem StX.mk {l : Launch} {D : va_G} {cI cZ : ClassId} {ad ad2 : Nat → Nat} {c k : Nat} {E : String} {y5 : MethodName} {b5 : ByteArray} {n5 : Nat} {y6 : MethodName} {b6 : ByteArray} {n6 : Nat} {rt : FieldType} {ps : List Value} {wc wr : va_W} {wr1 : va_W} {v : Int32} {rm5 rm6 : Room}
    (h5 : MXi l y5 b5 n5 rt rm5 D (TY cI cZ) (.ref (ad 0) :: ps) wc E) (h6 : MI l y6 b6 n6 rt rm6 D (TY cI cZ) (.ref (ad2 0) :: ps) wr wr1 v) (g5 : RmX rm5 n5) (g6 : RmG rm6 n6) (hr : REL cI cZ ad ad2 c k wc wr1) (f6 : wr1.map Prod.fst = wr.map Prod.fst) : StX l D cI cZ ad ad2 c k E y5 b5 n5 y6 b6 n6 rt ps wc wr := ⟨wr1, v, rm5, rm6, g5, g6, h5, h6, hr, f6⟩

theorem st_distance {l : Launch} {D : va_G} {cI cZ : ClassId} {ad ad2 : Nat → Nat} {c k : Nat} {wc wr : va_W} (hst : l.stackTraces = false) (hc : c + 200 < 2 ^ 31) (h : REL cI cZ ad ad2 c k wc wr) (p0 : Int32) (p1 : Int32) : StG l D cI cZ ad ad2 c yX5_distance cX5_distance 3 yX6_distance cX6_distance 4 .int [.int p0, .int p1] wc wr (fun _ => True) ∨ StX l D cI cZ ad ad2 c 1 "java/lang/IndexOutOfBoundsException" yX5_distance cX5_distance 3 yX6_distance cX6_distance 4 .int [.int p0, .int p1] wc wr := by
  obtain ⟨rc, rl, rh, fr, fw, fc, fg, ps, pg, pr, pd, qp, qt, qf, qo, ct, cand, lim, now, was, sent, qfi, qsz, co, fa, ic, me, sw, cn, ab, go, cp, so, gr, re, db, rclk, rlim, rqd, rpk, rwas, rfl, rfl, hRt, hRo, hCa, hPR, hPs, hs200, e1, e2, e3, e4⟩ := h
  obtain ⟨hW, hF, hC, hrv, hdu, hfr, hQ, e5, e6⟩ := hPR
  have e1' := e1.symm
  have e2' := e2.symm
  have e5' := e5.symm
  subst e1'
  subst e2'
  subst e3
  subst e4
  subst e5'
  subst e6
  by_cases zr : f_X5_isRouter_r p0 = true
  · obtain ⟨qr, br⟩ := isRouter_r zr
    generalize p0.toNatClampNeg = r at qr br
    subst qr
    by_cases zo : f_X5_isRouter_r p1 = true
    · obtain ⟨qo, bo⟩ := isRouter_r zo
      generalize p1.toNatClampNeg = o at qo bo
      subst qo
      left
      have h5 := c_X5_distance l D cI cZ ad rc rl rh fr fw fc fg ps pg pr pd qp qt qf qo ct cand lim (nI c) was sent qfi qsz r o br bo
      have h6 := c_X6_distance l D cI cZ ad2 co fa ic me sw cn ab go cp so gr re db (nI c) lim qsz sent was (nI k) r o br bo
      rw [show (f_X6_distance r o fa).2 = nI 0 from by unfold f_X6_distance; split <;> rfl] at h6
      exact StG.mk h5 h6 (dist_eq hRt.2.1 br bo) ⟨⟨rfl, rfl⟩, Nat.le_of_ble_eq_true rfl, Nat.le_of_ble_eq_true rfl⟩ ⟨⟨rfl, rfl⟩, Nat.le_of_ble_eq_true rfl, Nat.le_of_ble_eq_true rfl⟩ ⟨rc, rl, rh, fr, fw, fc, fg, ps, pg, pr, pd, qp, qt, qf, qo, ct, cand, lim, (nI c), was, sent, qfi, qsz, co, fa, ic, me, sw, cn, ab, go, cp, so, gr, re, db, (nI c), lim, qsz, sent, was, rfl, rfl, hRt, hRo, hCa, ⟨hW, hF, hC, hrv, hdu, hfr, hQ, rfl, rfl⟩, hPs, hs200, rfl, rfl, rfl, rfl⟩ wfC wfR trivial
    · right
      have h5 := c_X5_distance_b2 l D cI cZ ad rc rl rh fr fw fc fg ps pg pr pd qp qt qf qo ct cand lim (nI c) was sent qfi qsz r p1 br hst zo
      have h6 := c_X6_distance_b2 l D cI cZ ad2 co fa ic me sw cn ab go cp so gr re db (nI c) lim qsz sent was (nI k) r p1 br zo
      exact StX.mk h5 h6 ⟨⟨rfl, rfl⟩, Nat.le_of_ble_eq_true rfl, Nat.le_of_ble_eq_true rfl⟩ ⟨⟨rfl, rfl⟩, Nat.le_of_ble_eq_true rfl, Nat.le_of_ble_eq_true rfl⟩ ⟨rc, rl, rh, fr, fw, fc, fg, ps, pg, pr, pd, qp, qt, qf, qo, ct, cand, lim, (nI c), was, sent, qfi, qsz, co, fa, ic, me, sw, cn, ab, go, cp, so, gr, re, db, (nI c), lim, qsz, sent, was, rfl, rfl, hRt, hRo, hCa, ⟨hW, hF, hC, hrv, hdu, hfr, hQ, rfl, rfl⟩, hPs, hs200, rfl, rfl, rfl, rfl⟩ wfR
  · right
    have h5 := c_X5_distance_b1 l D cI cZ ad rc rl rh fr fw fc fg ps pg pr pd qp qt qf qo ct cand lim (nI c) was sent qfi qsz p0 p1 hst zr
    have h6 := c_X6_distance_b1 l D cI cZ ad2 co fa ic me sw cn ab go cp so gr re db (nI c) lim qsz sent was (nI k) p0 p1 zr
    exact StX.mk h5 h6 ⟨⟨rfl, rfl⟩, Nat.le_of_ble_eq_true rfl, Nat.le_of_ble_eq_true rfl⟩ ⟨⟨rfl, rfl⟩, Nat.le_of_ble_eq_true rfl, Nat.le_of_ble_eq_true rfl⟩ ⟨rc, rl, rh, fr, fw, fc, fg, ps, pg, pr, pd, qp, qt, qf, qo, ct, cand, lim, (nI c), was, sent, qfi, qsz, co, fa, ic, me, sw, cn, ab, go, cp, so, gr, re, db, (nI c), lim, qsz, sent, was, rfl, rfl, hRt, hRo, hCa, ⟨hW, hF, hC, hrv, hdu, hfr, hQ, rfl, rfl⟩, hPs, hs200, rfl, rfl, rfl, rfl⟩ wfR
theorem st_nextHop {l : Launch} {D : va_G} {cI cZ : ClassId} {ad ad2 : Nat → Nat} {c k : Nat} {wc wr : va_W} (hst : l.stackTraces = false) (hc : c + 200 < 2 ^ 31) (h : REL cI cZ ad ad2 c k wc wr) (p0 : Int32) (p1 : Int32) : StG l D cI cZ ad ad2 c yX5_nextHop cX5_nextHop 3 yX6_nextHop cX6_nextHop 3 .int [.int p0, .int p1] wc wr (fun _ => True) ∨ StX l D cI cZ ad ad2 c 1 "java/lang/IndexOutOfBoundsException" yX5_nextHop cX5_nextHop 3 yX6_nextHop cX6_nextHop 3 .int [.int p0, .int p1] wc wr := by
  obtain ⟨rc, rl, rh, fr, fw, fc, fg, ps, pg, pr, pd, qp, qt, qf, qo, ct, cand, lim, now, was, sent, qfi, qsz, co, fa, ic, me, sw, cn, ab, go, cp, so, gr, re, db, rclk, rlim, rqd, rpk, rwas, rfl, rfl, hRt, hRo, hCa, hPR, hPs, hs200, e1, e2, e3, e4⟩ := h
  obtain ⟨hW, hF, hC, hrv, hdu, hfr, hQ, e5, e6⟩ := hPR
  have e1' := e1.symm
  have e2' := e2.symm
  have e5' := e5.symm
  subst e1'
  subst e2'
  subst e3
  subst e4
  subst e5'
  subst e6
  by_cases zr : f_X5_isRouter_r p0 = true
  · obtain ⟨qr, br⟩ := isRouter_r zr
    generalize p0.toNatClampNeg = r at qr br
    subst qr
    by_cases zo : f_X5_isRouter_r p1 = true
    · obtain ⟨qo, bo⟩ := isRouter_r zo
      generalize p1.toNatClampNeg = o at qo bo
      subst qo
      left
      have h5 := c_X5_nextHop l D cI cZ ad rc rl rh fr fw fc fg ps pg pr pd qp qt qf qo ct cand lim (nI c) was sent qfi qsz r o br bo
      have h6 := c_X6_nextHop l D cI cZ ad2 co fa ic me sw cn ab go cp so gr re db (nI c) lim qsz sent was (nI k) r o br bo
      exact StG.mk h5 h6 (hRt.2.2.2.2 r o br bo) ⟨⟨rfl, rfl⟩, Nat.le_of_ble_eq_true rfl, Nat.le_of_ble_eq_true rfl⟩ ⟨⟨rfl, rfl⟩, Nat.le_of_ble_eq_true rfl, Nat.le_of_ble_eq_true rfl⟩ ⟨rc, rl, rh, fr, fw, fc, fg, ps, pg, pr, pd, qp, qt, qf, qo, ct, cand, lim, (nI c), was, sent, qfi, qsz, co, fa, ic, me, sw, cn, ab, go, cp, so, gr, re, db, (nI c), lim, qsz, sent, was, rfl, rfl, hRt, hRo, hCa, ⟨hW, hF, hC, hrv, hdu, hfr, hQ, rfl, rfl⟩, hPs, hs200, rfl, rfl, rfl, rfl⟩ wfC wfR trivial
    · right
      have h5 := c_X5_nextHop_b2 l D cI cZ ad rc rl rh fr fw fc fg ps pg pr pd qp qt qf qo ct cand lim (nI c) was sent qfi qsz r p1 br hst zo
      have h6 := c_X6_nextHop_b2 l D cI cZ ad2 co fa ic me sw cn ab go cp so gr re db (nI c) lim qsz sent was (nI k) r p1 br zo
      exact StX.mk h5 h6 ⟨⟨rfl, rfl⟩, Nat.le_of_ble_eq_true rfl, Nat.le_of_ble_eq_true rfl⟩ ⟨⟨rfl, rfl⟩, Nat.le_of_ble_eq_true rfl, Nat.le_of_ble_eq_true rfl⟩ ⟨rc, rl, rh, fr, fw, fc, fg, ps, pg, pr, pd, qp, qt, qf, qo, ct, cand, lim, (nI c), was, sent, qfi, qsz, co, fa, ic, me, sw, cn, ab, go, cp, so, gr, re, db, (nI c), lim, qsz, sent, was, rfl, rfl, hRt, hRo, hCa, ⟨hW, hF, hC, hrv, hdu, hfr, hQ, rfl, rfl⟩, hPs, hs200, rfl, rfl, rfl, rfl⟩ wfR
  · right
    have h5 := c_X5_nextHop_b1 l D cI cZ ad rc rl rh fr fw fc fg ps pg pr pd qp qt qf qo ct cand lim (nI c) was sent qfi qsz p0 p1 hst zr
    have h6 := c_X6_nextHop_b1 l D cI cZ ad2 co fa ic me sw cn ab go cp so gr re db (nI c) lim qsz sent was (nI k) p0 p1 zr
    exact StX.mk h5 h6 ⟨⟨rfl, rfl⟩, Nat.le_of_ble_eq_true rfl, Nat.le_of_ble_eq_true rfl⟩ ⟨⟨rfl, rfl⟩, Nat.le_of_ble_eq_true rfl, Nat.le_of_ble_eq_true rfl⟩ ⟨rc, rl, rh, fr, fw, fc, fg, ps, pg, pr, pd, qp, qt, qf, qo, ct, cand, lim, (nI c), was, sent, qfi, qsz, co, fa, ic, me, sw, cn, ab, go, cp, so, gr, re, db, (nI c), lim, qsz, sent, was, rfl, rfl, hRt, hRo, hCa, ⟨hW, hF, hC, hrv, hdu, hfr, hQ, rfl, rfl⟩, hPs, hs200, rfl, rfl, rfl, rfl⟩ wfR
theorem st_rendezvous {l : Launch} {D : va_G} {cI cZ : ClassId} {ad ad2 : Nat → Nat} {c k : Nat} {wc wr : va_W} (hst : l.stackTraces = false) (hc : c + 200 < 2 ^ 31) (h : REL cI cZ ad ad2 c k wc wr) (p0 : Int32) : StG l D cI cZ ad ad2 c yX5_rendezvous cX5_rendezvous 2 yX6_rendezvous cX6_rendezvous 2 .int [.int p0] wc wr (fun _ => True) ∨ StX l D cI cZ ad ad2 c 1 "java/lang/IndexOutOfBoundsException" yX5_rendezvous cX5_rendezvous 2 yX6_rendezvous cX6_rendezvous 2 .int [.int p0] wc wr := by
  obtain ⟨rc, rl, rh, fr, fw, fc, fg, ps, pg, pr, pd, qp, qt, qf, qo, ct, cand, lim, now, was, sent, qfi, qsz, co, fa, ic, me, sw, cn, ab, go, cp, so, gr, re, db, rclk, rlim, rqd, rpk, rwas, rfl, rfl, hRt, hRo, hCa, hPR, hPs, hs200, e1, e2, e3, e4⟩ := h
  obtain ⟨hW, hF, hC, hrv, hdu, hfr, hQ, e5, e6⟩ := hPR
  have e1' := e1.symm
  have e2' := e2.symm
  have e5' := e5.symm
  subst e1'
  subst e2'
  subst e3
  subst e4
  subst e5'
  subst e6
  by_cases zg : f_X5_isGroup_r p0 = true
  · obtain ⟨qg, bg⟩ := rG zg
    generalize p0.toNatClampNeg = g at qg bg
    subst qg
    left
    have h5 := c_X5_rendezvous l D cI cZ ad rc rl rh fr fw fc fg ps pg pr pd qp qt qf qo ct cand lim (nI c) was sent qfi qsz g bg
    have h6 := c_X6_rendezvous l D cI cZ ad2 co fa ic me sw cn ab go cp so gr re db (nI c) lim qsz sent was (nI k) g bg
    exact StG.mk h5 h6 (fr_g hRo bg) ⟨⟨rfl, rfl⟩, Nat.le_of_ble_eq_true rfl, Nat.le_of_ble_eq_true rfl⟩ ⟨⟨rfl, rfl⟩, Nat.le_of_ble_eq_true rfl, Nat.le_of_ble_eq_true rfl⟩ ⟨rc, rl, rh, fr, fw, fc, fg, ps, pg, pr, pd, qp, qt, qf, qo, ct, cand, lim, (nI c), was, sent, qfi, qsz, co, fa, ic, me, sw, cn, ab, go, cp, so, gr, re, db, (nI c), lim, qsz, sent, was, rfl, rfl, hRt, hRo, hCa, ⟨hW, hF, hC, hrv, hdu, hfr, hQ, rfl, rfl⟩, hPs, hs200, rfl, rfl, rfl, rfl⟩ wfC wfR trivial
  · right
    have h5 := c_X5_rendezvous_b1 l D cI cZ ad rc rl rh fr fw fc fg ps pg pr pd qp qt qf qo ct cand lim (nI c) was sent qfi qsz p0 hst zg
    have h6 := c_X6_rendezvous_b1 l D cI cZ ad2 co fa ic me sw cn ab go cp so gr re db (nI c) lim qsz sent was (nI k) p0 zg
    exact StX.mk h5 h6 ⟨⟨rfl, rfl⟩, Nat.le_of_ble_eq_true rfl, Nat.le_of_ble_eq_true rfl⟩ ⟨⟨rfl, rfl⟩, Nat.le_of_ble_eq_true rfl, Nat.le_of_ble_eq_true rfl⟩ ⟨rc, rl, rh, fr, fw, fc, fg, ps, pg, pr, pd, qp, qt, qf, qo, ct, cand, lim, (nI c), was, sent, qfi, qsz, co, fa, ic, me, sw, cn, ab, go, cp, so, gr, re, db, (nI c), lim, qsz, sent, was, rfl, rfl, hRt, hRo, hCa, ⟨hW, hF, hC, hrv, hdu, hfr, hQ, rfl, rfl⟩, hPs, hs200, rfl, rfl, rfl, rfl⟩ wfR
theorem st_members {l : Launch} {D : va_G} {cI cZ : ClassId} {ad ad2 : Nat → Nat} {c k : Nat} {wc wr : va_W} (hst : l.stackTraces = false) (hc : c + 200 < 2 ^ 31) (h : REL cI cZ ad ad2 c k wc wr) (p0 : Int32) : StG l D cI cZ ad ad2 c yX5_members cX5_members 2 yX6_members cX6_members 2 .int [.int p0] wc wr (fun _ => True) ∨ StX l D cI cZ ad ad2 c 1 "java/lang/IndexOutOfBoundsException" yX5_members cX5_members 2 yX6_members cX6_members 2 .int [.int p0] wc wr := by
  obtain ⟨rc, rl, rh, fr, fw, fc, fg, ps, pg, pr, pd, qp, qt, qf, qo, ct, cand, lim, now, was, sent, qfi, qsz, co, fa, ic, me, sw, cn, ab, go, cp, so, gr, re, db, rclk, rlim, rqd, rpk, rwas, rfl, rfl, hRt, hRo, hCa, hPR, hPs, hs200, e1, e2, e3, e4⟩ := h
  obtain ⟨hW, hF, hC, hrv, hdu, hfr, hQ, e5, e6⟩ := hPR
  have e1' := e1.symm
  have e2' := e2.symm
  have e5' := e5.symm
  subst e1'
  subst e2'
  subst e3
  subst e4
  subst e5'
  subst e6
  by_cases zg : f_X5_isGroup_r p0 = true
  · obtain ⟨qg, bg⟩ := rG zg
    generalize p0.toNatClampNeg = g at qg bg
    subst qg
    left
    have h5 := c_X5_members l D cI cZ ad rc rl rh fr fw fc fg ps pg pr pd qp qt qf qo ct cand lim (nI c) was sent qfi qsz g bg
    have h6 := c_X6_members l D cI cZ ad2 co fa ic me sw cn ab go cp so gr re db (nI c) lim qsz sent was (nI k) g bg
    exact StG.mk h5 h6 (hW.1 g bg) ⟨⟨rfl, rfl⟩, Nat.le_of_ble_eq_true rfl, Nat.le_of_ble_eq_true rfl⟩ ⟨⟨rfl, rfl⟩, Nat.le_of_ble_eq_true rfl, Nat.le_of_ble_eq_true rfl⟩ ⟨rc, rl, rh, fr, fw, fc, fg, ps, pg, pr, pd, qp, qt, qf, qo, ct, cand, lim, (nI c), was, sent, qfi, qsz, co, fa, ic, me, sw, cn, ab, go, cp, so, gr, re, db, (nI c), lim, qsz, sent, was, rfl, rfl, hRt, hRo, hCa, ⟨hW, hF, hC, hrv, hdu, hfr, hQ, rfl, rfl⟩, hPs, hs200, rfl, rfl, rfl, rfl⟩ wfC wfR trivial
  · right
    have h5 := c_X5_members_b1 l D cI cZ ad rc rl rh fr fw fc fg ps pg pr pd qp qt qf qo ct cand lim (nI c) was sent qfi qsz p0 hst zg
    have h6 := c_X6_members_b1 l D cI cZ ad2 co fa ic me sw cn ab go cp so gr re db (nI c) lim qsz sent was (nI k) p0 zg
    exact StX.mk h5 h6 ⟨⟨rfl, rfl⟩, Nat.le_of_ble_eq_true rfl, Nat.le_of_ble_eq_true rfl⟩ ⟨⟨rfl, rfl⟩, Nat.le_of_ble_eq_true rfl, Nat.le_of_ble_eq_true rfl⟩ ⟨rc, rl, rh, fr, fw, fc, fg, ps, pg, pr, pd, qp, qt, qf, qo, ct, cand, lim, (nI c), was, sent, qfi, qsz, co, fa, ic, me, sw, cn, ab, go, cp, so, gr, re, db, (nI c), lim, qsz, sent, was, rfl, rfl, hRt, hRo, hCa, ⟨hW, hF, hC, hrv, hdu, hfr, hQ, rfl, rfl⟩, hPs, hs200, rfl, rfl, rfl, rfl⟩ wfR
theorem st_switched {l : Launch} {D : va_G} {cI cZ : ClassId} {ad ad2 : Nat → Nat} {c k : Nat} {wc wr : va_W} (hst : l.stackTraces = false) (hc : c + 200 < 2 ^ 31) (h : REL cI cZ ad ad2 c k wc wr) (p0 : Int32) (p1 : Int32) : StG l D cI cZ ad ad2 c yX5_switched cX5_switched 3 yX6_switched cX6_switched 3 .int [.int p0, .int p1] wc wr (fun _ => True) ∨ StX l D cI cZ ad ad2 c 1 "java/lang/IndexOutOfBoundsException" yX5_switched cX5_switched 3 yX6_switched cX6_switched 3 .int [.int p0, .int p1] wc wr := by
  obtain ⟨rc, rl, rh, fr, fw, fc, fg, ps, pg, pr, pd, qp, qt, qf, qo, ct, cand, lim, now, was, sent, qfi, qsz, co, fa, ic, me, sw, cn, ab, go, cp, so, gr, re, db, rclk, rlim, rqd, rpk, rwas, rfl, rfl, hRt, hRo, hCa, hPR, hPs, hs200, e1, e2, e3, e4⟩ := h
  obtain ⟨hW, hF, hC, hrv, hdu, hfr, hQ, e5, e6⟩ := hPR
  have e1' := e1.symm
  have e2' := e2.symm
  have e5' := e5.symm
  subst e1'
  subst e2'
  subst e3
  subst e4
  subst e5'
  subst e6
  by_cases zr : f_X5_isRouter_r p0 = true
  · obtain ⟨qr, br⟩ := isRouter_r zr
    generalize p0.toNatClampNeg = r at qr br
    subst qr
    by_cases zg : f_X5_isGroup_r p1 = true
    · obtain ⟨qg, bg⟩ := rG zg
      generalize p1.toNatClampNeg = g at qg bg
      subst qg
      left
      have h5 := c_X5_switched l D cI cZ ad rc rl rh fr fw fc fg ps pg pr pd qp qt qf qo ct cand lim (nI c) was sent qfi qsz r g br bg
      have h6 := c_X6_switched l D cI cZ ad2 co fa ic me sw cn ab go cp so gr re db (nI c) lim qsz sent was (nI k) r g br bg
      exact StG.mk h5 h6 (hW.2.1 g r bg br) ⟨⟨rfl, rfl⟩, Nat.le_of_ble_eq_true rfl, Nat.le_of_ble_eq_true rfl⟩ ⟨⟨rfl, rfl⟩, Nat.le_of_ble_eq_true rfl, Nat.le_of_ble_eq_true rfl⟩ ⟨rc, rl, rh, fr, fw, fc, fg, ps, pg, pr, pd, qp, qt, qf, qo, ct, cand, lim, (nI c), was, sent, qfi, qsz, co, fa, ic, me, sw, cn, ab, go, cp, so, gr, re, db, (nI c), lim, qsz, sent, was, rfl, rfl, hRt, hRo, hCa, ⟨hW, hF, hC, hrv, hdu, hfr, hQ, rfl, rfl⟩, hPs, hs200, rfl, rfl, rfl, rfl⟩ wfC wfR trivial
    · right
      have h5 := c_X5_switched_b2 l D cI cZ ad rc rl rh fr fw fc fg ps pg pr pd qp qt qf qo ct cand lim (nI c) was sent qfi qsz r p1 br hst zg
      have h6 := c_X6_switched_b2 l D cI cZ ad2 co fa ic me sw cn ab go cp so gr re db (nI c) lim qsz sent was (nI k) r p1 br zg
      exact StX.mk h5 h6 ⟨⟨rfl, rfl⟩, Nat.le_of_ble_eq_true rfl, Nat.le_of_ble_eq_true rfl⟩ ⟨⟨rfl, rfl⟩, Nat.le_of_ble_eq_true rfl, Nat.le_of_ble_eq_true rfl⟩ ⟨rc, rl, rh, fr, fw, fc, fg, ps, pg, pr, pd, qp, qt, qf, qo, ct, cand, lim, (nI c), was, sent, qfi, qsz, co, fa, ic, me, sw, cn, ab, go, cp, so, gr, re, db, (nI c), lim, qsz, sent, was, rfl, rfl, hRt, hRo, hCa, ⟨hW, hF, hC, hrv, hdu, hfr, hQ, rfl, rfl⟩, hPs, hs200, rfl, rfl, rfl, rfl⟩ wfR
  · right
    have h5 := c_X5_switched_b1 l D cI cZ ad rc rl rh fr fw fc fg ps pg pr pd qp qt qf qo ct cand lim (nI c) was sent qfi qsz p0 p1 hst zr
    have h6 := c_X6_switched_b1 l D cI cZ ad2 co fa ic me sw cn ab go cp so gr re db (nI c) lim qsz sent was (nI k) p0 p1 zr
    exact StX.mk h5 h6 ⟨⟨rfl, rfl⟩, Nat.le_of_ble_eq_true rfl, Nat.le_of_ble_eq_true rfl⟩ ⟨⟨rfl, rfl⟩, Nat.le_of_ble_eq_true rfl, Nat.le_of_ble_eq_true rfl⟩ ⟨rc, rl, rh, fr, fw, fc, fg, ps, pg, pr, pd, qp, qt, qf, qo, ct, cand, lim, (nI c), was, sent, qfi, qsz, co, fa, ic, me, sw, cn, ab, go, cp, so, gr, re, db, (nI c), lim, qsz, sent, was, rfl, rfl, hRt, hRo, hCa, ⟨hW, hF, hC, hrv, hdu, hfr, hQ, rfl, rfl⟩, hPs, hs200, rfl, rfl, rfl, rfl⟩ wfR
theorem st_branches {l : Launch} {D : va_G} {cI cZ : ClassId} {ad ad2 : Nat → Nat} {c k : Nat} {wc wr : va_W} (hst : l.stackTraces = false) (hc : c + 200 < 2 ^ 31) (h : REL cI cZ ad ad2 c k wc wr) (p0 : Int32) (p1 : Int32) : StG l D cI cZ ad ad2 c yX5_branches cX5_branches 3 yX6_branches cX6_branches 3 .int [.int p0, .int p1] wc wr (fun _ => True) ∨ StX l D cI cZ ad ad2 c 1 "java/lang/IndexOutOfBoundsException" yX5_branches cX5_branches 3 yX6_branches cX6_branches 3 .int [.int p0, .int p1] wc wr := by
  obtain ⟨rc, rl, rh, fr, fw, fc, fg, ps, pg, pr, pd, qp, qt, qf, qo, ct, cand, lim, now, was, sent, qfi, qsz, co, fa, ic, me, sw, cn, ab, go, cp, so, gr, re, db, rclk, rlim, rqd, rpk, rwas, rfl, rfl, hRt, hRo, hCa, hPR, hPs, hs200, e1, e2, e3, e4⟩ := h
  obtain ⟨hW, hF, hC, hrv, hdu, hfr, hQ, e5, e6⟩ := hPR
  have e1' := e1.symm
  have e2' := e2.symm
  have e5' := e5.symm
  subst e1'
  subst e2'
  subst e3
  subst e4
  subst e5'
  subst e6
  by_cases zr : f_X5_isRouter_r p0 = true
  · obtain ⟨qr, br⟩ := isRouter_r zr
    generalize p0.toNatClampNeg = r at qr br
    subst qr
    by_cases zg : f_X5_isGroup_r p1 = true
    · obtain ⟨qg, bg⟩ := rG zg
      generalize p1.toNatClampNeg = g at qg bg
      subst qg
      left
      have h5 := c_X5_branches l D cI cZ ad rc rl rh fr fw fc fg ps pg pr pd qp qt qf qo ct cand lim (nI c) was sent qfi qsz r g br bg
      have h6 := c_X6_branches l D cI cZ ad2 co fa ic me sw cn ab go cp so gr re db (nI c) lim qsz sent was (nI k) r g br bg
      have hR := (hF (11 * g + 10) (by omega)).1
      rw [tau_shr] at hR
      exact StG.mk h5 h6 (below_eq (fun k hk => (hR k hk).1)) ⟨⟨rfl, rfl⟩, Nat.le_of_ble_eq_true rfl, Nat.le_of_ble_eq_true rfl⟩ ⟨⟨rfl, rfl⟩, Nat.le_of_ble_eq_true rfl, Nat.le_of_ble_eq_true rfl⟩ ⟨rc, rl, rh, fr, fw, fc, fg, ps, pg, pr, pd, qp, qt, qf, qo, ct, cand, lim, (nI c), was, sent, qfi, qsz, co, fa, ic, me, sw, cn, ab, go, cp, so, gr, re, db, (nI c), lim, qsz, sent, was, rfl, rfl, hRt, hRo, hCa, ⟨hW, hF, hC, hrv, hdu, hfr, hQ, rfl, rfl⟩, hPs, hs200, rfl, rfl, rfl, rfl⟩ wfC wfR trivial
    · right
      have h5 := c_X5_branches_b2 l D cI cZ ad rc rl rh fr fw fc fg ps pg pr pd qp qt qf qo ct cand lim (nI c) was sent qfi qsz r p1 br hst zg
      have h6 := c_X6_branches_b2 l D cI cZ ad2 co fa ic me sw cn ab go cp so gr re db (nI c) lim qsz sent was (nI k) r p1 br zg
      exact StX.mk h5 h6 ⟨⟨rfl, rfl⟩, Nat.le_of_ble_eq_true rfl, Nat.le_of_ble_eq_true rfl⟩ ⟨⟨rfl, rfl⟩, Nat.le_of_ble_eq_true rfl, Nat.le_of_ble_eq_true rfl⟩ ⟨rc, rl, rh, fr, fw, fc, fg, ps, pg, pr, pd, qp, qt, qf, qo, ct, cand, lim, (nI c), was, sent, qfi, qsz, co, fa, ic, me, sw, cn, ab, go, cp, so, gr, re, db, (nI c), lim, qsz, sent, was, rfl, rfl, hRt, hRo, hCa, ⟨hW, hF, hC, hrv, hdu, hfr, hQ, rfl, rfl⟩, hPs, hs200, rfl, rfl, rfl, rfl⟩ wfR
  · right
    have h5 := c_X5_branches_b1 l D cI cZ ad rc rl rh fr fw fc fg ps pg pr pd qp qt qf qo ct cand lim (nI c) was sent qfi qsz p0 p1 hst zr
    have h6 := c_X6_branches_b1 l D cI cZ ad2 co fa ic me sw cn ab go cp so gr re db (nI c) lim qsz sent was (nI k) p0 p1 zr
    exact StX.mk h5 h6 ⟨⟨rfl, rfl⟩, Nat.le_of_ble_eq_true rfl, Nat.le_of_ble_eq_true rfl⟩ ⟨⟨rfl, rfl⟩, Nat.le_of_ble_eq_true rfl, Nat.le_of_ble_eq_true rfl⟩ ⟨rc, rl, rh, fr, fw, fc, fg, ps, pg, pr, pd, qp, qt, qf, qo, ct, cand, lim, (nI c), was, sent, qfi, qsz, co, fa, ic, me, sw, cn, ab, go, cp, so, gr, re, db, (nI c), lim, qsz, sent, was, rfl, rfl, hRt, hRo, hCa, ⟨hW, hF, hC, hrv, hdu, hfr, hQ, rfl, rfl⟩, hPs, hs200, rfl, rfl, rfl, rfl⟩ wfR
theorem st_floodMembers {l : Launch} {D : va_G} {cI cZ : ClassId} {ad ad2 : Nat → Nat} {c k : Nat} {wc wr : va_W} (hst : l.stackTraces = false) (hc : c + 200 < 2 ^ 31) (h : REL cI cZ ad ad2 c k wc wr) (p0 : Int32) (p1 : Int32) : StG l D cI cZ ad ad2 c yX5_floodMembers cX5_floodMembers 3 yX6_floodMembers cX6_floodMembers 5 .int [.int p0, .int p1] wc wr (fun _ => True) ∨ StX l D cI cZ ad ad2 c 1 "java/lang/IndexOutOfBoundsException" yX5_floodMembers cX5_floodMembers 3 yX6_floodMembers cX6_floodMembers 5 .int [.int p0, .int p1] wc wr := by
  obtain ⟨rc, rl, rh, fr, fw, fc, fg, ps, pg, pr, pd, qp, qt, qf, qo, ct, cand, lim, now, was, sent, qfi, qsz, co, fa, ic, me, sw, cn, ab, go, cp, so, gr, re, db, rclk, rlim, rqd, rpk, rwas, rfl, rfl, hRt, hRo, hCa, hPR, hPs, hs200, e1, e2, e3, e4⟩ := h
  obtain ⟨hW, hF, hC, hrv, hdu, hfr, hQ, e5, e6⟩ := hPR
  have e1' := e1.symm
  have e2' := e2.symm
  have e5' := e5.symm
  subst e1'
  subst e2'
  subst e3
  subst e4
  subst e5'
  subst e6
  by_cases zr : f_X5_isRouter_r p0 = true
  · obtain ⟨qr, br⟩ := isRouter_r zr
    generalize p0.toNatClampNeg = r at qr br
    subst qr
    by_cases zg : f_X5_isGroup_r p1 = true
    · obtain ⟨qg, bg⟩ := rG zg
      generalize p1.toNatClampNeg = g at qg bg
      subst qg
      left
      have h5 := c_X5_floodMembers l D cI cZ ad rc rl rh fr fw fc fg ps pg pr pd qp qt qf qo ct cand lim (nI c) was sent qfi qsz r g br bg
      have h6 := c_X6_floodMembers l D cI cZ ad2 co fa ic me sw cn ab go cp so gr re db (nI c) lim qsz sent was (nI k) r g br bg
      rw [(flooded_eq hRt.2.1 hRt.2.2.2.1 br (hW.1 g bg)).2] at h6
      exact StG.mk h5 h6 (flooded_eq hRt.2.1 hRt.2.2.2.1 br (hW.1 g bg)).1 ⟨⟨rfl, rfl⟩, Nat.le_of_ble_eq_true rfl, Nat.le_of_ble_eq_true rfl⟩ ⟨⟨rfl, rfl⟩, Nat.le_of_ble_eq_true rfl, Nat.le_of_ble_eq_true rfl⟩ ⟨rc, rl, rh, fr, fw, fc, fg, ps, pg, pr, pd, qp, qt, qf, qo, ct, cand, lim, (nI c), was, sent, qfi, qsz, co, fa, ic, me, sw, cn, ab, go, cp, so, gr, re, db, (nI c), lim, qsz, sent, was, rfl, rfl, hRt, hRo, hCa, ⟨hW, hF, hC, hrv, hdu, hfr, hQ, rfl, rfl⟩, hPs, hs200, rfl, rfl, rfl, rfl⟩ wfC wfR trivial
    · right
      have h5 := c_X5_floodMembers_b2 l D cI cZ ad rc rl rh fr fw fc fg ps pg pr pd qp qt qf qo ct cand lim (nI c) was sent qfi qsz r p1 br hst zg
      have h6 := c_X6_floodMembers_b2 l D cI cZ ad2 co fa ic me sw cn ab go cp so gr re db (nI c) lim qsz sent was (nI k) r p1 br zg
      exact StX.mk h5 h6 ⟨⟨rfl, rfl⟩, Nat.le_of_ble_eq_true rfl, Nat.le_of_ble_eq_true rfl⟩ ⟨⟨rfl, rfl⟩, Nat.le_of_ble_eq_true rfl, Nat.le_of_ble_eq_true rfl⟩ ⟨rc, rl, rh, fr, fw, fc, fg, ps, pg, pr, pd, qp, qt, qf, qo, ct, cand, lim, (nI c), was, sent, qfi, qsz, co, fa, ic, me, sw, cn, ab, go, cp, so, gr, re, db, (nI c), lim, qsz, sent, was, rfl, rfl, hRt, hRo, hCa, ⟨hW, hF, hC, hrv, hdu, hfr, hQ, rfl, rfl⟩, hPs, hs200, rfl, rfl, rfl, rfl⟩ wfR
  · right
    have h5 := c_X5_floodMembers_b1 l D cI cZ ad rc rl rh fr fw fc fg ps pg pr pd qp qt qf qo ct cand lim (nI c) was sent qfi qsz p0 p1 hst zr
    have h6 := c_X6_floodMembers_b1 l D cI cZ ad2 co fa ic me sw cn ab go cp so gr re db (nI c) lim qsz sent was (nI k) p0 p1 zr
    exact StX.mk h5 h6 ⟨⟨rfl, rfl⟩, Nat.le_of_ble_eq_true rfl, Nat.le_of_ble_eq_true rfl⟩ ⟨⟨rfl, rfl⟩, Nat.le_of_ble_eq_true rfl, Nat.le_of_ble_eq_true rfl⟩ ⟨rc, rl, rh, fr, fw, fc, fg, ps, pg, pr, pd, qp, qt, qf, qo, ct, cand, lim, (nI c), was, sent, qfi, qsz, co, fa, ic, me, sw, cn, ab, go, cp, so, gr, re, db, (nI c), lim, qsz, sent, was, rfl, rfl, hRt, hRo, hCa, ⟨hW, hF, hC, hrv, hdu, hfr, hQ, rfl, rfl⟩, hPs, hs200, rfl, rfl, rfl, rfl⟩ wfR
theorem st_floodCopies {l : Launch} {D : va_G} {cI cZ : ClassId} {ad ad2 : Nat → Nat} {c k : Nat} {wc wr : va_W} (hst : l.stackTraces = false) (hc : c + 200 < 2 ^ 31) (h : REL cI cZ ad ad2 c k wc wr) (p0 : Int32) : StG l D cI cZ ad ad2 c yX5_floodCopies cX5_floodCopies 5 yX6_floodCopies cX6_floodCopies 6 .int [.int p0] wc wr (fun _ => True) ∨ StX l D cI cZ ad ad2 c 1 "java/lang/IndexOutOfBoundsException" yX5_floodCopies cX5_floodCopies 5 yX6_floodCopies cX6_floodCopies 6 .int [.int p0] wc wr := by
  obtain ⟨rc, rl, rh, fr, fw, fc, fg, ps, pg, pr, pd, qp, qt, qf, qo, ct, cand, lim, now, was, sent, qfi, qsz, co, fa, ic, me, sw, cn, ab, go, cp, so, gr, re, db, rclk, rlim, rqd, rpk, rwas, rfl, rfl, hRt, hRo, hCa, hPR, hPs, hs200, e1, e2, e3, e4⟩ := h
  obtain ⟨hW, hF, hC, hrv, hdu, hfr, hQ, e5, e6⟩ := hPR
  have e1' := e1.symm
  have e2' := e2.symm
  have e5' := e5.symm
  subst e1'
  subst e2'
  subst e3
  subst e4
  subst e5'
  subst e6
  by_cases zr : f_X5_isRouter_r p0 = true
  · obtain ⟨qr, br⟩ := isRouter_r zr
    generalize p0.toNatClampNeg = r at qr br
    subst qr
    left
    have h5 := c_X5_floodCopies l D cI cZ ad rc rl rh fr fw fc fg ps pg pr pd qp qt qf qo ct cand lim (nI c) was sent qfi qsz r br
    have h6 := c_X6_floodCopies l D cI cZ ad2 co fa ic me sw cn ab go cp so gr re db (nI c) lim qsz sent was (nI k) r br
    rw [(copies_eq hRt.1 hRt.2.1 hRt.2.2.1 hRt.2.2.2.1 br).2] at h6
    exact StG.mk h5 h6 (copies_eq hRt.1 hRt.2.1 hRt.2.2.1 hRt.2.2.2.1 br).1 ⟨⟨rfl, rfl⟩, Nat.le_of_ble_eq_true rfl, Nat.le_of_ble_eq_true rfl⟩ ⟨⟨rfl, rfl⟩, Nat.le_of_ble_eq_true rfl, Nat.le_of_ble_eq_true rfl⟩ ⟨rc, rl, rh, fr, fw, fc, fg, ps, pg, pr, pd, qp, qt, qf, qo, ct, cand, lim, (nI c), was, sent, qfi, qsz, co, fa, ic, me, sw, cn, ab, go, cp, so, gr, re, db, (nI c), lim, qsz, sent, was, rfl, rfl, hRt, hRo, hCa, ⟨hW, hF, hC, hrv, hdu, hfr, hQ, rfl, rfl⟩, hPs, hs200, rfl, rfl, rfl, rfl⟩ wfC wfR trivial
  · right
    have h5 := c_X5_floodCopies_b1 l D cI cZ ad rc rl rh fr fw fc fg ps pg pr pd qp qt qf qo ct cand lim (nI c) was sent qfi qsz p0 hst zr
    have h6 := c_X6_floodCopies_b1 l D cI cZ ad2 co fa ic me sw cn ab go cp so gr re db (nI c) lim qsz sent was (nI k) p0 zr
    exact StX.mk h5 h6 ⟨⟨rfl, rfl⟩, Nat.le_of_ble_eq_true rfl, Nat.le_of_ble_eq_true rfl⟩ ⟨⟨rfl, rfl⟩, Nat.le_of_ble_eq_true rfl, Nat.le_of_ble_eq_true rfl⟩ ⟨rc, rl, rh, fr, fw, fc, fg, ps, pg, pr, pd, qp, qt, qf, qo, ct, cand, lim, (nI c), was, sent, qfi, qsz, co, fa, ic, me, sw, cn, ab, go, cp, so, gr, re, db, (nI c), lim, qsz, sent, was, rfl, rfl, hRt, hRo, hCa, ⟨hW, hF, hC, hrv, hdu, hfr, hQ, rfl, rfl⟩, hPs, hs200, rfl, rfl, rfl, rfl⟩ wfR
theorem st_sourceBranches {l : Launch} {D : va_G} {cI cZ : ClassId} {ad ad2 : Nat → Nat} {c k : Nat} {wc wr : va_W} (hst : l.stackTraces = false) (hc : c + 200 < 2 ^ 31) (h : REL cI cZ ad ad2 c k wc wr) (p0 : Int32) (p1 : Int32) (p2 : Int32) : StG l D cI cZ ad ad2 c yX5_sourceBranches cX5_sourceBranches 4 yX6_sourceBranches cX6_sourceBranches 4 .int [.int p0, .int p1, .int p2] wc wr (fun _ => True) ∨ StX l D cI cZ ad ad2 c 1 "java/lang/IndexOutOfBoundsException" yX5_sourceBranches cX5_sourceBranches 4 yX6_sourceBranches cX6_sourceBranches 4 .int [.int p0, .int p1, .int p2] wc wr := by
  obtain ⟨rc, rl, rh, fr, fw, fc, fg, ps, pg, pr, pd, qp, qt, qf, qo, ct, cand, lim, now, was, sent, qfi, qsz, co, fa, ic, me, sw, cn, ab, go, cp, so, gr, re, db, rclk, rlim, rqd, rpk, rwas, rfl, rfl, hRt, hRo, hCa, hPR, hPs, hs200, e1, e2, e3, e4⟩ := h
  obtain ⟨hW, hF, hC, hrv, hdu, hfr, hQ, e5, e6⟩ := hPR
  have e1' := e1.symm
  have e2' := e2.symm
  have e5' := e5.symm
  subst e1'
  subst e2'
  subst e3
  subst e4
  subst e5'
  subst e6
  by_cases zr : f_X5_isRouter_r p0 = true
  · obtain ⟨qr, br⟩ := isRouter_r zr
    generalize p0.toNatClampNeg = r at qr br
    subst qr
    by_cases zs_ : f_X5_isRouter_r p1 = true
    · obtain ⟨qs_, bs_⟩ := isRouter_r zs_
      generalize p1.toNatClampNeg = s_ at qs_ bs_
      subst qs_
      by_cases zg : f_X5_isGroup_r p2 = true
      · obtain ⟨qg, bg⟩ := rG zg
        generalize p2.toNatClampNeg = g at qg bg
        subst qg
        left
        have h5 := c_X5_sourceBranches l D cI cZ ad rc rl rh fr fw fc fg ps pg pr pd qp qt qf qo ct cand lim (nI c) was sent qfi qsz r s_ g br bs_ bg
        have h6 := c_X6_sourceBranches l D cI cZ ad2 co fa ic me sw cn ab go cp so gr re db (nI c) lim qsz sent was (nI k) r s_ g br bs_ bg
        have hR := (hF (11 * g + s_) (by omega)).1
        rw [tau_src bs_] at hR
        exact StG.mk h5 h6 (below_eq (fun k hk => (hR k hk).1)) ⟨⟨rfl, rfl⟩, Nat.le_of_ble_eq_true rfl, Nat.le_of_ble_eq_true rfl⟩ ⟨⟨rfl, rfl⟩, Nat.le_of_ble_eq_true rfl, Nat.le_of_ble_eq_true rfl⟩ ⟨rc, rl, rh, fr, fw, fc, fg, ps, pg, pr, pd, qp, qt, qf, qo, ct, cand, lim, (nI c), was, sent, qfi, qsz, co, fa, ic, me, sw, cn, ab, go, cp, so, gr, re, db, (nI c), lim, qsz, sent, was, rfl, rfl, hRt, hRo, hCa, ⟨hW, hF, hC, hrv, hdu, hfr, hQ, rfl, rfl⟩, hPs, hs200, rfl, rfl, rfl, rfl⟩ wfC wfR trivial
      · right
        have h5 := c_X5_sourceBranches_b3 l D cI cZ ad rc rl rh fr fw fc fg ps pg pr pd qp qt qf qo ct cand lim (nI c) was sent qfi qsz r s_ p2 br bs_ hst zg
        have h6 := c_X6_sourceBranches_b3 l D cI cZ ad2 co fa ic me sw cn ab go cp so gr re db (nI c) lim qsz sent was (nI k) r s_ p2 br bs_ zg
        exact StX.mk h5 h6 ⟨⟨rfl, rfl⟩, Nat.le_of_ble_eq_true rfl, Nat.le_of_ble_eq_true rfl⟩ ⟨⟨rfl, rfl⟩, Nat.le_of_ble_eq_true rfl, Nat.le_of_ble_eq_true rfl⟩ ⟨rc, rl, rh, fr, fw, fc, fg, ps, pg, pr, pd, qp, qt, qf, qo, ct, cand, lim, (nI c), was, sent, qfi, qsz, co, fa, ic, me, sw, cn, ab, go, cp, so, gr, re, db, (nI c), lim, qsz, sent, was, rfl, rfl, hRt, hRo, hCa, ⟨hW, hF, hC, hrv, hdu, hfr, hQ, rfl, rfl⟩, hPs, hs200, rfl, rfl, rfl, rfl⟩ wfR
    · right
      have h5 := c_X5_sourceBranches_b2 l D cI cZ ad rc rl rh fr fw fc fg ps pg pr pd qp qt qf qo ct cand lim (nI c) was sent qfi qsz r p1 p2 br hst zs_
      have h6 := c_X6_sourceBranches_b2 l D cI cZ ad2 co fa ic me sw cn ab go cp so gr re db (nI c) lim qsz sent was (nI k) r p1 p2 br zs_
      exact StX.mk h5 h6 ⟨⟨rfl, rfl⟩, Nat.le_of_ble_eq_true rfl, Nat.le_of_ble_eq_true rfl⟩ ⟨⟨rfl, rfl⟩, Nat.le_of_ble_eq_true rfl, Nat.le_of_ble_eq_true rfl⟩ ⟨rc, rl, rh, fr, fw, fc, fg, ps, pg, pr, pd, qp, qt, qf, qo, ct, cand, lim, (nI c), was, sent, qfi, qsz, co, fa, ic, me, sw, cn, ab, go, cp, so, gr, re, db, (nI c), lim, qsz, sent, was, rfl, rfl, hRt, hRo, hCa, ⟨hW, hF, hC, hrv, hdu, hfr, hQ, rfl, rfl⟩, hPs, hs200, rfl, rfl, rfl, rfl⟩ wfR
  · right
    have h5 := c_X5_sourceBranches_b1 l D cI cZ ad rc rl rh fr fw fc fg ps pg pr pd qp qt qf qo ct cand lim (nI c) was sent qfi qsz p0 p1 p2 hst zr
    have h6 := c_X6_sourceBranches_b1 l D cI cZ ad2 co fa ic me sw cn ab go cp so gr re db (nI c) lim qsz sent was (nI k) p0 p1 p2 zr
    exact StX.mk h5 h6 ⟨⟨rfl, rfl⟩, Nat.le_of_ble_eq_true rfl, Nat.le_of_ble_eq_true rfl⟩ ⟨⟨rfl, rfl⟩, Nat.le_of_ble_eq_true rfl, Nat.le_of_ble_eq_true rfl⟩ ⟨rc, rl, rh, fr, fw, fc, fg, ps, pg, pr, pd, qp, qt, qf, qo, ct, cand, lim, (nI c), was, sent, qfi, qsz, co, fa, ic, me, sw, cn, ab, go, cp, so, gr, re, db, (nI c), lim, qsz, sent, was, rfl, rfl, hRt, hRo, hCa, ⟨hW, hF, hC, hrv, hdu, hfr, hQ, rfl, rfl⟩, hPs, hs200, rfl, rfl, rfl, rfl⟩ wfR
theorem st_leaving {l : Launch} {D : va_G} {cI cZ : ClassId} {ad ad2 : Nat → Nat} {c k : Nat} {wc wr : va_W} (hst : l.stackTraces = false) (hc : c + 200 < 2 ^ 31) (h : REL cI cZ ad ad2 c k wc wr) : StG l D cI cZ ad ad2 c yX5_leaving cX5_leaving 1 yX6_leaving cX6_leaving 3 .int [] wc wr (fun _ => True) := by
  obtain ⟨rc, rl, rh, fr, fw, fc, fg, ps, pg, pr, pd, qp, qt, qf, qo, ct, cand, lim, now, was, sent, qfi, qsz, co, fa, ic, me, sw, cn, ab, go, cp, so, gr, re, db, rclk, rlim, rqd, rpk, rwas, rfl, rfl, hRt, hRo, hCa, hPR, hPs, hs200, e1, e2, e3, e4⟩ := h
  obtain ⟨hW, hF, hC, hrv, hdu, hfr, hQ, e5, e6⟩ := hPR
  have e1' := e1.symm
  have e2' := e2.symm
  have e5' := e5.symm
  subst e1'
  subst e2'
  subst e3
  subst e4
  subst e5'
  subst e6
  have h5 := c_X5_leaving l D cI cZ ad rc rl rh fr fw fc fg ps pg pr pd qp qt qf qo ct cand lim (nI c) was sent qfi qsz 
  have h6 := c_X6_leaving l D cI cZ ad2 co fa ic me sw cn ab go cp so gr re db (nI c) lim qsz sent was (nI k) 
  rw [(leaving_eq hF).2] at h6
  exact StG.mk h5 h6 (leaving_eq hF).1 ⟨⟨rfl, rfl⟩, Nat.le_of_ble_eq_true rfl, Nat.le_of_ble_eq_true rfl⟩ ⟨⟨rfl, rfl⟩, Nat.le_of_ble_eq_true rfl, Nat.le_of_ble_eq_true rfl⟩ ⟨rc, rl, rh, fr, fw, fc, fg, ps, pg, pr, pd, qp, qt, qf, qo, ct, cand, lim, (nI c), was, sent, qfi, qsz, co, fa, ic, me, sw, cn, ab, go, cp, so, gr, re, db, (nI c), lim, qsz, sent, was, rfl, rfl, hRt, hRo, hCa, ⟨hW, hF, hC, hrv, hdu, hfr, hQ, rfl, rfl⟩, hPs, hs200, rfl, rfl, rfl, rfl⟩ wfC wfR trivial
theorem st_queued {l : Launch} {D : va_G} {cI cZ : ClassId} {ad ad2 : Nat → Nat} {c k : Nat} {wc wr : va_W} (hst : l.stackTraces = false) (hc : c + 200 < 2 ^ 31) (h : REL cI cZ ad ad2 c k wc wr) : StG l D cI cZ ad ad2 c yX5_queued cX5_queued 1 yX6_queued cX6_queued 1 .int [] wc wr (fun _ => True) := by
  obtain ⟨rc, rl, rh, fr, fw, fc, fg, ps, pg, pr, pd, qp, qt, qf, qo, ct, cand, lim, now, was, sent, qfi, qsz, co, fa, ic, me, sw, cn, ab, go, cp, so, gr, re, db, rclk, rlim, rqd, rpk, rwas, rfl, rfl, hRt, hRo, hCa, hPR, hPs, hs200, e1, e2, e3, e4⟩ := h
  obtain ⟨hW, hF, hC, hrv, hdu, hfr, hQ, e5, e6⟩ := hPR
  have e1' := e1.symm
  have e2' := e2.symm
  have e5' := e5.symm
  subst e1'
  subst e2'
  subst e3
  subst e4
  subst e5'
  subst e6
  have h5 := c_X5_queued l D cI cZ ad rc rl rh fr fw fc fg ps pg pr pd qp qt qf qo ct cand lim (nI c) was sent qfi qsz hQ.2.1
  have h6 := c_X6_queued l D cI cZ ad2 co fa ic me sw cn ab go cp so gr re db (nI c) lim qsz sent was (nI k) hQ.2.1
  exact StG.mk h5 h6 rfl ⟨⟨rfl, rfl⟩, Nat.le_of_ble_eq_true rfl, Nat.le_of_ble_eq_true rfl⟩ ⟨⟨rfl, rfl⟩, Nat.le_of_ble_eq_true rfl, Nat.le_of_ble_eq_true rfl⟩ ⟨rc, rl, rh, fr, fw, fc, fg, ps, pg, pr, pd, qp, qt, qf, qo, ct, cand, lim, (nI c), was, sent, qfi, qsz, co, fa, ic, me, sw, cn, ab, go, cp, so, gr, re, db, (nI c), lim, qsz, sent, was, rfl, rfl, hRt, hRo, hCa, ⟨hW, hF, hC, hrv, hdu, hfr, hQ, rfl, rfl⟩, hPs, hs200, rfl, rfl, rfl, rfl⟩ wfC wfR trivial
theorem st_nextTo {l : Launch} {D : va_G} {cI cZ : ClassId} {ad ad2 : Nat → Nat} {c k : Nat} {wc wr : va_W} (hst : l.stackTraces = false) (hc : c + 200 < 2 ^ 31) (h : REL cI cZ ad ad2 c k wc wr) : StG l D cI cZ ad ad2 c yX5_nextTo cX5_nextTo 1 yX6_nextTo cX6_nextTo 1 .int [] wc wr (fun _ => True) := by
  obtain ⟨rc, rl, rh, fr, fw, fc, fg, ps, pg, pr, pd, qp, qt, qf, qo, ct, cand, lim, now, was, sent, qfi, qsz, co, fa, ic, me, sw, cn, ab, go, cp, so, gr, re, db, rclk, rlim, rqd, rpk, rwas, rfl, rfl, hRt, hRo, hCa, hPR, hPs, hs200, e1, e2, e3, e4⟩ := h
  obtain ⟨hW, hF, hC, hrv, hdu, hfr, hQ, e5, e6⟩ := hPR
  have e1' := e1.symm
  have e2' := e2.symm
  have e5' := e5.symm
  subst e1'
  subst e2'
  subst e3
  subst e4
  subst e5'
  subst e6
  have h5 := c_X5_nextTo l D cI cZ ad rc rl rh fr fw fc fg ps pg pr pd qp qt qf qo ct cand lim (nI c) was sent qfi qsz hQ.1 hQ.2.1
  have h6 := c_X6_nextTo l D cI cZ ad2 co fa ic me sw cn ab go cp so gr re db (nI c) lim qsz sent was (nI k) hQ.2.1
  rw [(next_eq hQ).2] at h6
  exact StG.mk h5 h6 (next_eq hQ).1 ⟨⟨rfl, rfl⟩, Nat.le_of_ble_eq_true rfl, Nat.le_of_ble_eq_true rfl⟩ ⟨⟨rfl, rfl⟩, Nat.le_of_ble_eq_true rfl, Nat.le_of_ble_eq_true rfl⟩ ⟨rc, rl, rh, fr, fw, fc, fg, ps, pg, pr, pd, qp, qt, qf, qo, ct, cand, lim, (nI c), was, sent, qfi, qsz, co, fa, ic, me, sw, cn, ab, go, cp, so, gr, re, db, (nI c), lim, qsz, sent, was, rfl, rfl, hRt, hRo, hCa, ⟨hW, hF, hC, hrv, hdu, hfr, hQ, rfl, rfl⟩, hPs, hs200, rfl, rfl, rfl, rfl⟩ wfC wfR trivial
theorem st_wasted {l : Launch} {D : va_G} {cI cZ : ClassId} {ad ad2 : Nat → Nat} {c k : Nat} {wc wr : va_W} (hst : l.stackTraces = false) (hc : c + 200 < 2 ^ 31) (h : REL cI cZ ad ad2 c k wc wr) : StG l D cI cZ ad ad2 c yX5_wasted cX5_wasted 1 yX6_wasted cX6_wasted 1 .int [] wc wr (fun _ => True) := by
  obtain ⟨rc, rl, rh, fr, fw, fc, fg, ps, pg, pr, pd, qp, qt, qf, qo, ct, cand, lim, now, was, sent, qfi, qsz, co, fa, ic, me, sw, cn, ab, go, cp, so, gr, re, db, rclk, rlim, rqd, rpk, rwas, rfl, rfl, hRt, hRo, hCa, hPR, hPs, hs200, e1, e2, e3, e4⟩ := h
  obtain ⟨hW, hF, hC, hrv, hdu, hfr, hQ, e5, e6⟩ := hPR
  have e1' := e1.symm
  have e2' := e2.symm
  have e5' := e5.symm
  subst e1'
  subst e2'
  subst e3
  subst e4
  subst e5'
  subst e6
  have h5 := c_X5_wasted l D cI cZ ad rc rl rh fr fw fc fg ps pg pr pd qp qt qf qo ct cand lim (nI c) was sent qfi qsz 
  have h6 := c_X6_wasted l D cI cZ ad2 co fa ic me sw cn ab go cp so gr re db (nI c) lim qsz sent was (nI k) 
  exact StG.mk h5 h6 rfl ⟨⟨rfl, rfl⟩, Nat.le_of_ble_eq_true rfl, Nat.le_of_ble_eq_true rfl⟩ ⟨⟨rfl, rfl⟩, Nat.le_of_ble_eq_true rfl, Nat.le_of_ble_eq_true rfl⟩ ⟨rc, rl, rh, fr, fw, fc, fg, ps, pg, pr, pd, qp, qt, qf, qo, ct, cand, lim, (nI c), was, sent, qfi, qsz, co, fa, ic, me, sw, cn, ab, go, cp, so, gr, re, db, (nI c), lim, qsz, sent, was, rfl, rfl, hRt, hRo, hCa, ⟨hW, hF, hC, hrv, hdu, hfr, hQ, rfl, rfl⟩, hPs, hs200, rfl, rfl, rfl, rfl⟩ wfC wfR trivial
theorem st_clock {l : Launch} {D : va_G} {cI cZ : ClassId} {ad ad2 : Nat → Nat} {c k : Nat} {wc wr : va_W} (hst : l.stackTraces = false) (hc : c + 200 < 2 ^ 31) (h : REL cI cZ ad ad2 c k wc wr) : StG l D cI cZ ad ad2 c yX5_clock cX5_clock 1 yX6_clock cX6_clock 1 .int [] wc wr (fun _ => True) := by
  obtain ⟨rc, rl, rh, fr, fw, fc, fg, ps, pg, pr, pd, qp, qt, qf, qo, ct, cand, lim, now, was, sent, qfi, qsz, co, fa, ic, me, sw, cn, ab, go, cp, so, gr, re, db, rclk, rlim, rqd, rpk, rwas, rfl, rfl, hRt, hRo, hCa, hPR, hPs, hs200, e1, e2, e3, e4⟩ := h
  obtain ⟨hW, hF, hC, hrv, hdu, hfr, hQ, e5, e6⟩ := hPR
  have e1' := e1.symm
  have e2' := e2.symm
  have e5' := e5.symm
  subst e1'
  subst e2'
  subst e3
  subst e4
  subst e5'
  subst e6
  have h5 := c_X5_clock l D cI cZ ad rc rl rh fr fw fc fg ps pg pr pd qp qt qf qo ct cand lim (nI c) was sent qfi qsz 
  have h6 := c_X6_clock l D cI cZ ad2 co fa ic me sw cn ab go cp so gr re db (nI c) lim qsz sent was (nI k) 
  exact StG.mk h5 h6 rfl ⟨⟨rfl, rfl⟩, Nat.le_of_ble_eq_true rfl, Nat.le_of_ble_eq_true rfl⟩ ⟨⟨rfl, rfl⟩, Nat.le_of_ble_eq_true rfl, Nat.le_of_ble_eq_true rfl⟩ ⟨rc, rl, rh, fr, fw, fc, fg, ps, pg, pr, pd, qp, qt, qf, qo, ct, cand, lim, (nI c), was, sent, qfi, qsz, co, fa, ic, me, sw, cn, ab, go, cp, so, gr, re, db, (nI c), lim, qsz, sent, was, rfl, rfl, hRt, hRo, hCa, ⟨hW, hF, hC, hrv, hdu, hfr, hQ, rfl, rfl⟩, hPs, hs200, rfl, rfl, rfl, rfl⟩ wfC wfR trivial
