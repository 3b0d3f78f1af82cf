/-! counting and getting a packet, alike -/
theorem isShared_tau {t : Nat} (ht : t < 44) : f_X5_isShared (tau t) = true ↔ t % 11 = 10 := by
  unfold f_X5_isShared tau
  by_cases c : t % 11 = 10
  · rw [if_pos c, if_neg (by omega)]; exact ⟨fun _ => c, fun _ => rfl⟩
  · rw [if_neg c, if_pos (by omega)]; exact ⟨fun q => absurd q (by decide), fun q => absurd q c⟩
theorem RCt_up {ct cn : Nat → Int32} (h : RCt ct cn) {m s g : Nat} (hm : m < 10) (hs : s < 10) (hg : g < 4) : RCt (upd ct ((((g * 10) + s) * 10) + m) ((ct ((((g * 10) + s) * 10) + m)) + (nI 1))) (upd cn (((40 * m) + (4 * s)) + g) ((cn (((40 * m) + (4 * s)) + g)) + (nI 1))) := fun m' s' g' hm' hs' hg' => by
  by_cases q : m' = m ∧ s' = s ∧ g' = g
  · obtain ⟨rfl, rfl, rfl⟩ := q
    rw [pk_us, pk_us, h m' s' g' hm hs hg]
  · rw [pk_un (by omega), pk_un (by
      intro z
      have : g' = g := by omega
      have : s' = s := by omega
      exact q ⟨by omega, by omega, by omega⟩)]
    exact h m' s' g' hm' hs' hg'
/-- the two states while packets go: what changes then -/
def PR (co fa ic me : Nat → Int32) (sent qfi : Nat) (fw fc fg pr pd qp qt qf qo ct : Nat → Int32) (was : Int32) (qsz : Nat) (sw cn ab go cp re db : Nat → Int32) (rqd : Nat) (rwas : Int32) : Prop :=
  RWa fw me sw ∧ RFo co fa ic fc fg ab go ∧ RCt ct cn ∧ (∀ e, e < 200 → pr e = re e) ∧ (∀ e, e < 200 → pd e = db e) ∧ (∀ e, sent ≤ e → e < 200 → pr e = nI 0) ∧ RQ sent qfi qsz qp qt qf qo cp ∧ rqd = qsz ∧ was = rwas
def PRo (co fa ic me : Nat → Int32) (sent qfi : Nat) (u : Bool × (Nat → Int32) × (Nat → Int32) × (Nat → Int32) × (Nat → Int32) × (Nat → Int32) × (Nat → Int32) × (Nat → Int32) × (Nat → Int32) × (Nat → Int32) × (Nat → Int32) × Int32 × Nat) (v : Bool × (Nat → Int32) × (Nat → Int32) × (Nat → Int32) × (Nat → Int32) × (Nat → Int32) × (Nat → Int32) × (Nat → Int32) × Nat × Int32) : Prop :=
  u.1 = v.1 ∧ PR co fa ic me sent qfi u.2.1 u.2.2.1 u.2.2.2.1 u.2.2.2.2.1 u.2.2.2.2.2.1 u.2.2.2.2.2.2.1 u.2.2.2.2.2.2.2.1 u.2.2.2.2.2.2.2.2.1 u.2.2.2.2.2.2.2.2.2.1 u.2.2.2.2.2.2.2.2.2.2.1 u.2.2.2.2.2.2.2.2.2.2.2.1 u.2.2.2.2.2.2.2.2.2.2.2.2 v.2.1 v.2.2.1 v.2.2.2.1 v.2.2.2.2.1 v.2.2.2.2.2.1 v.2.2.2.2.2.2.1 v.2.2.2.2.2.2.2.1 v.2.2.2.2.2.2.2.2.1 v.2.2.2.2.2.2.2.2.2
theorem counts_eq {fw me sw co fa ic ab go ct cn : Nat → Int32} {lim : Int32} (hW : RWa fw me sw) (hC : RCt ct cn) {r s g : Nat} (hr : r < 10) (hs : s < 10) (hg : g < 4) :
    ∃ b : Bool, f_X5_countSaysSwitch r s g fw ct lim = (b, upd ct ((((g * 10) + s) * 10) + r) ((ct ((((g * 10) + s) * 10) + r)) + (nI 1))) ∧
    f_X6_counts r s g co fa ic sw cn ab go lim = if b = true then (upd sw ((10 * g) + s) ((sw ((10 * g) + s)) ||| ((nI 1) <<< ((nI r) &&& 31))), upd cn (((40 * r) + (4 * s)) + g) ((cn (((40 * r) + (4 * s)) + g)) + (nI 1)), (f_X6_graft ((11 * g) + s) r co fa ic ab go).1, (f_X6_graft ((11 * g) + s) r co fa ic ab go).2) else (sw, upd cn (((40 * r) + (4 * s)) + g) ((cn (((40 * r) + (4 * s)) + g)) + (nI 1)), ab, go) := by
  unfold f_X5_countSaysSwitch f_X6_counts
  rw [pk_us, pk_us, hC r s g hr hs hg, has_bt _ hr, hW.2.1 g s hg hs]
  by_cases c1 : cn (40 * r + 4 * s + g) + nI 1 < lim
  · rw [if_pos c1, if_pos c1]; exact ⟨false, rfl, by rw [if_neg Bool.false_ne_true]⟩
  · rw [if_neg c1, if_neg c1]
    by_cases c2 : r = s
    · rw [if_pos c2, if_pos c2]; exact ⟨false, rfl, by rw [if_neg Bool.false_ne_true]⟩
    · rw [if_neg c2, if_neg c2]
      by_cases c3 : bt (sw (10 * g + s)) r = true
      · rw [if_pos c3, if_neg (fun z => (shr_0 _ hr).mp z c3)]; exact ⟨false, rfl, by rw [if_neg Bool.false_ne_true]⟩
      · rw [if_neg c3, if_pos ((shr_0 _ hr).mpr c3)]; exact ⟨true, rfl, by rw [if_pos rfl]⟩
theorem PRo_mk {co fa ic me : Nat → Int32} {sent qfi t r pk : Nat} (ht : t < 44) (hr : r < 10) (hpk : pk < sent) {b : Bool} {fw fc fg pr pd ct sw cn ab go re db qp qt qf qo cp : Nat → Int32} {was : Int32} {qsz : Nat}
    (hW : RWa fw me sw) (hF : RFo co fa ic fc fg ab go) (hC : RCt ct cn) (hrv : ∀ e, e < 200 → pr e = re e) (hdu : ∀ e, e < 200 → pd e = db e) (hfr : ∀ e, sent ≤ e → e < 200 → pr e = nI 0) (hQ : RQ sent qfi qsz qp qt qf qo cp) :
    PRo co fa ic me sent qfi (b, fw, fc, fg, pr, pd, (f_X5_goOn pk (tau t) r fc qp qt qf qo was qfi qsz).1, (f_X5_goOn pk (tau t) r fc qp qt qf qo was qfi qsz).2.1, (f_X5_goOn pk (tau t) r fc qp qt qf qo was qfi qsz).2.2.1, (f_X5_goOn pk (tau t) r fc qp qt qf qo was qfi qsz).2.2.2.1, ct, (f_X5_goOn pk (tau t) r fc qp qt qf qo was qfi qsz).2.2.2.2.1, (f_X5_goOn pk (tau t) r fc qp qt qf qo was qfi qsz).2.2.2.2.2)
      (b, sw, cn, ab, go, (f_X6_goesOn pk r t ab cp qsz was).1, re, db, (f_X6_goesOn pk r t ab cp qsz was).2.1, (f_X6_goesOn pk r t ab cp qsz was).2.2) := by
  obtain ⟨q1, q2, q3⟩ := goOn_eq (was := was) rfl (hF t ht).1 hpk ht hr hQ
  exact ⟨rfl, hW, hF, hC, hrv, hdu, hfr, q1, q2, q3⟩
theorem upd_same2 {x y : Nat → Int32} (h : ∀ e, e < 200 → x e = y e) {k : Nat} {v w : Int32} (hv : v = w) : ∀ e, e < 200 → upd x k v e = upd y k w e := fun e he => by
  by_cases q : e = k
  · rw [q, pk_us, pk_us, hv]
  · rw [pk_un q, pk_un q]; exact h e he
theorem upd_none {x y : Nat → Int32} (h : ∀ e, e < 200 → x e = y e) {k : Nat} : ∀ e, e < 200 → x e = upd y k (y k + nI 0) e := fun e he => by
  rw [nI_0, Int32.add_zero, upd_same rfl]; exact h e he
/-- a router gets a packet -/
theorem gets_eq {rc rl rh fr co fa ic me : Nat → Int32} (hRt : RRt rc rl rh co fa) (hRo : RRo fr ic) {sent qfi : Nat} {fw fc fg pr pd qp qt qf qo ct : Nat → Int32} {was lim : Int32} {qsz : Nat} {sw cn ab go cp re db : Nat → Int32}
    (h : PR co fa ic me sent qfi fw fc fg pr pd qp qt qf qo ct was qsz sw cn ab go cp re db qsz was) {pk t r g s : Nat} (hpk : pk < sent) (hpk2 : pk < 200) (ht : t < 44) (hr : r < 10) (hg : g < 4) (hs : s < 10) :
    PRo co fa ic me sent qfi (f_X5_getPacket pk (tau t) r g s rh fr fw fc fg pr pd qp qt qf qo ct lim was qfi qsz) (f_X6_gets pk r t g s co fa ic me sw cn ab go cp re db lim qsz was) := by
  obtain ⟨hW, hF, hC, hrv, hdu, hfr, hQ, _, _⟩ := h
  have hfr2 : ∀ e, sent ≤ e → e < 200 → upd pr pk ((pr pk) ||| ((nI 1) <<< ((nI r) &&& 31))) e = nI 0 := fun e h1 h2 => by rw [pk_un (by omega)]; exact hfr e h1 h2
  unfold f_X5_getPacket f_X6_gets
  rw [has_bt (pr pk) hr, ← hrv pk hpk2, member_eq hW hr hg]
  by_cases c1 : f_X6_isMember r g me = true
  · rw [if_pos c1, if_pos c1, if_pos c1]
    by_cases c2 : bt (pr pk) r = true
    · rw [if_pos c2, if_neg (fun z => (shr_0 _ hr).mp z c2)]
      exact PRo_mk ht hr hpk hW hF hC hrv (upd_same2 hdu (by rw [hdu pk hpk2])) hfr hQ
    · rw [if_neg c2, if_pos ((shr_0 _ hr).mpr c2)]
      by_cases c3 : t % 11 = 10
      · rw [if_pos ((isShared_tau ht).mpr c3), if_pos c3]
        obtain ⟨b, e1, e2⟩ := counts_eq (co := co) (fa := fa) (ic := ic) (ab := ab) (go := go) (lim := lim) hW hC hr hs hg
        rw [e1, e2]
        cases b
        · rw [if_neg Bool.false_ne_true, if_neg Bool.false_ne_true]
          exact PRo_mk ht hr hpk hW hF (RCt_up hC hr hs hg) (upd_same2 hrv rfl) (upd_none hdu) hfr2 hQ
        · rw [if_pos rfl, if_pos rfl]
          have hW2 : RWa (upd fw ((4 + (g * 10)) + s) ((fw ((4 + (g * 10)) + s)) ||| ((nI 1) <<< ((nI r) &&& 31)))) me (upd sw ((10 * g) + s) ((sw ((10 * g) + s)) ||| ((nI 1) <<< ((nI r) &&& 31)))) := by
            rw [← hW.2.1 g s hg hs]
            exact RWa_sr hW hg hs (B10_or (hW.2.2 _ (by omega)) hr)
          have hF2 := RFo_graft hRt hRo hF (t := 11 * g + s) (by omega) hr
          rw [tau_src hs] at hF2
          exact PRo_mk ht hr hpk hW2 hF2 (RCt_up hC hr hs hg) (upd_same2 hrv rfl) (upd_none hdu) hfr2 hQ
      · rw [if_neg (fun z => c3 ((isShared_tau ht).mp z)), if_neg c3]
        exact PRo_mk ht hr hpk hW hF hC (upd_same2 hrv rfl) (upd_none hdu) hfr2 hQ
  · rw [if_neg c1, if_neg c1, if_neg c1]
    split
    · exact PRo_mk ht hr hpk hW hF hC hrv (upd_none hdu) hfr hQ
    · exact PRo_mk ht hr hpk hW hF hC hrv (upd_none hdu) hfr hQ
