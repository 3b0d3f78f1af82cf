/-! a packet is sent, a copy is followed, alike -/
def RPs (sent : Nat) (ps pg so gr : Nat → Int32) : Prop := ∀ e, e < sent → ∃ g s, g < 4 ∧ s < 10 ∧ pg e = nI g ∧ ps e = nI s ∧ gr e = nI g ∧ so e = nI s
theorem RPs_new {sent : Nat} {ps pg so gr : Nat → Int32} (h : RPs sent ps pg so gr) {g s : Nat} (hg : g < 4) (hs : s < 10) : RPs (sent + 1) (upd ps sent (nI s)) (upd pg sent (nI g)) (upd so sent (nI s)) (upd gr sent (nI g)) := fun e he => by
  by_cases q : e = sent
  · subst q; exact ⟨g, s, hg, hs, pk_us, pk_us, pk_us, pk_us⟩
  · rw [pk_un q, pk_un q, pk_un q, pk_un q]; exact h e (by omega)
def SOo (co fa ic me : Nat → Int32) (sent qfi : Nat) (u : Int32 × (Nat → Int32) × (Nat → Int32) × (Nat → Int32) × (Nat → Int32) × (Nat → Int32) × (Nat → Int32) × (Nat → Int32) × (Nat → Int32) × (Nat → Int32) × (Nat → Int32) × (Nat → Int32) × (Nat → Int32) × Int32 × Nat × Nat) (v : Int32 × (Nat → Int32) × (Nat → Int32) × (Nat → Int32) × (Nat → Int32) × (Nat → Int32) × (Nat → Int32) × (Nat → Int32) × (Nat → Int32) × (Nat → Int32) × Nat × Nat × Int32 × Int32) : Prop :=
  u.1 = v.1 ∧ PR co fa ic me sent qfi u.2.1 u.2.2.1 u.2.2.2.1 u.2.2.2.2.2.2.1 u.2.2.2.2.2.2.2.1 u.2.2.2.2.2.2.2.2.1 u.2.2.2.2.2.2.2.2.2.1 u.2.2.2.2.2.2.2.2.2.2.1 u.2.2.2.2.2.2.2.2.2.2.2.1 u.2.2.2.2.2.2.2.2.2.2.2.2.1 u.2.2.2.2.2.2.2.2.2.2.2.2.2.1 u.2.2.2.2.2.2.2.2.2.2.2.2.2.2.2 v.2.1 v.2.2.1 v.2.2.2.1 v.2.2.2.2.1 v.2.2.2.2.2.1 v.2.2.2.2.2.2.2.2.1 v.2.2.2.2.2.2.2.2.2.1 v.2.2.2.2.2.2.2.2.2.2.1 v.2.2.2.2.2.2.2.2.2.2.2.2.1 ∧
  RPs sent u.2.2.2.2.1 u.2.2.2.2.2.1 v.2.2.2.2.2.2.1 v.2.2.2.2.2.2.2.1 ∧ u.2.2.2.2.2.2.2.2.2.2.2.2.2.2.1 = sent ∧ v.2.2.2.2.2.2.2.2.2.2.2.1 = sent ∧ v.2.2.2.2.2.2.2.2.2.2.2.2.2 = nI 0
def FOo (co fa ic me : Nat → Int32) (sent : Nat) (u : Int32 × (Nat → Int32) × (Nat → Int32) × (Nat → Int32) × (Nat → Int32) × (Nat → Int32) × (Nat → Int32) × (Nat → Int32) × (Nat → Int32) × (Nat → Int32) × (Nat → Int32) × Int32 × Nat × Nat) (v : Int32 × (Nat → Int32) × (Nat → Int32) × (Nat → Int32) × (Nat → Int32) × (Nat → Int32) × (Nat → Int32) × (Nat → Int32) × Nat × Int32) : Prop :=
  u.1 = v.1 ∧ PR co fa ic me sent u.2.2.2.2.2.2.2.2.2.2.2.2.1 u.2.1 u.2.2.1 u.2.2.2.1 u.2.2.2.2.1 u.2.2.2.2.2.1 u.2.2.2.2.2.2.1 u.2.2.2.2.2.2.2.1 u.2.2.2.2.2.2.2.2.1 u.2.2.2.2.2.2.2.2.2.1 u.2.2.2.2.2.2.2.2.2.2.1 u.2.2.2.2.2.2.2.2.2.2.2.1 u.2.2.2.2.2.2.2.2.2.2.2.2.2 v.2.1 v.2.2.1 v.2.2.2.1 v.2.2.2.2.1 v.2.2.2.2.2.1 v.2.2.2.2.2.2.1 v.2.2.2.2.2.2.2.1 v.2.2.2.2.2.2.2.2.1 v.2.2.2.2.2.2.2.2.2
theorem RQ_more {sent qfi qsz : Nat} {qp qt qf qo cp : Nat → Int32} (h : RQ sent qfi qsz qp qt qf qo cp) : RQ (sent + 1) qfi qsz qp qt qf qo cp := ⟨h.1, h.2.1, fun j hj => by
  obtain ⟨pk, t, f, o, a1, a2⟩ := h.2.2 j hj
  exact ⟨pk, t, f, o, by omega, a2⟩⟩
theorem distr_iff {rl fa co : Nat → Int32} (h : EQ 100 rl fa) (hF : FarOK co fa) {s o : Nat} (hs : s < 10) (ho : o < 10) : f_X4_distanceOf_r s (nI o) rl = -1 ↔ nI 1000000 ≤ fa (10 * s + o) := by
  unfold f_X4_distanceOf_r
  rw [if_pos (pair_nI ho), nI_add, nI_clamp (by omega), Nat.mul_comm s 10, h _ (by omega)]
  by_cases c : nI 1000000 ≤ fa (10 * s + o)
  · rw [if_pos c]; exact ⟨fun _ => c, fun _ => rfl⟩
  · rw [if_neg c]; exact ⟨fun q => absurd q (hF.far (by omega)).2, fun q => absurd q c⟩
theorem dist_m1 {rl : Nat → Int32} {s : Nat} : f_X4_distanceOf_r s (-1) rl = -1 := by
  unfold f_X4_distanceOf_r
  rw [if_neg (by rw [pair_m1]; decide)]
theorem fr_g {fr ic : Nat → Int32} (h : RRo fr ic) {g : Nat} (hg : g < 4) : fr g = f_X6_meets g ic := by
  have h1 := h (11 * g + 10) (by omega)
  rw [tau_shr] at h1
  rw [h1]
  unfold f_X6_root
  rw [if_pos (by omega), show (11 * g + 10) / 11 = g by omega]
theorem mem_and {x : Int32} {s : Nat} (hs : s < 10) (h : bt x s = true) : x &&& ((nI 1) <<< ((nI s) &&& 31)) = (nI 1) <<< ((nI s) &&& 31) := b_ext fun i hi => by
  rw [b_and, bt_one (by omega) hi]
  by_cases q : i = s
  · subst q; rw [h]; rfl
  · rw [decide_eq_false q, Bool.and_false]
theorem zero_or (x : Int32) : nI 0 ||| x = x := by rw [Int32.or_comm, or_0]
/-- the receivers of the new packet -/
theorem new_rv {fw me sw pr re : Nat → Int32} {sent : Nat} (hW : RWa fw me sw) (hrv : ∀ e, e < 200 → pr e = re e) (hfr : ∀ e, sent ≤ e → e < 200 → pr e = nI 0) {s g : Nat} (hs : s < 10) (hg : g < 4) (hn : sent < 200) :
    (f_X5_has (fw g) s = true → ∀ e, e < 200 → upd pr sent ((pr sent) ||| ((nI 1) <<< ((nI s) &&& 31))) e = upd re sent ((me g) &&& ((nI 1) <<< ((nI s) &&& 31))) e) ∧
    (¬ f_X5_has (fw g) s = true → ∀ e, e < 200 → pr e = upd re sent ((me g) &&& ((nI 1) <<< ((nI s) &&& 31))) e) := by
  have h0 := hfr sent (Nat.le_refl _) hn
  rw [has_bt _ hs, hW.1 g hg]
  refine ⟨fun c => upd_same2 hrv ?_, fun c e he => ?_⟩
  · rw [h0, zero_or, mem_and hs c]
  · by_cases q : e = sent
    · subst q
      rw [pk_us, h0, (and_one _ (by omega)).mpr (Bool.eq_false_iff.mpr c)]; rfl
    · rw [pk_un q]; exact hrv e he
theorem send_far {co fa ic me : Nat → Int32} {sent qfi : Nat} {fw fc fg pr pd qp qt qf qo ct ps pg : Nat → Int32} {was : Int32} {qsz : Nat} {sw cn ab go cp re db so gr : Nat → Int32}
    (h : PR co fa ic me (sent + 1) qfi fw fc fg pr pd qp qt qf qo ct was qsz sw cn ab go cp re db qsz was) (hp : RPs sent ps pg so gr) {g s : Nat} (hg : g < 4) (hs : s < 10) :
    SOo co fa ic me (sent + 1) qfi (nI sent, fw, fc, fg, upd ps sent (nI s), upd pg sent (nI g), pr, pd, (f_X5_goOn sent ((4 + (g * 10)) + s) s fc qp qt qf qo was qfi qsz).1, (f_X5_goOn sent ((4 + (g * 10)) + s) s fc qp qt qf qo was qfi qsz).2.1, (f_X5_goOn sent ((4 + (g * 10)) + s) s fc qp qt qf qo was qfi qsz).2.2.1, (f_X5_goOn sent ((4 + (g * 10)) + s) s fc qp qt qf qo was qfi qsz).2.2.2.1, ct, (f_X5_goOn sent ((4 + (g * 10)) + s) s fc qp qt qf qo was qfi qsz).2.2.2.2.1, sent + 1, (f_X5_goOn sent ((4 + (g * 10)) + s) s fc qp qt qf qo was qfi qsz).2.2.2.2.2)
      (nI sent, sw, cn, ab, go, (f_X6_goesOn sent s ((11 * g) + s) ab cp qsz was).1, upd so sent (nI s), upd gr sent (nI g), re, db, (f_X6_goesOn sent s ((11 * g) + s) ab cp qsz was).2.1, sent + 1, (f_X6_goesOn sent s ((11 * g) + s) ab cp qsz was).2.2, nI 0) := by
  obtain ⟨hW, hF, hC, hrv, hdu, hfr, hQ, _, _⟩ := h
  have hR := (hF (11 * g + s) (by omega)).1
  rw [tau_src hs] at hR
  obtain ⟨q1, q2, q3⟩ := goOn_eq (was := was) (tau_src hs).symm hR (Nat.lt_succ_self sent) (by omega) hs hQ
  exact ⟨rfl, ⟨hW, hF, hC, hrv, hdu, hfr, q1, q2, q3⟩, RPs_new hp hg hs, rfl, rfl, rfl⟩
/-- a packet is sent -/
theorem send_eq {rc rl rh fr co fa ic me : Nat → Int32} (hRt : RRt rc rl rh co fa) (hRo : RRo fr ic) {sent qfi : Nat} {fw fc fg pr pd qp qt qf qo ct ps pg : Nat → Int32} {was lim : Int32} {qsz : Nat} {sw cn ab go cp re db so gr : Nat → Int32}
    (h : PR co fa ic me sent qfi fw fc fg pr pd qp qt qf qo ct was qsz sw cn ab go cp re db qsz was) (hp : RPs sent ps pg so gr) (hn : sent < 200) {g s : Nat} (hg : g < 4) (hs : s < 10) :
    SOo co fa ic me (sent + 1) qfi (f_X5_send s g rl rh fr fw fc fg ps pg pr pd qp qt qf qo ct lim was sent qfi qsz) (f_X6_send s g co fa ic me sw cn ab go cp so gr re db lim qsz sent was) := by
  obtain ⟨hW, hF, hC, hrv, hdu, hfr, hQ, _, _⟩ := h
  obtain ⟨n1, n2⟩ := new_rv hW hrv hfr hs hg hn
  have hfr2 : ∀ e, sent + 1 ≤ e → e < 200 → upd pr sent ((pr sent) ||| ((nI 1) <<< ((nI s) &&& 31))) e = nI 0 := fun e h1 h2 => by rw [pk_un (by omega)]; exact hfr e (by omega) h2
  have hfr3 : ∀ e, sent + 1 ≤ e → e < 200 → pr e = nI 0 := fun e h1 h2 => hfr e (by omega) h2
  have hfar : f_X4_distanceOf_r s (fr g) rl = -1 ↔ (f_X6_meets g ic = -1 ∨ nI 1000000 ≤ fa (10 * s + (f_X6_meets g ic).toNatClampNeg)) := by
    rw [fr_g hRo hg]
    rcases meets_ok g ic with c | ⟨c, c2⟩
    · rw [c, dist_m1]; exact ⟨fun _ => Or.inl rfl, fun _ => rfl⟩
    · have h1 := distr_iff (s := s) hRt.2.1 hRt.2.2.2.1 hs c2
      rw [← c] at h1
      rw [h1]
      exact ⟨Or.inr, fun q => q.elim (fun z => absurd z (by rw [c]; exact nI_neg1 (by omega))) id⟩
  have key : ∀ (pr2 : Nat → Int32), (∀ e, e < 200 → pr2 e = upd re sent ((me g) &&& ((nI 1) <<< ((nI s) &&& 31))) e) → (∀ e, sent + 1 ≤ e → e < 200 → pr2 e = nI 0) →
      PR co fa ic me (sent + 1) qfi fw fc fg pr2 pd qp qt qf qo ct was qsz sw cn ab go cp (upd re sent ((me g) &&& ((nI 1) <<< ((nI s) &&& 31)))) db qsz was := fun pr2 k1 k2 => ⟨hW, hF, hC, k1, hdu, k2, RQ_more hQ, rfl, rfl⟩
  have near : ∀ (pr2 : Nat → Int32), ¬ f_X6_meets g ic = -1 → PR co fa ic me (sent + 1) qfi fw fc fg pr2 pd qp qt qf qo ct was qsz sw cn ab go cp (upd re sent ((me g) &&& ((nI 1) <<< ((nI s) &&& 31)))) db qsz was →
      PRo co fa ic me (sent + 1) qfi (f_X5_getPacket sent g ((fr g).toNatClampNeg) g s rh fr fw fc fg pr2 pd qp qt qf qo ct lim was qfi qsz) (f_X6_gets sent ((f_X6_meets g ic).toNatClampNeg) ((11 * g) + 10) g s co fa ic me sw cn ab go cp (upd re sent ((me g) &&& ((nI 1) <<< ((nI s) &&& 31)))) db lim qsz was) := fun pr2 hm k => by
    have h1 := gets_eq (lim := lim) hRt hRo k (pk := sent) (t := 11 * g + 10) (r := (fr g).toNatClampNeg) (g := g) (s := s) (by omega) hn (by omega) (by rw [fr_g hRo hg]; exact ((meets_ok g ic).resolve_left hm).2) hg hs
    rw [tau_shr, fr_g hRo hg] at h1
    rw [fr_g hRo hg]
    exact h1
  have fin : ∀ (u : Bool × (Nat → Int32) × (Nat → Int32) × (Nat → Int32) × (Nat → Int32) × (Nat → Int32) × (Nat → Int32) × (Nat → Int32) × (Nat → Int32) × (Nat → Int32) × (Nat → Int32) × Int32 × Nat) (v : Bool × (Nat → Int32) × (Nat → Int32) × (Nat → Int32) × (Nat → Int32) × (Nat → Int32) × (Nat → Int32) × (Nat → Int32) × Nat × Int32), PRo co fa ic me (sent + 1) qfi u v →
      v.2.2.2.2.2.2.2.2.1 = u.2.2.2.2.2.2.2.2.2.2.2.2 ∧ v.2.2.2.2.2.2.2.2.2 = u.2.2.2.2.2.2.2.2.2.2.2.1 ∧ PR co fa ic me (sent + 1) qfi u.2.1 u.2.2.1 u.2.2.2.1 u.2.2.2.2.1 u.2.2.2.2.2.1 u.2.2.2.2.2.2.1 u.2.2.2.2.2.2.2.1 u.2.2.2.2.2.2.2.2.1 u.2.2.2.2.2.2.2.2.2.1 u.2.2.2.2.2.2.2.2.2.2.1 u.2.2.2.2.2.2.2.2.2.2.2.1 u.2.2.2.2.2.2.2.2.2.2.2.2 v.2.1 v.2.2.1 v.2.2.2.1 v.2.2.2.2.1 v.2.2.2.2.2.1 v.2.2.2.2.2.2.1 v.2.2.2.2.2.2.2.1 u.2.2.2.2.2.2.2.2.2.2.2.2 u.2.2.2.2.2.2.2.2.2.2.2.1 := fun u v ⟨_, p1, p2, p3, p4, p5, p6, p7, p8, p9⟩ => ⟨p8, p9.symm, p1, p2, p3, p4, p5, p6, p7, rfl, rfl⟩
  unfold f_X5_send f_X6_send
  by_cases c1 : f_X5_has (fw g) s = true
  · rw [if_pos c1]
    have k := key _ (n1 c1) hfr2
    by_cases c2 : f_X4_distanceOf_r s (fr g) rl = -1
    · rw [if_pos c2]
      by_cases c3 : f_X6_meets g ic = -1
      · rw [if_pos c3]; exact send_far k hp hg hs
      · rw [if_neg c3, if_pos ((hfar.mp c2).resolve_left c3)]; exact send_far k hp hg hs
    · rw [if_neg c2, if_neg (fun z => c2 (hfar.mpr (Or.inl z))), if_neg (fun z => c2 (hfar.mpr (Or.inr z)))]
      obtain ⟨f1, f2, f3⟩ := fin _ _ (near _ (fun z => c2 (hfar.mpr (Or.inl z))) k)
      rw [f1, f2]
      exact send_far f3 hp hg hs
  · rw [if_neg c1]
    have k := key _ (n2 c1) hfr3
    by_cases c2 : f_X4_distanceOf_r s (fr g) rl = -1
    · rw [if_pos c2]
      by_cases c3 : f_X6_meets g ic = -1
      · rw [if_pos c3]; exact send_far k hp hg hs
      · rw [if_neg c3, if_pos ((hfar.mp c2).resolve_left c3)]; exact send_far k hp hg hs
    · rw [if_neg c2, if_neg (fun z => c2 (hfar.mpr (Or.inl z))), if_neg (fun z => c2 (hfar.mpr (Or.inr z)))]
      obtain ⟨f1, f2, f3⟩ := fin _ _ (near _ (fun z => c2 (hfar.mpr (Or.inl z))) k)
      rw [f1, f2]
      exact send_far f3 hp hg hs
/-- a copy is followed -/
theorem follow_eq {rc rl rh fr co fa ic me : Nat → Int32} (hRt : RRt rc rl rh co fa) (hRo : RRo fr ic) {sent qfi : Nat} {fw fc fg pr pd qp qt qf qo ct : Nat → Int32} {was lim : Int32} {qsz : Nat} {sw cn ab go cp re db : Nat → Int32}
    (h : PR co fa ic me sent qfi fw fc fg pr pd qp qt qf qo ct was qsz sw cn ab go cp re db qsz was) (hn : sent ≤ 200) (hq : 1 ≤ qsz) {pk t f o g s : Nat} (hpk : pk < sent) (ht : t < 44) (hf : f < 10) (ho : o < 10) (hg : g < 4) (hs : s < 10) :
    FOo co fa ic me sent (f_X5_follow_n pk (tau t) f o g s rc rh fr fw fc fg pr pd qp qt qf qo ct lim was qfi qsz) (f_X6_follows_n pk t f o g s co fa ic me sw cn ab go cp re db lim qsz was) := by
  obtain ⟨hW, hF, hC, hrv, hdu, hfr, hQ, _, _⟩ := h
  have hQ2 := RQ_rest hQ hq
  have hst : PR co fa ic me sent ((qfi + 1) % 200) fw fc fg pr pd qp qt qf qo ct was (qsz - 1) sw cn ab go (f_X6_follows_n_L51 qsz (4 * (qsz - 1)) 0 cp) re db (qsz - 1) was := ⟨hW, hF, hC, hrv, hdu, hfr, hQ2, rfl, rfl⟩
  have e1 : rc ((f * 10) + o) = co ((10 * f) + o) := by rw [Nat.mul_comm]; exact hRt.1 _ (by omega)
  have hz : co ((10 * f) + o) ≤ 0 ↔ co ((10 * f) + o) = 0 := by
    obtain ⟨c, hc, e⟩ := hRt.2.2.1.1 (10 * f + o) (by omega)
    rw [e, nI_le0 (by omega)]
    exact ⟨fun q => by rw [q]; rfl, fun q => (nI_eq (a := c) (b := 0) (by omega) (by omega)).mp q⟩
  have e3 := hRo t ht
  unfold f_X5_follow_n f_X6_follows_n
  rw [e1, e3]
  by_cases c1 : co ((10 * f) + o) = 0
  · rw [if_pos c1, if_pos (hz.mpr c1)]
    exact ⟨rfl, hW, hF, hC, hrv, hdu, hfr, hQ2, rfl, rfl⟩
  · rw [if_neg c1, if_neg (fun z => c1 (hz.mp z))]
    rcases root_ok t ic with c2 | ⟨c2, c3⟩
    · rw [c2, hopOf_m1, if_pos rfl, if_neg (nI_m1 (by omega))]
      exact ⟨rfl, hW, hF, hC, hrv, hdu, hfr, hQ2, rfl, rfl⟩
    · have e4 : f_X4_hopOf_r o (f_X6_root t ic) rh = f_X6_hop o (f_X6_root t ic).toNatClampNeg co fa := by
        have h1 := hopOf_nI (rh := rh) ho c3
        rw [← c2] at h1
        rw [h1]
        exact hRt.2.2.2.2 o _ ho c3
      rw [e4, if_neg (show ¬ f_X6_root t ic = -1 by rw [c2]; exact nI_neg1 (by omega))]
      by_cases c4 : f_X6_hop o (f_X6_root t ic).toNatClampNeg co fa = nI f
      · rw [if_pos c4, if_pos c4]
        obtain ⟨g1, g2⟩ := gets_eq (lim := lim) hRt hRo hst (pk := pk) (t := t) (r := o) (g := g) (s := s) hpk (by omega) ht ho hg hs
        rw [g1]
        split
        · exact ⟨rfl, g2⟩
        · exact ⟨rfl, g2⟩
      · rw [if_neg c4, if_neg c4]
        exact ⟨rfl, hW, hF, hC, hrv, hdu, hfr, hQ2, rfl, rfl⟩
