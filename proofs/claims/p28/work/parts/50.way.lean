/-! a packet's way from its sending to its end -/
def V0 (T2 s : Nat) : Nat → Nat → Bool := fun T i => decide (T = T2) && decide (i = s)
theorem V0_self {T2 s : Nat} : V0 T2 s T2 s = true := by unfold V0; rw [decide_eq_true rfl, decide_eq_true rfl]; rfl
theorem V0_inv {T2 s T i : Nat} (h : V0 T2 s T i = true) : T = T2 ∧ i = s := by
  unfold V0 at h
  rw [Bool.and_eq_true, decide_eq_true_iff, decide_eq_true_iff] at h
  exact h
theorem V0_off {T2 s T i : Nat} (h : ¬ T = T2) : V0 T2 s T i = false := by
  unfold V0
  rw [decide_eq_false h, Bool.false_and]
theorem cn_false : cn (fun _ => false) = 0 := by decide
theorem SI_0 {fr : Nat → Int32} {g s pk : Nat} (hg : g < 4) (hs : s < 10) {mt : Bool} {fw fc pr pd : Nat → Int32} {was : Int32} {ex : List (Nat × Nat)} {P : Nat → Nat → Bool} (hrs : fr (4 + g * 10 + s) = nI s) (hpr : pr pk = nI 0) (hpd : pd pk = nI 0)
    (hc : (ex = [] ∧ P = V0 (4 + g * 10 + s) s) ∨ ∃ o, mt = true ∧ o < 10 ∧ fr g = nI o ∧ ex = [(g, o)] ∧ P = addK (V0 (4 + g * 10 + s) s) g (fun i => decide (i = o))) :
    SI fr g s pk (fw (4 + g * 10 + s)) fc was false mt ex (V0 (4 + g * 10 + s) s) P [] fw fc (gPr (f_X5_has (fw g) s) pk s pr) pd was := by
  have hne : ¬ g = 4 + g * 10 + s := by omega
  have hPV : ∀ T i, V0 (4 + g * 10 + s) s T i = true → P T i = true := fun T i h => by
    rcases hc with ⟨_, rfl⟩ | ⟨o, _, _, _, _, rfl⟩
    · exact h
    · exact addK_mono h
  refine ⟨fun y hy => absurd hy List.not_mem_nil, ?_, fun T r _ hv => hPV T r hv, fun T r hT hr hp => Or.inl ?_, fun T r k _ hd _ _ hv _ => ?_, fun T r hT hr hp => ?_, fun i hi => ?_, ⟨0, hpd, ?_⟩, rfl, ?_, fun i _ h => h, fun _ i _ => rfl, fun e => ⟨fun r _ => ?_, rfl⟩, fun _ e => absurd e Bool.false_ne_true, fun q hq => ?_, V0_self⟩
  · rcases hc with ⟨rfl, _⟩ | ⟨o, _, _, _, rfl, _⟩
    · exact List.nodup_nil
    · exact List.nodup_cons.mpr ⟨List.not_mem_nil, List.nodup_nil⟩
  · rcases hc with ⟨_, rfl⟩ | ⟨o, _, _, h3, _, rfl⟩
    · obtain ⟨rfl, rfl⟩ := V0_inv hp; exact hrs
    · rcases addK_inv hp with z | ⟨z1, z2⟩
      · obtain ⟨rfl, rfl⟩ := V0_inv z; exact hrs
      · rw [z1, of_decide_eq_true z2]; exact h3
  · rcases hd with q | q
    · cases q
    · exact absurd (V0_inv hv) q
  · rcases hc with ⟨_, rfl⟩ | ⟨o, _, _, _, rfl, rfl⟩
    · exact Or.inl hp
    · rcases addK_inv hp with z | ⟨z1, z2⟩
      · exact Or.inl z
      · refine Or.inr (Or.inl ?_)
        rw [z1, of_decide_eq_true z2]; exact List.mem_cons_self
  · rw [V0_off hne, Bool.false_or, has_bt _ hs]
    have hv : V0 (4 + g * 10 + s) s (4 + g * 10 + s) i = decide (i = s) := by unfold V0; rw [decide_eq_true rfl, Bool.true_and]
    rw [hv]
    unfold gPr
    cases m : bt (fw g) s
    · rw [if_neg Bool.false_ne_true, hpr, show nI 0 = (0 : Int32) from rfl, b_0]
      by_cases e : i = s
      · subst e; rw [m]; simp
      · rw [decide_eq_false e]; simp
    · rw [if_pos rfl, pk_us, hpr, b_or, show nI 0 = (0 : Int32) from rfl, b_0, bt_one (by omega) hi, Bool.false_or]
      by_cases e : i = s
      · subst e; rw [m, decide_eq_true rfl, decide_eq_true hs]; rfl
      · rw [decide_eq_false e]; simp
  · rw [cn_congr (f := fun i => bt (fw g) i && (V0 (4 + g * 10 + s) s g i || V0 (4 + g * 10 + s) s (4 + g * 10 + s) i)) (g := fun i => bt (fw g) i && V0 (4 + g * 10 + s) s (4 + g * 10 + s) i) (fun i _ => by show (bt (fw g) i && (V0 (4 + g * 10 + s) s g i || _)) = _; rw [V0_off hne, Bool.false_or]),
      cn_congr (f := fun i => bt (fw g) i && V0 (4 + g * 10 + s) s g i) (g := fun _ => false) (fun i _ => by show (bt (fw g) i && V0 (4 + g * 10 + s) s g i) = false; rw [V0_off hne, Bool.and_false]), cn_false]
  · rcases hc with ⟨rfl, rfl⟩ | ⟨o, _, h2, _, rfl, rfl⟩
    · rw [List.length_nil, List.length_nil]; omega
    · have e1 : cn (addK (V0 (4 + g * 10 + s) s) g (fun i => decide (i = o)) g) = cn (V0 (4 + g * 10 + s) s g) + 1 := cn_put h2 (V0_off hne) (fun i _ => by unfold addK; rw [decide_eq_true rfl, Bool.true_and])
      have e2 : cn (addK (V0 (4 + g * 10 + s) s) g (fun i => decide (i = o)) (4 + g * 10 + s)) = cn (V0 (4 + g * 10 + s) s (4 + g * 10 + s)) := cn_congr (fun i _ => addK_off (fun z => hne z.symm))
      rw [e1, e2, List.length_singleton, List.length_nil]; omega
  · rcases hc with ⟨_, rfl⟩ | ⟨o, h1, _⟩
    · exact V0_off hne
    · rw [e] at h1; cases h1
  · rcases hc with ⟨rfl, _⟩ | ⟨o, _, h2, _, rfl, rfl⟩
    · exact absurd hq List.not_mem_nil
    · rw [List.mem_singleton] at hq
      subst hq
      exact ⟨Or.inl rfl, h2, addK_self (decide_eq_true rfl), V0_off hne⟩
/-- behind the sending, with no copy waiting before -/
theorem sent_SI {rc rl rh fr M : Nat → Int32} {C D : Nat → Nat → Nat} (hR : Rt rc rl rh C D) (hro : RoOk fr) {t s g : Nat} (hrs : fr (4 + g * 10 + s) = nI s) {fw fc fg ps pg pr pd qp qt qf qo ct : Nat → Int32} {lim was : Int32} {sent qfi qsz : Nat} (h : PI rh D fr M t ps pg sent fw fc fg pr pd qp qt qf qo qfi qsz) (hq0 : qsz = 0) (hs : s < 10) (hg : g < 4) :
    ∃ (V P : Nat → Nat → Bool) (l : List Cp) (mt : Bool), Qr (f_X5_send s g rl rh fr fw fc fg ps pg pr pd qp qt qf qo ct lim was sent qfi qsz).2.2.2.2.2.2.2.2.1 (f_X5_send s g rl rh fr fw fc fg ps pg pr pd qp qt qf qo ct lim was sent qfi qsz).2.2.2.2.2.2.2.2.2.1 (f_X5_send s g rl rh fr fw fc fg ps pg pr pd qp qt qf qo ct lim was sent qfi qsz).2.2.2.2.2.2.2.2.2.2.1 (f_X5_send s g rl rh fr fw fc fg ps pg pr pd qp qt qf qo ct lim was sent qfi qsz).2.2.2.2.2.2.2.2.2.2.2.1 qfi (f_X5_send s g rl rh fr fw fc fg ps pg pr pd qp qt qf qo ct lim was sent qfi qsz).2.2.2.2.2.2.2.2.2.2.2.2.2.2.2 l ∧
      SI fr g s sent (fw (4 + g * 10 + s)) fc was true mt [] V P l (f_X5_send s g rl rh fr fw fc fg ps pg pr pd qp qt qf qo ct lim was sent qfi qsz).2.1 (f_X5_send s g rl rh fr fw fc fg ps pg pr pd qp qt qf qo ct lim was sent qfi qsz).2.2.1 (f_X5_send s g rl rh fr fw fc fg ps pg pr pd qp qt qf qo ct lim was sent qfi qsz).2.2.2.2.2.2.1 (f_X5_send s g rl rh fr fw fc fg ps pg pr pd qp qt qf qo ct lim was sent qfi qsz).2.2.2.2.2.2.2.1 (f_X5_send s g rl rh fr fw fc fg ps pg pr pd qp qt qf qo ct lim was sent qfi qsz).2.2.2.2.2.2.2.2.2.2.2.2.2.1 ∧
      (mt = true ↔ ∃ o, o < 10 ∧ fr g = nI o ∧ D s o < 1000000) := by
  obtain ⟨⟨hp, l, hq, hl⟩, h2, h3, h4, h5, h6⟩ := h
  have hl0 : l = [] := List.length_eq_zero_iff.mp (hq.2.2.1.trans hq0)
  subst hl0
  obtain ⟨hpr, hpd⟩ := h6 sent (Nat.le_refl _)
  have hne : ¬ g = 4 + g * 10 + s := by omega
  rcases send_cases (s := s) (g := g) (rl := rl) (rh := rh) (fr := fr) (fw := fw) (fc := fc) (fg := fg) (ps := ps) (pg := pg) (pr := pr) (pd := pd) (ct := ct) (lim := lim) (was := was) (sent := sent) hq (hro g (by omega)) with ⟨hm, a, b, c, d, e, hq2⟩ | ⟨hm, o, ho, hfo, sw, ct', a, b, c, d, l1, hsw, hl1, e, hq2⟩
  · have h0 := SI_0 (fr := fr) (pk := sent) (mt := false) (fw := fw) (fc := fc) (pr := pr) (pd := pd) (was := was) hg hs hrs hpr hpd (Or.inl ⟨rfl, rfl⟩)
    obtain ⟨s1, s2, s3⟩ := source_on hR hg hs hrs h0 h2 (fun i _ z => (V0_inv z).2) (fun z => absurd z Bool.false_ne_true)
    rw [s2] at hq2 e
    rw [e]
    refine ⟨_, _, _, false, hq2, s3, fun z => absurd z Bool.false_ne_true, fun ⟨o, ho, hfo, hd⟩ => ?_⟩
    rw [hfo] at hm
    exact absurd hd ((distr_iff hR hs ho).mp hm)
  · have h0 := SI_0 (fr := fr) (pk := sent) (mt := true) (fw := fw) (fc := fc) (pr := pr) (pd := pd) (was := was) hg hs hrs hpr hpd (Or.inr ⟨o, rfl, ho, hfo, rfl, rfl⟩)
    obtain ⟨v1, v2, v3⟩ := visit hR hg hs h0 h2 hsw
    have hF2 : FI rh D fr (swFw sw fw g s o) (bnd t) (swF sw g s o rh fr fc fg).1 (swF sw g s o rh fr fc fg).2 := by
      unfold swFw swF
      cases sw
      · rw [if_neg Bool.false_ne_true, if_neg Bool.false_ne_true]; exact h2
      · rw [if_pos rfl, if_pos rfl]; exact want_FI hR hro h2 (by omega) ho
    obtain ⟨s1, s2, s3⟩ := source_on hR hg hs hrs v3 hF2 (fun i _ z => by
      rw [addK_off (fun z => hne z.symm), addK_off (fun z => hne z.symm)] at z; exact (V0_inv z).2) (fun _ o' ho' hfo' => by
      have : o' = o := (nI_eq (by omega) (by omega)).mp (hfo'.symm.trans hfo)
      subst this; exact addV_self)
    rw [v2] at hl1
    subst hl1
    rw [s2] at hq2 e
    rw [e]
    refine ⟨_, _, _, true, hq2, s3, fun _ => ⟨o, ho, hfo, ?_⟩, fun _ => rfl⟩
    rw [hfo] at hm
    exact Classical.not_not.mp (fun z => hm ((distr_iff hR hs ho).mpr z))
/-- all copies are followed -/
theorem SI_run {rc rl rh fr M : Nat → Int32} {C D : Nat → Nat → Nat} (hR : Rt rc rl rh C D) (hro : RoOk fr) {t s g pk : Nat} {ps pg : Nat → Int32} {lim : Int32} {sent : Nat} (hs : s < 10) (hg : g < 4) (hpk : pk < sent) (hpg : pg pk = nI g) (hps : ps pk = nI s) {w0 : Int32} {fc0 : Nat → Int32} {was0 : Int32} {mt : Bool} : ∀ (n : Nat) (x : CT) (l : List Cp) (V P : Nat → Nat → Bool), PIc rh D fr M t ps pg sent x →
    Qr x.2.2.2.2.2.1 x.2.2.2.2.2.2.1 x.2.2.2.2.2.2.2.1 x.2.2.2.2.2.2.2.2.1 x.2.2.2.2.2.2.2.2.2.2.2.1 x.2.2.2.2.2.2.2.2.2.2.2.2 l → SI fr g s pk w0 fc0 was0 true mt [] V P l x.1 x.2.1 x.2.2.2.1 x.2.2.2.2.1 x.2.2.2.2.2.2.2.2.2.2.1 → eA rc rh fr ps pg lim sent n x →
    ∃ V' P' : Nat → Nat → Bool, SI fr g s pk w0 fc0 was0 true mt [] V' P' [] (fA rc rh fr ps pg lim n x).2.1 (fA rc rh fr ps pg lim n x).2.2.1 (fA rc rh fr ps pg lim n x).2.2.2.2.1 (fA rc rh fr ps pg lim n x).2.2.2.2.2.1 (fA rc rh fr ps pg lim n x).2.2.2.2.2.2.2.2.2.2.2.1 ∧ l.length ≤ (fA rc rh fr ps pg lim n x).1 := by
  intro n
  induction n with
  | zero =>
    intro x l V P h hq hS he
    have h0 : x.2.2.2.2.2.2.2.2.2.2.2.2 = 0 := he
    have hl0 : l = [] := List.length_eq_zero_iff.mp (hq.2.2.1.trans h0)
    subst hl0
    rw [fA]
    exact ⟨V, P, hS, Nat.le_refl _⟩
  | succ n ih =>
    intro x l V P h hq hS he
    obtain ⟨fw, fc, fg, pr, pd, qp, qt, qf, qo, ct, was, qfi, qsz⟩ := x
    have hq : Qr qp qt qf qo qfi qsz l := hq
    have h' : PI rh D fr M t ps pg sent fw fc fg pr pd qp qt qf qo qfi qsz := h
    have hS : SI fr g s pk w0 fc0 was0 true mt [] V P l fw fc pr pd was := hS
    rw [fA]
    cases l with
    | nil =>
      have h0 : qsz = 0 := by have := hq.2.2.1; rw [List.length_nil] at this; exact this.symm
      rw [if_pos h0]
      exact ⟨V, P, hS, Nat.zero_le _⟩
    | cons y l =>
      have hlen := hq.2.2.1
      rw [List.length_cons] at hlen
      rw [if_neg (show ¬ qsz = 0 by omega)]
      obtain ⟨-, he2⟩ := he (show 1 ≤ qsz by omega)
      have hstp := PI_stp (lim := lim) hR hro _ h
      obtain ⟨a1, a2, a3, a4, a5, a6, a7, a8, a9, a10, a11, a12, a13, a14, a15, a16⟩ := hS
      obtain ⟨y1, y2, y3, y4, y5, y6, y7, y8⟩ := a1 y List.mem_cons_self
      have hT44 : y.2.1 < 44 := by omega
      have hy : CpOk sent y := ⟨by rw [y1]; exact hpk, hT44, y3, y4⟩
      -- its branch is a link, and the next hop
      obtain ⟨p, o, b1, b2, b3, b4, b5, _⟩ := ((h'.2.1 y.2.1 hT44).1 y.2.2.2 y4).resolve_left (fun z => by have := z.1; rw [y8] at this; exact nI_neg1 (by omega) this)
      have ep : p = y.2.2.1 := (nI_eq (by omega) (by omega)).mp (b4.symm.trans y8)
      subst ep
      have hhop : f_X4_hopOf_r y.2.2.2 (fr y.2.1) rh = nI y.2.2.1 := by rw [b3, hopOf_nI y4 b2]; exact b5
      have hlink : ¬ rc (y.2.2.1 * 10 + y.2.2.2) = 0 := by
        rcases Rt_hop hR y4 b2 with ⟨z, -⟩ | ⟨j, j1, j2, _, _, j3, _⟩
        · rw [z] at b5; exact absurd b5 (nI_m1 (by omega))
        · have e : j = y.2.2.1 := (nI_eq (by omega) (by omega)).mp (j2.symm.trans b5)
          subst e
          have hc := hR.2.1.1 y.2.2.2 y.2.2.1 y4 y3
          rw [hR.1 y.2.2.1 y.2.2.2 y3 y4, ← hc.2]
          exact fun z => by have := (nI_z (by omega)).mp z; omega
      have hS2 : SI fr g s pk w0 fc0 was0 true mt [(y.2.1, y.2.2.2)] V P l fw fc pr pd was := by
        refine ⟨fun z hz => a1 z (List.mem_cons_of_mem _ hz), ?_, a3, a4, a5, fun T r hT hr hp => ?_, a7, a8, a9, ?_, a11, a12, a13, a14, fun q hq => ?_, a16⟩
        · rw [List.nil_append, List.map_cons] at a2; exact a2
        · rcases a6 T r hT hr hp with z | z | ⟨z, z1, z2, z3⟩
          · exact Or.inl z
          · exact absurd z List.not_mem_nil
          · rcases List.mem_cons.mp z1 with e | e
            · subst e
              refine Or.inr (Or.inl ?_)
              rw [z2, z3]; exact List.mem_cons_self
            · exact Or.inr (Or.inr ⟨z, e, z2, z3⟩)
        · rw [List.length_nil, List.length_cons] at a10
          rw [List.length_singleton]; omega
        · rw [List.mem_singleton] at hq
          subst hq
          exact ⟨y2, y4, y5, y6⟩
      rcases follow_cases (rc := rc) (rh := rh) (fr := fr) (fw := fw) (fc := fc) (fg := fg) (pr := pr) (pd := pd) (ct := ct) (lim := lim) (was := was) hq h'.1.1 hy hg hs (by rw [y1]; exact hpg) (by rw [y1]; exact hps) with ⟨z, -⟩ | ⟨z, -⟩ | ⟨-, -, sw, ct', a, b, c, d, hsw, e, hq2⟩
      · exact absurd z hlink
      · exact absurd hhop z
      · rw [y1] at e hq2 hsw
        obtain ⟨v1, v2, v3⟩ := visit hR hg hs hS2 h'.2.1 hsw
        rw [v2] at e hq2
        have est : stp rc rh fr ps pg lim (fw, fc, fg, pr, pd, qp, qt, qf, qo, ct, was, qfi, qsz) = (swFw sw fw g s y.2.2.2, (swF sw g s y.2.2.2 rh fr fc fg).1, (swF sw g s y.2.2.2 rh fr fc fg).2, gPr (f_X5_has (fw g) y.2.2.2 && !f_X5_has (pr pk) y.2.2.2) pk y.2.2.2 pr, gPd (f_X5_has (fw g) y.2.2.2 && f_X5_has (pr pk) y.2.2.2) pk pd, a, b, c, d, ct', was + nI ((kids (swF sw g s y.2.2.2 rh fr fc fg).1 y.2.1 y.2.2.2).length - (200 - l.length)), (qfi + 1) % 200, (l ++ news pk y.2.1 y.2.2.2 (kids fc y.2.1 y.2.2.2)).length) := by
          unfold stp
          dsimp only
          rw [e]
        rw [est] at hstp he2 ⊢
        obtain ⟨V', P', r1, r2⟩ := ih _ (l ++ news pk y.2.1 y.2.2.2 (kids fc y.2.1 y.2.2.2)) _ _ hstp hq2 v3 he2
        refine ⟨V', P', r1, ?_⟩
        have hl2 : l.length ≤ (l ++ news pk y.2.1 y.2.2.2 (kids fc y.2.1 y.2.2.2)).length := by rw [List.length_append]; omega
        rw [List.length_cons]
        dsimp only
        omega
