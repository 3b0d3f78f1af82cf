/-! a packet is sent -/
theorem send_cases {s g : Nat} {rl rh fr fw fc fg ps pg pr pd qp qt qf qo ct : Nat → Int32} {lim was : Int32} {sent qfi qsz : Nat} {l : List Cp} (hq : Qr qp qt qf qo qfi qsz l) (hro : fr g = -1 ∨ ∃ o : Nat, o < 10 ∧ fr g = nI o) :
    (f_X4_distanceOf_r s (fr g) rl = -1 ∧ ∃ a b c d : Nat → Int32, f_X5_send s g rl rh fr fw fc fg ps pg pr pd qp qt qf qo ct lim was sent qfi qsz = (nI sent, fw, fc, fg, upd ps sent (nI s), upd pg sent (nI g), gPr (f_X5_has (fw g) s) sent s pr, pd, a, b, c, d, ct,
        was + nI ((kids fc (4 + g * 10 + s) s).length - (200 - l.length)), sent + 1, (l ++ news sent (4 + g * 10 + s) s ((kids fc (4 + g * 10 + s) s).take (200 - l.length))).length) ∧
      Qr a b c d qfi (l ++ news sent (4 + g * 10 + s) s ((kids fc (4 + g * 10 + s) s).take (200 - l.length))).length (l ++ news sent (4 + g * 10 + s) s ((kids fc (4 + g * 10 + s) s).take (200 - l.length)))) ∨
    (¬ f_X4_distanceOf_r s (fr g) rl = -1 ∧ ∃ o : Nat, o < 10 ∧ fr g = nI o ∧ ∃ (sw : Bool) (ct' a b c d : Nat → Int32) (l1 : List Cp), (sw = true → f_X5_has (fw g) o = true ∧ ¬ f_X5_has (gPr (f_X5_has (fw g) s) sent s pr sent) o = true ∧ g < 4 ∧ ¬ o = s ∧ ¬ f_X5_has (fw ((4 + (g * 10)) + s)) o = true) ∧
      l1 = l ++ news sent g o ((kids (swF sw g s o rh fr fc fg).1 g o).take (200 - l.length)) ∧
      f_X5_send s g rl rh fr fw fc fg ps pg pr pd qp qt qf qo ct lim was sent qfi qsz = (nI sent, swFw sw fw g s o, (swF sw g s o rh fr fc fg).1, (swF sw g s o rh fr fc fg).2, upd ps sent (nI s), upd pg sent (nI g),
        gPr (f_X5_has (fw g) o && !f_X5_has (gPr (f_X5_has (fw g) s) sent s pr sent) o) sent o (gPr (f_X5_has (fw g) s) sent s pr), gPd (f_X5_has (fw g) o && f_X5_has (gPr (f_X5_has (fw g) s) sent s pr sent) o) sent pd, a, b, c, d, ct',
        was + nI ((kids (swF sw g s o rh fr fc fg).1 g o).length - (200 - l.length)) + nI ((kids (swF sw g s o rh fr fc fg).1 (4 + g * 10 + s) s).length - (200 - l1.length)), sent + 1, (l1 ++ news sent (4 + g * 10 + s) s ((kids (swF sw g s o rh fr fc fg).1 (4 + g * 10 + s) s).take (200 - l1.length))).length) ∧
      Qr a b c d qfi (l1 ++ news sent (4 + g * 10 + s) s ((kids (swF sw g s o rh fr fc fg).1 (4 + g * 10 + s) s).take (200 - l1.length))).length (l1 ++ news sent (4 + g * 10 + s) s ((kids (swF sw g s o rh fr fc fg).1 (4 + g * 10 + s) s).take (200 - l1.length)))) := by
  by_cases c2 : f_X4_distanceOf_r s (fr g) rl = -1
  · left
    refine ⟨c2, ?_⟩
    obtain ⟨a, b, c, d, e1, e2⟩ := goOn_q (pk := sent) (t := 4 + g * 10 + s) (r := s) (fc := fc) (was := was) hq
    refine ⟨a, b, c, d, ?_, e2⟩
    unfold f_X5_send gPr
    by_cases c1 : f_X5_has (fw g) s = true
    · rw [if_pos c1, if_pos c2, if_pos c1, e1]
    · rw [if_neg c1, if_pos c2, if_neg c1, e1]
  · right
    refine ⟨c2, ?_⟩
    obtain ⟨o, ho, hfo⟩ : ∃ o : Nat, o < 10 ∧ fr g = nI o := by
      rcases hro with z | z
      · exfalso; apply c2; rw [z]; unfold f_X4_distanceOf_r; rw [if_neg (by rw [pair_m1]; decide)]
      · exact z
    have eo : (fr g).toNatClampNeg = o := by rw [hfo, nI_clamp (by omega)]
    refine ⟨o, ho, hfo, ?_⟩
    obtain ⟨sw, ct', a, b, c, d, g1, g2, g3⟩ := get_cases (pk := sent) (t := g) (r := o) (g := g) (s_ := s) (rh := rh) (fr := fr) (fw := fw) (fc := fc) (fg := fg) (pr := gPr (f_X5_has (fw g) s) sent s pr) (pd := pd) (ct := ct) (lim := lim) (was := was) hq
    obtain ⟨a', b', c', d', e1, e2⟩ := goOn_q (pk := sent) (t := 4 + g * 10 + s) (r := s) (fc := (swF sw g s o rh fr fc fg).1) (was := was + nI ((kids (swF sw g s o rh fr fc fg).1 g o).length - (200 - l.length))) g3
    refine ⟨sw, ct', a', b', c', d', _, g1, rfl, ?_, e2⟩
    unfold f_X5_send
    rw [eo]
    by_cases c1 : f_X5_has (fw g) s = true
    · have ep : upd pr sent ((pr sent) ||| ((nI 1) <<< ((nI s) &&& 31))) = gPr (f_X5_has (fw g) s) sent s pr := by unfold gPr; rw [if_pos c1]
      rw [if_pos c1, if_neg c2, ep, g2]
      dsimp only
      rw [e1]
    · have ep : pr = gPr (f_X5_has (fw g) s) sent s pr := by unfold gPr; rw [if_neg c1]
      have g2' := g2
      rw [← ep] at g2'
      rw [if_neg c1, if_neg c2, g2', ← ep]
      dsimp only
      rw [e1]
theorem PkOk_add {ps pg : Nat → Int32} {sent s g : Nat} (h : PkOk ps pg sent) (h1 : sent ≤ 199) (hs : s < 10) (hg : g < 4) : PkOk (upd ps sent (nI s)) (upd pg sent (nI g)) (sent + 1) := by
  refine ⟨by omega, fun pk hpk => ?_⟩
  by_cases e : pk = sent
  · subst e; exact ⟨g, s, hg, hs, pk_us, pk_us⟩
  · rw [pk_un e, pk_un e]; exact h.2 pk (by omega)
theorem CpOk_add {sent : Nat} {x : Cp} (h : CpOk sent x) : CpOk (sent + 1) x := ⟨Nat.lt_succ_of_lt h.1, h.2⟩
theorem gPr_far {b : Bool} {pk r e : Nat} {pr : Nat → Int32} (h : ¬ e = pk) : gPr b pk r pr e = pr e := by
  unfold gPr
  split
  · exact pk_un h
  · rfl
theorem gPd_far {b : Bool} {pk e : Nat} {pd : Nat → Int32} (h : ¬ e = pk) : gPd b pk pd e = pd e := by
  unfold gPd
  split
  · exact pk_un h
  · rfl
/-- what always holds, holds behind it -/
theorem PI_send {rc rl rh fr M : Nat → Int32} {C D : Nat → Nat → Nat} (hR : Rt rc rl rh C D) (hro : RoOk fr) {t s g : Nat} {fw fc fg ps pg pr pd qp qt qf qo ct : Nat → Int32} {lim was : Int32} {sent qfi qsz : Nat} (h : PI rh D fr M t ps pg sent fw fc fg pr pd qp qt qf qo qfi qsz) (h1 : sent ≤ 199) (hs : s < 10) (hg : g < 4) :
    ∃ (fw' fc' fg' pr' pd' a b c d ct' : Nat → Int32) (was' : Int32) (qsz' : Nat), f_X5_send s g rl rh fr fw fc fg ps pg pr pd qp qt qf qo ct lim was sent qfi qsz = (nI sent, fw', fc', fg', upd ps sent (nI s), upd pg sent (nI g), pr', pd', a, b, c, d, ct', was', sent + 1, qsz') ∧
      PI rh D fr M t (upd ps sent (nI s)) (upd pg sent (nI g)) (sent + 1) fw' fc' fg' pr' pd' a b c d qfi qsz' := by
  obtain ⟨⟨hp, l, hq, hl⟩, h2, h3, h4, h5, h6⟩ := h
  have hp' := PkOk_add hp h1 hs hg
  have hl' : ∀ x ∈ l, CpOk (sent + 1) x := fun x hx => CpOk_add (hl x hx)
  have hgo : ∀ (l0 : List Cp) (fc0 : Nat → Int32) (T r n : Nat), (∀ x ∈ l0, CpOk (sent + 1) x) → T < 44 → r < 10 → ∀ x ∈ l0 ++ news sent T r ((kids fc0 T r).take n), CpOk (sent + 1) x := by
    intro l0 fc0 T r n h0 hT hr x hx
    rcases List.mem_append.mp hx with hx | hx
    · exact h0 x hx
    · exact news_ok (Nat.lt_succ_self _) hT hr (fun k hk => (mem_kids.mp (List.mem_of_mem_take hk)).1) x hx
  rcases send_cases (s := s) (g := g) (rl := rl) (rh := rh) (fr := fr) (fw := fw) (fc := fc) (fg := fg) (ps := ps) (pg := pg) (pr := pr) (pd := pd) (ct := ct) (lim := lim) (was := was) (sent := sent) hq (hro g (by omega)) with ⟨-, a, b, c, d, e, hq2⟩ | ⟨-, o, ho, hfo, sw, ct', a, b, c, d, l1, hsw, hl1, e, hq2⟩
  · refine ⟨_, _, _, _, _, _, _, _, _, _, _, _, e, ⟨hp', _, hq2, hgo l fc _ _ _ hl' (by omega) hs⟩, h2, h3, h4, h5, fun e he => ?_⟩
    rw [gPr_far (by omega)]
    exact h6 e (by omega)
  · have h0 : PI rh D fr M t (upd ps sent (nI s)) (upd pg sent (nI g)) (sent + 1) fw fc fg (gPr (f_X5_has (fw g) s) sent s pr) pd qp qt qf qo qfi qsz := ⟨⟨hp', l, hq, hl'⟩, h2, h3, h4, h5, fun e he => by rw [gPr_far (by omega)]; exact h6 e (by omega)⟩
    have hq3 : QAl (upd ps sent (nI s)) (upd pg sent (nI g)) a b c d (sent + 1) qfi (l1 ++ news sent (4 + g * 10 + s) s ((kids (swF sw g s o rh fr fc fg).1 (4 + g * 10 + s) s).take (200 - l1.length))).length :=
      ⟨hp', _, hq2, hgo l1 _ _ _ _ (by rw [hl1]; exact hgo l _ _ _ _ hl' (by omega) ho) (by omega) hs⟩
    exact ⟨_, _, _, _, _, _, _, _, _, _, _, _, e, PI_get hR hro h0 hg hs ho (Nat.lt_succ_self _) (fun z => ⟨(hsw z).1, (hsw z).2.2.2.1⟩) hq3⟩
theorem distr_iff {rc rl rh : Nat → Int32} {C D : Nat → Nat → Nat} (hR : Rt rc rl rh C D) {s o : Nat} (hs : s < 10) (ho : o < 10) : f_X4_distanceOf_r s (nI o) rl = -1 ↔ ¬ D s o < 1000000 := by
  have e : f_X4_distanceOf_r s (nI o) rl = f_X4_distanceOf s o rl := by
    unfold f_X4_distanceOf_r f_X4_distanceOf
    rw [if_pos (pair_nI ho), nI_add, nI_clamp (by omega)]
  rw [e, Rt_dist hR hs ho]
  by_cases c : D s o < 1000000
  · rw [if_pos c]; exact ⟨fun q => absurd q (nI_neg1 (by have := hR.2.2.2.1.2.1 s o hs ho; omega)), fun q => absurd c q⟩
  · rw [if_neg c]; exact ⟨fun _ => c, fun _ => rfl⟩
/-- the source sends it on through its tree -/
theorem source_on {rc rl rh fr : Nat → Int32} {C D : Nat → Nat → Nat} (hR : Rt rc rl rh C D) {g s pk t : Nat} (hg : g < 4) (hs : s < 10) (hrs : fr (4 + g * 10 + s) = nI s) {w0 : Int32} {fc0 : Nat → Int32} {was0 : Int32} {mt : Bool} {V P : Nat → Nat → Bool} {l : List Cp} {fw fc fg pr pd : Nat → Int32} {was : Int32}
    (h : SI fr g s pk w0 fc0 was0 false mt [] V P l fw fc pr pd was) (hF : FI rh D fr fw (bnd t) fc fg) (hone : ∀ i, i < 10 → P (4 + g * 10 + s) i = true → i = s) (hmt : mt = true → ∀ o, o < 10 → fr g = nI o → V g o = true) :
    (kids fc (4 + g * 10 + s) s).length ≤ 200 - l.length ∧ (kids fc (4 + g * 10 + s) s).take (200 - l.length) = kids fc (4 + g * 10 + s) s ∧
    SI fr g s pk w0 fc0 was0 true mt [] V (addK P (4 + g * 10 + s) (isKid fc (4 + g * 10 + s) s)) (l ++ news pk (4 + g * 10 + s) s (kids fc (4 + g * 10 + s) s)) fw fc pr pd (was + nI ((kids fc (4 + g * 10 + s) s).length - (200 - l.length))) := by
  obtain ⟨a1, a2, a3, a4, a5, a6, a7, a8, a9, a10, a11, a12, a13, a14, a15, a16⟩ := h
  have hT44 : 4 + g * 10 + s < 44 := by omega
  have hroot : fc ((4 + g * 10 + s) * 10 + s) = -1 := TI_root hR hs (by have := hF _ hT44; rw [hrs] at this; exact this)
  have hnP : ∀ k, k < 10 → fc ((4 + g * 10 + s) * 10 + k) = nI s → P (4 + g * 10 + s) k = false := fun k hk hfk => by
    cases q : P (4 + g * 10 + s) k
    · rfl
    · have := hone k hk q
      subst this
      rw [hroot] at hfk; exact absurd hfk (nI_m1 (by omega))
  have hnV : ∀ k, k < 10 → fc ((4 + g * 10 + s) * 10 + k) = nI s → V (4 + g * 10 + s) k = false := fun k hk hfk => by
    cases q : V (4 + g * 10 + s) k
    · rfl
    · have := a3 _ k hk q; rw [hnP k hk hfk] at this; cases this
  have hcP : cn (addK P (4 + g * 10 + s) (isKid fc (4 + g * 10 + s) s) g) + cn (addK P (4 + g * 10 + s) (isKid fc (4 + g * 10 + s) s) (4 + g * 10 + s)) = cn (P g) + cn (P (4 + g * 10 + s)) + (kids fc (4 + g * 10 + s) s).length := by
    have hadd : cn (addK P (4 + g * 10 + s) (isKid fc (4 + g * 10 + s) s) (4 + g * 10 + s)) = cn (P (4 + g * 10 + s)) + cn (isKid fc (4 + g * 10 + s) s) := by
      rw [← cn_add (f := P (4 + g * 10 + s)) (g := isKid fc (4 + g * 10 + s) s) (fun i hi hf => by
        cases q : isKid fc (4 + g * 10 + s) s i
        · rfl
        · have := hnP i hi (kid_iff.mp q)
          rw [hf] at this; cases this)]
      exact cn_congr (fun i hi => by unfold addK; rw [decide_eq_true rfl, Bool.true_and])
    rw [hadd, kids_len, cn_congr (f := addK P (4 + g * 10 + s) (isKid fc (4 + g * 10 + s) s) g) (g := P g) (fun i hi => addK_off (by omega))]; omega
  have hlen : l.length + (kids fc (4 + g * 10 + s) s).length ≤ 20 := by
    have b1 := cn_le (addK P (4 + g * 10 + s) (isKid fc (4 + g * 10 + s) s) g)
    have b2 := cn_le (addK P (4 + g * 10 + s) (isKid fc (4 + g * 10 + s) s) (4 + g * 10 + s))
    rw [List.length_nil] at a10
    omega
  refine ⟨by omega, List.take_of_length_le (by omega), fun y hy => ?_, ?_, fun T' i hi hv => addK_mono (a3 T' i hi hv), fun T' i hT' hi hp => ?_, fun T' i k hT' hd hi hk hv hf => ?_, fun T' i hT' hi hp => ?_, a7, a8, ?_, ?_, a11, a12, fun e => ⟨fun i hi => ?_, (a13 e).2⟩, fun e _ => hmt e, fun q hq => absurd hq List.not_mem_nil, a16⟩
  · rcases List.mem_append.mp hy with hy | hy
    · obtain ⟨c1, c2, c3, c4, c5, c6, c7, c8⟩ := a1 y hy
      exact ⟨c1, c2, c3, c4, addK_mono c5, c6, c7, c8⟩
    · obtain ⟨k, hk, rfl⟩ := List.mem_map.mp hy
      obtain ⟨hk10, hfk⟩ := mem_kids.mp hk
      exact ⟨rfl, Or.inr rfl, hs, hk10, addK_self (kid_iff.mpr hfk), hnV k hk10 hfk, a16, hfk⟩
  · rw [List.nil_append, List.map_append]
    rw [List.nil_append] at a2
    refine List.nodup_append.mpr ⟨a2, ?_, fun q1 hq1 q2 hq2 e => ?_⟩
    · unfold news
      rw [List.map_map]
      have hinj : (kids fc (4 + g * 10 + s) s).map (fun k => (4 + g * 10 + s, k)) = ((kids fc (4 + g * 10 + s) s).map (key ∘ fun k => (pk, 4 + g * 10 + s, s, k))) := rfl
      rw [← hinj]
      exact (List.pairwise_map.mpr (List.Pairwise.imp (fun hne e => hne (Prod.mk.inj e).2) kids_nodup))
    · subst e
      obtain ⟨y, hy, rfl⟩ := List.mem_map.mp hq1
      obtain ⟨z, hz, ez⟩ := List.mem_map.mp hq2
      obtain ⟨k, hk, rfl⟩ := List.mem_map.mp hz
      obtain ⟨hk10, hfk⟩ := mem_kids.mp hk
      obtain ⟨c1, c2, c3, c4, c5, _⟩ := a1 y hy
      have e1 : 4 + g * 10 + s = y.2.1 := (Prod.mk.inj ez).1
      have e2 : k = y.2.2.2 := (Prod.mk.inj ez).2
      have := hnP k hk10 hfk
      rw [e1, e2, c5] at this; cases this
  · rcases addK_inv hp with z | ⟨z1, z2⟩
    · exact a4 T' i hT' hi z
    · rw [z1]; exact Or.inr ⟨s, hs, a16, kid_iff.mp z2⟩
  · by_cases e : T' = 4 + g * 10 + s ∧ i = s
    · obtain ⟨rfl, rfl⟩ := e
      exact addK_self (kid_iff.mpr hf)
    · exact addK_mono (a5 T' i k hT' (Or.inr e) hi hk hv hf)
  · rcases addK_inv hp with z | ⟨z1, z2⟩
    · rcases a6 T' i hT' hi z with q | q | ⟨y, q1, q2⟩
      · exact Or.inl q
      · exact absurd q List.not_mem_nil
      · exact Or.inr (Or.inr ⟨y, List.mem_append_left _ q1, q2⟩)
    · refine Or.inr (Or.inr ⟨(pk, 4 + g * 10 + s, s, i), List.mem_append_right _ (List.mem_map.mpr ⟨i, mem_kids.mpr ⟨hi, kid_iff.mp z2⟩, rfl⟩), z1.symm, rfl⟩)
  · rw [show (kids fc (4 + g * 10 + s) s).length - (200 - l.length) = 0 by omega, nI_0, Int32.add_zero]; exact a9
  · rw [List.length_nil, List.length_append, show (news pk (4 + g * 10 + s) s (kids fc (4 + g * 10 + s) s)).length = (kids fc (4 + g * 10 + s) s).length from List.length_map _]
    rw [List.length_nil] at a10
    omega
  · rw [addK_off (by omega)]
    exact (a13 e).1 i hi
