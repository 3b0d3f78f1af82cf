/-! what holds between the law's steps -/
def INV (k : Nat) (rc rl rh fr fw fc fg ps pg pr pd qp qt qf qo lE lC : Nat → Int32) (cand lim now : Int32) (sent qfi qsz : Nat) : Prop :=
  ∃ (C D : Nat → Nat → Nat) (t : Nat), Rt rc rl rh C D ∧ EOk lE C ∧ RoOk fr ∧ RoS fr ∧ (∀ g, g < 4 → lC (1 + g) = fw g ∧ fr g = f_L_meets (lC 0) g) ∧ PI rh D fr fw t ps pg sent fw fc fg pr pd qp qt qf qo qfi qsz ∧ cand = lC 0 ∧ lC 5 = nI sent ∧ now = nI t ∧ t ≤ 100 * k ∧ ∃ L : Nat, lim = nI L ∧ 1 ≤ L ∧ L < 1000
theorem PI_self {rh fr M : Nat → Int32} {D : Nat → Nat → Nat} {t : Nat} {ps pg : Nat → Int32} {sent : Nat} {fw fc fg pr pd qp qt qf qo : Nat → Int32} {qfi qsz : Nat} (h : PI rh D fr M t ps pg sent fw fc fg pr pd qp qt qf qo qfi qsz) : PI rh D fr fw t ps pg sent fw fc fg pr pd qp qt qf qo qfi qsz := ⟨h.1, h.2.1, fun _ _ => rfl, h.2.2.2⟩
/-- what the law reads holds -/
theorem INV_reads {k : Nat} {rc rl rh fr fw fc fg ps pg pr pd qp qt qf qo lE lC : Nat → Int32} {cand lim now : Int32} {sent qfi qsz : Nat} (h : INV k rc rl rh fr fw fc fg ps pg pr pd qp qt qf qo lE lC cand lim now sent qfi qsz) {r s g : Nat} (hr : r < 10) (hs : s < 10) (_ : g < 4) : f_L_areRoutes r rl rh lE = true ∧ f_L_areTrees rl rh fr fw fc fg = true ∧ f_L_areMembers fr fw lC = true ∧ f_L_floods s g rc rl fw lE = true := by
  obtain ⟨C, D, t, hR, hE, hro, hrs, hm, hp, _⟩ := h
  exact ⟨areRoutes_ok hR hE hr, areTrees_ok hR hro hrs hp.2.1, areMembers_ok ⟨hm, hp.2.2.2.1⟩, floods_ok hR hE hs⟩
theorem INV_up {k : Nat} {rc rl rh fr fw fc fg ps pg pr pd qp qt qf qo lE lC : Nat → Int32} {cand lim now : Int32} {sent qfi qsz : Nat} (h : INV k rc rl rh fr fw fc fg ps pg pr pd qp qt qf qo lE lC cand lim now sent qfi qsz) : INV (k + 1) rc rl rh fr fw fc fg ps pg pr pd qp qt qf qo lE lC cand lim now sent qfi qsz := by
  obtain ⟨C, D, t, h1, h2, h3, h4, h5, h6, h7, h8, h9, h10, h11⟩ := h
  exact ⟨C, D, t, h1, h2, h3, h4, h5, h6, h7, h8, h9, by omega, h11⟩
/-! a link -/
theorem at_inj0 : ∀ p, p < 100 → ∀ q, q < 100 → (¬ p / 10 = p % 10 ∧ ¬ q / 10 = q % 10 ∧ f_L_at (p / 10) (p % 10) = f_L_at (q / 10) (q % 10)) → (p / 10 = q / 10 ∧ p % 10 = q % 10) ∨ (p / 10 = q % 10 ∧ p % 10 = q / 10) := by decide +kernel
theorem at_inj (a : Nat) (ha : a < 10) (b : Nat) (hb : b < 10) (hab : ¬ a = b) (c : Nat) (hc : c < 10) (d : Nat) (hd : d < 10) (hcd : ¬ c = d) (h : f_L_at a b = f_L_at c d) : (a = c ∧ b = d) ∨ (a = d ∧ b = c) := by
  have k := at_inj0 (10 * a + b) (by omega) (10 * c + d) (by omega)
  rw [show (10 * a + b) / 10 = a by omega, show (10 * a + b) % 10 = b by omega, show (10 * c + d) / 10 = c by omega, show (10 * c + d) % 10 = d by omega] at k
  exact k ⟨hab, hcd, h⟩
theorem leaving_none {fg : Nat → Int32} (h : ∀ e, fg e = -1) : f_X2_leavingBranches fg = 0 := by
  rw [leaving_sm, sm_zero 440 (fun e _ => by show lv (fg e) = 0; rw [h e, lv_m1]), nI_0]
def linkC (C : Nat → Nat → Nat) (r o co : Nat) (i j : Nat) : Nat := if (i = r ∧ j = o) ∨ (i = o ∧ j = r) then co else C i j
theorem linkC_Cst {C : Nat → Nat → Nat} (h : Cst C) {r o co : Nat} (hne : ¬ r = o) (hco : co ≤ 20) : Cst (linkC C r o co) := by
  refine ⟨fun i j hi hj => ?_, fun i hi => ?_⟩
  · obtain ⟨h1, h2⟩ := h.1 i j hi hj
    unfold linkC
    by_cases c : (i = r ∧ j = o) ∨ (i = o ∧ j = r)
    · rw [if_pos c, if_pos (show (j = r ∧ i = o) ∨ (j = o ∧ i = r) by omega)]; exact ⟨hco, rfl⟩
    · rw [if_neg c, if_neg (show ¬ ((j = r ∧ i = o) ∨ (j = o ∧ i = r)) by omega)]; exact ⟨h1, h2⟩
  · unfold linkC
    rw [if_neg (by omega)]; exact h.2 i hi
theorem linkC_rc {rc : Nat → Int32} {C : Nat → Nat → Nat} (h : ∀ i j, i < 10 → j < 10 → rc (i * 10 + j) = nI (C i j)) {r o co : Nat} (hr : r < 10) (ho : o < 10) : ∀ i j, i < 10 → j < 10 → upd (upd rc (r * 10 + o) (nI co)) (o * 10 + r) (nI co) (i * 10 + j) = nI (linkC C r o co i j) := by
  intro i j hi hj
  unfold linkC
  by_cases c1 : i = o ∧ j = r
  · obtain ⟨rfl, rfl⟩ := c1
    rw [pk_us, if_pos (Or.inr ⟨rfl, rfl⟩)]
  · rw [pk_un (by omega)]
    by_cases c2 : i = r ∧ j = o
    · obtain ⟨rfl, rfl⟩ := c2
      rw [pk_us, if_pos (Or.inl ⟨rfl, rfl⟩)]
    · rw [pk_un (by omega), if_neg (by omega)]; exact h i j hi hj
theorem linkC_E {lE : Nat → Int32} {C : Nat → Nat → Nat} (h : EOk lE C) {r o co : Nat} (hr : r < 10) (ho : o < 10) (hne : ¬ r = o) : EOk (upd lE (f_L_at r o) (nI co)) (linkC C r o co) := by
  intro i j hi hj hij
  unfold linkC
  by_cases c : (i = r ∧ j = o) ∨ (i = o ∧ j = r)
  · rw [if_pos c]
    have e : f_L_at i j = f_L_at r o := by
      rcases c with ⟨rfl, rfl⟩ | ⟨rfl, rfl⟩
      · rfl
      · have key : ∀ a, a < 10 → ∀ b, b < 10 → f_L_at a b = f_L_at b a := by decide +kernel
        exact key i hi j hj
    rw [e, pk_us]
  · rw [if_neg c, pk_un (fun z => c ?_)]
    · exact h i j hi hj hij
    · rcases at_inj i hi j hj hij r hr o ho hne z with z | z
      · exact Or.inl z
      · exact Or.inr z
set_option maxRecDepth 100000 in
theorem setLink_ok {k : Nat} {rc rl rh fr fw fc fg ps pg pr pd qp qt qf qo lE lC : Nat → Int32} {cand lim now : Int32} {sent qfi qsz : Nat} (h : INV k rc rl rh fr fw fc fg ps pg pr pd qp qt qf qo lE lC cand lim now sent qfi qsz) {r o co : Nat} (hr : r < 10) (ho : o < 10) (hne : ¬ r = o) (hco : co ≤ 20) :
    (f_X5_setLink r o co rc rl rh fr fw fc fg).1 = lE (f_L_at r o) ∧ (if nI co = lE (f_L_at r o) then f_X2_leavingBranches ((f_X5_setLink r o co rc rl rh fr fw fc fg).2.2.2.2.2) = f_X2_leavingBranches fg else f_X2_leavingBranches ((f_X5_setLink r o co rc rl rh fr fw fc fg).2.2.2.2.2) = 0) ∧ INV k ((f_X5_setLink r o co rc rl rh fr fw fc fg).2.1) ((f_X5_setLink r o co rc rl rh fr fw fc fg).2.2.1) ((f_X5_setLink r o co rc rl rh fr fw fc fg).2.2.2.1) fr fw ((f_X5_setLink r o co rc rl rh fr fw fc fg).2.2.2.2.1) ((f_X5_setLink r o co rc rl rh fr fw fc fg).2.2.2.2.2) ps pg pr pd qp qt qf qo (upd lE (f_L_at r o) (nI co)) lC cand lim now sent qfi qsz := by
  obtain ⟨C, D, t, hR, hE, hro, hrs, hm, hp, h7, h8, h9, h10, h11⟩ := h
  have hrc := hR.1 r o hr ho
  have hle := hE r o hr ho hne
  have hC := (hR.2.1.1 r o hr ho).1
  rw [hle]
  unfold f_X5_setLink
  by_cases c : rc (r * 10 + o) = nI co
  · have hco' : nI co = nI (C r o) := c.symm.trans hrc
    rw [if_pos c, if_pos hco', upd_same (hle.trans hco'.symm)]
    exact ⟨hrc, rfl, C, D, t, hR, hE, hro, hrs, hm, hp, h7, h8, h9, h10, h11⟩
  · have hco' : ¬ nI co = nI (C r o) := fun z => c (hrc.trans z.symm)
    rw [if_neg c, if_neg hco']
    obtain ⟨D', hR'⟩ := Rt_new (linkC_rc (co := co) hR.1 hr ho) (linkC_Cst hR.2.1 hne hco) rl rh
    dsimp only
    have hF := build_FI (fw := fw) hR' hro (B := bnd t)
    exact ⟨hrc, leaving_none build_none, linkC C r o co, D', t, hR', linkC_E hE hr ho hne, hro, hrs, hm, ⟨hp.1, hF, hp.2.2⟩, h7, h8, h9, h10, h11⟩
theorem links_ok {k : Nat} {rc rl rh fr fw fc fg ps pg pr pd qp qt qf qo lE lC : Nat → Int32} {cand lim now : Int32} {sent qfi qsz : Nat} (h : INV k rc rl rh fr fw fc fg ps pg pr pd qp qt qf qo lE lC cand lim now sent qfi qsz) {x y : Nat} : (f_L_links x y rc rl rh fr fw fc fg lE).1 = true ∧ INV k ((f_L_links x y rc rl rh fr fw fc fg lE).2.1) ((f_L_links x y rc rl rh fr fw fc fg lE).2.2.1) ((f_L_links x y rc rl rh fr fw fc fg lE).2.2.2.1) fr fw ((f_L_links x y rc rl rh fr fw fc fg lE).2.2.2.2.1) ((f_L_links x y rc rl rh fr fw fc fg lE).2.2.2.2.2.1) ps pg pr pd qp qt qf qo ((f_L_links x y rc rl rh fr fw fc fg lE).2.2.2.2.2.2) lC cand lim now sent qfi qsz := by
  have hj : j_L_links_26 y ≤ 20 := by unfold j_L_links_26; split <;> omega
  obtain ⟨s1, s2, s3⟩ := setLink_ok h (r := x % 10) (o := (x % 10 + 1 + x / 10 % 9) % 10) (co := j_L_links_26 y) (by omega) (by omega) (by omega) hj
  refine ⟨?_, s3⟩
  show j_L_links_83 x y rc rl rh fr fw fc fg lE = true
  unfold j_L_links_83
  rw [if_pos s1]
  by_cases c : nI (j_L_links_26 y) = lE (f_L_at (x % 10) ((x % 10 + 1 + x / 10 % 9) % 10))
  · rw [if_pos c] at s2 ⊢
    rw [if_pos s2]
  · rw [if_neg c] at s2 ⊢
    rw [if_pos s2]
/-! a candidate -/
theorem meets_r {x : Int32} {g : Nat} : ∀ (n k : Nat) (a b : Int32), k + n = 10 → (a = -1 ∨ ∃ o : Nat, o < 10 ∧ a = nI o) → (f_L_meets_L7 x g n k a b = -1 ∨ ∃ o : Nat, o < 10 ∧ f_L_meets_L7 x g n k a b = nI o) := by
  intro n
  induction n with
  | zero => intro k a b _ h; rw [f_L_meets_L7]; exact h
  | succ n ih =>
    intro k a b hk h
    rw [f_L_meets_L7]
    refine ih (k + 1) _ _ (by omega) ?_
    unfold j_L_meets_42
    split
    · split
      · exact h
      · exact Or.inr ⟨k, by omega, rfl⟩
    · exact h
theorem meets_ok {x : Int32} {g : Nat} : f_L_meets x g = -1 ∨ ∃ o : Nat, o < 10 ∧ f_L_meets x g = nI o := by
  unfold f_L_meets
  exact meets_r 10 0 _ _ rfl (Or.inl rfl)
theorem setC_L {r : Nat} {rh fw : Nat → Int32} {cand : Int32} : ∀ (n k : Nat) (fr : Nat → Int32), k + n = 4 → ∃ fr' : Nat → Int32, f_X5_setCandidate_L33 r rh fw cand n k fr = (true, fr', (f_X2_buildAnew rh fr' fw).1, (f_X2_buildAnew rh fr' fw).2, cand ^^^ ((nI 1) <<< ((nI r) &&& 31))) ∧ (∀ j, k ≤ j → j < 4 → fr' j = f_L_meets (cand ^^^ ((nI 1) <<< ((nI r) &&& 31))) j) ∧ ∀ j, j < k ∨ 4 ≤ j → fr' j = fr j := by
  intro n
  induction n with
  | zero => intro k fr hk; rw [f_X5_setCandidate_L33]; exact ⟨fr, rfl, fun j h1 h2 => by omega, fun j _ => rfl⟩
  | succ n ih =>
    intro k fr hk
    rw [f_X5_setCandidate_L33]
    obtain ⟨fr', e1, e2, e3⟩ := ih (k + 1) (upd fr k (f_X5_bestCandidate k (cand ^^^ ((nI 1) <<< ((nI r) &&& 31))))) (by omega)
    refine ⟨fr', e1, fun j h1 h2 => ?_, fun j hj => ?_⟩
    · by_cases e : j = k
      · subst e
        rw [e3 j (by omega), pk_us, meets_eq]
      · exact e2 j (by omega) h2
    · rw [e3 j (by omega), pk_un (by omega)]
theorem cand_ok {k : Nat} {rc rl rh fr fw fc fg ps pg pr pd qp qt qf qo lE lC : Nat → Int32} {cand lim now : Int32} {sent qfi qsz : Nat} (h : INV k rc rl rh fr fw fc fg ps pg pr pd qp qt qf qo lE lC cand lim now sent qfi qsz) {x y : Nat} : (f_L_step_c x y rh fr fw fc fg lC cand).1 = true ∧ INV k rc rl rh ((f_L_step_c x y rh fr fw fc fg lC cand).2.1) fw ((f_L_step_c x y rh fr fw fc fg lC cand).2.2.1) ((f_L_step_c x y rh fr fw fc fg lC cand).2.2.2.1) ps pg pr pd qp qt qf qo lE ((f_L_step_c x y rh fr fw fc fg lC cand).2.2.2.2.1) ((f_L_step_c x y rh fr fw fc fg lC cand).2.2.2.2.2) lim now sent qfi qsz := by
  obtain ⟨C, D, t, hR, hE, hro, hrs, hm, hp, h7, h8, h9, h10, h11⟩ := h
  have hr : x % 10 < 10 := by omega
  have hh : f_X5_has cand (x % 10) = f_L_isIn (lC 0) (x % 10) := by rw [h7, isIn_has hr]
  by_cases c : f_X5_has cand (x % 10) = j_L_step_c_45 y
  · have hs : f_X5_setCandidate (x % 10) (j_L_step_c_45 y) rh fr fw fc fg cand = (false, fr, fc, fg, cand) := by unfold f_X5_setCandidate; rw [if_pos c]
    have hj : j_L_step_c_71 x y lC = lC 0 := by
      unfold j_L_step_c_71
      rw [hh, isIn_bt hr] at c
      by_cases q : j_L_step_c_45 y = true
      · rw [if_pos q]
        rw [q] at c
        refine b_ext fun i hi => ?_
        rw [b_or, bt_one (by omega) hi]
        by_cases e : i = x % 10
        · rw [e, c]; rfl
        · rw [decide_eq_false e, Bool.or_false]
      · rw [if_neg q]
        have q' : j_L_step_c_45 y = false := Bool.eq_false_iff.mpr q
        rw [q'] at c
        refine b_ext fun i hi => ?_
        rw [b_and, bt_not (by omega) hi]
        by_cases e : i = x % 10
        · rw [e, c]; rfl
        · rw [decide_eq_false e]; simp
    refine ⟨?_, ?_⟩
    · show j_L_step_c_118 x y rh fr fw fc fg lC cand = true
      unfold j_L_step_c_118 j_L_step_c_110
      rw [hs, if_pos (show j_L_step_c_45 y = f_L_isIn (lC 0) (x % 10) from c.symm.trans hh), if_pos rfl]
    · unfold f_L_step_c
      rw [hs, hj, upd_same rfl]
      exact ⟨C, D, t, hR, hE, hro, hrs, hm, hp, h7, h8, h9, h10, h11⟩
  · obtain ⟨fr', e1, e2, e3⟩ := setC_L (r := x % 10) (rh := rh) (fw := fw) (cand := cand) 4 0 fr rfl
    have hs : f_X5_setCandidate (x % 10) (j_L_step_c_45 y) rh fr fw fc fg cand = (true, fr', (f_X2_buildAnew rh fr' fw).1, (f_X2_buildAnew rh fr' fw).2, cand ^^^ ((nI 1) <<< ((nI (x % 10)) &&& 31))) := by unfold f_X5_setCandidate; rw [if_neg c, e1]
    have hj : j_L_step_c_71 x y lC = cand ^^^ ((nI 1) <<< ((nI (x % 10)) &&& 31)) := by
      unfold j_L_step_c_71
      rw [hh, isIn_bt hr] at c
      rw [h7]
      by_cases q : j_L_step_c_45 y = true
      · rw [if_pos q]
        rw [q] at c
        refine b_ext fun i hi => ?_
        rw [b_or, b_xor, bt_one (by omega) hi]
        by_cases e : i = x % 10
        · rw [e, Bool.eq_false_iff.mpr c, Bool.false_or, Bool.false_xor]
        · rw [decide_eq_false e, Bool.or_false, Bool.xor_false]
      · rw [if_neg q]
        have q' : j_L_step_c_45 y = false := Bool.eq_false_iff.mpr q
        rw [q'] at c
        refine b_ext fun i hi => ?_
        rw [b_and, bt_not (by omega) hi, b_xor, bt_one (by omega) hi]
        by_cases e : i = x % 10
        · have c' : bt (lC 0) (x % 10) = true := by
            cases z : bt (lC 0) (x % 10)
            · exact absurd z c
            · rfl
          rw [e, c', decide_eq_true rfl]; rfl
        · rw [decide_eq_false e]; simp
    refine ⟨?_, ?_⟩
    · show j_L_step_c_118 x y rh fr fw fc fg lC cand = true
      unfold j_L_step_c_118 j_L_step_c_110
      rw [hs, if_neg (show ¬ j_L_step_c_45 y = f_L_isIn (lC 0) (x % 10) from fun z => c (hh.trans z.symm)), if_pos rfl]
    · unfold f_L_step_c
      rw [hs, hj]
      have hro' : RoOk fr' := fun T hT => by
        by_cases q : T < 4
        · rw [e2 T (Nat.zero_le _) q]; exact meets_ok
        · rw [e3 T (Or.inr (by omega))]; exact hro T hT
      refine ⟨C, D, t, hR, hE, hro', fun g s hg hs' => ?_, fun g hg => ⟨?_, ?_⟩, ⟨hp.1, build_FI hR hro', hp.2.2⟩, ?_, ?_, h9, h10, h11⟩
      · show fr' (4 + g * 10 + s) = nI s
        rw [e3 _ (by omega)]; exact hrs g s hg hs'
      · show upd lC 0 (cand ^^^ ((nI 1) <<< ((nI (x % 10)) &&& 31))) (1 + g) = fw g
        rw [pk_un (by omega)]; exact (hm g hg).1
      · show fr' g = f_L_meets (upd lC 0 (cand ^^^ ((nI 1) <<< ((nI (x % 10)) &&& 31))) 0) g
        rw [pk_us]; exact e2 g (Nat.zero_le _) hg
      · show cand ^^^ ((nI 1) <<< ((nI (x % 10)) &&& 31)) = upd lC 0 (cand ^^^ ((nI 1) <<< ((nI (x % 10)) &&& 31))) 0
        rw [pk_us]
      · show upd lC 0 (cand ^^^ ((nI 1) <<< ((nI (x % 10)) &&& 31))) 5 = nI sent
        rw [pk_un (by omega)]; exact h8
