/-! one step -/
theorem follows_L {k mn : Nat} {rc rl rh fr ps pg lE lC : Nat → Int32} {cand lim now : Int32} {sent : Nat} : ∀ (n j : Nat) (fw fc fg pr pd qp qt qf qo ct : Nat → Int32) (was : Int32) (qfi qsz : Nat), INV k rc rl rh fr fw fc fg ps pg pr pd qp qt qf qo lE lC cand lim now sent qfi qsz → (f_L_follows_L4 mn rc rh fr ps pg lim n j true fw fc fg pr pd qp qt qf qo ct was qfi qsz).1 = true ∧ INV k rc rl rh fr ((f_L_follows_L4 mn rc rh fr ps pg lim n j true fw fc fg pr pd qp qt qf qo ct was qfi qsz).2.1) ((f_L_follows_L4 mn rc rh fr ps pg lim n j true fw fc fg pr pd qp qt qf qo ct was qfi qsz).2.2.1) ((f_L_follows_L4 mn rc rh fr ps pg lim n j true fw fc fg pr pd qp qt qf qo ct was qfi qsz).2.2.2.1) ps pg ((f_L_follows_L4 mn rc rh fr ps pg lim n j true fw fc fg pr pd qp qt qf qo ct was qfi qsz).2.2.2.2.1) ((f_L_follows_L4 mn rc rh fr ps pg lim n j true fw fc fg pr pd qp qt qf qo ct was qfi qsz).2.2.2.2.2.1) ((f_L_follows_L4 mn rc rh fr ps pg lim n j true fw fc fg pr pd qp qt qf qo ct was qfi qsz).2.2.2.2.2.2.1) ((f_L_follows_L4 mn rc rh fr ps pg lim n j true fw fc fg pr pd qp qt qf qo ct was qfi qsz).2.2.2.2.2.2.2.1) ((f_L_follows_L4 mn rc rh fr ps pg lim n j true fw fc fg pr pd qp qt qf qo ct was qfi qsz).2.2.2.2.2.2.2.2.1) ((f_L_follows_L4 mn rc rh fr ps pg lim n j true fw fc fg pr pd qp qt qf qo ct was qfi qsz).2.2.2.2.2.2.2.2.2.1) lE lC cand lim now sent ((f_L_follows_L4 mn rc rh fr ps pg lim n j true fw fc fg pr pd qp qt qf qo ct was qfi qsz).2.2.2.2.2.2.2.2.2.2.2.2.1) ((f_L_follows_L4 mn rc rh fr ps pg lim n j true fw fc fg pr pd qp qt qf qo ct was qfi qsz).2.2.2.2.2.2.2.2.2.2.2.2.2) := by
  intro n
  induction n with
  | zero =>
    intro j fw fc fg pr pd qp qt qf qo ct was qfi qsz h
    rw [f_L_follows_L4]
    exact ⟨rfl, h⟩
  | succ n ih =>
    intro j fw fc fg pr pd qp qt qf qo ct was qfi qsz h
    obtain ⟨-, -, -, -, -, -, hq⟩ := INV_lC h
    rw [f_L_follows_L4, if_pos rfl, follow_tell hq]
    exact ih (j + 1) _ _ _ _ _ _ _ _ _ _ _ _ _ (follow_ok h)
theorem u9 (y : Nat) : (if y % 2 = 0 then 0 else y / 2 % 4) < 4 := by split <;> omega
theorem step_l_ok {k : Nat} {rc rl rh fr fw fc fg ps pg pr pd qp qt qf qo lE lC ct : Nat → Int32} {cand lim now was : Int32} {sent qfi qsz : Nat} {x y : Nat} (h : INV k rc rl rh fr fw fc fg ps pg pr pd qp qt qf qo lE lC cand lim now sent qfi qsz)  : (f_L_step_l x y rc rl rh fr fw fc fg lE).1 = true ∧ INV (k + 1) ((f_L_step_l x y rc rl rh fr fw fc fg lE).2.1) ((f_L_step_l x y rc rl rh fr fw fc fg lE).2.2.1) ((f_L_step_l x y rc rl rh fr fw fc fg lE).2.2.2.1) fr fw ((f_L_step_l x y rc rl rh fr fw fc fg lE).2.2.2.2.1) ((f_L_step_l x y rc rl rh fr fw fc fg lE).2.2.2.2.2.1) ps pg pr pd qp qt qf qo ((f_L_step_l x y rc rl rh fr fw fc fg lE).2.2.2.2.2.2) lC cand lim now sent qfi qsz := by
  obtain ⟨h1, h2⟩ := links_ok (x := x) (y := y) h
  exact ⟨h1, INV_up h2⟩
theorem step_c_ok {k : Nat} {rc rl rh fr fw fc fg ps pg pr pd qp qt qf qo lE lC ct : Nat → Int32} {cand lim now was : Int32} {sent qfi qsz : Nat} {x y : Nat} (h : INV k rc rl rh fr fw fc fg ps pg pr pd qp qt qf qo lE lC cand lim now sent qfi qsz)  : (f_L_step_c x y rh fr fw fc fg lC cand).1 = true ∧ INV (k + 1) rc rl rh ((f_L_step_c x y rh fr fw fc fg lC cand).2.1) fw ((f_L_step_c x y rh fr fw fc fg lC cand).2.2.1) ((f_L_step_c x y rh fr fw fc fg lC cand).2.2.2.1) ps pg pr pd qp qt qf qo lE ((f_L_step_c x y rh fr fw fc fg lC cand).2.2.2.2.1) ((f_L_step_c x y rh fr fw fc fg lC cand).2.2.2.2.2) lim now sent qfi qsz := by
  obtain ⟨h1, h2⟩ := cand_ok (x := x) (y := y) h
  exact ⟨h1, INV_up h2⟩
theorem step_j_ok {k : Nat} {rc rl rh fr fw fc fg ps pg pr pd qp qt qf qo lE lC ct : Nat → Int32} {cand lim now was : Int32} {sent qfi qsz : Nat} {x y : Nat} (h : INV k rc rl rh fr fw fc fg ps pg pr pd qp qt qf qo lE lC cand lim now sent qfi qsz) (hk : k ≤ 100) : (f_L_step_j x y rh fr fw fc fg ct lC now).1 = true ∧ INV (k + 1) rc rl rh fr ((f_L_step_j x y rh fr fw fc fg ct lC now).2.1) ((f_L_step_j x y rh fr fw fc fg ct lC now).2.2.1) ((f_L_step_j x y rh fr fw fc fg ct lC now).2.2.2.1) ps pg pr pd qp qt qf qo lE ((f_L_step_j x y rh fr fw fc fg ct lC now).2.2.2.2.2) cand lim now sent qfi qsz := by
  obtain ⟨h1, h2⟩ := joins_ok (ct := ct) (was := was) h hk (r := x % 10) (g := j_L_step_j_9 y) (by omega) (u9 y)
  exact ⟨h1, INV_up h2⟩
theorem step_p_ok {k : Nat} {rc rl rh fr fw fc fg ps pg pr pd qp qt qf qo lE lC ct : Nat → Int32} {cand lim now was : Int32} {sent qfi qsz : Nat} {x y : Nat} (h : INV k rc rl rh fr fw fc fg ps pg pr pd qp qt qf qo lE lC cand lim now sent qfi qsz) (hk : k ≤ 100) : (f_L_step_p x y fw fc fg ct now).1 = true ∧ INV (k + 1) rc rl rh fr fw ((f_L_step_p x y fw fc fg ct now).2.1) ((f_L_step_p x y fw fc fg ct now).2.2.1) ps pg pr pd qp qt qf qo lE lC cand lim ((f_L_step_p x y fw fc fg ct now).2.2.2.2) sent qfi qsz := by
  have h9 : 1 ≤ j_L_step_p_154 x y ∧ j_L_step_p_154 x y ≤ 100 := by unfold j_L_step_p_154; split <;> omega
  exact pass_ok (ct := ct) (was := was) h hk h9.1 h9.2
theorem step_t_ok {k : Nat} {rc rl rh fr fw fc fg ps pg pr pd qp qt qf qo lE lC ct : Nat → Int32} {cand lim now was : Int32} {sent qfi qsz : Nat} {y : Nat} (h : INV k rc rl rh fr fw fc fg ps pg pr pd qp qt qf qo lE lC cand lim now sent qfi qsz)  : (f_L_step_t y lim).1 = true ∧ INV (k + 1) rc rl rh fr fw fc fg ps pg pr pd qp qt qf qo lE lC cand ((f_L_step_t y lim).2) now sent qfi qsz := by
  obtain ⟨h1, h2⟩ := limit_ok (y := y) h
  exact ⟨h1, INV_up h2⟩
theorem step_s_ok {k : Nat} {rc rl rh fr fw fc fg ps pg pr pd qp qt qf qo lE lC ct : Nat → Int32} {cand lim now was : Int32} {sent qfi qsz : Nat} {x y : Nat} (h : INV k rc rl rh fr fw fc fg ps pg pr pd qp qt qf qo lE lC cand lim now sent qfi qsz)  : (f_L_step_s x y rc rl rh fr fw fc fg ps pg pr pd qp qt qf qo ct lC lim was sent qfi qsz).1 = true ∧ INV (k + 1) rc rl rh fr ((f_L_step_s x y rc rl rh fr fw fc fg ps pg pr pd qp qt qf qo ct lC lim was sent qfi qsz).2.1) ((f_L_step_s x y rc rl rh fr fw fc fg ps pg pr pd qp qt qf qo ct lC lim was sent qfi qsz).2.2.1) ((f_L_step_s x y rc rl rh fr fw fc fg ps pg pr pd qp qt qf qo ct lC lim was sent qfi qsz).2.2.2.1) ((f_L_step_s x y rc rl rh fr fw fc fg ps pg pr pd qp qt qf qo ct lC lim was sent qfi qsz).2.2.2.2.1) ((f_L_step_s x y rc rl rh fr fw fc fg ps pg pr pd qp qt qf qo ct lC lim was sent qfi qsz).2.2.2.2.2.1) ((f_L_step_s x y rc rl rh fr fw fc fg ps pg pr pd qp qt qf qo ct lC lim was sent qfi qsz).2.2.2.2.2.2.1) ((f_L_step_s x y rc rl rh fr fw fc fg ps pg pr pd qp qt qf qo ct lC lim was sent qfi qsz).2.2.2.2.2.2.2.1) ((f_L_step_s x y rc rl rh fr fw fc fg ps pg pr pd qp qt qf qo ct lC lim was sent qfi qsz).2.2.2.2.2.2.2.2.1) ((f_L_step_s x y rc rl rh fr fw fc fg ps pg pr pd qp qt qf qo ct lC lim was sent qfi qsz).2.2.2.2.2.2.2.2.2.1) ((f_L_step_s x y rc rl rh fr fw fc fg ps pg pr pd qp qt qf qo ct lC lim was sent qfi qsz).2.2.2.2.2.2.2.2.2.2.1) ((f_L_step_s x y rc rl rh fr fw fc fg ps pg pr pd qp qt qf qo ct lC lim was sent qfi qsz).2.2.2.2.2.2.2.2.2.2.2.1) lE ((f_L_step_s x y rc rl rh fr fw fc fg ps pg pr pd qp qt qf qo ct lC lim was sent qfi qsz).2.2.2.2.2.2.2.2.2.2.2.2.2.1) cand lim now ((f_L_step_s x y rc rl rh fr fw fc fg ps pg pr pd qp qt qf qo ct lC lim was sent qfi qsz).2.2.2.2.2.2.2.2.2.2.2.2.2.2.2.1) ((f_L_step_s x y rc rl rh fr fw fc fg ps pg pr pd qp qt qf qo ct lC lim was sent qfi qsz).2.2.2.2.2.2.2.2.2.2.2.2.2.2.2.2.1) ((f_L_step_s x y rc rl rh fr fw fc fg ps pg pr pd qp qt qf qo ct lC lim was sent qfi qsz).2.2.2.2.2.2.2.2.2.2.2.2.2.2.2.2.2) := by
  obtain ⟨-, -, -, h200, -, h2, -⟩ := INV_lC h
  unfold f_L_step_s
  by_cases c1 : 0 < nI qsz
  · rw [if_pos c1]
    exact ⟨rfl, INV_up h⟩
  · rw [if_neg c1]
    by_cases c2 : sent = 200
    · rw [if_pos c2]
      exact ⟨rfl, INV_up h⟩
    · have hz : qsz = 0 := by
        rcases Nat.eq_zero_or_pos qsz with e | e
        · exact e
        · exact absurd ((nI_ltI (show 0 < 2147483648 by omega) (show qsz < 2147483648 by omega)).mpr e) c1
      obtain ⟨h3, h4⟩ := packet_ok (ct := ct) (was := was) h (s := (x / 10) % 3) (g := j_L_step_s_9 y) (by omega) (u9 y) (by omega) hz
      rw [if_neg c2, if_pos h3]
      exact ⟨rfl, INV_up h4⟩
theorem step_o_ok {k : Nat} {rc rl rh fr fw fc fg ps pg pr pd qp qt qf qo lE lC ct : Nat → Int32} {cand lim now was : Int32} {sent qfi qsz : Nat} {x y : Nat} (h : INV k rc rl rh fr fw fc fg ps pg pr pd qp qt qf qo lE lC cand lim now sent qfi qsz)  : (f_L_step_o x y rc rl rh fr fw fc fg ps pg pr pd qp qt qf qo ct lC lim was sent qfi qsz).1 = true ∧ INV (k + 1) rc rl rh fr ((f_L_step_o x y rc rl rh fr fw fc fg ps pg pr pd qp qt qf qo ct lC lim was sent qfi qsz).2.1) ((f_L_step_o x y rc rl rh fr fw fc fg ps pg pr pd qp qt qf qo ct lC lim was sent qfi qsz).2.2.1) ((f_L_step_o x y rc rl rh fr fw fc fg ps pg pr pd qp qt qf qo ct lC lim was sent qfi qsz).2.2.2.1) ((f_L_step_o x y rc rl rh fr fw fc fg ps pg pr pd qp qt qf qo ct lC lim was sent qfi qsz).2.2.2.2.1) ((f_L_step_o x y rc rl rh fr fw fc fg ps pg pr pd qp qt qf qo ct lC lim was sent qfi qsz).2.2.2.2.2.1) ((f_L_step_o x y rc rl rh fr fw fc fg ps pg pr pd qp qt qf qo ct lC lim was sent qfi qsz).2.2.2.2.2.2.1) ((f_L_step_o x y rc rl rh fr fw fc fg ps pg pr pd qp qt qf qo ct lC lim was sent qfi qsz).2.2.2.2.2.2.2.1) ((f_L_step_o x y rc rl rh fr fw fc fg ps pg pr pd qp qt qf qo ct lC lim was sent qfi qsz).2.2.2.2.2.2.2.2.1) ((f_L_step_o x y rc rl rh fr fw fc fg ps pg pr pd qp qt qf qo ct lC lim was sent qfi qsz).2.2.2.2.2.2.2.2.2.1) ((f_L_step_o x y rc rl rh fr fw fc fg ps pg pr pd qp qt qf qo ct lC lim was sent qfi qsz).2.2.2.2.2.2.2.2.2.2.1) ((f_L_step_o x y rc rl rh fr fw fc fg ps pg pr pd qp qt qf qo ct lC lim was sent qfi qsz).2.2.2.2.2.2.2.2.2.2.2.1) lE ((f_L_step_o x y rc rl rh fr fw fc fg ps pg pr pd qp qt qf qo ct lC lim was sent qfi qsz).2.2.2.2.2.2.2.2.2.2.2.2.2.1) cand lim now ((f_L_step_o x y rc rl rh fr fw fc fg ps pg pr pd qp qt qf qo ct lC lim was sent qfi qsz).2.2.2.2.2.2.2.2.2.2.2.2.2.2.2.1) ((f_L_step_o x y rc rl rh fr fw fc fg ps pg pr pd qp qt qf qo ct lC lim was sent qfi qsz).2.2.2.2.2.2.2.2.2.2.2.2.2.2.2.2.1) ((f_L_step_o x y rc rl rh fr fw fc fg ps pg pr pd qp qt qf qo ct lC lim was sent qfi qsz).2.2.2.2.2.2.2.2.2.2.2.2.2.2.2.2.2) := by
  obtain ⟨-, -, -, h200, -, h2, -⟩ := INV_lC h
  unfold f_L_step_o
  by_cases c1 : 200 ≤ sent
  · rw [if_pos c1]
    obtain ⟨h3, h4, h5⟩ := followAll_ok (ct := ct) (was := was) h
    refine ⟨?_, INV_up h5⟩
    show j_L_step_o_320 rc rh fr fw fc fg ps pg pr pd qp qt qf qo ct lim was qfi qsz = true
    have e : s_L_step_o_317 rc rh fr fw fc fg ps pg pr pd qp qt qf qo ct lim was qfi qsz = f_X5_followAll rc rh fr fw fc fg ps pg pr pd qp qt qf qo ct lim was qfi qsz := rfl
    unfold j_L_step_o_320
    rw [e, if_neg h3, if_pos h4]
  · rw [if_neg c1]
    refine ⟨?_, INV_up (send_ok (ct := ct) (was := was) h (s := x % 10) (g := j_L_step_o_9 y) (by omega) (u9 y) (by omega))⟩
    show j_L_step_o_276 x y rl rh fr fw fc fg ps pg pr pd qp qt qf qo ct lim was sent qfi qsz = true
    have e : s_L_step_o_269 x y rl rh fr fw fc fg ps pg pr pd qp qt qf qo ct lim was sent qfi qsz = f_X5_send (x % 10) (j_L_step_o_9 y) rl rh fr fw fc fg ps pg pr pd qp qt qf qo ct lim was sent qfi qsz := rfl
    unfold j_L_step_o_276
    rw [e, send_ret, if_pos rfl]
theorem step_f_ok {k : Nat} {rc rl rh fr fw fc fg ps pg pr pd qp qt qf qo lE lC ct : Nat → Int32} {cand lim now was : Int32} {sent qfi qsz : Nat} {y : Nat} (h : INV k rc rl rh fr fw fc fg ps pg pr pd qp qt qf qo lE lC cand lim now sent qfi qsz)  : (f_L_step_f y rc rh fr fw fc fg ps pg pr pd qp qt qf qo ct lim was qfi qsz).1 = true ∧ INV (k + 1) rc rl rh fr ((f_L_step_f y rc rh fr fw fc fg ps pg pr pd qp qt qf qo ct lim was qfi qsz).2.1) ((f_L_step_f y rc rh fr fw fc fg ps pg pr pd qp qt qf qo ct lim was qfi qsz).2.2.1) ((f_L_step_f y rc rh fr fw fc fg ps pg pr pd qp qt qf qo ct lim was qfi qsz).2.2.2.1) ps pg ((f_L_step_f y rc rh fr fw fc fg ps pg pr pd qp qt qf qo ct lim was qfi qsz).2.2.2.2.1) ((f_L_step_f y rc rh fr fw fc fg ps pg pr pd qp qt qf qo ct lim was qfi qsz).2.2.2.2.2.1) ((f_L_step_f y rc rh fr fw fc fg ps pg pr pd qp qt qf qo ct lim was qfi qsz).2.2.2.2.2.2.1) ((f_L_step_f y rc rh fr fw fc fg ps pg pr pd qp qt qf qo ct lim was qfi qsz).2.2.2.2.2.2.2.1) ((f_L_step_f y rc rh fr fw fc fg ps pg pr pd qp qt qf qo ct lim was qfi qsz).2.2.2.2.2.2.2.2.1) ((f_L_step_f y rc rh fr fw fc fg ps pg pr pd qp qt qf qo ct lim was qfi qsz).2.2.2.2.2.2.2.2.2.1) lE lC cand lim now sent ((f_L_step_f y rc rh fr fw fc fg ps pg pr pd qp qt qf qo ct lim was qfi qsz).2.2.2.2.2.2.2.2.2.2.2.2.1) ((f_L_step_f y rc rh fr fw fc fg ps pg pr pd qp qt qf qo ct lim was qfi qsz).2.2.2.2.2.2.2.2.2.2.2.2.2) := by
  obtain ⟨h1, h2⟩ := follows_L (mn := 1 + y % 7) (1 + y % 7) 0 fw fc fg pr pd qp qt qf qo ct was qfi qsz h
  exact ⟨h1, INV_up h2⟩
theorem step_a_ok {k : Nat} {rc rl rh fr fw fc fg ps pg pr pd qp qt qf qo lE lC ct : Nat → Int32} {cand lim now was : Int32} {sent qfi qsz : Nat} (h : INV k rc rl rh fr fw fc fg ps pg pr pd qp qt qf qo lE lC cand lim now sent qfi qsz)  : (f_L_step_a rc rh fr fw fc fg ps pg pr pd qp qt qf qo ct lim was qfi qsz).1 = true ∧ INV (k + 1) rc rl rh fr ((f_L_step_a rc rh fr fw fc fg ps pg pr pd qp qt qf qo ct lim was qfi qsz).2.1) ((f_L_step_a rc rh fr fw fc fg ps pg pr pd qp qt qf qo ct lim was qfi qsz).2.2.1) ((f_L_step_a rc rh fr fw fc fg ps pg pr pd qp qt qf qo ct lim was qfi qsz).2.2.2.1) ps pg ((f_L_step_a rc rh fr fw fc fg ps pg pr pd qp qt qf qo ct lim was qfi qsz).2.2.2.2.1) ((f_L_step_a rc rh fr fw fc fg ps pg pr pd qp qt qf qo ct lim was qfi qsz).2.2.2.2.2.1) ((f_L_step_a rc rh fr fw fc fg ps pg pr pd qp qt qf qo ct lim was qfi qsz).2.2.2.2.2.2.1) ((f_L_step_a rc rh fr fw fc fg ps pg pr pd qp qt qf qo ct lim was qfi qsz).2.2.2.2.2.2.2.1) ((f_L_step_a rc rh fr fw fc fg ps pg pr pd qp qt qf qo ct lim was qfi qsz).2.2.2.2.2.2.2.2.1) ((f_L_step_a rc rh fr fw fc fg ps pg pr pd qp qt qf qo ct lim was qfi qsz).2.2.2.2.2.2.2.2.2.1) lE lC cand lim now sent ((f_L_step_a rc rh fr fw fc fg ps pg pr pd qp qt qf qo ct lim was qfi qsz).2.2.2.2.2.2.2.2.2.2.2.2.1) ((f_L_step_a rc rh fr fw fc fg ps pg pr pd qp qt qf qo ct lim was qfi qsz).2.2.2.2.2.2.2.2.2.2.2.2.2) := by
  obtain ⟨h3, h4, h5⟩ := followAll_ok (ct := ct) (was := was) h
  refine ⟨?_, INV_up h5⟩
  show j_L_step_a_320 rc rh fr fw fc fg ps pg pr pd qp qt qf qo ct lim was qfi qsz = true
  have e : s_L_step_a_317 rc rh fr fw fc fg ps pg pr pd qp qt qf qo ct lim was qfi qsz = f_X5_followAll rc rh fr fw fc fg ps pg pr pd qp qt qf qo ct lim was qfi qsz := rfl
  unfold j_L_step_a_320
  rw [e, if_neg h3, if_pos h4]
/-- a world in which it all holds -/
def WI (k : Nat) (cI : ClassId) (ad : Nat → Nat) (w : va_W) : Prop := ∃ (rc rl rh fr fw fc fg ps pg pr pd qp qt qf qo ct lE lC : Nat → Int32) (cand lim now was : Int32) (sent qfi qsz : Nat), w = wC cI ad rc rl rh fr fw fc fg ps pg pr pd qp qt qf qo ct lE lC cand lim now was (nI sent) (nI qfi) (nI qsz) ∧ INV k rc rl rh fr fw fc fg ps pg pr pd qp qt qf qo lE lC cand lim now sent qfi qsz
/-- room that a step takes -/
def RmOk (rm : Room) : Prop := (rm.cells = 0 ∧ rm.slots = 0) ∧ rm.frames ≤ 8 ∧ rm.locals ≤ 201
theorem WI_step (l : Launch) (D : va_G) (cI cZ : ClassId) (ad : Nat → Nat) {k : Nat} {w : va_W} (h : WI k cI ad w) (hk : k ≤ 100) (wh x y : Nat) (hw : wh < 13) (hx : x < 1073741824) (hy : y < 1073741824) :
    ∃ (rm : Room) (w' : va_W), RmOk rm ∧ WI (k + 1) cI ad w' ∧ MI l yL_step cL_step 10 .boolean rm D (TY cI cZ) [.ref (ad 0), .int (nI wh), .int (nI x), .int (nI y), .ref (ad 22), .ref (ad 23)] w w' (bI true) := by
  obtain ⟨rc, rl, rh, fr, fw, fc, fg, ps, pg, pr, pd, qp, qt, qf, qo, ct, lE, lC, cand, lim, now, was, sent, qfi, qsz, rfl, hI⟩ := h
  obtain ⟨hc5, hcs, hroots, h200, hqfi, hqsz, hqa⟩ := INV_lC hI
  by_cases c : wh ≤ 1
  · obtain ⟨h1, h2⟩ := step_l_ok (ct := ct) (was := was) (x := x) (y := y) hI
    have hM := c_L_step_l l D cI cZ ad rc rl rh fr fw fc fg ps pg pr pd qp qt qf qo ct lE lC cand lim now was sent qfi qsz wh x y hw hx hy (Nat.zero_le _) c
    rw [h1] at hM
    exact ⟨_, _, ⟨⟨rfl, rfl⟩, by decide, by decide⟩, ⟨_, _, _, _, _, _, _, _, _, _, _, _, _, _, _, _, _, _, _, _, _, _, _, _, _, rfl, h2⟩, hM⟩
  by_cases c : wh = 2
  · subst c
    obtain ⟨h1, h2⟩ := step_c_ok (ct := ct) (was := was) (x := x) (y := y) hI
    have hM := c_L_step_c l D cI cZ ad rc rl rh fr fw fc fg ps pg pr pd qp qt qf qo ct lE lC cand lim now was sent qfi qsz x y hx hy
    rw [h1] at hM
    exact ⟨_, _, ⟨⟨rfl, rfl⟩, by decide, by decide⟩, ⟨_, _, _, _, _, _, _, _, _, _, _, _, _, _, _, _, _, _, _, _, _, _, _, _, _, rfl, h2⟩, hM⟩
  by_cases c : wh ≤ 5
  · obtain ⟨h1, h2⟩ := step_j_ok (ct := ct) (was := was) (x := x) (y := y) hI hk
    have hM := c_L_step_j l D cI cZ ad rc rl rh fr fw fc fg ps pg pr pd qp qt qf qo ct lE lC cand lim now was sent qfi qsz wh x y hw hx hy (by omega) c hcs
    rw [h1] at hM
    exact ⟨_, _, ⟨⟨rfl, rfl⟩, by decide, by decide⟩, ⟨_, _, _, _, _, _, _, _, _, _, _, _, _, _, _, _, _, _, _, _, _, _, _, _, _, rfl, h2⟩, hM⟩
  by_cases c : wh = 6
  · subst c
    obtain ⟨h1, h2⟩ := step_p_ok (ct := ct) (was := was) (x := x) (y := y) hI hk
    have hM := c_L_step_p l D cI cZ ad rc rl rh fr fw fc fg ps pg pr pd qp qt qf qo ct lE lC cand lim now was sent qfi qsz x y hx hy
    rw [h1] at hM
    exact ⟨_, _, ⟨⟨rfl, rfl⟩, by decide, by decide⟩, ⟨_, _, _, _, _, _, _, _, _, _, _, _, _, _, _, _, _, _, _, _, _, _, _, _, _, rfl, h2⟩, hM⟩
  by_cases c : wh = 7
  · subst c
    obtain ⟨h1, h2⟩ := step_t_ok (ct := ct) (was := was) (y := y) hI
    have hM := c_L_step_t l D cI cZ ad rc rl rh fr fw fc fg ps pg pr pd qp qt qf qo ct lE lC cand lim now was sent qfi qsz x y hx hy
    rw [h1] at hM
    exact ⟨_, _, ⟨⟨rfl, rfl⟩, by decide, by decide⟩, ⟨_, _, _, _, _, _, _, _, _, _, _, _, _, _, _, _, _, _, _, _, _, _, _, _, _, rfl, h2⟩, hM⟩
  by_cases c : wh ≤ 9
  · obtain ⟨h1, h2⟩ := step_s_ok (ct := ct) (was := was) (x := x) (y := y) hI
    have hM := c_L_step_s l D cI cZ ad rc rl rh fr fw fc fg ps pg pr pd qp qt qf qo ct lE lC cand lim now was sent qfi qsz wh x y hw hx hy h200 hqfi hqsz (by omega) c hc5 hroots (fun s g hs hg h => INV_eAs hI ct was hs hg h)
    rw [h1] at hM
    exact ⟨_, _, ⟨⟨rfl, rfl⟩, by decide, by decide⟩, ⟨_, _, _, _, _, _, _, _, _, _, _, _, _, _, _, _, _, _, _, _, _, _, _, _, _, rfl, h2⟩, hM⟩
  by_cases c : wh = 10
  · subst c
    obtain ⟨h1, h2⟩ := step_o_ok (ct := ct) (was := was) (x := x) (y := y) hI
    have hM := c_L_step_o l D cI cZ ad rc rl rh fr fw fc fg ps pg pr pd qp qt qf qo ct lE lC cand lim now was sent qfi qsz x y hx hy h200 hqfi hqsz hc5 (INV_eA hI ct was)
    rw [h1] at hM
    exact ⟨_, _, ⟨⟨rfl, rfl⟩, by decide, by decide⟩, ⟨_, _, _, _, _, _, _, _, _, _, _, _, _, _, _, _, _, _, _, _, _, _, _, _, _, rfl, h2⟩, hM⟩
  by_cases c : wh = 11
  · subst c
    obtain ⟨h1, h2⟩ := step_f_ok (ct := ct) (was := was) (y := y) hI
    have hM := c_L_step_f l D cI cZ ad rc rl rh fr fw fc fg ps pg pr pd qp qt qf qo ct lE lC cand lim now was sent qfi qsz x y hx hy h200 hqfi hqsz hqa
    rw [h1] at hM
    exact ⟨_, _, ⟨⟨rfl, rfl⟩, by decide, by decide⟩, ⟨_, _, _, _, _, _, _, _, _, _, _, _, _, _, _, _, _, _, _, _, _, _, _, _, _, rfl, h2⟩, hM⟩
  obtain rfl : wh = 12 := by omega
  obtain ⟨h1, h2⟩ := step_a_ok (ct := ct) (was := was)  hI
  have hM := c_L_step_a l D cI cZ ad rc rl rh fr fw fc fg ps pg pr pd qp qt qf qo ct lE lC cand lim now was sent qfi qsz x y hx hy h200 hqfi hqsz (INV_eA hI ct was)
  rw [h1] at hM
  exact ⟨_, _, ⟨⟨rfl, rfl⟩, by decide, by decide⟩, ⟨_, _, _, _, _, _, _, _, _, _, _, _, _, _, _, _, _, _, _, _, _, _, _, _, _, rfl, h2⟩, hM⟩
theorem WI_areRoutes (l : Launch) (D : va_G) (cI cZ : ClassId) (ad : Nat → Nat) {k : Nat} {w : va_W} (h : WI k cI ad w) (r : Nat) (hr : r < 10) : MI l yL_areRoutes cL_areRoutes 11 .boolean { frames := 3, cells := 0, slots := 0, locals := 66 } D (TY cI cZ) [.ref (ad 0), .ref (ad 22), .int (nI r)] w w (bI true) := by
  obtain ⟨rc, rl, rh, fr, fw, fc, fg, ps, pg, pr, pd, qp, qt, qf, qo, ct, lE, lC, cand, lim, now, was, sent, qfi, qsz, rfl, hI⟩ := h
  obtain ⟨hc5, hcs, hroots, h200, hqfi, hqsz, hqa⟩ := INV_lC hI
  have hM := c_L_areRoutes l D cI cZ ad rc rl rh fr fw fc fg ps pg pr pd qp qt qf qo ct lE lC cand lim now was sent qfi qsz r hr
  rw [(INV_reads hI hr hr (show 0 < 4 by omega)).1] at hM
  exact hM
theorem WI_areTrees (l : Launch) (D : va_G) (cI cZ : ClassId) (ad : Nat → Nat) {k : Nat} {w : va_W} (h : WI k cI ad w)  : MI l yL_areTrees cL_areTrees 4 .boolean { frames := 5, cells := 0, slots := 0, locals := 119 } D (TY cI cZ) [.ref (ad 0)] w w (bI true) := by
  obtain ⟨rc, rl, rh, fr, fw, fc, fg, ps, pg, pr, pd, qp, qt, qf, qo, ct, lE, lC, cand, lim, now, was, sent, qfi, qsz, rfl, hI⟩ := h
  obtain ⟨hc5, hcs, hroots, h200, hqfi, hqsz, hqa⟩ := INV_lC hI
  have hM := c_L_areTrees l D cI cZ ad rc rl rh fr fw fc fg ps pg pr pd qp qt qf qo ct lE lC cand lim now was sent qfi qsz hroots
  rw [(INV_reads hI (show 0 < 10 by omega) (show 0 < 10 by omega) (show 0 < 4 by omega)).2.1] at hM
  exact hM
theorem WI_areMembers (l : Launch) (D : va_G) (cI cZ : ClassId) (ad : Nat → Nat) {k : Nat} {w : va_W} (h : WI k cI ad w)  : MI l yL_areMembers cL_areMembers 6 .boolean { frames := 4, cells := 0, slots := 0, locals := 83 } D (TY cI cZ) [.ref (ad 0), .ref (ad 23)] w w (bI true) := by
  obtain ⟨rc, rl, rh, fr, fw, fc, fg, ps, pg, pr, pd, qp, qt, qf, qo, ct, lE, lC, cand, lim, now, was, sent, qfi, qsz, rfl, hI⟩ := h
  obtain ⟨hc5, hcs, hroots, h200, hqfi, hqsz, hqa⟩ := INV_lC hI
  have hM := c_L_areMembers l D cI cZ ad rc rl rh fr fw fc fg ps pg pr pd qp qt qf qo ct lE lC cand lim now was sent qfi qsz 
  rw [(INV_reads hI (show 0 < 10 by omega) (show 0 < 10 by omega) (show 0 < 4 by omega)).2.2.1] at hM
  exact hM
theorem WI_floods (l : Launch) (D : va_G) (cI cZ : ClassId) (ad : Nat → Nat) {k : Nat} {w : va_W} (h : WI k cI ad w) (s g : Nat) (hs : s < 10) (hg : g < 4) : MI l yL_floods cL_floods 9 .boolean { frames := 4, cells := 0, slots := 0, locals := 91 } D (TY cI cZ) [.ref (ad 0), .ref (ad 22), .int (nI s), .int (nI g)] w w (bI true) := by
  obtain ⟨rc, rl, rh, fr, fw, fc, fg, ps, pg, pr, pd, qp, qt, qf, qo, ct, lE, lC, cand, lim, now, was, sent, qfi, qsz, rfl, hI⟩ := h
  obtain ⟨hc5, hcs, hroots, h200, hqfi, hqsz, hqa⟩ := INV_lC hI
  have hM := c_L_floods l D cI cZ ad rc rl rh fr fw fc fg ps pg pr pd qp qt qf qo ct lE lC cand lim now was sent qfi qsz s g hs hg
  rw [(INV_reads hI hs hs hg).2.2.2] at hM
  exact hM
