/-! joining and leaving, alike -/
theorem RFo_graft {rc rl rh fr co fa ic fc fg ab go : Nat → Int32} (hRt : RRt rc rl rh co fa) (hRo : RRo fr ic) (hF : RFo co fa ic fc fg ab go) {t r : Nat} (ht : t < 44) (hr : r < 10) :
    RFo co fa ic (f_X2_graft (tau t) r rh fr fc fg).1 (f_X2_graft (tau t) r rh fr fc fg).2 (f_X6_graft t r co fa ic ab go).1 (f_X6_graft t r co fa ic ab go).2 := by
  obtain ⟨h1, h2, h3, h4, h5, h6⟩ := graft_eq hRt hr (hRo t ht) (hF t ht).1 (hF t ht).2
  intro u hu
  by_cases e : u = t
  · subst e; exact ⟨h1, h2⟩
  · have hne : ¬ tau u = tau t := fun q => e (tau_inj hu ht q)
    exact ⟨RTr_SR (hF u hu).1 (SR_of h3 hne) (SR_of h4 hne) (SR_of h5 e) (SR_of h6 e), TInv_SR (hF u hu).2 (SR_of h5 e) (SR_of h6 e)⟩
theorem RWa_sh {fw me sw : Nat → Int32} (h : RWa fw me sw) {g : Nat} (hg : g < 4) {v : Int32} (hv : B10 v) : RWa (upd fw g v) (upd me g v) sw := by
  refine ⟨fun i hi => ?_, fun i s hi hs => ?_, fun T hT => ?_⟩
  · by_cases e : i = g
    · subst e; rw [pk_us, pk_us]
    · rw [pk_un e, pk_un e]; exact h.1 i hi
  · rw [pk_un (by omega)]; exact h.2.1 i s hi hs
  · by_cases e : T = g
    · subst e; rw [pk_us]; exact hv
    · rw [pk_un e]; exact h.2.2 T hT
theorem RWa_sr {fw me sw : Nat → Int32} (h : RWa fw me sw) {g s : Nat} (hg : g < 4) (hs : s < 10) {v : Int32} (hv : B10 v) : RWa (upd fw (4 + g * 10 + s) v) me (upd sw (10 * g + s) v) := by
  refine ⟨fun i hi => ?_, fun i j hi hj => ?_, fun T hT => ?_⟩
  · rw [pk_un (by omega)]; exact h.1 i hi
  · by_cases e : i = g ∧ j = s
    · obtain ⟨rfl, rfl⟩ := e; rw [pk_us, pk_us]
    · rw [pk_un (by omega), pk_un (by omega)]; exact h.2.1 i j hi hj
  · by_cases e : T = 4 + g * 10 + s
    · rw [e, pk_us]; exact hv
    · rw [pk_un e]; exact h.2.2 T hT
theorem member_eq {fw me sw : Nat → Int32} (h : RWa fw me sw) {r g : Nat} (hr : r < 10) (hg : g < 4) : f_X5_has (fw g) r = f_X6_isMember r g me := by
  rw [has_bt _ hr, h.1 g hg]
  unfold f_X6_isMember
  by_cases q : ((me g >>> ((nI r) &&& 31)) &&& (nI 1)) = nI 1
  · rw [if_pos q, (shr_1 _ hr).mp q]
  · rw [if_neg q]
    cases e : bt (me g) r
    · rfl
    · exact absurd ((shr_1 _ hr).mpr e) q
/-- a router joins -/
theorem join_eq {rc rl rh fr fw co fa ic me sw fc fg ab go : Nat → Int32} (hRt : RRt rc rl rh co fa) (hW : RWa fw me sw) (hRo : RRo fr ic) (hF : RFo co fa ic fc fg ab go) {r g : Nat} (hr : r < 10) (hg : g < 4) :
    f_J6_bitCount_0f7a4 ((upd fw g ((fw g) ||| ((nI 1) <<< ((nI r) &&& 31)))) g) = f_X6_many ((upd me g ((me g) ||| ((nI 1) <<< ((nI r) &&& 31)))) g) ∧
    RWa (upd fw g ((fw g) ||| ((nI 1) <<< ((nI r) &&& 31)))) (upd me g ((me g) ||| ((nI 1) <<< ((nI r) &&& 31)))) sw ∧
    RFo co fa ic (f_X2_graft g r rh fr fc fg).1 (f_X2_graft g r rh fr fc fg).2 (f_X6_graft ((11 * g) + 10) r co fa ic ab go).1 (f_X6_graft ((11 * g) + 10) r co fa ic ab go).2 := by
  have hB : B10 ((fw g) ||| ((nI 1) <<< ((nI r) &&& 31))) := B10_or (hW.2.2 g (by omega)) hr
  rw [← hW.1 g hg]
  refine ⟨?_, RWa_sh hW hg hB, ?_⟩
  · rw [pk_us, pk_us]; exact count_eq hB
  · have h := RFo_graft hRt hRo hF (t := 11 * g + 10) (by omega) hr
    rw [tau_shr] at h
    exact h
/-- a look at a tree speaks of that tree only -/
theorem ll_cong {T r : Nat} {sec : Int32} {fw fw2 fc fg fg2 : Nat → Int32} (h1 : fw T = fw2 T) (h2 : SR T fg fg2) (hr : r < 10) : SR T (f_X2_letLeave T r sec fw fc fg) (f_X2_letLeave T r sec fw2 fc fg2) := fun e he => by
  have hn : f_X2_isNeeded T r fw fc = f_X2_isNeeded T r fw2 fc := by unfold f_X2_isNeeded; rw [h1]
  unfold f_X2_letLeave
  rw [hn, h2 (T * 10 + r) (by omega)]
  split
  · exact h2 e he
  · split
    · exact h2 e he
    · split
      · by_cases q : e = T * 10 + r
        · rw [q, pk_us, pk_us]
        · rw [pk_un q, pk_un q]; exact h2 e he
      · exact h2 e he
theorem lk_cong {t r : Nat} {clk : Int32} {me sw ab go go2 : Nat → Int32} (h2 : SR t go go2) (hr : r < 10) : SR t (f_X6_looks t r me sw ab go clk) (f_X6_looks t r me sw ab go2 clk) := fun e he => by
  unfold f_X6_looks
  rw [h2 (10 * t + r) (by omega)]
  split
  · exact h2 e he
  · split
    · split
      · exact h2 e he
      · split
        · by_cases q : e = 10 * t + r
          · rw [q, pk_us, pk_us]
          · rw [pk_un q, pk_un q]; exact h2 e he
        · exact h2 e he
    · exact h2 e he
theorem SR.refl {T : Nat} (x : Nat → Int32) : SR T x x := fun _ _ => rfl
theorem SR.trans {T : Nat} {x y z : Nat → Int32} (h : SR T x y) (h2 : SR T y z) : SR T x z := fun e he => (h e he).trans (h2 e he)
theorem ll_fr {T r : Nat} {sec : Int32} {fw fc fg : Nat → Int32} (hr : r < 10) : Fr T fg (f_X2_letLeave T r sec fw fc fg) := fun e he => ll_other (by omega)
theorem lk_fr {t r : Nat} {clk : Int32} {me sw ab go : Nat → Int32} (hr : r < 10) : Fr t go (f_X6_looks t r me sw ab go clk) := fun e he => looks_other (by omega)
def off (r : Nat) (x : Int32) : Int32 := x &&& (((nI 1) <<< ((nI r) &&& 31)) ^^^ (-1))
/-- the sets when a router left g and g's trees before k -/
def FW (r g k : Nat) (fw : Nat → Int32) : Nat → Int32 := fun e => if e = g ∨ (4 + g * 10 ≤ e ∧ e < 4 + g * 10 + k) then off r (fw e) else fw e
theorem leave_c {r g : Nat} {fw fc fg ct : Nat → Int32} {now : Int32} (hr : r < 10) (hg : g < 4) : ∀ (n k : Nat) (fw1 fg1 ct1 : Nat → Int32), k + n = 10 →
    (∀ e, fw1 e = FW r g k fw e) →
    (∀ T, ((T = g ∨ (4 + g * 10 ≤ T ∧ T < 4 + g * 10 + k)) → SR T (f_X2_letLeave T r now (FW r g 10 fw) fc fg) fg1) ∧ (¬ (T = g ∨ (4 + g * 10 ≤ T ∧ T < 4 + g * 10 + k)) → SR T fg fg1)) →
    (∀ m s g2, m < 10 → s < 10 → g2 < 4 → ct1 ((g2 * 10 + s) * 10 + m) = if g2 = g ∧ m = r ∧ s < k then nI 0 else ct ((g2 * 10 + s) * 10 + m)) →
    ∃ fwR fgR ctR, f_X5_leave_L45 r g fc now n k fw1 fg1 ct1 = (f_J6_bitCount_0f7a4 (fwR g), fwR, fgR, ctR) ∧ (∀ e, fwR e = FW r g 10 fw e) ∧
    (∀ T, ((T = g ∨ (4 + g * 10 ≤ T ∧ T < 4 + g * 10 + 10)) → SR T (f_X2_letLeave T r now (FW r g 10 fw) fc fg) fgR) ∧ (¬ (T = g ∨ (4 + g * 10 ≤ T ∧ T < 4 + g * 10 + 10)) → SR T fg fgR)) ∧
    (∀ m s g2, m < 10 → s < 10 → g2 < 4 → ctR ((g2 * 10 + s) * 10 + m) = if g2 = g ∧ m = r then nI 0 else ct ((g2 * 10 + s) * 10 + m)) := by
  intro n
  induction n with
  | zero =>
    intro k fw1 fg1 ct1 hk h1 h2 h3
    obtain rfl : k = 10 := by omega
    rw [f_X5_leave_L45]
    refine ⟨fw1, fg1, ct1, rfl, h1, h2, fun m s g2 hm hs hg2 => ?_⟩
    rw [h3 m s g2 hm hs hg2]
    by_cases q : g2 = g ∧ m = r
    · rw [if_pos q, if_pos ⟨q.1, q.2, hs⟩]
    · rw [if_neg q, if_neg (fun z => q ⟨z.1, z.2.1⟩)]
  | succ n ih =>
    intro k fw1 fg1 ct1 hk h1 h2 h3
    rw [f_X5_leave_L45]
    have hold : fw1 (4 + g * 10 + k) = fw (4 + g * 10 + k) := by rw [h1]; unfold FW; rw [if_neg (by omega)]
    have hfw : ∀ e, upd fw1 (4 + g * 10 + k) ((fw1 (4 + g * 10 + k)) &&& (((nI 1) <<< ((nI r) &&& 31)) ^^^ (-1))) e = FW r g (k + 1) fw e := fun e => by
      by_cases q : e = 4 + g * 10 + k
      · rw [q, pk_us, hold]; unfold FW; rw [if_pos (by omega)]; rfl
      · rw [pk_un q, h1]; unfold FW
        by_cases q2 : e = g ∨ (4 + g * 10 ≤ e ∧ e < 4 + g * 10 + k)
        · rw [if_pos q2, if_pos (by omega)]
        · rw [if_neg q2, if_neg (by omega)]
    refine ih (k + 1) _ _ _ (by omega) hfw (fun T => ?_) (fun m s g2 hm hs hg2 => ?_)
    · by_cases q : T = 4 + g * 10 + k
      · subst q
        refine ⟨fun _ => ll_cong ?_ ((h2 _).2 (by omega)) hr, fun z => absurd (by omega) z⟩
        rw [hfw]; unfold FW; rw [if_pos (by omega), if_pos (by omega)]
      · have hs := SR_of (ll_fr (T := 4 + g * 10 + k) (r := r) (sec := now) (fw := upd fw1 (4 + g * 10 + k) ((fw1 (4 + g * 10 + k)) &&& (((nI 1) <<< ((nI r) &&& 31)) ^^^ (-1)))) (fc := fc) (fg := fg1) hr) q
        exact ⟨fun z => ((h2 T).1 (by omega)).trans hs, fun z => ((h2 T).2 (by omega)).trans hs⟩
    · by_cases q : (g2 * 10 + s) * 10 + m = ((g * 10 + k) * 10) + r
      · rw [q, pk_us, if_pos (by omega)]
      · rw [pk_un q, h3 m s g2 hm hs hg2]
        by_cases q2 : g2 = g ∧ m = r ∧ s < k
        · rw [if_pos q2, if_pos ⟨q2.1, q2.2.1, by omega⟩]
        · rw [if_neg q2, if_neg (fun z => q2 ⟨z.1, z.2.1, by omega⟩)]
