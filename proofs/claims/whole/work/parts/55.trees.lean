/-! the class's number of the reference's tree t; all trees built anew; who is looked at -/
def tau (t : Nat) : Nat := if t % 11 = 10 then t / 11 else 4 + t / 11 * 10 + t % 11
theorem tau_lt {t : Nat} (h : t < 44) : tau t < 44 := by unfold tau; split <;> omega
theorem tau_inj {s t : Nat} (hs : s < 44) (ht : t < 44) (h : tau s = tau t) : s = t := by unfold tau at h; split at h <;> split at h <;> omega
theorem tau_src {g s : Nat} (hs : s < 10) : tau (11 * g + s) = 4 + g * 10 + s := by unfold tau; rw [if_neg (by omega)]; omega
theorem tau_shr (g : Nat) : tau (11 * g + 10) = g := by unfold tau; rw [if_pos (by omega)]; omega
/-- who wants a tree, alike -/
def RWa (fw me sw : Nat → Int32) : Prop := (∀ g, g < 4 → fw g = me g) ∧ (∀ g s, g < 4 → s < 10 → fw (4 + g * 10 + s) = sw (10 * g + s)) ∧ ∀ T, T < 44 → B10 (fw T)
theorem wants_eq {fw me sw : Nat → Int32} (h : RWa fw me sw) {t r : Nat} (ht : t < 44) (hr : r < 10) : f_X6_wants t r me sw = f_X5_has (fw (tau t)) r := by
  rw [has_bt _ hr]
  unfold f_X6_wants tau
  by_cases c : t % 11 = 10
  · rw [if_pos c, if_pos c, h.1 _ (by omega)]
    by_cases q : ((me (t / 11) >>> ((nI r) &&& 31)) &&& (nI 1)) = nI 1
    · rw [if_pos q, (shr_1 _ hr).mp q]
    · rw [if_neg q]
      cases e : bt (me (t / 11)) r
      · rfl
      · exact absurd ((shr_1 _ hr).mpr e) q
  · rw [if_neg c, if_neg c, h.2.1 _ _ (by omega) (by omega)]
    by_cases q : ((sw (10 * (t / 11) + t % 11) >>> ((nI r) &&& 31)) &&& (nI 1)) = nI 1
    · rw [if_pos q, (shr_1 _ hr).mp q]
    · rw [if_neg q]
      cases e : bt (sw (10 * (t / 11) + t % 11)) r
      · rfl
      · exact absurd ((shr_1 _ hr).mpr e) q
/-- roots, alike -/
def RRo (fr ic : Nat → Int32) : Prop := ∀ t, t < 44 → fr (tau t) = f_X6_root t ic
/-- all trees, alike -/
def RFo (co fa ic fc fg ab go : Nat → Int32) : Prop := ∀ t, t < 44 → RTr (tau t) t fc fg ab go ∧ TInv co fa (f_X6_root t ic) t ab go
theorem graft_fr_cL {rh fr fg : Nat → Int32} {T : Nat} : ∀ (n k : Nat) (x : Int32) (fc : Nat → Int32), Fr T fc (f_X2_graft_L13 T rh fr fg n k x fc).1 ∧ Fr T fg (f_X2_graft_L13 T rh fr fg n k x fc).2 := by
  intro n
  induction n with
  | zero => intro k x fc; rw [f_X2_graft_L13]; exact ⟨Fr.refl _, Fr.refl _⟩
  | succ n ih =>
    intro k x fc
    rw [f_X2_graft_L13]
    by_cases c : f_X5_isRouter_r x = true
    · rw [if_pos c]
      have hx := (isRouter_r c).2
      by_cases c2 : nI x.toNatClampNeg = fr T
      · rw [if_pos c2]; exact ⟨Fr.refl _, Fr.refl _⟩
      · rw [if_neg c2]
        by_cases c3 : fc (T * 10 + x.toNatClampNeg) = -1
        · rw [if_pos c3]
          obtain ⟨h1, h2⟩ := ih (k + 1) (f_X4_hopOf_r x.toNatClampNeg (fr T) rh) (upd fc (T * 10 + x.toNatClampNeg) (f_X4_hopOf_r x.toNatClampNeg (fr T) rh))
          exact ⟨(Fr_upd _ (by omega)).trans h1, h2⟩
        · rw [if_neg c3]; exact ⟨Fr.refl _, Fr_upd _ (by omega)⟩
    · rw [if_neg c]; exact ⟨Fr.refl _, Fr.refl _⟩
theorem graft_fr_c {rh fr fc fg : Nat → Int32} {T r : Nat} : Fr T fc (f_X2_graft T r rh fr fc fg).1 ∧ Fr T fg (f_X2_graft T r rh fr fc fg).2 := by
  unfold f_X2_graft
  exact graft_fr_cL 10 0 _ fc
theorem graft_fr_rL {co fa ic : Nat → Int32} {t : Nat} : ∀ (n : Nat) (x : Int32) (ab go : Nat → Int32), okA x → Fr t ab (f_X6_graft_L18 t co fa ic n x ab go).1 ∧ Fr t go (f_X6_graft_L18 t co fa ic n x ab go).2 := by
  intro n
  induction n with
  | zero => intro x ab go _; rw [f_X6_graft_L18]; exact ⟨Fr.refl _, Fr.refl _⟩
  | succ n ih =>
    intro x ab go hx
    rw [f_X6_graft_L18]
    by_cases c : x = -1
    · rw [if_pos c]; exact ⟨Fr.refl _, Fr.refl _⟩
    · rw [if_neg c]
      have hx2 := (hx.resolve_left c).2
      by_cases c2 : x.toNatClampNeg = (f_X6_root t ic).toNatClampNeg
      · rw [if_pos c2]; exact ⟨Fr.refl _, Fr.refl _⟩
      · rw [if_neg c2]
        by_cases c3 : ab (10 * t + x.toNatClampNeg) = -1
        · rw [if_pos c3, pk_us]
          obtain ⟨h1, h2⟩ := ih (f_X6_hop x.toNatClampNeg (f_X6_root t ic).toNatClampNeg co fa) (upd ab (10 * t + x.toNatClampNeg) (f_X6_hop x.toNatClampNeg (f_X6_root t ic).toNatClampNeg co fa)) (upd go (10 * t + x.toNatClampNeg) (-1)) (hop_ok _ _ _ _)
          exact ⟨(Fr_upd _ (by omega)).trans h1, (Fr_upd _ (by omega)).trans h2⟩
        · rw [if_neg c3]; exact ⟨Fr_upd _ (by omega), Fr_upd _ (by omega)⟩
theorem graft_fr_r {co fa ic ab go : Nat → Int32} {t r : Nat} (hr : r < 10) : Fr t ab (f_X6_graft t r co fa ic ab go).1 ∧ Fr t go (f_X6_graft t r co fa ic ab go).2 := by
  unfold f_X6_graft
  by_cases c : f_X6_root t ic = -1
  · rw [if_pos c]; exact ⟨Fr.refl _, Fr.refl _⟩
  · rw [if_neg c]; exact graft_fr_rL 11 _ ab go (okA_nI hr)
/-- one tree, all its routers -/
theorem tree_eq {rc rl rh fr fw co fa ic me sw : Nat → Int32} (hRt : RRt rc rl rh co fa) (hW : RWa fw me sw) {t : Nat} (ht : t < 44) (hfr : fr (tau t) = f_X6_root t ic) : ∀ (n k : Nat) (fc fg ab go : Nat → Int32), k + n = 10 →
    RTr (tau t) t fc fg ab go → TInv co fa (f_X6_root t ic) t ab go → GOut co fa (f_X6_root t ic) (tau t) t fc fg ab go (f_X2_buildAnew_L26 rh fr fw (tau t) n k fc fg) (f_X6_buildsAnew_L39 co fa ic me sw t n k ab go) := by
  intro n
  induction n with
  | zero =>
    intro k fc fg ab go _ hR hI
    rw [f_X2_buildAnew_L26, f_X6_buildsAnew_L39]
    exact ⟨hR, hI, Fr.refl _, Fr.refl _, Fr.refl _, Fr.refl _⟩
  | succ n ih =>
    intro k fc fg ab go hk hR hI
    rw [f_X2_buildAnew_L26, f_X6_buildsAnew_L39, wants_eq hW ht (by omega)]
    by_cases c : f_X5_has (fw (tau t)) k = true
    · rw [if_pos c, if_pos c]
      have h := graft_eq hRt (show k < 10 by omega) hfr hR hI
      exact (ih (k + 1) _ _ _ _ (by omega) h.1 h.2.1).step h.2.2.1 h.2.2.2.1 h.2.2.2.2.1 h.2.2.2.2.2
    · rw [if_neg c, if_neg c]
      exact ih (k + 1) _ _ _ _ (by omega) hR hI
theorem tree_fr_c {rh fr fw : Nat → Int32} {T : Nat} : ∀ (n k : Nat) (fc fg : Nat → Int32), Fr T fc (f_X2_buildAnew_L26 rh fr fw T n k fc fg).1 ∧ Fr T fg (f_X2_buildAnew_L26 rh fr fw T n k fc fg).2 := by
  intro n
  induction n with
  | zero => intro k fc fg; rw [f_X2_buildAnew_L26]; exact ⟨Fr.refl _, Fr.refl _⟩
  | succ n ih =>
    intro k fc fg
    rw [f_X2_buildAnew_L26]
    split
    · obtain ⟨h1, h2⟩ := graft_fr_c (rh := rh) (fr := fr) (fc := fc) (fg := fg) (T := T) (r := k)
      obtain ⟨h3, h4⟩ := ih (k + 1) (f_X2_graft T k rh fr fc fg).1 (f_X2_graft T k rh fr fc fg).2
      exact ⟨h1.trans h3, h2.trans h4⟩
    · exact ih (k + 1) fc fg
theorem tree_fr_r {co fa ic me sw : Nat → Int32} {t : Nat} : ∀ (n k : Nat) (ab go : Nat → Int32), k + n = 10 → Fr t ab (f_X6_buildsAnew_L39 co fa ic me sw t n k ab go).1 ∧ Fr t go (f_X6_buildsAnew_L39 co fa ic me sw t n k ab go).2 := by
  intro n
  induction n with
  | zero => intro k ab go _; rw [f_X6_buildsAnew_L39]; exact ⟨Fr.refl _, Fr.refl _⟩
  | succ n ih =>
    intro k ab go hk
    rw [f_X6_buildsAnew_L39]
    split
    · obtain ⟨h1, h2⟩ := graft_fr_r (co := co) (fa := fa) (ic := ic) (ab := ab) (go := go) (t := t) (show k < 10 by omega)
      obtain ⟨h3, h4⟩ := ih (k + 1) (f_X6_graft t k co fa ic ab go).1 (f_X6_graft t k co fa ic ab go).2 (by omega)
      exact ⟨h1.trans h3, h2.trans h4⟩
    · exact ih (k + 1) ab go (by omega)
def SR (T : Nat) (x y : Nat → Int32) : Prop := ∀ e, e / 10 = T → x e = y e
theorem SR_of {S T : Nat} {x y : Nat → Int32} (h : Fr S x y) (hne : ¬ T = S) : SR T x y := fun e he => (h e (by omega)).symm
theorem all_c {rh fr fw : Nat → Int32} : ∀ (n k : Nat) (fc fg : Nat → Int32), k + n = 44 → ∀ T, T < 44 →
    (k ≤ T → ∃ fc' fg', SR T fc fc' ∧ SR T fg fg' ∧ SR T (f_X2_buildAnew_L26 rh fr fw T 10 0 fc' fg').1 (f_X2_buildAnew_L18 rh fr fw n k fc fg).1 ∧ SR T (f_X2_buildAnew_L26 rh fr fw T 10 0 fc' fg').2 (f_X2_buildAnew_L18 rh fr fw n k fc fg).2) ∧
    (T < k → SR T fc (f_X2_buildAnew_L18 rh fr fw n k fc fg).1 ∧ SR T fg (f_X2_buildAnew_L18 rh fr fw n k fc fg).2) := by
  intro n
  induction n with
  | zero =>
    intro k fc fg hk T hT
    rw [f_X2_buildAnew_L18]
    exact ⟨fun h => absurd h (by omega), fun _ => ⟨fun _ _ => rfl, fun _ _ => rfl⟩⟩
  | succ n ih =>
    intro k fc fg hk T hT
    rw [f_X2_buildAnew_L18]
    obtain ⟨i1, i2⟩ := ih (k + 1) (f_X2_buildAnew_L26 rh fr fw k 10 0 fc fg).1 (f_X2_buildAnew_L26 rh fr fw k 10 0 fc fg).2 (by omega) T hT
    obtain ⟨f1, f2⟩ := tree_fr_c (rh := rh) (fr := fr) (fw := fw) (T := k) 10 0 fc fg
    refine ⟨fun h => ?_, fun h => ?_⟩
    · by_cases e : T = k
      · subst e
        obtain ⟨j1, j2⟩ := i2 (by omega)
        exact ⟨fc, fg, fun _ _ => rfl, fun _ _ => rfl, j1, j2⟩
      · obtain ⟨fc', fg', j1, j2, j3, j4⟩ := i1 (by omega)
        exact ⟨fc', fg', fun e' he => (SR_of f1 e e' he).trans (j1 e' he), fun e' he => (SR_of f2 e e' he).trans (j2 e' he), j3, j4⟩
    · obtain ⟨j1, j2⟩ := i2 (by omega)
      exact ⟨fun e' he => (SR_of f1 (by omega) e' he).trans (j1 e' he), fun e' he => (SR_of f2 (by omega) e' he).trans (j2 e' he)⟩
theorem all_r {co fa ic me sw : Nat → Int32} : ∀ (n k : Nat) (ab go : Nat → Int32), k + n = 44 → ∀ t, t < 44 →
    (k ≤ t → ∃ ab' go', SR t ab ab' ∧ SR t go go' ∧ SR t (f_X6_buildsAnew_L39 co fa ic me sw t 10 0 ab' go').1 (f_X6_buildsAnew_L31 co fa ic me sw n k ab go).1 ∧ SR t (f_X6_buildsAnew_L39 co fa ic me sw t 10 0 ab' go').2 (f_X6_buildsAnew_L31 co fa ic me sw n k ab go).2) ∧
    (t < k → SR t ab (f_X6_buildsAnew_L31 co fa ic me sw n k ab go).1 ∧ SR t go (f_X6_buildsAnew_L31 co fa ic me sw n k ab go).2) := by
  intro n
  induction n with
  | zero =>
    intro k ab go hk t ht
    rw [f_X6_buildsAnew_L31]
    exact ⟨fun h => absurd h (by omega), fun _ => ⟨fun _ _ => rfl, fun _ _ => rfl⟩⟩
  | succ n ih =>
    intro k ab go hk t ht
    rw [f_X6_buildsAnew_L31]
    obtain ⟨i1, i2⟩ := ih (k + 1) (f_X6_buildsAnew_L39 co fa ic me sw k 10 0 ab go).1 (f_X6_buildsAnew_L39 co fa ic me sw k 10 0 ab go).2 (by omega) t ht
    obtain ⟨f1, f2⟩ := tree_fr_r (co := co) (fa := fa) (ic := ic) (me := me) (sw := sw) (t := k) 10 0 ab go rfl
    refine ⟨fun h => ?_, fun h => ?_⟩
    · by_cases e : t = k
      · subst e
        obtain ⟨j1, j2⟩ := i2 (by omega)
        exact ⟨ab, go, fun _ _ => rfl, fun _ _ => rfl, j1, j2⟩
      · obtain ⟨ab', go', j1, j2, j3, j4⟩ := i1 (by omega)
        exact ⟨ab', go', fun e' he => (SR_of f1 e e' he).trans (j1 e' he), fun e' he => (SR_of f2 e e' he).trans (j2 e' he), j3, j4⟩
    · obtain ⟨j1, j2⟩ := i2 (by omega)
      exact ⟨fun e' he => (SR_of f1 (by omega) e' he).trans (j1 e' he), fun e' he => (SR_of f2 (by omega) e' he).trans (j2 e' he)⟩
theorem clear_r {co fa ic me sw : Nat → Int32} : ∀ (n k : Nat) (ab go : Nat → Int32), k + n = 440 → (∀ e, e < k → ab e = -1 ∧ go e = -1) → ∃ ab' go', (∀ e, e < 440 → ab' e = -1 ∧ go' e = -1) ∧ f_X6_buildsAnew_L2 co fa ic me sw n k ab go = f_X6_buildsAnew_L31 co fa ic me sw 44 0 ab' go' := by
  intro n
  induction n with
  | zero => intro k ab go hk h; exact ⟨ab, go, fun e he => h e (by omega), by rw [f_X6_buildsAnew_L2]⟩
  | succ n ih =>
    intro k ab go hk h
    rw [f_X6_buildsAnew_L2]
    refine ih (k + 1) _ _ (by omega) fun e he => ?_
    by_cases c : e = k
    · subst c; rw [pk_us, pk_us]; exact ⟨rfl, rfl⟩
    · rw [pk_un c, pk_un c]; exact h e (by omega)
theorem RTr_SR {T t : Nat} {fc fg ab go fc' fg' ab' go' : Nat → Int32} (h : RTr T t fc fg ab go) (h1 : SR T fc fc') (h2 : SR T fg fg') (h3 : SR t ab ab') (h4 : SR t go go') : RTr T t fc' fg' ab' go' := fun r hr => by
  rw [← h1 _ (by omega), ← h2 _ (by omega), ← h3 _ (by omega), ← h4 _ (by omega)]
  exact h r hr
theorem TInv_SR {co fa : Nat → Int32} {root : Int32} {t : Nat} {ab go ab' go' : Nat → Int32} (h : TInv co fa root t ab go) (h3 : SR t ab ab') (h4 : SR t go go') : TInv co fa root t ab' go' := fun r hr => by
  rw [← h3 _ (by omega), ← h4 _ (by omega)]
  exact h r hr
/-- all trees built anew -/
theorem build_eq {rc rl rh fr fw co fa ic me sw ab go : Nat → Int32} (hRt : RRt rc rl rh co fa) (hW : RWa fw me sw) (hRo : RRo fr ic) :
    RFo co fa ic (f_X2_buildAnew rh fr fw).1 (f_X2_buildAnew rh fr fw).2 (f_X6_buildsAnew co fa ic me sw ab go).1 (f_X6_buildsAnew co fa ic me sw ab go).2 := by
  intro t ht
  obtain ⟨ab0, go0, h0, h1⟩ := clear_r (co := co) (fa := fa) (ic := ic) (me := me) (sw := sw) 440 0 ab go rfl (fun e he => absurd he (Nat.not_lt_zero e))
  unfold f_X2_buildAnew f_X6_buildsAnew
  rw [h1]
  obtain ⟨fc', fg', a1, a2, a3, a4⟩ := (all_c (rh := rh) (fr := fr) (fw := fw) 44 0 (fun _ => (-1)) (fun _ => (-1)) rfl (tau t) (tau_lt ht)).1 (Nat.zero_le _)
  obtain ⟨ab', go', b1, b2, b3, b4⟩ := (all_r (co := co) (fa := fa) (ic := ic) (me := me) (sw := sw) 44 0 ab0 go0 rfl t ht).1 (Nat.zero_le _)
  have hR : RTr (tau t) t fc' fg' ab' go' := fun r hr => by
    rw [← a1 _ (by omega), ← a2 _ (by omega), ← b1 _ (by omega), ← b2 _ (by omega), (h0 (10 * t + r) (by omega)).1, (h0 (10 * t + r) (by omega)).2]
    exact ⟨rfl, rfl⟩
  have hI : TInv co fa (f_X6_root t ic) t ab' go' := fun r hr => by
    left
    rw [← b1 _ (by omega), ← b2 _ (by omega)]
    exact h0 (10 * t + r) (by omega)
  have h := tree_eq hRt hW ht (hRo t ht) 10 0 fc' fg' ab' go' rfl hR hI
  exact ⟨RTr_SR h.1 a3 a4 b3 b4, TInv_SR h.2.1 b3 b4⟩
/-- a router is looked at: both let the branch to it leave, or neither -/
theorem look_eq {fw me sw co fa ic : Nat → Int32} (hW : RWa fw me sw) {t r : Nat} (ht : t < 44) (hr : r < 10) {fc fg ab go : Nat → Int32} {clk : Int32} (hR : RTr (tau t) t fc fg ab go) (hI : TInv co fa (f_X6_root t ic) t ab go) :
    RTr (tau t) t fc (f_X2_letLeave (tau t) r clk fw fc fg) ab (f_X6_looks t r me sw ab go clk) ∧ TInv co fa (f_X6_root t ic) t ab (f_X6_looks t r me sw ab go clk) ∧ Fr (tau t) fg (f_X2_letLeave (tau t) r clk fw fc fg) ∧ Fr t go (f_X6_looks t r me sw ab go clk) := by
  obtain ⟨e1, e2⟩ := hR r hr
  unfold f_X2_letLeave f_X6_looks f_X2_isNeeded
  rw [e1, e2, wants_eq hW ht hr, below_eq (fun k hk => (hR k hk).1)]
  by_cases c1 : ab (10 * t + r) = -1
  · rw [if_pos c1, if_pos c1]; exact ⟨hR, hI, Fr.refl _, Fr.refl _⟩
  · rw [if_neg c1, if_neg c1]
    by_cases c2 : f_X5_has (fw (tau t)) r = true
    · rw [if_pos c2, if_pos rfl, if_pos c2]
      split <;> exact ⟨hR, hI, Fr.refl _, Fr.refl _⟩
    · rw [if_neg c2, if_neg c2]
      by_cases c3 : f_X6_below t r ab = 0
      · rw [if_pos c3, if_neg (by decide), if_pos c3]
        by_cases c4 : go (10 * t + r) = -1
        · rw [if_pos c4, if_pos c4]
          refine ⟨RTr_g hR hr _, ?_, Fr_upd _ (by omega), Fr_upd _ (by omega)⟩
          intro q hq
          by_cases e : q = r
          · subst e
            exact Or.inr ((hI q hq).resolve_left (fun z => c1 z.1))
          · rw [pk_un (by omega)]; exact hI q hq
        · rw [if_neg c4, if_neg c4]; exact ⟨hR, hI, Fr.refl _, Fr.refl _⟩
      · rw [if_neg c3, if_pos rfl, if_neg c3]
        split <;> exact ⟨hR, hI, Fr.refl _, Fr.refl _⟩
