/-! grafting, tree by tree -/
theorem isRouter_nI {j : Nat} (h : j < 10) : f_X5_isRouter_r (nI j) = true := by
  unfold f_X5_isRouter_r
  rw [if_neg (nI_pos (by omega)), if_neg (fun q => absurd ((nI_leI (by omega) (by omega)).mp q) (by omega))]
theorem isRouter_m1 : f_X5_isRouter_r (-1) = false := by decide
theorem pair_nI {o : Nat} (h : o < 10) : f_X4_arePair_r (nI o) = true := by
  unfold f_X4_arePair_r
  rw [if_neg (nI_pos (by omega)), if_neg (fun q => absurd ((nI_leI (by omega) (by omega)).mp q) (by omega))]
theorem pair_m1 : f_X4_arePair_r (-1) = false := by decide
theorem hopOf_nI {rh : Nat → Int32} {r o : Nat} (hr : r < 10) (ho : o < 10) : f_X4_hopOf_r r (nI o) rh = rh (r * 10 + o) := by
  unfold f_X4_hopOf_r
  rw [if_pos (pair_nI ho), nI_add, nI_clamp (by omega)]
theorem hopOf_m1 {rh : Nat → Int32} {r : Nat} : f_X4_hopOf_r r (-1) rh = -1 := by
  unfold f_X4_hopOf_r
  rw [if_neg (by rw [pair_m1]; decide)]
/-- a tree's rows of both are alike -/
def RTr (T t : Nat) (fc fg ab go : Nat → Int32) : Prop := ∀ r, r < 10 → fc (T * 10 + r) = ab (10 * t + r) ∧ fg (T * 10 + r) = go (10 * t + r)
/-- a tree's branches: each comes from the next hop to the root; no branch, none that leaves -/
def TInv (co fa : Nat → Int32) (root : Int32) (t : Nat) (ab go : Nat → Int32) : Prop := ∀ r, r < 10 → (ab (10 * t + r) = -1 ∧ go (10 * t + r) = -1) ∨ ∃ k o, k < 10 ∧ o < 10 ∧ root = nI o ∧ ab (10 * t + r) = nI k ∧ f_X6_hop r o co fa = nI k
/-- nothing but a tree's rows is touched -/
def Fr (T : Nat) (x y : Nat → Int32) : Prop := ∀ e, ¬ e / 10 = T → y e = x e
theorem Fr.refl {T : Nat} (x : Nat → Int32) : Fr T x x := fun _ _ => rfl
theorem Fr.trans {T : Nat} {x y z : Nat → Int32} (h : Fr T x y) (h2 : Fr T y z) : Fr T x z := fun e he => (h2 e he).trans (h e he)
theorem Fr_upd {T : Nat} {x : Nat → Int32} {k : Nat} (v : Int32) (hk : k / 10 = T) : Fr T x (upd x k v) := fun e he => pk_un (fun q => he (by rw [q]; exact hk))
theorem RTr_c {T t : Nat} {fc fg ab go : Nat → Int32} (h : RTr T t fc fg ab go) {j : Nat} (hj : j < 10) (v : Int32) : RTr T t (upd fc (T * 10 + j) v) fg (upd ab (10 * t + j) v) go := by
  intro r hr
  by_cases e : r = j
  · subst e; rw [pk_us, pk_us]; exact ⟨rfl, (h r hr).2⟩
  · rw [pk_un (by omega), pk_un (by omega)]; exact h r hr
theorem RTr_g {T t : Nat} {fc fg ab go : Nat → Int32} (h : RTr T t fc fg ab go) {j : Nat} (hj : j < 10) (v : Int32) : RTr T t fc (upd fg (T * 10 + j) v) ab (upd go (10 * t + j) v) := by
  intro r hr
  by_cases e : r = j
  · subst e; rw [pk_us, pk_us]; exact ⟨(h r hr).1, rfl⟩
  · rw [pk_un (by omega), pk_un (by omega)]; exact h r hr
theorem upd_same {x : Nat → Int32} {k : Nat} {v : Int32} (h : x k = v) : upd x k v = x := by
  funext e
  by_cases c : e = k
  · subst c; rw [pk_us, h]
  · rw [pk_un c]
/-- where grafting ends: both stand alike, the trees' law holds, other trees stay -/
def GOut (co fa : Nat → Int32) (root : Int32) (T t : Nat) (fc fg ab go : Nat → Int32) (c d : (Nat → Int32) × (Nat → Int32)) : Prop :=
  RTr T t c.1 c.2 d.1 d.2 ∧ TInv co fa root t d.1 d.2 ∧ Fr T fc c.1 ∧ Fr T fg c.2 ∧ Fr t ab d.1 ∧ Fr t go d.2
theorem GOut.step {co fa : Nat → Int32} {root : Int32} {T t : Nat} {fc fg ab go fc1 fg1 ab1 go1 : Nat → Int32} {c d : (Nat → Int32) × (Nat → Int32)} (h : GOut co fa root T t fc1 fg1 ab1 go1 c d) (h1 : Fr T fc fc1) (h2 : Fr T fg fg1) (h3 : Fr t ab ab1) (h4 : Fr t go go1) : GOut co fa root T t fc fg ab go c d :=
  ⟨h.1, h.2.1, h1.trans h.2.2.1, h2.trans h.2.2.2.1, h3.trans h.2.2.2.2.1, h4.trans h.2.2.2.2.2⟩
theorem graft_L {rh fr co fa ic : Nat → Int32} (hC : Costs co) {D : Nat → Nat} (hD : ∀ e, e < 100 → fa e = nI (D e)) (hb : ∀ e, e < 100 → D e = 1000000 ∨ D e ≤ 20480) (hrh : ∀ r o, r < 10 → o < 10 → rh (r * 10 + o) = f_X6_hop r o co fa)
    {T t o : Nat} (ho : o < 10) (hfr : fr T = nI o) (hro : f_X6_root t ic = nI o) : ∀ (n k : Nat) (x : Int32) (fc fg ab go : Nat → Int32), (x = -1 ∨ ∃ j, j < 10 ∧ x = nI j ∧ rank D o j + 1 ≤ n) →
    RTr T t fc fg ab go → TInv co fa (nI o) t ab go → GOut co fa (nI o) T t fc fg ab go (f_X2_graft_L13 T rh fr fg n k x fc) (f_X6_graft_L18 t co fa ic (n + 1) x ab go) := by
  intro n
  induction n with
  | zero =>
    intro k x fc fg ab go hx hR hI
    rcases hx with rfl | ⟨j, h1, h2, h3⟩
    · rw [f_X2_graft_L13, f_X6_graft_L18, if_pos rfl]
      exact ⟨hR, hI, Fr.refl _, Fr.refl _, Fr.refl _, Fr.refl _⟩
    · omega
  | succ n ih =>
    intro k x fc fg ab go hx hR hI
    rw [f_X2_graft_L13, f_X6_graft_L18]
    rcases hx with rfl | ⟨j, h1, rfl, h3⟩
    · rw [if_neg (by rw [isRouter_m1]; decide), if_pos rfl]
      exact ⟨hR, hI, Fr.refl _, Fr.refl _, Fr.refl _, Fr.refl _⟩
    · rw [if_pos (isRouter_nI h1), if_neg (nI_neg1 (by omega)), nI_clamp (by omega), hro, hfr, nI_clamp (by omega)]
      by_cases c : j = o
      · rw [if_pos (show nI j = nI o by rw [c]), if_pos c]
        exact ⟨hR, hI, Fr.refl _, Fr.refl _, Fr.refl _, Fr.refl _⟩
      · rw [if_neg (show ¬ nI j = nI o from fun q => c ((nI_eq (by omega) (by omega)).mp q)), if_neg c]
        obtain ⟨e1, e2⟩ := hR j h1
        rw [e1, hopOf_nI h1 ho, hrh j o h1 ho, pk_us]
        by_cases c2 : ab (10 * t + j) = -1
        · rw [if_pos c2, if_pos c2]
          have hg : go (10 * t + j) = -1 := by
            rcases hI j h1 with q | ⟨k', o', q1, q2, q3, q4, q5⟩
            · exact q.2
            · rw [c2] at q4; exact absurd q4.symm (nI_neg1 (by omega))
          rw [upd_same hg]
          have hI' : TInv co fa (nI o) t (upd ab (10 * t + j) (f_X6_hop j o co fa)) go := by
            intro r hr
            by_cases e : r = j
            · subst e
              rw [pk_us]
              rcases hop_dec hC hD hb hr ho with q | ⟨i, i1, i2, -⟩
              · exact Or.inl ⟨q, hg⟩
              · exact Or.inr ⟨i, o, i1, ho, rfl, i2, i2⟩
            · rw [pk_un (by omega)]; exact hI r hr
          have hx' : f_X6_hop j o co fa = -1 ∨ ∃ i, i < 10 ∧ f_X6_hop j o co fa = nI i ∧ rank D o i + 1 ≤ n := by
            rcases hop_dec hC hD hb h1 ho with q | ⟨i, i1, i2, i3⟩
            · exact Or.inl q
            · exact Or.inr ⟨i, i1, i2, by have := rank_dec i1 i3; omega⟩
          exact (ih (k + 1) _ _ fg _ go hx' (RTr_c hR h1 _) hI').step (Fr_upd _ (by omega)) (Fr.refl _) (Fr_upd _ (by omega)) (Fr.refl _)
        · rw [if_neg c2, if_neg c2, upd_same rfl]
          refine ⟨RTr_g hR h1 _, ?_, Fr.refl _, Fr_upd _ (by omega), Fr.refl _, Fr_upd _ (by omega)⟩
          intro r hr
          by_cases e : r = j
          · subst e
            rcases hI r hr with q | q
            · exact absurd q.1 c2
            · exact Or.inr q
          · show (ab (10 * t + r) = -1 ∧ upd go (10 * t + j) (-1) (10 * t + r) = -1) ∨ _
            rw [pk_un (by omega)]; exact hI r hr
/-- grafting a router onto a tree: both alike -/
theorem graft_eq {rc rl rh fr co fa ic : Nat → Int32} (hRt : RRt rc rl rh co fa) {T t r : Nat} (hr : r < 10) (hfr : fr T = f_X6_root t ic) {fc fg ab go : Nat → Int32} (hR : RTr T t fc fg ab go) (hI : TInv co fa (f_X6_root t ic) t ab go) :
    GOut co fa (f_X6_root t ic) T t fc fg ab go (f_X2_graft T r rh fr fc fg) (f_X6_graft t r co fa ic ab go) := by
  obtain ⟨-, -, hC, ⟨D, hD, hw, -⟩, hrh⟩ := hRt
  unfold f_X2_graft f_X6_graft
  rcases root_ok t ic with q | ⟨q1, q2⟩
  · rw [if_pos q, q]
    rw [q] at hfr hI
    have hab : ab (10 * t + r) = -1 := by
      rcases hI r hr with z | ⟨k, o, _, ho, z, _⟩
      · exact z.1
      · exact absurd z (nI_m1 (by omega))
    rw [f_X2_graft_L13, if_pos (isRouter_nI hr), nI_clamp (by omega), hfr, if_neg (nI_neg1 (by omega)), (hR r hr).1, hab, if_pos rfl, hopOf_m1, f_X2_graft_L13, if_neg (by rw [isRouter_m1]; decide)]
    refine ⟨?_, hI, Fr_upd _ (by omega), Fr.refl _, Fr.refl _, Fr.refl _⟩
    show RTr T t (upd fc (T * 10 + r) (-1)) fg ab go
    rw [upd_same (by rw [(hR r hr).1, hab])]
    exact hR
  · have hne : ¬ f_X6_root t ic = -1 := by rw [q1]; exact nI_neg1 (by omega)
    rw [if_neg hne]
    have h := graft_L hC hD hw.2.1 hrh q2 (hfr.trans q1) q1 10 0 (nI r) fc fg ab go (Or.inr ⟨r, hr, rfl, rank_lt hr⟩) hR (by rw [← q1]; exact hI)
    rw [← q1] at h
    exact h
