/-! following ends: what the waiting copies weigh -/
theorem csum_le {f g : Nat → Nat} : ∀ (n k : Nat), (∀ i, k ≤ i → i < k + n → f i ≤ g i) → csum f n k ≤ csum g n k := by
  intro n
  induction n with
  | zero => intro k _; rw [csum, csum]; exact Nat.le_refl _
  | succ n ih =>
    intro k h
    rw [csum, csum]
    have h1 := h k (Nat.le_refl _) (by omega)
    have h2 := ih (k + 1) (fun i hi hj => h i (by omega) (by omega))
    omega
theorem csum_plus (a b : Nat → Nat) : ∀ (n k : Nat), csum (fun i => a i + b i) n k = csum a n k + csum b n k := by
  intro n
  induction n with
  | zero => intro k; rw [csum, csum, csum]
  | succ n ih => intro k; rw [csum, csum, csum, ih]; omega
theorem csum_one (c : Nat) : ∀ (n k : Nat), csum (fun _ => c) n k = n * c := by
  intro n
  induction n with
  | zero => intro k; rw [csum, Nat.zero_mul]
  | succ n ih => intro k; rw [csum, ih, Nat.succ_mul]; omega
theorem csum_in {f : Nat → Nat} : ∀ (n k r : Nat), k ≤ r → r < k + n → f r ≤ csum f n k := by
  intro n
  induction n with
  | zero => intro k r h1 h2; omega
  | succ n ih =>
    intro k r h1 h2
    rw [csum]
    by_cases e : r = k
    · subst e; omega
    · have := ih (k + 1) r (by omega) (by omega)
      omega
theorem csum_last (f : Nat → Nat) (n : Nat) : csum f (n + 1) 0 = csum f n 0 + f n := by
  rw [csum_add, Nat.zero_add, csum, csum]; omega
theorem hit_none {x : Int32} {c j : Nat} (hx : x = nI j) (hj : j < 100) : ∀ (m k : Nat), j < k → k + m ≤ 100 → csum (fun r => if x = nI r then c else 0) m k = 0 := by
  intro m
  induction m with
  | zero => intro k _ _; rw [csum]
  | succ m ih =>
    intro k h1 h2
    rw [csum, ih (k + 1) (by omega) (by omega), if_neg (fun z => by have := (nI_eq (by omega) (by omega)).mp (hx.symm.trans z); omega)]
theorem hit_one {x : Int32} {c : Nat} : ∀ (m k : Nat), k + m ≤ 100 → csum (fun r => if x = nI r then c else 0) m k ≤ c := by
  intro m
  induction m with
  | zero => intro k _; rw [csum]; omega
  | succ m ih =>
    intro k h
    rw [csum]
    by_cases q : x = nI k
    · rw [if_pos q, hit_none q (by omega) m (k + 1) (by omega) (by omega)]; omega
    · rw [if_neg q]
      have := ih (k + 1) (by omega)
      omega
theorem csum_swap {h : Nat → Int32} {f : Nat → Nat} : ∀ (n i : Nat), csum (fun r => csum (fun k => if h k = nI r then f k else 0) n i) 10 0 ≤ csum f n i := by
  intro n
  induction n with
  | zero =>
    intro i
    have e : csum (fun r => csum (fun k => if h k = nI r then f k else 0) 0 i) 10 0 = csum (fun _ => 0) 10 0 := csum_congr 10 0 0 (fun r _ => by rw [csum])
    rw [e, csum_one]; omega
  | succ n ih =>
    intro i
    have e : csum (fun r => csum (fun k => if h k = nI r then f k else 0) (n + 1) i) 10 0 = csum (fun r => (if h i = nI r then f i else 0) + csum (fun k => if h k = nI r then f k else 0) n (i + 1)) 10 0 := csum_congr 10 0 0 (fun r _ => by rw [csum])
    rw [e, csum_plus (fun r => if h i = nI r then f i else 0) (fun r => csum (fun k => if h k = nI r then f k else 0) n (i + 1)), show csum f (n + 1) i = f i + csum f n (i + 1) from rfl]
    have h1 := hit_one (x := h i) (c := f i) 10 0 (by omega)
    have h2 := ih (i + 1)
    omega
/-- how many routers hop to r, in less than n hops -/
def Wt (h : Nat → Int32) : Nat → Nat → Nat
  | 0, _ => 0
  | n + 1, r => 1 + csum (fun k => if h k = nI r then Wt h n k else 0) 10 0
theorem Wt_s (h : Nat → Int32) (n r : Nat) : Wt h (n + 1) r = 1 + csum (fun k => if h k = nI r then Wt h n k else 0) 10 0 := by rw [Wt]
theorem Wt_up (h : Nat → Int32) : ∀ (n r : Nat), Wt h n r ≤ Wt h (n + 1) r := by
  intro n
  induction n with
  | zero => intro r; rw [Wt]; exact Nat.zero_le _
  | succ n ih =>
    intro r
    rw [Wt_s, Wt_s]
    have := csum_le (f := fun k => if h k = nI r then Wt h n k else 0) (g := fun k => if h k = nI r then Wt h (n + 1) k else 0) 10 0 (fun i _ _ => by split; exact ih i; exact Nat.le_refl _)
    omega
theorem Wt_mono (h : Nat → Int32) (r : Nat) : ∀ (d n : Nat), Wt h n r ≤ Wt h (n + d) r := by
  intro d
  induction d with
  | zero => intro n; exact Nat.le_refl _
  | succ d ih => intro n; exact Nat.le_trans (ih n) (Wt_up h (n + d) r)
theorem Wt_sum (h : Nat → Int32) : ∀ n, csum (fun r => Wt h n r) 10 0 ≤ 10 * n := by
  intro n
  induction n with
  | zero =>
    have e : csum (fun r => Wt h 0 r) 10 0 = csum (fun _ => 0) 10 0 := csum_congr 10 0 0 (fun r _ => by rw [Wt])
    rw [e, csum_one]; omega
  | succ n ih =>
    have e : csum (fun r => Wt h (n + 1) r) 10 0 = csum (fun r => 1 + csum (fun k => if h k = nI r then Wt h n k else 0) 10 0) 10 0 := csum_congr 10 0 0 (fun r _ => by rw [Wt])
    rw [e, csum_plus (fun _ => 1) (fun r => csum (fun k => if h k = nI r then Wt h n k else 0) 10 0), csum_one]
    have := csum_swap (h := h) (f := fun k => Wt h n k) 10 0
    omega
/-- what a copy to r in the tree t weighs -/
def wt (D : Nat → Nat) (co fa ic : Nat → Int32) (t r : Nat) : Nat := Wt (fun k => f_X6_hop k ((f_X6_root t ic).toNatClampNeg) co fa) (10 - rank D ((f_X6_root t ic).toNatClampNeg) r) r
theorem wt_le {D : Nat → Nat} {co fa ic : Nat → Int32} {t r : Nat} (hr : r < 10) : wt D co fa ic t r ≤ 100 := by
  unfold wt
  have h1 := Wt_sum (fun k => f_X6_hop k ((f_X6_root t ic).toNatClampNeg) co fa) (10 - rank D ((f_X6_root t ic).toNatClampNeg) r)
  have h2 := csum_in (f := fun r' => Wt (fun k => f_X6_hop k ((f_X6_root t ic).toNatClampNeg) co fa) (10 - rank D ((f_X6_root t ic).toNatClampNeg) r) r') 10 0 r (by omega) (by omega)
  omega
theorem wt_kids {D : Nat → Nat} {co fa ic ab go : Nat → Int32} (hC : Costs co) (hD : ∀ e, e < 100 → fa e = nI (D e)) (hb : ∀ e, e < 100 → D e = 1000000 ∨ D e ≤ 20480) {t r : Nat} (hr : r < 10) (hI : TInv co fa (f_X6_root t ic) t ab go) :
    1 + csum (fun k => if ab (10 * t + k) = nI r then wt D co fa ic t k else 0) 10 0 ≤ wt D co fa ic t r := by
  have hrk := rank_lt (D := D) (o := (f_X6_root t ic).toNatClampNeg) hr
  have e : 10 - rank D ((f_X6_root t ic).toNatClampNeg) r = (9 - rank D ((f_X6_root t ic).toNatClampNeg) r) + 1 := by omega
  have e2 : wt D co fa ic t r = 1 + csum (fun k => if f_X6_hop k ((f_X6_root t ic).toNatClampNeg) co fa = nI r then Wt (fun k => f_X6_hop k ((f_X6_root t ic).toNatClampNeg) co fa) (9 - rank D ((f_X6_root t ic).toNatClampNeg) r) k else 0) 10 0 := by
    unfold wt
    rw [e, Wt_s]
  rw [e2]
  refine Nat.add_le_add_left (csum_le 10 0 (fun k _ hk => ?_)) 1
  by_cases c : ab (10 * t + k) = nI r
  · rw [if_pos c]
    obtain ⟨k', o, hk', ho, hro, hab, hh⟩ := (hI k (by omega)).resolve_left (fun z => nI_m1 (n := r) (by omega) (z.1.symm.trans c))
    have ek : k' = r := (nI_eq (by omega) (by omega)).mp (hab.symm.trans c)
    subst ek
    have ero : (f_X6_root t ic).toNatClampNeg = o := by rw [hro, nI_clamp (by omega)]
    rw [ero, if_pos hh]
    unfold wt
    rw [ero]
    rcases hop_dec hC hD hb (show k < 10 by omega) ho with q | ⟨j, j1, j2, j3⟩
    · exact absurd (hh.symm.trans q) (nI_neg1 (by omega))
    · have ej : j = k' := (nI_eq (by omega) (by omega)).mp (j2.symm.trans hh)
      subst ej
      have hd := rank_dec (D := D) (o := o) j1 j3
      have hk2 := rank_lt (D := D) (o := o) (show k < 10 by omega)
      have hm := Wt_mono (fun k => f_X6_hop k o co fa) k ((9 - rank D o j) - (10 - rank D o k)) (10 - rank D o k)
      rw [show (10 - rank D o k) + ((9 - rank D o j) - (10 - rank D o k)) = 9 - rank D o j by omega] at hm
      exact hm
  · rw [if_neg c]; exact Nat.zero_le _
/-- what all waiting copies weigh -/
def MM (w : Nat → Nat → Nat) (cp : Nat → Int32) (n : Nat) : Nat := csum (fun j => w ((cp (4 * j + 1)).toNatClampNeg) ((cp (4 * j + 3)).toNatClampNeg)) n 0
theorem goesOn_M {w : Nat → Nat → Nat} {pk r t : Nat} {ab : Nat → Int32} (ht : t < 44) : ∀ (n k : Nat) (cp : Nat → Int32) (rqd : Nat) (was : Int32), k + n = 10 →
    MM w (f_X6_goesOn_L11 pk r t ab n k cp rqd was).1 (f_X6_goesOn_L11 pk r t ab n k cp rqd was).2.1 ≤ MM w cp rqd + csum (fun k => if ab (10 * t + k) = nI r then w t k else 0) n k := by
  intro n
  induction n with
  | zero => intro k cp rqd was _; rw [f_X6_goesOn_L11, csum]; exact Nat.le_refl _
  | succ n ih =>
    intro k cp rqd was hk
    rw [f_X6_goesOn_L11, csum]
    by_cases c : ((f_X6_below t r ab >>> ((nI k) &&& 31)) &&& (nI 1)) = nI 1
    · rw [if_pos c]
      have c' : ab (10 * t + k) = nI r := by
        have h1 := (shr_1 _ (show k < 10 by omega)).mp c
        rw [below_bt (by omega), decide_eq_true (show k < 10 by omega), Bool.true_and, decide_eq_true_iff] at h1
        exact h1
      by_cases q : rqd = 200
      · rw [if_pos q]
        have := ih (k + 1) cp rqd (was + nI 1) (by omega)
        omega
      · rw [if_neg q, if_pos c']
        refine Nat.le_trans (ih (k + 1) _ (rqd + 1) was (by omega)) ?_
        have e : MM w (upd (upd (upd (upd cp (4 * rqd) (nI pk)) ((4 * rqd) + 1) (nI t)) ((4 * rqd) + 2) (nI r)) ((4 * rqd) + 3) (nI k)) (rqd + 1) = MM w cp rqd + w t k := by
          unfold MM
          rw [csum_last]
          have e1 : csum (fun j => w (((upd (upd (upd (upd cp (4 * rqd) (nI pk)) ((4 * rqd) + 1) (nI t)) ((4 * rqd) + 2) (nI r)) ((4 * rqd) + 3) (nI k)) (4 * j + 1)).toNatClampNeg) (((upd (upd (upd (upd cp (4 * rqd) (nI pk)) ((4 * rqd) + 1) (nI t)) ((4 * rqd) + 2) (nI r)) ((4 * rqd) + 3) (nI k)) (4 * j + 3)).toNatClampNeg)) rqd 0 = csum (fun j => w ((cp (4 * j + 1)).toNatClampNeg) ((cp (4 * j + 3)).toNatClampNeg)) rqd 0 := csum_congr rqd 0 0 (fun j hj => by
            rw [pk_un (by omega), pk_un (by omega), pk_un (by omega), pk_un (by omega), pk_un (by omega), pk_un (by omega), pk_un (by omega), pk_un (by omega)])
          rw [e1, pk_un (by omega), pk_un (by omega), pk_us, pk_us, nI_clamp (by omega), nI_clamp (by omega)]
        rw [e]; omega
    · rw [if_neg c]
      have := ih (k + 1) cp rqd was (by omega)
      omega
theorem counts_ab {r s g : Nat} {co fa ic sw cn ab go : Nat → Int32} {lim : Int32} : (f_X6_counts r s g co fa ic sw cn ab go lim).2.2.1 = ab ∨ (f_X6_counts r s g co fa ic sw cn ab go lim).2.2.1 = (f_X6_graft ((11 * g) + s) r co fa ic ab go).1 := by
  unfold f_X6_counts
  split
  · exact Or.inl rfl
  · split
    · exact Or.inl rfl
    · split
      · exact Or.inr rfl
      · exact Or.inl rfl
theorem gets_M {w : Nat → Nat → Nat} {pk r t g s : Nat} {co fa ic me sw cn ab go cp re db : Nat → Int32} {lim was : Int32} {rqd : Nat} (ht : t < 44)
    (h1 : 1 + csum (fun k => if ab (10 * t + k) = nI r then w t k else 0) 10 0 ≤ w t r) (h2 : 1 + csum (fun k => if (f_X6_graft ((11 * g) + s) r co fa ic ab go).1 (10 * t + k) = nI r then w t k else 0) 10 0 ≤ w t r) :
    MM w (f_X6_gets pk r t g s co fa ic me sw cn ab go cp re db lim rqd was).2.2.2.2.2.1 (f_X6_gets pk r t g s co fa ic me sw cn ab go cp re db lim rqd was).2.2.2.2.2.2.2.2.1 + 1 ≤ MM w cp rqd + w t r := by
  have k1 : MM w (f_X6_goesOn pk r t ab cp rqd was).1 (f_X6_goesOn pk r t ab cp rqd was).2.1 + 1 ≤ MM w cp rqd + w t r := by
    have := goesOn_M (w := w) (pk := pk) (r := r) (ab := ab) ht 10 0 cp rqd was rfl
    unfold f_X6_goesOn
    omega
  have k2 : MM w (f_X6_goesOn pk r t (f_X6_counts r s g co fa ic sw cn ab go lim).2.2.1 cp rqd was).1 (f_X6_goesOn pk r t (f_X6_counts r s g co fa ic sw cn ab go lim).2.2.1 cp rqd was).2.1 + 1 ≤ MM w cp rqd + w t r := by
    rcases counts_ab (r := r) (s := s) (g := g) (co := co) (fa := fa) (ic := ic) (sw := sw) (cn := cn) (ab := ab) (go := go) (lim := lim) with e | e
    · rw [e]; exact k1
    · rw [e]
      have := goesOn_M (w := w) (pk := pk) (r := r) (ab := (f_X6_graft ((11 * g) + s) r co fa ic ab go).1) ht 10 0 cp rqd was rfl
      unfold f_X6_goesOn
      omega
  unfold f_X6_gets
  split
  · split
    · split
      · exact k2
      · exact k1
    · exact k1
  · split
    · exact k1
    · exact k1
theorem rest_M {w : Nat → Nat → Nat} {cp : Nat → Int32} {rqd t o : Nat} (hq : 1 ≤ rqd) (ht : t < 44) (ho : o < 10) (h1 : cp 1 = nI t) (h3 : cp 3 = nI o) : MM w (f_X6_follows_n_L51 rqd (4 * (rqd - 1)) 0 cp) (rqd - 1) + w t o = MM w cp rqd := by
  have hs := shift_r (rqd := rqd) (4 * (rqd - 1)) 0 cp cp (fun _ _ => rfl) (fun e he => absurd he (Nat.not_lt_zero _))
  obtain ⟨n, rfl⟩ : ∃ n, rqd = n + 1 := ⟨rqd - 1, by omega⟩
  unfold MM
  rw [show n + 1 - 1 = n by omega] at *
  have e : csum (fun j => w ((cp (4 * j + 1)).toNatClampNeg) ((cp (4 * j + 3)).toNatClampNeg)) (n + 1) 0 = w ((cp 1).toNatClampNeg) ((cp 3).toNatClampNeg) + csum (fun j => w ((cp (4 * j + 1)).toNatClampNeg) ((cp (4 * j + 3)).toNatClampNeg)) n 1 := by rw [csum]
  rw [e, h1, h3, nI_clamp (by omega), nI_clamp (by omega)]
  have e2 : csum (fun j => w ((f_X6_follows_n_L51 (n + 1) (4 * n) 0 cp (4 * j + 1)).toNatClampNeg) ((f_X6_follows_n_L51 (n + 1) (4 * n) 0 cp (4 * j + 3)).toNatClampNeg)) n 0 = csum (fun j => w ((cp (4 * j + 1)).toNatClampNeg) ((cp (4 * j + 3)).toNatClampNeg)) n 1 := csum_congr n 0 1 (fun j hj => by
    rw [hs _ (by omega), hs _ (by omega), show 4 * (0 + j) + 1 + 4 = 4 * (1 + j) + 1 by omega, show 4 * (0 + j) + 3 + 4 = 4 * (1 + j) + 3 by omega])
  rw [e2]; omega
theorem follow_M {w : Nat → Nat → Nat} {pk t f o g s : Nat} {co fa ic me sw cn ab go cp re db : Nat → Int32} {lim was : Int32} {rqd : Nat} (hq : 1 ≤ rqd) (ht : t < 44) (ho : o < 10) (e1 : cp 1 = nI t) (e3 : cp 3 = nI o)
    (h1 : 1 + csum (fun k => if ab (10 * t + k) = nI o then w t k else 0) 10 0 ≤ w t o) (h2 : 1 + csum (fun k => if (f_X6_graft ((11 * g) + s) o co fa ic ab go).1 (10 * t + k) = nI o then w t k else 0) 10 0 ≤ w t o) :
    MM w (f_X6_follows_n pk t f o g s co fa ic me sw cn ab go cp re db lim rqd was).2.2.2.2.2.1 (f_X6_follows_n pk t f o g s co fa ic me sw cn ab go cp re db lim rqd was).2.2.2.2.2.2.2.2.1 + 1 ≤ MM w cp rqd := by
  have hr := rest_M (w := w) hq ht ho e1 e3
  have hg := gets_M (w := w) (pk := pk) (r := o) (t := t) (g := g) (s := s) (co := co) (fa := fa) (ic := ic) (me := me) (sw := sw) (cn := cn) (ab := ab) (go := go) (cp := f_X6_follows_n_L51 rqd (4 * (rqd - 1)) 0 cp) (re := re) (db := db) (lim := lim) (was := was) (rqd := rqd - 1) ht h1 h2
  have hw : 1 ≤ w t o := by omega
  unfold f_X6_follows_n
  split
  · show MM w (f_X6_follows_n_L51 rqd (4 * (rqd - 1)) 0 cp) (rqd - 1) + 1 ≤ MM w cp rqd; omega
  · split
    · show MM w (f_X6_follows_n_L51 rqd (4 * (rqd - 1)) 0 cp) (rqd - 1) + 1 ≤ MM w cp rqd; omega
    · split
      · split
        · exact Nat.le_trans hg (by omega)
        · exact Nat.le_trans hg (by omega)
      · show MM w (f_X6_follows_n_L51 rqd (4 * (rqd - 1)) 0 cp) (rqd - 1) + 1 ≤ MM w cp rqd; omega
