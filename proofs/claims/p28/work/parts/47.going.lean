/-! while packets go: what always holds, and that following ends -/
theorem graft_keep {rh fr fg : Nat → Int32} {T : Nat} : ∀ (n k : Nat) (x : Int32) (fc : Nat → Int32) (e : Nat), ¬ fc e = -1 → (f_X2_graft_L13 T rh fr fg n k x fc).1 e = fc e := by
  intro n
  induction n with
  | zero => intro k x fc e _; rw [f_X2_graft_L13]
  | succ n ih =>
    intro k x fc e he
    rw [f_X2_graft_L13]
    split
    · split
      · rfl
      · split
        · rename_i h
          have hne : ¬ e = T * 10 + x.toNatClampNeg := fun q => he (q ▸ h)
          rw [ih _ _ _ e (by rw [pk_un hne]; exact he), pk_un hne]
        · rfl
    · rfl
/-- what holds of the state while packets go; M: the members, which stay -/
def PI (rh : Nat → Int32) (D : Nat → Nat → Nat) (fr M : Nat → Int32) (t : Nat) (ps pg : Nat → Int32) (sent : Nat) (fw fc fg pr pd qp qt qf qo : Nat → Int32) (qfi qsz : Nat) : Prop :=
  QAl ps pg qp qt qf qo sent qfi qsz ∧ FI rh D fr fw (bnd t) fc fg ∧ (∀ g, g < 4 → fw g = M g) ∧ (∀ g s, g < 4 → s < 10 → (∀ i, i < 32 → bt (fw (4 + g * 10 + s)) i = true → bt (fw g) i = true) ∧ bt (fw (4 + g * 10 + s)) s = false) ∧ (∀ T, T < 44 → B10 (fw T)) ∧ ∀ e, sent ≤ e → pr e = nI 0 ∧ pd e = nI 0
/-- a router gets a packet: what always holds goes on to hold (but of the copies) -/
theorem PI_get {rc rl rh fr M : Nat → Int32} {C D : Nat → Nat → Nat} (hR : Rt rc rl rh C D) (hro : RoOk fr) {t : Nat} {ps pg : Nat → Int32} {sent : Nat} {fw fc fg pr pd qp qt qf qo : Nat → Int32} {qfi qsz : Nat} (h : PI rh D fr M t ps pg sent fw fc fg pr pd qp qt qf qo qfi qsz) {sw : Bool} {g s r pk : Nat} {b1 b2 : Bool} (hg : g < 4) (hs : s < 10) (hr : r < 10) (hpk : pk < sent)
    (hsw : sw = true → f_X5_has (fw g) r = true ∧ ¬ r = s) {qp' qt' qf' qo' : Nat → Int32} {qfi' qsz' : Nat} (hq : QAl ps pg qp' qt' qf' qo' sent qfi' qsz') :
    PI rh D fr M t ps pg sent (swFw sw fw g s r) (swF sw g s r rh fr fc fg).1 (swF sw g s r rh fr fc fg).2 (gPr b1 pk r pr) (gPd b2 pk pd) qp' qt' qf' qo' qfi' qsz' := by
  obtain ⟨-, h2, h3, h4, h5, h6⟩ := h
  refine ⟨hq, ?_, fun g' hg' => ?_, fun g' s' hg' hs' => ?_, fun T hT => ?_, fun e he => ⟨?_, ?_⟩⟩
  · unfold swFw swF
    cases sw
    · rw [if_neg Bool.false_ne_true, if_neg Bool.false_ne_true]; exact h2
    · rw [if_pos rfl, if_pos rfl]; exact want_FI hR hro h2 (by omega) hr
  · unfold swFw
    cases sw
    · rw [if_neg Bool.false_ne_true]; exact h3 g' hg'
    · rw [if_pos rfl, pk_un (by omega)]; exact h3 g' hg'
  · unfold swFw
    cases sw
    · rw [if_neg Bool.false_ne_true]; exact h4 g' s' hg' hs'
    · rw [if_pos rfl]
      rw [pk_un (show ¬ g' = 4 + (g * 10) + s by omega)]
      by_cases e : g' = g ∧ s' = s
      · obtain ⟨rfl, rfl⟩ := e
        rw [pk_us]
        obtain ⟨a1, a2⟩ := h4 g' s' hg' hs'
        obtain ⟨b1, b2⟩ := hsw rfl
        rw [has_bt _ hr] at b1
        refine ⟨fun i hi z => ?_, ?_⟩
        · rw [b_or, bt_one (by omega) hi, Bool.or_eq_true, decide_eq_true_iff] at z
          rcases z with z | z
          · exact a1 i hi z
          · subst z; exact b1
        · rw [b_or, bt_one (by omega) (by omega), a2, decide_eq_false (fun z => b2 z.symm)]; rfl
      · rw [pk_un (by omega)]; exact h4 g' s' hg' hs'
  · unfold swFw
    cases sw
    · rw [if_neg Bool.false_ne_true]; exact h5 T hT
    · rw [if_pos rfl]
      by_cases e : T = 4 + (g * 10) + s
      · subst e; rw [pk_us]; exact B10_or (h5 _ hT) hr
      · rw [pk_un e]; exact h5 T hT
  · unfold gPr
    split
    · rw [pk_un (by omega)]; exact (h6 e he).1
    · exact (h6 e he).1
  · unfold gPd
    split
    · rw [pk_un (by omega)]; exact (h6 e he).2
    · exact (h6 e he).2
theorem PI_q {rh fr M : Nat → Int32} {D : Nat → Nat → Nat} {t : Nat} {ps pg : Nat → Int32} {sent : Nat} {fw fc fg pr pd qp qt qf qo : Nat → Int32} {qfi qsz : Nat} (h : PI rh D fr M t ps pg sent fw fc fg pr pd qp qt qf qo qfi qsz) {qp' qt' qf' qo' : Nat → Int32} {qfi' qsz' : Nat} (hq : QAl ps pg qp' qt' qf' qo' sent qfi' qsz') : PI rh D fr M t ps pg sent fw fc fg pr pd qp' qt' qf' qo' qfi' qsz' := ⟨hq, h.2⟩
/-! what the waiting copies weigh -/
theorem sm_plus (a b : Nat → Nat) : ∀ n, sm (fun i => a i + b i) n = sm a n + sm b n := by
  intro n
  induction n with
  | zero => rw [sm, sm, sm]
  | succ n ih => rw [sm, sm, sm, ih]; omega
theorem sm_const (c : Nat) : ∀ n, sm (fun _ => c) n = n * c := by
  intro n
  induction n with
  | zero => rw [sm, Nat.zero_mul]
  | succ n ih => rw [sm, ih, Nat.succ_mul]
theorem sm_mono {f g : Nat → Nat} : ∀ n, (∀ i, i < n → f i ≤ g i) → sm f n ≤ sm g n := by
  intro n
  induction n with
  | zero => intro _; rw [sm, sm]; exact Nat.le_refl _
  | succ n ih =>
    intro h
    rw [sm, sm]
    have h1 := ih (fun i hi => h i (by omega))
    have h2 := h n (by omega)
    omega
theorem sm_in {f : Nat → Nat} {r : Nat} : ∀ n, r < n → f r ≤ sm f n := by
  intro n
  induction n with
  | zero => intro h; omega
  | succ n ih =>
    intro h
    rw [sm]
    by_cases e : r = n
    · subst e; omega
    · have := ih (by omega); omega
theorem hit_one {x : Int32} {c : Nat} : ∀ m, m ≤ 100 → sm (fun r => if x = nI r then c else 0) m ≤ c := by
  intro m
  have z : ∀ (j m : Nat), x = nI j → m ≤ j → j < 100 → sm (fun r => if x = nI r then c else 0) m = 0 := by
    intro j m hx hm hj
    exact sm_zero m (fun i hi => if_neg (fun q => by have := (nI_eq (by omega) (by omega)).mp (hx.symm.trans q); omega))
  induction m with
  | zero => intro _; rw [sm]; omega
  | succ m ih =>
    intro h
    rw [sm]
    by_cases q : x = nI m
    · rw [if_pos q, z m m q (Nat.le_refl _) (by omega)]; omega
    · rw [if_neg q]
      have := ih (by omega)
      omega
theorem sm_swap {h : Nat → Int32} {f : Nat → Nat} : ∀ n, sm (fun r => sm (fun k => if h k = nI r then f k else 0) n) 10 ≤ sm f n := by
  intro n
  induction n with
  | zero => rw [sm_zero 10 (fun i _ => by rw [sm]), sm]; omega
  | succ n ih =>
    have e : sm (fun r => sm (fun k => if h k = nI r then f k else 0) (n + 1)) 10 = sm (fun r => sm (fun k => if h k = nI r then f k else 0) n + (if h n = nI r then f n else 0)) 10 := sm_congr 10 (fun r _ => by rw [sm])
    rw [e, sm_plus (fun r => sm (fun k => if h k = nI r then f k else 0) n) (fun r => if h n = nI r then f n else 0), show sm f (n + 1) = sm f n + f n from rfl]
    have h1 := hit_one (x := h n) (c := f n) 10 (by omega)
    omega
/-- how many routers hop to r, in less than n hops -/
def Wt (h : Nat → Int32) : Nat → Nat → Nat
  | 0, _ => 0
  | n + 1, r => 1 + sm (fun k => if h k = nI r then Wt h n k else 0) 10
theorem Wt_s (h : Nat → Int32) (n r : Nat) : Wt h (n + 1) r = 1 + sm (fun k => if h k = nI r then Wt h n k else 0) 10 := by rw [Wt]
theorem Wt_up (h : Nat → Int32) : ∀ (n r : Nat), Wt h n r ≤ Wt h (n + 1) r := by
  intro n
  induction n with
  | zero => intro r; rw [Wt]; exact Nat.zero_le _
  | succ n ih =>
    intro r
    rw [Wt_s, Wt_s]
    have := sm_mono (f := fun k => if h k = nI r then Wt h n k else 0) (g := fun k => if h k = nI r then Wt h (n + 1) k else 0) 10 (fun i _ => by show (if h i = nI r then Wt h n i else 0) ≤ (if h i = nI r then Wt h (n + 1) i else 0); split; exact ih i; exact Nat.le_refl _)
    omega
theorem Wt_mono (h : Nat → Int32) (r : Nat) : ∀ (d n : Nat), Wt h n r ≤ Wt h (n + d) r := by
  intro d
  induction d with
  | zero => intro n; exact Nat.le_refl _
  | succ d ih => intro n; exact Nat.le_trans (ih n) (Wt_up h (n + d) r)
theorem Wt_sum (h : Nat → Int32) : ∀ n, sm (fun r => Wt h n r) 10 ≤ 10 * n := by
  intro n
  induction n with
  | zero => rw [sm_zero 10 (fun i _ => by rw [Wt])]; omega
  | succ n ih =>
    have e : sm (fun r => Wt h (n + 1) r) 10 = sm (fun r => 1 + sm (fun k => if h k = nI r then Wt h n k else 0) 10) 10 := sm_congr 10 (fun r _ => by rw [Wt])
    rw [e, sm_plus (fun _ => 1) (fun r => sm (fun k => if h k = nI r then Wt h n k else 0) 10), sm_const]
    have := sm_swap (h := h) (f := fun k => Wt h n k) 10
    omega
/-- what a copy to r in the tree T weighs -/
def wt (D : Nat → Nat → Nat) (rh fr : Nat → Int32) (T r : Nat) : Nat := Wt (fun k => rh (k * 10 + (fr T).toNatClampNeg)) (10 - rank D ((fr T).toNatClampNeg) r) r
theorem wt_le {D : Nat → Nat → Nat} {rh fr : Nat → Int32} {T r : Nat} (hr : r < 10) : wt D rh fr T r ≤ 100 := by
  unfold wt
  have h1 := Wt_sum (fun k => rh (k * 10 + (fr T).toNatClampNeg)) (10 - rank D ((fr T).toNatClampNeg) r)
  have h2 := sm_in (f := fun r' => Wt (fun k => rh (k * 10 + (fr T).toNatClampNeg)) (10 - rank D ((fr T).toNatClampNeg) r) r') 10 hr
  omega
def wsum (w : Nat → Nat → Nat) (T : Nat) (ks : List Nat) : Nat := (ks.map (w T)).sum
theorem kd_sum {p : Nat → Bool} {f : Nat → Nat} : ∀ (n k : Nat), ((kd p n k).map f).sum + sm (fun i => if p i = true then f i else 0) k = sm (fun i => if p i = true then f i else 0) (k + n) := by
  intro n
  induction n with
  | zero => intro k; rw [kd, Nat.add_zero]; show 0 + _ = _; omega
  | succ n ih =>
    intro k
    have e : sm (fun i => if p i = true then f i else 0) (k + 1) = sm (fun i => if p i = true then f i else 0) k + (if p k = true then f k else 0) := by rw [sm]
    have h := ih (k + 1)
    rw [show k + 1 + n = k + (n + 1) by omega, e] at h
    rw [kd]
    by_cases c : p k = true
    · rw [if_pos c] at h ⊢
      rw [List.map_cons, List.sum_cons]; omega
    · rw [if_neg c] at h ⊢
      omega
theorem wt_kids {rc rl rh fr : Nat → Int32} {C D : Nat → Nat → Nat} (hR : Rt rc rl rh C D) {w : Nat → Bool} {bd : Nat → Nat → Prop} {T r : Nat} (hr : r < 10) {fc fg : Nat → Int32} (h : TI rh D (fr T) w bd T fc fg) : 1 + ((kids fc T r).map (wt D rh fr T)).sum ≤ wt D rh fr T r := by
  have hk := kd_sum (p := isKid fc T r) (f := wt D rh fr T) 10 0
  rw [show sm (fun i => if isKid fc T r i = true then wt D rh fr T i else 0) 0 = 0 from rfl, Nat.add_zero, Nat.zero_add] at hk
  unfold kids
  rw [hk]
  have hrk := rank_lt (D := D) (o := (fr T).toNatClampNeg) hr
  have e : 10 - rank D ((fr T).toNatClampNeg) r = (9 - rank D ((fr T).toNatClampNeg) r) + 1 := by omega
  have e2 : wt D rh fr T r = 1 + sm (fun k => if rh (k * 10 + (fr T).toNatClampNeg) = nI r then Wt (fun k => rh (k * 10 + (fr T).toNatClampNeg)) (9 - rank D ((fr T).toNatClampNeg) r) k else 0) 10 := by
    unfold wt
    rw [e, Wt_s]
  rw [e2]
  refine Nat.add_le_add_left (sm_mono 10 (fun k hk' => ?_)) 1
  show (if isKid fc T r k = true then wt D rh fr T k else 0) ≤ (if rh (k * 10 + (fr T).toNatClampNeg) = nI r then Wt (fun k => rh (k * 10 + (fr T).toNatClampNeg)) (9 - rank D ((fr T).toNatClampNeg) r) k else 0)
  by_cases c : isKid fc T r k = true
  · rw [if_pos c]
    have c' : fc (T * 10 + k) = nI r := of_decide_eq_true c
    obtain ⟨p, o, hp, ho, hro, hab, hh, _⟩ := (h.1 k hk').resolve_left (fun z => nI_m1 (n := r) (by omega) (z.1.symm.trans c'))
    have ek : p = r := (nI_eq (by omega) (by omega)).mp (hab.symm.trans c')
    subst ek
    have ero : (fr T).toNatClampNeg = o := by rw [hro, nI_clamp (by omega)]
    rw [ero, if_pos hh]
    unfold wt
    rw [ero]
    rcases Rt_hop hR hk' ho with ⟨q, -⟩ | ⟨j, j1, j2, _, _, j3, j4⟩
    · exact absurd (hh.symm.trans q) (nI_neg1 (by omega))
    · have ej : j = p := (nI_eq (by omega) (by omega)).mp (j2.symm.trans hh)
      subst ej
      have hd := rank_dec (D := D) (o := o) (x := k) j1 (by omega)
      have hk2 := rank_lt (D := D) (o := o) hk'
      have hm := Wt_mono (fun k => rh (k * 10 + o)) k ((9 - rank D o j) - (10 - rank D o k)) (10 - rank D o k)
      rw [show (10 - rank D o k) + ((9 - rank D o j) - (10 - rank D o k)) = 9 - rank D o j by omega] at hm
      exact hm
  · rw [if_neg c]; exact Nat.zero_le _
def MM (w : Nat → Nat → Nat) (l : List Cp) : Nat := (l.map (fun x => w x.2.1 x.2.2.2)).sum
theorem MM_le {w : Nat → Nat → Nat} (l : List Cp) (h : ∀ x ∈ l, w x.2.1 x.2.2.2 ≤ 100) : MM w l ≤ 100 * l.length := by
  induction l with
  | nil => exact Nat.le_refl _
  | cons x l ih =>
    have h1 := h x List.mem_cons_self
    have h2 := ih (fun y hy => h y (List.mem_cons_of_mem _ hy))
    unfold MM at h2 ⊢
    rw [List.map_cons, List.sum_cons, List.length_cons]
    omega
theorem MM_app {w : Nat → Nat → Nat} (a b : List Cp) : MM w (a ++ b) = MM w a + MM w b := by
  unfold MM
  rw [List.map_append, List.sum_append]
theorem MM_news {w : Nat → Nat → Nat} {pk T r : Nat} (ks : List Nat) : MM w (news pk T r ks) = (ks.map (w T)).sum := by
  unfold MM news
  rw [List.map_map]; rfl
theorem sum_take {f : Nat → Nat} : ∀ (n : Nat) (ks : List Nat), ((ks.take n).map f).sum ≤ (ks.map f).sum := by
  intro n ks
  induction ks generalizing n with
  | nil => rw [List.take_nil]; exact Nat.le_refl _
  | cons k ks ih =>
    cases n with
    | zero => rw [List.take_zero]; exact Nat.zero_le _
    | succ n =>
      rw [List.take_succ_cons, List.map_cons, List.map_cons, List.sum_cons, List.sum_cons]
      have := ih n
      omega
/-- the state while packets go, in one -/
def PIc (rh : Nat → Int32) (D : Nat → Nat → Nat) (fr M : Nat → Int32) (t : Nat) (ps pg : Nat → Int32) (sent : Nat) (x : CT) : Prop :=
  PI rh D fr M t ps pg sent x.1 x.2.1 x.2.2.1 x.2.2.2.1 x.2.2.2.2.1 x.2.2.2.2.2.1 x.2.2.2.2.2.2.1 x.2.2.2.2.2.2.2.1 x.2.2.2.2.2.2.2.2.1 x.2.2.2.2.2.2.2.2.2.2.2.1 x.2.2.2.2.2.2.2.2.2.2.2.2
/-- a copy is followed: what always holds goes on to hold, and the waiting copies weigh less -/
theorem PI_stp {rc rl rh fr M : Nat → Int32} {C D : Nat → Nat → Nat} (hR : Rt rc rl rh C D) (hro : RoOk fr) {t : Nat} {ps pg : Nat → Int32} {lim : Int32} {sent : Nat} (x : CT) (h : PIc rh D fr M t ps pg sent x) : PIc rh D fr M t ps pg sent (stp rc rh fr ps pg lim x) := by
  obtain ⟨fw, fc, fg, pr, pd, qp, qt, qf, qo, ct, was, qfi, qsz⟩ := x
  have hq := QAl_step (rc := rc) (rh := rh) (fr := fr) (fw := fw) (fc := fc) (fg := fg) (pr := pr) (pd := pd) (ct := ct) (lim := lim) (was := was) h.1
  have h' : PI rh D fr M t ps pg sent fw fc fg pr pd qp qt qf qo qfi qsz := h
  unfold stp PIc
  dsimp only
  obtain ⟨hp, l, hq0, hl⟩ := h'.1
  cases l with
  | nil =>
    have h0 := hq0.2.2.1
    rw [List.length_nil] at h0
    rw [follow_0 h0.symm]
    exact h'
  | cons y l =>
    have hy := hl y List.mem_cons_self
    obtain ⟨g, s, a1, a2, a3, a4⟩ := hp.2 y.1 hy.1
    rcases follow_cases (rc := rc) (rh := rh) (fr := fr) (fw := fw) (fc := fc) (fg := fg) (pr := pr) (pd := pd) (ct := ct) (lim := lim) (was := was) hq0 hp hy a1 a2 a3 a4 with ⟨-, e⟩ | ⟨-, e⟩ | ⟨-, -, sw, ct', a, b, c, d, hsw, e, hq2⟩
    · rw [e] at hq ⊢; exact PI_q h' hq
    · rw [e] at hq ⊢; exact PI_q h' hq
    · rw [e] at hq ⊢
      exact PI_get hR hro h' a1 a2 hy.2.2.2 hy.1 (fun z => ⟨(hsw z).1, (hsw z).2.2.2.1⟩) hq
theorem eA_L {rc rl rh fr M : Nat → Int32} {C D : Nat → Nat → Nat} (hR : Rt rc rl rh C D) (hro : RoOk fr) {t : Nat} {ps pg : Nat → Int32} {lim : Int32} {sent : Nat} : ∀ (n : Nat) (x : CT) (l : List Cp), PIc rh D fr M t ps pg sent x → Qr x.2.2.2.2.2.1 x.2.2.2.2.2.2.1 x.2.2.2.2.2.2.2.1 x.2.2.2.2.2.2.2.2.1 x.2.2.2.2.2.2.2.2.2.2.2.1 x.2.2.2.2.2.2.2.2.2.2.2.2 l → (∀ y ∈ l, CpOk sent y) → MM (wt D rh fr) l ≤ n → eA rc rh fr ps pg lim sent n x := by
  intro n
  induction n with
  | zero =>
    intro x l h hq hl hM
    cases l with
    | nil => exact hq.2.2.1.symm
    | cons y l =>
      exfalso
      have hy := hl y List.mem_cons_self
      have hk := wt_kids hR hy.2.2.2 (h.2.1 y.2.1 hy.2.1)
      unfold MM at hM
      rw [List.map_cons, List.sum_cons] at hM
      omega
  | succ n ih =>
    intro x l h hq hl hM
    obtain ⟨fw, fc, fg, pr, pd, qp, qt, qf, qo, ct, was, qfi, qsz⟩ := x
    intro h1
    have h1 : 1 ≤ qsz := h1
    have hq : Qr qp qt qf qo qfi qsz l := hq
    have h' : PI rh D fr M t ps pg sent fw fc fg pr pd qp qt qf qo qfi qsz := h
    refine ⟨⟨hq.1, hq.2.1, QAl_V h'.1⟩, ?_⟩
    have hstp := PI_stp (lim := lim) hR hro _ h
    cases l with
    | nil => have := hq.2.2.1; rw [List.length_nil] at this; omega
    | cons y l =>
      have hy := hl y List.mem_cons_self
      have hp := h'.1.1
      have hl' : ∀ z ∈ l, CpOk sent z := fun z hz => hl z (List.mem_cons_of_mem _ hz)
      obtain ⟨g, s, a1, a2, a3, a4⟩ := hp.2 y.1 hy.1
      have hk0 := wt_kids hR hy.2.2.2 (h'.2.1 y.2.1 hy.2.1)
      have hMc : MM (wt D rh fr) (y :: l) = wt D rh fr y.2.1 y.2.2.2 + MM (wt D rh fr) l := by unfold MM; rw [List.map_cons, List.sum_cons]
      rw [hMc] at hM
      rcases follow_cases (rc := rc) (rh := rh) (fr := fr) (fw := fw) (fc := fc) (fg := fg) (pr := pr) (pd := pd) (ct := ct) (lim := lim) (was := was) hq hp hy a1 a2 a3 a4 with ⟨-, e⟩ | ⟨-, e⟩ | ⟨-, -, sw, ct', a, b, c, d, hsw, e, hq2⟩
      · refine ih _ l hstp ?_ hl' (by omega)
        unfold stp
        dsimp only
        rw [e]
        exact Qr_rest hq
      · refine ih _ l hstp ?_ hl' (by omega)
        unfold stp
        dsimp only
        rw [e]
        exact Qr_rest hq
      · refine ih _ (l ++ news y.1 y.2.1 y.2.2.2 ((kids (swF sw g s y.2.2.2 rh fr fc fg).1 y.2.1 y.2.2.2).take (200 - l.length))) hstp ?_ (fun z hz => ?_) ?_
        · unfold stp
          dsimp only
          rw [e]
          exact hq2
        · rcases List.mem_append.mp hz with hz | hz
          · exact hl' z hz
          · exact news_ok hy.1 hy.2.1 hy.2.2.2 (fun k hk => (mem_kids.mp (List.mem_of_mem_take hk)).1) z hz
        · have hstp' := hstp
          unfold stp PIc at hstp'
          dsimp only at hstp'
          rw [e] at hstp'
          have hk2 := wt_kids (rc := rc) (rl := rl) (C := C) hR hy.2.2.2 (hstp'.2.1 y.2.1 hy.2.1)
          dsimp only at hk2
          have hst := sum_take (f := wt D rh fr y.2.1) (200 - l.length) (kids (swF sw g s y.2.2.2 rh fr fc fg).1 y.2.1 y.2.2.2)
          rw [MM_app, MM_news]
          omega
/-- following all ends -/
theorem eA_all {rc rl rh fr M : Nat → Int32} {C D : Nat → Nat → Nat} (hR : Rt rc rl rh C D) (hro : RoOk fr) {t : Nat} {ps pg : Nat → Int32} {lim : Int32} {sent : Nat} (x : CT) (h : PIc rh D fr M t ps pg sent x) : eA rc rh fr ps pg lim sent 20000 x := by
  obtain ⟨_, l, hq, hl⟩ := h.1
  have h1 := MM_le (w := wt D rh fr) l (fun y hy => wt_le (hl y hy).2.2.2)
  have h2 := hq.2.1
  have h3 := hq.2.2.1
  exact eA_L hR hro 20000 x l h hq hl (by omega)
theorem PI_all {rc rl rh fr M : Nat → Int32} {C D : Nat → Nat → Nat} (hR : Rt rc rl rh C D) (hro : RoOk fr) {t : Nat} {ps pg : Nat → Int32} {lim : Int32} {sent : Nat} : ∀ (n : Nat) (x : CT), PIc rh D fr M t ps pg sent x → PIc rh D fr M t ps pg sent (fA rc rh fr ps pg lim n x).2 := by
  intro n
  induction n with
  | zero => intro x h; rw [fA]; exact h
  | succ n ih =>
    intro x h
    rw [fA]
    split
    · exact h
    · exact ih _ (PI_stp hR hro x h)
