/-! one packet on its way: which routers of its two trees it came to -/
def cn (f : Nat → Bool) : Nat := sm (fun i => if f i = true then 1 else 0) 10
theorem cn_congr {f g : Nat → Bool} (h : ∀ i, i < 10 → f i = g i) : cn f = cn g := sm_congr 10 (fun i hi => by show (if f i = true then 1 else 0) = (if g i = true then 1 else 0); rw [h i hi])
theorem cn_le (f : Nat → Bool) : cn f ≤ 10 := sm_le (f := fun i => if f i = true then 1 else 0) (fun i => by show (if f i = true then 1 else 0) ≤ 1; split <;> omega) 10
theorem cn_add {f g : Nat → Bool} (hd : ∀ i, i < 10 → f i = true → g i = false) : cn (fun i => f i || g i) = cn f + cn g := by
  unfold cn
  rw [← sm_plus]
  refine sm_congr 10 (fun i hi => ?_)
  show (if (f i || g i) = true then 1 else 0) = (if f i = true then 1 else 0) + (if g i = true then 1 else 0)
  cases hf : f i
  · cases hg : g i <;> rfl
  · rw [hd i hi hf]; rfl
theorem cn_one {r : Nat} (hr : r < 10) : cn (fun i => decide (i = r)) = 1 := by
  have key : ∀ r, r < 10 → cn (fun i => decide (i = r)) = 1 := by decide +kernel
  exact key r hr
theorem cn_put {f f' : Nat → Bool} {r : Nat} (hr : r < 10) (h0 : f r = false) (h : ∀ i, i < 10 → f' i = (f i || decide (i = r))) : cn f' = cn f + 1 := by
  rw [cn_congr h, cn_add (fun i hi hf => decide_eq_false (fun e => by subst e; rw [h0] at hf; cases hf)), cn_one hr]
theorem kd_length {p : Nat → Bool} : ∀ (n k : Nat), (kd p n k).length + sm (fun i => if p i = true then 1 else 0) k = sm (fun i => if p i = true then 1 else 0) (k + n) := by
  intro n
  induction n with
  | zero => intro k; rw [kd, Nat.add_zero, List.length_nil, Nat.zero_add]
  | succ n ih =>
    intro k
    have e : sm (fun i => if p i = true then 1 else 0) (k + 1) = sm (fun i => if p i = true then 1 else 0) k + (if p k = true then 1 else 0) := by rw [sm]
    have h := ih (k + 1)
    rw [show k + 1 + n = k + (n + 1) by omega, e] at h
    rw [kd]
    by_cases c : p k = true
    · rw [if_pos c] at h ⊢
      rw [List.length_cons]; omega
    · rw [if_neg c] at h ⊢
      omega
theorem kids_len {fc : Nat → Int32} {T r : Nat} : (kids fc T r).length = cn (isKid fc T r) := by
  have h := kd_length (p := isKid fc T r) 10 0
  rw [show sm (fun i => if isKid fc T r i = true then 1 else 0) 0 = 0 from rfl, Nat.add_zero, Nat.zero_add] at h
  exact h
theorem kd_congr {p q : Nat → Bool} : ∀ (n k : Nat), (∀ i, k ≤ i → i < k + n → p i = q i) → kd p n k = kd q n k := by
  intro n
  induction n with
  | zero => intro k _; rw [kd, kd]
  | succ n ih => intro k h; rw [kd, kd, h k (by omega) (by omega), ih (k + 1) (fun i h1 h2 => h i (by omega) (by omega))]
theorem kids_congr {fc fc' : Nat → Int32} {T r : Nat} (h : ∀ i, i < 10 → fc' (T * 10 + i) = fc (T * 10 + i)) : kids fc' T r = kids fc T r := by
  unfold kids
  exact kd_congr 10 0 (fun i _ hi => by unfold isKid; rw [h i (by omega)])
theorem kid_iff {fc : Nat → Int32} {T r k : Nat} : isKid fc T r k = true ↔ fc (T * 10 + k) = nI r := decide_eq_true_iff
theorem kids_nodup {fc : Nat → Int32} {T r : Nat} : (kids fc T r).Nodup := kd_nodup 10 0
def addV (V : Nat → Nat → Bool) (T r : Nat) : Nat → Nat → Bool := fun T' i => V T' i || (decide (T' = T) && decide (i = r))
def addK (P : Nat → Nat → Bool) (T : Nat) (K : Nat → Bool) : Nat → Nat → Bool := fun T' i => P T' i || (decide (T' = T) && K i)
theorem addV_mono {V : Nat → Nat → Bool} {T r T' i : Nat} (h : V T' i = true) : addV V T r T' i = true := by unfold addV; rw [h]; rfl
theorem addK_mono {P : Nat → Nat → Bool} {T : Nat} {K : Nat → Bool} {T' i : Nat} (h : P T' i = true) : addK P T K T' i = true := by unfold addK; rw [h]; rfl
theorem addV_self {V : Nat → Nat → Bool} {T r : Nat} : addV V T r T r = true := by unfold addV; rw [decide_eq_true rfl, decide_eq_true rfl]; simp
theorem addK_self {P : Nat → Nat → Bool} {T i : Nat} {K : Nat → Bool} (h : K i = true) : addK P T K T i = true := by unfold addK; rw [h, decide_eq_true rfl]; simp
theorem addV_inv {V : Nat → Nat → Bool} {T r T' i : Nat} (h : addV V T r T' i = true) : V T' i = true ∨ (T' = T ∧ i = r) := by
  unfold addV at h
  rw [Bool.or_eq_true, Bool.and_eq_true, decide_eq_true_iff, decide_eq_true_iff] at h
  exact h
theorem addK_inv {P : Nat → Nat → Bool} {T : Nat} {K : Nat → Bool} {T' i : Nat} (h : addK P T K T' i = true) : P T' i = true ∨ (T' = T ∧ K i = true) := by
  unfold addK at h
  rw [Bool.or_eq_true, Bool.and_eq_true, decide_eq_true_iff] at h
  exact h
theorem addV_off {V : Nat → Nat → Bool} {T r T' i : Nat} (h : ¬ (T' = T ∧ i = r)) : addV V T r T' i = V T' i := by
  cases e : addV V T r T' i
  · cases e2 : V T' i
    · rfl
    · rw [addV_mono e2] at e; cases e
  · exact ((addV_inv e).resolve_right h).symm
theorem addK_off {P : Nat → Nat → Bool} {T : Nat} {K : Nat → Bool} {T' i : Nat} (h : ¬ T' = T) : addK P T K T' i = P T' i := by
  unfold addK
  rw [decide_eq_false h, Bool.false_and, Bool.or_false]
def key (y : Cp) : Nat × Nat := (y.2.1, y.2.2.2)
/-- the packet pk of the source s to the group g: V: the routers, tree by tree, that it came to; P: those too that a copy is on its way to; ex: where it is just coming to; d: the source has sent it on; mt: it went to the root of the shared tree -/
def SI (fr : Nat → Int32) (g s pk : Nat) (w0 : Int32) (fc0 : Nat → Int32) (was0 : Int32) (d mt : Bool) (ex : List (Nat × Nat)) (V P : Nat → Nat → Bool) (l : List Cp) (fw fc pr pd : Nat → Int32) (was : Int32) : Prop :=
  (∀ y ∈ l, y.1 = pk ∧ (y.2.1 = g ∨ y.2.1 = 4 + g * 10 + s) ∧ y.2.2.1 < 10 ∧ y.2.2.2 < 10 ∧ P y.2.1 y.2.2.2 = true ∧ V y.2.1 y.2.2.2 = false ∧ V y.2.1 y.2.2.1 = true ∧ fc (y.2.1 * 10 + y.2.2.2) = nI y.2.2.1) ∧
  (ex ++ l.map key).Nodup ∧
  (∀ T r, r < 10 → V T r = true → P T r = true) ∧
  (∀ T r, T = g ∨ T = 4 + g * 10 + s → r < 10 → P T r = true → fr T = nI r ∨ ∃ f, f < 10 ∧ V T f = true ∧ fc (T * 10 + r) = nI f) ∧
  (∀ T r k, T = g ∨ (T = 4 + g * 10 + s ∧ fw (4 + g * 10 + s) = w0) → d = true ∨ ¬ (T = 4 + g * 10 + s ∧ r = s) → r < 10 → k < 10 → V T r = true → fc (T * 10 + k) = nI r → P T k = true) ∧
  (∀ T r, T = g ∨ T = 4 + g * 10 + s → r < 10 → P T r = true → V T r = true ∨ (T, r) ∈ ex ∨ ∃ y ∈ l, y.2.1 = T ∧ y.2.2.2 = r) ∧
  (∀ i, i < 32 → bt (pr pk) i = (decide (i < 10) && (bt (fw g) i && (V g i || V (4 + g * 10 + s) i)))) ∧
  (∃ n : Nat, pd pk = nI n ∧ n + cn (fun i => bt (fw g) i && (V g i || V (4 + g * 10 + s) i)) = cn (fun i => bt (fw g) i && V g i) + cn (fun i => bt (fw g) i && V (4 + g * 10 + s) i)) ∧
  was = was0 ∧
  ex.length + l.length + cn (V g) + cn (V (4 + g * 10 + s)) = cn (P g) + cn (P (4 + g * 10 + s)) ∧
  (∀ i, i < 32 → bt w0 i = true → bt (fw (4 + g * 10 + s)) i = true) ∧
  (fw (4 + g * 10 + s) = w0 → ∀ i, i < 10 → fc ((4 + g * 10 + s) * 10 + i) = fc0 ((4 + g * 10 + s) * 10 + i)) ∧
  (mt = false → (∀ r, r < 10 → P g r = false) ∧ fw (4 + g * 10 + s) = w0) ∧
  (mt = true → d = true → ∀ o, o < 10 → fr g = nI o → V g o = true) ∧
  (∀ q ∈ ex, (q.1 = g ∨ q.1 = 4 + g * 10 + s) ∧ q.2 < 10 ∧ P q.1 q.2 = true ∧ V q.1 q.2 = false) ∧
  V (4 + g * 10 + s) s = true
theorem TI_root {rc rl rh : Nat → Int32} {C D : Nat → Nat → Nat} (hR : Rt rc rl rh C D) {w : Nat → Bool} {bd : Nat → Nat → Prop} {T o : Nat} (ho : o < 10) {fc fg : Nat → Int32} (h : TI rh D (nI o) w bd T fc fg) : fc (T * 10 + o) = -1 := by
  rcases h.1 o ho with z | ⟨p, o', a1, a2, a3, a4, a5, _⟩
  · exact z.1
  · have e : o = o' := (nI_eq (by omega) (by omega)).mp a3
    subst e
    rcases Rt_hop hR ho ho with ⟨q, -⟩ | ⟨_, _, _, q, _⟩
    · rw [q] at a5; exact absurd a5 (nI_m1 (by omega))
    · exact absurd rfl q
/-- the packet comes to a router through a tree (or as the root) -/
theorem visit {rc rl rh fr : Nat → Int32} {C D : Nat → Nat → Nat} (hR : Rt rc rl rh C D) {g s pk t T r : Nat} (hg : g < 4) (hs : s < 10) {w0 : Int32} {fc0 : Nat → Int32} {was0 : Int32} {d mt : Bool} {V P : Nat → Nat → Bool} {l : List Cp} {fw fc fg pr pd : Nat → Int32} {was : Int32}
    (h : SI fr g s pk w0 fc0 was0 d mt [(T, r)] V P l fw fc pr pd was) (hF : FI rh D fr fw (bnd t) fc fg) {sw : Bool}
    (hsw : sw = true → f_X5_has (fw g) r = true ∧ ¬ f_X5_has (pr pk) r = true ∧ T < 4 ∧ ¬ r = s ∧ ¬ f_X5_has (fw ((4 + (g * 10)) + s)) r = true) :
    (kids (swF sw g s r rh fr fc fg).1 T r).length ≤ 200 - l.length ∧ (kids (swF sw g s r rh fr fc fg).1 T r).take (200 - l.length) = kids fc T r ∧
    SI fr g s pk w0 fc0 was0 d mt [] (addV V T r) (addK P T (isKid fc T r)) (l ++ news pk T r (kids fc T r)) (swFw sw fw g s r) (swF sw g s r rh fr fc fg).1 (gPr (f_X5_has (fw g) r && !f_X5_has (pr pk) r) pk r pr) (gPd (f_X5_has (fw g) r && f_X5_has (pr pk) r) pk pd) (was + nI ((kids (swF sw g s r rh fr fc fg).1 T r).length - (200 - l.length))) := by
  obtain ⟨a1, a2, a3, a4, a5, a6, a7, a8, a9, a10, a11, a12, a13, a14, a15, a16⟩ := h
  obtain ⟨hT, hr, hPr, hVr⟩ := a15 (T, r) List.mem_cons_self
  dsimp only at hT hr hPr hVr
  have hT44 : T < 44 := by omega
  have hne : ¬ g = 4 + g * 10 + s := by omega
  rw [has_bt _ hr, has_bt _ hr] at *
  -- the branches afterwards
  have k1 : ∀ e, ¬ fc e = -1 → (swF sw g s r rh fr fc fg).1 e = fc e := fun e he => by
    unfold swF
    cases sw
    · rw [if_neg Bool.false_ne_true]
    · rw [if_pos rfl]; unfold f_X2_graft; exact graft_keep 10 0 _ fc e he
  have k2 : ∀ i, i < 10 → (swF sw g s r rh fr fc fg).1 (g * 10 + i) = fc (g * 10 + i) := fun i hi => by
    unfold swF
    cases sw
    · rw [if_neg Bool.false_ne_true]
    · rw [if_pos rfl]; exact graft_fr.1 _ (by omega)
  have k3 : sw = false → (swF sw g s r rh fr fc fg).1 = fc := fun e => by
    unfold swF
    rw [e, if_neg Bool.false_ne_true]
  have k4 : sw = true → T = g := fun e => by
    have := (hsw e).2.2.1
    omega
  have k5 : swFw sw fw g s r (4 + g * 10 + s) = w0 → sw = false := fun e => by
    cases q : sw
    · rfl
    · exfalso
      obtain ⟨b1, b2, b3, b4, b5⟩ := hsw q
      rw [has_bt _ hr] at b5
      have e2 : swFw sw fw g s r (4 + g * 10 + s) = (fw (4 + g * 10 + s)) ||| ((nI 1) <<< ((nI r) &&& 31)) := by unfold swFw; rw [q, if_pos rfl, pk_us]
      have e3 : bt w0 r = true := by rw [← e, e2, b_or, bt_one (by omega) (by omega), decide_eq_true rfl, Bool.or_true]
      exact b5 (a11 r (by omega) e3)
  have k6 : sw = false → swFw sw fw g s r = fw := fun e => by unfold swFw; rw [e, if_neg Bool.false_ne_true]
  have k7 : swFw sw fw g s r g = fw g := by
    unfold swFw
    cases sw
    · rw [if_neg Bool.false_ne_true]
    · rw [if_pos rfl, pk_un (by omega)]
  have k8 : ∀ i, i < 10 → (swF sw g s r rh fr fc fg).1 (T * 10 + i) = fc (T * 10 + i) := fun i hi => by
    rcases Bool.eq_false_or_eq_true sw with q | q
    · rw [k4 q]; exact k2 i hi
    · rw [k3 q]
  have hkids : kids (swF sw g s r rh fr fc fg).1 T r = kids fc T r := kids_congr k8
  -- a copy goes to none that had one
  have hnP : ∀ k, k < 10 → fc (T * 10 + k) = nI r → P T k = false := fun k hk hfk => by
    cases q : P T k
    · rfl
    · exfalso
      rcases a4 T k hT hk q with z | ⟨f, f1, f2, f3⟩
      · have := TI_root hR hk (by have := hF T hT44; rw [z] at this; exact this)
        rw [this] at hfk
        exact nI_m1 (by omega) hfk
      · have : f = r := (nI_eq (by omega) (by omega)).mp (f3.symm.trans hfk)
        subst this
        rw [hVr] at f2; cases f2
  have hnV : ∀ k, k < 10 → fc (T * 10 + k) = nI r → V T k = false := fun k hk hfk => by
    cases q : V T k
    · rfl
    · have := a3 T k hk q; rw [hnP k hk hfk] at this; cases this
  have hkr : ∀ k, k < 10 → fc (T * 10 + k) = nI r → ¬ k = r := fun k hk hfk e => by
    have := hnP k hk hfk
    rw [e, hPr] at this; cases this
  have hcP : cn (addK P T (isKid fc T r) g) + cn (addK P T (isKid fc T r) (4 + g * 10 + s)) = cn (P g) + cn (P (4 + g * 10 + s)) + (kids fc T r).length := by
    rw [kids_len]
    have hadd : cn (addK P T (isKid fc T r) T) = cn (P T) + cn (isKid fc T r) := by
      rw [← cn_add (f := P T) (g := isKid fc T r) (fun i hi hf => by
        cases q : isKid fc T r i
        · rfl
        · have := hnP i hi (kid_iff.mp q)
          rw [hf] at this; cases this)]
      exact cn_congr (fun i hi => by unfold addK; rw [decide_eq_true rfl, Bool.true_and])
    rcases hT with rfl | e
    · rw [hadd, cn_congr (f := addK P T (isKid fc T r) (4 + T * 10 + s)) (g := P (4 + T * 10 + s)) (fun i hi => addK_off (fun z => hne z.symm))]; omega
    · rw [← e, hadd, cn_congr (f := addK P T (isKid fc T r) g) (g := P g) (fun i hi => addK_off (by omega))]; omega
  have hcV : cn (addV V T r g) + cn (addV V T r (4 + g * 10 + s)) = cn (V g) + cn (V (4 + g * 10 + s)) + 1 := by
    have hadd : cn (addV V T r T) = cn (V T) + 1 := cn_put hr hVr (fun i hi => by unfold addV; rw [decide_eq_true rfl, Bool.true_and])
    rcases hT with rfl | e
    · rw [hadd, cn_congr (f := addV V T r (4 + T * 10 + s)) (g := V (4 + T * 10 + s)) (fun i hi => addV_off (fun z => hne z.1.symm))]; omega
    · rw [← e, hadd, cn_congr (f := addV V T r g) (g := V g) (fun i hi => addV_off (fun z => by omega))]; omega
  have hlen : l.length + (kids fc T r).length ≤ 20 := by
    have b1 := cn_le (addK P T (isKid fc T r) g)
    have b2 := cn_le (addK P T (isKid fc T r) (4 + g * 10 + s))
    rw [List.length_singleton] at a10
    omega
  refine ⟨by rw [hkids]; omega, by rw [hkids]; exact List.take_of_length_le (by omega), fun y hy => ?_, ?_, fun T' i hi hv => ?_, fun T' i hT' hi hp => ?_, fun T' i k hT' hd hi hk hv hf => ?_, fun T' i hT' hi hp => ?_, fun i hi => ?_, ?_, ?_, ?_, fun i hi hw => ?_, fun e i hi => ?_, fun e => ?_, fun e1 e2 o ho hfo => addV_mono (a14 e1 e2 o ho hfo), fun q hq => absurd hq List.not_mem_nil, addV_mono a16⟩
  · rcases List.mem_append.mp hy with hy | hy
    · obtain ⟨c1, c2, c3, c4, c5, c6, c7, c8⟩ := a1 y hy
      refine ⟨c1, c2, c3, c4, addK_mono c5, ?_, addV_mono c7, by rw [k1 _ (by rw [c8]; exact nI_neg1 (by omega))]; exact c8⟩
      rw [addV_off (fun z => ?_)]
      · exact c6
      · have hk : key y ∈ l.map key := List.mem_map_of_mem hy
        have e : key y = (T, r) := by unfold key; rw [z.1, z.2]
        rw [e] at hk
        exact (List.nodup_cons.mp a2).1 hk
    · obtain ⟨k, hk, rfl⟩ := List.mem_map.mp hy
      obtain ⟨hk10, hfk⟩ := mem_kids.mp hk
      refine ⟨rfl, hT, hr, hk10, addK_self (kid_iff.mpr hfk), ?_, addV_self, by show (swF sw g s r rh fr fc fg).1 (T * 10 + k) = nI r; rw [k8 k hk10]; exact hfk⟩
      rw [addV_off (fun z => hkr k hk10 hfk z.2)]
      exact hnV k hk10 hfk
  · rw [List.nil_append, List.map_append]
    refine List.nodup_append.mpr ⟨(List.nodup_cons.mp a2).2, ?_, fun q1 hq1 q2 hq2 e => ?_⟩
    · unfold news
      rw [List.map_map]
      have hinj : (kids fc T r).map (fun k => (T, k)) = ((kids fc T r).map (key ∘ fun k => (pk, T, r, k))) := rfl
      rw [← hinj]
      exact (List.pairwise_map.mpr (List.Pairwise.imp (fun hne e => hne (Prod.mk.inj e).2) kids_nodup))
    · subst e
      obtain ⟨y, hy, rfl⟩ := List.mem_map.mp hq1
      obtain ⟨z, hz, ez⟩ := List.mem_map.mp hq2
      obtain ⟨k, hk, rfl⟩ := List.mem_map.mp hz
      obtain ⟨hk10, hfk⟩ := mem_kids.mp hk
      obtain ⟨c1, c2, c3, c4, c5, _⟩ := a1 y hy
      have e1 : T = y.2.1 := (Prod.mk.inj ez).1
      have e2 : k = y.2.2.2 := (Prod.mk.inj ez).2
      have := hnP k hk10 hfk
      rw [e1, e2, c5] at this; cases this
  · rcases addV_inv hv with z | ⟨z1, z2⟩
    · exact addK_mono (a3 T' i hi z)
    · rw [z1, z2]; exact addK_mono hPr
  · rcases addK_inv hp with z | ⟨z1, z2⟩
    · rcases a4 T' i hT' hi z with q | ⟨f, f1, f2, f3⟩
      · exact Or.inl q
      · exact Or.inr ⟨f, f1, addV_mono f2, by rw [k1 _ (by rw [f3]; exact nI_neg1 (by omega))]; exact f3⟩
    · rw [z1]
      exact Or.inr ⟨r, hr, addV_self, by rw [k8 i hi]; exact kid_iff.mp z2⟩
  · rcases addV_inv hv with z | ⟨z1, z2⟩
    · rcases hT' with q | ⟨q1, q2⟩
      · subst q
        rw [k2 k hk] at hf
        exact addK_mono (a5 T' i k (Or.inl rfl) hd hi hk z hf)
      · have es := k5 q2
        rw [k3 es] at hf
        rw [k6 es] at q2
        exact addK_mono (a5 T' i k (Or.inr ⟨q1, q2⟩) hd hi hk z hf)
    · rw [z1, z2] at hf
      rw [k8 k hk] at hf
      rw [z1]
      exact addK_self (kid_iff.mpr hf)
  · rcases addK_inv hp with z | ⟨z1, z2⟩
    · rcases a6 T' i hT' hi z with q | q | ⟨y, q1, q2⟩
      · exact Or.inl (addV_mono q)
      · rw [List.mem_singleton] at q
        obtain ⟨e1, e2⟩ := Prod.mk.inj q
        rw [e1, e2]; exact Or.inl addV_self
      · exact Or.inr (Or.inr ⟨y, List.mem_append_left _ q1, q2⟩)
    · refine Or.inr (Or.inr ⟨(pk, T, r, i), List.mem_append_right _ (List.mem_map.mpr ⟨i, mem_kids.mpr ⟨hi, kid_iff.mp z2⟩, rfl⟩), z1.symm, rfl⟩)
  · rw [k7]
    have hu : ∀ b, bt (gPr b pk r pr pk) i = (bt (pr pk) i || (b && decide (i = r))) := fun b => by
      unfold gPr
      cases b
      · rw [if_neg Bool.false_ne_true, Bool.false_and, Bool.or_false]
      · rw [if_pos rfl, pk_us, b_or, bt_one (by omega) hi, Bool.true_and]
    rw [hu]
    by_cases e : i = r
    · subst e
      have hv : (addV V T i g i || addV V T i (4 + g * 10 + s) i) = true := by
        rcases hT with rfl | q
        · rw [addV_self]; rfl
        · rw [← q, addV_self, Bool.or_true]
      rw [hv, decide_eq_true rfl, decide_eq_true hr, Bool.true_and, Bool.and_true, Bool.and_true]
      have := a7 i hi
      rw [decide_eq_true hr, Bool.true_and] at this
      cases m : bt (fw g) i
      · rw [m, Bool.false_and] at this; rw [this]; rfl
      · cases q : bt (pr pk) i <;> rfl
    · rw [decide_eq_false e, Bool.and_false, Bool.or_false, a7 i hi, addV_off (fun z => e z.2), addV_off (fun z => e z.2)]
  · obtain ⟨n, n1, n2⟩ := a8
    rw [k7]
    have ho := a7 r (by omega)
    rw [decide_eq_true hr, Bool.true_and] at ho
    have hsame : ∀ i, ¬ i = r → addV V T r g i = V g i ∧ addV V T r (4 + g * 10 + s) i = V (4 + g * 10 + s) i := fun i e => ⟨addV_off (fun z => e z.2), addV_off (fun z => e z.2)⟩
    cases m : bt (fw g) r
    · have hh : bt (pr pk) r = false := by rw [ho, m, Bool.false_and]
      refine ⟨n, by unfold gPd; rw [hh]; exact n1, ?_⟩
      rw [cn_congr (f := fun i => bt (fw g) i && (addV V T r g i || addV V T r (4 + g * 10 + s) i)) (g := fun i => bt (fw g) i && (V g i || V (4 + g * 10 + s) i)) (fun i hi => by
          by_cases e : i = r
          · subst e; show (bt (fw g) i && _) = (bt (fw g) i && _); rw [m, Bool.false_and, Bool.false_and]
          · show (bt (fw g) i && (addV V T r g i || addV V T r (4 + g * 10 + s) i)) = _; rw [(hsame i e).1, (hsame i e).2]),
        cn_congr (f := fun i => bt (fw g) i && addV V T r g i) (g := fun i => bt (fw g) i && V g i) (fun i hi => by
          by_cases e : i = r
          · subst e; show (bt (fw g) i && _) = (bt (fw g) i && _); rw [m, Bool.false_and, Bool.false_and]
          · show (bt (fw g) i && addV V T r g i) = _; rw [(hsame i e).1]),
        cn_congr (f := fun i => bt (fw g) i && addV V T r (4 + g * 10 + s) i) (g := fun i => bt (fw g) i && V (4 + g * 10 + s) i) (fun i hi => by
          by_cases e : i = r
          · subst e; show (bt (fw g) i && _) = (bt (fw g) i && _); rw [m, Bool.false_and, Bool.false_and]
          · show (bt (fw g) i && addV V T r (4 + g * 10 + s) i) = _; rw [(hsame i e).2])]
      exact n2
    · -- a member: one of the two numbers grows
      have hone : cn (fun i => bt (fw g) i && addV V T r g i) + cn (fun i => bt (fw g) i && addV V T r (4 + g * 10 + s) i) = cn (fun i => bt (fw g) i && V g i) + cn (fun i => bt (fw g) i && V (4 + g * 10 + s) i) + 1 := by
        have hput : cn (fun i => bt (fw g) i && addV V T r T i) = cn (fun i => bt (fw g) i && V T i) + 1 := cn_put hr (by show (bt (fw g) r && V T r) = false; rw [hVr, Bool.and_false]) (fun i hi => by
          by_cases e : i = r
          · subst e; show (bt (fw g) i && addV V T i T i) = _; rw [m, addV_self, decide_eq_true rfl]; simp
          · show (bt (fw g) i && addV V T r T i) = _; rw [addV_off (fun z => e z.2), decide_eq_false e, Bool.or_false])
        rcases hT with rfl | e
        · rw [hput, cn_congr (f := fun i => bt (fw T) i && addV V T r (4 + T * 10 + s) i) (g := fun i => bt (fw T) i && V (4 + T * 10 + s) i) (fun i hi => by
            show (bt (fw T) i && addV V T r (4 + T * 10 + s) i) = _; rw [addV_off (fun z => hne z.1.symm)])]; omega
        · rw [← e, hput, cn_congr (f := fun i => bt (fw g) i && addV V T r g i) (g := fun i => bt (fw g) i && V g i) (fun i hi => by
            show (bt (fw g) i && addV V T r g i) = _; rw [addV_off (fun z => by omega)])]; omega
      rw [m, Bool.true_and] at ho
      cases q : bt (pr pk) r
      · rw [q] at ho
        have hfo : V g r = false ∧ V (4 + g * 10 + s) r = false := by
          cases q1 : V g r
          · cases q2 : V (4 + g * 10 + s) r
            · exact ⟨rfl, rfl⟩
            · rw [q1, q2] at ho; cases ho
          · rw [q1] at ho; cases ho
        refine ⟨n, by unfold gPd; exact n1, ?_⟩
        have hun : cn (fun i => bt (fw g) i && (addV V T r g i || addV V T r (4 + g * 10 + s) i)) = cn (fun i => bt (fw g) i && (V g i || V (4 + g * 10 + s) i)) + 1 := cn_put hr (by show (bt (fw g) r && (V g r || V (4 + g * 10 + s) r)) = false; rw [hfo.1, hfo.2]; simp) (fun i hi => by
          by_cases e : i = r
          · subst e
            have hv : (addV V T i g i || addV V T i (4 + g * 10 + s) i) = true := by
              rcases hT with rfl | z
              · rw [addV_self]; rfl
              · rw [← z, addV_self, Bool.or_true]
            show (bt (fw g) i && (addV V T i g i || addV V T i (4 + g * 10 + s) i)) = _
            rw [hv, m, decide_eq_true rfl]; simp
          · show (bt (fw g) i && (addV V T r g i || addV V T r (4 + g * 10 + s) i)) = _
            rw [(hsame i e).1, (hsame i e).2, decide_eq_false e, Bool.or_false])
        omega
      · rw [q] at ho
        refine ⟨n + 1, by unfold gPd; rw [Bool.true_and, if_pos rfl, pk_us, n1, nI_add], ?_⟩
        have hun : cn (fun i => bt (fw g) i && (addV V T r g i || addV V T r (4 + g * 10 + s) i)) = cn (fun i => bt (fw g) i && (V g i || V (4 + g * 10 + s) i)) := cn_congr (fun i hi => by
          by_cases e : i = r
          · subst e
            have hv : (addV V T i g i || addV V T i (4 + g * 10 + s) i) = true := by
              rcases hT with rfl | z
              · rw [addV_self]; rfl
              · rw [← z, addV_self, Bool.or_true]
            show (bt (fw g) i && (addV V T i g i || addV V T i (4 + g * 10 + s) i)) = (bt (fw g) i && (V g i || V (4 + g * 10 + s) i))
            rw [hv, ← ho]
          · show (bt (fw g) i && (addV V T r g i || addV V T r (4 + g * 10 + s) i)) = (bt (fw g) i && (V g i || V (4 + g * 10 + s) i))
            rw [(hsame i e).1, (hsame i e).2])
        omega
  · rw [hkids, show (kids fc T r).length - (200 - l.length) = 0 by omega, nI_0, Int32.add_zero]; exact a9
  · rw [List.length_nil, List.length_append, show (news pk T r (kids fc T r)).length = (kids fc T r).length from List.length_map _]
    rw [List.length_singleton] at a10
    omega
  · have hb := a11 i hi hw
    unfold swFw
    cases sw
    · rw [if_neg Bool.false_ne_true]; exact hb
    · rw [if_pos rfl, pk_us, b_or, hb, Bool.true_or]
  · have es := k5 e
    rw [k3 es]
    rw [k6 es] at e
    exact a12 e i hi
  · obtain ⟨b1, b2⟩ := a13 e
    have hTg : ¬ T = g := fun z => by rw [z, b1 r hr] at hPr; cases hPr
    have es : sw = false := by
      cases q : sw
      · rfl
      · exact absurd (k4 q) hTg
    refine ⟨fun i hi => ?_, by rw [k6 es]; exact b2⟩
    rw [addK_off (fun z => hTg z.symm)]
    exact b1 i hi
