/-! who has the packet at its end -/
theorem end_P {fr : Nat → Int32} {g s pk : Nat} {w0 : Int32} {fc0 : Nat → Int32} {was0 : Int32} {d mt : Bool} {V P : Nat → Nat → Bool} {fw fc pr pd : Nat → Int32} {was : Int32} (h : SI fr g s pk w0 fc0 was0 d mt [] V P [] fw fc pr pd was) {T r : Nat} (hT : T = g ∨ T = 4 + g * 10 + s) (hr : r < 10) (hp : P T r = true) : V T r = true := by
  rcases h.2.2.2.2.2.1 T r hT hr hp with z | z | ⟨y, z, _⟩
  · exact z
  · exact absurd z List.not_mem_nil
  · exact absurd z List.not_mem_nil
/-- all that are on the tree -/
theorem end_tree {rc rl rh fr : Nat → Int32} {C D : Nat → Nat → Nat} (hR : Rt rc rl rh C D) {g s pk t : Nat} (hg : g < 4) (hs : s < 10) {w0 : Int32} {fc0 : Nat → Int32} {was0 : Int32} {mt : Bool} {V P : Nat → Nat → Bool} {fw fc fg pr pd : Nat → Int32} {was : Int32} (h : SI fr g s pk w0 fc0 was0 true mt [] V P [] fw fc pr pd was) (hF : FI rh D fr fw (bnd t) fc fg)
    {T o : Nat} (hT : T = g ∨ (T = 4 + g * 10 + s ∧ fw (4 + g * 10 + s) = w0)) (ho : o < 10) (hfo : fr T = nI o) (hV : V T o = true) : ∀ (m r : Nat), rank D o r ≤ m → r < 10 → (r = o ∨ ¬ fc (T * 10 + r) = -1) → V T r = true := by
  have hT' : T = g ∨ T = 4 + g * 10 + s := hT.imp id (fun z => z.1)
  have hT44 : T < 44 := by omega
  intro m
  induction m with
  | zero =>
    intro r hr hr10 hc
    rcases hc with rfl | hc
    · exact hV
    · obtain ⟨p, o', b1, b2, b3, b4, b5, _⟩ := ((hF T hT44).1 r hr10).resolve_left (fun z => hc z.1)
      have e : o' = o := (nI_eq (by omega) (by omega)).mp (b3.symm.trans hfo)
      subst e
      rcases Rt_hop hR hr10 b2 with ⟨z, -⟩ | ⟨j, j1, j2, _, _, j3, j4⟩
      · rw [z] at b5; exact absurd b5 (nI_m1 (by omega))
      · have := rank_dec (D := D) (o := o') (x := r) j1 (by omega)
        omega
  | succ m ih =>
    intro r hr hr10 hc
    rcases hc with rfl | hc
    · exact hV
    · obtain ⟨p, o', b1, b2, b3, b4, b5, b6, _⟩ := ((hF T hT44).1 r hr10).resolve_left (fun z => hc z.1)
      have e : o' = o := (nI_eq (by omega) (by omega)).mp (b3.symm.trans hfo)
      subst e
      rcases Rt_hop hR hr10 b2 with ⟨z, -⟩ | ⟨j, j1, j2, _, _, j3, j4⟩
      · rw [z] at b5; exact absurd b5 (nI_m1 (by omega))
      · have ejp : j = p := (nI_eq (by omega) (by omega)).mp (j2.symm.trans b5)
        subst ejp
        have hd := rank_dec (D := D) (o := o') (x := r) j1 (by omega)
        have hp := ih j (by omega) j1 b6
        exact end_P h hT' hr10 (h.2.2.2.2.1 T j r hT (Or.inl rfl) j1 hr10 hp b4)
/-- who has it through a tree can come to the tree's root -/
theorem end_reach {rc rl rh fr : Nat → Int32} {C D : Nat → Nat → Nat} (hR : Rt rc rl rh C D) {g s pk t : Nat} (hg : g < 4) (hs : s < 10) {w0 : Int32} {fc0 : Nat → Int32} {was0 : Int32} {d mt : Bool} {V P : Nat → Nat → Bool} {fw fc fg pr pd : Nat → Int32} {was : Int32} (h : SI fr g s pk w0 fc0 was0 d mt [] V P [] fw fc pr pd was) (hF : FI rh D fr fw (bnd t) fc fg)
    {T o r : Nat} (hT : T = g ∨ T = 4 + g * 10 + s) (ho : o < 10) (hfo : fr T = nI o) (hr : r < 10) (hV : V T r = true) : D r o < 1000000 ∧ (r = o ∨ ¬ fc (T * 10 + r) = -1) := by
  have hT44 : T < 44 := by omega
  rcases h.2.2.2.1 T r hT hr (h.2.2.1 T r hr hV) with z | ⟨f, f1, f2, f3⟩
  · have e : r = o := (nI_eq (by omega) (by omega)).mp (z.symm.trans hfo)
    subst e
    exact ⟨by rw [hR.2.2.2.1.1 r hr]; decide, Or.inl rfl⟩
  · have hne : ¬ fc (T * 10 + r) = -1 := by rw [f3]; exact nI_neg1 (by omega)
    obtain ⟨p, o', b1, b2, b3, b4, b5, b6, _⟩ := ((hF T hT44).1 r hr).resolve_left (fun z => hne z.1)
    have e : o' = o := (nI_eq (by omega) (by omega)).mp (b3.symm.trans hfo)
    subst e
    rcases Rt_hop hR hr b2 with ⟨z, -⟩ | ⟨j, j1, j2, _, j5, j3, j4⟩
    · rw [z] at b5; exact absurd b5 (nI_m1 (by omega))
    · exact ⟨j5, Or.inr hne⟩
theorem reach_tri {rc rl rh : Nat → Int32} {C D : Nat → Nat → Nat} (hR : Rt rc rl rh C D) {a b c : Nat} (ha : a < 10) (hb : b < 10) (hc : c < 10) (h1 : D a b < 1000000) (h2 : D b c < 1000000) : D a c < 1000000 := by
  have t := hR.2.2.2.1.2.2.2.1 b a c hb ha hc
  have i1 := hR.2.2.2.1.2.1 a b ha hb
  have i2 := hR.2.2.2.1.2.1 b c hb hc
  omega
theorem reach_sym {rc rl rh : Nat → Int32} {C D : Nat → Nat → Nat} (hR : Rt rc rl rh C D) {a b : Nat} (ha : a < 10) (hb : b < 10) : D a b = D b a := hR.2.2.2.1.2.2.1 a b ha hb
/-- it went to the rendezvous point: all members that can be reached have it, through the shared tree -/
theorem end_meets {rc rl rh fr : Nat → Int32} {C D : Nat → Nat → Nat} (hR : Rt rc rl rh C D) {g s pk t o : Nat} (hg : g < 4) (hs : s < 10) (hrs : fr (4 + g * 10 + s) = nI s) {w0 : Int32} {fc0 : Nat → Int32} {was0 : Int32} {V P : Nat → Nat → Bool} {fw fc fg pr pd : Nat → Int32} {was : Int32} (h : SI fr g s pk w0 fc0 was0 true true [] V P [] fw fc pr pd was) (hF : FI rh D fr fw (bnd t) fc fg)
    (ho : o < 10) (hfo : fr g = nI o) (hd : D s o < 1000000) : ∀ i, i < 10 → bt (fw g) i = true → V g i = reach D s i ∧ (V (4 + g * 10 + s) i = true → reach D s i = true) := by
  have hV := h.2.2.2.2.2.2.2.2.2.2.2.2.2.1 rfl rfl o ho hfo
  intro i hi hm
  refine ⟨?_, fun z => ?_⟩
  · by_cases c : D s i < 1000000
    · rw [show reach D s i = true from decide_eq_true c]
      have hoi : D i o < 1000000 := reach_tri hR hi hs ho (by rw [reach_sym hR hi hs]; exact c) hd
      refine end_tree hR hg hs h hF (Or.inl rfl) ho hfo hV _ i (Nat.le_refl _) hi ?_
      by_cases e : i = o
      · exact Or.inl e
      · exact Or.inr ((hF g (by omega)).2 i o hi ho hfo hm e hoi)
    · rw [show reach D s i = false from decide_eq_false c]
      cases q : V g i
      · rfl
      · have := (end_reach hR hg hs h hF (Or.inl rfl) ho hfo hi q).1
        exact absurd (reach_tri hR hs ho hi hd (by rw [reach_sym hR ho hi]; exact this)) c
  · have := (end_reach hR hg hs h hF (Or.inr rfl) hs hrs hi z).1
    rw [reach_sym hR hi hs] at this
    exact decide_eq_true this
/-- it did not: only through the source's tree; those that had switched and can be reached have it -/
theorem end_alone {rc rl rh fr : Nat → Int32} {C D : Nat → Nat → Nat} (hR : Rt rc rl rh C D) {g s pk t : Nat} (hg : g < 4) (hs : s < 10) (hrs : fr (4 + g * 10 + s) = nI s) {w0 : Int32} {fc0 : Nat → Int32} {was0 : Int32} {V P : Nat → Nat → Bool} {fw fc fg pr pd : Nat → Int32} {was : Int32} (h : SI fr g s pk w0 fc0 was0 true false [] V P [] fw fc pr pd was) (hF : FI rh D fr fw (bnd t) fc fg) :
    ∀ i, i < 10 → V g i = false ∧ (V (4 + g * 10 + s) i = true → reach D s i = true) ∧ (bt w0 i = true → reach D s i = true → V (4 + g * 10 + s) i = true) := by
  obtain ⟨n1, n2⟩ := h.2.2.2.2.2.2.2.2.2.2.2.2.1 rfl
  intro i hi
  refine ⟨?_, fun z => ?_, fun z1 z2 => ?_⟩
  · cases q : V g i
    · rfl
    · have := h.2.2.1 g i hi q
      rw [n1 i hi] at this; cases this
  · have := (end_reach hR hg hs h hF (Or.inr rfl) hs hrs hi z).1
    rw [reach_sym hR hi hs] at this
    exact decide_eq_true this
  · have hd : D i s < 1000000 := by rw [reach_sym hR hi hs]; exact of_decide_eq_true z2
    refine end_tree hR hg hs h hF (Or.inr ⟨rfl, n2⟩) hs hrs h.2.2.2.2.2.2.2.2.2.2.2.2.2.2.2 _ i (Nat.le_refl _) hi ?_
    by_cases e : i = s
    · exact Or.inl e
    · refine Or.inr ((hF (4 + g * 10 + s) (by omega)).2 i s hi hs hrs ?_ e hd)
      show bt (fw (4 + g * 10 + s)) i = true
      rw [n2]; exact z1
/-- nobody switched by it: twice for those on the source's tree, and for the source -/
theorem end_doubles {rc rl rh fr : Nat → Int32} {C D : Nat → Nat → Nat} (hR : Rt rc rl rh C D) {g s pk t o : Nat} (hg : g < 4) (hs : s < 10) (hrs : fr (4 + g * 10 + s) = nI s) {w0 : Int32} {fc0 : Nat → Int32} {was0 : Int32} {V P : Nat → Nat → Bool} {fw fc fg pr pd : Nat → Int32} {was : Int32} (h : SI fr g s pk w0 fc0 was0 true true [] V P [] fw fc pr pd was) (hF : FI rh D fr fw (bnd t) fc fg)
    (ho : o < 10) (hfo : fr g = nI o) (hd : D s o < 1000000) (hw : fw (4 + g * 10 + s) = w0) : pd pk = nI (cn (fun i => bt (fw g) i && (decide (¬ fc0 ((4 + g * 10 + s) * 10 + i) = -1) || decide (i = s)))) := by
  obtain ⟨n, n1, n2⟩ := h.2.2.2.2.2.2.2.1
  have hm := end_meets hR hg hs hrs h hF ho hfo hd
  have e1 : cn (fun i => bt (fw g) i && (V g i || V (4 + g * 10 + s) i)) = cn (fun i => bt (fw g) i && V g i) := cn_congr (fun i hi => by
    show (bt (fw g) i && (V g i || V (4 + g * 10 + s) i)) = (bt (fw g) i && V g i)
    cases q : bt (fw g) i
    · rfl
    · obtain ⟨m1, m2⟩ := hm i hi q
      cases q2 : V (4 + g * 10 + s) i
      · rw [Bool.or_false]
      · rw [m1, m2 q2]; rfl)
  have e2 : cn (fun i => bt (fw g) i && V (4 + g * 10 + s) i) = cn (fun i => bt (fw g) i && (decide (¬ fc0 ((4 + g * 10 + s) * 10 + i) = -1) || decide (i = s))) := cn_congr (fun i hi => by
    show (bt (fw g) i && V (4 + g * 10 + s) i) = (bt (fw g) i && (decide (¬ fc0 ((4 + g * 10 + s) * 10 + i) = -1) || decide (i = s)))
    have hfc := h.2.2.2.2.2.2.2.2.2.2.2.1 hw i hi
    have key : V (4 + g * 10 + s) i = (decide (¬ fc0 ((4 + g * 10 + s) * 10 + i) = -1) || decide (i = s)) := by
      rw [← hfc]
      cases q : V (4 + g * 10 + s) i
      · have hnot : ¬ (i = s ∨ ¬ fc ((4 + g * 10 + s) * 10 + i) = -1) := fun z => by
          have := end_tree hR hg hs h hF (Or.inr ⟨rfl, hw⟩) hs hrs h.2.2.2.2.2.2.2.2.2.2.2.2.2.2.2 _ i (Nat.le_refl _) hi z
          rw [q] at this; cases this
        rw [decide_eq_false (fun z => hnot (Or.inr z)), decide_eq_false (fun z => hnot (Or.inl z))]; rfl
      · rcases (end_reach hR hg hs h hF (Or.inr rfl) hs hrs hi q).2 with z | z
        · rw [decide_eq_true z, Bool.or_true]
        · rw [decide_eq_true z, Bool.true_or]
    rw [key])
  rw [n1, ← e2]
  congr 1
  omega
