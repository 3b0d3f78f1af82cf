/-! branches as sets; waiting copies as a list -/
theorem branches_bt {t r : Nat} {fc : Nat → Int32} {i : Nat} (hi : i < 32) : bt (f_X2_branchesFrom t r fc) i = (decide (i < 10) && decide (fc (t * 10 + i) = nI r)) := by
  unfold f_X2_branchesFrom
  have key : ∀ (n k : Nat) (x : Int32), k + n = 10 → bt (f_X2_branchesFrom_L21 t r fc n k x) i = (bt x i || (decide (k ≤ i) && (decide (i < 10) && decide (fc (t * 10 + i) = nI r)))) := by
    intro n
    induction n with
    | zero =>
      intro k x hk
      rw [f_X2_branchesFrom_L21]
      by_cases c : i < 10
      · rw [decide_eq_false (show ¬ k ≤ i by omega), Bool.false_and, Bool.or_false]
      · rw [decide_eq_false c, Bool.false_and, Bool.and_false, Bool.or_false]
    | succ n ih =>
      intro k x hk
      rw [f_X2_branchesFrom_L21]
      by_cases c : fc (t * 10 + k) = nI r
      · rw [if_pos c, ih (k + 1) _ (by omega), b_or, bt_one (by omega) hi]
        by_cases e : i = k
        · subst e
          rw [decide_eq_true rfl, decide_eq_true (show i < 10 by omega), decide_eq_true c, decide_eq_true (Nat.le_refl i)]
          simp
        · rw [decide_eq_false e, Bool.or_false]
          by_cases e2 : k ≤ i
          · rw [decide_eq_true e2, decide_eq_true (show k + 1 ≤ i by omega)]
          · rw [decide_eq_false e2, decide_eq_false (show ¬ k + 1 ≤ i by omega)]
      · rw [if_neg c, ih (k + 1) _ (by omega)]
        by_cases e : i = k
        · subst e
          rw [decide_eq_false c]
          simp
        · by_cases e2 : k ≤ i
          · rw [decide_eq_true e2, decide_eq_true (show k + 1 ≤ i by omega)]
          · rw [decide_eq_false e2, decide_eq_false (show ¬ k + 1 ≤ i by omega)]
  rw [key 10 0 _ rfl, show nI 0 = (0 : Int32) from rfl, b_0, decide_eq_true (Nat.zero_le i)]
  simp
theorem br_zero {T p : Nat} {fc : Nat → Int32} : f_X2_branchesFrom T p fc = 0 ↔ ∀ i, i < 10 → ¬ fc (T * 10 + i) = nI p := by
  constructor
  · intro h i hi q
    have h1 := branches_bt (t := T) (r := p) (fc := fc) (show i < 32 by omega)
    rw [h, b_0, decide_eq_true hi, decide_eq_true q] at h1
    cases h1
  · intro h
    refine b_ext fun i hi => ?_
    rw [branches_bt hi, b_0]
    by_cases c : i < 10
    · rw [decide_eq_false (h i c), Bool.and_false]
    · rw [decide_eq_false c, Bool.false_and]
def isKid (fc : Nat → Int32) (t r k : Nat) : Bool := decide (fc (t * 10 + k) = nI r)
theorem has_kid {fc : Nat → Int32} {t r k : Nat} (hk : k < 10) : f_X5_has (f_X2_branchesFrom t r fc) k = isKid fc t r k := by
  rw [has_bt _ hk, branches_bt (by omega), decide_eq_true hk, Bool.true_and]; rfl
/-- the numbers from k on, n of them, of which p holds -/
def kd (p : Nat → Bool) : Nat → Nat → List Nat
  | 0, _ => []
  | n + 1, k => if p k = true then k :: kd p n (k + 1) else kd p n (k + 1)
theorem kd_mem {p : Nat → Bool} {x : Nat} : ∀ (n k : Nat), x ∈ kd p n k ↔ (k ≤ x ∧ x < k + n) ∧ p x = true := by
  intro n
  induction n with
  | zero =>
    intro k
    rw [kd]
    exact ⟨fun h => absurd h List.not_mem_nil, fun h => by omega⟩
  | succ n ih =>
    intro k
    rw [kd]
    by_cases c : p k = true
    · rw [if_pos c, List.mem_cons, ih]
      constructor
      · rintro (rfl | ⟨h, h2⟩)
        · exact ⟨by omega, c⟩
        · exact ⟨by omega, h2⟩
      · rintro ⟨h, h2⟩
        by_cases e : x = k
        · exact Or.inl e
        · exact Or.inr ⟨by omega, h2⟩
    · rw [if_neg c, ih]
      constructor
      · rintro ⟨h, h2⟩; exact ⟨by omega, h2⟩
      · rintro ⟨h, h2⟩
        have : x ≠ k := fun e => c (e ▸ h2)
        exact ⟨by omega, h2⟩
theorem kd_nodup {p : Nat → Bool} : ∀ (n k : Nat), (kd p n k).Nodup := by
  intro n
  induction n with
  | zero => intro k; rw [kd]; exact List.nodup_nil
  | succ n ih =>
    intro k
    rw [kd]
    by_cases c : p k = true
    · rw [if_pos c]
      exact List.nodup_cons.mpr ⟨fun h => by have := ((kd_mem _ _).mp h).1; omega, ih _⟩
    · rw [if_neg c]; exact ih _
theorem kd_len {p : Nat → Bool} : ∀ (n k : Nat), (kd p n k).length ≤ n := by
  intro n
  induction n with
  | zero => intro k; rw [kd]; exact Nat.le_refl _
  | succ n ih =>
    intro k
    rw [kd]
    have := ih (k + 1)
    split
    · rw [List.length_cons]; omega
    · omega
abbrev Cp : Type := Nat × Nat × Nat × Nat
/-- the waiting copies are those of the list: packet, tree, from, to -/
def Qr (qp qt qf qo : Nat → Int32) (qfi qsz : Nat) (l : List Cp) : Prop := qfi ≤ 199 ∧ qsz ≤ 200 ∧ l.length = qsz ∧ ∀ (j : Nat) (x : Cp), l[j]? = some x → qp ((qfi + j) % 200) = nI x.1 ∧ qt ((qfi + j) % 200) = nI x.2.1 ∧ qf ((qfi + j) % 200) = nI x.2.2.1 ∧ qo ((qfi + j) % 200) = nI x.2.2.2
theorem Qr_put {qp qt qf qo : Nat → Int32} {qfi qsz : Nat} {l : List Cp} (h : Qr qp qt qf qo qfi qsz l) (hq : qsz < 200) (x : Cp) :
    Qr (upd qp ((qfi + qsz) % 200) (nI x.1)) (upd qt ((qfi + qsz) % 200) (nI x.2.1)) (upd qf ((qfi + qsz) % 200) (nI x.2.2.1)) (upd qo ((qfi + qsz) % 200) (nI x.2.2.2)) qfi (qsz + 1) (l ++ [x]) := by
  obtain ⟨h1, h2, h3, h4⟩ := h
  refine ⟨h1, by omega, by rw [List.length_append, h3]; rfl, fun j y hy => ?_⟩
  by_cases c : j < l.length
  · rw [List.getElem?_append_left c] at hy
    have hne : ¬ (qfi + j) % 200 = (qfi + qsz) % 200 := by omega
    rw [pk_un hne, pk_un hne, pk_un hne, pk_un hne]
    exact h4 j y hy
  · rw [List.getElem?_append_right (by omega)] at hy
    have e : j - l.length = 0 := by
      cases e : j - l.length with
      | zero => rfl
      | succ n => rw [e] at hy; cases hy
    rw [e] at hy
    cases hy
    have e2 : j = qsz := by omega
    rw [e2, pk_us, pk_us, pk_us, pk_us]
    exact ⟨rfl, rfl, rfl, rfl⟩
theorem Qr_rest {qp qt qf qo : Nat → Int32} {qfi qsz : Nat} {x : Cp} {l : List Cp} (h : Qr qp qt qf qo qfi qsz (x :: l)) : Qr qp qt qf qo ((qfi + 1) % 200) (qsz - 1) l := by
  obtain ⟨h1, h2, h3, h4⟩ := h
  rw [List.length_cons] at h3
  refine ⟨by omega, by omega, by omega, fun j y hy => ?_⟩
  have := h4 (j + 1) y (by rw [List.getElem?_cons_succ]; exact hy)
  rw [show (qfi + (j + 1)) % 200 = ((qfi + 1) % 200 + j) % 200 by omega] at this
  exact this
theorem Qr_head {qp qt qf qo : Nat → Int32} {qfi qsz : Nat} {x : Cp} {l : List Cp} (h : Qr qp qt qf qo qfi qsz (x :: l)) : 1 ≤ qsz ∧ qp qfi = nI x.1 ∧ qt qfi = nI x.2.1 ∧ qf qfi = nI x.2.2.1 ∧ qo qfi = nI x.2.2.2 := by
  obtain ⟨h1, h2, h3, h4⟩ := h
  rw [List.length_cons] at h3
  have := h4 0 x rfl
  rw [show (qfi + 0) % 200 = qfi by omega] at this
  exact ⟨by omega, this⟩
def kids (fc : Nat → Int32) (t r : Nat) : List Nat := kd (isKid fc t r) 10 0
theorem mem_kids {fc : Nat → Int32} {t r k : Nat} : k ∈ kids fc t r ↔ k < 10 ∧ fc (t * 10 + k) = nI r := by
  unfold kids
  rw [kd_mem]
  unfold isKid
  rw [decide_eq_true_iff]
  exact ⟨fun h => ⟨by omega, h.2⟩, fun h => ⟨by omega, h.2⟩⟩
def news (pk t r : Nat) (ks : List Nat) : List Cp := ks.map (fun k => (pk, t, r, k))
theorem goOn_L {pk t r : Nat} {fc : Nat → Int32} {qfi : Nat} : ∀ (n k : Nat) (qp qt qf qo : Nat → Int32) (was : Int32) (qsz : Nat) (l : List Cp), k + n = 10 → Qr qp qt qf qo qfi qsz l →
    ∃ a b c d : Nat → Int32, f_X5_goOn_L14 pk t r fc qfi n k qp qt qf qo was qsz = (a, b, c, d, was + nI ((kd (isKid fc t r) n k).length - (200 - l.length)), (l ++ news pk t r ((kd (isKid fc t r) n k).take (200 - l.length))).length) ∧
      Qr a b c d qfi (l ++ news pk t r ((kd (isKid fc t r) n k).take (200 - l.length))).length (l ++ news pk t r ((kd (isKid fc t r) n k).take (200 - l.length))) := by
  intro n
  induction n with
  | zero =>
    intro k qp qt qf qo was qsz l hk h
    have e : l ++ news pk t r (([] : List Nat).take (200 - l.length)) = l := by rw [List.take_nil]; exact List.append_nil l
    rw [f_X5_goOn_L14, kd, e, List.length_nil, Nat.zero_sub, nI_0, Int32.add_zero, h.2.2.1]
    exact ⟨qp, qt, qf, qo, rfl, h⟩
  | succ n ih =>
    intro k qp qt qf qo was qsz l hk h
    rw [f_X5_goOn_L14, has_kid (by omega), kd]
    by_cases c : isKid fc t r k = true
    · rw [if_pos c, if_pos c]
      unfold f_X0_put
      have hl := h.2.2.1
      by_cases q : qsz < 200
      · rw [if_pos q, if_pos rfl]
        obtain ⟨a, b, c', d, i1, i2⟩ := ih (k + 1) _ _ _ _ was (qsz + 1) (l ++ [(pk, t, r, k)]) (by omega) (Qr_put h q (pk, t, r, k))
        have e1 : 200 - l.length = (200 - (l ++ [(pk, t, r, k)]).length) + 1 := by rw [List.length_append]; show _ = (200 - (l.length + 1)) + 1; omega
        have e2 : l ++ news pk t r ((k :: kd (isKid fc t r) n (k + 1)).take (200 - l.length)) = (l ++ [(pk, t, r, k)]) ++ news pk t r ((kd (isKid fc t r) n (k + 1)).take (200 - (l ++ [(pk, t, r, k)]).length)) := by
          rw [e1, List.take_succ_cons, List.append_assoc]; rfl
        have e3 : (k :: kd (isKid fc t r) n (k + 1)).length - (200 - l.length) = (kd (isKid fc t r) n (k + 1)).length - (200 - (l ++ [(pk, t, r, k)]).length) := by
          rw [e1, List.length_cons]; omega
        rw [e2, e3]
        exact ⟨a, b, c', d, i1, i2⟩
      · rw [if_neg q, if_neg Bool.false_ne_true]
        have e0 : 200 - l.length = 0 := by omega
        obtain ⟨a, b, c', d, i1, i2⟩ := ih (k + 1) qp qt qf qo (was + nI 1) qsz l (by omega) h
        rw [e0] at i1 i2 ⊢
        rw [List.take_zero] at i1 i2 ⊢
        refine ⟨a, b, c', d, ?_, i2⟩
        rw [i1, List.length_cons, Int32.add_assoc, nI_add, show 1 + ((kd (isKid fc t r) n (k + 1)).length - 0) = (kd (isKid fc t r) n (k + 1)).length + 1 - 0 by omega]
    · rw [if_neg c, if_neg c]
      exact ih (k + 1) qp qt qf qo was qsz l (by omega) h
/-- a router lets a packet go on -/
theorem goOn_q {pk t r : Nat} {fc : Nat → Int32} {qfi qsz : Nat} {qp qt qf qo : Nat → Int32} {was : Int32} {l : List Cp} (h : Qr qp qt qf qo qfi qsz l) :
    ∃ a b c d : Nat → Int32, f_X5_goOn pk t r fc qp qt qf qo was qfi qsz = (a, b, c, d, was + nI ((kids fc t r).length - (200 - l.length)), (l ++ news pk t r ((kids fc t r).take (200 - l.length))).length) ∧
      Qr a b c d qfi (l ++ news pk t r ((kids fc t r).take (200 - l.length))).length (l ++ news pk t r ((kids fc t r).take (200 - l.length))) := by
  unfold f_X5_goOn kids
  exact goOn_L 10 0 qp qt qf qo was qsz l rfl h
