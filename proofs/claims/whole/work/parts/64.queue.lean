/-! copies that wait, alike; a router lets a packet go on -/
def RQ (sent qfi qsz : Nat) (qp qt qf qo cp : Nat → Int32) : Prop := qfi ≤ 199 ∧ qsz ≤ 200 ∧ ∀ j, j < qsz → ∃ pk t f o, pk < sent ∧ t < 44 ∧ f < 10 ∧ o < 10 ∧
  (qp ((qfi + j) % 200) = nI pk ∧ qt ((qfi + j) % 200) = nI (tau t) ∧ qf ((qfi + j) % 200) = nI f ∧ qo ((qfi + j) % 200) = nI o) ∧ cp (4 * j) = nI pk ∧ cp (4 * j + 1) = nI t ∧ cp (4 * j + 2) = nI f ∧ cp (4 * j + 3) = nI o
theorem RQ_put {sent qfi qsz : Nat} {qp qt qf qo cp : Nat → Int32} (h : RQ sent qfi qsz qp qt qf qo cp) (hq : qsz < 200) {pk t f o : Nat} (hpk : pk < sent) (ht : t < 44) (hf : f < 10) (ho : o < 10) :
    RQ sent qfi (qsz + 1) (upd qp ((qfi + qsz) % 200) (nI pk)) (upd qt ((qfi + qsz) % 200) (nI (tau t))) (upd qf ((qfi + qsz) % 200) (nI f)) (upd qo ((qfi + qsz) % 200) (nI o)) (upd (upd (upd (upd cp (4 * qsz) (nI pk)) ((4 * qsz) + 1) (nI t)) ((4 * qsz) + 2) (nI f)) ((4 * qsz) + 3) (nI o)) := by
  refine ⟨h.1, by omega, fun j hj => ?_⟩
  by_cases e : j = qsz
  · subst e
    refine ⟨pk, t, f, o, hpk, ht, hf, ho, ⟨pk_us, pk_us, pk_us, pk_us⟩, ?_, ?_, ?_, pk_us⟩
    · rw [pk_un (by omega), pk_un (by omega), pk_un (by omega), pk_us]
    · rw [pk_un (by omega), pk_un (by omega), pk_us]
    · rw [pk_un (by omega), pk_us]
  · obtain ⟨pk', t', f', o', a1, a2, a3, a4, ⟨b1, b2, b3, b4⟩, d1, d2, d3, d4⟩ := h.2.2 j (by omega)
    have hne : (qfi + j) % 200 ≠ (qfi + qsz) % 200 := by omega
    refine ⟨pk', t', f', o', a1, a2, a3, a4, ⟨?_, ?_, ?_, ?_⟩, ?_, ?_, ?_, ?_⟩
    · rw [pk_un hne]; exact b1
    · rw [pk_un hne]; exact b2
    · rw [pk_un hne]; exact b3
    · rw [pk_un hne]; exact b4
    · rw [pk_un (by omega), pk_un (by omega), pk_un (by omega), pk_un (by omega)]; exact d1
    · rw [pk_un (by omega), pk_un (by omega), pk_un (by omega), pk_un (by omega)]; exact d2
    · rw [pk_un (by omega), pk_un (by omega), pk_un (by omega), pk_un (by omega)]; exact d3
    · rw [pk_un (by omega), pk_un (by omega), pk_un (by omega), pk_un (by omega)]; exact d4
theorem goOn_eq {T t r pk sent qfi : Nat} {fc fg ab go : Nat → Int32} (hT : T = tau t) (hR : RTr T t fc fg ab go) (hpk : pk < sent) (ht : t < 44) (hr : r < 10) {qp qt qf qo cp : Nat → Int32} {was : Int32} {qsz : Nat} (hQ : RQ sent qfi qsz qp qt qf qo cp) :
    RQ sent qfi (f_X5_goOn pk T r fc qp qt qf qo was qfi qsz).2.2.2.2.2 (f_X5_goOn pk T r fc qp qt qf qo was qfi qsz).1 (f_X5_goOn pk T r fc qp qt qf qo was qfi qsz).2.1 (f_X5_goOn pk T r fc qp qt qf qo was qfi qsz).2.2.1 (f_X5_goOn pk T r fc qp qt qf qo was qfi qsz).2.2.2.1 (f_X6_goesOn pk r t ab cp qsz was).1 ∧
    (f_X6_goesOn pk r t ab cp qsz was).2.1 = (f_X5_goOn pk T r fc qp qt qf qo was qfi qsz).2.2.2.2.2 ∧ (f_X5_goOn pk T r fc qp qt qf qo was qfi qsz).2.2.2.2.1 = (f_X6_goesOn pk r t ab cp qsz was).2.2 := by
  unfold f_X5_goOn f_X6_goesOn
  have hb : f_X2_branchesFrom T r fc = f_X6_below t r ab := below_eq (fun k hk => (hR k hk).1)
  have key : ∀ (n k : Nat) (qp qt qf qo cp : Nat → Int32) (was : Int32) (qsz : Nat), k + n = 10 → RQ sent qfi qsz qp qt qf qo cp →
      RQ sent qfi (f_X5_goOn_L14 pk T r fc qfi n k qp qt qf qo was qsz).2.2.2.2.2 (f_X5_goOn_L14 pk T r fc qfi n k qp qt qf qo was qsz).1 (f_X5_goOn_L14 pk T r fc qfi n k qp qt qf qo was qsz).2.1 (f_X5_goOn_L14 pk T r fc qfi n k qp qt qf qo was qsz).2.2.1 (f_X5_goOn_L14 pk T r fc qfi n k qp qt qf qo was qsz).2.2.2.1 (f_X6_goesOn_L11 pk r t ab n k cp qsz was).1 ∧
      (f_X6_goesOn_L11 pk r t ab n k cp qsz was).2.1 = (f_X5_goOn_L14 pk T r fc qfi n k qp qt qf qo was qsz).2.2.2.2.2 ∧ (f_X5_goOn_L14 pk T r fc qfi n k qp qt qf qo was qsz).2.2.2.2.1 = (f_X6_goesOn_L11 pk r t ab n k cp qsz was).2.2 := by
    intro n
    induction n with
    | zero => intro k qp qt qf qo cp was qsz _ h; rw [f_X5_goOn_L14, f_X6_goesOn_L11]; exact ⟨h, rfl, rfl⟩
    | succ n ih =>
      intro k qp qt qf qo cp was qsz hk h
      rw [f_X5_goOn_L14, f_X6_goesOn_L11, hb, has_bt _ (by omega)]
      by_cases c : bt (f_X6_below t r ab) k = true
      · rw [if_pos c, if_pos ((shr_1 _ (by omega)).mpr c)]
        unfold f_X0_put
        by_cases q : qsz < 200
        · rw [if_pos q, if_pos rfl, if_neg (by omega)]
          subst hT
          exact ih (k + 1) _ _ _ _ _ _ _ (by omega) (RQ_put h q hpk ht hr (by omega))
        · rw [if_neg q, if_neg Bool.false_ne_true, if_pos (by have := h.2.1; omega)]
          exact ih (k + 1) _ _ _ _ _ _ _ (by omega) h
      · rw [if_neg c, if_neg (fun z => c ((shr_1 _ (by omega)).mp z))]
        exact ih (k + 1) _ _ _ _ _ _ _ (by omega) h
  exact key 10 0 qp qt qf qo cp was qsz rfl hQ
/-- the first copy goes -/
theorem RQ_first {sent qfi qsz : Nat} {qp qt qf qo cp : Nat → Int32} (h : RQ sent qfi qsz qp qt qf qo cp) (hq : 1 ≤ qsz) : ∃ pk t f o, pk < sent ∧ t < 44 ∧ f < 10 ∧ o < 10 ∧
    (qp qfi = nI pk ∧ qt qfi = nI (tau t) ∧ qf qfi = nI f ∧ qo qfi = nI o) ∧ cp 0 = nI pk ∧ cp 1 = nI t ∧ cp 2 = nI f ∧ cp 3 = nI o := by
  have h1 := h.2.2 0 (by omega)
  have e : (qfi + 0) % 200 = qfi := by have := h.1; omega
  rw [e] at h1
  exact h1
theorem shift_r {rqd : Nat} : ∀ (n k : Nat) (cp cp0 : Nat → Int32), (∀ e, k ≤ e → cp e = cp0 e) → (∀ e, e < k → cp e = cp0 (e + 4)) → ∀ e, e < k + n → f_X6_follows_n_L51 rqd n k cp e = cp0 (e + 4) := by
  intro n
  induction n with
  | zero => intro k cp cp0 _ h2 e he; rw [f_X6_follows_n_L51]; exact h2 e (by omega)
  | succ n ih =>
    intro k cp cp0 h1 h2 e he
    rw [f_X6_follows_n_L51]
    refine ih (k + 1) _ cp0 (fun e he => ?_) (fun e he => ?_) e (by omega)
    · rw [pk_un (by omega)]; exact h1 e (by omega)
    · by_cases q : e = k
      · subst q; rw [pk_us]; exact h1 _ (by omega)
      · rw [pk_un q]; exact h2 e (by omega)
theorem RQ_rest {sent qfi qsz : Nat} {qp qt qf qo cp : Nat → Int32} (h : RQ sent qfi qsz qp qt qf qo cp) (hq : 1 ≤ qsz) : RQ sent ((qfi + 1) % 200) (qsz - 1) qp qt qf qo (f_X6_follows_n_L51 qsz (4 * (qsz - 1)) 0 cp) := by
  refine ⟨by omega, by have := h.2.1; omega, fun j hj => ?_⟩
  have hs := shift_r (rqd := qsz) (4 * (qsz - 1)) 0 cp cp (fun _ _ => rfl) (fun e he => absurd he (Nat.not_lt_zero _))
  have h1 := h.2.2 (j + 1) (by omega)
  have e : ((qfi + 1) % 200 + j) % 200 = (qfi + (j + 1)) % 200 := by omega
  rw [e, hs _ (by omega), hs _ (by omega), hs _ (by omega), hs _ (by omega)]
  exact h1
theorem next_eq {sent qfi qsz : Nat} {qp qt qf qo cp : Nat → Int32} (h : RQ sent qfi qsz qp qt qf qo cp) : f_X0_firstIn_qo qo qfi qsz = (f_X6_nextTo cp qsz).1 ∧ (f_X6_nextTo cp qsz).2 = nI 0 := by
  unfold f_X0_firstIn_qo f_X6_nextTo
  by_cases c : qsz = 0
  · rw [if_pos c, if_pos c]; exact ⟨rfl, rfl⟩
  · rw [if_neg c, if_neg c]
    obtain ⟨pk, t, f, o, _, _, _, _, ⟨_, _, _, b4⟩, _, _, _, d4⟩ := RQ_first h (by omega)
    exact ⟨b4.trans d4.symm, rfl⟩
