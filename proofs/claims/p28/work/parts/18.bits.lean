/-! sets of routers; small rows -/
/-! next hops of both; a hop comes nearer; so grafting ends -/
theorem nI_neg1 {n : Nat} (h : n < 2 ^ 31) : ¬ nI n = -1 := nI_m1' h
def bt (x : Int32) (i : Nat) : Bool := x.toBitVec.getLsbD i
theorem b_ext {x y : Int32} (h : ∀ i, i < 32 → bt x i = bt y i) : x = y := Int32.toBitVec_inj.mp (BitVec.eq_of_getLsbD_eq (fun i hi => h i hi))
theorem b_or (x y : Int32) (i : Nat) : bt (x ||| y) i = (bt x i || bt y i) := by unfold bt; rw [Int32.toBitVec_or, BitVec.getLsbD_or]
theorem b_and (x y : Int32) (i : Nat) : bt (x &&& y) i = (bt x i && bt y i) := by unfold bt; rw [Int32.toBitVec_and, BitVec.getLsbD_and]
theorem b_xor (x y : Int32) (i : Nat) : bt (x ^^^ y) i = (bt x i ^^ bt y i) := by unfold bt; rw [Int32.toBitVec_xor, BitVec.getLsbD_xor]
theorem b_big {x : Int32} {i : Nat} (h : 32 ≤ i) : bt x i = false := BitVec.getLsbD_of_ge _ _ h
theorem b_m1 : ∀ i, i < 32 → bt (-1) i = true := by decide +kernel
theorem b_0 (i : Nat) : bt 0 i = false := BitVec.getLsbD_zero
theorem s_l : ∀ n, n < 32 → ((nI n &&& 31).toBitVec.smod 32).toNat = n := by decide +kernel
theorem b_shl (n : Nat) (hn : n < 32) (x : Int32) {i : Nat} (hi : i < 32) : bt (x <<< (nI n &&& 31)) i = (decide (n ≤ i) && bt x (i - n)) := by
  unfold bt
  rw [Int32.toBitVec_shiftLeft]
  show (x.toBitVec <<< ((nI n &&& 31).toBitVec.smod 32).toNat).getLsbD i = _
  rw [s_l n hn, BitVec.getLsbD_shiftLeft]
  rcases Nat.lt_or_ge i n with h | h
  · simp [h, Nat.not_le.mpr h]
  · simp [hi, h, Nat.not_lt.mpr h]
theorem b_sshr (n : Nat) (hn : n < 32) (x : Int32) {i : Nat} (hi : i < 32) : bt (x >>> (nI n &&& 31)) i = if n + i < 32 then bt x (n + i) else bt x 31 := by
  unfold bt
  rw [Int32.toBitVec_shiftRight]
  show (x.toBitVec.sshiftRight ((nI n &&& 31).toBitVec.smod 32).toNat).getLsbD i = _
  rw [s_l n hn, BitVec.getLsbD_sshiftRight, BitVec.msb_eq_getLsbD_last]
  simp [hi]
/-! sets of routers -/
theorem bt_1 : ∀ i, i < 32 → bt (nI 1) i = decide (i = 0) := by decide +kernel
theorem bt_one {k i : Nat} (hk : k < 32) (hi : i < 32) : bt ((nI 1) <<< ((nI k) &&& 31)) i = decide (i = k) := by
  rw [b_shl k hk _ hi, bt_1 (i - k) (by omega)]
  by_cases h : k ≤ i
  · rw [decide_eq_true h, Bool.true_and]
    by_cases e : i = k
    · rw [decide_eq_true e, decide_eq_true (by omega)]
    · rw [decide_eq_false e, decide_eq_false (by omega)]
  · rw [decide_eq_false h, Bool.false_and, decide_eq_false (show ¬ i = k by omega)]
theorem bt_not {k i : Nat} (hk : k < 32) (hi : i < 32) : bt (((nI 1) <<< ((nI k) &&& 31)) ^^^ (-1)) i = !decide (i = k) := by
  rw [b_xor, bt_one hk hi, b_m1 i hi, Bool.xor_true]
theorem and_one (x : Int32) {r : Nat} (hr : r < 32) : (x &&& ((nI 1) <<< ((nI r) &&& 31))) = 0 ↔ bt x r = false := by
  constructor
  · intro h
    have h1 := congrArg (fun z => bt z r) h
    simp only [b_and, bt_one hr hr, b_0, decide_true, Bool.and_true] at h1
    exact h1
  · intro h
    refine b_ext fun i hi => ?_
    rw [b_and, bt_one hr hi, b_0]
    by_cases e : i = r
    · subst e; rw [h, Bool.false_and]
    · rw [decide_eq_false e, Bool.and_false]
theorem has_bt (x : Int32) {r : Nat} (hr : r < 10) : f_X5_has x r = bt x r := by
  unfold f_X5_has
  by_cases h : (x &&& ((nI 1) <<< ((nI r) &&& 31))) = 0
  · rw [if_pos h, (and_one x (by omega)).mp h]
  · rw [if_neg h]
    cases hb : bt x r
    · exact absurd ((and_one x (by omega)).mpr hb) h
    · rfl
theorem shr_one (x : Int32) {r : Nat} (hr : r < 10) : ((x >>> ((nI r) &&& 31)) &&& (nI 1)) = if bt x r = true then nI 1 else 0 := by
  refine b_ext fun i hi => ?_
  rw [b_and, b_sshr r (by omega) x hi, bt_1 i hi]
  by_cases e : i = 0
  · subst e
    rw [if_pos (by omega), Nat.add_zero, decide_eq_true rfl, Bool.and_true]
    cases h : bt x r
    · rw [if_neg (by decide), b_0]
    · rw [if_pos rfl, bt_1 0 (by decide)]; rfl
  · rw [decide_eq_false e, Bool.and_false]
    cases h : bt x r
    · rw [if_neg (by decide), b_0]
    · rw [if_pos rfl, bt_1 i hi, decide_eq_false e]
theorem shr_1 (x : Int32) {r : Nat} (hr : r < 10) : ((x >>> ((nI r) &&& 31)) &&& (nI 1)) = nI 1 ↔ bt x r = true := by
  rw [shr_one x hr]
  cases h : bt x r
  · rw [if_neg (by decide)]
    exact ⟨fun q => absurd q (by decide), fun q => absurd q (by decide)⟩
  · rw [if_pos rfl]
    exact ⟨fun _ => rfl, fun _ => rfl⟩
theorem shr_0 (x : Int32) {r : Nat} (hr : r < 10) : ((x >>> ((nI r) &&& 31)) &&& (nI 1)) = 0 ↔ ¬ bt x r = true := by
  rw [shr_one x hr]
  cases h : bt x r
  · rw [if_neg (by decide)]
    exact ⟨fun _ => by decide, fun _ => rfl⟩
  · rw [if_pos rfl]
    exact ⟨fun q => absurd q (by decide), fun q => absurd rfl q⟩
def B10 (x : Int32) : Prop := ∀ i, 10 ≤ i → i < 32 → bt x i = false
theorem B10_0 : B10 (nI 0) := fun i _ _ => b_0 i
theorem B10_or {x : Int32} (h : B10 x) {k : Nat} (hk : k < 10) : B10 (x ||| ((nI 1) <<< ((nI k) &&& 31))) := fun i h1 h2 => by
  rw [b_or, h i h1 h2, bt_one (by omega) h2, decide_eq_false (by omega)]; rfl
theorem B10_and {x : Int32} (h : B10 x) (y : Int32) : B10 (x &&& y) := fun i h1 h2 => by
  rw [b_and, h i h1 h2, Bool.false_and]
theorem or_0 (x : Int32) : x ||| nI 0 = x := b_ext fun i hi => by rw [b_or, show nI 0 = (0 : Int32) from rfl, b_0, Bool.or_false]
theorem bt_nI {m i : Nat} (hi : i < 32) : bt (nI m) i = m.testBit i := by
  show (BitVec.ofNat 32 m).getLsbD i = _
  rw [BitVec.getLsbD_ofNat]
  simp [hi]
theorem B10_small {x : Int32} (h : B10 x) : ∃ m : Nat, m < 1024 ∧ x = nI m := by
  refine ⟨x.toBitVec.toNat % 1024, Nat.mod_lt _ (by decide), b_ext fun i hi => ?_⟩
  rw [bt_nI hi, show (1024 : Nat) = 2 ^ 10 from rfl, Nat.testBit_mod_two_pow]
  by_cases c : i < 10
  · rw [decide_eq_true c, Bool.true_and]; rfl
  · rw [decide_eq_false c, Bool.false_and, h i (by omega) hi]
/-! grafting, tree by tree -/
theorem isRouter_nI {j : Nat} (h : j < 10) : f_X5_isRouter_r (nI j) = true := by
  unfold f_X5_isRouter_r
  rw [if_neg (nI_pos (by omega)), if_neg (fun q => absurd ((nI_leI (by omega) (by omega)).mp q) (by omega))]
theorem isRouter_m1 : f_X5_isRouter_r (-1) = false := by decide
theorem pair_nI {o : Nat} (h : o < 10) : f_X4_arePair_r (nI o) = true := by
  unfold f_X4_arePair_r
  rw [if_neg (nI_pos (by omega)), if_neg (fun q => absurd ((nI_leI (by omega) (by omega)).mp q) (by omega))]
theorem pair_m1 : f_X4_arePair_r (-1) = false := by decide
theorem hopOf_nI {rh : Nat → Int32} {r o : Nat} (hr : r < 10) (ho : o < 10) : f_X4_hopOf_r r (nI o) rh = rh (r * 10 + o) := by
  unfold f_X4_hopOf_r
  rw [if_pos (pair_nI ho), nI_add, nI_clamp (by omega)]
theorem hopOf_m1 {rh : Nat → Int32} {r : Nat} : f_X4_hopOf_r r (-1) rh = -1 := by
  unfold f_X4_hopOf_r
  rw [if_neg (by rw [pair_m1]; decide)]
/-- nothing but a tree's rows is touched -/
def Fr (T : Nat) (x y : Nat → Int32) : Prop := ∀ e, ¬ e / 10 = T → y e = x e
theorem Fr.refl {T : Nat} (x : Nat → Int32) : Fr T x x := fun _ _ => rfl
theorem Fr.trans {T : Nat} {x y z : Nat → Int32} (h : Fr T x y) (h2 : Fr T y z) : Fr T x z := fun e he => (h2 e he).trans (h e he)
theorem Fr_upd {T : Nat} {x : Nat → Int32} {k : Nat} (v : Int32) (hk : k / 10 = T) : Fr T x (upd x k v) := fun e he => pk_un (fun q => he (by rw [q]; exact hk))
theorem upd_same {x : Nat → Int32} {k : Nat} {v : Int32} (h : x k = v) : upd x k v = x := by
  funext e
  by_cases c : e = k
  · subst c; rw [pk_us, h]
  · rw [pk_un c]
