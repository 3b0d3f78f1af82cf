/-! the two states, alike; one step of both -/
def Rel (c : Nat) (rc rl rh fr fw fc fg ps pg pr pd qp qt qf qo ct : Nat → Int32) (cand lim now was : Int32) (sent qfi qsz : Nat) (co fa ic me sw cn ab go cp so gr re db : Nat → Int32) (rclk rlim : Int32) (rqd rpk : Nat) (rwas : Int32) : Prop :=
  RRt rc rl rh co fa ∧ RRo fr ic ∧ RCa cand ic ∧ PR co fa ic me sent qfi fw fc fg pr pd qp qt qf qo ct was qsz sw cn ab go cp re db rqd rwas ∧ RPs sent ps pg so gr ∧ sent ≤ 200 ∧ rpk = sent ∧ rlim = lim ∧ now = nI c ∧ rclk = nI c
def REL (cI cZ : ClassId) (ad ad2 : Nat → Nat) (c k : Nat) (wc wr : va_W) : Prop := ∃ (rc rl rh fr fw fc fg ps pg pr pd qp qt qf qo ct : Nat → Int32) (cand lim now was : Int32) (sent qfi qsz : Nat) (co fa ic me sw cn ab go cp so gr re db : Nat → Int32) (rclk rlim : Int32) (rqd rpk : Nat) (rwas : Int32), wc = (wC cI ad rc rl rh fr fw fc fg ps pg pr pd qp qt qf qo ct cand lim now was (nI sent) (nI qfi) (nI qsz)) ∧ wr = (wR cI cZ ad2 co fa ic me sw cn ab go cp so gr re db rclk rlim (nI rqd) (nI rpk) rwas (nI k)) ∧ Rel c rc rl rh fr fw fc fg ps pg pr pd qp qt qf qo ct cand lim now was sent qfi qsz co fa ic me sw cn ab go cp so gr re db rclk rlim rqd rpk rwas
def RmG (rm : Room) (n : Nat) : Prop := (rm.cells = 0 ∧ rm.slots = 0) ∧ rm.frames + 1 ≤ 10 ∧ 8 + (n + 11) + rm.locals ≤ 363
def RmX (rm : Room) (n : Nat) : Prop := (rm.cells = 1 ∧ rm.slots = 6) ∧ rm.frames + 1 ≤ 10 ∧ 8 + (n + 11) + rm.locals ≤ 363
/-- both answer v -/
def StG (l : Launch) (D : va_G) (cI cZ : ClassId) (ad ad2 : Nat → Nat) (c : Nat) (y5 : MethodName) (b5 : ByteArray) (n5 : Nat) (y6 : MethodName) (b6 : ByteArray) (n6 : Nat) (rt : FieldType) (ps : List Value) (wc wr : va_W) (Pv : Int32 → Prop) : Prop :=
  ∃ (wc1 wr1 : va_W) (v : Int32) (rm5 rm6 : Room), RmG rm5 n5 ∧ RmG rm6 n6 ∧ MI l y5 b5 n5 rt rm5 D (TY cI cZ) (.ref (ad 0) :: ps) wc wc1 v ∧ MI l y6 b6 n6 rt rm6 D (TY cI cZ) (.ref (ad2 0) :: ps) wr wr1 v ∧ REL cI cZ ad ad2 c 0 wc1 wr1 ∧ wc1.map Prod.fst = wc.map Prod.fst ∧ wr1.map Prod.fst = wr.map Prod.fst ∧ Pv v
/-- the class throws E, the reference says k -/
def StX (l : Launch) (D : va_G) (cI cZ : ClassId) (ad ad2 : Nat → Nat) (c k : Nat) (E : String) (y5 : MethodName) (b5 : ByteArray) (n5 : Nat) (y6 : MethodName) (b6 : ByteArray) (n6 : Nat) (rt : FieldType) (ps : List Value) (wc wr : va_W) : Prop :=
  ∃ (wr1 : va_W) (v : Int32) (rm5 rm6 : Room), RmX rm5 n5 ∧ RmG rm6 n6 ∧ MXi l y5 b5 n5 rt rm5 D (TY cI cZ) (.ref (ad 0) :: ps) wc E ∧ MI l y6 b6 n6 rt rm6 D (TY cI cZ) (.ref (ad2 0) :: ps) wr wr1 v ∧ REL cI cZ ad ad2 c k wc wr1 ∧ wr1.map Prod.fst = wr.map Prod.fst
theorem rG {x : Int32} (h : f_X5_isGroup_r x = true) : x = nI x.toNatClampNeg ∧ x.toNatClampNeg < 4 := by
  unfold f_X5_isGroup_r at h
  by_cases c : x < 0
  · rw [if_pos c] at h; cases h
  · rw [if_neg c] at h
    by_cases c2 : nI 4 ≤ x
    · rw [if_pos c2] at h; cases h
    · have h1 : 0 ≤ x.toInt := by
        have := mt Int32.lt_iff_toInt_lt.mpr c
        have e : (0 : Int32).toInt = 0 := by decide
        omega
      have h2 : x.toInt < 4 := by
        have := mt Int32.le_iff_toInt_le.mpr c2
        have e : (nI 4).toInt = 4 := by decide
        omega
      have e : x.toNatClampNeg = x.toInt.toNat := rfl
      refine ⟨Int32.toInt_inj.mp ?_, by omega⟩
      rw [nI_toInt (by omega)]
      omega
