/-! sums -/
def sm (f : Nat → Nat) : Nat → Nat
  | 0 => 0
  | n + 1 => sm f n + f n
theorem sm_congr {f g : Nat → Nat} : ∀ n, (∀ i, i < n → f i = g i) → sm f n = sm g n := by
  intro n
  induction n with
  | zero => intro _; rw [sm, sm]
  | succ n ih => intro h; rw [sm, sm, ih (fun i hi => h i (by omega)), h n (by omega)]
theorem sm_zero {f : Nat → Nat} (n : Nat) (h : ∀ i, i < n → f i = 0) : sm f n = 0 := by
  rw [sm_congr n h]
  induction n with
  | zero => rw [sm]
  | succ n ih => rw [sm, ih (fun i hi => h i (by omega))]
theorem sm_le {f : Nat → Nat} (h : ∀ i, f i ≤ 1) : ∀ n, sm f n ≤ n := by
  intro n
  induction n with
  | zero => rw [sm]; exact Nat.le_refl _
  | succ n ih => rw [sm]; have := h n; omega
theorem sm_upd {I : Int32 → Nat} {f : Nat → Int32} {k : Nat} {v : Int32} : ∀ n, k < n → sm (fun e => I (upd f k v e)) n + I (f k) = sm (fun e => I (f e)) n + I v := by
  intro n
  induction n with
  | zero => intro h; omega
  | succ n ih =>
    intro h
    rw [sm, sm]
    by_cases e : k = n
    · subst e
      rw [pk_us, sm_congr (f := fun e => I (upd f k v e)) (g := fun e => I (f e)) k (fun i hi => by show I (upd f k v i) = I (f i); rw [pk_un (by omega)])]
      omega
    · have h2 : upd f k v n = f n := pk_un (by omega)
      rw [h2]
      have := ih (by omega)
      omega
