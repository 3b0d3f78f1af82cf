abbrev TY (cI cZ : ClassId) : List (ClassId × FieldType) := [(cI, .int)]
set_option maxHeartbeats 4000000 in
set_option maxRecDepth 100000 in
theorem c_X0_isEmpty_e (l : Launch) (D : va_G) (cI cZ : ClassId) (ad : Nat → Nat) (rc rl rh fr fw fc fg ps pg pr pd qp qt qf qo ct lE lC : Nat → Int32) (cand : Int32) (lim : Int32) (now : Int32) (was : Int32) (sent : Nat) (qfi : Nat) (qsz : Nat) (hqsz : qsz ≤ 200) (hn1qsz : qsz ≤ 0) : MI l yX0_isEmpty cX0_isEmpty 1 .boolean { frames := 0, cells := 0, slots := 0, locals := 0 } D (TY cI cZ) [.ref (ad 15)] (wC cI ad rc rl rh fr fw fc fg ps pg pr pd qp qt qf qo ct lE lC cand lim now was (nI sent) (nI qfi) (nI qsz)) (wC cI ad rc rl rh fr fw fc fg ps pg pr pd qp qt qf qo ct lE lC cand lim now was (nI sent) (nI qfi) (nI qsz)) (nI 1) := by
  refine MI.mk ⟨rfl, rfl⟩ (by decide +kernel) (Nat.le_of_ble_eq_true rfl) ?_
  intro p e s m below meth c A ls B hA hP hD hS hl
  have hx := B.1
  have hb := B.2.1
  have hts := B.2.2.2.2.2.1
  have hN := B.2.2.2.2.2.2.2.1
  have hK := B.2.2.2.2.2.2.2.2.1
  have hl : lv_has ls 1 [(0, .ref (ad 15))] := hl
  refine lv_aload_n hx hb dX0_isEmpty_0 rfl (lv_at hl 0 rfl) ?_
  refine g_X0_24 B hP 15 rfl rfl dX0_isEmpty_1 ?_
  refine r_if_ne (tgt := 11) hx hb (by omega) dX0_isEmpty_4 (by decide) (fun c => absurd c (by omega)) (fun _ => ?_)
  refine lv_iconst (v := nI 1) hx hb dX0_isEmpty_7 (by decide) ?_
  refine lv_goto (tgt := 12) hx hb dX0_isEmpty_8 (by decide) ?_
  exact eZ B hP hS (by decide) rfl rfl dX0_isEmpty_12
set_option maxHeartbeats 4000000 in
set_option maxRecDepth 100000 in
theorem c_X0_isEmpty_n (l : Launch) (D : va_G) (cI cZ : ClassId) (ad : Nat → Nat) (rc rl rh fr fw fc fg ps pg pr pd qp qt qf qo ct lE lC : Nat → Int32) (cand : Int32) (lim : Int32) (now : Int32) (was : Int32) (sent : Nat) (qfi : Nat) (qsz : Nat) (hqsz : qsz ≤ 200) (hn1qsz : qsz ≤ 200) (hn0qsz : 1 ≤ qsz) : MI l yX0_isEmpty cX0_isEmpty 1 .boolean { frames := 0, cells := 0, slots := 0, locals := 0 } D (TY cI cZ) [.ref (ad 15)] (wC cI ad rc rl rh fr fw fc fg ps pg pr pd qp qt qf qo ct lE lC cand lim now was (nI sent) (nI qfi) (nI qsz)) (wC cI ad rc rl rh fr fw fc fg ps pg pr pd qp qt qf qo ct lE lC cand lim now was (nI sent) (nI qfi) (nI qsz)) (nI 0) := by
  refine MI.mk ⟨rfl, rfl⟩ (by decide +kernel) (Nat.le_of_ble_eq_true rfl) ?_
  intro p e s m below meth c A ls B hA hP hD hS hl
  have hx := B.1
  have hb := B.2.1
  have hts := B.2.2.2.2.2.1
  have hN := B.2.2.2.2.2.2.2.1
  have hK := B.2.2.2.2.2.2.2.2.1
  have hl : lv_has ls 1 [(0, .ref (ad 15))] := hl
  refine lv_aload_n hx hb dX0_isEmpty_0 rfl (lv_at hl 0 rfl) ?_
  refine g_X0_24 B hP 15 rfl rfl dX0_isEmpty_1 ?_
  refine r_if_ne (tgt := 11) hx hb (by omega) dX0_isEmpty_4 (by decide) (fun _ => ?_) (fun c => absurd c (by omega))
  refine lv_iconst (v := nI 0) hx hb dX0_isEmpty_11 (by decide) ?_
  exact eZ B hP hS (by decide) rfl rfl dX0_isEmpty_12
def f_X0_isEmpty (qsz : Nat) : Bool :=
  if qsz = 0 then true else false
set_option maxHeartbeats 4000000 in
set_option maxRecDepth 100000 in
theorem c_X0_isEmpty (l : Launch) (D : va_G) (cI cZ : ClassId) (ad : Nat → Nat) (rc rl rh fr fw fc fg ps pg pr pd qp qt qf qo ct lE lC : Nat → Int32) (cand : Int32) (lim : Int32) (now : Int32) (was : Int32) (sent : Nat) (qfi : Nat) (qsz : Nat) (hqsz : qsz ≤ 200) : MI l yX0_isEmpty cX0_isEmpty 1 .boolean { frames := 0, cells := 0, slots := 0, locals := 0 } D (TY cI cZ) [.ref (ad 15)] (wC cI ad rc rl rh fr fw fc fg ps pg pr pd qp qt qf qo ct lE lC cand lim now was (nI sent) (nI qfi) (nI qsz)) (wC cI ad rc rl rh fr fw fc fg ps pg pr pd qp qt qf qo ct lE lC cand lim now was (nI sent) (nI qfi) (nI qsz)) (bI (f_X0_isEmpty qsz)) := by
  refine MI.mk ⟨rfl, rfl⟩ (by decide +kernel) (Nat.le_of_ble_eq_true rfl) ?_
  intro p e s m below meth c A ls B hA hP hD hS hl
  have hx := B.1
  have hb := B.2.1
  have hts := B.2.2.2.2.2.1
  have hN := B.2.2.2.2.2.2.2.1
  have hK := B.2.2.2.2.2.2.2.2.1
  have hl : lv_has ls 1 [(0, .ref (ad 15))] := hl
  have hf := f_X0_isEmpty.eq_1 qsz
  refine lv_aload_n hx hb dX0_isEmpty_0 rfl (lv_at hl 0 rfl) ?_
  refine g_X0_24 B hP 15 rfl rfl dX0_isEmpty_1 ?_
  refine r_if_ne (tgt := 11) hx hb (by omega) dX0_isEmpty_4 (by decide) (fun c1 => ?_) (fun c1 => ?_)
  · have hf := hf.trans (if_neg c1)
    refine lv_iconst (v := nI 0) hx hb dX0_isEmpty_11 (by decide) ?_
    exact eZ B hP hS (by decide) ((congrArg (fun (u : Bool) => bI u) hf).symm) rfl dX0_isEmpty_12
  · have hf := hf.trans (if_pos c1)
    refine lv_iconst (v := nI 1) hx hb dX0_isEmpty_7 (by decide) ?_
    refine lv_goto (tgt := 12) hx hb dX0_isEmpty_8 (by decide) ?_
    exact eZ B hP hS (by decide) ((congrArg (fun (u : Bool) => bI u) hf).symm) rfl dX0_isEmpty_12
set_option maxHeartbeats 4000000 in
set_option maxRecDepth 100000 in
theorem c_X0_count (l : Launch) (D : va_G) (cI cZ : ClassId) (ad : Nat → Nat) (rc rl rh fr fw fc fg ps pg pr pd qp qt qf qo ct lE lC : Nat → Int32) (cand : Int32) (lim : Int32) (now : Int32) (was : Int32) (sent : Nat) (qfi : Nat) (qsz : Nat) (hqsz : qsz ≤ 200) : MI l yX0_count cX0_count 1 .int { frames := 0, cells := 0, slots := 0, locals := 0 } D (TY cI cZ) [.ref (ad 15)] (wC cI ad rc rl rh fr fw fc fg ps pg pr pd qp qt qf qo ct lE lC cand lim now was (nI sent) (nI qfi) (nI qsz)) (wC cI ad rc rl rh fr fw fc fg ps pg pr pd qp qt qf qo ct lE lC cand lim now was (nI sent) (nI qfi) (nI qsz)) (nI qsz) := by
  refine MI.mk ⟨rfl, rfl⟩ (by decide +kernel) (Nat.le_of_ble_eq_true rfl) ?_
  intro p e s m below meth c A ls B hA hP hD hS hl
  have hx := B.1
  have hb := B.2.1
  have hts := B.2.2.2.2.2.1
  have hN := B.2.2.2.2.2.2.2.1
  have hK := B.2.2.2.2.2.2.2.2.1
  have hl : lv_has ls 1 [(0, .ref (ad 15))] := hl
  refine lv_aload_n hx hb dX0_count_0 rfl (lv_at hl 0 rfl) ?_
  refine g_X0_24 B hP 15 rfl rfl dX0_count_1 ?_
  exact eI B hP hS rfl rfl dX0_count_4
def f_X0_put (p0 : Int32) (p1 : Int32) (p2 : Int32) (p3 : Int32) (qp : Nat → Int32) (qt : Nat → Int32) (qf : Nat → Int32) (qo : Nat → Int32) (qfi : Nat) (qsz : Nat) : Bool × (Nat → Int32) × (Nat → Int32) × (Nat → Int32) × (Nat → Int32) × Nat :=
  if qsz < 200 then (true, upd qp ((qfi + qsz) % 200) p0, upd qt ((qfi + qsz) % 200) p1, upd qf ((qfi + qsz) % 200) p2, upd qo ((qfi + qsz) % 200) p3, qsz + 1) else (false, qp, qt, qf, qo, qsz)
theorem fb_X0_put_qsz (p0 : Int32) (p1 : Int32) (p2 : Int32) (p3 : Int32) (qp : Nat → Int32) (qt : Nat → Int32) (qf : Nat → Int32) (qo : Nat → Int32) (qfi : Nat) (qsz : Nat) (h_qfi : qfi ≤ 199) (h_qsz : qsz ≤ 200) : (f_X0_put p0 p1 p2 p3 qp qt qf qo qfi qsz).2.2.2.2.2 ≤ 200 := by
  unfold f_X0_put
  (try repeat' split)
  all_goals (first | (dsimp only; omega) | omega)
set_option maxHeartbeats 4000000 in
set_option maxRecDepth 100000 in
theorem c_X0_put (l : Launch) (D : va_G) (cI cZ : ClassId) (ad : Nat → Nat) (rc rl rh fr fw fc fg ps pg pr pd qp qt qf qo ct lE lC : Nat → Int32) (cand : Int32) (lim : Int32) (now : Int32) (was : Int32) (sent : Nat) (qfi : Nat) (qsz : Nat) (p0 : Int32) (p1 : Int32) (p2 : Int32) (p3 : Int32) (hqfi : qfi ≤ 199) (hqsz : qsz ≤ 200) : MI l yX0_put cX0_put 6 .boolean { frames := 0, cells := 0, slots := 0, locals := 0 } D (TY cI cZ) [.ref (ad 15), .int p0, .int p1, .int p2, .int p3] (wC cI ad rc rl rh fr fw fc fg ps pg pr pd qp qt qf qo ct lE lC cand lim now was (nI sent) (nI qfi) (nI qsz)) (wC cI ad rc rl rh fr fw fc fg ps pg pr pd ((f_X0_put p0 p1 p2 p3 qp qt qf qo qfi qsz).2.1) ((f_X0_put p0 p1 p2 p3 qp qt qf qo qfi qsz).2.2.1) ((f_X0_put p0 p1 p2 p3 qp qt qf qo qfi qsz).2.2.2.1) ((f_X0_put p0 p1 p2 p3 qp qt qf qo qfi qsz).2.2.2.2.1) ct lE lC cand lim now was (nI sent) (nI qfi) (nI ((f_X0_put p0 p1 p2 p3 qp qt qf qo qfi qsz).2.2.2.2.2))) (bI ((f_X0_put p0 p1 p2 p3 qp qt qf qo qfi qsz).1)) := by
  refine MI.mk ⟨rfl, rfl⟩ (by decide +kernel) (Nat.le_of_ble_eq_true rfl) ?_
  intro p e s m below meth c A ls B hA hP hD hS hl
  have hx := B.1
  have hb := B.2.1
  have hts := B.2.2.2.2.2.1
  have hN := B.2.2.2.2.2.2.2.1
  have hK := B.2.2.2.2.2.2.2.2.1
  have hl : lv_has ls 6 [(0, .ref (ad 15)), (1, .int p0), (2, .int p1), (3, .int p2), (4, .int p3)] := hl
  have hf := f_X0_put.eq_1 p0 p1 p2 p3 qp qt qf qo qfi qsz
  refine lv_aload_n hx hb dX0_put_0 rfl (lv_at hl 0 rfl) ?_
  refine g_X0_24 B hP 15 rfl rfl dX0_put_1 ?_
  refine lv_sipush (v := nI 200) hx hb dX0_put_4 (by decide) ?_
  refine r_icmp_lt (tgt := 12) hx hb (by omega) (by omega) dX0_put_7 (by decide) (fun c1 => ?_) (fun c1 => ?_)
  · have hf := hf.trans (if_pos c1)
    refine lv_aload_n hx hb dX0_put_12 rfl (lv_at hl 0 rfl) ?_
    refine g_X0_28 B hP 15 rfl rfl dX0_put_13 ?_
    refine lv_aload_n hx hb dX0_put_16 rfl (lv_at hl 0 rfl) ?_
    refine g_X0_24 B hP 15 rfl rfl dX0_put_17 ?_
    refine r_iadd hx hb dX0_put_20 ?_
    refine lv_sipush (v := nI 200) hx hb dX0_put_21 (by decide) ?_
    refine r_irem hx hb (by omega) (by omega) (by omega) dX0_put_24 ?_
    refine lv_istore (lv' := [(5, .int (nI ((qfi + qsz) % 200))), (0, .ref (ad 15)), (1, .int p0), (2, .int p1), (3, .int p2), (4, .int p3)]) hx hb dX0_put_25 hl (by decide) rfl (fun ls hl => ?_)
    refine lv_aload_n hx hb dX0_put_27 rfl (lv_at hl 1 rfl) ?_
    refine g_X0_9 B hP 15 rfl rfl dX0_put_28 ?_
    refine lv_iload hx hb dX0_put_31 (lv_at hl 0 rfl) ?_
    refine lv_iload_n hx hb dX0_put_33 rfl (lv_at hl 2 rfl) ?_
    refine r_iast hx hb hK hP hD hS 16 0 rfl rfl (by omega) (by decide) dX0_put_34 (fun H locs hP hD hS => ?_)
    have hP : va_P D vwCl (wC cI ad rc rl rh fr fw fc fg ps pg pr pd (upd qp ((qfi + qsz) % 200) p0) qt qf qo ct lE lC cand lim now was (nI sent) (nI qfi) (nI qsz)) H := hP
    have hD : va_D A (wC cI ad rc rl rh fr fw fc fg ps pg pr pd (upd qp ((qfi + qsz) % 200) p0) qt qf qo ct lE lC cand lim now was (nI sent) (nI qfi) (nI qsz)) := hD
    refine lv_aload_n hx hb dX0_put_35 rfl (lv_at hl 1 rfl) ?_
    refine g_X0_15 B hP 15 rfl rfl dX0_put_36 ?_
    refine lv_iload hx hb dX0_put_39 (lv_at hl 0 rfl) ?_
    refine lv_iload_n hx hb dX0_put_41 rfl (lv_at hl 3 rfl) ?_
    refine r_iast hx hb hK hP hD hS 17 0 rfl rfl (by omega) (by decide) dX0_put_42 (fun H locs hP hD hS => ?_)
    have hP : va_P D vwCl (wC cI ad rc rl rh fr fw fc fg ps pg pr pd (upd qp ((qfi + qsz) % 200) p0) (upd qt ((qfi + qsz) % 200) p1) qf qo ct lE lC cand lim now was (nI sent) (nI qfi) (nI qsz)) H := hP
    have hD : va_D A (wC cI ad rc rl rh fr fw fc fg ps pg pr pd (upd qp ((qfi + qsz) % 200) p0) (upd qt ((qfi + qsz) % 200) p1) qf qo ct lE lC cand lim now was (nI sent) (nI qfi) (nI qsz)) := hD
    refine lv_aload_n hx hb dX0_put_43 rfl (lv_at hl 1 rfl) ?_
    refine g_X0_18 B hP 15 rfl rfl dX0_put_44 ?_
    refine lv_iload hx hb dX0_put_47 (lv_at hl 0 rfl) ?_
    refine lv_iload_n hx hb dX0_put_49 rfl (lv_at hl 4 rfl) ?_
    refine r_iast hx hb hK hP hD hS 18 0 rfl rfl (by omega) (by decide) dX0_put_50 (fun H locs hP hD hS => ?_)
    have hP : va_P D vwCl (wC cI ad rc rl rh fr fw fc fg ps pg pr pd (upd qp ((qfi + qsz) % 200) p0) (upd qt ((qfi + qsz) % 200) p1) (upd qf ((qfi + qsz) % 200) p2) qo ct lE lC cand lim now was (nI sent) (nI qfi) (nI qsz)) H := hP
    have hD : va_D A (wC cI ad rc rl rh fr fw fc fg ps pg pr pd (upd qp ((qfi + qsz) % 200) p0) (upd qt ((qfi + qsz) % 200) p1) (upd qf ((qfi + qsz) % 200) p2) qo ct lE lC cand lim now was (nI sent) (nI qfi) (nI qsz)) := hD
    refine lv_aload_n hx hb dX0_put_51 rfl (lv_at hl 1 rfl) ?_
    refine g_X0_21 B hP 15 rfl rfl dX0_put_52 ?_
    refine lv_iload hx hb dX0_put_55 (lv_at hl 0 rfl) ?_
    refine lv_iload hx hb dX0_put_57 (lv_at hl 5 rfl) ?_
    refine r_iast hx hb hK hP hD hS 19 0 rfl rfl (by omega) (by decide) dX0_put_59 (fun H locs hP hD hS => ?_)
    have hP : va_P D vwCl (wC cI ad rc rl rh fr fw fc fg ps pg pr pd (upd qp ((qfi + qsz) % 200) p0) (upd qt ((qfi + qsz) % 200) p1) (upd qf ((qfi + qsz) % 200) p2) (upd qo ((qfi + qsz) % 200) p3) ct lE lC cand lim now was (nI sent) (nI qfi) (nI qsz)) H := hP
    have hD : va_D A (wC cI ad rc rl rh fr fw fc fg ps pg pr pd (upd qp ((qfi + qsz) % 200) p0) (upd qt ((qfi + qsz) % 200) p1) (upd qf ((qfi + qsz) % 200) p2) (upd qo ((qfi + qsz) % 200) p3) ct lE lC cand lim now was (nI sent) (nI qfi) (nI qsz)) := hD
    refine lv_aload_n hx hb dX0_put_60 rfl (lv_at hl 1 rfl) ?_
    refine lv_dup hx hb dX0_put_61 rfl ?_
    refine g_X0_24 B hP 15 rfl rfl dX0_put_62 ?_
    refine lv_iconst (v := nI 1) hx hb dX0_put_65 (by decide) ?_
    refine r_iadd hx hb dX0_put_66 ?_
    refine p_X0_24 B hP hD hS 15 rfl (Nat.le_of_ble_eq_true rfl) dX0_put_67 (fun H locs hP hD hS => ?_)
    have hP : va_P D vwCl (wC cI ad rc rl rh fr fw fc fg ps pg pr pd (upd qp ((qfi + qsz) % 200) p0) (upd qt ((qfi + qsz) % 200) p1) (upd qf ((qfi + qsz) % 200) p2) (upd qo ((qfi + qsz) % 200) p3) ct lE lC cand lim now was (nI sent) (nI qfi) (nI (qsz + 1))) H := hP
    have hD : va_D A (wC cI ad rc rl rh fr fw fc fg ps pg pr pd (upd qp ((qfi + qsz) % 200) p0) (upd qt ((qfi + qsz) % 200) p1) (upd qf ((qfi + qsz) % 200) p2) (upd qo ((qfi + qsz) % 200) p3) ct lE lC cand lim now was (nI sent) (nI qfi) (nI (qsz + 1))) := hD
    refine lv_iconst (v := nI 1) hx hb dX0_put_70 (by decide) ?_
    exact eZ B hP hS (by decide) (by simp only [hf, bI_t, bI_f]) (by simp only [hf]) dX0_put_71
  · have hf := hf.trans (if_neg c1)
    refine lv_iconst (v := nI 0) hx hb dX0_put_10 (by decide) ?_
    exact eZ B hP hS (by decide) (by simp only [hf, bI_t, bI_f]) (by simp only [hf]) dX0_put_11
def f_X0_removeFirst (qfi : Nat) (qsz : Nat) : Nat × Nat :=
  if qsz = 0 then (qfi, qsz) else ((qfi + 1) % 200, qsz - 1)
theorem fb_X0_removeFirst_qfi (qfi : Nat) (qsz : Nat) (h_qfi : qfi ≤ 199) (h_qsz : qsz ≤ 200) : (f_X0_removeFirst qfi qsz).1 ≤ 199 := by
  unfold f_X0_removeFirst
  (try repeat' split)
  all_goals (first | (dsimp only; omega) | omega)
theorem fb_X0_removeFirst_qsz (qfi : Nat) (qsz : Nat) (h_qfi : qfi ≤ 199) (h_qsz : qsz ≤ 200) : (f_X0_removeFirst qfi qsz).2 ≤ 200 := by
  unfold f_X0_removeFirst
  (try repeat' split)
  all_goals (first | (dsimp only; omega) | omega)
set_option maxHeartbeats 4000000 in
set_option maxRecDepth 100000 in
theorem c_X0_removeFirst (l : Launch) (D : va_G) (cI cZ : ClassId) (ad : Nat → Nat) (rc rl rh fr fw fc fg ps pg pr pd qp qt qf qo ct lE lC : Nat → Int32) (cand : Int32) (lim : Int32) (now : Int32) (was : Int32) (sent : Nat) (qfi : Nat) (qsz : Nat) (hqfi : qfi ≤ 199) (hqsz : qsz ≤ 200) : MV l yX0_removeFirst cX0_removeFirst 1 { frames := 0, cells := 0, slots := 0, locals := 0 } D (TY cI cZ) [.ref (ad 15)] (wC cI ad rc rl rh fr fw fc fg ps pg pr pd qp qt qf qo ct lE lC cand lim now was (nI sent) (nI qfi) (nI qsz)) (wC cI ad rc rl rh fr fw fc fg ps pg pr pd qp qt qf qo ct lE lC cand lim now was (nI sent) (nI ((f_X0_removeFirst qfi qsz).1)) (nI ((f_X0_removeFirst qfi qsz).2))) := by
  refine MV.mk ⟨rfl, rfl⟩ (by decide +kernel) (Nat.le_of_ble_eq_true rfl) ?_
  intro p e s m below meth c A ls B hA hP hD hS hl
  have hx := B.1
  have hb := B.2.1
  have hts := B.2.2.2.2.2.1
  have hN := B.2.2.2.2.2.2.2.1
  have hK := B.2.2.2.2.2.2.2.2.1
  have hl : lv_has ls 1 [(0, .ref (ad 15))] := hl
  have hf := f_X0_removeFirst.eq_1 qfi qsz
  refine lv_aload_n hx hb dX0_removeFirst_0 rfl (lv_at hl 0 rfl) ?_
  refine g_X0_24 B hP 15 rfl rfl dX0_removeFirst_1 ?_
  refine r_if_le (tgt := 31) hx hb (by omega) dX0_removeFirst_4 (by decide) (fun c1 => ?_) (fun c1 => ?_)
  · have hf := hf.trans (if_pos c1)
    exact eV B hP hS (by simp only [hf]) dX0_removeFirst_31
  · have hf := hf.trans (if_neg c1)
    refine lv_aload_n hx hb dX0_removeFirst_7 rfl (lv_at hl 0 rfl) ?_
    refine lv_aload_n hx hb dX0_removeFirst_8 rfl (lv_at hl 0 rfl) ?_
    refine g_X0_28 B hP 15 rfl rfl dX0_removeFirst_9 ?_
    refine lv_iconst (v := nI 1) hx hb dX0_removeFirst_12 (by decide) ?_
    refine r_iadd hx hb dX0_removeFirst_13 ?_
    refine lv_sipush (v := nI 200) hx hb dX0_removeFirst_14 (by decide) ?_
    refine r_irem hx hb (by omega) (by omega) (by omega) dX0_removeFirst_17 ?_
    refine p_X0_28 B hP hD hS 15 rfl (Nat.le_of_ble_eq_true rfl) dX0_removeFirst_18 (fun H locs hP hD hS => ?_)
    have hP : va_P D vwCl (wC cI ad rc rl rh fr fw fc fg ps pg pr pd qp qt qf qo ct lE lC cand lim now was (nI sent) (nI ((qfi + 1) % 200)) (nI qsz)) H := hP
    have hD : va_D A (wC cI ad rc rl rh fr fw fc fg ps pg pr pd qp qt qf qo ct lE lC cand lim now was (nI sent) (nI ((qfi + 1) % 200)) (nI qsz)) := hD
    refine lv_aload_n hx hb dX0_removeFirst_21 rfl (lv_at hl 0 rfl) ?_
    refine lv_dup hx hb dX0_removeFirst_22 rfl ?_
    refine g_X0_24 B hP 15 rfl rfl dX0_removeFirst_23 ?_
    refine lv_iconst (v := nI 1) hx hb dX0_removeFirst_26 (by decide) ?_
    refine r_isub hx hb (by omega) dX0_removeFirst_27 ?_
    refine p_X0_24 B hP hD hS 15 rfl (Nat.le_of_ble_eq_true rfl) dX0_removeFirst_28 (fun H locs hP hD hS => ?_)
    have hP : va_P D vwCl (wC cI ad rc rl rh fr fw fc fg ps pg pr pd qp qt qf qo ct lE lC cand lim now was (nI sent) (nI ((qfi + 1) % 200)) (nI (qsz - 1))) H := hP
    have hD : va_D A (wC cI ad rc rl rh fr fw fc fg ps pg pr pd qp qt qf qo ct lE lC cand lim now was (nI sent) (nI ((qfi + 1) % 200)) (nI (qsz - 1))) := hD
    exact eV B hP hS (by simp only [hf]) dX0_removeFirst_31
set_option maxHeartbeats 4000000 in
set_option maxRecDepth 100000 in
theorem c_X0_firstIn_n_qp (l : Launch) (D : va_G) (cI cZ : ClassId) (ad : Nat → Nat) (rc rl rh fr fw fc fg ps pg pr pd qp qt qf qo ct lE lC : Nat → Int32) (cand : Int32) (lim : Int32) (now : Int32) (was : Int32) (sent : Nat) (qfi : Nat) (qsz : Nat) (hqfi : qfi ≤ 199) (hqsz : qsz ≤ 200) (hn1qsz : qsz ≤ 200) (hn0qsz : 1 ≤ qsz) : MI l yX0_firstIn cX0_firstIn 2 .int { frames := 0, cells := 0, slots := 0, locals := 0 } D (TY cI cZ) [.ref (ad 15), .ref (ad 16)] (wC cI ad rc rl rh fr fw fc fg ps pg pr pd qp qt qf qo ct lE lC cand lim now was (nI sent) (nI qfi) (nI qsz)) (wC cI ad rc rl rh fr fw fc fg ps pg pr pd qp qt qf qo ct lE lC cand lim now was (nI sent) (nI qfi) (nI qsz)) (qp qfi) := by
  refine MI.mk ⟨rfl, rfl⟩ (by decide +kernel) (Nat.le_of_ble_eq_true rfl) ?_
  intro p e s m below meth c A ls B hA hP hD hS hl
  have hx := B.1
  have hb := B.2.1
  have hts := B.2.2.2.2.2.1
  have hN := B.2.2.2.2.2.2.2.1
  have hK := B.2.2.2.2.2.2.2.2.1
  have hl : lv_has ls 2 [(0, .ref (ad 15)), (1, .ref (ad 16))] := hl
  refine lv_aload_n hx hb dX0_firstIn_0 rfl (lv_at hl 0 rfl) ?_
  refine g_X0_24 B hP 15 rfl rfl dX0_firstIn_1 ?_
  refine r_if_le (tgt := 32) hx hb (by omega) dX0_firstIn_4 (by decide) (fun c => absurd c (by omega)) (fun _ => ?_)
  refine lv_aload_n hx hb dX0_firstIn_7 rfl (lv_at hl 0 rfl) ?_
  refine g_X0_28 B hP 15 rfl rfl dX0_firstIn_8 ?_
  refine r_if_lt (tgt := 32) hx hb (by omega) dX0_firstIn_11 (by decide) ?_
  refine lv_aload_n hx hb dX0_firstIn_14 rfl (lv_at hl 0 rfl) ?_
  refine g_X0_28 B hP 15 rfl rfl dX0_firstIn_15 ?_
  refine lv_aload_n hx hb dX0_firstIn_18 rfl (lv_at hl 1 rfl) ?_
  refine va_alen (v := nI 200) hx hb hK hP 16 0 rfl rfl rfl dX0_firstIn_19 ?_
  refine r_icmp_ge (tgt := 32) hx hb (by omega) (by omega) dX0_firstIn_20 (by decide) (fun c => absurd c (by omega)) (fun _ => ?_)
  refine lv_aload_n hx hb dX0_firstIn_23 rfl (lv_at hl 1 rfl) ?_
  refine lv_aload_n hx hb dX0_firstIn_24 rfl (lv_at hl 0 rfl) ?_
  refine g_X0_28 B hP 15 rfl rfl dX0_firstIn_25 ?_
  refine r_iald hx hb hK hP 16 0 rfl rfl (by omega) (by decide) dX0_firstIn_28 ?_
  refine lv_goto (tgt := 33) hx hb dX0_firstIn_29 (by decide) ?_
  exact eI B hP hS rfl rfl dX0_firstIn_33
set_option maxHeartbeats 4000000 in
set_option maxRecDepth 100000 in
theorem c_X0_firstIn_n_qt (l : Launch) (D : va_G) (cI cZ : ClassId) (ad : Nat → Nat) (rc rl rh fr fw fc fg ps pg pr pd qp qt qf qo ct lE lC : Nat → Int32) (cand : Int32) (lim : Int32) (now : Int32) (was : Int32) (sent : Nat) (qfi : Nat) (qsz : Nat) (hqfi : qfi ≤ 199) (hqsz : qsz ≤ 200) (hn1qsz : qsz ≤ 200) (hn0qsz : 1 ≤ qsz) : MI l yX0_firstIn cX0_firstIn 2 .int { frames := 0, cells := 0, slots := 0, locals := 0 } D (TY cI cZ) [.ref (ad 15), .ref (ad 17)] (wC cI ad rc rl rh fr fw fc fg ps pg pr pd qp qt qf qo ct lE lC cand lim now was (nI sent) (nI qfi) (nI qsz)) (wC cI ad rc rl rh fr fw fc fg ps pg pr pd qp qt qf qo ct lE lC cand lim now was (nI sent) (nI qfi) (nI qsz)) (qt qfi) := by
  refine MI.mk ⟨rfl, rfl⟩ (by decide +kernel) (Nat.le_of_ble_eq_true rfl) ?_
  intro p e s m below meth c A ls B hA hP hD hS hl
  have hx := B.1
  have hb := B.2.1
  have hts := B.2.2.2.2.2.1
  have hN := B.2.2.2.2.2.2.2.1
  have hK := B.2.2.2.2.2.2.2.2.1
  have hl : lv_has ls 2 [(0, .ref (ad 15)), (1, .ref (ad 17))] := hl
  refine lv_aload_n hx hb dX0_firstIn_0 rfl (lv_at hl 0 rfl) ?_
  refine g_X0_24 B hP 15 rfl rfl dX0_firstIn_1 ?_
  refine r_if_le (tgt := 32) hx hb (by omega) dX0_firstIn_4 (by decide) (fun c => absurd c (by omega)) (fun _ => ?_)
  refine lv_aload_n hx hb dX0_firstIn_7 rfl (lv_at hl 0 rfl) ?_
  refine g_X0_28 B hP 15 rfl rfl dX0_firstIn_8 ?_
  refine r_if_lt (tgt := 32) hx hb (by omega) dX0_firstIn_11 (by decide) ?_
  refine lv_aload_n hx hb dX0_firstIn_14 rfl (lv_at hl 0 rfl) ?_
  refine g_X0_28 B hP 15 rfl rfl dX0_firstIn_15 ?_
  refine lv_aload_n hx hb dX0_firstIn_18 rfl (lv_at hl 1 rfl) ?_
  refine va_alen (v := nI 200) hx hb hK hP 17 0 rfl rfl rfl dX0_firstIn_19 ?_
  refine r_icmp_ge (tgt := 32) hx hb (by omega) (by omega) dX0_firstIn_20 (by decide) (fun c => absurd c (by omega)) (fun _ => ?_)
  refine lv_aload_n hx hb dX0_firstIn_23 rfl (lv_at hl 1 rfl) ?_
  refine lv_aload_n hx hb dX0_firstIn_24 rfl (lv_at hl 0 rfl) ?_
  refine g_X0_28 B hP 15 rfl rfl dX0_firstIn_25 ?_
  refine r_iald hx hb hK hP 17 0 rfl rfl (by omega) (by decide) dX0_firstIn_28 ?_
  refine lv_goto (tgt := 33) hx hb dX0_firstIn_29 (by decide) ?_
  exact eI B hP hS rfl rfl dX0_firstIn_33
set_option maxHeartbeats 4000000 in
set_option maxRecDepth 100000 in
theorem c_X0_firstIn_n_qf (l : Launch) (D : va_G) (cI cZ : ClassId) (ad : Nat → Nat) (rc rl rh fr fw fc fg ps pg pr pd qp qt qf qo ct lE lC : Nat → Int32) (cand : Int32) (lim : Int32) (now : Int32) (was : Int32) (sent : Nat) (qfi : Nat) (qsz : Nat) (hqfi : qfi ≤ 199) (hqsz : qsz ≤ 200) (hn1qsz : qsz ≤ 200) (hn0qsz : 1 ≤ qsz) : MI l yX0_firstIn cX0_firstIn 2 .int { frames := 0, cells := 0, slots := 0, locals := 0 } D (TY cI cZ) [.ref (ad 15), .ref (ad 18)] (wC cI ad rc rl rh fr fw fc fg ps pg pr pd qp qt qf qo ct lE lC cand lim now was (nI sent) (nI qfi) (nI qsz)) (wC cI ad rc rl rh fr fw fc fg ps pg pr pd qp qt qf qo ct lE lC cand lim now was (nI sent) (nI qfi) (nI qsz)) (qf qfi) := by
  refine MI.mk ⟨rfl, rfl⟩ (by decide +kernel) (Nat.le_of_ble_eq_true rfl) ?_
  intro p e s m below meth c A ls B hA hP hD hS hl
  have hx := B.1
  have hb := B.2.1
  have hts := B.2.2.2.2.2.1
  have hN := B.2.2.2.2.2.2.2.1
  have hK := B.2.2.2.2.2.2.2.2.1
  have hl : lv_has ls 2 [(0, .ref (ad 15)), (1, .ref (ad 18))] := hl
  refine lv_aload_n hx hb dX0_firstIn_0 rfl (lv_at hl 0 rfl) ?_
  refine g_X0_24 B hP 15 rfl rfl dX0_firstIn_1 ?_
  refine r_if_le (tgt := 32) hx hb (by omega) dX0_firstIn_4 (by decide) (fun c => absurd c (by omega)) (fun _ => ?_)
  refine lv_aload_n hx hb dX0_firstIn_7 rfl (lv_at hl 0 rfl) ?_
  refine g_X0_28 B hP 15 rfl rfl dX0_firstIn_8 ?_
  refine r_if_lt (tgt := 32) hx hb (by omega) dX0_firstIn_11 (by decide) ?_
  refine lv_aload_n hx hb dX0_firstIn_14 rfl (lv_at hl 0 rfl) ?_
  refine g_X0_28 B hP 15 rfl rfl dX0_firstIn_15 ?_
  refine lv_aload_n hx hb dX0_firstIn_18 rfl (lv_at hl 1 rfl) ?_
  refine va_alen (v := nI 200) hx hb hK hP 18 0 rfl rfl rfl dX0_firstIn_19 ?_
  refine r_icmp_ge (tgt := 32) hx hb (by omega) (by omega) dX0_firstIn_20 (by decide) (fun c => absurd c (by omega)) (fun _ => ?_)
  refine lv_aload_n hx hb dX0_firstIn_23 rfl (lv_at hl 1 rfl) ?_
  refine lv_aload_n hx hb dX0_firstIn_24 rfl (lv_at hl 0 rfl) ?_
  refine g_X0_28 B hP 15 rfl rfl dX0_firstIn_25 ?_
  refine r_iald hx hb hK hP 18 0 rfl rfl (by omega) (by decide) dX0_firstIn_28 ?_
  refine lv_goto (tgt := 33) hx hb dX0_firstIn_29 (by decide) ?_
  exact eI B hP hS rfl rfl dX0_firstIn_33
set_option maxHeartbeats 4000000 in
set_option maxRecDepth 100000 in
theorem c_X0_firstIn_n_qo (l : Launch) (D : va_G) (cI cZ : ClassId) (ad : Nat → Nat) (rc rl rh fr fw fc fg ps pg pr pd qp qt qf qo ct lE lC : Nat → Int32) (cand : Int32) (lim : Int32) (now : Int32) (was : Int32) (sent : Nat) (qfi : Nat) (qsz : Nat) (hqfi : qfi ≤ 199) (hqsz : qsz ≤ 200) (hn1qsz : qsz ≤ 200) (hn0qsz : 1 ≤ qsz) : MI l yX0_firstIn cX0_firstIn 2 .int { frames := 0, cells := 0, slots := 0, locals := 0 } D (TY cI cZ) [.ref (ad 15), .ref (ad 19)] (wC cI ad rc rl rh fr fw fc fg ps pg pr pd qp qt qf qo ct lE lC cand lim now was (nI sent) (nI qfi) (nI qsz)) (wC cI ad rc rl rh fr fw fc fg ps pg pr pd qp qt qf qo ct lE lC cand lim now was (nI sent) (nI qfi) (nI qsz)) (qo qfi) := by
  refine MI.mk ⟨rfl, rfl⟩ (by decide +kernel) (Nat.le_of_ble_eq_true rfl) ?_
  intro p e s m below meth c A ls B hA hP hD hS hl
  have hx := B.1
  have hb := B.2.1
  have hts := B.2.2.2.2.2.1
  have hN := B.2.2.2.2.2.2.2.1
  have hK := B.2.2.2.2.2.2.2.2.1
  have hl : lv_has ls 2 [(0, .ref (ad 15)), (1, .ref (ad 19))] := hl
  refine lv_aload_n hx hb dX0_firstIn_0 rfl (lv_at hl 0 rfl) ?_
  refine g_X0_24 B hP 15 rfl rfl dX0_firstIn_1 ?_
  refine r_if_le (tgt := 32) hx hb (by omega) dX0_firstIn_4 (by decide) (fun c => absurd c (by omega)) (fun _ => ?_)
  refine lv_aload_n hx hb dX0_firstIn_7 rfl (lv_at hl 0 rfl) ?_
  refine g_X0_28 B hP 15 rfl rfl dX0_firstIn_8 ?_
  refine r_if_lt (tgt := 32) hx hb (by omega) dX0_firstIn_11 (by decide) ?_
  refine lv_aload_n hx hb dX0_firstIn_14 rfl (lv_at hl 0 rfl) ?_
  refine g_X0_28 B hP 15 rfl rfl dX0_firstIn_15 ?_
  refine lv_aload_n hx hb dX0_firstIn_18 rfl (lv_at hl 1 rfl) ?_
  refine va_alen (v := nI 200) hx hb hK hP 19 0 rfl rfl rfl dX0_firstIn_19 ?_
  refine r_icmp_ge (tgt := 32) hx hb (by omega) (by omega) dX0_firstIn_20 (by decide) (fun c => absurd c (by omega)) (fun _ => ?_)
  refine lv_aload_n hx hb dX0_firstIn_23 rfl (lv_at hl 1 rfl) ?_
  refine lv_aload_n hx hb dX0_firstIn_24 rfl (lv_at hl 0 rfl) ?_
  refine g_X0_28 B hP 15 rfl rfl dX0_firstIn_25 ?_
  refine r_iald hx hb hK hP 19 0 rfl rfl (by omega) (by decide) dX0_firstIn_28 ?_
  refine lv_goto (tgt := 33) hx hb dX0_firstIn_29 (by decide) ?_
  exact eI B hP hS rfl rfl dX0_firstIn_33
set_option maxHeartbeats 4000000 in
set_option maxRecDepth 100000 in
theorem c_X0_firstPacket_n (l : Launch) (D : va_G) (cI cZ : ClassId) (ad : Nat → Nat) (rc rl rh fr fw fc fg ps pg pr pd qp qt qf qo ct lE lC : Nat → Int32) (cand : Int32) (lim : Int32) (now : Int32) (was : Int32) (sent : Nat) (qfi : Nat) (qsz : Nat) (hqfi : qfi ≤ 199) (hqsz : qsz ≤ 200) (hn1qsz : qsz ≤ 200) (hn0qsz : 1 ≤ qsz) : MI l yX0_firstPacket cX0_firstPacket 1 .int { frames := 1, cells := 0, slots := 0, locals := 21 } D (TY cI cZ) [.ref (ad 15)] (wC cI ad rc rl rh fr fw fc fg ps pg pr pd qp qt qf qo ct lE lC cand lim now was (nI sent) (nI qfi) (nI qsz)) (wC cI ad rc rl rh fr fw fc fg ps pg pr pd qp qt qf qo ct lE lC cand lim now was (nI sent) (nI qfi) (nI qsz)) (qp qfi) := by
  refine MI.mk ⟨rfl, rfl⟩ (by decide +kernel) (Nat.le_of_ble_eq_true rfl) ?_
  intro p e s m below meth c A ls B hA hP hD hS hl
  have hx := B.1
  have hb := B.2.1
  have hts := B.2.2.2.2.2.1
  have hN := B.2.2.2.2.2.2.2.1
  have hK := B.2.2.2.2.2.2.2.2.1
  have hl : lv_has ls 1 [(0, .ref (ad 15))] := hl
  refine lv_aload_n hx hb dX0_firstPacket_0 rfl (lv_at hl 0 rfl) ?_
  refine lv_aload_n hx hb dX0_firstPacket_1 rfl (lv_at hl 0 rfl) ?_
  refine g_X0_9 B hP 15 rfl rfl dX0_firstPacket_2 ?_
  refine fV_i (ci := 0) (as := [.ref (ad 16)]) (rest := []) B hl.1 (c_X0_firstIn_n_qp l D cI cZ ad rc rl rh fr fw fc fg ps pg pr pd qp qt qf qo ct lE lC cand lim now was sent qfi qsz (by omega) (by omega) hn1qsz hn0qsz) rfl (l_RX0_31 hts ⟨rfl, rfl⟩ ⟨Nat.le_of_ble_eq_true rfl, Nat.le_of_ble_eq_true rfl⟩) m_18_11 m_18_12 rfl rfl hP hD hS hA 15 rfl wfC (Nat.le_of_ble_eq_true rfl) dX0_firstPacket_5 (fun H locs hP hD hS => ?_)
  exact eI B hP hS rfl rfl dX0_firstPacket_8
set_option maxHeartbeats 4000000 in
set_option maxRecDepth 100000 in
theorem c_X0_firstTree_n (l : Launch) (D : va_G) (cI cZ : ClassId) (ad : Nat → Nat) (rc rl rh fr fw fc fg ps pg pr pd qp qt qf qo ct lE lC : Nat → Int32) (cand : Int32) (lim : Int32) (now : Int32) (was : Int32) (sent : Nat) (qfi : Nat) (qsz : Nat) (hqfi : qfi ≤ 199) (hqsz : qsz ≤ 200) (hn1qsz : qsz ≤ 200) (hn0qsz : 1 ≤ qsz) : MI l yX0_firstTree cX0_firstTree 1 .int { frames := 1, cells := 0, slots := 0, locals := 21 } D (TY cI cZ) [.ref (ad 15)] (wC cI ad rc rl rh fr fw fc fg ps pg pr pd qp qt qf qo ct lE lC cand lim now was (nI sent) (nI qfi) (nI qsz)) (wC cI ad rc rl rh fr fw fc fg ps pg pr pd qp qt qf qo ct lE lC cand lim now was (nI sent) (nI qfi) (nI qsz)) (qt qfi) := by
  refine MI.mk ⟨rfl, rfl⟩ (by decide +kernel) (Nat.le_of_ble_eq_true rfl) ?_
  intro p e s m below meth c A ls B hA hP hD hS hl
  have hx := B.1
  have hb := B.2.1
  have hts := B.2.2.2.2.2.1
  have hN := B.2.2.2.2.2.2.2.1
  have hK := B.2.2.2.2.2.2.2.2.1
  have hl : lv_has ls 1 [(0, .ref (ad 15))] := hl
  refine lv_aload_n hx hb dX0_firstTree_0 rfl (lv_at hl 0 rfl) ?_
  refine lv_aload_n hx hb dX0_firstTree_1 rfl (lv_at hl 0 rfl) ?_
  refine g_X0_15 B hP 15 rfl rfl dX0_firstTree_2 ?_
  refine fV_i (ci := 0) (as := [.ref (ad 17)]) (rest := []) B hl.1 (c_X0_firstIn_n_qt l D cI cZ ad rc rl rh fr fw fc fg ps pg pr pd qp qt qf qo ct lE lC cand lim now was sent qfi qsz (by omega) (by omega) hn1qsz hn0qsz) rfl (l_RX0_31 hts ⟨rfl, rfl⟩ ⟨Nat.le_of_ble_eq_true rfl, Nat.le_of_ble_eq_true rfl⟩) m_18_11 m_18_12 rfl rfl hP hD hS hA 15 rfl wfC (Nat.le_of_ble_eq_true rfl) dX0_firstTree_5 (fun H locs hP hD hS => ?_)
  exact eI B hP hS rfl rfl dX0_firstTree_8
set_option maxHeartbeats 4000000 in
set_option maxRecDepth 100000 in
theorem c_X0_firstFrom_n (l : Launch) (D : va_G) (cI cZ : ClassId) (ad : Nat → Nat) (rc rl rh fr fw fc fg ps pg pr pd qp qt qf qo ct lE lC : Nat → Int32) (cand : Int32) (lim : Int32) (now : Int32) (was : Int32) (sent : Nat) (qfi : Nat) (qsz : Nat) (hqfi : qfi ≤ 199) (hqsz : qsz ≤ 200) (hn1qsz : qsz ≤ 200) (hn0qsz : 1 ≤ qsz) : MI l yX0_firstFrom cX0_firstFrom 1 .int { frames := 1, cells := 0, slots := 0, locals := 21 } D (TY cI cZ) [.ref (ad 15)] (wC cI ad rc rl rh fr fw fc fg ps pg pr pd qp qt qf qo ct lE lC cand lim now was (nI sent) (nI qfi) (nI qsz)) (wC cI ad rc rl rh fr fw fc fg ps pg pr pd qp qt qf qo ct lE lC cand lim now was (nI sent) (nI qfi) (nI qsz)) (qf qfi) := by
  refine MI.mk ⟨rfl, rfl⟩ (by decide +kernel) (Nat.le_of_ble_eq_true rfl) ?_
  intro p e s m below meth c A ls B hA hP hD hS hl
  have hx := B.1
  have hb := B.2.1
  have hts := B.2.2.2.2.2.1
  have hN := B.2.2.2.2.2.2.2.1
  have hK := B.2.2.2.2.2.2.2.2.1
  have hl : lv_has ls 1 [(0, .ref (ad 15))] := hl
  refine lv_aload_n hx hb dX0_firstFrom_0 rfl (lv_at hl 0 rfl) ?_
  refine lv_aload_n hx hb dX0_firstFrom_1 rfl (lv_at hl 0 rfl) ?_
  refine g_X0_18 B hP 15 rfl rfl dX0_firstFrom_2 ?_
  refine fV_i (ci := 0) (as := [.ref (ad 18)]) (rest := []) B hl.1 (c_X0_firstIn_n_qf l D cI cZ ad rc rl rh fr fw fc fg ps pg pr pd qp qt qf qo ct lE lC cand lim now was sent qfi qsz (by omega) (by omega) hn1qsz hn0qsz) rfl (l_RX0_31 hts ⟨rfl, rfl⟩ ⟨Nat.le_of_ble_eq_true rfl, Nat.le_of_ble_eq_true rfl⟩) m_18_11 m_18_12 rfl rfl hP hD hS hA 15 rfl wfC (Nat.le_of_ble_eq_true rfl) dX0_firstFrom_5 (fun H locs hP hD hS => ?_)
  exact eI B hP hS rfl rfl dX0_firstFrom_8
set_option maxHeartbeats 4000000 in
set_option maxRecDepth 100000 in
theorem c_X0_firstTo_n (l : Launch) (D : va_G) (cI cZ : ClassId) (ad : Nat → Nat) (rc rl rh fr fw fc fg ps pg pr pd qp qt qf qo ct lE lC : Nat → Int32) (cand : Int32) (lim : Int32) (now : Int32) (was : Int32) (sent : Nat) (qfi : Nat) (qsz : Nat) (hqfi : qfi ≤ 199) (hqsz : qsz ≤ 200) (hn1qsz : qsz ≤ 200) (hn0qsz : 1 ≤ qsz) : MI l yX0_firstTo cX0_firstTo 1 .int { frames := 1, cells := 0, slots := 0, locals := 21 } D (TY cI cZ) [.ref (ad 15)] (wC cI ad rc rl rh fr fw fc fg ps pg pr pd qp qt qf qo ct lE lC cand lim now was (nI sent) (nI qfi) (nI qsz)) (wC cI ad rc rl rh fr fw fc fg ps pg pr pd qp qt qf qo ct lE lC cand lim now was (nI sent) (nI qfi) (nI qsz)) (qo qfi) := by
  refine MI.mk ⟨rfl, rfl⟩ (by decide +kernel) (Nat.le_of_ble_eq_true rfl) ?_
  intro p e s m below meth c A ls B hA hP hD hS hl
  have hx := B.1
  have hb := B.2.1
  have hts := B.2.2.2.2.2.1
  have hN := B.2.2.2.2.2.2.2.1
  have hK := B.2.2.2.2.2.2.2.2.1
  have hl : lv_has ls 1 [(0, .ref (ad 15))] := hl
  refine lv_aload_n hx hb dX0_firstTo_0 rfl (lv_at hl 0 rfl) ?_
  refine lv_aload_n hx hb dX0_firstTo_1 rfl (lv_at hl 0 rfl) ?_
  refine g_X0_21 B hP 15 rfl rfl dX0_firstTo_2 ?_
  refine fV_i (ci := 0) (as := [.ref (ad 19)]) (rest := []) B hl.1 (c_X0_firstIn_n_qo l D cI cZ ad rc rl rh fr fw fc fg ps pg pr pd qp qt qf qo ct lE lC cand lim now was sent qfi qsz (by omega) (by omega) hn1qsz hn0qsz) rfl (l_RX0_31 hts ⟨rfl, rfl⟩ ⟨Nat.le_of_ble_eq_true rfl, Nat.le_of_ble_eq_true rfl⟩) m_18_11 m_18_12 rfl rfl hP hD hS hA 15 rfl wfC (Nat.le_of_ble_eq_true rfl) dX0_firstTo_5 (fun H locs hP hD hS => ?_)
  exact eI B hP hS rfl rfl dX0_firstTo_8
set_option maxHeartbeats 4000000 in
set_option maxRecDepth 100000 in
theorem c_X0_removeFirst_n (l : Launch) (D : va_G) (cI cZ : ClassId) (ad : Nat → Nat) (rc rl rh fr fw fc fg ps pg pr pd qp qt qf qo ct lE lC : Nat → Int32) (cand : Int32) (lim : Int32) (now : Int32) (was : Int32) (sent : Nat) (qfi : Nat) (qsz : Nat) (hqfi : qfi ≤ 199) (hqsz : qsz ≤ 200) (hn1qsz : qsz ≤ 200) (hn0qsz : 1 ≤ qsz) : MV l yX0_removeFirst cX0_removeFirst 1 { frames := 0, cells := 0, slots := 0, locals := 0 } D (TY cI cZ) [.ref (ad 15)] (wC cI ad rc rl rh fr fw fc fg ps pg pr pd qp qt qf qo ct lE lC cand lim now was (nI sent) (nI qfi) (nI qsz)) (wC cI ad rc rl rh fr fw fc fg ps pg pr pd qp qt qf qo ct lE lC cand lim now was (nI sent) (nI ((qfi + 1) % 200)) (nI (qsz - 1))) := by
  refine MV.mk ⟨rfl, rfl⟩ (by decide +kernel) (Nat.le_of_ble_eq_true rfl) ?_
  intro p e s m below meth c A ls B hA hP hD hS hl
  have hx := B.1
  have hb := B.2.1
  have hts := B.2.2.2.2.2.1
  have hN := B.2.2.2.2.2.2.2.1
  have hK := B.2.2.2.2.2.2.2.2.1
  have hl : lv_has ls 1 [(0, .ref (ad 15))] := hl
  refine lv_aload_n hx hb dX0_removeFirst_0 rfl (lv_at hl 0 rfl) ?_
  refine g_X0_24 B hP 15 rfl rfl dX0_removeFirst_1 ?_
  refine r_if_le (tgt := 31) hx hb (by omega) dX0_removeFirst_4 (by decide) (fun c => absurd c (by omega)) (fun _ => ?_)
  refine lv_aload_n hx hb dX0_removeFirst_7 rfl (lv_at hl 0 rfl) ?_
  refine lv_aload_n hx hb dX0_removeFirst_8 rfl (lv_at hl 0 rfl) ?_
  refine g_X0_28 B hP 15 rfl rfl dX0_removeFirst_9 ?_
  refine lv_iconst (v := nI 1) hx hb dX0_removeFirst_12 (by decide) ?_
  refine r_iadd hx hb dX0_removeFirst_13 ?_
  refine lv_sipush (v := nI 200) hx hb dX0_removeFirst_14 (by decide) ?_
  refine r_irem hx hb (by omega) (by omega) (by omega) dX0_removeFirst_17 ?_
  refine p_X0_28 B hP hD hS 15 rfl (Nat.le_of_ble_eq_true rfl) dX0_removeFirst_18 (fun H locs hP hD hS => ?_)
  have hP : va_P D vwCl (wC cI ad rc rl rh fr fw fc fg ps pg pr pd qp qt qf qo ct lE lC cand lim now was (nI sent) (nI ((qfi + 1) % 200)) (nI qsz)) H := hP
  have hD : va_D A (wC cI ad rc rl rh fr fw fc fg ps pg pr pd qp qt qf qo ct lE lC cand lim now was (nI sent) (nI ((qfi + 1) % 200)) (nI qsz)) := hD
  refine lv_aload_n hx hb dX0_removeFirst_21 rfl (lv_at hl 0 rfl) ?_
  refine lv_dup hx hb dX0_removeFirst_22 rfl ?_
  refine g_X0_24 B hP 15 rfl rfl dX0_removeFirst_23 ?_
  refine lv_iconst (v := nI 1) hx hb dX0_removeFirst_26 (by decide) ?_
  refine r_isub hx hb (by omega) dX0_removeFirst_27 ?_
  refine p_X0_24 B hP hD hS 15 rfl (Nat.le_of_ble_eq_true rfl) dX0_removeFirst_28 (fun H locs hP hD hS => ?_)
  have hP : va_P D vwCl (wC cI ad rc rl rh fr fw fc fg ps pg pr pd qp qt qf qo ct lE lC cand lim now was (nI sent) (nI ((qfi + 1) % 200)) (nI (qsz - 1))) H := hP
  have hD : va_D A (wC cI ad rc rl rh fr fw fc fg ps pg pr pd qp qt qf qo ct lE lC cand lim now was (nI sent) (nI ((qfi + 1) % 200)) (nI (qsz - 1))) := hD
  exact eV B hP hS rfl dX0_removeFirst_31
def f_X0_firstIn_qp (qp : Nat → Int32) (qfi : Nat) (qsz : Nat) : Int32 :=
  if qsz = 0 then -1 else qp qfi
set_option maxHeartbeats 4000000 in
set_option maxRecDepth 100000 in
theorem c_X0_firstIn_qp (l : Launch) (D : va_G) (cI cZ : ClassId) (ad : Nat → Nat) (rc rl rh fr fw fc fg ps pg pr pd qp qt qf qo ct lE lC : Nat → Int32) (cand : Int32) (lim : Int32) (now : Int32) (was : Int32) (sent : Nat) (qfi : Nat) (qsz : Nat) (hqfi : qfi ≤ 199) (hqsz : qsz ≤ 200) : MI l yX0_firstIn cX0_firstIn 2 .int { frames := 0, cells := 0, slots := 0, locals := 0 } D (TY cI cZ) [.ref (ad 15), .ref (ad 16)] (wC cI ad rc rl rh fr fw fc fg ps pg pr pd qp qt qf qo ct lE lC cand lim now was (nI sent) (nI qfi) (nI qsz)) (wC cI ad rc rl rh fr fw fc fg ps pg pr pd qp qt qf qo ct lE lC cand lim now was (nI sent) (nI qfi) (nI qsz)) (f_X0_firstIn_qp qp qfi qsz) := by
  refine MI.mk ⟨rfl, rfl⟩ (by decide +kernel) (Nat.le_of_ble_eq_true rfl) ?_
  intro p e s m below meth c A ls B hA hP hD hS hl
  have hx := B.1
  have hb := B.2.1
  have hts := B.2.2.2.2.2.1
  have hN := B.2.2.2.2.2.2.2.1
  have hK := B.2.2.2.2.2.2.2.2.1
  have hl : lv_has ls 2 [(0, .ref (ad 15)), (1, .ref (ad 16))] := hl
  have hf := f_X0_firstIn_qp.eq_1 qp qfi qsz
  refine lv_aload_n hx hb dX0_firstIn_0 rfl (lv_at hl 0 rfl) ?_
  refine g_X0_24 B hP 15 rfl rfl dX0_firstIn_1 ?_
  refine r_if_le (tgt := 32) hx hb (by omega) dX0_firstIn_4 (by decide) (fun c1 => ?_) (fun c1 => ?_)
  · have hf := hf.trans (if_pos c1)
    refine lv_iconst (v := -1) hx hb dX0_firstIn_32 (by decide) ?_
    exact eI B hP hS ((congrArg (fun (u : Int32) => u) hf).symm) rfl dX0_firstIn_33
  · have hf := hf.trans (if_neg c1)
    refine lv_aload_n hx hb dX0_firstIn_7 rfl (lv_at hl 0 rfl) ?_
    refine g_X0_28 B hP 15 rfl rfl dX0_firstIn_8 ?_
    refine r_if_lt (tgt := 32) hx hb (by omega) dX0_firstIn_11 (by decide) ?_
    refine lv_aload_n hx hb dX0_firstIn_14 rfl (lv_at hl 0 rfl) ?_
    refine g_X0_28 B hP 15 rfl rfl dX0_firstIn_15 ?_
    refine lv_aload_n hx hb dX0_firstIn_18 rfl (lv_at hl 1 rfl) ?_
    refine va_alen (v := nI 200) hx hb hK hP 16 0 rfl rfl rfl dX0_firstIn_19 ?_
    refine r_icmp_ge (tgt := 32) hx hb (by omega) (by omega) dX0_firstIn_20 (by decide) (fun c => absurd c (by omega)) (fun _ => ?_)
    refine lv_aload_n hx hb dX0_firstIn_23 rfl (lv_at hl 1 rfl) ?_
    refine lv_aload_n hx hb dX0_firstIn_24 rfl (lv_at hl 0 rfl) ?_
    refine g_X0_28 B hP 15 rfl rfl dX0_firstIn_25 ?_
    refine r_iald hx hb hK hP 16 0 rfl rfl (by omega) (by decide) dX0_firstIn_28 ?_
    refine lv_goto (tgt := 33) hx hb dX0_firstIn_29 (by decide) ?_
    exact eI B hP hS ((congrArg (fun (u : Int32) => u) hf).symm) rfl dX0_firstIn_33
def f_X0_firstIn_qt (qt : Nat → Int32) (qfi : Nat) (qsz : Nat) : Int32 :=
  if qsz = 0 then -1 else qt qfi
set_option maxHeartbeats 4000000 in
set_option maxRecDepth 100000 in
theorem c_X0_firstIn_qt (l : Launch) (D : va_G) (cI cZ : ClassId) (ad : Nat → Nat) (rc rl rh fr fw fc fg ps pg pr pd qp qt qf qo ct lE lC : Nat → Int32) (cand : Int32) (lim : Int32) (now : Int32) (was : Int32) (sent : Nat) (qfi : Nat) (qsz : Nat) (hqfi : qfi ≤ 199) (hqsz : qsz ≤ 200) : MI l yX0_firstIn cX0_firstIn 2 .int { frames := 0, cells := 0, slots := 0, locals := 0 } D (TY cI cZ) [.ref (ad 15), .ref (ad 17)] (wC cI ad rc rl rh fr fw fc fg ps pg pr pd qp qt qf qo ct lE lC cand lim now was (nI sent) (nI qfi) (nI qsz)) (wC cI ad rc rl rh fr fw fc fg ps pg pr pd qp qt qf qo ct lE lC cand lim now was (nI sent) (nI qfi) (nI qsz)) (f_X0_firstIn_qt qt qfi qsz) := by
  refine MI.mk ⟨rfl, rfl⟩ (by decide +kernel) (Nat.le_of_ble_eq_true rfl) ?_
  intro p e s m below meth c A ls B hA hP hD hS hl
  have hx := B.1
  have hb := B.2.1
  have hts := B.2.2.2.2.2.1
  have hN := B.2.2.2.2.2.2.2.1
  have hK := B.2.2.2.2.2.2.2.2.1
  have hl : lv_has ls 2 [(0, .ref (ad 15)), (1, .ref (ad 17))] := hl
  have hf := f_X0_firstIn_qt.eq_1 qt qfi qsz
  refine lv_aload_n hx hb dX0_firstIn_0 rfl (lv_at hl 0 rfl) ?_
  refine g_X0_24 B hP 15 rfl rfl dX0_firstIn_1 ?_
  refine r_if_le (tgt := 32) hx hb (by omega) dX0_firstIn_4 (by decide) (fun c1 => ?_) (fun c1 => ?_)
  · have hf := hf.trans (if_pos c1)
    refine lv_iconst (v := -1) hx hb dX0_firstIn_32 (by decide) ?_
    exact eI B hP hS ((congrArg (fun (u : Int32) => u) hf).symm) rfl dX0_firstIn_33
  · have hf := hf.trans (if_neg c1)
    refine lv_aload_n hx hb dX0_firstIn_7 rfl (lv_at hl 0 rfl) ?_
    refine g_X0_28 B hP 15 rfl rfl dX0_firstIn_8 ?_
    refine r_if_lt (tgt := 32) hx hb (by omega) dX0_firstIn_11 (by decide) ?_
    refine lv_aload_n hx hb dX0_firstIn_14 rfl (lv_at hl 0 rfl) ?_
    refine g_X0_28 B hP 15 rfl rfl dX0_firstIn_15 ?_
    refine lv_aload_n hx hb dX0_firstIn_18 rfl (lv_at hl 1 rfl) ?_
    refine va_alen (v := nI 200) hx hb hK hP 17 0 rfl rfl rfl dX0_firstIn_19 ?_
    refine r_icmp_ge (tgt := 32) hx hb (by omega) (by omega) dX0_firstIn_20 (by decide) (fun c => absurd c (by omega)) (fun _ => ?_)
    refine lv_aload_n hx hb dX0_firstIn_23 rfl (lv_at hl 1 rfl) ?_
    refine lv_aload_n hx hb dX0_firstIn_24 rfl (lv_at hl 0 rfl) ?_
    refine g_X0_28 B hP 15 rfl rfl dX0_firstIn_25 ?_
    refine r_iald hx hb hK hP 17 0 rfl rfl (by omega) (by decide) dX0_firstIn_28 ?_
    refine lv_goto (tgt := 33) hx hb dX0_firstIn_29 (by decide) ?_
    exact eI B hP hS ((congrArg (fun (u : Int32) => u) hf).symm) rfl dX0_firstIn_33
def f_X0_firstIn_qf (qf : Nat → Int32) (qfi : Nat) (qsz : Nat) : Int32 :=
  if qsz = 0 then -1 else qf qfi
set_option maxHeartbeats 4000000 in
set_option maxRecDepth 100000 in
theorem c_X0_firstIn_qf (l : Launch) (D : va_G) (cI cZ : ClassId) (ad : Nat → Nat) (rc rl rh fr fw fc fg ps pg pr pd qp qt qf qo ct lE lC : Nat → Int32) (cand : Int32) (lim : Int32) (now : Int32) (was : Int32) (sent : Nat) (qfi : Nat) (qsz : Nat) (hqfi : qfi ≤ 199) (hqsz : qsz ≤ 200) : MI l yX0_firstIn cX0_firstIn 2 .int { frames := 0, cells := 0, slots := 0, locals := 0 } D (TY cI cZ) [.ref (ad 15), .ref (ad 18)] (wC cI ad rc rl rh fr fw fc fg ps pg pr pd qp qt qf qo ct lE lC cand lim now was (nI sent) (nI qfi) (nI qsz)) (wC cI ad rc rl rh fr fw fc fg ps pg pr pd qp qt qf qo ct lE lC cand lim now was (nI sent) (nI qfi) (nI qsz)) (f_X0_firstIn_qf qf qfi qsz) := by
  refine MI.mk ⟨rfl, rfl⟩ (by decide +kernel) (Nat.le_of_ble_eq_true rfl) ?_
  intro p e s m below meth c A ls B hA hP hD hS hl
  have hx := B.1
  have hb := B.2.1
  have hts := B.2.2.2.2.2.1
  have hN := B.2.2.2.2.2.2.2.1
  have hK := B.2.2.2.2.2.2.2.2.1
  have hl : lv_has ls 2 [(0, .ref (ad 15)), (1, .ref (ad 18))] := hl
  have hf := f_X0_firstIn_qf.eq_1 qf qfi qsz
  refine lv_aload_n hx hb dX0_firstIn_0 rfl (lv_at hl 0 rfl) ?_
  refine g_X0_24 B hP 15 rfl rfl dX0_firstIn_1 ?_
  refine r_if_le (tgt := 32) hx hb (by omega) dX0_firstIn_4 (by decide) (fun c1 => ?_) (fun c1 => ?_)
  · have hf := hf.trans (if_pos c1)
    refine lv_iconst (v := -1) hx hb dX0_firstIn_32 (by decide) ?_
    exact eI B hP hS ((congrArg (fun (u : Int32) => u) hf).symm) rfl dX0_firstIn_33
  · have hf := hf.trans (if_neg c1)
    refine lv_aload_n hx hb dX0_firstIn_7 rfl (lv_at hl 0 rfl) ?_
    refine g_X0_28 B hP 15 rfl rfl dX0_firstIn_8 ?_
    refine r_if_lt (tgt := 32) hx hb (by omega) dX0_firstIn_11 (by decide) ?_
    refine lv_aload_n hx hb dX0_firstIn_14 rfl (lv_at hl 0 rfl) ?_
    refine g_X0_28 B hP 15 rfl rfl dX0_firstIn_15 ?_
    refine lv_aload_n hx hb dX0_firstIn_18 rfl (lv_at hl 1 rfl) ?_
    refine va_alen (v := nI 200) hx hb hK hP 18 0 rfl rfl rfl dX0_firstIn_19 ?_
    refine r_icmp_ge (tgt := 32) hx hb (by omega) (by omega) dX0_firstIn_20 (by decide) (fun c => absurd c (by omega)) (fun _ => ?_)
    refine lv_aload_n hx hb dX0_firstIn_23 rfl (lv_at hl 1 rfl) ?_
    refine lv_aload_n hx hb dX0_firstIn_24 rfl (lv_at hl 0 rfl) ?_
    refine g_X0_28 B hP 15 rfl rfl dX0_firstIn_25 ?_
    refine r_iald hx hb hK hP 18 0 rfl rfl (by omega) (by decide) dX0_firstIn_28 ?_
    refine lv_goto (tgt := 33) hx hb dX0_firstIn_29 (by decide) ?_
    exact eI B hP hS ((congrArg (fun (u : Int32) => u) hf).symm) rfl dX0_firstIn_33
def f_X0_firstIn_qo (qo : Nat → Int32) (qfi : Nat) (qsz : Nat) : Int32 :=
  if qsz = 0 then -1 else qo qfi
set_option maxHeartbeats 4000000 in
set_option maxRecDepth 100000 in
theorem c_X0_firstIn_qo (l : Launch) (D : va_G) (cI cZ : ClassId) (ad : Nat → Nat) (rc rl rh fr fw fc fg ps pg pr pd qp qt qf qo ct lE lC : Nat → Int32) (cand : Int32) (lim : Int32) (now : Int32) (was : Int32) (sent : Nat) (qfi : Nat) (qsz : Nat) (hqfi : qfi ≤ 199) (hqsz : qsz ≤ 200) : MI l yX0_firstIn cX0_firstIn 2 .int { frames := 0, cells := 0, slots := 0, locals := 0 } D (TY cI cZ) [.ref (ad 15), .ref (ad 19)] (wC cI ad rc rl rh fr fw fc fg ps pg pr pd qp qt qf qo ct lE lC cand lim now was (nI sent) (nI qfi) (nI qsz)) (wC cI ad rc rl rh fr fw fc fg ps pg pr pd qp qt qf qo ct lE lC cand lim now was (nI sent) (nI qfi) (nI qsz)) (f_X0_firstIn_qo qo qfi qsz) := by
  refine MI.mk ⟨rfl, rfl⟩ (by decide +kernel) (Nat.le_of_ble_eq_true rfl) ?_
  intro p e s m below meth c A ls B hA hP hD hS hl
  have hx := B.1
  have hb := B.2.1
  have hts := B.2.2.2.2.2.1
  have hN := B.2.2.2.2.2.2.2.1
  have hK := B.2.2.2.2.2.2.2.2.1
  have hl : lv_has ls 2 [(0, .ref (ad 15)), (1, .ref (ad 19))] := hl
  have hf := f_X0_firstIn_qo.eq_1 qo qfi qsz
  refine lv_aload_n hx hb dX0_firstIn_0 rfl (lv_at hl 0 rfl) ?_
  refine g_X0_24 B hP 15 rfl rfl dX0_firstIn_1 ?_
  refine r_if_le (tgt := 32) hx hb (by omega) dX0_firstIn_4 (by decide) (fun c1 => ?_) (fun c1 => ?_)
  · have hf := hf.trans (if_pos c1)
    refine lv_iconst (v := -1) hx hb dX0_firstIn_32 (by decide) ?_
    exact eI B hP hS ((congrArg (fun (u : Int32) => u) hf).symm) rfl dX0_firstIn_33
  · have hf := hf.trans (if_neg c1)
    refine lv_aload_n hx hb dX0_firstIn_7 rfl (lv_at hl 0 rfl) ?_
    refine g_X0_28 B hP 15 rfl rfl dX0_firstIn_8 ?_
    refine r_if_lt (tgt := 32) hx hb (by omega) dX0_firstIn_11 (by decide) ?_
    refine lv_aload_n hx hb dX0_firstIn_14 rfl (lv_at hl 0 rfl) ?_
    refine g_X0_28 B hP 15 rfl rfl dX0_firstIn_15 ?_
    refine lv_aload_n hx hb dX0_firstIn_18 rfl (lv_at hl 1 rfl) ?_
    refine va_alen (v := nI 200) hx hb hK hP 19 0 rfl rfl rfl dX0_firstIn_19 ?_
    refine r_icmp_ge (tgt := 32) hx hb (by omega) (by omega) dX0_firstIn_20 (by decide) (fun c => absurd c (by omega)) (fun _ => ?_)
    refine lv_aload_n hx hb dX0_firstIn_23 rfl (lv_at hl 1 rfl) ?_
    refine lv_aload_n hx hb dX0_firstIn_24 rfl (lv_at hl 0 rfl) ?_
    refine g_X0_28 B hP 15 rfl rfl dX0_firstIn_25 ?_
    refine r_iald hx hb hK hP 19 0 rfl rfl (by omega) (by decide) dX0_firstIn_28 ?_
    refine lv_goto (tgt := 33) hx hb dX0_firstIn_29 (by decide) ?_
    exact eI B hP hS ((congrArg (fun (u : Int32) => u) hf).symm) rfl dX0_firstIn_33
set_option maxHeartbeats 4000000 in
set_option maxRecDepth 100000 in
theorem c_X0_firstPacket (l : Launch) (D : va_G) (cI cZ : ClassId) (ad : Nat → Nat) (rc rl rh fr fw fc fg ps pg pr pd qp qt qf qo ct lE lC : Nat → Int32) (cand : Int32) (lim : Int32) (now : Int32) (was : Int32) (sent : Nat) (qfi : Nat) (qsz : Nat) (hqfi : qfi ≤ 199) (hqsz : qsz ≤ 200) : MI l yX0_firstPacket cX0_firstPacket 1 .int { frames := 1, cells := 0, slots := 0, locals := 21 } D (TY cI cZ) [.ref (ad 15)] (wC cI ad rc rl rh fr fw fc fg ps pg pr pd qp qt qf qo ct lE lC cand lim now was (nI sent) (nI qfi) (nI qsz)) (wC cI ad rc rl rh fr fw fc fg ps pg pr pd qp qt qf qo ct lE lC cand lim now was (nI sent) (nI qfi) (nI qsz)) (f_X0_firstIn_qp qp qfi qsz) := by
  refine MI.mk ⟨rfl, rfl⟩ (by decide +kernel) (Nat.le_of_ble_eq_true rfl) ?_
  intro p e s m below meth c A ls B hA hP hD hS hl
  have hx := B.1
  have hb := B.2.1
  have hts := B.2.2.2.2.2.1
  have hN := B.2.2.2.2.2.2.2.1
  have hK := B.2.2.2.2.2.2.2.2.1
  have hl : lv_has ls 1 [(0, .ref (ad 15))] := hl
  refine lv_aload_n hx hb dX0_firstPacket_0 rfl (lv_at hl 0 rfl) ?_
  refine lv_aload_n hx hb dX0_firstPacket_1 rfl (lv_at hl 0 rfl) ?_
  refine g_X0_9 B hP 15 rfl rfl dX0_firstPacket_2 ?_
  refine fV_i (ci := 0) (as := [.ref (ad 16)]) (rest := []) B hl.1 (c_X0_firstIn_qp l D cI cZ ad rc rl rh fr fw fc fg ps pg pr pd qp qt qf qo ct lE lC cand lim now was sent qfi qsz (by omega) (by omega)) rfl (l_RX0_31 hts ⟨rfl, rfl⟩ ⟨Nat.le_of_ble_eq_true rfl, Nat.le_of_ble_eq_true rfl⟩) m_18_11 m_18_12 rfl rfl hP hD hS hA 15 rfl wfC (Nat.le_of_ble_eq_true rfl) dX0_firstPacket_5 (fun H locs hP hD hS => ?_)
  exact eI B hP hS rfl rfl dX0_firstPacket_8
set_option maxHeartbeats 4000000 in
set_option maxRecDepth 100000 in
theorem c_X0_firstTree (l : Launch) (D : va_G) (cI cZ : ClassId) (ad : Nat → Nat) (rc rl rh fr fw fc fg ps pg pr pd qp qt qf qo ct lE lC : Nat → Int32) (cand : Int32) (lim : Int32) (now : Int32) (was : Int32) (sent : Nat) (qfi : Nat) (qsz : Nat) (hqfi : qfi ≤ 199) (hqsz : qsz ≤ 200) : MI l yX0_firstTree cX0_firstTree 1 .int { frames := 1, cells := 0, slots := 0, locals := 21 } D (TY cI cZ) [.ref (ad 15)] (wC cI ad rc rl rh fr fw fc fg ps pg pr pd qp qt qf qo ct lE lC cand lim now was (nI sent) (nI qfi) (nI qsz)) (wC cI ad rc rl rh fr fw fc fg ps pg pr pd qp qt qf qo ct lE lC cand lim now was (nI sent) (nI qfi) (nI qsz)) (f_X0_firstIn_qt qt qfi qsz) := by
  refine MI.mk ⟨rfl, rfl⟩ (by decide +kernel) (Nat.le_of_ble_eq_true rfl) ?_
  intro p e s m below meth c A ls B hA hP hD hS hl
  have hx := B.1
  have hb := B.2.1
  have hts := B.2.2.2.2.2.1
  have hN := B.2.2.2.2.2.2.2.1
  have hK := B.2.2.2.2.2.2.2.2.1
  have hl : lv_has ls 1 [(0, .ref (ad 15))] := hl
  refine lv_aload_n hx hb dX0_firstTree_0 rfl (lv_at hl 0 rfl) ?_
  refine lv_aload_n hx hb dX0_firstTree_1 rfl (lv_at hl 0 rfl) ?_
  refine g_X0_15 B hP 15 rfl rfl dX0_firstTree_2 ?_
  refine fV_i (ci := 0) (as := [.ref (ad 17)]) (rest := []) B hl.1 (c_X0_firstIn_qt l D cI cZ ad rc rl rh fr fw fc fg ps pg pr pd qp qt qf qo ct lE lC cand lim now was sent qfi qsz (by omega) (by omega)) rfl (l_RX0_31 hts ⟨rfl, rfl⟩ ⟨Nat.le_of_ble_eq_true rfl, Nat.le_of_ble_eq_true rfl⟩) m_18_11 m_18_12 rfl rfl hP hD hS hA 15 rfl wfC (Nat.le_of_ble_eq_true rfl) dX0_firstTree_5 (fun H locs hP hD hS => ?_)
  exact eI B hP hS rfl rfl dX0_firstTree_8
set_option maxHeartbeats 4000000 in
set_option maxRecDepth 100000 in
theorem c_X0_firstFrom (l : Launch) (D : va_G) (cI cZ : ClassId) (ad : Nat → Nat) (rc rl rh fr fw fc fg ps pg pr pd qp qt qf qo ct lE lC : Nat → Int32) (cand : Int32) (lim : Int32) (now : Int32) (was : Int32) (sent : Nat) (qfi : Nat) (qsz : Nat) (hqfi : qfi ≤ 199) (hqsz : qsz ≤ 200) : MI l yX0_firstFrom cX0_firstFrom 1 .int { frames := 1, cells := 0, slots := 0, locals := 21 } D (TY cI cZ) [.ref (ad 15)] (wC cI ad rc rl rh fr fw fc fg ps pg pr pd qp qt qf qo ct lE lC cand lim now was (nI sent) (nI qfi) (nI qsz)) (wC cI ad rc rl rh fr fw fc fg ps pg pr pd qp qt qf qo ct lE lC cand lim now was (nI sent) (nI qfi) (nI qsz)) (f_X0_firstIn_qf qf qfi qsz) := by
  refine MI.mk ⟨rfl, rfl⟩ (by decide +kernel) (Nat.le_of_ble_eq_true rfl) ?_
  intro p e s m below meth c A ls B hA hP hD hS hl
  have hx := B.1
  have hb := B.2.1
  have hts := B.2.2.2.2.2.1
  have hN := B.2.2.2.2.2.2.2.1
  have hK := B.2.2.2.2.2.2.2.2.1
  have hl : lv_has ls 1 [(0, .ref (ad 15))] := hl
  refine lv_aload_n hx hb dX0_firstFrom_0 rfl (lv_at hl 0 rfl) ?_
  refine lv_aload_n hx hb dX0_firstFrom_1 rfl (lv_at hl 0 rfl) ?_
  refine g_X0_18 B hP 15 rfl rfl dX0_firstFrom_2 ?_
  refine fV_i (ci := 0) (as := [.ref (ad 18)]) (rest := []) B hl.1 (c_X0_firstIn_qf l D cI cZ ad rc rl rh fr fw fc fg ps pg pr pd qp qt qf qo ct lE lC cand lim now was sent qfi qsz (by omega) (by omega)) rfl (l_RX0_31 hts ⟨rfl, rfl⟩ ⟨Nat.le_of_ble_eq_true rfl, Nat.le_of_ble_eq_true rfl⟩) m_18_11 m_18_12 rfl rfl hP hD hS hA 15 rfl wfC (Nat.le_of_ble_eq_true rfl) dX0_firstFrom_5 (fun H locs hP hD hS => ?_)
  exact eI B hP hS rfl rfl dX0_firstFrom_8
set_option maxHeartbeats 4000000 in
set_option maxRecDepth 100000 in
theorem c_X0_firstTo (l : Launch) (D : va_G) (cI cZ : ClassId) (ad : Nat → Nat) (rc rl rh fr fw fc fg ps pg pr pd qp qt qf qo ct lE lC : Nat → Int32) (cand : Int32) (lim : Int32) (now : Int32) (was : Int32) (sent : Nat) (qfi : Nat) (qsz : Nat) (hqfi : qfi ≤ 199) (hqsz : qsz ≤ 200) : MI l yX0_firstTo cX0_firstTo 1 .int { frames := 1, cells := 0, slots := 0, locals := 21 } D (TY cI cZ) [.ref (ad 15)] (wC cI ad rc rl rh fr fw fc fg ps pg pr pd qp qt qf qo ct lE lC cand lim now was (nI sent) (nI qfi) (nI qsz)) (wC cI ad rc rl rh fr fw fc fg ps pg pr pd qp qt qf qo ct lE lC cand lim now was (nI sent) (nI qfi) (nI qsz)) (f_X0_firstIn_qo qo qfi qsz) := by
  refine MI.mk ⟨rfl, rfl⟩ (by decide +kernel) (Nat.le_of_ble_eq_true rfl) ?_
  intro p e s m below meth c A ls B hA hP hD hS hl
  have hx := B.1
  have hb := B.2.1
  have hts := B.2.2.2.2.2.1
  have hN := B.2.2.2.2.2.2.2.1
  have hK := B.2.2.2.2.2.2.2.2.1
  have hl : lv_has ls 1 [(0, .ref (ad 15))] := hl
  refine lv_aload_n hx hb dX0_firstTo_0 rfl (lv_at hl 0 rfl) ?_
  refine lv_aload_n hx hb dX0_firstTo_1 rfl (lv_at hl 0 rfl) ?_
  refine g_X0_21 B hP 15 rfl rfl dX0_firstTo_2 ?_
  refine fV_i (ci := 0) (as := [.ref (ad 19)]) (rest := []) B hl.1 (c_X0_firstIn_qo l D cI cZ ad rc rl rh fr fw fc fg ps pg pr pd qp qt qf qo ct lE lC cand lim now was sent qfi qsz (by omega) (by omega)) rfl (l_RX0_31 hts ⟨rfl, rfl⟩ ⟨Nat.le_of_ble_eq_true rfl, Nat.le_of_ble_eq_true rfl⟩) m_18_11 m_18_12 rfl rfl hP hD hS hA 15 rfl wfC (Nat.le_of_ble_eq_true rfl) dX0_firstTo_5 (fun H locs hP hD hS => ?_)
  exact eI B hP hS rfl rfl dX0_firstTo_8
