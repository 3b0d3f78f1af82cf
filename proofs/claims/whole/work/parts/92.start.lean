/-! the start: what the tables and the Statement give -/
theorem tz_u : Cond.laysStatic Bundle.tN "UNASSIGNED_STACK" Bundle.steD ∈ lw_tbl := List.mem_append_right _ (List.mem_append_right _ (List.mem_append_left _ (List.mem_of_getElem? (i := 165) rfl)))
theorem tz_s : Cond.laysStatic Bundle.tN "SUPPRESSED_SENTINEL" Bundle.listD ∈ lw_tbl := List.mem_append_right _ (List.mem_append_right _ (List.mem_append_left _ (List.mem_of_getElem? (i := 167) rfl)))
theorem tz_i : Cond.initialized Bundle.tN ∈ lw_tbl := List.mem_append_right _ (List.mem_append_left _ (List.mem_of_getElem? (i := 9) rfl))
theorem tz_t0 : Cond.stringRef RX5 54 "no such link or cost" ∈ lw_tbl := List.mem_append_right _ (List.mem_append_right _ (List.mem_append_left _ (List.mem_of_getElem? (i := 215) rfl)))
theorem tz_t1 : Cond.stringRef RX5 92 "no such limit" ∈ lw_tbl := List.mem_append_right _ (List.mem_append_right _ (List.mem_append_right _ (List.mem_append_left _ (List.mem_of_getElem? (i := 10) rfl))))
theorem tz_t2 : Cond.stringRef RX5 111 "a member already" ∈ lw_tbl := List.mem_append_right _ (List.mem_append_right _ (List.mem_append_right _ (List.mem_append_left _ (List.mem_of_getElem? (i := 54) rfl))))
theorem tz_t3 : Cond.stringRef RX5 126 "no member" ∈ lw_tbl := List.mem_append_right _ (List.mem_append_right _ (List.mem_append_right _ (List.mem_append_left _ (List.mem_of_getElem? (i := 74) rfl))))
theorem tz_t4 : Cond.stringRef RX5 154 "200 packets were sent" ∈ lw_tbl := List.mem_append_right _ (List.mem_append_right _ (List.mem_append_right _ (List.mem_append_left _ (List.mem_of_getElem? (i := 132) rfl))))
theorem tz_t5 : Cond.stringRef RX5 206 "no such number of seconds" ∈ lw_tbl := List.mem_append_right _ (List.mem_append_right _ (List.mem_append_right _ (List.mem_append_left _ (List.mem_of_getElem? (i := 169) rfl))))
theorem tz_t6 : Cond.stringRef RX5 249 "no such packet" ∈ lw_tbl := List.mem_append_right _ (List.mem_append_right _ (List.mem_append_right _ (List.mem_append_left _ (List.mem_of_getElem? (i := 150) rfl))))
theorem tz_t7 : Cond.stringRef RX5 255 "no such router" ∈ lw_tbl := List.mem_append_right _ (List.mem_append_right _ (List.mem_append_left _ (List.mem_of_getElem? (i := 179) rfl)))
theorem tz_t8 : Cond.stringRef RX5 260 "no such group" ∈ lw_tbl := List.mem_append_right _ (List.mem_append_right _ (List.mem_append_right _ (List.mem_append_left _ (List.mem_of_getElem? (i := 36) rfl))))
theorem tz_x0 : ∀ w ∈ XW "java/lang/IllegalArgumentException", w ∈ lw_tbl := (List.forall_mem_cons.mpr ⟨(List.mem_append_right _ (List.mem_append_right _ (List.mem_append_left _ (List.mem_of_getElem? (i := 142) rfl)))), (List.forall_mem_cons.mpr ⟨(List.mem_append_right _ (List.mem_append_right _ (List.mem_append_left _ (List.mem_of_getElem? (i := 144) rfl)))), (List.forall_mem_cons.mpr ⟨(List.mem_append_right _ (List.mem_append_right _ (List.mem_append_left _ (List.mem_of_getElem? (i := 146) rfl)))), (List.forall_mem_cons.mpr ⟨(List.mem_append_right _ (List.mem_append_right _ (List.mem_append_left _ (List.mem_of_getElem? (i := 208) rfl)))), (fun _ h => absurd h List.not_mem_nil)⟩)⟩)⟩)⟩)
theorem tz_x1 : ∀ w ∈ XW "java/lang/IndexOutOfBoundsException", w ∈ lw_tbl := (List.forall_mem_cons.mpr ⟨(List.mem_append_right _ (List.mem_append_right _ (List.mem_append_left _ (List.mem_of_getElem? (i := 142) rfl)))), (List.forall_mem_cons.mpr ⟨(List.mem_append_right _ (List.mem_append_right _ (List.mem_append_left _ (List.mem_of_getElem? (i := 144) rfl)))), (List.forall_mem_cons.mpr ⟨(List.mem_append_right _ (List.mem_append_right _ (List.mem_append_left _ (List.mem_of_getElem? (i := 146) rfl)))), (List.forall_mem_cons.mpr ⟨(List.mem_append_right _ (List.mem_append_right _ (List.mem_append_left _ (List.mem_of_getElem? (i := 140) rfl)))), (fun _ h => absurd h List.not_mem_nil)⟩)⟩)⟩)⟩)
theorem tz_x2 : ∀ w ∈ XW "java/lang/IllegalStateException", w ∈ lw_tbl := (List.forall_mem_cons.mpr ⟨(List.mem_append_right _ (List.mem_append_right _ (List.mem_append_left _ (List.mem_of_getElem? (i := 142) rfl)))), (List.forall_mem_cons.mpr ⟨(List.mem_append_right _ (List.mem_append_right _ (List.mem_append_left _ (List.mem_of_getElem? (i := 144) rfl)))), (List.forall_mem_cons.mpr ⟨(List.mem_append_right _ (List.mem_append_right _ (List.mem_append_left _ (List.mem_of_getElem? (i := 146) rfl)))), (List.forall_mem_cons.mpr ⟨(List.mem_append_right _ (List.mem_append_right _ (List.mem_append_right _ (List.mem_append_left _ (List.mem_of_getElem? (i := 47) rfl))))), (fun _ h => absurd h List.not_mem_nil)⟩)⟩)⟩)⟩)
theorem tz_n : ∀ w ∈ NWl, w ∈ lw_tbl := (List.forall_mem_cons.mpr ⟨(List.mem_append_right _ (List.mem_append_left _ (List.mem_of_getElem? (i := 78) rfl))), (List.forall_mem_cons.mpr ⟨(List.mem_append_right _ (List.mem_append_left _ (List.mem_of_getElem? (i := 91) rfl))), (List.forall_mem_cons.mpr ⟨(List.mem_append_right _ (List.mem_append_left _ (List.mem_of_getElem? (i := 109) rfl))), (List.forall_mem_cons.mpr ⟨(List.mem_append_right _ (List.mem_append_left _ (List.mem_of_getElem? (i := 131) rfl))), (List.forall_mem_cons.mpr ⟨(List.mem_append_right _ (List.mem_append_left _ (List.mem_of_getElem? (i := 156) rfl))), (List.forall_mem_cons.mpr ⟨(List.mem_append_right _ (List.mem_append_right _ (List.mem_append_left _ (List.mem_of_getElem? (i := 46) rfl)))), (List.forall_mem_cons.mpr ⟨(List.mem_append_right _ (List.mem_append_right _ (List.mem_append_left _ (List.mem_of_getElem? (i := 47) rfl)))), (List.forall_mem_cons.mpr ⟨(List.mem_append_right _ (List.mem_append_right _ (List.mem_append_left _ (List.mem_of_getElem? (i := 66) rfl)))), (List.forall_mem_cons.mpr ⟨(List.mem_append_right _ (List.mem_append_right _ (List.mem_append_left _ (List.mem_of_getElem? (i := 67) rfl)))), (List.forall_mem_cons.mpr ⟨(List.mem_append_right _ (List.mem_append_right _ (List.mem_append_left _ (List.mem_of_getElem? (i := 76) rfl)))), (List.forall_mem_cons.mpr ⟨(List.mem_append_right _ (List.mem_append_right _ (List.mem_append_left _ (List.mem_of_getElem? (i := 77) rfl)))), (List.forall_mem_cons.mpr ⟨(List.mem_append_right _ (List.mem_append_right _ (List.mem_append_left _ (List.mem_of_getElem? (i := 230) rfl)))), (fun _ h => absurd h List.not_mem_nil)⟩)⟩)⟩)⟩)⟩)⟩)⟩)⟩)⟩)⟩)⟩)⟩)
theorem tz_no : NWl.all Cond.onTables = true := by decide +kernel
theorem arr_K {s : State} {args : Array Value} {ty : FieldType} (h : (Cond.arrayClass ty).before args s = true) : ∃ cA, ArrOfT s cA ty ∧ s.vm.findClass ("[" ++ ty.toString) = some cA := by
  obtain ⟨cA, kA, comp, h1, h2, h3⟩ := Cond.arrayClass_spec h
  exact ⟨cA, fun n z => ⟨fun k h => (by cases h), kA, h2, comp, h3⟩, h1⟩
theorem st_K {s : State} {args : Array Value} (hW : ∀ w ∈ wsL_law, w.before args s = true) : ∃ (D : va_G) (cI cZ cJ : ClassId), va_K D vwCl (TYH cI cZ cJ) s := by
  obtain ⟨c0, i0, h0⟩ := u_known (C := RX0) (T := TX0) (N := 6) (n := 6) hW inlX0 (hW _ m_2_2)
  obtain ⟨c1, i1, h1⟩ := u_known (C := RX1) (T := TX1) (N := 1) (n := 1) hW inlX1 (hW _ m_2_6)
  obtain ⟨c2, i2, h2⟩ := u_known (C := RX2) (T := TX2) (N := 4) (n := 4) hW inlX2 (hW _ m_1_18)
  obtain ⟨c3, i3, h3⟩ := u_known (C := RX3) (T := TX3) (N := 5) (n := 5) hW inlX3 (hW _ m_1_22)
  obtain ⟨c4, i4, h4⟩ := u_known (C := RX4) (T := TX4) (N := 3) (n := 3) hW inlX4 (hW _ m_1_14)
  obtain ⟨c5, i5, h5⟩ := u_known (C := RX5) (T := TX5) (N := 9) (n := 9) hW inlX5 (hW _ m_1_1)
  obtain ⟨c6, i6, h6⟩ := u_known (C := RX6) (T := TX6) (N := 19) (n := 19) hW inlX6 (hW _ m_1_4)
  obtain ⟨cI, hI, hI2⟩ := arr_K (ty := .int) (hW _ m_2_14)
  obtain ⟨cZ, hZ, hZ2⟩ := arr_K (ty := .boolean) (hW _ m_6_1)
  obtain ⟨cJ, hJ, hJ2⟩ := arr_K (ty := .long) (hW _ m_1_6)
  refine ⟨(fun k => match k with | 0 => c0 | 1 => c1 | 2 => c2 | 3 => c3 | 4 => c4 | 5 => c5 | _ => c6, fun k => match k with | 0 => i0 | 1 => i1 | 2 => i2 | 3 => i3 | 4 => i4 | 5 => i5 | _ => i6), cI, cZ, cJ, ?_, ?_⟩
  · intro k q hq
    match k, hq with
    | 0, hq => cases hq; exact h0
    | 1, hq => cases hq; exact h1
    | 2, hq => cases hq; exact h2
    | 3, hq => cases hq; exact h3
    | 4, hq => cases hq; exact h4
    | 5, hq => cases hq; exact h5
    | 6, hq => cases hq; exact h6
    | k + 7, hq => simp [vwCl] at hq
  · intro k q hq
    match k, hq with
    | 0, hq => cases hq; exact ⟨hI, hI2⟩
    | 1, hq => cases hq; exact ⟨hZ, hZ2⟩
    | 2, hq => cases hq; exact ⟨hJ, hJ2⟩
    | k + 3, hq => simp [TYH, TY] at hq
theorem st_N {s : State} {args : Array Value} (hts : ∀ w ∈ lw_tbl, w.before args s = true) : NW s := fun w hw => va_Nw.of (List.all_eq_true.mp tz_no w hw) (hts w (tz_n w hw))
theorem st_R {s : State} {args : Array Value} {k : Nat} {tx : String} (h1 : (Cond.stringRef RX5 k tx).before args s = true) (h2 : (Cond.exactly (.string RX5 k) "java/lang/String").before args s = true) : ∃ sa, vk_R RX5 k tx sa s := by
  obtain ⟨a, c, cA, kA, q1, -⟩ := Cond.exactly_spec h2
  exact ⟨a, vk_R.of h1 q1⟩
set_option maxRecDepth 100000 in
theorem st_XQ {s : State} {args : Array Value} (hts : ∀ w ∈ lw_tbl, w.before args s = true) (hgv : (Jvm.Cond.and given_1 narrow_1).before args s = true) : XQ (fun q => s.heap.size ≤ q) s s.heap ∧ XNc s := by
  have hs := flat_of_before _ hgv
  have hA : ∀ a : Nat, a < s.heap.size → ¬ (fun q : Nat => s.heap.size ≤ q) a := fun a h => Nat.not_le.mpr h
  refine ⟨⟨vx_Zqof (hts _ tz_u) (hts _ tz_i) (hs (Cond.isRef (.static "java/lang/Throwable" "UNASSIGNED_STACK" "[Ljava/lang/StackTraceElement;")) (by decide +kernel)) hA, vx_Zqof (hts _ tz_s) (hts _ tz_i) (hs (Cond.isRef (.static "java/lang/Throwable" "SUPPRESSED_SENTINEL" "Ljava/util/List;")) (by decide +kernel)) hA, ?_, ?_⟩, ?_⟩
  · exact (List.forall_mem_cons.mpr ⟨(st_R (hts _ tz_t0) (hs (Cond.exactly (.string "Multidell" 54) "java/lang/String") (by decide +kernel))), (List.forall_mem_cons.mpr ⟨(st_R (hts _ tz_t1) (hs (Cond.exactly (.string "Multidell" 92) "java/lang/String") (by decide +kernel))), (List.forall_mem_cons.mpr ⟨(st_R (hts _ tz_t2) (hs (Cond.exactly (.string "Multidell" 111) "java/lang/String") (by decide +kernel))), (List.forall_mem_cons.mpr ⟨(st_R (hts _ tz_t3) (hs (Cond.exactly (.string "Multidell" 126) "java/lang/String") (by decide +kernel))), (List.forall_mem_cons.mpr ⟨(st_R (hts _ tz_t4) (hs (Cond.exactly (.string "Multidell" 154) "java/lang/String") (by decide +kernel))), (List.forall_mem_cons.mpr ⟨(st_R (hts _ tz_t5) (hs (Cond.exactly (.string "Multidell" 206) "java/lang/String") (by decide +kernel))), (List.forall_mem_cons.mpr ⟨(st_R (hts _ tz_t6) (hs (Cond.exactly (.string "Multidell" 249) "java/lang/String") (by decide +kernel))), (List.forall_mem_cons.mpr ⟨(st_R (hts _ tz_t7) (hs (Cond.exactly (.string "Multidell" 255) "java/lang/String") (by decide +kernel))), (List.forall_mem_cons.mpr ⟨(st_R (hts _ tz_t8) (hs (Cond.exactly (.string "Multidell" 260) "java/lang/String") (by decide +kernel))), (fun _ h => absurd h List.not_mem_nil)⟩)⟩)⟩)⟩)⟩)⟩)⟩)⟩)⟩)
  · exact (List.forall_mem_cons.mpr ⟨(XW_same rfl (fun w hw => hts w (tz_x0 w hw))), (List.forall_mem_cons.mpr ⟨(XW_same rfl (fun w hw => hts w (tz_x1 w hw))), (List.forall_mem_cons.mpr ⟨(XW_same rfl (fun w hw => hts w (tz_x2 w hw))), (fun _ h => absurd h List.not_mem_nil)⟩)⟩)⟩)
  · exact (List.forall_mem_cons.mpr ⟨(va_Nc.of (hs (Cond.not (.castable "java/lang/IllegalArgumentException" "java/lang/IndexOutOfBoundsException")) (by decide +kernel))), (List.forall_mem_cons.mpr ⟨(va_Nc.of (hs (Cond.not (.castable "java/lang/IllegalStateException" "java/lang/IndexOutOfBoundsException")) (by decide +kernel))), (fun _ h => absurd h List.not_mem_nil)⟩)⟩)
