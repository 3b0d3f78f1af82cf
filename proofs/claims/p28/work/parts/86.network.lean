/-! one network -/
theorem WI_fst {k : Nat} {cI : ClassId} {ad : Nat → Nat} {w : va_W} (h : WI k cI ad w) : w.map Prod.fst = (List.range 24).map ad := by
  obtain ⟨rc, rl, rh, fr, fw, fc, fg, ps, pg, pr, pd, qp, qt, qf, qo, ct, lE, lC, cand, lim, now, was, sent, qfi, qsz, rfl, -⟩ := h
  rfl
def rmN : Room := { frames := 10, cells := 24, slots := 3347, locals := 270 }
/-- what holds while the law's network runs -/
def NC (p : Program) (s : State) (m : MethodId) (meth : Method) (c : Code) (D : va_G) (cI cZ : ClassId) (sb L f : Nat) (xs : Nat → Int32) : Prop :=
  Bd p s m meth c cL_network 9 (some .boolean) RL D (TY cI cZ) [.ref sb, .int (nI f)] ∧ va_X sb L xs s s.heap ∧ sb < s.heap.size ∧ L ≤ 260 ∧ f ≤ 1000
section N1
variable {p : Program} {l : Launch} {e : Env} {s : State} {m : MethodId} {below : List Frame} {meth : Method} {c : Code} {H : Heap} {locs : List Loc} {D : va_G} {cI cZ : ClassId} {sb L f : Nat} {xs : Nat → Int32} {ad : Nat → Nat} {ls : Array Slot} {w : va_W} {j : Nat}
variable {Q : State → Prop}
/-- a draw: the place is on the stack -/
theorem n_draw (C : NC p s m meth c D cI cZ sb L f xs) (hls : ls.size = 9) {pc a M : Nat} (ha : a < 2000) (h0 : 0 < M) (hM : M < 2147483648) (hP : va_P D vwCl w H) (hS : va_S (fun q => s.heap.size ≤ q) s.heap H locs) (d : decode cL_network pc = .ok (.invokestatic 138, 3))
    (kk : ∀ (x : Nat) (H : Heap) (locs : List Loc), x < M → va_P D vwCl w H → va_S (fun q => s.heap.size ≤ q) s.heap H locs → W p l e rmN s m [Value.ref sb, .int (nI f)].toArray below meth c H locs 24 3347 Q (F0 m (pc + 3) ls [.int (nI x)])) :
    W p l e rmN s m [Value.ref sb, .int (nI f)].toArray below meth c H locs 24 3347 Q (F0 m pc ls [.int (nI M), .int (nI a), .ref sb]) := by
  obtain ⟨B, hX, hbl, hL, hf⟩ := C
  refine kX (as := [.ref sb, .int (nI a), .int (nI M)]) (rest := []) B hls (c_L_draw l D cI cZ sb L xs a M ha hL h0 hM) (x_cbm ⟨rfl, rfl⟩ 3 B.2.2.2.2.2.1 m_5_21 m_1_2 m_5_19 (by decide +kernel) ⟨Nat.le_of_ble_eq_true rfl, Nat.le_of_ble_eq_true rfl⟩) m_5_20 rfl rfl hX hbl (Nat.not_le.mpr hbl) hP hS (fun _ h => h) (Nat.le_of_ble_eq_true rfl) ⟨Nat.le_of_ble_eq_true rfl, Nat.le_of_ble_eq_true rfl⟩ d (fun r H locs hr hP hS => ?_)
  obtain ⟨x, hx, rfl⟩ := hr
  exact kk x H locs hx hP hS
set_option maxHeartbeats 4000000 in
/-- behind a step: what the law reads -/
theorem n_reads (C : NC p s m meth c D cI cZ sb L f xs) {k : Nat} (hW : WI k cI ad w) (hP : va_P D vwCl w H) (hD : va_D (fun q => s.heap.size ≤ q) w) (hS : va_S (fun q => s.heap.size ≤ q) s.heap H locs) {x y wh : Nat} (hxx : x < 1073741824) (hyy : y < 1073741824) (hl : lv_has ls 9 [(8, .int (nI wh)), (7, .int (nI y)), (6, .int (nI x)), (0, .ref sb), (1, .int (nI f)), (2, .ref (ad 0)), (3, .ref (ad 22)), (4, .ref (ad 23)), (5, .int (nI j))])
    (kk : ∀ (H : Heap) (locs : List Loc), va_P D vwCl w H → va_D (fun q => s.heap.size ≤ q) w → va_S (fun q => s.heap.size ≤ q) s.heap H locs → W p l e rmN s m [Value.ref sb, .int (nI f)].toArray below meth c H locs 24 3347 Q (F0 m 199 ls [])) :
    W p l e rmN s m [Value.ref sb, .int (nI f)].toArray below meth c H locs 24 3347 Q (F0 m 142 ls []) := by
  obtain ⟨B, hX, hbl, hL, hf⟩ := id C
  have hx := B.1
  have hb := B.2.1
  have hts := B.2.2.2.2.2.1
  refine lv_aload_n hx hb dL_network_142 rfl (lv_at hl 5 rfl) ?_
  refine lv_aload_n hx hb dL_network_143 rfl (lv_at hl 6 rfl) ?_
  refine lv_iload hx hb dL_network_144 (lv_at hl 2 rfl) ?_
  refine lv_bipush (v := nI 7) hx hb dL_network_146 (by decide) ?_
  refine r_idiv hx hb (by omega) (by omega) (by omega) dL_network_148 ?_
  refine lv_bipush (v := nI 10) hx hb dL_network_149 (by decide) ?_
  refine r_irem hx hb (by omega) (by omega) (by omega) dL_network_151 ?_
  refine fS_g (as := [.ref (ad 0), .ref (ad 22), .int (nI (x / 7 % 10))]) (rest := []) B hl.1 (WI_areRoutes l D cI cZ ad hW (x / 7 % 10) (by omega)) (l_RL_145 hts ⟨rfl, rfl⟩ ⟨Nat.le_of_ble_eq_true rfl, Nat.le_of_ble_eq_true rfl⟩) m_20_9 rfl rfl hP hD hS (fun _ h => h) rfl (Nat.le_of_ble_eq_true rfl) ⟨Nat.le_of_ble_eq_true rfl, Nat.le_of_ble_eq_true rfl⟩ dL_network_152 (fun H locs hP hD hS => ?_)
  refine r_if_eq_b (tgt := 197) hx hb dL_network_155 (by decide) (fun h => absurd rfl h) (fun _ => ?_)
  refine lv_aload_n hx hb dL_network_158 rfl (lv_at hl 5 rfl) ?_
  refine fS_g (as := [.ref (ad 0)]) (rest := []) B hl.1 (WI_areTrees l D cI cZ ad hW) (l_RL_149 hts ⟨rfl, rfl⟩ ⟨Nat.le_of_ble_eq_true rfl, Nat.le_of_ble_eq_true rfl⟩) m_20_19 rfl rfl hP hD hS (fun _ h => h) rfl (Nat.le_of_ble_eq_true rfl) ⟨Nat.le_of_ble_eq_true rfl, Nat.le_of_ble_eq_true rfl⟩ dL_network_159 (fun H locs hP hD hS => ?_)
  refine r_if_eq_b (tgt := 197) hx hb dL_network_162 (by decide) (fun h => absurd rfl h) (fun _ => ?_)
  refine lv_aload_n hx hb dL_network_165 rfl (lv_at hl 5 rfl) ?_
  refine lv_aload hx hb dL_network_166 (lv_at hl 7 rfl) ?_
  refine fS_g (as := [.ref (ad 0), .ref (ad 23)]) (rest := []) B hl.1 (WI_areMembers l D cI cZ ad hW) (l_RL_153 hts ⟨rfl, rfl⟩ ⟨Nat.le_of_ble_eq_true rfl, Nat.le_of_ble_eq_true rfl⟩) m_21_12 rfl rfl hP hD hS (fun _ h => h) rfl (Nat.le_of_ble_eq_true rfl) ⟨Nat.le_of_ble_eq_true rfl, Nat.le_of_ble_eq_true rfl⟩ dL_network_168 (fun H locs hP hD hS => ?_)
  refine r_if_eq_b (tgt := 197) hx hb dL_network_171 (by decide) (fun h => absurd rfl h) (fun _ => ?_)
  refine lv_aload_n hx hb dL_network_174 rfl (lv_at hl 5 rfl) ?_
  refine lv_aload_n hx hb dL_network_175 rfl (lv_at hl 6 rfl) ?_
  refine lv_iload hx hb dL_network_176 (lv_at hl 1 rfl) ?_
  refine lv_bipush (v := nI 7) hx hb dL_network_178 (by decide) ?_
  refine r_idiv hx hb (by omega) (by omega) (by omega) dL_network_180 ?_
  refine lv_bipush (v := nI 10) hx hb dL_network_181 (by decide) ?_
  refine r_irem hx hb (by omega) (by omega) (by omega) dL_network_183 ?_
  refine lv_iload hx hb dL_network_184 (lv_at hl 2 rfl) ?_
  refine lv_bipush (v := nI 70) hx hb dL_network_186 (by decide) ?_
  refine r_idiv hx hb (by omega) (by omega) (by omega) dL_network_188 ?_
  refine lv_iconst (v := nI 4) hx hb dL_network_189 (by decide) ?_
  refine r_irem hx hb (by omega) (by omega) (by omega) dL_network_190 ?_
  refine fS_g (as := [.ref (ad 0), .ref (ad 22), .int (nI (y / 7 % 10)), .int (nI (x / 70 % 4))]) (rest := []) B hl.1 (WI_floods l D cI cZ ad hW (y / 7 % 10) (x / 70 % 4) (by omega) (by omega)) (l_RL_157 hts ⟨rfl, rfl⟩ ⟨Nat.le_of_ble_eq_true rfl, Nat.le_of_ble_eq_true rfl⟩) m_21_18 rfl rfl hP hD hS (fun _ h => h) rfl (Nat.le_of_ble_eq_true rfl) ⟨Nat.le_of_ble_eq_true rfl, Nat.le_of_ble_eq_true rfl⟩ dL_network_191 (fun H locs hP hD hS => ?_)
  exact r_if_ne_b (tgt := 199) hx hb dL_network_194 (by decide) (fun _ => kk H locs hP hD hS) (fun h => absurd rfl h)
set_option maxHeartbeats 4000000 in
/-- a step, and what the law reads behind it -/
theorem n_step (C : NC p s m meth c D cI cZ sb L f xs) {k : Nat} (hW : WI k cI ad w) (hP : va_P D vwCl w H) (hD : va_D (fun q => s.heap.size ≤ q) w) (hS : va_S (fun q => s.heap.size ≤ q) s.heap H locs) (hk : k ≤ 100) {x y z wh : Nat} (hwh : wh < 13) (hxx : x < 1073741824) (hyy : y < 1073741824) (hzz : z < 1073741824) (hl : lv_has ls 9 [(8, .int (nI wh)), (7, .int (nI y)), (6, .int (nI x)), (0, .ref sb), (1, .int (nI f)), (2, .ref (ad 0)), (3, .ref (ad 22)), (4, .ref (ad 23)), (5, .int (nI j))])
    (kk : ∀ (w : va_W) (H : Heap) (locs : List Loc), WI (k + 1) cI ad w → va_P D vwCl w H → va_D (fun q => s.heap.size ≤ q) w → va_S (fun q => s.heap.size ≤ q) s.heap H locs → W p l e rmN s m [Value.ref sb, .int (nI f)].toArray below meth c H locs 24 3347 Q (F0 m 199 ls [])) :
    W p l e rmN s m [Value.ref sb, .int (nI f)].toArray below meth c H locs 24 3347 Q (F0 m 133 ls [.int (nI z), .int (nI x), .int (nI wh), .ref (ad 0)]) := by
  obtain ⟨B, hX, hbl, hL, hf⟩ := id C
  have hx := B.1
  have hb := B.2.1
  have hts := B.2.2.2.2.2.1
  refine lv_aload_n hx hb dL_network_133 rfl (lv_at hl 6 rfl) ?_
  refine lv_aload hx hb dL_network_134 (lv_at hl 7 rfl) ?_
  obtain ⟨rm, w', hrm, hW', hM⟩ := WI_step l D cI cZ ad hW hk wh x z hwh hxx hzz
  refine fS_g (as := [.ref (ad 0), .int (nI wh), .int (nI x), .int (nI z), .ref (ad 22), .ref (ad 23)]) (rest := []) B hl.1 hM (l_RL_141 hts hrm.1 ?_) m_6_2 rfl rfl hP hD hS (fun _ h => h) ((WI_fst hW').trans (WI_fst hW).symm) (Nat.le_of_ble_eq_true rfl) ⟨Nat.le_of_ble_eq_true rfl, Nat.le_of_ble_eq_true rfl⟩ dL_network_136 (fun H locs hP hD hS => ?_)
  · have h1 := hrm.2
    show rm.frames + 1 ≤ 10 ∧ 8 + (10 + 11) + rm.locals ≤ 270
    omega
  refine r_if_eq_b (tgt := 197) hx hb dL_network_139 (by decide) (fun h => absurd rfl h) (fun _ => ?_)
  exact n_reads C hW' hP hD hS hxx hyy hl (fun H locs hP hD hS => kk w' H locs hW' hP hD hS)
set_option maxHeartbeats 4000000 in
/-- a round of the network's loop -/
theorem n_round (C : NC p s m meth c D cI cZ sb L f xs) (hW : WI j cI ad w) (hP : va_P D vwCl w H) (hD : va_D (fun q => s.heap.size ≤ q) w) (hS : va_S (fun q => s.heap.size ≤ q) s.heap H locs) (hj : j < 56) (hl : lv_has ls 9 [(0, .ref sb), (1, .int (nI f)), (2, .ref (ad 0)), (3, .ref (ad 22)), (4, .ref (ad 23)), (5, .int (nI j))])
    (kk : ∀ (w : va_W) (H : Heap) (locs : List Loc) (ls : Array Slot), WI (j + 1) cI ad w → va_P D vwCl w H → va_D (fun q => s.heap.size ≤ q) w → va_S (fun q => s.heap.size ≤ q) s.heap H locs → lv_has ls 9 [(0, .ref sb), (1, .int (nI f)), (2, .ref (ad 0)), (3, .ref (ad 22)), (4, .ref (ad 23)), (5, .int (nI (j + 1)))] → W p l e rmN s m [Value.ref sb, .int (nI f)].toArray below meth c H locs 24 3347 Q (F0 m 22 ls [])) :
    W p l e rmN s m [Value.ref sb, .int (nI f)].toArray below meth c H locs 24 3347 Q (F0 m 29 ls []) := by
  obtain ⟨B, hX, hbl, hL, hf⟩ := id C
  have hx := B.1
  have hb := B.2.1
  have hts := B.2.2.2.2.2.1
  refine lv_aload_n hx hb dL_network_29 rfl (lv_at hl 0 rfl) ?_
  refine lv_iload_n hx hb dL_network_30 rfl (lv_at hl 1 rfl) ?_
  refine lv_iconst (v := nI 3) hx hb dL_network_31 (by decide) ?_
  refine lv_iload hx hb dL_network_32 (lv_at hl 5 rfl) ?_
  refine r_imul hx hb dL_network_34 ?_
  refine r_iadd hx hb dL_network_35 ?_
  refine lv_iconst (v := nI 1) hx hb dL_network_36 (by decide) ?_
  refine r_iadd hx hb dL_network_37 ?_
  refine lv_ldc (v := nI 1073741824) hx hb B.2.2.2.2.1 (hts _ m_1_8) dL_network_38 ?_
  refine n_draw (a := f + 3 * j + 1) (M := 1073741824) C hl.1 (by omega) (by omega) (by omega) hP hS dL_network_40 (fun x H locs hxx hP hS => ?_)
  refine lv_istore (lv' := [(6, .int (nI x)), (0, .ref sb), (1, .int (nI f)), (2, .ref (ad 0)), (3, .ref (ad 22)), (4, .ref (ad 23)), (5, .int (nI j))]) hx hb dL_network_43 hl (by decide) rfl (fun ls hl => ?_)
  refine lv_aload_n hx hb dL_network_45 rfl (lv_at hl 1 rfl) ?_
  refine lv_iload_n hx hb dL_network_46 rfl (lv_at hl 2 rfl) ?_
  refine lv_iconst (v := nI 3) hx hb dL_network_47 (by decide) ?_
  refine lv_iload hx hb dL_network_48 (lv_at hl 6 rfl) ?_
  refine r_imul hx hb dL_network_50 ?_
  refine r_iadd hx hb dL_network_51 ?_
  refine lv_iconst (v := nI 2) hx hb dL_network_52 (by decide) ?_
  refine r_iadd hx hb dL_network_53 ?_
  refine lv_ldc (v := nI 1073741824) hx hb B.2.2.2.2.1 (hts _ m_1_8) dL_network_54 ?_
  refine n_draw (a := f + 3 * j + 2) (M := 1073741824) C hl.1 (by omega) (by omega) (by omega) hP hS dL_network_56 (fun y H locs hyy hP hS => ?_)
  refine lv_istore (lv' := [(7, .int (nI y)), (6, .int (nI x)), (0, .ref sb), (1, .int (nI f)), (2, .ref (ad 0)), (3, .ref (ad 22)), (4, .ref (ad 23)), (5, .int (nI j))]) hx hb dL_network_59 hl (by decide) rfl (fun ls hl => ?_)
  have key : ∀ (wh : Nat) (H : Heap) (locs : List Loc), wh < 13 → va_P D vwCl w H → va_S (fun q => s.heap.size ≤ q) s.heap H locs → W p l e rmN s m [Value.ref sb, .int (nI f)].toArray below meth c H locs 24 3347 Q (F0 m 106 ls [.int (nI wh)]) := by
    intro wh H locs hwh hP hS
    refine lv_istore (lv' := [(8, .int (nI wh)), (7, .int (nI y)), (6, .int (nI x)), (0, .ref sb), (1, .int (nI f)), (2, .ref (ad 0)), (3, .ref (ad 22)), (4, .ref (ad 23)), (5, .int (nI j))]) hx hb dL_network_106 hl (by decide) rfl (fun ls hl => ?_)
    refine lv_aload_n hx hb dL_network_108 rfl (lv_at hl 5 rfl) ?_
    refine lv_iload hx hb dL_network_109 (lv_at hl 0 rfl) ?_
    refine lv_iload hx hb dL_network_111 (lv_at hl 2 rfl) ?_
    refine lv_iload hx hb dL_network_113 (lv_at hl 8 rfl) ?_
    refine lv_bipush (v := nI 16) hx hb dL_network_115 (by decide) ?_
    have key2 : ∀ z : Nat, z < 1073741824 → W p l e rmN s m [Value.ref sb, .int (nI f)].toArray below meth c H locs 24 3347 Q (F0 m 133 ls [.int (nI z), .int (nI x), .int (nI wh), .ref (ad 0)]) := by
      intro z hz
      refine n_step C hW hP hD hS (by omega) hwh hxx hyy hz hl (fun w H locs hW hP hD hS => ?_)
      refine lv_iinc (v := nI (j + 1)) (lv' := [(5, .int (nI (j + 1))), (8, .int (nI wh)), (7, .int (nI y)), (6, .int (nI x)), (0, .ref sb), (1, .int (nI f)), (2, .ref (ad 0)), (3, .ref (ad 22)), (4, .ref (ad 23))]) hx hb dL_network_199 hl (k := 8) rfl (nI_add _ _) (by decide) rfl (fun ls hl => ?_)
      refine lv_goto (tgt := 22) hx hb dL_network_202 (by decide) ?_
      exact kk w H locs ls hW hP hD hS (lv_sub hl [4, 5, 6, 7, 8, 0] rfl)
    refine r_icmp_ge (tgt := 131) hx hb (by omega) (by omega) dL_network_117 (by decide) (fun _ => ?_) (fun _ => ?_)
    · refine lv_iload hx hb dL_network_131 (lv_at hl 1 rfl) ?_
      exact key2 y hyy
    · refine lv_iload hx hb dL_network_120 (lv_at hl 1 rfl) ?_
      refine lv_iconst (v := nI 4) hx hb dL_network_122 (by decide) ?_
      refine r_idiv hx hb (by omega) (by omega) (by omega) dL_network_123 ?_
      refine lv_iconst (v := nI 4) hx hb dL_network_124 (by decide) ?_
      refine r_imul hx hb dL_network_125 ?_
      refine lv_iconst (v := nI 1) hx hb dL_network_126 (by decide) ?_
      refine r_iadd hx hb dL_network_127 ?_
      refine lv_goto (tgt := 133) hx hb dL_network_128 (by decide) ?_
      exact key2 (y / 4 * 4 + 1) (by omega)
  refine lv_iload hx hb dL_network_61 (lv_at hl 7 rfl) ?_
  refine lv_bipush (v := nI 14) hx hb dL_network_63 (by decide) ?_
  refine r_icmp_ge (tgt := 72) hx hb (by omega) (by omega) dL_network_65 (by decide) (fun _ => ?_) (fun _ => ?_)
  · refine lv_iload hx hb dL_network_72 (lv_at hl 7 rfl) ?_
    refine lv_bipush (v := nI 16) hx hb dL_network_74 (by decide) ?_
    refine r_icmp_ge (tgt := 83) hx hb (by omega) (by omega) dL_network_76 (by decide) (fun _ => ?_) (fun _ => ?_)
    · refine lv_iload hx hb dL_network_83 (lv_at hl 7 rfl) ?_
      refine lv_bipush (v := nI 21) hx hb dL_network_85 (by decide) ?_
      refine r_icmp_ge (tgt := 94) hx hb (by omega) (by omega) dL_network_87 (by decide) (fun _ => ?_) (fun _ => ?_)
      · refine lv_aload_n hx hb dL_network_94 rfl (lv_at hl 2 rfl) ?_
        refine lv_iload_n hx hb dL_network_95 rfl (lv_at hl 3 rfl) ?_
        refine lv_iconst (v := nI 3) hx hb dL_network_96 (by decide) ?_
        refine lv_iload hx hb dL_network_97 (lv_at hl 7 rfl) ?_
        refine r_imul hx hb dL_network_99 ?_
        refine r_iadd hx hb dL_network_100 ?_
        refine lv_bipush (v := nI 13) hx hb dL_network_101 (by decide) ?_
        refine n_draw (a := f + 3 * j) (M := 13) C hl.1 (by omega) (by omega) (by omega) hP hS dL_network_103 (fun wh H locs hwh hP hS => ?_)
        exact key wh H locs hwh hP hS
      · refine lv_iconst (v := nI 3) hx hb dL_network_90 (by decide) ?_
        refine lv_goto (tgt := 106) hx hb dL_network_91 (by decide) ?_
        exact key 3 H locs (by omega) hP hS
    · refine lv_iconst (v := nI 2) hx hb dL_network_79 (by decide) ?_
      refine lv_goto (tgt := 106) hx hb dL_network_80 (by decide) ?_
      exact key 2 H locs (by omega) hP hS
  · refine lv_iconst (v := nI 0) hx hb dL_network_68 (by decide) ?_
    refine lv_goto (tgt := 106) hx hb dL_network_69 (by decide) ?_
    exact key 0 H locs (by omega) hP hS
set_option maxHeartbeats 4000000 in
/-- the network's loop -/
theorem n_loop (C : NC p s m meth c D cI cZ sb L f xs) : ∀ (n j : Nat) (w : va_W) (H : Heap) (locs : List Loc) (ls : Array Slot), j + n = 56 → WI j cI ad w → va_P D vwCl w H → va_D (fun q => s.heap.size ≤ q) w → va_S (fun q => s.heap.size ≤ q) s.heap H locs → lv_has ls 9 [(0, .ref sb), (1, .int (nI f)), (2, .ref (ad 0)), (3, .ref (ad 22)), (4, .ref (ad 23)), (5, .int (nI j))] →
    W p l e rmN s m [Value.ref sb, .int (nI f)].toArray below meth c H locs 24 3347 (MQ below (va_Qi (fun (r : Int32) (_ : Unit) => r = nI 1) (fun _ _ => True) (fun q => s.heap.size ≤ q)) [Value.ref sb, .int (nI f)].toArray s 24 3347 (fun q => s.heap.size ≤ q)) (F0 m 22 ls []) := by
  have hx := C.1.1
  have hb := C.1.2.1
  have B := C.1
  intro n
  induction n with
  | zero =>
    intro j w H locs ls hj hW hP hD hS hl
    refine lv_iload hx hb dL_network_22 (lv_at hl 5 rfl) ?_
    refine lv_bipush (v := nI 56) hx hb dL_network_24 (by decide) ?_
    refine r_icmp_ge (tgt := 205) hx hb (by omega) (by omega) dL_network_26 (by decide) (fun _ => ?_) (fun h => absurd (show 56 ≤ j by omega) h)
    refine lv_iconst (v := nI 1) hx hb dL_network_205 (by decide) ?_
    exact W.zret (v := nI 1) hx hb B.2.2.1 (by decide) (fun t ht hW => ⟨⟨_, (), rfl, rfl, trivial⟩, hS.F ht⟩) hS.2.2 dL_network_206 B.2.2.2.2.2.2.1
  | succ n ih =>
    intro j w H locs ls hj hW hP hD hS hl
    refine lv_iload hx hb dL_network_22 (lv_at hl 5 rfl) ?_
    refine lv_bipush (v := nI 56) hx hb dL_network_24 (by decide) ?_
    refine r_icmp_ge (tgt := 205) hx hb (by omega) (by omega) dL_network_26 (by decide) (fun h => absurd h (show ¬ 56 ≤ j by omega)) (fun _ => ?_)
    exact n_round C hW hP hD hS (by omega) hl (fun w H locs ls hW hP hD hS hl => ih (j + 1) w H locs ls (by omega) hW hP hD hS hl)
end N1
