/-! the law calls a helper -/
section XL
variable {p : Program} {l : Launch} {e : Env} {R : Room} {s : State} {m : MethodId} {below : List Frame} {meth : Method} {c : Code} {H : Heap} {locs : List Loc} {Q : State → Prop} {cells slots : Nat}
variable {cc : ByteArray} {nL pc : Nat} {ls : Array Slot} {D : va_G} {A0 : Nat → Prop} {tys : List (ClassId × FieldType)} {W0 ws ws' : va_W} {rtO : Option FieldType} {own : String}
variable {y : MethodName} {b : ByteArray} {n index k : Nat} {hh : List (Nat × Nat × Nat × Nat)} {rm : Room} {asM as rest st : List Value} {rv : Int32}
theorem kH (B : Bd p s m meth c cc nL rtO own D tys asM) (hls : ls.size = nL) (hM : MH l y b n hh rm D tys as ws ws' rv) (cw : vx_CSW R s asM.toArray own index y b n (some .int) hh (.codeWith y b n (some .int) hh :: wsL_law) rm 1 6 k)
    (hst : st = as.reverse ++ rest) (hk : as.length = k) (hX : XQ A0 s s.heap) (hNc : XNc s) (hP : va_P D vwCl W0 H) (hD : va_D A0 W0) (hS : va_S A0 s.heap H locs) (hA : ∀ q, s.heap.size ≤ q → A0 q) (is : List Nat)
    (hC : is.map (fun i => W0[i]?) = ws.map some) (hf : ws'.map Prod.fst = ws.map Prod.fst) (hn : va_nd is = true) (hw : (rest.map fun v => v.category).sum ≤ 8) (hroom : cells + 1 ≤ R.cells ∧ slots + 6 ≤ R.slots) (hdg : decode cc pc = .ok (.invokestatic index, 3))
    (kk : ∀ (H1 : Heap) (locs1 : List Loc), va_P D vwCl (putAt W0 is ws') H1 → va_D A0 (putAt W0 is ws') → va_S A0 s.heap H1 locs1 → W p l e R s m asM.toArray below meth c H1 locs1 (cells + 1) (slots + 6) Q (F0 m (pc + 3) ls (.int rv :: rest))) :
    W p l e R s m asM.toArray below meth c H locs cells slots Q (F0 m pc ls st) := by
  obtain ⟨hx, hb, -, hml, hown, hts, -, hN, hK, -⟩ := B
  subst hst
  have hF := va_free (wc := ws) hD hS hA is hC
  have hr := vx_runSX (mc := 1) (ms := 6) (As := as) (rest := rest) (g := F0 m pc ls (as.reverse ++ rest)) (cells := cells) (slots := slots) (locs := locs) (l := l) (e := e) (below := below) (meth := meth) (H := H) ⟨hx, hb, hml, hown, hts⟩ (hM H.size) cw
    ⟨hPre_blind _ D tys ws H.size, fun U hU hW => ⟨rfl, ⟨x_pre hP hD hK hN is hC hn (fm_of hC) U hU hW, by rw [hU]; exact XQ.warm hW ((hX.kept hS.2.1).narrow hF)⟩, fun q hq => va_Nc.moved hW.alike (hNc q hq)⟩⟩ rfl hk hls rfl (lv_room hw) hdg hroom
  refine vx_calli hr hS (fun q _ h => hF q h) hF (fun q _ h => hF q h) (fun E' ce q9 u t H1 locs1 ht hvm hpx _ _ _ _ _ _ _ => absurd hpx id) (fun r u t H1 locs1 ht hvm hw hB hz hk hS1 => ?_)
  rw [ht] at hB
  subst hw
  obtain ⟨hP1, hD1⟩ := x_put hP hD hC hf hn hk hB
  exact kk H1 locs1 hP1 hD1 hS1
end XL
