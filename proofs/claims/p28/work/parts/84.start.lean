/-! the start -/
theorem meets_none : ∀ g, g < 4 → f_L_meets (nI 0) g = -1 := by decide +kernel
theorem INV_start {fr : Nat → Int32} (h : RootsAt fr 4 0) : INV 0 (fun _ => nI 0) (f_X4_findLeast (fun _ => nI 0) (fun _ => nI 0)) (f_X4_findHops (fun _ => nI 0) (f_X4_findLeast (fun _ => nI 0) (fun _ => nI 0)) (fun _ => nI 0)) fr (fun _ => nI 0) (fun _ => (-1)) (fun _ => (-1)) (fun _ => nI 0) (fun _ => nI 0) (fun _ => nI 0) (fun _ => nI 0) (fun _ => nI 0) (fun _ => nI 0) (fun _ => nI 0) (fun _ => nI 0) (fun _ => nI 0) (fun _ => nI 0) (nI 0) (nI 3) (nI 0) 0 0 0 := by
  have hZ : Cst (fun _ _ => 0) := ⟨fun i j _ _ => ⟨Nat.zero_le _, rfl⟩, fun i _ => rfl⟩
  obtain ⟨D, hR⟩ := Rt_new (rc := (fun _ => nI 0)) (C := fun _ _ => 0) (fun i j _ _ => rfl) hZ (fun _ => nI 0) (fun _ => nI 0)
  have hs : ∀ g s, g < 4 → s < 10 → fr (4 + (g * 10) + s) = nI s := fun g s hg hs => by
    rw [h (4 + (g * 10) + s) (by omega), if_pos (by omega), show (4 + (g * 10) + s - 4) % 10 = s by omega]
  have hm : ∀ g, g < 4 → fr g = -1 := fun g hg => by rw [h g (by omega), if_neg (by omega)]
  refine ⟨fun _ _ => 0, D, 0, hR, fun i j _ _ _ => rfl, fun T hT => ?_, hs, fun g hg => ⟨rfl, ?_⟩, ⟨⟨⟨by omega, fun pk h => absurd h (Nat.not_lt_zero _)⟩, [], ⟨by omega, by omega, rfl, fun j x hx => by cases hx⟩, fun x hx => absurd hx List.not_mem_nil⟩, fun T hT => ⟨fun r hr => Or.inl ⟨rfl, rfl⟩, fun r o hr ho _ hw => ?_⟩, fun _ _ => rfl, fun g s hg hs => ⟨fun i hi z => ?_, b_0 s⟩, fun T _ => B10_0, fun e _ => ⟨rfl, rfl⟩⟩, rfl, rfl, rfl, by omega, 3, rfl, by omega, by omega⟩
  · by_cases c : T < 4
    · exact Or.inl (hm T c)
    · refine Or.inr ⟨(T - 4) % 10, by omega, ?_⟩
      rw [h T hT, if_pos (by omega)]
  · rw [hm g hg, meets_none g hg]
  · rw [show wof (fun _ => nI 0) T r = false from b_0 r] at hw
    cases hw
  · have z2 : bt (nI 0) i = true := z
    have e : bt (nI 0) i = false := b_0 i
    rw [e] at z2
    cases z2
