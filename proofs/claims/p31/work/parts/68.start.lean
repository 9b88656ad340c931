/-! The law. -/
set_option maxRecDepth 20000 in
/-- the classes, the arrays, the nests, by the tables -/
theorem kk_start {s : State} {args : Array Value} (hts : ∀ w ∈ lw_tbl, w.before args s = true) : ∃ (G : va_G) (cs : Nat → ClassId), kK G cs s := by
  obtain ⟨c0, i0, k0⟩ := u_known (C := RX0) (T := TX0) (N := 3) (n := 3) hts ml_wsX00 (hts (.instantiable RX0 3) (List.mem_of_getElem? (i := 185) (by decide +kernel)))
  obtain ⟨c1, i1, k1⟩ := u_known (C := RX1) (T := TX1) (N := 4) (n := 4) hts ml_wsX10 (hts (.instantiable RX1 4) (List.mem_of_getElem? (i := 126) (by decide +kernel)))
  obtain ⟨c2, i2, k2⟩ := u_known (C := RX2) (T := TX2) (N := 9) (n := 9) hts ml_wsX20 (hts (.instantiable RX2 9) (List.mem_of_getElem? (i := 146) (by decide +kernel)))
  obtain ⟨c3, i3, k3⟩ := u_known (C := RX3) (T := TX3) (N := 3) (n := 3) hts ml_wsX30 (hts (.instantiable RX3 3) (List.mem_of_getElem? (i := 46) (by decide +kernel)))
  obtain ⟨c4, i4, k4⟩ := u_known (C := RX4) (T := TX4) (N := 9) (n := 9) hts ml_wsX40 (hts (.instantiable RX4 9) (List.mem_of_getElem? (i := 40) (by decide +kernel)))
  obtain ⟨c5, i5, k5⟩ := u_known (C := RX5) (T := TX5) (N := 4) (n := 4) hts ml_wsX50 (hts (.instantiable RX5 4) (List.mem_of_getElem? (i := 107) (by decide +kernel)))
  obtain ⟨c6, i6, k6⟩ := u_known (C := RX6) (T := TX6) (N := 6) (n := 6) hts ml_wsX60 (hts (.instantiable RX6 6) (List.mem_of_getElem? (i := 32) (by decide +kernel)))
  obtain ⟨d0, kd0, cd0, f0, g0, h0⟩ := Cond.arrayClass_spec (hts (.arrayClass .int) (List.mem_of_getElem? (i := 105) (by decide +kernel)))
  obtain ⟨d1, kd1, cd1, f1, g1, h1⟩ := Cond.arrayClass_spec (hts (.arrayClass .long) (List.mem_of_getElem? (i := 64) (by decide +kernel)))
  obtain ⟨d2, kd2, cd2, f2, g2, h2⟩ := Cond.arrayClass_spec (hts (.arrayClass .boolean) (List.mem_of_getElem? (i := 144) (by decide +kernel)))
  obtain ⟨d3, kd3, cd3, f3, g3, h3⟩ := Cond.arrayClass_spec (hts (.arrayClass .char) (List.mem_of_getElem? (i := 183) (by decide +kernel)))
  have hAO := hts (.arrayOver (.object "SpriteLines$State")) (List.mem_of_getElem? (i := 191) (by decide +kernel))
  obtain ⟨cd4, d4, kd4, f4, -, g4, h4, n4⟩ := Cond.arrayOver_spec hAO
  let cs : Nat → ClassId := fun j => match j with
    | 0 => d0
    | 1 => d1
    | 2 => d2
    | 3 => d3
    | _ => d4
  let G : va_G := (fun j => match j with
    | 0 => c0
    | 1 => c1
    | 2 => c2
    | 3 => c3
    | 4 => c4
    | 5 => c5
    | _ => c6, fun j => match j with
    | 0 => i0
    | 1 => i1
    | 2 => i2
    | 3 => i3
    | 4 => i4
    | 5 => i5
    | _ => i6)
  refine ⟨G, cs, ⟨fun c q hq => ?_, fun k q hk => ?_⟩, ?_⟩
  · match c, hq with
    | 0, hq => cases hq; exact k0
    | 1, hq => cases hq; exact k1
    | 2, hq => cases hq; exact k2
    | 3, hq => cases hq; exact k3
    | 4, hq => cases hq; exact k4
    | 5, hq => cases hq; exact k5
    | 6, hq => cases hq; exact k6
    | c + 7, hq => simp [vwCl] at hq
  · match k, hk with
    | 0, hk => cases hk; exact ⟨fun n z => ⟨fun k h => (by cases h), kd0, g0, cd0, h0⟩, f0⟩
    | 1, hk => cases hk; exact ⟨fun n z => ⟨fun k h => (by cases h), kd1, g1, cd1, h1⟩, f1⟩
    | 2, hk => cases hk; exact ⟨fun n z => ⟨fun k h => (by cases h), kd2, g2, cd2, h2⟩, f2⟩
    | 3, hk => cases hk; exact ⟨fun n z => ⟨fun k h => (by cases h), kd3, g3, cd3, h3⟩, f3⟩
    | 4, hk => cases hk; exact ⟨fun n z => ⟨fun k h => (by cases h), kd4, g4, cd4, h4⟩, ⟨kd4, cd4, g4, h4, f4, n4⟩⟩
    | k + 5, hk => simp [tyL] at hk
  · exact ⟨va_Nw.of rfl (hts (.methodLinkNest RX5 63 yX6_contains RX6) (List.mem_of_getElem? (i := 409) (by decide +kernel))), va_Nw.of rfl (hts (.methodLinkNest RX5 79 yX6_isNoPlaceInPart RX6) (List.mem_of_getElem? (i := 473) (by decide +kernel))), va_Nw.of rfl (hts (.methodLinkNest RX4 17 yX3_init RX6) (List.mem_of_getElem? (i := 47) (by decide +kernel))), va_Nw.of rfl (hts (.methodLinkNest RX6 34 yX2_init RX6) (List.mem_of_getElem? (i := 147) (by decide +kernel))), va_AO.of hAO⟩
