set_option maxHeartbeats 4000000 in
set_option maxRecDepth 100000 in
theorem c_L_draws (l : Launch) (G : va_G) (cs : Nat → ClassId) (a : Nat → Nat) (A : AS) (u : Nat → Nat) (p g h : Int) (ia : Inj a 62) (hA : GA A) (hp : 0 ≤ p ∧ p < A.1 0 0) (hsq : Seq u) : MW l yL_draws wsL_draws { frames := 7, cells := 1, slots := 64, locals := 166 } G cs [.ref (a 0), .int (zI p), .int (zI g), .int (zI h)] (fun H => XI G cs a a A H ∧ H.size = u 0) (fun vv H => vv = .int (zI 1) ∧ ∃ B : AS, GA B ∧ (∀ f, f ≠ 5 → B.1 f = A.1 f) ∧ XI G cs a a B H) (fun q => AX a 0 62 q ∨ u 0 ≤ q) 1 64 := by
  refine m_intro (Pw := (fun H => XI G cs a a A H ∧ H.size = u 0)) (cc := cL_draws) (maxL := 13) (ret := some .boolean) RL (by decide) rfl rfl (Nat.le_of_ble_eq_true rfl) ?_
  intro pP eE sS mM below meth cC hx hb hr hts hown hml hlk hnm hPre hK ls hl
  have hl : lv_has ls 13 [(0, .ref (a 0)), (1, .int (zI p)), (2, .int (zI g)), (3, .int (zI h))] := hl
  obtain ⟨hXI, hz⟩ := hPre
  have hS : va_S (fun q => AX a 0 62 q ∨ u 0 ≤ q) sS.heap sS.heap [] := va_S.rf
  have hwf := hA.1.1
  obtain ⟨w0, w1, w2, w3, w4, wP, wC, wS, wX⟩ := id hwf
  have hau : ∀ i, i < 62 → a i ≠ u 0 := fun i hi h9 => by have h8 := hXI.lt.1 i hi; omega
  refine z_bipush (n := 64) hx hb dL_draws_0 (by decide) ?_
  refine z_newa (atype := .int) (ty := .int) (n := 64) (N := 64) hx hb (hts (.arrayClass .int) (by decide +kernel)) rfl hK.1 hS 0 rfl (a0 := (64, .inl (aI (fun _ => 0)))) rfl (by decide) rfl (by decide) (Nat.le_of_ble_eq_true rfl) (Nat.le_of_ble_eq_true rfl) (q := (sh u 0) 0) hz dL_draws_2 (fun H hP1 hz9 hk hS => ?_)
  have hXI : XI G cs a a A H := hXI.kp (by assumption) hk (fun _ _ h9 => h9)
  have hPa : va_P G vwCl ([((sh u 0) 0, .inl (cs 0, 64, .inl (aI (fun _ => 0))))]) H := hP1
  have hz : H.size = u 1 := hz9.trans (hsq 0).symm
  refine lv_astore (lv' := [(4, .ref ((sh u 0) 0)), (0, .ref (a 0)), (1, .int (zI p)), (2, .int (zI g)), (3, .int (zI h))]) hx hb dL_draws_4 hl (by decide) rfl (fun ls hl => ?_)
  refine z_iconst (n := 1) hx hb dL_draws_6 ?_
  refine lv_iload_n hx hb dL_draws_7 rfl (lv_at hl 3 rfl) ?_
  refine z_iconst (n := 4) hx hb dL_draws_8 ?_
  refine z_ro (zrSJ (As := [.int (zI g), .int (zI 4)]) (rest := [.int (zI 1)]) (Pw := fun _ => True) ⟨hx, hb, hml, hown, hts⟩ (c_L_low l G cs g 4 (by omega)) gL_draws_L_low rfl qL_low rfl rfl ⟨Nat.le_of_ble_eq_true rfl, Nat.le_of_ble_eq_true rfl⟩ trivial hK hl.1 rfl (Nat.le_of_ble_eq_true rfl) dL_draws_9 ⟨Nat.le_of_ble_eq_true rfl, Nat.le_of_ble_eq_true rfl⟩) ?_
  refine z_iadd hx hb dL_draws_12 ?_
  have hrw := lowF_r g (show (0 : Int) < 4 by decide)
  refine lv_istore (lv' := [(5, .int (zI (1 + (lowF g 4)))), (4, .ref ((sh u 0) 0)), (0, .ref (a 0)), (1, .int (zI p)), (2, .int (zI g)), (3, .int (zI h))]) hx hb dL_draws_13 hl (by decide) rfl (fun ls hl => ?_)
  refine z_iconst (n := 0) hx hb dL_draws_15 ?_
  refine lv_istore (lv' := [(6, .int (zI 0)), (5, .int (zI (1 + (lowF g 4)))), (4, .ref ((sh u 0) 0)), (0, .ref (a 0)), (1, .int (zI p)), (2, .int (zI g)), (3, .int (zI h))]) hx hb dL_draws_16 hl (by decide) rfl (fun ls hl => ?_)
  refine lv_aload_n hx hb dL_draws_18 rfl (lv_at hl 3 rfl) ?_
  obtain ⟨B0, eB0, hB0, hB01, hB0l⟩ := clear_ok hA
  refine z_w (zrV (As := []) (rest := []) ⟨hx, hb, hml, hown, hts⟩ (k_clearText l G cs a A  ia hA ) gL_draws_X6_clearText rfl qX6_clearText rfl rfl ⟨Nat.le_of_ble_eq_true rfl, Nat.le_of_ble_eq_true rfl⟩ hXI hK (va_recv hK.1 hXI.xo (ci := 6) (q0 := 0) rfl rfl) hl.1 rfl (Nat.le_of_ble_eq_true rfl) dL_draws_19 ⟨Nat.le_of_ble_eq_true rfl, Nat.le_of_ble_eq_true rfl⟩) hS (fun q h => Or.inl h) (fun q h => Or.inl h) (fun v H locs hpost hle hk hS => ?_)
  obtain ⟨hv, hXI⟩ := hpost
  have hE : clearF A = (A.2.2.1.1, B0) := eB0
  have hv : v = .int (zI A.2.2.1.1) := by rw [hE] at hv; exact hv
  have hXI : XI G cs a a B0 H := by rw [hE] at hXI; exact hXI
  subst hv
  clear hE
  have hPa := keepO (Ord.of (b := (sh u 0)) (n := 1) rfl) hPa hk (fun j hj h9 => by obtain ⟨i9, h1, h2, h3⟩ := h9; exact hau i9 h2 (by rw [show j = 0 by omega] at h3; exact h3.symm))
  refine lv_pop hx hb dL_draws_22 rfl ?_
  refine lv_aload_n hx hb dL_draws_23 rfl (lv_at hl 3 rfl) ?_
  refine lv_iload_n hx hb dL_draws_24 rfl (lv_at hl 4 rfl) ?_
  have hR0 : RD B0.2.2.1.2 B0.2.2.1.1 0 0 (fun _ => 0) 0 0 0 := by rw [hB0l]; exact rd_0 _ _
  refine z_w (zrV (As := [.int (zI p)]) (rest := []) ⟨hx, hb, hml, hown, hts⟩ (k_draw l G cs a B0 p ia hB0 (by omega)) gL_draws_X6_draw rfl qX6_draw rfl rfl ⟨Nat.le_of_ble_eq_true rfl, Nat.le_of_ble_eq_true rfl⟩ hXI hK (va_recv hK.1 hXI.xo (ci := 6) (q0 := 0) rfl rfl) hl.1 rfl (Nat.le_of_ble_eq_true rfl) dL_draws_25 ⟨Nat.le_of_ble_eq_true rfl, Nat.le_of_ble_eq_true rfl⟩) hS (fun q h => Or.inl h) (fun q h => Or.inl h) (fun v H locs hpost hle hk hS => ?_)
  obtain ⟨hv, hXI⟩ := hpost
  have hE : drawF B0 p = ((-100), B0) := ((draw_len hB0 (by rw [hB01]; exact hp) (Or.inr (by decide)) hR0).trans (by rw [hB0l]; rfl))
  have hv : v = .int (zI (-100)) := by rw [hE] at hv; exact hv
  have hXI : XI G cs a a B0 H := by rw [hE] at hXI; exact hXI
  subst hv
  clear hE
  have hPa := keepO (Ord.of (b := (sh u 0)) (n := 1) rfl) hPa hk (fun j hj h9 => by obtain ⟨i9, h1, h2, h3⟩ := h9; exact hau i9 h2 (by rw [show j = 0 by omega] at h3; exact h3.symm))
  refine z_bipush (n := -100) hx hb dL_draws_28 (by decide) ?_
  refine z_icmp_ne (tgt := 50) hx hb dL_draws_30 (by decide) (by omega) (by omega) (fun c101 => ?_) (fun c101 => ?_)
  · skip
    exfalso; omega
  · skip
    refine lv_aload_n hx hb dL_draws_33 rfl (lv_at hl 3 rfl) ?_
    refine lv_aload_n hx hb dL_draws_34 rfl (lv_at hl 3 rfl) ?_
    refine z_iconst (n := 0) hx hb dL_draws_35 ?_
    refine z_w (zrV (As := [.int (zI 0)]) (rest := [.ref (a 0)]) ⟨hx, hb, hml, hown, hts⟩ (k_count l G cs a B0 0 ia hB0 (by omega)) gL_draws_X6_count rfl qX6_count rfl rfl ⟨Nat.le_of_ble_eq_true rfl, Nat.le_of_ble_eq_true rfl⟩ hXI hK (va_recv hK.1 hXI.xo (ci := 6) (q0 := 0) rfl rfl) hl.1 rfl (Nat.le_of_ble_eq_true rfl) dL_draws_36 ⟨Nat.le_of_ble_eq_true rfl, Nat.le_of_ble_eq_true rfl⟩) hS (fun q h => Or.inl h) (fun q h => Or.inl h) (fun v H locs hpost hle hk hS => ?_)
    obtain ⟨rfl, hXI⟩ := hpost
    have hPa := keepO (Ord.of (b := (sh u 0)) (n := 1) rfl) hPa hk (fun j hj h9 => by obtain ⟨i9, h1, h2, h3⟩ := h9; exact hau i9 h2 (by rw [show j = 0 by omega] at h3; exact h3.symm))
    refine z_topi (b := A.1 0 0) (ct_0.trans (by rw [hB01])) ?_
    refine z_w (zrV (As := [.int (zI (A.1 0 0))]) (rest := []) ⟨hx, hb, hml, hown, hts⟩ (k_draw l G cs a B0 (A.1 0 0) ia hB0 (by omega)) gL_draws_X6_draw rfl qX6_draw rfl rfl ⟨Nat.le_of_ble_eq_true rfl, Nat.le_of_ble_eq_true rfl⟩ hXI hK (va_recv hK.1 hXI.xo (ci := 6) (q0 := 0) rfl rfl) hl.1 rfl (Nat.le_of_ble_eq_true rfl) dL_draws_39 ⟨Nat.le_of_ble_eq_true rfl, Nat.le_of_ble_eq_true rfl⟩) hS (fun q h => Or.inl h) (fun q h => Or.inl h) (fun v H locs hpost hle hk hS => ?_)
    obtain ⟨hv, hXI⟩ := hpost
    have hE : drawF B0 (A.1 0 0) = ((-1), B0) := (draw_no (by rw [hB01]; omega))
    have hv : v = .int (zI (-1)) := by rw [hE] at hv; exact hv
    have hXI : XI G cs a a B0 H := by rw [hE] at hXI; exact hXI
    subst hv
    clear hE
    have hPa := keepO (Ord.of (b := (sh u 0)) (n := 1) rfl) hPa hk (fun j hj h9 => by obtain ⟨i9, h1, h2, h3⟩ := h9; exact hau i9 h2 (by rw [show j = 0 by omega] at h3; exact h3.symm))
    refine z_iconst (n := -1) hx hb dL_draws_42 ?_
    refine z_icmp_ne (tgt := 50) hx hb dL_draws_43 (by decide) (by omega) (by omega) (fun c102 => ?_) (fun c102 => ?_)
    · skip
      exfalso; omega
    · skip
      refine z_iconst (n := 1) hx hb dL_draws_46 ?_
      refine lv_goto (tgt := 51) hx hb dL_draws_47 (by decide) ?_
      refine lv_istore (lv' := [(7, .int (zI 1)), (6, .int (zI 0)), (5, .int (zI (1 + (lowF g 4)))), (4, .ref ((sh u 0) 0)), (0, .ref (a 0)), (1, .int (zI p)), (2, .int (zI g)), (3, .int (zI h))]) hx hb dL_draws_51 hl (by decide) rfl (fun ls hl => ?_)
      refine z_iconst (n := 0) hx hb dL_draws_53 ?_
      refine lv_istore (lv' := [(8, .int (zI 0)), (7, .int (zI 1)), (6, .int (zI 0)), (5, .int (zI (1 + (lowF g 4)))), (4, .ref ((sh u 0) 0)), (0, .ref (a 0)), (1, .int (zI p)), (2, .int (zI g)), (3, .int (zI h))]) hx hb dL_draws_54 hl (by decide) rfl (fun ls hl => ?_)
      -- loop 56
      refine z_loopH (nL := 13) (fun ((r, B, V) : Int × AS × (Int → Int)) => [(0, .ref (a 0)), (1, .int (zI p)), (2, .int (zI g)), (3, .int (zI h)), (4, .ref ((sh u 0) 0)), (5, .int (zI (1 + lowF g 4))), (6, .int (zI B.2.2.1.1)), (7, .int (zI 1)), (8, .int (zI r))]) (fun ((r, B, V) : Int × AS × (Int → Int)) (H : Heap) => ((0 ≤ r ∧ r ≤ 1 + lowF g 4) ∧ (GA B ∧ B.1 = A.1) ∧ (0 ≤ B.2.2.1.1 ∧ B.2.2.1.1 ≤ 50) ∧ ((r = 0 ∧ RD B.2.2.1.2 B.2.2.1.1 0 0 V 0 0 0) ∨ (1 ≤ r ∧ ∃ b4 v, RD B.2.2.1.2 B.2.2.1.1 (r - 1) 8 V b4 0 v))) ∧ XI G cs a a B H ∧ va_P G vwCl ([((sh u 0) 0, .inl (cs 0, 64, .inl (aI V)))]) H) (fun ((r, B, V) : Int × AS × (Int → Int)) => (1 + lowF g 4 - r).toNat) ((0 : Int), B0, fun _ => 0) ⟨⟨⟨by decide, by omega⟩, ⟨hB0, hB01⟩, by rw [hB0l]; decide, Or.inl ⟨rfl, hR0⟩⟩, hXI, hPa⟩ hS (by show lv_has ls 13 [(0, .ref (a 0)), (1, .int (zI p)), (2, .int (zI g)), (3, .int (zI h)), (4, .ref ((sh u 0) 0)), (5, .int (zI (1 + lowF g 4))), (6, .int (zI B0.2.2.1.1)), (7, .int (zI 1)), (8, .int (zI (0 : Int)))]; rw [hB0l]; exact lv_sub hl [5, 6, 7, 8, 4, 3, 2, 1, 0] rfl) (fun x_ H locs hIH hS ih ls hl => ?_)
      obtain ⟨r, B, V⟩ := x_
      obtain ⟨hI, hXI, hPa⟩ := hIH
      have hI : (0 ≤ r ∧ r ≤ 1 + lowF g 4) ∧ (GA B ∧ B.1 = A.1) ∧ (0 ≤ B.2.2.1.1 ∧ B.2.2.1.1 ≤ 50) ∧ ((r = 0 ∧ RD B.2.2.1.2 B.2.2.1.1 0 0 V 0 0 0) ∨ (1 ≤ r ∧ ∃ b4 v, RD B.2.2.1.2 B.2.2.1.1 (r - 1) 8 V b4 0 v)) := hI
      have hXI : XI G cs a a B H := hXI
      have hPa : va_P G vwCl ([((sh u 0) 0, .inl (cs 0, 64, .inl (aI V)))]) H := hPa
      have hl : lv_has ls 13 [(0, .ref (a 0)), (1, .int (zI p)), (2, .int (zI g)), (3, .int (zI h)), (4, .ref ((sh u 0) 0)), (5, .int (zI (1 + lowF g 4))), (6, .int (zI B.2.2.1.1)), (7, .int (zI 1)), (8, .int (zI r))] := hl
      have ih1 := ih
      obtain ⟨hI, ⟨hB, hB1⟩, hBl, hRD⟩ := hI
      refine lv_iload hx hb dL_draws_56 (lv_at hl 8 rfl) ?_
      refine lv_iload hx hb dL_draws_58 (lv_at hl 5 rfl) ?_
      refine z_icmp_ge (tgt := 243) hx hb dL_draws_60 (by decide) (by omega) (by omega) (fun c103 => ?_) (fun c103 => ?_)
      · skip
        refine lv_iload hx hb dL_draws_243 (lv_at hl 7 rfl) ?_
        refine z_if_eq (tgt := 258) hx hb dL_draws_245 (by decide) (by omega) (fun c104 => ?_) (fun c104 => ?_)
        · skip
          exfalso; omega
        · skip
          refine lv_aload_n hx hb dL_draws_248 rfl (lv_at hl 0 rfl) ?_
          refine lv_iload_n hx hb dL_draws_249 rfl (lv_at hl 1 rfl) ?_
          obtain ⟨b4, v, hR⟩ : ∃ b4 v, RD B.2.2.1.2 B.2.2.1.1 (lowF g 4) 8 V b4 0 v := by
            rcases hRD with h9 | h9
            · exact absurd h9.1 (by omega)
            · obtain ⟨h8, b4, v, h7⟩ := h9
              exact ⟨b4, v, by rw [show lowF g 4 = r - 1 by omega]; exact h7⟩
          obtain ⟨E1, eE1, hE1, hE15, hE1t, hE1p⟩ := draw_ok hB hrw.1 (by rw [hB1]; exact hp) hR
          refine z_w (zrV (As := [.int (zI p)]) (rest := []) ⟨hx, hb, hml, hown, hts⟩ (k_draw l G cs a B p ia hB (by omega)) gL_draws_X6_draw rfl qX6_draw rfl rfl ⟨Nat.le_of_ble_eq_true rfl, Nat.le_of_ble_eq_true rfl⟩ hXI hK (va_recv hK.1 hXI.xo (ci := 6) (q0 := 0) rfl rfl) hl.1 rfl (Nat.le_of_ble_eq_true rfl) dL_draws_250 ⟨Nat.le_of_ble_eq_true rfl, Nat.le_of_ble_eq_true rfl⟩) hS (fun q h => Or.inl h) (fun q h => Or.inl h) (fun v H locs hpost hle hk hS => ?_)
          obtain ⟨hv, hXI⟩ := hpost
          have hE : drawF B p = (lowF g 4 + 1, E1) := eE1
          have hv : v = .int (zI (lowF g 4 + 1)) := by rw [hE] at hv; exact hv
          have hXI : XI G cs a a E1 H := by rw [hE] at hXI; exact hXI
          subst hv
          clear hE
          have hPa := keepO (Ord.of (b := (sh u 0)) (n := 1) rfl) hPa hk (fun j hj h9 => by obtain ⟨i9, h1, h2, h3⟩ := h9; exact hau i9 h2 (by rw [show j = 0 by omega] at h3; exact h3.symm))
          refine lv_iload hx hb dL_draws_253 (lv_at hl 5 rfl) ?_
          refine z_icmp_eq (tgt := 260) hx hb dL_draws_255 (by decide) (by omega) (by omega) (fun c105 => ?_) (fun c105 => ?_)
          · skip
            refine z_iconst (n := 0) hx hb dL_draws_260 ?_
            refine lv_istore (lv' := [(8, .int (zI 0)), (0, .ref (a 0)), (1, .int (zI p)), (2, .int (zI g)), (3, .int (zI h)), (4, .ref ((sh u 0) 0)), (5, .int (zI (1 + lowF g 4))), (6, .int (zI B.2.2.1.1)), (7, .int (zI 1))]) hx hb dL_draws_261 hl (by decide) rfl (fun ls hl => ?_)
            -- loop 263
            refine z_loopH (nL := 13) (fun (k : Int) => [(0, .ref (a 0)), (1, .int (zI p)), (2, .int (zI g)), (3, .int (zI h)), (4, .ref ((sh u 0) 0)), (5, .int (zI (1 + lowF g 4))), (6, .int (zI B.2.2.1.1)), (7, .int (zI 1)), (8, .int (zI k))]) (fun (k : Int) (H : Heap) => (0 ≤ k ∧ k ≤ 8 * (1 + lowF g 4)) ∧ XI G cs a a E1 H ∧ va_P G vwCl ([((sh u 0) 0, .inl (cs 0, 64, .inl (aI V)))]) H) (fun (k : Int) => (8 * (1 + lowF g 4) - k).toNat) (0 : Int) ⟨(by omega), hXI, hPa⟩ hS (lv_sub hl [1, 2, 3, 4, 5, 6, 7, 8, 0] rfl) (fun k H locs hIH hS ih ls hl => ?_)
            obtain ⟨hI, hXI, hPa⟩ := hIH
            have hl : lv_has ls 13 [(0, .ref (a 0)), (1, .int (zI p)), (2, .int (zI g)), (3, .int (zI h)), (4, .ref ((sh u 0) 0)), (5, .int (zI (1 + lowF g 4))), (6, .int (zI B.2.2.1.1)), (7, .int (zI 1)), (8, .int (zI k))] := hl
            refine lv_iload hx hb dL_draws_263 (lv_at hl 8 rfl) ?_
            refine z_bipush (n := 8) hx hb dL_draws_265 (by decide) ?_
            refine lv_iload hx hb dL_draws_267 (lv_at hl 5 rfl) ?_
            refine z_imul hx hb dL_draws_269 ?_
            refine z_icmp_ge (tgt := 304) hx hb dL_draws_270 (by decide) (by omega) (by omega) (fun c106 => ?_) (fun c106 => ?_)
            · skip
              refine lv_aload_n hx hb dL_draws_304 rfl (lv_at hl 0 rfl) ?_
              refine z_bipush (n := 49) hx hb dL_draws_305 (by decide) ?_
              obtain ⟨F1, eF1, hF1, hF11, hF1l, hF1x⟩ := type_ok hE1 (z := 49) (by rw [hE1t]; omega) (by decide)
              have hE1l : E1.2.2.1.1 = B.2.2.1.1 := by rw [hE1t]
              refine z_w (zrV (As := [.int (zI 49)]) (rest := []) ⟨hx, hb, hml, hown, hts⟩ (k_type l G cs a E1 49 ia hE1 (nar_char (by decide))) gL_draws_X6_type rfl qX6_type rfl rfl ⟨Nat.le_of_ble_eq_true rfl, Nat.le_of_ble_eq_true rfl⟩ hXI hK (va_recv hK.1 hXI.xo (ci := 6) (q0 := 0) rfl rfl) hl.1 rfl (Nat.le_of_ble_eq_true rfl) dL_draws_307 ⟨Nat.le_of_ble_eq_true rfl, Nat.le_of_ble_eq_true rfl⟩) hS (fun q h => Or.inl h) (fun q h => Or.inl h) (fun v H locs hpost hle hk hS => ?_)
              obtain ⟨hv, hXI⟩ := hpost
              have hE : typeF E1 49 = (B.2.2.1.1 + 1, F1) := (eF1.trans (by rw [hE1t]))
              have hv : v = .int (zI (B.2.2.1.1 + 1)) := by rw [hE] at hv; exact hv
              have hXI : XI G cs a a F1 H := by rw [hE] at hXI; exact hXI
              subst hv
              clear hE
              have hPa := keepO (Ord.of (b := (sh u 0)) (n := 1) rfl) hPa hk (fun j hj h9 => by obtain ⟨i9, h1, h2, h3⟩ := h9; exact hau i9 h2 (by rw [show j = 0 by omega] at h3; exact h3.symm))
              refine lv_istore (lv' := [(6, .int (zI (B.2.2.1.1 + 1))), (0, .ref (a 0)), (1, .int (zI p)), (2, .int (zI g)), (3, .int (zI h)), (4, .ref ((sh u 0) 0)), (5, .int (zI (1 + lowF g 4))), (7, .int (zI 1)), (8, .int (zI k))]) hx hb dL_draws_310 hl (by decide) rfl (fun ls hl => ?_)
              refine lv_aload_n hx hb dL_draws_312 rfl (lv_at hl 1 rfl) ?_
              refine lv_iload_n hx hb dL_draws_313 rfl (lv_at hl 2 rfl) ?_
              refine z_w (zrV (As := [.int (zI p)]) (rest := []) ⟨hx, hb, hml, hown, hts⟩ (k_draw l G cs a F1 p ia hF1 (by omega)) gL_draws_X6_draw rfl qX6_draw rfl rfl ⟨Nat.le_of_ble_eq_true rfl, Nat.le_of_ble_eq_true rfl⟩ hXI hK (va_recv hK.1 hXI.xo (ci := 6) (q0 := 0) rfl rfl) hl.1 rfl (Nat.le_of_ble_eq_true rfl) dL_draws_314 ⟨Nat.le_of_ble_eq_true rfl, Nat.le_of_ble_eq_true rfl⟩) hS (fun q h => Or.inl h) (fun q h => Or.inl h) (fun v H locs hpost hle hk hS => ?_)
              obtain ⟨hv, hXI⟩ := hpost
              have hE : drawF F1 p = (-100 - B.2.2.1.1, F1) := ((draw_1 (B := E1) hE1 (by rw [hE1t]; omega) (by rw [hE15 0 (by decide), hB1]; exact hp) (by rw [hE1t]; exact hR) (C := F1) (by rw [hF11]) hF1l hF1x).trans (by rw [hE1t]))
              have hv : v = .int (zI (-100 - B.2.2.1.1)) := by rw [hE] at hv; exact hv
              have hXI : XI G cs a a F1 H := by rw [hE] at hXI; exact hXI
              subst hv
              clear hE
              have hPa := keepO (Ord.of (b := (sh u 0)) (n := 1) rfl) hPa hk (fun j hj h9 => by obtain ⟨i9, h1, h2, h3⟩ := h9; exact hau i9 h2 (by rw [show j = 0 by omega] at h3; exact h3.symm))
              refine z_bipush (n := -99) hx hb dL_draws_317 (by decide) ?_
              refine lv_iload hx hb dL_draws_319 (lv_at hl 0 rfl) ?_
              refine z_isub hx hb dL_draws_321 ?_
              refine z_icmp_ne (tgt := 329) hx hb dL_draws_322 (by decide) (by omega) (by omega) (fun c107 => ?_) (fun c107 => ?_)
              · skip
                exfalso; omega
              · skip
                refine z_iconst (n := 1) hx hb dL_draws_325 ?_
                refine lv_goto (tgt := 330) hx hb dL_draws_326 (by decide) ?_
                exact w_zret hx hb hr hlk dL_draws_330 (by omega) hS ⟨rfl, F1, hF1, fun f hf => by rw [hF11, hE15 f hf, hB1], hXI⟩
            · skip
              refine lv_aload_n hx hb dL_draws_273 rfl (lv_at hl 0 rfl) ?_
              refine lv_iload_n hx hb dL_draws_274 rfl (lv_at hl 1 rfl) ?_
              refine lv_iload hx hb dL_draws_275 (lv_at hl 8 rfl) ?_
              refine z_bipush (n := 8) hx hb dL_draws_277 (by decide) ?_
              refine z_idiv hx hb dL_draws_279 (by omega) (by omega) ?_
              refine lv_iload hx hb dL_draws_280 (lv_at hl 8 rfl) ?_
              refine z_bipush (n := 8) hx hb dL_draws_282 (by decide) ?_
              refine z_irem hx hb dL_draws_284 (by omega) (by omega) ?_
              have hpE : 0 ≤ p ∧ p < E1.1 0 0 := by rw [hE15 0 (by decide), hB1]; exact hp
              have hE1k := hE1p k (by omega) (by omega) (by omega)
              have hpr := pixF_r hE1.1.1 hpE (r := k / 8) (t := k % 8) (by omega) (by omega)
              rw [hE1k] at hpr
              refine z_w (zrV (As := [.int (zI p), .int (zI (k / 8)), .int (zI (k % 8))]) (rest := []) ⟨hx, hb, hml, hown, hts⟩ (k_pixel l G cs a E1 p (k / 8) (k % 8) ia hE1 (by omega) (by omega) (by omega)) gL_draws_X6_pixel rfl qX6_pixel rfl rfl ⟨Nat.le_of_ble_eq_true rfl, Nat.le_of_ble_eq_true rfl⟩ hXI hK (va_recv hK.1 hXI.xo (ci := 6) (q0 := 0) rfl rfl) hl.1 rfl (Nat.le_of_ble_eq_true rfl) dL_draws_285 ⟨Nat.le_of_ble_eq_true rfl, Nat.le_of_ble_eq_true rfl⟩) hS (fun q h => Or.inl h) (fun q h => Or.inl h) (fun v H locs hpost hle hk hS => ?_)
              obtain ⟨rfl, hXI⟩ := hpost
              have hPa := keepO (Ord.of (b := (sh u 0)) (n := 1) rfl) hPa hk (fun j hj h9 => by obtain ⟨i9, h1, h2, h3⟩ := h9; exact hau i9 h2 (by rw [show j = 0 by omega] at h3; exact h3.symm))
              refine z_topi (b := V k) hE1k ?_
              refine lv_aload hx hb dL_draws_288 (lv_at hl 4 rfl) ?_
              refine lv_iload hx hb dL_draws_290 (lv_at hl 8 rfl) ?_
              refine z_iald hx hb hK.1 hPa 0 0 (F := V) rfl rfl (by omega) (by decide) dL_draws_292 ?_
              refine z_icmp_eq (tgt := 298) hx hb dL_draws_293 (by decide) (by omega) (by omega) (fun c108 => ?_) (fun c108 => ?_)
              · skip
                refine z_iinc (k := 8) (lv' := [(8, .int (zI (k + 1))), (0, .ref (a 0)), (1, .int (zI p)), (2, .int (zI g)), (3, .int (zI h)), (4, .ref ((sh u 0) 0)), (5, .int (zI (1 + lowF g 4))), (6, .int (zI B.2.2.1.1)), (7, .int (zI 1))]) hx hb dL_draws_298 hl rfl (by decide) rfl (fun ls hl => ?_)
                refine lv_goto (tgt := 263) hx hb dL_draws_301 (by decide) ?_
                exact ih (k + 1) H locs ⟨(by omega), hXI, hPa⟩ hS (by omega) ls (lv_sub hl [1, 2, 3, 4, 5, 6, 7, 8, 0] rfl)
              · skip
                exfalso; omega
          · skip
            exfalso; omega
      · skip
        refine lv_iload hx hb dL_draws_63 (lv_at hl 8 rfl) ?_
        refine z_if_le (tgt := 91) hx hb dL_draws_65 (by decide) (by omega) (fun c109 => ?_) (fun c109 => ?_)
        · skip
          refine z_iconst (n := 0) hx hb dL_draws_91 ?_
          refine lv_istore (lv' := [(9, .int (zI 0)), (0, .ref (a 0)), (1, .int (zI p)), (2, .int (zI g)), (3, .int (zI h)), (4, .ref ((sh u 0) 0)), (5, .int (zI (1 + lowF g 4))), (6, .int (zI B.2.2.1.1)), (7, .int (zI 1)), (8, .int (zI r))]) hx hb dL_draws_92 hl (by decide) rfl (fun ls hl => ?_)
          -- loop 94
          have hR2 : RD B.2.2.1.2 B.2.2.1.1 r 0 V 0 0 0 := by rcases hRD with h9 | h9; rw [h9.1]; exact h9.2; exact absurd h9.1 (by omega)
          refine z_loopH (nL := 13) (fun ((c, D, W) : Int × AS × (Int → Int)) => [(0, .ref (a 0)), (1, .int (zI p)), (2, .int (zI g)), (3, .int (zI h)), (4, .ref ((sh u 0) 0)), (5, .int (zI (1 + lowF g 4))), (6, .int (zI D.2.2.1.1)), (7, .int (zI 1)), (8, .int (zI r)), (9, .int (zI c))]) (fun ((c, D, W) : Int × AS × (Int → Int)) (H : Heap) => ((0 ≤ c ∧ c ≤ 8) ∧ (GA D ∧ D.1 = A.1) ∧ (0 ≤ D.2.2.1.1 ∧ D.2.2.1.1 ≤ 51 ∧ (c = 8 → D.2.2.1.1 ≤ 50)) ∧ ∃ b4 v, RD D.2.2.1.2 D.2.2.1.1 r c W b4 0 v) ∧ XI G cs a a D H ∧ va_P G vwCl ([((sh u 0) 0, .inl (cs 0, 64, .inl (aI W)))]) H) (fun ((c, D, W) : Int × AS × (Int → Int)) => (8 - c).toNat) ((0 : Int), B, V) ⟨⟨by omega, ⟨hB, hB1⟩, by omega, 0, 0, hR2⟩, hXI, hPa⟩ hS (lv_sub hl [1, 2, 3, 4, 5, 6, 7, 8, 9, 0] rfl) (fun x_ H locs hIH hS ih ls hl => ?_)
          obtain ⟨c, D, W⟩ := x_
          obtain ⟨hI, hXI, hPa⟩ := hIH
          have hI : (0 ≤ c ∧ c ≤ 8) ∧ (GA D ∧ D.1 = A.1) ∧ (0 ≤ D.2.2.1.1 ∧ D.2.2.1.1 ≤ 51 ∧ (c = 8 → D.2.2.1.1 ≤ 50)) ∧ ∃ b4 v, RD D.2.2.1.2 D.2.2.1.1 r c W b4 0 v := hI
          have hXI : XI G cs a a D H := hXI
          have hPa : va_P G vwCl ([((sh u 0) 0, .inl (cs 0, 64, .inl (aI W)))]) H := hPa
          have hl : lv_has ls 13 [(0, .ref (a 0)), (1, .int (zI p)), (2, .int (zI g)), (3, .int (zI h)), (4, .ref ((sh u 0) 0)), (5, .int (zI (1 + lowF g 4))), (6, .int (zI D.2.2.1.1)), (7, .int (zI 1)), (8, .int (zI r)), (9, .int (zI c))] := hl
          have ih2 := ih
          obtain ⟨hI, ⟨hD, hD1⟩, hDl, b4, v, hR⟩ := hI
          refine lv_iload hx hb dL_draws_94 (lv_at hl 9 rfl) ?_
          refine z_bipush (n := 8) hx hb dL_draws_96 (by decide) ?_
          refine z_icmp_ge (tgt := 237) hx hb dL_draws_98 (by decide) (by omega) (by omega) (fun c110 => ?_) (fun c110 => ?_)
          · skip
            have ec : c = 8 := by omega
            subst ec
            refine z_iinc (k := 8) (lv' := [(8, .int (zI (r + 1))), (0, .ref (a 0)), (1, .int (zI p)), (2, .int (zI g)), (3, .int (zI h)), (4, .ref ((sh u 0) 0)), (5, .int (zI (1 + lowF g 4))), (6, .int (zI D.2.2.1.1)), (7, .int (zI 1)), (9, .int (zI (8 : Int)))]) hx hb dL_draws_237 hl rfl (by decide) rfl (fun ls hl => ?_)
            refine lv_goto (tgt := 56) hx hb dL_draws_240 (by decide) ?_
            exact ih1 (r + 1, D, W) H locs ⟨⟨by omega, ⟨hD, hD1⟩, by omega, Or.inr ⟨by omega, b4, v, by rw [show r + 1 - 1 = r by omega]; exact hR⟩⟩, hXI, hPa⟩ hS (by show (1 + lowF g 4 - (r + 1)).toNat < (1 + lowF g 4 - r).toNat; omega) ls (lv_sub hl [1, 2, 3, 4, 5, 6, 7, 8, 0] rfl)
          · skip
            refine lv_iload_n hx hb dL_draws_101 rfl (lv_at hl 2 rfl) ?_
            refine lv_iload hx hb dL_draws_102 (lv_at hl 9 rfl) ?_
            refine lv_ishr hx hb dL_draws_104 ?_
            refine z_top (v' := .int (zI (shF g c))) (shF_i _ _) ?_
            refine z_iconst (n := 4) hx hb dL_draws_105 ?_
            refine z_ro (zrSJ (As := [.int (zI (shF g c)), .int (zI 4)]) (rest := []) (Pw := fun _ => True) ⟨hx, hb, hml, hown, hts⟩ (c_L_low l G cs (shF g c) 4 (by omega)) gL_draws_L_low rfl qL_low rfl rfl ⟨Nat.le_of_ble_eq_true rfl, Nat.le_of_ble_eq_true rfl⟩ trivial hK hl.1 rfl (Nat.le_of_ble_eq_true rfl) dL_draws_106 ⟨Nat.le_of_ble_eq_true rfl, Nat.le_of_ble_eq_true rfl⟩) ?_
            refine lv_istore (lv' := [(10, .int (zI (lowF (shF g c) 4))), (0, .ref (a 0)), (1, .int (zI p)), (2, .int (zI g)), (3, .int (zI h)), (4, .ref ((sh u 0) 0)), (5, .int (zI (1 + lowF g 4))), (6, .int (zI D.2.2.1.1)), (7, .int (zI 1)), (8, .int (zI r)), (9, .int (zI c))]) hx hb dL_draws_109 hl (by decide) rfl (fun ls hl => ?_)
            refine z_iconst (n := 1) hx hb dL_draws_111 ?_
            refine lv_iload_n hx hb dL_draws_112 rfl (lv_at hl 4 rfl) ?_
            refine lv_iload hx hb dL_draws_113 (lv_at hl 9 rfl) ?_
            refine lv_iload hx hb dL_draws_115 (lv_at hl 10 rfl) ?_
            refine z_iadd hx hb dL_draws_117 ?_
            refine lv_ishr hx hb dL_draws_118 ?_
            refine z_top (v' := .int (zI (shF h (r + c)))) (shF_i _ _) ?_
            refine z_bipush (n := 8) hx hb dL_draws_119 (by decide) ?_
            refine lv_iload hx hb dL_draws_121 (lv_at hl 10 rfl) ?_
            refine z_isub hx hb dL_draws_123 ?_
            refine z_ro (zrSJ (As := [.int (zI (shF h (r + c))), .int (zI (8 - c))]) (rest := [.int (zI 1)]) (Pw := fun _ => True) ⟨hx, hb, hml, hown, hts⟩ (c_L_low l G cs (shF h (r + c)) (8 - c) (by omega)) gL_draws_L_low rfl qL_low rfl rfl ⟨Nat.le_of_ble_eq_true rfl, Nat.le_of_ble_eq_true rfl⟩ trivial hK hl.1 rfl (Nat.le_of_ble_eq_true rfl) dL_draws_124 ⟨Nat.le_of_ble_eq_true rfl, Nat.le_of_ble_eq_true rfl⟩) ?_
            refine z_iadd hx hb dL_draws_127 ?_
            refine lv_istore (lv' := [(11, .int (zI (1 + (lowF (shF h (r + c)) (8 - c))))), (10, .int (zI (lowF (shF g c) 4))), (0, .ref (a 0)), (1, .int (zI p)), (2, .int (zI g)), (3, .int (zI h)), (4, .ref ((sh u 0) 0)), (5, .int (zI (1 + lowF g 4))), (6, .int (zI D.2.2.1.1)), (7, .int (zI 1)), (8, .int (zI r)), (9, .int (zI c))]) hx hb dL_draws_128 hl (by decide) rfl (fun ls hl => ?_)
            have hpx := lowF_r (shF g c) (show (0 : Int) < 4 by decide)
            have hpx : 0 ≤ lowF (shF g c) 4 ∧ lowF (shF g c) 4 ≤ 3 := by omega
            have hnn := lowF_r (shF h (r + c)) (show (0 : Int) < 8 - c by omega)
            have hnn : 1 ≤ 1 + lowF (shF h (r + c)) (8 - c) ∧ 1 + lowF (shF h (r + c)) (8 - c) ≤ 8 - c := by omega
            generalize lowF (shF g c) 4 = px at hl hpx
            generalize 1 + lowF (shF h (r + c)) (8 - c) = n at hl hnn
            refine lv_aload_n hx hb dL_draws_130 rfl (lv_at hl 2 rfl) ?_
            refine lv_iload hx hb dL_draws_131 (lv_at hl 1 rfl) ?_
            refine z_if_ne (tgt := 141) hx hb dL_draws_133 (by decide) (by omega) (fun c111 => ?_) (fun c111 => ?_)
            · skip
              refine z_bipush (n := 48) hx hb dL_draws_141 (by decide) ?_
              refine lv_iload hx hb dL_draws_143 (lv_at hl 1 rfl) ?_
              refine z_iadd hx hb dL_draws_145 ?_
              refine lv_i2c (v := (zI (48 + px))) hx hb dL_draws_146 ((i2c_z _).trans (congrArg zI (by omega))) ?_
              obtain ⟨C1, eC1, hC1, hC11, hC1l, hC1x⟩ := type_ok hD (z := 48 + px) (by omega) (by omega)
              have hQ1 : RD C1.2.2.1.2 C1.2.2.1.1 r (c + 1) (fillV W (8 * r + c) n px) 1 0 px := by rw [hC1l, hC1x]; exact rd_pix hDl.1 (by omega) hpx (Or.inr ⟨by omega, rfl⟩) (fun k a b => fill_lo b) (fill_at (by omega) (by omega)) hR
              refine z_w (zrV (As := [.int (zI (48 + px))]) (rest := []) ⟨hx, hb, hml, hown, hts⟩ (k_type l G cs a D (48 + px) ia hD (nar_char (by omega))) gL_draws_X6_type rfl qX6_type rfl rfl ⟨Nat.le_of_ble_eq_true rfl, Nat.le_of_ble_eq_true rfl⟩ hXI hK (va_recv hK.1 hXI.xo (ci := 6) (q0 := 0) rfl rfl) hl.1 rfl (Nat.le_of_ble_eq_true rfl) dL_draws_147 ⟨Nat.le_of_ble_eq_true rfl, Nat.le_of_ble_eq_true rfl⟩) hS (fun q h => Or.inl h) (fun q h => Or.inl h) (fun v H locs hpost hle hk hS => ?_)
              obtain ⟨hv, hXI⟩ := hpost
              have hE : typeF D (48 + px) = (D.2.2.1.1 + 1, C1) := eC1
              have hv : v = .int (zI (D.2.2.1.1 + 1)) := by rw [hE] at hv; exact hv
              have hXI : XI G cs a a C1 H := by rw [hE] at hXI; exact hXI
              subst hv
              clear hE
              have hPa := keepO (Ord.of (b := (sh u 0)) (n := 1) rfl) hPa hk (fun j hj h9 => by obtain ⟨i9, h1, h2, h3⟩ := h9; exact hau i9 h2 (by rw [show j = 0 by omega] at h3; exact h3.symm))
              refine lv_istore (lv' := [(6, .int (zI (D.2.2.1.1 + 1))), (11, .int (zI n)), (10, .int (zI px)), (0, .ref (a 0)), (1, .int (zI p)), (2, .int (zI g)), (3, .int (zI h)), (4, .ref ((sh u 0) 0)), (5, .int (zI (1 + lowF g 4))), (7, .int (zI 1)), (8, .int (zI r)), (9, .int (zI c))]) hx hb dL_draws_150 hl (by decide) rfl (fun ls hl => ?_)
              refine lv_iload hx hb dL_draws_152 (lv_at hl 1 rfl) ?_
              refine z_iconst (n := 1) hx hb dL_draws_154 ?_
              refine z_icmp_le (tgt := 193) hx hb dL_draws_155 (by decide) (by omega) (by omega) (fun c112 => ?_) (fun c112 => ?_)
              · skip
                refine z_iconst (n := 0) hx hb dL_draws_193 ?_
                refine lv_istore (lv' := [(12, .int (zI 0)), (6, .int (zI (D.2.2.1.1 + 1))), (11, .int (zI n)), (10, .int (zI px)), (0, .ref (a 0)), (1, .int (zI p)), (2, .int (zI g)), (3, .int (zI h)), (4, .ref ((sh u 0) 0)), (5, .int (zI (1 + lowF g 4))), (7, .int (zI 1)), (8, .int (zI r)), (9, .int (zI c))]) hx hb dL_draws_194 hl (by decide) rfl (fun ls hl => ?_)
                -- loop 196
                refine z_loopH (nL := 13) (fun (i : Int) => [(0, .ref (a 0)), (1, .int (zI p)), (2, .int (zI g)), (3, .int (zI h)), (4, .ref ((sh u 0) 0)), (5, .int (zI (1 + lowF g 4))), (6, .int (zI (D.2.2.1.1 + 1))), (7, .int (zI 1)), (8, .int (zI r)), (9, .int (zI (c + i))), (10, .int (zI px)), (11, .int (zI n)), (12, .int (zI i))]) (fun (i : Int) (H : Heap) => (0 ≤ i ∧ i ≤ n) ∧ XI G cs a a C1 H ∧ va_P G vwCl ([((sh u 0) 0, .inl (cs 0, 64, .inl (aI (fillV W (8 * r + c) i px))))]) H) (fun (i : Int) => (n - i).toNat) (0 : Int) ⟨(by omega), hXI, (by rw [fill_0]; exact hPa)⟩ hS (by show lv_has ls 13 [(0, .ref (a 0)), (1, .int (zI p)), (2, .int (zI g)), (3, .int (zI h)), (4, .ref ((sh u 0) 0)), (5, .int (zI (1 + lowF g 4))), (6, .int (zI (D.2.2.1.1 + 1))), (7, .int (zI 1)), (8, .int (zI r)), (9, .int (zI (c + (0 : Int)))), (10, .int (zI px)), (11, .int (zI n)), (12, .int (zI (0 : Int)))]; rw [Int.add_zero]; exact lv_sub hl [4, 5, 6, 7, 8, 9, 1, 10, 11, 12, 3, 2, 0] rfl) (fun i H locs hIH hS ih ls hl => ?_)
                obtain ⟨hI, hXI, hPa⟩ := hIH
                have hl : lv_has ls 13 [(0, .ref (a 0)), (1, .int (zI p)), (2, .int (zI g)), (3, .int (zI h)), (4, .ref ((sh u 0) 0)), (5, .int (zI (1 + lowF g 4))), (6, .int (zI (D.2.2.1.1 + 1))), (7, .int (zI 1)), (8, .int (zI r)), (9, .int (zI (c + i))), (10, .int (zI px)), (11, .int (zI n)), (12, .int (zI i))] := hl
                refine lv_iload hx hb dL_draws_196 (lv_at hl 12 rfl) ?_
                refine lv_iload hx hb dL_draws_198 (lv_at hl 11 rfl) ?_
                refine z_icmp_ge (tgt := 225) hx hb dL_draws_200 (by decide) (by omega) (by omega) (fun c113 => ?_) (fun c113 => ?_)
                · skip
                  have ei : n = i := by omega
                  subst ei
                  refine lv_iload hx hb dL_draws_225 (lv_at hl 6 rfl) ?_
                  refine z_bipush (n := 50) hx hb dL_draws_227 (by decide) ?_
                  refine z_icmp_le (tgt := 234) hx hb dL_draws_229 (by decide) (by omega) (by omega) (fun c114 => ?_) (fun c114 => ?_)
                  · skip
                    refine lv_goto (tgt := 94) hx hb dL_draws_234 (by decide) ?_
                    exact ih2 (c + n, C1, fillV W (8 * r + c) n px) H locs ⟨⟨by omega, ⟨hC1, hC11.trans hD1⟩, by omega, 1, px, by rw [show c + n = c + 1 by omega]; exact hQ1⟩, hXI, hPa⟩ hS (by show (8 - (c + n)).toNat < (8 - c).toNat; omega) ls (by show lv_has ls 13 [(0, .ref (a 0)), (1, .int (zI p)), (2, .int (zI g)), (3, .int (zI h)), (4, .ref ((sh u 0) 0)), (5, .int (zI (1 + lowF g 4))), (6, .int (zI C1.2.2.1.1)), (7, .int (zI 1)), (8, .int (zI r)), (9, .int (zI (c + n)))]; rw [hC1l]; exact lv_sub hl [0, 1, 2, 3, 4, 5, 6, 7, 8, 9] rfl)
                  · skip
                    refine z_iconst (n := 1) hx hb dL_draws_232 ?_
                    exact w_zret hx hb hr hlk dL_draws_233 (by omega) hS ⟨rfl, C1, hC1, fun f _ => by rw [hC11, hD1], hXI⟩
                · skip
                  refine lv_aload hx hb dL_draws_203 (lv_at hl 4 rfl) ?_
                  refine z_bipush (n := 8) hx hb dL_draws_205 (by decide) ?_
                  refine lv_iload hx hb dL_draws_207 (lv_at hl 8 rfl) ?_
                  refine z_imul hx hb dL_draws_209 ?_
                  refine lv_iload hx hb dL_draws_210 (lv_at hl 9 rfl) ?_
                  refine z_iadd hx hb dL_draws_212 ?_
                  refine lv_iload hx hb dL_draws_213 (lv_at hl 10 rfl) ?_
                  refine z_iast hx hb hK.1 hPa (Ord.D (Ord.of (b := (sh u 0)) (n := 1) rfl) inj1) hS 0 0 (F := (fillV W (8 * r + c) i px)) rfl rfl (by omega) (by decide) (Or.inr (Nat.le_refl _)) dL_draws_215 (fun H locs hP1 hle hk hS => ?_)
                  have hXI : XI G cs a a C1 H := hXI.kp (by assumption) hk (fun i hi h9 => hau i hi h9)
                  have hPa : va_P G vwCl ([((sh u 0) 0, .inl (cs 0, 64, .inl (aI (updZ (fillV W (8 * r + c) i px) ((8 * r) + (c + i)) px))))]) H := hP1
                  refine z_iinc (k := 9) (lv' := [(9, .int (zI ((c + i) + 1))), (0, .ref (a 0)), (1, .int (zI p)), (2, .int (zI g)), (3, .int (zI h)), (4, .ref ((sh u 0) 0)), (5, .int (zI (1 + lowF g 4))), (6, .int (zI (D.2.2.1.1 + 1))), (7, .int (zI 1)), (8, .int (zI r)), (10, .int (zI px)), (11, .int (zI n)), (12, .int (zI i))]) hx hb dL_draws_216 hl rfl (by decide) rfl (fun ls hl => ?_)
                  refine z_iinc (k := 12) (lv' := [(12, .int (zI (i + 1))), (9, .int (zI ((c + i) + 1))), (0, .ref (a 0)), (1, .int (zI p)), (2, .int (zI g)), (3, .int (zI h)), (4, .ref ((sh u 0) 0)), (5, .int (zI (1 + lowF g 4))), (6, .int (zI (D.2.2.1.1 + 1))), (7, .int (zI 1)), (8, .int (zI r)), (10, .int (zI px)), (11, .int (zI n))]) hx hb dL_draws_219 hl rfl (by decide) rfl (fun ls hl => ?_)
                  refine lv_goto (tgt := 196) hx hb dL_draws_222 (by decide) ?_
                  have hb1 : c + (i + 1) = c + i + 1 := by omega
                  exact ih (i + 1) H locs ⟨(by omega), hXI, (by rw [← fill_s hI.1, show 8 * r + c + i = 8 * r + (c + i) by omega]; exact hPa)⟩ hS (by omega) ls (by show lv_has ls 13 [(0, .ref (a 0)), (1, .int (zI p)), (2, .int (zI g)), (3, .int (zI h)), (4, .ref ((sh u 0) 0)), (5, .int (zI (1 + lowF g 4))), (6, .int (zI (D.2.2.1.1 + 1))), (7, .int (zI 1)), (8, .int (zI r)), (9, .int (zI (c + (i + 1)))), (10, .int (zI px)), (11, .int (zI n)), (12, .int (zI (i + 1)))]; rw [hb1]; exact lv_sub hl [2, 3, 4, 5, 6, 7, 8, 9, 10, 1, 11, 12, 0] rfl)
              · skip
                refine lv_aload_n hx hb dL_draws_158 rfl (lv_at hl 3 rfl) ?_
                refine z_bipush (n := 120) hx hb dL_draws_159 (by decide) ?_
                obtain ⟨C2, eC2, hC2, hC21, hC2l, hC2x⟩ := type_ok hC1 (z := 120) (by omega) (by decide)
                have hC2m : C2.2.2.1.1 = D.2.2.1.1 + 2 := by omega
                have hQ2 : RD C2.2.2.1.2 C2.2.2.1.1 r (c + 1) (fillV W (8 * r + c) n px) 0 1 px := by rw [hC2l, hC2x]; exact rd_x (by omega) hQ1
                refine z_w (zrV (As := [.int (zI 120)]) (rest := []) ⟨hx, hb, hml, hown, hts⟩ (k_type l G cs a C1 120 ia hC1 (nar_char (by decide))) gL_draws_X6_type rfl qX6_type rfl rfl ⟨Nat.le_of_ble_eq_true rfl, Nat.le_of_ble_eq_true rfl⟩ hXI hK (va_recv hK.1 hXI.xo (ci := 6) (q0 := 0) rfl rfl) hl.1 rfl (Nat.le_of_ble_eq_true rfl) dL_draws_161 ⟨Nat.le_of_ble_eq_true rfl, Nat.le_of_ble_eq_true rfl⟩) hS (fun q h => Or.inl h) (fun q h => Or.inl h) (fun v H locs hpost hle hk hS => ?_)
                obtain ⟨hv, hXI⟩ := hpost
                have hE : typeF C1 120 = (D.2.2.1.1 + 2, C2) := (by rw [eC2, show C1.2.2.1.1 + 1 = D.2.2.1.1 + 2 by omega])
                have hv : v = .int (zI (D.2.2.1.1 + 2)) := by rw [hE] at hv; exact hv
                have hXI : XI G cs a a C2 H := by rw [hE] at hXI; exact hXI
                subst hv
                clear hE
                have hPa := keepO (Ord.of (b := (sh u 0)) (n := 1) rfl) hPa hk (fun j hj h9 => by obtain ⟨i9, h1, h2, h3⟩ := h9; exact hau i9 h2 (by rw [show j = 0 by omega] at h3; exact h3.symm))
                refine lv_istore (lv' := [(6, .int (zI (D.2.2.1.1 + 2))), (11, .int (zI n)), (10, .int (zI px)), (0, .ref (a 0)), (1, .int (zI p)), (2, .int (zI g)), (3, .int (zI h)), (4, .ref ((sh u 0) 0)), (5, .int (zI (1 + lowF g 4))), (7, .int (zI 1)), (8, .int (zI r)), (9, .int (zI c))]) hx hb dL_draws_164 hl (by decide) rfl (fun ls hl => ?_)
                refine lv_aload_n hx hb dL_draws_166 rfl (lv_at hl 3 rfl) ?_
                refine lv_iload_n hx hb dL_draws_167 rfl (lv_at hl 4 rfl) ?_
                refine z_w (zrV (As := [.int (zI p)]) (rest := []) ⟨hx, hb, hml, hown, hts⟩ (k_draw l G cs a C2 p ia hC2 (by omega)) gL_draws_X6_draw rfl qX6_draw rfl rfl ⟨Nat.le_of_ble_eq_true rfl, Nat.le_of_ble_eq_true rfl⟩ hXI hK (va_recv hK.1 hXI.xo (ci := 6) (q0 := 0) rfl rfl) hl.1 rfl (Nat.le_of_ble_eq_true rfl) dL_draws_168 ⟨Nat.le_of_ble_eq_true rfl, Nat.le_of_ble_eq_true rfl⟩) hS (fun q h => Or.inl h) (fun q h => Or.inl h) (fun v H locs hpost hle hk hS => ?_)
                obtain ⟨hv, hXI⟩ := hpost
                have hE : drawF C2 p = (-100 - (D.2.2.1.1 + 2), C2) := ((draw_len hC2 (by rw [hC21, hC11, hD1]; exact hp) (Or.inl rfl) hQ2).trans (by rw [hC2m]))
                have hv : v = .int (zI (-100 - (D.2.2.1.1 + 2))) := by rw [hE] at hv; exact hv
                have hXI : XI G cs a a C2 H := by rw [hE] at hXI; exact hXI
                subst hv
                clear hE
                have hPa := keepO (Ord.of (b := (sh u 0)) (n := 1) rfl) hPa hk (fun j hj h9 => by obtain ⟨i9, h1, h2, h3⟩ := h9; exact hau i9 h2 (by rw [show j = 0 by omega] at h3; exact h3.symm))
                refine z_bipush (n := -100) hx hb dL_draws_171 (by decide) ?_
                refine lv_iload hx hb dL_draws_173 (lv_at hl 0 rfl) ?_
                refine z_isub hx hb dL_draws_175 ?_
                refine z_icmp_eq (tgt := 181) hx hb dL_draws_176 (by decide) (by omega) (by omega) (fun c115 => ?_) (fun c115 => ?_)
                · skip
                  refine lv_aload_n hx hb dL_draws_181 rfl (lv_at hl 3 rfl) ?_
                  refine z_bipush (n := 48) hx hb dL_draws_182 (by decide) ?_
                  refine lv_iload hx hb dL_draws_184 (lv_at hl 1 rfl) ?_
                  refine z_iadd hx hb dL_draws_186 ?_
                  refine lv_i2c (v := (zI (48 + n))) hx hb dL_draws_187 ((i2c_z _).trans (congrArg zI (by omega))) ?_
                  obtain ⟨C3, eC3, hC3, hC31, hC3l, hC3x⟩ := type_ok hC2 (z := 48 + n) (by omega) (by omega)
                  have hC3m : C3.2.2.1.1 = D.2.2.1.1 + 3 := by omega
                  have hQ3 : RD C3.2.2.1.2 C3.2.2.1.1 r (c + n) (fillV W (8 * r + c) n px) 0 0 px := by rw [hC3l, hC3x]; have h9 := rd_dig (n := n) (V2 := fillV W (8 * r + c) n px) (by omega) hpx (by omega) (by omega) (fun k a b => rfl) (fun k a b => fill_at (by omega) (by omega)) hQ2; rw [show c + 1 + (n - 1) = c + n by omega] at h9; exact h9
                  refine z_w (zrV (As := [.int (zI (48 + n))]) (rest := []) ⟨hx, hb, hml, hown, hts⟩ (k_type l G cs a C2 (48 + n) ia hC2 (nar_char (by omega))) gL_draws_X6_type rfl qX6_type rfl rfl ⟨Nat.le_of_ble_eq_true rfl, Nat.le_of_ble_eq_true rfl⟩ hXI hK (va_recv hK.1 hXI.xo (ci := 6) (q0 := 0) rfl rfl) hl.1 rfl (Nat.le_of_ble_eq_true rfl) dL_draws_188 ⟨Nat.le_of_ble_eq_true rfl, Nat.le_of_ble_eq_true rfl⟩) hS (fun q h => Or.inl h) (fun q h => Or.inl h) (fun v H locs hpost hle hk hS => ?_)
                  obtain ⟨hv, hXI⟩ := hpost
                  have hE : typeF C2 (48 + n) = (D.2.2.1.1 + 3, C3) := (by rw [eC3, show C2.2.2.1.1 + 1 = D.2.2.1.1 + 3 by omega])
                  have hv : v = .int (zI (D.2.2.1.1 + 3)) := by rw [hE] at hv; exact hv
                  have hXI : XI G cs a a C3 H := by rw [hE] at hXI; exact hXI
                  subst hv
                  clear hE
                  have hPa := keepO (Ord.of (b := (sh u 0)) (n := 1) rfl) hPa hk (fun j hj h9 => by obtain ⟨i9, h1, h2, h3⟩ := h9; exact hau i9 h2 (by rw [show j = 0 by omega] at h3; exact h3.symm))
                  refine lv_istore (lv' := [(6, .int (zI (D.2.2.1.1 + 3))), (11, .int (zI n)), (10, .int (zI px)), (0, .ref (a 0)), (1, .int (zI p)), (2, .int (zI g)), (3, .int (zI h)), (4, .ref ((sh u 0) 0)), (5, .int (zI (1 + lowF g 4))), (7, .int (zI 1)), (8, .int (zI r)), (9, .int (zI c))]) hx hb dL_draws_191 hl (by decide) rfl (fun ls hl => ?_)
                  refine z_iconst (n := 0) hx hb dL_draws_193 ?_
                  refine lv_istore (lv' := [(12, .int (zI 0)), (6, .int (zI (D.2.2.1.1 + 3))), (11, .int (zI n)), (10, .int (zI px)), (0, .ref (a 0)), (1, .int (zI p)), (2, .int (zI g)), (3, .int (zI h)), (4, .ref ((sh u 0) 0)), (5, .int (zI (1 + lowF g 4))), (7, .int (zI 1)), (8, .int (zI r)), (9, .int (zI c))]) hx hb dL_draws_194 hl (by decide) rfl (fun ls hl => ?_)
                  -- loop 196
                  refine z_loopH (nL := 13) (fun (i : Int) => [(0, .ref (a 0)), (1, .int (zI p)), (2, .int (zI g)), (3, .int (zI h)), (4, .ref ((sh u 0) 0)), (5, .int (zI (1 + lowF g 4))), (6, .int (zI (D.2.2.1.1 + 3))), (7, .int (zI 1)), (8, .int (zI r)), (9, .int (zI (c + i))), (10, .int (zI px)), (11, .int (zI n)), (12, .int (zI i))]) (fun (i : Int) (H : Heap) => (0 ≤ i ∧ i ≤ n) ∧ XI G cs a a C3 H ∧ va_P G vwCl ([((sh u 0) 0, .inl (cs 0, 64, .inl (aI (fillV W (8 * r + c) i px))))]) H) (fun (i : Int) => (n - i).toNat) (0 : Int) ⟨(by omega), hXI, (by rw [fill_0]; exact hPa)⟩ hS (by show lv_has ls 13 [(0, .ref (a 0)), (1, .int (zI p)), (2, .int (zI g)), (3, .int (zI h)), (4, .ref ((sh u 0) 0)), (5, .int (zI (1 + lowF g 4))), (6, .int (zI (D.2.2.1.1 + 3))), (7, .int (zI 1)), (8, .int (zI r)), (9, .int (zI (c + (0 : Int)))), (10, .int (zI px)), (11, .int (zI n)), (12, .int (zI (0 : Int)))]; rw [Int.add_zero]; exact lv_sub hl [4, 5, 6, 7, 8, 9, 1, 10, 11, 12, 3, 2, 0] rfl) (fun i H locs hIH hS ih ls hl => ?_)
                  obtain ⟨hI, hXI, hPa⟩ := hIH
                  have hl : lv_has ls 13 [(0, .ref (a 0)), (1, .int (zI p)), (2, .int (zI g)), (3, .int (zI h)), (4, .ref ((sh u 0) 0)), (5, .int (zI (1 + lowF g 4))), (6, .int (zI (D.2.2.1.1 + 3))), (7, .int (zI 1)), (8, .int (zI r)), (9, .int (zI (c + i))), (10, .int (zI px)), (11, .int (zI n)), (12, .int (zI i))] := hl
                  refine lv_iload hx hb dL_draws_196 (lv_at hl 12 rfl) ?_
                  refine lv_iload hx hb dL_draws_198 (lv_at hl 11 rfl) ?_
                  refine z_icmp_ge (tgt := 225) hx hb dL_draws_200 (by decide) (by omega) (by omega) (fun c116 => ?_) (fun c116 => ?_)
                  · skip
                    have ei : n = i := by omega
                    subst ei
                    refine lv_iload hx hb dL_draws_225 (lv_at hl 6 rfl) ?_
                    refine z_bipush (n := 50) hx hb dL_draws_227 (by decide) ?_
                    refine z_icmp_le (tgt := 234) hx hb dL_draws_229 (by decide) (by omega) (by omega) (fun c117 => ?_) (fun c117 => ?_)
                    · skip
                      refine lv_goto (tgt := 94) hx hb dL_draws_234 (by decide) ?_
                      exact ih2 (c + n, C3, fillV W (8 * r + c) n px) H locs ⟨⟨by omega, ⟨hC3, hC31.trans (hC21.trans (hC11.trans hD1))⟩, by omega, 0, px, hQ3⟩, hXI, hPa⟩ hS (by show (8 - (c + n)).toNat < (8 - c).toNat; omega) ls (by show lv_has ls 13 [(0, .ref (a 0)), (1, .int (zI p)), (2, .int (zI g)), (3, .int (zI h)), (4, .ref ((sh u 0) 0)), (5, .int (zI (1 + lowF g 4))), (6, .int (zI C3.2.2.1.1)), (7, .int (zI 1)), (8, .int (zI r)), (9, .int (zI (c + n)))]; rw [hC3m]; exact lv_sub hl [0, 1, 2, 3, 4, 5, 6, 7, 8, 9] rfl)
                    · skip
                      refine z_iconst (n := 1) hx hb dL_draws_232 ?_
                      exact w_zret hx hb hr hlk dL_draws_233 (by omega) hS ⟨rfl, C3, hC3, fun f _ => by rw [hC31, hC21, hC11, hD1], hXI⟩
                  · skip
                    refine lv_aload hx hb dL_draws_203 (lv_at hl 4 rfl) ?_
                    refine z_bipush (n := 8) hx hb dL_draws_205 (by decide) ?_
                    refine lv_iload hx hb dL_draws_207 (lv_at hl 8 rfl) ?_
                    refine z_imul hx hb dL_draws_209 ?_
                    refine lv_iload hx hb dL_draws_210 (lv_at hl 9 rfl) ?_
                    refine z_iadd hx hb dL_draws_212 ?_
                    refine lv_iload hx hb dL_draws_213 (lv_at hl 10 rfl) ?_
                    refine z_iast hx hb hK.1 hPa (Ord.D (Ord.of (b := (sh u 0)) (n := 1) rfl) inj1) hS 0 0 (F := (fillV W (8 * r + c) i px)) rfl rfl (by omega) (by decide) (Or.inr (Nat.le_refl _)) dL_draws_215 (fun H locs hP1 hle hk hS => ?_)
                    have hXI : XI G cs a a C3 H := hXI.kp (by assumption) hk (fun i hi h9 => hau i hi h9)
                    have hPa : va_P G vwCl ([((sh u 0) 0, .inl (cs 0, 64, .inl (aI (updZ (fillV W (8 * r + c) i px) ((8 * r) + (c + i)) px))))]) H := hP1
                    refine z_iinc (k := 9) (lv' := [(9, .int (zI ((c + i) + 1))), (0, .ref (a 0)), (1, .int (zI p)), (2, .int (zI g)), (3, .int (zI h)), (4, .ref ((sh u 0) 0)), (5, .int (zI (1 + lowF g 4))), (6, .int (zI (D.2.2.1.1 + 3))), (7, .int (zI 1)), (8, .int (zI r)), (10, .int (zI px)), (11, .int (zI n)), (12, .int (zI i))]) hx hb dL_draws_216 hl rfl (by decide) rfl (fun ls hl => ?_)
                    refine z_iinc (k := 12) (lv' := [(12, .int (zI (i + 1))), (9, .int (zI ((c + i) + 1))), (0, .ref (a 0)), (1, .int (zI p)), (2, .int (zI g)), (3, .int (zI h)), (4, .ref ((sh u 0) 0)), (5, .int (zI (1 + lowF g 4))), (6, .int (zI (D.2.2.1.1 + 3))), (7, .int (zI 1)), (8, .int (zI r)), (10, .int (zI px)), (11, .int (zI n))]) hx hb dL_draws_219 hl rfl (by decide) rfl (fun ls hl => ?_)
                    refine lv_goto (tgt := 196) hx hb dL_draws_222 (by decide) ?_
                    have hb1 : c + (i + 1) = c + i + 1 := by omega
                    exact ih (i + 1) H locs ⟨(by omega), hXI, (by rw [← fill_s hI.1, show 8 * r + c + i = 8 * r + (c + i) by omega]; exact hPa)⟩ hS (by omega) ls (by show lv_has ls 13 [(0, .ref (a 0)), (1, .int (zI p)), (2, .int (zI g)), (3, .int (zI h)), (4, .ref ((sh u 0) 0)), (5, .int (zI (1 + lowF g 4))), (6, .int (zI (D.2.2.1.1 + 3))), (7, .int (zI 1)), (8, .int (zI r)), (9, .int (zI (c + (i + 1)))), (10, .int (zI px)), (11, .int (zI n)), (12, .int (zI (i + 1)))]; rw [hb1]; exact lv_sub hl [2, 3, 4, 5, 6, 7, 8, 9, 10, 1, 11, 12, 0] rfl)
                · skip
                  exfalso; omega
            · skip
              refine z_bipush (n := 46) hx hb dL_draws_136 (by decide) ?_
              refine lv_goto (tgt := 147) hx hb dL_draws_138 (by decide) ?_
              obtain ⟨C1, eC1, hC1, hC11, hC1l, hC1x⟩ := type_ok hD (z := 46) (by omega) (by omega)
              have hQ1 : RD C1.2.2.1.2 C1.2.2.1.1 r (c + 1) (fillV W (8 * r + c) n px) 1 0 px := by rw [hC1l, hC1x]; exact rd_pix hDl.1 (by omega) hpx (Or.inl ⟨by omega, rfl⟩) (fun k a b => fill_lo b) (fill_at (by omega) (by omega)) hR
              refine z_w (zrV (As := [.int (zI 46)]) (rest := []) ⟨hx, hb, hml, hown, hts⟩ (k_type l G cs a D 46 ia hD (nar_char (by omega))) gL_draws_X6_type rfl qX6_type rfl rfl ⟨Nat.le_of_ble_eq_true rfl, Nat.le_of_ble_eq_true rfl⟩ hXI hK (va_recv hK.1 hXI.xo (ci := 6) (q0 := 0) rfl rfl) hl.1 rfl (Nat.le_of_ble_eq_true rfl) dL_draws_147 ⟨Nat.le_of_ble_eq_true rfl, Nat.le_of_ble_eq_true rfl⟩) hS (fun q h => Or.inl h) (fun q h => Or.inl h) (fun v H locs hpost hle hk hS => ?_)
              obtain ⟨hv, hXI⟩ := hpost
              have hE : typeF D 46 = (D.2.2.1.1 + 1, C1) := eC1
              have hv : v = .int (zI (D.2.2.1.1 + 1)) := by rw [hE] at hv; exact hv
              have hXI : XI G cs a a C1 H := by rw [hE] at hXI; exact hXI
              subst hv
              clear hE
              have hPa := keepO (Ord.of (b := (sh u 0)) (n := 1) rfl) hPa hk (fun j hj h9 => by obtain ⟨i9, h1, h2, h3⟩ := h9; exact hau i9 h2 (by rw [show j = 0 by omega] at h3; exact h3.symm))
              refine lv_istore (lv' := [(6, .int (zI (D.2.2.1.1 + 1))), (11, .int (zI n)), (10, .int (zI px)), (0, .ref (a 0)), (1, .int (zI p)), (2, .int (zI g)), (3, .int (zI h)), (4, .ref ((sh u 0) 0)), (5, .int (zI (1 + lowF g 4))), (7, .int (zI 1)), (8, .int (zI r)), (9, .int (zI c))]) hx hb dL_draws_150 hl (by decide) rfl (fun ls hl => ?_)
              refine lv_iload hx hb dL_draws_152 (lv_at hl 1 rfl) ?_
              refine z_iconst (n := 1) hx hb dL_draws_154 ?_
              refine z_icmp_le (tgt := 193) hx hb dL_draws_155 (by decide) (by omega) (by omega) (fun c118 => ?_) (fun c118 => ?_)
              · skip
                refine z_iconst (n := 0) hx hb dL_draws_193 ?_
                refine lv_istore (lv' := [(12, .int (zI 0)), (6, .int (zI (D.2.2.1.1 + 1))), (11, .int (zI n)), (10, .int (zI px)), (0, .ref (a 0)), (1, .int (zI p)), (2, .int (zI g)), (3, .int (zI h)), (4, .ref ((sh u 0) 0)), (5, .int (zI (1 + lowF g 4))), (7, .int (zI 1)), (8, .int (zI r)), (9, .int (zI c))]) hx hb dL_draws_194 hl (by decide) rfl (fun ls hl => ?_)
                -- loop 196
                refine z_loopH (nL := 13) (fun (i : Int) => [(0, .ref (a 0)), (1, .int (zI p)), (2, .int (zI g)), (3, .int (zI h)), (4, .ref ((sh u 0) 0)), (5, .int (zI (1 + lowF g 4))), (6, .int (zI (D.2.2.1.1 + 1))), (7, .int (zI 1)), (8, .int (zI r)), (9, .int (zI (c + i))), (10, .int (zI px)), (11, .int (zI n)), (12, .int (zI i))]) (fun (i : Int) (H : Heap) => (0 ≤ i ∧ i ≤ n) ∧ XI G cs a a C1 H ∧ va_P G vwCl ([((sh u 0) 0, .inl (cs 0, 64, .inl (aI (fillV W (8 * r + c) i px))))]) H) (fun (i : Int) => (n - i).toNat) (0 : Int) ⟨(by omega), hXI, (by rw [fill_0]; exact hPa)⟩ hS (by show lv_has ls 13 [(0, .ref (a 0)), (1, .int (zI p)), (2, .int (zI g)), (3, .int (zI h)), (4, .ref ((sh u 0) 0)), (5, .int (zI (1 + lowF g 4))), (6, .int (zI (D.2.2.1.1 + 1))), (7, .int (zI 1)), (8, .int (zI r)), (9, .int (zI (c + (0 : Int)))), (10, .int (zI px)), (11, .int (zI n)), (12, .int (zI (0 : Int)))]; rw [Int.add_zero]; exact lv_sub hl [4, 5, 6, 7, 8, 9, 1, 10, 11, 12, 3, 2, 0] rfl) (fun i H locs hIH hS ih ls hl => ?_)
                obtain ⟨hI, hXI, hPa⟩ := hIH
                have hl : lv_has ls 13 [(0, .ref (a 0)), (1, .int (zI p)), (2, .int (zI g)), (3, .int (zI h)), (4, .ref ((sh u 0) 0)), (5, .int (zI (1 + lowF g 4))), (6, .int (zI (D.2.2.1.1 + 1))), (7, .int (zI 1)), (8, .int (zI r)), (9, .int (zI (c + i))), (10, .int (zI px)), (11, .int (zI n)), (12, .int (zI i))] := hl
                refine lv_iload hx hb dL_draws_196 (lv_at hl 12 rfl) ?_
                refine lv_iload hx hb dL_draws_198 (lv_at hl 11 rfl) ?_
                refine z_icmp_ge (tgt := 225) hx hb dL_draws_200 (by decide) (by omega) (by omega) (fun c119 => ?_) (fun c119 => ?_)
                · skip
                  have ei : n = i := by omega
                  subst ei
                  refine lv_iload hx hb dL_draws_225 (lv_at hl 6 rfl) ?_
                  refine z_bipush (n := 50) hx hb dL_draws_227 (by decide) ?_
                  refine z_icmp_le (tgt := 234) hx hb dL_draws_229 (by decide) (by omega) (by omega) (fun c120 => ?_) (fun c120 => ?_)
                  · skip
                    refine lv_goto (tgt := 94) hx hb dL_draws_234 (by decide) ?_
                    exact ih2 (c + n, C1, fillV W (8 * r + c) n px) H locs ⟨⟨by omega, ⟨hC1, hC11.trans hD1⟩, by omega, 1, px, by rw [show c + n = c + 1 by omega]; exact hQ1⟩, hXI, hPa⟩ hS (by show (8 - (c + n)).toNat < (8 - c).toNat; omega) ls (by show lv_has ls 13 [(0, .ref (a 0)), (1, .int (zI p)), (2, .int (zI g)), (3, .int (zI h)), (4, .ref ((sh u 0) 0)), (5, .int (zI (1 + lowF g 4))), (6, .int (zI C1.2.2.1.1)), (7, .int (zI 1)), (8, .int (zI r)), (9, .int (zI (c + n)))]; rw [hC1l]; exact lv_sub hl [0, 1, 2, 3, 4, 5, 6, 7, 8, 9] rfl)
                  · skip
                    refine z_iconst (n := 1) hx hb dL_draws_232 ?_
                    exact w_zret hx hb hr hlk dL_draws_233 (by omega) hS ⟨rfl, C1, hC1, fun f _ => by rw [hC11, hD1], hXI⟩
                · skip
                  refine lv_aload hx hb dL_draws_203 (lv_at hl 4 rfl) ?_
                  refine z_bipush (n := 8) hx hb dL_draws_205 (by decide) ?_
                  refine lv_iload hx hb dL_draws_207 (lv_at hl 8 rfl) ?_
                  refine z_imul hx hb dL_draws_209 ?_
                  refine lv_iload hx hb dL_draws_210 (lv_at hl 9 rfl) ?_
                  refine z_iadd hx hb dL_draws_212 ?_
                  refine lv_iload hx hb dL_draws_213 (lv_at hl 10 rfl) ?_
                  refine z_iast hx hb hK.1 hPa (Ord.D (Ord.of (b := (sh u 0)) (n := 1) rfl) inj1) hS 0 0 (F := (fillV W (8 * r + c) i px)) rfl rfl (by omega) (by decide) (Or.inr (Nat.le_refl _)) dL_draws_215 (fun H locs hP1 hle hk hS => ?_)
                  have hXI : XI G cs a a C1 H := hXI.kp (by assumption) hk (fun i hi h9 => hau i hi h9)
                  have hPa : va_P G vwCl ([((sh u 0) 0, .inl (cs 0, 64, .inl (aI (updZ (fillV W (8 * r + c) i px) ((8 * r) + (c + i)) px))))]) H := hP1
                  refine z_iinc (k := 9) (lv' := [(9, .int (zI ((c + i) + 1))), (0, .ref (a 0)), (1, .int (zI p)), (2, .int (zI g)), (3, .int (zI h)), (4, .ref ((sh u 0) 0)), (5, .int (zI (1 + lowF g 4))), (6, .int (zI (D.2.2.1.1 + 1))), (7, .int (zI 1)), (8, .int (zI r)), (10, .int (zI px)), (11, .int (zI n)), (12, .int (zI i))]) hx hb dL_draws_216 hl rfl (by decide) rfl (fun ls hl => ?_)
                  refine z_iinc (k := 12) (lv' := [(12, .int (zI (i + 1))), (9, .int (zI ((c + i) + 1))), (0, .ref (a 0)), (1, .int (zI p)), (2, .int (zI g)), (3, .int (zI h)), (4, .ref ((sh u 0) 0)), (5, .int (zI (1 + lowF g 4))), (6, .int (zI (D.2.2.1.1 + 1))), (7, .int (zI 1)), (8, .int (zI r)), (10, .int (zI px)), (11, .int (zI n))]) hx hb dL_draws_219 hl rfl (by decide) rfl (fun ls hl => ?_)
                  refine lv_goto (tgt := 196) hx hb dL_draws_222 (by decide) ?_
                  have hb1 : c + (i + 1) = c + i + 1 := by omega
                  exact ih (i + 1) H locs ⟨(by omega), hXI, (by rw [← fill_s hI.1, show 8 * r + c + i = 8 * r + (c + i) by omega]; exact hPa)⟩ hS (by omega) ls (by show lv_has ls 13 [(0, .ref (a 0)), (1, .int (zI p)), (2, .int (zI g)), (3, .int (zI h)), (4, .ref ((sh u 0) 0)), (5, .int (zI (1 + lowF g 4))), (6, .int (zI (D.2.2.1.1 + 1))), (7, .int (zI 1)), (8, .int (zI r)), (9, .int (zI (c + (i + 1)))), (10, .int (zI px)), (11, .int (zI n)), (12, .int (zI (i + 1)))]; rw [hb1]; exact lv_sub hl [2, 3, 4, 5, 6, 7, 8, 9, 10, 1, 11, 12, 0] rfl)
              · skip
                refine lv_aload_n hx hb dL_draws_158 rfl (lv_at hl 3 rfl) ?_
                refine z_bipush (n := 120) hx hb dL_draws_159 (by decide) ?_
                obtain ⟨C2, eC2, hC2, hC21, hC2l, hC2x⟩ := type_ok hC1 (z := 120) (by omega) (by decide)
                have hC2m : C2.2.2.1.1 = D.2.2.1.1 + 2 := by omega
                have hQ2 : RD C2.2.2.1.2 C2.2.2.1.1 r (c + 1) (fillV W (8 * r + c) n px) 0 1 px := by rw [hC2l, hC2x]; exact rd_x (by omega) hQ1
                refine z_w (zrV (As := [.int (zI 120)]) (rest := []) ⟨hx, hb, hml, hown, hts⟩ (k_type l G cs a C1 120 ia hC1 (nar_char (by decide))) gL_draws_X6_type rfl qX6_type rfl rfl ⟨Nat.le_of_ble_eq_true rfl, Nat.le_of_ble_eq_true rfl⟩ hXI hK (va_recv hK.1 hXI.xo (ci := 6) (q0 := 0) rfl rfl) hl.1 rfl (Nat.le_of_ble_eq_true rfl) dL_draws_161 ⟨Nat.le_of_ble_eq_true rfl, Nat.le_of_ble_eq_true rfl⟩) hS (fun q h => Or.inl h) (fun q h => Or.inl h) (fun v H locs hpost hle hk hS => ?_)
                obtain ⟨hv, hXI⟩ := hpost
                have hE : typeF C1 120 = (D.2.2.1.1 + 2, C2) := (by rw [eC2, show C1.2.2.1.1 + 1 = D.2.2.1.1 + 2 by omega])
                have hv : v = .int (zI (D.2.2.1.1 + 2)) := by rw [hE] at hv; exact hv
                have hXI : XI G cs a a C2 H := by rw [hE] at hXI; exact hXI
                subst hv
                clear hE
                have hPa := keepO (Ord.of (b := (sh u 0)) (n := 1) rfl) hPa hk (fun j hj h9 => by obtain ⟨i9, h1, h2, h3⟩ := h9; exact hau i9 h2 (by rw [show j = 0 by omega] at h3; exact h3.symm))
                refine lv_istore (lv' := [(6, .int (zI (D.2.2.1.1 + 2))), (11, .int (zI n)), (10, .int (zI px)), (0, .ref (a 0)), (1, .int (zI p)), (2, .int (zI g)), (3, .int (zI h)), (4, .ref ((sh u 0) 0)), (5, .int (zI (1 + lowF g 4))), (7, .int (zI 1)), (8, .int (zI r)), (9, .int (zI c))]) hx hb dL_draws_164 hl (by decide) rfl (fun ls hl => ?_)
                refine lv_aload_n hx hb dL_draws_166 rfl (lv_at hl 3 rfl) ?_
                refine lv_iload_n hx hb dL_draws_167 rfl (lv_at hl 4 rfl) ?_
                refine z_w (zrV (As := [.int (zI p)]) (rest := []) ⟨hx, hb, hml, hown, hts⟩ (k_draw l G cs a C2 p ia hC2 (by omega)) gL_draws_X6_draw rfl qX6_draw rfl rfl ⟨Nat.le_of_ble_eq_true rfl, Nat.le_of_ble_eq_true rfl⟩ hXI hK (va_recv hK.1 hXI.xo (ci := 6) (q0 := 0) rfl rfl) hl.1 rfl (Nat.le_of_ble_eq_true rfl) dL_draws_168 ⟨Nat.le_of_ble_eq_true rfl, Nat.le_of_ble_eq_true rfl⟩) hS (fun q h => Or.inl h) (fun q h => Or.inl h) (fun v H locs hpost hle hk hS => ?_)
                obtain ⟨hv, hXI⟩ := hpost
                have hE : drawF C2 p = (-100 - (D.2.2.1.1 + 2), C2) := ((draw_len hC2 (by rw [hC21, hC11, hD1]; exact hp) (Or.inl rfl) hQ2).trans (by rw [hC2m]))
                have hv : v = .int (zI (-100 - (D.2.2.1.1 + 2))) := by rw [hE] at hv; exact hv
                have hXI : XI G cs a a C2 H := by rw [hE] at hXI; exact hXI
                subst hv
                clear hE
                have hPa := keepO (Ord.of (b := (sh u 0)) (n := 1) rfl) hPa hk (fun j hj h9 => by obtain ⟨i9, h1, h2, h3⟩ := h9; exact hau i9 h2 (by rw [show j = 0 by omega] at h3; exact h3.symm))
                refine z_bipush (n := -100) hx hb dL_draws_171 (by decide) ?_
                refine lv_iload hx hb dL_draws_173 (lv_at hl 0 rfl) ?_
                refine z_isub hx hb dL_draws_175 ?_
                refine z_icmp_eq (tgt := 181) hx hb dL_draws_176 (by decide) (by omega) (by omega) (fun c121 => ?_) (fun c121 => ?_)
                · skip
                  refine lv_aload_n hx hb dL_draws_181 rfl (lv_at hl 3 rfl) ?_
                  refine z_bipush (n := 48) hx hb dL_draws_182 (by decide) ?_
                  refine lv_iload hx hb dL_draws_184 (lv_at hl 1 rfl) ?_
                  refine z_iadd hx hb dL_draws_186 ?_
                  refine lv_i2c (v := (zI (48 + n))) hx hb dL_draws_187 ((i2c_z _).trans (congrArg zI (by omega))) ?_
                  obtain ⟨C3, eC3, hC3, hC31, hC3l, hC3x⟩ := type_ok hC2 (z := 48 + n) (by omega) (by omega)
                  have hC3m : C3.2.2.1.1 = D.2.2.1.1 + 3 := by omega
                  have hQ3 : RD C3.2.2.1.2 C3.2.2.1.1 r (c + n) (fillV W (8 * r + c) n px) 0 0 px := by rw [hC3l, hC3x]; have h9 := rd_dig (n := n) (V2 := fillV W (8 * r + c) n px) (by omega) hpx (by omega) (by omega) (fun k a b => rfl) (fun k a b => fill_at (by omega) (by omega)) hQ2; rw [show c + 1 + (n - 1) = c + n by omega] at h9; exact h9
                  refine z_w (zrV (As := [.int (zI (48 + n))]) (rest := []) ⟨hx, hb, hml, hown, hts⟩ (k_type l G cs a C2 (48 + n) ia hC2 (nar_char (by omega))) gL_draws_X6_type rfl qX6_type rfl rfl ⟨Nat.le_of_ble_eq_true rfl, Nat.le_of_ble_eq_true rfl⟩ hXI hK (va_recv hK.1 hXI.xo (ci := 6) (q0 := 0) rfl rfl) hl.1 rfl (Nat.le_of_ble_eq_true rfl) dL_draws_188 ⟨Nat.le_of_ble_eq_true rfl, Nat.le_of_ble_eq_true rfl⟩) hS (fun q h => Or.inl h) (fun q h => Or.inl h) (fun v H locs hpost hle hk hS => ?_)
                  obtain ⟨hv, hXI⟩ := hpost
                  have hE : typeF C2 (48 + n) = (D.2.2.1.1 + 3, C3) := (by rw [eC3, show C2.2.2.1.1 + 1 = D.2.2.1.1 + 3 by omega])
                  have hv : v = .int (zI (D.2.2.1.1 + 3)) := by rw [hE] at hv; exact hv
                  have hXI : XI G cs a a C3 H := by rw [hE] at hXI; exact hXI
                  subst hv
                  clear hE
                  have hPa := keepO (Ord.of (b := (sh u 0)) (n := 1) rfl) hPa hk (fun j hj h9 => by obtain ⟨i9, h1, h2, h3⟩ := h9; exact hau i9 h2 (by rw [show j = 0 by omega] at h3; exact h3.symm))
                  refine lv_istore (lv' := [(6, .int (zI (D.2.2.1.1 + 3))), (11, .int (zI n)), (10, .int (zI px)), (0, .ref (a 0)), (1, .int (zI p)), (2, .int (zI g)), (3, .int (zI h)), (4, .ref ((sh u 0) 0)), (5, .int (zI (1 + lowF g 4))), (7, .int (zI 1)), (8, .int (zI r)), (9, .int (zI c))]) hx hb dL_draws_191 hl (by decide) rfl (fun ls hl => ?_)
                  refine z_iconst (n := 0) hx hb dL_draws_193 ?_
                  refine lv_istore (lv' := [(12, .int (zI 0)), (6, .int (zI (D.2.2.1.1 + 3))), (11, .int (zI n)), (10, .int (zI px)), (0, .ref (a 0)), (1, .int (zI p)), (2, .int (zI g)), (3, .int (zI h)), (4, .ref ((sh u 0) 0)), (5, .int (zI (1 + lowF g 4))), (7, .int (zI 1)), (8, .int (zI r)), (9, .int (zI c))]) hx hb dL_draws_194 hl (by decide) rfl (fun ls hl => ?_)
                  -- loop 196
                  refine z_loopH (nL := 13) (fun (i : Int) => [(0, .ref (a 0)), (1, .int (zI p)), (2, .int (zI g)), (3, .int (zI h)), (4, .ref ((sh u 0) 0)), (5, .int (zI (1 + lowF g 4))), (6, .int (zI (D.2.2.1.1 + 3))), (7, .int (zI 1)), (8, .int (zI r)), (9, .int (zI (c + i))), (10, .int (zI px)), (11, .int (zI n)), (12, .int (zI i))]) (fun (i : Int) (H : Heap) => (0 ≤ i ∧ i ≤ n) ∧ XI G cs a a C3 H ∧ va_P G vwCl ([((sh u 0) 0, .inl (cs 0, 64, .inl (aI (fillV W (8 * r + c) i px))))]) H) (fun (i : Int) => (n - i).toNat) (0 : Int) ⟨(by omega), hXI, (by rw [fill_0]; exact hPa)⟩ hS (by show lv_has ls 13 [(0, .ref (a 0)), (1, .int (zI p)), (2, .int (zI g)), (3, .int (zI h)), (4, .ref ((sh u 0) 0)), (5, .int (zI (1 + lowF g 4))), (6, .int (zI (D.2.2.1.1 + 3))), (7, .int (zI 1)), (8, .int (zI r)), (9, .int (zI (c + (0 : Int)))), (10, .int (zI px)), (11, .int (zI n)), (12, .int (zI (0 : Int)))]; rw [Int.add_zero]; exact lv_sub hl [4, 5, 6, 7, 8, 9, 1, 10, 11, 12, 3, 2, 0] rfl) (fun i H locs hIH hS ih ls hl => ?_)
                  obtain ⟨hI, hXI, hPa⟩ := hIH
                  have hl : lv_has ls 13 [(0, .ref (a 0)), (1, .int (zI p)), (2, .int (zI g)), (3, .int (zI h)), (4, .ref ((sh u 0) 0)), (5, .int (zI (1 + lowF g 4))), (6, .int (zI (D.2.2.1.1 + 3))), (7, .int (zI 1)), (8, .int (zI r)), (9, .int (zI (c + i))), (10, .int (zI px)), (11, .int (zI n)), (12, .int (zI i))] := hl
                  refine lv_iload hx hb dL_draws_196 (lv_at hl 12 rfl) ?_
                  refine lv_iload hx hb dL_draws_198 (lv_at hl 11 rfl) ?_
                  refine z_icmp_ge (tgt := 225) hx hb dL_draws_200 (by decide) (by omega) (by omega) (fun c122 => ?_) (fun c122 => ?_)
                  · skip
                    have ei : n = i := by omega
                    subst ei
                    refine lv_iload hx hb dL_draws_225 (lv_at hl 6 rfl) ?_
                    refine z_bipush (n := 50) hx hb dL_draws_227 (by decide) ?_
                    refine z_icmp_le (tgt := 234) hx hb dL_draws_229 (by decide) (by omega) (by omega) (fun c123 => ?_) (fun c123 => ?_)
                    · skip
                      refine lv_goto (tgt := 94) hx hb dL_draws_234 (by decide) ?_
                      exact ih2 (c + n, C3, fillV W (8 * r + c) n px) H locs ⟨⟨by omega, ⟨hC3, hC31.trans (hC21.trans (hC11.trans hD1))⟩, by omega, 0, px, hQ3⟩, hXI, hPa⟩ hS (by show (8 - (c + n)).toNat < (8 - c).toNat; omega) ls (by show lv_has ls 13 [(0, .ref (a 0)), (1, .int (zI p)), (2, .int (zI g)), (3, .int (zI h)), (4, .ref ((sh u 0) 0)), (5, .int (zI (1 + lowF g 4))), (6, .int (zI C3.2.2.1.1)), (7, .int (zI 1)), (8, .int (zI r)), (9, .int (zI (c + n)))]; rw [hC3m]; exact lv_sub hl [0, 1, 2, 3, 4, 5, 6, 7, 8, 9] rfl)
                    · skip
                      refine z_iconst (n := 1) hx hb dL_draws_232 ?_
                      exact w_zret hx hb hr hlk dL_draws_233 (by omega) hS ⟨rfl, C3, hC3, fun f _ => by rw [hC31, hC21, hC11, hD1], hXI⟩
                  · skip
                    refine lv_aload hx hb dL_draws_203 (lv_at hl 4 rfl) ?_
                    refine z_bipush (n := 8) hx hb dL_draws_205 (by decide) ?_
                    refine lv_iload hx hb dL_draws_207 (lv_at hl 8 rfl) ?_
                    refine z_imul hx hb dL_draws_209 ?_
                    refine lv_iload hx hb dL_draws_210 (lv_at hl 9 rfl) ?_
                    refine z_iadd hx hb dL_draws_212 ?_
                    refine lv_iload hx hb dL_draws_213 (lv_at hl 10 rfl) ?_
                    refine z_iast hx hb hK.1 hPa (Ord.D (Ord.of (b := (sh u 0)) (n := 1) rfl) inj1) hS 0 0 (F := (fillV W (8 * r + c) i px)) rfl rfl (by omega) (by decide) (Or.inr (Nat.le_refl _)) dL_draws_215 (fun H locs hP1 hle hk hS => ?_)
                    have hXI : XI G cs a a C3 H := hXI.kp (by assumption) hk (fun i hi h9 => hau i hi h9)
                    have hPa : va_P G vwCl ([((sh u 0) 0, .inl (cs 0, 64, .inl (aI (updZ (fillV W (8 * r + c) i px) ((8 * r) + (c + i)) px))))]) H := hP1
                    refine z_iinc (k := 9) (lv' := [(9, .int (zI ((c + i) + 1))), (0, .ref (a 0)), (1, .int (zI p)), (2, .int (zI g)), (3, .int (zI h)), (4, .ref ((sh u 0) 0)), (5, .int (zI (1 + lowF g 4))), (6, .int (zI (D.2.2.1.1 + 3))), (7, .int (zI 1)), (8, .int (zI r)), (10, .int (zI px)), (11, .int (zI n)), (12, .int (zI i))]) hx hb dL_draws_216 hl rfl (by decide) rfl (fun ls hl => ?_)
                    refine z_iinc (k := 12) (lv' := [(12, .int (zI (i + 1))), (9, .int (zI ((c + i) + 1))), (0, .ref (a 0)), (1, .int (zI p)), (2, .int (zI g)), (3, .int (zI h)), (4, .ref ((sh u 0) 0)), (5, .int (zI (1 + lowF g 4))), (6, .int (zI (D.2.2.1.1 + 3))), (7, .int (zI 1)), (8, .int (zI r)), (10, .int (zI px)), (11, .int (zI n))]) hx hb dL_draws_219 hl rfl (by decide) rfl (fun ls hl => ?_)
                    refine lv_goto (tgt := 196) hx hb dL_draws_222 (by decide) ?_
                    have hb1 : c + (i + 1) = c + i + 1 := by omega
                    exact ih (i + 1) H locs ⟨(by omega), hXI, (by rw [← fill_s hI.1, show 8 * r + c + i = 8 * r + (c + i) by omega]; exact hPa)⟩ hS (by omega) ls (by show lv_has ls 13 [(0, .ref (a 0)), (1, .int (zI p)), (2, .int (zI g)), (3, .int (zI h)), (4, .ref ((sh u 0) 0)), (5, .int (zI (1 + lowF g 4))), (6, .int (zI (D.2.2.1.1 + 3))), (7, .int (zI 1)), (8, .int (zI r)), (9, .int (zI (c + (i + 1)))), (10, .int (zI px)), (11, .int (zI n)), (12, .int (zI (i + 1)))]; rw [hb1]; exact lv_sub hl [2, 3, 4, 5, 6, 7, 8, 9, 10, 1, 11, 12, 0] rfl)
                · skip
                  exfalso; omega
        · skip
          refine lv_aload_n hx hb dL_draws_68 rfl (lv_at hl 0 rfl) ?_
          refine z_bipush (n := 47) hx hb dL_draws_69 (by decide) ?_
          obtain ⟨hr1, b4, v, hR⟩ : 1 ≤ r ∧ ∃ b4 v, RD B.2.2.1.2 B.2.2.1.1 (r - 1) 8 V b4 0 v := by rcases hRD with h9 | h9; exact absurd h9.1 (by omega); exact h9
          obtain ⟨C, eC, hC, hC1, hCl, hCx⟩ := type_ok hB (z := 47) (by omega) (by decide)
          have hR2 : RD C.2.2.1.2 C.2.2.1.1 r 0 V 0 0 0 := by rw [hCl, hCx]; have h9 := rd_slash hBl.1 (by omega) hR; rw [show r - 1 + 1 = r by omega] at h9; exact h9
          refine z_w (zrV (As := [.int (zI 47)]) (rest := []) ⟨hx, hb, hml, hown, hts⟩ (k_type l G cs a B 47 ia hB (nar_char (by decide))) gL_draws_X6_type rfl qX6_type rfl rfl ⟨Nat.le_of_ble_eq_true rfl, Nat.le_of_ble_eq_true rfl⟩ hXI hK (va_recv hK.1 hXI.xo (ci := 6) (q0 := 0) rfl rfl) hl.1 rfl (Nat.le_of_ble_eq_true rfl) dL_draws_71 ⟨Nat.le_of_ble_eq_true rfl, Nat.le_of_ble_eq_true rfl⟩) hS (fun q h => Or.inl h) (fun q h => Or.inl h) (fun v H locs hpost hle hk hS => ?_)
          obtain ⟨hv, hXI⟩ := hpost
          have hE : typeF B 47 = (B.2.2.1.1 + 1, C) := eC
          have hv : v = .int (zI (B.2.2.1.1 + 1)) := by rw [hE] at hv; exact hv
          have hXI : XI G cs a a C H := by rw [hE] at hXI; exact hXI
          subst hv
          clear hE
          have hPa := keepO (Ord.of (b := (sh u 0)) (n := 1) rfl) hPa hk (fun j hj h9 => by obtain ⟨i9, h1, h2, h3⟩ := h9; exact hau i9 h2 (by rw [show j = 0 by omega] at h3; exact h3.symm))
          refine lv_istore (lv' := [(6, .int (zI (B.2.2.1.1 + 1))), (0, .ref (a 0)), (1, .int (zI p)), (2, .int (zI g)), (3, .int (zI h)), (4, .ref ((sh u 0) 0)), (5, .int (zI (1 + lowF g 4))), (7, .int (zI 1)), (8, .int (zI r))]) hx hb dL_draws_74 hl (by decide) rfl (fun ls hl => ?_)
          refine lv_aload_n hx hb dL_draws_76 rfl (lv_at hl 1 rfl) ?_
          refine lv_iload_n hx hb dL_draws_77 rfl (lv_at hl 2 rfl) ?_
          refine z_w (zrV (As := [.int (zI p)]) (rest := []) ⟨hx, hb, hml, hown, hts⟩ (k_draw l G cs a C p ia hC (by omega)) gL_draws_X6_draw rfl qX6_draw rfl rfl ⟨Nat.le_of_ble_eq_true rfl, Nat.le_of_ble_eq_true rfl⟩ hXI hK (va_recv hK.1 hXI.xo (ci := 6) (q0 := 0) rfl rfl) hl.1 rfl (Nat.le_of_ble_eq_true rfl) dL_draws_78 ⟨Nat.le_of_ble_eq_true rfl, Nat.le_of_ble_eq_true rfl⟩) hS (fun q h => Or.inl h) (fun q h => Or.inl h) (fun v H locs hpost hle hk hS => ?_)
          obtain ⟨hv, hXI⟩ := hpost
          have hE : drawF C p = (-100 - (B.2.2.1.1 + 1), C) := ((draw_len hC (by rw [hC1, hB1]; exact hp) (Or.inr (by decide)) hR2).trans (by rw [hCl]))
          have hv : v = .int (zI (-100 - (B.2.2.1.1 + 1))) := by rw [hE] at hv; exact hv
          have hXI : XI G cs a a C H := by rw [hE] at hXI; exact hXI
          subst hv
          clear hE
          have hPa := keepO (Ord.of (b := (sh u 0)) (n := 1) rfl) hPa hk (fun j hj h9 => by obtain ⟨i9, h1, h2, h3⟩ := h9; exact hau i9 h2 (by rw [show j = 0 by omega] at h3; exact h3.symm))
          refine z_bipush (n := -100) hx hb dL_draws_81 (by decide) ?_
          refine lv_iload hx hb dL_draws_83 (lv_at hl 0 rfl) ?_
          refine z_isub hx hb dL_draws_85 ?_
          refine z_icmp_eq (tgt := 91) hx hb dL_draws_86 (by decide) (by omega) (by omega) (fun c124 => ?_) (fun c124 => ?_)
          · skip
            refine z_iconst (n := 0) hx hb dL_draws_91 ?_
            refine lv_istore (lv' := [(9, .int (zI 0)), (6, .int (zI (B.2.2.1.1 + 1))), (0, .ref (a 0)), (1, .int (zI p)), (2, .int (zI g)), (3, .int (zI h)), (4, .ref ((sh u 0) 0)), (5, .int (zI (1 + lowF g 4))), (7, .int (zI 1)), (8, .int (zI r))]) hx hb dL_draws_92 hl (by decide) rfl (fun ls hl => ?_)
            -- loop 94
            refine z_loopH (nL := 13) (fun ((c, D, W) : Int × AS × (Int → Int)) => [(0, .ref (a 0)), (1, .int (zI p)), (2, .int (zI g)), (3, .int (zI h)), (4, .ref ((sh u 0) 0)), (5, .int (zI (1 + lowF g 4))), (6, .int (zI D.2.2.1.1)), (7, .int (zI 1)), (8, .int (zI r)), (9, .int (zI c))]) (fun ((c, D, W) : Int × AS × (Int → Int)) (H : Heap) => ((0 ≤ c ∧ c ≤ 8) ∧ (GA D ∧ D.1 = A.1) ∧ (0 ≤ D.2.2.1.1 ∧ D.2.2.1.1 ≤ 51 ∧ (c = 8 → D.2.2.1.1 ≤ 50)) ∧ ∃ b4 v, RD D.2.2.1.2 D.2.2.1.1 r c W b4 0 v) ∧ XI G cs a a D H ∧ va_P G vwCl ([((sh u 0) 0, .inl (cs 0, 64, .inl (aI W)))]) H) (fun ((c, D, W) : Int × AS × (Int → Int)) => (8 - c).toNat) ((0 : Int), C, V) ⟨⟨by omega, ⟨hC, hC1.trans hB1⟩, by omega, 0, 0, hR2⟩, hXI, hPa⟩ hS (by show lv_has ls 13 [(0, .ref (a 0)), (1, .int (zI p)), (2, .int (zI g)), (3, .int (zI h)), (4, .ref ((sh u 0) 0)), (5, .int (zI (1 + lowF g 4))), (6, .int (zI C.2.2.1.1)), (7, .int (zI 1)), (8, .int (zI r)), (9, .int (zI (0 : Int)))]; rw [hCl]; exact lv_sub hl [2, 3, 4, 5, 6, 7, 1, 8, 9, 0] rfl) (fun x_ H locs hIH hS ih ls hl => ?_)
            obtain ⟨c, D, W⟩ := x_
            obtain ⟨hI, hXI, hPa⟩ := hIH
            have hI : (0 ≤ c ∧ c ≤ 8) ∧ (GA D ∧ D.1 = A.1) ∧ (0 ≤ D.2.2.1.1 ∧ D.2.2.1.1 ≤ 51 ∧ (c = 8 → D.2.2.1.1 ≤ 50)) ∧ ∃ b4 v, RD D.2.2.1.2 D.2.2.1.1 r c W b4 0 v := hI
            have hXI : XI G cs a a D H := hXI
            have hPa : va_P G vwCl ([((sh u 0) 0, .inl (cs 0, 64, .inl (aI W)))]) H := hPa
            have hl : lv_has ls 13 [(0, .ref (a 0)), (1, .int (zI p)), (2, .int (zI g)), (3, .int (zI h)), (4, .ref ((sh u 0) 0)), (5, .int (zI (1 + lowF g 4))), (6, .int (zI D.2.2.1.1)), (7, .int (zI 1)), (8, .int (zI r)), (9, .int (zI c))] := hl
            have ih2 := ih
            obtain ⟨hI, ⟨hD, hD1⟩, hDl, b4, v, hR⟩ := hI
            refine lv_iload hx hb dL_draws_94 (lv_at hl 9 rfl) ?_
            refine z_bipush (n := 8) hx hb dL_draws_96 (by decide) ?_
            refine z_icmp_ge (tgt := 237) hx hb dL_draws_98 (by decide) (by omega) (by omega) (fun c125 => ?_) (fun c125 => ?_)
            · skip
              have ec : c = 8 := by omega
              subst ec
              refine z_iinc (k := 8) (lv' := [(8, .int (zI (r + 1))), (0, .ref (a 0)), (1, .int (zI p)), (2, .int (zI g)), (3, .int (zI h)), (4, .ref ((sh u 0) 0)), (5, .int (zI (1 + lowF g 4))), (6, .int (zI D.2.2.1.1)), (7, .int (zI 1)), (9, .int (zI (8 : Int)))]) hx hb dL_draws_237 hl rfl (by decide) rfl (fun ls hl => ?_)
              refine lv_goto (tgt := 56) hx hb dL_draws_240 (by decide) ?_
              exact ih1 (r + 1, D, W) H locs ⟨⟨by omega, ⟨hD, hD1⟩, by omega, Or.inr ⟨by omega, b4, v, by rw [show r + 1 - 1 = r by omega]; exact hR⟩⟩, hXI, hPa⟩ hS (by show (1 + lowF g 4 - (r + 1)).toNat < (1 + lowF g 4 - r).toNat; omega) ls (lv_sub hl [1, 2, 3, 4, 5, 6, 7, 8, 0] rfl)
            · skip
              refine lv_iload_n hx hb dL_draws_101 rfl (lv_at hl 2 rfl) ?_
              refine lv_iload hx hb dL_draws_102 (lv_at hl 9 rfl) ?_
              refine lv_ishr hx hb dL_draws_104 ?_
              refine z_top (v' := .int (zI (shF g c))) (shF_i _ _) ?_
              refine z_iconst (n := 4) hx hb dL_draws_105 ?_
              refine z_ro (zrSJ (As := [.int (zI (shF g c)), .int (zI 4)]) (rest := []) (Pw := fun _ => True) ⟨hx, hb, hml, hown, hts⟩ (c_L_low l G cs (shF g c) 4 (by omega)) gL_draws_L_low rfl qL_low rfl rfl ⟨Nat.le_of_ble_eq_true rfl, Nat.le_of_ble_eq_true rfl⟩ trivial hK hl.1 rfl (Nat.le_of_ble_eq_true rfl) dL_draws_106 ⟨Nat.le_of_ble_eq_true rfl, Nat.le_of_ble_eq_true rfl⟩) ?_
              refine lv_istore (lv' := [(10, .int (zI (lowF (shF g c) 4))), (0, .ref (a 0)), (1, .int (zI p)), (2, .int (zI g)), (3, .int (zI h)), (4, .ref ((sh u 0) 0)), (5, .int (zI (1 + lowF g 4))), (6, .int (zI D.2.2.1.1)), (7, .int (zI 1)), (8, .int (zI r)), (9, .int (zI c))]) hx hb dL_draws_109 hl (by decide) rfl (fun ls hl => ?_)
              refine z_iconst (n := 1) hx hb dL_draws_111 ?_
              refine lv_iload_n hx hb dL_draws_112 rfl (lv_at hl 4 rfl) ?_
              refine lv_iload hx hb dL_draws_113 (lv_at hl 9 rfl) ?_
              refine lv_iload hx hb dL_draws_115 (lv_at hl 10 rfl) ?_
              refine z_iadd hx hb dL_draws_117 ?_
              refine lv_ishr hx hb dL_draws_118 ?_
              refine z_top (v' := .int (zI (shF h (r + c)))) (shF_i _ _) ?_
              refine z_bipush (n := 8) hx hb dL_draws_119 (by decide) ?_
              refine lv_iload hx hb dL_draws_121 (lv_at hl 10 rfl) ?_
              refine z_isub hx hb dL_draws_123 ?_
              refine z_ro (zrSJ (As := [.int (zI (shF h (r + c))), .int (zI (8 - c))]) (rest := [.int (zI 1)]) (Pw := fun _ => True) ⟨hx, hb, hml, hown, hts⟩ (c_L_low l G cs (shF h (r + c)) (8 - c) (by omega)) gL_draws_L_low rfl qL_low rfl rfl ⟨Nat.le_of_ble_eq_true rfl, Nat.le_of_ble_eq_true rfl⟩ trivial hK hl.1 rfl (Nat.le_of_ble_eq_true rfl) dL_draws_124 ⟨Nat.le_of_ble_eq_true rfl, Nat.le_of_ble_eq_true rfl⟩) ?_
              refine z_iadd hx hb dL_draws_127 ?_
              refine lv_istore (lv' := [(11, .int (zI (1 + (lowF (shF h (r + c)) (8 - c))))), (10, .int (zI (lowF (shF g c) 4))), (0, .ref (a 0)), (1, .int (zI p)), (2, .int (zI g)), (3, .int (zI h)), (4, .ref ((sh u 0) 0)), (5, .int (zI (1 + lowF g 4))), (6, .int (zI D.2.2.1.1)), (7, .int (zI 1)), (8, .int (zI r)), (9, .int (zI c))]) hx hb dL_draws_128 hl (by decide) rfl (fun ls hl => ?_)
              have hpx := lowF_r (shF g c) (show (0 : Int) < 4 by decide)
              have hpx : 0 ≤ lowF (shF g c) 4 ∧ lowF (shF g c) 4 ≤ 3 := by omega
              have hnn := lowF_r (shF h (r + c)) (show (0 : Int) < 8 - c by omega)
              have hnn : 1 ≤ 1 + lowF (shF h (r + c)) (8 - c) ∧ 1 + lowF (shF h (r + c)) (8 - c) ≤ 8 - c := by omega
              generalize lowF (shF g c) 4 = px at hl hpx
              generalize 1 + lowF (shF h (r + c)) (8 - c) = n at hl hnn
              refine lv_aload_n hx hb dL_draws_130 rfl (lv_at hl 2 rfl) ?_
              refine lv_iload hx hb dL_draws_131 (lv_at hl 1 rfl) ?_
              refine z_if_ne (tgt := 141) hx hb dL_draws_133 (by decide) (by omega) (fun c126 => ?_) (fun c126 => ?_)
              · skip
                refine z_bipush (n := 48) hx hb dL_draws_141 (by decide) ?_
                refine lv_iload hx hb dL_draws_143 (lv_at hl 1 rfl) ?_
                refine z_iadd hx hb dL_draws_145 ?_
                refine lv_i2c (v := (zI (48 + px))) hx hb dL_draws_146 ((i2c_z _).trans (congrArg zI (by omega))) ?_
                obtain ⟨C1, eC1, hC1, hC11, hC1l, hC1x⟩ := type_ok hD (z := 48 + px) (by omega) (by omega)
                have hQ1 : RD C1.2.2.1.2 C1.2.2.1.1 r (c + 1) (fillV W (8 * r + c) n px) 1 0 px := by rw [hC1l, hC1x]; exact rd_pix hDl.1 (by omega) hpx (Or.inr ⟨by omega, rfl⟩) (fun k a b => fill_lo b) (fill_at (by omega) (by omega)) hR
                refine z_w (zrV (As := [.int (zI (48 + px))]) (rest := []) ⟨hx, hb, hml, hown, hts⟩ (k_type l G cs a D (48 + px) ia hD (nar_char (by omega))) gL_draws_X6_type rfl qX6_type rfl rfl ⟨Nat.le_of_ble_eq_true rfl, Nat.le_of_ble_eq_true rfl⟩ hXI hK (va_recv hK.1 hXI.xo (ci := 6) (q0 := 0) rfl rfl) hl.1 rfl (Nat.le_of_ble_eq_true rfl) dL_draws_147 ⟨Nat.le_of_ble_eq_true rfl, Nat.le_of_ble_eq_true rfl⟩) hS (fun q h => Or.inl h) (fun q h => Or.inl h) (fun v H locs hpost hle hk hS => ?_)
                obtain ⟨hv, hXI⟩ := hpost
                have hE : typeF D (48 + px) = (D.2.2.1.1 + 1, C1) := eC1
                have hv : v = .int (zI (D.2.2.1.1 + 1)) := by rw [hE] at hv; exact hv
                have hXI : XI G cs a a C1 H := by rw [hE] at hXI; exact hXI
                subst hv
                clear hE
                have hPa := keepO (Ord.of (b := (sh u 0)) (n := 1) rfl) hPa hk (fun j hj h9 => by obtain ⟨i9, h1, h2, h3⟩ := h9; exact hau i9 h2 (by rw [show j = 0 by omega] at h3; exact h3.symm))
                refine lv_istore (lv' := [(6, .int (zI (D.2.2.1.1 + 1))), (11, .int (zI n)), (10, .int (zI px)), (0, .ref (a 0)), (1, .int (zI p)), (2, .int (zI g)), (3, .int (zI h)), (4, .ref ((sh u 0) 0)), (5, .int (zI (1 + lowF g 4))), (7, .int (zI 1)), (8, .int (zI r)), (9, .int (zI c))]) hx hb dL_draws_150 hl (by decide) rfl (fun ls hl => ?_)
                refine lv_iload hx hb dL_draws_152 (lv_at hl 1 rfl) ?_
                refine z_iconst (n := 1) hx hb dL_draws_154 ?_
                refine z_icmp_le (tgt := 193) hx hb dL_draws_155 (by decide) (by omega) (by omega) (fun c127 => ?_) (fun c127 => ?_)
                · skip
                  refine z_iconst (n := 0) hx hb dL_draws_193 ?_
                  refine lv_istore (lv' := [(12, .int (zI 0)), (6, .int (zI (D.2.2.1.1 + 1))), (11, .int (zI n)), (10, .int (zI px)), (0, .ref (a 0)), (1, .int (zI p)), (2, .int (zI g)), (3, .int (zI h)), (4, .ref ((sh u 0) 0)), (5, .int (zI (1 + lowF g 4))), (7, .int (zI 1)), (8, .int (zI r)), (9, .int (zI c))]) hx hb dL_draws_194 hl (by decide) rfl (fun ls hl => ?_)
                  -- loop 196
                  refine z_loopH (nL := 13) (fun (i : Int) => [(0, .ref (a 0)), (1, .int (zI p)), (2, .int (zI g)), (3, .int (zI h)), (4, .ref ((sh u 0) 0)), (5, .int (zI (1 + lowF g 4))), (6, .int (zI (D.2.2.1.1 + 1))), (7, .int (zI 1)), (8, .int (zI r)), (9, .int (zI (c + i))), (10, .int (zI px)), (11, .int (zI n)), (12, .int (zI i))]) (fun (i : Int) (H : Heap) => (0 ≤ i ∧ i ≤ n) ∧ XI G cs a a C1 H ∧ va_P G vwCl ([((sh u 0) 0, .inl (cs 0, 64, .inl (aI (fillV W (8 * r + c) i px))))]) H) (fun (i : Int) => (n - i).toNat) (0 : Int) ⟨(by omega), hXI, (by rw [fill_0]; exact hPa)⟩ hS (by show lv_has ls 13 [(0, .ref (a 0)), (1, .int (zI p)), (2, .int (zI g)), (3, .int (zI h)), (4, .ref ((sh u 0) 0)), (5, .int (zI (1 + lowF g 4))), (6, .int (zI (D.2.2.1.1 + 1))), (7, .int (zI 1)), (8, .int (zI r)), (9, .int (zI (c + (0 : Int)))), (10, .int (zI px)), (11, .int (zI n)), (12, .int (zI (0 : Int)))]; rw [Int.add_zero]; exact lv_sub hl [4, 5, 6, 7, 8, 9, 1, 10, 11, 12, 3, 2, 0] rfl) (fun i H locs hIH hS ih ls hl => ?_)
                  obtain ⟨hI, hXI, hPa⟩ := hIH
                  have hl : lv_has ls 13 [(0, .ref (a 0)), (1, .int (zI p)), (2, .int (zI g)), (3, .int (zI h)), (4, .ref ((sh u 0) 0)), (5, .int (zI (1 + lowF g 4))), (6, .int (zI (D.2.2.1.1 + 1))), (7, .int (zI 1)), (8, .int (zI r)), (9, .int (zI (c + i))), (10, .int (zI px)), (11, .int (zI n)), (12, .int (zI i))] := hl
                  refine lv_iload hx hb dL_draws_196 (lv_at hl 12 rfl) ?_
                  refine lv_iload hx hb dL_draws_198 (lv_at hl 11 rfl) ?_
                  refine z_icmp_ge (tgt := 225) hx hb dL_draws_200 (by decide) (by omega) (by omega) (fun c128 => ?_) (fun c128 => ?_)
                  · skip
                    have ei : n = i := by omega
                    subst ei
                    refine lv_iload hx hb dL_draws_225 (lv_at hl 6 rfl) ?_
                    refine z_bipush (n := 50) hx hb dL_draws_227 (by decide) ?_
                    refine z_icmp_le (tgt := 234) hx hb dL_draws_229 (by decide) (by omega) (by omega) (fun c129 => ?_) (fun c129 => ?_)
                    · skip
                      refine lv_goto (tgt := 94) hx hb dL_draws_234 (by decide) ?_
                      exact ih2 (c + n, C1, fillV W (8 * r + c) n px) H locs ⟨⟨by omega, ⟨hC1, hC11.trans hD1⟩, by omega, 1, px, by rw [show c + n = c + 1 by omega]; exact hQ1⟩, hXI, hPa⟩ hS (by show (8 - (c + n)).toNat < (8 - c).toNat; omega) ls (by show lv_has ls 13 [(0, .ref (a 0)), (1, .int (zI p)), (2, .int (zI g)), (3, .int (zI h)), (4, .ref ((sh u 0) 0)), (5, .int (zI (1 + lowF g 4))), (6, .int (zI C1.2.2.1.1)), (7, .int (zI 1)), (8, .int (zI r)), (9, .int (zI (c + n)))]; rw [hC1l]; exact lv_sub hl [0, 1, 2, 3, 4, 5, 6, 7, 8, 9] rfl)
                    · skip
                      refine z_iconst (n := 1) hx hb dL_draws_232 ?_
                      exact w_zret hx hb hr hlk dL_draws_233 (by omega) hS ⟨rfl, C1, hC1, fun f _ => by rw [hC11, hD1], hXI⟩
                  · skip
                    refine lv_aload hx hb dL_draws_203 (lv_at hl 4 rfl) ?_
                    refine z_bipush (n := 8) hx hb dL_draws_205 (by decide) ?_
                    refine lv_iload hx hb dL_draws_207 (lv_at hl 8 rfl) ?_
                    refine z_imul hx hb dL_draws_209 ?_
                    refine lv_iload hx hb dL_draws_210 (lv_at hl 9 rfl) ?_
                    refine z_iadd hx hb dL_draws_212 ?_
                    refine lv_iload hx hb dL_draws_213 (lv_at hl 10 rfl) ?_
                    refine z_iast hx hb hK.1 hPa (Ord.D (Ord.of (b := (sh u 0)) (n := 1) rfl) inj1) hS 0 0 (F := (fillV W (8 * r + c) i px)) rfl rfl (by omega) (by decide) (Or.inr (Nat.le_refl _)) dL_draws_215 (fun H locs hP1 hle hk hS => ?_)
                    have hXI : XI G cs a a C1 H := hXI.kp (by assumption) hk (fun i hi h9 => hau i hi h9)
                    have hPa : va_P G vwCl ([((sh u 0) 0, .inl (cs 0, 64, .inl (aI (updZ (fillV W (8 * r + c) i px) ((8 * r) + (c + i)) px))))]) H := hP1
                    refine z_iinc (k := 9) (lv' := [(9, .int (zI ((c + i) + 1))), (0, .ref (a 0)), (1, .int (zI p)), (2, .int (zI g)), (3, .int (zI h)), (4, .ref ((sh u 0) 0)), (5, .int (zI (1 + lowF g 4))), (6, .int (zI (D.2.2.1.1 + 1))), (7, .int (zI 1)), (8, .int (zI r)), (10, .int (zI px)), (11, .int (zI n)), (12, .int (zI i))]) hx hb dL_draws_216 hl rfl (by decide) rfl (fun ls hl => ?_)
                    refine z_iinc (k := 12) (lv' := [(12, .int (zI (i + 1))), (9, .int (zI ((c + i) + 1))), (0, .ref (a 0)), (1, .int (zI p)), (2, .int (zI g)), (3, .int (zI h)), (4, .ref ((sh u 0) 0)), (5, .int (zI (1 + lowF g 4))), (6, .int (zI (D.2.2.1.1 + 1))), (7, .int (zI 1)), (8, .int (zI r)), (10, .int (zI px)), (11, .int (zI n))]) hx hb dL_draws_219 hl rfl (by decide) rfl (fun ls hl => ?_)
                    refine lv_goto (tgt := 196) hx hb dL_draws_222 (by decide) ?_
                    have hb1 : c + (i + 1) = c + i + 1 := by omega
                    exact ih (i + 1) H locs ⟨(by omega), hXI, (by rw [← fill_s hI.1, show 8 * r + c + i = 8 * r + (c + i) by omega]; exact hPa)⟩ hS (by omega) ls (by show lv_has ls 13 [(0, .ref (a 0)), (1, .int (zI p)), (2, .int (zI g)), (3, .int (zI h)), (4, .ref ((sh u 0) 0)), (5, .int (zI (1 + lowF g 4))), (6, .int (zI (D.2.2.1.1 + 1))), (7, .int (zI 1)), (8, .int (zI r)), (9, .int (zI (c + (i + 1)))), (10, .int (zI px)), (11, .int (zI n)), (12, .int (zI (i + 1)))]; rw [hb1]; exact lv_sub hl [2, 3, 4, 5, 6, 7, 8, 9, 10, 1, 11, 12, 0] rfl)
                · skip
                  refine lv_aload_n hx hb dL_draws_158 rfl (lv_at hl 3 rfl) ?_
                  refine z_bipush (n := 120) hx hb dL_draws_159 (by decide) ?_
                  obtain ⟨C2, eC2, hC2, hC21, hC2l, hC2x⟩ := type_ok hC1 (z := 120) (by omega) (by decide)
                  have hC2m : C2.2.2.1.1 = D.2.2.1.1 + 2 := by omega
                  have hQ2 : RD C2.2.2.1.2 C2.2.2.1.1 r (c + 1) (fillV W (8 * r + c) n px) 0 1 px := by rw [hC2l, hC2x]; exact rd_x (by omega) hQ1
                  refine z_w (zrV (As := [.int (zI 120)]) (rest := []) ⟨hx, hb, hml, hown, hts⟩ (k_type l G cs a C1 120 ia hC1 (nar_char (by decide))) gL_draws_X6_type rfl qX6_type rfl rfl ⟨Nat.le_of_ble_eq_true rfl, Nat.le_of_ble_eq_true rfl⟩ hXI hK (va_recv hK.1 hXI.xo (ci := 6) (q0 := 0) rfl rfl) hl.1 rfl (Nat.le_of_ble_eq_true rfl) dL_draws_161 ⟨Nat.le_of_ble_eq_true rfl, Nat.le_of_ble_eq_true rfl⟩) hS (fun q h => Or.inl h) (fun q h => Or.inl h) (fun v H locs hpost hle hk hS => ?_)
                  obtain ⟨hv, hXI⟩ := hpost
                  have hE : typeF C1 120 = (D.2.2.1.1 + 2, C2) := (by rw [eC2, show C1.2.2.1.1 + 1 = D.2.2.1.1 + 2 by omega])
                  have hv : v = .int (zI (D.2.2.1.1 + 2)) := by rw [hE] at hv; exact hv
                  have hXI : XI G cs a a C2 H := by rw [hE] at hXI; exact hXI
                  subst hv
                  clear hE
                  have hPa := keepO (Ord.of (b := (sh u 0)) (n := 1) rfl) hPa hk (fun j hj h9 => by obtain ⟨i9, h1, h2, h3⟩ := h9; exact hau i9 h2 (by rw [show j = 0 by omega] at h3; exact h3.symm))
                  refine lv_istore (lv' := [(6, .int (zI (D.2.2.1.1 + 2))), (11, .int (zI n)), (10, .int (zI px)), (0, .ref (a 0)), (1, .int (zI p)), (2, .int (zI g)), (3, .int (zI h)), (4, .ref ((sh u 0) 0)), (5, .int (zI (1 + lowF g 4))), (7, .int (zI 1)), (8, .int (zI r)), (9, .int (zI c))]) hx hb dL_draws_164 hl (by decide) rfl (fun ls hl => ?_)
                  refine lv_aload_n hx hb dL_draws_166 rfl (lv_at hl 3 rfl) ?_
                  refine lv_iload_n hx hb dL_draws_167 rfl (lv_at hl 4 rfl) ?_
                  refine z_w (zrV (As := [.int (zI p)]) (rest := []) ⟨hx, hb, hml, hown, hts⟩ (k_draw l G cs a C2 p ia hC2 (by omega)) gL_draws_X6_draw rfl qX6_draw rfl rfl ⟨Nat.le_of_ble_eq_true rfl, Nat.le_of_ble_eq_true rfl⟩ hXI hK (va_recv hK.1 hXI.xo (ci := 6) (q0 := 0) rfl rfl) hl.1 rfl (Nat.le_of_ble_eq_true rfl) dL_draws_168 ⟨Nat.le_of_ble_eq_true rfl, Nat.le_of_ble_eq_true rfl⟩) hS (fun q h => Or.inl h) (fun q h => Or.inl h) (fun v H locs hpost hle hk hS => ?_)
                  obtain ⟨hv, hXI⟩ := hpost
                  have hE : drawF C2 p = (-100 - (D.2.2.1.1 + 2), C2) := ((draw_len hC2 (by rw [hC21, hC11, hD1]; exact hp) (Or.inl rfl) hQ2).trans (by rw [hC2m]))
                  have hv : v = .int (zI (-100 - (D.2.2.1.1 + 2))) := by rw [hE] at hv; exact hv
                  have hXI : XI G cs a a C2 H := by rw [hE] at hXI; exact hXI
                  subst hv
                  clear hE
                  have hPa := keepO (Ord.of (b := (sh u 0)) (n := 1) rfl) hPa hk (fun j hj h9 => by obtain ⟨i9, h1, h2, h3⟩ := h9; exact hau i9 h2 (by rw [show j = 0 by omega] at h3; exact h3.symm))
                  refine z_bipush (n := -100) hx hb dL_draws_171 (by decide) ?_
                  refine lv_iload hx hb dL_draws_173 (lv_at hl 0 rfl) ?_
                  refine z_isub hx hb dL_draws_175 ?_
                  refine z_icmp_eq (tgt := 181) hx hb dL_draws_176 (by decide) (by omega) (by omega) (fun c130 => ?_) (fun c130 => ?_)
                  · skip
                    refine lv_aload_n hx hb dL_draws_181 rfl (lv_at hl 3 rfl) ?_
                    refine z_bipush (n := 48) hx hb dL_draws_182 (by decide) ?_
                    refine lv_iload hx hb dL_draws_184 (lv_at hl 1 rfl) ?_
                    refine z_iadd hx hb dL_draws_186 ?_
                    refine lv_i2c (v := (zI (48 + n))) hx hb dL_draws_187 ((i2c_z _).trans (congrArg zI (by omega))) ?_
                    obtain ⟨C3, eC3, hC3, hC31, hC3l, hC3x⟩ := type_ok hC2 (z := 48 + n) (by omega) (by omega)
                    have hC3m : C3.2.2.1.1 = D.2.2.1.1 + 3 := by omega
                    have hQ3 : RD C3.2.2.1.2 C3.2.2.1.1 r (c + n) (fillV W (8 * r + c) n px) 0 0 px := by rw [hC3l, hC3x]; have h9 := rd_dig (n := n) (V2 := fillV W (8 * r + c) n px) (by omega) hpx (by omega) (by omega) (fun k a b => rfl) (fun k a b => fill_at (by omega) (by omega)) hQ2; rw [show c + 1 + (n - 1) = c + n by omega] at h9; exact h9
                    refine z_w (zrV (As := [.int (zI (48 + n))]) (rest := []) ⟨hx, hb, hml, hown, hts⟩ (k_type l G cs a C2 (48 + n) ia hC2 (nar_char (by omega))) gL_draws_X6_type rfl qX6_type rfl rfl ⟨Nat.le_of_ble_eq_true rfl, Nat.le_of_ble_eq_true rfl⟩ hXI hK (va_recv hK.1 hXI.xo (ci := 6) (q0 := 0) rfl rfl) hl.1 rfl (Nat.le_of_ble_eq_true rfl) dL_draws_188 ⟨Nat.le_of_ble_eq_true rfl, Nat.le_of_ble_eq_true rfl⟩) hS (fun q h => Or.inl h) (fun q h => Or.inl h) (fun v H locs hpost hle hk hS => ?_)
                    obtain ⟨hv, hXI⟩ := hpost
                    have hE : typeF C2 (48 + n) = (D.2.2.1.1 + 3, C3) := (by rw [eC3, show C2.2.2.1.1 + 1 = D.2.2.1.1 + 3 by omega])
                    have hv : v = .int (zI (D.2.2.1.1 + 3)) := by rw [hE] at hv; exact hv
                    have hXI : XI G cs a a C3 H := by rw [hE] at hXI; exact hXI
                    subst hv
                    clear hE
                    have hPa := keepO (Ord.of (b := (sh u 0)) (n := 1) rfl) hPa hk (fun j hj h9 => by obtain ⟨i9, h1, h2, h3⟩ := h9; exact hau i9 h2 (by rw [show j = 0 by omega] at h3; exact h3.symm))
                    refine lv_istore (lv' := [(6, .int (zI (D.2.2.1.1 + 3))), (11, .int (zI n)), (10, .int (zI px)), (0, .ref (a 0)), (1, .int (zI p)), (2, .int (zI g)), (3, .int (zI h)), (4, .ref ((sh u 0) 0)), (5, .int (zI (1 + lowF g 4))), (7, .int (zI 1)), (8, .int (zI r)), (9, .int (zI c))]) hx hb dL_draws_191 hl (by decide) rfl (fun ls hl => ?_)
                    refine z_iconst (n := 0) hx hb dL_draws_193 ?_
                    refine lv_istore (lv' := [(12, .int (zI 0)), (6, .int (zI (D.2.2.1.1 + 3))), (11, .int (zI n)), (10, .int (zI px)), (0, .ref (a 0)), (1, .int (zI p)), (2, .int (zI g)), (3, .int (zI h)), (4, .ref ((sh u 0) 0)), (5, .int (zI (1 + lowF g 4))), (7, .int (zI 1)), (8, .int (zI r)), (9, .int (zI c))]) hx hb dL_draws_194 hl (by decide) rfl (fun ls hl => ?_)
                    -- loop 196
                    refine z_loopH (nL := 13) (fun (i : Int) => [(0, .ref (a 0)), (1, .int (zI p)), (2, .int (zI g)), (3, .int (zI h)), (4, .ref ((sh u 0) 0)), (5, .int (zI (1 + lowF g 4))), (6, .int (zI (D.2.2.1.1 + 3))), (7, .int (zI 1)), (8, .int (zI r)), (9, .int (zI (c + i))), (10, .int (zI px)), (11, .int (zI n)), (12, .int (zI i))]) (fun (i : Int) (H : Heap) => (0 ≤ i ∧ i ≤ n) ∧ XI G cs a a C3 H ∧ va_P G vwCl ([((sh u 0) 0, .inl (cs 0, 64, .inl (aI (fillV W (8 * r + c) i px))))]) H) (fun (i : Int) => (n - i).toNat) (0 : Int) ⟨(by omega), hXI, (by rw [fill_0]; exact hPa)⟩ hS (by show lv_has ls 13 [(0, .ref (a 0)), (1, .int (zI p)), (2, .int (zI g)), (3, .int (zI h)), (4, .ref ((sh u 0) 0)), (5, .int (zI (1 + lowF g 4))), (6, .int (zI (D.2.2.1.1 + 3))), (7, .int (zI 1)), (8, .int (zI r)), (9, .int (zI (c + (0 : Int)))), (10, .int (zI px)), (11, .int (zI n)), (12, .int (zI (0 : Int)))]; rw [Int.add_zero]; exact lv_sub hl [4, 5, 6, 7, 8, 9, 1, 10, 11, 12, 3, 2, 0] rfl) (fun i H locs hIH hS ih ls hl => ?_)
                    obtain ⟨hI, hXI, hPa⟩ := hIH
                    have hl : lv_has ls 13 [(0, .ref (a 0)), (1, .int (zI p)), (2, .int (zI g)), (3, .int (zI h)), (4, .ref ((sh u 0) 0)), (5, .int (zI (1 + lowF g 4))), (6, .int (zI (D.2.2.1.1 + 3))), (7, .int (zI 1)), (8, .int (zI r)), (9, .int (zI (c + i))), (10, .int (zI px)), (11, .int (zI n)), (12, .int (zI i))] := hl
                    refine lv_iload hx hb dL_draws_196 (lv_at hl 12 rfl) ?_
                    refine lv_iload hx hb dL_draws_198 (lv_at hl 11 rfl) ?_
                    refine z_icmp_ge (tgt := 225) hx hb dL_draws_200 (by decide) (by omega) (by omega) (fun c131 => ?_) (fun c131 => ?_)
                    · skip
                      have ei : n = i := by omega
                      subst ei
                      refine lv_iload hx hb dL_draws_225 (lv_at hl 6 rfl) ?_
                      refine z_bipush (n := 50) hx hb dL_draws_227 (by decide) ?_
                      refine z_icmp_le (tgt := 234) hx hb dL_draws_229 (by decide) (by omega) (by omega) (fun c132 => ?_) (fun c132 => ?_)
                      · skip
                        refine lv_goto (tgt := 94) hx hb dL_draws_234 (by decide) ?_
                        exact ih2 (c + n, C3, fillV W (8 * r + c) n px) H locs ⟨⟨by omega, ⟨hC3, hC31.trans (hC21.trans (hC11.trans hD1))⟩, by omega, 0, px, hQ3⟩, hXI, hPa⟩ hS (by show (8 - (c + n)).toNat < (8 - c).toNat; omega) ls (by show lv_has ls 13 [(0, .ref (a 0)), (1, .int (zI p)), (2, .int (zI g)), (3, .int (zI h)), (4, .ref ((sh u 0) 0)), (5, .int (zI (1 + lowF g 4))), (6, .int (zI C3.2.2.1.1)), (7, .int (zI 1)), (8, .int (zI r)), (9, .int (zI (c + n)))]; rw [hC3m]; exact lv_sub hl [0, 1, 2, 3, 4, 5, 6, 7, 8, 9] rfl)
                      · skip
                        refine z_iconst (n := 1) hx hb dL_draws_232 ?_
                        exact w_zret hx hb hr hlk dL_draws_233 (by omega) hS ⟨rfl, C3, hC3, fun f _ => by rw [hC31, hC21, hC11, hD1], hXI⟩
                    · skip
                      refine lv_aload hx hb dL_draws_203 (lv_at hl 4 rfl) ?_
                      refine z_bipush (n := 8) hx hb dL_draws_205 (by decide) ?_
                      refine lv_iload hx hb dL_draws_207 (lv_at hl 8 rfl) ?_
                      refine z_imul hx hb dL_draws_209 ?_
                      refine lv_iload hx hb dL_draws_210 (lv_at hl 9 rfl) ?_
                      refine z_iadd hx hb dL_draws_212 ?_
                      refine lv_iload hx hb dL_draws_213 (lv_at hl 10 rfl) ?_
                      refine z_iast hx hb hK.1 hPa (Ord.D (Ord.of (b := (sh u 0)) (n := 1) rfl) inj1) hS 0 0 (F := (fillV W (8 * r + c) i px)) rfl rfl (by omega) (by decide) (Or.inr (Nat.le_refl _)) dL_draws_215 (fun H locs hP1 hle hk hS => ?_)
                      have hXI : XI G cs a a C3 H := hXI.kp (by assumption) hk (fun i hi h9 => hau i hi h9)
                      have hPa : va_P G vwCl ([((sh u 0) 0, .inl (cs 0, 64, .inl (aI (updZ (fillV W (8 * r + c) i px) ((8 * r) + (c + i)) px))))]) H := hP1
                      refine z_iinc (k := 9) (lv' := [(9, .int (zI ((c + i) + 1))), (0, .ref (a 0)), (1, .int (zI p)), (2, .int (zI g)), (3, .int (zI h)), (4, .ref ((sh u 0) 0)), (5, .int (zI (1 + lowF g 4))), (6, .int (zI (D.2.2.1.1 + 3))), (7, .int (zI 1)), (8, .int (zI r)), (10, .int (zI px)), (11, .int (zI n)), (12, .int (zI i))]) hx hb dL_draws_216 hl rfl (by decide) rfl (fun ls hl => ?_)
                      refine z_iinc (k := 12) (lv' := [(12, .int (zI (i + 1))), (9, .int (zI ((c + i) + 1))), (0, .ref (a 0)), (1, .int (zI p)), (2, .int (zI g)), (3, .int (zI h)), (4, .ref ((sh u 0) 0)), (5, .int (zI (1 + lowF g 4))), (6, .int (zI (D.2.2.1.1 + 3))), (7, .int (zI 1)), (8, .int (zI r)), (10, .int (zI px)), (11, .int (zI n))]) hx hb dL_draws_219 hl rfl (by decide) rfl (fun ls hl => ?_)
                      refine lv_goto (tgt := 196) hx hb dL_draws_222 (by decide) ?_
                      have hb1 : c + (i + 1) = c + i + 1 := by omega
                      exact ih (i + 1) H locs ⟨(by omega), hXI, (by rw [← fill_s hI.1, show 8 * r + c + i = 8 * r + (c + i) by omega]; exact hPa)⟩ hS (by omega) ls (by show lv_has ls 13 [(0, .ref (a 0)), (1, .int (zI p)), (2, .int (zI g)), (3, .int (zI h)), (4, .ref ((sh u 0) 0)), (5, .int (zI (1 + lowF g 4))), (6, .int (zI (D.2.2.1.1 + 3))), (7, .int (zI 1)), (8, .int (zI r)), (9, .int (zI (c + (i + 1)))), (10, .int (zI px)), (11, .int (zI n)), (12, .int (zI (i + 1)))]; rw [hb1]; exact lv_sub hl [2, 3, 4, 5, 6, 7, 8, 9, 10, 1, 11, 12, 0] rfl)
                  · skip
                    exfalso; omega
              · skip
                refine z_bipush (n := 46) hx hb dL_draws_136 (by decide) ?_
                refine lv_goto (tgt := 147) hx hb dL_draws_138 (by decide) ?_
                obtain ⟨C1, eC1, hC1, hC11, hC1l, hC1x⟩ := type_ok hD (z := 46) (by omega) (by omega)
                have hQ1 : RD C1.2.2.1.2 C1.2.2.1.1 r (c + 1) (fillV W (8 * r + c) n px) 1 0 px := by rw [hC1l, hC1x]; exact rd_pix hDl.1 (by omega) hpx (Or.inl ⟨by omega, rfl⟩) (fun k a b => fill_lo b) (fill_at (by omega) (by omega)) hR
                refine z_w (zrV (As := [.int (zI 46)]) (rest := []) ⟨hx, hb, hml, hown, hts⟩ (k_type l G cs a D 46 ia hD (nar_char (by omega))) gL_draws_X6_type rfl qX6_type rfl rfl ⟨Nat.le_of_ble_eq_true rfl, Nat.le_of_ble_eq_true rfl⟩ hXI hK (va_recv hK.1 hXI.xo (ci := 6) (q0 := 0) rfl rfl) hl.1 rfl (Nat.le_of_ble_eq_true rfl) dL_draws_147 ⟨Nat.le_of_ble_eq_true rfl, Nat.le_of_ble_eq_true rfl⟩) hS (fun q h => Or.inl h) (fun q h => Or.inl h) (fun v H locs hpost hle hk hS => ?_)
                obtain ⟨hv, hXI⟩ := hpost
                have hE : typeF D 46 = (D.2.2.1.1 + 1, C1) := eC1
                have hv : v = .int (zI (D.2.2.1.1 + 1)) := by rw [hE] at hv; exact hv
                have hXI : XI G cs a a C1 H := by rw [hE] at hXI; exact hXI
                subst hv
                clear hE
                have hPa := keepO (Ord.of (b := (sh u 0)) (n := 1) rfl) hPa hk (fun j hj h9 => by obtain ⟨i9, h1, h2, h3⟩ := h9; exact hau i9 h2 (by rw [show j = 0 by omega] at h3; exact h3.symm))
                refine lv_istore (lv' := [(6, .int (zI (D.2.2.1.1 + 1))), (11, .int (zI n)), (10, .int (zI px)), (0, .ref (a 0)), (1, .int (zI p)), (2, .int (zI g)), (3, .int (zI h)), (4, .ref ((sh u 0) 0)), (5, .int (zI (1 + lowF g 4))), (7, .int (zI 1)), (8, .int (zI r)), (9, .int (zI c))]) hx hb dL_draws_150 hl (by decide) rfl (fun ls hl => ?_)
                refine lv_iload hx hb dL_draws_152 (lv_at hl 1 rfl) ?_
                refine z_iconst (n := 1) hx hb dL_draws_154 ?_
                refine z_icmp_le (tgt := 193) hx hb dL_draws_155 (by decide) (by omega) (by omega) (fun c133 => ?_) (fun c133 => ?_)
                · skip
                  refine z_iconst (n := 0) hx hb dL_draws_193 ?_
                  refine lv_istore (lv' := [(12, .int (zI 0)), (6, .int (zI (D.2.2.1.1 + 1))), (11, .int (zI n)), (10, .int (zI px)), (0, .ref (a 0)), (1, .int (zI p)), (2, .int (zI g)), (3, .int (zI h)), (4, .ref ((sh u 0) 0)), (5, .int (zI (1 + lowF g 4))), (7, .int (zI 1)), (8, .int (zI r)), (9, .int (zI c))]) hx hb dL_draws_194 hl (by decide) rfl (fun ls hl => ?_)
                  -- loop 196
                  refine z_loopH (nL := 13) (fun (i : Int) => [(0, .ref (a 0)), (1, .int (zI p)), (2, .int (zI g)), (3, .int (zI h)), (4, .ref ((sh u 0) 0)), (5, .int (zI (1 + lowF g 4))), (6, .int (zI (D.2.2.1.1 + 1))), (7, .int (zI 1)), (8, .int (zI r)), (9, .int (zI (c + i))), (10, .int (zI px)), (11, .int (zI n)), (12, .int (zI i))]) (fun (i : Int) (H : Heap) => (0 ≤ i ∧ i ≤ n) ∧ XI G cs a a C1 H ∧ va_P G vwCl ([((sh u 0) 0, .inl (cs 0, 64, .inl (aI (fillV W (8 * r + c) i px))))]) H) (fun (i : Int) => (n - i).toNat) (0 : Int) ⟨(by omega), hXI, (by rw [fill_0]; exact hPa)⟩ hS (by show lv_has ls 13 [(0, .ref (a 0)), (1, .int (zI p)), (2, .int (zI g)), (3, .int (zI h)), (4, .ref ((sh u 0) 0)), (5, .int (zI (1 + lowF g 4))), (6, .int (zI (D.2.2.1.1 + 1))), (7, .int (zI 1)), (8, .int (zI r)), (9, .int (zI (c + (0 : Int)))), (10, .int (zI px)), (11, .int (zI n)), (12, .int (zI (0 : Int)))]; rw [Int.add_zero]; exact lv_sub hl [4, 5, 6, 7, 8, 9, 1, 10, 11, 12, 3, 2, 0] rfl) (fun i H locs hIH hS ih ls hl => ?_)
                  obtain ⟨hI, hXI, hPa⟩ := hIH
                  have hl : lv_has ls 13 [(0, .ref (a 0)), (1, .int (zI p)), (2, .int (zI g)), (3, .int (zI h)), (4, .ref ((sh u 0) 0)), (5, .int (zI (1 + lowF g 4))), (6, .int (zI (D.2.2.1.1 + 1))), (7, .int (zI 1)), (8, .int (zI r)), (9, .int (zI (c + i))), (10, .int (zI px)), (11, .int (zI n)), (12, .int (zI i))] := hl
                  refine lv_iload hx hb dL_draws_196 (lv_at hl 12 rfl) ?_
                  refine lv_iload hx hb dL_draws_198 (lv_at hl 11 rfl) ?_
                  refine z_icmp_ge (tgt := 225) hx hb dL_draws_200 (by decide) (by omega) (by omega) (fun c134 => ?_) (fun c134 => ?_)
                  · skip
                    have ei : n = i := by omega
                    subst ei
                    refine lv_iload hx hb dL_draws_225 (lv_at hl 6 rfl) ?_
                    refine z_bipush (n := 50) hx hb dL_draws_227 (by decide) ?_
                    refine z_icmp_le (tgt := 234) hx hb dL_draws_229 (by decide) (by omega) (by omega) (fun c135 => ?_) (fun c135 => ?_)
                    · skip
                      refine lv_goto (tgt := 94) hx hb dL_draws_234 (by decide) ?_
                      exact ih2 (c + n, C1, fillV W (8 * r + c) n px) H locs ⟨⟨by omega, ⟨hC1, hC11.trans hD1⟩, by omega, 1, px, by rw [show c + n = c + 1 by omega]; exact hQ1⟩, hXI, hPa⟩ hS (by show (8 - (c + n)).toNat < (8 - c).toNat; omega) ls (by show lv_has ls 13 [(0, .ref (a 0)), (1, .int (zI p)), (2, .int (zI g)), (3, .int (zI h)), (4, .ref ((sh u 0) 0)), (5, .int (zI (1 + lowF g 4))), (6, .int (zI C1.2.2.1.1)), (7, .int (zI 1)), (8, .int (zI r)), (9, .int (zI (c + n)))]; rw [hC1l]; exact lv_sub hl [0, 1, 2, 3, 4, 5, 6, 7, 8, 9] rfl)
                    · skip
                      refine z_iconst (n := 1) hx hb dL_draws_232 ?_
                      exact w_zret hx hb hr hlk dL_draws_233 (by omega) hS ⟨rfl, C1, hC1, fun f _ => by rw [hC11, hD1], hXI⟩
                  · skip
                    refine lv_aload hx hb dL_draws_203 (lv_at hl 4 rfl) ?_
                    refine z_bipush (n := 8) hx hb dL_draws_205 (by decide) ?_
                    refine lv_iload hx hb dL_draws_207 (lv_at hl 8 rfl) ?_
                    refine z_imul hx hb dL_draws_209 ?_
                    refine lv_iload hx hb dL_draws_210 (lv_at hl 9 rfl) ?_
                    refine z_iadd hx hb dL_draws_212 ?_
                    refine lv_iload hx hb dL_draws_213 (lv_at hl 10 rfl) ?_
                    refine z_iast hx hb hK.1 hPa (Ord.D (Ord.of (b := (sh u 0)) (n := 1) rfl) inj1) hS 0 0 (F := (fillV W (8 * r + c) i px)) rfl rfl (by omega) (by decide) (Or.inr (Nat.le_refl _)) dL_draws_215 (fun H locs hP1 hle hk hS => ?_)
                    have hXI : XI G cs a a C1 H := hXI.kp (by assumption) hk (fun i hi h9 => hau i hi h9)
                    have hPa : va_P G vwCl ([((sh u 0) 0, .inl (cs 0, 64, .inl (aI (updZ (fillV W (8 * r + c) i px) ((8 * r) + (c + i)) px))))]) H := hP1
                    refine z_iinc (k := 9) (lv' := [(9, .int (zI ((c + i) + 1))), (0, .ref (a 0)), (1, .int (zI p)), (2, .int (zI g)), (3, .int (zI h)), (4, .ref ((sh u 0) 0)), (5, .int (zI (1 + lowF g 4))), (6, .int (zI (D.2.2.1.1 + 1))), (7, .int (zI 1)), (8, .int (zI r)), (10, .int (zI px)), (11, .int (zI n)), (12, .int (zI i))]) hx hb dL_draws_216 hl rfl (by decide) rfl (fun ls hl => ?_)
                    refine z_iinc (k := 12) (lv' := [(12, .int (zI (i + 1))), (9, .int (zI ((c + i) + 1))), (0, .ref (a 0)), (1, .int (zI p)), (2, .int (zI g)), (3, .int (zI h)), (4, .ref ((sh u 0) 0)), (5, .int (zI (1 + lowF g 4))), (6, .int (zI (D.2.2.1.1 + 1))), (7, .int (zI 1)), (8, .int (zI r)), (10, .int (zI px)), (11, .int (zI n))]) hx hb dL_draws_219 hl rfl (by decide) rfl (fun ls hl => ?_)
                    refine lv_goto (tgt := 196) hx hb dL_draws_222 (by decide) ?_
                    have hb1 : c + (i + 1) = c + i + 1 := by omega
                    exact ih (i + 1) H locs ⟨(by omega), hXI, (by rw [← fill_s hI.1, show 8 * r + c + i = 8 * r + (c + i) by omega]; exact hPa)⟩ hS (by omega) ls (by show lv_has ls 13 [(0, .ref (a 0)), (1, .int (zI p)), (2, .int (zI g)), (3, .int (zI h)), (4, .ref ((sh u 0) 0)), (5, .int (zI (1 + lowF g 4))), (6, .int (zI (D.2.2.1.1 + 1))), (7, .int (zI 1)), (8, .int (zI r)), (9, .int (zI (c + (i + 1)))), (10, .int (zI px)), (11, .int (zI n)), (12, .int (zI (i + 1)))]; rw [hb1]; exact lv_sub hl [2, 3, 4, 5, 6, 7, 8, 9, 10, 1, 11, 12, 0] rfl)
                · skip
                  refine lv_aload_n hx hb dL_draws_158 rfl (lv_at hl 3 rfl) ?_
                  refine z_bipush (n := 120) hx hb dL_draws_159 (by decide) ?_
                  obtain ⟨C2, eC2, hC2, hC21, hC2l, hC2x⟩ := type_ok hC1 (z := 120) (by omega) (by decide)
                  have hC2m : C2.2.2.1.1 = D.2.2.1.1 + 2 := by omega
                  have hQ2 : RD C2.2.2.1.2 C2.2.2.1.1 r (c + 1) (fillV W (8 * r + c) n px) 0 1 px := by rw [hC2l, hC2x]; exact rd_x (by omega) hQ1
                  refine z_w (zrV (As := [.int (zI 120)]) (rest := []) ⟨hx, hb, hml, hown, hts⟩ (k_type l G cs a C1 120 ia hC1 (nar_char (by decide))) gL_draws_X6_type rfl qX6_type rfl rfl ⟨Nat.le_of_ble_eq_true rfl, Nat.le_of_ble_eq_true rfl⟩ hXI hK (va_recv hK.1 hXI.xo (ci := 6) (q0 := 0) rfl rfl) hl.1 rfl (Nat.le_of_ble_eq_true rfl) dL_draws_161 ⟨Nat.le_of_ble_eq_true rfl, Nat.le_of_ble_eq_true rfl⟩) hS (fun q h => Or.inl h) (fun q h => Or.inl h) (fun v H locs hpost hle hk hS => ?_)
                  obtain ⟨hv, hXI⟩ := hpost
                  have hE : typeF C1 120 = (D.2.2.1.1 + 2, C2) := (by rw [eC2, show C1.2.2.1.1 + 1 = D.2.2.1.1 + 2 by omega])
                  have hv : v = .int (zI (D.2.2.1.1 + 2)) := by rw [hE] at hv; exact hv
                  have hXI : XI G cs a a C2 H := by rw [hE] at hXI; exact hXI
                  subst hv
                  clear hE
                  have hPa := keepO (Ord.of (b := (sh u 0)) (n := 1) rfl) hPa hk (fun j hj h9 => by obtain ⟨i9, h1, h2, h3⟩ := h9; exact hau i9 h2 (by rw [show j = 0 by omega] at h3; exact h3.symm))
                  refine lv_istore (lv' := [(6, .int (zI (D.2.2.1.1 + 2))), (11, .int (zI n)), (10, .int (zI px)), (0, .ref (a 0)), (1, .int (zI p)), (2, .int (zI g)), (3, .int (zI h)), (4, .ref ((sh u 0) 0)), (5, .int (zI (1 + lowF g 4))), (7, .int (zI 1)), (8, .int (zI r)), (9, .int (zI c))]) hx hb dL_draws_164 hl (by decide) rfl (fun ls hl => ?_)
                  refine lv_aload_n hx hb dL_draws_166 rfl (lv_at hl 3 rfl) ?_
                  refine lv_iload_n hx hb dL_draws_167 rfl (lv_at hl 4 rfl) ?_
                  refine z_w (zrV (As := [.int (zI p)]) (rest := []) ⟨hx, hb, hml, hown, hts⟩ (k_draw l G cs a C2 p ia hC2 (by omega)) gL_draws_X6_draw rfl qX6_draw rfl rfl ⟨Nat.le_of_ble_eq_true rfl, Nat.le_of_ble_eq_true rfl⟩ hXI hK (va_recv hK.1 hXI.xo (ci := 6) (q0 := 0) rfl rfl) hl.1 rfl (Nat.le_of_ble_eq_true rfl) dL_draws_168 ⟨Nat.le_of_ble_eq_true rfl, Nat.le_of_ble_eq_true rfl⟩) hS (fun q h => Or.inl h) (fun q h => Or.inl h) (fun v H locs hpost hle hk hS => ?_)
                  obtain ⟨hv, hXI⟩ := hpost
                  have hE : drawF C2 p = (-100 - (D.2.2.1.1 + 2), C2) := ((draw_len hC2 (by rw [hC21, hC11, hD1]; exact hp) (Or.inl rfl) hQ2).trans (by rw [hC2m]))
                  have hv : v = .int (zI (-100 - (D.2.2.1.1 + 2))) := by rw [hE] at hv; exact hv
                  have hXI : XI G cs a a C2 H := by rw [hE] at hXI; exact hXI
                  subst hv
                  clear hE
                  have hPa := keepO (Ord.of (b := (sh u 0)) (n := 1) rfl) hPa hk (fun j hj h9 => by obtain ⟨i9, h1, h2, h3⟩ := h9; exact hau i9 h2 (by rw [show j = 0 by omega] at h3; exact h3.symm))
                  refine z_bipush (n := -100) hx hb dL_draws_171 (by decide) ?_
                  refine lv_iload hx hb dL_draws_173 (lv_at hl 0 rfl) ?_
                  refine z_isub hx hb dL_draws_175 ?_
                  refine z_icmp_eq (tgt := 181) hx hb dL_draws_176 (by decide) (by omega) (by omega) (fun c136 => ?_) (fun c136 => ?_)
                  · skip
                    refine lv_aload_n hx hb dL_draws_181 rfl (lv_at hl 3 rfl) ?_
                    refine z_bipush (n := 48) hx hb dL_draws_182 (by decide) ?_
                    refine lv_iload hx hb dL_draws_184 (lv_at hl 1 rfl) ?_
                    refine z_iadd hx hb dL_draws_186 ?_
                    refine lv_i2c (v := (zI (48 + n))) hx hb dL_draws_187 ((i2c_z _).trans (congrArg zI (by omega))) ?_
                    obtain ⟨C3, eC3, hC3, hC31, hC3l, hC3x⟩ := type_ok hC2 (z := 48 + n) (by omega) (by omega)
                    have hC3m : C3.2.2.1.1 = D.2.2.1.1 + 3 := by omega
                    have hQ3 : RD C3.2.2.1.2 C3.2.2.1.1 r (c + n) (fillV W (8 * r + c) n px) 0 0 px := by rw [hC3l, hC3x]; have h9 := rd_dig (n := n) (V2 := fillV W (8 * r + c) n px) (by omega) hpx (by omega) (by omega) (fun k a b => rfl) (fun k a b => fill_at (by omega) (by omega)) hQ2; rw [show c + 1 + (n - 1) = c + n by omega] at h9; exact h9
                    refine z_w (zrV (As := [.int (zI (48 + n))]) (rest := []) ⟨hx, hb, hml, hown, hts⟩ (k_type l G cs a C2 (48 + n) ia hC2 (nar_char (by omega))) gL_draws_X6_type rfl qX6_type rfl rfl ⟨Nat.le_of_ble_eq_true rfl, Nat.le_of_ble_eq_true rfl⟩ hXI hK (va_recv hK.1 hXI.xo (ci := 6) (q0 := 0) rfl rfl) hl.1 rfl (Nat.le_of_ble_eq_true rfl) dL_draws_188 ⟨Nat.le_of_ble_eq_true rfl, Nat.le_of_ble_eq_true rfl⟩) hS (fun q h => Or.inl h) (fun q h => Or.inl h) (fun v H locs hpost hle hk hS => ?_)
                    obtain ⟨hv, hXI⟩ := hpost
                    have hE : typeF C2 (48 + n) = (D.2.2.1.1 + 3, C3) := (by rw [eC3, show C2.2.2.1.1 + 1 = D.2.2.1.1 + 3 by omega])
                    have hv : v = .int (zI (D.2.2.1.1 + 3)) := by rw [hE] at hv; exact hv
                    have hXI : XI G cs a a C3 H := by rw [hE] at hXI; exact hXI
                    subst hv
                    clear hE
                    have hPa := keepO (Ord.of (b := (sh u 0)) (n := 1) rfl) hPa hk (fun j hj h9 => by obtain ⟨i9, h1, h2, h3⟩ := h9; exact hau i9 h2 (by rw [show j = 0 by omega] at h3; exact h3.symm))
                    refine lv_istore (lv' := [(6, .int (zI (D.2.2.1.1 + 3))), (11, .int (zI n)), (10, .int (zI px)), (0, .ref (a 0)), (1, .int (zI p)), (2, .int (zI g)), (3, .int (zI h)), (4, .ref ((sh u 0) 0)), (5, .int (zI (1 + lowF g 4))), (7, .int (zI 1)), (8, .int (zI r)), (9, .int (zI c))]) hx hb dL_draws_191 hl (by decide) rfl (fun ls hl => ?_)
                    refine z_iconst (n := 0) hx hb dL_draws_193 ?_
                    refine lv_istore (lv' := [(12, .int (zI 0)), (6, .int (zI (D.2.2.1.1 + 3))), (11, .int (zI n)), (10, .int (zI px)), (0, .ref (a 0)), (1, .int (zI p)), (2, .int (zI g)), (3, .int (zI h)), (4, .ref ((sh u 0) 0)), (5, .int (zI (1 + lowF g 4))), (7, .int (zI 1)), (8, .int (zI r)), (9, .int (zI c))]) hx hb dL_draws_194 hl (by decide) rfl (fun ls hl => ?_)
                    -- loop 196
                    refine z_loopH (nL := 13) (fun (i : Int) => [(0, .ref (a 0)), (1, .int (zI p)), (2, .int (zI g)), (3, .int (zI h)), (4, .ref ((sh u 0) 0)), (5, .int (zI (1 + lowF g 4))), (6, .int (zI (D.2.2.1.1 + 3))), (7, .int (zI 1)), (8, .int (zI r)), (9, .int (zI (c + i))), (10, .int (zI px)), (11, .int (zI n)), (12, .int (zI i))]) (fun (i : Int) (H : Heap) => (0 ≤ i ∧ i ≤ n) ∧ XI G cs a a C3 H ∧ va_P G vwCl ([((sh u 0) 0, .inl (cs 0, 64, .inl (aI (fillV W (8 * r + c) i px))))]) H) (fun (i : Int) => (n - i).toNat) (0 : Int) ⟨(by omega), hXI, (by rw [fill_0]; exact hPa)⟩ hS (by show lv_has ls 13 [(0, .ref (a 0)), (1, .int (zI p)), (2, .int (zI g)), (3, .int (zI h)), (4, .ref ((sh u 0) 0)), (5, .int (zI (1 + lowF g 4))), (6, .int (zI (D.2.2.1.1 + 3))), (7, .int (zI 1)), (8, .int (zI r)), (9, .int (zI (c + (0 : Int)))), (10, .int (zI px)), (11, .int (zI n)), (12, .int (zI (0 : Int)))]; rw [Int.add_zero]; exact lv_sub hl [4, 5, 6, 7, 8, 9, 1, 10, 11, 12, 3, 2, 0] rfl) (fun i H locs hIH hS ih ls hl => ?_)
                    obtain ⟨hI, hXI, hPa⟩ := hIH
                    have hl : lv_has ls 13 [(0, .ref (a 0)), (1, .int (zI p)), (2, .int (zI g)), (3, .int (zI h)), (4, .ref ((sh u 0) 0)), (5, .int (zI (1 + lowF g 4))), (6, .int (zI (D.2.2.1.1 + 3))), (7, .int (zI 1)), (8, .int (zI r)), (9, .int (zI (c + i))), (10, .int (zI px)), (11, .int (zI n)), (12, .int (zI i))] := hl
                    refine lv_iload hx hb dL_draws_196 (lv_at hl 12 rfl) ?_
                    refine lv_iload hx hb dL_draws_198 (lv_at hl 11 rfl) ?_
                    refine z_icmp_ge (tgt := 225) hx hb dL_draws_200 (by decide) (by omega) (by omega) (fun c137 => ?_) (fun c137 => ?_)
                    · skip
                      have ei : n = i := by omega
                      subst ei
                      refine lv_iload hx hb dL_draws_225 (lv_at hl 6 rfl) ?_
                      refine z_bipush (n := 50) hx hb dL_draws_227 (by decide) ?_
                      refine z_icmp_le (tgt := 234) hx hb dL_draws_229 (by decide) (by omega) (by omega) (fun c138 => ?_) (fun c138 => ?_)
                      · skip
                        refine lv_goto (tgt := 94) hx hb dL_draws_234 (by decide) ?_
                        exact ih2 (c + n, C3, fillV W (8 * r + c) n px) H locs ⟨⟨by omega, ⟨hC3, hC31.trans (hC21.trans (hC11.trans hD1))⟩, by omega, 0, px, hQ3⟩, hXI, hPa⟩ hS (by show (8 - (c + n)).toNat < (8 - c).toNat; omega) ls (by show lv_has ls 13 [(0, .ref (a 0)), (1, .int (zI p)), (2, .int (zI g)), (3, .int (zI h)), (4, .ref ((sh u 0) 0)), (5, .int (zI (1 + lowF g 4))), (6, .int (zI C3.2.2.1.1)), (7, .int (zI 1)), (8, .int (zI r)), (9, .int (zI (c + n)))]; rw [hC3m]; exact lv_sub hl [0, 1, 2, 3, 4, 5, 6, 7, 8, 9] rfl)
                      · skip
                        refine z_iconst (n := 1) hx hb dL_draws_232 ?_
                        exact w_zret hx hb hr hlk dL_draws_233 (by omega) hS ⟨rfl, C3, hC3, fun f _ => by rw [hC31, hC21, hC11, hD1], hXI⟩
                    · skip
                      refine lv_aload hx hb dL_draws_203 (lv_at hl 4 rfl) ?_
                      refine z_bipush (n := 8) hx hb dL_draws_205 (by decide) ?_
                      refine lv_iload hx hb dL_draws_207 (lv_at hl 8 rfl) ?_
                      refine z_imul hx hb dL_draws_209 ?_
                      refine lv_iload hx hb dL_draws_210 (lv_at hl 9 rfl) ?_
                      refine z_iadd hx hb dL_draws_212 ?_
                      refine lv_iload hx hb dL_draws_213 (lv_at hl 10 rfl) ?_
                      refine z_iast hx hb hK.1 hPa (Ord.D (Ord.of (b := (sh u 0)) (n := 1) rfl) inj1) hS 0 0 (F := (fillV W (8 * r + c) i px)) rfl rfl (by omega) (by decide) (Or.inr (Nat.le_refl _)) dL_draws_215 (fun H locs hP1 hle hk hS => ?_)
                      have hXI : XI G cs a a C3 H := hXI.kp (by assumption) hk (fun i hi h9 => hau i hi h9)
                      have hPa : va_P G vwCl ([((sh u 0) 0, .inl (cs 0, 64, .inl (aI (updZ (fillV W (8 * r + c) i px) ((8 * r) + (c + i)) px))))]) H := hP1
                      refine z_iinc (k := 9) (lv' := [(9, .int (zI ((c + i) + 1))), (0, .ref (a 0)), (1, .int (zI p)), (2, .int (zI g)), (3, .int (zI h)), (4, .ref ((sh u 0) 0)), (5, .int (zI (1 + lowF g 4))), (6, .int (zI (D.2.2.1.1 + 3))), (7, .int (zI 1)), (8, .int (zI r)), (10, .int (zI px)), (11, .int (zI n)), (12, .int (zI i))]) hx hb dL_draws_216 hl rfl (by decide) rfl (fun ls hl => ?_)
                      refine z_iinc (k := 12) (lv' := [(12, .int (zI (i + 1))), (9, .int (zI ((c + i) + 1))), (0, .ref (a 0)), (1, .int (zI p)), (2, .int (zI g)), (3, .int (zI h)), (4, .ref ((sh u 0) 0)), (5, .int (zI (1 + lowF g 4))), (6, .int (zI (D.2.2.1.1 + 3))), (7, .int (zI 1)), (8, .int (zI r)), (10, .int (zI px)), (11, .int (zI n))]) hx hb dL_draws_219 hl rfl (by decide) rfl (fun ls hl => ?_)
                      refine lv_goto (tgt := 196) hx hb dL_draws_222 (by decide) ?_
                      have hb1 : c + (i + 1) = c + i + 1 := by omega
                      exact ih (i + 1) H locs ⟨(by omega), hXI, (by rw [← fill_s hI.1, show 8 * r + c + i = 8 * r + (c + i) by omega]; exact hPa)⟩ hS (by omega) ls (by show lv_has ls 13 [(0, .ref (a 0)), (1, .int (zI p)), (2, .int (zI g)), (3, .int (zI h)), (4, .ref ((sh u 0) 0)), (5, .int (zI (1 + lowF g 4))), (6, .int (zI (D.2.2.1.1 + 3))), (7, .int (zI 1)), (8, .int (zI r)), (9, .int (zI (c + (i + 1)))), (10, .int (zI px)), (11, .int (zI n)), (12, .int (zI (i + 1)))]; rw [hb1]; exact lv_sub hl [2, 3, 4, 5, 6, 7, 8, 9, 10, 1, 11, 12, 0] rfl)
                  · skip
                    exfalso; omega
          · skip
            exfalso; omega
