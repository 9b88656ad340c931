set_option maxHeartbeats 4000000 in
set_option maxRecDepth 100000 in
theorem c_L_source (l : Launch) (G : va_G) (cs : Nat → ClassId) (a : Nat → Nat) (A : AS) (q r : Int) (ia : Inj a 62) (hA : GA A) (hq : 0 ≤ q ∧ q < 32) (hr_ : 0 ≤ r ∧ r < 32) : MW l yL_source wsL_source { frames := 8, cells := 0, slots := 0, locals := 190 } G cs [.ref (a 0), .int (zI q), .int (zI r)] (fun H => XI G cs a a A H) (fun vv H => vv = .int (zI (srcF A.1 q r)) ∧ XI G cs a a A H) (AX a 0 62) 0 0 := by
  refine m_intro (Pw := (fun H => XI G cs a a A H)) (cc := cL_source) (maxL := 8) (ret := some .int) RL (by decide) rfl rfl (Nat.le_of_ble_eq_true rfl) ?_
  intro pP eE sS mM below meth cC hx hb hr hts hown hml hlk hnm hPre hK ls hl
  have hl : lv_has ls 8 [(0, .ref (a 0)), (1, .int (zI q)), (2, .int (zI r))] := hl
  have hXI := hPre
  have hS : va_S (AX a 0 62) sS.heap sS.heap [] := va_S.rf
  have hwf := hA.1.1
  obtain ⟨w0, w1, w2, w3, w4, wP, wC, wS, wX⟩ := id hwf
  refine z_iconst (n := 0) hx hb dL_source_0 ?_
  refine lv_istore_n (lv' := [(3, .int (zI 0)), (0, .ref (a 0)), (1, .int (zI q)), (2, .int (zI r))]) hx hb dL_source_1 rfl hl (by decide) rfl (fun ls hl => ?_)
  -- loop 2
  refine z_loopH (nL := 8) (fun (s : Int) => [(0, .ref (a 0)), (1, .int (zI q)), (2, .int (zI r)), (3, .int (zI s))]) (fun (s : Int) (H : Heap) => ((0 ≤ s ∧ s ≤ A.1 0 1) ∧ ∀ j, 0 ≤ j → j < s → (shownB A.1 q (A.1 0 4) j && decide (pixAt A.1 j q r ≠ 0)) = false) ∧ XI G cs a a A H) (fun (s : Int) => (A.1 0 1 - s).toNat) (0 : Int) ⟨⟨by omega, fun j h1 h2 => by omega⟩, hXI⟩ hS (lv_sub hl [1, 2, 3, 0] rfl) (fun s H locs hIH hS ih ls hl => ?_)
  obtain ⟨hI, hXI⟩ := hIH
  have hl : lv_has ls 8 [(0, .ref (a 0)), (1, .int (zI q)), (2, .int (zI r)), (3, .int (zI s))] := hl
  obtain ⟨hI, hJ⟩ := hI
  refine lv_iload_n hx hb dL_source_2 rfl (lv_at hl 3 rfl) ?_
  refine lv_aload_n hx hb dL_source_3 rfl (lv_at hl 0 rfl) ?_
  refine z_iconst (n := 1) hx hb dL_source_4 ?_
  refine z_w (zrV (As := [.int (zI 1)]) (rest := [.int (zI s)]) ⟨hx, hb, hml, hown, hts⟩ (k_count l G cs a A 1 ia hA (by omega)) gL_source_X6_count rfl qX6_count rfl rfl ⟨Nat.le_of_ble_eq_true rfl, Nat.le_of_ble_eq_true rfl⟩ hXI hK (va_recv hK.1 hXI.xo (ci := 6) (q0 := 0) rfl rfl) hl.1 rfl (Nat.le_of_ble_eq_true rfl) dL_source_5 ⟨Nat.le_of_ble_eq_true rfl, Nat.le_of_ble_eq_true rfl⟩) hS (fun q h => h) (fun q h => h) (fun v H locs hpost hle hk hS => ?_)
  obtain ⟨rfl, hXI⟩ := hpost
  refine z_topi (b := A.1 0 1) ct_1 ?_
  refine z_icmp_ge (tgt := 96) hx hb dL_source_8 (by decide) (by omega) (by omega) (fun c101 => ?_) (fun c101 => ?_)
  · skip
    refine z_iconst (n := 0) hx hb dL_source_96 ?_
    exact w_iret hx hb hr hlk dL_source_97 hS ⟨congrArg (fun z => Value.int (zI z)) ((src_none (fun j h1 h2 => hJ j h1 (by omega))).symm), hXI⟩
  · skip
    refine lv_aload_n hx hb dL_source_11 rfl (lv_at hl 0 rfl) ?_
    refine lv_iload_n hx hb dL_source_12 rfl (lv_at hl 3 rfl) ?_
    refine lv_iload_n hx hb dL_source_13 rfl (lv_at hl 1 rfl) ?_
    refine lv_iload_n hx hb dL_source_14 rfl (lv_at hl 2 rfl) ?_
    have hs9 : 0 ≤ s ∧ s < A.1 0 1 := by omega
    have hpr := pixAt_r hwf (q := q) (r := r) hs9
    have hpp := wP s hs9.1 hs9.2
    have h34 := ln_34 hwf hq
    refine z_w (zrSJ (As := [.ref (a 0), .int (zI s), .int (zI q), .int (zI r)]) (rest := []) ⟨hx, hb, hml, hown, hts⟩ (c_L_pixelOf l G cs a A s q r ia hA hs9 hq hr_) gL_source_L_pixelOf rfl qL_pixelOf rfl rfl ⟨Nat.le_of_ble_eq_true rfl, Nat.le_of_ble_eq_true rfl⟩ hXI hK hl.1 rfl (Nat.le_of_ble_eq_true rfl) dL_source_15 ⟨Nat.le_of_ble_eq_true rfl, Nat.le_of_ble_eq_true rfl⟩) hS (fun q h => h) (fun q h => h) (fun v H locs hpost hle hk hS => ?_)
    obtain ⟨rfl, hXI⟩ := hpost
    refine lv_istore (lv' := [(4, .int (zI (pixAt A.1 s q r))), (0, .ref (a 0)), (1, .int (zI q)), (2, .int (zI r)), (3, .int (zI s))]) hx hb dL_source_18 hl (by decide) rfl (fun ls hl => ?_)
    refine lv_iload hx hb dL_source_20 (lv_at hl 0 rfl) ?_
    refine z_if_le (tgt := 90) hx hb dL_source_22 (by decide) (by omega) (fun c7 => ?_) (fun c7 => ?_)
    · skip
      refine z_iinc (k := 4) (lv' := [(3, .int (zI (s + 1))), (4, .int (zI (pixAt A.1 s q r))), (0, .ref (a 0)), (1, .int (zI q)), (2, .int (zI r))]) hx hb dL_source_90 hl rfl (by decide) rfl (fun ls hl => ?_)
      refine lv_goto (tgt := 2) hx hb dL_source_93 (by decide) ?_
      exact ih (s + 1) H locs ⟨⟨by omega, fun j q1 q2 => by
      by_cases e : j = s
      · subst e; exact (by rw [decide_eq_false (show ¬ pixAt A.1 j q r ≠ 0 by omega), Bool.and_false])
      · exact hJ j q1 (by omega)⟩, hXI⟩ hS (by omega) ls (lv_sub hl [2, 3, 4, 0] rfl)
    · skip
      refine lv_aload_n hx hb dL_source_25 rfl (lv_at hl 1 rfl) ?_
      refine lv_iload_n hx hb dL_source_26 rfl (lv_at hl 2 rfl) ?_
      refine lv_iload_n hx hb dL_source_27 rfl (lv_at hl 4 rfl) ?_
      refine z_w (zrSJ (As := [.ref (a 0), .int (zI q), .int (zI s)]) (rest := []) ⟨hx, hb, hml, hown, hts⟩ (c_L_isShown l G cs a A q s ia hA hq hs9) gL_source_L_isShown rfl qL_isShown rfl rfl ⟨Nat.le_of_ble_eq_true rfl, Nat.le_of_ble_eq_true rfl⟩ hXI hK hl.1 rfl (Nat.le_of_ble_eq_true rfl) dL_source_28 ⟨Nat.le_of_ble_eq_true rfl, Nat.le_of_ble_eq_true rfl⟩) hS (fun q h => h) (fun q h => h) (fun v H locs hpost hle hk hS => ?_)
      obtain ⟨rfl, hXI⟩ := hpost
      refine z_bif_eq (tgt := 90) hx hb dL_source_31 (by decide) (fun c6 => ?_) (fun c6 => ?_)
      · skip
        refine z_iinc (k := 4) (lv' := [(3, .int (zI (s + 1))), (4, .int (zI (pixAt A.1 s q r))), (0, .ref (a 0)), (1, .int (zI q)), (2, .int (zI r))]) hx hb dL_source_90 hl rfl (by decide) rfl (fun ls hl => ?_)
        refine lv_goto (tgt := 2) hx hb dL_source_93 (by decide) ?_
        exact ih (s + 1) H locs ⟨⟨by omega, fun j q1 q2 => by
      by_cases e : j = s
      · subst e; exact (by rw [show shownB A.1 q (A.1 0 4) j = false from c6]; rfl)
      · exact hJ j q1 (by omega)⟩, hXI⟩ hS (by omega) ls (lv_sub hl [2, 3, 4, 0] rfl)
      · skip
        refine lv_aload_n hx hb dL_source_34 rfl (lv_at hl 1 rfl) ?_
        refine lv_iload_n hx hb dL_source_35 rfl (lv_at hl 4 rfl) ?_
        refine z_iconst (n := 2) hx hb dL_source_36 ?_
        refine z_w (zrV (As := [.int (zI s), .int (zI 2)]) (rest := []) ⟨hx, hb, hml, hown, hts⟩ (k_sprite l G cs a A s 2 ia hA (by omega) (by omega)) gL_source_X6_sprite rfl qX6_sprite rfl rfl ⟨Nat.le_of_ble_eq_true rfl, Nat.le_of_ble_eq_true rfl⟩ hXI hK (va_recv hK.1 hXI.xo (ci := 6) (q0 := 0) rfl rfl) hl.1 rfl (Nat.le_of_ble_eq_true rfl) dL_source_37 ⟨Nat.le_of_ble_eq_true rfl, Nat.le_of_ble_eq_true rfl⟩) hS (fun q h => h) (fun q h => h) (fun v H locs hpost hle hk hS => ?_)
        obtain ⟨rfl, hXI⟩ := hpost
        refine z_topi (b := A.1 1 (6 * s + 2)) (sp_at hs9 (by decide)) ?_
        refine lv_istore (lv' := [(5, .int (zI (A.1 1 (6 * s + 2)))), (4, .int (zI (pixAt A.1 s q r))), (0, .ref (a 0)), (1, .int (zI q)), (2, .int (zI r)), (3, .int (zI s))]) hx hb dL_source_40 hl (by decide) rfl (fun ls hl => ?_)
        refine lv_aload_n hx hb dL_source_42 rfl (lv_at hl 2 rfl) ?_
        refine lv_iload_n hx hb dL_source_43 rfl (lv_at hl 3 rfl) ?_
        refine z_iconst (n := 3) hx hb dL_source_44 ?_
        refine z_w (zrV (As := [.int (zI q), .int (zI 3)]) (rest := []) ⟨hx, hb, hml, hown, hts⟩ (k_line l G cs a A q 3 ia hA (by omega) (by omega)) gL_source_X6_line rfl qX6_line rfl rfl ⟨Nat.le_of_ble_eq_true rfl, Nat.le_of_ble_eq_true rfl⟩ hXI hK (va_recv hK.1 hXI.xo (ci := 6) (q0 := 0) rfl rfl) hl.1 rfl (Nat.le_of_ble_eq_true rfl) dL_source_45 ⟨Nat.le_of_ble_eq_true rfl, Nat.le_of_ble_eq_true rfl⟩) hS (fun q h => h) (fun q h => h) (fun v H locs hpost hle hk hS => ?_)
        obtain ⟨rfl, hXI⟩ := hpost
        refine lv_istore (lv' := [(6, .int (zI (lineF A.1 q 3))), (5, .int (zI (A.1 1 (6 * s + 2)))), (4, .int (zI (pixAt A.1 s q r))), (0, .ref (a 0)), (1, .int (zI q)), (2, .int (zI r)), (3, .int (zI s))]) hx hb dL_source_48 hl (by decide) rfl (fun ls hl => ?_)
        refine lv_aload_n hx hb dL_source_50 rfl (lv_at hl 3 rfl) ?_
        refine lv_iload_n hx hb dL_source_51 rfl (lv_at hl 4 rfl) ?_
        refine z_iconst (n := 4) hx hb dL_source_52 ?_
        refine z_w (zrV (As := [.int (zI q), .int (zI 4)]) (rest := []) ⟨hx, hb, hml, hown, hts⟩ (k_line l G cs a A q 4 ia hA (by omega) (by omega)) gL_source_X6_line rfl qX6_line rfl rfl ⟨Nat.le_of_ble_eq_true rfl, Nat.le_of_ble_eq_true rfl⟩ hXI hK (va_recv hK.1 hXI.xo (ci := 6) (q0 := 0) rfl rfl) hl.1 rfl (Nat.le_of_ble_eq_true rfl) dL_source_53 ⟨Nat.le_of_ble_eq_true rfl, Nat.le_of_ble_eq_true rfl⟩) hS (fun q h => h) (fun q h => h) (fun v H locs hpost hle hk hS => ?_)
        obtain ⟨rfl, hXI⟩ := hpost
        refine lv_istore (lv' := [(7, .int (zI (lineF A.1 q 4))), (6, .int (zI (lineF A.1 q 3))), (5, .int (zI (A.1 1 (6 * s + 2)))), (4, .int (zI (pixAt A.1 s q r))), (0, .ref (a 0)), (1, .int (zI q)), (2, .int (zI r)), (3, .int (zI s))]) hx hb dL_source_56 hl (by decide) rfl (fun ls hl => ?_)
        refine z_iconst (n := 4) hx hb dL_source_58 ?_
        refine lv_iload hx hb dL_source_59 (lv_at hl 2 rfl) ?_
        refine lv_iload hx hb dL_source_61 (lv_at hl 1 rfl) ?_
        refine z_icmp_ne (tgt := 71) hx hb dL_source_63 (by decide) (by omega) (by omega) (fun c5 => ?_) (fun c5 => ?_)
        · skip
          refine lv_iload hx hb dL_source_71 (lv_at hl 2 rfl) ?_
          refine lv_iload hx hb dL_source_73 (lv_at hl 0 rfl) ?_
          refine z_icmp_ne (tgt := 83) hx hb dL_source_75 (by decide) (by omega) (by omega) (fun c4 => ?_) (fun c4 => ?_)
          · skip
            refine lv_iload hx hb dL_source_83 (lv_at hl 2 rfl) ?_
            refine z_imul hx hb dL_source_85 ?_
            refine lv_iload hx hb dL_source_86 (lv_at hl 3 rfl) ?_
            refine z_iadd hx hb dL_source_88 ?_
            exact w_iret hx hb hr hlk dL_source_89 hS ⟨congrArg (fun z => Value.int (zI z)) (src_hit hwf hq hs9 hJ c6 c7 (by rw [if_neg c5, if_neg c4])), hXI⟩
          · skip
            refine lv_iload hx hb dL_source_78 (lv_at hl 1 rfl) ?_
            refine lv_goto (tgt := 85) hx hb dL_source_80 (by decide) ?_
            refine z_imul hx hb dL_source_85 ?_
            refine lv_iload hx hb dL_source_86 (lv_at hl 3 rfl) ?_
            refine z_iadd hx hb dL_source_88 ?_
            exact w_iret hx hb hr hlk dL_source_89 hS ⟨congrArg (fun z => Value.int (zI z)) (src_hit hwf hq hs9 hJ c6 c7 (by rw [if_neg c5, if_pos c4])), hXI⟩
        · skip
          refine lv_iload hx hb dL_source_66 (lv_at hl 0 rfl) ?_
          refine lv_goto (tgt := 85) hx hb dL_source_68 (by decide) ?_
          refine z_imul hx hb dL_source_85 ?_
          refine lv_iload hx hb dL_source_86 (lv_at hl 3 rfl) ?_
          refine z_iadd hx hb dL_source_88 ?_
          exact w_iret hx hb hr hlk dL_source_89 hS ⟨congrArg (fun z => Value.int (zI z)) (src_hit hwf hq hs9 hJ c6 c7 (by rw [if_pos c5])), hXI⟩

set_option maxHeartbeats 4000000 in
set_option maxRecDepth 100000 in
theorem c_L_colors (l : Launch) (G : va_G) (cs : Nat → ClassId) (a : Nat → Nat) (A : AS) (u : Nat → Nat) (P : Int → Int) (q : Int) (ia : Inj a 62) (hA : GA A) (hq : 0 ≤ q ∧ q < 32) (hau : ∀ i, i < 62 → a i ≠ u 0) (hPal : PalR A.1 P) : MW l yL_colors wsL_colors { frames := 9, cells := 0, slots := 0, locals := 217 } G cs [.ref (a 0), .ref (u 0), .int (zI q)] (fun H => XI G cs a a A H ∧ va_P G vwCl ([(u 0, .inl (cs 0, 20, .inl (aI P)))]) H) (fun vv H => vv = .int (zI 1) ∧ XI G cs a a A H ∧ va_P G vwCl ([(u 0, .inl (cs 0, 20, .inl (aI P)))]) H) (AX a 0 62) 0 0 := by
  refine m_intro (Pw := (fun H => XI G cs a a A H ∧ va_P G vwCl ([(u 0, .inl (cs 0, 20, .inl (aI P)))]) H)) (cc := cL_colors) (maxL := 7) (ret := some .boolean) RL (by decide) rfl rfl (Nat.le_of_ble_eq_true rfl) ?_
  intro pP eE sS mM below meth cC hx hb hr hts hown hml hlk hnm hPre hK ls hl
  have hl : lv_has ls 7 [(0, .ref (a 0)), (1, .ref (u 0)), (2, .int (zI q))] := hl
  obtain ⟨hXI, hPa⟩ := hPre
  have hS : va_S (AX a 0 62) sS.heap sS.heap [] := va_S.rf
  have hwf := hA.1.1
  obtain ⟨w0, w1, w2, w3, w4, wP, wC, wS, wX⟩ := id hwf
  refine z_iconst (n := 0) hx hb dL_colors_0 ?_
  refine lv_istore_n (lv' := [(3, .int (zI 0)), (0, .ref (a 0)), (1, .ref (u 0)), (2, .int (zI q))]) hx hb dL_colors_1 rfl hl (by decide) rfl (fun ls hl => ?_)
  refine z_iconst (n := 0) hx hb dL_colors_2 ?_
  refine lv_istore (lv' := [(4, .int (zI 0)), (3, .int (zI 0)), (0, .ref (a 0)), (1, .ref (u 0)), (2, .int (zI q))]) hx hb dL_colors_3 hl (by decide) rfl (fun ls hl => ?_)
  -- loop 5
  refine z_loopH (nL := 7) (fun (c : Int) => [(0, .ref (a 0)), (1, .ref (u 0)), (2, .int (zI q)), (3, .int (zI (cntI (fun z_ => decide (colF A.1 q (A.1 0 4) z_ ≠ 0)) c))), (4, .int (zI c))]) (fun (c : Int) (H : Heap) => (0 ≤ c ∧ c ≤ 32) ∧ XI G cs a a A H ∧ va_P G vwCl ([(u 0, .inl (cs 0, 20, .inl (aI P)))]) H) (fun (c : Int) => (32 - c).toNat) (0 : Int) ⟨(by omega), hXI, hPa⟩ hS (by show lv_has ls 7 [(0, .ref (a 0)), (1, .ref (u 0)), (2, .int (zI q)), (3, .int (zI (cntI (fun z_ => decide (colF A.1 q (A.1 0 4) z_ ≠ 0)) (0 : Int)))), (4, .int (zI (0 : Int)))]; rw [cntI_0]; exact lv_sub hl [2, 3, 4, 1, 0] rfl) (fun c H locs hIH hS ih ls hl => ?_)
  obtain ⟨hI, hXI, hPa⟩ := hIH
  have hl : lv_has ls 7 [(0, .ref (a 0)), (1, .ref (u 0)), (2, .int (zI q)), (3, .int (zI (cntI (fun z_ => decide (colF A.1 q (A.1 0 4) z_ ≠ 0)) c))), (4, .int (zI c))] := hl
  refine lv_iload hx hb dL_colors_5 (lv_at hl 4 rfl) ?_
  refine z_bipush (n := 32) hx hb dL_colors_7 (by decide) ?_
  have hr9 := srcF_r hwf hq (r := c)
  have hdue := pal_due hwf hq hPal (r := c)
  have hcr9 := colF_rr hwf hq (r := c)
  have hcnt := cntI_r (fun z_ => decide (colF A.1 q (A.1 0 4) z_ ≠ 0)) hI.1
  refine z_icmp_ge (tgt := 69) hx hb dL_colors_9 (by decide) (by omega) (by omega) (fun c101 => ?_) (fun c101 => ?_)
  · skip
    have ec : c = 32 := by omega
    subst ec
    have h34 := ln_34 hwf hq
    have hcnt := cntI_r (fun z_ => decide (colF A.1 q (A.1 0 4) z_ ≠ 0)) (show (0 : Int) ≤ 32 by decide)
    refine lv_aload_n hx hb dL_colors_69 rfl (lv_at hl 0 rfl) ?_
    refine lv_iload_n hx hb dL_colors_70 rfl (lv_at hl 2 rfl) ?_
    refine z_iconst (n := 3) hx hb dL_colors_71 ?_
    refine z_w (zrV (As := [.int (zI q), .int (zI 3)]) (rest := []) ⟨hx, hb, hml, hown, hts⟩ (k_line l G cs a A q 3 ia hA (by omega) (by omega)) gL_colors_X6_line rfl qX6_line rfl rfl ⟨Nat.le_of_ble_eq_true rfl, Nat.le_of_ble_eq_true rfl⟩ hXI hK (va_recv hK.1 hXI.xo (ci := 6) (q0 := 0) rfl rfl) hl.1 rfl (Nat.le_of_ble_eq_true rfl) dL_colors_72 ⟨Nat.le_of_ble_eq_true rfl, Nat.le_of_ble_eq_true rfl⟩) hS (fun q h => h) (fun q h => h) (fun v H locs hpost hle hk hS => ?_)
    obtain ⟨rfl, hXI⟩ := hpost
    have hPa := keepO (Ord.of (b := u) (n := 1) rfl) hPa hk (fun j hj h9 => by obtain ⟨i9, h1, h2, h3⟩ := h9; exact hau i9 h2 (by rw [show j = 0 by omega] at h3; exact h3.symm))
    refine lv_istore (lv' := [(4, .int (zI (lineF A.1 q 3))), (0, .ref (a 0)), (1, .ref (u 0)), (2, .int (zI q)), (3, .int (zI (cntI (fun z_ => decide (colF A.1 q (A.1 0 4) z_ ≠ 0)) (32 : Int))))]) hx hb dL_colors_75 hl (by decide) rfl (fun ls hl => ?_)
    refine lv_aload_n hx hb dL_colors_77 rfl (lv_at hl 1 rfl) ?_
    refine lv_iload_n hx hb dL_colors_78 rfl (lv_at hl 3 rfl) ?_
    refine z_iconst (n := 2) hx hb dL_colors_79 ?_
    refine z_w (zrV (As := [.int (zI q), .int (zI 2)]) (rest := []) ⟨hx, hb, hml, hown, hts⟩ (k_line l G cs a A q 2 ia hA (by omega) (by omega)) gL_colors_X6_line rfl qX6_line rfl rfl ⟨Nat.le_of_ble_eq_true rfl, Nat.le_of_ble_eq_true rfl⟩ hXI hK (va_recv hK.1 hXI.xo (ci := 6) (q0 := 0) rfl rfl) hl.1 rfl (Nat.le_of_ble_eq_true rfl) dL_colors_80 ⟨Nat.le_of_ble_eq_true rfl, Nat.le_of_ble_eq_true rfl⟩) hS (fun q h => h) (fun q h => h) (fun v H locs hpost hle hk hS => ?_)
    obtain ⟨rfl, hXI⟩ := hpost
    have hPa := keepO (Ord.of (b := u) (n := 1) rfl) hPa hk (fun j hj h9 => by obtain ⟨i9, h1, h2, h3⟩ := h9; exact hau i9 h2 (by rw [show j = 0 by omega] at h3; exact h3.symm))
    refine z_topi (b := cntI (fun z_ => decide (colF A.1 q (A.1 0 4) z_ ≠ 0)) 32) (ln_2 hq) ?_
    refine lv_iload_n hx hb dL_colors_83 rfl (lv_at hl 4 rfl) ?_
    refine z_icmp_ne (tgt := 161) hx hb dL_colors_84 (by decide) (by omega) (by omega) (fun c102 => ?_) (fun c102 => ?_)
    · skip
      exfalso; omega
    · skip
      refine lv_iload hx hb dL_colors_87 (lv_at hl 0 rfl) ?_
      refine z_bipush (n := -5) hx hb dL_colors_89 (by decide) ?_
      refine z_icmp_ne (tgt := 98) hx hb dL_colors_91 (by decide) (by omega) (by omega) (fun c103 => ?_) (fun c103 => ?_)
      · skip
        refine z_iconst (n := 0) hx hb dL_colors_98 ?_
        refine lv_aload_n hx hb dL_colors_99 rfl (lv_at hl 1 rfl) ?_
        refine lv_iload_n hx hb dL_colors_100 rfl (lv_at hl 3 rfl) ?_
        refine z_iconst (n := 4) hx hb dL_colors_101 ?_
        refine z_w (zrV (As := [.int (zI q), .int (zI 4)]) (rest := [.int (zI 0)]) ⟨hx, hb, hml, hown, hts⟩ (k_line l G cs a A q 4 ia hA (by omega) (by omega)) gL_colors_X6_line rfl qX6_line rfl rfl ⟨Nat.le_of_ble_eq_true rfl, Nat.le_of_ble_eq_true rfl⟩ hXI hK (va_recv hK.1 hXI.xo (ci := 6) (q0 := 0) rfl rfl) hl.1 rfl (Nat.le_of_ble_eq_true rfl) dL_colors_102 ⟨Nat.le_of_ble_eq_true rfl, Nat.le_of_ble_eq_true rfl⟩) hS (fun q h => h) (fun q h => h) (fun v H locs hpost hle hk hS => ?_)
        obtain ⟨rfl, hXI⟩ := hpost
        have hPa := keepO (Ord.of (b := u) (n := 1) rfl) hPa hk (fun j hj h9 => by obtain ⟨i9, h1, h2, h3⟩ := h9; exact hau i9 h2 (by rw [show j = 0 by omega] at h3; exact h3.symm))
        refine z_bipush (n := -5) hx hb dL_colors_105 (by decide) ?_
        refine z_icmp_ne (tgt := 114) hx hb dL_colors_107 (by decide) (by omega) (by omega) (fun c104 => ?_) (fun c104 => ?_)
        · skip
          refine z_iconst (n := 0) hx hb dL_colors_114 ?_
          refine z_icmp_ne (tgt := 161) hx hb dL_colors_115 (by decide) (by omega) (by omega) (fun c105 => ?_) (fun c105 => ?_)
          · skip
            exfalso; omega
          · skip
            refine lv_iload hx hb dL_colors_118 (lv_at hl 0 rfl) ?_
            refine z_bipush (n := -5) hx hb dL_colors_120 (by decide) ?_
            refine z_icmp_eq (tgt := 136) hx hb dL_colors_122 (by decide) (by omega) (by omega) (fun c106 => ?_) (fun c106 => ?_)
            · skip
              refine lv_aload_n hx hb dL_colors_136 rfl (lv_at hl 1 rfl) ?_
              refine lv_iload_n hx hb dL_colors_137 rfl (lv_at hl 3 rfl) ?_
              refine z_bipush (n := 32) hx hb dL_colors_138 (by decide) ?_
              refine z_w (zrV (As := [.int (zI q), .int (zI 32)]) (rest := []) ⟨hx, hb, hml, hown, hts⟩ (k_color l G cs a A q 32 ia hA (by omega) (by omega)) gL_colors_X6_color rfl qX6_color rfl rfl ⟨Nat.le_of_ble_eq_true rfl, Nat.le_of_ble_eq_true rfl⟩ hXI hK (va_recv hK.1 hXI.xo (ci := 6) (q0 := 0) rfl rfl) hl.1 rfl (Nat.le_of_ble_eq_true rfl) dL_colors_140 ⟨Nat.le_of_ble_eq_true rfl, Nat.le_of_ble_eq_true rfl⟩) hS (fun q h => h) (fun q h => h) (fun v H locs hpost hle hk hS => ?_)
              obtain ⟨rfl, hXI⟩ := hpost
              have hPa := keepO (Ord.of (b := u) (n := 1) rfl) hPa hk (fun j hj h9 => by obtain ⟨i9, h1, h2, h3⟩ := h9; exact hau i9 h2 (by rw [show j = 0 by omega] at h3; exact h3.symm))
              refine z_topi (b := (-1)) (cl_no (by omega)) ?_
              refine z_iconst (n := -1) hx hb dL_colors_143 ?_
              refine z_icmp_ne (tgt := 161) hx hb dL_colors_144 (by decide) (by omega) (by omega) (fun c107 => ?_) (fun c107 => ?_)
              · skip
                exfalso; omega
              · skip
                refine lv_aload_n hx hb dL_colors_147 rfl (lv_at hl 1 rfl) ?_
                refine z_iconst (n := -1) hx hb dL_colors_148 ?_
                refine z_iconst (n := 0) hx hb dL_colors_149 ?_
                refine z_w (zrV (As := [.int (zI (-1)), .int (zI 0)]) (rest := []) ⟨hx, hb, hml, hown, hts⟩ (k_color l G cs a A (-1) 0 ia hA (by omega) (by omega)) gL_colors_X6_color rfl qX6_color rfl rfl ⟨Nat.le_of_ble_eq_true rfl, Nat.le_of_ble_eq_true rfl⟩ hXI hK (va_recv hK.1 hXI.xo (ci := 6) (q0 := 0) rfl rfl) hl.1 rfl (Nat.le_of_ble_eq_true rfl) dL_colors_150 ⟨Nat.le_of_ble_eq_true rfl, Nat.le_of_ble_eq_true rfl⟩) hS (fun q h => h) (fun q h => h) (fun v H locs hpost hle hk hS => ?_)
                obtain ⟨rfl, hXI⟩ := hpost
                have hPa := keepO (Ord.of (b := u) (n := 1) rfl) hPa hk (fun j hj h9 => by obtain ⟨i9, h1, h2, h3⟩ := h9; exact hau i9 h2 (by rw [show j = 0 by omega] at h3; exact h3.symm))
                refine z_topi (b := (-1)) (cl_no (by omega)) ?_
                refine z_iconst (n := -1) hx hb dL_colors_153 ?_
                refine z_icmp_ne (tgt := 161) hx hb dL_colors_154 (by decide) (by omega) (by omega) (fun c108 => ?_) (fun c108 => ?_)
                · skip
                  exfalso; omega
                · skip
                  refine z_iconst (n := 1) hx hb dL_colors_157 ?_
                  refine lv_goto (tgt := 162) hx hb dL_colors_158 (by decide) ?_
                  exact w_zret hx hb hr hlk dL_colors_162 (by omega) hS ⟨rfl, hXI, hPa⟩
            · skip
              refine lv_iload hx hb dL_colors_125 (lv_at hl 0 rfl) ?_
              refine lv_aload_n hx hb dL_colors_127 rfl (lv_at hl 1 rfl) ?_
              refine lv_iload_n hx hb dL_colors_128 rfl (lv_at hl 3 rfl) ?_
              refine z_iconst (n := 4) hx hb dL_colors_129 ?_
              refine z_w (zrV (As := [.int (zI q), .int (zI 4)]) (rest := [.int (zI (lineF A.1 q 3))]) ⟨hx, hb, hml, hown, hts⟩ (k_line l G cs a A q 4 ia hA (by omega) (by omega)) gL_colors_X6_line rfl qX6_line rfl rfl ⟨Nat.le_of_ble_eq_true rfl, Nat.le_of_ble_eq_true rfl⟩ hXI hK (va_recv hK.1 hXI.xo (ci := 6) (q0 := 0) rfl rfl) hl.1 rfl (Nat.le_of_ble_eq_true rfl) dL_colors_130 ⟨Nat.le_of_ble_eq_true rfl, Nat.le_of_ble_eq_true rfl⟩) hS (fun q h => h) (fun q h => h) (fun v H locs hpost hle hk hS => ?_)
              obtain ⟨rfl, hXI⟩ := hpost
              have hPa := keepO (Ord.of (b := u) (n := 1) rfl) hPa hk (fun j hj h9 => by obtain ⟨i9, h1, h2, h3⟩ := h9; exact hau i9 h2 (by rw [show j = 0 by omega] at h3; exact h3.symm))
              refine z_icmp_ge (tgt := 161) hx hb dL_colors_133 (by decide) (by omega) (by omega) (fun c109 => ?_) (fun c109 => ?_)
              · skip
                exfalso; omega
              · skip
                refine lv_aload_n hx hb dL_colors_136 rfl (lv_at hl 1 rfl) ?_
                refine lv_iload_n hx hb dL_colors_137 rfl (lv_at hl 3 rfl) ?_
                refine z_bipush (n := 32) hx hb dL_colors_138 (by decide) ?_
                refine z_w (zrV (As := [.int (zI q), .int (zI 32)]) (rest := []) ⟨hx, hb, hml, hown, hts⟩ (k_color l G cs a A q 32 ia hA (by omega) (by omega)) gL_colors_X6_color rfl qX6_color rfl rfl ⟨Nat.le_of_ble_eq_true rfl, Nat.le_of_ble_eq_true rfl⟩ hXI hK (va_recv hK.1 hXI.xo (ci := 6) (q0 := 0) rfl rfl) hl.1 rfl (Nat.le_of_ble_eq_true rfl) dL_colors_140 ⟨Nat.le_of_ble_eq_true rfl, Nat.le_of_ble_eq_true rfl⟩) hS (fun q h => h) (fun q h => h) (fun v H locs hpost hle hk hS => ?_)
                obtain ⟨rfl, hXI⟩ := hpost
                have hPa := keepO (Ord.of (b := u) (n := 1) rfl) hPa hk (fun j hj h9 => by obtain ⟨i9, h1, h2, h3⟩ := h9; exact hau i9 h2 (by rw [show j = 0 by omega] at h3; exact h3.symm))
                refine z_topi (b := (-1)) (cl_no (by omega)) ?_
                refine z_iconst (n := -1) hx hb dL_colors_143 ?_
                refine z_icmp_ne (tgt := 161) hx hb dL_colors_144 (by decide) (by omega) (by omega) (fun c110 => ?_) (fun c110 => ?_)
                · skip
                  exfalso; omega
                · skip
                  refine lv_aload_n hx hb dL_colors_147 rfl (lv_at hl 1 rfl) ?_
                  refine z_iconst (n := -1) hx hb dL_colors_148 ?_
                  refine z_iconst (n := 0) hx hb dL_colors_149 ?_
                  refine z_w (zrV (As := [.int (zI (-1)), .int (zI 0)]) (rest := []) ⟨hx, hb, hml, hown, hts⟩ (k_color l G cs a A (-1) 0 ia hA (by omega) (by omega)) gL_colors_X6_color rfl qX6_color rfl rfl ⟨Nat.le_of_ble_eq_true rfl, Nat.le_of_ble_eq_true rfl⟩ hXI hK (va_recv hK.1 hXI.xo (ci := 6) (q0 := 0) rfl rfl) hl.1 rfl (Nat.le_of_ble_eq_true rfl) dL_colors_150 ⟨Nat.le_of_ble_eq_true rfl, Nat.le_of_ble_eq_true rfl⟩) hS (fun q h => h) (fun q h => h) (fun v H locs hpost hle hk hS => ?_)
                  obtain ⟨rfl, hXI⟩ := hpost
                  have hPa := keepO (Ord.of (b := u) (n := 1) rfl) hPa hk (fun j hj h9 => by obtain ⟨i9, h1, h2, h3⟩ := h9; exact hau i9 h2 (by rw [show j = 0 by omega] at h3; exact h3.symm))
                  refine z_topi (b := (-1)) (cl_no (by omega)) ?_
                  refine z_iconst (n := -1) hx hb dL_colors_153 ?_
                  refine z_icmp_ne (tgt := 161) hx hb dL_colors_154 (by decide) (by omega) (by omega) (fun c111 => ?_) (fun c111 => ?_)
                  · skip
                    exfalso; omega
                  · skip
                    refine z_iconst (n := 1) hx hb dL_colors_157 ?_
                    refine lv_goto (tgt := 162) hx hb dL_colors_158 (by decide) ?_
                    exact w_zret hx hb hr hlk dL_colors_162 (by omega) hS ⟨rfl, hXI, hPa⟩
        · skip
          refine z_iconst (n := 1) hx hb dL_colors_110 ?_
          refine lv_goto (tgt := 115) hx hb dL_colors_111 (by decide) ?_
          refine z_icmp_ne (tgt := 161) hx hb dL_colors_115 (by decide) (by omega) (by omega) (fun c112 => ?_) (fun c112 => ?_)
          · skip
            exfalso; omega
          · skip
            refine lv_iload hx hb dL_colors_118 (lv_at hl 0 rfl) ?_
            refine z_bipush (n := -5) hx hb dL_colors_120 (by decide) ?_
            refine z_icmp_eq (tgt := 136) hx hb dL_colors_122 (by decide) (by omega) (by omega) (fun c113 => ?_) (fun c113 => ?_)
            · skip
              refine lv_aload_n hx hb dL_colors_136 rfl (lv_at hl 1 rfl) ?_
              refine lv_iload_n hx hb dL_colors_137 rfl (lv_at hl 3 rfl) ?_
              refine z_bipush (n := 32) hx hb dL_colors_138 (by decide) ?_
              refine z_w (zrV (As := [.int (zI q), .int (zI 32)]) (rest := []) ⟨hx, hb, hml, hown, hts⟩ (k_color l G cs a A q 32 ia hA (by omega) (by omega)) gL_colors_X6_color rfl qX6_color rfl rfl ⟨Nat.le_of_ble_eq_true rfl, Nat.le_of_ble_eq_true rfl⟩ hXI hK (va_recv hK.1 hXI.xo (ci := 6) (q0 := 0) rfl rfl) hl.1 rfl (Nat.le_of_ble_eq_true rfl) dL_colors_140 ⟨Nat.le_of_ble_eq_true rfl, Nat.le_of_ble_eq_true rfl⟩) hS (fun q h => h) (fun q h => h) (fun v H locs hpost hle hk hS => ?_)
              obtain ⟨rfl, hXI⟩ := hpost
              have hPa := keepO (Ord.of (b := u) (n := 1) rfl) hPa hk (fun j hj h9 => by obtain ⟨i9, h1, h2, h3⟩ := h9; exact hau i9 h2 (by rw [show j = 0 by omega] at h3; exact h3.symm))
              refine z_topi (b := (-1)) (cl_no (by omega)) ?_
              refine z_iconst (n := -1) hx hb dL_colors_143 ?_
              refine z_icmp_ne (tgt := 161) hx hb dL_colors_144 (by decide) (by omega) (by omega) (fun c114 => ?_) (fun c114 => ?_)
              · skip
                exfalso; omega
              · skip
                refine lv_aload_n hx hb dL_colors_147 rfl (lv_at hl 1 rfl) ?_
                refine z_iconst (n := -1) hx hb dL_colors_148 ?_
                refine z_iconst (n := 0) hx hb dL_colors_149 ?_
                refine z_w (zrV (As := [.int (zI (-1)), .int (zI 0)]) (rest := []) ⟨hx, hb, hml, hown, hts⟩ (k_color l G cs a A (-1) 0 ia hA (by omega) (by omega)) gL_colors_X6_color rfl qX6_color rfl rfl ⟨Nat.le_of_ble_eq_true rfl, Nat.le_of_ble_eq_true rfl⟩ hXI hK (va_recv hK.1 hXI.xo (ci := 6) (q0 := 0) rfl rfl) hl.1 rfl (Nat.le_of_ble_eq_true rfl) dL_colors_150 ⟨Nat.le_of_ble_eq_true rfl, Nat.le_of_ble_eq_true rfl⟩) hS (fun q h => h) (fun q h => h) (fun v H locs hpost hle hk hS => ?_)
                obtain ⟨rfl, hXI⟩ := hpost
                have hPa := keepO (Ord.of (b := u) (n := 1) rfl) hPa hk (fun j hj h9 => by obtain ⟨i9, h1, h2, h3⟩ := h9; exact hau i9 h2 (by rw [show j = 0 by omega] at h3; exact h3.symm))
                refine z_topi (b := (-1)) (cl_no (by omega)) ?_
                refine z_iconst (n := -1) hx hb dL_colors_153 ?_
                refine z_icmp_ne (tgt := 161) hx hb dL_colors_154 (by decide) (by omega) (by omega) (fun c115 => ?_) (fun c115 => ?_)
                · skip
                  exfalso; omega
                · skip
                  refine z_iconst (n := 1) hx hb dL_colors_157 ?_
                  refine lv_goto (tgt := 162) hx hb dL_colors_158 (by decide) ?_
                  exact w_zret hx hb hr hlk dL_colors_162 (by omega) hS ⟨rfl, hXI, hPa⟩
            · skip
              refine lv_iload hx hb dL_colors_125 (lv_at hl 0 rfl) ?_
              refine lv_aload_n hx hb dL_colors_127 rfl (lv_at hl 1 rfl) ?_
              refine lv_iload_n hx hb dL_colors_128 rfl (lv_at hl 3 rfl) ?_
              refine z_iconst (n := 4) hx hb dL_colors_129 ?_
              refine z_w (zrV (As := [.int (zI q), .int (zI 4)]) (rest := [.int (zI (lineF A.1 q 3))]) ⟨hx, hb, hml, hown, hts⟩ (k_line l G cs a A q 4 ia hA (by omega) (by omega)) gL_colors_X6_line rfl qX6_line rfl rfl ⟨Nat.le_of_ble_eq_true rfl, Nat.le_of_ble_eq_true rfl⟩ hXI hK (va_recv hK.1 hXI.xo (ci := 6) (q0 := 0) rfl rfl) hl.1 rfl (Nat.le_of_ble_eq_true rfl) dL_colors_130 ⟨Nat.le_of_ble_eq_true rfl, Nat.le_of_ble_eq_true rfl⟩) hS (fun q h => h) (fun q h => h) (fun v H locs hpost hle hk hS => ?_)
              obtain ⟨rfl, hXI⟩ := hpost
              have hPa := keepO (Ord.of (b := u) (n := 1) rfl) hPa hk (fun j hj h9 => by obtain ⟨i9, h1, h2, h3⟩ := h9; exact hau i9 h2 (by rw [show j = 0 by omega] at h3; exact h3.symm))
              refine z_icmp_ge (tgt := 161) hx hb dL_colors_133 (by decide) (by omega) (by omega) (fun c116 => ?_) (fun c116 => ?_)
              · skip
                exfalso; omega
              · skip
                refine lv_aload_n hx hb dL_colors_136 rfl (lv_at hl 1 rfl) ?_
                refine lv_iload_n hx hb dL_colors_137 rfl (lv_at hl 3 rfl) ?_
                refine z_bipush (n := 32) hx hb dL_colors_138 (by decide) ?_
                refine z_w (zrV (As := [.int (zI q), .int (zI 32)]) (rest := []) ⟨hx, hb, hml, hown, hts⟩ (k_color l G cs a A q 32 ia hA (by omega) (by omega)) gL_colors_X6_color rfl qX6_color rfl rfl ⟨Nat.le_of_ble_eq_true rfl, Nat.le_of_ble_eq_true rfl⟩ hXI hK (va_recv hK.1 hXI.xo (ci := 6) (q0 := 0) rfl rfl) hl.1 rfl (Nat.le_of_ble_eq_true rfl) dL_colors_140 ⟨Nat.le_of_ble_eq_true rfl, Nat.le_of_ble_eq_true rfl⟩) hS (fun q h => h) (fun q h => h) (fun v H locs hpost hle hk hS => ?_)
                obtain ⟨rfl, hXI⟩ := hpost
                have hPa := keepO (Ord.of (b := u) (n := 1) rfl) hPa hk (fun j hj h9 => by obtain ⟨i9, h1, h2, h3⟩ := h9; exact hau i9 h2 (by rw [show j = 0 by omega] at h3; exact h3.symm))
                refine z_topi (b := (-1)) (cl_no (by omega)) ?_
                refine z_iconst (n := -1) hx hb dL_colors_143 ?_
                refine z_icmp_ne (tgt := 161) hx hb dL_colors_144 (by decide) (by omega) (by omega) (fun c117 => ?_) (fun c117 => ?_)
                · skip
                  exfalso; omega
                · skip
                  refine lv_aload_n hx hb dL_colors_147 rfl (lv_at hl 1 rfl) ?_
                  refine z_iconst (n := -1) hx hb dL_colors_148 ?_
                  refine z_iconst (n := 0) hx hb dL_colors_149 ?_
                  refine z_w (zrV (As := [.int (zI (-1)), .int (zI 0)]) (rest := []) ⟨hx, hb, hml, hown, hts⟩ (k_color l G cs a A (-1) 0 ia hA (by omega) (by omega)) gL_colors_X6_color rfl qX6_color rfl rfl ⟨Nat.le_of_ble_eq_true rfl, Nat.le_of_ble_eq_true rfl⟩ hXI hK (va_recv hK.1 hXI.xo (ci := 6) (q0 := 0) rfl rfl) hl.1 rfl (Nat.le_of_ble_eq_true rfl) dL_colors_150 ⟨Nat.le_of_ble_eq_true rfl, Nat.le_of_ble_eq_true rfl⟩) hS (fun q h => h) (fun q h => h) (fun v H locs hpost hle hk hS => ?_)
                  obtain ⟨rfl, hXI⟩ := hpost
                  have hPa := keepO (Ord.of (b := u) (n := 1) rfl) hPa hk (fun j hj h9 => by obtain ⟨i9, h1, h2, h3⟩ := h9; exact hau i9 h2 (by rw [show j = 0 by omega] at h3; exact h3.symm))
                  refine z_topi (b := (-1)) (cl_no (by omega)) ?_
                  refine z_iconst (n := -1) hx hb dL_colors_153 ?_
                  refine z_icmp_ne (tgt := 161) hx hb dL_colors_154 (by decide) (by omega) (by omega) (fun c118 => ?_) (fun c118 => ?_)
                  · skip
                    exfalso; omega
                  · skip
                    refine z_iconst (n := 1) hx hb dL_colors_157 ?_
                    refine lv_goto (tgt := 162) hx hb dL_colors_158 (by decide) ?_
                    exact w_zret hx hb hr hlk dL_colors_162 (by omega) hS ⟨rfl, hXI, hPa⟩
      · skip
        refine z_iconst (n := 1) hx hb dL_colors_94 ?_
        refine lv_goto (tgt := 99) hx hb dL_colors_95 (by decide) ?_
        refine lv_aload_n hx hb dL_colors_99 rfl (lv_at hl 1 rfl) ?_
        refine lv_iload_n hx hb dL_colors_100 rfl (lv_at hl 3 rfl) ?_
        refine z_iconst (n := 4) hx hb dL_colors_101 ?_
        refine z_w (zrV (As := [.int (zI q), .int (zI 4)]) (rest := [.int (zI 1)]) ⟨hx, hb, hml, hown, hts⟩ (k_line l G cs a A q 4 ia hA (by omega) (by omega)) gL_colors_X6_line rfl qX6_line rfl rfl ⟨Nat.le_of_ble_eq_true rfl, Nat.le_of_ble_eq_true rfl⟩ hXI hK (va_recv hK.1 hXI.xo (ci := 6) (q0 := 0) rfl rfl) hl.1 rfl (Nat.le_of_ble_eq_true rfl) dL_colors_102 ⟨Nat.le_of_ble_eq_true rfl, Nat.le_of_ble_eq_true rfl⟩) hS (fun q h => h) (fun q h => h) (fun v H locs hpost hle hk hS => ?_)
        obtain ⟨rfl, hXI⟩ := hpost
        have hPa := keepO (Ord.of (b := u) (n := 1) rfl) hPa hk (fun j hj h9 => by obtain ⟨i9, h1, h2, h3⟩ := h9; exact hau i9 h2 (by rw [show j = 0 by omega] at h3; exact h3.symm))
        refine z_bipush (n := -5) hx hb dL_colors_105 (by decide) ?_
        refine z_icmp_ne (tgt := 114) hx hb dL_colors_107 (by decide) (by omega) (by omega) (fun c119 => ?_) (fun c119 => ?_)
        · skip
          refine z_iconst (n := 0) hx hb dL_colors_114 ?_
          refine z_icmp_ne (tgt := 161) hx hb dL_colors_115 (by decide) (by omega) (by omega) (fun c120 => ?_) (fun c120 => ?_)
          · skip
            exfalso; omega
          · skip
            refine lv_iload hx hb dL_colors_118 (lv_at hl 0 rfl) ?_
            refine z_bipush (n := -5) hx hb dL_colors_120 (by decide) ?_
            refine z_icmp_eq (tgt := 136) hx hb dL_colors_122 (by decide) (by omega) (by omega) (fun c121 => ?_) (fun c121 => ?_)
            · skip
              refine lv_aload_n hx hb dL_colors_136 rfl (lv_at hl 1 rfl) ?_
              refine lv_iload_n hx hb dL_colors_137 rfl (lv_at hl 3 rfl) ?_
              refine z_bipush (n := 32) hx hb dL_colors_138 (by decide) ?_
              refine z_w (zrV (As := [.int (zI q), .int (zI 32)]) (rest := []) ⟨hx, hb, hml, hown, hts⟩ (k_color l G cs a A q 32 ia hA (by omega) (by omega)) gL_colors_X6_color rfl qX6_color rfl rfl ⟨Nat.le_of_ble_eq_true rfl, Nat.le_of_ble_eq_true rfl⟩ hXI hK (va_recv hK.1 hXI.xo (ci := 6) (q0 := 0) rfl rfl) hl.1 rfl (Nat.le_of_ble_eq_true rfl) dL_colors_140 ⟨Nat.le_of_ble_eq_true rfl, Nat.le_of_ble_eq_true rfl⟩) hS (fun q h => h) (fun q h => h) (fun v H locs hpost hle hk hS => ?_)
              obtain ⟨rfl, hXI⟩ := hpost
              have hPa := keepO (Ord.of (b := u) (n := 1) rfl) hPa hk (fun j hj h9 => by obtain ⟨i9, h1, h2, h3⟩ := h9; exact hau i9 h2 (by rw [show j = 0 by omega] at h3; exact h3.symm))
              refine z_topi (b := (-1)) (cl_no (by omega)) ?_
              refine z_iconst (n := -1) hx hb dL_colors_143 ?_
              refine z_icmp_ne (tgt := 161) hx hb dL_colors_144 (by decide) (by omega) (by omega) (fun c122 => ?_) (fun c122 => ?_)
              · skip
                exfalso; omega
              · skip
                refine lv_aload_n hx hb dL_colors_147 rfl (lv_at hl 1 rfl) ?_
                refine z_iconst (n := -1) hx hb dL_colors_148 ?_
                refine z_iconst (n := 0) hx hb dL_colors_149 ?_
                refine z_w (zrV (As := [.int (zI (-1)), .int (zI 0)]) (rest := []) ⟨hx, hb, hml, hown, hts⟩ (k_color l G cs a A (-1) 0 ia hA (by omega) (by omega)) gL_colors_X6_color rfl qX6_color rfl rfl ⟨Nat.le_of_ble_eq_true rfl, Nat.le_of_ble_eq_true rfl⟩ hXI hK (va_recv hK.1 hXI.xo (ci := 6) (q0 := 0) rfl rfl) hl.1 rfl (Nat.le_of_ble_eq_true rfl) dL_colors_150 ⟨Nat.le_of_ble_eq_true rfl, Nat.le_of_ble_eq_true rfl⟩) hS (fun q h => h) (fun q h => h) (fun v H locs hpost hle hk hS => ?_)
                obtain ⟨rfl, hXI⟩ := hpost
                have hPa := keepO (Ord.of (b := u) (n := 1) rfl) hPa hk (fun j hj h9 => by obtain ⟨i9, h1, h2, h3⟩ := h9; exact hau i9 h2 (by rw [show j = 0 by omega] at h3; exact h3.symm))
                refine z_topi (b := (-1)) (cl_no (by omega)) ?_
                refine z_iconst (n := -1) hx hb dL_colors_153 ?_
                refine z_icmp_ne (tgt := 161) hx hb dL_colors_154 (by decide) (by omega) (by omega) (fun c123 => ?_) (fun c123 => ?_)
                · skip
                  exfalso; omega
                · skip
                  refine z_iconst (n := 1) hx hb dL_colors_157 ?_
                  refine lv_goto (tgt := 162) hx hb dL_colors_158 (by decide) ?_
                  exact w_zret hx hb hr hlk dL_colors_162 (by omega) hS ⟨rfl, hXI, hPa⟩
            · skip
              refine lv_iload hx hb dL_colors_125 (lv_at hl 0 rfl) ?_
              refine lv_aload_n hx hb dL_colors_127 rfl (lv_at hl 1 rfl) ?_
              refine lv_iload_n hx hb dL_colors_128 rfl (lv_at hl 3 rfl) ?_
              refine z_iconst (n := 4) hx hb dL_colors_129 ?_
              refine z_w (zrV (As := [.int (zI q), .int (zI 4)]) (rest := [.int (zI (lineF A.1 q 3))]) ⟨hx, hb, hml, hown, hts⟩ (k_line l G cs a A q 4 ia hA (by omega) (by omega)) gL_colors_X6_line rfl qX6_line rfl rfl ⟨Nat.le_of_ble_eq_true rfl, Nat.le_of_ble_eq_true rfl⟩ hXI hK (va_recv hK.1 hXI.xo (ci := 6) (q0 := 0) rfl rfl) hl.1 rfl (Nat.le_of_ble_eq_true rfl) dL_colors_130 ⟨Nat.le_of_ble_eq_true rfl, Nat.le_of_ble_eq_true rfl⟩) hS (fun q h => h) (fun q h => h) (fun v H locs hpost hle hk hS => ?_)
              obtain ⟨rfl, hXI⟩ := hpost
              have hPa := keepO (Ord.of (b := u) (n := 1) rfl) hPa hk (fun j hj h9 => by obtain ⟨i9, h1, h2, h3⟩ := h9; exact hau i9 h2 (by rw [show j = 0 by omega] at h3; exact h3.symm))
              refine z_icmp_ge (tgt := 161) hx hb dL_colors_133 (by decide) (by omega) (by omega) (fun c124 => ?_) (fun c124 => ?_)
              · skip
                exfalso; omega
              · skip
                refine lv_aload_n hx hb dL_colors_136 rfl (lv_at hl 1 rfl) ?_
                refine lv_iload_n hx hb dL_colors_137 rfl (lv_at hl 3 rfl) ?_
                refine z_bipush (n := 32) hx hb dL_colors_138 (by decide) ?_
                refine z_w (zrV (As := [.int (zI q), .int (zI 32)]) (rest := []) ⟨hx, hb, hml, hown, hts⟩ (k_color l G cs a A q 32 ia hA (by omega) (by omega)) gL_colors_X6_color rfl qX6_color rfl rfl ⟨Nat.le_of_ble_eq_true rfl, Nat.le_of_ble_eq_true rfl⟩ hXI hK (va_recv hK.1 hXI.xo (ci := 6) (q0 := 0) rfl rfl) hl.1 rfl (Nat.le_of_ble_eq_true rfl) dL_colors_140 ⟨Nat.le_of_ble_eq_true rfl, Nat.le_of_ble_eq_true rfl⟩) hS (fun q h => h) (fun q h => h) (fun v H locs hpost hle hk hS => ?_)
                obtain ⟨rfl, hXI⟩ := hpost
                have hPa := keepO (Ord.of (b := u) (n := 1) rfl) hPa hk (fun j hj h9 => by obtain ⟨i9, h1, h2, h3⟩ := h9; exact hau i9 h2 (by rw [show j = 0 by omega] at h3; exact h3.symm))
                refine z_topi (b := (-1)) (cl_no (by omega)) ?_
                refine z_iconst (n := -1) hx hb dL_colors_143 ?_
                refine z_icmp_ne (tgt := 161) hx hb dL_colors_144 (by decide) (by omega) (by omega) (fun c125 => ?_) (fun c125 => ?_)
                · skip
                  exfalso; omega
                · skip
                  refine lv_aload_n hx hb dL_colors_147 rfl (lv_at hl 1 rfl) ?_
                  refine z_iconst (n := -1) hx hb dL_colors_148 ?_
                  refine z_iconst (n := 0) hx hb dL_colors_149 ?_
                  refine z_w (zrV (As := [.int (zI (-1)), .int (zI 0)]) (rest := []) ⟨hx, hb, hml, hown, hts⟩ (k_color l G cs a A (-1) 0 ia hA (by omega) (by omega)) gL_colors_X6_color rfl qX6_color rfl rfl ⟨Nat.le_of_ble_eq_true rfl, Nat.le_of_ble_eq_true rfl⟩ hXI hK (va_recv hK.1 hXI.xo (ci := 6) (q0 := 0) rfl rfl) hl.1 rfl (Nat.le_of_ble_eq_true rfl) dL_colors_150 ⟨Nat.le_of_ble_eq_true rfl, Nat.le_of_ble_eq_true rfl⟩) hS (fun q h => h) (fun q h => h) (fun v H locs hpost hle hk hS => ?_)
                  obtain ⟨rfl, hXI⟩ := hpost
                  have hPa := keepO (Ord.of (b := u) (n := 1) rfl) hPa hk (fun j hj h9 => by obtain ⟨i9, h1, h2, h3⟩ := h9; exact hau i9 h2 (by rw [show j = 0 by omega] at h3; exact h3.symm))
                  refine z_topi (b := (-1)) (cl_no (by omega)) ?_
                  refine z_iconst (n := -1) hx hb dL_colors_153 ?_
                  refine z_icmp_ne (tgt := 161) hx hb dL_colors_154 (by decide) (by omega) (by omega) (fun c126 => ?_) (fun c126 => ?_)
                  · skip
                    exfalso; omega
                  · skip
                    refine z_iconst (n := 1) hx hb dL_colors_157 ?_
                    refine lv_goto (tgt := 162) hx hb dL_colors_158 (by decide) ?_
                    exact w_zret hx hb hr hlk dL_colors_162 (by omega) hS ⟨rfl, hXI, hPa⟩
        · skip
          refine z_iconst (n := 1) hx hb dL_colors_110 ?_
          refine lv_goto (tgt := 115) hx hb dL_colors_111 (by decide) ?_
          refine z_icmp_ne (tgt := 161) hx hb dL_colors_115 (by decide) (by omega) (by omega) (fun c127 => ?_) (fun c127 => ?_)
          · skip
            exfalso; omega
          · skip
            refine lv_iload hx hb dL_colors_118 (lv_at hl 0 rfl) ?_
            refine z_bipush (n := -5) hx hb dL_colors_120 (by decide) ?_
            refine z_icmp_eq (tgt := 136) hx hb dL_colors_122 (by decide) (by omega) (by omega) (fun c128 => ?_) (fun c128 => ?_)
            · skip
              refine lv_aload_n hx hb dL_colors_136 rfl (lv_at hl 1 rfl) ?_
              refine lv_iload_n hx hb dL_colors_137 rfl (lv_at hl 3 rfl) ?_
              refine z_bipush (n := 32) hx hb dL_colors_138 (by decide) ?_
              refine z_w (zrV (As := [.int (zI q), .int (zI 32)]) (rest := []) ⟨hx, hb, hml, hown, hts⟩ (k_color l G cs a A q 32 ia hA (by omega) (by omega)) gL_colors_X6_color rfl qX6_color rfl rfl ⟨Nat.le_of_ble_eq_true rfl, Nat.le_of_ble_eq_true rfl⟩ hXI hK (va_recv hK.1 hXI.xo (ci := 6) (q0 := 0) rfl rfl) hl.1 rfl (Nat.le_of_ble_eq_true rfl) dL_colors_140 ⟨Nat.le_of_ble_eq_true rfl, Nat.le_of_ble_eq_true rfl⟩) hS (fun q h => h) (fun q h => h) (fun v H locs hpost hle hk hS => ?_)
              obtain ⟨rfl, hXI⟩ := hpost
              have hPa := keepO (Ord.of (b := u) (n := 1) rfl) hPa hk (fun j hj h9 => by obtain ⟨i9, h1, h2, h3⟩ := h9; exact hau i9 h2 (by rw [show j = 0 by omega] at h3; exact h3.symm))
              refine z_topi (b := (-1)) (cl_no (by omega)) ?_
              refine z_iconst (n := -1) hx hb dL_colors_143 ?_
              refine z_icmp_ne (tgt := 161) hx hb dL_colors_144 (by decide) (by omega) (by omega) (fun c129 => ?_) (fun c129 => ?_)
              · skip
                exfalso; omega
              · skip
                refine lv_aload_n hx hb dL_colors_147 rfl (lv_at hl 1 rfl) ?_
                refine z_iconst (n := -1) hx hb dL_colors_148 ?_
                refine z_iconst (n := 0) hx hb dL_colors_149 ?_
                refine z_w (zrV (As := [.int (zI (-1)), .int (zI 0)]) (rest := []) ⟨hx, hb, hml, hown, hts⟩ (k_color l G cs a A (-1) 0 ia hA (by omega) (by omega)) gL_colors_X6_color rfl qX6_color rfl rfl ⟨Nat.le_of_ble_eq_true rfl, Nat.le_of_ble_eq_true rfl⟩ hXI hK (va_recv hK.1 hXI.xo (ci := 6) (q0 := 0) rfl rfl) hl.1 rfl (Nat.le_of_ble_eq_true rfl) dL_colors_150 ⟨Nat.le_of_ble_eq_true rfl, Nat.le_of_ble_eq_true rfl⟩) hS (fun q h => h) (fun q h => h) (fun v H locs hpost hle hk hS => ?_)
                obtain ⟨rfl, hXI⟩ := hpost
                have hPa := keepO (Ord.of (b := u) (n := 1) rfl) hPa hk (fun j hj h9 => by obtain ⟨i9, h1, h2, h3⟩ := h9; exact hau i9 h2 (by rw [show j = 0 by omega] at h3; exact h3.symm))
                refine z_topi (b := (-1)) (cl_no (by omega)) ?_
                refine z_iconst (n := -1) hx hb dL_colors_153 ?_
                refine z_icmp_ne (tgt := 161) hx hb dL_colors_154 (by decide) (by omega) (by omega) (fun c130 => ?_) (fun c130 => ?_)
                · skip
                  exfalso; omega
                · skip
                  refine z_iconst (n := 1) hx hb dL_colors_157 ?_
                  refine lv_goto (tgt := 162) hx hb dL_colors_158 (by decide) ?_
                  exact w_zret hx hb hr hlk dL_colors_162 (by omega) hS ⟨rfl, hXI, hPa⟩
            · skip
              refine lv_iload hx hb dL_colors_125 (lv_at hl 0 rfl) ?_
              refine lv_aload_n hx hb dL_colors_127 rfl (lv_at hl 1 rfl) ?_
              refine lv_iload_n hx hb dL_colors_128 rfl (lv_at hl 3 rfl) ?_
              refine z_iconst (n := 4) hx hb dL_colors_129 ?_
              refine z_w (zrV (As := [.int (zI q), .int (zI 4)]) (rest := [.int (zI (lineF A.1 q 3))]) ⟨hx, hb, hml, hown, hts⟩ (k_line l G cs a A q 4 ia hA (by omega) (by omega)) gL_colors_X6_line rfl qX6_line rfl rfl ⟨Nat.le_of_ble_eq_true rfl, Nat.le_of_ble_eq_true rfl⟩ hXI hK (va_recv hK.1 hXI.xo (ci := 6) (q0 := 0) rfl rfl) hl.1 rfl (Nat.le_of_ble_eq_true rfl) dL_colors_130 ⟨Nat.le_of_ble_eq_true rfl, Nat.le_of_ble_eq_true rfl⟩) hS (fun q h => h) (fun q h => h) (fun v H locs hpost hle hk hS => ?_)
              obtain ⟨rfl, hXI⟩ := hpost
              have hPa := keepO (Ord.of (b := u) (n := 1) rfl) hPa hk (fun j hj h9 => by obtain ⟨i9, h1, h2, h3⟩ := h9; exact hau i9 h2 (by rw [show j = 0 by omega] at h3; exact h3.symm))
              refine z_icmp_ge (tgt := 161) hx hb dL_colors_133 (by decide) (by omega) (by omega) (fun c131 => ?_) (fun c131 => ?_)
              · skip
                exfalso; omega
              · skip
                refine lv_aload_n hx hb dL_colors_136 rfl (lv_at hl 1 rfl) ?_
                refine lv_iload_n hx hb dL_colors_137 rfl (lv_at hl 3 rfl) ?_
                refine z_bipush (n := 32) hx hb dL_colors_138 (by decide) ?_
                refine z_w (zrV (As := [.int (zI q), .int (zI 32)]) (rest := []) ⟨hx, hb, hml, hown, hts⟩ (k_color l G cs a A q 32 ia hA (by omega) (by omega)) gL_colors_X6_color rfl qX6_color rfl rfl ⟨Nat.le_of_ble_eq_true rfl, Nat.le_of_ble_eq_true rfl⟩ hXI hK (va_recv hK.1 hXI.xo (ci := 6) (q0 := 0) rfl rfl) hl.1 rfl (Nat.le_of_ble_eq_true rfl) dL_colors_140 ⟨Nat.le_of_ble_eq_true rfl, Nat.le_of_ble_eq_true rfl⟩) hS (fun q h => h) (fun q h => h) (fun v H locs hpost hle hk hS => ?_)
                obtain ⟨rfl, hXI⟩ := hpost
                have hPa := keepO (Ord.of (b := u) (n := 1) rfl) hPa hk (fun j hj h9 => by obtain ⟨i9, h1, h2, h3⟩ := h9; exact hau i9 h2 (by rw [show j = 0 by omega] at h3; exact h3.symm))
                refine z_topi (b := (-1)) (cl_no (by omega)) ?_
                refine z_iconst (n := -1) hx hb dL_colors_143 ?_
                refine z_icmp_ne (tgt := 161) hx hb dL_colors_144 (by decide) (by omega) (by omega) (fun c132 => ?_) (fun c132 => ?_)
                · skip
                  exfalso; omega
                · skip
                  refine lv_aload_n hx hb dL_colors_147 rfl (lv_at hl 1 rfl) ?_
                  refine z_iconst (n := -1) hx hb dL_colors_148 ?_
                  refine z_iconst (n := 0) hx hb dL_colors_149 ?_
                  refine z_w (zrV (As := [.int (zI (-1)), .int (zI 0)]) (rest := []) ⟨hx, hb, hml, hown, hts⟩ (k_color l G cs a A (-1) 0 ia hA (by omega) (by omega)) gL_colors_X6_color rfl qX6_color rfl rfl ⟨Nat.le_of_ble_eq_true rfl, Nat.le_of_ble_eq_true rfl⟩ hXI hK (va_recv hK.1 hXI.xo (ci := 6) (q0 := 0) rfl rfl) hl.1 rfl (Nat.le_of_ble_eq_true rfl) dL_colors_150 ⟨Nat.le_of_ble_eq_true rfl, Nat.le_of_ble_eq_true rfl⟩) hS (fun q h => h) (fun q h => h) (fun v H locs hpost hle hk hS => ?_)
                  obtain ⟨rfl, hXI⟩ := hpost
                  have hPa := keepO (Ord.of (b := u) (n := 1) rfl) hPa hk (fun j hj h9 => by obtain ⟨i9, h1, h2, h3⟩ := h9; exact hau i9 h2 (by rw [show j = 0 by omega] at h3; exact h3.symm))
                  refine z_topi (b := (-1)) (cl_no (by omega)) ?_
                  refine z_iconst (n := -1) hx hb dL_colors_153 ?_
                  refine z_icmp_ne (tgt := 161) hx hb dL_colors_154 (by decide) (by omega) (by omega) (fun c133 => ?_) (fun c133 => ?_)
                  · skip
                    exfalso; omega
                  · skip
                    refine z_iconst (n := 1) hx hb dL_colors_157 ?_
                    refine lv_goto (tgt := 162) hx hb dL_colors_158 (by decide) ?_
                    exact w_zret hx hb hr hlk dL_colors_162 (by omega) hS ⟨rfl, hXI, hPa⟩
  · skip
    refine lv_aload_n hx hb dL_colors_12 rfl (lv_at hl 0 rfl) ?_
    refine lv_iload_n hx hb dL_colors_13 rfl (lv_at hl 2 rfl) ?_
    refine lv_iload hx hb dL_colors_14 (lv_at hl 4 rfl) ?_
    refine z_w (zrSJ (As := [.ref (a 0), .int (zI q), .int (zI c)]) (rest := []) ⟨hx, hb, hml, hown, hts⟩ (c_L_source l G cs a A q c ia hA hq (by omega)) gL_colors_L_source rfl qL_source rfl rfl ⟨Nat.le_of_ble_eq_true rfl, Nat.le_of_ble_eq_true rfl⟩ hXI hK hl.1 rfl (Nat.le_of_ble_eq_true rfl) dL_colors_16 ⟨Nat.le_of_ble_eq_true rfl, Nat.le_of_ble_eq_true rfl⟩) hS (fun q h => h) (fun q h => h) (fun v H locs hpost hle hk hS => ?_)
    obtain ⟨rfl, hXI⟩ := hpost
    have hPa := keepO (Ord.of (b := u) (n := 1) rfl) hPa hk (fun j hj h9 => by obtain ⟨i9, h1, h2, h3⟩ := h9; exact hau i9 h2 (by rw [show j = 0 by omega] at h3; exact h3.symm))
    refine lv_istore (lv' := [(5, .int (zI (srcF A.1 q c))), (0, .ref (a 0)), (1, .ref (u 0)), (2, .int (zI q)), (3, .int (zI (cntI (fun z_ => decide (colF A.1 q (A.1 0 4) z_ ≠ 0)) c))), (4, .int (zI c))]) hx hb dL_colors_19 hl (by decide) rfl (fun ls hl => ?_)
    refine lv_iload hx hb dL_colors_21 (lv_at hl 0 rfl) ?_
    refine z_if_ne (tgt := 30) hx hb dL_colors_23 (by decide) (by omega) (fun c9 => ?_) (fun c9 => ?_)
    · skip
      rw [if_neg c9] at hdue
      refine lv_aload_n hx hb dL_colors_30 rfl (lv_at hl 2 rfl) ?_
      refine lv_iload hx hb dL_colors_31 (lv_at hl 0 rfl) ?_
      refine z_iald hx hb hK.1 hPa 0 0 (F := P) rfl rfl (by omega) (by decide) dL_colors_33 ?_
      refine z_topi (b := colF A.1 q (A.1 0 4) c) hdue.symm ?_
      refine lv_istore (lv' := [(6, .int (zI (colF A.1 q (A.1 0 4) c))), (5, .int (zI (srcF A.1 q c))), (0, .ref (a 0)), (1, .ref (u 0)), (2, .int (zI q)), (3, .int (zI (cntI (fun z_ => decide (colF A.1 q (A.1 0 4) z_ ≠ 0)) c))), (4, .int (zI c))]) hx hb dL_colors_34 hl (by decide) rfl (fun ls hl => ?_)
      refine lv_iload_n hx hb dL_colors_36 rfl (lv_at hl 5 rfl) ?_
      refine lv_iload hx hb dL_colors_37 (lv_at hl 0 rfl) ?_
      refine z_if_le (tgt := 46) hx hb dL_colors_39 (by decide) (by omega) (fun c8 => ?_) (fun c8 => ?_)
      · skip
        refine z_iconst (n := 0) hx hb dL_colors_46 ?_
        refine z_iadd hx hb dL_colors_47 ?_
        refine lv_istore_n (lv' := [(3, .int (zI ((cntI (fun z_ => decide (colF A.1 q (A.1 0 4) z_ ≠ 0)) c) + 0))), (6, .int (zI (colF A.1 q (A.1 0 4) c))), (5, .int (zI (srcF A.1 q c))), (0, .ref (a 0)), (1, .ref (u 0)), (2, .int (zI q)), (4, .int (zI c))]) hx hb dL_colors_48 rfl hl (by decide) rfl (fun ls hl => ?_)
        refine lv_aload_n hx hb dL_colors_49 rfl (lv_at hl 3 rfl) ?_
        refine lv_iload_n hx hb dL_colors_50 rfl (lv_at hl 5 rfl) ?_
        refine lv_iload hx hb dL_colors_51 (lv_at hl 6 rfl) ?_
        refine z_w (zrV (As := [.int (zI q), .int (zI c)]) (rest := []) ⟨hx, hb, hml, hown, hts⟩ (k_color l G cs a A q c ia hA (by omega) (by omega)) gL_colors_X6_color rfl qX6_color rfl rfl ⟨Nat.le_of_ble_eq_true rfl, Nat.le_of_ble_eq_true rfl⟩ hXI hK (va_recv hK.1 hXI.xo (ci := 6) (q0 := 0) rfl rfl) hl.1 rfl (Nat.le_of_ble_eq_true rfl) dL_colors_53 ⟨Nat.le_of_ble_eq_true rfl, Nat.le_of_ble_eq_true rfl⟩) hS (fun q h => h) (fun q h => h) (fun v H locs hpost hle hk hS => ?_)
        obtain ⟨rfl, hXI⟩ := hpost
        have hPa := keepO (Ord.of (b := u) (n := 1) rfl) hPa hk (fun j hj h9 => by obtain ⟨i9, h1, h2, h3⟩ := h9; exact hau i9 h2 (by rw [show j = 0 by omega] at h3; exact h3.symm))
        refine z_topi (b := colF A.1 q (A.1 0 4) c) (cl_at hq (by omega)) ?_
        refine lv_iload hx hb dL_colors_56 (lv_at hl 1 rfl) ?_
        refine z_icmp_eq (tgt := 63) hx hb dL_colors_58 (by decide) (by omega) (by omega) (fun c134 => ?_) (fun c134 => ?_)
        · skip
          refine z_iinc (k := 6) (lv' := [(4, .int (zI (c + 1))), (3, .int (zI ((cntI (fun z_ => decide (colF A.1 q (A.1 0 4) z_ ≠ 0)) c) + 0))), (6, .int (zI (colF A.1 q (A.1 0 4) c))), (5, .int (zI (srcF A.1 q c))), (0, .ref (a 0)), (1, .ref (u 0)), (2, .int (zI q))]) hx hb dL_colors_63 hl rfl (by decide) rfl (fun ls hl => ?_)
          refine lv_goto (tgt := 5) hx hb dL_colors_66 (by decide) ?_
          have hb1 : cntI (fun z_ => decide (colF A.1 q (A.1 0 4) z_ ≠ 0)) (c + 1) = cntI (fun z_ => decide (colF A.1 q (A.1 0 4) z_ ≠ 0)) c + 0 := by rw [cntI_f hI.1 (decide_eq_false (by omega))]; omega
          exact ih (c + 1) H locs ⟨(by omega), hXI, hPa⟩ hS (by omega) ls (by show lv_has ls 7 [(0, .ref (a 0)), (1, .ref (u 0)), (2, .int (zI q)), (3, .int (zI (cntI (fun z_ => decide (colF A.1 q (A.1 0 4) z_ ≠ 0)) (c + 1)))), (4, .int (zI (c + 1)))]; rw [hb1]; exact lv_sub hl [4, 5, 6, 1, 0] rfl)
        · skip
          exfalso; omega
      · skip
        refine z_iconst (n := 1) hx hb dL_colors_42 ?_
        refine lv_goto (tgt := 47) hx hb dL_colors_43 (by decide) ?_
        refine z_iadd hx hb dL_colors_47 ?_
        refine lv_istore_n (lv' := [(3, .int (zI ((cntI (fun z_ => decide (colF A.1 q (A.1 0 4) z_ ≠ 0)) c) + 1))), (6, .int (zI (colF A.1 q (A.1 0 4) c))), (5, .int (zI (srcF A.1 q c))), (0, .ref (a 0)), (1, .ref (u 0)), (2, .int (zI q)), (4, .int (zI c))]) hx hb dL_colors_48 rfl hl (by decide) rfl (fun ls hl => ?_)
        refine lv_aload_n hx hb dL_colors_49 rfl (lv_at hl 3 rfl) ?_
        refine lv_iload_n hx hb dL_colors_50 rfl (lv_at hl 5 rfl) ?_
        refine lv_iload hx hb dL_colors_51 (lv_at hl 6 rfl) ?_
        refine z_w (zrV (As := [.int (zI q), .int (zI c)]) (rest := []) ⟨hx, hb, hml, hown, hts⟩ (k_color l G cs a A q c ia hA (by omega) (by omega)) gL_colors_X6_color rfl qX6_color rfl rfl ⟨Nat.le_of_ble_eq_true rfl, Nat.le_of_ble_eq_true rfl⟩ hXI hK (va_recv hK.1 hXI.xo (ci := 6) (q0 := 0) rfl rfl) hl.1 rfl (Nat.le_of_ble_eq_true rfl) dL_colors_53 ⟨Nat.le_of_ble_eq_true rfl, Nat.le_of_ble_eq_true rfl⟩) hS (fun q h => h) (fun q h => h) (fun v H locs hpost hle hk hS => ?_)
        obtain ⟨rfl, hXI⟩ := hpost
        have hPa := keepO (Ord.of (b := u) (n := 1) rfl) hPa hk (fun j hj h9 => by obtain ⟨i9, h1, h2, h3⟩ := h9; exact hau i9 h2 (by rw [show j = 0 by omega] at h3; exact h3.symm))
        refine z_topi (b := colF A.1 q (A.1 0 4) c) (cl_at hq (by omega)) ?_
        refine lv_iload hx hb dL_colors_56 (lv_at hl 1 rfl) ?_
        refine z_icmp_eq (tgt := 63) hx hb dL_colors_58 (by decide) (by omega) (by omega) (fun c135 => ?_) (fun c135 => ?_)
        · skip
          refine z_iinc (k := 6) (lv' := [(4, .int (zI (c + 1))), (3, .int (zI ((cntI (fun z_ => decide (colF A.1 q (A.1 0 4) z_ ≠ 0)) c) + 1))), (6, .int (zI (colF A.1 q (A.1 0 4) c))), (5, .int (zI (srcF A.1 q c))), (0, .ref (a 0)), (1, .ref (u 0)), (2, .int (zI q))]) hx hb dL_colors_63 hl rfl (by decide) rfl (fun ls hl => ?_)
          refine lv_goto (tgt := 5) hx hb dL_colors_66 (by decide) ?_
          have hb1 : cntI (fun z_ => decide (colF A.1 q (A.1 0 4) z_ ≠ 0)) (c + 1) = cntI (fun z_ => decide (colF A.1 q (A.1 0 4) z_ ≠ 0)) c + 1 := by rw [cntI_t hI.1 (decide_eq_true (by omega))]
          exact ih (c + 1) H locs ⟨(by omega), hXI, hPa⟩ hS (by omega) ls (by show lv_has ls 7 [(0, .ref (a 0)), (1, .ref (u 0)), (2, .int (zI q)), (3, .int (zI (cntI (fun z_ => decide (colF A.1 q (A.1 0 4) z_ ≠ 0)) (c + 1)))), (4, .int (zI (c + 1)))]; rw [hb1]; exact lv_sub hl [4, 5, 6, 1, 0] rfl)
        · skip
          exfalso; omega
    · skip
      rw [if_pos c9] at hdue
      refine z_iconst (n := 0) hx hb dL_colors_26 ?_
      refine lv_goto (tgt := 34) hx hb dL_colors_27 (by decide) ?_
      refine z_topi (b := colF A.1 q (A.1 0 4) c) hdue.symm ?_
      refine lv_istore (lv' := [(6, .int (zI (colF A.1 q (A.1 0 4) c))), (5, .int (zI (srcF A.1 q c))), (0, .ref (a 0)), (1, .ref (u 0)), (2, .int (zI q)), (3, .int (zI (cntI (fun z_ => decide (colF A.1 q (A.1 0 4) z_ ≠ 0)) c))), (4, .int (zI c))]) hx hb dL_colors_34 hl (by decide) rfl (fun ls hl => ?_)
      refine lv_iload_n hx hb dL_colors_36 rfl (lv_at hl 5 rfl) ?_
      refine lv_iload hx hb dL_colors_37 (lv_at hl 0 rfl) ?_
      refine z_if_le (tgt := 46) hx hb dL_colors_39 (by decide) (by omega) (fun c8 => ?_) (fun c8 => ?_)
      · skip
        refine z_iconst (n := 0) hx hb dL_colors_46 ?_
        refine z_iadd hx hb dL_colors_47 ?_
        refine lv_istore_n (lv' := [(3, .int (zI ((cntI (fun z_ => decide (colF A.1 q (A.1 0 4) z_ ≠ 0)) c) + 0))), (6, .int (zI (colF A.1 q (A.1 0 4) c))), (5, .int (zI (srcF A.1 q c))), (0, .ref (a 0)), (1, .ref (u 0)), (2, .int (zI q)), (4, .int (zI c))]) hx hb dL_colors_48 rfl hl (by decide) rfl (fun ls hl => ?_)
        refine lv_aload_n hx hb dL_colors_49 rfl (lv_at hl 3 rfl) ?_
        refine lv_iload_n hx hb dL_colors_50 rfl (lv_at hl 5 rfl) ?_
        refine lv_iload hx hb dL_colors_51 (lv_at hl 6 rfl) ?_
        refine z_w (zrV (As := [.int (zI q), .int (zI c)]) (rest := []) ⟨hx, hb, hml, hown, hts⟩ (k_color l G cs a A q c ia hA (by omega) (by omega)) gL_colors_X6_color rfl qX6_color rfl rfl ⟨Nat.le_of_ble_eq_true rfl, Nat.le_of_ble_eq_true rfl⟩ hXI hK (va_recv hK.1 hXI.xo (ci := 6) (q0 := 0) rfl rfl) hl.1 rfl (Nat.le_of_ble_eq_true rfl) dL_colors_53 ⟨Nat.le_of_ble_eq_true rfl, Nat.le_of_ble_eq_true rfl⟩) hS (fun q h => h) (fun q h => h) (fun v H locs hpost hle hk hS => ?_)
        obtain ⟨rfl, hXI⟩ := hpost
        have hPa := keepO (Ord.of (b := u) (n := 1) rfl) hPa hk (fun j hj h9 => by obtain ⟨i9, h1, h2, h3⟩ := h9; exact hau i9 h2 (by rw [show j = 0 by omega] at h3; exact h3.symm))
        refine z_topi (b := colF A.1 q (A.1 0 4) c) (cl_at hq (by omega)) ?_
        refine lv_iload hx hb dL_colors_56 (lv_at hl 1 rfl) ?_
        refine z_icmp_eq (tgt := 63) hx hb dL_colors_58 (by decide) (by omega) (by omega) (fun c136 => ?_) (fun c136 => ?_)
        · skip
          refine z_iinc (k := 6) (lv' := [(4, .int (zI (c + 1))), (3, .int (zI ((cntI (fun z_ => decide (colF A.1 q (A.1 0 4) z_ ≠ 0)) c) + 0))), (6, .int (zI (colF A.1 q (A.1 0 4) c))), (5, .int (zI (srcF A.1 q c))), (0, .ref (a 0)), (1, .ref (u 0)), (2, .int (zI q))]) hx hb dL_colors_63 hl rfl (by decide) rfl (fun ls hl => ?_)
          refine lv_goto (tgt := 5) hx hb dL_colors_66 (by decide) ?_
          have hb1 : cntI (fun z_ => decide (colF A.1 q (A.1 0 4) z_ ≠ 0)) (c + 1) = cntI (fun z_ => decide (colF A.1 q (A.1 0 4) z_ ≠ 0)) c + 0 := by rw [cntI_f hI.1 (decide_eq_false (by omega))]; omega
          exact ih (c + 1) H locs ⟨(by omega), hXI, hPa⟩ hS (by omega) ls (by show lv_has ls 7 [(0, .ref (a 0)), (1, .ref (u 0)), (2, .int (zI q)), (3, .int (zI (cntI (fun z_ => decide (colF A.1 q (A.1 0 4) z_ ≠ 0)) (c + 1)))), (4, .int (zI (c + 1)))]; rw [hb1]; exact lv_sub hl [4, 5, 6, 1, 0] rfl)
        · skip
          exfalso; omega
      · skip
        refine z_iconst (n := 1) hx hb dL_colors_42 ?_
        refine lv_goto (tgt := 47) hx hb dL_colors_43 (by decide) ?_
        refine z_iadd hx hb dL_colors_47 ?_
        refine lv_istore_n (lv' := [(3, .int (zI ((cntI (fun z_ => decide (colF A.1 q (A.1 0 4) z_ ≠ 0)) c) + 1))), (6, .int (zI (colF A.1 q (A.1 0 4) c))), (5, .int (zI (srcF A.1 q c))), (0, .ref (a 0)), (1, .ref (u 0)), (2, .int (zI q)), (4, .int (zI c))]) hx hb dL_colors_48 rfl hl (by decide) rfl (fun ls hl => ?_)
        refine lv_aload_n hx hb dL_colors_49 rfl (lv_at hl 3 rfl) ?_
        refine lv_iload_n hx hb dL_colors_50 rfl (lv_at hl 5 rfl) ?_
        refine lv_iload hx hb dL_colors_51 (lv_at hl 6 rfl) ?_
        refine z_w (zrV (As := [.int (zI q), .int (zI c)]) (rest := []) ⟨hx, hb, hml, hown, hts⟩ (k_color l G cs a A q c ia hA (by omega) (by omega)) gL_colors_X6_color rfl qX6_color rfl rfl ⟨Nat.le_of_ble_eq_true rfl, Nat.le_of_ble_eq_true rfl⟩ hXI hK (va_recv hK.1 hXI.xo (ci := 6) (q0 := 0) rfl rfl) hl.1 rfl (Nat.le_of_ble_eq_true rfl) dL_colors_53 ⟨Nat.le_of_ble_eq_true rfl, Nat.le_of_ble_eq_true rfl⟩) hS (fun q h => h) (fun q h => h) (fun v H locs hpost hle hk hS => ?_)
        obtain ⟨rfl, hXI⟩ := hpost
        have hPa := keepO (Ord.of (b := u) (n := 1) rfl) hPa hk (fun j hj h9 => by obtain ⟨i9, h1, h2, h3⟩ := h9; exact hau i9 h2 (by rw [show j = 0 by omega] at h3; exact h3.symm))
        refine z_topi (b := colF A.1 q (A.1 0 4) c) (cl_at hq (by omega)) ?_
        refine lv_iload hx hb dL_colors_56 (lv_at hl 1 rfl) ?_
        refine z_icmp_eq (tgt := 63) hx hb dL_colors_58 (by decide) (by omega) (by omega) (fun c137 => ?_) (fun c137 => ?_)
        · skip
          refine z_iinc (k := 6) (lv' := [(4, .int (zI (c + 1))), (3, .int (zI ((cntI (fun z_ => decide (colF A.1 q (A.1 0 4) z_ ≠ 0)) c) + 1))), (6, .int (zI (colF A.1 q (A.1 0 4) c))), (5, .int (zI (srcF A.1 q c))), (0, .ref (a 0)), (1, .ref (u 0)), (2, .int (zI q))]) hx hb dL_colors_63 hl rfl (by decide) rfl (fun ls hl => ?_)
          refine lv_goto (tgt := 5) hx hb dL_colors_66 (by decide) ?_
          have hb1 : cntI (fun z_ => decide (colF A.1 q (A.1 0 4) z_ ≠ 0)) (c + 1) = cntI (fun z_ => decide (colF A.1 q (A.1 0 4) z_ ≠ 0)) c + 1 := by rw [cntI_t hI.1 (decide_eq_true (by omega))]
          exact ih (c + 1) H locs ⟨(by omega), hXI, hPa⟩ hS (by omega) ls (by show lv_has ls 7 [(0, .ref (a 0)), (1, .ref (u 0)), (2, .int (zI q)), (3, .int (zI (cntI (fun z_ => decide (colF A.1 q (A.1 0 4) z_ ≠ 0)) (c + 1)))), (4, .int (zI (c + 1)))]; rw [hb1]; exact lv_sub hl [4, 5, 6, 1, 0] rfl)
        · skip
          exfalso; omega

set_option maxHeartbeats 4000000 in
set_option maxRecDepth 100000 in
theorem c_L_meets (l : Launch) (G : va_G) (cs : Nat → ClassId) (a : Nat → Nat) (A : AS) (s t : Int) (ia : Inj a 62) (hA : GA A) (hs : 0 ≤ s ∧ s < A.1 0 1) (ht : 0 ≤ t ∧ t < A.1 0 1) (hne : s ≠ t) : MW l yL_meets wsL_meets { frames := 8, cells := 0, slots := 0, locals := 190 } G cs [.ref (a 0), .int (zI s), .int (zI t)] (fun H => XI G cs a a A H) (fun vv H => vv = .int (zI 1) ∧ XI G cs a a A H) (AX a 0 62) 0 0 := by
  refine m_intro (Pw := (fun H => XI G cs a a A H)) (cc := cL_meets) (maxL := 6) (ret := some .boolean) RL (by decide) rfl rfl (Nat.le_of_ble_eq_true rfl) ?_
  intro pP eE sS mM below meth cC hx hb hr hts hown hml hlk hnm hPre hK ls hl
  have hl : lv_has ls 6 [(0, .ref (a 0)), (1, .int (zI s)), (2, .int (zI t))] := hl
  have hXI := hPre
  have hS : va_S (AX a 0 62) sS.heap sS.heap [] := va_S.rf
  have hwf := hA.1.1
  obtain ⟨w0, w1, w2, w3, w4, wP, wC, wS, wX⟩ := id hwf
  refine z_iconst (n := 0) hx hb dL_meets_0 ?_
  refine lv_istore_n (lv' := [(3, .int (zI 0)), (0, .ref (a 0)), (1, .int (zI s)), (2, .int (zI t))]) hx hb dL_meets_1 rfl hl (by decide) rfl (fun ls hl => ?_)
  refine z_iconst (n := 0) hx hb dL_meets_2 ?_
  refine lv_istore (lv' := [(4, .int (zI 0)), (3, .int (zI 0)), (0, .ref (a 0)), (1, .int (zI s)), (2, .int (zI t))]) hx hb dL_meets_3 hl (by decide) rfl (fun ls hl => ?_)
  -- loop 5
  refine z_loopH (nL := 6) (fun (y : Int) => [(0, .ref (a 0)), (1, .int (zI s)), (2, .int (zI t)), (3, .int (zI (b2 (anyN (fun z_ => lineMeet A.1 (A.1 0 4) s t z_) y.toNat)))), (4, .int (zI y))]) (fun (y : Int) (H : Heap) => (0 ≤ y ∧ y ≤ 32) ∧ XI G cs a a A H) (fun (y : Int) => (32 - y).toNat) (0 : Int) ⟨(by omega), hXI⟩ hS (by show lv_has ls 6 [(0, .ref (a 0)), (1, .int (zI s)), (2, .int (zI t)), (3, .int (zI (b2 (anyN (fun z_ => lineMeet A.1 (A.1 0 4) s t z_) (0 : Int).toNat)))), (4, .int (zI (0 : Int)))]; rw [(show b2 (anyN (fun z_ => lineMeet A.1 (A.1 0 4) s t z_) (0 : Int).toNat) = 0 from rfl)]; exact lv_sub hl [2, 3, 4, 1, 0] rfl) (fun y H locs hIH hS ih ls hl => ?_)
  obtain ⟨hI, hXI⟩ := hIH
  have hl : lv_has ls 6 [(0, .ref (a 0)), (1, .int (zI s)), (2, .int (zI t)), (3, .int (zI (b2 (anyN (fun z_ => lineMeet A.1 (A.1 0 4) s t z_) y.toNat)))), (4, .int (zI y))] := hl
  have ih2 := ih
  refine lv_iload hx hb dL_meets_5 (lv_at hl 4 rfl) ?_
  refine z_bipush (n := 32) hx hb dL_meets_7 (by decide) ?_
  refine z_icmp_ge (tgt := 104) hx hb dL_meets_9 (by decide) (by omega) (by omega) (fun c101 => ?_) (fun c101 => ?_)
  · skip
    have ey : y = 32 := by omega
    subst ey
    refine lv_aload_n hx hb dL_meets_104 rfl (lv_at hl 0 rfl) ?_
    refine lv_iload_n hx hb dL_meets_105 rfl (lv_at hl 1 rfl) ?_
    refine lv_iload_n hx hb dL_meets_106 rfl (lv_at hl 2 rfl) ?_
    refine z_w (zrV (As := [.int (zI s), .int (zI t)]) (rest := []) ⟨hx, hb, hml, hown, hts⟩ (k_meet l G cs a A s t ia hA (by omega) (by omega)) gL_meets_X6_meet rfl qX6_meet rfl rfl ⟨Nat.le_of_ble_eq_true rfl, Nat.le_of_ble_eq_true rfl⟩ hXI hK (va_recv hK.1 hXI.xo (ci := 6) (q0 := 0) rfl rfl) hl.1 rfl (Nat.le_of_ble_eq_true rfl) dL_meets_107 ⟨Nat.le_of_ble_eq_true rfl, Nat.le_of_ble_eq_true rfl⟩) hS (fun q h => h) (fun q h => h) (fun v H locs hpost hle hk hS => ?_)
    obtain ⟨rfl, hXI⟩ := hpost
    refine z_topi (b := b2 (meetB A.1 (A.1 0 4) s t)) (mt_at hs ht hne) ?_
    refine lv_iload_n hx hb dL_meets_110 rfl (lv_at hl 3 rfl) ?_
    have e1 : b2 (meetB A.1 (A.1 0 4) s t) = b2 (anyN (fun z_ => lineMeet A.1 (A.1 0 4) s t z_) (32 : Int).toNat) := rfl
    refine z_icmp_ne (tgt := 139) hx hb dL_meets_111 (by decide) (by have := b2_r (meetB A.1 (A.1 0 4) s t); omega) (by have := b2_r (anyN (fun z_ => lineMeet A.1 (A.1 0 4) s t z_) (32 : Int).toNat); omega) (fun c102 => ?_) (fun c102 => ?_)
    · skip
      exfalso; omega
    · skip
      refine lv_aload_n hx hb dL_meets_114 rfl (lv_at hl 0 rfl) ?_
      refine lv_iload_n hx hb dL_meets_115 rfl (lv_at hl 2 rfl) ?_
      refine lv_iload_n hx hb dL_meets_116 rfl (lv_at hl 1 rfl) ?_
      refine z_w (zrV (As := [.int (zI t), .int (zI s)]) (rest := []) ⟨hx, hb, hml, hown, hts⟩ (k_meet l G cs a A t s ia hA (by omega) (by omega)) gL_meets_X6_meet rfl qX6_meet rfl rfl ⟨Nat.le_of_ble_eq_true rfl, Nat.le_of_ble_eq_true rfl⟩ hXI hK (va_recv hK.1 hXI.xo (ci := 6) (q0 := 0) rfl rfl) hl.1 rfl (Nat.le_of_ble_eq_true rfl) dL_meets_117 ⟨Nat.le_of_ble_eq_true rfl, Nat.le_of_ble_eq_true rfl⟩) hS (fun q h => h) (fun q h => h) (fun v H locs hpost hle hk hS => ?_)
      obtain ⟨rfl, hXI⟩ := hpost
      refine z_topi (b := b2 (meetB A.1 (A.1 0 4) s t)) ((mt_at ht hs (Ne.symm hne)).trans (congrArg b2 meet_sym)) ?_
      refine lv_iload_n hx hb dL_meets_120 rfl (lv_at hl 3 rfl) ?_
      refine z_icmp_ne (tgt := 139) hx hb dL_meets_121 (by decide) (by have := b2_r (meetB A.1 (A.1 0 4) s t); omega) (by have := b2_r (anyN (fun z_ => lineMeet A.1 (A.1 0 4) s t z_) (32 : Int).toNat); omega) (fun c103 => ?_) (fun c103 => ?_)
      · skip
        exfalso; omega
      · skip
        refine lv_aload_n hx hb dL_meets_124 rfl (lv_at hl 0 rfl) ?_
        refine lv_iload_n hx hb dL_meets_125 rfl (lv_at hl 1 rfl) ?_
        refine lv_iload_n hx hb dL_meets_126 rfl (lv_at hl 1 rfl) ?_
        refine z_w (zrV (As := [.int (zI s), .int (zI s)]) (rest := []) ⟨hx, hb, hml, hown, hts⟩ (k_meet l G cs a A s s ia hA (by omega) (by omega)) gL_meets_X6_meet rfl qX6_meet rfl rfl ⟨Nat.le_of_ble_eq_true rfl, Nat.le_of_ble_eq_true rfl⟩ hXI hK (va_recv hK.1 hXI.xo (ci := 6) (q0 := 0) rfl rfl) hl.1 rfl (Nat.le_of_ble_eq_true rfl) dL_meets_127 ⟨Nat.le_of_ble_eq_true rfl, Nat.le_of_ble_eq_true rfl⟩) hS (fun q h => h) (fun q h => h) (fun v H locs hpost hle hk hS => ?_)
        obtain ⟨rfl, hXI⟩ := hpost
        refine z_topi (b := (-2)) (mt_same hs) ?_
        refine z_bipush (n := -2) hx hb dL_meets_130 (by decide) ?_
        refine z_icmp_ne (tgt := 139) hx hb dL_meets_132 (by decide) (by omega) (by omega) (fun c104 => ?_) (fun c104 => ?_)
        · skip
          exfalso; omega
        · skip
          refine z_iconst (n := 1) hx hb dL_meets_135 ?_
          refine lv_goto (tgt := 140) hx hb dL_meets_136 (by decide) ?_
          exact w_zret hx hb hr hlk dL_meets_140 (by omega) hS ⟨rfl, hXI⟩
  · skip
    refine lv_aload_n hx hb dL_meets_12 rfl (lv_at hl 0 rfl) ?_
    refine lv_iload_n hx hb dL_meets_13 rfl (lv_at hl 1 rfl) ?_
    refine lv_iload hx hb dL_meets_14 (lv_at hl 4 rfl) ?_
    refine z_w (zrSJ (As := [.ref (a 0), .int (zI s), .int (zI y)]) (rest := []) ⟨hx, hb, hml, hown, hts⟩ (c_L_covers l G cs a A s y ia hA hs (by omega)) gL_meets_L_covers rfl qL_covers rfl rfl ⟨Nat.le_of_ble_eq_true rfl, Nat.le_of_ble_eq_true rfl⟩ hXI hK hl.1 rfl (Nat.le_of_ble_eq_true rfl) dL_meets_16 ⟨Nat.le_of_ble_eq_true rfl, Nat.le_of_ble_eq_true rfl⟩) hS (fun q h => h) (fun q h => h) (fun v H locs hpost hle hk hS => ?_)
    obtain ⟨rfl, hXI⟩ := hpost
    refine z_bif_eq (tgt := 98) hx hb dL_meets_19 (by decide) (fun c8 => ?_) (fun c8 => ?_)
    · skip
      refine z_iinc (k := 4) (lv' := [(4, .int (zI (y + 1))), (0, .ref (a 0)), (1, .int (zI s)), (2, .int (zI t)), (3, .int (zI (b2 (anyN (fun z_ => lineMeet A.1 (A.1 0 4) s t z_) y.toNat))))]) hx hb dL_meets_98 hl rfl (by decide) rfl (fun ls hl => ?_)
      refine lv_goto (tgt := 5) hx hb dL_meets_101 (by decide) ?_
      have hb1 : b2 (anyN (fun z_ => lineMeet A.1 (A.1 0 4) s t z_) (y + 1).toNat) = b2 (anyN (fun z_ => lineMeet A.1 (A.1 0 4) s t z_) y.toNat) := congrArg b2 (any_sf hI.1 (lm_no (Or.inl (notW c8))))
      exact ih2 (y + 1) H locs ⟨(by omega), hXI⟩ hS (by omega) ls (by show lv_has ls 6 [(0, .ref (a 0)), (1, .int (zI s)), (2, .int (zI t)), (3, .int (zI (b2 (anyN (fun z_ => lineMeet A.1 (A.1 0 4) s t z_) (y + 1).toNat)))), (4, .int (zI (y + 1)))]; rw [hb1]; exact lv_sub hl [1, 2, 3, 4, 0] rfl)
    · skip
      refine lv_aload_n hx hb dL_meets_22 rfl (lv_at hl 0 rfl) ?_
      refine lv_iload_n hx hb dL_meets_23 rfl (lv_at hl 2 rfl) ?_
      refine lv_iload hx hb dL_meets_24 (lv_at hl 4 rfl) ?_
      refine z_w (zrSJ (As := [.ref (a 0), .int (zI t), .int (zI y)]) (rest := []) ⟨hx, hb, hml, hown, hts⟩ (c_L_covers l G cs a A t y ia hA ht (by omega)) gL_meets_L_covers rfl qL_covers rfl rfl ⟨Nat.le_of_ble_eq_true rfl, Nat.le_of_ble_eq_true rfl⟩ hXI hK hl.1 rfl (Nat.le_of_ble_eq_true rfl) dL_meets_26 ⟨Nat.le_of_ble_eq_true rfl, Nat.le_of_ble_eq_true rfl⟩) hS (fun q h => h) (fun q h => h) (fun v H locs hpost hle hk hS => ?_)
      obtain ⟨rfl, hXI⟩ := hpost
      refine z_bif_eq (tgt := 98) hx hb dL_meets_29 (by decide) (fun c7 => ?_) (fun c7 => ?_)
      · skip
        refine z_iinc (k := 4) (lv' := [(4, .int (zI (y + 1))), (0, .ref (a 0)), (1, .int (zI s)), (2, .int (zI t)), (3, .int (zI (b2 (anyN (fun z_ => lineMeet A.1 (A.1 0 4) s t z_) y.toNat))))]) hx hb dL_meets_98 hl rfl (by decide) rfl (fun ls hl => ?_)
        refine lv_goto (tgt := 5) hx hb dL_meets_101 (by decide) ?_
        have hb1 : b2 (anyN (fun z_ => lineMeet A.1 (A.1 0 4) s t z_) (y + 1).toNat) = b2 (anyN (fun z_ => lineMeet A.1 (A.1 0 4) s t z_) y.toNat) := congrArg b2 (any_sf hI.1 (lm_no (Or.inr (notW c7))))
        exact ih2 (y + 1) H locs ⟨(by omega), hXI⟩ hS (by omega) ls (by show lv_has ls 6 [(0, .ref (a 0)), (1, .int (zI s)), (2, .int (zI t)), (3, .int (zI (b2 (anyN (fun z_ => lineMeet A.1 (A.1 0 4) s t z_) (y + 1).toNat)))), (4, .int (zI (y + 1)))]; rw [hb1]; exact lv_sub hl [1, 2, 3, 4, 0] rfl)
      · skip
        refine lv_aload_n hx hb dL_meets_32 rfl (lv_at hl 0 rfl) ?_
        refine lv_iload hx hb dL_meets_33 (lv_at hl 4 rfl) ?_
        refine lv_iload_n hx hb dL_meets_35 rfl (lv_at hl 1 rfl) ?_
        refine z_w (zrSJ (As := [.ref (a 0), .int (zI y), .int (zI s)]) (rest := []) ⟨hx, hb, hml, hown, hts⟩ (c_L_isShown l G cs a A y s ia hA (by omega) hs) gL_meets_L_isShown rfl qL_isShown rfl rfl ⟨Nat.le_of_ble_eq_true rfl, Nat.le_of_ble_eq_true rfl⟩ hXI hK hl.1 rfl (Nat.le_of_ble_eq_true rfl) dL_meets_36 ⟨Nat.le_of_ble_eq_true rfl, Nat.le_of_ble_eq_true rfl⟩) hS (fun q h => h) (fun q h => h) (fun v H locs hpost hle hk hS => ?_)
        obtain ⟨rfl, hXI⟩ := hpost
        refine z_bif_eq (tgt := 98) hx hb dL_meets_39 (by decide) (fun c6 => ?_) (fun c6 => ?_)
        · skip
          refine z_iinc (k := 4) (lv' := [(4, .int (zI (y + 1))), (0, .ref (a 0)), (1, .int (zI s)), (2, .int (zI t)), (3, .int (zI (b2 (anyN (fun z_ => lineMeet A.1 (A.1 0 4) s t z_) y.toNat))))]) hx hb dL_meets_98 hl rfl (by decide) rfl (fun ls hl => ?_)
          refine lv_goto (tgt := 5) hx hb dL_meets_101 (by decide) ?_
          have hb1 : b2 (anyN (fun z_ => lineMeet A.1 (A.1 0 4) s t z_) (y + 1).toNat) = b2 (anyN (fun z_ => lineMeet A.1 (A.1 0 4) s t z_) y.toNat) := congrArg b2 (any_sf hI.1 (lm_no (Or.inl c6)))
          exact ih2 (y + 1) H locs ⟨(by omega), hXI⟩ hS (by omega) ls (by show lv_has ls 6 [(0, .ref (a 0)), (1, .int (zI s)), (2, .int (zI t)), (3, .int (zI (b2 (anyN (fun z_ => lineMeet A.1 (A.1 0 4) s t z_) (y + 1).toNat)))), (4, .int (zI (y + 1)))]; rw [hb1]; exact lv_sub hl [1, 2, 3, 4, 0] rfl)
        · skip
          refine lv_aload_n hx hb dL_meets_42 rfl (lv_at hl 0 rfl) ?_
          refine lv_iload hx hb dL_meets_43 (lv_at hl 4 rfl) ?_
          refine lv_iload_n hx hb dL_meets_45 rfl (lv_at hl 2 rfl) ?_
          refine z_w (zrSJ (As := [.ref (a 0), .int (zI y), .int (zI t)]) (rest := []) ⟨hx, hb, hml, hown, hts⟩ (c_L_isShown l G cs a A y t ia hA (by omega) ht) gL_meets_L_isShown rfl qL_isShown rfl rfl ⟨Nat.le_of_ble_eq_true rfl, Nat.le_of_ble_eq_true rfl⟩ hXI hK hl.1 rfl (Nat.le_of_ble_eq_true rfl) dL_meets_46 ⟨Nat.le_of_ble_eq_true rfl, Nat.le_of_ble_eq_true rfl⟩) hS (fun q h => h) (fun q h => h) (fun v H locs hpost hle hk hS => ?_)
          obtain ⟨rfl, hXI⟩ := hpost
          refine z_bif_eq (tgt := 98) hx hb dL_meets_49 (by decide) (fun c5 => ?_) (fun c5 => ?_)
          · skip
            refine z_iinc (k := 4) (lv' := [(4, .int (zI (y + 1))), (0, .ref (a 0)), (1, .int (zI s)), (2, .int (zI t)), (3, .int (zI (b2 (anyN (fun z_ => lineMeet A.1 (A.1 0 4) s t z_) y.toNat))))]) hx hb dL_meets_98 hl rfl (by decide) rfl (fun ls hl => ?_)
            refine lv_goto (tgt := 5) hx hb dL_meets_101 (by decide) ?_
            have hb1 : b2 (anyN (fun z_ => lineMeet A.1 (A.1 0 4) s t z_) (y + 1).toNat) = b2 (anyN (fun z_ => lineMeet A.1 (A.1 0 4) s t z_) y.toNat) := congrArg b2 (any_sf hI.1 (lm_no (Or.inr c5)))
            exact ih2 (y + 1) H locs ⟨(by omega), hXI⟩ hS (by omega) ls (by show lv_has ls 6 [(0, .ref (a 0)), (1, .int (zI s)), (2, .int (zI t)), (3, .int (zI (b2 (anyN (fun z_ => lineMeet A.1 (A.1 0 4) s t z_) (y + 1).toNat)))), (4, .int (zI (y + 1)))]; rw [hb1]; exact lv_sub hl [1, 2, 3, 4, 0] rfl)
          · skip
            refine z_iconst (n := 0) hx hb dL_meets_52 ?_
            refine lv_istore (lv' := [(5, .int (zI 0)), (0, .ref (a 0)), (1, .int (zI s)), (2, .int (zI t)), (3, .int (zI (b2 (anyN (fun z_ => lineMeet A.1 (A.1 0 4) s t z_) y.toNat)))), (4, .int (zI y))]) hx hb dL_meets_53 hl (by decide) rfl (fun ls hl => ?_)
            -- loop 55
            have hIy := hI
            have hq9 : 0 ≤ y ∧ y < 32 := by omega
            refine z_loopH (nL := 6) (fun (c : Int) => [(0, .ref (a 0)), (1, .int (zI s)), (2, .int (zI t)), (3, .int (zI (b2 (anyN (fun z_ => lineMeet A.1 (A.1 0 4) s t z_) y.toNat || anyN (fun z_ => decide (pixAt A.1 s y z_ ≠ 0) && decide (pixAt A.1 t y z_ ≠ 0)) c.toNat)))), (4, .int (zI y)), (5, .int (zI c))]) (fun (c : Int) (H : Heap) => (0 ≤ c ∧ c ≤ 32) ∧ XI G cs a a A H) (fun (c : Int) => (32 - c).toNat) (0 : Int) ⟨(by omega), hXI⟩ hS (by show lv_has ls 6 [(0, .ref (a 0)), (1, .int (zI s)), (2, .int (zI t)), (3, .int (zI (b2 (anyN (fun z_ => lineMeet A.1 (A.1 0 4) s t z_) y.toNat || anyN (fun z_ => decide (pixAt A.1 s y z_ ≠ 0) && decide (pixAt A.1 t y z_ ≠ 0)) (0 : Int).toNat)))), (4, .int (zI y)), (5, .int (zI (0 : Int)))]; rw [(show b2 (anyN (fun z_ => lineMeet A.1 (A.1 0 4) s t z_) y.toNat || anyN (fun z_ => decide (pixAt A.1 s y z_ ≠ 0) && decide (pixAt A.1 t y z_ ≠ 0)) (0 : Int).toNat) = b2 (anyN (fun z_ => lineMeet A.1 (A.1 0 4) s t z_) y.toNat) from congrArg b2 (Bool.or_false _))]; exact lv_sub hl [1, 2, 3, 4, 5, 0] rfl) (fun c H locs hIH hS ih ls hl => ?_)
            obtain ⟨hI, hXI⟩ := hIH
            have hl : lv_has ls 6 [(0, .ref (a 0)), (1, .int (zI s)), (2, .int (zI t)), (3, .int (zI (b2 (anyN (fun z_ => lineMeet A.1 (A.1 0 4) s t z_) y.toNat || anyN (fun z_ => decide (pixAt A.1 s y z_ ≠ 0) && decide (pixAt A.1 t y z_ ≠ 0)) c.toNat)))), (4, .int (zI y)), (5, .int (zI c))] := hl
            refine lv_iload hx hb dL_meets_55 (lv_at hl 5 rfl) ?_
            refine z_bipush (n := 32) hx hb dL_meets_57 (by decide) ?_
            have hp1 := pixAt_r hwf (q := y) (r := c) hs
            have hp2 := pixAt_r hwf (q := y) (r := c) ht
            refine z_icmp_ge (tgt := 98) hx hb dL_meets_59 (by decide) (by omega) (by omega) (fun c105 => ?_) (fun c105 => ?_)
            · skip
              refine z_iinc (k := 4) (lv' := [(4, .int (zI (y + 1))), (0, .ref (a 0)), (1, .int (zI s)), (2, .int (zI t)), (3, .int (zI (b2 (anyN (fun z_ => lineMeet A.1 (A.1 0 4) s t z_) y.toNat || anyN (fun z_ => decide (pixAt A.1 s y z_ ≠ 0) && decide (pixAt A.1 t y z_ ≠ 0)) c.toNat)))), (5, .int (zI c))]) hx hb dL_meets_98 hl rfl (by decide) rfl (fun ls hl => ?_)
              refine lv_goto (tgt := 5) hx hb dL_meets_101 (by decide) ?_
              have ec : c = 32 := by omega
              subst ec
              have hb1 : b2 (anyN (fun z_ => lineMeet A.1 (A.1 0 4) s t z_) (y + 1).toNat) = b2 (anyN (fun z_ => lineMeet A.1 (A.1 0 4) s t z_) y.toNat || anyN (fun z_ => decide (pixAt A.1 s y z_ ≠ 0) && decide (pixAt A.1 t y z_ ≠ 0)) (32 : Int).toNat) := by rw [any_s hIy.1, show lineMeet A.1 (A.1 0 4) s t y = _ from lm_of c6 c5]; rfl
              exact ih2 (y + 1) H locs ⟨(by omega), hXI⟩ hS (by omega) ls (by show lv_has ls 6 [(0, .ref (a 0)), (1, .int (zI s)), (2, .int (zI t)), (3, .int (zI (b2 (anyN (fun z_ => lineMeet A.1 (A.1 0 4) s t z_) (y + 1).toNat)))), (4, .int (zI (y + 1)))]; rw [hb1]; exact lv_sub hl [1, 2, 3, 4, 0] rfl)
            · skip
              refine lv_aload_n hx hb dL_meets_62 rfl (lv_at hl 0 rfl) ?_
              refine lv_iload_n hx hb dL_meets_63 rfl (lv_at hl 1 rfl) ?_
              refine lv_iload hx hb dL_meets_64 (lv_at hl 4 rfl) ?_
              refine lv_iload hx hb dL_meets_66 (lv_at hl 5 rfl) ?_
              refine z_w (zrSJ (As := [.ref (a 0), .int (zI s), .int (zI y), .int (zI c)]) (rest := []) ⟨hx, hb, hml, hown, hts⟩ (c_L_pixelOf l G cs a A s y c ia hA hs hq9 (by omega)) gL_meets_L_pixelOf rfl qL_pixelOf rfl rfl ⟨Nat.le_of_ble_eq_true rfl, Nat.le_of_ble_eq_true rfl⟩ hXI hK hl.1 rfl (Nat.le_of_ble_eq_true rfl) dL_meets_68 ⟨Nat.le_of_ble_eq_true rfl, Nat.le_of_ble_eq_true rfl⟩) hS (fun q h => h) (fun q h => h) (fun v H locs hpost hle hk hS => ?_)
              obtain ⟨rfl, hXI⟩ := hpost
              refine z_if_le (tgt := 90) hx hb dL_meets_71 (by decide) (by omega) (fun c4 => ?_) (fun c4 => ?_)
              · skip
                refine lv_iload_n hx hb dL_meets_90 rfl (lv_at hl 3 rfl) ?_
                refine lv_istore_n (lv' := [(3, .int (zI (b2 (anyN (fun z_ => lineMeet A.1 (A.1 0 4) s t z_) y.toNat || anyN (fun z_ => decide (pixAt A.1 s y z_ ≠ 0) && decide (pixAt A.1 t y z_ ≠ 0)) c.toNat)))), (0, .ref (a 0)), (1, .int (zI s)), (2, .int (zI t)), (4, .int (zI y)), (5, .int (zI c))]) hx hb dL_meets_91 rfl hl (by decide) rfl (fun ls hl => ?_)
                refine z_iinc (k := 5) (lv' := [(5, .int (zI (c + 1))), (3, .int (zI (b2 (anyN (fun z_ => lineMeet A.1 (A.1 0 4) s t z_) y.toNat || anyN (fun z_ => decide (pixAt A.1 s y z_ ≠ 0) && decide (pixAt A.1 t y z_ ≠ 0)) c.toNat)))), (0, .ref (a 0)), (1, .int (zI s)), (2, .int (zI t)), (4, .int (zI y))]) hx hb dL_meets_92 hl rfl (by decide) rfl (fun ls hl => ?_)
                refine lv_goto (tgt := 55) hx hb dL_meets_95 (by decide) ?_
                have hb1 : b2 (anyN (fun z_ => lineMeet A.1 (A.1 0 4) s t z_) y.toNat || anyN (fun z_ => decide (pixAt A.1 s y z_ ≠ 0) && decide (pixAt A.1 t y z_ ≠ 0)) (c + 1).toNat) = b2 (anyN (fun z_ => lineMeet A.1 (A.1 0 4) s t z_) y.toNat || anyN (fun z_ => decide (pixAt A.1 s y z_ ≠ 0) && decide (pixAt A.1 t y z_ ≠ 0)) c.toNat) := by rw [any_sf (f := (fun z_ => decide (pixAt A.1 s y z_ ≠ 0) && decide (pixAt A.1 t y z_ ≠ 0))) hI.1 (show (_ && _) = false from (by rw [decide_eq_false (show ¬ pixAt A.1 s y c ≠ 0 by omega)]; rfl))]
                exact ih (c + 1) H locs ⟨(by omega), hXI⟩ hS (by omega) ls (by show lv_has ls 6 [(0, .ref (a 0)), (1, .int (zI s)), (2, .int (zI t)), (3, .int (zI (b2 (anyN (fun z_ => lineMeet A.1 (A.1 0 4) s t z_) y.toNat || anyN (fun z_ => decide (pixAt A.1 s y z_ ≠ 0) && decide (pixAt A.1 t y z_ ≠ 0)) (c + 1).toNat)))), (4, .int (zI y)), (5, .int (zI (c + 1)))]; rw [hb1]; exact lv_sub hl [2, 3, 4, 1, 5, 0] rfl)
              · skip
                refine lv_aload_n hx hb dL_meets_74 rfl (lv_at hl 0 rfl) ?_
                refine lv_iload_n hx hb dL_meets_75 rfl (lv_at hl 2 rfl) ?_
                refine lv_iload hx hb dL_meets_76 (lv_at hl 4 rfl) ?_
                refine lv_iload hx hb dL_meets_78 (lv_at hl 5 rfl) ?_
                refine z_w (zrSJ (As := [.ref (a 0), .int (zI t), .int (zI y), .int (zI c)]) (rest := []) ⟨hx, hb, hml, hown, hts⟩ (c_L_pixelOf l G cs a A t y c ia hA ht hq9 (by omega)) gL_meets_L_pixelOf rfl qL_pixelOf rfl rfl ⟨Nat.le_of_ble_eq_true rfl, Nat.le_of_ble_eq_true rfl⟩ hXI hK hl.1 rfl (Nat.le_of_ble_eq_true rfl) dL_meets_80 ⟨Nat.le_of_ble_eq_true rfl, Nat.le_of_ble_eq_true rfl⟩) hS (fun q h => h) (fun q h => h) (fun v H locs hpost hle hk hS => ?_)
                obtain ⟨rfl, hXI⟩ := hpost
                refine z_if_le (tgt := 90) hx hb dL_meets_83 (by decide) (by omega) (fun c3 => ?_) (fun c3 => ?_)
                · skip
                  refine lv_iload_n hx hb dL_meets_90 rfl (lv_at hl 3 rfl) ?_
                  refine lv_istore_n (lv' := [(3, .int (zI (b2 (anyN (fun z_ => lineMeet A.1 (A.1 0 4) s t z_) y.toNat || anyN (fun z_ => decide (pixAt A.1 s y z_ ≠ 0) && decide (pixAt A.1 t y z_ ≠ 0)) c.toNat)))), (0, .ref (a 0)), (1, .int (zI s)), (2, .int (zI t)), (4, .int (zI y)), (5, .int (zI c))]) hx hb dL_meets_91 rfl hl (by decide) rfl (fun ls hl => ?_)
                  refine z_iinc (k := 5) (lv' := [(5, .int (zI (c + 1))), (3, .int (zI (b2 (anyN (fun z_ => lineMeet A.1 (A.1 0 4) s t z_) y.toNat || anyN (fun z_ => decide (pixAt A.1 s y z_ ≠ 0) && decide (pixAt A.1 t y z_ ≠ 0)) c.toNat)))), (0, .ref (a 0)), (1, .int (zI s)), (2, .int (zI t)), (4, .int (zI y))]) hx hb dL_meets_92 hl rfl (by decide) rfl (fun ls hl => ?_)
                  refine lv_goto (tgt := 55) hx hb dL_meets_95 (by decide) ?_
                  have hb1 : b2 (anyN (fun z_ => lineMeet A.1 (A.1 0 4) s t z_) y.toNat || anyN (fun z_ => decide (pixAt A.1 s y z_ ≠ 0) && decide (pixAt A.1 t y z_ ≠ 0)) (c + 1).toNat) = b2 (anyN (fun z_ => lineMeet A.1 (A.1 0 4) s t z_) y.toNat || anyN (fun z_ => decide (pixAt A.1 s y z_ ≠ 0) && decide (pixAt A.1 t y z_ ≠ 0)) c.toNat) := by rw [any_sf (f := (fun z_ => decide (pixAt A.1 s y z_ ≠ 0) && decide (pixAt A.1 t y z_ ≠ 0))) hI.1 (show (_ && _) = false from (by rw [decide_eq_false (show ¬ pixAt A.1 t y c ≠ 0 by omega), Bool.and_false]))]
                  exact ih (c + 1) H locs ⟨(by omega), hXI⟩ hS (by omega) ls (by show lv_has ls 6 [(0, .ref (a 0)), (1, .int (zI s)), (2, .int (zI t)), (3, .int (zI (b2 (anyN (fun z_ => lineMeet A.1 (A.1 0 4) s t z_) y.toNat || anyN (fun z_ => decide (pixAt A.1 s y z_ ≠ 0) && decide (pixAt A.1 t y z_ ≠ 0)) (c + 1).toNat)))), (4, .int (zI y)), (5, .int (zI (c + 1)))]; rw [hb1]; exact lv_sub hl [2, 3, 4, 1, 5, 0] rfl)
                · skip
                  refine z_iconst (n := 1) hx hb dL_meets_86 ?_
                  refine lv_goto (tgt := 91) hx hb dL_meets_87 (by decide) ?_
                  refine lv_istore_n (lv' := [(3, .int (zI 1)), (0, .ref (a 0)), (1, .int (zI s)), (2, .int (zI t)), (4, .int (zI y)), (5, .int (zI c))]) hx hb dL_meets_91 rfl hl (by decide) rfl (fun ls hl => ?_)
                  refine z_iinc (k := 5) (lv' := [(5, .int (zI (c + 1))), (3, .int (zI 1)), (0, .ref (a 0)), (1, .int (zI s)), (2, .int (zI t)), (4, .int (zI y))]) hx hb dL_meets_92 hl rfl (by decide) rfl (fun ls hl => ?_)
                  refine lv_goto (tgt := 55) hx hb dL_meets_95 (by decide) ?_
                  have hb1 : b2 (anyN (fun z_ => lineMeet A.1 (A.1 0 4) s t z_) y.toNat || anyN (fun z_ => decide (pixAt A.1 s y z_ ≠ 0) && decide (pixAt A.1 t y z_ ≠ 0)) (c + 1).toNat) = 1 := b2_t (by rw [any_st (f := (fun z_ => decide (pixAt A.1 s y z_ ≠ 0) && decide (pixAt A.1 t y z_ ≠ 0))) hI.1 (show (_ && _) = true by rw [decide_eq_true (show pixAt A.1 s y c ≠ 0 by omega), decide_eq_true (show pixAt A.1 t y c ≠ 0 by omega)]; rfl), Bool.or_true])
                  exact ih (c + 1) H locs ⟨(by omega), hXI⟩ hS (by omega) ls (by show lv_has ls 6 [(0, .ref (a 0)), (1, .int (zI s)), (2, .int (zI t)), (3, .int (zI (b2 (anyN (fun z_ => lineMeet A.1 (A.1 0 4) s t z_) y.toNat || anyN (fun z_ => decide (pixAt A.1 s y z_ ≠ 0) && decide (pixAt A.1 t y z_ ≠ 0)) (c + 1).toNat)))), (4, .int (zI y)), (5, .int (zI (c + 1)))]; rw [hb1]; exact lv_sub hl [2, 3, 4, 1, 5, 0] rfl)

set_option maxHeartbeats 4000000 in
set_option maxRecDepth 100000 in
theorem c_L_print (l : Launch) (G : va_G) (cs : Nat → ClassId) (a : Nat → Nat) (A : AS)  (ia : Inj a 62) (hA : GA A) : MW l yL_print wsL_print { frames := 5, cells := 0, slots := 0, locals := 121 } G cs [.ref (a 0)] (fun H => XI G cs a a A H) (fun vv H => vv = .int (zI (prF A.1)) ∧ XI G cs a a A H) (AX a 0 62) 0 0 := by
  refine m_intro (Pw := (fun H => XI G cs a a A H)) (cc := cL_print) (maxL := 3) (ret := some .int) RL (by decide) rfl rfl (Nat.le_of_ble_eq_true rfl) ?_
  intro pP eE sS mM below meth cC hx hb hr hts hown hml hlk hnm hPre hK ls hl
  have hl : lv_has ls 3 [(0, .ref (a 0))] := hl
  have hXI := hPre
  have hS : va_S (AX a 0 62) sS.heap sS.heap [] := va_S.rf
  have hwf := hA.1.1
  obtain ⟨w0, w1, w2, w3, w4, wP, wC, wS, wX⟩ := id hwf
  refine z_bipush (n := 7) hx hb dL_print_0 (by decide) ?_
  refine lv_istore_n (lv' := [(1, .int (zI 7)), (0, .ref (a 0))]) hx hb dL_print_2 rfl hl (by decide) rfl (fun ls hl => ?_)
  refine z_iconst (n := 0) hx hb dL_print_3 ?_
  refine lv_istore_n (lv' := [(2, .int (zI 0)), (1, .int (zI 7)), (0, .ref (a 0))]) hx hb dL_print_4 rfl hl (by decide) rfl (fun ls hl => ?_)
  -- loop 5
  refine z_loopH (nL := 3) (fun (k : Int) => [(0, .ref (a 0)), (1, .int (zI (prN A.1 k.toNat))), (2, .int (zI (3 * k)))]) (fun (k : Int) (H : Heap) => (0 ≤ k ∧ k ≤ 342) ∧ XI G cs a a A H) (fun (k : Int) => (342 - k).toNat) (0 : Int) ⟨(by omega), hXI⟩ hS (by show lv_has ls 3 [(0, .ref (a 0)), (1, .int (zI (prN A.1 (0 : Int).toNat))), (2, .int (zI (3 * (0 : Int))))]; rw [(show prN A.1 (0 : Int).toNat = 7 from rfl), (show (3 : Int) * 0 = 0 from rfl)]; exact lv_sub hl [2, 1, 0] rfl) (fun k H locs hIH hS ih ls hl => ?_)
  obtain ⟨hI, hXI⟩ := hIH
  have hl : lv_has ls 3 [(0, .ref (a 0)), (1, .int (zI (prN A.1 k.toNat))), (2, .int (zI (3 * k)))] := hl
  refine lv_iload_n hx hb dL_print_5 rfl (lv_at hl 2 rfl) ?_
  refine z_sipush (n := 1024) hx hb dL_print_6 (by decide) ?_
  refine z_icmp_ge (tgt := 36) hx hb dL_print_9 (by decide) (by omega) (by omega) (fun c101 => ?_) (fun c101 => ?_)
  · skip
    have ek : k = 342 := by omega
    subst ek
    refine lv_iload_n hx hb dL_print_36 rfl (lv_at hl 1 rfl) ?_
    exact w_iret hx hb hr hlk dL_print_37 hS ⟨prF_i A.1, hXI⟩
  · skip
    refine z_bipush (n := 31) hx hb dL_print_12 (by decide) ?_
    refine lv_iload_n hx hb dL_print_14 rfl (lv_at hl 1 rfl) ?_
    refine z_imul hx hb dL_print_15 ?_
    refine lv_aload_n hx hb dL_print_16 rfl (lv_at hl 0 rfl) ?_
    refine lv_iload_n hx hb dL_print_17 rfl (lv_at hl 2 rfl) ?_
    refine z_bipush (n := 32) hx hb dL_print_18 (by decide) ?_
    refine z_idiv hx hb dL_print_20 (by omega) (by omega) ?_
    refine lv_iload_n hx hb dL_print_21 rfl (lv_at hl 2 rfl) ?_
    refine z_bipush (n := 32) hx hb dL_print_22 (by decide) ?_
    refine z_irem hx hb dL_print_24 (by omega) (by omega) ?_
    have hcr := colorF_r hwf (q := 3 * k / 32) (r := 3 * k % 32)
    refine z_w (zrV (As := [.int (zI ((3 * k) / 32)), .int (zI ((3 * k) % 32))]) (rest := [.int (zI (31 * (prN A.1 k.toNat)))]) ⟨hx, hb, hml, hown, hts⟩ (k_color l G cs a A ((3 * k) / 32) ((3 * k) % 32) ia hA (by omega) (by omega)) gL_print_X6_color rfl qX6_color rfl rfl ⟨Nat.le_of_ble_eq_true rfl, Nat.le_of_ble_eq_true rfl⟩ hXI hK (va_recv hK.1 hXI.xo (ci := 6) (q0 := 0) rfl rfl) hl.1 rfl (Nat.le_of_ble_eq_true rfl) dL_print_25 ⟨Nat.le_of_ble_eq_true rfl, Nat.le_of_ble_eq_true rfl⟩) hS (fun q h => h) (fun q h => h) (fun v H locs hpost hle hk hS => ?_)
    obtain ⟨rfl, hXI⟩ := hpost
    refine z_topi (b := colorF A.1 (3 * k / 32) (3 * k % 32)) rfl ?_
    refine z_iadd hx hb dL_print_28 ?_
    refine lv_istore_n (lv' := [(1, .int (zI ((31 * (prN A.1 k.toNat)) + (colorF A.1 (3 * k / 32) (3 * k % 32))))), (0, .ref (a 0)), (2, .int (zI (3 * k)))]) hx hb dL_print_29 rfl hl (by decide) rfl (fun ls hl => ?_)
    refine z_iinc (k := 2) (lv' := [(2, .int (zI ((3 * k) + 3))), (1, .int (zI ((31 * (prN A.1 k.toNat)) + (colorF A.1 (3 * k / 32) (3 * k % 32))))), (0, .ref (a 0))]) hx hb dL_print_30 hl rfl (by decide) rfl (fun ls hl => ?_)
    refine lv_goto (tgt := 5) hx hb dL_print_33 (by decide) ?_
    have hb1 : prN A.1 (k + 1).toNat = 31 * prN A.1 k.toNat + colorF A.1 (3 * k / 32) (3 * k % 32) := prN_s hI.1
    have hb2 : 3 * (k + 1) = 3 * k + 3 := by omega
    exact ih (k + 1) H locs ⟨(by omega), hXI⟩ hS (by omega) ls (by show lv_has ls 3 [(0, .ref (a 0)), (1, .int (zI (prN A.1 (k + 1).toNat))), (2, .int (zI (3 * (k + 1))))]; rw [hb1, hb2]; exact lv_sub hl [2, 1, 0] rfl)
