set_option maxHeartbeats 4000000 in
set_option maxRecDepth 100000 in
theorem c_L_errors (l : Launch) (G : va_G) (cs : Nat → ClassId) (a : Nat → Nat) (A : AS)  (ia : Inj a 62) (hA : GA A) (hn0 : 1 ≤ A.1 0 0) (hn1 : 1 ≤ A.1 0 1) : MW l yL_errors wsL_errors { frames := 7, cells := 0, slots := 0, locals := 166 } G cs [.ref (a 0)] (fun H => XI G cs a a A H) (fun vv H => vv = .int (zI 1) ∧ XI G cs a a A H) (AX a 0 62) 0 0 := by
  refine m_intro (Pw := (fun H => XI G cs a a A H)) (cc := cL_errors) (maxL := 4) (ret := some .boolean) RL (by decide) rfl rfl (Nat.le_of_ble_eq_true rfl) ?_
  intro pP eE sS mM below meth cC hx hb hr hts hown hml hlk hnm hPre hK ls hl
  have hl : lv_has ls 4 [(0, .ref (a 0))] := hl
  have hXI := hPre
  have hS : va_S (AX a 0 62) sS.heap sS.heap [] := va_S.rf
  have hwf := hA.1.1
  obtain ⟨w0, w1, w2, w3, w4, wP, wC, wS, wX⟩ := id hwf
  refine lv_aload_n hx hb dL_errors_0 rfl (lv_at hl 0 rfl) ?_
  refine z_iconst (n := 0) hx hb dL_errors_1 ?_
  refine z_w (zrV (As := [.int (zI 0)]) (rest := []) ⟨hx, hb, hml, hown, hts⟩ (k_count l G cs a A 0 ia hA (by omega)) gL_errors_X6_count rfl qX6_count rfl rfl ⟨Nat.le_of_ble_eq_true rfl, Nat.le_of_ble_eq_true rfl⟩ hXI hK (va_recv hK.1 hXI.xo (ci := 6) (q0 := 0) rfl rfl) hl.1 rfl (Nat.le_of_ble_eq_true rfl) dL_errors_2 ⟨Nat.le_of_ble_eq_true rfl, Nat.le_of_ble_eq_true rfl⟩) hS (fun q h => h) (fun q h => h) (fun v H locs hpost hle hk hS => ?_)
  obtain ⟨rfl, hXI⟩ := hpost
  refine z_topi (b := A.1 0 0) ct_0 ?_
  refine lv_istore_n (lv' := [(1, .int (zI (A.1 0 0))), (0, .ref (a 0))]) hx hb dL_errors_5 rfl hl (by decide) rfl (fun ls hl => ?_)
  refine lv_aload_n hx hb dL_errors_6 rfl (lv_at hl 1 rfl) ?_
  refine z_iconst (n := 1) hx hb dL_errors_7 ?_
  refine z_w (zrV (As := [.int (zI 1)]) (rest := []) ⟨hx, hb, hml, hown, hts⟩ (k_count l G cs a A 1 ia hA (by omega)) gL_errors_X6_count rfl qX6_count rfl rfl ⟨Nat.le_of_ble_eq_true rfl, Nat.le_of_ble_eq_true rfl⟩ hXI hK (va_recv hK.1 hXI.xo (ci := 6) (q0 := 0) rfl rfl) hl.1 rfl (Nat.le_of_ble_eq_true rfl) dL_errors_8 ⟨Nat.le_of_ble_eq_true rfl, Nat.le_of_ble_eq_true rfl⟩) hS (fun q h => h) (fun q h => h) (fun v H locs hpost hle hk hS => ?_)
  obtain ⟨rfl, hXI⟩ := hpost
  refine z_topi (b := A.1 0 1) ct_1 ?_
  refine lv_istore_n (lv' := [(2, .int (zI (A.1 0 1))), (1, .int (zI (A.1 0 0))), (0, .ref (a 0))]) hx hb dL_errors_11 rfl hl (by decide) rfl (fun ls hl => ?_)
  refine lv_aload_n hx hb dL_errors_12 rfl (lv_at hl 2 rfl) ?_
  refine lv_iload_n hx hb dL_errors_13 rfl (lv_at hl 1 rfl) ?_
  refine z_iconst (n := 0) hx hb dL_errors_14 ?_
  refine z_iconst (n := 0) hx hb dL_errors_15 ?_
  refine z_iconst (n := 0) hx hb dL_errors_16 ?_
  refine z_w (zrV (As := [.int (zI (A.1 0 0)), .int (zI 0), .int (zI 0), .int (zI 0)]) (rest := []) ⟨hx, hb, hml, hown, hts⟩ (k_setPixel l G cs a A (A.1 0 0) 0 0 0 ia hA (by omega) (by omega) (by omega) (by omega)) gL_errors_X6_setPixel rfl qX6_setPixel rfl rfl ⟨Nat.le_of_ble_eq_true rfl, Nat.le_of_ble_eq_true rfl⟩ hXI hK (va_recv hK.1 hXI.xo (ci := 6) (q0 := 0) rfl rfl) hl.1 rfl (Nat.le_of_ble_eq_true rfl) dL_errors_17 ⟨Nat.le_of_ble_eq_true rfl, Nat.le_of_ble_eq_true rfl⟩) hS (fun q h => h) (fun q h => h) (fun v H locs hpost hle hk hS => ?_)
  obtain ⟨hv, hXI⟩ := hpost
  have hE : setPixelF A (A.1 0 0) 0 0 0 = ((-1), A) := (by unfold setPixelF; rw [if_pos (by omega)])
  have hv : v = .int (zI (-1)) := by rw [hE] at hv; exact hv
  have hXI : XI G cs a a A H := by rw [hE] at hXI; exact hXI
  subst hv
  clear hE
  refine z_iconst (n := -1) hx hb dL_errors_20 ?_
  refine z_icmp_ne (tgt := 163) hx hb dL_errors_21 (by decide) (by omega) (by omega) (fun c101 => ?_) (fun c101 => ?_)
  · skip
    exfalso; omega
  · skip
    refine lv_aload_n hx hb dL_errors_24 rfl (lv_at hl 2 rfl) ?_
    refine z_iconst (n := 0) hx hb dL_errors_25 ?_
    refine z_bipush (n := 8) hx hb dL_errors_26 (by decide) ?_
    refine z_iconst (n := 0) hx hb dL_errors_28 ?_
    refine z_iconst (n := 0) hx hb dL_errors_29 ?_
    refine z_w (zrV (As := [.int (zI 0), .int (zI 8), .int (zI 0), .int (zI 0)]) (rest := []) ⟨hx, hb, hml, hown, hts⟩ (k_setPixel l G cs a A 0 8 0 0 ia hA (by omega) (by omega) (by omega) (by omega)) gL_errors_X6_setPixel rfl qX6_setPixel rfl rfl ⟨Nat.le_of_ble_eq_true rfl, Nat.le_of_ble_eq_true rfl⟩ hXI hK (va_recv hK.1 hXI.xo (ci := 6) (q0 := 0) rfl rfl) hl.1 rfl (Nat.le_of_ble_eq_true rfl) dL_errors_30 ⟨Nat.le_of_ble_eq_true rfl, Nat.le_of_ble_eq_true rfl⟩) hS (fun q h => h) (fun q h => h) (fun v H locs hpost hle hk hS => ?_)
    obtain ⟨hv, hXI⟩ := hpost
    have hE : setPixelF A 0 8 0 0 = ((-2), A) := (by unfold setPixelF; rw [if_neg (by omega), if_pos (by omega)])
    have hv : v = .int (zI (-2)) := by rw [hE] at hv; exact hv
    have hXI : XI G cs a a A H := by rw [hE] at hXI; exact hXI
    subst hv
    clear hE
    refine z_bipush (n := -2) hx hb dL_errors_33 (by decide) ?_
    refine z_icmp_ne (tgt := 163) hx hb dL_errors_35 (by decide) (by omega) (by omega) (fun c102 => ?_) (fun c102 => ?_)
    · skip
      exfalso; omega
    · skip
      refine lv_aload_n hx hb dL_errors_38 rfl (lv_at hl 2 rfl) ?_
      refine z_iconst (n := 0) hx hb dL_errors_39 ?_
      refine z_iconst (n := 0) hx hb dL_errors_40 ?_
      refine z_iconst (n := -1) hx hb dL_errors_41 ?_
      refine z_iconst (n := 0) hx hb dL_errors_42 ?_
      refine z_w (zrV (As := [.int (zI 0), .int (zI 0), .int (zI (-1)), .int (zI 0)]) (rest := []) ⟨hx, hb, hml, hown, hts⟩ (k_setPixel l G cs a A 0 0 (-1) 0 ia hA (by omega) (by omega) (by omega) (by omega)) gL_errors_X6_setPixel rfl qX6_setPixel rfl rfl ⟨Nat.le_of_ble_eq_true rfl, Nat.le_of_ble_eq_true rfl⟩ hXI hK (va_recv hK.1 hXI.xo (ci := 6) (q0 := 0) rfl rfl) hl.1 rfl (Nat.le_of_ble_eq_true rfl) dL_errors_43 ⟨Nat.le_of_ble_eq_true rfl, Nat.le_of_ble_eq_true rfl⟩) hS (fun q h => h) (fun q h => h) (fun v H locs hpost hle hk hS => ?_)
      obtain ⟨hv, hXI⟩ := hpost
      have hE : setPixelF A 0 0 (-1) 0 = ((-2), A) := (by unfold setPixelF; rw [if_neg (by omega), if_pos (by omega)])
      have hv : v = .int (zI (-2)) := by rw [hE] at hv; exact hv
      have hXI : XI G cs a a A H := by rw [hE] at hXI; exact hXI
      subst hv
      clear hE
      refine z_bipush (n := -2) hx hb dL_errors_46 (by decide) ?_
      refine z_icmp_ne (tgt := 163) hx hb dL_errors_48 (by decide) (by omega) (by omega) (fun c103 => ?_) (fun c103 => ?_)
      · skip
        exfalso; omega
      · skip
        refine lv_aload_n hx hb dL_errors_51 rfl (lv_at hl 2 rfl) ?_
        refine z_iconst (n := 0) hx hb dL_errors_52 ?_
        refine z_iconst (n := 0) hx hb dL_errors_53 ?_
        refine z_iconst (n := 0) hx hb dL_errors_54 ?_
        refine z_iconst (n := 4) hx hb dL_errors_55 ?_
        refine z_w (zrV (As := [.int (zI 0), .int (zI 0), .int (zI 0), .int (zI 4)]) (rest := []) ⟨hx, hb, hml, hown, hts⟩ (k_setPixel l G cs a A 0 0 0 4 ia hA (by omega) (by omega) (by omega) (by omega)) gL_errors_X6_setPixel rfl qX6_setPixel rfl rfl ⟨Nat.le_of_ble_eq_true rfl, Nat.le_of_ble_eq_true rfl⟩ hXI hK (va_recv hK.1 hXI.xo (ci := 6) (q0 := 0) rfl rfl) hl.1 rfl (Nat.le_of_ble_eq_true rfl) dL_errors_56 ⟨Nat.le_of_ble_eq_true rfl, Nat.le_of_ble_eq_true rfl⟩) hS (fun q h => h) (fun q h => h) (fun v H locs hpost hle hk hS => ?_)
        obtain ⟨hv, hXI⟩ := hpost
        have hE : setPixelF A 0 0 0 4 = ((-2), A) := (by unfold setPixelF; rw [if_neg (by omega), if_pos (by omega)])
        have hv : v = .int (zI (-2)) := by rw [hE] at hv; exact hv
        have hXI : XI G cs a a A H := by rw [hE] at hXI; exact hXI
        subst hv
        clear hE
        refine z_bipush (n := -2) hx hb dL_errors_59 (by decide) ?_
        refine z_icmp_ne (tgt := 163) hx hb dL_errors_61 (by decide) (by omega) (by omega) (fun c104 => ?_) (fun c104 => ?_)
        · skip
          exfalso; omega
        · skip
          refine lv_aload_n hx hb dL_errors_64 rfl (lv_at hl 2 rfl) ?_
          refine z_iconst (n := 4) hx hb dL_errors_65 ?_
          refine z_iconst (n := 1) hx hb dL_errors_66 ?_
          refine z_iconst (n := 0) hx hb dL_errors_67 ?_
          refine z_w (zrV (As := [.int (zI 4), .int (zI 1), .int (zI 0)]) (rest := []) ⟨hx, hb, hml, hown, hts⟩ (k_setColor l G cs a A 4 1 0 ia hA (by omega) (by omega) (by omega)) gL_errors_X6_setColor rfl qX6_setColor rfl rfl ⟨Nat.le_of_ble_eq_true rfl, Nat.le_of_ble_eq_true rfl⟩ hXI hK (va_recv hK.1 hXI.xo (ci := 6) (q0 := 0) rfl rfl) hl.1 rfl (Nat.le_of_ble_eq_true rfl) dL_errors_68 ⟨Nat.le_of_ble_eq_true rfl, Nat.le_of_ble_eq_true rfl⟩) hS (fun q h => h) (fun q h => h) (fun v H locs hpost hle hk hS => ?_)
          obtain ⟨hv, hXI⟩ := hpost
          have hE : setColorF A 4 1 0 = ((-1), A) := (by unfold setColorF; rw [if_pos (by omega)])
          have hv : v = .int (zI (-1)) := by rw [hE] at hv; exact hv
          have hXI : XI G cs a a A H := by rw [hE] at hXI; exact hXI
          subst hv
          clear hE
          refine z_iconst (n := -1) hx hb dL_errors_71 ?_
          refine z_icmp_ne (tgt := 163) hx hb dL_errors_72 (by decide) (by omega) (by omega) (fun c105 => ?_) (fun c105 => ?_)
          · skip
            exfalso; omega
          · skip
            refine lv_aload_n hx hb dL_errors_75 rfl (lv_at hl 2 rfl) ?_
            refine z_iconst (n := 0) hx hb dL_errors_76 ?_
            refine z_iconst (n := 0) hx hb dL_errors_77 ?_
            refine z_iconst (n := 0) hx hb dL_errors_78 ?_
            refine z_w (zrV (As := [.int (zI 0), .int (zI 0), .int (zI 0)]) (rest := []) ⟨hx, hb, hml, hown, hts⟩ (k_setColor l G cs a A 0 0 0 ia hA (by omega) (by omega) (by omega)) gL_errors_X6_setColor rfl qX6_setColor rfl rfl ⟨Nat.le_of_ble_eq_true rfl, Nat.le_of_ble_eq_true rfl⟩ hXI hK (va_recv hK.1 hXI.xo (ci := 6) (q0 := 0) rfl rfl) hl.1 rfl (Nat.le_of_ble_eq_true rfl) dL_errors_79 ⟨Nat.le_of_ble_eq_true rfl, Nat.le_of_ble_eq_true rfl⟩) hS (fun q h => h) (fun q h => h) (fun v H locs hpost hle hk hS => ?_)
            obtain ⟨hv, hXI⟩ := hpost
            have hE : setColorF A 0 0 0 = ((-2), A) := (by unfold setColorF; rw [if_neg (by omega), if_pos (by omega)])
            have hv : v = .int (zI (-2)) := by rw [hE] at hv; exact hv
            have hXI : XI G cs a a A H := by rw [hE] at hXI; exact hXI
            subst hv
            clear hE
            refine z_bipush (n := -2) hx hb dL_errors_82 (by decide) ?_
            refine z_icmp_ne (tgt := 163) hx hb dL_errors_84 (by decide) (by omega) (by omega) (fun c106 => ?_) (fun c106 => ?_)
            · skip
              exfalso; omega
            · skip
              refine lv_aload_n hx hb dL_errors_87 rfl (lv_at hl 2 rfl) ?_
              refine z_iconst (n := 0) hx hb dL_errors_88 ?_
              refine z_iconst (n := 1) hx hb dL_errors_89 ?_
              refine z_bipush (n := 64) hx hb dL_errors_90 (by decide) ?_
              refine z_w (zrV (As := [.int (zI 0), .int (zI 1), .int (zI 64)]) (rest := []) ⟨hx, hb, hml, hown, hts⟩ (k_setColor l G cs a A 0 1 64 ia hA (by omega) (by omega) (by omega)) gL_errors_X6_setColor rfl qX6_setColor rfl rfl ⟨Nat.le_of_ble_eq_true rfl, Nat.le_of_ble_eq_true rfl⟩ hXI hK (va_recv hK.1 hXI.xo (ci := 6) (q0 := 0) rfl rfl) hl.1 rfl (Nat.le_of_ble_eq_true rfl) dL_errors_92 ⟨Nat.le_of_ble_eq_true rfl, Nat.le_of_ble_eq_true rfl⟩) hS (fun q h => h) (fun q h => h) (fun v H locs hpost hle hk hS => ?_)
              obtain ⟨hv, hXI⟩ := hpost
              have hE : setColorF A 0 1 64 = ((-2), A) := (by unfold setColorF; rw [if_neg (by omega), if_pos (by omega)])
              have hv : v = .int (zI (-2)) := by rw [hE] at hv; exact hv
              have hXI : XI G cs a a A H := by rw [hE] at hXI; exact hXI
              subst hv
              clear hE
              refine z_bipush (n := -2) hx hb dL_errors_95 (by decide) ?_
              refine z_icmp_ne (tgt := 163) hx hb dL_errors_97 (by decide) (by omega) (by omega) (fun c107 => ?_) (fun c107 => ?_)
              · skip
                exfalso; omega
              · skip
                refine lv_aload_n hx hb dL_errors_100 rfl (lv_at hl 2 rfl) ?_
                refine lv_iload_n hx hb dL_errors_101 rfl (lv_at hl 1 rfl) ?_
                refine z_iconst (n := 0) hx hb dL_errors_102 ?_
                refine z_iconst (n := 0) hx hb dL_errors_103 ?_
                refine z_w (zrV (As := [.int (zI (A.1 0 0)), .int (zI 0), .int (zI 0)]) (rest := []) ⟨hx, hb, hml, hown, hts⟩ (k_addSprite l G cs a A (A.1 0 0) 0 0 ia hA (by omega) (by omega) (by omega)) gL_errors_X6_addSprite rfl qX6_addSprite rfl rfl ⟨Nat.le_of_ble_eq_true rfl, Nat.le_of_ble_eq_true rfl⟩ hXI hK (va_recv hK.1 hXI.xo (ci := 6) (q0 := 0) rfl rfl) hl.1 rfl (Nat.le_of_ble_eq_true rfl) dL_errors_104 ⟨Nat.le_of_ble_eq_true rfl, Nat.le_of_ble_eq_true rfl⟩) hS (fun q h => h) (fun q h => h) (fun v H locs hpost hle hk hS => ?_)
                obtain ⟨hv, hXI⟩ := hpost
                have hE : addSpriteF A (A.1 0 0) 0 0 = ((-1), A) := (by unfold addSpriteF; rw [if_pos (by omega)])
                have hv : v = .int (zI (-1)) := by rw [hE] at hv; exact hv
                have hXI : XI G cs a a A H := by rw [hE] at hXI; exact hXI
                subst hv
                clear hE
                refine z_iconst (n := -1) hx hb dL_errors_107 ?_
                refine z_icmp_ne (tgt := 163) hx hb dL_errors_108 (by decide) (by omega) (by omega) (fun c108 => ?_) (fun c108 => ?_)
                · skip
                  exfalso; omega
                · skip
                  refine lv_aload_n hx hb dL_errors_111 rfl (lv_at hl 2 rfl) ?_
                  refine z_iconst (n := 0) hx hb dL_errors_112 ?_
                  refine z_bipush (n := 32) hx hb dL_errors_113 (by decide) ?_
                  refine z_iconst (n := 0) hx hb dL_errors_115 ?_
                  refine z_w (zrV (As := [.int (zI 0), .int (zI 32), .int (zI 0)]) (rest := []) ⟨hx, hb, hml, hown, hts⟩ (k_addSprite l G cs a A 0 32 0 ia hA (by omega) (by omega) (by omega)) gL_errors_X6_addSprite rfl qX6_addSprite rfl rfl ⟨Nat.le_of_ble_eq_true rfl, Nat.le_of_ble_eq_true rfl⟩ hXI hK (va_recv hK.1 hXI.xo (ci := 6) (q0 := 0) rfl rfl) hl.1 rfl (Nat.le_of_ble_eq_true rfl) dL_errors_116 ⟨Nat.le_of_ble_eq_true rfl, Nat.le_of_ble_eq_true rfl⟩) hS (fun q h => h) (fun q h => h) (fun v H locs hpost hle hk hS => ?_)
                  obtain ⟨hv, hXI⟩ := hpost
                  have hE : addSpriteF A 0 32 0 = ((-2), A) := (by unfold addSpriteF; rw [if_neg (by omega), if_pos (by omega)])
                  have hv : v = .int (zI (-2)) := by rw [hE] at hv; exact hv
                  have hXI : XI G cs a a A H := by rw [hE] at hXI; exact hXI
                  subst hv
                  clear hE
                  refine z_bipush (n := -2) hx hb dL_errors_119 (by decide) ?_
                  refine z_icmp_ne (tgt := 163) hx hb dL_errors_121 (by decide) (by omega) (by omega) (fun c109 => ?_) (fun c109 => ?_)
                  · skip
                    exfalso; omega
                  · skip
                    refine lv_aload_n hx hb dL_errors_124 rfl (lv_at hl 2 rfl) ?_
                    refine z_iconst (n := 0) hx hb dL_errors_125 ?_
                    refine z_iconst (n := 0) hx hb dL_errors_126 ?_
                    refine z_bipush (n := -8) hx hb dL_errors_127 (by decide) ?_
                    refine z_w (zrV (As := [.int (zI 0), .int (zI 0), .int (zI (-8))]) (rest := []) ⟨hx, hb, hml, hown, hts⟩ (k_addSprite l G cs a A 0 0 (-8) ia hA (by omega) (by omega) (by omega)) gL_errors_X6_addSprite rfl qX6_addSprite rfl rfl ⟨Nat.le_of_ble_eq_true rfl, Nat.le_of_ble_eq_true rfl⟩ hXI hK (va_recv hK.1 hXI.xo (ci := 6) (q0 := 0) rfl rfl) hl.1 rfl (Nat.le_of_ble_eq_true rfl) dL_errors_129 ⟨Nat.le_of_ble_eq_true rfl, Nat.le_of_ble_eq_true rfl⟩) hS (fun q h => h) (fun q h => h) (fun v H locs hpost hle hk hS => ?_)
                    obtain ⟨hv, hXI⟩ := hpost
                    have hE : addSpriteF A 0 0 (-8) = ((-2), A) := (by unfold addSpriteF; rw [if_neg (by omega), if_pos (by omega)])
                    have hv : v = .int (zI (-2)) := by rw [hE] at hv; exact hv
                    have hXI : XI G cs a a A H := by rw [hE] at hXI; exact hXI
                    subst hv
                    clear hE
                    refine z_bipush (n := -2) hx hb dL_errors_132 (by decide) ?_
                    refine z_icmp_ne (tgt := 163) hx hb dL_errors_134 (by decide) (by omega) (by omega) (fun c110 => ?_) (fun c110 => ?_)
                    · skip
                      exfalso; omega
                    · skip
                      refine lv_aload_n hx hb dL_errors_137 rfl (lv_at hl 2 rfl) ?_
                      refine lv_iload_n hx hb dL_errors_138 rfl (lv_at hl 0 rfl) ?_
                      refine z_iconst (n := 0) hx hb dL_errors_139 ?_
                      refine z_iconst (n := 0) hx hb dL_errors_140 ?_
                      refine z_w (zrV (As := [.int (zI (A.1 0 1)), .int (zI 0), .int (zI 0)]) (rest := []) ⟨hx, hb, hml, hown, hts⟩ (k_move l G cs a A (A.1 0 1) 0 0 ia hA (by omega) (by omega) (by omega)) gL_errors_X6_move rfl qX6_move rfl rfl ⟨Nat.le_of_ble_eq_true rfl, Nat.le_of_ble_eq_true rfl⟩ hXI hK (va_recv hK.1 hXI.xo (ci := 6) (q0 := 0) rfl rfl) hl.1 rfl (Nat.le_of_ble_eq_true rfl) dL_errors_141 ⟨Nat.le_of_ble_eq_true rfl, Nat.le_of_ble_eq_true rfl⟩) hS (fun q h => h) (fun q h => h) (fun v H locs hpost hle hk hS => ?_)
                      obtain ⟨hv, hXI⟩ := hpost
                      have hE : moveF A (A.1 0 1) 0 0 = ((-1), A) := (by unfold moveF; rw [if_pos (by omega)])
                      have hv : v = .int (zI (-1)) := by rw [hE] at hv; exact hv
                      have hXI : XI G cs a a A H := by rw [hE] at hXI; exact hXI
                      subst hv
                      clear hE
                      refine z_iconst (n := -1) hx hb dL_errors_144 ?_
                      refine z_icmp_ne (tgt := 163) hx hb dL_errors_145 (by decide) (by omega) (by omega) (fun c111 => ?_) (fun c111 => ?_)
                      · skip
                        exfalso; omega
                      · skip
                        refine lv_aload_n hx hb dL_errors_148 rfl (lv_at hl 2 rfl) ?_
                        refine lv_iload_n hx hb dL_errors_149 rfl (lv_at hl 0 rfl) ?_
                        refine z_iconst (n := 0) hx hb dL_errors_150 ?_
                        refine z_iconst (n := 0) hx hb dL_errors_151 ?_
                        refine z_w (zrV (As := [.int (zI (A.1 0 1)), .int (zI 0), .int (zI 0)]) (rest := []) ⟨hx, hb, hml, hown, hts⟩ (k_set l G cs a A (A.1 0 1) 0 0 ia hA (by omega) (by omega) (by omega)) gL_errors_X6_set rfl qX6_set rfl rfl ⟨Nat.le_of_ble_eq_true rfl, Nat.le_of_ble_eq_true rfl⟩ hXI hK (va_recv hK.1 hXI.xo (ci := 6) (q0 := 0) rfl rfl) hl.1 rfl (Nat.le_of_ble_eq_true rfl) dL_errors_152 ⟨Nat.le_of_ble_eq_true rfl, Nat.le_of_ble_eq_true rfl⟩) hS (fun q h => h) (fun q h => h) (fun v H locs hpost hle hk hS => ?_)
                        obtain ⟨hv, hXI⟩ := hpost
                        have hE : setF A (A.1 0 1) 0 0 = ((-1), A) := (by unfold setF; rw [if_pos (by omega)])
                        have hv : v = .int (zI (-1)) := by rw [hE] at hv; exact hv
                        have hXI : XI G cs a a A H := by rw [hE] at hXI; exact hXI
                        subst hv
                        clear hE
                        refine z_iconst (n := -1) hx hb dL_errors_155 ?_
                        refine z_icmp_ne (tgt := 163) hx hb dL_errors_156 (by decide) (by omega) (by omega) (fun c112 => ?_) (fun c112 => ?_)
                        · skip
                          exfalso; omega
                        · skip
                          refine z_iconst (n := 1) hx hb dL_errors_159 ?_
                          refine lv_goto (tgt := 164) hx hb dL_errors_160 (by decide) ?_
                          refine lv_istore_n (lv' := [(3, .int (zI 1)), (2, .int (zI (A.1 0 1))), (1, .int (zI (A.1 0 0))), (0, .ref (a 0))]) hx hb dL_errors_164 rfl hl (by decide) rfl (fun ls hl => ?_)
                          refine lv_iload_n hx hb dL_errors_165 rfl (lv_at hl 0 rfl) ?_
                          refine z_if_eq (tgt := 358) hx hb dL_errors_166 (by decide) (by omega) (fun c113 => ?_) (fun c113 => ?_)
                          · skip
                            exfalso; omega
                          · skip
                            refine lv_aload_n hx hb dL_errors_169 rfl (lv_at hl 3 rfl) ?_
                            refine z_bipush (n := 32) hx hb dL_errors_170 (by decide) ?_
                            refine z_iconst (n := 0) hx hb dL_errors_172 ?_
                            refine z_iconst (n := 0) hx hb dL_errors_173 ?_
                            refine z_iconst (n := 0) hx hb dL_errors_174 ?_
                            refine z_w (zrV (As := [.int (zI 32), .int (zI 0), .int (zI 0), .int (zI 0)]) (rest := []) ⟨hx, hb, hml, hown, hts⟩ (k_swap l G cs a A 32 0 0 0 ia hA (by omega) (by omega) (by omega) (by omega)) gL_errors_X6_swap rfl qX6_swap rfl rfl ⟨Nat.le_of_ble_eq_true rfl, Nat.le_of_ble_eq_true rfl⟩ hXI hK (va_recv hK.1 hXI.xo (ci := 6) (q0 := 0) rfl rfl) hl.1 rfl (Nat.le_of_ble_eq_true rfl) dL_errors_175 ⟨Nat.le_of_ble_eq_true rfl, Nat.le_of_ble_eq_true rfl⟩) hS (fun q h => h) (fun q h => h) (fun v H locs hpost hle hk hS => ?_)
                            obtain ⟨hv, hXI⟩ := hpost
                            have hE : swapF A 32 0 0 0 = ((-1), A) := (by unfold swapF; rw [if_pos (by omega)])
                            have hv : v = .int (zI (-1)) := by rw [hE] at hv; exact hv
                            have hXI : XI G cs a a A H := by rw [hE] at hXI; exact hXI
                            subst hv
                            clear hE
                            refine z_iconst (n := -1) hx hb dL_errors_178 ?_
                            refine z_icmp_ne (tgt := 358) hx hb dL_errors_179 (by decide) (by omega) (by omega) (fun c114 => ?_) (fun c114 => ?_)
                            · skip
                              exfalso; omega
                            · skip
                              refine lv_aload_n hx hb dL_errors_182 rfl (lv_at hl 3 rfl) ?_
                              refine z_iconst (n := 0) hx hb dL_errors_183 ?_
                              refine z_iconst (n := 0) hx hb dL_errors_184 ?_
                              refine z_iconst (n := 4) hx hb dL_errors_185 ?_
                              refine z_iconst (n := 0) hx hb dL_errors_186 ?_
                              refine z_w (zrV (As := [.int (zI 0), .int (zI 0), .int (zI 4), .int (zI 0)]) (rest := []) ⟨hx, hb, hml, hown, hts⟩ (k_swap l G cs a A 0 0 4 0 ia hA (by omega) (by omega) (by omega) (by omega)) gL_errors_X6_swap rfl qX6_swap rfl rfl ⟨Nat.le_of_ble_eq_true rfl, Nat.le_of_ble_eq_true rfl⟩ hXI hK (va_recv hK.1 hXI.xo (ci := 6) (q0 := 0) rfl rfl) hl.1 rfl (Nat.le_of_ble_eq_true rfl) dL_errors_187 ⟨Nat.le_of_ble_eq_true rfl, Nat.le_of_ble_eq_true rfl⟩) hS (fun q h => h) (fun q h => h) (fun v H locs hpost hle hk hS => ?_)
                              obtain ⟨hv, hXI⟩ := hpost
                              have hE : swapF A 0 0 4 0 = ((-1), A) := (by unfold swapF; rw [if_pos (by omega)])
                              have hv : v = .int (zI (-1)) := by rw [hE] at hv; exact hv
                              have hXI : XI G cs a a A H := by rw [hE] at hXI; exact hXI
                              subst hv
                              clear hE
                              refine z_iconst (n := -1) hx hb dL_errors_190 ?_
                              refine z_icmp_ne (tgt := 358) hx hb dL_errors_191 (by decide) (by omega) (by omega) (fun c115 => ?_) (fun c115 => ?_)
                              · skip
                                exfalso; omega
                              · skip
                                refine lv_aload_n hx hb dL_errors_194 rfl (lv_at hl 3 rfl) ?_
                                refine z_iconst (n := 5) hx hb dL_errors_195 ?_
                                refine z_iconst (n := 4) hx hb dL_errors_196 ?_
                                refine z_iconst (n := 0) hx hb dL_errors_197 ?_
                                refine z_iconst (n := 1) hx hb dL_errors_198 ?_
                                refine z_w (zrV (As := [.int (zI 5), .int (zI 4), .int (zI 0), .int (zI 1)]) (rest := []) ⟨hx, hb, hml, hown, hts⟩ (k_swap l G cs a A 5 4 0 1 ia hA (by omega) (by omega) (by omega) (by omega)) gL_errors_X6_swap rfl qX6_swap rfl rfl ⟨Nat.le_of_ble_eq_true rfl, Nat.le_of_ble_eq_true rfl⟩ hXI hK (va_recv hK.1 hXI.xo (ci := 6) (q0 := 0) rfl rfl) hl.1 rfl (Nat.le_of_ble_eq_true rfl) dL_errors_199 ⟨Nat.le_of_ble_eq_true rfl, Nat.le_of_ble_eq_true rfl⟩) hS (fun q h => h) (fun q h => h) (fun v H locs hpost hle hk hS => ?_)
                                obtain ⟨hv, hXI⟩ := hpost
                                have hE : swapF A 5 4 0 1 = ((-2), A) := (by unfold swapF; rw [if_neg (by omega), if_pos (by omega)])
                                have hv : v = .int (zI (-2)) := by rw [hE] at hv; exact hv
                                have hXI : XI G cs a a A H := by rw [hE] at hXI; exact hXI
                                subst hv
                                clear hE
                                refine z_bipush (n := -2) hx hb dL_errors_202 (by decide) ?_
                                refine z_icmp_ne (tgt := 358) hx hb dL_errors_204 (by decide) (by omega) (by omega) (fun c116 => ?_) (fun c116 => ?_)
                                · skip
                                  exfalso; omega
                                · skip
                                  refine lv_aload_n hx hb dL_errors_207 rfl (lv_at hl 3 rfl) ?_
                                  refine z_iconst (n := 0) hx hb dL_errors_208 ?_
                                  refine z_w (zrV (As := [.int (zI 0)]) (rest := []) ⟨hx, hb, hml, hown, hts⟩ (k_setLimit l G cs a A 0 ia hA (by omega)) gL_errors_X6_setLimit rfl qX6_setLimit rfl rfl ⟨Nat.le_of_ble_eq_true rfl, Nat.le_of_ble_eq_true rfl⟩ hXI hK (va_recv hK.1 hXI.xo (ci := 6) (q0 := 0) rfl rfl) hl.1 rfl (Nat.le_of_ble_eq_true rfl) dL_errors_209 ⟨Nat.le_of_ble_eq_true rfl, Nat.le_of_ble_eq_true rfl⟩) hS (fun q h => h) (fun q h => h) (fun v H locs hpost hle hk hS => ?_)
                                  obtain ⟨hv, hXI⟩ := hpost
                                  have hE : setLimitF A 0 = ((-2), A) := (by unfold setLimitF; rw [if_pos (by omega)])
                                  have hv : v = .int (zI (-2)) := by rw [hE] at hv; exact hv
                                  have hXI : XI G cs a a A H := by rw [hE] at hXI; exact hXI
                                  subst hv
                                  clear hE
                                  refine z_bipush (n := -2) hx hb dL_errors_212 (by decide) ?_
                                  refine z_icmp_ne (tgt := 358) hx hb dL_errors_214 (by decide) (by omega) (by omega) (fun c117 => ?_) (fun c117 => ?_)
                                  · skip
                                    exfalso; omega
                                  · skip
                                    refine lv_aload_n hx hb dL_errors_217 rfl (lv_at hl 3 rfl) ?_
                                    refine z_bipush (n := 21) hx hb dL_errors_218 (by decide) ?_
                                    refine z_w (zrV (As := [.int (zI 21)]) (rest := []) ⟨hx, hb, hml, hown, hts⟩ (k_setLimit l G cs a A 21 ia hA (by omega)) gL_errors_X6_setLimit rfl qX6_setLimit rfl rfl ⟨Nat.le_of_ble_eq_true rfl, Nat.le_of_ble_eq_true rfl⟩ hXI hK (va_recv hK.1 hXI.xo (ci := 6) (q0 := 0) rfl rfl) hl.1 rfl (Nat.le_of_ble_eq_true rfl) dL_errors_220 ⟨Nat.le_of_ble_eq_true rfl, Nat.le_of_ble_eq_true rfl⟩) hS (fun q h => h) (fun q h => h) (fun v H locs hpost hle hk hS => ?_)
                                    obtain ⟨hv, hXI⟩ := hpost
                                    have hE : setLimitF A 21 = ((-2), A) := (by unfold setLimitF; rw [if_pos (by omega)])
                                    have hv : v = .int (zI (-2)) := by rw [hE] at hv; exact hv
                                    have hXI : XI G cs a a A H := by rw [hE] at hXI; exact hXI
                                    subst hv
                                    clear hE
                                    refine z_bipush (n := -2) hx hb dL_errors_223 (by decide) ?_
                                    refine z_icmp_ne (tgt := 358) hx hb dL_errors_225 (by decide) (by omega) (by omega) (fun c118 => ?_) (fun c118 => ?_)
                                    · skip
                                      exfalso; omega
                                    · skip
                                      refine lv_aload_n hx hb dL_errors_228 rfl (lv_at hl 3 rfl) ?_
                                      refine z_bipush (n := 20) hx hb dL_errors_229 (by decide) ?_
                                      refine z_w (zrV (As := [.int (zI 20)]) (rest := []) ⟨hx, hb, hml, hown, hts⟩ (k_setStride l G cs a A 20 ia hA (by omega)) gL_errors_X6_setStride rfl qX6_setStride rfl rfl ⟨Nat.le_of_ble_eq_true rfl, Nat.le_of_ble_eq_true rfl⟩ hXI hK (va_recv hK.1 hXI.xo (ci := 6) (q0 := 0) rfl rfl) hl.1 rfl (Nat.le_of_ble_eq_true rfl) dL_errors_231 ⟨Nat.le_of_ble_eq_true rfl, Nat.le_of_ble_eq_true rfl⟩) hS (fun q h => h) (fun q h => h) (fun v H locs hpost hle hk hS => ?_)
                                      obtain ⟨hv, hXI⟩ := hpost
                                      have hE : setStrideF A 20 = ((-2), A) := (by unfold setStrideF; rw [if_pos (by omega)])
                                      have hv : v = .int (zI (-2)) := by rw [hE] at hv; exact hv
                                      have hXI : XI G cs a a A H := by rw [hE] at hXI; exact hXI
                                      subst hv
                                      clear hE
                                      refine z_bipush (n := -2) hx hb dL_errors_234 (by decide) ?_
                                      refine z_icmp_ne (tgt := 358) hx hb dL_errors_236 (by decide) (by omega) (by omega) (fun c119 => ?_) (fun c119 => ?_)
                                      · skip
                                        exfalso; omega
                                      · skip
                                        refine lv_aload_n hx hb dL_errors_239 rfl (lv_at hl 3 rfl) ?_
                                        refine z_iconst (n := 0) hx hb dL_errors_240 ?_
                                        refine z_w (zrV (As := [.int (zI 0)]) (rest := []) ⟨hx, hb, hml, hown, hts⟩ (k_next l G cs a A 0 ia hA (by omega)) gL_errors_X6_next rfl qX6_next rfl rfl ⟨Nat.le_of_ble_eq_true rfl, Nat.le_of_ble_eq_true rfl⟩ hXI hK (va_recv hK.1 hXI.xo (ci := 6) (q0 := 0) rfl rfl) hl.1 rfl (Nat.le_of_ble_eq_true rfl) dL_errors_241 ⟨Nat.le_of_ble_eq_true rfl, Nat.le_of_ble_eq_true rfl⟩) hS (fun q h => h) (fun q h => h) (fun v H locs hpost hle hk hS => ?_)
                                        obtain ⟨hv, hXI⟩ := hpost
                                        have hE : nextF A 0 = ((-2), A) := (by unfold nextF; rw [if_pos (by omega)])
                                        have hv : v = .int (zI (-2)) := by rw [hE] at hv; exact hv
                                        have hXI : XI G cs a a A H := by rw [hE] at hXI; exact hXI
                                        subst hv
                                        clear hE
                                        refine z_bipush (n := -2) hx hb dL_errors_244 (by decide) ?_
                                        refine z_icmp_ne (tgt := 358) hx hb dL_errors_246 (by decide) (by omega) (by omega) (fun c120 => ?_) (fun c120 => ?_)
                                        · skip
                                          exfalso; omega
                                        · skip
                                          refine lv_aload_n hx hb dL_errors_249 rfl (lv_at hl 3 rfl) ?_
                                          refine lv_ldc (v := (100001)) hx hb hown (hts (.constant RL 115 (100001)) (by decide +kernel)) dL_errors_250 ?_
                                          refine z_top (v' := .int (zI (100001))) rfl ?_
                                          refine z_w (zrV (As := [.int (zI (100001))]) (rest := []) ⟨hx, hb, hml, hown, hts⟩ (k_next l G cs a A (100001) ia hA (by omega)) gL_errors_X6_next rfl qX6_next rfl rfl ⟨Nat.le_of_ble_eq_true rfl, Nat.le_of_ble_eq_true rfl⟩ hXI hK (va_recv hK.1 hXI.xo (ci := 6) (q0 := 0) rfl rfl) hl.1 rfl (Nat.le_of_ble_eq_true rfl) dL_errors_252 ⟨Nat.le_of_ble_eq_true rfl, Nat.le_of_ble_eq_true rfl⟩) hS (fun q h => h) (fun q h => h) (fun v H locs hpost hle hk hS => ?_)
                                          obtain ⟨hv, hXI⟩ := hpost
                                          have hE : nextF A (100001) = ((-2), A) := (by unfold nextF; rw [if_pos (by omega)])
                                          have hv : v = .int (zI (-2)) := by rw [hE] at hv; exact hv
                                          have hXI : XI G cs a a A H := by rw [hE] at hXI; exact hXI
                                          subst hv
                                          clear hE
                                          refine z_bipush (n := -2) hx hb dL_errors_255 (by decide) ?_
                                          refine z_icmp_ne (tgt := 358) hx hb dL_errors_257 (by decide) (by omega) (by omega) (fun c121 => ?_) (fun c121 => ?_)
                                          · skip
                                            exfalso; omega
                                          · skip
                                            refine lv_aload_n hx hb dL_errors_260 rfl (lv_at hl 3 rfl) ?_
                                            refine lv_iload_n hx hb dL_errors_261 rfl (lv_at hl 2 rfl) ?_
                                            refine z_iconst (n := 0) hx hb dL_errors_262 ?_
                                            refine z_iconst (n := 0) hx hb dL_errors_263 ?_
                                            refine z_w (zrV (As := [.int (zI (A.1 0 0)), .int (zI 0), .int (zI 0)]) (rest := []) ⟨hx, hb, hml, hown, hts⟩ (k_pixel l G cs a A (A.1 0 0) 0 0 ia hA (by omega) (by omega) (by omega)) gL_errors_X6_pixel rfl qX6_pixel rfl rfl ⟨Nat.le_of_ble_eq_true rfl, Nat.le_of_ble_eq_true rfl⟩ hXI hK (va_recv hK.1 hXI.xo (ci := 6) (q0 := 0) rfl rfl) hl.1 rfl (Nat.le_of_ble_eq_true rfl) dL_errors_264 ⟨Nat.le_of_ble_eq_true rfl, Nat.le_of_ble_eq_true rfl⟩) hS (fun q h => h) (fun q h => h) (fun v H locs hpost hle hk hS => ?_)
                                            obtain ⟨rfl, hXI⟩ := hpost
                                            refine z_topi (b := (-1)) (px_no1 (by omega)) ?_
                                            refine z_iconst (n := -1) hx hb dL_errors_267 ?_
                                            refine z_icmp_ne (tgt := 358) hx hb dL_errors_268 (by decide) (by omega) (by omega) (fun c122 => ?_) (fun c122 => ?_)
                                            · skip
                                              exfalso; omega
                                            · skip
                                              refine lv_aload_n hx hb dL_errors_271 rfl (lv_at hl 3 rfl) ?_
                                              refine z_iconst (n := 0) hx hb dL_errors_272 ?_
                                              refine z_bipush (n := 8) hx hb dL_errors_273 (by decide) ?_
                                              refine z_iconst (n := 0) hx hb dL_errors_275 ?_
                                              refine z_w (zrV (As := [.int (zI 0), .int (zI 8), .int (zI 0)]) (rest := []) ⟨hx, hb, hml, hown, hts⟩ (k_pixel l G cs a A 0 8 0 ia hA (by omega) (by omega) (by omega)) gL_errors_X6_pixel rfl qX6_pixel rfl rfl ⟨Nat.le_of_ble_eq_true rfl, Nat.le_of_ble_eq_true rfl⟩ hXI hK (va_recv hK.1 hXI.xo (ci := 6) (q0 := 0) rfl rfl) hl.1 rfl (Nat.le_of_ble_eq_true rfl) dL_errors_276 ⟨Nat.le_of_ble_eq_true rfl, Nat.le_of_ble_eq_true rfl⟩) hS (fun q h => h) (fun q h => h) (fun v H locs hpost hle hk hS => ?_)
                                              obtain ⟨rfl, hXI⟩ := hpost
                                              refine z_topi (b := (-2)) (px_no2 (by omega) (by omega)) ?_
                                              refine z_bipush (n := -2) hx hb dL_errors_279 (by decide) ?_
                                              refine z_icmp_ne (tgt := 358) hx hb dL_errors_281 (by decide) (by omega) (by omega) (fun c123 => ?_) (fun c123 => ?_)
                                              · skip
                                                exfalso; omega
                                              · skip
                                                refine lv_aload_n hx hb dL_errors_284 rfl (lv_at hl 3 rfl) ?_
                                                refine z_iconst (n := 0) hx hb dL_errors_285 ?_
                                                refine lv_iload_n hx hb dL_errors_286 rfl (lv_at hl 2 rfl) ?_
                                                refine z_w (zrV (As := [.int (zI 0), .int (zI (A.1 0 0))]) (rest := []) ⟨hx, hb, hml, hown, hts⟩ (k_alike l G cs a A 0 (A.1 0 0) ia hA (by omega) (by omega)) gL_errors_X6_alike rfl qX6_alike rfl rfl ⟨Nat.le_of_ble_eq_true rfl, Nat.le_of_ble_eq_true rfl⟩ hXI hK (va_recv hK.1 hXI.xo (ci := 6) (q0 := 0) rfl rfl) hl.1 rfl (Nat.le_of_ble_eq_true rfl) dL_errors_287 ⟨Nat.le_of_ble_eq_true rfl, Nat.le_of_ble_eq_true rfl⟩) hS (fun q h => h) (fun q h => h) (fun v H locs hpost hle hk hS => ?_)
                                                obtain ⟨rfl, hXI⟩ := hpost
                                                refine z_topi (b := (-1)) (al_no (by omega)) ?_
                                                refine z_iconst (n := -1) hx hb dL_errors_290 ?_
                                                refine z_icmp_ne (tgt := 358) hx hb dL_errors_291 (by decide) (by omega) (by omega) (fun c124 => ?_) (fun c124 => ?_)
                                                · skip
                                                  exfalso; omega
                                                · skip
                                                  refine lv_aload_n hx hb dL_errors_294 rfl (lv_at hl 3 rfl) ?_
                                                  refine z_iconst (n := 0) hx hb dL_errors_295 ?_
                                                  refine lv_iload_n hx hb dL_errors_296 rfl (lv_at hl 1 rfl) ?_
                                                  refine z_w (zrV (As := [.int (zI 0), .int (zI (A.1 0 1))]) (rest := []) ⟨hx, hb, hml, hown, hts⟩ (k_meet l G cs a A 0 (A.1 0 1) ia hA (by omega) (by omega)) gL_errors_X6_meet rfl qX6_meet rfl rfl ⟨Nat.le_of_ble_eq_true rfl, Nat.le_of_ble_eq_true rfl⟩ hXI hK (va_recv hK.1 hXI.xo (ci := 6) (q0 := 0) rfl rfl) hl.1 rfl (Nat.le_of_ble_eq_true rfl) dL_errors_297 ⟨Nat.le_of_ble_eq_true rfl, Nat.le_of_ble_eq_true rfl⟩) hS (fun q h => h) (fun q h => h) (fun v H locs hpost hle hk hS => ?_)
                                                  obtain ⟨rfl, hXI⟩ := hpost
                                                  refine z_topi (b := (-1)) (mt_no (by omega)) ?_
                                                  refine z_iconst (n := -1) hx hb dL_errors_300 ?_
                                                  refine z_icmp_ne (tgt := 358) hx hb dL_errors_301 (by decide) (by omega) (by omega) (fun c125 => ?_) (fun c125 => ?_)
                                                  · skip
                                                    exfalso; omega
                                                  · skip
                                                    refine lv_aload_n hx hb dL_errors_304 rfl (lv_at hl 3 rfl) ?_
                                                    refine z_bipush (n := 32) hx hb dL_errors_305 (by decide) ?_
                                                    refine z_iconst (n := 0) hx hb dL_errors_307 ?_
                                                    refine z_w (zrV (As := [.int (zI 32), .int (zI 0)]) (rest := []) ⟨hx, hb, hml, hown, hts⟩ (k_line l G cs a A 32 0 ia hA (by omega) (by omega)) gL_errors_X6_line rfl qX6_line rfl rfl ⟨Nat.le_of_ble_eq_true rfl, Nat.le_of_ble_eq_true rfl⟩ hXI hK (va_recv hK.1 hXI.xo (ci := 6) (q0 := 0) rfl rfl) hl.1 rfl (Nat.le_of_ble_eq_true rfl) dL_errors_308 ⟨Nat.le_of_ble_eq_true rfl, Nat.le_of_ble_eq_true rfl⟩) hS (fun q h => h) (fun q h => h) (fun v H locs hpost hle hk hS => ?_)
                                                    obtain ⟨rfl, hXI⟩ := hpost
                                                    refine z_topi (b := (-1)) (ln_no (by omega)) ?_
                                                    refine z_iconst (n := -1) hx hb dL_errors_311 ?_
                                                    refine z_icmp_ne (tgt := 358) hx hb dL_errors_312 (by decide) (by omega) (by omega) (fun c126 => ?_) (fun c126 => ?_)
                                                    · skip
                                                      exfalso; omega
                                                    · skip
                                                      refine lv_aload_n hx hb dL_errors_315 rfl (lv_at hl 3 rfl) ?_
                                                      refine z_iconst (n := -1) hx hb dL_errors_316 ?_
                                                      refine z_iconst (n := 0) hx hb dL_errors_317 ?_
                                                      refine z_w (zrV (As := [.int (zI (-1)), .int (zI 0)]) (rest := []) ⟨hx, hb, hml, hown, hts⟩ (k_shown l G cs a A (-1) 0 ia hA (by omega) (by omega)) gL_errors_X6_shown rfl qX6_shown rfl rfl ⟨Nat.le_of_ble_eq_true rfl, Nat.le_of_ble_eq_true rfl⟩ hXI hK (va_recv hK.1 hXI.xo (ci := 6) (q0 := 0) rfl rfl) hl.1 rfl (Nat.le_of_ble_eq_true rfl) dL_errors_318 ⟨Nat.le_of_ble_eq_true rfl, Nat.le_of_ble_eq_true rfl⟩) hS (fun q h => h) (fun q h => h) (fun v H locs hpost hle hk hS => ?_)
                                                      obtain ⟨rfl, hXI⟩ := hpost
                                                      refine z_topi (b := (-1)) (shn_no (by omega)) ?_
                                                      refine z_iconst (n := -1) hx hb dL_errors_321 ?_
                                                      refine z_icmp_ne (tgt := 358) hx hb dL_errors_322 (by decide) (by omega) (by omega) (fun c127 => ?_) (fun c127 => ?_)
                                                      · skip
                                                        exfalso; omega
                                                      · skip
                                                        refine lv_aload_n hx hb dL_errors_325 rfl (lv_at hl 3 rfl) ?_
                                                        refine z_bipush (n := 32) hx hb dL_errors_326 (by decide) ?_
                                                        refine z_iconst (n := 0) hx hb dL_errors_328 ?_
                                                        refine z_w (zrV (As := [.int (zI 32), .int (zI 0)]) (rest := []) ⟨hx, hb, hml, hown, hts⟩ (k_shownIn l G cs a A 32 0 ia hA (by omega) (by omega)) gL_errors_X6_shownIn rfl qX6_shownIn rfl rfl ⟨Nat.le_of_ble_eq_true rfl, Nat.le_of_ble_eq_true rfl⟩ hXI hK (va_recv hK.1 hXI.xo (ci := 6) (q0 := 0) rfl rfl) hl.1 rfl (Nat.le_of_ble_eq_true rfl) dL_errors_329 ⟨Nat.le_of_ble_eq_true rfl, Nat.le_of_ble_eq_true rfl⟩) hS (fun q h => h) (fun q h => h) (fun v H locs hpost hle hk hS => ?_)
                                                        obtain ⟨rfl, hXI⟩ := hpost
                                                        refine z_topi (b := (-1)) (shI_no (by omega)) ?_
                                                        refine z_iconst (n := -1) hx hb dL_errors_332 ?_
                                                        refine z_icmp_ne (tgt := 358) hx hb dL_errors_333 (by decide) (by omega) (by omega) (fun c128 => ?_) (fun c128 => ?_)
                                                        · skip
                                                          exfalso; omega
                                                        · skip
                                                          refine lv_aload_n hx hb dL_errors_336 rfl (lv_at hl 3 rfl) ?_
                                                          refine z_iconst (n := 2) hx hb dL_errors_337 ?_
                                                          refine z_w (zrV (As := [.int (zI 2)]) (rest := []) ⟨hx, hb, hml, hown, hts⟩ (k_keep l G cs a A 2 ia hA (by omega)) gL_errors_X6_keep rfl qX6_keep rfl rfl ⟨Nat.le_of_ble_eq_true rfl, Nat.le_of_ble_eq_true rfl⟩ hXI hK (va_recv hK.1 hXI.xo (ci := 6) (q0 := 0) rfl rfl) hl.1 rfl (Nat.le_of_ble_eq_true rfl) dL_errors_338 ⟨Nat.le_of_ble_eq_true rfl, Nat.le_of_ble_eq_true rfl⟩) hS (fun q h => h) (fun q h => h) (fun v H locs hpost hle hk hS => ?_)
                                                          obtain ⟨rfl, hXI⟩ := hpost
                                                          refine z_iconst (n := -1) hx hb dL_errors_341 ?_
                                                          refine z_icmp_ne (tgt := 358) hx hb dL_errors_342 (by decide) (by omega) (by omega) (fun c129 => ?_) (fun c129 => ?_)
                                                          · skip
                                                            exfalso; omega
                                                          · skip
                                                            refine lv_aload_n hx hb dL_errors_345 rfl (lv_at hl 3 rfl) ?_
                                                            refine z_iconst (n := 2) hx hb dL_errors_346 ?_
                                                            refine z_w (zrV (As := [.int (zI 2)]) (rest := []) ⟨hx, hb, hml, hown, hts⟩ (k_restore l G cs a A 2 ia hA (by omega)) gL_errors_X6_restore rfl qX6_restore rfl rfl ⟨Nat.le_of_ble_eq_true rfl, Nat.le_of_ble_eq_true rfl⟩ hXI hK (va_recv hK.1 hXI.xo (ci := 6) (q0 := 0) rfl rfl) hl.1 rfl (Nat.le_of_ble_eq_true rfl) dL_errors_347 ⟨Nat.le_of_ble_eq_true rfl, Nat.le_of_ble_eq_true rfl⟩) hS (fun q h => h) (fun q h => h) (fun v H locs hpost hle hk hS => ?_)
                                                            obtain ⟨hv, hXI⟩ := hpost
                                                            have hE : restoreF A 2 = ((-1), A) := (by unfold restoreF; rw [if_pos (by omega)])
                                                            have hv : v = .int (zI (-1)) := by rw [hE] at hv; exact hv
                                                            have hXI : XI G cs a a A H := by rw [hE] at hXI; exact hXI
                                                            subst hv
                                                            clear hE
                                                            refine z_iconst (n := -1) hx hb dL_errors_350 ?_
                                                            refine z_icmp_ne (tgt := 358) hx hb dL_errors_351 (by decide) (by omega) (by omega) (fun c130 => ?_) (fun c130 => ?_)
                                                            · skip
                                                              exfalso; omega
                                                            · skip
                                                              refine z_iconst (n := 1) hx hb dL_errors_354 ?_
                                                              refine lv_goto (tgt := 359) hx hb dL_errors_355 (by decide) ?_
                                                              exact w_zret hx hb hr hlk dL_errors_359 (by omega) hS ⟨rfl, hXI⟩
