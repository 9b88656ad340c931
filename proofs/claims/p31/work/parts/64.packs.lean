set_option maxHeartbeats 4000000 in
set_option maxRecDepth 100000 in
theorem c_L_packs (l : Launch) (G : va_G) (cs : Nat → ClassId) (a : Nat → Nat) (A : AS) (rm : Int) (ia : Inj a 62) (hA : GA A) (hrm : rm = 0 ∨ rm = 1) : MW l yL_packs wsL_packs { frames := 7, cells := 0, slots := 0, locals := 166 } G cs [.ref (a 0), .int (zI rm)] (fun H => XI G cs a a A H) (fun vv H => vv = .int (zI 1) ∧ ∃ B : AS, GA B ∧ B.1 = A.1 ∧ XI G cs a a B H) (AX a 0 62) 0 0 := by
  refine m_intro (Pw := (fun H => XI G cs a a A H)) (cc := cL_packs) (maxL := 10) (ret := some .boolean) RL (by decide) rfl rfl (Nat.le_of_ble_eq_true rfl) ?_
  intro pP eE sS mM below meth cC hx hb hr hts hown hml hlk hnm hPre hK ls hl
  have hl : lv_has ls 10 [(0, .ref (a 0)), (1, .int (zI rm))] := hl
  have hXI := hPre
  have hS : va_S (AX a 0 62) sS.heap sS.heap [] := va_S.rf
  have hwf := hA.1.1
  obtain ⟨w0, w1, w2, w3, w4, wP, wC, wS, wX⟩ := id hwf
  refine lv_aload_n hx hb dL_packs_0 rfl (lv_at hl 0 rfl) ?_
  refine z_iconst (n := 0) hx hb dL_packs_1 ?_
  refine z_w (zrV (As := [.int (zI 0)]) (rest := []) ⟨hx, hb, hml, hown, hts⟩ (k_count l G cs a A 0 ia hA (by omega)) gL_packs_X6_count rfl qX6_count rfl rfl ⟨Nat.le_of_ble_eq_true rfl, Nat.le_of_ble_eq_true rfl⟩ hXI hK (va_recv hK.1 hXI.xo (ci := 6) (q0 := 0) rfl rfl) hl.1 rfl (Nat.le_of_ble_eq_true rfl) dL_packs_2 ⟨Nat.le_of_ble_eq_true rfl, Nat.le_of_ble_eq_true rfl⟩) hS (fun q h => h) (fun q h => h) (fun v H locs hpost hle hk hS => ?_)
  obtain ⟨rfl, hXI⟩ := hpost
  refine z_topi (b := A.1 0 0) ct_0 ?_
  refine lv_istore_n (lv' := [(2, .int (zI (A.1 0 0))), (0, .ref (a 0)), (1, .int (zI rm))]) hx hb dL_packs_5 rfl hl (by decide) rfl (fun ls hl => ?_)
  refine lv_aload_n hx hb dL_packs_6 rfl (lv_at hl 1 rfl) ?_
  refine z_bipush (n := 7) hx hb dL_packs_7 (by decide) ?_
  refine z_w (zrV (As := [.int (zI 7)]) (rest := []) ⟨hx, hb, hml, hown, hts⟩ (k_count l G cs a A 7 ia hA (by omega)) gL_packs_X6_count rfl qX6_count rfl rfl ⟨Nat.le_of_ble_eq_true rfl, Nat.le_of_ble_eq_true rfl⟩ hXI hK (va_recv hK.1 hXI.xo (ci := 6) (q0 := 0) rfl rfl) hl.1 rfl (Nat.le_of_ble_eq_true rfl) dL_packs_9 ⟨Nat.le_of_ble_eq_true rfl, Nat.le_of_ble_eq_true rfl⟩) hS (fun q h => h) (fun q h => h) (fun v H locs hpost hle hk hS => ?_)
  obtain ⟨rfl, hXI⟩ := hpost
  refine z_topi (b := cntI (fun z_ => !isUsed A.1 z_) (A.1 0 0)) ct_7 ?_
  refine lv_istore_n (lv' := [(3, .int (zI (cntI (fun z_ => !isUsed A.1 z_) (A.1 0 0)))), (2, .int (zI (A.1 0 0))), (0, .ref (a 0)), (1, .int (zI rm))]) hx hb dL_packs_12 rfl hl (by decide) rfl (fun ls hl => ?_)
  refine lv_aload_n hx hb dL_packs_13 rfl (lv_at hl 2 rfl) ?_
  refine z_w (zrSJ (As := [.ref (a 0)]) (rest := []) ⟨hx, hb, hml, hown, hts⟩ (c_L_print l G cs a A ia hA) gL_packs_L_print rfl qL_print rfl rfl ⟨Nat.le_of_ble_eq_true rfl, Nat.le_of_ble_eq_true rfl⟩ hXI hK hl.1 rfl (Nat.le_of_ble_eq_true rfl) dL_packs_14 ⟨Nat.le_of_ble_eq_true rfl, Nat.le_of_ble_eq_true rfl⟩) hS (fun q h => h) (fun q h => h) (fun v H locs hpost hle hk hS => ?_)
  obtain ⟨rfl, hXI⟩ := hpost
  refine lv_istore (lv' := [(4, .int (zI (prF A.1))), (3, .int (zI (cntI (fun z_ => !isUsed A.1 z_) (A.1 0 0)))), (2, .int (zI (A.1 0 0))), (0, .ref (a 0)), (1, .int (zI rm))]) hx hb dL_packs_17 hl (by decide) rfl (fun ls hl => ?_)
  refine z_iconst (n := 0) hx hb dL_packs_19 ?_
  refine lv_istore (lv' := [(5, .int (zI 0)), (4, .int (zI (prF A.1))), (3, .int (zI (cntI (fun z_ => !isUsed A.1 z_) (A.1 0 0)))), (2, .int (zI (A.1 0 0))), (0, .ref (a 0)), (1, .int (zI rm))]) hx hb dL_packs_20 hl (by decide) rfl (fun ls hl => ?_)
  refine z_iconst (n := 0) hx hb dL_packs_22 ?_
  refine lv_istore (lv' := [(6, .int (zI 0)), (5, .int (zI 0)), (4, .int (zI (prF A.1))), (3, .int (zI (cntI (fun z_ => !isUsed A.1 z_) (A.1 0 0)))), (2, .int (zI (A.1 0 0))), (0, .ref (a 0)), (1, .int (zI rm))]) hx hb dL_packs_23 hl (by decide) rfl (fun ls hl => ?_)
  -- loop 25
  refine z_loopH (nL := 10) (fun (q : Int) => [(0, .ref (a 0)), (1, .int (zI rm)), (2, .int (zI (A.1 0 0))), (3, .int (zI (cntI (fun z_ => !isUsed A.1 z_) (A.1 0 0)))), (4, .int (zI (prF A.1))), (5, .int (zI (cntI (likB A.1) q))), (6, .int (zI q))]) (fun (q : Int) (H : Heap) => (0 ≤ q ∧ q ≤ A.1 0 0) ∧ XI G cs a a A H) (fun (q : Int) => (A.1 0 0 - q).toNat) (0 : Int) ⟨(by omega), hXI⟩ hS (by show lv_has ls 10 [(0, .ref (a 0)), (1, .int (zI rm)), (2, .int (zI (A.1 0 0))), (3, .int (zI (cntI (fun z_ => !isUsed A.1 z_) (A.1 0 0)))), (4, .int (zI (prF A.1))), (5, .int (zI (cntI (likB A.1) (0 : Int)))), (6, .int (zI (0 : Int)))]; rw [cntI_0 (likB A.1)]; exact lv_sub hl [5, 6, 4, 3, 2, 1, 0] rfl) (fun q H locs hIH hS ih ls hl => ?_)
  obtain ⟨hI, hXI⟩ := hIH
  have hl : lv_has ls 10 [(0, .ref (a 0)), (1, .int (zI rm)), (2, .int (zI (A.1 0 0))), (3, .int (zI (cntI (fun z_ => !isUsed A.1 z_) (A.1 0 0)))), (4, .int (zI (prF A.1))), (5, .int (zI (cntI (likB A.1) q))), (6, .int (zI q))] := hl
  have ih1 := ih
  refine lv_iload hx hb dL_packs_25 (lv_at hl 6 rfl) ?_
  refine lv_iload_n hx hb dL_packs_27 rfl (lv_at hl 2 rfl) ?_
  refine z_icmp_ge (tgt := 94) hx hb dL_packs_28 (by decide) (by omega) (by omega) (fun c101 => ?_) (fun c101 => ?_)
  · skip
    have eq9 : q = A.1 0 0 := by omega
    subst eq9
    have hct := pk_counts hwf hrm
    have hs9 := cntI_r (stayF A.1 rm) w0.1
    have hi9 := cntI_r (fun z_ => !isUsed A.1 z_) w0.1
    have hk9 := cntI_r (likB A.1) w0.1
    refine lv_aload_n hx hb dL_packs_94 rfl (lv_at hl 0 rfl) ?_
    refine lv_iload_n hx hb dL_packs_95 rfl (lv_at hl 1 rfl) ?_
    by_cases hc : A.1 0 0 - cntI (stayF A.1 rm) (A.1 0 0) = 0
    · skip
      obtain ⟨hna, hus⟩ := all_stay hwf hrm hc
      refine z_w (zrV (As := [.int (zI rm)]) (rest := []) ⟨hx, hb, hml, hown, hts⟩ (k_pack l G cs a A rm ia hA hrm) gL_packs_X6_pack rfl qX6_pack rfl rfl ⟨Nat.le_of_ble_eq_true rfl, Nat.le_of_ble_eq_true rfl⟩ hXI hK (va_recv hK.1 hXI.xo (ci := 6) (q0 := 0) rfl rfl) hl.1 rfl (Nat.le_of_ble_eq_true rfl) dL_packs_96 ⟨Nat.le_of_ble_eq_true rfl, Nat.le_of_ble_eq_true rfl⟩) hS (fun q h => h) (fun q h => h) (fun v H locs hpost hle hk hS => ?_)
      obtain ⟨hv, hXI⟩ := hpost
      have hE : packF A rm = ((-5), A) := pack_no hc
      have hv : v = .int (zI (-5)) := by rw [hE] at hv; exact hv
      have hXI : XI G cs a a A H := by rw [hE] at hXI; exact hXI
      subst hv
      clear hE
      refine lv_istore (lv' := [(6, .int (zI (-5))), (0, .ref (a 0)), (1, .int (zI rm)), (2, .int (zI (A.1 0 0))), (3, .int (zI (cntI (fun z_ => !isUsed A.1 z_) (A.1 0 0)))), (4, .int (zI (prF A.1))), (5, .int (zI (cntI (likB A.1) (A.1 0 0))))]) hx hb dL_packs_99 hl (by decide) rfl (fun ls hl => ?_)
      refine lv_iload hx hb dL_packs_101 (lv_at hl 0 rfl) ?_
      refine z_bipush (n := -5) hx hb dL_packs_103 (by decide) ?_
      refine z_icmp_ne (tgt := 112) hx hb dL_packs_105 (by decide) (by omega) (by omega) (fun c102 => ?_) (fun c102 => ?_)
      · skip
        exfalso; omega
      · skip
        refine z_iconst (n := 0) hx hb dL_packs_108 ?_
        refine lv_goto (tgt := 114) hx hb dL_packs_109 (by decide) ?_
        refine lv_istore (lv' := [(7, .int (zI 0)), (6, .int (zI (-5))), (0, .ref (a 0)), (1, .int (zI rm)), (2, .int (zI (A.1 0 0))), (3, .int (zI (cntI (fun z_ => !isUsed A.1 z_) (A.1 0 0)))), (4, .int (zI (prF A.1))), (5, .int (zI (cntI (likB A.1) (A.1 0 0))))]) hx hb dL_packs_114 hl (by decide) rfl (fun ls hl => ?_)
        refine lv_aload_n hx hb dL_packs_116 rfl (lv_at hl 2 rfl) ?_
        refine z_iconst (n := 0) hx hb dL_packs_117 ?_
        refine z_w (zrV (As := [.int (zI 0)]) (rest := []) ⟨hx, hb, hml, hown, hts⟩ (k_count l G cs a A 0 ia hA (by omega)) gL_packs_X6_count rfl qX6_count rfl rfl ⟨Nat.le_of_ble_eq_true rfl, Nat.le_of_ble_eq_true rfl⟩ hXI hK (va_recv hK.1 hXI.xo (ci := 6) (q0 := 0) rfl rfl) hl.1 rfl (Nat.le_of_ble_eq_true rfl) dL_packs_118 ⟨Nat.le_of_ble_eq_true rfl, Nat.le_of_ble_eq_true rfl⟩) hS (fun q h => h) (fun q h => h) (fun v H locs hpost hle hk hS => ?_)
        obtain ⟨rfl, hXI⟩ := hpost
        refine z_topi (b := A.1 0 0) ct_0 ?_
        refine lv_iload_n hx hb dL_packs_121 rfl (lv_at hl 4 rfl) ?_
        refine lv_iload hx hb dL_packs_122 (lv_at hl 0 rfl) ?_
        refine z_isub hx hb dL_packs_124 ?_
        refine z_icmp_ne (tgt := 177) hx hb dL_packs_125 (by decide) (by omega) (by omega) (fun c103 => ?_) (fun c103 => ?_)
        · skip
          exfalso; omega
        · skip
          refine lv_aload_n hx hb dL_packs_128 rfl (lv_at hl 2 rfl) ?_
          refine z_w (zrSJ (As := [.ref (a 0)]) (rest := []) ⟨hx, hb, hml, hown, hts⟩ (c_L_print l G cs a A ia hA) gL_packs_L_print rfl qL_print rfl rfl ⟨Nat.le_of_ble_eq_true rfl, Nat.le_of_ble_eq_true rfl⟩ hXI hK hl.1 rfl (Nat.le_of_ble_eq_true rfl) dL_packs_129 ⟨Nat.le_of_ble_eq_true rfl, Nat.le_of_ble_eq_true rfl⟩) hS (fun q h => h) (fun q h => h) (fun v H locs hpost hle hk hS => ?_)
          obtain ⟨rfl, hXI⟩ := hpost
          refine z_topi (b := prF A.1) rfl ?_
          refine lv_iload hx hb dL_packs_132 (lv_at hl 6 rfl) ?_
          refine z_icmp_ne (tgt := 177) hx hb dL_packs_134 (by decide) (prF_r _) (prF_r _) (fun c104 => ?_) (fun c104 => ?_)
          · skip
            exfalso; omega
          · skip
            refine lv_iload_n hx hb dL_packs_137 rfl (lv_at hl 3 rfl) ?_
            refine z_if_ne (tgt := 148) hx hb dL_packs_138 (by decide) (by omega) (fun c105 => ?_) (fun c105 => ?_)
            · skip
              refine lv_iload hx hb dL_packs_148 (lv_at hl 0 rfl) ?_
              refine lv_iload hx hb dL_packs_150 (lv_at hl 7 rfl) ?_
              refine z_icmp_lt (tgt := 177) hx hb dL_packs_152 (by decide) (by omega) (by omega) (fun c106 => ?_) (fun c106 => ?_)
              · skip
                exfalso; omega
              · skip
                refine lv_iload hx hb dL_packs_155 (lv_at hl 0 rfl) ?_
                refine lv_iload hx hb dL_packs_157 (lv_at hl 7 rfl) ?_
                refine lv_iload_n hx hb dL_packs_159 rfl (lv_at hl 5 rfl) ?_
                refine z_iadd hx hb dL_packs_160 ?_
                refine z_icmp_gt (tgt := 177) hx hb dL_packs_161 (by decide) (by omega) (by omega) (fun c107 => ?_) (fun c107 => ?_)
                · skip
                  exfalso; omega
                · skip
                  refine lv_iload_n hx hb dL_packs_164 rfl (lv_at hl 3 rfl) ?_
                  refine z_if_eq (tgt := 179) hx hb dL_packs_165 (by decide) (by omega) (fun c108 => ?_) (fun c108 => ?_)
                  · skip
                    refine z_iconst (n := 0) hx hb dL_packs_179 ?_
                    refine lv_istore (lv' := [(8, .int (zI 0)), (7, .int (zI 0)), (6, .int (zI (-5))), (0, .ref (a 0)), (1, .int (zI rm)), (2, .int (zI (A.1 0 0))), (3, .int (zI (cntI (fun z_ => !isUsed A.1 z_) (A.1 0 0)))), (4, .int (zI (prF A.1))), (5, .int (zI (cntI (likB A.1) (A.1 0 0))))]) hx hb dL_packs_180 hl (by decide) rfl (fun ls hl => ?_)
                    -- loop 182
                    refine z_loopH (nL := 10) (fun (q : Int) => [(0, .ref (a 0)), (1, .int (zI rm)), (2, .int (zI (A.1 0 0))), (4, .int (zI (prF A.1))), (7, .int (zI 0)), (8, .int (zI q))]) (fun (q : Int) (H : Heap) => (0 ≤ q ∧ q ≤ 24) ∧ XI G cs a a A H) (fun (q : Int) => (24 - q).toNat) (0 : Int) ⟨(by omega), hXI⟩ hS (lv_sub hl [3, 4, 5, 7, 1, 0] rfl) (fun q H locs hIH hS ih ls hl => ?_)
                    obtain ⟨hI, hXI⟩ := hIH
                    have hl : lv_has ls 10 [(0, .ref (a 0)), (1, .int (zI rm)), (2, .int (zI (A.1 0 0))), (4, .int (zI (prF A.1))), (7, .int (zI 0)), (8, .int (zI q))] := hl
                    have ih2 := ih
                    refine lv_iload hx hb dL_packs_182 (lv_at hl 5 rfl) ?_
                    refine lv_aload_n hx hb dL_packs_184 rfl (lv_at hl 0 rfl) ?_
                    refine z_iconst (n := 0) hx hb dL_packs_185 ?_
                    have hw9 := hA.1.1.1
                    refine z_w (zrV (As := [.int (zI 0)]) (rest := [.int (zI q)]) ⟨hx, hb, hml, hown, hts⟩ (k_count l G cs a A 0 ia hA (by omega)) gL_packs_X6_count rfl qX6_count rfl rfl ⟨Nat.le_of_ble_eq_true rfl, Nat.le_of_ble_eq_true rfl⟩ hXI hK (va_recv hK.1 hXI.xo (ci := 6) (q0 := 0) rfl rfl) hl.1 rfl (Nat.le_of_ble_eq_true rfl) dL_packs_186 ⟨Nat.le_of_ble_eq_true rfl, Nat.le_of_ble_eq_true rfl⟩) hS (fun q h => h) (fun q h => h) (fun v H locs hpost hle hk hS => ?_)
                    obtain ⟨rfl, hXI⟩ := hpost
                    refine z_topi (b := A.1 0 0) ct_0 ?_
                    refine z_icmp_ge (tgt := 229) hx hb dL_packs_189 (by decide) (by omega) (by omega) (fun c109 => ?_) (fun c109 => ?_)
                    · skip
                      refine lv_aload_n hx hb dL_packs_229 rfl (lv_at hl 0 rfl) ?_
                      refine lv_iload_n hx hb dL_packs_230 rfl (lv_at hl 1 rfl) ?_
                      refine z_w (zrV (As := [.int (zI rm)]) (rest := []) ⟨hx, hb, hml, hown, hts⟩ (k_pack l G cs a A rm ia hA hrm) gL_packs_X6_pack rfl qX6_pack rfl rfl ⟨Nat.le_of_ble_eq_true rfl, Nat.le_of_ble_eq_true rfl⟩ hXI hK (va_recv hK.1 hXI.xo (ci := 6) (q0 := 0) rfl rfl) hl.1 rfl (Nat.le_of_ble_eq_true rfl) dL_packs_231 ⟨Nat.le_of_ble_eq_true rfl, Nat.le_of_ble_eq_true rfl⟩) hS (fun q h => h) (fun q h => h) (fun v H locs hpost hle hk hS => ?_)
                      obtain ⟨hv, hXI⟩ := hpost
                      have hE : packF A rm = ((-5), A) := pack_no hc
                      have hv : v = .int (zI (-5)) := by rw [hE] at hv; exact hv
                      have hXI : XI G cs a a A H := by rw [hE] at hXI; exact hXI
                      subst hv
                      clear hE
                      refine z_bipush (n := -5) hx hb dL_packs_234 (by decide) ?_
                      refine z_icmp_ne (tgt := 273) hx hb dL_packs_236 (by decide) (by omega) (by omega) (fun c110 => ?_) (fun c110 => ?_)
                      · skip
                        exfalso; omega
                      · skip
                        refine lv_iload hx hb dL_packs_239 (lv_at hl 4 rfl) ?_
                        refine z_if_eq (tgt := 269) hx hb dL_packs_241 (by decide) (by omega) (fun c111 => ?_) (fun c111 => ?_)
                        · skip
                          refine z_iconst (n := 1) hx hb dL_packs_269 ?_
                          refine lv_goto (tgt := 274) hx hb dL_packs_270 (by decide) ?_
                          exact w_zret hx hb hr hlk dL_packs_274 (by omega) hS ⟨rfl, A, hA, rfl, hXI⟩
                        · skip
                          exfalso; omega
                    · skip
                      refine z_iconst (n := 0) hx hb dL_packs_192 ?_
                      refine lv_istore (lv' := [(9, .int (zI 0)), (0, .ref (a 0)), (1, .int (zI rm)), (2, .int (zI (A.1 0 0))), (4, .int (zI (prF A.1))), (7, .int (zI 0)), (8, .int (zI q))]) hx hb dL_packs_193 hl (by decide) rfl (fun ls hl => ?_)
                      -- loop 195
                      have hqc := hI
                      refine z_loopH (nL := 10) (fun (p : Int) => [(0, .ref (a 0)), (1, .int (zI rm)), (2, .int (zI (A.1 0 0))), (4, .int (zI (prF A.1))), (7, .int (zI 0)), (8, .int (zI q)), (9, .int (zI p))]) (fun (p : Int) (H : Heap) => (0 ≤ p ∧ p ≤ q) ∧ XI G cs a a A H) (fun (p : Int) => (q - p).toNat) (0 : Int) ⟨(by omega), hXI⟩ hS (lv_sub hl [1, 2, 3, 4, 5, 6, 0] rfl) (fun p H locs hIH hS ih ls hl => ?_)
                      obtain ⟨hI, hXI⟩ := hIH
                      have hl : lv_has ls 10 [(0, .ref (a 0)), (1, .int (zI rm)), (2, .int (zI (A.1 0 0))), (4, .int (zI (prF A.1))), (7, .int (zI 0)), (8, .int (zI q)), (9, .int (zI p))] := hl
                      refine lv_iload hx hb dL_packs_195 (lv_at hl 6 rfl) ?_
                      refine lv_iload hx hb dL_packs_197 (lv_at hl 5 rfl) ?_
                      refine z_icmp_ge (tgt := 223) hx hb dL_packs_199 (by decide) (by omega) (by omega) (fun c112 => ?_) (fun c112 => ?_)
                      · skip
                        refine z_iinc (k := 5) (lv' := [(8, .int (zI (q + 1))), (0, .ref (a 0)), (1, .int (zI rm)), (2, .int (zI (A.1 0 0))), (4, .int (zI (prF A.1))), (7, .int (zI 0)), (9, .int (zI p))]) hx hb dL_packs_223 hl rfl (by decide) rfl (fun ls hl => ?_)
                        refine lv_goto (tgt := 182) hx hb dL_packs_226 (by decide) ?_
                        exact ih2 (q + 1) H locs ⟨(by omega), hXI⟩ hS (by omega) ls (lv_sub hl [1, 2, 3, 4, 5, 0] rfl)
                      · skip
                        refine lv_aload_n hx hb dL_packs_202 rfl (lv_at hl 0 rfl) ?_
                        refine lv_iload hx hb dL_packs_203 (lv_at hl 6 rfl) ?_
                        refine lv_iload hx hb dL_packs_205 (lv_at hl 5 rfl) ?_
                        refine z_w (zrV (As := [.int (zI p), .int (zI q)]) (rest := []) ⟨hx, hb, hml, hown, hts⟩ (k_alike l G cs a A p q ia hA (by omega) (by omega)) gL_packs_X6_alike rfl qX6_alike rfl rfl ⟨Nat.le_of_ble_eq_true rfl, Nat.le_of_ble_eq_true rfl⟩ hXI hK (va_recv hK.1 hXI.xo (ci := 6) (q0 := 0) rfl rfl) hl.1 rfl (Nat.le_of_ble_eq_true rfl) dL_packs_207 ⟨Nat.le_of_ble_eq_true rfl, Nat.le_of_ble_eq_true rfl⟩) hS (fun q h => h) (fun q h => h) (fun v H locs hpost hle hk hS => ?_)
                        obtain ⟨rfl, hXI⟩ := hpost
                        refine z_topi (b := (-5)) ((al_at (show 0 ≤ p ∧ p < A.1 0 0 by omega) (show 0 ≤ q ∧ q < A.1 0 0 by omega)).trans (hna p q (by omega) (by omega) (by omega))) ?_
                        refine z_bipush (n := -5) hx hb dL_packs_210 (by decide) ?_
                        refine z_icmp_eq (tgt := 217) hx hb dL_packs_212 (by decide) (by omega) (by omega) (fun c113 => ?_) (fun c113 => ?_)
                        · skip
                          refine z_iinc (k := 6) (lv' := [(9, .int (zI (p + 1))), (0, .ref (a 0)), (1, .int (zI rm)), (2, .int (zI (A.1 0 0))), (4, .int (zI (prF A.1))), (7, .int (zI 0)), (8, .int (zI q))]) hx hb dL_packs_217 hl rfl (by decide) rfl (fun ls hl => ?_)
                          refine lv_goto (tgt := 195) hx hb dL_packs_220 (by decide) ?_
                          exact ih (p + 1) H locs ⟨(by omega), hXI⟩ hS (by omega) ls (lv_sub hl [1, 2, 3, 4, 5, 6, 0] rfl)
                        · skip
                          exfalso; omega
                  · skip
                    refine lv_aload_n hx hb dL_packs_168 rfl (lv_at hl 2 rfl) ?_
                    refine z_bipush (n := 7) hx hb dL_packs_169 (by decide) ?_
                    refine z_w (zrV (As := [.int (zI 7)]) (rest := []) ⟨hx, hb, hml, hown, hts⟩ (k_count l G cs a A 7 ia hA (by omega)) gL_packs_X6_count rfl qX6_count rfl rfl ⟨Nat.le_of_ble_eq_true rfl, Nat.le_of_ble_eq_true rfl⟩ hXI hK (va_recv hK.1 hXI.xo (ci := 6) (q0 := 0) rfl rfl) hl.1 rfl (Nat.le_of_ble_eq_true rfl) dL_packs_171 ⟨Nat.le_of_ble_eq_true rfl, Nat.le_of_ble_eq_true rfl⟩) hS (fun q h => h) (fun q h => h) (fun v H locs hpost hle hk hS => ?_)
                    obtain ⟨rfl, hXI⟩ := hpost
                    refine z_topi (b := 0) (ct_7.trans (na_idle (hus (by omega)))) ?_
                    refine z_if_eq (tgt := 179) hx hb dL_packs_174 (by decide) (by omega) (fun c114 => ?_) (fun c114 => ?_)
                    · skip
                      refine z_iconst (n := 0) hx hb dL_packs_179 ?_
                      refine lv_istore (lv' := [(8, .int (zI 0)), (7, .int (zI 0)), (6, .int (zI (-5))), (0, .ref (a 0)), (1, .int (zI rm)), (2, .int (zI (A.1 0 0))), (3, .int (zI (cntI (fun z_ => !isUsed A.1 z_) (A.1 0 0)))), (4, .int (zI (prF A.1))), (5, .int (zI (cntI (likB A.1) (A.1 0 0))))]) hx hb dL_packs_180 hl (by decide) rfl (fun ls hl => ?_)
                      -- loop 182
                      refine z_loopH (nL := 10) (fun (q : Int) => [(0, .ref (a 0)), (1, .int (zI rm)), (2, .int (zI (A.1 0 0))), (4, .int (zI (prF A.1))), (7, .int (zI 0)), (8, .int (zI q))]) (fun (q : Int) (H : Heap) => (0 ≤ q ∧ q ≤ 24) ∧ XI G cs a a A H) (fun (q : Int) => (24 - q).toNat) (0 : Int) ⟨(by omega), hXI⟩ hS (lv_sub hl [3, 4, 5, 7, 1, 0] rfl) (fun q H locs hIH hS ih ls hl => ?_)
                      obtain ⟨hI, hXI⟩ := hIH
                      have hl : lv_has ls 10 [(0, .ref (a 0)), (1, .int (zI rm)), (2, .int (zI (A.1 0 0))), (4, .int (zI (prF A.1))), (7, .int (zI 0)), (8, .int (zI q))] := hl
                      have ih2 := ih
                      refine lv_iload hx hb dL_packs_182 (lv_at hl 5 rfl) ?_
                      refine lv_aload_n hx hb dL_packs_184 rfl (lv_at hl 0 rfl) ?_
                      refine z_iconst (n := 0) hx hb dL_packs_185 ?_
                      have hw9 := hA.1.1.1
                      refine z_w (zrV (As := [.int (zI 0)]) (rest := [.int (zI q)]) ⟨hx, hb, hml, hown, hts⟩ (k_count l G cs a A 0 ia hA (by omega)) gL_packs_X6_count rfl qX6_count rfl rfl ⟨Nat.le_of_ble_eq_true rfl, Nat.le_of_ble_eq_true rfl⟩ hXI hK (va_recv hK.1 hXI.xo (ci := 6) (q0 := 0) rfl rfl) hl.1 rfl (Nat.le_of_ble_eq_true rfl) dL_packs_186 ⟨Nat.le_of_ble_eq_true rfl, Nat.le_of_ble_eq_true rfl⟩) hS (fun q h => h) (fun q h => h) (fun v H locs hpost hle hk hS => ?_)
                      obtain ⟨rfl, hXI⟩ := hpost
                      refine z_topi (b := A.1 0 0) ct_0 ?_
                      refine z_icmp_ge (tgt := 229) hx hb dL_packs_189 (by decide) (by omega) (by omega) (fun c115 => ?_) (fun c115 => ?_)
                      · skip
                        refine lv_aload_n hx hb dL_packs_229 rfl (lv_at hl 0 rfl) ?_
                        refine lv_iload_n hx hb dL_packs_230 rfl (lv_at hl 1 rfl) ?_
                        refine z_w (zrV (As := [.int (zI rm)]) (rest := []) ⟨hx, hb, hml, hown, hts⟩ (k_pack l G cs a A rm ia hA hrm) gL_packs_X6_pack rfl qX6_pack rfl rfl ⟨Nat.le_of_ble_eq_true rfl, Nat.le_of_ble_eq_true rfl⟩ hXI hK (va_recv hK.1 hXI.xo (ci := 6) (q0 := 0) rfl rfl) hl.1 rfl (Nat.le_of_ble_eq_true rfl) dL_packs_231 ⟨Nat.le_of_ble_eq_true rfl, Nat.le_of_ble_eq_true rfl⟩) hS (fun q h => h) (fun q h => h) (fun v H locs hpost hle hk hS => ?_)
                        obtain ⟨hv, hXI⟩ := hpost
                        have hE : packF A rm = ((-5), A) := pack_no hc
                        have hv : v = .int (zI (-5)) := by rw [hE] at hv; exact hv
                        have hXI : XI G cs a a A H := by rw [hE] at hXI; exact hXI
                        subst hv
                        clear hE
                        refine z_bipush (n := -5) hx hb dL_packs_234 (by decide) ?_
                        refine z_icmp_ne (tgt := 273) hx hb dL_packs_236 (by decide) (by omega) (by omega) (fun c116 => ?_) (fun c116 => ?_)
                        · skip
                          exfalso; omega
                        · skip
                          refine lv_iload hx hb dL_packs_239 (lv_at hl 4 rfl) ?_
                          refine z_if_eq (tgt := 269) hx hb dL_packs_241 (by decide) (by omega) (fun c117 => ?_) (fun c117 => ?_)
                          · skip
                            refine z_iconst (n := 1) hx hb dL_packs_269 ?_
                            refine lv_goto (tgt := 274) hx hb dL_packs_270 (by decide) ?_
                            exact w_zret hx hb hr hlk dL_packs_274 (by omega) hS ⟨rfl, A, hA, rfl, hXI⟩
                          · skip
                            exfalso; omega
                      · skip
                        refine z_iconst (n := 0) hx hb dL_packs_192 ?_
                        refine lv_istore (lv' := [(9, .int (zI 0)), (0, .ref (a 0)), (1, .int (zI rm)), (2, .int (zI (A.1 0 0))), (4, .int (zI (prF A.1))), (7, .int (zI 0)), (8, .int (zI q))]) hx hb dL_packs_193 hl (by decide) rfl (fun ls hl => ?_)
                        -- loop 195
                        have hqc := hI
                        refine z_loopH (nL := 10) (fun (p : Int) => [(0, .ref (a 0)), (1, .int (zI rm)), (2, .int (zI (A.1 0 0))), (4, .int (zI (prF A.1))), (7, .int (zI 0)), (8, .int (zI q)), (9, .int (zI p))]) (fun (p : Int) (H : Heap) => (0 ≤ p ∧ p ≤ q) ∧ XI G cs a a A H) (fun (p : Int) => (q - p).toNat) (0 : Int) ⟨(by omega), hXI⟩ hS (lv_sub hl [1, 2, 3, 4, 5, 6, 0] rfl) (fun p H locs hIH hS ih ls hl => ?_)
                        obtain ⟨hI, hXI⟩ := hIH
                        have hl : lv_has ls 10 [(0, .ref (a 0)), (1, .int (zI rm)), (2, .int (zI (A.1 0 0))), (4, .int (zI (prF A.1))), (7, .int (zI 0)), (8, .int (zI q)), (9, .int (zI p))] := hl
                        refine lv_iload hx hb dL_packs_195 (lv_at hl 6 rfl) ?_
                        refine lv_iload hx hb dL_packs_197 (lv_at hl 5 rfl) ?_
                        refine z_icmp_ge (tgt := 223) hx hb dL_packs_199 (by decide) (by omega) (by omega) (fun c118 => ?_) (fun c118 => ?_)
                        · skip
                          refine z_iinc (k := 5) (lv' := [(8, .int (zI (q + 1))), (0, .ref (a 0)), (1, .int (zI rm)), (2, .int (zI (A.1 0 0))), (4, .int (zI (prF A.1))), (7, .int (zI 0)), (9, .int (zI p))]) hx hb dL_packs_223 hl rfl (by decide) rfl (fun ls hl => ?_)
                          refine lv_goto (tgt := 182) hx hb dL_packs_226 (by decide) ?_
                          exact ih2 (q + 1) H locs ⟨(by omega), hXI⟩ hS (by omega) ls (lv_sub hl [1, 2, 3, 4, 5, 0] rfl)
                        · skip
                          refine lv_aload_n hx hb dL_packs_202 rfl (lv_at hl 0 rfl) ?_
                          refine lv_iload hx hb dL_packs_203 (lv_at hl 6 rfl) ?_
                          refine lv_iload hx hb dL_packs_205 (lv_at hl 5 rfl) ?_
                          refine z_w (zrV (As := [.int (zI p), .int (zI q)]) (rest := []) ⟨hx, hb, hml, hown, hts⟩ (k_alike l G cs a A p q ia hA (by omega) (by omega)) gL_packs_X6_alike rfl qX6_alike rfl rfl ⟨Nat.le_of_ble_eq_true rfl, Nat.le_of_ble_eq_true rfl⟩ hXI hK (va_recv hK.1 hXI.xo (ci := 6) (q0 := 0) rfl rfl) hl.1 rfl (Nat.le_of_ble_eq_true rfl) dL_packs_207 ⟨Nat.le_of_ble_eq_true rfl, Nat.le_of_ble_eq_true rfl⟩) hS (fun q h => h) (fun q h => h) (fun v H locs hpost hle hk hS => ?_)
                          obtain ⟨rfl, hXI⟩ := hpost
                          refine z_topi (b := (-5)) ((al_at (show 0 ≤ p ∧ p < A.1 0 0 by omega) (show 0 ≤ q ∧ q < A.1 0 0 by omega)).trans (hna p q (by omega) (by omega) (by omega))) ?_
                          refine z_bipush (n := -5) hx hb dL_packs_210 (by decide) ?_
                          refine z_icmp_eq (tgt := 217) hx hb dL_packs_212 (by decide) (by omega) (by omega) (fun c119 => ?_) (fun c119 => ?_)
                          · skip
                            refine z_iinc (k := 6) (lv' := [(9, .int (zI (p + 1))), (0, .ref (a 0)), (1, .int (zI rm)), (2, .int (zI (A.1 0 0))), (4, .int (zI (prF A.1))), (7, .int (zI 0)), (8, .int (zI q))]) hx hb dL_packs_217 hl rfl (by decide) rfl (fun ls hl => ?_)
                            refine lv_goto (tgt := 195) hx hb dL_packs_220 (by decide) ?_
                            exact ih (p + 1) H locs ⟨(by omega), hXI⟩ hS (by omega) ls (lv_sub hl [1, 2, 3, 4, 5, 6, 0] rfl)
                          · skip
                            exfalso; omega
                    · skip
                      exfalso; omega
            · skip
              refine lv_iload hx hb dL_packs_141 (lv_at hl 0 rfl) ?_
              refine lv_iload hx hb dL_packs_143 (lv_at hl 7 rfl) ?_
              refine z_icmp_ne (tgt := 177) hx hb dL_packs_145 (by decide) (by omega) (by omega) (fun c120 => ?_) (fun c120 => ?_)
              · skip
                exfalso; have hr0 := hct.1 (by omega); omega
              · skip
                refine lv_iload hx hb dL_packs_148 (lv_at hl 0 rfl) ?_
                refine lv_iload hx hb dL_packs_150 (lv_at hl 7 rfl) ?_
                refine z_icmp_lt (tgt := 177) hx hb dL_packs_152 (by decide) (by omega) (by omega) (fun c121 => ?_) (fun c121 => ?_)
                · skip
                  exfalso; omega
                · skip
                  refine lv_iload hx hb dL_packs_155 (lv_at hl 0 rfl) ?_
                  refine lv_iload hx hb dL_packs_157 (lv_at hl 7 rfl) ?_
                  refine lv_iload_n hx hb dL_packs_159 rfl (lv_at hl 5 rfl) ?_
                  refine z_iadd hx hb dL_packs_160 ?_
                  refine z_icmp_gt (tgt := 177) hx hb dL_packs_161 (by decide) (by omega) (by omega) (fun c122 => ?_) (fun c122 => ?_)
                  · skip
                    exfalso; omega
                  · skip
                    refine lv_iload_n hx hb dL_packs_164 rfl (lv_at hl 3 rfl) ?_
                    refine z_if_eq (tgt := 179) hx hb dL_packs_165 (by decide) (by omega) (fun c123 => ?_) (fun c123 => ?_)
                    · skip
                      refine z_iconst (n := 0) hx hb dL_packs_179 ?_
                      refine lv_istore (lv' := [(8, .int (zI 0)), (7, .int (zI 0)), (6, .int (zI (-5))), (0, .ref (a 0)), (1, .int (zI rm)), (2, .int (zI (A.1 0 0))), (3, .int (zI (cntI (fun z_ => !isUsed A.1 z_) (A.1 0 0)))), (4, .int (zI (prF A.1))), (5, .int (zI (cntI (likB A.1) (A.1 0 0))))]) hx hb dL_packs_180 hl (by decide) rfl (fun ls hl => ?_)
                      -- loop 182
                      refine z_loopH (nL := 10) (fun (q : Int) => [(0, .ref (a 0)), (1, .int (zI rm)), (2, .int (zI (A.1 0 0))), (4, .int (zI (prF A.1))), (7, .int (zI 0)), (8, .int (zI q))]) (fun (q : Int) (H : Heap) => (0 ≤ q ∧ q ≤ 24) ∧ XI G cs a a A H) (fun (q : Int) => (24 - q).toNat) (0 : Int) ⟨(by omega), hXI⟩ hS (lv_sub hl [3, 4, 5, 7, 1, 0] rfl) (fun q H locs hIH hS ih ls hl => ?_)
                      obtain ⟨hI, hXI⟩ := hIH
                      have hl : lv_has ls 10 [(0, .ref (a 0)), (1, .int (zI rm)), (2, .int (zI (A.1 0 0))), (4, .int (zI (prF A.1))), (7, .int (zI 0)), (8, .int (zI q))] := hl
                      have ih2 := ih
                      refine lv_iload hx hb dL_packs_182 (lv_at hl 5 rfl) ?_
                      refine lv_aload_n hx hb dL_packs_184 rfl (lv_at hl 0 rfl) ?_
                      refine z_iconst (n := 0) hx hb dL_packs_185 ?_
                      have hw9 := hA.1.1.1
                      refine z_w (zrV (As := [.int (zI 0)]) (rest := [.int (zI q)]) ⟨hx, hb, hml, hown, hts⟩ (k_count l G cs a A 0 ia hA (by omega)) gL_packs_X6_count rfl qX6_count rfl rfl ⟨Nat.le_of_ble_eq_true rfl, Nat.le_of_ble_eq_true rfl⟩ hXI hK (va_recv hK.1 hXI.xo (ci := 6) (q0 := 0) rfl rfl) hl.1 rfl (Nat.le_of_ble_eq_true rfl) dL_packs_186 ⟨Nat.le_of_ble_eq_true rfl, Nat.le_of_ble_eq_true rfl⟩) hS (fun q h => h) (fun q h => h) (fun v H locs hpost hle hk hS => ?_)
                      obtain ⟨rfl, hXI⟩ := hpost
                      refine z_topi (b := A.1 0 0) ct_0 ?_
                      refine z_icmp_ge (tgt := 229) hx hb dL_packs_189 (by decide) (by omega) (by omega) (fun c124 => ?_) (fun c124 => ?_)
                      · skip
                        refine lv_aload_n hx hb dL_packs_229 rfl (lv_at hl 0 rfl) ?_
                        refine lv_iload_n hx hb dL_packs_230 rfl (lv_at hl 1 rfl) ?_
                        refine z_w (zrV (As := [.int (zI rm)]) (rest := []) ⟨hx, hb, hml, hown, hts⟩ (k_pack l G cs a A rm ia hA hrm) gL_packs_X6_pack rfl qX6_pack rfl rfl ⟨Nat.le_of_ble_eq_true rfl, Nat.le_of_ble_eq_true rfl⟩ hXI hK (va_recv hK.1 hXI.xo (ci := 6) (q0 := 0) rfl rfl) hl.1 rfl (Nat.le_of_ble_eq_true rfl) dL_packs_231 ⟨Nat.le_of_ble_eq_true rfl, Nat.le_of_ble_eq_true rfl⟩) hS (fun q h => h) (fun q h => h) (fun v H locs hpost hle hk hS => ?_)
                        obtain ⟨hv, hXI⟩ := hpost
                        have hE : packF A rm = ((-5), A) := pack_no hc
                        have hv : v = .int (zI (-5)) := by rw [hE] at hv; exact hv
                        have hXI : XI G cs a a A H := by rw [hE] at hXI; exact hXI
                        subst hv
                        clear hE
                        refine z_bipush (n := -5) hx hb dL_packs_234 (by decide) ?_
                        refine z_icmp_ne (tgt := 273) hx hb dL_packs_236 (by decide) (by omega) (by omega) (fun c125 => ?_) (fun c125 => ?_)
                        · skip
                          exfalso; omega
                        · skip
                          refine lv_iload hx hb dL_packs_239 (lv_at hl 4 rfl) ?_
                          refine z_if_eq (tgt := 269) hx hb dL_packs_241 (by decide) (by omega) (fun c126 => ?_) (fun c126 => ?_)
                          · skip
                            refine z_iconst (n := 1) hx hb dL_packs_269 ?_
                            refine lv_goto (tgt := 274) hx hb dL_packs_270 (by decide) ?_
                            exact w_zret hx hb hr hlk dL_packs_274 (by omega) hS ⟨rfl, A, hA, rfl, hXI⟩
                          · skip
                            exfalso; omega
                      · skip
                        refine z_iconst (n := 0) hx hb dL_packs_192 ?_
                        refine lv_istore (lv' := [(9, .int (zI 0)), (0, .ref (a 0)), (1, .int (zI rm)), (2, .int (zI (A.1 0 0))), (4, .int (zI (prF A.1))), (7, .int (zI 0)), (8, .int (zI q))]) hx hb dL_packs_193 hl (by decide) rfl (fun ls hl => ?_)
                        -- loop 195
                        have hqc := hI
                        refine z_loopH (nL := 10) (fun (p : Int) => [(0, .ref (a 0)), (1, .int (zI rm)), (2, .int (zI (A.1 0 0))), (4, .int (zI (prF A.1))), (7, .int (zI 0)), (8, .int (zI q)), (9, .int (zI p))]) (fun (p : Int) (H : Heap) => (0 ≤ p ∧ p ≤ q) ∧ XI G cs a a A H) (fun (p : Int) => (q - p).toNat) (0 : Int) ⟨(by omega), hXI⟩ hS (lv_sub hl [1, 2, 3, 4, 5, 6, 0] rfl) (fun p H locs hIH hS ih ls hl => ?_)
                        obtain ⟨hI, hXI⟩ := hIH
                        have hl : lv_has ls 10 [(0, .ref (a 0)), (1, .int (zI rm)), (2, .int (zI (A.1 0 0))), (4, .int (zI (prF A.1))), (7, .int (zI 0)), (8, .int (zI q)), (9, .int (zI p))] := hl
                        refine lv_iload hx hb dL_packs_195 (lv_at hl 6 rfl) ?_
                        refine lv_iload hx hb dL_packs_197 (lv_at hl 5 rfl) ?_
                        refine z_icmp_ge (tgt := 223) hx hb dL_packs_199 (by decide) (by omega) (by omega) (fun c127 => ?_) (fun c127 => ?_)
                        · skip
                          refine z_iinc (k := 5) (lv' := [(8, .int (zI (q + 1))), (0, .ref (a 0)), (1, .int (zI rm)), (2, .int (zI (A.1 0 0))), (4, .int (zI (prF A.1))), (7, .int (zI 0)), (9, .int (zI p))]) hx hb dL_packs_223 hl rfl (by decide) rfl (fun ls hl => ?_)
                          refine lv_goto (tgt := 182) hx hb dL_packs_226 (by decide) ?_
                          exact ih2 (q + 1) H locs ⟨(by omega), hXI⟩ hS (by omega) ls (lv_sub hl [1, 2, 3, 4, 5, 0] rfl)
                        · skip
                          refine lv_aload_n hx hb dL_packs_202 rfl (lv_at hl 0 rfl) ?_
                          refine lv_iload hx hb dL_packs_203 (lv_at hl 6 rfl) ?_
                          refine lv_iload hx hb dL_packs_205 (lv_at hl 5 rfl) ?_
                          refine z_w (zrV (As := [.int (zI p), .int (zI q)]) (rest := []) ⟨hx, hb, hml, hown, hts⟩ (k_alike l G cs a A p q ia hA (by omega) (by omega)) gL_packs_X6_alike rfl qX6_alike rfl rfl ⟨Nat.le_of_ble_eq_true rfl, Nat.le_of_ble_eq_true rfl⟩ hXI hK (va_recv hK.1 hXI.xo (ci := 6) (q0 := 0) rfl rfl) hl.1 rfl (Nat.le_of_ble_eq_true rfl) dL_packs_207 ⟨Nat.le_of_ble_eq_true rfl, Nat.le_of_ble_eq_true rfl⟩) hS (fun q h => h) (fun q h => h) (fun v H locs hpost hle hk hS => ?_)
                          obtain ⟨rfl, hXI⟩ := hpost
                          refine z_topi (b := (-5)) ((al_at (show 0 ≤ p ∧ p < A.1 0 0 by omega) (show 0 ≤ q ∧ q < A.1 0 0 by omega)).trans (hna p q (by omega) (by omega) (by omega))) ?_
                          refine z_bipush (n := -5) hx hb dL_packs_210 (by decide) ?_
                          refine z_icmp_eq (tgt := 217) hx hb dL_packs_212 (by decide) (by omega) (by omega) (fun c128 => ?_) (fun c128 => ?_)
                          · skip
                            refine z_iinc (k := 6) (lv' := [(9, .int (zI (p + 1))), (0, .ref (a 0)), (1, .int (zI rm)), (2, .int (zI (A.1 0 0))), (4, .int (zI (prF A.1))), (7, .int (zI 0)), (8, .int (zI q))]) hx hb dL_packs_217 hl rfl (by decide) rfl (fun ls hl => ?_)
                            refine lv_goto (tgt := 195) hx hb dL_packs_220 (by decide) ?_
                            exact ih (p + 1) H locs ⟨(by omega), hXI⟩ hS (by omega) ls (lv_sub hl [1, 2, 3, 4, 5, 6, 0] rfl)
                          · skip
                            exfalso; omega
                    · skip
                      refine lv_aload_n hx hb dL_packs_168 rfl (lv_at hl 2 rfl) ?_
                      refine z_bipush (n := 7) hx hb dL_packs_169 (by decide) ?_
                      refine z_w (zrV (As := [.int (zI 7)]) (rest := []) ⟨hx, hb, hml, hown, hts⟩ (k_count l G cs a A 7 ia hA (by omega)) gL_packs_X6_count rfl qX6_count rfl rfl ⟨Nat.le_of_ble_eq_true rfl, Nat.le_of_ble_eq_true rfl⟩ hXI hK (va_recv hK.1 hXI.xo (ci := 6) (q0 := 0) rfl rfl) hl.1 rfl (Nat.le_of_ble_eq_true rfl) dL_packs_171 ⟨Nat.le_of_ble_eq_true rfl, Nat.le_of_ble_eq_true rfl⟩) hS (fun q h => h) (fun q h => h) (fun v H locs hpost hle hk hS => ?_)
                      obtain ⟨rfl, hXI⟩ := hpost
                      refine z_topi (b := 0) (ct_7.trans (na_idle (hus (by omega)))) ?_
                      refine z_if_eq (tgt := 179) hx hb dL_packs_174 (by decide) (by omega) (fun c129 => ?_) (fun c129 => ?_)
                      · skip
                        refine z_iconst (n := 0) hx hb dL_packs_179 ?_
                        refine lv_istore (lv' := [(8, .int (zI 0)), (7, .int (zI 0)), (6, .int (zI (-5))), (0, .ref (a 0)), (1, .int (zI rm)), (2, .int (zI (A.1 0 0))), (3, .int (zI (cntI (fun z_ => !isUsed A.1 z_) (A.1 0 0)))), (4, .int (zI (prF A.1))), (5, .int (zI (cntI (likB A.1) (A.1 0 0))))]) hx hb dL_packs_180 hl (by decide) rfl (fun ls hl => ?_)
                        -- loop 182
                        refine z_loopH (nL := 10) (fun (q : Int) => [(0, .ref (a 0)), (1, .int (zI rm)), (2, .int (zI (A.1 0 0))), (4, .int (zI (prF A.1))), (7, .int (zI 0)), (8, .int (zI q))]) (fun (q : Int) (H : Heap) => (0 ≤ q ∧ q ≤ 24) ∧ XI G cs a a A H) (fun (q : Int) => (24 - q).toNat) (0 : Int) ⟨(by omega), hXI⟩ hS (lv_sub hl [3, 4, 5, 7, 1, 0] rfl) (fun q H locs hIH hS ih ls hl => ?_)
                        obtain ⟨hI, hXI⟩ := hIH
                        have hl : lv_has ls 10 [(0, .ref (a 0)), (1, .int (zI rm)), (2, .int (zI (A.1 0 0))), (4, .int (zI (prF A.1))), (7, .int (zI 0)), (8, .int (zI q))] := hl
                        have ih2 := ih
                        refine lv_iload hx hb dL_packs_182 (lv_at hl 5 rfl) ?_
                        refine lv_aload_n hx hb dL_packs_184 rfl (lv_at hl 0 rfl) ?_
                        refine z_iconst (n := 0) hx hb dL_packs_185 ?_
                        have hw9 := hA.1.1.1
                        refine z_w (zrV (As := [.int (zI 0)]) (rest := [.int (zI q)]) ⟨hx, hb, hml, hown, hts⟩ (k_count l G cs a A 0 ia hA (by omega)) gL_packs_X6_count rfl qX6_count rfl rfl ⟨Nat.le_of_ble_eq_true rfl, Nat.le_of_ble_eq_true rfl⟩ hXI hK (va_recv hK.1 hXI.xo (ci := 6) (q0 := 0) rfl rfl) hl.1 rfl (Nat.le_of_ble_eq_true rfl) dL_packs_186 ⟨Nat.le_of_ble_eq_true rfl, Nat.le_of_ble_eq_true rfl⟩) hS (fun q h => h) (fun q h => h) (fun v H locs hpost hle hk hS => ?_)
                        obtain ⟨rfl, hXI⟩ := hpost
                        refine z_topi (b := A.1 0 0) ct_0 ?_
                        refine z_icmp_ge (tgt := 229) hx hb dL_packs_189 (by decide) (by omega) (by omega) (fun c130 => ?_) (fun c130 => ?_)
                        · skip
                          refine lv_aload_n hx hb dL_packs_229 rfl (lv_at hl 0 rfl) ?_
                          refine lv_iload_n hx hb dL_packs_230 rfl (lv_at hl 1 rfl) ?_
                          refine z_w (zrV (As := [.int (zI rm)]) (rest := []) ⟨hx, hb, hml, hown, hts⟩ (k_pack l G cs a A rm ia hA hrm) gL_packs_X6_pack rfl qX6_pack rfl rfl ⟨Nat.le_of_ble_eq_true rfl, Nat.le_of_ble_eq_true rfl⟩ hXI hK (va_recv hK.1 hXI.xo (ci := 6) (q0 := 0) rfl rfl) hl.1 rfl (Nat.le_of_ble_eq_true rfl) dL_packs_231 ⟨Nat.le_of_ble_eq_true rfl, Nat.le_of_ble_eq_true rfl⟩) hS (fun q h => h) (fun q h => h) (fun v H locs hpost hle hk hS => ?_)
                          obtain ⟨hv, hXI⟩ := hpost
                          have hE : packF A rm = ((-5), A) := pack_no hc
                          have hv : v = .int (zI (-5)) := by rw [hE] at hv; exact hv
                          have hXI : XI G cs a a A H := by rw [hE] at hXI; exact hXI
                          subst hv
                          clear hE
                          refine z_bipush (n := -5) hx hb dL_packs_234 (by decide) ?_
                          refine z_icmp_ne (tgt := 273) hx hb dL_packs_236 (by decide) (by omega) (by omega) (fun c131 => ?_) (fun c131 => ?_)
                          · skip
                            exfalso; omega
                          · skip
                            refine lv_iload hx hb dL_packs_239 (lv_at hl 4 rfl) ?_
                            refine z_if_eq (tgt := 269) hx hb dL_packs_241 (by decide) (by omega) (fun c132 => ?_) (fun c132 => ?_)
                            · skip
                              refine z_iconst (n := 1) hx hb dL_packs_269 ?_
                              refine lv_goto (tgt := 274) hx hb dL_packs_270 (by decide) ?_
                              exact w_zret hx hb hr hlk dL_packs_274 (by omega) hS ⟨rfl, A, hA, rfl, hXI⟩
                            · skip
                              exfalso; omega
                        · skip
                          refine z_iconst (n := 0) hx hb dL_packs_192 ?_
                          refine lv_istore (lv' := [(9, .int (zI 0)), (0, .ref (a 0)), (1, .int (zI rm)), (2, .int (zI (A.1 0 0))), (4, .int (zI (prF A.1))), (7, .int (zI 0)), (8, .int (zI q))]) hx hb dL_packs_193 hl (by decide) rfl (fun ls hl => ?_)
                          -- loop 195
                          have hqc := hI
                          refine z_loopH (nL := 10) (fun (p : Int) => [(0, .ref (a 0)), (1, .int (zI rm)), (2, .int (zI (A.1 0 0))), (4, .int (zI (prF A.1))), (7, .int (zI 0)), (8, .int (zI q)), (9, .int (zI p))]) (fun (p : Int) (H : Heap) => (0 ≤ p ∧ p ≤ q) ∧ XI G cs a a A H) (fun (p : Int) => (q - p).toNat) (0 : Int) ⟨(by omega), hXI⟩ hS (lv_sub hl [1, 2, 3, 4, 5, 6, 0] rfl) (fun p H locs hIH hS ih ls hl => ?_)
                          obtain ⟨hI, hXI⟩ := hIH
                          have hl : lv_has ls 10 [(0, .ref (a 0)), (1, .int (zI rm)), (2, .int (zI (A.1 0 0))), (4, .int (zI (prF A.1))), (7, .int (zI 0)), (8, .int (zI q)), (9, .int (zI p))] := hl
                          refine lv_iload hx hb dL_packs_195 (lv_at hl 6 rfl) ?_
                          refine lv_iload hx hb dL_packs_197 (lv_at hl 5 rfl) ?_
                          refine z_icmp_ge (tgt := 223) hx hb dL_packs_199 (by decide) (by omega) (by omega) (fun c133 => ?_) (fun c133 => ?_)
                          · skip
                            refine z_iinc (k := 5) (lv' := [(8, .int (zI (q + 1))), (0, .ref (a 0)), (1, .int (zI rm)), (2, .int (zI (A.1 0 0))), (4, .int (zI (prF A.1))), (7, .int (zI 0)), (9, .int (zI p))]) hx hb dL_packs_223 hl rfl (by decide) rfl (fun ls hl => ?_)
                            refine lv_goto (tgt := 182) hx hb dL_packs_226 (by decide) ?_
                            exact ih2 (q + 1) H locs ⟨(by omega), hXI⟩ hS (by omega) ls (lv_sub hl [1, 2, 3, 4, 5, 0] rfl)
                          · skip
                            refine lv_aload_n hx hb dL_packs_202 rfl (lv_at hl 0 rfl) ?_
                            refine lv_iload hx hb dL_packs_203 (lv_at hl 6 rfl) ?_
                            refine lv_iload hx hb dL_packs_205 (lv_at hl 5 rfl) ?_
                            refine z_w (zrV (As := [.int (zI p), .int (zI q)]) (rest := []) ⟨hx, hb, hml, hown, hts⟩ (k_alike l G cs a A p q ia hA (by omega) (by omega)) gL_packs_X6_alike rfl qX6_alike rfl rfl ⟨Nat.le_of_ble_eq_true rfl, Nat.le_of_ble_eq_true rfl⟩ hXI hK (va_recv hK.1 hXI.xo (ci := 6) (q0 := 0) rfl rfl) hl.1 rfl (Nat.le_of_ble_eq_true rfl) dL_packs_207 ⟨Nat.le_of_ble_eq_true rfl, Nat.le_of_ble_eq_true rfl⟩) hS (fun q h => h) (fun q h => h) (fun v H locs hpost hle hk hS => ?_)
                            obtain ⟨rfl, hXI⟩ := hpost
                            refine z_topi (b := (-5)) ((al_at (show 0 ≤ p ∧ p < A.1 0 0 by omega) (show 0 ≤ q ∧ q < A.1 0 0 by omega)).trans (hna p q (by omega) (by omega) (by omega))) ?_
                            refine z_bipush (n := -5) hx hb dL_packs_210 (by decide) ?_
                            refine z_icmp_eq (tgt := 217) hx hb dL_packs_212 (by decide) (by omega) (by omega) (fun c134 => ?_) (fun c134 => ?_)
                            · skip
                              refine z_iinc (k := 6) (lv' := [(9, .int (zI (p + 1))), (0, .ref (a 0)), (1, .int (zI rm)), (2, .int (zI (A.1 0 0))), (4, .int (zI (prF A.1))), (7, .int (zI 0)), (8, .int (zI q))]) hx hb dL_packs_217 hl rfl (by decide) rfl (fun ls hl => ?_)
                              refine lv_goto (tgt := 195) hx hb dL_packs_220 (by decide) ?_
                              exact ih (p + 1) H locs ⟨(by omega), hXI⟩ hS (by omega) ls (lv_sub hl [1, 2, 3, 4, 5, 6, 0] rfl)
                            · skip
                              exfalso; omega
                      · skip
                        exfalso; omega
    · skip
      obtain ⟨B, eB, hB, hB0, hBp, hna, hus, eB2, k0, C, eC, hk0, hC, hC1⟩ := pack_yes hA hrm hc
      refine z_w (zrV (As := [.int (zI rm)]) (rest := []) ⟨hx, hb, hml, hown, hts⟩ (k_pack l G cs a A rm ia hA hrm) gL_packs_X6_pack rfl qX6_pack rfl rfl ⟨Nat.le_of_ble_eq_true rfl, Nat.le_of_ble_eq_true rfl⟩ hXI hK (va_recv hK.1 hXI.xo (ci := 6) (q0 := 0) rfl rfl) hl.1 rfl (Nat.le_of_ble_eq_true rfl) dL_packs_96 ⟨Nat.le_of_ble_eq_true rfl, Nat.le_of_ble_eq_true rfl⟩) hS (fun q h => h) (fun q h => h) (fun v H locs hpost hle hk hS => ?_)
      obtain ⟨hv, hXI⟩ := hpost
      have hE : packF A rm = (A.1 0 0 - cntI (stayF A.1 rm) (A.1 0 0), B) := eB
      have hv : v = .int (zI (A.1 0 0 - cntI (stayF A.1 rm) (A.1 0 0))) := by rw [hE] at hv; exact hv
      have hXI : XI G cs a a B H := by rw [hE] at hXI; exact hXI
      subst hv
      clear hE
      refine lv_istore (lv' := [(6, .int (zI (A.1 0 0 - cntI (stayF A.1 rm) (A.1 0 0)))), (0, .ref (a 0)), (1, .int (zI rm)), (2, .int (zI (A.1 0 0))), (3, .int (zI (cntI (fun z_ => !isUsed A.1 z_) (A.1 0 0)))), (4, .int (zI (prF A.1))), (5, .int (zI (cntI (likB A.1) (A.1 0 0))))]) hx hb dL_packs_99 hl (by decide) rfl (fun ls hl => ?_)
      refine lv_iload hx hb dL_packs_101 (lv_at hl 0 rfl) ?_
      refine z_bipush (n := -5) hx hb dL_packs_103 (by decide) ?_
      refine z_icmp_ne (tgt := 112) hx hb dL_packs_105 (by decide) (by omega) (by omega) (fun c135 => ?_) (fun c135 => ?_)
      · skip
        refine lv_iload hx hb dL_packs_112 (lv_at hl 0 rfl) ?_
        refine lv_istore (lv' := [(7, .int (zI (A.1 0 0 - cntI (stayF A.1 rm) (A.1 0 0)))), (6, .int (zI (A.1 0 0 - cntI (stayF A.1 rm) (A.1 0 0)))), (0, .ref (a 0)), (1, .int (zI rm)), (2, .int (zI (A.1 0 0))), (3, .int (zI (cntI (fun z_ => !isUsed A.1 z_) (A.1 0 0)))), (4, .int (zI (prF A.1))), (5, .int (zI (cntI (likB A.1) (A.1 0 0))))]) hx hb dL_packs_114 hl (by decide) rfl (fun ls hl => ?_)
        refine lv_aload_n hx hb dL_packs_116 rfl (lv_at hl 2 rfl) ?_
        refine z_iconst (n := 0) hx hb dL_packs_117 ?_
        refine z_w (zrV (As := [.int (zI 0)]) (rest := []) ⟨hx, hb, hml, hown, hts⟩ (k_count l G cs a B 0 ia hB (by omega)) gL_packs_X6_count rfl qX6_count rfl rfl ⟨Nat.le_of_ble_eq_true rfl, Nat.le_of_ble_eq_true rfl⟩ hXI hK (va_recv hK.1 hXI.xo (ci := 6) (q0 := 0) rfl rfl) hl.1 rfl (Nat.le_of_ble_eq_true rfl) dL_packs_118 ⟨Nat.le_of_ble_eq_true rfl, Nat.le_of_ble_eq_true rfl⟩) hS (fun q h => h) (fun q h => h) (fun v H locs hpost hle hk hS => ?_)
        obtain ⟨rfl, hXI⟩ := hpost
        refine z_topi (b := cntI (stayF A.1 rm) (A.1 0 0)) (ct_0.trans hB0) ?_
        refine lv_iload_n hx hb dL_packs_121 rfl (lv_at hl 4 rfl) ?_
        refine lv_iload hx hb dL_packs_122 (lv_at hl 0 rfl) ?_
        refine z_isub hx hb dL_packs_124 ?_
        refine z_icmp_ne (tgt := 177) hx hb dL_packs_125 (by decide) (by omega) (by omega) (fun c136 => ?_) (fun c136 => ?_)
        · skip
          exfalso; omega
        · skip
          refine lv_aload_n hx hb dL_packs_128 rfl (lv_at hl 2 rfl) ?_
          refine z_w (zrSJ (As := [.ref (a 0)]) (rest := []) ⟨hx, hb, hml, hown, hts⟩ (c_L_print l G cs a B ia hB) gL_packs_L_print rfl qL_print rfl rfl ⟨Nat.le_of_ble_eq_true rfl, Nat.le_of_ble_eq_true rfl⟩ hXI hK hl.1 rfl (Nat.le_of_ble_eq_true rfl) dL_packs_129 ⟨Nat.le_of_ble_eq_true rfl, Nat.le_of_ble_eq_true rfl⟩) hS (fun q h => h) (fun q h => h) (fun v H locs hpost hle hk hS => ?_)
          obtain ⟨rfl, hXI⟩ := hpost
          refine z_topi (b := prF A.1) hBp ?_
          refine lv_iload hx hb dL_packs_132 (lv_at hl 6 rfl) ?_
          refine z_icmp_ne (tgt := 177) hx hb dL_packs_134 (by decide) (prF_r _) (prF_r _) (fun c137 => ?_) (fun c137 => ?_)
          · skip
            exfalso; omega
          · skip
            refine lv_iload_n hx hb dL_packs_137 rfl (lv_at hl 3 rfl) ?_
            refine z_if_ne (tgt := 148) hx hb dL_packs_138 (by decide) (by omega) (fun c138 => ?_) (fun c138 => ?_)
            · skip
              refine lv_iload hx hb dL_packs_148 (lv_at hl 0 rfl) ?_
              refine lv_iload hx hb dL_packs_150 (lv_at hl 7 rfl) ?_
              refine z_icmp_lt (tgt := 177) hx hb dL_packs_152 (by decide) (by omega) (by omega) (fun c139 => ?_) (fun c139 => ?_)
              · skip
                exfalso; omega
              · skip
                refine lv_iload hx hb dL_packs_155 (lv_at hl 0 rfl) ?_
                refine lv_iload hx hb dL_packs_157 (lv_at hl 7 rfl) ?_
                refine lv_iload_n hx hb dL_packs_159 rfl (lv_at hl 5 rfl) ?_
                refine z_iadd hx hb dL_packs_160 ?_
                refine z_icmp_gt (tgt := 177) hx hb dL_packs_161 (by decide) (by omega) (by omega) (fun c140 => ?_) (fun c140 => ?_)
                · skip
                  exfalso; omega
                · skip
                  refine lv_iload_n hx hb dL_packs_164 rfl (lv_at hl 3 rfl) ?_
                  refine z_if_eq (tgt := 179) hx hb dL_packs_165 (by decide) (by omega) (fun c141 => ?_) (fun c141 => ?_)
                  · skip
                    refine z_iconst (n := 0) hx hb dL_packs_179 ?_
                    refine lv_istore (lv' := [(8, .int (zI 0)), (7, .int (zI (A.1 0 0 - cntI (stayF A.1 rm) (A.1 0 0)))), (6, .int (zI (A.1 0 0 - cntI (stayF A.1 rm) (A.1 0 0)))), (0, .ref (a 0)), (1, .int (zI rm)), (2, .int (zI (A.1 0 0))), (3, .int (zI (cntI (fun z_ => !isUsed A.1 z_) (A.1 0 0)))), (4, .int (zI (prF A.1))), (5, .int (zI (cntI (likB A.1) (A.1 0 0))))]) hx hb dL_packs_180 hl (by decide) rfl (fun ls hl => ?_)
                    -- loop 182
                    refine z_loopH (nL := 10) (fun (q : Int) => [(0, .ref (a 0)), (1, .int (zI rm)), (2, .int (zI (A.1 0 0))), (4, .int (zI (prF A.1))), (7, .int (zI (A.1 0 0 - cntI (stayF A.1 rm) (A.1 0 0)))), (8, .int (zI q))]) (fun (q : Int) (H : Heap) => (0 ≤ q ∧ q ≤ 24) ∧ XI G cs a a B H) (fun (q : Int) => (24 - q).toNat) (0 : Int) ⟨(by omega), hXI⟩ hS (lv_sub hl [3, 4, 5, 7, 1, 0] rfl) (fun q H locs hIH hS ih ls hl => ?_)
                    obtain ⟨hI, hXI⟩ := hIH
                    have hl : lv_has ls 10 [(0, .ref (a 0)), (1, .int (zI rm)), (2, .int (zI (A.1 0 0))), (4, .int (zI (prF A.1))), (7, .int (zI (A.1 0 0 - cntI (stayF A.1 rm) (A.1 0 0)))), (8, .int (zI q))] := hl
                    have ih2 := ih
                    refine lv_iload hx hb dL_packs_182 (lv_at hl 5 rfl) ?_
                    refine lv_aload_n hx hb dL_packs_184 rfl (lv_at hl 0 rfl) ?_
                    refine z_iconst (n := 0) hx hb dL_packs_185 ?_
                    have hw9 := hB.1.1.1
                    refine z_w (zrV (As := [.int (zI 0)]) (rest := [.int (zI q)]) ⟨hx, hb, hml, hown, hts⟩ (k_count l G cs a B 0 ia hB (by omega)) gL_packs_X6_count rfl qX6_count rfl rfl ⟨Nat.le_of_ble_eq_true rfl, Nat.le_of_ble_eq_true rfl⟩ hXI hK (va_recv hK.1 hXI.xo (ci := 6) (q0 := 0) rfl rfl) hl.1 rfl (Nat.le_of_ble_eq_true rfl) dL_packs_186 ⟨Nat.le_of_ble_eq_true rfl, Nat.le_of_ble_eq_true rfl⟩) hS (fun q h => h) (fun q h => h) (fun v H locs hpost hle hk hS => ?_)
                    obtain ⟨rfl, hXI⟩ := hpost
                    refine z_topi (b := B.1 0 0) ct_0 ?_
                    refine z_icmp_ge (tgt := 229) hx hb dL_packs_189 (by decide) (by omega) (by omega) (fun c142 => ?_) (fun c142 => ?_)
                    · skip
                      refine lv_aload_n hx hb dL_packs_229 rfl (lv_at hl 0 rfl) ?_
                      refine lv_iload_n hx hb dL_packs_230 rfl (lv_at hl 1 rfl) ?_
                      refine z_w (zrV (As := [.int (zI rm)]) (rest := []) ⟨hx, hb, hml, hown, hts⟩ (k_pack l G cs a B rm ia hB hrm) gL_packs_X6_pack rfl qX6_pack rfl rfl ⟨Nat.le_of_ble_eq_true rfl, Nat.le_of_ble_eq_true rfl⟩ hXI hK (va_recv hK.1 hXI.xo (ci := 6) (q0 := 0) rfl rfl) hl.1 rfl (Nat.le_of_ble_eq_true rfl) dL_packs_231 ⟨Nat.le_of_ble_eq_true rfl, Nat.le_of_ble_eq_true rfl⟩) hS (fun q h => h) (fun q h => h) (fun v H locs hpost hle hk hS => ?_)
                      obtain ⟨hv, hXI⟩ := hpost
                      have hE : packF B rm = ((-5), B) := eB2
                      have hv : v = .int (zI (-5)) := by rw [hE] at hv; exact hv
                      have hXI : XI G cs a a B H := by rw [hE] at hXI; exact hXI
                      subst hv
                      clear hE
                      refine z_bipush (n := -5) hx hb dL_packs_234 (by decide) ?_
                      refine z_icmp_ne (tgt := 273) hx hb dL_packs_236 (by decide) (by omega) (by omega) (fun c143 => ?_) (fun c143 => ?_)
                      · skip
                        exfalso; omega
                      · skip
                        refine lv_iload hx hb dL_packs_239 (lv_at hl 4 rfl) ?_
                        refine z_if_eq (tgt := 269) hx hb dL_packs_241 (by decide) (by omega) (fun c144 => ?_) (fun c144 => ?_)
                        · skip
                          exfalso; omega
                        · skip
                          refine lv_aload_n hx hb dL_packs_244 rfl (lv_at hl 0 rfl) ?_
                          refine z_w (zrV (As := []) (rest := []) ⟨hx, hb, hml, hown, hts⟩ (k_undo l G cs a B  ia hB ) gL_packs_X6_undo rfl qX6_undo rfl rfl ⟨Nat.le_of_ble_eq_true rfl, Nat.le_of_ble_eq_true rfl⟩ hXI hK (va_recv hK.1 hXI.xo (ci := 6) (q0 := 0) rfl rfl) hl.1 rfl (Nat.le_of_ble_eq_true rfl) dL_packs_245 ⟨Nat.le_of_ble_eq_true rfl, Nat.le_of_ble_eq_true rfl⟩) hS (fun q h => h) (fun q h => h) (fun v H locs hpost hle hk hS => ?_)
                          obtain ⟨hv, hXI⟩ := hpost
                          have hE : undoF B = (k0, C) := eC
                          have hv : v = .int (zI k0) := by rw [hE] at hv; exact hv
                          have hXI : XI G cs a a C H := by rw [hE] at hXI; exact hXI
                          subst hv
                          clear hE
                          refine z_if_lt (tgt := 273) hx hb dL_packs_248 (by decide) (by omega) (fun c145 => ?_) (fun c145 => ?_)
                          · skip
                            exfalso; omega
                          · skip
                            refine lv_aload_n hx hb dL_packs_251 rfl (lv_at hl 0 rfl) ?_
                            refine z_iconst (n := 0) hx hb dL_packs_252 ?_
                            refine z_w (zrV (As := [.int (zI 0)]) (rest := []) ⟨hx, hb, hml, hown, hts⟩ (k_count l G cs a C 0 ia hC (by omega)) gL_packs_X6_count rfl qX6_count rfl rfl ⟨Nat.le_of_ble_eq_true rfl, Nat.le_of_ble_eq_true rfl⟩ hXI hK (va_recv hK.1 hXI.xo (ci := 6) (q0 := 0) rfl rfl) hl.1 rfl (Nat.le_of_ble_eq_true rfl) dL_packs_253 ⟨Nat.le_of_ble_eq_true rfl, Nat.le_of_ble_eq_true rfl⟩) hS (fun q h => h) (fun q h => h) (fun v H locs hpost hle hk hS => ?_)
                            obtain ⟨rfl, hXI⟩ := hpost
                            refine z_topi (b := A.1 0 0) (ct_0.trans (by rw [hC1])) ?_
                            refine lv_iload_n hx hb dL_packs_256 rfl (lv_at hl 2 rfl) ?_
                            refine z_icmp_ne (tgt := 273) hx hb dL_packs_257 (by decide) (by omega) (by omega) (fun c146 => ?_) (fun c146 => ?_)
                            · skip
                              exfalso; omega
                            · skip
                              refine lv_aload_n hx hb dL_packs_260 rfl (lv_at hl 0 rfl) ?_
                              refine z_w (zrSJ (As := [.ref (a 0)]) (rest := []) ⟨hx, hb, hml, hown, hts⟩ (c_L_print l G cs a C ia hC) gL_packs_L_print rfl qL_print rfl rfl ⟨Nat.le_of_ble_eq_true rfl, Nat.le_of_ble_eq_true rfl⟩ hXI hK hl.1 rfl (Nat.le_of_ble_eq_true rfl) dL_packs_261 ⟨Nat.le_of_ble_eq_true rfl, Nat.le_of_ble_eq_true rfl⟩) hS (fun q h => h) (fun q h => h) (fun v H locs hpost hle hk hS => ?_)
                              obtain ⟨rfl, hXI⟩ := hpost
                              refine z_topi (b := prF A.1) (by rw [hC1]) ?_
                              refine lv_iload hx hb dL_packs_264 (lv_at hl 3 rfl) ?_
                              refine z_icmp_ne (tgt := 273) hx hb dL_packs_266 (by decide) (prF_r _) (prF_r _) (fun c147 => ?_) (fun c147 => ?_)
                              · skip
                                exfalso; omega
                              · skip
                                refine z_iconst (n := 1) hx hb dL_packs_269 ?_
                                refine lv_goto (tgt := 274) hx hb dL_packs_270 (by decide) ?_
                                exact w_zret hx hb hr hlk dL_packs_274 (by omega) hS ⟨rfl, C, hC, hC1, hXI⟩
                    · skip
                      refine z_iconst (n := 0) hx hb dL_packs_192 ?_
                      refine lv_istore (lv' := [(9, .int (zI 0)), (0, .ref (a 0)), (1, .int (zI rm)), (2, .int (zI (A.1 0 0))), (4, .int (zI (prF A.1))), (7, .int (zI (A.1 0 0 - cntI (stayF A.1 rm) (A.1 0 0)))), (8, .int (zI q))]) hx hb dL_packs_193 hl (by decide) rfl (fun ls hl => ?_)
                      -- loop 195
                      have hqc := hI
                      refine z_loopH (nL := 10) (fun (p : Int) => [(0, .ref (a 0)), (1, .int (zI rm)), (2, .int (zI (A.1 0 0))), (4, .int (zI (prF A.1))), (7, .int (zI (A.1 0 0 - cntI (stayF A.1 rm) (A.1 0 0)))), (8, .int (zI q)), (9, .int (zI p))]) (fun (p : Int) (H : Heap) => (0 ≤ p ∧ p ≤ q) ∧ XI G cs a a B H) (fun (p : Int) => (q - p).toNat) (0 : Int) ⟨(by omega), hXI⟩ hS (lv_sub hl [1, 2, 3, 4, 5, 6, 0] rfl) (fun p H locs hIH hS ih ls hl => ?_)
                      obtain ⟨hI, hXI⟩ := hIH
                      have hl : lv_has ls 10 [(0, .ref (a 0)), (1, .int (zI rm)), (2, .int (zI (A.1 0 0))), (4, .int (zI (prF A.1))), (7, .int (zI (A.1 0 0 - cntI (stayF A.1 rm) (A.1 0 0)))), (8, .int (zI q)), (9, .int (zI p))] := hl
                      refine lv_iload hx hb dL_packs_195 (lv_at hl 6 rfl) ?_
                      refine lv_iload hx hb dL_packs_197 (lv_at hl 5 rfl) ?_
                      refine z_icmp_ge (tgt := 223) hx hb dL_packs_199 (by decide) (by omega) (by omega) (fun c148 => ?_) (fun c148 => ?_)
                      · skip
                        refine z_iinc (k := 5) (lv' := [(8, .int (zI (q + 1))), (0, .ref (a 0)), (1, .int (zI rm)), (2, .int (zI (A.1 0 0))), (4, .int (zI (prF A.1))), (7, .int (zI (A.1 0 0 - cntI (stayF A.1 rm) (A.1 0 0)))), (9, .int (zI p))]) hx hb dL_packs_223 hl rfl (by decide) rfl (fun ls hl => ?_)
                        refine lv_goto (tgt := 182) hx hb dL_packs_226 (by decide) ?_
                        exact ih2 (q + 1) H locs ⟨(by omega), hXI⟩ hS (by omega) ls (lv_sub hl [1, 2, 3, 4, 5, 0] rfl)
                      · skip
                        refine lv_aload_n hx hb dL_packs_202 rfl (lv_at hl 0 rfl) ?_
                        refine lv_iload hx hb dL_packs_203 (lv_at hl 6 rfl) ?_
                        refine lv_iload hx hb dL_packs_205 (lv_at hl 5 rfl) ?_
                        refine z_w (zrV (As := [.int (zI p), .int (zI q)]) (rest := []) ⟨hx, hb, hml, hown, hts⟩ (k_alike l G cs a B p q ia hB (by omega) (by omega)) gL_packs_X6_alike rfl qX6_alike rfl rfl ⟨Nat.le_of_ble_eq_true rfl, Nat.le_of_ble_eq_true rfl⟩ hXI hK (va_recv hK.1 hXI.xo (ci := 6) (q0 := 0) rfl rfl) hl.1 rfl (Nat.le_of_ble_eq_true rfl) dL_packs_207 ⟨Nat.le_of_ble_eq_true rfl, Nat.le_of_ble_eq_true rfl⟩) hS (fun q h => h) (fun q h => h) (fun v H locs hpost hle hk hS => ?_)
                        obtain ⟨rfl, hXI⟩ := hpost
                        refine z_topi (b := (-5)) ((al_at (show 0 ≤ p ∧ p < B.1 0 0 by omega) (show 0 ≤ q ∧ q < B.1 0 0 by omega)).trans (hna p q (by omega) (by omega) (by omega))) ?_
                        refine z_bipush (n := -5) hx hb dL_packs_210 (by decide) ?_
                        refine z_icmp_eq (tgt := 217) hx hb dL_packs_212 (by decide) (by omega) (by omega) (fun c149 => ?_) (fun c149 => ?_)
                        · skip
                          refine z_iinc (k := 6) (lv' := [(9, .int (zI (p + 1))), (0, .ref (a 0)), (1, .int (zI rm)), (2, .int (zI (A.1 0 0))), (4, .int (zI (prF A.1))), (7, .int (zI (A.1 0 0 - cntI (stayF A.1 rm) (A.1 0 0)))), (8, .int (zI q))]) hx hb dL_packs_217 hl rfl (by decide) rfl (fun ls hl => ?_)
                          refine lv_goto (tgt := 195) hx hb dL_packs_220 (by decide) ?_
                          exact ih (p + 1) H locs ⟨(by omega), hXI⟩ hS (by omega) ls (lv_sub hl [1, 2, 3, 4, 5, 6, 0] rfl)
                        · skip
                          exfalso; omega
                  · skip
                    refine lv_aload_n hx hb dL_packs_168 rfl (lv_at hl 2 rfl) ?_
                    refine z_bipush (n := 7) hx hb dL_packs_169 (by decide) ?_
                    refine z_w (zrV (As := [.int (zI 7)]) (rest := []) ⟨hx, hb, hml, hown, hts⟩ (k_count l G cs a B 7 ia hB (by omega)) gL_packs_X6_count rfl qX6_count rfl rfl ⟨Nat.le_of_ble_eq_true rfl, Nat.le_of_ble_eq_true rfl⟩ hXI hK (va_recv hK.1 hXI.xo (ci := 6) (q0 := 0) rfl rfl) hl.1 rfl (Nat.le_of_ble_eq_true rfl) dL_packs_171 ⟨Nat.le_of_ble_eq_true rfl, Nat.le_of_ble_eq_true rfl⟩) hS (fun q h => h) (fun q h => h) (fun v H locs hpost hle hk hS => ?_)
                    obtain ⟨rfl, hXI⟩ := hpost
                    refine z_topi (b := 0) (ct_7.trans (na_idle (hus (by omega)))) ?_
                    refine z_if_eq (tgt := 179) hx hb dL_packs_174 (by decide) (by omega) (fun c150 => ?_) (fun c150 => ?_)
                    · skip
                      refine z_iconst (n := 0) hx hb dL_packs_179 ?_
                      refine lv_istore (lv' := [(8, .int (zI 0)), (7, .int (zI (A.1 0 0 - cntI (stayF A.1 rm) (A.1 0 0)))), (6, .int (zI (A.1 0 0 - cntI (stayF A.1 rm) (A.1 0 0)))), (0, .ref (a 0)), (1, .int (zI rm)), (2, .int (zI (A.1 0 0))), (3, .int (zI (cntI (fun z_ => !isUsed A.1 z_) (A.1 0 0)))), (4, .int (zI (prF A.1))), (5, .int (zI (cntI (likB A.1) (A.1 0 0))))]) hx hb dL_packs_180 hl (by decide) rfl (fun ls hl => ?_)
                      -- loop 182
                      refine z_loopH (nL := 10) (fun (q : Int) => [(0, .ref (a 0)), (1, .int (zI rm)), (2, .int (zI (A.1 0 0))), (4, .int (zI (prF A.1))), (7, .int (zI (A.1 0 0 - cntI (stayF A.1 rm) (A.1 0 0)))), (8, .int (zI q))]) (fun (q : Int) (H : Heap) => (0 ≤ q ∧ q ≤ 24) ∧ XI G cs a a B H) (fun (q : Int) => (24 - q).toNat) (0 : Int) ⟨(by omega), hXI⟩ hS (lv_sub hl [3, 4, 5, 7, 1, 0] rfl) (fun q H locs hIH hS ih ls hl => ?_)
                      obtain ⟨hI, hXI⟩ := hIH
                      have hl : lv_has ls 10 [(0, .ref (a 0)), (1, .int (zI rm)), (2, .int (zI (A.1 0 0))), (4, .int (zI (prF A.1))), (7, .int (zI (A.1 0 0 - cntI (stayF A.1 rm) (A.1 0 0)))), (8, .int (zI q))] := hl
                      have ih2 := ih
                      refine lv_iload hx hb dL_packs_182 (lv_at hl 5 rfl) ?_
                      refine lv_aload_n hx hb dL_packs_184 rfl (lv_at hl 0 rfl) ?_
                      refine z_iconst (n := 0) hx hb dL_packs_185 ?_
                      have hw9 := hB.1.1.1
                      refine z_w (zrV (As := [.int (zI 0)]) (rest := [.int (zI q)]) ⟨hx, hb, hml, hown, hts⟩ (k_count l G cs a B 0 ia hB (by omega)) gL_packs_X6_count rfl qX6_count rfl rfl ⟨Nat.le_of_ble_eq_true rfl, Nat.le_of_ble_eq_true rfl⟩ hXI hK (va_recv hK.1 hXI.xo (ci := 6) (q0 := 0) rfl rfl) hl.1 rfl (Nat.le_of_ble_eq_true rfl) dL_packs_186 ⟨Nat.le_of_ble_eq_true rfl, Nat.le_of_ble_eq_true rfl⟩) hS (fun q h => h) (fun q h => h) (fun v H locs hpost hle hk hS => ?_)
                      obtain ⟨rfl, hXI⟩ := hpost
                      refine z_topi (b := B.1 0 0) ct_0 ?_
                      refine z_icmp_ge (tgt := 229) hx hb dL_packs_189 (by decide) (by omega) (by omega) (fun c151 => ?_) (fun c151 => ?_)
                      · skip
                        refine lv_aload_n hx hb dL_packs_229 rfl (lv_at hl 0 rfl) ?_
                        refine lv_iload_n hx hb dL_packs_230 rfl (lv_at hl 1 rfl) ?_
                        refine z_w (zrV (As := [.int (zI rm)]) (rest := []) ⟨hx, hb, hml, hown, hts⟩ (k_pack l G cs a B rm ia hB hrm) gL_packs_X6_pack rfl qX6_pack rfl rfl ⟨Nat.le_of_ble_eq_true rfl, Nat.le_of_ble_eq_true rfl⟩ hXI hK (va_recv hK.1 hXI.xo (ci := 6) (q0 := 0) rfl rfl) hl.1 rfl (Nat.le_of_ble_eq_true rfl) dL_packs_231 ⟨Nat.le_of_ble_eq_true rfl, Nat.le_of_ble_eq_true rfl⟩) hS (fun q h => h) (fun q h => h) (fun v H locs hpost hle hk hS => ?_)
                        obtain ⟨hv, hXI⟩ := hpost
                        have hE : packF B rm = ((-5), B) := eB2
                        have hv : v = .int (zI (-5)) := by rw [hE] at hv; exact hv
                        have hXI : XI G cs a a B H := by rw [hE] at hXI; exact hXI
                        subst hv
                        clear hE
                        refine z_bipush (n := -5) hx hb dL_packs_234 (by decide) ?_
                        refine z_icmp_ne (tgt := 273) hx hb dL_packs_236 (by decide) (by omega) (by omega) (fun c152 => ?_) (fun c152 => ?_)
                        · skip
                          exfalso; omega
                        · skip
                          refine lv_iload hx hb dL_packs_239 (lv_at hl 4 rfl) ?_
                          refine z_if_eq (tgt := 269) hx hb dL_packs_241 (by decide) (by omega) (fun c153 => ?_) (fun c153 => ?_)
                          · skip
                            exfalso; omega
                          · skip
                            refine lv_aload_n hx hb dL_packs_244 rfl (lv_at hl 0 rfl) ?_
                            refine z_w (zrV (As := []) (rest := []) ⟨hx, hb, hml, hown, hts⟩ (k_undo l G cs a B  ia hB ) gL_packs_X6_undo rfl qX6_undo rfl rfl ⟨Nat.le_of_ble_eq_true rfl, Nat.le_of_ble_eq_true rfl⟩ hXI hK (va_recv hK.1 hXI.xo (ci := 6) (q0 := 0) rfl rfl) hl.1 rfl (Nat.le_of_ble_eq_true rfl) dL_packs_245 ⟨Nat.le_of_ble_eq_true rfl, Nat.le_of_ble_eq_true rfl⟩) hS (fun q h => h) (fun q h => h) (fun v H locs hpost hle hk hS => ?_)
                            obtain ⟨hv, hXI⟩ := hpost
                            have hE : undoF B = (k0, C) := eC
                            have hv : v = .int (zI k0) := by rw [hE] at hv; exact hv
                            have hXI : XI G cs a a C H := by rw [hE] at hXI; exact hXI
                            subst hv
                            clear hE
                            refine z_if_lt (tgt := 273) hx hb dL_packs_248 (by decide) (by omega) (fun c154 => ?_) (fun c154 => ?_)
                            · skip
                              exfalso; omega
                            · skip
                              refine lv_aload_n hx hb dL_packs_251 rfl (lv_at hl 0 rfl) ?_
                              refine z_iconst (n := 0) hx hb dL_packs_252 ?_
                              refine z_w (zrV (As := [.int (zI 0)]) (rest := []) ⟨hx, hb, hml, hown, hts⟩ (k_count l G cs a C 0 ia hC (by omega)) gL_packs_X6_count rfl qX6_count rfl rfl ⟨Nat.le_of_ble_eq_true rfl, Nat.le_of_ble_eq_true rfl⟩ hXI hK (va_recv hK.1 hXI.xo (ci := 6) (q0 := 0) rfl rfl) hl.1 rfl (Nat.le_of_ble_eq_true rfl) dL_packs_253 ⟨Nat.le_of_ble_eq_true rfl, Nat.le_of_ble_eq_true rfl⟩) hS (fun q h => h) (fun q h => h) (fun v H locs hpost hle hk hS => ?_)
                              obtain ⟨rfl, hXI⟩ := hpost
                              refine z_topi (b := A.1 0 0) (ct_0.trans (by rw [hC1])) ?_
                              refine lv_iload_n hx hb dL_packs_256 rfl (lv_at hl 2 rfl) ?_
                              refine z_icmp_ne (tgt := 273) hx hb dL_packs_257 (by decide) (by omega) (by omega) (fun c155 => ?_) (fun c155 => ?_)
                              · skip
                                exfalso; omega
                              · skip
                                refine lv_aload_n hx hb dL_packs_260 rfl (lv_at hl 0 rfl) ?_
                                refine z_w (zrSJ (As := [.ref (a 0)]) (rest := []) ⟨hx, hb, hml, hown, hts⟩ (c_L_print l G cs a C ia hC) gL_packs_L_print rfl qL_print rfl rfl ⟨Nat.le_of_ble_eq_true rfl, Nat.le_of_ble_eq_true rfl⟩ hXI hK hl.1 rfl (Nat.le_of_ble_eq_true rfl) dL_packs_261 ⟨Nat.le_of_ble_eq_true rfl, Nat.le_of_ble_eq_true rfl⟩) hS (fun q h => h) (fun q h => h) (fun v H locs hpost hle hk hS => ?_)
                                obtain ⟨rfl, hXI⟩ := hpost
                                refine z_topi (b := prF A.1) (by rw [hC1]) ?_
                                refine lv_iload hx hb dL_packs_264 (lv_at hl 3 rfl) ?_
                                refine z_icmp_ne (tgt := 273) hx hb dL_packs_266 (by decide) (prF_r _) (prF_r _) (fun c156 => ?_) (fun c156 => ?_)
                                · skip
                                  exfalso; omega
                                · skip
                                  refine z_iconst (n := 1) hx hb dL_packs_269 ?_
                                  refine lv_goto (tgt := 274) hx hb dL_packs_270 (by decide) ?_
                                  exact w_zret hx hb hr hlk dL_packs_274 (by omega) hS ⟨rfl, C, hC, hC1, hXI⟩
                      · skip
                        refine z_iconst (n := 0) hx hb dL_packs_192 ?_
                        refine lv_istore (lv' := [(9, .int (zI 0)), (0, .ref (a 0)), (1, .int (zI rm)), (2, .int (zI (A.1 0 0))), (4, .int (zI (prF A.1))), (7, .int (zI (A.1 0 0 - cntI (stayF A.1 rm) (A.1 0 0)))), (8, .int (zI q))]) hx hb dL_packs_193 hl (by decide) rfl (fun ls hl => ?_)
                        -- loop 195
                        have hqc := hI
                        refine z_loopH (nL := 10) (fun (p : Int) => [(0, .ref (a 0)), (1, .int (zI rm)), (2, .int (zI (A.1 0 0))), (4, .int (zI (prF A.1))), (7, .int (zI (A.1 0 0 - cntI (stayF A.1 rm) (A.1 0 0)))), (8, .int (zI q)), (9, .int (zI p))]) (fun (p : Int) (H : Heap) => (0 ≤ p ∧ p ≤ q) ∧ XI G cs a a B H) (fun (p : Int) => (q - p).toNat) (0 : Int) ⟨(by omega), hXI⟩ hS (lv_sub hl [1, 2, 3, 4, 5, 6, 0] rfl) (fun p H locs hIH hS ih ls hl => ?_)
                        obtain ⟨hI, hXI⟩ := hIH
                        have hl : lv_has ls 10 [(0, .ref (a 0)), (1, .int (zI rm)), (2, .int (zI (A.1 0 0))), (4, .int (zI (prF A.1))), (7, .int (zI (A.1 0 0 - cntI (stayF A.1 rm) (A.1 0 0)))), (8, .int (zI q)), (9, .int (zI p))] := hl
                        refine lv_iload hx hb dL_packs_195 (lv_at hl 6 rfl) ?_
                        refine lv_iload hx hb dL_packs_197 (lv_at hl 5 rfl) ?_
                        refine z_icmp_ge (tgt := 223) hx hb dL_packs_199 (by decide) (by omega) (by omega) (fun c157 => ?_) (fun c157 => ?_)
                        · skip
                          refine z_iinc (k := 5) (lv' := [(8, .int (zI (q + 1))), (0, .ref (a 0)), (1, .int (zI rm)), (2, .int (zI (A.1 0 0))), (4, .int (zI (prF A.1))), (7, .int (zI (A.1 0 0 - cntI (stayF A.1 rm) (A.1 0 0)))), (9, .int (zI p))]) hx hb dL_packs_223 hl rfl (by decide) rfl (fun ls hl => ?_)
                          refine lv_goto (tgt := 182) hx hb dL_packs_226 (by decide) ?_
                          exact ih2 (q + 1) H locs ⟨(by omega), hXI⟩ hS (by omega) ls (lv_sub hl [1, 2, 3, 4, 5, 0] rfl)
                        · skip
                          refine lv_aload_n hx hb dL_packs_202 rfl (lv_at hl 0 rfl) ?_
                          refine lv_iload hx hb dL_packs_203 (lv_at hl 6 rfl) ?_
                          refine lv_iload hx hb dL_packs_205 (lv_at hl 5 rfl) ?_
                          refine z_w (zrV (As := [.int (zI p), .int (zI q)]) (rest := []) ⟨hx, hb, hml, hown, hts⟩ (k_alike l G cs a B p q ia hB (by omega) (by omega)) gL_packs_X6_alike rfl qX6_alike rfl rfl ⟨Nat.le_of_ble_eq_true rfl, Nat.le_of_ble_eq_true rfl⟩ hXI hK (va_recv hK.1 hXI.xo (ci := 6) (q0 := 0) rfl rfl) hl.1 rfl (Nat.le_of_ble_eq_true rfl) dL_packs_207 ⟨Nat.le_of_ble_eq_true rfl, Nat.le_of_ble_eq_true rfl⟩) hS (fun q h => h) (fun q h => h) (fun v H locs hpost hle hk hS => ?_)
                          obtain ⟨rfl, hXI⟩ := hpost
                          refine z_topi (b := (-5)) ((al_at (show 0 ≤ p ∧ p < B.1 0 0 by omega) (show 0 ≤ q ∧ q < B.1 0 0 by omega)).trans (hna p q (by omega) (by omega) (by omega))) ?_
                          refine z_bipush (n := -5) hx hb dL_packs_210 (by decide) ?_
                          refine z_icmp_eq (tgt := 217) hx hb dL_packs_212 (by decide) (by omega) (by omega) (fun c158 => ?_) (fun c158 => ?_)
                          · skip
                            refine z_iinc (k := 6) (lv' := [(9, .int (zI (p + 1))), (0, .ref (a 0)), (1, .int (zI rm)), (2, .int (zI (A.1 0 0))), (4, .int (zI (prF A.1))), (7, .int (zI (A.1 0 0 - cntI (stayF A.1 rm) (A.1 0 0)))), (8, .int (zI q))]) hx hb dL_packs_217 hl rfl (by decide) rfl (fun ls hl => ?_)
                            refine lv_goto (tgt := 195) hx hb dL_packs_220 (by decide) ?_
                            exact ih (p + 1) H locs ⟨(by omega), hXI⟩ hS (by omega) ls (lv_sub hl [1, 2, 3, 4, 5, 6, 0] rfl)
                          · skip
                            exfalso; omega
                    · skip
                      exfalso; omega
            · skip
              refine lv_iload hx hb dL_packs_141 (lv_at hl 0 rfl) ?_
              refine lv_iload hx hb dL_packs_143 (lv_at hl 7 rfl) ?_
              refine z_icmp_ne (tgt := 177) hx hb dL_packs_145 (by decide) (by omega) (by omega) (fun c159 => ?_) (fun c159 => ?_)
              · skip
                exfalso; have hr0 := hct.1 (by omega); omega
              · skip
                refine lv_iload hx hb dL_packs_148 (lv_at hl 0 rfl) ?_
                refine lv_iload hx hb dL_packs_150 (lv_at hl 7 rfl) ?_
                refine z_icmp_lt (tgt := 177) hx hb dL_packs_152 (by decide) (by omega) (by omega) (fun c160 => ?_) (fun c160 => ?_)
                · skip
                  exfalso; omega
                · skip
                  refine lv_iload hx hb dL_packs_155 (lv_at hl 0 rfl) ?_
                  refine lv_iload hx hb dL_packs_157 (lv_at hl 7 rfl) ?_
                  refine lv_iload_n hx hb dL_packs_159 rfl (lv_at hl 5 rfl) ?_
                  refine z_iadd hx hb dL_packs_160 ?_
                  refine z_icmp_gt (tgt := 177) hx hb dL_packs_161 (by decide) (by omega) (by omega) (fun c161 => ?_) (fun c161 => ?_)
                  · skip
                    exfalso; omega
                  · skip
                    refine lv_iload_n hx hb dL_packs_164 rfl (lv_at hl 3 rfl) ?_
                    refine z_if_eq (tgt := 179) hx hb dL_packs_165 (by decide) (by omega) (fun c162 => ?_) (fun c162 => ?_)
                    · skip
                      refine z_iconst (n := 0) hx hb dL_packs_179 ?_
                      refine lv_istore (lv' := [(8, .int (zI 0)), (7, .int (zI (A.1 0 0 - cntI (stayF A.1 rm) (A.1 0 0)))), (6, .int (zI (A.1 0 0 - cntI (stayF A.1 rm) (A.1 0 0)))), (0, .ref (a 0)), (1, .int (zI rm)), (2, .int (zI (A.1 0 0))), (3, .int (zI (cntI (fun z_ => !isUsed A.1 z_) (A.1 0 0)))), (4, .int (zI (prF A.1))), (5, .int (zI (cntI (likB A.1) (A.1 0 0))))]) hx hb dL_packs_180 hl (by decide) rfl (fun ls hl => ?_)
                      -- loop 182
                      refine z_loopH (nL := 10) (fun (q : Int) => [(0, .ref (a 0)), (1, .int (zI rm)), (2, .int (zI (A.1 0 0))), (4, .int (zI (prF A.1))), (7, .int (zI (A.1 0 0 - cntI (stayF A.1 rm) (A.1 0 0)))), (8, .int (zI q))]) (fun (q : Int) (H : Heap) => (0 ≤ q ∧ q ≤ 24) ∧ XI G cs a a B H) (fun (q : Int) => (24 - q).toNat) (0 : Int) ⟨(by omega), hXI⟩ hS (lv_sub hl [3, 4, 5, 7, 1, 0] rfl) (fun q H locs hIH hS ih ls hl => ?_)
                      obtain ⟨hI, hXI⟩ := hIH
                      have hl : lv_has ls 10 [(0, .ref (a 0)), (1, .int (zI rm)), (2, .int (zI (A.1 0 0))), (4, .int (zI (prF A.1))), (7, .int (zI (A.1 0 0 - cntI (stayF A.1 rm) (A.1 0 0)))), (8, .int (zI q))] := hl
                      have ih2 := ih
                      refine lv_iload hx hb dL_packs_182 (lv_at hl 5 rfl) ?_
                      refine lv_aload_n hx hb dL_packs_184 rfl (lv_at hl 0 rfl) ?_
                      refine z_iconst (n := 0) hx hb dL_packs_185 ?_
                      have hw9 := hB.1.1.1
                      refine z_w (zrV (As := [.int (zI 0)]) (rest := [.int (zI q)]) ⟨hx, hb, hml, hown, hts⟩ (k_count l G cs a B 0 ia hB (by omega)) gL_packs_X6_count rfl qX6_count rfl rfl ⟨Nat.le_of_ble_eq_true rfl, Nat.le_of_ble_eq_true rfl⟩ hXI hK (va_recv hK.1 hXI.xo (ci := 6) (q0 := 0) rfl rfl) hl.1 rfl (Nat.le_of_ble_eq_true rfl) dL_packs_186 ⟨Nat.le_of_ble_eq_true rfl, Nat.le_of_ble_eq_true rfl⟩) hS (fun q h => h) (fun q h => h) (fun v H locs hpost hle hk hS => ?_)
                      obtain ⟨rfl, hXI⟩ := hpost
                      refine z_topi (b := B.1 0 0) ct_0 ?_
                      refine z_icmp_ge (tgt := 229) hx hb dL_packs_189 (by decide) (by omega) (by omega) (fun c163 => ?_) (fun c163 => ?_)
                      · skip
                        refine lv_aload_n hx hb dL_packs_229 rfl (lv_at hl 0 rfl) ?_
                        refine lv_iload_n hx hb dL_packs_230 rfl (lv_at hl 1 rfl) ?_
                        refine z_w (zrV (As := [.int (zI rm)]) (rest := []) ⟨hx, hb, hml, hown, hts⟩ (k_pack l G cs a B rm ia hB hrm) gL_packs_X6_pack rfl qX6_pack rfl rfl ⟨Nat.le_of_ble_eq_true rfl, Nat.le_of_ble_eq_true rfl⟩ hXI hK (va_recv hK.1 hXI.xo (ci := 6) (q0 := 0) rfl rfl) hl.1 rfl (Nat.le_of_ble_eq_true rfl) dL_packs_231 ⟨Nat.le_of_ble_eq_true rfl, Nat.le_of_ble_eq_true rfl⟩) hS (fun q h => h) (fun q h => h) (fun v H locs hpost hle hk hS => ?_)
                        obtain ⟨hv, hXI⟩ := hpost
                        have hE : packF B rm = ((-5), B) := eB2
                        have hv : v = .int (zI (-5)) := by rw [hE] at hv; exact hv
                        have hXI : XI G cs a a B H := by rw [hE] at hXI; exact hXI
                        subst hv
                        clear hE
                        refine z_bipush (n := -5) hx hb dL_packs_234 (by decide) ?_
                        refine z_icmp_ne (tgt := 273) hx hb dL_packs_236 (by decide) (by omega) (by omega) (fun c164 => ?_) (fun c164 => ?_)
                        · skip
                          exfalso; omega
                        · skip
                          refine lv_iload hx hb dL_packs_239 (lv_at hl 4 rfl) ?_
                          refine z_if_eq (tgt := 269) hx hb dL_packs_241 (by decide) (by omega) (fun c165 => ?_) (fun c165 => ?_)
                          · skip
                            exfalso; omega
                          · skip
                            refine lv_aload_n hx hb dL_packs_244 rfl (lv_at hl 0 rfl) ?_
                            refine z_w (zrV (As := []) (rest := []) ⟨hx, hb, hml, hown, hts⟩ (k_undo l G cs a B  ia hB ) gL_packs_X6_undo rfl qX6_undo rfl rfl ⟨Nat.le_of_ble_eq_true rfl, Nat.le_of_ble_eq_true rfl⟩ hXI hK (va_recv hK.1 hXI.xo (ci := 6) (q0 := 0) rfl rfl) hl.1 rfl (Nat.le_of_ble_eq_true rfl) dL_packs_245 ⟨Nat.le_of_ble_eq_true rfl, Nat.le_of_ble_eq_true rfl⟩) hS (fun q h => h) (fun q h => h) (fun v H locs hpost hle hk hS => ?_)
                            obtain ⟨hv, hXI⟩ := hpost
                            have hE : undoF B = (k0, C) := eC
                            have hv : v = .int (zI k0) := by rw [hE] at hv; exact hv
                            have hXI : XI G cs a a C H := by rw [hE] at hXI; exact hXI
                            subst hv
                            clear hE
                            refine z_if_lt (tgt := 273) hx hb dL_packs_248 (by decide) (by omega) (fun c166 => ?_) (fun c166 => ?_)
                            · skip
                              exfalso; omega
                            · skip
                              refine lv_aload_n hx hb dL_packs_251 rfl (lv_at hl 0 rfl) ?_
                              refine z_iconst (n := 0) hx hb dL_packs_252 ?_
                              refine z_w (zrV (As := [.int (zI 0)]) (rest := []) ⟨hx, hb, hml, hown, hts⟩ (k_count l G cs a C 0 ia hC (by omega)) gL_packs_X6_count rfl qX6_count rfl rfl ⟨Nat.le_of_ble_eq_true rfl, Nat.le_of_ble_eq_true rfl⟩ hXI hK (va_recv hK.1 hXI.xo (ci := 6) (q0 := 0) rfl rfl) hl.1 rfl (Nat.le_of_ble_eq_true rfl) dL_packs_253 ⟨Nat.le_of_ble_eq_true rfl, Nat.le_of_ble_eq_true rfl⟩) hS (fun q h => h) (fun q h => h) (fun v H locs hpost hle hk hS => ?_)
                              obtain ⟨rfl, hXI⟩ := hpost
                              refine z_topi (b := A.1 0 0) (ct_0.trans (by rw [hC1])) ?_
                              refine lv_iload_n hx hb dL_packs_256 rfl (lv_at hl 2 rfl) ?_
                              refine z_icmp_ne (tgt := 273) hx hb dL_packs_257 (by decide) (by omega) (by omega) (fun c167 => ?_) (fun c167 => ?_)
                              · skip
                                exfalso; omega
                              · skip
                                refine lv_aload_n hx hb dL_packs_260 rfl (lv_at hl 0 rfl) ?_
                                refine z_w (zrSJ (As := [.ref (a 0)]) (rest := []) ⟨hx, hb, hml, hown, hts⟩ (c_L_print l G cs a C ia hC) gL_packs_L_print rfl qL_print rfl rfl ⟨Nat.le_of_ble_eq_true rfl, Nat.le_of_ble_eq_true rfl⟩ hXI hK hl.1 rfl (Nat.le_of_ble_eq_true rfl) dL_packs_261 ⟨Nat.le_of_ble_eq_true rfl, Nat.le_of_ble_eq_true rfl⟩) hS (fun q h => h) (fun q h => h) (fun v H locs hpost hle hk hS => ?_)
                                obtain ⟨rfl, hXI⟩ := hpost
                                refine z_topi (b := prF A.1) (by rw [hC1]) ?_
                                refine lv_iload hx hb dL_packs_264 (lv_at hl 3 rfl) ?_
                                refine z_icmp_ne (tgt := 273) hx hb dL_packs_266 (by decide) (prF_r _) (prF_r _) (fun c168 => ?_) (fun c168 => ?_)
                                · skip
                                  exfalso; omega
                                · skip
                                  refine z_iconst (n := 1) hx hb dL_packs_269 ?_
                                  refine lv_goto (tgt := 274) hx hb dL_packs_270 (by decide) ?_
                                  exact w_zret hx hb hr hlk dL_packs_274 (by omega) hS ⟨rfl, C, hC, hC1, hXI⟩
                      · skip
                        refine z_iconst (n := 0) hx hb dL_packs_192 ?_
                        refine lv_istore (lv' := [(9, .int (zI 0)), (0, .ref (a 0)), (1, .int (zI rm)), (2, .int (zI (A.1 0 0))), (4, .int (zI (prF A.1))), (7, .int (zI (A.1 0 0 - cntI (stayF A.1 rm) (A.1 0 0)))), (8, .int (zI q))]) hx hb dL_packs_193 hl (by decide) rfl (fun ls hl => ?_)
                        -- loop 195
                        have hqc := hI
                        refine z_loopH (nL := 10) (fun (p : Int) => [(0, .ref (a 0)), (1, .int (zI rm)), (2, .int (zI (A.1 0 0))), (4, .int (zI (prF A.1))), (7, .int (zI (A.1 0 0 - cntI (stayF A.1 rm) (A.1 0 0)))), (8, .int (zI q)), (9, .int (zI p))]) (fun (p : Int) (H : Heap) => (0 ≤ p ∧ p ≤ q) ∧ XI G cs a a B H) (fun (p : Int) => (q - p).toNat) (0 : Int) ⟨(by omega), hXI⟩ hS (lv_sub hl [1, 2, 3, 4, 5, 6, 0] rfl) (fun p H locs hIH hS ih ls hl => ?_)
                        obtain ⟨hI, hXI⟩ := hIH
                        have hl : lv_has ls 10 [(0, .ref (a 0)), (1, .int (zI rm)), (2, .int (zI (A.1 0 0))), (4, .int (zI (prF A.1))), (7, .int (zI (A.1 0 0 - cntI (stayF A.1 rm) (A.1 0 0)))), (8, .int (zI q)), (9, .int (zI p))] := hl
                        refine lv_iload hx hb dL_packs_195 (lv_at hl 6 rfl) ?_
                        refine lv_iload hx hb dL_packs_197 (lv_at hl 5 rfl) ?_
                        refine z_icmp_ge (tgt := 223) hx hb dL_packs_199 (by decide) (by omega) (by omega) (fun c169 => ?_) (fun c169 => ?_)
                        · skip
                          refine z_iinc (k := 5) (lv' := [(8, .int (zI (q + 1))), (0, .ref (a 0)), (1, .int (zI rm)), (2, .int (zI (A.1 0 0))), (4, .int (zI (prF A.1))), (7, .int (zI (A.1 0 0 - cntI (stayF A.1 rm) (A.1 0 0)))), (9, .int (zI p))]) hx hb dL_packs_223 hl rfl (by decide) rfl (fun ls hl => ?_)
                          refine lv_goto (tgt := 182) hx hb dL_packs_226 (by decide) ?_
                          exact ih2 (q + 1) H locs ⟨(by omega), hXI⟩ hS (by omega) ls (lv_sub hl [1, 2, 3, 4, 5, 0] rfl)
                        · skip
                          refine lv_aload_n hx hb dL_packs_202 rfl (lv_at hl 0 rfl) ?_
                          refine lv_iload hx hb dL_packs_203 (lv_at hl 6 rfl) ?_
                          refine lv_iload hx hb dL_packs_205 (lv_at hl 5 rfl) ?_
                          refine z_w (zrV (As := [.int (zI p), .int (zI q)]) (rest := []) ⟨hx, hb, hml, hown, hts⟩ (k_alike l G cs a B p q ia hB (by omega) (by omega)) gL_packs_X6_alike rfl qX6_alike rfl rfl ⟨Nat.le_of_ble_eq_true rfl, Nat.le_of_ble_eq_true rfl⟩ hXI hK (va_recv hK.1 hXI.xo (ci := 6) (q0 := 0) rfl rfl) hl.1 rfl (Nat.le_of_ble_eq_true rfl) dL_packs_207 ⟨Nat.le_of_ble_eq_true rfl, Nat.le_of_ble_eq_true rfl⟩) hS (fun q h => h) (fun q h => h) (fun v H locs hpost hle hk hS => ?_)
                          obtain ⟨rfl, hXI⟩ := hpost
                          refine z_topi (b := (-5)) ((al_at (show 0 ≤ p ∧ p < B.1 0 0 by omega) (show 0 ≤ q ∧ q < B.1 0 0 by omega)).trans (hna p q (by omega) (by omega) (by omega))) ?_
                          refine z_bipush (n := -5) hx hb dL_packs_210 (by decide) ?_
                          refine z_icmp_eq (tgt := 217) hx hb dL_packs_212 (by decide) (by omega) (by omega) (fun c170 => ?_) (fun c170 => ?_)
                          · skip
                            refine z_iinc (k := 6) (lv' := [(9, .int (zI (p + 1))), (0, .ref (a 0)), (1, .int (zI rm)), (2, .int (zI (A.1 0 0))), (4, .int (zI (prF A.1))), (7, .int (zI (A.1 0 0 - cntI (stayF A.1 rm) (A.1 0 0)))), (8, .int (zI q))]) hx hb dL_packs_217 hl rfl (by decide) rfl (fun ls hl => ?_)
                            refine lv_goto (tgt := 195) hx hb dL_packs_220 (by decide) ?_
                            exact ih (p + 1) H locs ⟨(by omega), hXI⟩ hS (by omega) ls (lv_sub hl [1, 2, 3, 4, 5, 6, 0] rfl)
                          · skip
                            exfalso; omega
                    · skip
                      refine lv_aload_n hx hb dL_packs_168 rfl (lv_at hl 2 rfl) ?_
                      refine z_bipush (n := 7) hx hb dL_packs_169 (by decide) ?_
                      refine z_w (zrV (As := [.int (zI 7)]) (rest := []) ⟨hx, hb, hml, hown, hts⟩ (k_count l G cs a B 7 ia hB (by omega)) gL_packs_X6_count rfl qX6_count rfl rfl ⟨Nat.le_of_ble_eq_true rfl, Nat.le_of_ble_eq_true rfl⟩ hXI hK (va_recv hK.1 hXI.xo (ci := 6) (q0 := 0) rfl rfl) hl.1 rfl (Nat.le_of_ble_eq_true rfl) dL_packs_171 ⟨Nat.le_of_ble_eq_true rfl, Nat.le_of_ble_eq_true rfl⟩) hS (fun q h => h) (fun q h => h) (fun v H locs hpost hle hk hS => ?_)
                      obtain ⟨rfl, hXI⟩ := hpost
                      refine z_topi (b := 0) (ct_7.trans (na_idle (hus (by omega)))) ?_
                      refine z_if_eq (tgt := 179) hx hb dL_packs_174 (by decide) (by omega) (fun c171 => ?_) (fun c171 => ?_)
                      · skip
                        refine z_iconst (n := 0) hx hb dL_packs_179 ?_
                        refine lv_istore (lv' := [(8, .int (zI 0)), (7, .int (zI (A.1 0 0 - cntI (stayF A.1 rm) (A.1 0 0)))), (6, .int (zI (A.1 0 0 - cntI (stayF A.1 rm) (A.1 0 0)))), (0, .ref (a 0)), (1, .int (zI rm)), (2, .int (zI (A.1 0 0))), (3, .int (zI (cntI (fun z_ => !isUsed A.1 z_) (A.1 0 0)))), (4, .int (zI (prF A.1))), (5, .int (zI (cntI (likB A.1) (A.1 0 0))))]) hx hb dL_packs_180 hl (by decide) rfl (fun ls hl => ?_)
                        -- loop 182
                        refine z_loopH (nL := 10) (fun (q : Int) => [(0, .ref (a 0)), (1, .int (zI rm)), (2, .int (zI (A.1 0 0))), (4, .int (zI (prF A.1))), (7, .int (zI (A.1 0 0 - cntI (stayF A.1 rm) (A.1 0 0)))), (8, .int (zI q))]) (fun (q : Int) (H : Heap) => (0 ≤ q ∧ q ≤ 24) ∧ XI G cs a a B H) (fun (q : Int) => (24 - q).toNat) (0 : Int) ⟨(by omega), hXI⟩ hS (lv_sub hl [3, 4, 5, 7, 1, 0] rfl) (fun q H locs hIH hS ih ls hl => ?_)
                        obtain ⟨hI, hXI⟩ := hIH
                        have hl : lv_has ls 10 [(0, .ref (a 0)), (1, .int (zI rm)), (2, .int (zI (A.1 0 0))), (4, .int (zI (prF A.1))), (7, .int (zI (A.1 0 0 - cntI (stayF A.1 rm) (A.1 0 0)))), (8, .int (zI q))] := hl
                        have ih2 := ih
                        refine lv_iload hx hb dL_packs_182 (lv_at hl 5 rfl) ?_
                        refine lv_aload_n hx hb dL_packs_184 rfl (lv_at hl 0 rfl) ?_
                        refine z_iconst (n := 0) hx hb dL_packs_185 ?_
                        have hw9 := hB.1.1.1
                        refine z_w (zrV (As := [.int (zI 0)]) (rest := [.int (zI q)]) ⟨hx, hb, hml, hown, hts⟩ (k_count l G cs a B 0 ia hB (by omega)) gL_packs_X6_count rfl qX6_count rfl rfl ⟨Nat.le_of_ble_eq_true rfl, Nat.le_of_ble_eq_true rfl⟩ hXI hK (va_recv hK.1 hXI.xo (ci := 6) (q0 := 0) rfl rfl) hl.1 rfl (Nat.le_of_ble_eq_true rfl) dL_packs_186 ⟨Nat.le_of_ble_eq_true rfl, Nat.le_of_ble_eq_true rfl⟩) hS (fun q h => h) (fun q h => h) (fun v H locs hpost hle hk hS => ?_)
                        obtain ⟨rfl, hXI⟩ := hpost
                        refine z_topi (b := B.1 0 0) ct_0 ?_
                        refine z_icmp_ge (tgt := 229) hx hb dL_packs_189 (by decide) (by omega) (by omega) (fun c172 => ?_) (fun c172 => ?_)
                        · skip
                          refine lv_aload_n hx hb dL_packs_229 rfl (lv_at hl 0 rfl) ?_
                          refine lv_iload_n hx hb dL_packs_230 rfl (lv_at hl 1 rfl) ?_
                          refine z_w (zrV (As := [.int (zI rm)]) (rest := []) ⟨hx, hb, hml, hown, hts⟩ (k_pack l G cs a B rm ia hB hrm) gL_packs_X6_pack rfl qX6_pack rfl rfl ⟨Nat.le_of_ble_eq_true rfl, Nat.le_of_ble_eq_true rfl⟩ hXI hK (va_recv hK.1 hXI.xo (ci := 6) (q0 := 0) rfl rfl) hl.1 rfl (Nat.le_of_ble_eq_true rfl) dL_packs_231 ⟨Nat.le_of_ble_eq_true rfl, Nat.le_of_ble_eq_true rfl⟩) hS (fun q h => h) (fun q h => h) (fun v H locs hpost hle hk hS => ?_)
                          obtain ⟨hv, hXI⟩ := hpost
                          have hE : packF B rm = ((-5), B) := eB2
                          have hv : v = .int (zI (-5)) := by rw [hE] at hv; exact hv
                          have hXI : XI G cs a a B H := by rw [hE] at hXI; exact hXI
                          subst hv
                          clear hE
                          refine z_bipush (n := -5) hx hb dL_packs_234 (by decide) ?_
                          refine z_icmp_ne (tgt := 273) hx hb dL_packs_236 (by decide) (by omega) (by omega) (fun c173 => ?_) (fun c173 => ?_)
                          · skip
                            exfalso; omega
                          · skip
                            refine lv_iload hx hb dL_packs_239 (lv_at hl 4 rfl) ?_
                            refine z_if_eq (tgt := 269) hx hb dL_packs_241 (by decide) (by omega) (fun c174 => ?_) (fun c174 => ?_)
                            · skip
                              exfalso; omega
                            · skip
                              refine lv_aload_n hx hb dL_packs_244 rfl (lv_at hl 0 rfl) ?_
                              refine z_w (zrV (As := []) (rest := []) ⟨hx, hb, hml, hown, hts⟩ (k_undo l G cs a B  ia hB ) gL_packs_X6_undo rfl qX6_undo rfl rfl ⟨Nat.le_of_ble_eq_true rfl, Nat.le_of_ble_eq_true rfl⟩ hXI hK (va_recv hK.1 hXI.xo (ci := 6) (q0 := 0) rfl rfl) hl.1 rfl (Nat.le_of_ble_eq_true rfl) dL_packs_245 ⟨Nat.le_of_ble_eq_true rfl, Nat.le_of_ble_eq_true rfl⟩) hS (fun q h => h) (fun q h => h) (fun v H locs hpost hle hk hS => ?_)
                              obtain ⟨hv, hXI⟩ := hpost
                              have hE : undoF B = (k0, C) := eC
                              have hv : v = .int (zI k0) := by rw [hE] at hv; exact hv
                              have hXI : XI G cs a a C H := by rw [hE] at hXI; exact hXI
                              subst hv
                              clear hE
                              refine z_if_lt (tgt := 273) hx hb dL_packs_248 (by decide) (by omega) (fun c175 => ?_) (fun c175 => ?_)
                              · skip
                                exfalso; omega
                              · skip
                                refine lv_aload_n hx hb dL_packs_251 rfl (lv_at hl 0 rfl) ?_
                                refine z_iconst (n := 0) hx hb dL_packs_252 ?_
                                refine z_w (zrV (As := [.int (zI 0)]) (rest := []) ⟨hx, hb, hml, hown, hts⟩ (k_count l G cs a C 0 ia hC (by omega)) gL_packs_X6_count rfl qX6_count rfl rfl ⟨Nat.le_of_ble_eq_true rfl, Nat.le_of_ble_eq_true rfl⟩ hXI hK (va_recv hK.1 hXI.xo (ci := 6) (q0 := 0) rfl rfl) hl.1 rfl (Nat.le_of_ble_eq_true rfl) dL_packs_253 ⟨Nat.le_of_ble_eq_true rfl, Nat.le_of_ble_eq_true rfl⟩) hS (fun q h => h) (fun q h => h) (fun v H locs hpost hle hk hS => ?_)
                                obtain ⟨rfl, hXI⟩ := hpost
                                refine z_topi (b := A.1 0 0) (ct_0.trans (by rw [hC1])) ?_
                                refine lv_iload_n hx hb dL_packs_256 rfl (lv_at hl 2 rfl) ?_
                                refine z_icmp_ne (tgt := 273) hx hb dL_packs_257 (by decide) (by omega) (by omega) (fun c176 => ?_) (fun c176 => ?_)
                                · skip
                                  exfalso; omega
                                · skip
                                  refine lv_aload_n hx hb dL_packs_260 rfl (lv_at hl 0 rfl) ?_
                                  refine z_w (zrSJ (As := [.ref (a 0)]) (rest := []) ⟨hx, hb, hml, hown, hts⟩ (c_L_print l G cs a C ia hC) gL_packs_L_print rfl qL_print rfl rfl ⟨Nat.le_of_ble_eq_true rfl, Nat.le_of_ble_eq_true rfl⟩ hXI hK hl.1 rfl (Nat.le_of_ble_eq_true rfl) dL_packs_261 ⟨Nat.le_of_ble_eq_true rfl, Nat.le_of_ble_eq_true rfl⟩) hS (fun q h => h) (fun q h => h) (fun v H locs hpost hle hk hS => ?_)
                                  obtain ⟨rfl, hXI⟩ := hpost
                                  refine z_topi (b := prF A.1) (by rw [hC1]) ?_
                                  refine lv_iload hx hb dL_packs_264 (lv_at hl 3 rfl) ?_
                                  refine z_icmp_ne (tgt := 273) hx hb dL_packs_266 (by decide) (prF_r _) (prF_r _) (fun c177 => ?_) (fun c177 => ?_)
                                  · skip
                                    exfalso; omega
                                  · skip
                                    refine z_iconst (n := 1) hx hb dL_packs_269 ?_
                                    refine lv_goto (tgt := 274) hx hb dL_packs_270 (by decide) ?_
                                    exact w_zret hx hb hr hlk dL_packs_274 (by omega) hS ⟨rfl, C, hC, hC1, hXI⟩
                        · skip
                          refine z_iconst (n := 0) hx hb dL_packs_192 ?_
                          refine lv_istore (lv' := [(9, .int (zI 0)), (0, .ref (a 0)), (1, .int (zI rm)), (2, .int (zI (A.1 0 0))), (4, .int (zI (prF A.1))), (7, .int (zI (A.1 0 0 - cntI (stayF A.1 rm) (A.1 0 0)))), (8, .int (zI q))]) hx hb dL_packs_193 hl (by decide) rfl (fun ls hl => ?_)
                          -- loop 195
                          have hqc := hI
                          refine z_loopH (nL := 10) (fun (p : Int) => [(0, .ref (a 0)), (1, .int (zI rm)), (2, .int (zI (A.1 0 0))), (4, .int (zI (prF A.1))), (7, .int (zI (A.1 0 0 - cntI (stayF A.1 rm) (A.1 0 0)))), (8, .int (zI q)), (9, .int (zI p))]) (fun (p : Int) (H : Heap) => (0 ≤ p ∧ p ≤ q) ∧ XI G cs a a B H) (fun (p : Int) => (q - p).toNat) (0 : Int) ⟨(by omega), hXI⟩ hS (lv_sub hl [1, 2, 3, 4, 5, 6, 0] rfl) (fun p H locs hIH hS ih ls hl => ?_)
                          obtain ⟨hI, hXI⟩ := hIH
                          have hl : lv_has ls 10 [(0, .ref (a 0)), (1, .int (zI rm)), (2, .int (zI (A.1 0 0))), (4, .int (zI (prF A.1))), (7, .int (zI (A.1 0 0 - cntI (stayF A.1 rm) (A.1 0 0)))), (8, .int (zI q)), (9, .int (zI p))] := hl
                          refine lv_iload hx hb dL_packs_195 (lv_at hl 6 rfl) ?_
                          refine lv_iload hx hb dL_packs_197 (lv_at hl 5 rfl) ?_
                          refine z_icmp_ge (tgt := 223) hx hb dL_packs_199 (by decide) (by omega) (by omega) (fun c178 => ?_) (fun c178 => ?_)
                          · skip
                            refine z_iinc (k := 5) (lv' := [(8, .int (zI (q + 1))), (0, .ref (a 0)), (1, .int (zI rm)), (2, .int (zI (A.1 0 0))), (4, .int (zI (prF A.1))), (7, .int (zI (A.1 0 0 - cntI (stayF A.1 rm) (A.1 0 0)))), (9, .int (zI p))]) hx hb dL_packs_223 hl rfl (by decide) rfl (fun ls hl => ?_)
                            refine lv_goto (tgt := 182) hx hb dL_packs_226 (by decide) ?_
                            exact ih2 (q + 1) H locs ⟨(by omega), hXI⟩ hS (by omega) ls (lv_sub hl [1, 2, 3, 4, 5, 0] rfl)
                          · skip
                            refine lv_aload_n hx hb dL_packs_202 rfl (lv_at hl 0 rfl) ?_
                            refine lv_iload hx hb dL_packs_203 (lv_at hl 6 rfl) ?_
                            refine lv_iload hx hb dL_packs_205 (lv_at hl 5 rfl) ?_
                            refine z_w (zrV (As := [.int (zI p), .int (zI q)]) (rest := []) ⟨hx, hb, hml, hown, hts⟩ (k_alike l G cs a B p q ia hB (by omega) (by omega)) gL_packs_X6_alike rfl qX6_alike rfl rfl ⟨Nat.le_of_ble_eq_true rfl, Nat.le_of_ble_eq_true rfl⟩ hXI hK (va_recv hK.1 hXI.xo (ci := 6) (q0 := 0) rfl rfl) hl.1 rfl (Nat.le_of_ble_eq_true rfl) dL_packs_207 ⟨Nat.le_of_ble_eq_true rfl, Nat.le_of_ble_eq_true rfl⟩) hS (fun q h => h) (fun q h => h) (fun v H locs hpost hle hk hS => ?_)
                            obtain ⟨rfl, hXI⟩ := hpost
                            refine z_topi (b := (-5)) ((al_at (show 0 ≤ p ∧ p < B.1 0 0 by omega) (show 0 ≤ q ∧ q < B.1 0 0 by omega)).trans (hna p q (by omega) (by omega) (by omega))) ?_
                            refine z_bipush (n := -5) hx hb dL_packs_210 (by decide) ?_
                            refine z_icmp_eq (tgt := 217) hx hb dL_packs_212 (by decide) (by omega) (by omega) (fun c179 => ?_) (fun c179 => ?_)
                            · skip
                              refine z_iinc (k := 6) (lv' := [(9, .int (zI (p + 1))), (0, .ref (a 0)), (1, .int (zI rm)), (2, .int (zI (A.1 0 0))), (4, .int (zI (prF A.1))), (7, .int (zI (A.1 0 0 - cntI (stayF A.1 rm) (A.1 0 0)))), (8, .int (zI q))]) hx hb dL_packs_217 hl rfl (by decide) rfl (fun ls hl => ?_)
                              refine lv_goto (tgt := 195) hx hb dL_packs_220 (by decide) ?_
                              exact ih (p + 1) H locs ⟨(by omega), hXI⟩ hS (by omega) ls (lv_sub hl [1, 2, 3, 4, 5, 6, 0] rfl)
                            · skip
                              exfalso; omega
                      · skip
                        exfalso; omega
      · skip
        exfalso; omega
  · skip
    refine z_iconst (n := 0) hx hb dL_packs_31 ?_
    refine lv_istore (lv' := [(7, .int (zI 0)), (0, .ref (a 0)), (1, .int (zI rm)), (2, .int (zI (A.1 0 0))), (3, .int (zI (cntI (fun z_ => !isUsed A.1 z_) (A.1 0 0)))), (4, .int (zI (prF A.1))), (5, .int (zI (cntI (likB A.1) q))), (6, .int (zI q))]) hx hb dL_packs_32 hl (by decide) rfl (fun ls hl => ?_)
    refine z_iconst (n := 0) hx hb dL_packs_34 ?_
    refine lv_istore (lv' := [(8, .int (zI 0)), (7, .int (zI 0)), (0, .ref (a 0)), (1, .int (zI rm)), (2, .int (zI (A.1 0 0))), (3, .int (zI (cntI (fun z_ => !isUsed A.1 z_) (A.1 0 0)))), (4, .int (zI (prF A.1))), (5, .int (zI (cntI (likB A.1) q))), (6, .int (zI q))]) hx hb dL_packs_35 hl (by decide) rfl (fun ls hl => ?_)
    -- loop 37
    have hIq := hI
    refine z_loopH (nL := 10) (fun (p : Int) => [(0, .ref (a 0)), (1, .int (zI rm)), (2, .int (zI (A.1 0 0))), (3, .int (zI (cntI (fun z_ => !isUsed A.1 z_) (A.1 0 0)))), (4, .int (zI (prF A.1))), (5, .int (zI (cntI (likB A.1) q))), (6, .int (zI q)), (7, .int (zI (b2 (anyN (fun z_ => decide (0 ≤ wayF A.1 z_ 0 q)) p.toNat)))), (8, .int (zI p))]) (fun (p : Int) (H : Heap) => (0 ≤ p ∧ p ≤ q) ∧ XI G cs a a A H) (fun (p : Int) => (q - p).toNat) (0 : Int) ⟨(by omega), hXI⟩ hS (by show lv_has ls 10 [(0, .ref (a 0)), (1, .int (zI rm)), (2, .int (zI (A.1 0 0))), (3, .int (zI (cntI (fun z_ => !isUsed A.1 z_) (A.1 0 0)))), (4, .int (zI (prF A.1))), (5, .int (zI (cntI (likB A.1) q))), (6, .int (zI q)), (7, .int (zI (b2 (anyN (fun z_ => decide (0 ≤ wayF A.1 z_ 0 q)) (0 : Int).toNat)))), (8, .int (zI (0 : Int)))]; rw [(show b2 (anyN (fun z_ => decide (0 ≤ wayF A.1 z_ 0 q)) (0 : Int).toNat) = 0 from rfl)]; exact lv_sub hl [2, 3, 4, 5, 6, 7, 8, 1, 0] rfl) (fun p H locs hIH hS ih ls hl => ?_)
    obtain ⟨hI, hXI⟩ := hIH
    have hl : lv_has ls 10 [(0, .ref (a 0)), (1, .int (zI rm)), (2, .int (zI (A.1 0 0))), (3, .int (zI (cntI (fun z_ => !isUsed A.1 z_) (A.1 0 0)))), (4, .int (zI (prF A.1))), (5, .int (zI (cntI (likB A.1) q))), (6, .int (zI q)), (7, .int (zI (b2 (anyN (fun z_ => decide (0 ≤ wayF A.1 z_ 0 q)) p.toNat)))), (8, .int (zI p))] := hl
    refine lv_iload hx hb dL_packs_37 (lv_at hl 8 rfl) ?_
    refine lv_iload hx hb dL_packs_39 (lv_at hl 6 rfl) ?_
    refine z_icmp_ge (tgt := 73) hx hb dL_packs_41 (by decide) (by omega) (by omega) (fun c180 => ?_) (fun c180 => ?_)
    · skip
      have ep : q = p := by omega
      subst ep
      refine lv_iload hx hb dL_packs_73 (lv_at hl 5 rfl) ?_
      refine lv_iload hx hb dL_packs_75 (lv_at hl 7 rfl) ?_
      refine z_bif_eq (tgt := 84) hx hb dL_packs_77 (by decide) (fun c6 => ?_) (fun c6 => ?_)
      · skip
        refine z_iconst (n := 0) hx hb dL_packs_84 ?_
        refine z_iadd hx hb dL_packs_85 ?_
        refine lv_istore (lv' := [(5, .int (zI ((cntI (likB A.1) q) + 0))), (0, .ref (a 0)), (1, .int (zI rm)), (2, .int (zI (A.1 0 0))), (3, .int (zI (cntI (fun z_ => !isUsed A.1 z_) (A.1 0 0)))), (4, .int (zI (prF A.1))), (6, .int (zI q)), (7, .int (zI (b2 (anyN (fun z_ => decide (0 ≤ wayF A.1 z_ 0 q)) q.toNat)))), (8, .int (zI q))]) hx hb dL_packs_86 hl (by decide) rfl (fun ls hl => ?_)
        refine z_iinc (k := 6) (lv' := [(6, .int (zI (q + 1))), (5, .int (zI ((cntI (likB A.1) q) + 0))), (0, .ref (a 0)), (1, .int (zI rm)), (2, .int (zI (A.1 0 0))), (3, .int (zI (cntI (fun z_ => !isUsed A.1 z_) (A.1 0 0)))), (4, .int (zI (prF A.1))), (7, .int (zI (b2 (anyN (fun z_ => decide (0 ≤ wayF A.1 z_ 0 q)) q.toNat)))), (8, .int (zI q))]) hx hb dL_packs_88 hl rfl (by decide) rfl (fun ls hl => ?_)
        refine lv_goto (tgt := 25) hx hb dL_packs_91 (by decide) ?_
        have hb1 : cntI (likB A.1) (q + 1) = cntI (likB A.1) q + 0 := (cntI_f hIq.1 (show likB A.1 q = false from c6)).trans (Int.add_zero _).symm
        exact ih1 (q + 1) H locs ⟨(by omega), hXI⟩ hS (by omega) ls (by show lv_has ls 10 [(0, .ref (a 0)), (1, .int (zI rm)), (2, .int (zI (A.1 0 0))), (3, .int (zI (cntI (fun z_ => !isUsed A.1 z_) (A.1 0 0)))), (4, .int (zI (prF A.1))), (5, .int (zI (cntI (likB A.1) (q + 1)))), (6, .int (zI (q + 1)))]; rw [hb1]; exact lv_sub hl [2, 3, 4, 5, 6, 1, 0] rfl)
      · skip
        refine z_iconst (n := 1) hx hb dL_packs_80 ?_
        refine lv_goto (tgt := 85) hx hb dL_packs_81 (by decide) ?_
        refine z_iadd hx hb dL_packs_85 ?_
        refine lv_istore (lv' := [(5, .int (zI ((cntI (likB A.1) q) + 1))), (0, .ref (a 0)), (1, .int (zI rm)), (2, .int (zI (A.1 0 0))), (3, .int (zI (cntI (fun z_ => !isUsed A.1 z_) (A.1 0 0)))), (4, .int (zI (prF A.1))), (6, .int (zI q)), (7, .int (zI (b2 (anyN (fun z_ => decide (0 ≤ wayF A.1 z_ 0 q)) q.toNat)))), (8, .int (zI q))]) hx hb dL_packs_86 hl (by decide) rfl (fun ls hl => ?_)
        refine z_iinc (k := 6) (lv' := [(6, .int (zI (q + 1))), (5, .int (zI ((cntI (likB A.1) q) + 1))), (0, .ref (a 0)), (1, .int (zI rm)), (2, .int (zI (A.1 0 0))), (3, .int (zI (cntI (fun z_ => !isUsed A.1 z_) (A.1 0 0)))), (4, .int (zI (prF A.1))), (7, .int (zI (b2 (anyN (fun z_ => decide (0 ≤ wayF A.1 z_ 0 q)) q.toNat)))), (8, .int (zI q))]) hx hb dL_packs_88 hl rfl (by decide) rfl (fun ls hl => ?_)
        refine lv_goto (tgt := 25) hx hb dL_packs_91 (by decide) ?_
        have hb1 : cntI (likB A.1) (q + 1) = cntI (likB A.1) q + 1 := cntI_t hIq.1 (show likB A.1 q = true from c6)
        exact ih1 (q + 1) H locs ⟨(by omega), hXI⟩ hS (by omega) ls (by show lv_has ls 10 [(0, .ref (a 0)), (1, .int (zI rm)), (2, .int (zI (A.1 0 0))), (3, .int (zI (cntI (fun z_ => !isUsed A.1 z_) (A.1 0 0)))), (4, .int (zI (prF A.1))), (5, .int (zI (cntI (likB A.1) (q + 1)))), (6, .int (zI (q + 1)))]; rw [hb1]; exact lv_sub hl [2, 3, 4, 5, 6, 1, 0] rfl)
    · skip
      refine lv_iload hx hb dL_packs_44 (lv_at hl 7 rfl) ?_
      refine z_bif_ne (tgt := 60) hx hb dL_packs_46 (by decide) (fun c8 => ?_) (fun c8 => ?_)
      · skip
        refine z_iconst (n := 1) hx hb dL_packs_60 ?_
        refine lv_goto (tgt := 65) hx hb dL_packs_61 (by decide) ?_
        refine lv_istore (lv' := [(7, .int (zI 1)), (0, .ref (a 0)), (1, .int (zI rm)), (2, .int (zI (A.1 0 0))), (3, .int (zI (cntI (fun z_ => !isUsed A.1 z_) (A.1 0 0)))), (4, .int (zI (prF A.1))), (5, .int (zI (cntI (likB A.1) q))), (6, .int (zI q)), (8, .int (zI p))]) hx hb dL_packs_65 hl (by decide) rfl (fun ls hl => ?_)
        refine z_iinc (k := 8) (lv' := [(8, .int (zI (p + 1))), (7, .int (zI 1)), (0, .ref (a 0)), (1, .int (zI rm)), (2, .int (zI (A.1 0 0))), (3, .int (zI (cntI (fun z_ => !isUsed A.1 z_) (A.1 0 0)))), (4, .int (zI (prF A.1))), (5, .int (zI (cntI (likB A.1) q))), (6, .int (zI q))]) hx hb dL_packs_67 hl rfl (by decide) rfl (fun ls hl => ?_)
        refine lv_goto (tgt := 37) hx hb dL_packs_70 (by decide) ?_
        have hb1 : b2 (anyN (fun z_ => decide (0 ≤ wayF A.1 z_ 0 q)) (p + 1).toNat) = 1 := b2_t (by rw [any_s hI.1, show anyN (fun z_ => decide (0 ≤ wayF A.1 z_ 0 q)) p.toNat = true from c8]; rfl)
        exact ih (p + 1) H locs ⟨(by omega), hXI⟩ hS (by omega) ls (by show lv_has ls 10 [(0, .ref (a 0)), (1, .int (zI rm)), (2, .int (zI (A.1 0 0))), (3, .int (zI (cntI (fun z_ => !isUsed A.1 z_) (A.1 0 0)))), (4, .int (zI (prF A.1))), (5, .int (zI (cntI (likB A.1) q))), (6, .int (zI q)), (7, .int (zI (b2 (anyN (fun z_ => decide (0 ≤ wayF A.1 z_ 0 q)) (p + 1).toNat)))), (8, .int (zI (p + 1)))]; rw [hb1]; exact lv_sub hl [2, 3, 4, 5, 6, 7, 8, 1, 0] rfl)
      · skip
        refine lv_aload_n hx hb dL_packs_49 rfl (lv_at hl 0 rfl) ?_
        refine lv_iload hx hb dL_packs_50 (lv_at hl 8 rfl) ?_
        refine lv_iload hx hb dL_packs_52 (lv_at hl 6 rfl) ?_
        have hw7 := wayF_r A.1 p 0 q
        refine z_w (zrV (As := [.int (zI p), .int (zI q)]) (rest := []) ⟨hx, hb, hml, hown, hts⟩ (k_alike l G cs a A p q ia hA (by omega) (by omega)) gL_packs_X6_alike rfl qX6_alike rfl rfl ⟨Nat.le_of_ble_eq_true rfl, Nat.le_of_ble_eq_true rfl⟩ hXI hK (va_recv hK.1 hXI.xo (ci := 6) (q0 := 0) rfl rfl) hl.1 rfl (Nat.le_of_ble_eq_true rfl) dL_packs_54 ⟨Nat.le_of_ble_eq_true rfl, Nat.le_of_ble_eq_true rfl⟩) hS (fun q h => h) (fun q h => h) (fun v H locs hpost hle hk hS => ?_)
        obtain ⟨rfl, hXI⟩ := hpost
        refine z_topi (b := wayF A.1 p 0 q) (al_at (by omega) (by omega)) ?_
        refine z_if_lt (tgt := 64) hx hb dL_packs_57 (by decide) (by omega) (fun c7 => ?_) (fun c7 => ?_)
        · skip
          refine z_iconst (n := 0) hx hb dL_packs_64 ?_
          refine lv_istore (lv' := [(7, .int (zI 0)), (0, .ref (a 0)), (1, .int (zI rm)), (2, .int (zI (A.1 0 0))), (3, .int (zI (cntI (fun z_ => !isUsed A.1 z_) (A.1 0 0)))), (4, .int (zI (prF A.1))), (5, .int (zI (cntI (likB A.1) q))), (6, .int (zI q)), (8, .int (zI p))]) hx hb dL_packs_65 hl (by decide) rfl (fun ls hl => ?_)
          refine z_iinc (k := 8) (lv' := [(8, .int (zI (p + 1))), (7, .int (zI 0)), (0, .ref (a 0)), (1, .int (zI rm)), (2, .int (zI (A.1 0 0))), (3, .int (zI (cntI (fun z_ => !isUsed A.1 z_) (A.1 0 0)))), (4, .int (zI (prF A.1))), (5, .int (zI (cntI (likB A.1) q))), (6, .int (zI q))]) hx hb dL_packs_67 hl rfl (by decide) rfl (fun ls hl => ?_)
          refine lv_goto (tgt := 37) hx hb dL_packs_70 (by decide) ?_
          have hb1 : b2 (anyN (fun z_ => decide (0 ≤ wayF A.1 z_ 0 q)) (p + 1).toNat) = 0 := b2_f (by rw [any_sf hI.1 (decide_eq_false (by omega))]; exact c8)
          exact ih (p + 1) H locs ⟨(by omega), hXI⟩ hS (by omega) ls (by show lv_has ls 10 [(0, .ref (a 0)), (1, .int (zI rm)), (2, .int (zI (A.1 0 0))), (3, .int (zI (cntI (fun z_ => !isUsed A.1 z_) (A.1 0 0)))), (4, .int (zI (prF A.1))), (5, .int (zI (cntI (likB A.1) q))), (6, .int (zI q)), (7, .int (zI (b2 (anyN (fun z_ => decide (0 ≤ wayF A.1 z_ 0 q)) (p + 1).toNat)))), (8, .int (zI (p + 1)))]; rw [hb1]; exact lv_sub hl [2, 3, 4, 5, 6, 7, 8, 1, 0] rfl)
        · skip
          refine z_iconst (n := 1) hx hb dL_packs_60 ?_
          refine lv_goto (tgt := 65) hx hb dL_packs_61 (by decide) ?_
          refine lv_istore (lv' := [(7, .int (zI 1)), (0, .ref (a 0)), (1, .int (zI rm)), (2, .int (zI (A.1 0 0))), (3, .int (zI (cntI (fun z_ => !isUsed A.1 z_) (A.1 0 0)))), (4, .int (zI (prF A.1))), (5, .int (zI (cntI (likB A.1) q))), (6, .int (zI q)), (8, .int (zI p))]) hx hb dL_packs_65 hl (by decide) rfl (fun ls hl => ?_)
          refine z_iinc (k := 8) (lv' := [(8, .int (zI (p + 1))), (7, .int (zI 1)), (0, .ref (a 0)), (1, .int (zI rm)), (2, .int (zI (A.1 0 0))), (3, .int (zI (cntI (fun z_ => !isUsed A.1 z_) (A.1 0 0)))), (4, .int (zI (prF A.1))), (5, .int (zI (cntI (likB A.1) q))), (6, .int (zI q))]) hx hb dL_packs_67 hl rfl (by decide) rfl (fun ls hl => ?_)
          refine lv_goto (tgt := 37) hx hb dL_packs_70 (by decide) ?_
          have hb1 : b2 (anyN (fun z_ => decide (0 ≤ wayF A.1 z_ 0 q)) (p + 1).toNat) = 1 := b2_t (any_st hI.1 (decide_eq_true (by omega)))
          exact ih (p + 1) H locs ⟨(by omega), hXI⟩ hS (by omega) ls (by show lv_has ls 10 [(0, .ref (a 0)), (1, .int (zI rm)), (2, .int (zI (A.1 0 0))), (3, .int (zI (cntI (fun z_ => !isUsed A.1 z_) (A.1 0 0)))), (4, .int (zI (prF A.1))), (5, .int (zI (cntI (likB A.1) q))), (6, .int (zI q)), (7, .int (zI (b2 (anyN (fun z_ => decide (0 ≤ wayF A.1 z_ 0 q)) (p + 1).toNat)))), (8, .int (zI (p + 1)))]; rw [hb1]; exact lv_sub hl [2, 3, 4, 5, 6, 7, 8, 1, 0] rfl)
