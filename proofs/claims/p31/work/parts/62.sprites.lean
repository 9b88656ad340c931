set_option maxHeartbeats 4000000 in
set_option maxRecDepth 100000 in
theorem c_L_sprites (l : Launch) (G : va_G) (cs : Nat → ClassId) (a : Nat → Nat) (A : AS)  (ia : Inj a 62) (hA : GA A) : MW l yL_sprites wsL_sprites { frames := 8, cells := 0, slots := 0, locals := 187 } G cs [.ref (a 0)] (fun H => XI G cs a a A H) (fun vv H => vv = .int (zI 1) ∧ XI G cs a a A H) (AX a 0 62) 0 0 := by
  refine m_intro (Pw := (fun H => XI G cs a a A H)) (cc := cL_sprites) (maxL := 10) (ret := some .boolean) RL (by decide) rfl rfl (Nat.le_of_ble_eq_true rfl) ?_
  intro pP eE sS mM below meth cC hx hb hr hts hown hml hlk hnm hPre hK ls hl
  have hl : lv_has ls 10 [(0, .ref (a 0))] := hl
  have hXI := hPre
  have hS : va_S (AX a 0 62) sS.heap sS.heap [] := va_S.rf
  have hwf := hA.1.1
  obtain ⟨w0, w1, w2, w3, w4, wP, wC, wS, wX⟩ := id hwf
  refine z_iconst (n := 0) hx hb dL_sprites_0 ?_
  refine lv_istore_n (lv' := [(1, .int (zI 0)), (0, .ref (a 0))]) hx hb dL_sprites_1 rfl hl (by decide) rfl (fun ls hl => ?_)
  refine z_iconst (n := 0) hx hb dL_sprites_2 ?_
  refine lv_istore_n (lv' := [(2, .int (zI 0)), (1, .int (zI 0)), (0, .ref (a 0))]) hx hb dL_sprites_3 rfl hl (by decide) rfl (fun ls hl => ?_)
  refine z_iconst (n := 0) hx hb dL_sprites_4 ?_
  refine lv_istore_n (lv' := [(3, .int (zI 0)), (2, .int (zI 0)), (1, .int (zI 0)), (0, .ref (a 0))]) hx hb dL_sprites_5 rfl hl (by decide) rfl (fun ls hl => ?_)
  -- loop 6
  refine z_loopH (nL := 10) (fun (s : Int) => [(0, .ref (a 0)), (1, .int (zI (cntI (isOn A.1) s))), (2, .int (zI (sumN (fun z_ => metF A.1 (A.1 0 4) z_) s.toNat))), (3, .int (zI s))]) (fun (s : Int) (H : Heap) => (0 ≤ s ∧ s ≤ A.1 0 1) ∧ XI G cs a a A H) (fun (s : Int) => (A.1 0 1 - s).toNat) (0 : Int) ⟨(by omega), hXI⟩ hS (by show lv_has ls 10 [(0, .ref (a 0)), (1, .int (zI (cntI (isOn A.1) (0 : Int)))), (2, .int (zI (sumN (fun z_ => metF A.1 (A.1 0 4) z_) (0 : Int).toNat))), (3, .int (zI (0 : Int)))]; rw [cntI_0, (show sumN (fun z_ => metF A.1 (A.1 0 4) z_) (0 : Int).toNat = 0 from rfl)]; exact lv_sub hl [3, 2, 1, 0] rfl) (fun s H locs hIH hS ih ls hl => ?_)
  obtain ⟨hI, hXI⟩ := hIH
  have hl : lv_has ls 10 [(0, .ref (a 0)), (1, .int (zI (cntI (isOn A.1) s))), (2, .int (zI (sumN (fun z_ => metF A.1 (A.1 0 4) z_) s.toNat))), (3, .int (zI s))] := hl
  have ih1 := ih
  have hk9 : 0 ≤ sumN (fun z_ => metF A.1 (A.1 0 4) z_) s.toNat ∧ sumN (fun z_ => metF A.1 (A.1 0 4) z_) s.toNat ≤ 20 * ((s.toNat : Nat) : Int) := sum_r (fun k => met_r hwf (A.1 0 4) k) s.toNat
  have hIs := hI
  refine lv_iload_n hx hb dL_sprites_6 rfl (lv_at hl 3 rfl) ?_
  refine lv_aload_n hx hb dL_sprites_7 rfl (lv_at hl 0 rfl) ?_
  refine z_iconst (n := 1) hx hb dL_sprites_8 ?_
  refine z_w (zrV (As := [.int (zI 1)]) (rest := [.int (zI s)]) ⟨hx, hb, hml, hown, hts⟩ (k_count l G cs a A 1 ia hA (by omega)) gL_sprites_X6_count rfl qX6_count rfl rfl ⟨Nat.le_of_ble_eq_true rfl, Nat.le_of_ble_eq_true rfl⟩ hXI hK (va_recv hK.1 hXI.xo (ci := 6) (q0 := 0) rfl rfl) hl.1 rfl (Nat.le_of_ble_eq_true rfl) dL_sprites_9 ⟨Nat.le_of_ble_eq_true rfl, Nat.le_of_ble_eq_true rfl⟩) hS (fun q h => h) (fun q h => h) (fun v H locs hpost hle hk hS => ?_)
  obtain ⟨rfl, hXI⟩ := hpost
  refine z_topi (b := A.1 0 1) ct_1 ?_
  refine z_icmp_ge (tgt := 214) hx hb dL_sprites_12 (by decide) (by omega) (by omega) (fun c101 => ?_) (fun c101 => ?_)
  · skip
    have es : s = A.1 0 1 := by omega
    subst es
    refine z_iconst (n := 0) hx hb dL_sprites_214 ?_
    refine lv_istore_n (lv' := [(3, .int (zI 0)), (0, .ref (a 0)), (1, .int (zI (cntI (isOn A.1) (A.1 0 1)))), (2, .int (zI (sumN (fun z_ => metF A.1 (A.1 0 4) z_) (A.1 0 1).toNat)))]) hx hb dL_sprites_215 rfl hl (by decide) rfl (fun ls hl => ?_)
    refine z_iconst (n := 0) hx hb dL_sprites_216 ?_
    refine lv_istore (lv' := [(4, .int (zI 0)), (3, .int (zI 0)), (0, .ref (a 0)), (1, .int (zI (cntI (isOn A.1) (A.1 0 1)))), (2, .int (zI (sumN (fun z_ => metF A.1 (A.1 0 4) z_) (A.1 0 1).toNat)))]) hx hb dL_sprites_217 hl (by decide) rfl (fun ls hl => ?_)
    refine z_iconst (n := 0) hx hb dL_sprites_219 ?_
    refine lv_istore (lv' := [(5, .int (zI 0)), (4, .int (zI 0)), (3, .int (zI 0)), (0, .ref (a 0)), (1, .int (zI (cntI (isOn A.1) (A.1 0 1)))), (2, .int (zI (sumN (fun z_ => metF A.1 (A.1 0 4) z_) (A.1 0 1).toNat)))]) hx hb dL_sprites_220 hl (by decide) rfl (fun ls hl => ?_)
    refine z_iconst (n := 0) hx hb dL_sprites_222 ?_
    refine lv_istore (lv' := [(6, .int (zI 0)), (5, .int (zI 0)), (4, .int (zI 0)), (3, .int (zI 0)), (0, .ref (a 0)), (1, .int (zI (cntI (isOn A.1) (A.1 0 1)))), (2, .int (zI (sumN (fun z_ => metF A.1 (A.1 0 4) z_) (A.1 0 1).toNat)))]) hx hb dL_sprites_223 hl (by decide) rfl (fun ls hl => ?_)
    -- loop 225
    refine z_loopH (nL := 10) (fun (y : Int) => [(0, .ref (a 0)), (1, .int (zI (cntI (isOn A.1) (A.1 0 1)))), (2, .int (zI (sumN (fun z_ => metF A.1 (A.1 0 4) z_) (A.1 0 1).toNat))), (3, .int (zI (cntI (fun z_ => decide (A.1 0 2 < cntI (isW A.1 z_) (A.1 0 1))) y))), (4, .int (zI (maxI (fun z_ => cntI (isW A.1 z_) (A.1 0 1)) y))), (5, .int (zI (cntI (hasSw A.1) y))), (6, .int (zI y))]) (fun (y : Int) (H : Heap) => (0 ≤ y ∧ y ≤ 32) ∧ XI G cs a a A H) (fun (y : Int) => (32 - y).toNat) (0 : Int) ⟨(by omega), hXI⟩ hS (by show lv_has ls 10 [(0, .ref (a 0)), (1, .int (zI (cntI (isOn A.1) (A.1 0 1)))), (2, .int (zI (sumN (fun z_ => metF A.1 (A.1 0 4) z_) (A.1 0 1).toNat))), (3, .int (zI (cntI (fun z_ => decide (A.1 0 2 < cntI (isW A.1 z_) (A.1 0 1))) (0 : Int)))), (4, .int (zI (maxI (fun z_ => cntI (isW A.1 z_) (A.1 0 1)) (0 : Int)))), (5, .int (zI (cntI (hasSw A.1) (0 : Int)))), (6, .int (zI (0 : Int)))]; rw [cntI_0 (fun z_ => decide (A.1 0 2 < cntI (isW A.1 z_) (A.1 0 1))), (show maxI (fun z_ => cntI (isW A.1 z_) (A.1 0 1)) 0 = 0 from rfl), cntI_0 (hasSw A.1)]; exact lv_sub hl [4, 5, 6, 3, 2, 1, 0] rfl) (fun y H locs hIH hS ih ls hl => ?_)
    obtain ⟨hI, hXI⟩ := hIH
    have hl : lv_has ls 10 [(0, .ref (a 0)), (1, .int (zI (cntI (isOn A.1) (A.1 0 1)))), (2, .int (zI (sumN (fun z_ => metF A.1 (A.1 0 4) z_) (A.1 0 1).toNat))), (3, .int (zI (cntI (fun z_ => decide (A.1 0 2 < cntI (isW A.1 z_) (A.1 0 1))) y))), (4, .int (zI (maxI (fun z_ => cntI (isW A.1 z_) (A.1 0 1)) y))), (5, .int (zI (cntI (hasSw A.1) y))), (6, .int (zI y))] := hl
    have hmr := maxI_r (f := fun z_ => cntI (isW A.1 z_) (A.1 0 1)) (m := 20) (by decide) (fun k => by have := cntI_r (isW A.1 k) w1.1; exact ⟨this.1, by omega⟩) y
    refine lv_iload hx hb dL_sprites_225 (lv_at hl 6 rfl) ?_
    refine z_bipush (n := 32) hx hb dL_sprites_227 (by decide) ?_
    refine z_icmp_ge (tgt := 308) hx hb dL_sprites_229 (by decide) (by omega) (by omega) (fun c9 => ?_) (fun c9 => ?_)
    · skip
      have ey : y = 32 := by omega
      subst ey
      refine z_iconst (n := 0) hx hb dL_sprites_308 ?_
      refine lv_istore (lv' := [(6, .int (zI 0)), (0, .ref (a 0)), (1, .int (zI (cntI (isOn A.1) (A.1 0 1)))), (2, .int (zI (sumN (fun z_ => metF A.1 (A.1 0 4) z_) (A.1 0 1).toNat))), (3, .int (zI (cntI (fun z_ => decide (A.1 0 2 < cntI (isW A.1 z_) (A.1 0 1))) (32 : Int)))), (4, .int (zI (maxI (fun z_ => cntI (isW A.1 z_) (A.1 0 1)) (32 : Int)))), (5, .int (zI (cntI (hasSw A.1) (32 : Int))))]) hx hb dL_sprites_309 hl (by decide) rfl (fun ls hl => ?_)
      refine z_iconst (n := 0) hx hb dL_sprites_311 ?_
      refine lv_istore (lv' := [(7, .int (zI 0)), (6, .int (zI 0)), (0, .ref (a 0)), (1, .int (zI (cntI (isOn A.1) (A.1 0 1)))), (2, .int (zI (sumN (fun z_ => metF A.1 (A.1 0 4) z_) (A.1 0 1).toNat))), (3, .int (zI (cntI (fun z_ => decide (A.1 0 2 < cntI (isW A.1 z_) (A.1 0 1))) (32 : Int)))), (4, .int (zI (maxI (fun z_ => cntI (isW A.1 z_) (A.1 0 1)) (32 : Int)))), (5, .int (zI (cntI (hasSw A.1) (32 : Int))))]) hx hb dL_sprites_312 hl (by decide) rfl (fun ls hl => ?_)
      -- loop 314
      refine z_loopH (nL := 10) (fun (p : Int) => [(0, .ref (a 0)), (1, .int (zI (cntI (isOn A.1) (A.1 0 1)))), (2, .int (zI (sumN (fun z_ => metF A.1 (A.1 0 4) z_) (A.1 0 1).toNat))), (3, .int (zI (cntI (fun z_ => decide (A.1 0 2 < cntI (isW A.1 z_) (A.1 0 1))) 32))), (4, .int (zI (maxI (fun z_ => cntI (isW A.1 z_) (A.1 0 1)) 32))), (5, .int (zI (cntI (hasSw A.1) 32))), (6, .int (zI (cntI (fun z_ => !isUsed A.1 z_) p))), (7, .int (zI p))]) (fun (p : Int) (H : Heap) => (0 ≤ p ∧ p ≤ A.1 0 0) ∧ XI G cs a a A H) (fun (p : Int) => (A.1 0 0 - p).toNat) (0 : Int) ⟨(by omega), hXI⟩ hS (by show lv_has ls 10 [(0, .ref (a 0)), (1, .int (zI (cntI (isOn A.1) (A.1 0 1)))), (2, .int (zI (sumN (fun z_ => metF A.1 (A.1 0 4) z_) (A.1 0 1).toNat))), (3, .int (zI (cntI (fun z_ => decide (A.1 0 2 < cntI (isW A.1 z_) (A.1 0 1))) 32))), (4, .int (zI (maxI (fun z_ => cntI (isW A.1 z_) (A.1 0 1)) 32))), (5, .int (zI (cntI (hasSw A.1) 32))), (6, .int (zI (cntI (fun z_ => !isUsed A.1 z_) (0 : Int)))), (7, .int (zI (0 : Int)))]; rw [cntI_0 (fun z_ => !isUsed A.1 z_)]; exact lv_sub hl [2, 3, 4, 5, 6, 7, 1, 0] rfl) (fun p H locs hIH hS ih ls hl => ?_)
      obtain ⟨hI, hXI⟩ := hIH
      have hl : lv_has ls 10 [(0, .ref (a 0)), (1, .int (zI (cntI (isOn A.1) (A.1 0 1)))), (2, .int (zI (sumN (fun z_ => metF A.1 (A.1 0 4) z_) (A.1 0 1).toNat))), (3, .int (zI (cntI (fun z_ => decide (A.1 0 2 < cntI (isW A.1 z_) (A.1 0 1))) 32))), (4, .int (zI (maxI (fun z_ => cntI (isW A.1 z_) (A.1 0 1)) 32))), (5, .int (zI (cntI (hasSw A.1) 32))), (6, .int (zI (cntI (fun z_ => !isUsed A.1 z_) p))), (7, .int (zI p))] := hl
      have ih3 := ih
      refine lv_iload hx hb dL_sprites_314 (lv_at hl 7 rfl) ?_
      refine lv_aload_n hx hb dL_sprites_316 rfl (lv_at hl 0 rfl) ?_
      refine z_iconst (n := 0) hx hb dL_sprites_317 ?_
      refine z_w (zrV (As := [.int (zI 0)]) (rest := [.int (zI p)]) ⟨hx, hb, hml, hown, hts⟩ (k_count l G cs a A 0 ia hA (by omega)) gL_sprites_X6_count rfl qX6_count rfl rfl ⟨Nat.le_of_ble_eq_true rfl, Nat.le_of_ble_eq_true rfl⟩ hXI hK (va_recv hK.1 hXI.xo (ci := 6) (q0 := 0) rfl rfl) hl.1 rfl (Nat.le_of_ble_eq_true rfl) dL_sprites_318 ⟨Nat.le_of_ble_eq_true rfl, Nat.le_of_ble_eq_true rfl⟩) hS (fun q h => h) (fun q h => h) (fun v H locs hpost hle hk hS => ?_)
      obtain ⟨rfl, hXI⟩ := hpost
      refine z_topi (b := A.1 0 0) ct_0 ?_
      refine z_icmp_ge (tgt := 391) hx hb dL_sprites_321 (by decide) (by omega) (by omega) (fun c102 => ?_) (fun c102 => ?_)
      · skip
        have ep : p = A.1 0 0 := by omega
        subst ep
        have hk1 := cntI_r (isOn A.1) w1.1
        have hk2 := cntI_r (fun z_ => decide (A.1 0 2 < cntI (isW A.1 z_) (A.1 0 1))) (show (0 : Int) ≤ 32 by decide)
        have hk3 := maxI_r (f := fun z_ => cntI (isW A.1 z_) (A.1 0 1)) (m := 20) (by decide) (fun k => by have := cntI_r (isW A.1 k) w1.1; exact ⟨this.1, by omega⟩) 32
        have hk4 := cntI_r (hasSw A.1) (show (0 : Int) ≤ 32 by decide)
        have hk5 := cntI_r (fun z_ => !isUsed A.1 z_) w0.1
        have hk6 : 0 ≤ sumN (fun z_ => metF A.1 (A.1 0 4) z_) (A.1 0 1).toNat ∧ sumN (fun z_ => metF A.1 (A.1 0 4) z_) (A.1 0 1).toNat ≤ 400 := by have h9 : 0 ≤ sumN (fun z_ => metF A.1 (A.1 0 4) z_) (A.1 0 1).toNat ∧ sumN (fun z_ => metF A.1 (A.1 0 4) z_) (A.1 0 1).toNat ≤ 20 * (((A.1 0 1).toNat : Nat) : Int) := sum_r (fun k => met_r hwf (A.1 0 4) k) (A.1 0 1).toNat; omega
        have hk7 : sumN (fun z_ => metF A.1 (A.1 0 4) z_) (A.1 0 1).toNat = 2 * pairsF A.1 (A.1 0 4) := pairs_2 A.1 (A.1 0 4)
        refine lv_aload_n hx hb dL_sprites_391 rfl (lv_at hl 0 rfl) ?_
        refine z_iconst (n := 2) hx hb dL_sprites_392 ?_
        refine z_w (zrV (As := [.int (zI 2)]) (rest := []) ⟨hx, hb, hml, hown, hts⟩ (k_count l G cs a A 2 ia hA (by omega)) gL_sprites_X6_count rfl qX6_count rfl rfl ⟨Nat.le_of_ble_eq_true rfl, Nat.le_of_ble_eq_true rfl⟩ hXI hK (va_recv hK.1 hXI.xo (ci := 6) (q0 := 0) rfl rfl) hl.1 rfl (Nat.le_of_ble_eq_true rfl) dL_sprites_393 ⟨Nat.le_of_ble_eq_true rfl, Nat.le_of_ble_eq_true rfl⟩) hS (fun q h => h) (fun q h => h) (fun v H locs hpost hle hk hS => ?_)
        obtain ⟨rfl, hXI⟩ := hpost
        refine z_topi (b := cntI (isOn A.1) (A.1 0 1)) ct_2 ?_
        refine lv_iload_n hx hb dL_sprites_396 rfl (lv_at hl 1 rfl) ?_
        refine z_icmp_ne (tgt := 481) hx hb dL_sprites_397 (by decide) (by omega) (by omega) (fun c103 => ?_) (fun c103 => ?_)
        · skip
          exfalso; omega
        · skip
          refine lv_aload_n hx hb dL_sprites_400 rfl (lv_at hl 0 rfl) ?_
          refine z_iconst (n := 3) hx hb dL_sprites_401 ?_
          refine z_w (zrV (As := [.int (zI 3)]) (rest := []) ⟨hx, hb, hml, hown, hts⟩ (k_count l G cs a A 3 ia hA (by omega)) gL_sprites_X6_count rfl qX6_count rfl rfl ⟨Nat.le_of_ble_eq_true rfl, Nat.le_of_ble_eq_true rfl⟩ hXI hK (va_recv hK.1 hXI.xo (ci := 6) (q0 := 0) rfl rfl) hl.1 rfl (Nat.le_of_ble_eq_true rfl) dL_sprites_402 ⟨Nat.le_of_ble_eq_true rfl, Nat.le_of_ble_eq_true rfl⟩) hS (fun q h => h) (fun q h => h) (fun v H locs hpost hle hk hS => ?_)
          obtain ⟨rfl, hXI⟩ := hpost
          refine z_topi (b := cntI (fun z_ => decide (A.1 0 2 < cntI (isW A.1 z_) (A.1 0 1))) 32) ct_3 ?_
          refine lv_iload_n hx hb dL_sprites_405 rfl (lv_at hl 3 rfl) ?_
          refine z_icmp_ne (tgt := 481) hx hb dL_sprites_406 (by decide) (by omega) (by omega) (fun c104 => ?_) (fun c104 => ?_)
          · skip
            exfalso; omega
          · skip
            refine lv_aload_n hx hb dL_sprites_409 rfl (lv_at hl 0 rfl) ?_
            refine z_iconst (n := 4) hx hb dL_sprites_410 ?_
            refine z_w (zrV (As := [.int (zI 4)]) (rest := []) ⟨hx, hb, hml, hown, hts⟩ (k_count l G cs a A 4 ia hA (by omega)) gL_sprites_X6_count rfl qX6_count rfl rfl ⟨Nat.le_of_ble_eq_true rfl, Nat.le_of_ble_eq_true rfl⟩ hXI hK (va_recv hK.1 hXI.xo (ci := 6) (q0 := 0) rfl rfl) hl.1 rfl (Nat.le_of_ble_eq_true rfl) dL_sprites_411 ⟨Nat.le_of_ble_eq_true rfl, Nat.le_of_ble_eq_true rfl⟩) hS (fun q h => h) (fun q h => h) (fun v H locs hpost hle hk hS => ?_)
            obtain ⟨rfl, hXI⟩ := hpost
            refine z_topi (b := maxI (fun z_ => cntI (isW A.1 z_) (A.1 0 1)) 32) ct_4 ?_
            refine lv_iload hx hb dL_sprites_414 (lv_at hl 4 rfl) ?_
            refine z_icmp_ne (tgt := 481) hx hb dL_sprites_416 (by decide) (by omega) (by omega) (fun c105 => ?_) (fun c105 => ?_)
            · skip
              exfalso; omega
            · skip
              refine lv_aload_n hx hb dL_sprites_419 rfl (lv_at hl 0 rfl) ?_
              refine z_iconst (n := 5) hx hb dL_sprites_420 ?_
              refine z_w (zrV (As := [.int (zI 5)]) (rest := []) ⟨hx, hb, hml, hown, hts⟩ (k_count l G cs a A 5 ia hA (by omega)) gL_sprites_X6_count rfl qX6_count rfl rfl ⟨Nat.le_of_ble_eq_true rfl, Nat.le_of_ble_eq_true rfl⟩ hXI hK (va_recv hK.1 hXI.xo (ci := 6) (q0 := 0) rfl rfl) hl.1 rfl (Nat.le_of_ble_eq_true rfl) dL_sprites_421 ⟨Nat.le_of_ble_eq_true rfl, Nat.le_of_ble_eq_true rfl⟩) hS (fun q h => h) (fun q h => h) (fun v H locs hpost hle hk hS => ?_)
              obtain ⟨rfl, hXI⟩ := hpost
              refine z_topi (b := cntI (hasSw A.1) 32) ct_5 ?_
              refine lv_iload hx hb dL_sprites_424 (lv_at hl 5 rfl) ?_
              refine z_icmp_ne (tgt := 481) hx hb dL_sprites_426 (by decide) (by omega) (by omega) (fun c106 => ?_) (fun c106 => ?_)
              · skip
                exfalso; omega
              · skip
                refine z_iconst (n := 2) hx hb dL_sprites_429 ?_
                refine lv_aload_n hx hb dL_sprites_430 rfl (lv_at hl 0 rfl) ?_
                refine z_bipush (n := 6) hx hb dL_sprites_431 (by decide) ?_
                refine z_w (zrV (As := [.int (zI 6)]) (rest := [.int (zI 2)]) ⟨hx, hb, hml, hown, hts⟩ (k_count l G cs a A 6 ia hA (by omega)) gL_sprites_X6_count rfl qX6_count rfl rfl ⟨Nat.le_of_ble_eq_true rfl, Nat.le_of_ble_eq_true rfl⟩ hXI hK (va_recv hK.1 hXI.xo (ci := 6) (q0 := 0) rfl rfl) hl.1 rfl (Nat.le_of_ble_eq_true rfl) dL_sprites_433 ⟨Nat.le_of_ble_eq_true rfl, Nat.le_of_ble_eq_true rfl⟩) hS (fun q h => h) (fun q h => h) (fun v H locs hpost hle hk hS => ?_)
                obtain ⟨rfl, hXI⟩ := hpost
                refine z_topi (b := pairsF A.1 (A.1 0 4)) ct_6 ?_
                refine z_imul hx hb dL_sprites_436 ?_
                refine lv_iload_n hx hb dL_sprites_437 rfl (lv_at hl 2 rfl) ?_
                refine z_icmp_ne (tgt := 481) hx hb dL_sprites_438 (by decide) (by omega) (by omega) (fun c107 => ?_) (fun c107 => ?_)
                · skip
                  exfalso; omega
                · skip
                  refine lv_aload_n hx hb dL_sprites_441 rfl (lv_at hl 0 rfl) ?_
                  refine z_bipush (n := 7) hx hb dL_sprites_442 (by decide) ?_
                  refine z_w (zrV (As := [.int (zI 7)]) (rest := []) ⟨hx, hb, hml, hown, hts⟩ (k_count l G cs a A 7 ia hA (by omega)) gL_sprites_X6_count rfl qX6_count rfl rfl ⟨Nat.le_of_ble_eq_true rfl, Nat.le_of_ble_eq_true rfl⟩ hXI hK (va_recv hK.1 hXI.xo (ci := 6) (q0 := 0) rfl rfl) hl.1 rfl (Nat.le_of_ble_eq_true rfl) dL_sprites_444 ⟨Nat.le_of_ble_eq_true rfl, Nat.le_of_ble_eq_true rfl⟩) hS (fun q h => h) (fun q h => h) (fun v H locs hpost hle hk hS => ?_)
                  obtain ⟨rfl, hXI⟩ := hpost
                  refine z_topi (b := cntI (fun z_ => !isUsed A.1 z_) (A.1 0 0)) ct_7 ?_
                  refine lv_iload hx hb dL_sprites_447 (lv_at hl 6 rfl) ?_
                  refine z_icmp_ne (tgt := 481) hx hb dL_sprites_449 (by decide) (by omega) (by omega) (fun c108 => ?_) (fun c108 => ?_)
                  · skip
                    exfalso; omega
                  · skip
                    refine lv_aload_n hx hb dL_sprites_452 rfl (lv_at hl 0 rfl) ?_
                    refine z_bipush (n := 14) hx hb dL_sprites_453 (by decide) ?_
                    refine z_w (zrV (As := [.int (zI 14)]) (rest := []) ⟨hx, hb, hml, hown, hts⟩ (k_count l G cs a A 14 ia hA (by omega)) gL_sprites_X6_count rfl qX6_count rfl rfl ⟨Nat.le_of_ble_eq_true rfl, Nat.le_of_ble_eq_true rfl⟩ hXI hK (va_recv hK.1 hXI.xo (ci := 6) (q0 := 0) rfl rfl) hl.1 rfl (Nat.le_of_ble_eq_true rfl) dL_sprites_455 ⟨Nat.le_of_ble_eq_true rfl, Nat.le_of_ble_eq_true rfl⟩) hS (fun q h => h) (fun q h => h) (fun v H locs hpost hle hk hS => ?_)
                    obtain ⟨rfl, hXI⟩ := hpost
                    refine z_topi (b := (-2)) ct_14 ?_
                    refine z_bipush (n := -2) hx hb dL_sprites_458 (by decide) ?_
                    refine z_icmp_ne (tgt := 481) hx hb dL_sprites_460 (by decide) (by omega) (by omega) (fun c109 => ?_) (fun c109 => ?_)
                    · skip
                      exfalso; omega
                    · skip
                      refine lv_aload_n hx hb dL_sprites_463 rfl (lv_at hl 0 rfl) ?_
                      refine lv_aload_n hx hb dL_sprites_464 rfl (lv_at hl 0 rfl) ?_
                      refine z_iconst (n := 1) hx hb dL_sprites_465 ?_
                      refine z_w (zrV (As := [.int (zI 1)]) (rest := [.ref (a 0)]) ⟨hx, hb, hml, hown, hts⟩ (k_count l G cs a A 1 ia hA (by omega)) gL_sprites_X6_count rfl qX6_count rfl rfl ⟨Nat.le_of_ble_eq_true rfl, Nat.le_of_ble_eq_true rfl⟩ hXI hK (va_recv hK.1 hXI.xo (ci := 6) (q0 := 0) rfl rfl) hl.1 rfl (Nat.le_of_ble_eq_true rfl) dL_sprites_466 ⟨Nat.le_of_ble_eq_true rfl, Nat.le_of_ble_eq_true rfl⟩) hS (fun q h => h) (fun q h => h) (fun v H locs hpost hle hk hS => ?_)
                      obtain ⟨rfl, hXI⟩ := hpost
                      refine z_topi (b := A.1 0 1) ct_1 ?_
                      refine z_iconst (n := 0) hx hb dL_sprites_469 ?_
                      refine z_w (zrV (As := [.int (zI (A.1 0 1)), .int (zI 0)]) (rest := []) ⟨hx, hb, hml, hown, hts⟩ (k_sprite l G cs a A (A.1 0 1) 0 ia hA (by omega) (by omega)) gL_sprites_X6_sprite rfl qX6_sprite rfl rfl ⟨Nat.le_of_ble_eq_true rfl, Nat.le_of_ble_eq_true rfl⟩ hXI hK (va_recv hK.1 hXI.xo (ci := 6) (q0 := 0) rfl rfl) hl.1 rfl (Nat.le_of_ble_eq_true rfl) dL_sprites_470 ⟨Nat.le_of_ble_eq_true rfl, Nat.le_of_ble_eq_true rfl⟩) hS (fun q h => h) (fun q h => h) (fun v H locs hpost hle hk hS => ?_)
                      obtain ⟨rfl, hXI⟩ := hpost
                      refine z_topi (b := (-1)) (sp_no (by omega)) ?_
                      refine z_iconst (n := -1) hx hb dL_sprites_473 ?_
                      refine z_icmp_ne (tgt := 481) hx hb dL_sprites_474 (by decide) (by omega) (by omega) (fun c110 => ?_) (fun c110 => ?_)
                      · skip
                        exfalso; omega
                      · skip
                        refine z_iconst (n := 1) hx hb dL_sprites_477 ?_
                        refine lv_goto (tgt := 482) hx hb dL_sprites_478 (by decide) ?_
                        exact w_zret hx hb hr hlk dL_sprites_482 (by omega) hS ⟨rfl, hXI⟩
      · skip
        refine z_iconst (n := 0) hx hb dL_sprites_324 ?_
        refine lv_istore (lv' := [(8, .int (zI 0)), (0, .ref (a 0)), (1, .int (zI (cntI (isOn A.1) (A.1 0 1)))), (2, .int (zI (sumN (fun z_ => metF A.1 (A.1 0 4) z_) (A.1 0 1).toNat))), (3, .int (zI (cntI (fun z_ => decide (A.1 0 2 < cntI (isW A.1 z_) (A.1 0 1))) 32))), (4, .int (zI (maxI (fun z_ => cntI (isW A.1 z_) (A.1 0 1)) 32))), (5, .int (zI (cntI (hasSw A.1) 32))), (6, .int (zI (cntI (fun z_ => !isUsed A.1 z_) p))), (7, .int (zI p))]) hx hb dL_sprites_325 hl (by decide) rfl (fun ls hl => ?_)
        refine z_iconst (n := 0) hx hb dL_sprites_327 ?_
        refine lv_istore (lv' := [(9, .int (zI 0)), (8, .int (zI 0)), (0, .ref (a 0)), (1, .int (zI (cntI (isOn A.1) (A.1 0 1)))), (2, .int (zI (sumN (fun z_ => metF A.1 (A.1 0 4) z_) (A.1 0 1).toNat))), (3, .int (zI (cntI (fun z_ => decide (A.1 0 2 < cntI (isW A.1 z_) (A.1 0 1))) 32))), (4, .int (zI (maxI (fun z_ => cntI (isW A.1 z_) (A.1 0 1)) 32))), (5, .int (zI (cntI (hasSw A.1) 32))), (6, .int (zI (cntI (fun z_ => !isUsed A.1 z_) p))), (7, .int (zI p))]) hx hb dL_sprites_328 hl (by decide) rfl (fun ls hl => ?_)
        -- loop 330
        have hIp := hI
        refine z_loopH (nL := 10) (fun (x : Int) => [(0, .ref (a 0)), (1, .int (zI (cntI (isOn A.1) (A.1 0 1)))), (2, .int (zI (sumN (fun z_ => metF A.1 (A.1 0 4) z_) (A.1 0 1).toNat))), (3, .int (zI (cntI (fun z_ => decide (A.1 0 2 < cntI (isW A.1 z_) (A.1 0 1))) 32))), (4, .int (zI (maxI (fun z_ => cntI (isW A.1 z_) (A.1 0 1)) 32))), (5, .int (zI (cntI (hasSw A.1) 32))), (6, .int (zI (cntI (fun z_ => !isUsed A.1 z_) p))), (7, .int (zI p)), (8, .int (zI (b2 (anyN (fun z_ => decide (A.1 1 (6 * z_ + 0) = p)) x.toNat)))), (9, .int (zI x))]) (fun (x : Int) (H : Heap) => (0 ≤ x ∧ x ≤ A.1 0 1) ∧ XI G cs a a A H) (fun (x : Int) => (A.1 0 1 - x).toNat) (0 : Int) ⟨(by omega), hXI⟩ hS (by show lv_has ls 10 [(0, .ref (a 0)), (1, .int (zI (cntI (isOn A.1) (A.1 0 1)))), (2, .int (zI (sumN (fun z_ => metF A.1 (A.1 0 4) z_) (A.1 0 1).toNat))), (3, .int (zI (cntI (fun z_ => decide (A.1 0 2 < cntI (isW A.1 z_) (A.1 0 1))) 32))), (4, .int (zI (maxI (fun z_ => cntI (isW A.1 z_) (A.1 0 1)) 32))), (5, .int (zI (cntI (hasSw A.1) 32))), (6, .int (zI (cntI (fun z_ => !isUsed A.1 z_) p))), (7, .int (zI p)), (8, .int (zI (b2 (anyN (fun z_ => decide (A.1 1 (6 * z_ + 0) = p)) (0 : Int).toNat)))), (9, .int (zI (0 : Int)))]; rw [(show b2 (anyN (fun z_ => decide (A.1 1 (6 * z_ + 0) = p)) (0 : Int).toNat) = 0 from rfl)]; exact lv_sub hl [2, 3, 4, 5, 6, 7, 8, 9, 1, 0] rfl) (fun x H locs hIH hS ih ls hl => ?_)
        obtain ⟨hI, hXI⟩ := hIH
        have hl : lv_has ls 10 [(0, .ref (a 0)), (1, .int (zI (cntI (isOn A.1) (A.1 0 1)))), (2, .int (zI (sumN (fun z_ => metF A.1 (A.1 0 4) z_) (A.1 0 1).toNat))), (3, .int (zI (cntI (fun z_ => decide (A.1 0 2 < cntI (isW A.1 z_) (A.1 0 1))) 32))), (4, .int (zI (maxI (fun z_ => cntI (isW A.1 z_) (A.1 0 1)) 32))), (5, .int (zI (cntI (hasSw A.1) 32))), (6, .int (zI (cntI (fun z_ => !isUsed A.1 z_) p))), (7, .int (zI p)), (8, .int (zI (b2 (anyN (fun z_ => decide (A.1 1 (6 * z_ + 0) = p)) x.toNat)))), (9, .int (zI x))] := hl
        refine lv_iload hx hb dL_sprites_330 (lv_at hl 9 rfl) ?_
        refine lv_aload_n hx hb dL_sprites_332 rfl (lv_at hl 0 rfl) ?_
        refine z_iconst (n := 1) hx hb dL_sprites_333 ?_
        refine z_w (zrV (As := [.int (zI 1)]) (rest := [.int (zI x)]) ⟨hx, hb, hml, hown, hts⟩ (k_count l G cs a A 1 ia hA (by omega)) gL_sprites_X6_count rfl qX6_count rfl rfl ⟨Nat.le_of_ble_eq_true rfl, Nat.le_of_ble_eq_true rfl⟩ hXI hK (va_recv hK.1 hXI.xo (ci := 6) (q0 := 0) rfl rfl) hl.1 rfl (Nat.le_of_ble_eq_true rfl) dL_sprites_334 ⟨Nat.le_of_ble_eq_true rfl, Nat.le_of_ble_eq_true rfl⟩) hS (fun q h => h) (fun q h => h) (fun v H locs hpost hle hk hS => ?_)
        obtain ⟨rfl, hXI⟩ := hpost
        refine z_topi (b := A.1 0 1) ct_1 ?_
        refine z_icmp_ge (tgt := 370) hx hb dL_sprites_337 (by decide) (by omega) (by omega) (fun c111 => ?_) (fun c111 => ?_)
        · skip
          have ex : x = A.1 0 1 := by omega
          subst ex
          refine lv_iload hx hb dL_sprites_370 (lv_at hl 6 rfl) ?_
          refine lv_iload hx hb dL_sprites_372 (lv_at hl 8 rfl) ?_
          refine z_bif_eq (tgt := 381) hx hb dL_sprites_374 (by decide) (fun c6 => ?_) (fun c6 => ?_)
          · skip
            refine z_iconst (n := 1) hx hb dL_sprites_381 ?_
            refine z_iadd hx hb dL_sprites_382 ?_
            refine lv_istore (lv' := [(6, .int (zI ((cntI (fun z_ => !isUsed A.1 z_) p) + 1))), (0, .ref (a 0)), (1, .int (zI (cntI (isOn A.1) (A.1 0 1)))), (2, .int (zI (sumN (fun z_ => metF A.1 (A.1 0 4) z_) (A.1 0 1).toNat))), (3, .int (zI (cntI (fun z_ => decide (A.1 0 2 < cntI (isW A.1 z_) (A.1 0 1))) 32))), (4, .int (zI (maxI (fun z_ => cntI (isW A.1 z_) (A.1 0 1)) 32))), (5, .int (zI (cntI (hasSw A.1) 32))), (7, .int (zI p)), (8, .int (zI (b2 (anyN (fun z_ => decide (A.1 1 (6 * z_ + 0) = p)) (A.1 0 1).toNat)))), (9, .int (zI (A.1 0 1)))]) hx hb dL_sprites_383 hl (by decide) rfl (fun ls hl => ?_)
            refine z_iinc (k := 7) (lv' := [(7, .int (zI (p + 1))), (6, .int (zI ((cntI (fun z_ => !isUsed A.1 z_) p) + 1))), (0, .ref (a 0)), (1, .int (zI (cntI (isOn A.1) (A.1 0 1)))), (2, .int (zI (sumN (fun z_ => metF A.1 (A.1 0 4) z_) (A.1 0 1).toNat))), (3, .int (zI (cntI (fun z_ => decide (A.1 0 2 < cntI (isW A.1 z_) (A.1 0 1))) 32))), (4, .int (zI (maxI (fun z_ => cntI (isW A.1 z_) (A.1 0 1)) 32))), (5, .int (zI (cntI (hasSw A.1) 32))), (8, .int (zI (b2 (anyN (fun z_ => decide (A.1 1 (6 * z_ + 0) = p)) (A.1 0 1).toNat)))), (9, .int (zI (A.1 0 1)))]) hx hb dL_sprites_385 hl rfl (by decide) rfl (fun ls hl => ?_)
            refine lv_goto (tgt := 314) hx hb dL_sprites_388 (by decide) ?_
            have hb1 : cntI (fun z_ => !isUsed A.1 z_) (p + 1) = cntI (fun z_ => !isUsed A.1 z_) p + 1 := cntI_t hIp.1 (by rw [show isUsed A.1 p = false from c6]; rfl)
            exact ih3 (p + 1) H locs ⟨(by omega), hXI⟩ hS (by omega) ls (by show lv_has ls 10 [(0, .ref (a 0)), (1, .int (zI (cntI (isOn A.1) (A.1 0 1)))), (2, .int (zI (sumN (fun z_ => metF A.1 (A.1 0 4) z_) (A.1 0 1).toNat))), (3, .int (zI (cntI (fun z_ => decide (A.1 0 2 < cntI (isW A.1 z_) (A.1 0 1))) 32))), (4, .int (zI (maxI (fun z_ => cntI (isW A.1 z_) (A.1 0 1)) 32))), (5, .int (zI (cntI (hasSw A.1) 32))), (6, .int (zI (cntI (fun z_ => !isUsed A.1 z_) (p + 1)))), (7, .int (zI (p + 1)))]; rw [hb1]; exact lv_sub hl [2, 3, 4, 5, 6, 7, 1, 0] rfl)
          · skip
            refine z_iconst (n := 0) hx hb dL_sprites_377 ?_
            refine lv_goto (tgt := 382) hx hb dL_sprites_378 (by decide) ?_
            refine z_iadd hx hb dL_sprites_382 ?_
            refine lv_istore (lv' := [(6, .int (zI ((cntI (fun z_ => !isUsed A.1 z_) p) + 0))), (0, .ref (a 0)), (1, .int (zI (cntI (isOn A.1) (A.1 0 1)))), (2, .int (zI (sumN (fun z_ => metF A.1 (A.1 0 4) z_) (A.1 0 1).toNat))), (3, .int (zI (cntI (fun z_ => decide (A.1 0 2 < cntI (isW A.1 z_) (A.1 0 1))) 32))), (4, .int (zI (maxI (fun z_ => cntI (isW A.1 z_) (A.1 0 1)) 32))), (5, .int (zI (cntI (hasSw A.1) 32))), (7, .int (zI p)), (8, .int (zI (b2 (anyN (fun z_ => decide (A.1 1 (6 * z_ + 0) = p)) (A.1 0 1).toNat)))), (9, .int (zI (A.1 0 1)))]) hx hb dL_sprites_383 hl (by decide) rfl (fun ls hl => ?_)
            refine z_iinc (k := 7) (lv' := [(7, .int (zI (p + 1))), (6, .int (zI ((cntI (fun z_ => !isUsed A.1 z_) p) + 0))), (0, .ref (a 0)), (1, .int (zI (cntI (isOn A.1) (A.1 0 1)))), (2, .int (zI (sumN (fun z_ => metF A.1 (A.1 0 4) z_) (A.1 0 1).toNat))), (3, .int (zI (cntI (fun z_ => decide (A.1 0 2 < cntI (isW A.1 z_) (A.1 0 1))) 32))), (4, .int (zI (maxI (fun z_ => cntI (isW A.1 z_) (A.1 0 1)) 32))), (5, .int (zI (cntI (hasSw A.1) 32))), (8, .int (zI (b2 (anyN (fun z_ => decide (A.1 1 (6 * z_ + 0) = p)) (A.1 0 1).toNat)))), (9, .int (zI (A.1 0 1)))]) hx hb dL_sprites_385 hl rfl (by decide) rfl (fun ls hl => ?_)
            refine lv_goto (tgt := 314) hx hb dL_sprites_388 (by decide) ?_
            have hb1 : cntI (fun z_ => !isUsed A.1 z_) (p + 1) = cntI (fun z_ => !isUsed A.1 z_) p + 0 := (cntI_f hIp.1 (by rw [show isUsed A.1 p = true from c6]; rfl)).trans (Int.add_zero _).symm
            exact ih3 (p + 1) H locs ⟨(by omega), hXI⟩ hS (by omega) ls (by show lv_has ls 10 [(0, .ref (a 0)), (1, .int (zI (cntI (isOn A.1) (A.1 0 1)))), (2, .int (zI (sumN (fun z_ => metF A.1 (A.1 0 4) z_) (A.1 0 1).toNat))), (3, .int (zI (cntI (fun z_ => decide (A.1 0 2 < cntI (isW A.1 z_) (A.1 0 1))) 32))), (4, .int (zI (maxI (fun z_ => cntI (isW A.1 z_) (A.1 0 1)) 32))), (5, .int (zI (cntI (hasSw A.1) 32))), (6, .int (zI (cntI (fun z_ => !isUsed A.1 z_) (p + 1)))), (7, .int (zI (p + 1)))]; rw [hb1]; exact lv_sub hl [2, 3, 4, 5, 6, 7, 1, 0] rfl)
        · skip
          refine lv_iload hx hb dL_sprites_340 (lv_at hl 8 rfl) ?_
          refine z_bif_ne (tgt := 357) hx hb dL_sprites_342 (by decide) (fun c8 => ?_) (fun c8 => ?_)
          · skip
            refine z_iconst (n := 1) hx hb dL_sprites_357 ?_
            refine lv_goto (tgt := 362) hx hb dL_sprites_358 (by decide) ?_
            refine lv_istore (lv' := [(8, .int (zI 1)), (0, .ref (a 0)), (1, .int (zI (cntI (isOn A.1) (A.1 0 1)))), (2, .int (zI (sumN (fun z_ => metF A.1 (A.1 0 4) z_) (A.1 0 1).toNat))), (3, .int (zI (cntI (fun z_ => decide (A.1 0 2 < cntI (isW A.1 z_) (A.1 0 1))) 32))), (4, .int (zI (maxI (fun z_ => cntI (isW A.1 z_) (A.1 0 1)) 32))), (5, .int (zI (cntI (hasSw A.1) 32))), (6, .int (zI (cntI (fun z_ => !isUsed A.1 z_) p))), (7, .int (zI p)), (9, .int (zI x))]) hx hb dL_sprites_362 hl (by decide) rfl (fun ls hl => ?_)
            refine z_iinc (k := 9) (lv' := [(9, .int (zI (x + 1))), (8, .int (zI 1)), (0, .ref (a 0)), (1, .int (zI (cntI (isOn A.1) (A.1 0 1)))), (2, .int (zI (sumN (fun z_ => metF A.1 (A.1 0 4) z_) (A.1 0 1).toNat))), (3, .int (zI (cntI (fun z_ => decide (A.1 0 2 < cntI (isW A.1 z_) (A.1 0 1))) 32))), (4, .int (zI (maxI (fun z_ => cntI (isW A.1 z_) (A.1 0 1)) 32))), (5, .int (zI (cntI (hasSw A.1) 32))), (6, .int (zI (cntI (fun z_ => !isUsed A.1 z_) p))), (7, .int (zI p))]) hx hb dL_sprites_364 hl rfl (by decide) rfl (fun ls hl => ?_)
            refine lv_goto (tgt := 330) hx hb dL_sprites_367 (by decide) ?_
            have hb1 : b2 (anyN (fun z_ => decide (A.1 1 (6 * z_ + 0) = p)) (x + 1).toNat) = 1 := b2_t (by rw [any_s hI.1, show anyN (fun z_ => decide (A.1 1 (6 * z_ + 0) = p)) x.toNat = true from c8]; rfl)
            exact ih (x + 1) H locs ⟨(by omega), hXI⟩ hS (by omega) ls (by show lv_has ls 10 [(0, .ref (a 0)), (1, .int (zI (cntI (isOn A.1) (A.1 0 1)))), (2, .int (zI (sumN (fun z_ => metF A.1 (A.1 0 4) z_) (A.1 0 1).toNat))), (3, .int (zI (cntI (fun z_ => decide (A.1 0 2 < cntI (isW A.1 z_) (A.1 0 1))) 32))), (4, .int (zI (maxI (fun z_ => cntI (isW A.1 z_) (A.1 0 1)) 32))), (5, .int (zI (cntI (hasSw A.1) 32))), (6, .int (zI (cntI (fun z_ => !isUsed A.1 z_) p))), (7, .int (zI p)), (8, .int (zI (b2 (anyN (fun z_ => decide (A.1 1 (6 * z_ + 0) = p)) (x + 1).toNat)))), (9, .int (zI (x + 1)))]; rw [hb1]; exact lv_sub hl [2, 3, 4, 5, 6, 7, 8, 9, 1, 0] rfl)
          · skip
            refine lv_aload_n hx hb dL_sprites_345 rfl (lv_at hl 0 rfl) ?_
            refine lv_iload hx hb dL_sprites_346 (lv_at hl 9 rfl) ?_
            refine z_iconst (n := 0) hx hb dL_sprites_348 ?_
            have hpx := wP x (by omega) (by omega)
            refine z_w (zrV (As := [.int (zI x), .int (zI 0)]) (rest := []) ⟨hx, hb, hml, hown, hts⟩ (k_sprite l G cs a A x 0 ia hA (by omega) (by omega)) gL_sprites_X6_sprite rfl qX6_sprite rfl rfl ⟨Nat.le_of_ble_eq_true rfl, Nat.le_of_ble_eq_true rfl⟩ hXI hK (va_recv hK.1 hXI.xo (ci := 6) (q0 := 0) rfl rfl) hl.1 rfl (Nat.le_of_ble_eq_true rfl) dL_sprites_349 ⟨Nat.le_of_ble_eq_true rfl, Nat.le_of_ble_eq_true rfl⟩) hS (fun q h => h) (fun q h => h) (fun v H locs hpost hle hk hS => ?_)
            obtain ⟨rfl, hXI⟩ := hpost
            refine z_topi (b := A.1 1 (6 * x + 0)) (sp_at (by omega) (by decide)) ?_
            refine lv_iload hx hb dL_sprites_352 (lv_at hl 7 rfl) ?_
            refine z_icmp_ne (tgt := 361) hx hb dL_sprites_354 (by decide) (by omega) (by omega) (fun c7 => ?_) (fun c7 => ?_)
            · skip
              refine z_iconst (n := 0) hx hb dL_sprites_361 ?_
              refine lv_istore (lv' := [(8, .int (zI 0)), (0, .ref (a 0)), (1, .int (zI (cntI (isOn A.1) (A.1 0 1)))), (2, .int (zI (sumN (fun z_ => metF A.1 (A.1 0 4) z_) (A.1 0 1).toNat))), (3, .int (zI (cntI (fun z_ => decide (A.1 0 2 < cntI (isW A.1 z_) (A.1 0 1))) 32))), (4, .int (zI (maxI (fun z_ => cntI (isW A.1 z_) (A.1 0 1)) 32))), (5, .int (zI (cntI (hasSw A.1) 32))), (6, .int (zI (cntI (fun z_ => !isUsed A.1 z_) p))), (7, .int (zI p)), (9, .int (zI x))]) hx hb dL_sprites_362 hl (by decide) rfl (fun ls hl => ?_)
              refine z_iinc (k := 9) (lv' := [(9, .int (zI (x + 1))), (8, .int (zI 0)), (0, .ref (a 0)), (1, .int (zI (cntI (isOn A.1) (A.1 0 1)))), (2, .int (zI (sumN (fun z_ => metF A.1 (A.1 0 4) z_) (A.1 0 1).toNat))), (3, .int (zI (cntI (fun z_ => decide (A.1 0 2 < cntI (isW A.1 z_) (A.1 0 1))) 32))), (4, .int (zI (maxI (fun z_ => cntI (isW A.1 z_) (A.1 0 1)) 32))), (5, .int (zI (cntI (hasSw A.1) 32))), (6, .int (zI (cntI (fun z_ => !isUsed A.1 z_) p))), (7, .int (zI p))]) hx hb dL_sprites_364 hl rfl (by decide) rfl (fun ls hl => ?_)
              refine lv_goto (tgt := 330) hx hb dL_sprites_367 (by decide) ?_
              have hb1 : b2 (anyN (fun z_ => decide (A.1 1 (6 * z_ + 0) = p)) (x + 1).toNat) = 0 := b2_f (by rw [any_sf hI.1 (decide_eq_false c7)]; exact c8)
              exact ih (x + 1) H locs ⟨(by omega), hXI⟩ hS (by omega) ls (by show lv_has ls 10 [(0, .ref (a 0)), (1, .int (zI (cntI (isOn A.1) (A.1 0 1)))), (2, .int (zI (sumN (fun z_ => metF A.1 (A.1 0 4) z_) (A.1 0 1).toNat))), (3, .int (zI (cntI (fun z_ => decide (A.1 0 2 < cntI (isW A.1 z_) (A.1 0 1))) 32))), (4, .int (zI (maxI (fun z_ => cntI (isW A.1 z_) (A.1 0 1)) 32))), (5, .int (zI (cntI (hasSw A.1) 32))), (6, .int (zI (cntI (fun z_ => !isUsed A.1 z_) p))), (7, .int (zI p)), (8, .int (zI (b2 (anyN (fun z_ => decide (A.1 1 (6 * z_ + 0) = p)) (x + 1).toNat)))), (9, .int (zI (x + 1)))]; rw [hb1]; exact lv_sub hl [2, 3, 4, 5, 6, 7, 8, 9, 1, 0] rfl)
            · skip
              refine z_iconst (n := 1) hx hb dL_sprites_357 ?_
              refine lv_goto (tgt := 362) hx hb dL_sprites_358 (by decide) ?_
              refine lv_istore (lv' := [(8, .int (zI 1)), (0, .ref (a 0)), (1, .int (zI (cntI (isOn A.1) (A.1 0 1)))), (2, .int (zI (sumN (fun z_ => metF A.1 (A.1 0 4) z_) (A.1 0 1).toNat))), (3, .int (zI (cntI (fun z_ => decide (A.1 0 2 < cntI (isW A.1 z_) (A.1 0 1))) 32))), (4, .int (zI (maxI (fun z_ => cntI (isW A.1 z_) (A.1 0 1)) 32))), (5, .int (zI (cntI (hasSw A.1) 32))), (6, .int (zI (cntI (fun z_ => !isUsed A.1 z_) p))), (7, .int (zI p)), (9, .int (zI x))]) hx hb dL_sprites_362 hl (by decide) rfl (fun ls hl => ?_)
              refine z_iinc (k := 9) (lv' := [(9, .int (zI (x + 1))), (8, .int (zI 1)), (0, .ref (a 0)), (1, .int (zI (cntI (isOn A.1) (A.1 0 1)))), (2, .int (zI (sumN (fun z_ => metF A.1 (A.1 0 4) z_) (A.1 0 1).toNat))), (3, .int (zI (cntI (fun z_ => decide (A.1 0 2 < cntI (isW A.1 z_) (A.1 0 1))) 32))), (4, .int (zI (maxI (fun z_ => cntI (isW A.1 z_) (A.1 0 1)) 32))), (5, .int (zI (cntI (hasSw A.1) 32))), (6, .int (zI (cntI (fun z_ => !isUsed A.1 z_) p))), (7, .int (zI p))]) hx hb dL_sprites_364 hl rfl (by decide) rfl (fun ls hl => ?_)
              refine lv_goto (tgt := 330) hx hb dL_sprites_367 (by decide) ?_
              have hb1 : b2 (anyN (fun z_ => decide (A.1 1 (6 * z_ + 0) = p)) (x + 1).toNat) = 1 := b2_t (any_st hI.1 (decide_eq_true c7))
              exact ih (x + 1) H locs ⟨(by omega), hXI⟩ hS (by omega) ls (by show lv_has ls 10 [(0, .ref (a 0)), (1, .int (zI (cntI (isOn A.1) (A.1 0 1)))), (2, .int (zI (sumN (fun z_ => metF A.1 (A.1 0 4) z_) (A.1 0 1).toNat))), (3, .int (zI (cntI (fun z_ => decide (A.1 0 2 < cntI (isW A.1 z_) (A.1 0 1))) 32))), (4, .int (zI (maxI (fun z_ => cntI (isW A.1 z_) (A.1 0 1)) 32))), (5, .int (zI (cntI (hasSw A.1) 32))), (6, .int (zI (cntI (fun z_ => !isUsed A.1 z_) p))), (7, .int (zI p)), (8, .int (zI (b2 (anyN (fun z_ => decide (A.1 1 (6 * z_ + 0) = p)) (x + 1).toNat)))), (9, .int (zI (x + 1)))]; rw [hb1]; exact lv_sub hl [2, 3, 4, 5, 6, 7, 8, 9, 1, 0] rfl)
    · skip
      have hq9 : 0 ≤ y ∧ y < 32 := by omega
      have hcw := cntI_r (isW A.1 y) w1.1
      have h34 := ln_34 hwf hq9
      refine lv_iload_n hx hb dL_sprites_232 rfl (lv_at hl 3 rfl) ?_
      refine lv_aload_n hx hb dL_sprites_233 rfl (lv_at hl 0 rfl) ?_
      refine lv_iload hx hb dL_sprites_234 (lv_at hl 6 rfl) ?_
      refine z_iconst (n := 0) hx hb dL_sprites_236 ?_
      refine z_w (zrV (As := [.int (zI y), .int (zI 0)]) (rest := [.int (zI (cntI (fun z_ => decide (A.1 0 2 < cntI (isW A.1 z_) (A.1 0 1))) y))]) ⟨hx, hb, hml, hown, hts⟩ (k_line l G cs a A y 0 ia hA (by omega) (by omega)) gL_sprites_X6_line rfl qX6_line rfl rfl ⟨Nat.le_of_ble_eq_true rfl, Nat.le_of_ble_eq_true rfl⟩ hXI hK (va_recv hK.1 hXI.xo (ci := 6) (q0 := 0) rfl rfl) hl.1 rfl (Nat.le_of_ble_eq_true rfl) dL_sprites_237 ⟨Nat.le_of_ble_eq_true rfl, Nat.le_of_ble_eq_true rfl⟩) hS (fun q h => h) (fun q h => h) (fun v H locs hpost hle hk hS => ?_)
      obtain ⟨rfl, hXI⟩ := hpost
      refine z_topi (b := cntI (isW A.1 y) (A.1 0 1)) (ln_0 hq9) ?_
      refine lv_aload_n hx hb dL_sprites_240 rfl (lv_at hl 0 rfl) ?_
      refine z_bipush (n := 9) hx hb dL_sprites_241 (by decide) ?_
      refine z_w (zrV (As := [.int (zI 9)]) (rest := [.int (zI (cntI (isW A.1 y) (A.1 0 1))), .int (zI (cntI (fun z_ => decide (A.1 0 2 < cntI (isW A.1 z_) (A.1 0 1))) y))]) ⟨hx, hb, hml, hown, hts⟩ (k_count l G cs a A 9 ia hA (by omega)) gL_sprites_X6_count rfl qX6_count rfl rfl ⟨Nat.le_of_ble_eq_true rfl, Nat.le_of_ble_eq_true rfl⟩ hXI hK (va_recv hK.1 hXI.xo (ci := 6) (q0 := 0) rfl rfl) hl.1 rfl (Nat.le_of_ble_eq_true rfl) dL_sprites_243 ⟨Nat.le_of_ble_eq_true rfl, Nat.le_of_ble_eq_true rfl⟩) hS (fun q h => h) (fun q h => h) (fun v H locs hpost hle hk hS => ?_)
      obtain ⟨rfl, hXI⟩ := hpost
      refine z_topi (b := A.1 0 2) ct_9 ?_
      refine z_icmp_le (tgt := 253) hx hb dL_sprites_246 (by decide) (by omega) (by omega) (fun c112 => ?_) (fun c112 => ?_)
      · skip
        refine z_iconst (n := 0) hx hb dL_sprites_253 ?_
        refine z_iadd hx hb dL_sprites_254 ?_
        refine lv_istore_n (lv' := [(3, .int (zI ((cntI (fun z_ => decide (A.1 0 2 < cntI (isW A.1 z_) (A.1 0 1))) y) + 0))), (0, .ref (a 0)), (1, .int (zI (cntI (isOn A.1) (A.1 0 1)))), (2, .int (zI (sumN (fun z_ => metF A.1 (A.1 0 4) z_) (A.1 0 1).toNat))), (4, .int (zI (maxI (fun z_ => cntI (isW A.1 z_) (A.1 0 1)) y))), (5, .int (zI (cntI (hasSw A.1) y))), (6, .int (zI y))]) hx hb dL_sprites_255 rfl hl (by decide) rfl (fun ls hl => ?_)
        refine lv_aload_n hx hb dL_sprites_256 rfl (lv_at hl 1 rfl) ?_
        refine lv_iload hx hb dL_sprites_257 (lv_at hl 6 rfl) ?_
        refine z_iconst (n := 0) hx hb dL_sprites_259 ?_
        refine z_w (zrV (As := [.int (zI y), .int (zI 0)]) (rest := []) ⟨hx, hb, hml, hown, hts⟩ (k_line l G cs a A y 0 ia hA (by omega) (by omega)) gL_sprites_X6_line rfl qX6_line rfl rfl ⟨Nat.le_of_ble_eq_true rfl, Nat.le_of_ble_eq_true rfl⟩ hXI hK (va_recv hK.1 hXI.xo (ci := 6) (q0 := 0) rfl rfl) hl.1 rfl (Nat.le_of_ble_eq_true rfl) dL_sprites_260 ⟨Nat.le_of_ble_eq_true rfl, Nat.le_of_ble_eq_true rfl⟩) hS (fun q h => h) (fun q h => h) (fun v H locs hpost hle hk hS => ?_)
        obtain ⟨rfl, hXI⟩ := hpost
        refine z_topi (b := cntI (isW A.1 y) (A.1 0 1)) (ln_0 hq9) ?_
        refine lv_iload hx hb dL_sprites_263 (lv_at hl 4 rfl) ?_
        refine z_icmp_le (tgt := 278) hx hb dL_sprites_265 (by decide) (by omega) (by omega) (fun c113 => ?_) (fun c113 => ?_)
        · skip
          refine lv_iload hx hb dL_sprites_278 (lv_at hl 4 rfl) ?_
          refine lv_istore (lv' := [(4, .int (zI (maxI (fun z_ => cntI (isW A.1 z_) (A.1 0 1)) y))), (3, .int (zI ((cntI (fun z_ => decide (A.1 0 2 < cntI (isW A.1 z_) (A.1 0 1))) y) + 0))), (0, .ref (a 0)), (1, .int (zI (cntI (isOn A.1) (A.1 0 1)))), (2, .int (zI (sumN (fun z_ => metF A.1 (A.1 0 4) z_) (A.1 0 1).toNat))), (5, .int (zI (cntI (hasSw A.1) y))), (6, .int (zI y))]) hx hb dL_sprites_280 hl (by decide) rfl (fun ls hl => ?_)
          refine lv_iload hx hb dL_sprites_282 (lv_at hl 5 rfl) ?_
          refine lv_aload_n hx hb dL_sprites_284 rfl (lv_at hl 2 rfl) ?_
          refine lv_iload hx hb dL_sprites_285 (lv_at hl 6 rfl) ?_
          refine z_iconst (n := 3) hx hb dL_sprites_287 ?_
          refine z_w (zrV (As := [.int (zI y), .int (zI 3)]) (rest := [.int (zI (cntI (hasSw A.1) y))]) ⟨hx, hb, hml, hown, hts⟩ (k_line l G cs a A y 3 ia hA (by omega) (by omega)) gL_sprites_X6_line rfl qX6_line rfl rfl ⟨Nat.le_of_ble_eq_true rfl, Nat.le_of_ble_eq_true rfl⟩ hXI hK (va_recv hK.1 hXI.xo (ci := 6) (q0 := 0) rfl rfl) hl.1 rfl (Nat.le_of_ble_eq_true rfl) dL_sprites_288 ⟨Nat.le_of_ble_eq_true rfl, Nat.le_of_ble_eq_true rfl⟩) hS (fun q h => h) (fun q h => h) (fun v H locs hpost hle hk hS => ?_)
          obtain ⟨rfl, hXI⟩ := hpost
          refine z_if_lt (tgt := 298) hx hb dL_sprites_291 (by decide) (by omega) (fun c114 => ?_) (fun c114 => ?_)
          · skip
            refine z_iconst (n := 0) hx hb dL_sprites_298 ?_
            refine z_iadd hx hb dL_sprites_299 ?_
            refine lv_istore (lv' := [(5, .int (zI ((cntI (hasSw A.1) y) + 0))), (4, .int (zI (maxI (fun z_ => cntI (isW A.1 z_) (A.1 0 1)) y))), (3, .int (zI ((cntI (fun z_ => decide (A.1 0 2 < cntI (isW A.1 z_) (A.1 0 1))) y) + 0))), (0, .ref (a 0)), (1, .int (zI (cntI (isOn A.1) (A.1 0 1)))), (2, .int (zI (sumN (fun z_ => metF A.1 (A.1 0 4) z_) (A.1 0 1).toNat))), (6, .int (zI y))]) hx hb dL_sprites_300 hl (by decide) rfl (fun ls hl => ?_)
            refine z_iinc (k := 6) (lv' := [(6, .int (zI (y + 1))), (5, .int (zI ((cntI (hasSw A.1) y) + 0))), (4, .int (zI (maxI (fun z_ => cntI (isW A.1 z_) (A.1 0 1)) y))), (3, .int (zI ((cntI (fun z_ => decide (A.1 0 2 < cntI (isW A.1 z_) (A.1 0 1))) y) + 0))), (0, .ref (a 0)), (1, .int (zI (cntI (isOn A.1) (A.1 0 1)))), (2, .int (zI (sumN (fun z_ => metF A.1 (A.1 0 4) z_) (A.1 0 1).toNat)))]) hx hb dL_sprites_302 hl rfl (by decide) rfl (fun ls hl => ?_)
            refine lv_goto (tgt := 225) hx hb dL_sprites_305 (by decide) ?_
            have hb1 : cntI (fun z_ => decide (A.1 0 2 < cntI (isW A.1 z_) (A.1 0 1))) (y + 1) = cntI (fun z_ => decide (A.1 0 2 < cntI (isW A.1 z_) (A.1 0 1))) y + 0 := (cntI_f hI.1 (decide_eq_false (by omega))).trans (Int.add_zero _).symm
            have hb2 : maxI (fun z_ => cntI (isW A.1 z_) (A.1 0 1)) (y + 1) = maxI (fun z_ => cntI (isW A.1 z_) (A.1 0 1)) y := by rw [maxI_s _ hI.1, if_neg (by omega)]
            have hb3 : cntI (hasSw A.1) (y + 1) = cntI (hasSw A.1) y + 0 := (cntI_f hI.1 (by rcases h34 with h34 | h34; exact h34.2.2; exact absurd h34.1.1 (by omega))).trans (Int.add_zero _).symm
            exact ih (y + 1) H locs ⟨(by omega), hXI⟩ hS (by omega) ls (by show lv_has ls 10 [(0, .ref (a 0)), (1, .int (zI (cntI (isOn A.1) (A.1 0 1)))), (2, .int (zI (sumN (fun z_ => metF A.1 (A.1 0 4) z_) (A.1 0 1).toNat))), (3, .int (zI (cntI (fun z_ => decide (A.1 0 2 < cntI (isW A.1 z_) (A.1 0 1))) (y + 1)))), (4, .int (zI (maxI (fun z_ => cntI (isW A.1 z_) (A.1 0 1)) (y + 1)))), (5, .int (zI (cntI (hasSw A.1) (y + 1)))), (6, .int (zI (y + 1)))]; rw [hb1, hb2, hb3]; exact lv_sub hl [4, 5, 6, 3, 2, 1, 0] rfl)
          · skip
            refine z_iconst (n := 1) hx hb dL_sprites_294 ?_
            refine lv_goto (tgt := 299) hx hb dL_sprites_295 (by decide) ?_
            refine z_iadd hx hb dL_sprites_299 ?_
            refine lv_istore (lv' := [(5, .int (zI ((cntI (hasSw A.1) y) + 1))), (4, .int (zI (maxI (fun z_ => cntI (isW A.1 z_) (A.1 0 1)) y))), (3, .int (zI ((cntI (fun z_ => decide (A.1 0 2 < cntI (isW A.1 z_) (A.1 0 1))) y) + 0))), (0, .ref (a 0)), (1, .int (zI (cntI (isOn A.1) (A.1 0 1)))), (2, .int (zI (sumN (fun z_ => metF A.1 (A.1 0 4) z_) (A.1 0 1).toNat))), (6, .int (zI y))]) hx hb dL_sprites_300 hl (by decide) rfl (fun ls hl => ?_)
            refine z_iinc (k := 6) (lv' := [(6, .int (zI (y + 1))), (5, .int (zI ((cntI (hasSw A.1) y) + 1))), (4, .int (zI (maxI (fun z_ => cntI (isW A.1 z_) (A.1 0 1)) y))), (3, .int (zI ((cntI (fun z_ => decide (A.1 0 2 < cntI (isW A.1 z_) (A.1 0 1))) y) + 0))), (0, .ref (a 0)), (1, .int (zI (cntI (isOn A.1) (A.1 0 1)))), (2, .int (zI (sumN (fun z_ => metF A.1 (A.1 0 4) z_) (A.1 0 1).toNat)))]) hx hb dL_sprites_302 hl rfl (by decide) rfl (fun ls hl => ?_)
            refine lv_goto (tgt := 225) hx hb dL_sprites_305 (by decide) ?_
            have hb1 : cntI (fun z_ => decide (A.1 0 2 < cntI (isW A.1 z_) (A.1 0 1))) (y + 1) = cntI (fun z_ => decide (A.1 0 2 < cntI (isW A.1 z_) (A.1 0 1))) y + 0 := (cntI_f hI.1 (decide_eq_false (by omega))).trans (Int.add_zero _).symm
            have hb2 : maxI (fun z_ => cntI (isW A.1 z_) (A.1 0 1)) (y + 1) = maxI (fun z_ => cntI (isW A.1 z_) (A.1 0 1)) y := by rw [maxI_s _ hI.1, if_neg (by omega)]
            have hb3 : cntI (hasSw A.1) (y + 1) = cntI (hasSw A.1) y + 1 := cntI_t hI.1 (by rcases h34 with h34 | h34; exact absurd h34.1 (by omega); exact h34.2)
            exact ih (y + 1) H locs ⟨(by omega), hXI⟩ hS (by omega) ls (by show lv_has ls 10 [(0, .ref (a 0)), (1, .int (zI (cntI (isOn A.1) (A.1 0 1)))), (2, .int (zI (sumN (fun z_ => metF A.1 (A.1 0 4) z_) (A.1 0 1).toNat))), (3, .int (zI (cntI (fun z_ => decide (A.1 0 2 < cntI (isW A.1 z_) (A.1 0 1))) (y + 1)))), (4, .int (zI (maxI (fun z_ => cntI (isW A.1 z_) (A.1 0 1)) (y + 1)))), (5, .int (zI (cntI (hasSw A.1) (y + 1)))), (6, .int (zI (y + 1)))]; rw [hb1, hb2, hb3]; exact lv_sub hl [4, 5, 6, 3, 2, 1, 0] rfl)
        · skip
          refine lv_aload_n hx hb dL_sprites_268 rfl (lv_at hl 1 rfl) ?_
          refine lv_iload hx hb dL_sprites_269 (lv_at hl 6 rfl) ?_
          refine z_iconst (n := 0) hx hb dL_sprites_271 ?_
          refine z_w (zrV (As := [.int (zI y), .int (zI 0)]) (rest := []) ⟨hx, hb, hml, hown, hts⟩ (k_line l G cs a A y 0 ia hA (by omega) (by omega)) gL_sprites_X6_line rfl qX6_line rfl rfl ⟨Nat.le_of_ble_eq_true rfl, Nat.le_of_ble_eq_true rfl⟩ hXI hK (va_recv hK.1 hXI.xo (ci := 6) (q0 := 0) rfl rfl) hl.1 rfl (Nat.le_of_ble_eq_true rfl) dL_sprites_272 ⟨Nat.le_of_ble_eq_true rfl, Nat.le_of_ble_eq_true rfl⟩) hS (fun q h => h) (fun q h => h) (fun v H locs hpost hle hk hS => ?_)
          obtain ⟨rfl, hXI⟩ := hpost
          refine z_topi (b := cntI (isW A.1 y) (A.1 0 1)) (ln_0 hq9) ?_
          refine lv_goto (tgt := 280) hx hb dL_sprites_275 (by decide) ?_
          refine lv_istore (lv' := [(4, .int (zI (cntI (isW A.1 y) (A.1 0 1)))), (3, .int (zI ((cntI (fun z_ => decide (A.1 0 2 < cntI (isW A.1 z_) (A.1 0 1))) y) + 0))), (0, .ref (a 0)), (1, .int (zI (cntI (isOn A.1) (A.1 0 1)))), (2, .int (zI (sumN (fun z_ => metF A.1 (A.1 0 4) z_) (A.1 0 1).toNat))), (5, .int (zI (cntI (hasSw A.1) y))), (6, .int (zI y))]) hx hb dL_sprites_280 hl (by decide) rfl (fun ls hl => ?_)
          refine lv_iload hx hb dL_sprites_282 (lv_at hl 5 rfl) ?_
          refine lv_aload_n hx hb dL_sprites_284 rfl (lv_at hl 2 rfl) ?_
          refine lv_iload hx hb dL_sprites_285 (lv_at hl 6 rfl) ?_
          refine z_iconst (n := 3) hx hb dL_sprites_287 ?_
          refine z_w (zrV (As := [.int (zI y), .int (zI 3)]) (rest := [.int (zI (cntI (hasSw A.1) y))]) ⟨hx, hb, hml, hown, hts⟩ (k_line l G cs a A y 3 ia hA (by omega) (by omega)) gL_sprites_X6_line rfl qX6_line rfl rfl ⟨Nat.le_of_ble_eq_true rfl, Nat.le_of_ble_eq_true rfl⟩ hXI hK (va_recv hK.1 hXI.xo (ci := 6) (q0 := 0) rfl rfl) hl.1 rfl (Nat.le_of_ble_eq_true rfl) dL_sprites_288 ⟨Nat.le_of_ble_eq_true rfl, Nat.le_of_ble_eq_true rfl⟩) hS (fun q h => h) (fun q h => h) (fun v H locs hpost hle hk hS => ?_)
          obtain ⟨rfl, hXI⟩ := hpost
          refine z_if_lt (tgt := 298) hx hb dL_sprites_291 (by decide) (by omega) (fun c115 => ?_) (fun c115 => ?_)
          · skip
            refine z_iconst (n := 0) hx hb dL_sprites_298 ?_
            refine z_iadd hx hb dL_sprites_299 ?_
            refine lv_istore (lv' := [(5, .int (zI ((cntI (hasSw A.1) y) + 0))), (4, .int (zI (cntI (isW A.1 y) (A.1 0 1)))), (3, .int (zI ((cntI (fun z_ => decide (A.1 0 2 < cntI (isW A.1 z_) (A.1 0 1))) y) + 0))), (0, .ref (a 0)), (1, .int (zI (cntI (isOn A.1) (A.1 0 1)))), (2, .int (zI (sumN (fun z_ => metF A.1 (A.1 0 4) z_) (A.1 0 1).toNat))), (6, .int (zI y))]) hx hb dL_sprites_300 hl (by decide) rfl (fun ls hl => ?_)
            refine z_iinc (k := 6) (lv' := [(6, .int (zI (y + 1))), (5, .int (zI ((cntI (hasSw A.1) y) + 0))), (4, .int (zI (cntI (isW A.1 y) (A.1 0 1)))), (3, .int (zI ((cntI (fun z_ => decide (A.1 0 2 < cntI (isW A.1 z_) (A.1 0 1))) y) + 0))), (0, .ref (a 0)), (1, .int (zI (cntI (isOn A.1) (A.1 0 1)))), (2, .int (zI (sumN (fun z_ => metF A.1 (A.1 0 4) z_) (A.1 0 1).toNat)))]) hx hb dL_sprites_302 hl rfl (by decide) rfl (fun ls hl => ?_)
            refine lv_goto (tgt := 225) hx hb dL_sprites_305 (by decide) ?_
            have hb1 : cntI (fun z_ => decide (A.1 0 2 < cntI (isW A.1 z_) (A.1 0 1))) (y + 1) = cntI (fun z_ => decide (A.1 0 2 < cntI (isW A.1 z_) (A.1 0 1))) y + 0 := (cntI_f hI.1 (decide_eq_false (by omega))).trans (Int.add_zero _).symm
            have hb2 : maxI (fun z_ => cntI (isW A.1 z_) (A.1 0 1)) (y + 1) = cntI (isW A.1 y) (A.1 0 1) := by rw [maxI_s _ hI.1, if_pos (by omega)]
            have hb3 : cntI (hasSw A.1) (y + 1) = cntI (hasSw A.1) y + 0 := (cntI_f hI.1 (by rcases h34 with h34 | h34; exact h34.2.2; exact absurd h34.1.1 (by omega))).trans (Int.add_zero _).symm
            exact ih (y + 1) H locs ⟨(by omega), hXI⟩ hS (by omega) ls (by show lv_has ls 10 [(0, .ref (a 0)), (1, .int (zI (cntI (isOn A.1) (A.1 0 1)))), (2, .int (zI (sumN (fun z_ => metF A.1 (A.1 0 4) z_) (A.1 0 1).toNat))), (3, .int (zI (cntI (fun z_ => decide (A.1 0 2 < cntI (isW A.1 z_) (A.1 0 1))) (y + 1)))), (4, .int (zI (maxI (fun z_ => cntI (isW A.1 z_) (A.1 0 1)) (y + 1)))), (5, .int (zI (cntI (hasSw A.1) (y + 1)))), (6, .int (zI (y + 1)))]; rw [hb1, hb2, hb3]; exact lv_sub hl [4, 5, 6, 3, 2, 1, 0] rfl)
          · skip
            refine z_iconst (n := 1) hx hb dL_sprites_294 ?_
            refine lv_goto (tgt := 299) hx hb dL_sprites_295 (by decide) ?_
            refine z_iadd hx hb dL_sprites_299 ?_
            refine lv_istore (lv' := [(5, .int (zI ((cntI (hasSw A.1) y) + 1))), (4, .int (zI (cntI (isW A.1 y) (A.1 0 1)))), (3, .int (zI ((cntI (fun z_ => decide (A.1 0 2 < cntI (isW A.1 z_) (A.1 0 1))) y) + 0))), (0, .ref (a 0)), (1, .int (zI (cntI (isOn A.1) (A.1 0 1)))), (2, .int (zI (sumN (fun z_ => metF A.1 (A.1 0 4) z_) (A.1 0 1).toNat))), (6, .int (zI y))]) hx hb dL_sprites_300 hl (by decide) rfl (fun ls hl => ?_)
            refine z_iinc (k := 6) (lv' := [(6, .int (zI (y + 1))), (5, .int (zI ((cntI (hasSw A.1) y) + 1))), (4, .int (zI (cntI (isW A.1 y) (A.1 0 1)))), (3, .int (zI ((cntI (fun z_ => decide (A.1 0 2 < cntI (isW A.1 z_) (A.1 0 1))) y) + 0))), (0, .ref (a 0)), (1, .int (zI (cntI (isOn A.1) (A.1 0 1)))), (2, .int (zI (sumN (fun z_ => metF A.1 (A.1 0 4) z_) (A.1 0 1).toNat)))]) hx hb dL_sprites_302 hl rfl (by decide) rfl (fun ls hl => ?_)
            refine lv_goto (tgt := 225) hx hb dL_sprites_305 (by decide) ?_
            have hb1 : cntI (fun z_ => decide (A.1 0 2 < cntI (isW A.1 z_) (A.1 0 1))) (y + 1) = cntI (fun z_ => decide (A.1 0 2 < cntI (isW A.1 z_) (A.1 0 1))) y + 0 := (cntI_f hI.1 (decide_eq_false (by omega))).trans (Int.add_zero _).symm
            have hb2 : maxI (fun z_ => cntI (isW A.1 z_) (A.1 0 1)) (y + 1) = cntI (isW A.1 y) (A.1 0 1) := by rw [maxI_s _ hI.1, if_pos (by omega)]
            have hb3 : cntI (hasSw A.1) (y + 1) = cntI (hasSw A.1) y + 1 := cntI_t hI.1 (by rcases h34 with h34 | h34; exact absurd h34.1 (by omega); exact h34.2)
            exact ih (y + 1) H locs ⟨(by omega), hXI⟩ hS (by omega) ls (by show lv_has ls 10 [(0, .ref (a 0)), (1, .int (zI (cntI (isOn A.1) (A.1 0 1)))), (2, .int (zI (sumN (fun z_ => metF A.1 (A.1 0 4) z_) (A.1 0 1).toNat))), (3, .int (zI (cntI (fun z_ => decide (A.1 0 2 < cntI (isW A.1 z_) (A.1 0 1))) (y + 1)))), (4, .int (zI (maxI (fun z_ => cntI (isW A.1 z_) (A.1 0 1)) (y + 1)))), (5, .int (zI (cntI (hasSw A.1) (y + 1)))), (6, .int (zI (y + 1)))]; rw [hb1, hb2, hb3]; exact lv_sub hl [4, 5, 6, 3, 2, 1, 0] rfl)
      · skip
        refine z_iconst (n := 1) hx hb dL_sprites_249 ?_
        refine lv_goto (tgt := 254) hx hb dL_sprites_250 (by decide) ?_
        refine z_iadd hx hb dL_sprites_254 ?_
        refine lv_istore_n (lv' := [(3, .int (zI ((cntI (fun z_ => decide (A.1 0 2 < cntI (isW A.1 z_) (A.1 0 1))) y) + 1))), (0, .ref (a 0)), (1, .int (zI (cntI (isOn A.1) (A.1 0 1)))), (2, .int (zI (sumN (fun z_ => metF A.1 (A.1 0 4) z_) (A.1 0 1).toNat))), (4, .int (zI (maxI (fun z_ => cntI (isW A.1 z_) (A.1 0 1)) y))), (5, .int (zI (cntI (hasSw A.1) y))), (6, .int (zI y))]) hx hb dL_sprites_255 rfl hl (by decide) rfl (fun ls hl => ?_)
        refine lv_aload_n hx hb dL_sprites_256 rfl (lv_at hl 1 rfl) ?_
        refine lv_iload hx hb dL_sprites_257 (lv_at hl 6 rfl) ?_
        refine z_iconst (n := 0) hx hb dL_sprites_259 ?_
        refine z_w (zrV (As := [.int (zI y), .int (zI 0)]) (rest := []) ⟨hx, hb, hml, hown, hts⟩ (k_line l G cs a A y 0 ia hA (by omega) (by omega)) gL_sprites_X6_line rfl qX6_line rfl rfl ⟨Nat.le_of_ble_eq_true rfl, Nat.le_of_ble_eq_true rfl⟩ hXI hK (va_recv hK.1 hXI.xo (ci := 6) (q0 := 0) rfl rfl) hl.1 rfl (Nat.le_of_ble_eq_true rfl) dL_sprites_260 ⟨Nat.le_of_ble_eq_true rfl, Nat.le_of_ble_eq_true rfl⟩) hS (fun q h => h) (fun q h => h) (fun v H locs hpost hle hk hS => ?_)
        obtain ⟨rfl, hXI⟩ := hpost
        refine z_topi (b := cntI (isW A.1 y) (A.1 0 1)) (ln_0 hq9) ?_
        refine lv_iload hx hb dL_sprites_263 (lv_at hl 4 rfl) ?_
        refine z_icmp_le (tgt := 278) hx hb dL_sprites_265 (by decide) (by omega) (by omega) (fun c116 => ?_) (fun c116 => ?_)
        · skip
          refine lv_iload hx hb dL_sprites_278 (lv_at hl 4 rfl) ?_
          refine lv_istore (lv' := [(4, .int (zI (maxI (fun z_ => cntI (isW A.1 z_) (A.1 0 1)) y))), (3, .int (zI ((cntI (fun z_ => decide (A.1 0 2 < cntI (isW A.1 z_) (A.1 0 1))) y) + 1))), (0, .ref (a 0)), (1, .int (zI (cntI (isOn A.1) (A.1 0 1)))), (2, .int (zI (sumN (fun z_ => metF A.1 (A.1 0 4) z_) (A.1 0 1).toNat))), (5, .int (zI (cntI (hasSw A.1) y))), (6, .int (zI y))]) hx hb dL_sprites_280 hl (by decide) rfl (fun ls hl => ?_)
          refine lv_iload hx hb dL_sprites_282 (lv_at hl 5 rfl) ?_
          refine lv_aload_n hx hb dL_sprites_284 rfl (lv_at hl 2 rfl) ?_
          refine lv_iload hx hb dL_sprites_285 (lv_at hl 6 rfl) ?_
          refine z_iconst (n := 3) hx hb dL_sprites_287 ?_
          refine z_w (zrV (As := [.int (zI y), .int (zI 3)]) (rest := [.int (zI (cntI (hasSw A.1) y))]) ⟨hx, hb, hml, hown, hts⟩ (k_line l G cs a A y 3 ia hA (by omega) (by omega)) gL_sprites_X6_line rfl qX6_line rfl rfl ⟨Nat.le_of_ble_eq_true rfl, Nat.le_of_ble_eq_true rfl⟩ hXI hK (va_recv hK.1 hXI.xo (ci := 6) (q0 := 0) rfl rfl) hl.1 rfl (Nat.le_of_ble_eq_true rfl) dL_sprites_288 ⟨Nat.le_of_ble_eq_true rfl, Nat.le_of_ble_eq_true rfl⟩) hS (fun q h => h) (fun q h => h) (fun v H locs hpost hle hk hS => ?_)
          obtain ⟨rfl, hXI⟩ := hpost
          refine z_if_lt (tgt := 298) hx hb dL_sprites_291 (by decide) (by omega) (fun c117 => ?_) (fun c117 => ?_)
          · skip
            refine z_iconst (n := 0) hx hb dL_sprites_298 ?_
            refine z_iadd hx hb dL_sprites_299 ?_
            refine lv_istore (lv' := [(5, .int (zI ((cntI (hasSw A.1) y) + 0))), (4, .int (zI (maxI (fun z_ => cntI (isW A.1 z_) (A.1 0 1)) y))), (3, .int (zI ((cntI (fun z_ => decide (A.1 0 2 < cntI (isW A.1 z_) (A.1 0 1))) y) + 1))), (0, .ref (a 0)), (1, .int (zI (cntI (isOn A.1) (A.1 0 1)))), (2, .int (zI (sumN (fun z_ => metF A.1 (A.1 0 4) z_) (A.1 0 1).toNat))), (6, .int (zI y))]) hx hb dL_sprites_300 hl (by decide) rfl (fun ls hl => ?_)
            refine z_iinc (k := 6) (lv' := [(6, .int (zI (y + 1))), (5, .int (zI ((cntI (hasSw A.1) y) + 0))), (4, .int (zI (maxI (fun z_ => cntI (isW A.1 z_) (A.1 0 1)) y))), (3, .int (zI ((cntI (fun z_ => decide (A.1 0 2 < cntI (isW A.1 z_) (A.1 0 1))) y) + 1))), (0, .ref (a 0)), (1, .int (zI (cntI (isOn A.1) (A.1 0 1)))), (2, .int (zI (sumN (fun z_ => metF A.1 (A.1 0 4) z_) (A.1 0 1).toNat)))]) hx hb dL_sprites_302 hl rfl (by decide) rfl (fun ls hl => ?_)
            refine lv_goto (tgt := 225) hx hb dL_sprites_305 (by decide) ?_
            have hb1 : cntI (fun z_ => decide (A.1 0 2 < cntI (isW A.1 z_) (A.1 0 1))) (y + 1) = cntI (fun z_ => decide (A.1 0 2 < cntI (isW A.1 z_) (A.1 0 1))) y + 1 := cntI_t hI.1 (decide_eq_true (by omega))
            have hb2 : maxI (fun z_ => cntI (isW A.1 z_) (A.1 0 1)) (y + 1) = maxI (fun z_ => cntI (isW A.1 z_) (A.1 0 1)) y := by rw [maxI_s _ hI.1, if_neg (by omega)]
            have hb3 : cntI (hasSw A.1) (y + 1) = cntI (hasSw A.1) y + 0 := (cntI_f hI.1 (by rcases h34 with h34 | h34; exact h34.2.2; exact absurd h34.1.1 (by omega))).trans (Int.add_zero _).symm
            exact ih (y + 1) H locs ⟨(by omega), hXI⟩ hS (by omega) ls (by show lv_has ls 10 [(0, .ref (a 0)), (1, .int (zI (cntI (isOn A.1) (A.1 0 1)))), (2, .int (zI (sumN (fun z_ => metF A.1 (A.1 0 4) z_) (A.1 0 1).toNat))), (3, .int (zI (cntI (fun z_ => decide (A.1 0 2 < cntI (isW A.1 z_) (A.1 0 1))) (y + 1)))), (4, .int (zI (maxI (fun z_ => cntI (isW A.1 z_) (A.1 0 1)) (y + 1)))), (5, .int (zI (cntI (hasSw A.1) (y + 1)))), (6, .int (zI (y + 1)))]; rw [hb1, hb2, hb3]; exact lv_sub hl [4, 5, 6, 3, 2, 1, 0] rfl)
          · skip
            refine z_iconst (n := 1) hx hb dL_sprites_294 ?_
            refine lv_goto (tgt := 299) hx hb dL_sprites_295 (by decide) ?_
            refine z_iadd hx hb dL_sprites_299 ?_
            refine lv_istore (lv' := [(5, .int (zI ((cntI (hasSw A.1) y) + 1))), (4, .int (zI (maxI (fun z_ => cntI (isW A.1 z_) (A.1 0 1)) y))), (3, .int (zI ((cntI (fun z_ => decide (A.1 0 2 < cntI (isW A.1 z_) (A.1 0 1))) y) + 1))), (0, .ref (a 0)), (1, .int (zI (cntI (isOn A.1) (A.1 0 1)))), (2, .int (zI (sumN (fun z_ => metF A.1 (A.1 0 4) z_) (A.1 0 1).toNat))), (6, .int (zI y))]) hx hb dL_sprites_300 hl (by decide) rfl (fun ls hl => ?_)
            refine z_iinc (k := 6) (lv' := [(6, .int (zI (y + 1))), (5, .int (zI ((cntI (hasSw A.1) y) + 1))), (4, .int (zI (maxI (fun z_ => cntI (isW A.1 z_) (A.1 0 1)) y))), (3, .int (zI ((cntI (fun z_ => decide (A.1 0 2 < cntI (isW A.1 z_) (A.1 0 1))) y) + 1))), (0, .ref (a 0)), (1, .int (zI (cntI (isOn A.1) (A.1 0 1)))), (2, .int (zI (sumN (fun z_ => metF A.1 (A.1 0 4) z_) (A.1 0 1).toNat)))]) hx hb dL_sprites_302 hl rfl (by decide) rfl (fun ls hl => ?_)
            refine lv_goto (tgt := 225) hx hb dL_sprites_305 (by decide) ?_
            have hb1 : cntI (fun z_ => decide (A.1 0 2 < cntI (isW A.1 z_) (A.1 0 1))) (y + 1) = cntI (fun z_ => decide (A.1 0 2 < cntI (isW A.1 z_) (A.1 0 1))) y + 1 := cntI_t hI.1 (decide_eq_true (by omega))
            have hb2 : maxI (fun z_ => cntI (isW A.1 z_) (A.1 0 1)) (y + 1) = maxI (fun z_ => cntI (isW A.1 z_) (A.1 0 1)) y := by rw [maxI_s _ hI.1, if_neg (by omega)]
            have hb3 : cntI (hasSw A.1) (y + 1) = cntI (hasSw A.1) y + 1 := cntI_t hI.1 (by rcases h34 with h34 | h34; exact absurd h34.1 (by omega); exact h34.2)
            exact ih (y + 1) H locs ⟨(by omega), hXI⟩ hS (by omega) ls (by show lv_has ls 10 [(0, .ref (a 0)), (1, .int (zI (cntI (isOn A.1) (A.1 0 1)))), (2, .int (zI (sumN (fun z_ => metF A.1 (A.1 0 4) z_) (A.1 0 1).toNat))), (3, .int (zI (cntI (fun z_ => decide (A.1 0 2 < cntI (isW A.1 z_) (A.1 0 1))) (y + 1)))), (4, .int (zI (maxI (fun z_ => cntI (isW A.1 z_) (A.1 0 1)) (y + 1)))), (5, .int (zI (cntI (hasSw A.1) (y + 1)))), (6, .int (zI (y + 1)))]; rw [hb1, hb2, hb3]; exact lv_sub hl [4, 5, 6, 3, 2, 1, 0] rfl)
        · skip
          refine lv_aload_n hx hb dL_sprites_268 rfl (lv_at hl 1 rfl) ?_
          refine lv_iload hx hb dL_sprites_269 (lv_at hl 6 rfl) ?_
          refine z_iconst (n := 0) hx hb dL_sprites_271 ?_
          refine z_w (zrV (As := [.int (zI y), .int (zI 0)]) (rest := []) ⟨hx, hb, hml, hown, hts⟩ (k_line l G cs a A y 0 ia hA (by omega) (by omega)) gL_sprites_X6_line rfl qX6_line rfl rfl ⟨Nat.le_of_ble_eq_true rfl, Nat.le_of_ble_eq_true rfl⟩ hXI hK (va_recv hK.1 hXI.xo (ci := 6) (q0 := 0) rfl rfl) hl.1 rfl (Nat.le_of_ble_eq_true rfl) dL_sprites_272 ⟨Nat.le_of_ble_eq_true rfl, Nat.le_of_ble_eq_true rfl⟩) hS (fun q h => h) (fun q h => h) (fun v H locs hpost hle hk hS => ?_)
          obtain ⟨rfl, hXI⟩ := hpost
          refine z_topi (b := cntI (isW A.1 y) (A.1 0 1)) (ln_0 hq9) ?_
          refine lv_goto (tgt := 280) hx hb dL_sprites_275 (by decide) ?_
          refine lv_istore (lv' := [(4, .int (zI (cntI (isW A.1 y) (A.1 0 1)))), (3, .int (zI ((cntI (fun z_ => decide (A.1 0 2 < cntI (isW A.1 z_) (A.1 0 1))) y) + 1))), (0, .ref (a 0)), (1, .int (zI (cntI (isOn A.1) (A.1 0 1)))), (2, .int (zI (sumN (fun z_ => metF A.1 (A.1 0 4) z_) (A.1 0 1).toNat))), (5, .int (zI (cntI (hasSw A.1) y))), (6, .int (zI y))]) hx hb dL_sprites_280 hl (by decide) rfl (fun ls hl => ?_)
          refine lv_iload hx hb dL_sprites_282 (lv_at hl 5 rfl) ?_
          refine lv_aload_n hx hb dL_sprites_284 rfl (lv_at hl 2 rfl) ?_
          refine lv_iload hx hb dL_sprites_285 (lv_at hl 6 rfl) ?_
          refine z_iconst (n := 3) hx hb dL_sprites_287 ?_
          refine z_w (zrV (As := [.int (zI y), .int (zI 3)]) (rest := [.int (zI (cntI (hasSw A.1) y))]) ⟨hx, hb, hml, hown, hts⟩ (k_line l G cs a A y 3 ia hA (by omega) (by omega)) gL_sprites_X6_line rfl qX6_line rfl rfl ⟨Nat.le_of_ble_eq_true rfl, Nat.le_of_ble_eq_true rfl⟩ hXI hK (va_recv hK.1 hXI.xo (ci := 6) (q0 := 0) rfl rfl) hl.1 rfl (Nat.le_of_ble_eq_true rfl) dL_sprites_288 ⟨Nat.le_of_ble_eq_true rfl, Nat.le_of_ble_eq_true rfl⟩) hS (fun q h => h) (fun q h => h) (fun v H locs hpost hle hk hS => ?_)
          obtain ⟨rfl, hXI⟩ := hpost
          refine z_if_lt (tgt := 298) hx hb dL_sprites_291 (by decide) (by omega) (fun c118 => ?_) (fun c118 => ?_)
          · skip
            refine z_iconst (n := 0) hx hb dL_sprites_298 ?_
            refine z_iadd hx hb dL_sprites_299 ?_
            refine lv_istore (lv' := [(5, .int (zI ((cntI (hasSw A.1) y) + 0))), (4, .int (zI (cntI (isW A.1 y) (A.1 0 1)))), (3, .int (zI ((cntI (fun z_ => decide (A.1 0 2 < cntI (isW A.1 z_) (A.1 0 1))) y) + 1))), (0, .ref (a 0)), (1, .int (zI (cntI (isOn A.1) (A.1 0 1)))), (2, .int (zI (sumN (fun z_ => metF A.1 (A.1 0 4) z_) (A.1 0 1).toNat))), (6, .int (zI y))]) hx hb dL_sprites_300 hl (by decide) rfl (fun ls hl => ?_)
            refine z_iinc (k := 6) (lv' := [(6, .int (zI (y + 1))), (5, .int (zI ((cntI (hasSw A.1) y) + 0))), (4, .int (zI (cntI (isW A.1 y) (A.1 0 1)))), (3, .int (zI ((cntI (fun z_ => decide (A.1 0 2 < cntI (isW A.1 z_) (A.1 0 1))) y) + 1))), (0, .ref (a 0)), (1, .int (zI (cntI (isOn A.1) (A.1 0 1)))), (2, .int (zI (sumN (fun z_ => metF A.1 (A.1 0 4) z_) (A.1 0 1).toNat)))]) hx hb dL_sprites_302 hl rfl (by decide) rfl (fun ls hl => ?_)
            refine lv_goto (tgt := 225) hx hb dL_sprites_305 (by decide) ?_
            have hb1 : cntI (fun z_ => decide (A.1 0 2 < cntI (isW A.1 z_) (A.1 0 1))) (y + 1) = cntI (fun z_ => decide (A.1 0 2 < cntI (isW A.1 z_) (A.1 0 1))) y + 1 := cntI_t hI.1 (decide_eq_true (by omega))
            have hb2 : maxI (fun z_ => cntI (isW A.1 z_) (A.1 0 1)) (y + 1) = cntI (isW A.1 y) (A.1 0 1) := by rw [maxI_s _ hI.1, if_pos (by omega)]
            have hb3 : cntI (hasSw A.1) (y + 1) = cntI (hasSw A.1) y + 0 := (cntI_f hI.1 (by rcases h34 with h34 | h34; exact h34.2.2; exact absurd h34.1.1 (by omega))).trans (Int.add_zero _).symm
            exact ih (y + 1) H locs ⟨(by omega), hXI⟩ hS (by omega) ls (by show lv_has ls 10 [(0, .ref (a 0)), (1, .int (zI (cntI (isOn A.1) (A.1 0 1)))), (2, .int (zI (sumN (fun z_ => metF A.1 (A.1 0 4) z_) (A.1 0 1).toNat))), (3, .int (zI (cntI (fun z_ => decide (A.1 0 2 < cntI (isW A.1 z_) (A.1 0 1))) (y + 1)))), (4, .int (zI (maxI (fun z_ => cntI (isW A.1 z_) (A.1 0 1)) (y + 1)))), (5, .int (zI (cntI (hasSw A.1) (y + 1)))), (6, .int (zI (y + 1)))]; rw [hb1, hb2, hb3]; exact lv_sub hl [4, 5, 6, 3, 2, 1, 0] rfl)
          · skip
            refine z_iconst (n := 1) hx hb dL_sprites_294 ?_
            refine lv_goto (tgt := 299) hx hb dL_sprites_295 (by decide) ?_
            refine z_iadd hx hb dL_sprites_299 ?_
            refine lv_istore (lv' := [(5, .int (zI ((cntI (hasSw A.1) y) + 1))), (4, .int (zI (cntI (isW A.1 y) (A.1 0 1)))), (3, .int (zI ((cntI (fun z_ => decide (A.1 0 2 < cntI (isW A.1 z_) (A.1 0 1))) y) + 1))), (0, .ref (a 0)), (1, .int (zI (cntI (isOn A.1) (A.1 0 1)))), (2, .int (zI (sumN (fun z_ => metF A.1 (A.1 0 4) z_) (A.1 0 1).toNat))), (6, .int (zI y))]) hx hb dL_sprites_300 hl (by decide) rfl (fun ls hl => ?_)
            refine z_iinc (k := 6) (lv' := [(6, .int (zI (y + 1))), (5, .int (zI ((cntI (hasSw A.1) y) + 1))), (4, .int (zI (cntI (isW A.1 y) (A.1 0 1)))), (3, .int (zI ((cntI (fun z_ => decide (A.1 0 2 < cntI (isW A.1 z_) (A.1 0 1))) y) + 1))), (0, .ref (a 0)), (1, .int (zI (cntI (isOn A.1) (A.1 0 1)))), (2, .int (zI (sumN (fun z_ => metF A.1 (A.1 0 4) z_) (A.1 0 1).toNat)))]) hx hb dL_sprites_302 hl rfl (by decide) rfl (fun ls hl => ?_)
            refine lv_goto (tgt := 225) hx hb dL_sprites_305 (by decide) ?_
            have hb1 : cntI (fun z_ => decide (A.1 0 2 < cntI (isW A.1 z_) (A.1 0 1))) (y + 1) = cntI (fun z_ => decide (A.1 0 2 < cntI (isW A.1 z_) (A.1 0 1))) y + 1 := cntI_t hI.1 (decide_eq_true (by omega))
            have hb2 : maxI (fun z_ => cntI (isW A.1 z_) (A.1 0 1)) (y + 1) = cntI (isW A.1 y) (A.1 0 1) := by rw [maxI_s _ hI.1, if_pos (by omega)]
            have hb3 : cntI (hasSw A.1) (y + 1) = cntI (hasSw A.1) y + 1 := cntI_t hI.1 (by rcases h34 with h34 | h34; exact absurd h34.1 (by omega); exact h34.2)
            exact ih (y + 1) H locs ⟨(by omega), hXI⟩ hS (by omega) ls (by show lv_has ls 10 [(0, .ref (a 0)), (1, .int (zI (cntI (isOn A.1) (A.1 0 1)))), (2, .int (zI (sumN (fun z_ => metF A.1 (A.1 0 4) z_) (A.1 0 1).toNat))), (3, .int (zI (cntI (fun z_ => decide (A.1 0 2 < cntI (isW A.1 z_) (A.1 0 1))) (y + 1)))), (4, .int (zI (maxI (fun z_ => cntI (isW A.1 z_) (A.1 0 1)) (y + 1)))), (5, .int (zI (cntI (hasSw A.1) (y + 1)))), (6, .int (zI (y + 1)))]; rw [hb1, hb2, hb3]; exact lv_sub hl [4, 5, 6, 3, 2, 1, 0] rfl)
  · skip
    refine z_iconst (n := 0) hx hb dL_sprites_15 ?_
    refine lv_istore (lv' := [(4, .int (zI 0)), (0, .ref (a 0)), (1, .int (zI (cntI (isOn A.1) s))), (2, .int (zI (sumN (fun z_ => metF A.1 (A.1 0 4) z_) s.toNat))), (3, .int (zI s))]) hx hb dL_sprites_16 hl (by decide) rfl (fun ls hl => ?_)
    refine z_iconst (n := 0) hx hb dL_sprites_18 ?_
    refine lv_istore (lv' := [(5, .int (zI 0)), (4, .int (zI 0)), (0, .ref (a 0)), (1, .int (zI (cntI (isOn A.1) s))), (2, .int (zI (sumN (fun z_ => metF A.1 (A.1 0 4) z_) s.toNat))), (3, .int (zI s))]) hx hb dL_sprites_19 hl (by decide) rfl (fun ls hl => ?_)
    refine z_iconst (n := 0) hx hb dL_sprites_21 ?_
    refine lv_istore (lv' := [(6, .int (zI 0)), (5, .int (zI 0)), (4, .int (zI 0)), (0, .ref (a 0)), (1, .int (zI (cntI (isOn A.1) s))), (2, .int (zI (sumN (fun z_ => metF A.1 (A.1 0 4) z_) s.toNat))), (3, .int (zI s))]) hx hb dL_sprites_22 hl (by decide) rfl (fun ls hl => ?_)
    refine z_iconst (n := 0) hx hb dL_sprites_24 ?_
    refine lv_istore (lv' := [(7, .int (zI 0)), (6, .int (zI 0)), (5, .int (zI 0)), (4, .int (zI 0)), (0, .ref (a 0)), (1, .int (zI (cntI (isOn A.1) s))), (2, .int (zI (sumN (fun z_ => metF A.1 (A.1 0 4) z_) s.toNat))), (3, .int (zI s))]) hx hb dL_sprites_25 hl (by decide) rfl (fun ls hl => ?_)
    -- loop 27
    have hsr : 0 ≤ s ∧ s < A.1 0 1 := by omega
    have hpp := wP s hsr.1 hsr.2
    refine z_loopH (nL := 10) (fun (y : Int) => [(0, .ref (a 0)), (1, .int (zI (cntI (isOn A.1) s))), (2, .int (zI (sumN (fun z_ => metF A.1 (A.1 0 4) z_) s.toNat))), (3, .int (zI s)), (4, .int (zI (cntI (isOver A.1 s) y))), (5, .int (zI (cntI (fun z_ => shownB A.1 z_ (A.1 0 4) s) y))), (6, .int (zI 0)), (7, .int (zI y))]) (fun (y : Int) (H : Heap) => (0 ≤ y ∧ y ≤ 32) ∧ XI G cs a a A H) (fun (y : Int) => (32 - y).toNat) (0 : Int) ⟨(by omega), hXI⟩ hS (by show lv_has ls 10 [(0, .ref (a 0)), (1, .int (zI (cntI (isOn A.1) s))), (2, .int (zI (sumN (fun z_ => metF A.1 (A.1 0 4) z_) s.toNat))), (3, .int (zI s)), (4, .int (zI (cntI (isOver A.1 s) (0 : Int)))), (5, .int (zI (cntI (fun z_ => shownB A.1 z_ (A.1 0 4) s) (0 : Int)))), (6, .int (zI 0)), (7, .int (zI (0 : Int)))]; rw [cntI_0 (isOver A.1 s), cntI_0 (fun z_ => shownB A.1 z_ (A.1 0 4) s)]; exact lv_sub hl [4, 5, 6, 7, 3, 2, 1, 0] rfl) (fun y H locs hIH hS ih ls hl => ?_)
    obtain ⟨hI, hXI⟩ := hIH
    have hl : lv_has ls 10 [(0, .ref (a 0)), (1, .int (zI (cntI (isOn A.1) s))), (2, .int (zI (sumN (fun z_ => metF A.1 (A.1 0 4) z_) s.toNat))), (3, .int (zI s)), (4, .int (zI (cntI (isOver A.1 s) y))), (5, .int (zI (cntI (fun z_ => shownB A.1 z_ (A.1 0 4) s) y))), (6, .int (zI 0)), (7, .int (zI y))] := hl
    refine lv_iload hx hb dL_sprites_27 (lv_at hl 7 rfl) ?_
    refine z_bipush (n := 32) hx hb dL_sprites_29 (by decide) ?_
    refine z_icmp_ge (tgt := 103) hx hb dL_sprites_31 (by decide) (by omega) (by omega) (fun c119 => ?_) (fun c119 => ?_)
    · skip
      refine z_iconst (n := 0) hx hb dL_sprites_103 ?_
      refine lv_istore (lv' := [(7, .int (zI 0)), (0, .ref (a 0)), (1, .int (zI (cntI (isOn A.1) s))), (2, .int (zI (sumN (fun z_ => metF A.1 (A.1 0 4) z_) s.toNat))), (3, .int (zI s)), (4, .int (zI (cntI (isOver A.1 s) y))), (5, .int (zI (cntI (fun z_ => shownB A.1 z_ (A.1 0 4) s) y))), (6, .int (zI 0))]) hx hb dL_sprites_104 hl (by decide) rfl (fun ls hl => ?_)
      -- loop 106
      have ey : y = 32 := by omega
      subst ey
      refine z_loopH (nL := 10) (fun (x : Int) => [(0, .ref (a 0)), (1, .int (zI (cntI (isOn A.1) s))), (2, .int (zI (sumN (fun z_ => metF A.1 (A.1 0 4) z_) s.toNat))), (3, .int (zI s)), (4, .int (zI (cntI (isOver A.1 s) 32))), (5, .int (zI (cntI (fun z_ => shownB A.1 z_ (A.1 0 4) s) 32))), (6, .int (zI (cntI (fun z_ => decide (z_ ≠ s) && meetB A.1 (A.1 0 4) s z_) x))), (7, .int (zI x))]) (fun (x : Int) (H : Heap) => (0 ≤ x ∧ x ≤ A.1 0 1) ∧ XI G cs a a A H) (fun (x : Int) => (A.1 0 1 - x).toNat) (0 : Int) ⟨(by omega), hXI⟩ hS (by show lv_has ls 10 [(0, .ref (a 0)), (1, .int (zI (cntI (isOn A.1) s))), (2, .int (zI (sumN (fun z_ => metF A.1 (A.1 0 4) z_) s.toNat))), (3, .int (zI s)), (4, .int (zI (cntI (isOver A.1 s) 32))), (5, .int (zI (cntI (fun z_ => shownB A.1 z_ (A.1 0 4) s) 32))), (6, .int (zI (cntI (fun z_ => decide (z_ ≠ s) && meetB A.1 (A.1 0 4) s z_) (0 : Int)))), (7, .int (zI (0 : Int)))]; rw [cntI_0 (fun z_ => decide (z_ ≠ s) && meetB A.1 (A.1 0 4) s z_)]; exact lv_sub hl [1, 2, 3, 4, 5, 6, 7, 0] rfl) (fun x H locs hIH hS ih ls hl => ?_)
      obtain ⟨hI, hXI⟩ := hIH
      have hl : lv_has ls 10 [(0, .ref (a 0)), (1, .int (zI (cntI (isOn A.1) s))), (2, .int (zI (sumN (fun z_ => metF A.1 (A.1 0 4) z_) s.toNat))), (3, .int (zI s)), (4, .int (zI (cntI (isOver A.1 s) 32))), (5, .int (zI (cntI (fun z_ => shownB A.1 z_ (A.1 0 4) s) 32))), (6, .int (zI (cntI (fun z_ => decide (z_ ≠ s) && meetB A.1 (A.1 0 4) s z_) x))), (7, .int (zI x))] := hl
      refine lv_iload hx hb dL_sprites_106 (lv_at hl 7 rfl) ?_
      refine lv_aload_n hx hb dL_sprites_108 rfl (lv_at hl 0 rfl) ?_
      refine z_iconst (n := 1) hx hb dL_sprites_109 ?_
      refine z_w (zrV (As := [.int (zI 1)]) (rest := [.int (zI x)]) ⟨hx, hb, hml, hown, hts⟩ (k_count l G cs a A 1 ia hA (by omega)) gL_sprites_X6_count rfl qX6_count rfl rfl ⟨Nat.le_of_ble_eq_true rfl, Nat.le_of_ble_eq_true rfl⟩ hXI hK (va_recv hK.1 hXI.xo (ci := 6) (q0 := 0) rfl rfl) hl.1 rfl (Nat.le_of_ble_eq_true rfl) dL_sprites_110 ⟨Nat.le_of_ble_eq_true rfl, Nat.le_of_ble_eq_true rfl⟩) hS (fun q h => h) (fun q h => h) (fun v H locs hpost hle hk hS => ?_)
      obtain ⟨rfl, hXI⟩ := hpost
      refine z_topi (b := A.1 0 1) ct_1 ?_
      refine z_icmp_ge (tgt := 144) hx hb dL_sprites_113 (by decide) (by omega) (by omega) (fun c120 => ?_) (fun c120 => ?_)
      · skip
        have ex : x = A.1 0 1 := by omega
        subst ex
        have hg1 := cntI_r (isOver A.1 s) (show (0 : Int) ≤ 32 by decide)
        have hg2 := cntI_r (fun z_ => shownB A.1 z_ (A.1 0 4) s) (show (0 : Int) ≤ 32 by decide)
        have hg3 := cntI_r (fun z_ => decide (z_ ≠ s) && meetB A.1 (A.1 0 4) s z_) w1.1
        have hg4 := cntI_r (isOn A.1) hsr.1
        have hpp := wP s hsr.1 hsr.2
        refine lv_iload_n hx hb dL_sprites_144 rfl (lv_at hl 1 rfl) ?_
        refine lv_aload_n hx hb dL_sprites_145 rfl (lv_at hl 0 rfl) ?_
        refine lv_iload_n hx hb dL_sprites_146 rfl (lv_at hl 3 rfl) ?_
        refine z_iconst (n := 3) hx hb dL_sprites_147 ?_
        refine z_w (zrV (As := [.int (zI s), .int (zI 3)]) (rest := [.int (zI (cntI (isOn A.1) s))]) ⟨hx, hb, hml, hown, hts⟩ (k_sprite l G cs a A s 3 ia hA (by omega) (by omega)) gL_sprites_X6_sprite rfl qX6_sprite rfl rfl ⟨Nat.le_of_ble_eq_true rfl, Nat.le_of_ble_eq_true rfl⟩ hXI hK (va_recv hK.1 hXI.xo (ci := 6) (q0 := 0) rfl rfl) hl.1 rfl (Nat.le_of_ble_eq_true rfl) dL_sprites_148 ⟨Nat.le_of_ble_eq_true rfl, Nat.le_of_ble_eq_true rfl⟩) hS (fun q h => h) (fun q h => h) (fun v H locs hpost hle hk hS => ?_)
        obtain ⟨rfl, hXI⟩ := hpost
        refine z_topi (b := A.1 1 (6 * s + 3)) (sp_at hsr (by decide)) ?_
        refine z_iadd hx hb dL_sprites_151 ?_
        refine lv_istore_n (lv' := [(1, .int (zI ((cntI (isOn A.1) s) + (A.1 1 (6 * s + 3))))), (0, .ref (a 0)), (2, .int (zI (sumN (fun z_ => metF A.1 (A.1 0 4) z_) s.toNat))), (3, .int (zI s)), (4, .int (zI (cntI (isOver A.1 s) 32))), (5, .int (zI (cntI (fun z_ => shownB A.1 z_ (A.1 0 4) s) 32))), (6, .int (zI (cntI (fun z_ => decide (z_ ≠ s) && meetB A.1 (A.1 0 4) s z_) (A.1 0 1)))), (7, .int (zI (A.1 0 1)))]) hx hb dL_sprites_152 rfl hl (by decide) rfl (fun ls hl => ?_)
        refine lv_iload_n hx hb dL_sprites_153 rfl (lv_at hl 2 rfl) ?_
        refine lv_iload hx hb dL_sprites_154 (lv_at hl 6 rfl) ?_
        refine z_iadd hx hb dL_sprites_156 ?_
        refine lv_istore_n (lv' := [(2, .int (zI ((sumN (fun z_ => metF A.1 (A.1 0 4) z_) s.toNat) + (cntI (fun z_ => decide (z_ ≠ s) && meetB A.1 (A.1 0 4) s z_) (A.1 0 1))))), (1, .int (zI ((cntI (isOn A.1) s) + (A.1 1 (6 * s + 3))))), (0, .ref (a 0)), (3, .int (zI s)), (4, .int (zI (cntI (isOver A.1 s) 32))), (5, .int (zI (cntI (fun z_ => shownB A.1 z_ (A.1 0 4) s) 32))), (6, .int (zI (cntI (fun z_ => decide (z_ ≠ s) && meetB A.1 (A.1 0 4) s z_) (A.1 0 1)))), (7, .int (zI (A.1 0 1)))]) hx hb dL_sprites_157 rfl hl (by decide) rfl (fun ls hl => ?_)
        refine lv_aload_n hx hb dL_sprites_158 rfl (lv_at hl 2 rfl) ?_
        refine lv_iload_n hx hb dL_sprites_159 rfl (lv_at hl 3 rfl) ?_
        refine z_bipush (n := 6) hx hb dL_sprites_160 (by decide) ?_
        refine z_w (zrV (As := [.int (zI s), .int (zI 6)]) (rest := []) ⟨hx, hb, hml, hown, hts⟩ (k_sprite l G cs a A s 6 ia hA (by omega) (by omega)) gL_sprites_X6_sprite rfl qX6_sprite rfl rfl ⟨Nat.le_of_ble_eq_true rfl, Nat.le_of_ble_eq_true rfl⟩ hXI hK (va_recv hK.1 hXI.xo (ci := 6) (q0 := 0) rfl rfl) hl.1 rfl (Nat.le_of_ble_eq_true rfl) dL_sprites_162 ⟨Nat.le_of_ble_eq_true rfl, Nat.le_of_ble_eq_true rfl⟩) hS (fun q h => h) (fun q h => h) (fun v H locs hpost hle hk hS => ?_)
        obtain ⟨rfl, hXI⟩ := hpost
        refine z_topi (b := cntI (fun z_ => shownB A.1 z_ (A.1 0 4) s) 32) (sp_6 hsr) ?_
        refine lv_iload hx hb dL_sprites_165 (lv_at hl 5 rfl) ?_
        refine z_icmp_ne (tgt := 206) hx hb dL_sprites_167 (by decide) (by omega) (by omega) (fun c121 => ?_) (fun c121 => ?_)
        · skip
          exfalso; omega
        · skip
          refine lv_aload_n hx hb dL_sprites_170 rfl (lv_at hl 2 rfl) ?_
          refine lv_iload_n hx hb dL_sprites_171 rfl (lv_at hl 3 rfl) ?_
          refine z_bipush (n := 7) hx hb dL_sprites_172 (by decide) ?_
          refine z_w (zrV (As := [.int (zI s), .int (zI 7)]) (rest := []) ⟨hx, hb, hml, hown, hts⟩ (k_sprite l G cs a A s 7 ia hA (by omega) (by omega)) gL_sprites_X6_sprite rfl qX6_sprite rfl rfl ⟨Nat.le_of_ble_eq_true rfl, Nat.le_of_ble_eq_true rfl⟩ hXI hK (va_recv hK.1 hXI.xo (ci := 6) (q0 := 0) rfl rfl) hl.1 rfl (Nat.le_of_ble_eq_true rfl) dL_sprites_174 ⟨Nat.le_of_ble_eq_true rfl, Nat.le_of_ble_eq_true rfl⟩) hS (fun q h => h) (fun q h => h) (fun v H locs hpost hle hk hS => ?_)
          obtain ⟨rfl, hXI⟩ := hpost
          refine z_topi (b := cntI (isOver A.1 s) 32) (sp_7 hsr) ?_
          refine lv_iload hx hb dL_sprites_177 (lv_at hl 4 rfl) ?_
          refine z_icmp_ne (tgt := 206) hx hb dL_sprites_179 (by decide) (by omega) (by omega) (fun c122 => ?_) (fun c122 => ?_)
          · skip
            exfalso; omega
          · skip
            refine lv_aload_n hx hb dL_sprites_182 rfl (lv_at hl 2 rfl) ?_
            refine lv_iload_n hx hb dL_sprites_183 rfl (lv_at hl 3 rfl) ?_
            refine z_bipush (n := 8) hx hb dL_sprites_184 (by decide) ?_
            refine z_w (zrV (As := [.int (zI s), .int (zI 8)]) (rest := []) ⟨hx, hb, hml, hown, hts⟩ (k_sprite l G cs a A s 8 ia hA (by omega) (by omega)) gL_sprites_X6_sprite rfl qX6_sprite rfl rfl ⟨Nat.le_of_ble_eq_true rfl, Nat.le_of_ble_eq_true rfl⟩ hXI hK (va_recv hK.1 hXI.xo (ci := 6) (q0 := 0) rfl rfl) hl.1 rfl (Nat.le_of_ble_eq_true rfl) dL_sprites_186 ⟨Nat.le_of_ble_eq_true rfl, Nat.le_of_ble_eq_true rfl⟩) hS (fun q h => h) (fun q h => h) (fun v H locs hpost hle hk hS => ?_)
            obtain ⟨rfl, hXI⟩ := hpost
            refine z_topi (b := cntI (fun z_ => decide (z_ ≠ s) && meetB A.1 (A.1 0 4) s z_) (A.1 0 1)) (sp_8 hsr) ?_
            refine lv_iload hx hb dL_sprites_189 (lv_at hl 6 rfl) ?_
            refine z_icmp_ne (tgt := 206) hx hb dL_sprites_191 (by decide) (by omega) (by omega) (fun c123 => ?_) (fun c123 => ?_)
            · skip
              exfalso; omega
            · skip
              refine lv_aload_n hx hb dL_sprites_194 rfl (lv_at hl 2 rfl) ?_
              refine lv_iload_n hx hb dL_sprites_195 rfl (lv_at hl 3 rfl) ?_
              refine z_bipush (n := 9) hx hb dL_sprites_196 (by decide) ?_
              refine z_w (zrV (As := [.int (zI s), .int (zI 9)]) (rest := []) ⟨hx, hb, hml, hown, hts⟩ (k_sprite l G cs a A s 9 ia hA (by omega) (by omega)) gL_sprites_X6_sprite rfl qX6_sprite rfl rfl ⟨Nat.le_of_ble_eq_true rfl, Nat.le_of_ble_eq_true rfl⟩ hXI hK (va_recv hK.1 hXI.xo (ci := 6) (q0 := 0) rfl rfl) hl.1 rfl (Nat.le_of_ble_eq_true rfl) dL_sprites_198 ⟨Nat.le_of_ble_eq_true rfl, Nat.le_of_ble_eq_true rfl⟩) hS (fun q h => h) (fun q h => h) (fun v H locs hpost hle hk hS => ?_)
              obtain ⟨rfl, hXI⟩ := hpost
              refine z_topi (b := (-2)) (sp_9 hsr) ?_
              refine z_bipush (n := -2) hx hb dL_sprites_201 (by decide) ?_
              refine z_icmp_eq (tgt := 208) hx hb dL_sprites_203 (by decide) (by omega) (by omega) (fun c124 => ?_) (fun c124 => ?_)
              · skip
                refine z_iinc (k := 3) (lv' := [(3, .int (zI (s + 1))), (2, .int (zI ((sumN (fun z_ => metF A.1 (A.1 0 4) z_) s.toNat) + (cntI (fun z_ => decide (z_ ≠ s) && meetB A.1 (A.1 0 4) s z_) (A.1 0 1))))), (1, .int (zI ((cntI (isOn A.1) s) + (A.1 1 (6 * s + 3))))), (0, .ref (a 0)), (4, .int (zI (cntI (isOver A.1 s) 32))), (5, .int (zI (cntI (fun z_ => shownB A.1 z_ (A.1 0 4) s) 32))), (6, .int (zI (cntI (fun z_ => decide (z_ ≠ s) && meetB A.1 (A.1 0 4) s z_) (A.1 0 1)))), (7, .int (zI (A.1 0 1)))]) hx hb dL_sprites_208 hl rfl (by decide) rfl (fun ls hl => ?_)
                refine lv_goto (tgt := 6) hx hb dL_sprites_211 (by decide) ?_
                have hb1 := cnt_on hwf hsr
                have hb2 : sumN (fun z_ => metF A.1 (A.1 0 4) z_) (s + 1).toNat = sumN (fun z_ => metF A.1 (A.1 0 4) z_) s.toNat + cntI (fun z_ => decide (z_ ≠ s) && meetB A.1 (A.1 0 4) s z_) (A.1 0 1) := sumN_ss hsr.1
                exact ih1 (s + 1) H locs ⟨(by omega), hXI⟩ hS (by omega) ls (by show lv_has ls 10 [(0, .ref (a 0)), (1, .int (zI (cntI (isOn A.1) (s + 1)))), (2, .int (zI (sumN (fun z_ => metF A.1 (A.1 0 4) z_) (s + 1).toNat))), (3, .int (zI (s + 1)))]; rw [hb1, hb2]; exact lv_sub hl [3, 2, 1, 0] rfl)
              · skip
                exfalso; omega
      · skip
        refine lv_iload hx hb dL_sprites_116 (lv_at hl 6 rfl) ?_
        refine lv_iload hx hb dL_sprites_118 (lv_at hl 7 rfl) ?_
        refine lv_iload_n hx hb dL_sprites_120 rfl (lv_at hl 3 rfl) ?_
        refine z_icmp_eq (tgt := 134) hx hb dL_sprites_121 (by decide) (by omega) (by omega) (fun c8 => ?_) (fun c8 => ?_)
        · skip
          refine z_iconst (n := 0) hx hb dL_sprites_134 ?_
          refine z_iadd hx hb dL_sprites_135 ?_
          refine lv_istore (lv' := [(6, .int (zI ((cntI (fun z_ => decide (z_ ≠ s) && meetB A.1 (A.1 0 4) s z_) x) + 0))), (0, .ref (a 0)), (1, .int (zI (cntI (isOn A.1) s))), (2, .int (zI (sumN (fun z_ => metF A.1 (A.1 0 4) z_) s.toNat))), (3, .int (zI s)), (4, .int (zI (cntI (isOver A.1 s) 32))), (5, .int (zI (cntI (fun z_ => shownB A.1 z_ (A.1 0 4) s) 32))), (7, .int (zI x))]) hx hb dL_sprites_136 hl (by decide) rfl (fun ls hl => ?_)
          refine z_iinc (k := 7) (lv' := [(7, .int (zI (x + 1))), (6, .int (zI ((cntI (fun z_ => decide (z_ ≠ s) && meetB A.1 (A.1 0 4) s z_) x) + 0))), (0, .ref (a 0)), (1, .int (zI (cntI (isOn A.1) s))), (2, .int (zI (sumN (fun z_ => metF A.1 (A.1 0 4) z_) s.toNat))), (3, .int (zI s)), (4, .int (zI (cntI (isOver A.1 s) 32))), (5, .int (zI (cntI (fun z_ => shownB A.1 z_ (A.1 0 4) s) 32)))]) hx hb dL_sprites_138 hl rfl (by decide) rfl (fun ls hl => ?_)
          refine lv_goto (tgt := 106) hx hb dL_sprites_141 (by decide) ?_
          have hb1 : cntI (fun z_ => decide (z_ ≠ s) && meetB A.1 (A.1 0 4) s z_) (x + 1) = cntI (fun z_ => decide (z_ ≠ s) && meetB A.1 (A.1 0 4) s z_) x + 0 := by have e9 : x = s := c8; rw [e9]; exact met_f hsr.1
          exact ih (x + 1) H locs ⟨(by omega), hXI⟩ hS (by omega) ls (by show lv_has ls 10 [(0, .ref (a 0)), (1, .int (zI (cntI (isOn A.1) s))), (2, .int (zI (sumN (fun z_ => metF A.1 (A.1 0 4) z_) s.toNat))), (3, .int (zI s)), (4, .int (zI (cntI (isOver A.1 s) 32))), (5, .int (zI (cntI (fun z_ => shownB A.1 z_ (A.1 0 4) s) 32))), (6, .int (zI (cntI (fun z_ => decide (z_ ≠ s) && meetB A.1 (A.1 0 4) s z_) (x + 1)))), (7, .int (zI (x + 1)))]; rw [hb1]; exact lv_sub hl [2, 3, 4, 5, 6, 7, 1, 0] rfl)
        · skip
          refine lv_aload_n hx hb dL_sprites_124 rfl (lv_at hl 0 rfl) ?_
          refine lv_iload_n hx hb dL_sprites_125 rfl (lv_at hl 3 rfl) ?_
          refine lv_iload hx hb dL_sprites_126 (lv_at hl 7 rfl) ?_
          refine z_w (zrV (As := [.int (zI s), .int (zI x)]) (rest := [.int (zI (cntI (fun z_ => decide (z_ ≠ s) && meetB A.1 (A.1 0 4) s z_) x))]) ⟨hx, hb, hml, hown, hts⟩ (k_meet l G cs a A s x ia hA (by omega) (by omega)) gL_sprites_X6_meet rfl qX6_meet rfl rfl ⟨Nat.le_of_ble_eq_true rfl, Nat.le_of_ble_eq_true rfl⟩ hXI hK (va_recv hK.1 hXI.xo (ci := 6) (q0 := 0) rfl rfl) hl.1 rfl (Nat.le_of_ble_eq_true rfl) dL_sprites_128 ⟨Nat.le_of_ble_eq_true rfl, Nat.le_of_ble_eq_true rfl⟩) hS (fun q h => h) (fun q h => h) (fun v H locs hpost hle hk hS => ?_)
          obtain ⟨rfl, hXI⟩ := hpost
          refine lv_goto (tgt := 135) hx hb dL_sprites_131 (by decide) ?_
          refine z_iadd hx hb dL_sprites_135 ?_
          refine lv_istore (lv' := [(6, .int (zI ((cntI (fun z_ => decide (z_ ≠ s) && meetB A.1 (A.1 0 4) s z_) x) + (meetF A.1 s x)))), (0, .ref (a 0)), (1, .int (zI (cntI (isOn A.1) s))), (2, .int (zI (sumN (fun z_ => metF A.1 (A.1 0 4) z_) s.toNat))), (3, .int (zI s)), (4, .int (zI (cntI (isOver A.1 s) 32))), (5, .int (zI (cntI (fun z_ => shownB A.1 z_ (A.1 0 4) s) 32))), (7, .int (zI x))]) hx hb dL_sprites_136 hl (by decide) rfl (fun ls hl => ?_)
          refine z_iinc (k := 7) (lv' := [(7, .int (zI (x + 1))), (6, .int (zI ((cntI (fun z_ => decide (z_ ≠ s) && meetB A.1 (A.1 0 4) s z_) x) + (meetF A.1 s x)))), (0, .ref (a 0)), (1, .int (zI (cntI (isOn A.1) s))), (2, .int (zI (sumN (fun z_ => metF A.1 (A.1 0 4) z_) s.toNat))), (3, .int (zI s)), (4, .int (zI (cntI (isOver A.1 s) 32))), (5, .int (zI (cntI (fun z_ => shownB A.1 z_ (A.1 0 4) s) 32)))]) hx hb dL_sprites_138 hl rfl (by decide) rfl (fun ls hl => ?_)
          refine lv_goto (tgt := 106) hx hb dL_sprites_141 (by decide) ?_
          have hb1 : cntI (fun z_ => decide (z_ ≠ s) && meetB A.1 (A.1 0 4) s z_) (x + 1) = cntI (fun z_ => decide (z_ ≠ s) && meetB A.1 (A.1 0 4) s z_) x + meetF A.1 s x := met_t (by omega) hsr c8
          exact ih (x + 1) H locs ⟨(by omega), hXI⟩ hS (by omega) ls (by show lv_has ls 10 [(0, .ref (a 0)), (1, .int (zI (cntI (isOn A.1) s))), (2, .int (zI (sumN (fun z_ => metF A.1 (A.1 0 4) z_) s.toNat))), (3, .int (zI s)), (4, .int (zI (cntI (isOver A.1 s) 32))), (5, .int (zI (cntI (fun z_ => shownB A.1 z_ (A.1 0 4) s) 32))), (6, .int (zI (cntI (fun z_ => decide (z_ ≠ s) && meetB A.1 (A.1 0 4) s z_) (x + 1)))), (7, .int (zI (x + 1)))]; rw [hb1]; exact lv_sub hl [2, 3, 4, 5, 6, 7, 1, 0] rfl)
    · skip
      refine lv_iload hx hb dL_sprites_34 (lv_at hl 7 rfl) ?_
      refine lv_aload_n hx hb dL_sprites_36 rfl (lv_at hl 0 rfl) ?_
      refine lv_iload_n hx hb dL_sprites_37 rfl (lv_at hl 3 rfl) ?_
      refine z_iconst (n := 5) hx hb dL_sprites_38 ?_
      refine z_w (zrV (As := [.int (zI s), .int (zI 5)]) (rest := [.int (zI y)]) ⟨hx, hb, hml, hown, hts⟩ (k_sprite l G cs a A s 5 ia hA (by omega) (by omega)) gL_sprites_X6_sprite rfl qX6_sprite rfl rfl ⟨Nat.le_of_ble_eq_true rfl, Nat.le_of_ble_eq_true rfl⟩ hXI hK (va_recv hK.1 hXI.xo (ci := 6) (q0 := 0) rfl rfl) hl.1 rfl (Nat.le_of_ble_eq_true rfl) dL_sprites_39 ⟨Nat.le_of_ble_eq_true rfl, Nat.le_of_ble_eq_true rfl⟩) hS (fun q h => h) (fun q h => h) (fun v H locs hpost hle hk hS => ?_)
      obtain ⟨rfl, hXI⟩ := hpost
      refine z_topi (b := A.1 1 (6 * s + 5)) (sp_at hsr (by decide)) ?_
      refine z_isub hx hb dL_sprites_42 ?_
      refine lv_istore (lv' := [(8, .int (zI (y - (A.1 1 (6 * s + 5))))), (0, .ref (a 0)), (1, .int (zI (cntI (isOn A.1) s))), (2, .int (zI (sumN (fun z_ => metF A.1 (A.1 0 4) z_) s.toNat))), (3, .int (zI s)), (4, .int (zI (cntI (isOver A.1 s) y))), (5, .int (zI (cntI (fun z_ => shownB A.1 z_ (A.1 0 4) s) y))), (6, .int (zI 0)), (7, .int (zI y))]) hx hb dL_sprites_43 hl (by decide) rfl (fun ls hl => ?_)
      refine lv_iload hx hb dL_sprites_45 (lv_at hl 5 rfl) ?_
      refine lv_iload hx hb dL_sprites_47 (lv_at hl 0 rfl) ?_
      refine z_if_lt (tgt := 63) hx hb dL_sprites_49 (by decide) (by omega) (fun c125 => ?_) (fun c125 => ?_)
      · skip
        refine z_iconst (n := 0) hx hb dL_sprites_63 ?_
        refine z_iadd hx hb dL_sprites_64 ?_
        refine lv_istore (lv' := [(4, .int (zI ((cntI (isOver A.1 s) y) + 0))), (8, .int (zI (y - (A.1 1 (6 * s + 5))))), (0, .ref (a 0)), (1, .int (zI (cntI (isOn A.1) s))), (2, .int (zI (sumN (fun z_ => metF A.1 (A.1 0 4) z_) s.toNat))), (3, .int (zI s)), (5, .int (zI (cntI (fun z_ => shownB A.1 z_ (A.1 0 4) s) y))), (6, .int (zI 0)), (7, .int (zI y))]) hx hb dL_sprites_65 hl (by decide) rfl (fun ls hl => ?_)
        refine lv_iload hx hb dL_sprites_67 (lv_at hl 6 rfl) ?_
        refine lv_aload_n hx hb dL_sprites_69 rfl (lv_at hl 2 rfl) ?_
        refine lv_iload_n hx hb dL_sprites_70 rfl (lv_at hl 5 rfl) ?_
        refine lv_iload hx hb dL_sprites_71 (lv_at hl 8 rfl) ?_
        refine z_w (zrSJ (As := [.ref (a 0), .int (zI s), .int (zI y)]) (rest := [.int (zI (cntI (fun z_ => shownB A.1 z_ (A.1 0 4) s) y))]) ⟨hx, hb, hml, hown, hts⟩ (c_L_covers l G cs a A s y ia hA hsr (by omega)) gL_sprites_L_covers rfl qL_covers rfl rfl ⟨Nat.le_of_ble_eq_true rfl, Nat.le_of_ble_eq_true rfl⟩ hXI hK hl.1 rfl (Nat.le_of_ble_eq_true rfl) dL_sprites_73 ⟨Nat.le_of_ble_eq_true rfl, Nat.le_of_ble_eq_true rfl⟩) hS (fun q h => h) (fun q h => h) (fun v H locs hpost hle hk hS => ?_)
        obtain ⟨rfl, hXI⟩ := hpost
        refine z_bif_eq (tgt := 93) hx hb dL_sprites_76 (by decide) (fun c8 => ?_) (fun c8 => ?_)
        · skip
          refine z_iconst (n := 0) hx hb dL_sprites_93 ?_
          refine z_iadd hx hb dL_sprites_94 ?_
          refine lv_istore (lv' := [(5, .int (zI ((cntI (fun z_ => shownB A.1 z_ (A.1 0 4) s) y) + 0))), (4, .int (zI ((cntI (isOver A.1 s) y) + 0))), (8, .int (zI (y - (A.1 1 (6 * s + 5))))), (0, .ref (a 0)), (1, .int (zI (cntI (isOn A.1) s))), (2, .int (zI (sumN (fun z_ => metF A.1 (A.1 0 4) z_) s.toNat))), (3, .int (zI s)), (6, .int (zI 0)), (7, .int (zI y))]) hx hb dL_sprites_95 hl (by decide) rfl (fun ls hl => ?_)
          refine z_iinc (k := 8) (lv' := [(7, .int (zI (y + 1))), (5, .int (zI ((cntI (fun z_ => shownB A.1 z_ (A.1 0 4) s) y) + 0))), (4, .int (zI ((cntI (isOver A.1 s) y) + 0))), (8, .int (zI (y - (A.1 1 (6 * s + 5))))), (0, .ref (a 0)), (1, .int (zI (cntI (isOn A.1) s))), (2, .int (zI (sumN (fun z_ => metF A.1 (A.1 0 4) z_) s.toNat))), (3, .int (zI s)), (6, .int (zI 0))]) hx hb dL_sprites_97 hl rfl (by decide) rfl (fun ls hl => ?_)
          refine lv_goto (tgt := 27) hx hb dL_sprites_100 (by decide) ?_
          have hb1 : cntI (isOver A.1 s) (y + 1) = cntI (isOver A.1 s) y + 0 := by rw [cntI_f hI.1 (decide_eq_false (show ¬ (0 ≤ y - A.1 1 (6 * s + 5) ∧ y - A.1 1 (6 * s + 5) ≤ 7) by omega))]; omega
          have hb2 : cntI (fun z_ => shownB A.1 z_ (A.1 0 4) s) (y + 1) = cntI (fun z_ => shownB A.1 z_ (A.1 0 4) s) y + 0 := (cntI_f (f := fun z_ => shownB A.1 z_ (A.1 0 4) s) hI.1 (notW c8)).trans (Int.add_zero _).symm
          exact ih (y + 1) H locs ⟨(by omega), hXI⟩ hS (by omega) ls (by show lv_has ls 10 [(0, .ref (a 0)), (1, .int (zI (cntI (isOn A.1) s))), (2, .int (zI (sumN (fun z_ => metF A.1 (A.1 0 4) z_) s.toNat))), (3, .int (zI s)), (4, .int (zI (cntI (isOver A.1 s) (y + 1)))), (5, .int (zI (cntI (fun z_ => shownB A.1 z_ (A.1 0 4) s) (y + 1)))), (6, .int (zI 0)), (7, .int (zI (y + 1)))]; rw [hb1, hb2]; exact lv_sub hl [4, 5, 6, 7, 2, 1, 8, 0] rfl)
        · skip
          refine lv_aload_n hx hb dL_sprites_79 rfl (lv_at hl 2 rfl) ?_
          refine lv_iload hx hb dL_sprites_80 (lv_at hl 8 rfl) ?_
          refine lv_iload_n hx hb dL_sprites_82 rfl (lv_at hl 5 rfl) ?_
          refine z_w (zrSJ (As := [.ref (a 0), .int (zI y), .int (zI s)]) (rest := [.int (zI (cntI (fun z_ => shownB A.1 z_ (A.1 0 4) s) y))]) ⟨hx, hb, hml, hown, hts⟩ (c_L_isShown l G cs a A y s ia hA (by omega) hsr) gL_sprites_L_isShown rfl qL_isShown rfl rfl ⟨Nat.le_of_ble_eq_true rfl, Nat.le_of_ble_eq_true rfl⟩ hXI hK hl.1 rfl (Nat.le_of_ble_eq_true rfl) dL_sprites_83 ⟨Nat.le_of_ble_eq_true rfl, Nat.le_of_ble_eq_true rfl⟩) hS (fun q h => h) (fun q h => h) (fun v H locs hpost hle hk hS => ?_)
          obtain ⟨rfl, hXI⟩ := hpost
          refine z_bif_eq (tgt := 93) hx hb dL_sprites_86 (by decide) (fun c7 => ?_) (fun c7 => ?_)
          · skip
            refine z_iconst (n := 0) hx hb dL_sprites_93 ?_
            refine z_iadd hx hb dL_sprites_94 ?_
            refine lv_istore (lv' := [(5, .int (zI ((cntI (fun z_ => shownB A.1 z_ (A.1 0 4) s) y) + 0))), (4, .int (zI ((cntI (isOver A.1 s) y) + 0))), (8, .int (zI (y - (A.1 1 (6 * s + 5))))), (0, .ref (a 0)), (1, .int (zI (cntI (isOn A.1) s))), (2, .int (zI (sumN (fun z_ => metF A.1 (A.1 0 4) z_) s.toNat))), (3, .int (zI s)), (6, .int (zI 0)), (7, .int (zI y))]) hx hb dL_sprites_95 hl (by decide) rfl (fun ls hl => ?_)
            refine z_iinc (k := 8) (lv' := [(7, .int (zI (y + 1))), (5, .int (zI ((cntI (fun z_ => shownB A.1 z_ (A.1 0 4) s) y) + 0))), (4, .int (zI ((cntI (isOver A.1 s) y) + 0))), (8, .int (zI (y - (A.1 1 (6 * s + 5))))), (0, .ref (a 0)), (1, .int (zI (cntI (isOn A.1) s))), (2, .int (zI (sumN (fun z_ => metF A.1 (A.1 0 4) z_) s.toNat))), (3, .int (zI s)), (6, .int (zI 0))]) hx hb dL_sprites_97 hl rfl (by decide) rfl (fun ls hl => ?_)
            refine lv_goto (tgt := 27) hx hb dL_sprites_100 (by decide) ?_
            have hb1 : cntI (isOver A.1 s) (y + 1) = cntI (isOver A.1 s) y + 0 := by rw [cntI_f hI.1 (decide_eq_false (show ¬ (0 ≤ y - A.1 1 (6 * s + 5) ∧ y - A.1 1 (6 * s + 5) ≤ 7) by omega))]; omega
            have hb2 : cntI (fun z_ => shownB A.1 z_ (A.1 0 4) s) (y + 1) = cntI (fun z_ => shownB A.1 z_ (A.1 0 4) s) y + 0 := (cntI_f (f := fun z_ => shownB A.1 z_ (A.1 0 4) s) hI.1 c7).trans (Int.add_zero _).symm
            exact ih (y + 1) H locs ⟨(by omega), hXI⟩ hS (by omega) ls (by show lv_has ls 10 [(0, .ref (a 0)), (1, .int (zI (cntI (isOn A.1) s))), (2, .int (zI (sumN (fun z_ => metF A.1 (A.1 0 4) z_) s.toNat))), (3, .int (zI s)), (4, .int (zI (cntI (isOver A.1 s) (y + 1)))), (5, .int (zI (cntI (fun z_ => shownB A.1 z_ (A.1 0 4) s) (y + 1)))), (6, .int (zI 0)), (7, .int (zI (y + 1)))]; rw [hb1, hb2]; exact lv_sub hl [4, 5, 6, 7, 2, 1, 8, 0] rfl)
          · skip
            refine z_iconst (n := 1) hx hb dL_sprites_89 ?_
            refine lv_goto (tgt := 94) hx hb dL_sprites_90 (by decide) ?_
            refine z_iadd hx hb dL_sprites_94 ?_
            refine lv_istore (lv' := [(5, .int (zI ((cntI (fun z_ => shownB A.1 z_ (A.1 0 4) s) y) + 1))), (4, .int (zI ((cntI (isOver A.1 s) y) + 0))), (8, .int (zI (y - (A.1 1 (6 * s + 5))))), (0, .ref (a 0)), (1, .int (zI (cntI (isOn A.1) s))), (2, .int (zI (sumN (fun z_ => metF A.1 (A.1 0 4) z_) s.toNat))), (3, .int (zI s)), (6, .int (zI 0)), (7, .int (zI y))]) hx hb dL_sprites_95 hl (by decide) rfl (fun ls hl => ?_)
            refine z_iinc (k := 8) (lv' := [(7, .int (zI (y + 1))), (5, .int (zI ((cntI (fun z_ => shownB A.1 z_ (A.1 0 4) s) y) + 1))), (4, .int (zI ((cntI (isOver A.1 s) y) + 0))), (8, .int (zI (y - (A.1 1 (6 * s + 5))))), (0, .ref (a 0)), (1, .int (zI (cntI (isOn A.1) s))), (2, .int (zI (sumN (fun z_ => metF A.1 (A.1 0 4) z_) s.toNat))), (3, .int (zI s)), (6, .int (zI 0))]) hx hb dL_sprites_97 hl rfl (by decide) rfl (fun ls hl => ?_)
            refine lv_goto (tgt := 27) hx hb dL_sprites_100 (by decide) ?_
            have hb1 : cntI (isOver A.1 s) (y + 1) = cntI (isOver A.1 s) y + 0 := by rw [cntI_f hI.1 (decide_eq_false (show ¬ (0 ≤ y - A.1 1 (6 * s + 5) ∧ y - A.1 1 (6 * s + 5) ≤ 7) by omega))]; omega
            have hb2 : cntI (fun z_ => shownB A.1 z_ (A.1 0 4) s) (y + 1) = cntI (fun z_ => shownB A.1 z_ (A.1 0 4) s) y + 1 := cntI_t (f := fun z_ => shownB A.1 z_ (A.1 0 4) s) hI.1 c7
            exact ih (y + 1) H locs ⟨(by omega), hXI⟩ hS (by omega) ls (by show lv_has ls 10 [(0, .ref (a 0)), (1, .int (zI (cntI (isOn A.1) s))), (2, .int (zI (sumN (fun z_ => metF A.1 (A.1 0 4) z_) s.toNat))), (3, .int (zI s)), (4, .int (zI (cntI (isOver A.1 s) (y + 1)))), (5, .int (zI (cntI (fun z_ => shownB A.1 z_ (A.1 0 4) s) (y + 1)))), (6, .int (zI 0)), (7, .int (zI (y + 1)))]; rw [hb1, hb2]; exact lv_sub hl [4, 5, 6, 7, 2, 1, 8, 0] rfl)
      · skip
        refine lv_iload hx hb dL_sprites_52 (lv_at hl 0 rfl) ?_
        refine z_bipush (n := 8) hx hb dL_sprites_54 (by decide) ?_
        refine z_icmp_ge (tgt := 63) hx hb dL_sprites_56 (by decide) (by omega) (by omega) (fun c126 => ?_) (fun c126 => ?_)
        · skip
          refine z_iconst (n := 0) hx hb dL_sprites_63 ?_
          refine z_iadd hx hb dL_sprites_64 ?_
          refine lv_istore (lv' := [(4, .int (zI ((cntI (isOver A.1 s) y) + 0))), (8, .int (zI (y - (A.1 1 (6 * s + 5))))), (0, .ref (a 0)), (1, .int (zI (cntI (isOn A.1) s))), (2, .int (zI (sumN (fun z_ => metF A.1 (A.1 0 4) z_) s.toNat))), (3, .int (zI s)), (5, .int (zI (cntI (fun z_ => shownB A.1 z_ (A.1 0 4) s) y))), (6, .int (zI 0)), (7, .int (zI y))]) hx hb dL_sprites_65 hl (by decide) rfl (fun ls hl => ?_)
          refine lv_iload hx hb dL_sprites_67 (lv_at hl 6 rfl) ?_
          refine lv_aload_n hx hb dL_sprites_69 rfl (lv_at hl 2 rfl) ?_
          refine lv_iload_n hx hb dL_sprites_70 rfl (lv_at hl 5 rfl) ?_
          refine lv_iload hx hb dL_sprites_71 (lv_at hl 8 rfl) ?_
          refine z_w (zrSJ (As := [.ref (a 0), .int (zI s), .int (zI y)]) (rest := [.int (zI (cntI (fun z_ => shownB A.1 z_ (A.1 0 4) s) y))]) ⟨hx, hb, hml, hown, hts⟩ (c_L_covers l G cs a A s y ia hA hsr (by omega)) gL_sprites_L_covers rfl qL_covers rfl rfl ⟨Nat.le_of_ble_eq_true rfl, Nat.le_of_ble_eq_true rfl⟩ hXI hK hl.1 rfl (Nat.le_of_ble_eq_true rfl) dL_sprites_73 ⟨Nat.le_of_ble_eq_true rfl, Nat.le_of_ble_eq_true rfl⟩) hS (fun q h => h) (fun q h => h) (fun v H locs hpost hle hk hS => ?_)
          obtain ⟨rfl, hXI⟩ := hpost
          refine z_bif_eq (tgt := 93) hx hb dL_sprites_76 (by decide) (fun c8 => ?_) (fun c8 => ?_)
          · skip
            refine z_iconst (n := 0) hx hb dL_sprites_93 ?_
            refine z_iadd hx hb dL_sprites_94 ?_
            refine lv_istore (lv' := [(5, .int (zI ((cntI (fun z_ => shownB A.1 z_ (A.1 0 4) s) y) + 0))), (4, .int (zI ((cntI (isOver A.1 s) y) + 0))), (8, .int (zI (y - (A.1 1 (6 * s + 5))))), (0, .ref (a 0)), (1, .int (zI (cntI (isOn A.1) s))), (2, .int (zI (sumN (fun z_ => metF A.1 (A.1 0 4) z_) s.toNat))), (3, .int (zI s)), (6, .int (zI 0)), (7, .int (zI y))]) hx hb dL_sprites_95 hl (by decide) rfl (fun ls hl => ?_)
            refine z_iinc (k := 8) (lv' := [(7, .int (zI (y + 1))), (5, .int (zI ((cntI (fun z_ => shownB A.1 z_ (A.1 0 4) s) y) + 0))), (4, .int (zI ((cntI (isOver A.1 s) y) + 0))), (8, .int (zI (y - (A.1 1 (6 * s + 5))))), (0, .ref (a 0)), (1, .int (zI (cntI (isOn A.1) s))), (2, .int (zI (sumN (fun z_ => metF A.1 (A.1 0 4) z_) s.toNat))), (3, .int (zI s)), (6, .int (zI 0))]) hx hb dL_sprites_97 hl rfl (by decide) rfl (fun ls hl => ?_)
            refine lv_goto (tgt := 27) hx hb dL_sprites_100 (by decide) ?_
            have hb1 : cntI (isOver A.1 s) (y + 1) = cntI (isOver A.1 s) y + 0 := by rw [cntI_f hI.1 (decide_eq_false (show ¬ (0 ≤ y - A.1 1 (6 * s + 5) ∧ y - A.1 1 (6 * s + 5) ≤ 7) by omega))]; omega
            have hb2 : cntI (fun z_ => shownB A.1 z_ (A.1 0 4) s) (y + 1) = cntI (fun z_ => shownB A.1 z_ (A.1 0 4) s) y + 0 := (cntI_f (f := fun z_ => shownB A.1 z_ (A.1 0 4) s) hI.1 (notW c8)).trans (Int.add_zero _).symm
            exact ih (y + 1) H locs ⟨(by omega), hXI⟩ hS (by omega) ls (by show lv_has ls 10 [(0, .ref (a 0)), (1, .int (zI (cntI (isOn A.1) s))), (2, .int (zI (sumN (fun z_ => metF A.1 (A.1 0 4) z_) s.toNat))), (3, .int (zI s)), (4, .int (zI (cntI (isOver A.1 s) (y + 1)))), (5, .int (zI (cntI (fun z_ => shownB A.1 z_ (A.1 0 4) s) (y + 1)))), (6, .int (zI 0)), (7, .int (zI (y + 1)))]; rw [hb1, hb2]; exact lv_sub hl [4, 5, 6, 7, 2, 1, 8, 0] rfl)
          · skip
            refine lv_aload_n hx hb dL_sprites_79 rfl (lv_at hl 2 rfl) ?_
            refine lv_iload hx hb dL_sprites_80 (lv_at hl 8 rfl) ?_
            refine lv_iload_n hx hb dL_sprites_82 rfl (lv_at hl 5 rfl) ?_
            refine z_w (zrSJ (As := [.ref (a 0), .int (zI y), .int (zI s)]) (rest := [.int (zI (cntI (fun z_ => shownB A.1 z_ (A.1 0 4) s) y))]) ⟨hx, hb, hml, hown, hts⟩ (c_L_isShown l G cs a A y s ia hA (by omega) hsr) gL_sprites_L_isShown rfl qL_isShown rfl rfl ⟨Nat.le_of_ble_eq_true rfl, Nat.le_of_ble_eq_true rfl⟩ hXI hK hl.1 rfl (Nat.le_of_ble_eq_true rfl) dL_sprites_83 ⟨Nat.le_of_ble_eq_true rfl, Nat.le_of_ble_eq_true rfl⟩) hS (fun q h => h) (fun q h => h) (fun v H locs hpost hle hk hS => ?_)
            obtain ⟨rfl, hXI⟩ := hpost
            refine z_bif_eq (tgt := 93) hx hb dL_sprites_86 (by decide) (fun c7 => ?_) (fun c7 => ?_)
            · skip
              refine z_iconst (n := 0) hx hb dL_sprites_93 ?_
              refine z_iadd hx hb dL_sprites_94 ?_
              refine lv_istore (lv' := [(5, .int (zI ((cntI (fun z_ => shownB A.1 z_ (A.1 0 4) s) y) + 0))), (4, .int (zI ((cntI (isOver A.1 s) y) + 0))), (8, .int (zI (y - (A.1 1 (6 * s + 5))))), (0, .ref (a 0)), (1, .int (zI (cntI (isOn A.1) s))), (2, .int (zI (sumN (fun z_ => metF A.1 (A.1 0 4) z_) s.toNat))), (3, .int (zI s)), (6, .int (zI 0)), (7, .int (zI y))]) hx hb dL_sprites_95 hl (by decide) rfl (fun ls hl => ?_)
              refine z_iinc (k := 8) (lv' := [(7, .int (zI (y + 1))), (5, .int (zI ((cntI (fun z_ => shownB A.1 z_ (A.1 0 4) s) y) + 0))), (4, .int (zI ((cntI (isOver A.1 s) y) + 0))), (8, .int (zI (y - (A.1 1 (6 * s + 5))))), (0, .ref (a 0)), (1, .int (zI (cntI (isOn A.1) s))), (2, .int (zI (sumN (fun z_ => metF A.1 (A.1 0 4) z_) s.toNat))), (3, .int (zI s)), (6, .int (zI 0))]) hx hb dL_sprites_97 hl rfl (by decide) rfl (fun ls hl => ?_)
              refine lv_goto (tgt := 27) hx hb dL_sprites_100 (by decide) ?_
              have hb1 : cntI (isOver A.1 s) (y + 1) = cntI (isOver A.1 s) y + 0 := by rw [cntI_f hI.1 (decide_eq_false (show ¬ (0 ≤ y - A.1 1 (6 * s + 5) ∧ y - A.1 1 (6 * s + 5) ≤ 7) by omega))]; omega
              have hb2 : cntI (fun z_ => shownB A.1 z_ (A.1 0 4) s) (y + 1) = cntI (fun z_ => shownB A.1 z_ (A.1 0 4) s) y + 0 := (cntI_f (f := fun z_ => shownB A.1 z_ (A.1 0 4) s) hI.1 c7).trans (Int.add_zero _).symm
              exact ih (y + 1) H locs ⟨(by omega), hXI⟩ hS (by omega) ls (by show lv_has ls 10 [(0, .ref (a 0)), (1, .int (zI (cntI (isOn A.1) s))), (2, .int (zI (sumN (fun z_ => metF A.1 (A.1 0 4) z_) s.toNat))), (3, .int (zI s)), (4, .int (zI (cntI (isOver A.1 s) (y + 1)))), (5, .int (zI (cntI (fun z_ => shownB A.1 z_ (A.1 0 4) s) (y + 1)))), (6, .int (zI 0)), (7, .int (zI (y + 1)))]; rw [hb1, hb2]; exact lv_sub hl [4, 5, 6, 7, 2, 1, 8, 0] rfl)
            · skip
              refine z_iconst (n := 1) hx hb dL_sprites_89 ?_
              refine lv_goto (tgt := 94) hx hb dL_sprites_90 (by decide) ?_
              refine z_iadd hx hb dL_sprites_94 ?_
              refine lv_istore (lv' := [(5, .int (zI ((cntI (fun z_ => shownB A.1 z_ (A.1 0 4) s) y) + 1))), (4, .int (zI ((cntI (isOver A.1 s) y) + 0))), (8, .int (zI (y - (A.1 1 (6 * s + 5))))), (0, .ref (a 0)), (1, .int (zI (cntI (isOn A.1) s))), (2, .int (zI (sumN (fun z_ => metF A.1 (A.1 0 4) z_) s.toNat))), (3, .int (zI s)), (6, .int (zI 0)), (7, .int (zI y))]) hx hb dL_sprites_95 hl (by decide) rfl (fun ls hl => ?_)
              refine z_iinc (k := 8) (lv' := [(7, .int (zI (y + 1))), (5, .int (zI ((cntI (fun z_ => shownB A.1 z_ (A.1 0 4) s) y) + 1))), (4, .int (zI ((cntI (isOver A.1 s) y) + 0))), (8, .int (zI (y - (A.1 1 (6 * s + 5))))), (0, .ref (a 0)), (1, .int (zI (cntI (isOn A.1) s))), (2, .int (zI (sumN (fun z_ => metF A.1 (A.1 0 4) z_) s.toNat))), (3, .int (zI s)), (6, .int (zI 0))]) hx hb dL_sprites_97 hl rfl (by decide) rfl (fun ls hl => ?_)
              refine lv_goto (tgt := 27) hx hb dL_sprites_100 (by decide) ?_
              have hb1 : cntI (isOver A.1 s) (y + 1) = cntI (isOver A.1 s) y + 0 := by rw [cntI_f hI.1 (decide_eq_false (show ¬ (0 ≤ y - A.1 1 (6 * s + 5) ∧ y - A.1 1 (6 * s + 5) ≤ 7) by omega))]; omega
              have hb2 : cntI (fun z_ => shownB A.1 z_ (A.1 0 4) s) (y + 1) = cntI (fun z_ => shownB A.1 z_ (A.1 0 4) s) y + 1 := cntI_t (f := fun z_ => shownB A.1 z_ (A.1 0 4) s) hI.1 c7
              exact ih (y + 1) H locs ⟨(by omega), hXI⟩ hS (by omega) ls (by show lv_has ls 10 [(0, .ref (a 0)), (1, .int (zI (cntI (isOn A.1) s))), (2, .int (zI (sumN (fun z_ => metF A.1 (A.1 0 4) z_) s.toNat))), (3, .int (zI s)), (4, .int (zI (cntI (isOver A.1 s) (y + 1)))), (5, .int (zI (cntI (fun z_ => shownB A.1 z_ (A.1 0 4) s) (y + 1)))), (6, .int (zI 0)), (7, .int (zI (y + 1)))]; rw [hb1, hb2]; exact lv_sub hl [4, 5, 6, 7, 2, 1, 8, 0] rfl)
        · skip
          refine z_iconst (n := 1) hx hb dL_sprites_59 ?_
          refine lv_goto (tgt := 64) hx hb dL_sprites_60 (by decide) ?_
          refine z_iadd hx hb dL_sprites_64 ?_
          refine lv_istore (lv' := [(4, .int (zI ((cntI (isOver A.1 s) y) + 1))), (8, .int (zI (y - (A.1 1 (6 * s + 5))))), (0, .ref (a 0)), (1, .int (zI (cntI (isOn A.1) s))), (2, .int (zI (sumN (fun z_ => metF A.1 (A.1 0 4) z_) s.toNat))), (3, .int (zI s)), (5, .int (zI (cntI (fun z_ => shownB A.1 z_ (A.1 0 4) s) y))), (6, .int (zI 0)), (7, .int (zI y))]) hx hb dL_sprites_65 hl (by decide) rfl (fun ls hl => ?_)
          refine lv_iload hx hb dL_sprites_67 (lv_at hl 6 rfl) ?_
          refine lv_aload_n hx hb dL_sprites_69 rfl (lv_at hl 2 rfl) ?_
          refine lv_iload_n hx hb dL_sprites_70 rfl (lv_at hl 5 rfl) ?_
          refine lv_iload hx hb dL_sprites_71 (lv_at hl 8 rfl) ?_
          refine z_w (zrSJ (As := [.ref (a 0), .int (zI s), .int (zI y)]) (rest := [.int (zI (cntI (fun z_ => shownB A.1 z_ (A.1 0 4) s) y))]) ⟨hx, hb, hml, hown, hts⟩ (c_L_covers l G cs a A s y ia hA hsr (by omega)) gL_sprites_L_covers rfl qL_covers rfl rfl ⟨Nat.le_of_ble_eq_true rfl, Nat.le_of_ble_eq_true rfl⟩ hXI hK hl.1 rfl (Nat.le_of_ble_eq_true rfl) dL_sprites_73 ⟨Nat.le_of_ble_eq_true rfl, Nat.le_of_ble_eq_true rfl⟩) hS (fun q h => h) (fun q h => h) (fun v H locs hpost hle hk hS => ?_)
          obtain ⟨rfl, hXI⟩ := hpost
          refine z_bif_eq (tgt := 93) hx hb dL_sprites_76 (by decide) (fun c8 => ?_) (fun c8 => ?_)
          · skip
            refine z_iconst (n := 0) hx hb dL_sprites_93 ?_
            refine z_iadd hx hb dL_sprites_94 ?_
            refine lv_istore (lv' := [(5, .int (zI ((cntI (fun z_ => shownB A.1 z_ (A.1 0 4) s) y) + 0))), (4, .int (zI ((cntI (isOver A.1 s) y) + 1))), (8, .int (zI (y - (A.1 1 (6 * s + 5))))), (0, .ref (a 0)), (1, .int (zI (cntI (isOn A.1) s))), (2, .int (zI (sumN (fun z_ => metF A.1 (A.1 0 4) z_) s.toNat))), (3, .int (zI s)), (6, .int (zI 0)), (7, .int (zI y))]) hx hb dL_sprites_95 hl (by decide) rfl (fun ls hl => ?_)
            refine z_iinc (k := 8) (lv' := [(7, .int (zI (y + 1))), (5, .int (zI ((cntI (fun z_ => shownB A.1 z_ (A.1 0 4) s) y) + 0))), (4, .int (zI ((cntI (isOver A.1 s) y) + 1))), (8, .int (zI (y - (A.1 1 (6 * s + 5))))), (0, .ref (a 0)), (1, .int (zI (cntI (isOn A.1) s))), (2, .int (zI (sumN (fun z_ => metF A.1 (A.1 0 4) z_) s.toNat))), (3, .int (zI s)), (6, .int (zI 0))]) hx hb dL_sprites_97 hl rfl (by decide) rfl (fun ls hl => ?_)
            refine lv_goto (tgt := 27) hx hb dL_sprites_100 (by decide) ?_
            have hb1 : cntI (isOver A.1 s) (y + 1) = cntI (isOver A.1 s) y + 1 := by rw [cntI_t hI.1 (decide_eq_true (show 0 ≤ y - A.1 1 (6 * s + 5) ∧ y - A.1 1 (6 * s + 5) ≤ 7 by omega))]
            have hb2 : cntI (fun z_ => shownB A.1 z_ (A.1 0 4) s) (y + 1) = cntI (fun z_ => shownB A.1 z_ (A.1 0 4) s) y + 0 := (cntI_f (f := fun z_ => shownB A.1 z_ (A.1 0 4) s) hI.1 (notW c8)).trans (Int.add_zero _).symm
            exact ih (y + 1) H locs ⟨(by omega), hXI⟩ hS (by omega) ls (by show lv_has ls 10 [(0, .ref (a 0)), (1, .int (zI (cntI (isOn A.1) s))), (2, .int (zI (sumN (fun z_ => metF A.1 (A.1 0 4) z_) s.toNat))), (3, .int (zI s)), (4, .int (zI (cntI (isOver A.1 s) (y + 1)))), (5, .int (zI (cntI (fun z_ => shownB A.1 z_ (A.1 0 4) s) (y + 1)))), (6, .int (zI 0)), (7, .int (zI (y + 1)))]; rw [hb1, hb2]; exact lv_sub hl [4, 5, 6, 7, 2, 1, 8, 0] rfl)
          · skip
            refine lv_aload_n hx hb dL_sprites_79 rfl (lv_at hl 2 rfl) ?_
            refine lv_iload hx hb dL_sprites_80 (lv_at hl 8 rfl) ?_
            refine lv_iload_n hx hb dL_sprites_82 rfl (lv_at hl 5 rfl) ?_
            refine z_w (zrSJ (As := [.ref (a 0), .int (zI y), .int (zI s)]) (rest := [.int (zI (cntI (fun z_ => shownB A.1 z_ (A.1 0 4) s) y))]) ⟨hx, hb, hml, hown, hts⟩ (c_L_isShown l G cs a A y s ia hA (by omega) hsr) gL_sprites_L_isShown rfl qL_isShown rfl rfl ⟨Nat.le_of_ble_eq_true rfl, Nat.le_of_ble_eq_true rfl⟩ hXI hK hl.1 rfl (Nat.le_of_ble_eq_true rfl) dL_sprites_83 ⟨Nat.le_of_ble_eq_true rfl, Nat.le_of_ble_eq_true rfl⟩) hS (fun q h => h) (fun q h => h) (fun v H locs hpost hle hk hS => ?_)
            obtain ⟨rfl, hXI⟩ := hpost
            refine z_bif_eq (tgt := 93) hx hb dL_sprites_86 (by decide) (fun c7 => ?_) (fun c7 => ?_)
            · skip
              refine z_iconst (n := 0) hx hb dL_sprites_93 ?_
              refine z_iadd hx hb dL_sprites_94 ?_
              refine lv_istore (lv' := [(5, .int (zI ((cntI (fun z_ => shownB A.1 z_ (A.1 0 4) s) y) + 0))), (4, .int (zI ((cntI (isOver A.1 s) y) + 1))), (8, .int (zI (y - (A.1 1 (6 * s + 5))))), (0, .ref (a 0)), (1, .int (zI (cntI (isOn A.1) s))), (2, .int (zI (sumN (fun z_ => metF A.1 (A.1 0 4) z_) s.toNat))), (3, .int (zI s)), (6, .int (zI 0)), (7, .int (zI y))]) hx hb dL_sprites_95 hl (by decide) rfl (fun ls hl => ?_)
              refine z_iinc (k := 8) (lv' := [(7, .int (zI (y + 1))), (5, .int (zI ((cntI (fun z_ => shownB A.1 z_ (A.1 0 4) s) y) + 0))), (4, .int (zI ((cntI (isOver A.1 s) y) + 1))), (8, .int (zI (y - (A.1 1 (6 * s + 5))))), (0, .ref (a 0)), (1, .int (zI (cntI (isOn A.1) s))), (2, .int (zI (sumN (fun z_ => metF A.1 (A.1 0 4) z_) s.toNat))), (3, .int (zI s)), (6, .int (zI 0))]) hx hb dL_sprites_97 hl rfl (by decide) rfl (fun ls hl => ?_)
              refine lv_goto (tgt := 27) hx hb dL_sprites_100 (by decide) ?_
              have hb1 : cntI (isOver A.1 s) (y + 1) = cntI (isOver A.1 s) y + 1 := by rw [cntI_t hI.1 (decide_eq_true (show 0 ≤ y - A.1 1 (6 * s + 5) ∧ y - A.1 1 (6 * s + 5) ≤ 7 by omega))]
              have hb2 : cntI (fun z_ => shownB A.1 z_ (A.1 0 4) s) (y + 1) = cntI (fun z_ => shownB A.1 z_ (A.1 0 4) s) y + 0 := (cntI_f (f := fun z_ => shownB A.1 z_ (A.1 0 4) s) hI.1 c7).trans (Int.add_zero _).symm
              exact ih (y + 1) H locs ⟨(by omega), hXI⟩ hS (by omega) ls (by show lv_has ls 10 [(0, .ref (a 0)), (1, .int (zI (cntI (isOn A.1) s))), (2, .int (zI (sumN (fun z_ => metF A.1 (A.1 0 4) z_) s.toNat))), (3, .int (zI s)), (4, .int (zI (cntI (isOver A.1 s) (y + 1)))), (5, .int (zI (cntI (fun z_ => shownB A.1 z_ (A.1 0 4) s) (y + 1)))), (6, .int (zI 0)), (7, .int (zI (y + 1)))]; rw [hb1, hb2]; exact lv_sub hl [4, 5, 6, 7, 2, 1, 8, 0] rfl)
            · skip
              refine z_iconst (n := 1) hx hb dL_sprites_89 ?_
              refine lv_goto (tgt := 94) hx hb dL_sprites_90 (by decide) ?_
              refine z_iadd hx hb dL_sprites_94 ?_
              refine lv_istore (lv' := [(5, .int (zI ((cntI (fun z_ => shownB A.1 z_ (A.1 0 4) s) y) + 1))), (4, .int (zI ((cntI (isOver A.1 s) y) + 1))), (8, .int (zI (y - (A.1 1 (6 * s + 5))))), (0, .ref (a 0)), (1, .int (zI (cntI (isOn A.1) s))), (2, .int (zI (sumN (fun z_ => metF A.1 (A.1 0 4) z_) s.toNat))), (3, .int (zI s)), (6, .int (zI 0)), (7, .int (zI y))]) hx hb dL_sprites_95 hl (by decide) rfl (fun ls hl => ?_)
              refine z_iinc (k := 8) (lv' := [(7, .int (zI (y + 1))), (5, .int (zI ((cntI (fun z_ => shownB A.1 z_ (A.1 0 4) s) y) + 1))), (4, .int (zI ((cntI (isOver A.1 s) y) + 1))), (8, .int (zI (y - (A.1 1 (6 * s + 5))))), (0, .ref (a 0)), (1, .int (zI (cntI (isOn A.1) s))), (2, .int (zI (sumN (fun z_ => metF A.1 (A.1 0 4) z_) s.toNat))), (3, .int (zI s)), (6, .int (zI 0))]) hx hb dL_sprites_97 hl rfl (by decide) rfl (fun ls hl => ?_)
              refine lv_goto (tgt := 27) hx hb dL_sprites_100 (by decide) ?_
              have hb1 : cntI (isOver A.1 s) (y + 1) = cntI (isOver A.1 s) y + 1 := by rw [cntI_t hI.1 (decide_eq_true (show 0 ≤ y - A.1 1 (6 * s + 5) ∧ y - A.1 1 (6 * s + 5) ≤ 7 by omega))]
              have hb2 : cntI (fun z_ => shownB A.1 z_ (A.1 0 4) s) (y + 1) = cntI (fun z_ => shownB A.1 z_ (A.1 0 4) s) y + 1 := cntI_t (f := fun z_ => shownB A.1 z_ (A.1 0 4) s) hI.1 c7
              exact ih (y + 1) H locs ⟨(by omega), hXI⟩ hS (by omega) ls (by show lv_has ls 10 [(0, .ref (a 0)), (1, .int (zI (cntI (isOn A.1) s))), (2, .int (zI (sumN (fun z_ => metF A.1 (A.1 0 4) z_) s.toNat))), (3, .int (zI s)), (4, .int (zI (cntI (isOver A.1 s) (y + 1)))), (5, .int (zI (cntI (fun z_ => shownB A.1 z_ (A.1 0 4) s) (y + 1)))), (6, .int (zI 0)), (7, .int (zI (y + 1)))]; rw [hb1, hb2]; exact lv_sub hl [4, 5, 6, 7, 2, 1, 8, 0] rfl)
