set_option maxHeartbeats 4000000 in
set_option maxRecDepth 100000 in
theorem c_L_flipped (l : Launch) (G : va_G) (cs : Nat → ClassId) (a : Nat → Nat) (A : AS) (q w r t : Int) (ia : Inj a 62) (hA : GA A) (hp : 0 ≤ q ∧ q < A.1 0 0) (hw : 0 ≤ w ∧ w ≤ 3) (hr_ : 0 ≤ r ∧ r < 8) (hc_ : 0 ≤ t ∧ t < 8) : MW l yL_flipped wsL_flipped { frames := 3, cells := 0, slots := 0, locals := 69 } G cs [.ref (a 0), .int (zI q), .int (zI w), .int (zI r), .int (zI t)] (fun H => XI G cs a a A H) (fun vv H => vv = .int (zI (pixW A.1 q w r t)) ∧ XI G cs a a A H) (AX a 0 62) 0 0 := by
  refine m_intro (Pw := (fun H => XI G cs a a A H)) (cc := cL_flipped) (maxL := 5) (ret := some .int) RL (by decide) rfl rfl (Nat.le_of_ble_eq_true rfl) ?_
  intro pP eE sS mM below meth cC hx hb hr hts hown hml hlk hnm hPre hK ls hl
  have hl : lv_has ls 5 [(0, .ref (a 0)), (1, .int (zI q)), (2, .int (zI w)), (3, .int (zI r)), (4, .int (zI t))] := hl
  have hXI := hPre
  have hS : va_S (AX a 0 62) sS.heap sS.heap [] := va_S.rf
  have hwf := hA.1.1
  obtain ⟨w0, w1, w2, w3, w4, wP, wC, wS, wX⟩ := id hwf
  refine lv_aload_n hx hb dL_flipped_0 rfl (lv_at hl 0 rfl) ?_
  refine lv_iload_n hx hb dL_flipped_1 rfl (lv_at hl 1 rfl) ?_
  refine lv_iload_n hx hb dL_flipped_2 rfl (lv_at hl 2 rfl) ?_
  refine z_iconst (n := 2) hx hb dL_flipped_3 ?_
  refine lv_iand hx hb dL_flipped_4 ?_
  refine z_top (v' := .int (zI (2 * (w / 2)))) (congrArg Value.int (zI_and2 hw)) ?_
  refine z_iconst (n := 2) hx hb dL_flipped_5 ?_
  refine z_icmp_ne (tgt := 16) hx hb dL_flipped_6 (by decide) (by omega) (by omega) (fun c101 => ?_) (fun c101 => ?_)
  · skip
    refine lv_iload_n hx hb dL_flipped_16 rfl (lv_at hl 3 rfl) ?_
    refine lv_iload_n hx hb dL_flipped_17 rfl (lv_at hl 2 rfl) ?_
    refine z_iconst (n := 1) hx hb dL_flipped_18 ?_
    refine lv_iand hx hb dL_flipped_19 ?_
    refine z_top (v' := .int (zI (w % 2))) (congrArg Value.int (zI_and1 hw)) ?_
    refine z_iconst (n := 1) hx hb dL_flipped_20 ?_
    refine z_icmp_ne (tgt := 32) hx hb dL_flipped_21 (by decide) (by omega) (by omega) (fun c102 => ?_) (fun c102 => ?_)
    · skip
      refine lv_iload hx hb dL_flipped_32 (lv_at hl 4 rfl) ?_
      refine z_w (zrV (As := [.int (zI q), .int (zI r), .int (zI t)]) (rest := []) ⟨hx, hb, hml, hown, hts⟩ (k_pixel l G cs a A q r t ia hA (by omega) (by omega) (by omega)) gL_flipped_X6_pixel rfl qX6_pixel rfl rfl ⟨Nat.le_of_ble_eq_true rfl, Nat.le_of_ble_eq_true rfl⟩ hXI hK (va_recv hK.1 hXI.xo (ci := 6) (q0 := 0) rfl rfl) hl.1 rfl (Nat.le_of_ble_eq_true rfl) dL_flipped_34 ⟨Nat.le_of_ble_eq_true rfl, Nat.le_of_ble_eq_true rfl⟩) hS (fun q h => h) (fun q h => h) (fun v H locs hpost hle hk hS => ?_)
      obtain ⟨rfl, hXI⟩ := hpost
      exact w_iret hx hb hr hlk dL_flipped_37 hS ⟨congrArg (fun z => Value.int (zI z)) (px_fl hp hr_ hc_ (by rw [if_neg (show ¬ w / 2 % 2 = 1 by omega)]) (by rw [if_neg (show ¬ w % 2 = 1 by omega)])), hXI⟩
    · skip
      refine z_bipush (n := 7) hx hb dL_flipped_24 (by decide) ?_
      refine lv_iload hx hb dL_flipped_26 (lv_at hl 4 rfl) ?_
      refine z_isub hx hb dL_flipped_28 ?_
      refine lv_goto (tgt := 34) hx hb dL_flipped_29 (by decide) ?_
      refine z_w (zrV (As := [.int (zI q), .int (zI r), .int (zI (7 - t))]) (rest := []) ⟨hx, hb, hml, hown, hts⟩ (k_pixel l G cs a A q r (7 - t) ia hA (by omega) (by omega) (by omega)) gL_flipped_X6_pixel rfl qX6_pixel rfl rfl ⟨Nat.le_of_ble_eq_true rfl, Nat.le_of_ble_eq_true rfl⟩ hXI hK (va_recv hK.1 hXI.xo (ci := 6) (q0 := 0) rfl rfl) hl.1 rfl (Nat.le_of_ble_eq_true rfl) dL_flipped_34 ⟨Nat.le_of_ble_eq_true rfl, Nat.le_of_ble_eq_true rfl⟩) hS (fun q h => h) (fun q h => h) (fun v H locs hpost hle hk hS => ?_)
      obtain ⟨rfl, hXI⟩ := hpost
      exact w_iret hx hb hr hlk dL_flipped_37 hS ⟨congrArg (fun z => Value.int (zI z)) (px_fl hp hr_ hc_ (by rw [if_neg (show ¬ w / 2 % 2 = 1 by omega)]) (by rw [if_pos (show w % 2 = 1 by omega)])), hXI⟩
  · skip
    refine z_bipush (n := 7) hx hb dL_flipped_9 (by decide) ?_
    refine lv_iload_n hx hb dL_flipped_11 rfl (lv_at hl 3 rfl) ?_
    refine z_isub hx hb dL_flipped_12 ?_
    refine lv_goto (tgt := 17) hx hb dL_flipped_13 (by decide) ?_
    refine lv_iload_n hx hb dL_flipped_17 rfl (lv_at hl 2 rfl) ?_
    refine z_iconst (n := 1) hx hb dL_flipped_18 ?_
    refine lv_iand hx hb dL_flipped_19 ?_
    refine z_top (v' := .int (zI (w % 2))) (congrArg Value.int (zI_and1 hw)) ?_
    refine z_iconst (n := 1) hx hb dL_flipped_20 ?_
    refine z_icmp_ne (tgt := 32) hx hb dL_flipped_21 (by decide) (by omega) (by omega) (fun c103 => ?_) (fun c103 => ?_)
    · skip
      refine lv_iload hx hb dL_flipped_32 (lv_at hl 4 rfl) ?_
      refine z_w (zrV (As := [.int (zI q), .int (zI (7 - r)), .int (zI t)]) (rest := []) ⟨hx, hb, hml, hown, hts⟩ (k_pixel l G cs a A q (7 - r) t ia hA (by omega) (by omega) (by omega)) gL_flipped_X6_pixel rfl qX6_pixel rfl rfl ⟨Nat.le_of_ble_eq_true rfl, Nat.le_of_ble_eq_true rfl⟩ hXI hK (va_recv hK.1 hXI.xo (ci := 6) (q0 := 0) rfl rfl) hl.1 rfl (Nat.le_of_ble_eq_true rfl) dL_flipped_34 ⟨Nat.le_of_ble_eq_true rfl, Nat.le_of_ble_eq_true rfl⟩) hS (fun q h => h) (fun q h => h) (fun v H locs hpost hle hk hS => ?_)
      obtain ⟨rfl, hXI⟩ := hpost
      exact w_iret hx hb hr hlk dL_flipped_37 hS ⟨congrArg (fun z => Value.int (zI z)) (px_fl hp hr_ hc_ (by rw [if_pos (show w / 2 % 2 = 1 by omega)]) (by rw [if_neg (show ¬ w % 2 = 1 by omega)])), hXI⟩
    · skip
      refine z_bipush (n := 7) hx hb dL_flipped_24 (by decide) ?_
      refine lv_iload hx hb dL_flipped_26 (lv_at hl 4 rfl) ?_
      refine z_isub hx hb dL_flipped_28 ?_
      refine lv_goto (tgt := 34) hx hb dL_flipped_29 (by decide) ?_
      refine z_w (zrV (As := [.int (zI q), .int (zI (7 - r)), .int (zI (7 - t))]) (rest := []) ⟨hx, hb, hml, hown, hts⟩ (k_pixel l G cs a A q (7 - r) (7 - t) ia hA (by omega) (by omega) (by omega)) gL_flipped_X6_pixel rfl qX6_pixel rfl rfl ⟨Nat.le_of_ble_eq_true rfl, Nat.le_of_ble_eq_true rfl⟩ hXI hK (va_recv hK.1 hXI.xo (ci := 6) (q0 := 0) rfl rfl) hl.1 rfl (Nat.le_of_ble_eq_true rfl) dL_flipped_34 ⟨Nat.le_of_ble_eq_true rfl, Nat.le_of_ble_eq_true rfl⟩) hS (fun q h => h) (fun q h => h) (fun v H locs hpost hle hk hS => ?_)
      obtain ⟨rfl, hXI⟩ := hpost
      exact w_iret hx hb hr hlk dL_flipped_37 hS ⟨congrArg (fun z => Value.int (zI z)) (px_fl hp hr_ hc_ (by rw [if_pos (show w / 2 % 2 = 1 by omega)]) (by rw [if_pos (show w % 2 = 1 by omega)])), hXI⟩

set_option maxHeartbeats 4000000 in
set_option maxRecDepth 100000 in
theorem c_L_covers (l : Launch) (G : va_G) (cs : Nat → ClassId) (a : Nat → Nat) (A : AS) (s q : Int) (ia : Inj a 62) (hA : GA A) (hs : 0 ≤ s ∧ s < A.1 0 1) (hq : 0 ≤ q ∧ q < 32) : MW l yL_covers wsL_covers { frames := 7, cells := 0, slots := 0, locals := 165 } G cs [.ref (a 0), .int (zI s), .int (zI q)] (fun H => XI G cs a a A H) (fun vv H => vv = .int (zI (b2 (isW A.1 q s))) ∧ XI G cs a a A H) (AX a 0 62) 0 0 := by
  refine m_intro (Pw := (fun H => XI G cs a a A H)) (cc := cL_covers) (maxL := 3) (ret := some .boolean) RL (by decide) rfl rfl (Nat.le_of_ble_eq_true rfl) ?_
  intro pP eE sS mM below meth cC hx hb hr hts hown hml hlk hnm hPre hK ls hl
  have hl : lv_has ls 3 [(0, .ref (a 0)), (1, .int (zI s)), (2, .int (zI q))] := hl
  have hXI := hPre
  have hS : va_S (AX a 0 62) sS.heap sS.heap [] := va_S.rf
  have hwf := hA.1.1
  obtain ⟨w0, w1, w2, w3, w4, wP, wC, wS, wX⟩ := id hwf
  have hpp := wP s hs.1 hs.2
  refine lv_aload_n hx hb dL_covers_0 rfl (lv_at hl 0 rfl) ?_
  refine lv_iload_n hx hb dL_covers_1 rfl (lv_at hl 1 rfl) ?_
  refine z_iconst (n := 3) hx hb dL_covers_2 ?_
  refine z_w (zrV (As := [.int (zI s), .int (zI 3)]) (rest := []) ⟨hx, hb, hml, hown, hts⟩ (k_sprite l G cs a A s 3 ia hA (by omega) (by omega)) gL_covers_X6_sprite rfl qX6_sprite rfl rfl ⟨Nat.le_of_ble_eq_true rfl, Nat.le_of_ble_eq_true rfl⟩ hXI hK (va_recv hK.1 hXI.xo (ci := 6) (q0 := 0) rfl rfl) hl.1 rfl (Nat.le_of_ble_eq_true rfl) dL_covers_3 ⟨Nat.le_of_ble_eq_true rfl, Nat.le_of_ble_eq_true rfl⟩) hS (fun q h => h) (fun q h => h) (fun v H locs hpost hle hk hS => ?_)
  obtain ⟨rfl, hXI⟩ := hpost
  refine z_topi (b := A.1 1 (6 * s + 3)) (sp_at hs (by decide)) ?_
  refine z_iconst (n := 1) hx hb dL_covers_6 ?_
  refine z_icmp_ne (tgt := 37) hx hb dL_covers_7 (by decide) (by omega) (by omega) (fun c101 => ?_) (fun c101 => ?_)
  · skip
    refine z_iconst (n := 0) hx hb dL_covers_37 ?_
    exact w_zret hx hb hr hlk dL_covers_38 (by omega) hS ⟨congrArg (fun z => Value.int (zI z)) (b2_f (by unfold isW isOver; simp only [Bool.and_eq_true, Bool.and_eq_false_iff, decide_eq_true_eq, decide_eq_false_iff_not]; omega)).symm, hXI⟩
  · skip
    refine lv_iload_n hx hb dL_covers_10 rfl (lv_at hl 2 rfl) ?_
    refine lv_aload_n hx hb dL_covers_11 rfl (lv_at hl 0 rfl) ?_
    refine lv_iload_n hx hb dL_covers_12 rfl (lv_at hl 1 rfl) ?_
    refine z_iconst (n := 5) hx hb dL_covers_13 ?_
    refine z_w (zrV (As := [.int (zI s), .int (zI 5)]) (rest := [.int (zI q)]) ⟨hx, hb, hml, hown, hts⟩ (k_sprite l G cs a A s 5 ia hA (by omega) (by omega)) gL_covers_X6_sprite rfl qX6_sprite rfl rfl ⟨Nat.le_of_ble_eq_true rfl, Nat.le_of_ble_eq_true rfl⟩ hXI hK (va_recv hK.1 hXI.xo (ci := 6) (q0 := 0) rfl rfl) hl.1 rfl (Nat.le_of_ble_eq_true rfl) dL_covers_14 ⟨Nat.le_of_ble_eq_true rfl, Nat.le_of_ble_eq_true rfl⟩) hS (fun q h => h) (fun q h => h) (fun v H locs hpost hle hk hS => ?_)
    obtain ⟨rfl, hXI⟩ := hpost
    refine z_topi (b := A.1 1 (6 * s + 5)) (sp_at hs (by decide)) ?_
    refine z_icmp_lt (tgt := 37) hx hb dL_covers_17 (by decide) (by omega) (by omega) (fun c102 => ?_) (fun c102 => ?_)
    · skip
      refine z_iconst (n := 0) hx hb dL_covers_37 ?_
      exact w_zret hx hb hr hlk dL_covers_38 (by omega) hS ⟨congrArg (fun z => Value.int (zI z)) (b2_f (by unfold isW isOver; simp only [Bool.and_eq_true, Bool.and_eq_false_iff, decide_eq_true_eq, decide_eq_false_iff_not]; omega)).symm, hXI⟩
    · skip
      refine lv_iload_n hx hb dL_covers_20 rfl (lv_at hl 2 rfl) ?_
      refine lv_aload_n hx hb dL_covers_21 rfl (lv_at hl 0 rfl) ?_
      refine lv_iload_n hx hb dL_covers_22 rfl (lv_at hl 1 rfl) ?_
      refine z_iconst (n := 5) hx hb dL_covers_23 ?_
      refine z_w (zrV (As := [.int (zI s), .int (zI 5)]) (rest := [.int (zI q)]) ⟨hx, hb, hml, hown, hts⟩ (k_sprite l G cs a A s 5 ia hA (by omega) (by omega)) gL_covers_X6_sprite rfl qX6_sprite rfl rfl ⟨Nat.le_of_ble_eq_true rfl, Nat.le_of_ble_eq_true rfl⟩ hXI hK (va_recv hK.1 hXI.xo (ci := 6) (q0 := 0) rfl rfl) hl.1 rfl (Nat.le_of_ble_eq_true rfl) dL_covers_24 ⟨Nat.le_of_ble_eq_true rfl, Nat.le_of_ble_eq_true rfl⟩) hS (fun q h => h) (fun q h => h) (fun v H locs hpost hle hk hS => ?_)
      obtain ⟨rfl, hXI⟩ := hpost
      refine z_topi (b := A.1 1 (6 * s + 5)) (sp_at hs (by decide)) ?_
      refine z_bipush (n := 8) hx hb dL_covers_27 (by decide) ?_
      refine z_iadd hx hb dL_covers_29 ?_
      refine z_icmp_ge (tgt := 37) hx hb dL_covers_30 (by decide) (by omega) (by omega) (fun c103 => ?_) (fun c103 => ?_)
      · skip
        refine z_iconst (n := 0) hx hb dL_covers_37 ?_
        exact w_zret hx hb hr hlk dL_covers_38 (by omega) hS ⟨congrArg (fun z => Value.int (zI z)) (b2_f (by unfold isW isOver; simp only [Bool.and_eq_true, Bool.and_eq_false_iff, decide_eq_true_eq, decide_eq_false_iff_not]; omega)).symm, hXI⟩
      · skip
        refine z_iconst (n := 1) hx hb dL_covers_33 ?_
        refine lv_goto (tgt := 38) hx hb dL_covers_34 (by decide) ?_
        exact w_zret hx hb hr hlk dL_covers_38 (by omega) hS ⟨congrArg (fun z => Value.int (zI z)) (b2_t (by unfold isW isOver; simp only [Bool.and_eq_true, Bool.and_eq_false_iff, decide_eq_true_eq, decide_eq_false_iff_not]; omega)).symm, hXI⟩

set_option maxHeartbeats 4000000 in
set_option maxRecDepth 100000 in
theorem c_L_isShown (l : Launch) (G : va_G) (cs : Nat → ClassId) (a : Nat → Nat) (A : AS) (q s : Int) (ia : Inj a 62) (hA : GA A) (hq : 0 ≤ q ∧ q < 32) (hs : 0 ≤ s ∧ s < A.1 0 1) : MW l yL_isShown wsL_isShown { frames := 6, cells := 0, slots := 0, locals := 145 } G cs [.ref (a 0), .int (zI q), .int (zI s)] (fun H => XI G cs a a A H) (fun vv H => vv = .int (zI (b2 (shownB A.1 q (A.1 0 4) s))) ∧ XI G cs a a A H) (AX a 0 62) 0 0 := by
  refine m_intro (Pw := (fun H => XI G cs a a A H)) (cc := cL_isShown) (maxL := 4) (ret := some .boolean) RL (by decide) rfl rfl (Nat.le_of_ble_eq_true rfl) ?_
  intro pP eE sS mM below meth cC hx hb hr hts hown hml hlk hnm hPre hK ls hl
  have hl : lv_has ls 4 [(0, .ref (a 0)), (1, .int (zI q)), (2, .int (zI s))] := hl
  have hXI := hPre
  have hS : va_S (AX a 0 62) sS.heap sS.heap [] := va_S.rf
  have hwf := hA.1.1
  obtain ⟨w0, w1, w2, w3, w4, wP, wC, wS, wX⟩ := id hwf
  have hns := nSh_r (S := A.1) (q := q) (fr := A.1 0 4) w1.1 (by omega)
  refine z_iconst (n := 0) hx hb dL_isShown_0 ?_
  refine lv_istore_n (lv' := [(3, .int (zI 0)), (0, .ref (a 0)), (1, .int (zI q)), (2, .int (zI s))]) hx hb dL_isShown_1 rfl hl (by decide) rfl (fun ls hl => ?_)
  -- loop 2
  refine z_loopH (nL := 4) (fun (k : Int) => [(0, .ref (a 0)), (1, .int (zI q)), (2, .int (zI s)), (3, .int (zI k))]) (fun (k : Int) (H : Heap) => ((0 ≤ k ∧ k ≤ 20) ∧ ∀ j, 0 ≤ j → j < k → shAt A.1 q (A.1 0 4) j ≠ s) ∧ XI G cs a a A H) (fun (k : Int) => (20 - k).toNat) (0 : Int) ⟨⟨by omega, fun j h1 h2 => by omega⟩, hXI⟩ hS (lv_sub hl [1, 2, 3, 0] rfl) (fun k H locs hIH hS ih ls hl => ?_)
  obtain ⟨hI, hXI⟩ := hIH
  have hl : lv_has ls 4 [(0, .ref (a 0)), (1, .int (zI q)), (2, .int (zI s)), (3, .int (zI k))] := hl
  obtain ⟨hI, hJ⟩ := hI
  refine lv_iload_n hx hb dL_isShown_2 rfl (lv_at hl 3 rfl) ?_
  refine lv_aload_n hx hb dL_isShown_3 rfl (lv_at hl 0 rfl) ?_
  refine lv_iload_n hx hb dL_isShown_4 rfl (lv_at hl 1 rfl) ?_
  refine z_iconst (n := 1) hx hb dL_isShown_5 ?_
  refine z_w (zrV (As := [.int (zI q), .int (zI 1)]) (rest := [.int (zI k)]) ⟨hx, hb, hml, hown, hts⟩ (k_line l G cs a A q 1 ia hA (by omega) (by omega)) gL_isShown_X6_line rfl qX6_line rfl rfl ⟨Nat.le_of_ble_eq_true rfl, Nat.le_of_ble_eq_true rfl⟩ hXI hK (va_recv hK.1 hXI.xo (ci := 6) (q0 := 0) rfl rfl) hl.1 rfl (Nat.le_of_ble_eq_true rfl) dL_isShown_6 ⟨Nat.le_of_ble_eq_true rfl, Nat.le_of_ble_eq_true rfl⟩) hS (fun q h => h) (fun q h => h) (fun v H locs hpost hle hk hS => ?_)
  obtain ⟨rfl, hXI⟩ := hpost
  refine z_topi (b := nSh A.1 q (A.1 0 4)) (ln_1 hq) ?_
  refine z_icmp_ge (tgt := 30) hx hb dL_isShown_9 (by decide) (by omega) (by omega) (fun c101 => ?_) (fun c101 => ?_)
  · skip
    refine z_iconst (n := 0) hx hb dL_isShown_30 ?_
    exact w_zret hx hb hr hlk dL_isShown_31 (by omega) hS ⟨congrArg (fun z => Value.int (zI z)) (b2_f (shown_no hs (fun j h1 h2 => hJ j h1 (by omega)))).symm, hXI⟩
  · skip
    refine lv_aload_n hx hb dL_isShown_12 rfl (lv_at hl 0 rfl) ?_
    refine lv_iload_n hx hb dL_isShown_13 rfl (lv_at hl 1 rfl) ?_
    refine lv_iload_n hx hb dL_isShown_14 rfl (lv_at hl 3 rfl) ?_
    refine z_w (zrV (As := [.int (zI q), .int (zI k)]) (rest := []) ⟨hx, hb, hml, hown, hts⟩ (k_shown l G cs a A q k ia hA (by omega) (by omega)) gL_isShown_X6_shown rfl qX6_shown rfl rfl ⟨Nat.le_of_ble_eq_true rfl, Nat.le_of_ble_eq_true rfl⟩ hXI hK (va_recv hK.1 hXI.xo (ci := 6) (q0 := 0) rfl rfl) hl.1 rfl (Nat.le_of_ble_eq_true rfl) dL_isShown_15 ⟨Nat.le_of_ble_eq_true rfl, Nat.le_of_ble_eq_true rfl⟩) hS (fun q h => h) (fun q h => h) (fun v H locs hpost hle hk hS => ?_)
    obtain ⟨rfl, hXI⟩ := hpost
    refine z_topi (b := shAt A.1 q (A.1 0 4) k) (shn_at hq (by omega)) ?_
    have hr9 := shAt_rr (S := A.1) (q := q) (fr := A.1 0 4) k
    refine lv_iload_n hx hb dL_isShown_18 rfl (lv_at hl 2 rfl) ?_
    refine z_icmp_ne (tgt := 24) hx hb dL_isShown_19 (by decide) (by omega) (by omega) (fun c9 => ?_) (fun c9 => ?_)
    · skip
      refine z_iinc (k := 3) (lv' := [(3, .int (zI (k + 1))), (0, .ref (a 0)), (1, .int (zI q)), (2, .int (zI s))]) hx hb dL_isShown_24 hl rfl (by decide) rfl (fun ls hl => ?_)
      refine lv_goto (tgt := 2) hx hb dL_isShown_27 (by decide) ?_
      exact ih (k + 1) H locs ⟨⟨by omega, fun j q1 q2 => by
      by_cases e : j = k
      · subst e; exact c9
      · exact hJ j q1 (by omega)⟩, hXI⟩ hS (by omega) ls (lv_sub hl [1, 2, 3, 0] rfl)
    · skip
      refine z_iconst (n := 1) hx hb dL_isShown_22 ?_
      exact w_zret hx hb hr hlk dL_isShown_23 (by omega) hS ⟨congrArg (fun z => Value.int (zI z)) (b2_t ((shown_iff hs).2 ⟨k, by omega, by omega, c9⟩)).symm, hXI⟩

set_option maxHeartbeats 4000000 in
set_option maxRecDepth 100000 in
theorem c_L_pixelOf (l : Launch) (G : va_G) (cs : Nat → ClassId) (a : Nat → Nat) (A : AS) (s q r : Int) (ia : Inj a 62) (hA : GA A) (hs : 0 ≤ s ∧ s < A.1 0 1) (hq : 0 ≤ q ∧ q < 32) (hr_ : 0 ≤ r ∧ r < 32) : MW l yL_pixelOf wsL_pixelOf { frames := 7, cells := 0, slots := 0, locals := 165 } G cs [.ref (a 0), .int (zI s), .int (zI q), .int (zI r)] (fun H => XI G cs a a A H) (fun vv H => vv = .int (zI (pixAt A.1 s q r)) ∧ XI G cs a a A H) (AX a 0 62) 0 0 := by
  refine m_intro (Pw := (fun H => XI G cs a a A H)) (cc := cL_pixelOf) (maxL := 6) (ret := some .int) RL (by decide) rfl rfl (Nat.le_of_ble_eq_true rfl) ?_
  intro pP eE sS mM below meth cC hx hb hr hts hown hml hlk hnm hPre hK ls hl
  have hl : lv_has ls 6 [(0, .ref (a 0)), (1, .int (zI s)), (2, .int (zI q)), (3, .int (zI r))] := hl
  have hXI := hPre
  have hS : va_S (AX a 0 62) sS.heap sS.heap [] := va_S.rf
  have hwf := hA.1.1
  obtain ⟨w0, w1, w2, w3, w4, wP, wC, wS, wX⟩ := id hwf
  have hpp := wP s hs.1 hs.2
  refine lv_iload_n hx hb dL_pixelOf_0 rfl (lv_at hl 2 rfl) ?_
  refine lv_aload_n hx hb dL_pixelOf_1 rfl (lv_at hl 0 rfl) ?_
  refine lv_iload_n hx hb dL_pixelOf_2 rfl (lv_at hl 1 rfl) ?_
  refine z_iconst (n := 5) hx hb dL_pixelOf_3 ?_
  refine z_w (zrV (As := [.int (zI s), .int (zI 5)]) (rest := [.int (zI q)]) ⟨hx, hb, hml, hown, hts⟩ (k_sprite l G cs a A s 5 ia hA (by omega) (by omega)) gL_pixelOf_X6_sprite rfl qX6_sprite rfl rfl ⟨Nat.le_of_ble_eq_true rfl, Nat.le_of_ble_eq_true rfl⟩ hXI hK (va_recv hK.1 hXI.xo (ci := 6) (q0 := 0) rfl rfl) hl.1 rfl (Nat.le_of_ble_eq_true rfl) dL_pixelOf_4 ⟨Nat.le_of_ble_eq_true rfl, Nat.le_of_ble_eq_true rfl⟩) hS (fun q h => h) (fun q h => h) (fun v H locs hpost hle hk hS => ?_)
  obtain ⟨rfl, hXI⟩ := hpost
  refine z_topi (b := A.1 1 (6 * s + 5)) (sp_at hs (by decide)) ?_
  refine z_isub hx hb dL_pixelOf_7 ?_
  refine lv_istore (lv' := [(4, .int (zI (q - (A.1 1 (6 * s + 5))))), (0, .ref (a 0)), (1, .int (zI s)), (2, .int (zI q)), (3, .int (zI r))]) hx hb dL_pixelOf_8 hl (by decide) rfl (fun ls hl => ?_)
  refine lv_iload_n hx hb dL_pixelOf_10 rfl (lv_at hl 4 rfl) ?_
  refine lv_aload_n hx hb dL_pixelOf_11 rfl (lv_at hl 1 rfl) ?_
  refine lv_iload_n hx hb dL_pixelOf_12 rfl (lv_at hl 2 rfl) ?_
  refine z_iconst (n := 4) hx hb dL_pixelOf_13 ?_
  refine z_w (zrV (As := [.int (zI s), .int (zI 4)]) (rest := [.int (zI r)]) ⟨hx, hb, hml, hown, hts⟩ (k_sprite l G cs a A s 4 ia hA (by omega) (by omega)) gL_pixelOf_X6_sprite rfl qX6_sprite rfl rfl ⟨Nat.le_of_ble_eq_true rfl, Nat.le_of_ble_eq_true rfl⟩ hXI hK (va_recv hK.1 hXI.xo (ci := 6) (q0 := 0) rfl rfl) hl.1 rfl (Nat.le_of_ble_eq_true rfl) dL_pixelOf_14 ⟨Nat.le_of_ble_eq_true rfl, Nat.le_of_ble_eq_true rfl⟩) hS (fun q h => h) (fun q h => h) (fun v H locs hpost hle hk hS => ?_)
  obtain ⟨rfl, hXI⟩ := hpost
  refine z_topi (b := A.1 1 (6 * s + 4)) (sp_at hs (by decide)) ?_
  refine z_isub hx hb dL_pixelOf_17 ?_
  refine lv_istore (lv' := [(5, .int (zI (r - (A.1 1 (6 * s + 4))))), (4, .int (zI (q - (A.1 1 (6 * s + 5))))), (0, .ref (a 0)), (1, .int (zI s)), (2, .int (zI q)), (3, .int (zI r))]) hx hb dL_pixelOf_18 hl (by decide) rfl (fun ls hl => ?_)
  refine lv_iload hx hb dL_pixelOf_20 (lv_at hl 1 rfl) ?_
  refine z_if_lt (tgt := 44) hx hb dL_pixelOf_22 (by decide) (by omega) (fun c101 => ?_) (fun c101 => ?_)
  · skip
    refine z_iconst (n := 0) hx hb dL_pixelOf_44 ?_
    refine lv_goto (tgt := 68) hx hb dL_pixelOf_45 (by decide) ?_
    exact w_iret hx hb hr hlk dL_pixelOf_68 hS ⟨congrArg (fun z => Value.int (zI z)) (by unfold pixAt; rw [if_neg (by omega)]), hXI⟩
  · skip
    refine lv_iload hx hb dL_pixelOf_25 (lv_at hl 1 rfl) ?_
    refine z_bipush (n := 7) hx hb dL_pixelOf_27 (by decide) ?_
    refine z_icmp_gt (tgt := 44) hx hb dL_pixelOf_29 (by decide) (by omega) (by omega) (fun c102 => ?_) (fun c102 => ?_)
    · skip
      refine z_iconst (n := 0) hx hb dL_pixelOf_44 ?_
      refine lv_goto (tgt := 68) hx hb dL_pixelOf_45 (by decide) ?_
      exact w_iret hx hb hr hlk dL_pixelOf_68 hS ⟨congrArg (fun z => Value.int (zI z)) (by unfold pixAt; rw [if_neg (by omega)]), hXI⟩
    · skip
      refine lv_iload hx hb dL_pixelOf_32 (lv_at hl 0 rfl) ?_
      refine z_if_lt (tgt := 44) hx hb dL_pixelOf_34 (by decide) (by omega) (fun c103 => ?_) (fun c103 => ?_)
      · skip
        refine z_iconst (n := 0) hx hb dL_pixelOf_44 ?_
        refine lv_goto (tgt := 68) hx hb dL_pixelOf_45 (by decide) ?_
        exact w_iret hx hb hr hlk dL_pixelOf_68 hS ⟨congrArg (fun z => Value.int (zI z)) (by unfold pixAt; rw [if_neg (by omega)]), hXI⟩
      · skip
        refine lv_iload hx hb dL_pixelOf_37 (lv_at hl 0 rfl) ?_
        refine z_bipush (n := 7) hx hb dL_pixelOf_39 (by decide) ?_
        refine z_icmp_le (tgt := 48) hx hb dL_pixelOf_41 (by decide) (by omega) (by omega) (fun c104 => ?_) (fun c104 => ?_)
        · skip
          refine lv_aload_n hx hb dL_pixelOf_48 rfl (lv_at hl 2 rfl) ?_
          refine lv_aload_n hx hb dL_pixelOf_49 rfl (lv_at hl 2 rfl) ?_
          refine lv_iload_n hx hb dL_pixelOf_50 rfl (lv_at hl 3 rfl) ?_
          refine z_iconst (n := 0) hx hb dL_pixelOf_51 ?_
          refine z_w (zrV (As := [.int (zI s), .int (zI 0)]) (rest := [.ref (a 0)]) ⟨hx, hb, hml, hown, hts⟩ (k_sprite l G cs a A s 0 ia hA (by omega) (by omega)) gL_pixelOf_X6_sprite rfl qX6_sprite rfl rfl ⟨Nat.le_of_ble_eq_true rfl, Nat.le_of_ble_eq_true rfl⟩ hXI hK (va_recv hK.1 hXI.xo (ci := 6) (q0 := 0) rfl rfl) hl.1 rfl (Nat.le_of_ble_eq_true rfl) dL_pixelOf_52 ⟨Nat.le_of_ble_eq_true rfl, Nat.le_of_ble_eq_true rfl⟩) hS (fun q h => h) (fun q h => h) (fun v H locs hpost hle hk hS => ?_)
          obtain ⟨rfl, hXI⟩ := hpost
          refine z_topi (b := A.1 1 (6 * s + 0)) (sp_at hs (by decide)) ?_
          refine lv_aload_n hx hb dL_pixelOf_55 rfl (lv_at hl 2 rfl) ?_
          refine lv_iload_n hx hb dL_pixelOf_56 rfl (lv_at hl 3 rfl) ?_
          refine z_iconst (n := 1) hx hb dL_pixelOf_57 ?_
          refine z_w (zrV (As := [.int (zI s), .int (zI 1)]) (rest := [.int (zI (A.1 1 (6 * s + 0))), .ref (a 0)]) ⟨hx, hb, hml, hown, hts⟩ (k_sprite l G cs a A s 1 ia hA (by omega) (by omega)) gL_pixelOf_X6_sprite rfl qX6_sprite rfl rfl ⟨Nat.le_of_ble_eq_true rfl, Nat.le_of_ble_eq_true rfl⟩ hXI hK (va_recv hK.1 hXI.xo (ci := 6) (q0 := 0) rfl rfl) hl.1 rfl (Nat.le_of_ble_eq_true rfl) dL_pixelOf_58 ⟨Nat.le_of_ble_eq_true rfl, Nat.le_of_ble_eq_true rfl⟩) hS (fun q h => h) (fun q h => h) (fun v H locs hpost hle hk hS => ?_)
          obtain ⟨rfl, hXI⟩ := hpost
          refine z_topi (b := A.1 1 (6 * s + 1)) (sp_at hs (by decide)) ?_
          refine lv_iload hx hb dL_pixelOf_61 (lv_at hl 1 rfl) ?_
          refine lv_iload hx hb dL_pixelOf_63 (lv_at hl 0 rfl) ?_
          refine z_w (zrSJ (As := [.ref (a 0), .int (zI (A.1 1 (6 * s + 0))), .int (zI (A.1 1 (6 * s + 1))), .int (zI (q - (A.1 1 (6 * s + 5)))), .int (zI (r - (A.1 1 (6 * s + 4))))]) (rest := []) ⟨hx, hb, hml, hown, hts⟩ (c_L_flipped l G cs a A (A.1 1 (6 * s + 0)) (A.1 1 (6 * s + 1)) (q - (A.1 1 (6 * s + 5))) (r - (A.1 1 (6 * s + 4))) ia hA hpp.1 hpp.2.1 (by omega) (by omega)) gL_pixelOf_L_flipped rfl qL_flipped rfl rfl ⟨Nat.le_of_ble_eq_true rfl, Nat.le_of_ble_eq_true rfl⟩ hXI hK hl.1 rfl (Nat.le_of_ble_eq_true rfl) dL_pixelOf_65 ⟨Nat.le_of_ble_eq_true rfl, Nat.le_of_ble_eq_true rfl⟩) hS (fun q h => h) (fun q h => h) (fun v H locs hpost hle hk hS => ?_)
          obtain ⟨rfl, hXI⟩ := hpost
          exact w_iret hx hb hr hlk dL_pixelOf_68 hS ⟨congrArg (fun z => Value.int (zI z)) (by unfold pixAt; rw [if_pos (by omega)]), hXI⟩
        · skip
          refine z_iconst (n := 0) hx hb dL_pixelOf_44 ?_
          refine lv_goto (tgt := 68) hx hb dL_pixelOf_45 (by decide) ?_
          exact w_iret hx hb hr hlk dL_pixelOf_68 hS ⟨congrArg (fun z => Value.int (zI z)) (by unfold pixAt; rw [if_neg (by omega)]), hXI⟩

set_option maxHeartbeats 4000000 in
set_option maxRecDepth 100000 in
theorem c_L_alike (l : Launch) (G : va_G) (cs : Nat → ClassId) (a : Nat → Nat) (A : AS) (q t : Int) (ia : Inj a 62) (hA : GA A) (hp : 0 ≤ q ∧ q < A.1 0 0) (ht : 0 ≤ t ∧ t < A.1 0 0) : MW l yL_alike wsL_alike { frames := 4, cells := 0, slots := 0, locals := 98 } G cs [.ref (a 0), .int (zI q), .int (zI t)] (fun H => XI G cs a a A H) (fun vv H => vv = .int (zI 1) ∧ XI G cs a a A H) (AX a 0 62) 0 0 := by
  refine m_intro (Pw := (fun H => XI G cs a a A H)) (cc := cL_alike) (maxL := 7) (ret := some .boolean) RL (by decide) rfl rfl (Nat.le_of_ble_eq_true rfl) ?_
  intro pP eE sS mM below meth cC hx hb hr hts hown hml hlk hnm hPre hK ls hl
  have hl : lv_has ls 7 [(0, .ref (a 0)), (1, .int (zI q)), (2, .int (zI t))] := hl
  have hXI := hPre
  have hS : va_S (AX a 0 62) sS.heap sS.heap [] := va_S.rf
  have hwf := hA.1.1
  obtain ⟨w0, w1, w2, w3, w4, wP, wC, wS, wX⟩ := id hwf
  have hwr := wayF_r A.1 q 0 t
  refine lv_aload_n hx hb dL_alike_0 rfl (lv_at hl 0 rfl) ?_
  refine lv_iload_n hx hb dL_alike_1 rfl (lv_at hl 1 rfl) ?_
  refine lv_iload_n hx hb dL_alike_2 rfl (lv_at hl 2 rfl) ?_
  refine z_w (zrV (As := [.int (zI q), .int (zI t)]) (rest := []) ⟨hx, hb, hml, hown, hts⟩ (k_alike l G cs a A q t ia hA (by omega) (by omega)) gL_alike_X6_alike rfl qX6_alike rfl rfl ⟨Nat.le_of_ble_eq_true rfl, Nat.le_of_ble_eq_true rfl⟩ hXI hK (va_recv hK.1 hXI.xo (ci := 6) (q0 := 0) rfl rfl) hl.1 rfl (Nat.le_of_ble_eq_true rfl) dL_alike_3 ⟨Nat.le_of_ble_eq_true rfl, Nat.le_of_ble_eq_true rfl⟩) hS (fun q h => h) (fun q h => h) (fun v H locs hpost hle hk hS => ?_)
  obtain ⟨rfl, hXI⟩ := hpost
  refine z_topi (b := wayF A.1 q 0 t) (al_at hp ht) ?_
  refine lv_istore_n (lv' := [(3, .int (zI (wayF A.1 q 0 t))), (0, .ref (a 0)), (1, .int (zI q)), (2, .int (zI t))]) hx hb dL_alike_6 rfl hl (by decide) rfl (fun ls hl => ?_)
  refine z_iconst (n := 0) hx hb dL_alike_7 ?_
  refine lv_istore (lv' := [(4, .int (zI 0)), (3, .int (zI (wayF A.1 q 0 t))), (0, .ref (a 0)), (1, .int (zI q)), (2, .int (zI t))]) hx hb dL_alike_8 hl (by decide) rfl (fun ls hl => ?_)
  -- loop 10
  refine z_loopH (nL := 7) (fun (f : Int) => [(0, .ref (a 0)), (1, .int (zI q)), (2, .int (zI t)), (3, .int (zI (wayF A.1 q 0 t))), (4, .int (zI f))]) (fun (f : Int) (H : Heap) => ((0 ≤ f ∧ f ≤ 4) ∧ ∀ j, 0 ≤ j → j < f → sameP A.1 t j q 0 = false) ∧ XI G cs a a A H) (fun (f : Int) => (4 - f).toNat) (0 : Int) ⟨⟨by omega, fun j h1 h2 => by omega⟩, hXI⟩ hS (lv_sub hl [2, 3, 4, 1, 0] rfl) (fun f H locs hIH hS ih ls hl => ?_)
  obtain ⟨hI, hXI⟩ := hIH
  have hl : lv_has ls 7 [(0, .ref (a 0)), (1, .int (zI q)), (2, .int (zI t)), (3, .int (zI (wayF A.1 q 0 t))), (4, .int (zI f))] := hl
  have ih2 := ih
  obtain ⟨hI, hJ⟩ := hI
  refine lv_iload hx hb dL_alike_10 (lv_at hl 4 rfl) ?_
  refine z_iconst (n := 4) hx hb dL_alike_12 ?_
  refine z_icmp_ge (tgt := 116) hx hb dL_alike_13 (by decide) (by omega) (by omega) (fun c101 => ?_) (fun c101 => ?_)
  · skip
    have e7 : wayF A.1 q 0 t = -5 := way_none (fun j h1 h2 => hJ j h1 (by omega))
    have e6 : wayF A.1 t 0 q = -5 := way_sym.trans e7
    refine lv_iload_n hx hb dL_alike_116 rfl (lv_at hl 3 rfl) ?_
    refine z_bipush (n := -5) hx hb dL_alike_117 (by decide) ?_
    refine z_icmp_ne (tgt := 137) hx hb dL_alike_119 (by decide) (by omega) (by omega) (fun c102 => ?_) (fun c102 => ?_)
    · skip
      exfalso; omega
    · skip
      refine lv_aload_n hx hb dL_alike_122 rfl (lv_at hl 0 rfl) ?_
      refine lv_iload_n hx hb dL_alike_123 rfl (lv_at hl 2 rfl) ?_
      refine lv_iload_n hx hb dL_alike_124 rfl (lv_at hl 1 rfl) ?_
      refine z_w (zrV (As := [.int (zI t), .int (zI q)]) (rest := []) ⟨hx, hb, hml, hown, hts⟩ (k_alike l G cs a A t q ia hA (by omega) (by omega)) gL_alike_X6_alike rfl qX6_alike rfl rfl ⟨Nat.le_of_ble_eq_true rfl, Nat.le_of_ble_eq_true rfl⟩ hXI hK (va_recv hK.1 hXI.xo (ci := 6) (q0 := 0) rfl rfl) hl.1 rfl (Nat.le_of_ble_eq_true rfl) dL_alike_125 ⟨Nat.le_of_ble_eq_true rfl, Nat.le_of_ble_eq_true rfl⟩) hS (fun q h => h) (fun q h => h) (fun v H locs hpost hle hk hS => ?_)
      obtain ⟨rfl, hXI⟩ := hpost
      refine z_topi (b := (-5)) ((al_at ht hp).trans e6) ?_
      refine z_bipush (n := -5) hx hb dL_alike_128 (by decide) ?_
      refine z_icmp_ne (tgt := 137) hx hb dL_alike_130 (by decide) (by omega) (by omega) (fun c103 => ?_) (fun c103 => ?_)
      · skip
        exfalso; omega
      · skip
        refine z_iconst (n := 1) hx hb dL_alike_133 ?_
        refine lv_goto (tgt := 138) hx hb dL_alike_134 (by decide) ?_
        exact w_zret hx hb hr hlk dL_alike_138 (by omega) hS ⟨rfl, hXI⟩
  · skip
    refine z_iconst (n := 1) hx hb dL_alike_16 ?_
    refine lv_istore (lv' := [(5, .int (zI 1)), (0, .ref (a 0)), (1, .int (zI q)), (2, .int (zI t)), (3, .int (zI (wayF A.1 q 0 t))), (4, .int (zI f))]) hx hb dL_alike_17 hl (by decide) rfl (fun ls hl => ?_)
    refine z_iconst (n := 0) hx hb dL_alike_19 ?_
    refine lv_istore (lv' := [(6, .int (zI 0)), (5, .int (zI 1)), (0, .ref (a 0)), (1, .int (zI q)), (2, .int (zI t)), (3, .int (zI (wayF A.1 q 0 t))), (4, .int (zI f))]) hx hb dL_alike_20 hl (by decide) rfl (fun ls hl => ?_)
    -- loop 22
    have hf4 := hI
    refine z_loopH (nL := 7) (fun (k : Int) => [(0, .ref (a 0)), (1, .int (zI q)), (2, .int (zI t)), (3, .int (zI (wayF A.1 q 0 t))), (4, .int (zI f)), (5, .int (zI (b2 (allN (fun z_ => decide (pixW A.1 t f (z_ / 8) (z_ % 8) = pixW A.1 q 0 (z_ / 8) (z_ % 8))) k.toNat)))), (6, .int (zI k))]) (fun (k : Int) (H : Heap) => (0 ≤ k ∧ k ≤ 64) ∧ XI G cs a a A H) (fun (k : Int) => (64 - k).toNat) (0 : Int) ⟨(by omega), hXI⟩ hS (by show lv_has ls 7 [(0, .ref (a 0)), (1, .int (zI q)), (2, .int (zI t)), (3, .int (zI (wayF A.1 q 0 t))), (4, .int (zI f)), (5, .int (zI (b2 (allN (fun z_ => decide (pixW A.1 t f (z_ / 8) (z_ % 8) = pixW A.1 q 0 (z_ / 8) (z_ % 8))) (0 : Int).toNat)))), (6, .int (zI (0 : Int)))]; rw [(show b2 (allN (fun z_ => decide (pixW A.1 t f (z_ / 8) (z_ % 8) = pixW A.1 q 0 (z_ / 8) (z_ % 8))) (0 : Int).toNat) = 1 from rfl)]; exact lv_sub hl [2, 3, 4, 5, 6, 1, 0] rfl) (fun k H locs hIH hS ih ls hl => ?_)
    obtain ⟨hI, hXI⟩ := hIH
    have hl : lv_has ls 7 [(0, .ref (a 0)), (1, .int (zI q)), (2, .int (zI t)), (3, .int (zI (wayF A.1 q 0 t))), (4, .int (zI f)), (5, .int (zI (b2 (allN (fun z_ => decide (pixW A.1 t f (z_ / 8) (z_ % 8) = pixW A.1 q 0 (z_ / 8) (z_ % 8))) k.toNat)))), (6, .int (zI k))] := hl
    refine lv_iload hx hb dL_alike_22 (lv_at hl 6 rfl) ?_
    refine z_bipush (n := 64) hx hb dL_alike_24 (by decide) ?_
    refine z_icmp_ge (tgt := 82) hx hb dL_alike_26 (by decide) (by omega) (by omega) (fun c104 => ?_) (fun c104 => ?_)
    · skip
      refine lv_iload hx hb dL_alike_82 (lv_at hl 5 rfl) ?_
      have ek : k = 64 := by omega
      subst ek
      refine z_bif_eq (tgt := 110) hx hb dL_alike_84 (by decide) (fun c7 => ?_) (fun c7 => ?_)
      · skip
        refine z_iinc (k := 4) (lv' := [(4, .int (zI (f + 1))), (0, .ref (a 0)), (1, .int (zI q)), (2, .int (zI t)), (3, .int (zI (wayF A.1 q 0 t))), (5, .int (zI (b2 (allN (fun z_ => decide (pixW A.1 t f (z_ / 8) (z_ % 8) = pixW A.1 q 0 (z_ / 8) (z_ % 8))) (64 : Int).toNat)))), (6, .int (zI (64 : Int)))]) hx hb dL_alike_110 hl rfl (by decide) rfl (fun ls hl => ?_)
        refine lv_goto (tgt := 10) hx hb dL_alike_113 (by decide) ?_
        exact ih2 (f + 1) H locs ⟨⟨by omega, fun j q1 q2 => by
      by_cases e : j = f
      · subst e; exact c7
      · exact hJ j q1 (by omega)⟩, hXI⟩ hS (by omega) ls (lv_sub hl [1, 2, 3, 4, 0] rfl)
      · skip
        have hs7 : sameP A.1 t f q 0 = true := c7
        have e7 : wayF A.1 q 0 t = f := way_hit (by omega) hJ hs7
        have e6 : wayF A.1 t 0 q = f := way_sym.trans e7
        refine lv_iload_n hx hb dL_alike_87 rfl (lv_at hl 3 rfl) ?_
        refine lv_iload hx hb dL_alike_88 (lv_at hl 4 rfl) ?_
        refine z_icmp_ne (tgt := 108) hx hb dL_alike_90 (by decide) (by omega) (by omega) (fun c105 => ?_) (fun c105 => ?_)
        · skip
          exfalso; omega
        · skip
          refine lv_aload_n hx hb dL_alike_93 rfl (lv_at hl 0 rfl) ?_
          refine lv_iload_n hx hb dL_alike_94 rfl (lv_at hl 2 rfl) ?_
          refine lv_iload_n hx hb dL_alike_95 rfl (lv_at hl 1 rfl) ?_
          refine z_w (zrV (As := [.int (zI t), .int (zI q)]) (rest := []) ⟨hx, hb, hml, hown, hts⟩ (k_alike l G cs a A t q ia hA (by omega) (by omega)) gL_alike_X6_alike rfl qX6_alike rfl rfl ⟨Nat.le_of_ble_eq_true rfl, Nat.le_of_ble_eq_true rfl⟩ hXI hK (va_recv hK.1 hXI.xo (ci := 6) (q0 := 0) rfl rfl) hl.1 rfl (Nat.le_of_ble_eq_true rfl) dL_alike_96 ⟨Nat.le_of_ble_eq_true rfl, Nat.le_of_ble_eq_true rfl⟩) hS (fun q h => h) (fun q h => h) (fun v H locs hpost hle hk hS => ?_)
          obtain ⟨rfl, hXI⟩ := hpost
          refine z_topi (b := f) ((al_at ht hp).trans e6) ?_
          refine lv_iload hx hb dL_alike_99 (lv_at hl 4 rfl) ?_
          refine z_icmp_ne (tgt := 108) hx hb dL_alike_101 (by decide) (by omega) (by omega) (fun c106 => ?_) (fun c106 => ?_)
          · skip
            exfalso; omega
          · skip
            refine z_iconst (n := 1) hx hb dL_alike_104 ?_
            refine lv_goto (tgt := 109) hx hb dL_alike_105 (by decide) ?_
            exact w_zret hx hb hr hlk dL_alike_109 (by omega) hS ⟨rfl, hXI⟩
    · skip
      refine lv_iload hx hb dL_alike_29 (lv_at hl 5 rfl) ?_
      refine z_bif_eq (tgt := 73) hx hb dL_alike_31 (by decide) (fun c9 => ?_) (fun c9 => ?_)
      · skip
        refine z_iconst (n := 0) hx hb dL_alike_73 ?_
        refine lv_istore (lv' := [(5, .int (zI 0)), (0, .ref (a 0)), (1, .int (zI q)), (2, .int (zI t)), (3, .int (zI (wayF A.1 q 0 t))), (4, .int (zI f)), (6, .int (zI k))]) hx hb dL_alike_74 hl (by decide) rfl (fun ls hl => ?_)
        refine z_iinc (k := 6) (lv' := [(6, .int (zI (k + 1))), (5, .int (zI 0)), (0, .ref (a 0)), (1, .int (zI q)), (2, .int (zI t)), (3, .int (zI (wayF A.1 q 0 t))), (4, .int (zI f))]) hx hb dL_alike_76 hl rfl (by decide) rfl (fun ls hl => ?_)
        refine lv_goto (tgt := 22) hx hb dL_alike_79 (by decide) ?_
        have hb_ : b2 (allN (fun z_ => decide (pixW A.1 t f (z_ / 8) (z_ % 8) = pixW A.1 q 0 (z_ / 8) (z_ % 8))) (k + 1).toNat) = 0 := all_s0 hI.1 c9
        exact ih (k + 1) H locs ⟨(by omega), hXI⟩ hS (by omega) ls (by show lv_has ls 7 [(0, .ref (a 0)), (1, .int (zI q)), (2, .int (zI t)), (3, .int (zI (wayF A.1 q 0 t))), (4, .int (zI f)), (5, .int (zI (b2 (allN (fun z_ => decide (pixW A.1 t f (z_ / 8) (z_ % 8) = pixW A.1 q 0 (z_ / 8) (z_ % 8))) (k + 1).toNat)))), (6, .int (zI (k + 1)))]; rw [hb_]; exact lv_sub hl [2, 3, 4, 5, 6, 1, 0] rfl)
      · skip
        refine lv_aload_n hx hb dL_alike_34 rfl (lv_at hl 0 rfl) ?_
        refine lv_iload_n hx hb dL_alike_35 rfl (lv_at hl 2 rfl) ?_
        refine lv_iload hx hb dL_alike_36 (lv_at hl 4 rfl) ?_
        refine lv_iload hx hb dL_alike_38 (lv_at hl 6 rfl) ?_
        refine z_bipush (n := 8) hx hb dL_alike_40 (by decide) ?_
        refine z_idiv hx hb dL_alike_42 (by omega) (by omega) ?_
        refine lv_iload hx hb dL_alike_43 (lv_at hl 6 rfl) ?_
        refine z_bipush (n := 8) hx hb dL_alike_45 (by decide) ?_
        refine z_irem hx hb dL_alike_47 (by omega) (by omega) ?_
        refine z_w (zrSJ (As := [.ref (a 0), .int (zI t), .int (zI f), .int (zI (k / 8)), .int (zI (k % 8))]) (rest := []) ⟨hx, hb, hml, hown, hts⟩ (c_L_flipped l G cs a A t f (k / 8) (k % 8) ia hA ht (by omega) (by omega) (by omega)) gL_alike_L_flipped rfl qL_flipped rfl rfl ⟨Nat.le_of_ble_eq_true rfl, Nat.le_of_ble_eq_true rfl⟩ hXI hK hl.1 rfl (Nat.le_of_ble_eq_true rfl) dL_alike_48 ⟨Nat.le_of_ble_eq_true rfl, Nat.le_of_ble_eq_true rfl⟩) hS (fun q h => h) (fun q h => h) (fun v H locs hpost hle hk hS => ?_)
        obtain ⟨rfl, hXI⟩ := hpost
        refine lv_aload_n hx hb dL_alike_51 rfl (lv_at hl 0 rfl) ?_
        refine lv_iload_n hx hb dL_alike_52 rfl (lv_at hl 1 rfl) ?_
        refine lv_iload hx hb dL_alike_53 (lv_at hl 6 rfl) ?_
        refine z_bipush (n := 8) hx hb dL_alike_55 (by decide) ?_
        refine z_idiv hx hb dL_alike_57 (by omega) (by omega) ?_
        refine lv_iload hx hb dL_alike_58 (lv_at hl 6 rfl) ?_
        refine z_bipush (n := 8) hx hb dL_alike_60 (by decide) ?_
        refine z_irem hx hb dL_alike_62 (by omega) (by omega) ?_
        refine z_w (zrV (As := [.int (zI q), .int (zI (k / 8)), .int (zI (k % 8))]) (rest := [.int (zI (pixW A.1 t f (k / 8) (k % 8)))]) ⟨hx, hb, hml, hown, hts⟩ (k_pixel l G cs a A q (k / 8) (k % 8) ia hA (by omega) (by omega) (by omega)) gL_alike_X6_pixel rfl qX6_pixel rfl rfl ⟨Nat.le_of_ble_eq_true rfl, Nat.le_of_ble_eq_true rfl⟩ hXI hK (va_recv hK.1 hXI.xo (ci := 6) (q0 := 0) rfl rfl) hl.1 rfl (Nat.le_of_ble_eq_true rfl) dL_alike_63 ⟨Nat.le_of_ble_eq_true rfl, Nat.le_of_ble_eq_true rfl⟩) hS (fun q h => h) (fun q h => h) (fun v H locs hpost hle hk hS => ?_)
        obtain ⟨rfl, hXI⟩ := hpost
        refine z_topi (b := pixW A.1 q 0 (k / 8) (k % 8)) (px_at hp (by omega) (by omega)) ?_
        have hx1 := pixW_r wX (p := t) (w := f) (r := k / 8) (c := k % 8) (by omega) (by omega) (by omega)
        have hx2 := pixW_r wX (p := q) (w := 0) (r := k / 8) (c := k % 8) (by omega) (by omega) (by omega)
        refine z_icmp_ne (tgt := 73) hx hb dL_alike_66 (by decide) (by omega) (by omega) (fun c8 => ?_) (fun c8 => ?_)
        · skip
          refine z_iconst (n := 0) hx hb dL_alike_73 ?_
          refine lv_istore (lv' := [(5, .int (zI 0)), (0, .ref (a 0)), (1, .int (zI q)), (2, .int (zI t)), (3, .int (zI (wayF A.1 q 0 t))), (4, .int (zI f)), (6, .int (zI k))]) hx hb dL_alike_74 hl (by decide) rfl (fun ls hl => ?_)
          refine z_iinc (k := 6) (lv' := [(6, .int (zI (k + 1))), (5, .int (zI 0)), (0, .ref (a 0)), (1, .int (zI q)), (2, .int (zI t)), (3, .int (zI (wayF A.1 q 0 t))), (4, .int (zI f))]) hx hb dL_alike_76 hl rfl (by decide) rfl (fun ls hl => ?_)
          refine lv_goto (tgt := 22) hx hb dL_alike_79 (by decide) ?_
          have hb_ : b2 (allN (fun z_ => decide (pixW A.1 t f (z_ / 8) (z_ % 8) = pixW A.1 q 0 (z_ / 8) (z_ % 8))) (k + 1).toNat) = 0 := all_sf hI.1 (decide_eq_false c8)
          exact ih (k + 1) H locs ⟨(by omega), hXI⟩ hS (by omega) ls (by show lv_has ls 7 [(0, .ref (a 0)), (1, .int (zI q)), (2, .int (zI t)), (3, .int (zI (wayF A.1 q 0 t))), (4, .int (zI f)), (5, .int (zI (b2 (allN (fun z_ => decide (pixW A.1 t f (z_ / 8) (z_ % 8) = pixW A.1 q 0 (z_ / 8) (z_ % 8))) (k + 1).toNat)))), (6, .int (zI (k + 1)))]; rw [hb_]; exact lv_sub hl [2, 3, 4, 5, 6, 1, 0] rfl)
        · skip
          refine z_iconst (n := 1) hx hb dL_alike_69 ?_
          refine lv_goto (tgt := 74) hx hb dL_alike_70 (by decide) ?_
          refine lv_istore (lv' := [(5, .int (zI 1)), (0, .ref (a 0)), (1, .int (zI q)), (2, .int (zI t)), (3, .int (zI (wayF A.1 q 0 t))), (4, .int (zI f)), (6, .int (zI k))]) hx hb dL_alike_74 hl (by decide) rfl (fun ls hl => ?_)
          refine z_iinc (k := 6) (lv' := [(6, .int (zI (k + 1))), (5, .int (zI 1)), (0, .ref (a 0)), (1, .int (zI q)), (2, .int (zI t)), (3, .int (zI (wayF A.1 q 0 t))), (4, .int (zI f))]) hx hb dL_alike_76 hl rfl (by decide) rfl (fun ls hl => ?_)
          refine lv_goto (tgt := 22) hx hb dL_alike_79 (by decide) ?_
          have hb_ : b2 (allN (fun z_ => decide (pixW A.1 t f (z_ / 8) (z_ % 8) = pixW A.1 q 0 (z_ / 8) (z_ % 8))) (k + 1).toNat) = 1 := all_st hI.1 c9 (decide_eq_true c8)
          exact ih (k + 1) H locs ⟨(by omega), hXI⟩ hS (by omega) ls (by show lv_has ls 7 [(0, .ref (a 0)), (1, .int (zI q)), (2, .int (zI t)), (3, .int (zI (wayF A.1 q 0 t))), (4, .int (zI f)), (5, .int (zI (b2 (allN (fun z_ => decide (pixW A.1 t f (z_ / 8) (z_ % 8) = pixW A.1 q 0 (z_ / 8) (z_ % 8))) (k + 1).toNat)))), (6, .int (zI (k + 1)))]; rw [hb_]; exact lv_sub hl [2, 3, 4, 5, 6, 1, 0] rfl)

set_option maxHeartbeats 4000000 in
set_option maxRecDepth 100000 in
theorem c_L_turns (l : Launch) (G : va_G) (cs : Nat → ClassId) (a : Nat → Nat) (A : AS) (q : Int) (ia : Inj a 62) (hA : GA A) (hq : 0 ≤ q ∧ q < 32) (hn1 : 1 ≤ A.1 0 1) : MW l yL_turns wsL_turns { frames := 8, cells := 0, slots := 0, locals := 187 } G cs [.ref (a 0), .int (zI q)] (fun H => XI G cs a a A H) (fun vv H => vv = .int (zI 1) ∧ XI G cs a a A H) (AX a 0 62) 0 0 := by
  refine m_intro (Pw := (fun H => XI G cs a a A H)) (cc := cL_turns) (maxL := 8) (ret := some .boolean) RL (by decide) rfl rfl (Nat.le_of_ble_eq_true rfl) ?_
  intro pP eE sS mM below meth cC hx hb hr hts hown hml hlk hnm hPre hK ls hl
  have hl : lv_has ls 8 [(0, .ref (a 0)), (1, .int (zI q))] := hl
  have hXI := hPre
  have hS : va_S (AX a 0 62) sS.heap sS.heap [] := va_S.rf
  have hwf := hA.1.1
  obtain ⟨w0, w1, w2, w3, w4, wP, wC, wS, wX⟩ := id hwf
  refine lv_aload_n hx hb dL_turns_0 rfl (lv_at hl 0 rfl) ?_
  refine z_iconst (n := 1) hx hb dL_turns_1 ?_
  refine z_w (zrV (As := [.int (zI 1)]) (rest := []) ⟨hx, hb, hml, hown, hts⟩ (k_count l G cs a A 1 ia hA (by omega)) gL_turns_X6_count rfl qX6_count rfl rfl ⟨Nat.le_of_ble_eq_true rfl, Nat.le_of_ble_eq_true rfl⟩ hXI hK (va_recv hK.1 hXI.xo (ci := 6) (q0 := 0) rfl rfl) hl.1 rfl (Nat.le_of_ble_eq_true rfl) dL_turns_2 ⟨Nat.le_of_ble_eq_true rfl, Nat.le_of_ble_eq_true rfl⟩) hS (fun q h => h) (fun q h => h) (fun v H locs hpost hle hk hS => ?_)
  obtain ⟨rfl, hXI⟩ := hpost
  refine z_topi (b := A.1 0 1) ct_1 ?_
  refine lv_istore_n (lv' := [(2, .int (zI (A.1 0 1))), (0, .ref (a 0)), (1, .int (zI q))]) hx hb dL_turns_5 rfl hl (by decide) rfl (fun ls hl => ?_)
  refine z_iconst (n := 0) hx hb dL_turns_6 ?_
  refine lv_istore_n (lv' := [(3, .int (zI 0)), (2, .int (zI (A.1 0 1))), (0, .ref (a 0)), (1, .int (zI q))]) hx hb dL_turns_7 rfl hl (by decide) rfl (fun ls hl => ?_)
  refine z_iconst (n := 0) hx hb dL_turns_8 ?_
  refine lv_istore (lv' := [(4, .int (zI 0)), (3, .int (zI 0)), (2, .int (zI (A.1 0 1))), (0, .ref (a 0)), (1, .int (zI q))]) hx hb dL_turns_9 hl (by decide) rfl (fun ls hl => ?_)
  refine lv_iload_n hx hb dL_turns_11 rfl (lv_at hl 2 rfl) ?_
  refine z_if_ne (tgt := 19) hx hb dL_turns_12 (by decide) (by omega) (fun c101 => ?_) (fun c101 => ?_)
  · skip
    refine lv_aload_n hx hb dL_turns_19 rfl (lv_at hl 3 rfl) ?_
    refine z_bipush (n := 8) hx hb dL_turns_20 (by decide) ?_
    refine z_w (zrV (As := [.int (zI 8)]) (rest := []) ⟨hx, hb, hml, hown, hts⟩ (k_count l G cs a A 8 ia hA (by omega)) gL_turns_X6_count rfl qX6_count rfl rfl ⟨Nat.le_of_ble_eq_true rfl, Nat.le_of_ble_eq_true rfl⟩ hXI hK (va_recv hK.1 hXI.xo (ci := 6) (q0 := 0) rfl rfl) hl.1 rfl (Nat.le_of_ble_eq_true rfl) dL_turns_22 ⟨Nat.le_of_ble_eq_true rfl, Nat.le_of_ble_eq_true rfl⟩) hS (fun q h => h) (fun q h => h) (fun v H locs hpost hle hk hS => ?_)
    obtain ⟨rfl, hXI⟩ := hpost
    refine z_topi (b := A.1 0 4) ct_8 ?_
    refine lv_i2l (v := (zL (A.1 0 4))) hx hb dL_turns_25 (zL_of (by omega)) ?_
    refine lv_aload_n hx hb dL_turns_26 rfl (lv_at hl 3 rfl) ?_
    refine z_bipush (n := 10) hx hb dL_turns_27 (by decide) ?_
    refine z_w (zrV (As := [.int (zI 10)]) (rest := [.long (zL (A.1 0 4))]) ⟨hx, hb, hml, hown, hts⟩ (k_count l G cs a A 10 ia hA (by omega)) gL_turns_X6_count rfl qX6_count rfl rfl ⟨Nat.le_of_ble_eq_true rfl, Nat.le_of_ble_eq_true rfl⟩ hXI hK (va_recv hK.1 hXI.xo (ci := 6) (q0 := 0) rfl rfl) hl.1 rfl (Nat.le_of_ble_eq_true rfl) dL_turns_29 ⟨Nat.le_of_ble_eq_true rfl, Nat.le_of_ble_eq_true rfl⟩) hS (fun q h => h) (fun q h => h) (fun v H locs hpost hle hk hS => ?_)
    obtain ⟨rfl, hXI⟩ := hpost
    refine z_topi (b := A.1 0 3) ct_10 ?_
    refine lv_i2l (v := (zL (A.1 0 3))) hx hb dL_turns_32 (zL_of (by omega)) ?_
    refine lv_lmul hx hb dL_turns_33 ?_
    refine z_top (v' := .long (zL ((A.1 0 4) * (A.1 0 3)))) (congrArg Value.long (zL_mul _ _)) ?_
    refine lv_iload_n hx hb dL_turns_34 rfl (lv_at hl 2 rfl) ?_
    refine lv_i2l (v := (zL (A.1 0 1))) hx hb dL_turns_35 (zL_of (by omega)) ?_
    have hfr9 : 0 ≤ A.1 0 4 * A.1 0 3 ∧ A.1 0 4 * A.1 0 3 < 9223372036854775808 := ⟨Int.mul_nonneg w4.1 w3.1, by have := Int.mul_le_mul w4.2 w3.2 w3.1 (by decide); omega⟩
    refine lv_lrem hx hb dL_turns_36 (zL_ne0 (by omega)) ?_
    refine z_top (v' := .long (zL (((A.1 0 4) * (A.1 0 3)) % (A.1 0 1)))) (congrArg Value.long (zL_rem hfr9 (by omega))) ?_
    refine lv_l2i (v := (zI (firstT A.1 (A.1 0 4)))) hx hb dL_turns_37 (zL_32 _) ?_
    refine lv_istore (lv' := [(5, .int (zI (firstT A.1 (A.1 0 4)))), (4, .int (zI 0)), (3, .int (zI 0)), (2, .int (zI (A.1 0 1))), (0, .ref (a 0)), (1, .int (zI q))]) hx hb dL_turns_38 hl (by decide) rfl (fun ls hl => ?_)
    have hft := firstT_r (S := A.1) (fr := A.1 0 4) (by omega)
    refine z_iconst (n := 0) hx hb dL_turns_40 ?_
    refine lv_istore (lv' := [(6, .int (zI 0)), (5, .int (zI (firstT A.1 (A.1 0 4)))), (4, .int (zI 0)), (3, .int (zI 0)), (2, .int (zI (A.1 0 1))), (0, .ref (a 0)), (1, .int (zI q))]) hx hb dL_turns_41 hl (by decide) rfl (fun ls hl => ?_)
    -- loop 43
    refine z_loopH (nL := 8) (fun (i : Int) => [(0, .ref (a 0)), (1, .int (zI q)), (2, .int (zI (A.1 0 1))), (3, .int (zI (nT A.1 q (A.1 0 4) i))), (4, .int (zI (cntI (gT A.1 q (A.1 0 4)) i))), (5, .int (zI (firstT A.1 (A.1 0 4)))), (6, .int (zI i))]) (fun (i : Int) (H : Heap) => (0 ≤ i ∧ i ≤ A.1 0 1) ∧ XI G cs a a A H) (fun (i : Int) => (A.1 0 1 - i).toNat) (0 : Int) ⟨(by omega), hXI⟩ hS (by show lv_has ls 8 [(0, .ref (a 0)), (1, .int (zI q)), (2, .int (zI (A.1 0 1))), (3, .int (zI (nT A.1 q (A.1 0 4) (0 : Int)))), (4, .int (zI (cntI (gT A.1 q (A.1 0 4)) (0 : Int)))), (5, .int (zI (firstT A.1 (A.1 0 4)))), (6, .int (zI (0 : Int)))]; rw [nT_0 w2.1, cntI_0]; exact lv_sub hl [5, 6, 4, 3, 2, 1, 0] rfl) (fun i H locs hIH hS ih ls hl => ?_)
    obtain ⟨hI, hXI⟩ := hIH
    have hl : lv_has ls 8 [(0, .ref (a 0)), (1, .int (zI q)), (2, .int (zI (A.1 0 1))), (3, .int (zI (nT A.1 q (A.1 0 4) i))), (4, .int (zI (cntI (gT A.1 q (A.1 0 4)) i))), (5, .int (zI (firstT A.1 (A.1 0 4)))), (6, .int (zI i))] := hl
    have hcr := cntI_r (gT A.1 q (A.1 0 4)) hI.1
    have hnr := nT_r (S := A.1) (q := q) (fr := A.1 0 4) hI.1 w2.1
    refine lv_iload hx hb dL_turns_43 (lv_at hl 6 rfl) ?_
    refine lv_iload_n hx hb dL_turns_45 rfl (lv_at hl 2 rfl) ?_
    refine z_icmp_ge (tgt := 113) hx hb dL_turns_46 (by decide) (by omega) (by omega) (fun c102 => ?_) (fun c102 => ?_)
    · skip
      have ei : i = A.1 0 1 := by omega
      subst ei
      have hen : nT A.1 q (A.1 0 4) (A.1 0 1) = nSh A.1 q (A.1 0 4) := nT_end
      refine lv_aload_n hx hb dL_turns_113 rfl (lv_at hl 0 rfl) ?_
      refine lv_iload_n hx hb dL_turns_114 rfl (lv_at hl 1 rfl) ?_
      refine lv_iload_n hx hb dL_turns_115 rfl (lv_at hl 3 rfl) ?_
      refine z_w (zrV (As := [.int (zI q), .int (zI (nT A.1 q (A.1 0 4) (A.1 0 1)))]) (rest := []) ⟨hx, hb, hml, hown, hts⟩ (k_shown l G cs a A q (nT A.1 q (A.1 0 4) (A.1 0 1)) ia hA (by omega) (by omega)) gL_turns_X6_shown rfl qX6_shown rfl rfl ⟨Nat.le_of_ble_eq_true rfl, Nat.le_of_ble_eq_true rfl⟩ hXI hK (va_recv hK.1 hXI.xo (ci := 6) (q0 := 0) rfl rfl) hl.1 rfl (Nat.le_of_ble_eq_true rfl) dL_turns_116 ⟨Nat.le_of_ble_eq_true rfl, Nat.le_of_ble_eq_true rfl⟩) hS (fun q h => h) (fun q h => h) (fun v H locs hpost hle hk hS => ?_)
      obtain ⟨rfl, hXI⟩ := hpost
      refine z_topi (b := (-5)) ((shn_at hq (by omega)).trans (shAt_out w1.1 (by omega) (by omega))) ?_
      refine z_bipush (n := -5) hx hb dL_turns_119 (by decide) ?_
      refine z_icmp_ne (tgt := 171) hx hb dL_turns_121 (by decide) (by omega) (by omega) (fun c103 => ?_) (fun c103 => ?_)
      · skip
        exfalso; omega
      · skip
        refine lv_aload_n hx hb dL_turns_124 rfl (lv_at hl 0 rfl) ?_
        refine lv_iload_n hx hb dL_turns_125 rfl (lv_at hl 1 rfl) ?_
        refine z_iconst (n := -1) hx hb dL_turns_126 ?_
        refine z_w (zrV (As := [.int (zI q), .int (zI (-1))]) (rest := []) ⟨hx, hb, hml, hown, hts⟩ (k_shown l G cs a A q (-1) ia hA (by omega) (by omega)) gL_turns_X6_shown rfl qX6_shown rfl rfl ⟨Nat.le_of_ble_eq_true rfl, Nat.le_of_ble_eq_true rfl⟩ hXI hK (va_recv hK.1 hXI.xo (ci := 6) (q0 := 0) rfl rfl) hl.1 rfl (Nat.le_of_ble_eq_true rfl) dL_turns_127 ⟨Nat.le_of_ble_eq_true rfl, Nat.le_of_ble_eq_true rfl⟩) hS (fun q h => h) (fun q h => h) (fun v H locs hpost hle hk hS => ?_)
        obtain ⟨rfl, hXI⟩ := hpost
        refine z_topi (b := (-2)) (shn_neg hq (by decide)) ?_
        refine z_bipush (n := -2) hx hb dL_turns_130 (by decide) ?_
        refine z_icmp_ne (tgt := 171) hx hb dL_turns_132 (by decide) (by omega) (by omega) (fun c104 => ?_) (fun c104 => ?_)
        · skip
          exfalso; omega
        · skip
          refine lv_aload_n hx hb dL_turns_135 rfl (lv_at hl 0 rfl) ?_
          refine lv_iload_n hx hb dL_turns_136 rfl (lv_at hl 1 rfl) ?_
          refine z_iconst (n := 0) hx hb dL_turns_137 ?_
          refine z_w (zrV (As := [.int (zI q), .int (zI 0)]) (rest := []) ⟨hx, hb, hml, hown, hts⟩ (k_line l G cs a A q 0 ia hA (by omega) (by omega)) gL_turns_X6_line rfl qX6_line rfl rfl ⟨Nat.le_of_ble_eq_true rfl, Nat.le_of_ble_eq_true rfl⟩ hXI hK (va_recv hK.1 hXI.xo (ci := 6) (q0 := 0) rfl rfl) hl.1 rfl (Nat.le_of_ble_eq_true rfl) dL_turns_138 ⟨Nat.le_of_ble_eq_true rfl, Nat.le_of_ble_eq_true rfl⟩) hS (fun q h => h) (fun q h => h) (fun v H locs hpost hle hk hS => ?_)
          obtain ⟨rfl, hXI⟩ := hpost
          refine z_topi (b := cntI (gT A.1 q (A.1 0 4)) (A.1 0 1)) ((ln_0 hq).trans (nSh_wanted w1.1).symm) ?_
          refine lv_iload hx hb dL_turns_141 (lv_at hl 4 rfl) ?_
          refine z_icmp_ne (tgt := 171) hx hb dL_turns_143 (by decide) (by omega) (by omega) (fun c105 => ?_) (fun c105 => ?_)
          · skip
            exfalso; omega
          · skip
            refine lv_aload_n hx hb dL_turns_146 rfl (lv_at hl 0 rfl) ?_
            refine lv_iload_n hx hb dL_turns_147 rfl (lv_at hl 1 rfl) ?_
            refine z_iconst (n := 1) hx hb dL_turns_148 ?_
            refine z_w (zrV (As := [.int (zI q), .int (zI 1)]) (rest := []) ⟨hx, hb, hml, hown, hts⟩ (k_line l G cs a A q 1 ia hA (by omega) (by omega)) gL_turns_X6_line rfl qX6_line rfl rfl ⟨Nat.le_of_ble_eq_true rfl, Nat.le_of_ble_eq_true rfl⟩ hXI hK (va_recv hK.1 hXI.xo (ci := 6) (q0 := 0) rfl rfl) hl.1 rfl (Nat.le_of_ble_eq_true rfl) dL_turns_149 ⟨Nat.le_of_ble_eq_true rfl, Nat.le_of_ble_eq_true rfl⟩) hS (fun q h => h) (fun q h => h) (fun v H locs hpost hle hk hS => ?_)
            obtain ⟨rfl, hXI⟩ := hpost
            refine z_topi (b := nT A.1 q (A.1 0 4) (A.1 0 1)) ((ln_1 hq).trans hen.symm) ?_
            refine lv_iload_n hx hb dL_turns_152 rfl (lv_at hl 3 rfl) ?_
            refine z_icmp_ne (tgt := 171) hx hb dL_turns_153 (by decide) (by omega) (by omega) (fun c106 => ?_) (fun c106 => ?_)
            · skip
              exfalso; omega
            · skip
              refine lv_aload_n hx hb dL_turns_156 rfl (lv_at hl 0 rfl) ?_
              refine lv_iload_n hx hb dL_turns_157 rfl (lv_at hl 1 rfl) ?_
              refine z_iconst (n := 5) hx hb dL_turns_158 ?_
              refine z_w (zrV (As := [.int (zI q), .int (zI 5)]) (rest := []) ⟨hx, hb, hml, hown, hts⟩ (k_line l G cs a A q 5 ia hA (by omega) (by omega)) gL_turns_X6_line rfl qX6_line rfl rfl ⟨Nat.le_of_ble_eq_true rfl, Nat.le_of_ble_eq_true rfl⟩ hXI hK (va_recv hK.1 hXI.xo (ci := 6) (q0 := 0) rfl rfl) hl.1 rfl (Nat.le_of_ble_eq_true rfl) dL_turns_159 ⟨Nat.le_of_ble_eq_true rfl, Nat.le_of_ble_eq_true rfl⟩) hS (fun q h => h) (fun q h => h) (fun v H locs hpost hle hk hS => ?_)
              obtain ⟨rfl, hXI⟩ := hpost
              refine z_topi (b := (-2)) (ln_5 hq) ?_
              refine z_bipush (n := -2) hx hb dL_turns_162 (by decide) ?_
              refine z_icmp_ne (tgt := 171) hx hb dL_turns_164 (by decide) (by omega) (by omega) (fun c107 => ?_) (fun c107 => ?_)
              · skip
                exfalso; omega
              · skip
                refine z_iconst (n := 1) hx hb dL_turns_167 ?_
                refine lv_goto (tgt := 172) hx hb dL_turns_168 (by decide) ?_
                exact w_zret hx hb hr hlk dL_turns_172 (by omega) hS ⟨rfl, hXI⟩
    · skip
      refine lv_iload hx hb dL_turns_49 (lv_at hl 5 rfl) ?_
      refine lv_iload hx hb dL_turns_51 (lv_at hl 6 rfl) ?_
      refine z_iadd hx hb dL_turns_53 ?_
      refine lv_iload_n hx hb dL_turns_54 rfl (lv_at hl 2 rfl) ?_
      refine z_irem hx hb dL_turns_55 (by omega) (by omega) ?_
      refine z_topi (b := atT A.1 (A.1 0 4) i) rfl ?_
      refine lv_istore (lv' := [(7, .int (zI (atT A.1 (A.1 0 4) i))), (0, .ref (a 0)), (1, .int (zI q)), (2, .int (zI (A.1 0 1))), (3, .int (zI (nT A.1 q (A.1 0 4) i))), (4, .int (zI (cntI (gT A.1 q (A.1 0 4)) i))), (5, .int (zI (firstT A.1 (A.1 0 4)))), (6, .int (zI i))]) hx hb dL_turns_56 hl (by decide) rfl (fun ls hl => ?_)
      refine lv_aload_n hx hb dL_turns_58 rfl (lv_at hl 1 rfl) ?_
      refine lv_iload hx hb dL_turns_59 (lv_at hl 0 rfl) ?_
      refine lv_iload_n hx hb dL_turns_61 rfl (lv_at hl 2 rfl) ?_
      have ha9 := atT_r (S := A.1) (fr := A.1 0 4) i (by omega)
      refine z_w (zrSJ (As := [.ref (a 0), .int (zI (atT A.1 (A.1 0 4) i)), .int (zI q)]) (rest := []) ⟨hx, hb, hml, hown, hts⟩ (c_L_covers l G cs a A (atT A.1 (A.1 0 4) i) q ia hA ha9 hq) gL_turns_L_covers rfl qL_covers rfl rfl ⟨Nat.le_of_ble_eq_true rfl, Nat.le_of_ble_eq_true rfl⟩ hXI hK hl.1 rfl (Nat.le_of_ble_eq_true rfl) dL_turns_62 ⟨Nat.le_of_ble_eq_true rfl, Nat.le_of_ble_eq_true rfl⟩) hS (fun q h => h) (fun q h => h) (fun v H locs hpost hle hk hS => ?_)
      obtain ⟨rfl, hXI⟩ := hpost
      refine z_bif_eq (tgt := 107) hx hb dL_turns_65 (by decide) (fun c9 => ?_) (fun c9 => ?_)
      · skip
        refine z_iinc (k := 7) (lv' := [(6, .int (zI (i + 1))), (7, .int (zI (atT A.1 (A.1 0 4) i))), (0, .ref (a 0)), (1, .int (zI q)), (2, .int (zI (A.1 0 1))), (3, .int (zI (nT A.1 q (A.1 0 4) i))), (4, .int (zI (cntI (gT A.1 q (A.1 0 4)) i))), (5, .int (zI (firstT A.1 (A.1 0 4))))]) hx hb dL_turns_107 hl rfl (by decide) rfl (fun ls hl => ?_)
        refine lv_goto (tgt := 43) hx hb dL_turns_110 (by decide) ?_
        have c9 : gT A.1 q (A.1 0 4) i = false := c9
        have hb1 := nT_f (S := A.1) (q := q) (fr := A.1 0 4) hI.1 c9
        have hb2 := cntI_f hI.1 c9
        exact ih (i + 1) H locs ⟨(by omega), hXI⟩ hS (by omega) ls (by show lv_has ls 8 [(0, .ref (a 0)), (1, .int (zI q)), (2, .int (zI (A.1 0 1))), (3, .int (zI (nT A.1 q (A.1 0 4) (i + 1)))), (4, .int (zI (cntI (gT A.1 q (A.1 0 4)) (i + 1)))), (5, .int (zI (firstT A.1 (A.1 0 4)))), (6, .int (zI (i + 1)))]; rw [hb1, hb2]; exact lv_sub hl [2, 3, 4, 5, 6, 7, 0] rfl)
      · skip
        have c9 : gT A.1 q (A.1 0 4) i = true := c9
        refine z_iinc (k := 5) (lv' := [(4, .int (zI ((cntI (gT A.1 q (A.1 0 4)) i) + 1))), (7, .int (zI (atT A.1 (A.1 0 4) i))), (0, .ref (a 0)), (1, .int (zI q)), (2, .int (zI (A.1 0 1))), (3, .int (zI (nT A.1 q (A.1 0 4) i))), (5, .int (zI (firstT A.1 (A.1 0 4)))), (6, .int (zI i))]) hx hb dL_turns_68 hl rfl (by decide) rfl (fun ls hl => ?_)
        refine lv_iload_n hx hb dL_turns_71 rfl (lv_at hl 5 rfl) ?_
        refine lv_aload_n hx hb dL_turns_72 rfl (lv_at hl 2 rfl) ?_
        refine z_bipush (n := 9) hx hb dL_turns_73 (by decide) ?_
        refine z_w (zrV (As := [.int (zI 9)]) (rest := [.int (zI (nT A.1 q (A.1 0 4) i))]) ⟨hx, hb, hml, hown, hts⟩ (k_count l G cs a A 9 ia hA (by omega)) gL_turns_X6_count rfl qX6_count rfl rfl ⟨Nat.le_of_ble_eq_true rfl, Nat.le_of_ble_eq_true rfl⟩ hXI hK (va_recv hK.1 hXI.xo (ci := 6) (q0 := 0) rfl rfl) hl.1 rfl (Nat.le_of_ble_eq_true rfl) dL_turns_75 ⟨Nat.le_of_ble_eq_true rfl, Nat.le_of_ble_eq_true rfl⟩) hS (fun q h => h) (fun q h => h) (fun v H locs hpost hle hk hS => ?_)
        obtain ⟨rfl, hXI⟩ := hpost
        refine z_topi (b := A.1 0 2) ct_9 ?_
        refine z_icmp_ge (tgt := 107) hx hb dL_turns_78 (by decide) (by omega) (by omega) (fun c8 => ?_) (fun c8 => ?_)
        · skip
          refine z_iinc (k := 7) (lv' := [(6, .int (zI (i + 1))), (4, .int (zI ((cntI (gT A.1 q (A.1 0 4)) i) + 1))), (7, .int (zI (atT A.1 (A.1 0 4) i))), (0, .ref (a 0)), (1, .int (zI q)), (2, .int (zI (A.1 0 1))), (3, .int (zI (nT A.1 q (A.1 0 4) i))), (5, .int (zI (firstT A.1 (A.1 0 4))))]) hx hb dL_turns_107 hl rfl (by decide) rfl (fun ls hl => ?_)
          refine lv_goto (tgt := 43) hx hb dL_turns_110 (by decide) ?_
          have hb1 := nT_full (S := A.1) (q := q) (fr := A.1 0 4) hI.1 c9 c8
          have hb2 := cntI_t hI.1 c9
          exact ih (i + 1) H locs ⟨(by omega), hXI⟩ hS (by omega) ls (by show lv_has ls 8 [(0, .ref (a 0)), (1, .int (zI q)), (2, .int (zI (A.1 0 1))), (3, .int (zI (nT A.1 q (A.1 0 4) (i + 1)))), (4, .int (zI (cntI (gT A.1 q (A.1 0 4)) (i + 1)))), (5, .int (zI (firstT A.1 (A.1 0 4)))), (6, .int (zI (i + 1)))]; rw [hb1, hb2]; exact lv_sub hl [3, 4, 5, 6, 1, 7, 0] rfl)
        · skip
          refine lv_aload_n hx hb dL_turns_81 rfl (lv_at hl 2 rfl) ?_
          refine lv_iload_n hx hb dL_turns_82 rfl (lv_at hl 3 rfl) ?_
          refine lv_iload_n hx hb dL_turns_83 rfl (lv_at hl 5 rfl) ?_
          refine z_w (zrV (As := [.int (zI q), .int (zI (nT A.1 q (A.1 0 4) i))]) (rest := []) ⟨hx, hb, hml, hown, hts⟩ (k_shown l G cs a A q (nT A.1 q (A.1 0 4) i) ia hA (by omega) (by omega)) gL_turns_X6_shown rfl qX6_shown rfl rfl ⟨Nat.le_of_ble_eq_true rfl, Nat.le_of_ble_eq_true rfl⟩ hXI hK (va_recv hK.1 hXI.xo (ci := 6) (q0 := 0) rfl rfl) hl.1 rfl (Nat.le_of_ble_eq_true rfl) dL_turns_84 ⟨Nat.le_of_ble_eq_true rfl, Nat.le_of_ble_eq_true rfl⟩) hS (fun q h => h) (fun q h => h) (fun v H locs hpost hle hk hS => ?_)
          obtain ⟨rfl, hXI⟩ := hpost
          refine z_topi (b := atT A.1 (A.1 0 4) i) ((shn_at hq (by omega)).trans (shAt_nT (by omega) c9 c8)) ?_
          refine lv_iload hx hb dL_turns_87 (lv_at hl 1 rfl) ?_
          refine z_icmp_ne (tgt := 102) hx hb dL_turns_89 (by decide) (by omega) (by omega) (fun c108 => ?_) (fun c108 => ?_)
          · skip
            exfalso; omega
          · skip
            refine lv_aload_n hx hb dL_turns_92 rfl (lv_at hl 2 rfl) ?_
            refine lv_iload_n hx hb dL_turns_93 rfl (lv_at hl 3 rfl) ?_
            refine lv_iload hx hb dL_turns_94 (lv_at hl 1 rfl) ?_
            refine z_w (zrV (As := [.int (zI q), .int (zI (atT A.1 (A.1 0 4) i))]) (rest := []) ⟨hx, hb, hml, hown, hts⟩ (k_shownIn l G cs a A q (atT A.1 (A.1 0 4) i) ia hA (by omega) (by omega)) gL_turns_X6_shownIn rfl qX6_shownIn rfl rfl ⟨Nat.le_of_ble_eq_true rfl, Nat.le_of_ble_eq_true rfl⟩ hXI hK (va_recv hK.1 hXI.xo (ci := 6) (q0 := 0) rfl rfl) hl.1 rfl (Nat.le_of_ble_eq_true rfl) dL_turns_96 ⟨Nat.le_of_ble_eq_true rfl, Nat.le_of_ble_eq_true rfl⟩) hS (fun q h => h) (fun q h => h) (fun v H locs hpost hle hk hS => ?_)
            obtain ⟨rfl, hXI⟩ := hpost
            refine z_topi (b := 0) (shIn_0 hq ha9 (shown_nT (by omega) c9 c8)) ?_
            refine z_if_eq (tgt := 104) hx hb dL_turns_99 (by decide) (by omega) (fun c109 => ?_) (fun c109 => ?_)
            · skip
              refine z_iinc (k := 5) (lv' := [(3, .int (zI ((nT A.1 q (A.1 0 4) i) + 1))), (4, .int (zI ((cntI (gT A.1 q (A.1 0 4)) i) + 1))), (7, .int (zI (atT A.1 (A.1 0 4) i))), (0, .ref (a 0)), (1, .int (zI q)), (2, .int (zI (A.1 0 1))), (5, .int (zI (firstT A.1 (A.1 0 4)))), (6, .int (zI i))]) hx hb dL_turns_104 hl rfl (by decide) rfl (fun ls hl => ?_)
              refine z_iinc (k := 7) (lv' := [(6, .int (zI (i + 1))), (3, .int (zI ((nT A.1 q (A.1 0 4) i) + 1))), (4, .int (zI ((cntI (gT A.1 q (A.1 0 4)) i) + 1))), (7, .int (zI (atT A.1 (A.1 0 4) i))), (0, .ref (a 0)), (1, .int (zI q)), (2, .int (zI (A.1 0 1))), (5, .int (zI (firstT A.1 (A.1 0 4))))]) hx hb dL_turns_107 hl rfl (by decide) rfl (fun ls hl => ?_)
              refine lv_goto (tgt := 43) hx hb dL_turns_110 (by decide) ?_
              have hb1 := nT_more (S := A.1) (q := q) (fr := A.1 0 4) hI.1 c9 c8
              have hb2 := cntI_t hI.1 c9
              exact ih (i + 1) H locs ⟨(by omega), hXI⟩ hS (by omega) ls (by show lv_has ls 8 [(0, .ref (a 0)), (1, .int (zI q)), (2, .int (zI (A.1 0 1))), (3, .int (zI (nT A.1 q (A.1 0 4) (i + 1)))), (4, .int (zI (cntI (gT A.1 q (A.1 0 4)) (i + 1)))), (5, .int (zI (firstT A.1 (A.1 0 4)))), (6, .int (zI (i + 1)))]; rw [hb1, hb2]; exact lv_sub hl [4, 5, 6, 1, 2, 7, 0] rfl)
            · skip
              exfalso; omega
  · skip
    exfalso; omega
