set_option maxHeartbeats 4000000 in
set_option maxRecDepth 100000 in
theorem c_X7_in (l : Launch) (G : va_G) (cs : Nat → ClassId) (z u v : Int) (r_z : -2147483648 ≤ z ∧ z < 2147483648) (r_u : -2147483648 ≤ u ∧ u < 2147483648) (r_v : -2147483648 ≤ v ∧ v < 2147483648) : MRO l yX7_in wsX7_in { frames := 0, cells := 0, slots := 0, locals := 0 } G cs [.int (zI z), .int (zI u), .int (zI v)] (fun _ => True) (.int (zI (b2 (decide (u ≤ z ∧ z ≤ v))))) := by
  refine m_intro (Pw := (fun _ => True)) (cc := cX7_in) (maxL := 3) (ret := some .boolean) RX7 (by decide) rfl rfl (Nat.le_of_ble_eq_true rfl) ?_
  intro pP eE sS mM below meth cC hx hb hr hts hown hml hlk hnm hPre hK ls hl
  have hl : lv_has ls 3 [(0, .int (zI z)), (1, .int (zI u)), (2, .int (zI v))] := hl
  refine lv_iload_n hx hb dX7_in_0 rfl (lv_at hl 0 rfl) ?_
  refine lv_iload_n hx hb dX7_in_1 rfl (lv_at hl 1 rfl) ?_
  refine z_icmp_lt (tgt := 14) hx hb dX7_in_2 (by decide) (by omega) (by omega) (fun c1 => ?_) (fun c1 => ?_)
  · skip
    refine z_iconst (n := 0) hx hb dX7_in_14 ?_
    exact ro_zret hx hb hr hlk dX7_in_15 (by omega) (congrArg (fun z => Value.int (zI z)) (b2_f (by simp only [decide_eq_false_iff_not]; omega)).symm)
  · skip
    refine lv_iload_n hx hb dX7_in_5 rfl (lv_at hl 0 rfl) ?_
    refine lv_iload_n hx hb dX7_in_6 rfl (lv_at hl 2 rfl) ?_
    refine z_icmp_gt (tgt := 14) hx hb dX7_in_7 (by decide) (by omega) (by omega) (fun c2 => ?_) (fun c2 => ?_)
    · skip
      refine z_iconst (n := 0) hx hb dX7_in_14 ?_
      exact ro_zret hx hb hr hlk dX7_in_15 (by omega) (congrArg (fun z => Value.int (zI z)) (b2_f (by simp only [decide_eq_false_iff_not]; omega)).symm)
    · skip
      refine z_iconst (n := 1) hx hb dX7_in_10 ?_
      refine lv_goto (tgt := 15) hx hb dX7_in_11 (by decide) ?_
      exact ro_zret hx hb hr hlk dX7_in_15 (by omega) (congrArg (fun z => Value.int (zI z)) (b2_t (by simp only [decide_eq_true_eq]; omega)).symm)

set_option maxHeartbeats 4000000 in
set_option maxRecDepth 100000 in
theorem c_X7_noLine (l : Launch) (G : va_G) (cs : Nat → ClassId) (q : Int) (r_q : -2147483648 ≤ q ∧ q < 2147483648) : MRO l yX7_noLine wsX7_noLine { frames := 1, cells := 0, slots := 0, locals := 22 } G cs [.int (zI q)] (fun _ => True) (.int (zI (b2 (decide (¬ (0 ≤ q ∧ q < 32)))))) := by
  refine m_intro (Pw := (fun _ => True)) (cc := cX7_noLine) (maxL := 1) (ret := some .boolean) RX7 (by decide) rfl rfl (Nat.le_of_ble_eq_true rfl) ?_
  intro pP eE sS mM below meth cC hx hb hr hts hown hml hlk hnm hPre hK ls hl
  have hl : lv_has ls 1 [(0, .int (zI q))] := hl
  refine lv_iload_n hx hb dX7_noLine_0 rfl (lv_at hl 0 rfl) ?_
  refine z_iconst (n := 0) hx hb dX7_noLine_1 ?_
  refine z_bipush (n := 31) hx hb dX7_noLine_2 (by decide) ?_
  refine z_ro (zrS (As := [.int (zI q), .int (zI 0), .int (zI 31)]) (rest := []) (Pw := fun _ => True) ⟨hx, hb, hml, hown, hts⟩ (c_X7_in l G cs q 0 31 (by omega) (by omega) (by omega)) gX7_noLine_X7_in rfl qX7_in rfl rfl ⟨Nat.le_of_ble_eq_true rfl, Nat.le_of_ble_eq_true rfl⟩ trivial hK hl.1 rfl (Nat.le_of_ble_eq_true rfl) dX7_noLine_4 ⟨Nat.le_of_ble_eq_true rfl, Nat.le_of_ble_eq_true rfl⟩) ?_
  refine z_bif_ne (tgt := 14) hx hb dX7_noLine_7 (by decide) (fun c1 => ?_) (fun c1 => ?_)
  · skip
    simp only [decide_eq_true_eq] at c1
    refine z_iconst (n := 0) hx hb dX7_noLine_14 ?_
    exact ro_zret hx hb hr hlk dX7_noLine_15 (by omega) (congrArg (fun z => Value.int (zI z)) (b2_f (by simp only [decide_eq_false_iff_not]; omega)).symm)
  · skip
    simp only [decide_eq_false_iff_not] at c1
    refine z_iconst (n := 1) hx hb dX7_noLine_10 ?_
    refine lv_goto (tgt := 15) hx hb dX7_noLine_11 (by decide) ?_
    exact ro_zret hx hb hr hlk dX7_noLine_15 (by omega) (congrArg (fun z => Value.int (zI z)) (b2_t (by simp only [decide_eq_true_eq]; omega)).symm)

set_option maxHeartbeats 4000000 in
set_option maxRecDepth 100000 in
theorem c_X7_isPlace (l : Launch) (G : va_G) (cs : Nat → ClassId) (x y : Int) (r_x : -2147483648 ≤ x ∧ x < 2147483648) (r_y : -2147483648 ≤ y ∧ y < 2147483648) : MRO l yX7_isPlace wsX7_isPlace { frames := 1, cells := 0, slots := 0, locals := 22 } G cs [.int (zI x), .int (zI y)] (fun _ => True) (.int (zI (b2 (decide ((-7 ≤ x ∧ x ≤ 31) ∧ (-7 ≤ y ∧ y ≤ 31)))))) := by
  refine m_intro (Pw := (fun _ => True)) (cc := cX7_isPlace) (maxL := 2) (ret := some .boolean) RX7 (by decide) rfl rfl (Nat.le_of_ble_eq_true rfl) ?_
  intro pP eE sS mM below meth cC hx hb hr hts hown hml hlk hnm hPre hK ls hl
  have hl : lv_has ls 2 [(0, .int (zI x)), (1, .int (zI y))] := hl
  refine lv_iload_n hx hb dX7_isPlace_0 rfl (lv_at hl 0 rfl) ?_
  refine z_bipush (n := -7) hx hb dX7_isPlace_1 (by decide) ?_
  refine z_bipush (n := 31) hx hb dX7_isPlace_3 (by decide) ?_
  refine z_ro (zrS (As := [.int (zI x), .int (zI (-7)), .int (zI 31)]) (rest := []) (Pw := fun _ => True) ⟨hx, hb, hml, hown, hts⟩ (c_X7_in l G cs x (-7) 31 (by omega) (by omega) (by omega)) gX7_isPlace_X7_in rfl qX7_in rfl rfl ⟨Nat.le_of_ble_eq_true rfl, Nat.le_of_ble_eq_true rfl⟩ trivial hK hl.1 rfl (Nat.le_of_ble_eq_true rfl) dX7_isPlace_5 ⟨Nat.le_of_ble_eq_true rfl, Nat.le_of_ble_eq_true rfl⟩) ?_
  refine z_bif_eq (tgt := 26) hx hb dX7_isPlace_8 (by decide) (fun c1 => ?_) (fun c1 => ?_)
  · skip
    simp only [decide_eq_false_iff_not] at c1
    refine z_iconst (n := 0) hx hb dX7_isPlace_26 ?_
    exact ro_zret hx hb hr hlk dX7_isPlace_27 (by omega) (congrArg (fun z => Value.int (zI z)) (b2_f (by simp only [decide_eq_false_iff_not]; omega)).symm)
  · skip
    simp only [decide_eq_true_eq] at c1
    refine lv_iload_n hx hb dX7_isPlace_11 rfl (lv_at hl 1 rfl) ?_
    refine z_bipush (n := -7) hx hb dX7_isPlace_12 (by decide) ?_
    refine z_bipush (n := 31) hx hb dX7_isPlace_14 (by decide) ?_
    refine z_ro (zrS (As := [.int (zI y), .int (zI (-7)), .int (zI 31)]) (rest := []) (Pw := fun _ => True) ⟨hx, hb, hml, hown, hts⟩ (c_X7_in l G cs y (-7) 31 (by omega) (by omega) (by omega)) gX7_isPlace_X7_in rfl qX7_in rfl rfl ⟨Nat.le_of_ble_eq_true rfl, Nat.le_of_ble_eq_true rfl⟩ trivial hK hl.1 rfl (Nat.le_of_ble_eq_true rfl) dX7_isPlace_16 ⟨Nat.le_of_ble_eq_true rfl, Nat.le_of_ble_eq_true rfl⟩) ?_
    refine z_bif_eq (tgt := 26) hx hb dX7_isPlace_19 (by decide) (fun c2 => ?_) (fun c2 => ?_)
    · skip
      simp only [decide_eq_false_iff_not] at c2
      refine z_iconst (n := 0) hx hb dX7_isPlace_26 ?_
      exact ro_zret hx hb hr hlk dX7_isPlace_27 (by omega) (congrArg (fun z => Value.int (zI z)) (b2_f (by simp only [decide_eq_false_iff_not]; omega)).symm)
    · skip
      simp only [decide_eq_true_eq] at c2
      refine z_iconst (n := 1) hx hb dX7_isPlace_22 ?_
      refine lv_goto (tgt := 27) hx hb dX7_isPlace_23 (by decide) ?_
      exact ro_zret hx hb hr hlk dX7_isPlace_27 (by omega) (congrArg (fun z => Value.int (zI z)) (b2_t (by simp only [decide_eq_true_eq]; omega)).symm)

set_option maxHeartbeats 4000000 in
set_option maxRecDepth 100000 in
theorem c_X7_sprites (l : Launch) (G : va_G) (cs : Nat → ClassId) (a : Nat → Nat) (S : SS) (Y : Int → Int) (kq tq nq : Int) (rr : RR S Y) : MRO l yX7_sprites wsX7_sprites { frames := 0, cells := 0, slots := 0, locals := 0 } G cs [.ref (a 0)] (fun H => va_P G vwCl (moW cs a kq tq nq) H ∧ va_P G vwCl (m7 cs a 1 0 361 (aI Y)) H) (.int (zI (S 0 1))) := by
  refine m_intro (Pw := (fun H => va_P G vwCl (moW cs a kq tq nq) H ∧ va_P G vwCl (m7 cs a 1 0 361 (aI Y)) H)) (cc := cX7_sprites) (maxL := 1) (ret := some .int) RX7 (by decide) rfl rfl (Nat.le_of_ble_eq_true rfl) ?_
  intro pP eE sS mM below meth cC hx hb hr hts hown hml hlk hnm hPre hK ls hl
  have hl : lv_has ls 1 [(0, .ref (a 0))] := hl
  obtain ⟨hMo, hRw⟩ := hPre
  have hi7 : ∀ w ∈ u_ws RX7 TX7 12, w ∈ wsX7_sprites := by decide +kernel
  refine lv_aload_n hx hb dX7_sprites_0 rfl (lv_at hl 0 rfl) ?_
  refine va_get (D := G) (ci := 7) (v := .ref ((sh a 1) 0)) (C := RX7) (T := TX7) (N := 12) hx hb hts hi7 hown hK.1 hMo 0 rfl rfl 0 (by decide) (hts (.fieldLink RX7 7 "SpriteLinesModel" "row" "[I") (by decide +kernel)) (fun _ h9 => h9) rfl dX7_sprites_1 ?_
  refine z_iconst (n := 1) hx hb dX7_sprites_4 ?_
  refine z_iald hx hb hK.1 hRw 0 0 (F := Y) rfl rfl (by omega) (by decide) dX7_sprites_5 ?_
  refine z_topi (b := S 0 1) rr.1.2.1 ?_
  exact ro_iret hx hb hr hlk dX7_sprites_6 rfl

set_option maxHeartbeats 4000000 in
set_option maxRecDepth 100000 in
theorem c_X7_noPart (l : Launch) (G : va_G) (cs : Nat → ClassId) (a : Nat → Nat) (S : SS) (Y : Int → Int) (kq tq nq : Int) (q : Int) (wf : WF S) (rr : RR S Y) (r_q : -2147483648 ≤ q ∧ q < 2147483648) : MRO l yX7_noPart wsX7_noPart { frames := 1, cells := 0, slots := 0, locals := 22 } G cs [.ref (a 0), .int (zI q)] (fun H => va_P G vwCl (moW cs a kq tq nq) H ∧ va_P G vwCl (m7 cs a 1 0 361 (aI Y)) H) (.int (zI (b2 (decide (¬ (0 ≤ q ∧ q < S 0 0)))))) := by
  refine m_intro (Pw := (fun H => va_P G vwCl (moW cs a kq tq nq) H ∧ va_P G vwCl (m7 cs a 1 0 361 (aI Y)) H)) (cc := cX7_noPart) (maxL := 2) (ret := some .boolean) RX7 (by decide) rfl rfl (Nat.le_of_ble_eq_true rfl) ?_
  intro pP eE sS mM below meth cC hx hb hr hts hown hml hlk hnm hPre hK ls hl
  have hl : lv_has ls 2 [(0, .ref (a 0)), (1, .int (zI q))] := hl
  obtain ⟨hMo, hRw⟩ := hPre
  have hi7 : ∀ w ∈ u_ws RX7 TX7 12, w ∈ wsX7_noPart := by decide +kernel
  have wf0 := wf
  obtain ⟨w0, w1, w2, w3, w4, wP, wC, wS, wX⟩ := wf
  refine lv_iload_n hx hb dX7_noPart_0 rfl (lv_at hl 1 rfl) ?_
  refine z_iconst (n := 0) hx hb dX7_noPart_1 ?_
  refine lv_aload_n hx hb dX7_noPart_2 rfl (lv_at hl 0 rfl) ?_
  refine va_get (D := G) (ci := 7) (v := .ref ((sh a 1) 0)) (C := RX7) (T := TX7) (N := 12) hx hb hts hi7 hown hK.1 hMo 0 rfl rfl 0 (by decide) (hts (.fieldLink RX7 7 "SpriteLinesModel" "row" "[I") (by decide +kernel)) (fun _ h9 => h9) rfl dX7_noPart_3 ?_
  refine z_iconst (n := 0) hx hb dX7_noPart_6 ?_
  refine z_iald hx hb hK.1 hRw 0 0 (F := Y) rfl rfl (by omega) (by decide) dX7_noPart_7 ?_
  refine z_topi (b := S 0 0) rr.1.1 ?_
  refine z_iconst (n := 1) hx hb dX7_noPart_8 ?_
  refine z_isub hx hb dX7_noPart_9 ?_
  refine z_ro (zrS (As := [.int (zI q), .int (zI 0), .int (zI ((S 0 0) - 1))]) (rest := []) (Pw := fun _ => True) ⟨hx, hb, hml, hown, hts⟩ (c_X7_in l G cs q 0 ((S 0 0) - 1) (by omega) (by omega) (by omega)) gX7_noPart_X7_in rfl qX7_in rfl rfl ⟨Nat.le_of_ble_eq_true rfl, Nat.le_of_ble_eq_true rfl⟩ trivial hK hl.1 rfl (Nat.le_of_ble_eq_true rfl) dX7_noPart_10 ⟨Nat.le_of_ble_eq_true rfl, Nat.le_of_ble_eq_true rfl⟩) ?_
  refine z_bif_ne (tgt := 20) hx hb dX7_noPart_13 (by decide) (fun c1 => ?_) (fun c1 => ?_)
  · skip
    simp only [decide_eq_true_eq] at c1
    refine z_iconst (n := 0) hx hb dX7_noPart_20 ?_
    exact ro_zret hx hb hr hlk dX7_noPart_21 (by omega) (congrArg (fun z => Value.int (zI z)) (b2_f (by simp only [decide_eq_false_iff_not]; omega)).symm)
  · skip
    simp only [decide_eq_false_iff_not] at c1
    refine z_iconst (n := 1) hx hb dX7_noPart_16 ?_
    refine lv_goto (tgt := 21) hx hb dX7_noPart_17 (by decide) ?_
    exact ro_zret hx hb hr hlk dX7_noPart_21 (by omega) (congrArg (fun z => Value.int (zI z)) (b2_t (by simp only [decide_eq_true_eq]; omega)).symm)

set_option maxHeartbeats 4000000 in
set_option maxRecDepth 100000 in
theorem c_X7_noSprite (l : Launch) (G : va_G) (cs : Nat → ClassId) (a : Nat → Nat) (S : SS) (Y : Int → Int) (kq tq nq : Int) (q : Int) (wf : WF S) (rr : RR S Y) (r_q : -2147483648 ≤ q ∧ q < 2147483648) : MRO l yX7_noSprite wsX7_noSprite { frames := 1, cells := 0, slots := 0, locals := 22 } G cs [.ref (a 0), .int (zI q)] (fun H => va_P G vwCl (moW cs a kq tq nq) H ∧ va_P G vwCl (m7 cs a 1 0 361 (aI Y)) H) (.int (zI (b2 (decide (¬ (0 ≤ q ∧ q < S 0 1)))))) := by
  refine m_intro (Pw := (fun H => va_P G vwCl (moW cs a kq tq nq) H ∧ va_P G vwCl (m7 cs a 1 0 361 (aI Y)) H)) (cc := cX7_noSprite) (maxL := 2) (ret := some .boolean) RX7 (by decide) rfl rfl (Nat.le_of_ble_eq_true rfl) ?_
  intro pP eE sS mM below meth cC hx hb hr hts hown hml hlk hnm hPre hK ls hl
  have hl : lv_has ls 2 [(0, .ref (a 0)), (1, .int (zI q))] := hl
  obtain ⟨hMo, hRw⟩ := hPre
  have wf0 := wf
  obtain ⟨w0, w1, w2, w3, w4, wP, wC, wS, wX⟩ := wf
  refine lv_iload_n hx hb dX7_noSprite_0 rfl (lv_at hl 1 rfl) ?_
  refine z_iconst (n := 0) hx hb dX7_noSprite_1 ?_
  refine lv_aload_n hx hb dX7_noSprite_2 rfl (lv_at hl 0 rfl) ?_
  refine z_ro (zrV (As := []) (rest := [.int (zI 0), .int (zI q)]) (Pw := fun H => va_P G vwCl (moW cs a kq tq nq) H ∧ va_P G vwCl (m7 cs a 1 0 361 (aI Y)) H) ⟨hx, hb, hml, hown, hts⟩ (c_X7_sprites l G cs a S Y kq tq nq rr) gX7_noSprite_X7_sprites rfl qX7_sprites rfl rfl ⟨Nat.le_of_ble_eq_true rfl, Nat.le_of_ble_eq_true rfl⟩ ⟨hMo, hRw⟩ hK (va_recv hK.1 hMo (ci := 7) (q0 := 0) rfl rfl) hl.1 rfl (Nat.le_of_ble_eq_true rfl) dX7_noSprite_3 ⟨Nat.le_of_ble_eq_true rfl, Nat.le_of_ble_eq_true rfl⟩) ?_
  refine z_iconst (n := 1) hx hb dX7_noSprite_6 ?_
  refine z_isub hx hb dX7_noSprite_7 ?_
  refine z_ro (zrS (As := [.int (zI q), .int (zI 0), .int (zI ((S 0 1) - 1))]) (rest := []) (Pw := fun _ => True) ⟨hx, hb, hml, hown, hts⟩ (c_X7_in l G cs q 0 ((S 0 1) - 1) (by omega) (by omega) (by omega)) gX7_noSprite_X7_in rfl qX7_in rfl rfl ⟨Nat.le_of_ble_eq_true rfl, Nat.le_of_ble_eq_true rfl⟩ trivial hK hl.1 rfl (Nat.le_of_ble_eq_true rfl) dX7_noSprite_8 ⟨Nat.le_of_ble_eq_true rfl, Nat.le_of_ble_eq_true rfl⟩) ?_
  refine z_bif_ne (tgt := 18) hx hb dX7_noSprite_11 (by decide) (fun c1 => ?_) (fun c1 => ?_)
  · skip
    simp only [decide_eq_true_eq] at c1
    refine z_iconst (n := 0) hx hb dX7_noSprite_18 ?_
    exact ro_zret hx hb hr hlk dX7_noSprite_19 (by omega) (congrArg (fun z => Value.int (zI z)) (b2_f (by simp only [decide_eq_false_iff_not]; omega)).symm)
  · skip
    simp only [decide_eq_false_iff_not] at c1
    refine z_iconst (n := 1) hx hb dX7_noSprite_14 ?_
    refine lv_goto (tgt := 19) hx hb dX7_noSprite_15 (by decide) ?_
    exact ro_zret hx hb hr hlk dX7_noSprite_19 (by omega) (congrArg (fun z => Value.int (zI z)) (b2_t (by simp only [decide_eq_true_eq]; omega)).symm)

set_option maxHeartbeats 4000000 in
set_option maxRecDepth 100000 in
theorem c_X7_of (l : Launch) (G : va_G) (cs : Nat → ClassId) (a : Nat → Nat) (S : SS) (Y : Int → Int) (kq tq nq : Int) (x t : Int) (wf : WF S) (rr : RR S Y) (hx0 : 0 ≤ x ∧ x < S 0 1) (ht : 0 ≤ t ∧ t < 6) : MRO l yX7_of wsX7_of { frames := 0, cells := 0, slots := 0, locals := 0 } G cs [.ref (a 0), .int (zI x), .int (zI t)] (fun H => va_P G vwCl (moW cs a kq tq nq) H ∧ va_P G vwCl (m7 cs a 1 0 361 (aI Y)) H) (.int (zI (S 1 (6 * x + t)))) := by
  refine m_intro (Pw := (fun H => va_P G vwCl (moW cs a kq tq nq) H ∧ va_P G vwCl (m7 cs a 1 0 361 (aI Y)) H)) (cc := cX7_of) (maxL := 3) (ret := some .int) RX7 (by decide) rfl rfl (Nat.le_of_ble_eq_true rfl) ?_
  intro pP eE sS mM below meth cC hx hb hr hts hown hml hlk hnm hPre hK ls hl
  have hl : lv_has ls 3 [(0, .ref (a 0)), (1, .int (zI x)), (2, .int (zI t))] := hl
  obtain ⟨hMo, hRw⟩ := hPre
  have hi7 : ∀ w ∈ u_ws RX7 TX7 12, w ∈ wsX7_of := by decide +kernel
  have wf0 := wf
  obtain ⟨w0, w1, w2, w3, w4, wP, wC, wS, wX⟩ := wf
  refine lv_aload_n hx hb dX7_of_0 rfl (lv_at hl 0 rfl) ?_
  refine va_get (D := G) (ci := 7) (v := .ref ((sh a 1) 0)) (C := RX7) (T := TX7) (N := 12) hx hb hts hi7 hown hK.1 hMo 0 rfl rfl 0 (by decide) (hts (.fieldLink RX7 7 "SpriteLinesModel" "row" "[I") (by decide +kernel)) (fun _ h9 => h9) rfl dX7_of_1 ?_
  refine z_sipush (n := 209) hx hb dX7_of_4 (by decide) ?_
  refine z_bipush (n := 6) hx hb dX7_of_7 (by decide) ?_
  refine lv_iload_n hx hb dX7_of_9 rfl (lv_at hl 1 rfl) ?_
  refine z_imul hx hb dX7_of_10 ?_
  refine z_iadd hx hb dX7_of_11 ?_
  refine lv_iload_n hx hb dX7_of_12 rfl (lv_at hl 2 rfl) ?_
  refine z_iadd hx hb dX7_of_13 ?_
  refine z_iald hx hb hK.1 hRw 0 0 (F := Y) rfl rfl (by omega) (by decide) dX7_of_14 ?_
  refine z_topi (b := S 1 (6 * x + t)) (rr.2.2.2.1 x t hx0.1 hx0.2 ht.1 ht.2) ?_
  exact ro_iret hx hb hr hlk dX7_of_15 rfl

set_option maxHeartbeats 4000000 in
set_option maxRecDepth 100000 in
theorem c_X7_put (l : Launch) (G : va_G) (cs : Nat → ClassId) (a : Nat → Nat) (S : SS) (Y : Int → Int) (kq tq nq : Int) (x t v : Int) (ia : Inj a 10) (hx2 : 0 ≤ x ∧ x < 20) (ht : 0 ≤ t ∧ t < 6) : MV l yX7_put wsX7_put { frames := 0, cells := 0, slots := 0, locals := 0 } G cs [.ref (a 0), .int (zI x), .int (zI t), .int (zI v)] (fun H => va_P G vwCl (moW cs a kq tq nq) H ∧ va_P G vwCl (m7 cs a 1 0 361 (aI Y)) H) (fun H => va_P G vwCl (m7 cs a 1 0 361 (aI (updZ Y (209 + 6 * x + t) v))) H) (AX a 1 2) 0 0 := by
  refine m_intro (Pw := (fun H => va_P G vwCl (moW cs a kq tq nq) H ∧ va_P G vwCl (m7 cs a 1 0 361 (aI Y)) H)) (cc := cX7_put) (maxL := 4) (ret := none) RX7 (by decide) rfl rfl (Nat.le_of_ble_eq_true rfl) ?_
  intro pP eE sS mM below meth cC hx hb hr hts hown hml hlk hnm hPre hK ls hl
  have hl : lv_has ls 4 [(0, .ref (a 0)), (1, .int (zI x)), (2, .int (zI t)), (3, .int (zI v))] := hl
  obtain ⟨hMo, hRw⟩ := hPre
  have hS : va_S (AX a 1 2) sS.heap sS.heap [] := va_S.rf
  have hi7 : ∀ w ∈ u_ws RX7 TX7 12, w ∈ wsX7_put := by decide +kernel
  refine lv_aload_n hx hb dX7_put_0 rfl (lv_at hl 0 rfl) ?_
  refine va_get (D := G) (ci := 7) (v := .ref ((sh a 1) 0)) (C := RX7) (T := TX7) (N := 12) hx hb hts hi7 hown hK.1 hMo 0 rfl rfl 0 (by decide) (hts (.fieldLink RX7 7 "SpriteLinesModel" "row" "[I") (by decide +kernel)) (fun _ h9 => h9) rfl dX7_put_1 ?_
  refine z_sipush (n := 209) hx hb dX7_put_4 (by decide) ?_
  refine z_bipush (n := 6) hx hb dX7_put_7 (by decide) ?_
  refine lv_iload_n hx hb dX7_put_9 rfl (lv_at hl 1 rfl) ?_
  refine z_imul hx hb dX7_put_10 ?_
  refine z_iadd hx hb dX7_put_11 ?_
  refine lv_iload_n hx hb dX7_put_12 rfl (lv_at hl 2 rfl) ?_
  refine z_iadd hx hb dX7_put_13 ?_
  refine lv_iload_n hx hb dX7_put_14 rfl (lv_at hl 3 rfl) ?_
  refine z_iast hx hb hK.1 hRw (Ord.D (ordM7 cs a 1 0 361 (aI Y)) inj1) hS 0 0 (F := Y) rfl rfl (by omega) (by decide) ⟨1, by decide, by decide, rfl⟩ dX7_put_15 (fun H locs hP1 hle hk hS => ?_)
  have hMo := keepO (ordMo cs a kq tq nq) hMo hk (fun j hj h3 => absurd (ia j 1 (by omega) (by omega) h3) (by omega))
  have hRw : va_P G vwCl (m7 cs a 1 0 361 (aI (updZ Y ((209 + (6 * x)) + t) v))) H := hP1
  exact v_ret hx hb hr hlk dX7_put_16 hS hRw

set_option maxHeartbeats 4000000 in
set_option maxRecDepth 100000 in
theorem c_X7_pixelOf (l : Launch) (G : va_G) (cs : Nat → ClassId) (a : Nat → Nat) (S : SS) (Y : Int → Int) (kq tq nq : Int) (q r t : Int) (wf : WF S) (rr : RR S Y) (hq : 0 ≤ q ∧ q < S 0 0) (hr0 : 0 ≤ r ∧ r < 8) (ht : 0 ≤ t ∧ t < 8) : MRO l yX7_pixelOf wsX7_pixelOf { frames := 0, cells := 0, slots := 0, locals := 0 } G cs [.ref (a 0), .int (zI q), .int (zI r), .int (zI t)] (fun H => va_P G vwCl (moW cs a kq tq nq) H ∧ va_P G vwCl (m7 cs a 1 0 361 (aI Y)) H) (.int (zI (S 5 (64 * q + (8 * r + t))))) := by
  refine m_intro (Pw := (fun H => va_P G vwCl (moW cs a kq tq nq) H ∧ va_P G vwCl (m7 cs a 1 0 361 (aI Y)) H)) (cc := cX7_pixelOf) (maxL := 4) (ret := some .int) RX7 (by decide) rfl rfl (Nat.le_of_ble_eq_true rfl) ?_
  intro pP eE sS mM below meth cC hx hb hr hts hown hml hlk hnm hPre hK ls hl
  have hl : lv_has ls 4 [(0, .ref (a 0)), (1, .int (zI q)), (2, .int (zI r)), (3, .int (zI t))] := hl
  obtain ⟨hMo, hRw⟩ := hPre
  have hi7 : ∀ w ∈ u_ws RX7 TX7 12, w ∈ wsX7_pixelOf := by decide +kernel
  have wf0 := wf
  obtain ⟨w0, w1, w2, w3, w4, wP, wC, wS, wX⟩ := wf
  refine lv_aload_n hx hb dX7_pixelOf_0 rfl (lv_at hl 0 rfl) ?_
  refine va_get (D := G) (ci := 7) (v := .ref ((sh a 1) 0)) (C := RX7) (T := TX7) (N := 12) hx hb hts hi7 hown hK.1 hMo 0 rfl rfl 0 (by decide) (hts (.fieldLink RX7 7 "SpriteLinesModel" "row" "[I") (by decide +kernel)) (fun _ h9 => h9) rfl dX7_pixelOf_1 ?_
  refine z_iconst (n := 5) hx hb dX7_pixelOf_4 ?_
  refine z_bipush (n := 8) hx hb dX7_pixelOf_5 (by decide) ?_
  refine lv_iload_n hx hb dX7_pixelOf_7 rfl (lv_at hl 1 rfl) ?_
  refine z_imul hx hb dX7_pixelOf_8 ?_
  refine z_iadd hx hb dX7_pixelOf_9 ?_
  refine lv_iload_n hx hb dX7_pixelOf_10 rfl (lv_at hl 2 rfl) ?_
  refine z_iadd hx hb dX7_pixelOf_11 ?_
  refine z_iald hx hb hK.1 hRw 0 0 (F := Y) rfl rfl (by omega) (by decide) dX7_pixelOf_12 ?_
  refine z_top (v' := .int (iB (rowB (S 5) (64 * q + 8 * r)))) (congrArg Value.int (rr.2.1 q r hq.1 hq.2 hr0.1 hr0.2)) ?_
  refine z_iconst (n := 2) hx hb dX7_pixelOf_13 ?_
  refine lv_iload_n hx hb dX7_pixelOf_14 rfl (lv_at hl 3 rfl) ?_
  refine z_imul hx hb dX7_pixelOf_15 ?_
  refine z_ishrB hx hb dX7_pixelOf_16 (by omega) ?_
  refine z_iconst (n := 3) hx hb dX7_pixelOf_17 ?_
  refine lv_iand hx hb dX7_pixelOf_18 ?_
  refine z_top (v' := .int (zI (S 5 (64 * q + (8 * r + t))))) (congrArg Value.int ((pixB ht (wX _ (by omega) (by omega))).trans (congrArg (fun z => zI (S 5 z)) (by omega)))) ?_
  exact ro_iret hx hb hr hlk dX7_pixelOf_19 rfl

set_option maxHeartbeats 4000000 in
set_option maxRecDepth 100000 in
theorem c_X7_putPixel (l : Launch) (G : va_G) (cs : Nat → ClassId) (a : Nat → Nat) (S : SS) (Y : Int → Int) (kq tq nq : Int) (q r t v : Int) (ia : Inj a 10) (wf : WF S) (rr : RR S Y) (hq : 0 ≤ q ∧ q < S 0 0) (hr0 : 0 ≤ r ∧ r < 8) (ht : 0 ≤ t ∧ t < 8) (hv : 0 ≤ v ∧ v ≤ 3) : MV l yX7_putPixel wsX7_putPixel { frames := 0, cells := 0, slots := 0, locals := 0 } G cs [.ref (a 0), .int (zI q), .int (zI r), .int (zI t), .int (zI v)] (fun H => va_P G vwCl (moW cs a kq tq nq) H ∧ va_P G vwCl (m7 cs a 1 0 361 (aI Y)) H) (fun H => va_P G vwCl (m7 cs a 1 0 361 (aI (updZ Y (5 + 8 * q + r) (iB (rowB (updZ (S 5) (64 * q + (8 * r + t)) v) (64 * q + 8 * r))).toInt))) H) (AX a 1 2) 0 0 := by
  refine m_intro (Pw := (fun H => va_P G vwCl (moW cs a kq tq nq) H ∧ va_P G vwCl (m7 cs a 1 0 361 (aI Y)) H)) (cc := cX7_putPixel) (maxL := 6) (ret := none) RX7 (by decide) rfl rfl (Nat.le_of_ble_eq_true rfl) ?_
  intro pP eE sS mM below meth cC hx hb hr hts hown hml hlk hnm hPre hK ls hl
  have hl : lv_has ls 6 [(0, .ref (a 0)), (1, .int (zI q)), (2, .int (zI r)), (3, .int (zI t)), (4, .int (zI v))] := hl
  obtain ⟨hMo, hRw⟩ := hPre
  have hS : va_S (AX a 1 2) sS.heap sS.heap [] := va_S.rf
  have hi7 : ∀ w ∈ u_ws RX7 TX7 12, w ∈ wsX7_putPixel := by decide +kernel
  have wf0 := wf
  obtain ⟨w0, w1, w2, w3, w4, wP, wC, wS, wX⟩ := wf
  refine z_iconst (n := 5) hx hb dX7_putPixel_0 ?_
  refine z_bipush (n := 8) hx hb dX7_putPixel_1 (by decide) ?_
  refine lv_iload_n hx hb dX7_putPixel_3 rfl (lv_at hl 1 rfl) ?_
  refine z_imul hx hb dX7_putPixel_4 ?_
  refine z_iadd hx hb dX7_putPixel_5 ?_
  refine lv_iload_n hx hb dX7_putPixel_6 rfl (lv_at hl 2 rfl) ?_
  refine z_iadd hx hb dX7_putPixel_7 ?_
  refine lv_istore (lv' := [(5, .int (zI ((5 + (8 * q)) + r))), (0, .ref (a 0)), (1, .int (zI q)), (2, .int (zI r)), (3, .int (zI t)), (4, .int (zI v))]) hx hb dX7_putPixel_8 hl (by decide) rfl (fun ls hl => ?_)
  refine lv_aload_n hx hb dX7_putPixel_10 rfl (lv_at hl 1 rfl) ?_
  refine va_get (D := G) (ci := 7) (v := .ref ((sh a 1) 0)) (C := RX7) (T := TX7) (N := 12) hx hb hts hi7 hown hK.1 hMo 0 rfl rfl 0 (by decide) (hts (.fieldLink RX7 7 "SpriteLinesModel" "row" "[I") (by decide +kernel)) (fun _ h9 => h9) rfl dX7_putPixel_11 ?_
  refine lv_iload hx hb dX7_putPixel_14 (lv_at hl 0 rfl) ?_
  refine lv_aload_n hx hb dX7_putPixel_16 rfl (lv_at hl 1 rfl) ?_
  refine va_get (D := G) (ci := 7) (v := .ref ((sh a 1) 0)) (C := RX7) (T := TX7) (N := 12) hx hb hts hi7 hown hK.1 hMo 0 rfl rfl 0 (by decide) (hts (.fieldLink RX7 7 "SpriteLinesModel" "row" "[I") (by decide +kernel)) (fun _ h9 => h9) rfl dX7_putPixel_17 ?_
  refine lv_iload hx hb dX7_putPixel_20 (lv_at hl 0 rfl) ?_
  refine z_iald hx hb hK.1 hRw 0 0 (F := Y) rfl rfl (by omega) (by decide) dX7_putPixel_22 ?_
  refine z_top (v' := .int (iB (rowB (S 5) (64 * q + 8 * r)))) (congrArg Value.int (rr.2.1 q r hq.1 hq.2 hr0.1 hr0.2)) ?_
  refine z_iconst (n := 3) hx hb dX7_putPixel_23 ?_
  refine z_top (v' := .int (iB (fun k => decide (k < 2)))) (congrArg Value.int zI_3B) ?_
  refine z_iconst (n := 2) hx hb dX7_putPixel_24 ?_
  refine lv_iload_n hx hb dX7_putPixel_25 rfl (lv_at hl 4 rfl) ?_
  refine z_imul hx hb dX7_putPixel_26 ?_
  refine z_ishlB hx hb dX7_putPixel_27 (by omega) ?_
  refine z_iconst (n := -1) hx hb dX7_putPixel_28 ?_
  refine lv_ixor hx hb dX7_putPixel_29 ?_
  refine z_top (v' := .int (iB (fun k => !(decide ((2 * t).toNat ≤ k) && decide (k - (2 * t).toNat < 2))))) (congrArg Value.int (iB_nt _)) ?_
  refine z_iandB hx hb dX7_putPixel_30 ?_
  refine lv_iload hx hb dX7_putPixel_31 (lv_at hl 5 rfl) ?_
  refine z_top (v' := .int (iB (fun k => if k = 0 then decide (v % 2 = 1) else if k = 1 then decide (v / 2 % 2 = 1) else false))) (congrArg Value.int (zI_pix hv)) ?_
  refine z_iconst (n := 2) hx hb dX7_putPixel_33 ?_
  refine lv_iload_n hx hb dX7_putPixel_34 rfl (lv_at hl 4 rfl) ?_
  refine z_imul hx hb dX7_putPixel_35 ?_
  refine z_ishlB hx hb dX7_putPixel_36 (by omega) ?_
  refine z_iorB hx hb dX7_putPixel_37 ?_
  refine z_top (v' := .int (zI ((iB (rowB (updZ (S 5) (64 * q + (8 * r + t)) v) (64 * q + 8 * r))).toInt))) (congrArg Value.int ((iB_congr (fun k _ => (putB (X := S 5) (b := 64 * q + 8 * r) (v := v) ht).trans (by rw [show 64 * q + 8 * r + t = 64 * q + (8 * r + t) by omega]))).trans (zI_of _))) ?_
  refine z_iast hx hb hK.1 hRw (Ord.D (ordM7 cs a 1 0 361 (aI Y)) inj1) hS 0 0 (F := Y) rfl rfl (by omega) (by decide) ⟨1, by decide, by decide, rfl⟩ dX7_putPixel_38 (fun H locs hP1 hle hk hS => ?_)
  have hMo := keepO (ordMo cs a kq tq nq) hMo hk (fun j hj h3 => absurd (ia j 1 (by omega) (by omega) h3) (by omega))
  have hRw : va_P G vwCl (m7 cs a 1 0 361 (aI (updZ Y ((5 + (8 * q)) + r) ((iB (rowB (updZ (S 5) (64 * q + (8 * r + t)) v) (64 * q + 8 * r))).toInt)))) H := hP1
  exact v_ret hx hb hr hlk dX7_putPixel_39 hS hRw

set_option maxHeartbeats 4000000 in
set_option maxRecDepth 100000 in
theorem c_X7_flipped (l : Launch) (G : va_G) (cs : Nat → ClassId) (a : Nat → Nat) (S : SS) (Y : Int → Int) (kq tq nq : Int) (q w r t : Int) (wf : WF S) (rr : RR S Y) (hq : 0 ≤ q ∧ q < S 0 0) (hw : 0 ≤ w ∧ w ≤ 3) (hr0 : 0 ≤ r ∧ r < 8) (ht : 0 ≤ t ∧ t < 8) : MRO l yX7_flipped wsX7_flipped { frames := 1, cells := 0, slots := 0, locals := 23 } G cs [.ref (a 0), .int (zI q), .int (zI w), .int (zI r), .int (zI t)] (fun H => va_P G vwCl (moW cs a kq tq nq) H ∧ va_P G vwCl (m7 cs a 1 0 361 (aI Y)) H) (.int (zI (pixW S q w r t))) := by
  refine m_intro (Pw := (fun H => va_P G vwCl (moW cs a kq tq nq) H ∧ va_P G vwCl (m7 cs a 1 0 361 (aI Y)) H)) (cc := cX7_flipped) (maxL := 5) (ret := some .int) RX7 (by decide) rfl rfl (Nat.le_of_ble_eq_true rfl) ?_
  intro pP eE sS mM below meth cC hx hb hr hts hown hml hlk hnm hPre hK ls hl
  have hl : lv_has ls 5 [(0, .ref (a 0)), (1, .int (zI q)), (2, .int (zI w)), (3, .int (zI r)), (4, .int (zI t))] := hl
  obtain ⟨hMo, hRw⟩ := hPre
  have wf0 := wf
  obtain ⟨w0, w1, w2, w3, w4, wP, wC, wS, wX⟩ := wf
  refine lv_aload_n hx hb dX7_flipped_0 rfl (lv_at hl 0 rfl) ?_
  refine lv_iload_n hx hb dX7_flipped_1 rfl (lv_at hl 1 rfl) ?_
  refine lv_iload_n hx hb dX7_flipped_2 rfl (lv_at hl 2 rfl) ?_
  refine z_iconst (n := 1) hx hb dX7_flipped_3 ?_
  refine z_icmp_le (tgt := 14) hx hb dX7_flipped_4 (by decide) (by omega) (by omega) (fun c1 => ?_) (fun c1 => ?_)
  · skip
    refine lv_iload_n hx hb dX7_flipped_14 rfl (lv_at hl 3 rfl) ?_
    refine lv_iload_n hx hb dX7_flipped_15 rfl (lv_at hl 2 rfl) ?_
    refine z_iconst (n := 2) hx hb dX7_flipped_16 ?_
    refine z_irem hx hb dX7_flipped_17 (by omega) (by omega) ?_
    refine z_iconst (n := 1) hx hb dX7_flipped_18 ?_
    refine z_icmp_ne (tgt := 30) hx hb dX7_flipped_19 (by decide) (by omega) (by omega) (fun c2 => ?_) (fun c2 => ?_)
    · skip
      refine lv_iload hx hb dX7_flipped_30 (lv_at hl 4 rfl) ?_
      refine z_ro (zrV (As := [.int (zI q), .int (zI r), .int (zI t)]) (rest := []) (Pw := fun H => va_P G vwCl (moW cs a kq tq nq) H ∧ va_P G vwCl (m7 cs a 1 0 361 (aI Y)) H) ⟨hx, hb, hml, hown, hts⟩ (c_X7_pixelOf l G cs a S Y kq tq nq q r t wf0 rr (by omega) (by omega) (by omega)) gX7_flipped_X7_pixelOf rfl qX7_pixelOf rfl rfl ⟨Nat.le_of_ble_eq_true rfl, Nat.le_of_ble_eq_true rfl⟩ ⟨hMo, hRw⟩ hK (va_recv hK.1 hMo (ci := 7) (q0 := 0) rfl rfl) hl.1 rfl (Nat.le_of_ble_eq_true rfl) dX7_flipped_32 ⟨Nat.le_of_ble_eq_true rfl, Nat.le_of_ble_eq_true rfl⟩) ?_
      exact ro_iret hx hb hr hlk dX7_flipped_35 (congrArg (fun z => Value.int (zI z)) (by unfold pixW; rw [if_neg (show ¬ w / 2 % 2 = 1 by omega), if_neg (show ¬ w % 2 = 1 by omega)]))
    · skip
      refine z_bipush (n := 7) hx hb dX7_flipped_22 (by decide) ?_
      refine lv_iload hx hb dX7_flipped_24 (lv_at hl 4 rfl) ?_
      refine z_isub hx hb dX7_flipped_26 ?_
      refine lv_goto (tgt := 32) hx hb dX7_flipped_27 (by decide) ?_
      refine z_ro (zrV (As := [.int (zI q), .int (zI r), .int (zI (7 - t))]) (rest := []) (Pw := fun H => va_P G vwCl (moW cs a kq tq nq) H ∧ va_P G vwCl (m7 cs a 1 0 361 (aI Y)) H) ⟨hx, hb, hml, hown, hts⟩ (c_X7_pixelOf l G cs a S Y kq tq nq q r (7 - t) wf0 rr (by omega) (by omega) (by omega)) gX7_flipped_X7_pixelOf rfl qX7_pixelOf rfl rfl ⟨Nat.le_of_ble_eq_true rfl, Nat.le_of_ble_eq_true rfl⟩ ⟨hMo, hRw⟩ hK (va_recv hK.1 hMo (ci := 7) (q0 := 0) rfl rfl) hl.1 rfl (Nat.le_of_ble_eq_true rfl) dX7_flipped_32 ⟨Nat.le_of_ble_eq_true rfl, Nat.le_of_ble_eq_true rfl⟩) ?_
      exact ro_iret hx hb hr hlk dX7_flipped_35 (congrArg (fun z => Value.int (zI z)) (by unfold pixW; rw [if_neg (show ¬ w / 2 % 2 = 1 by omega), if_pos (show w % 2 = 1 by omega)]))
  · skip
    refine z_bipush (n := 7) hx hb dX7_flipped_7 (by decide) ?_
    refine lv_iload_n hx hb dX7_flipped_9 rfl (lv_at hl 3 rfl) ?_
    refine z_isub hx hb dX7_flipped_10 ?_
    refine lv_goto (tgt := 15) hx hb dX7_flipped_11 (by decide) ?_
    refine lv_iload_n hx hb dX7_flipped_15 rfl (lv_at hl 2 rfl) ?_
    refine z_iconst (n := 2) hx hb dX7_flipped_16 ?_
    refine z_irem hx hb dX7_flipped_17 (by omega) (by omega) ?_
    refine z_iconst (n := 1) hx hb dX7_flipped_18 ?_
    refine z_icmp_ne (tgt := 30) hx hb dX7_flipped_19 (by decide) (by omega) (by omega) (fun c3 => ?_) (fun c3 => ?_)
    · skip
      refine lv_iload hx hb dX7_flipped_30 (lv_at hl 4 rfl) ?_
      refine z_ro (zrV (As := [.int (zI q), .int (zI (7 - r)), .int (zI t)]) (rest := []) (Pw := fun H => va_P G vwCl (moW cs a kq tq nq) H ∧ va_P G vwCl (m7 cs a 1 0 361 (aI Y)) H) ⟨hx, hb, hml, hown, hts⟩ (c_X7_pixelOf l G cs a S Y kq tq nq q (7 - r) t wf0 rr (by omega) (by omega) (by omega)) gX7_flipped_X7_pixelOf rfl qX7_pixelOf rfl rfl ⟨Nat.le_of_ble_eq_true rfl, Nat.le_of_ble_eq_true rfl⟩ ⟨hMo, hRw⟩ hK (va_recv hK.1 hMo (ci := 7) (q0 := 0) rfl rfl) hl.1 rfl (Nat.le_of_ble_eq_true rfl) dX7_flipped_32 ⟨Nat.le_of_ble_eq_true rfl, Nat.le_of_ble_eq_true rfl⟩) ?_
      exact ro_iret hx hb hr hlk dX7_flipped_35 (congrArg (fun z => Value.int (zI z)) (by unfold pixW; rw [if_pos (show w / 2 % 2 = 1 by omega), if_neg (show ¬ w % 2 = 1 by omega)]))
    · skip
      refine z_bipush (n := 7) hx hb dX7_flipped_22 (by decide) ?_
      refine lv_iload hx hb dX7_flipped_24 (lv_at hl 4 rfl) ?_
      refine z_isub hx hb dX7_flipped_26 ?_
      refine lv_goto (tgt := 32) hx hb dX7_flipped_27 (by decide) ?_
      refine z_ro (zrV (As := [.int (zI q), .int (zI (7 - r)), .int (zI (7 - t))]) (rest := []) (Pw := fun H => va_P G vwCl (moW cs a kq tq nq) H ∧ va_P G vwCl (m7 cs a 1 0 361 (aI Y)) H) ⟨hx, hb, hml, hown, hts⟩ (c_X7_pixelOf l G cs a S Y kq tq nq q (7 - r) (7 - t) wf0 rr (by omega) (by omega) (by omega)) gX7_flipped_X7_pixelOf rfl qX7_pixelOf rfl rfl ⟨Nat.le_of_ble_eq_true rfl, Nat.le_of_ble_eq_true rfl⟩ ⟨hMo, hRw⟩ hK (va_recv hK.1 hMo (ci := 7) (q0 := 0) rfl rfl) hl.1 rfl (Nat.le_of_ble_eq_true rfl) dX7_flipped_32 ⟨Nat.le_of_ble_eq_true rfl, Nat.le_of_ble_eq_true rfl⟩) ?_
      exact ro_iret hx hb hr hlk dX7_flipped_35 (congrArg (fun z => Value.int (zI z)) (by unfold pixW; rw [if_pos (show w / 2 % 2 = 1 by omega), if_pos (show w % 2 = 1 by omega)]))

set_option maxHeartbeats 4000000 in
set_option maxRecDepth 100000 in
theorem c_X7_isAlike (l : Launch) (G : va_G) (cs : Nat → ClassId) (a : Nat → Nat) (S : SS) (Y : Int → Int) (kq tq nq : Int) (q v p w : Int) (wf : WF S) (rr : RR S Y) (hq : 0 ≤ q ∧ q < S 0 0) (hv : 0 ≤ v ∧ v ≤ 3) (hp : 0 ≤ p ∧ p < S 0 0) (hw : 0 ≤ w ∧ w ≤ 3) : MRO l yX7_isAlike wsX7_isAlike { frames := 2, cells := 0, slots := 0, locals := 47 } G cs [.ref (a 0), .int (zI q), .int (zI v), .int (zI p), .int (zI w)] (fun H => va_P G vwCl (moW cs a kq tq nq) H ∧ va_P G vwCl (m7 cs a 1 0 361 (aI Y)) H) (.int (zI (b2 (sameP S q v p w)))) := by
  refine m_intro (Pw := (fun H => va_P G vwCl (moW cs a kq tq nq) H ∧ va_P G vwCl (m7 cs a 1 0 361 (aI Y)) H)) (cc := cX7_isAlike) (maxL := 7) (ret := some .boolean) RX7 (by decide) rfl rfl (Nat.le_of_ble_eq_true rfl) ?_
  intro pP eE sS mM below meth cC hx hb hr hts hown hml hlk hnm hPre hK ls hl
  have hl : lv_has ls 7 [(0, .ref (a 0)), (1, .int (zI q)), (2, .int (zI v)), (3, .int (zI p)), (4, .int (zI w))] := hl
  obtain ⟨hMo, hRw⟩ := hPre
  have wf0 := wf
  obtain ⟨w0, w1, w2, w3, w4, wP, wC, wS, wX⟩ := wf
  refine z_iconst (n := 1) hx hb dX7_isAlike_0 ?_
  refine lv_istore (lv' := [(5, .int (zI 1)), (0, .ref (a 0)), (1, .int (zI q)), (2, .int (zI v)), (3, .int (zI p)), (4, .int (zI w))]) hx hb dX7_isAlike_1 hl (by decide) rfl (fun ls hl => ?_)
  refine z_iconst (n := 0) hx hb dX7_isAlike_3 ?_
  refine lv_istore (lv' := [(6, .int (zI 0)), (5, .int (zI 1)), (0, .ref (a 0)), (1, .int (zI q)), (2, .int (zI v)), (3, .int (zI p)), (4, .int (zI w))]) hx hb dX7_isAlike_4 hl (by decide) rfl (fun ls hl => ?_)
  -- loop 6
  refine z_loop (nL := 7) (fun (i : Int) => [(0, .ref (a 0)), (1, .int (zI q)), (2, .int (zI v)), (3, .int (zI p)), (4, .int (zI w)), (5, .int (zI (b2 (allN (fun k => decide (pixW S q v (k / 8) (k % 8) = pixW S p w (k / 8) (k % 8))) i.toNat)))), (6, .int (zI i))]) (fun (i : Int) => 0 ≤ i ∧ i ≤ 64) (fun (i : Int) => (64 - i).toNat) 0 (by omega) (lv_sub hl [2, 3, 4, 5, 6, 1, 0] rfl) (fun i hI ih ls hl => ?_)
  have hl : lv_has ls 7 [(0, .ref (a 0)), (1, .int (zI q)), (2, .int (zI v)), (3, .int (zI p)), (4, .int (zI w)), (5, .int (zI (b2 (allN (fun k => decide (pixW S q v (k / 8) (k % 8) = pixW S p w (k / 8) (k % 8))) i.toNat)))), (6, .int (zI i))] := hl
  refine lv_iload hx hb dX7_isAlike_6 (lv_at hl 6 rfl) ?_
  refine z_bipush (n := 64) hx hb dX7_isAlike_8 (by decide) ?_
  refine z_icmp_ge (tgt := 67) hx hb dX7_isAlike_10 (by decide) (by omega) (by omega) (fun c1 => ?_) (fun c1 => ?_)
  · skip
    refine lv_iload hx hb dX7_isAlike_67 (lv_at hl 5 rfl) ?_
    exact ro_zret hx hb hr hlk dX7_isAlike_69 (by have := b2_r (allN (fun k => decide (pixW S q v (k / 8) (k % 8) = pixW S p w (k / 8) (k % 8))) i.toNat); omega) (by rw [show i = 64 by omega]; rfl)
  · skip
    refine lv_iload hx hb dX7_isAlike_13 (lv_at hl 5 rfl) ?_
    refine z_bif_eq (tgt := 58) hx hb dX7_isAlike_15 (by decide) (fun c1 => ?_) (fun c1 => ?_)
    · skip
      refine z_iconst (n := 0) hx hb dX7_isAlike_58 ?_
      refine lv_istore (lv' := [(5, .int (zI 0)), (0, .ref (a 0)), (1, .int (zI q)), (2, .int (zI v)), (3, .int (zI p)), (4, .int (zI w)), (6, .int (zI i))]) hx hb dX7_isAlike_59 hl (by decide) rfl (fun ls hl => ?_)
      refine z_iinc (k := 6) (lv' := [(6, .int (zI (i + 1))), (5, .int (zI 0)), (0, .ref (a 0)), (1, .int (zI q)), (2, .int (zI v)), (3, .int (zI p)), (4, .int (zI w))]) hx hb dX7_isAlike_61 hl rfl (by decide) rfl (fun ls hl => ?_)
      refine lv_goto (tgt := 6) hx hb dX7_isAlike_64 (by decide) ?_
      have e9 : (0 : Int) = b2 (allN (fun k => decide (pixW S q v (k / 8) (k % 8) = pixW S p w (k / 8) (k % 8))) (i + 1).toNat) := (b2_f (all_z (f := fun k => decide (pixW S q v (k / 8) (k % 8) = pixW S p w (k / 8) (k % 8))) hI.1 (Or.inl c1))).symm
      exact ih (i + 1) (by omega) (by omega) ls (by show lv_has ls 7 [(0, .ref (a 0)), (1, .int (zI q)), (2, .int (zI v)), (3, .int (zI p)), (4, .int (zI w)), (5, .int (zI (b2 (allN (fun k => decide (pixW S q v (k / 8) (k % 8) = pixW S p w (k / 8) (k % 8))) (i + 1).toNat)))), (6, .int (zI (i + 1)))]; rw [← e9]; exact lv_sub hl [2, 3, 4, 5, 6, 1, 0] rfl)
    · skip
      refine lv_aload_n hx hb dX7_isAlike_18 rfl (lv_at hl 0 rfl) ?_
      refine lv_iload_n hx hb dX7_isAlike_19 rfl (lv_at hl 1 rfl) ?_
      refine lv_iload_n hx hb dX7_isAlike_20 rfl (lv_at hl 2 rfl) ?_
      refine lv_iload hx hb dX7_isAlike_21 (lv_at hl 6 rfl) ?_
      refine z_bipush (n := 8) hx hb dX7_isAlike_23 (by decide) ?_
      refine z_idiv hx hb dX7_isAlike_25 (by omega) (by omega) ?_
      refine lv_iload hx hb dX7_isAlike_26 (lv_at hl 6 rfl) ?_
      refine z_bipush (n := 8) hx hb dX7_isAlike_28 (by decide) ?_
      refine z_irem hx hb dX7_isAlike_30 (by omega) (by omega) ?_
      refine z_ro (zrV (As := [.int (zI q), .int (zI v), .int (zI (i / 8)), .int (zI (i % 8))]) (rest := []) (Pw := fun H => va_P G vwCl (moW cs a kq tq nq) H ∧ va_P G vwCl (m7 cs a 1 0 361 (aI Y)) H) ⟨hx, hb, hml, hown, hts⟩ (c_X7_flipped l G cs a S Y kq tq nq q v (i / 8) (i % 8) wf0 rr (by omega) (by omega) (by omega) (by omega)) gX7_isAlike_X7_flipped rfl qX7_flipped rfl rfl ⟨Nat.le_of_ble_eq_true rfl, Nat.le_of_ble_eq_true rfl⟩ ⟨hMo, hRw⟩ hK (va_recv hK.1 hMo (ci := 7) (q0 := 0) rfl rfl) hl.1 rfl (Nat.le_of_ble_eq_true rfl) dX7_isAlike_31 ⟨Nat.le_of_ble_eq_true rfl, Nat.le_of_ble_eq_true rfl⟩) ?_
      refine lv_aload_n hx hb dX7_isAlike_34 rfl (lv_at hl 0 rfl) ?_
      refine lv_iload_n hx hb dX7_isAlike_35 rfl (lv_at hl 3 rfl) ?_
      refine lv_iload hx hb dX7_isAlike_36 (lv_at hl 4 rfl) ?_
      refine lv_iload hx hb dX7_isAlike_38 (lv_at hl 6 rfl) ?_
      refine z_bipush (n := 8) hx hb dX7_isAlike_40 (by decide) ?_
      refine z_idiv hx hb dX7_isAlike_42 (by omega) (by omega) ?_
      refine lv_iload hx hb dX7_isAlike_43 (lv_at hl 6 rfl) ?_
      refine z_bipush (n := 8) hx hb dX7_isAlike_45 (by decide) ?_
      refine z_irem hx hb dX7_isAlike_47 (by omega) (by omega) ?_
      refine z_ro (zrV (As := [.int (zI p), .int (zI w), .int (zI (i / 8)), .int (zI (i % 8))]) (rest := [.int (zI (pixW S q v (i / 8) (i % 8)))]) (Pw := fun H => va_P G vwCl (moW cs a kq tq nq) H ∧ va_P G vwCl (m7 cs a 1 0 361 (aI Y)) H) ⟨hx, hb, hml, hown, hts⟩ (c_X7_flipped l G cs a S Y kq tq nq p w (i / 8) (i % 8) wf0 rr (by omega) (by omega) (by omega) (by omega)) gX7_isAlike_X7_flipped rfl qX7_flipped rfl rfl ⟨Nat.le_of_ble_eq_true rfl, Nat.le_of_ble_eq_true rfl⟩ ⟨hMo, hRw⟩ hK (va_recv hK.1 hMo (ci := 7) (q0 := 0) rfl rfl) hl.1 rfl (Nat.le_of_ble_eq_true rfl) dX7_isAlike_48 ⟨Nat.le_of_ble_eq_true rfl, Nat.le_of_ble_eq_true rfl⟩) ?_
      refine z_icmp_ne (tgt := 58) hx hb dX7_isAlike_51 (by decide) (by have := pixW_r wX (p := q) (w := v) (r := i / 8) (c := i % 8) (by omega) (by omega) (by omega); omega) (by have := pixW_r wX (p := p) (w := w) (r := i / 8) (c := i % 8) (by omega) (by omega) (by omega); omega) (fun c2 => ?_) (fun c2 => ?_)
      · skip
        refine z_iconst (n := 0) hx hb dX7_isAlike_58 ?_
        refine lv_istore (lv' := [(5, .int (zI 0)), (0, .ref (a 0)), (1, .int (zI q)), (2, .int (zI v)), (3, .int (zI p)), (4, .int (zI w)), (6, .int (zI i))]) hx hb dX7_isAlike_59 hl (by decide) rfl (fun ls hl => ?_)
        refine z_iinc (k := 6) (lv' := [(6, .int (zI (i + 1))), (5, .int (zI 0)), (0, .ref (a 0)), (1, .int (zI q)), (2, .int (zI v)), (3, .int (zI p)), (4, .int (zI w))]) hx hb dX7_isAlike_61 hl rfl (by decide) rfl (fun ls hl => ?_)
        refine lv_goto (tgt := 6) hx hb dX7_isAlike_64 (by decide) ?_
        have e9 : (0 : Int) = b2 (allN (fun k => decide (pixW S q v (k / 8) (k % 8) = pixW S p w (k / 8) (k % 8))) (i + 1).toNat) := (b2_f (all_z (f := fun k => decide (pixW S q v (k / 8) (k % 8) = pixW S p w (k / 8) (k % 8))) hI.1 (Or.inr (decide_eq_false c2)))).symm
        exact ih (i + 1) (by omega) (by omega) ls (by show lv_has ls 7 [(0, .ref (a 0)), (1, .int (zI q)), (2, .int (zI v)), (3, .int (zI p)), (4, .int (zI w)), (5, .int (zI (b2 (allN (fun k => decide (pixW S q v (k / 8) (k % 8) = pixW S p w (k / 8) (k % 8))) (i + 1).toNat)))), (6, .int (zI (i + 1)))]; rw [← e9]; exact lv_sub hl [2, 3, 4, 5, 6, 1, 0] rfl)
      · skip
        refine z_iconst (n := 1) hx hb dX7_isAlike_54 ?_
        refine lv_goto (tgt := 59) hx hb dX7_isAlike_55 (by decide) ?_
        refine lv_istore (lv' := [(5, .int (zI 1)), (0, .ref (a 0)), (1, .int (zI q)), (2, .int (zI v)), (3, .int (zI p)), (4, .int (zI w)), (6, .int (zI i))]) hx hb dX7_isAlike_59 hl (by decide) rfl (fun ls hl => ?_)
        refine z_iinc (k := 6) (lv' := [(6, .int (zI (i + 1))), (5, .int (zI 1)), (0, .ref (a 0)), (1, .int (zI q)), (2, .int (zI v)), (3, .int (zI p)), (4, .int (zI w))]) hx hb dX7_isAlike_61 hl rfl (by decide) rfl (fun ls hl => ?_)
        refine lv_goto (tgt := 6) hx hb dX7_isAlike_64 (by decide) ?_
        have e9 : (1 : Int) = b2 (allN (fun k => decide (pixW S q v (k / 8) (k % 8) = pixW S p w (k / 8) (k % 8))) (i + 1).toNat) := (b2_t (all_t (f := fun k => decide (pixW S q v (k / 8) (k % 8) = pixW S p w (k / 8) (k % 8))) hI.1 c1 (decide_eq_true c2))).symm
        exact ih (i + 1) (by omega) (by omega) ls (by show lv_has ls 7 [(0, .ref (a 0)), (1, .int (zI q)), (2, .int (zI v)), (3, .int (zI p)), (4, .int (zI w)), (5, .int (zI (b2 (allN (fun k => decide (pixW S q v (k / 8) (k % 8) = pixW S p w (k / 8) (k % 8))) (i + 1).toNat)))), (6, .int (zI (i + 1)))]; rw [← e9]; exact lv_sub hl [2, 3, 4, 5, 6, 1, 0] rfl)

set_option maxHeartbeats 4000000 in
set_option maxRecDepth 100000 in
theorem c_X7_flipFor (l : Launch) (G : va_G) (cs : Nat → ClassId) (a : Nat → Nat) (S : SS) (Y : Int → Int) (kq tq nq : Int) (p q w : Int) (wf : WF S) (rr : RR S Y) (hp : 0 ≤ p ∧ p < S 0 0) (hq : 0 ≤ q ∧ q < S 0 0) (hw : 0 ≤ w ∧ w ≤ 3) : MRO l yX7_flipFor wsX7_flipFor { frames := 3, cells := 0, slots := 0, locals := 73 } G cs [.ref (a 0), .int (zI p), .int (zI q), .int (zI w)] (fun H => va_P G vwCl (moW cs a kq tq nq) H ∧ va_P G vwCl (m7 cs a 1 0 361 (aI Y)) H) (.int (zI (wayF S q w p))) := by
  refine m_intro (Pw := (fun H => va_P G vwCl (moW cs a kq tq nq) H ∧ va_P G vwCl (m7 cs a 1 0 361 (aI Y)) H)) (cc := cX7_flipFor) (maxL := 5) (ret := some .int) RX7 (by decide) rfl rfl (Nat.le_of_ble_eq_true rfl) ?_
  intro pP eE sS mM below meth cC hx hb hr hts hown hml hlk hnm hPre hK ls hl
  have hl : lv_has ls 5 [(0, .ref (a 0)), (1, .int (zI p)), (2, .int (zI q)), (3, .int (zI w))] := hl
  obtain ⟨hMo, hRw⟩ := hPre
  have wf0 := wf
  obtain ⟨w0, w1, w2, w3, w4, wP, wC, wS, wX⟩ := wf
  refine z_iconst (n := 0) hx hb dX7_flipFor_0 ?_
  refine lv_istore (lv' := [(4, .int (zI 0)), (0, .ref (a 0)), (1, .int (zI p)), (2, .int (zI q)), (3, .int (zI w))]) hx hb dX7_flipFor_1 hl (by decide) rfl (fun ls hl => ?_)
  -- loop 3
  refine z_loop (nL := 5) (fun (i : Int) => [(0, .ref (a 0)), (1, .int (zI p)), (2, .int (zI q)), (3, .int (zI w)), (4, .int (zI i))]) (fun (i : Int) => (0 ≤ i ∧ i ≤ 4) ∧ ∀ j, 0 ≤ j → j < i → sameP S p j q w = false) (fun (i : Int) => (4 - i).toNat) 0 ⟨by omega, fun j h1 h2 => by omega⟩ (lv_sub hl [1, 2, 3, 4, 0] rfl) (fun i hI ih ls hl => ?_)
  have hl : lv_has ls 5 [(0, .ref (a 0)), (1, .int (zI p)), (2, .int (zI q)), (3, .int (zI w)), (4, .int (zI i))] := hl
  obtain ⟨hI, hJ⟩ := hI
  refine lv_iload hx hb dX7_flipFor_3 (lv_at hl 4 rfl) ?_
  refine z_iconst (n := 4) hx hb dX7_flipFor_5 ?_
  refine z_icmp_ge (tgt := 30) hx hb dX7_flipFor_6 (by decide) (by omega) (by omega) (fun c1 => ?_) (fun c1 => ?_)
  · skip
    refine z_bipush (n := -5) hx hb dX7_flipFor_30 (by decide) ?_
    exact ro_iret hx hb hr hlk dX7_flipFor_32 (congrArg (fun z => Value.int (zI z)) (by exact (ff_none (f := fun v => sameP S p v q w) (fun j h1 h2 => hJ j h1 (by omega))).symm))
  · skip
    refine lv_aload_n hx hb dX7_flipFor_9 rfl (lv_at hl 0 rfl) ?_
    refine lv_iload_n hx hb dX7_flipFor_10 rfl (lv_at hl 1 rfl) ?_
    refine lv_iload hx hb dX7_flipFor_11 (lv_at hl 4 rfl) ?_
    refine lv_iload_n hx hb dX7_flipFor_13 rfl (lv_at hl 2 rfl) ?_
    refine lv_iload_n hx hb dX7_flipFor_14 rfl (lv_at hl 3 rfl) ?_
    refine z_ro (zrV (As := [.int (zI p), .int (zI i), .int (zI q), .int (zI w)]) (rest := []) (Pw := fun H => va_P G vwCl (moW cs a kq tq nq) H ∧ va_P G vwCl (m7 cs a 1 0 361 (aI Y)) H) ⟨hx, hb, hml, hown, hts⟩ (c_X7_isAlike l G cs a S Y kq tq nq p i q w wf0 rr (by omega) (by omega) (by omega) (by omega)) gX7_flipFor_X7_isAlike rfl qX7_isAlike rfl rfl ⟨Nat.le_of_ble_eq_true rfl, Nat.le_of_ble_eq_true rfl⟩ ⟨hMo, hRw⟩ hK (va_recv hK.1 hMo (ci := 7) (q0 := 0) rfl rfl) hl.1 rfl (Nat.le_of_ble_eq_true rfl) dX7_flipFor_15 ⟨Nat.le_of_ble_eq_true rfl, Nat.le_of_ble_eq_true rfl⟩) ?_
    refine z_bif_eq (tgt := 24) hx hb dX7_flipFor_18 (by decide) (fun c2 => ?_) (fun c2 => ?_)
    · skip
      refine z_iinc (k := 4) (lv' := [(4, .int (zI (i + 1))), (0, .ref (a 0)), (1, .int (zI p)), (2, .int (zI q)), (3, .int (zI w))]) hx hb dX7_flipFor_24 hl rfl (by decide) rfl (fun ls hl => ?_)
      refine lv_goto (tgt := 3) hx hb dX7_flipFor_27 (by decide) ?_
      exact ih (i + 1) ⟨by omega, fun j q1 q2 => by
      by_cases e : j = i
      · subst e; exact c2
      · exact hJ j q1 (by omega)⟩ (by omega) ls (lv_sub hl [1, 2, 3, 4, 0] rfl)
    · skip
      refine lv_iload hx hb dX7_flipFor_21 (lv_at hl 4 rfl) ?_
      exact ro_iret hx hb hr hlk dX7_flipFor_23 (congrArg (fun z => Value.int (zI z)) (by exact (ff_hit (f := fun v => sameP S p v q w) i (fun j h1 h2 => hJ j h1 h2) hI.1 (by omega) c2).symm))

set_option maxHeartbeats 4000000 in
set_option maxRecDepth 100000 in
theorem c_X7_shownBy (l : Launch) (G : va_G) (cs : Nat → ClassId) (a : Nat → Nat) (S : SS) (Y : Int → Int) (kq tq nq : Int) (q : Int) (wf : WF S) (rr : RR S Y) (hq : 0 ≤ q ∧ q < 24) : MRO l yX7_shownBy wsX7_shownBy { frames := 1, cells := 0, slots := 0, locals := 22 } G cs [.ref (a 0), .int (zI q)] (fun H => va_P G vwCl (moW cs a kq tq nq) H ∧ va_P G vwCl (m7 cs a 1 0 361 (aI Y)) H) (.int (zI (cntI (fun x => decide (S 1 (6 * x + 0) = q)) (S 0 1)))) := by
  refine m_intro (Pw := (fun H => va_P G vwCl (moW cs a kq tq nq) H ∧ va_P G vwCl (m7 cs a 1 0 361 (aI Y)) H)) (cc := cX7_shownBy) (maxL := 4) (ret := some .int) RX7 (by decide) rfl rfl (Nat.le_of_ble_eq_true rfl) ?_
  intro pP eE sS mM below meth cC hx hb hr hts hown hml hlk hnm hPre hK ls hl
  have hl : lv_has ls 4 [(0, .ref (a 0)), (1, .int (zI q))] := hl
  obtain ⟨hMo, hRw⟩ := hPre
  have wf0 := wf
  obtain ⟨w0, w1, w2, w3, w4, wP, wC, wS, wX⟩ := wf
  refine z_iconst (n := 0) hx hb dX7_shownBy_0 ?_
  refine lv_istore_n (lv' := [(2, .int (zI 0)), (0, .ref (a 0)), (1, .int (zI q))]) hx hb dX7_shownBy_1 rfl hl (by decide) rfl (fun ls hl => ?_)
  refine z_iconst (n := 0) hx hb dX7_shownBy_2 ?_
  refine lv_istore_n (lv' := [(3, .int (zI 0)), (2, .int (zI 0)), (0, .ref (a 0)), (1, .int (zI q))]) hx hb dX7_shownBy_3 rfl hl (by decide) rfl (fun ls hl => ?_)
  -- loop 4
  refine z_loop (nL := 4) (fun (i : Int) => [(0, .ref (a 0)), (1, .int (zI q)), (2, .int (zI (cntI (fun x => decide (S 1 (6 * x + 0) = q)) i))), (3, .int (zI i))]) (fun (i : Int) => 0 ≤ i ∧ i ≤ S 0 1) (fun (i : Int) => (S 0 1 - i).toNat) 0 (by omega) (lv_sub hl [2, 3, 1, 0] rfl) (fun i hI ih ls hl => ?_)
  have hl : lv_has ls 4 [(0, .ref (a 0)), (1, .int (zI q)), (2, .int (zI (cntI (fun x => decide (S 1 (6 * x + 0) = q)) i))), (3, .int (zI i))] := hl
  have hc := cntI_r (fun x => decide (S 1 (6 * x + 0) = q)) hI.1
  refine lv_iload_n hx hb dX7_shownBy_4 rfl (lv_at hl 3 rfl) ?_
  refine lv_aload_n hx hb dX7_shownBy_5 rfl (lv_at hl 0 rfl) ?_
  refine z_ro (zrV (As := []) (rest := [.int (zI i)]) (Pw := fun H => va_P G vwCl (moW cs a kq tq nq) H ∧ va_P G vwCl (m7 cs a 1 0 361 (aI Y)) H) ⟨hx, hb, hml, hown, hts⟩ (c_X7_sprites l G cs a S Y kq tq nq rr) gX7_shownBy_X7_sprites rfl qX7_sprites rfl rfl ⟨Nat.le_of_ble_eq_true rfl, Nat.le_of_ble_eq_true rfl⟩ ⟨hMo, hRw⟩ hK (va_recv hK.1 hMo (ci := 7) (q0 := 0) rfl rfl) hl.1 rfl (Nat.le_of_ble_eq_true rfl) dX7_shownBy_6 ⟨Nat.le_of_ble_eq_true rfl, Nat.le_of_ble_eq_true rfl⟩) ?_
  refine z_icmp_ge (tgt := 36) hx hb dX7_shownBy_9 (by decide) (by omega) (by omega) (fun c1 => ?_) (fun c1 => ?_)
  · skip
    refine lv_iload_n hx hb dX7_shownBy_36 rfl (lv_at hl 2 rfl) ?_
    exact ro_iret hx hb hr hlk dX7_shownBy_37 (congrArg (fun z => Value.int (zI z)) (by rw [show i = S 0 1 by omega]))
  · skip
    refine lv_iload_n hx hb dX7_shownBy_12 rfl (lv_at hl 2 rfl) ?_
    refine lv_aload_n hx hb dX7_shownBy_13 rfl (lv_at hl 0 rfl) ?_
    refine lv_iload_n hx hb dX7_shownBy_14 rfl (lv_at hl 3 rfl) ?_
    refine z_iconst (n := 0) hx hb dX7_shownBy_15 ?_
    refine z_ro (zrV (As := [.int (zI i), .int (zI 0)]) (rest := [.int (zI (cntI (fun x => decide (S 1 (6 * x + 0) = q)) i))]) (Pw := fun H => va_P G vwCl (moW cs a kq tq nq) H ∧ va_P G vwCl (m7 cs a 1 0 361 (aI Y)) H) ⟨hx, hb, hml, hown, hts⟩ (c_X7_of l G cs a S Y kq tq nq i 0 wf0 rr (by omega) (by omega)) gX7_shownBy_X7_of rfl qX7_of rfl rfl ⟨Nat.le_of_ble_eq_true rfl, Nat.le_of_ble_eq_true rfl⟩ ⟨hMo, hRw⟩ hK (va_recv hK.1 hMo (ci := 7) (q0 := 0) rfl rfl) hl.1 rfl (Nat.le_of_ble_eq_true rfl) dX7_shownBy_16 ⟨Nat.le_of_ble_eq_true rfl, Nat.le_of_ble_eq_true rfl⟩) ?_
    refine lv_iload_n hx hb dX7_shownBy_19 rfl (lv_at hl 1 rfl) ?_
    refine z_icmp_ne (tgt := 27) hx hb dX7_shownBy_20 (by decide) (by have := wP i hI.1 (by omega); omega) (by omega) (fun c2 => ?_) (fun c2 => ?_)
    · skip
      refine z_iconst (n := 0) hx hb dX7_shownBy_27 ?_
      refine z_iadd hx hb dX7_shownBy_28 ?_
      refine lv_istore_n (lv' := [(2, .int (zI ((cntI (fun x => decide (S 1 (6 * x + 0) = q)) i) + 0))), (0, .ref (a 0)), (1, .int (zI q)), (3, .int (zI i))]) hx hb dX7_shownBy_29 rfl hl (by decide) rfl (fun ls hl => ?_)
      refine z_iinc (k := 3) (lv' := [(3, .int (zI (i + 1))), (2, .int (zI ((cntI (fun x => decide (S 1 (6 * x + 0) = q)) i) + 0))), (0, .ref (a 0)), (1, .int (zI q))]) hx hb dX7_shownBy_30 hl rfl (by decide) rfl (fun ls hl => ?_)
      refine lv_goto (tgt := 4) hx hb dX7_shownBy_33 (by decide) ?_
      exact ih (i + 1) (by omega) (by omega) ls (by show lv_has ls 4 [(0, .ref (a 0)), (1, .int (zI q)), (2, .int (zI (cntI (fun x => decide (S 1 (6 * x + 0) = q)) (i + 1)))), (3, .int (zI (i + 1)))]; rw [cntI_z (f := fun x => decide (S 1 (6 * x + 0) = q)) hI.1 (decide_eq_false c2)]; exact lv_sub hl [2, 3, 1, 0] rfl)
    · skip
      refine z_iconst (n := 1) hx hb dX7_shownBy_23 ?_
      refine lv_goto (tgt := 28) hx hb dX7_shownBy_24 (by decide) ?_
      refine z_iadd hx hb dX7_shownBy_28 ?_
      refine lv_istore_n (lv' := [(2, .int (zI ((cntI (fun x => decide (S 1 (6 * x + 0) = q)) i) + 1))), (0, .ref (a 0)), (1, .int (zI q)), (3, .int (zI i))]) hx hb dX7_shownBy_29 rfl hl (by decide) rfl (fun ls hl => ?_)
      refine z_iinc (k := 3) (lv' := [(3, .int (zI (i + 1))), (2, .int (zI ((cntI (fun x => decide (S 1 (6 * x + 0) = q)) i) + 1))), (0, .ref (a 0)), (1, .int (zI q))]) hx hb dX7_shownBy_30 hl rfl (by decide) rfl (fun ls hl => ?_)
      refine lv_goto (tgt := 4) hx hb dX7_shownBy_33 (by decide) ?_
      exact ih (i + 1) (by omega) (by omega) ls (by show lv_has ls 4 [(0, .ref (a 0)), (1, .int (zI q)), (2, .int (zI (cntI (fun x => decide (S 1 (6 * x + 0) = q)) (i + 1)))), (3, .int (zI (i + 1)))]; rw [cntI_t (f := fun x => decide (S 1 (6 * x + 0) = q)) hI.1 (decide_eq_true c2)]; exact lv_sub hl [2, 3, 1, 0] rfl)

set_option maxHeartbeats 4000000 in
set_option maxRecDepth 100000 in
theorem c_X7_isOver (l : Launch) (G : va_G) (cs : Nat → ClassId) (a : Nat → Nat) (S : SS) (Y : Int → Int) (kq tq nq : Int) (x q : Int) (wf : WF S) (rr : RR S Y) (hx0 : 0 ≤ x ∧ x < S 0 1) (hq : 0 ≤ q ∧ q < 32) : MRO l yX7_isOver wsX7_isOver { frames := 1, cells := 0, slots := 0, locals := 22 } G cs [.ref (a 0), .int (zI x), .int (zI q)] (fun H => va_P G vwCl (moW cs a kq tq nq) H ∧ va_P G vwCl (m7 cs a 1 0 361 (aI Y)) H) (.int (zI (b2 (isOver S x q)))) := by
  refine m_intro (Pw := (fun H => va_P G vwCl (moW cs a kq tq nq) H ∧ va_P G vwCl (m7 cs a 1 0 361 (aI Y)) H)) (cc := cX7_isOver) (maxL := 3) (ret := some .boolean) RX7 (by decide) rfl rfl (Nat.le_of_ble_eq_true rfl) ?_
  intro pP eE sS mM below meth cC hx hb hr hts hown hml hlk hnm hPre hK ls hl
  have hl : lv_has ls 3 [(0, .ref (a 0)), (1, .int (zI x)), (2, .int (zI q))] := hl
  obtain ⟨hMo, hRw⟩ := hPre
  have wf0 := wf
  obtain ⟨w0, w1, w2, w3, w4, wP, wC, wS, wX⟩ := wf
  have q1 := wP x hx0.1 hx0.2
  refine lv_iload_n hx hb dX7_isOver_0 rfl (lv_at hl 2 rfl) ?_
  refine lv_aload_n hx hb dX7_isOver_1 rfl (lv_at hl 0 rfl) ?_
  refine lv_iload_n hx hb dX7_isOver_2 rfl (lv_at hl 1 rfl) ?_
  refine z_iconst (n := 5) hx hb dX7_isOver_3 ?_
  refine z_ro (zrV (As := [.int (zI x), .int (zI 5)]) (rest := [.int (zI q)]) (Pw := fun H => va_P G vwCl (moW cs a kq tq nq) H ∧ va_P G vwCl (m7 cs a 1 0 361 (aI Y)) H) ⟨hx, hb, hml, hown, hts⟩ (c_X7_of l G cs a S Y kq tq nq x 5 wf0 rr (by omega) (by omega)) gX7_isOver_X7_of rfl qX7_of rfl rfl ⟨Nat.le_of_ble_eq_true rfl, Nat.le_of_ble_eq_true rfl⟩ ⟨hMo, hRw⟩ hK (va_recv hK.1 hMo (ci := 7) (q0 := 0) rfl rfl) hl.1 rfl (Nat.le_of_ble_eq_true rfl) dX7_isOver_4 ⟨Nat.le_of_ble_eq_true rfl, Nat.le_of_ble_eq_true rfl⟩) ?_
  refine z_isub hx hb dX7_isOver_7 ?_
  refine z_iconst (n := 0) hx hb dX7_isOver_8 ?_
  refine z_bipush (n := 7) hx hb dX7_isOver_9 (by decide) ?_
  refine z_ro (zrS (As := [.int (zI (q - (S 1 (6 * x + 5)))), .int (zI 0), .int (zI 7)]) (rest := []) (Pw := fun _ => True) ⟨hx, hb, hml, hown, hts⟩ (c_X7_in l G cs (q - (S 1 (6 * x + 5))) 0 7 (by omega) (by omega) (by omega)) gX7_isOver_X7_in rfl qX7_in rfl rfl ⟨Nat.le_of_ble_eq_true rfl, Nat.le_of_ble_eq_true rfl⟩ trivial hK hl.1 rfl (Nat.le_of_ble_eq_true rfl) dX7_isOver_11 ⟨Nat.le_of_ble_eq_true rfl, Nat.le_of_ble_eq_true rfl⟩) ?_
  exact ro_zret hx hb hr hlk dX7_isOver_14 (by first | omega | (have := b2_r (decide (0 ≤ (q - (S 1 (6 * x + 5))) ∧ (q - (S 1 (6 * x + 5))) ≤ 7)); omega)) rfl

set_option maxHeartbeats 4000000 in
set_option maxRecDepth 100000 in
theorem c_X7_linesOf (l : Launch) (G : va_G) (cs : Nat → ClassId) (a : Nat → Nat) (S : SS) (Y : Int → Int) (kq tq nq : Int) (x : Int) (wf : WF S) (rr : RR S Y) (hx0 : 0 ≤ x ∧ x < S 0 1) : MRO l yX7_linesOf wsX7_linesOf { frames := 2, cells := 0, slots := 0, locals := 44 } G cs [.ref (a 0), .int (zI x)] (fun H => va_P G vwCl (moW cs a kq tq nq) H ∧ va_P G vwCl (m7 cs a 1 0 361 (aI Y)) H) (.int (zI (cntI (isOver S x) 32))) := by
  refine m_intro (Pw := (fun H => va_P G vwCl (moW cs a kq tq nq) H ∧ va_P G vwCl (m7 cs a 1 0 361 (aI Y)) H)) (cc := cX7_linesOf) (maxL := 4) (ret := some .int) RX7 (by decide) rfl rfl (Nat.le_of_ble_eq_true rfl) ?_
  intro pP eE sS mM below meth cC hx hb hr hts hown hml hlk hnm hPre hK ls hl
  have hl : lv_has ls 4 [(0, .ref (a 0)), (1, .int (zI x))] := hl
  obtain ⟨hMo, hRw⟩ := hPre
  have wf0 := wf
  obtain ⟨w0, w1, w2, w3, w4, wP, wC, wS, wX⟩ := wf
  refine z_iconst (n := 0) hx hb dX7_linesOf_0 ?_
  refine lv_istore_n (lv' := [(2, .int (zI 0)), (0, .ref (a 0)), (1, .int (zI x))]) hx hb dX7_linesOf_1 rfl hl (by decide) rfl (fun ls hl => ?_)
  refine z_iconst (n := 0) hx hb dX7_linesOf_2 ?_
  refine lv_istore_n (lv' := [(3, .int (zI 0)), (2, .int (zI 0)), (0, .ref (a 0)), (1, .int (zI x))]) hx hb dX7_linesOf_3 rfl hl (by decide) rfl (fun ls hl => ?_)
  -- loop 4
  refine z_loop (nL := 4) (fun (i : Int) => [(0, .ref (a 0)), (1, .int (zI x)), (2, .int (zI (cntI (isOver S x) i))), (3, .int (zI i))]) (fun (i : Int) => 0 ≤ i ∧ i ≤ 32) (fun (i : Int) => (32 - i).toNat) 0 (by omega) (lv_sub hl [2, 3, 1, 0] rfl) (fun i hI ih ls hl => ?_)
  have hl : lv_has ls 4 [(0, .ref (a 0)), (1, .int (zI x)), (2, .int (zI (cntI (isOver S x) i))), (3, .int (zI i))] := hl
  have hc := cntI_r (isOver S x) hI.1
  refine lv_iload_n hx hb dX7_linesOf_4 rfl (lv_at hl 3 rfl) ?_
  refine z_bipush (n := 32) hx hb dX7_linesOf_5 (by decide) ?_
  refine z_icmp_ge (tgt := 33) hx hb dX7_linesOf_7 (by decide) (by omega) (by omega) (fun c1 => ?_) (fun c1 => ?_)
  · skip
    refine lv_iload_n hx hb dX7_linesOf_33 rfl (lv_at hl 2 rfl) ?_
    exact ro_iret hx hb hr hlk dX7_linesOf_34 (congrArg (fun z => Value.int (zI z)) (by rw [show i = 32 by omega]))
  · skip
    refine lv_iload_n hx hb dX7_linesOf_10 rfl (lv_at hl 2 rfl) ?_
    refine lv_aload_n hx hb dX7_linesOf_11 rfl (lv_at hl 0 rfl) ?_
    refine lv_iload_n hx hb dX7_linesOf_12 rfl (lv_at hl 1 rfl) ?_
    refine lv_iload_n hx hb dX7_linesOf_13 rfl (lv_at hl 3 rfl) ?_
    refine z_ro (zrV (As := [.int (zI x), .int (zI i)]) (rest := [.int (zI (cntI (isOver S x) i))]) (Pw := fun H => va_P G vwCl (moW cs a kq tq nq) H ∧ va_P G vwCl (m7 cs a 1 0 361 (aI Y)) H) ⟨hx, hb, hml, hown, hts⟩ (c_X7_isOver l G cs a S Y kq tq nq x i wf0 rr (by omega) (by omega)) gX7_linesOf_X7_isOver rfl qX7_isOver rfl rfl ⟨Nat.le_of_ble_eq_true rfl, Nat.le_of_ble_eq_true rfl⟩ ⟨hMo, hRw⟩ hK (va_recv hK.1 hMo (ci := 7) (q0 := 0) rfl rfl) hl.1 rfl (Nat.le_of_ble_eq_true rfl) dX7_linesOf_14 ⟨Nat.le_of_ble_eq_true rfl, Nat.le_of_ble_eq_true rfl⟩) ?_
    refine z_bif_eq (tgt := 24) hx hb dX7_linesOf_17 (by decide) (fun c2 => ?_) (fun c2 => ?_)
    · skip
      refine z_iconst (n := 0) hx hb dX7_linesOf_24 ?_
      refine z_iadd hx hb dX7_linesOf_25 ?_
      refine lv_istore_n (lv' := [(2, .int (zI ((cntI (isOver S x) i) + 0))), (0, .ref (a 0)), (1, .int (zI x)), (3, .int (zI i))]) hx hb dX7_linesOf_26 rfl hl (by decide) rfl (fun ls hl => ?_)
      refine z_iinc (k := 3) (lv' := [(3, .int (zI (i + 1))), (2, .int (zI ((cntI (isOver S x) i) + 0))), (0, .ref (a 0)), (1, .int (zI x))]) hx hb dX7_linesOf_27 hl rfl (by decide) rfl (fun ls hl => ?_)
      refine lv_goto (tgt := 4) hx hb dX7_linesOf_30 (by decide) ?_
      exact ih (i + 1) (by omega) (by omega) ls (by show lv_has ls 4 [(0, .ref (a 0)), (1, .int (zI x)), (2, .int (zI (cntI (isOver S x) (i + 1)))), (3, .int (zI (i + 1)))]; rw [cntI_z (f := isOver S x) hI.1 c2]; exact lv_sub hl [2, 3, 1, 0] rfl)
    · skip
      refine z_iconst (n := 1) hx hb dX7_linesOf_20 ?_
      refine lv_goto (tgt := 25) hx hb dX7_linesOf_21 (by decide) ?_
      refine z_iadd hx hb dX7_linesOf_25 ?_
      refine lv_istore_n (lv' := [(2, .int (zI ((cntI (isOver S x) i) + 1))), (0, .ref (a 0)), (1, .int (zI x)), (3, .int (zI i))]) hx hb dX7_linesOf_26 rfl hl (by decide) rfl (fun ls hl => ?_)
      refine z_iinc (k := 3) (lv' := [(3, .int (zI (i + 1))), (2, .int (zI ((cntI (isOver S x) i) + 1))), (0, .ref (a 0)), (1, .int (zI x))]) hx hb dX7_linesOf_27 hl rfl (by decide) rfl (fun ls hl => ?_)
      refine lv_goto (tgt := 4) hx hb dX7_linesOf_30 (by decide) ?_
      exact ih (i + 1) (by omega) (by omega) ls (by show lv_has ls 4 [(0, .ref (a 0)), (1, .int (zI x)), (2, .int (zI (cntI (isOver S x) (i + 1)))), (3, .int (zI (i + 1)))]; rw [cntI_t (f := isOver S x) hI.1 c2]; exact lv_sub hl [2, 3, 1, 0] rfl)

set_option maxHeartbeats 4000000 in
set_option maxRecDepth 100000 in
theorem c_X7_isWanted (l : Launch) (G : va_G) (cs : Nat → ClassId) (a : Nat → Nat) (S : SS) (Y : Int → Int) (kq tq nq : Int) (q x : Int) (wf : WF S) (rr : RR S Y) (hx0 : 0 ≤ x ∧ x < S 0 1) (hq : 0 ≤ q ∧ q < 32) : MRO l yX7_isWanted wsX7_isWanted { frames := 2, cells := 0, slots := 0, locals := 44 } G cs [.ref (a 0), .int (zI q), .int (zI x)] (fun H => va_P G vwCl (moW cs a kq tq nq) H ∧ va_P G vwCl (m7 cs a 1 0 361 (aI Y)) H) (.int (zI (b2 (isW S q x)))) := by
  refine m_intro (Pw := (fun H => va_P G vwCl (moW cs a kq tq nq) H ∧ va_P G vwCl (m7 cs a 1 0 361 (aI Y)) H)) (cc := cX7_isWanted) (maxL := 3) (ret := some .boolean) RX7 (by decide) rfl rfl (Nat.le_of_ble_eq_true rfl) ?_
  intro pP eE sS mM below meth cC hx hb hr hts hown hml hlk hnm hPre hK ls hl
  have hl : lv_has ls 3 [(0, .ref (a 0)), (1, .int (zI q)), (2, .int (zI x))] := hl
  obtain ⟨hMo, hRw⟩ := hPre
  have wf0 := wf
  obtain ⟨w0, w1, w2, w3, w4, wP, wC, wS, wX⟩ := wf
  have q1 := wP x hx0.1 hx0.2
  refine lv_aload_n hx hb dX7_isWanted_0 rfl (lv_at hl 0 rfl) ?_
  refine lv_iload_n hx hb dX7_isWanted_1 rfl (lv_at hl 2 rfl) ?_
  refine z_iconst (n := 3) hx hb dX7_isWanted_2 ?_
  refine z_ro (zrV (As := [.int (zI x), .int (zI 3)]) (rest := []) (Pw := fun H => va_P G vwCl (moW cs a kq tq nq) H ∧ va_P G vwCl (m7 cs a 1 0 361 (aI Y)) H) ⟨hx, hb, hml, hown, hts⟩ (c_X7_of l G cs a S Y kq tq nq x 3 wf0 rr (by omega) (by omega)) gX7_isWanted_X7_of rfl qX7_of rfl rfl ⟨Nat.le_of_ble_eq_true rfl, Nat.le_of_ble_eq_true rfl⟩ ⟨hMo, hRw⟩ hK (va_recv hK.1 hMo (ci := 7) (q0 := 0) rfl rfl) hl.1 rfl (Nat.le_of_ble_eq_true rfl) dX7_isWanted_3 ⟨Nat.le_of_ble_eq_true rfl, Nat.le_of_ble_eq_true rfl⟩) ?_
  refine z_iconst (n := 1) hx hb dX7_isWanted_6 ?_
  refine z_icmp_ne (tgt := 23) hx hb dX7_isWanted_7 (by decide) (by omega) (by omega) (fun c1 => ?_) (fun c1 => ?_)
  · skip
    refine z_iconst (n := 0) hx hb dX7_isWanted_23 ?_
    exact ro_zret hx hb hr hlk dX7_isWanted_24 (by omega) (congrArg (fun z => Value.int (zI z)) (b2_f (by unfold isW; rw [decide_eq_false c1]; rfl)).symm)
  · skip
    refine lv_aload_n hx hb dX7_isWanted_10 rfl (lv_at hl 0 rfl) ?_
    refine lv_iload_n hx hb dX7_isWanted_11 rfl (lv_at hl 2 rfl) ?_
    refine lv_iload_n hx hb dX7_isWanted_12 rfl (lv_at hl 1 rfl) ?_
    refine z_ro (zrV (As := [.int (zI x), .int (zI q)]) (rest := []) (Pw := fun H => va_P G vwCl (moW cs a kq tq nq) H ∧ va_P G vwCl (m7 cs a 1 0 361 (aI Y)) H) ⟨hx, hb, hml, hown, hts⟩ (c_X7_isOver l G cs a S Y kq tq nq x q wf0 rr (by omega) (by omega)) gX7_isWanted_X7_isOver rfl qX7_isOver rfl rfl ⟨Nat.le_of_ble_eq_true rfl, Nat.le_of_ble_eq_true rfl⟩ ⟨hMo, hRw⟩ hK (va_recv hK.1 hMo (ci := 7) (q0 := 0) rfl rfl) hl.1 rfl (Nat.le_of_ble_eq_true rfl) dX7_isWanted_13 ⟨Nat.le_of_ble_eq_true rfl, Nat.le_of_ble_eq_true rfl⟩) ?_
    refine z_bif_eq (tgt := 23) hx hb dX7_isWanted_16 (by decide) (fun c2 => ?_) (fun c2 => ?_)
    · skip
      refine z_iconst (n := 0) hx hb dX7_isWanted_23 ?_
      exact ro_zret hx hb hr hlk dX7_isWanted_24 (by omega) (congrArg (fun z => Value.int (zI z)) (b2_f (by unfold isW; rw [c2, Bool.and_false])).symm)
    · skip
      refine z_iconst (n := 1) hx hb dX7_isWanted_19 ?_
      refine lv_goto (tgt := 24) hx hb dX7_isWanted_20 (by decide) ?_
      exact ro_zret hx hb hr hlk dX7_isWanted_24 (by omega) (congrArg (fun z => Value.int (zI z)) (b2_t (by unfold isW; rw [decide_eq_true c1, c2]; rfl)).symm)

set_option maxHeartbeats 4000000 in
set_option maxRecDepth 100000 in
theorem c_X7_wanted (l : Launch) (G : va_G) (cs : Nat → ClassId) (a : Nat → Nat) (S : SS) (Y : Int → Int) (kq tq nq : Int) (q : Int) (wf : WF S) (rr : RR S Y) (hq : 0 ≤ q ∧ q < 32) : MRO l yX7_wanted wsX7_wanted { frames := 3, cells := 0, slots := 0, locals := 66 } G cs [.ref (a 0), .int (zI q)] (fun H => va_P G vwCl (moW cs a kq tq nq) H ∧ va_P G vwCl (m7 cs a 1 0 361 (aI Y)) H) (.int (zI (cntI (isW S q) (S 0 1)))) := by
  refine m_intro (Pw := (fun H => va_P G vwCl (moW cs a kq tq nq) H ∧ va_P G vwCl (m7 cs a 1 0 361 (aI Y)) H)) (cc := cX7_wanted) (maxL := 4) (ret := some .int) RX7 (by decide) rfl rfl (Nat.le_of_ble_eq_true rfl) ?_
  intro pP eE sS mM below meth cC hx hb hr hts hown hml hlk hnm hPre hK ls hl
  have hl : lv_has ls 4 [(0, .ref (a 0)), (1, .int (zI q))] := hl
  obtain ⟨hMo, hRw⟩ := hPre
  have wf0 := wf
  obtain ⟨w0, w1, w2, w3, w4, wP, wC, wS, wX⟩ := wf
  refine z_iconst (n := 0) hx hb dX7_wanted_0 ?_
  refine lv_istore_n (lv' := [(2, .int (zI 0)), (0, .ref (a 0)), (1, .int (zI q))]) hx hb dX7_wanted_1 rfl hl (by decide) rfl (fun ls hl => ?_)
  refine z_iconst (n := 0) hx hb dX7_wanted_2 ?_
  refine lv_istore_n (lv' := [(3, .int (zI 0)), (2, .int (zI 0)), (0, .ref (a 0)), (1, .int (zI q))]) hx hb dX7_wanted_3 rfl hl (by decide) rfl (fun ls hl => ?_)
  -- loop 4
  refine z_loop (nL := 4) (fun (i : Int) => [(0, .ref (a 0)), (1, .int (zI q)), (2, .int (zI (cntI (isW S q) i))), (3, .int (zI i))]) (fun (i : Int) => 0 ≤ i ∧ i ≤ S 0 1) (fun (i : Int) => (S 0 1 - i).toNat) 0 (by omega) (lv_sub hl [2, 3, 1, 0] rfl) (fun i hI ih ls hl => ?_)
  have hl : lv_has ls 4 [(0, .ref (a 0)), (1, .int (zI q)), (2, .int (zI (cntI (isW S q) i))), (3, .int (zI i))] := hl
  have hc := cntI_r (isW S q) hI.1
  refine lv_iload_n hx hb dX7_wanted_4 rfl (lv_at hl 3 rfl) ?_
  refine lv_aload_n hx hb dX7_wanted_5 rfl (lv_at hl 0 rfl) ?_
  refine z_ro (zrV (As := []) (rest := [.int (zI i)]) (Pw := fun H => va_P G vwCl (moW cs a kq tq nq) H ∧ va_P G vwCl (m7 cs a 1 0 361 (aI Y)) H) ⟨hx, hb, hml, hown, hts⟩ (c_X7_sprites l G cs a S Y kq tq nq rr) gX7_wanted_X7_sprites rfl qX7_sprites rfl rfl ⟨Nat.le_of_ble_eq_true rfl, Nat.le_of_ble_eq_true rfl⟩ ⟨hMo, hRw⟩ hK (va_recv hK.1 hMo (ci := 7) (q0 := 0) rfl rfl) hl.1 rfl (Nat.le_of_ble_eq_true rfl) dX7_wanted_6 ⟨Nat.le_of_ble_eq_true rfl, Nat.le_of_ble_eq_true rfl⟩) ?_
  refine z_icmp_ge (tgt := 35) hx hb dX7_wanted_9 (by decide) (by omega) (by omega) (fun c1 => ?_) (fun c1 => ?_)
  · skip
    refine lv_iload_n hx hb dX7_wanted_35 rfl (lv_at hl 2 rfl) ?_
    exact ro_iret hx hb hr hlk dX7_wanted_36 (congrArg (fun z => Value.int (zI z)) (by rw [show i = S 0 1 by omega]))
  · skip
    refine lv_iload_n hx hb dX7_wanted_12 rfl (lv_at hl 2 rfl) ?_
    refine lv_aload_n hx hb dX7_wanted_13 rfl (lv_at hl 0 rfl) ?_
    refine lv_iload_n hx hb dX7_wanted_14 rfl (lv_at hl 1 rfl) ?_
    refine lv_iload_n hx hb dX7_wanted_15 rfl (lv_at hl 3 rfl) ?_
    refine z_ro (zrV (As := [.int (zI q), .int (zI i)]) (rest := [.int (zI (cntI (isW S q) i))]) (Pw := fun H => va_P G vwCl (moW cs a kq tq nq) H ∧ va_P G vwCl (m7 cs a 1 0 361 (aI Y)) H) ⟨hx, hb, hml, hown, hts⟩ (c_X7_isWanted l G cs a S Y kq tq nq q i wf0 rr (by omega) (by omega)) gX7_wanted_X7_isWanted rfl qX7_isWanted rfl rfl ⟨Nat.le_of_ble_eq_true rfl, Nat.le_of_ble_eq_true rfl⟩ ⟨hMo, hRw⟩ hK (va_recv hK.1 hMo (ci := 7) (q0 := 0) rfl rfl) hl.1 rfl (Nat.le_of_ble_eq_true rfl) dX7_wanted_16 ⟨Nat.le_of_ble_eq_true rfl, Nat.le_of_ble_eq_true rfl⟩) ?_
    refine z_bif_eq (tgt := 26) hx hb dX7_wanted_19 (by decide) (fun c2 => ?_) (fun c2 => ?_)
    · skip
      refine z_iconst (n := 0) hx hb dX7_wanted_26 ?_
      refine z_iadd hx hb dX7_wanted_27 ?_
      refine lv_istore_n (lv' := [(2, .int (zI ((cntI (isW S q) i) + 0))), (0, .ref (a 0)), (1, .int (zI q)), (3, .int (zI i))]) hx hb dX7_wanted_28 rfl hl (by decide) rfl (fun ls hl => ?_)
      refine z_iinc (k := 3) (lv' := [(3, .int (zI (i + 1))), (2, .int (zI ((cntI (isW S q) i) + 0))), (0, .ref (a 0)), (1, .int (zI q))]) hx hb dX7_wanted_29 hl rfl (by decide) rfl (fun ls hl => ?_)
      refine lv_goto (tgt := 4) hx hb dX7_wanted_32 (by decide) ?_
      exact ih (i + 1) (by omega) (by omega) ls (by show lv_has ls 4 [(0, .ref (a 0)), (1, .int (zI q)), (2, .int (zI (cntI (isW S q) (i + 1)))), (3, .int (zI (i + 1)))]; rw [cntI_z (f := isW S q) hI.1 c2]; exact lv_sub hl [2, 3, 1, 0] rfl)
    · skip
      refine z_iconst (n := 1) hx hb dX7_wanted_22 ?_
      refine lv_goto (tgt := 27) hx hb dX7_wanted_23 (by decide) ?_
      refine z_iadd hx hb dX7_wanted_27 ?_
      refine lv_istore_n (lv' := [(2, .int (zI ((cntI (isW S q) i) + 1))), (0, .ref (a 0)), (1, .int (zI q)), (3, .int (zI i))]) hx hb dX7_wanted_28 rfl hl (by decide) rfl (fun ls hl => ?_)
      refine z_iinc (k := 3) (lv' := [(3, .int (zI (i + 1))), (2, .int (zI ((cntI (isW S q) i) + 1))), (0, .ref (a 0)), (1, .int (zI q))]) hx hb dX7_wanted_29 hl rfl (by decide) rfl (fun ls hl => ?_)
      refine lv_goto (tgt := 4) hx hb dX7_wanted_32 (by decide) ?_
      exact ih (i + 1) (by omega) (by omega) ls (by show lv_has ls 4 [(0, .ref (a 0)), (1, .int (zI q)), (2, .int (zI (cntI (isW S q) (i + 1)))), (3, .int (zI (i + 1)))]; rw [cntI_t (f := isW S q) hI.1 c2]; exact lv_sub hl [2, 3, 1, 0] rfl)

set_option maxHeartbeats 4000000 in
set_option maxRecDepth 100000 in
theorem c_X7_turnOf (l : Launch) (G : va_G) (cs : Nat → ClassId) (a : Nat → Nat) (S : SS) (Y : Int → Int) (kq tq nq : Int) (q x fr : Int) (wf : WF S) (rr : RR S Y) (hx0 : 0 ≤ x ∧ x < S 0 1) (hq : 0 ≤ q ∧ q < 32) (hfr : 0 ≤ fr ∧ fr ≤ 1000020) : MRO l yX7_turnOf wsX7_turnOf { frames := 3, cells := 0, slots := 0, locals := 66 } G cs [.ref (a 0), .int (zI q), .int (zI x), .int (zI fr)] (fun H => va_P G vwCl (moW cs a kq tq nq) H ∧ va_P G vwCl (m7 cs a 1 0 361 (aI Y)) H) (.int (zI (turnOf S q x fr))) := by
  refine m_intro (Pw := (fun H => va_P G vwCl (moW cs a kq tq nq) H ∧ va_P G vwCl (m7 cs a 1 0 361 (aI Y)) H)) (cc := cX7_turnOf) (maxL := 8) (ret := some .int) RX7 (by decide) rfl rfl (Nat.le_of_ble_eq_true rfl) ?_
  intro pP eE sS mM below meth cC hx hb hr hts hown hml hlk hnm hPre hK ls hl
  have hl : lv_has ls 8 [(0, .ref (a 0)), (1, .int (zI q)), (2, .int (zI x)), (3, .int (zI fr))] := hl
  obtain ⟨hMo, hRw⟩ := hPre
  have hi7 : ∀ w ∈ u_ws RX7 TX7 12, w ∈ wsX7_turnOf := by decide +kernel
  have wf0 := wf
  obtain ⟨w0, w1, w2, w3, w4, wP, wC, wS, wX⟩ := wf
  have hf := firstT_r (S := S) (fr := fr) (by omega)
  have hat := atT_of (S := S) (fr := fr) hx0
  refine lv_aload_n hx hb dX7_turnOf_0 rfl (lv_at hl 0 rfl) ?_
  refine lv_iload_n hx hb dX7_turnOf_1 rfl (lv_at hl 1 rfl) ?_
  refine lv_iload_n hx hb dX7_turnOf_2 rfl (lv_at hl 2 rfl) ?_
  refine z_ro (zrV (As := [.int (zI q), .int (zI x)]) (rest := []) (Pw := fun H => va_P G vwCl (moW cs a kq tq nq) H ∧ va_P G vwCl (m7 cs a 1 0 361 (aI Y)) H) ⟨hx, hb, hml, hown, hts⟩ (c_X7_isWanted l G cs a S Y kq tq nq q x wf0 rr (by omega) (by omega)) gX7_turnOf_X7_isWanted rfl qX7_isWanted rfl rfl ⟨Nat.le_of_ble_eq_true rfl, Nat.le_of_ble_eq_true rfl⟩ ⟨hMo, hRw⟩ hK (va_recv hK.1 hMo (ci := 7) (q0 := 0) rfl rfl) hl.1 rfl (Nat.le_of_ble_eq_true rfl) dX7_turnOf_3 ⟨Nat.le_of_ble_eq_true rfl, Nat.le_of_ble_eq_true rfl⟩) ?_
  refine z_bif_ne (tgt := 12) hx hb dX7_turnOf_6 (by decide) (fun cW => ?_) (fun cW => ?_)
  · skip
    refine lv_aload_n hx hb dX7_turnOf_12 rfl (lv_at hl 0 rfl) ?_
    refine z_ro (zrV (As := []) (rest := []) (Pw := fun H => va_P G vwCl (moW cs a kq tq nq) H ∧ va_P G vwCl (m7 cs a 1 0 361 (aI Y)) H) ⟨hx, hb, hml, hown, hts⟩ (c_X7_sprites l G cs a S Y kq tq nq rr) gX7_turnOf_X7_sprites rfl qX7_sprites rfl rfl ⟨Nat.le_of_ble_eq_true rfl, Nat.le_of_ble_eq_true rfl⟩ ⟨hMo, hRw⟩ hK (va_recv hK.1 hMo (ci := 7) (q0 := 0) rfl rfl) hl.1 rfl (Nat.le_of_ble_eq_true rfl) dX7_turnOf_13 ⟨Nat.le_of_ble_eq_true rfl, Nat.le_of_ble_eq_true rfl⟩) ?_
    refine lv_istore (lv' := [(4, .int (zI (S 0 1))), (0, .ref (a 0)), (1, .int (zI q)), (2, .int (zI x)), (3, .int (zI fr))]) hx hb dX7_turnOf_16 hl (by decide) rfl (fun ls hl => ?_)
    refine lv_iload_n hx hb dX7_turnOf_18 rfl (lv_at hl 4 rfl) ?_
    refine lv_aload_n hx hb dX7_turnOf_19 rfl (lv_at hl 1 rfl) ?_
    refine va_get (D := G) (ci := 7) (v := .ref ((sh a 1) 0)) (C := RX7) (T := TX7) (N := 12) hx hb hts hi7 hown hK.1 hMo 0 rfl rfl 0 (by decide) (hts (.fieldLink RX7 7 "SpriteLinesModel" "row" "[I") (by decide +kernel)) (fun _ h9 => h9) rfl dX7_turnOf_20 ?_
    refine z_iconst (n := 3) hx hb dX7_turnOf_23 ?_
    refine z_iald hx hb hK.1 hRw 0 0 (F := Y) rfl rfl (by omega) (by decide) dX7_turnOf_24 ?_
    refine z_topi (b := S 0 3) rr.1.2.2.2.1 ?_
    refine z_imul hx hb dX7_turnOf_25 ?_
    refine lv_iload hx hb dX7_turnOf_26 (lv_at hl 0 rfl) ?_
    refine z_irem hx hb dX7_turnOf_28 (prod_r hfr w3) (by omega) ?_
    refine z_topi (b := firstT S fr) rfl ?_
    refine lv_istore (lv' := [(5, .int (zI (firstT S fr))), (4, .int (zI (S 0 1))), (0, .ref (a 0)), (1, .int (zI q)), (2, .int (zI x)), (3, .int (zI fr))]) hx hb dX7_turnOf_29 hl (by decide) rfl (fun ls hl => ?_)
    refine z_iconst (n := 0) hx hb dX7_turnOf_31 ?_
    refine lv_istore (lv' := [(6, .int (zI 0)), (5, .int (zI (firstT S fr))), (4, .int (zI (S 0 1))), (0, .ref (a 0)), (1, .int (zI q)), (2, .int (zI x)), (3, .int (zI fr))]) hx hb dX7_turnOf_32 hl (by decide) rfl (fun ls hl => ?_)
    refine lv_iload hx hb dX7_turnOf_34 (lv_at hl 1 rfl) ?_
    refine lv_istore (lv' := [(7, .int (zI (firstT S fr))), (6, .int (zI 0)), (5, .int (zI (firstT S fr))), (4, .int (zI (S 0 1))), (0, .ref (a 0)), (1, .int (zI q)), (2, .int (zI x)), (3, .int (zI fr))]) hx hb dX7_turnOf_36 hl (by decide) rfl (fun ls hl => ?_)
    -- loop 38
    refine z_loop (nL := 8) (fun (u : Int) => [(0, .ref (a 0)), (1, .int (zI q)), (2, .int (zI x)), (4, .int (zI (S 0 1))), (5, .int (zI (firstT S fr))), (6, .int (zI (cntI (gT S q fr) u))), (7, .int (zI (firstT S fr + u)))]) (fun (u : Int) => 0 ≤ u ∧ u ≤ (x - firstT S fr) % S 0 1) (fun (u : Int) => ((x - firstT S fr) % S 0 1 - u).toNat) 0 ⟨by omega, hat.1.1⟩ (by show lv_has ls 8 [(0, .ref (a 0)), (1, .int (zI q)), (2, .int (zI x)), (4, .int (zI (S 0 1))), (5, .int (zI (firstT S fr))), (6, .int (zI (cntI (gT S q fr) 0))), (7, .int (zI (firstT S fr + 0)))]; rw [Int.add_zero]; exact lv_sub hl [4, 5, 6, 3, 2, 1, 0] rfl) (fun u hI ih ls hl => ?_)
    have hl : lv_has ls 8 [(0, .ref (a 0)), (1, .int (zI q)), (2, .int (zI x)), (4, .int (zI (S 0 1))), (5, .int (zI (firstT S fr))), (6, .int (zI (cntI (gT S q fr) u))), (7, .int (zI (firstT S fr + u)))] := hl
    have hc := cntI_r (gT S q fr) hI.1
    have hu2 := hat.1.2
    have hur := atT_r (S := S) (fr := fr) u (by omega)
    refine lv_iload hx hb dX7_turnOf_38 (lv_at hl 6 rfl) ?_
    refine lv_iload hx hb dX7_turnOf_40 (lv_at hl 3 rfl) ?_
    refine z_irem hx hb dX7_turnOf_42 (by omega) (by omega) ?_
    refine z_topi (b := atT S fr u) rfl ?_
    refine lv_iload_n hx hb dX7_turnOf_43 rfl (lv_at hl 2 rfl) ?_
    refine z_icmp_eq (tgt := 76) hx hb dX7_turnOf_44 (by decide) (by omega) (by omega) (fun c3 => ?_) (fun c3 => ?_)
    · skip
      have hu : (x - firstT S fr) % S 0 1 = u := by rw [← c3]; exact atT_back (by omega)
      refine lv_iload hx hb dX7_turnOf_76 (lv_at hl 5 rfl) ?_
      refine lv_aload_n hx hb dX7_turnOf_78 rfl (lv_at hl 0 rfl) ?_
      refine va_get (D := G) (ci := 7) (v := .ref ((sh a 1) 0)) (C := RX7) (T := TX7) (N := 12) hx hb hts hi7 hown hK.1 hMo 0 rfl rfl 0 (by decide) (hts (.fieldLink RX7 7 "SpriteLinesModel" "row" "[I") (by decide +kernel)) (fun _ h9 => h9) rfl dX7_turnOf_79 ?_
      refine z_iconst (n := 2) hx hb dX7_turnOf_82 ?_
      refine z_iald hx hb hK.1 hRw 0 0 (F := Y) rfl rfl (by omega) (by decide) dX7_turnOf_83 ?_
      refine z_topi (b := S 0 2) rr.1.2.2.1 ?_
      refine z_icmp_ge (tgt := 92) hx hb dX7_turnOf_84 (by decide) (by omega) (by omega) (fun c1 => ?_) (fun c1 => ?_)
      · skip
        refine z_bipush (n := -5) hx hb dX7_turnOf_92 (by decide) ?_
        exact ro_iret hx hb hr hlk dX7_turnOf_94 (congrArg (fun z => Value.int (zI z)) (by unfold turnOf; rw [hu, if_neg (show ¬ (isW S q x = true ∧ cntI (gT S q fr) u < S 0 2) by rintro ⟨-, h9⟩; omega)]))
      · skip
        refine lv_iload hx hb dX7_turnOf_87 (lv_at hl 5 rfl) ?_
        refine lv_goto (tgt := 94) hx hb dX7_turnOf_89 (by decide) ?_
        exact ro_iret hx hb hr hlk dX7_turnOf_94 (congrArg (fun z => Value.int (zI z)) (by unfold turnOf; rw [hu, if_pos (show isW S q x = true ∧ cntI (gT S q fr) u < S 0 2 from ⟨cW, by omega⟩)]))
    · skip
      have hlt : u < (x - firstT S fr) % S 0 1 := by
        rcases Int.lt_or_le u ((x - firstT S fr) % S 0 1) with h7 | h7
        · exact h7
        · exact absurd (by rw [show u = (x - firstT S fr) % S 0 1 by omega]; exact hat.2) c3
      refine lv_iload hx hb dX7_turnOf_47 (lv_at hl 5 rfl) ?_
      refine lv_aload_n hx hb dX7_turnOf_49 rfl (lv_at hl 0 rfl) ?_
      refine lv_iload_n hx hb dX7_turnOf_50 rfl (lv_at hl 1 rfl) ?_
      refine lv_iload hx hb dX7_turnOf_51 (lv_at hl 6 rfl) ?_
      refine lv_iload hx hb dX7_turnOf_53 (lv_at hl 3 rfl) ?_
      refine z_irem hx hb dX7_turnOf_55 (by omega) (by omega) ?_
      refine z_topi (b := atT S fr u) rfl ?_
      refine z_ro (zrV (As := [.int (zI q), .int (zI (atT S fr u))]) (rest := [.int (zI (cntI (gT S q fr) u))]) (Pw := fun H => va_P G vwCl (moW cs a kq tq nq) H ∧ va_P G vwCl (m7 cs a 1 0 361 (aI Y)) H) ⟨hx, hb, hml, hown, hts⟩ (c_X7_isWanted l G cs a S Y kq tq nq q (atT S fr u) wf0 rr (by omega) (by omega)) gX7_turnOf_X7_isWanted rfl qX7_isWanted rfl rfl ⟨Nat.le_of_ble_eq_true rfl, Nat.le_of_ble_eq_true rfl⟩ ⟨hMo, hRw⟩ hK (va_recv hK.1 hMo (ci := 7) (q0 := 0) rfl rfl) hl.1 rfl (Nat.le_of_ble_eq_true rfl) dX7_turnOf_56 ⟨Nat.le_of_ble_eq_true rfl, Nat.le_of_ble_eq_true rfl⟩) ?_
      refine z_bif_eq (tgt := 66) hx hb dX7_turnOf_59 (by decide) (fun c2 => ?_) (fun c2 => ?_)
      · skip
        refine z_iconst (n := 0) hx hb dX7_turnOf_66 ?_
        refine z_iadd hx hb dX7_turnOf_67 ?_
        refine lv_istore (lv' := [(6, .int (zI ((cntI (gT S q fr) u) + 0))), (0, .ref (a 0)), (1, .int (zI q)), (2, .int (zI x)), (4, .int (zI (S 0 1))), (5, .int (zI (firstT S fr))), (7, .int (zI (firstT S fr + u)))]) hx hb dX7_turnOf_68 hl (by decide) rfl (fun ls hl => ?_)
        refine z_iinc (k := 6) (lv' := [(7, .int (zI ((firstT S fr + u) + 1))), (6, .int (zI ((cntI (gT S q fr) u) + 0))), (0, .ref (a 0)), (1, .int (zI q)), (2, .int (zI x)), (4, .int (zI (S 0 1))), (5, .int (zI (firstT S fr)))]) hx hb dX7_turnOf_70 hl rfl (by decide) rfl (fun ls hl => ?_)
        refine lv_goto (tgt := 38) hx hb dX7_turnOf_73 (by decide) ?_
        exact ih (u + 1) (by omega) (by omega) ls (by show lv_has ls 8 [(0, .ref (a 0)), (1, .int (zI q)), (2, .int (zI x)), (4, .int (zI (S 0 1))), (5, .int (zI (firstT S fr))), (6, .int (zI (cntI (gT S q fr) (u + 1)))), (7, .int (zI (firstT S fr + (u + 1))))]; rw [cntI_z (f := gT S q fr) hI.1 c2, ← Int.add_assoc]; exact lv_sub hl [2, 3, 4, 5, 6, 1, 0] rfl)
      · skip
        refine z_iconst (n := 1) hx hb dX7_turnOf_62 ?_
        refine lv_goto (tgt := 67) hx hb dX7_turnOf_63 (by decide) ?_
        refine z_iadd hx hb dX7_turnOf_67 ?_
        refine lv_istore (lv' := [(6, .int (zI ((cntI (gT S q fr) u) + 1))), (0, .ref (a 0)), (1, .int (zI q)), (2, .int (zI x)), (4, .int (zI (S 0 1))), (5, .int (zI (firstT S fr))), (7, .int (zI (firstT S fr + u)))]) hx hb dX7_turnOf_68 hl (by decide) rfl (fun ls hl => ?_)
        refine z_iinc (k := 6) (lv' := [(7, .int (zI ((firstT S fr + u) + 1))), (6, .int (zI ((cntI (gT S q fr) u) + 1))), (0, .ref (a 0)), (1, .int (zI q)), (2, .int (zI x)), (4, .int (zI (S 0 1))), (5, .int (zI (firstT S fr)))]) hx hb dX7_turnOf_70 hl rfl (by decide) rfl (fun ls hl => ?_)
        refine lv_goto (tgt := 38) hx hb dX7_turnOf_73 (by decide) ?_
        exact ih (u + 1) (by omega) (by omega) ls (by show lv_has ls 8 [(0, .ref (a 0)), (1, .int (zI q)), (2, .int (zI x)), (4, .int (zI (S 0 1))), (5, .int (zI (firstT S fr))), (6, .int (zI (cntI (gT S q fr) (u + 1)))), (7, .int (zI (firstT S fr + (u + 1))))]; rw [cntI_t (f := gT S q fr) hI.1 c2, ← Int.add_assoc]; exact lv_sub hl [2, 3, 4, 5, 6, 1, 0] rfl)
  · skip
    refine z_bipush (n := -5) hx hb dX7_turnOf_9 (by decide) ?_
    exact ro_iret hx hb hr hlk dX7_turnOf_11 (congrArg (fun z => Value.int (zI z)) (by unfold turnOf; rw [if_neg (show ¬ (isW S q x = true ∧ cntI (gT S q fr) ((x - firstT S fr) % S 0 1) < S 0 2) by rintro ⟨h9, -⟩; rw [cW] at h9; cases h9)]))
