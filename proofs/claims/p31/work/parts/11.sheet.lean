set_option maxHeartbeats 4000000 in
set_option maxRecDepth 100000 in
theorem c_X3_lowOf (l : Launch) (G : va_G) (cs : Nat → ClassId) (b : Nat → Nat) (S : SS) (q : Int) (h1 : 0 ≤ q ∧ q < 24) : MRO l yX3_lowOf wsX3_lowOf { frames := 0, cells := 0, slots := 0, locals := 0 } G cs [.ref (b 1), .int (zI q)] (fun H => va_P G vwCl (stW cs b S) H) (.long (lB (bL (S 5) q))) := by
  refine m_intro (Pw := (fun H => va_P G vwCl (stW cs b S) H)) (cc := cX3_lowOf) (maxL := 2) (ret := some .long) RX3 (by decide) rfl rfl (Nat.le_of_ble_eq_true rfl) ?_
  intro pP eE sS mM below meth cC hx hb hr hts hown hml hlk hnm hPre hK ls hl
  have hl : lv_has ls 2 [(0, .ref (b 1)), (1, .int (zI q))] := hl
  have hPs := hPre
  have hi3 : ∀ w ∈ u_ws RX3 TX3 3, w ∈ wsX3_lowOf := by decide +kernel
  refine lv_iload_n hx hb dX3_lowOf_0 rfl (lv_at hl 1 rfl) ?_
  refine z_if_lt (tgt := 22) hx hb dX3_lowOf_1 (by decide) (by omega) (fun c1 => ?_) (fun c1 => ?_)
  · skip
    exfalso; omega
  · skip
    refine lv_iload_n hx hb dX3_lowOf_4 rfl (lv_at hl 1 rfl) ?_
    refine lv_aload_n hx hb dX3_lowOf_5 rfl (lv_at hl 0 rfl) ?_
    refine va_get (D := G) (ci := 3) (v := .ref (b 2)) (C := RX3) (T := TX3) (N := 3) hx hb hts hi3 hown hK.1 hPs 1 rfl rfl 1 (by decide) (hts (.fieldLink RX3 9 "SpriteLines$Sheet" "low" "[J") (by decide +kernel)) (fun _ h9 => h9) rfl dX3_lowOf_6 ?_
    refine z_alen hx hb hK.1 hPs 2 1 rfl rfl dX3_lowOf_9 ?_
    refine z_topi (b := 24) rfl ?_
    refine z_icmp_ge (tgt := 22) hx hb dX3_lowOf_10 (by decide) (by omega) (by omega) (fun c2 => ?_) (fun c2 => ?_)
    · skip
      exfalso; omega
    · skip
      refine lv_aload_n hx hb dX3_lowOf_13 rfl (lv_at hl 0 rfl) ?_
      refine va_get (D := G) (ci := 3) (v := .ref (b 2)) (C := RX3) (T := TX3) (N := 3) hx hb hts hi3 hown hK.1 hPs 1 rfl rfl 1 (by decide) (hts (.fieldLink RX3 9 "SpriteLines$Sheet" "low" "[J") (by decide +kernel)) (fun _ h9 => h9) rfl dX3_lowOf_14 ?_
      refine lv_iload_n hx hb dX3_lowOf_17 rfl (lv_at hl 1 rfl) ?_
      refine va_lald hx hb hK.1 hPs 2 1 (f := pL (S 5)) rfl rfl (zI_in (by omega) (by decide)) dX3_lowOf_18 ?_
      refine z_top (v' := .long (lB (bL (S 5) q))) (congrArg Value.long (pL_at (by omega))) ?_
      refine lv_goto (tgt := 23) hx hb dX3_lowOf_19 (by decide) ?_
      exact ro_lret hx hb hr hlk dX3_lowOf_23 rfl

set_option maxHeartbeats 4000000 in
set_option maxRecDepth 100000 in
theorem c_X3_highOf (l : Launch) (G : va_G) (cs : Nat → ClassId) (b : Nat → Nat) (S : SS) (q : Int) (h1 : 0 ≤ q ∧ q < 24) : MRO l yX3_highOf wsX3_highOf { frames := 0, cells := 0, slots := 0, locals := 0 } G cs [.ref (b 1), .int (zI q)] (fun H => va_P G vwCl (stW cs b S) H) (.long (lB (bH (S 5) q))) := by
  refine m_intro (Pw := (fun H => va_P G vwCl (stW cs b S) H)) (cc := cX3_highOf) (maxL := 2) (ret := some .long) RX3 (by decide) rfl rfl (Nat.le_of_ble_eq_true rfl) ?_
  intro pP eE sS mM below meth cC hx hb hr hts hown hml hlk hnm hPre hK ls hl
  have hl : lv_has ls 2 [(0, .ref (b 1)), (1, .int (zI q))] := hl
  have hPs := hPre
  have hi3 : ∀ w ∈ u_ws RX3 TX3 3, w ∈ wsX3_highOf := by decide +kernel
  refine lv_iload_n hx hb dX3_highOf_0 rfl (lv_at hl 1 rfl) ?_
  refine z_if_lt (tgt := 22) hx hb dX3_highOf_1 (by decide) (by omega) (fun c1 => ?_) (fun c1 => ?_)
  · skip
    exfalso; omega
  · skip
    refine lv_iload_n hx hb dX3_highOf_4 rfl (lv_at hl 1 rfl) ?_
    refine lv_aload_n hx hb dX3_highOf_5 rfl (lv_at hl 0 rfl) ?_
    refine va_get (D := G) (ci := 3) (v := .ref (b 3)) (C := RX3) (T := TX3) (N := 3) hx hb hts hi3 hown hK.1 hPs 1 rfl rfl 2 (by decide) (hts (.fieldLink RX3 15 "SpriteLines$Sheet" "high" "[J") (by decide +kernel)) (fun _ h9 => h9) rfl dX3_highOf_6 ?_
    refine z_alen hx hb hK.1 hPs 3 1 rfl rfl dX3_highOf_9 ?_
    refine z_topi (b := 24) rfl ?_
    refine z_icmp_ge (tgt := 22) hx hb dX3_highOf_10 (by decide) (by omega) (by omega) (fun c2 => ?_) (fun c2 => ?_)
    · skip
      exfalso; omega
    · skip
      refine lv_aload_n hx hb dX3_highOf_13 rfl (lv_at hl 0 rfl) ?_
      refine va_get (D := G) (ci := 3) (v := .ref (b 3)) (C := RX3) (T := TX3) (N := 3) hx hb hts hi3 hown hK.1 hPs 1 rfl rfl 2 (by decide) (hts (.fieldLink RX3 15 "SpriteLines$Sheet" "high" "[J") (by decide +kernel)) (fun _ h9 => h9) rfl dX3_highOf_14 ?_
      refine lv_iload_n hx hb dX3_highOf_17 rfl (lv_at hl 1 rfl) ?_
      refine va_lald hx hb hK.1 hPs 3 1 (f := pH (S 5)) rfl rfl (zI_in (by omega) (by decide)) dX3_highOf_18 ?_
      refine z_top (v' := .long (lB (bH (S 5) q))) (congrArg Value.long (pH_at (by omega))) ?_
      refine lv_goto (tgt := 23) hx hb dX3_highOf_19 (by decide) ?_
      exact ro_lret hx hb hr hlk dX3_highOf_23 rfl

set_option maxHeartbeats 4000000 in
set_option maxRecDepth 100000 in
theorem c_X3_pixelAt (l : Launch) (G : va_G) (cs : Nat → ClassId) (b : Nat → Nat) (S : SS) (q w r c : Int) (wf : WF S) (h1 : 0 ≤ q ∧ q < 24) (h2 : 0 ≤ w ∧ w ≤ 3) (h3 : 0 ≤ r ∧ r < 8) (h4 : 0 ≤ c ∧ c < 8) : MRO l yX3_pixelAt wsX3_pixelAt { frames := 1, cells := 0, slots := 0, locals := 21 } G cs [.ref (b 1), .int (zI q), .int (zI w), .int (zI r), .int (zI c)] (fun H => va_P G vwCl (stW cs b S) H) (.int (zI (pixW S q w r c))) := by
  refine m_intro (Pw := (fun H => va_P G vwCl (stW cs b S) H)) (cc := cX3_pixelAt) (maxL := 6) (ret := some .int) RX3 (by decide) rfl rfl (Nat.le_of_ble_eq_true rfl) ?_
  intro pP eE sS mM below meth cC hx hb hr hts hown hml hlk hnm hPre hK ls hl
  have hl : lv_has ls 6 [(0, .ref (b 1)), (1, .int (zI q)), (2, .int (zI w)), (3, .int (zI r)), (4, .int (zI c))] := hl
  have hPs := hPre
  obtain ⟨w0, w1, w2, w3, w4, wP, wC, wS, wX⟩ := wf
  refine z_bipush (n := 8) hx hb dX3_pixelAt_0 (by decide) ?_
  refine lv_iload_n hx hb dX3_pixelAt_2 rfl (lv_at hl 3 rfl) ?_
  refine z_imul hx hb dX3_pixelAt_3 ?_
  refine lv_iload hx hb dX3_pixelAt_4 (lv_at hl 4 rfl) ?_
  refine z_iadd hx hb dX3_pixelAt_6 ?_
  refine lv_istore (lv' := [(5, .int (zI ((8 * r) + c))), (0, .ref (b 1)), (1, .int (zI q)), (2, .int (zI w)), (3, .int (zI r)), (4, .int (zI c))]) hx hb dX3_pixelAt_7 hl (by decide) rfl (fun ls hl => ?_)
  refine lv_iload_n hx hb dX3_pixelAt_9 rfl (lv_at hl 3 rfl) ?_
  refine z_iconst (n := 1) hx hb dX3_pixelAt_10 ?_
  refine lv_iand hx hb dX3_pixelAt_11 ?_
  refine z_top (v' := .int (zI (w % 2))) (congrArg Value.int (zI_and1 h2)) ?_
  refine z_if_eq (tgt := 22) hx hb dX3_pixelAt_12 (by decide) (by omega) (fun c1 => ?_) (fun c1 => ?_)
  · skip
    refine lv_iload_n hx hb dX3_pixelAt_22 rfl (lv_at hl 3 rfl) ?_
    refine z_iconst (n := 2) hx hb dX3_pixelAt_23 ?_
    refine lv_iand hx hb dX3_pixelAt_24 ?_
    refine z_top (v' := .int (zI (2 * (w / 2)))) (congrArg Value.int (zI_and2 h2)) ?_
    refine z_if_eq (tgt := 35) hx hb dX3_pixelAt_25 (by decide) (by omega) (fun c2 => ?_) (fun c2 => ?_)
    · skip
      refine lv_aload_n hx hb dX3_pixelAt_35 rfl (lv_at hl 1 rfl) ?_
      refine lv_iload_n hx hb dX3_pixelAt_36 rfl (lv_at hl 2 rfl) ?_
      refine z_ro (zrV (As := [.int (zI q)]) (rest := []) ⟨hx, hb, hml, hown, hts⟩ (c_X3_lowOf l G cs b S q (by omega)) gX3_pixelAt_X3_lowOf rfl qX3_lowOf rfl rfl ⟨Nat.le_of_ble_eq_true rfl, Nat.le_of_ble_eq_true rfl⟩ hPs hK (va_recv hK.1 hPs (ci := 3) (q0 := 1) rfl rfl) hl.1 rfl (Nat.le_of_ble_eq_true rfl) dX3_pixelAt_37 ⟨Nat.le_of_ble_eq_true rfl, Nat.le_of_ble_eq_true rfl⟩) ?_
      refine lv_iload hx hb dX3_pixelAt_40 (lv_at hl 0 rfl) ?_
      refine z_lushr hx hb dX3_pixelAt_42 (by omega) ?_
      refine lv_lconst (v := 1) hx hb dX3_pixelAt_43 (by decide) ?_
      refine z_top (v' := .long (lB (fun k => decide (k = 0)))) (congrArg Value.long lI_1b) ?_
      refine z_land hx hb dX3_pixelAt_44 ?_
      refine z_l2iB hx hb dX3_pixelAt_45 ?_
      refine z_top (v' := .int (zI (b2 (bL (S 5) q ((8 * r) + c).toNat)))) (congrArg Value.int (iB_bit0 (f := bL (S 5) q) (by omega))) ?_
      refine z_iconst (n := 2) hx hb dX3_pixelAt_46 ?_
      refine lv_aload_n hx hb dX3_pixelAt_47 rfl (lv_at hl 1 rfl) ?_
      refine lv_iload_n hx hb dX3_pixelAt_48 rfl (lv_at hl 2 rfl) ?_
      refine z_ro (zrV (As := [.int (zI q)]) (rest := [.int (zI 2), .int (zI (b2 (bL (S 5) q ((8 * r) + c).toNat)))]) ⟨hx, hb, hml, hown, hts⟩ (c_X3_highOf l G cs b S q (by omega)) gX3_pixelAt_X3_highOf rfl qX3_highOf rfl rfl ⟨Nat.le_of_ble_eq_true rfl, Nat.le_of_ble_eq_true rfl⟩ hPs hK (va_recv hK.1 hPs (ci := 3) (q0 := 1) rfl rfl) hl.1 rfl (Nat.le_of_ble_eq_true rfl) dX3_pixelAt_49 ⟨Nat.le_of_ble_eq_true rfl, Nat.le_of_ble_eq_true rfl⟩) ?_
      refine lv_iload hx hb dX3_pixelAt_52 (lv_at hl 0 rfl) ?_
      refine z_lushr hx hb dX3_pixelAt_54 (by omega) ?_
      refine lv_lconst (v := 1) hx hb dX3_pixelAt_55 (by decide) ?_
      refine z_top (v' := .long (lB (fun k => decide (k = 0)))) (congrArg Value.long lI_1b) ?_
      refine z_land hx hb dX3_pixelAt_56 ?_
      refine z_l2iB hx hb dX3_pixelAt_57 ?_
      refine z_top (v' := .int (zI (b2 (bH (S 5) q ((8 * r) + c).toNat)))) (congrArg Value.int (iB_bit0 (f := bH (S 5) q) (by omega))) ?_
      refine z_imul hx hb dX3_pixelAt_58 ?_
      refine z_iadd hx hb dX3_pixelAt_59 ?_
      exact ro_iret hx hb hr hlk dX3_pixelAt_60 (congrArg (fun z => Value.int (zI z)) (by rw [px_bits (by omega) (wX _ (by omega) (by omega)), pixW, if_neg (show ¬ w / 2 % 2 = 1 by omega), if_neg (show ¬ w % 2 = 1 by omega)]))
    · skip
      refine lv_iload hx hb dX3_pixelAt_28 (lv_at hl 0 rfl) ?_
      refine z_bipush (n := 56) hx hb dX3_pixelAt_30 (by decide) ?_
      refine lv_ixor hx hb dX3_pixelAt_32 ?_
      refine z_top (v' := .int (zI (8 * (7 - r) + c))) (congrArg Value.int (zI_x56 (by omega) (by omega))) ?_
      refine lv_istore (lv' := [(5, .int (zI (8 * (7 - r) + c))), (0, .ref (b 1)), (1, .int (zI q)), (2, .int (zI w)), (3, .int (zI r)), (4, .int (zI c))]) hx hb dX3_pixelAt_33 hl (by decide) rfl (fun ls hl => ?_)
      refine lv_aload_n hx hb dX3_pixelAt_35 rfl (lv_at hl 1 rfl) ?_
      refine lv_iload_n hx hb dX3_pixelAt_36 rfl (lv_at hl 2 rfl) ?_
      refine z_ro (zrV (As := [.int (zI q)]) (rest := []) ⟨hx, hb, hml, hown, hts⟩ (c_X3_lowOf l G cs b S q (by omega)) gX3_pixelAt_X3_lowOf rfl qX3_lowOf rfl rfl ⟨Nat.le_of_ble_eq_true rfl, Nat.le_of_ble_eq_true rfl⟩ hPs hK (va_recv hK.1 hPs (ci := 3) (q0 := 1) rfl rfl) hl.1 rfl (Nat.le_of_ble_eq_true rfl) dX3_pixelAt_37 ⟨Nat.le_of_ble_eq_true rfl, Nat.le_of_ble_eq_true rfl⟩) ?_
      refine lv_iload hx hb dX3_pixelAt_40 (lv_at hl 0 rfl) ?_
      refine z_lushr hx hb dX3_pixelAt_42 (by omega) ?_
      refine lv_lconst (v := 1) hx hb dX3_pixelAt_43 (by decide) ?_
      refine z_top (v' := .long (lB (fun k => decide (k = 0)))) (congrArg Value.long lI_1b) ?_
      refine z_land hx hb dX3_pixelAt_44 ?_
      refine z_l2iB hx hb dX3_pixelAt_45 ?_
      refine z_top (v' := .int (zI (b2 (bL (S 5) q (8 * (7 - r) + c).toNat)))) (congrArg Value.int (iB_bit0 (f := bL (S 5) q) (by omega))) ?_
      refine z_iconst (n := 2) hx hb dX3_pixelAt_46 ?_
      refine lv_aload_n hx hb dX3_pixelAt_47 rfl (lv_at hl 1 rfl) ?_
      refine lv_iload_n hx hb dX3_pixelAt_48 rfl (lv_at hl 2 rfl) ?_
      refine z_ro (zrV (As := [.int (zI q)]) (rest := [.int (zI 2), .int (zI (b2 (bL (S 5) q (8 * (7 - r) + c).toNat)))]) ⟨hx, hb, hml, hown, hts⟩ (c_X3_highOf l G cs b S q (by omega)) gX3_pixelAt_X3_highOf rfl qX3_highOf rfl rfl ⟨Nat.le_of_ble_eq_true rfl, Nat.le_of_ble_eq_true rfl⟩ hPs hK (va_recv hK.1 hPs (ci := 3) (q0 := 1) rfl rfl) hl.1 rfl (Nat.le_of_ble_eq_true rfl) dX3_pixelAt_49 ⟨Nat.le_of_ble_eq_true rfl, Nat.le_of_ble_eq_true rfl⟩) ?_
      refine lv_iload hx hb dX3_pixelAt_52 (lv_at hl 0 rfl) ?_
      refine z_lushr hx hb dX3_pixelAt_54 (by omega) ?_
      refine lv_lconst (v := 1) hx hb dX3_pixelAt_55 (by decide) ?_
      refine z_top (v' := .long (lB (fun k => decide (k = 0)))) (congrArg Value.long lI_1b) ?_
      refine z_land hx hb dX3_pixelAt_56 ?_
      refine z_l2iB hx hb dX3_pixelAt_57 ?_
      refine z_top (v' := .int (zI (b2 (bH (S 5) q (8 * (7 - r) + c).toNat)))) (congrArg Value.int (iB_bit0 (f := bH (S 5) q) (by omega))) ?_
      refine z_imul hx hb dX3_pixelAt_58 ?_
      refine z_iadd hx hb dX3_pixelAt_59 ?_
      exact ro_iret hx hb hr hlk dX3_pixelAt_60 (congrArg (fun z => Value.int (zI z)) (by rw [px_bits (by omega) (wX _ (by omega) (by omega)), pixW, if_pos (show w / 2 % 2 = 1 by omega), if_neg (show ¬ w % 2 = 1 by omega)]))
  · skip
    refine lv_iload hx hb dX3_pixelAt_15 (lv_at hl 0 rfl) ?_
    refine z_bipush (n := 7) hx hb dX3_pixelAt_17 (by decide) ?_
    refine lv_ixor hx hb dX3_pixelAt_19 ?_
    refine z_top (v' := .int (zI (8 * r + (7 - c)))) (congrArg Value.int (zI_x7 (by omega) (by omega))) ?_
    refine lv_istore (lv' := [(5, .int (zI (8 * r + (7 - c)))), (0, .ref (b 1)), (1, .int (zI q)), (2, .int (zI w)), (3, .int (zI r)), (4, .int (zI c))]) hx hb dX3_pixelAt_20 hl (by decide) rfl (fun ls hl => ?_)
    refine lv_iload_n hx hb dX3_pixelAt_22 rfl (lv_at hl 3 rfl) ?_
    refine z_iconst (n := 2) hx hb dX3_pixelAt_23 ?_
    refine lv_iand hx hb dX3_pixelAt_24 ?_
    refine z_top (v' := .int (zI (2 * (w / 2)))) (congrArg Value.int (zI_and2 h2)) ?_
    refine z_if_eq (tgt := 35) hx hb dX3_pixelAt_25 (by decide) (by omega) (fun c3 => ?_) (fun c3 => ?_)
    · skip
      refine lv_aload_n hx hb dX3_pixelAt_35 rfl (lv_at hl 1 rfl) ?_
      refine lv_iload_n hx hb dX3_pixelAt_36 rfl (lv_at hl 2 rfl) ?_
      refine z_ro (zrV (As := [.int (zI q)]) (rest := []) ⟨hx, hb, hml, hown, hts⟩ (c_X3_lowOf l G cs b S q (by omega)) gX3_pixelAt_X3_lowOf rfl qX3_lowOf rfl rfl ⟨Nat.le_of_ble_eq_true rfl, Nat.le_of_ble_eq_true rfl⟩ hPs hK (va_recv hK.1 hPs (ci := 3) (q0 := 1) rfl rfl) hl.1 rfl (Nat.le_of_ble_eq_true rfl) dX3_pixelAt_37 ⟨Nat.le_of_ble_eq_true rfl, Nat.le_of_ble_eq_true rfl⟩) ?_
      refine lv_iload hx hb dX3_pixelAt_40 (lv_at hl 0 rfl) ?_
      refine z_lushr hx hb dX3_pixelAt_42 (by omega) ?_
      refine lv_lconst (v := 1) hx hb dX3_pixelAt_43 (by decide) ?_
      refine z_top (v' := .long (lB (fun k => decide (k = 0)))) (congrArg Value.long lI_1b) ?_
      refine z_land hx hb dX3_pixelAt_44 ?_
      refine z_l2iB hx hb dX3_pixelAt_45 ?_
      refine z_top (v' := .int (zI (b2 (bL (S 5) q (8 * r + (7 - c)).toNat)))) (congrArg Value.int (iB_bit0 (f := bL (S 5) q) (by omega))) ?_
      refine z_iconst (n := 2) hx hb dX3_pixelAt_46 ?_
      refine lv_aload_n hx hb dX3_pixelAt_47 rfl (lv_at hl 1 rfl) ?_
      refine lv_iload_n hx hb dX3_pixelAt_48 rfl (lv_at hl 2 rfl) ?_
      refine z_ro (zrV (As := [.int (zI q)]) (rest := [.int (zI 2), .int (zI (b2 (bL (S 5) q (8 * r + (7 - c)).toNat)))]) ⟨hx, hb, hml, hown, hts⟩ (c_X3_highOf l G cs b S q (by omega)) gX3_pixelAt_X3_highOf rfl qX3_highOf rfl rfl ⟨Nat.le_of_ble_eq_true rfl, Nat.le_of_ble_eq_true rfl⟩ hPs hK (va_recv hK.1 hPs (ci := 3) (q0 := 1) rfl rfl) hl.1 rfl (Nat.le_of_ble_eq_true rfl) dX3_pixelAt_49 ⟨Nat.le_of_ble_eq_true rfl, Nat.le_of_ble_eq_true rfl⟩) ?_
      refine lv_iload hx hb dX3_pixelAt_52 (lv_at hl 0 rfl) ?_
      refine z_lushr hx hb dX3_pixelAt_54 (by omega) ?_
      refine lv_lconst (v := 1) hx hb dX3_pixelAt_55 (by decide) ?_
      refine z_top (v' := .long (lB (fun k => decide (k = 0)))) (congrArg Value.long lI_1b) ?_
      refine z_land hx hb dX3_pixelAt_56 ?_
      refine z_l2iB hx hb dX3_pixelAt_57 ?_
      refine z_top (v' := .int (zI (b2 (bH (S 5) q (8 * r + (7 - c)).toNat)))) (congrArg Value.int (iB_bit0 (f := bH (S 5) q) (by omega))) ?_
      refine z_imul hx hb dX3_pixelAt_58 ?_
      refine z_iadd hx hb dX3_pixelAt_59 ?_
      exact ro_iret hx hb hr hlk dX3_pixelAt_60 (congrArg (fun z => Value.int (zI z)) (by rw [px_bits (by omega) (wX _ (by omega) (by omega)), pixW, if_neg (show ¬ w / 2 % 2 = 1 by omega), if_pos (show w % 2 = 1 by omega)]))
    · skip
      refine lv_iload hx hb dX3_pixelAt_28 (lv_at hl 0 rfl) ?_
      refine z_bipush (n := 56) hx hb dX3_pixelAt_30 (by decide) ?_
      refine lv_ixor hx hb dX3_pixelAt_32 ?_
      refine z_top (v' := .int (zI (8 * (7 - r) + (7 - c)))) (congrArg Value.int (zI_x56 (by omega) (by omega))) ?_
      refine lv_istore (lv' := [(5, .int (zI (8 * (7 - r) + (7 - c)))), (0, .ref (b 1)), (1, .int (zI q)), (2, .int (zI w)), (3, .int (zI r)), (4, .int (zI c))]) hx hb dX3_pixelAt_33 hl (by decide) rfl (fun ls hl => ?_)
      refine lv_aload_n hx hb dX3_pixelAt_35 rfl (lv_at hl 1 rfl) ?_
      refine lv_iload_n hx hb dX3_pixelAt_36 rfl (lv_at hl 2 rfl) ?_
      refine z_ro (zrV (As := [.int (zI q)]) (rest := []) ⟨hx, hb, hml, hown, hts⟩ (c_X3_lowOf l G cs b S q (by omega)) gX3_pixelAt_X3_lowOf rfl qX3_lowOf rfl rfl ⟨Nat.le_of_ble_eq_true rfl, Nat.le_of_ble_eq_true rfl⟩ hPs hK (va_recv hK.1 hPs (ci := 3) (q0 := 1) rfl rfl) hl.1 rfl (Nat.le_of_ble_eq_true rfl) dX3_pixelAt_37 ⟨Nat.le_of_ble_eq_true rfl, Nat.le_of_ble_eq_true rfl⟩) ?_
      refine lv_iload hx hb dX3_pixelAt_40 (lv_at hl 0 rfl) ?_
      refine z_lushr hx hb dX3_pixelAt_42 (by omega) ?_
      refine lv_lconst (v := 1) hx hb dX3_pixelAt_43 (by decide) ?_
      refine z_top (v' := .long (lB (fun k => decide (k = 0)))) (congrArg Value.long lI_1b) ?_
      refine z_land hx hb dX3_pixelAt_44 ?_
      refine z_l2iB hx hb dX3_pixelAt_45 ?_
      refine z_top (v' := .int (zI (b2 (bL (S 5) q (8 * (7 - r) + (7 - c)).toNat)))) (congrArg Value.int (iB_bit0 (f := bL (S 5) q) (by omega))) ?_
      refine z_iconst (n := 2) hx hb dX3_pixelAt_46 ?_
      refine lv_aload_n hx hb dX3_pixelAt_47 rfl (lv_at hl 1 rfl) ?_
      refine lv_iload_n hx hb dX3_pixelAt_48 rfl (lv_at hl 2 rfl) ?_
      refine z_ro (zrV (As := [.int (zI q)]) (rest := [.int (zI 2), .int (zI (b2 (bL (S 5) q (8 * (7 - r) + (7 - c)).toNat)))]) ⟨hx, hb, hml, hown, hts⟩ (c_X3_highOf l G cs b S q (by omega)) gX3_pixelAt_X3_highOf rfl qX3_highOf rfl rfl ⟨Nat.le_of_ble_eq_true rfl, Nat.le_of_ble_eq_true rfl⟩ hPs hK (va_recv hK.1 hPs (ci := 3) (q0 := 1) rfl rfl) hl.1 rfl (Nat.le_of_ble_eq_true rfl) dX3_pixelAt_49 ⟨Nat.le_of_ble_eq_true rfl, Nat.le_of_ble_eq_true rfl⟩) ?_
      refine lv_iload hx hb dX3_pixelAt_52 (lv_at hl 0 rfl) ?_
      refine z_lushr hx hb dX3_pixelAt_54 (by omega) ?_
      refine lv_lconst (v := 1) hx hb dX3_pixelAt_55 (by decide) ?_
      refine z_top (v' := .long (lB (fun k => decide (k = 0)))) (congrArg Value.long lI_1b) ?_
      refine z_land hx hb dX3_pixelAt_56 ?_
      refine z_l2iB hx hb dX3_pixelAt_57 ?_
      refine z_top (v' := .int (zI (b2 (bH (S 5) q (8 * (7 - r) + (7 - c)).toNat)))) (congrArg Value.int (iB_bit0 (f := bH (S 5) q) (by omega))) ?_
      refine z_imul hx hb dX3_pixelAt_58 ?_
      refine z_iadd hx hb dX3_pixelAt_59 ?_
      exact ro_iret hx hb hr hlk dX3_pixelAt_60 (congrArg (fun z => Value.int (zI z)) (by rw [px_bits (by omega) (wX _ (by omega) (by omega)), pixW, if_pos (show w / 2 % 2 = 1 by omega), if_pos (show w % 2 = 1 by omega)]))

set_option maxHeartbeats 4000000 in
set_option maxRecDepth 100000 in
theorem c_X3_putPlanes (l : Launch) (G : va_G) (cs : Nat → ClassId) (b : Nat → Nat) (S : SS) (q : Int) (f g : Nat → Bool) (ib : Inj b 8) (h1 : 0 ≤ q ∧ q < 24) : MV l yX3_putPlanes wsX3_putPlanes { frames := 0, cells := 0, slots := 0, locals := 0 } G cs [.ref (b 1), .int (zI q), .long (lB f), .long (lB g)] (fun H => va_P G vwCl (stW cs b S) H) (fun H => va_P G vwCl (stW cs b (up2 S 5 (putRw (S 5) q 64 f g))) H) (AX b 2 4) 0 0 := by
  refine m_intro (Pw := (fun H => va_P G vwCl (stW cs b S) H)) (cc := cX3_putPlanes) (maxL := 6) (ret := none) RX3 (by decide) rfl rfl (Nat.le_of_ble_eq_true rfl) ?_
  intro pP eE sS mM below meth cC hx hb hr hts hown hml hlk hnm hPre hK ls hl
  have hl : lv_has ls 6 [(0, .ref (b 1)), (1, .int (zI q)), (2, .long (lB f)), (4, .long (lB g))] := hl
  have hPs := hPre
  have hS : va_S (AX b 2 4) sS.heap sS.heap [] := va_S.rf
  have hi3 : ∀ w ∈ u_ws RX3 TX3 3, w ∈ wsX3_putPlanes := by decide +kernel
  refine lv_iload_n hx hb dX3_putPlanes_0 rfl (lv_at hl 1 rfl) ?_
  refine z_if_lt (tgt := 37) hx hb dX3_putPlanes_1 (by decide) (by omega) (fun c1 => ?_) (fun c1 => ?_)
  · skip
    exfalso; omega
  · skip
    refine lv_iload_n hx hb dX3_putPlanes_4 rfl (lv_at hl 1 rfl) ?_
    refine lv_aload_n hx hb dX3_putPlanes_5 rfl (lv_at hl 0 rfl) ?_
    refine va_get (D := G) (ci := 3) (v := .ref (b 2)) (C := RX3) (T := TX3) (N := 3) hx hb hts hi3 hown hK.1 hPs 1 rfl rfl 1 (by decide) (hts (.fieldLink RX3 9 "SpriteLines$Sheet" "low" "[J") (by decide +kernel)) (fun _ h9 => h9) rfl dX3_putPlanes_6 ?_
    refine z_alen hx hb hK.1 hPs 2 1 rfl rfl dX3_putPlanes_9 ?_
    refine z_topi (b := 24) rfl ?_
    refine z_icmp_ge (tgt := 37) hx hb dX3_putPlanes_10 (by decide) (by omega) (by omega) (fun c2 => ?_) (fun c2 => ?_)
    · skip
      exfalso; omega
    · skip
      refine lv_iload_n hx hb dX3_putPlanes_13 rfl (lv_at hl 1 rfl) ?_
      refine lv_aload_n hx hb dX3_putPlanes_14 rfl (lv_at hl 0 rfl) ?_
      refine va_get (D := G) (ci := 3) (v := .ref (b 3)) (C := RX3) (T := TX3) (N := 3) hx hb hts hi3 hown hK.1 hPs 1 rfl rfl 2 (by decide) (hts (.fieldLink RX3 15 "SpriteLines$Sheet" "high" "[J") (by decide +kernel)) (fun _ h9 => h9) rfl dX3_putPlanes_15 ?_
      refine z_alen hx hb hK.1 hPs 3 1 rfl rfl dX3_putPlanes_18 ?_
      refine z_topi (b := 24) rfl ?_
      refine z_icmp_ge (tgt := 37) hx hb dX3_putPlanes_19 (by decide) (by omega) (by omega) (fun c3 => ?_) (fun c3 => ?_)
      · skip
        exfalso; omega
      · skip
        refine lv_aload_n hx hb dX3_putPlanes_22 rfl (lv_at hl 0 rfl) ?_
        refine va_get (D := G) (ci := 3) (v := .ref (b 2)) (C := RX3) (T := TX3) (N := 3) hx hb hts hi3 hown hK.1 hPs 1 rfl rfl 1 (by decide) (hts (.fieldLink RX3 9 "SpriteLines$Sheet" "low" "[J") (by decide +kernel)) (fun _ h9 => h9) rfl dX3_putPlanes_23 ?_
        refine lv_iload_n hx hb dX3_putPlanes_26 rfl (lv_at hl 1 rfl) ?_
        refine lv_lload_n hx hb dX3_putPlanes_27 rfl (lv_at hl 2 rfl) ?_
        refine z_last hx hb hK.1 hPs (Ord.D (ordSt cs b S) ib) hS 2 1 (f := pL (S 5)) rfl rfl (by omega) (by decide) ⟨2, by decide, by decide, rfl⟩ dX3_putPlanes_28 (fun H locs hP1 hle hk hS => ?_)
        have hPs : va_P G vwCl (stW cs b (up2 S 5 (putRw (S 5) q 64 f (bH (S 5) q)))) H := (by rw [stW_setL (by omega)] at hP1; exact hP1)
        refine lv_aload_n hx hb dX3_putPlanes_29 rfl (lv_at hl 0 rfl) ?_
        refine va_get (D := G) (ci := 3) (v := .ref (b 3)) (C := RX3) (T := TX3) (N := 3) hx hb hts hi3 hown hK.1 hPs 1 rfl rfl 2 (by decide) (hts (.fieldLink RX3 15 "SpriteLines$Sheet" "high" "[J") (by decide +kernel)) (fun _ h9 => h9) rfl dX3_putPlanes_30 ?_
        refine lv_iload_n hx hb dX3_putPlanes_33 rfl (lv_at hl 1 rfl) ?_
        refine lv_lload hx hb dX3_putPlanes_34 (lv_at hl 3 rfl) ?_
        refine z_last hx hb hK.1 hPs (Ord.D (ordSt cs b (up2 S 5 (putRw (S 5) q 64 f (bH (S 5) q)))) ib) hS 3 1 (f := pH ((up2 S 5 (putRw (S 5) q 64 f (bH (S 5) q))) 5)) rfl rfl (by omega) (by decide) ⟨3, by decide, by decide, rfl⟩ dX3_putPlanes_36 (fun H locs hP1 hle hk hS => ?_)
        have hPs : va_P G vwCl (stW cs b (up2 S 5 (putRw (S 5) q 64 f g))) H := (by rw [stW_setH (by omega), putPl_eq] at hP1; exact hP1)
        exact v_ret hx hb hr hlk dX3_putPlanes_37 hS (hPs)

set_option maxHeartbeats 4000000 in
set_option maxRecDepth 100000 in
theorem c_X3_addBlank (l : Launch) (G : va_G) (cs : Nat → ClassId) (b : Nat → Nat) (S : SS) (ib : Inj b 8) (h1 : 0 ≤ S 0 0 ∧ S 0 0 < 24) : MV l yX3_addBlank wsX3_addBlank { frames := 1, cells := 0, slots := 0, locals := 25 } G cs [.ref (b 1)] (fun H => va_P G vwCl (stW cs b S) H) (fun H => va_P G vwCl (stW cs b (addBl S)) H) (AX b 1 4) 0 0 := by
  refine m_intro (Pw := (fun H => va_P G vwCl (stW cs b S) H)) (cc := cX3_addBlank) (maxL := 1) (ret := none) RX3 (by decide) rfl rfl (Nat.le_of_ble_eq_true rfl) ?_
  intro pP eE sS mM below meth cC hx hb hr hts hown hml hlk hnm hPre hK ls hl
  have hl : lv_has ls 1 [(0, .ref (b 1))] := hl
  have hPs := hPre
  have hS : va_S (AX b 1 4) sS.heap sS.heap [] := va_S.rf
  have hi3 : ∀ w ∈ u_ws RX3 TX3 3, w ∈ wsX3_addBlank := by decide +kernel
  refine lv_aload_n hx hb dX3_addBlank_0 rfl (lv_at hl 0 rfl) ?_
  refine lv_aload_n hx hb dX3_addBlank_1 rfl (lv_at hl 0 rfl) ?_
  refine va_get (D := G) (ci := 3) (v := .int (zI (S 0 0))) (C := RX3) (T := TX3) (N := 3) hx hb hts hi3 hown hK.1 hPs 1 rfl rfl 0 (by decide) (hts (.fieldLink RX3 18 "SpriteLines$Sheet" "parts" "I") (by decide +kernel)) (fun _ h9 => h9) rfl dX3_addBlank_2 ?_
  refine lv_lconst (v := 0) hx hb dX3_addBlank_5 (by decide) ?_
  refine z_top (v' := .long (lB (fun _ => false))) (congrArg Value.long lB_0) ?_
  refine lv_lconst (v := 0) hx hb dX3_addBlank_6 (by decide) ?_
  refine z_top (v' := .long (lB (fun _ => false))) (congrArg Value.long lB_0) ?_
  refine z_v (zrV (As := [.int (zI (S 0 0)), .long (lB (fun _ => false)), .long (lB (fun _ => false))]) (rest := []) ⟨hx, hb, hml, hown, hts⟩ (c_X3_putPlanes l G cs b S (S 0 0) (fun _ => false) (fun _ => false) ib (by omega)) gX3_addBlank_X3_putPlanes rfl qX3_putPlanes rfl rfl ⟨Nat.le_of_ble_eq_true rfl, Nat.le_of_ble_eq_true rfl⟩ hPs hK (va_recv hK.1 hPs (ci := 3) (q0 := 1) rfl rfl) hl.1 rfl (Nat.le_of_ble_eq_true rfl) dX3_addBlank_7 ⟨Nat.le_of_ble_eq_true rfl, Nat.le_of_ble_eq_true rfl⟩) hS (fun q h => ax_mono h (by decide) (by decide)) (fun q h => ax_mono h (by decide) (by decide)) (fun H locs hpost hle hk hS => ?_)
  have hPs' := hpost
  have hPs : va_P G vwCl (stW cs b (up2 S 5 (putRw (S 5) (S 0 0) 64 (fun _ => false) (fun _ => false)))) H := hPs'
  refine lv_aload_n hx hb dX3_addBlank_10 rfl (lv_at hl 0 rfl) ?_
  refine lv_dup hx hb dX3_addBlank_11 rfl ?_
  refine va_get (D := G) (ci := 3) (v := .int (zI ((up2 S 5 (putRw (S 5) (S 0 0) 64 (fun _ => false) (fun _ => false))) 0 0))) (C := RX3) (T := TX3) (N := 3) hx hb hts hi3 hown hK.1 hPs 1 rfl rfl 0 (by decide) (hts (.fieldLink RX3 18 "SpriteLines$Sheet" "parts" "I") (by decide +kernel)) (fun _ h9 => h9) rfl dX3_addBlank_12 ?_
  refine z_iconst (n := 1) hx hb dX3_addBlank_15 ?_
  refine z_iadd hx hb dX3_addBlank_16 ?_
  refine z_put (G := G) (ci := 3) (v := .int (zI (((up2 S 5 (putRw (S 5) (S 0 0) 64 (fun _ => false) (fun _ => false))) 0 0) + 1))) (ty := .int) (C := RX3) (T := TX3) (N := 3) hx hb hts hi3 tyX3 tyX3_ok nmX3 hown hK.1 hPs (Ord.D (ordSt cs b (up2 S 5 (putRw (S 5) (S 0 0) 64 (fun _ => false) (fun _ => false)))) ib) hS 1 rfl rfl 0 (by decide) (hts (.fieldLink RX3 18 "SpriteLines$Sheet" "parts" "I") (by decide +kernel)) (fun _ h9 => h9) rfl (by decide +kernel) rfl rfl (Nat.le_of_ble_eq_true rfl) ⟨1, by decide, by decide, rfl⟩ dX3_addBlank_17 (fun H locs hP1 hle hk hS => ?_)
  have hPs : va_P G vwCl (stW cs b (addBl S)) H := hP1
  exact v_ret hx hb hr hlk dX3_addBlank_20 hS (hPs)

set_option maxHeartbeats 4000000 in
set_option maxRecDepth 100000 in
theorem c_X3_putPixel (l : Launch) (G : va_G) (cs : Nat → ClassId) (b : Nat → Nat) (S : SS) (q r c v : Int) (ib : Inj b 8) (wf : WF S) (h1 : 0 ≤ q ∧ q < 24) (h3 : 0 ≤ r ∧ r < 8) (h4 : 0 ≤ c ∧ c < 8) (h5 : 0 ≤ v ∧ v ≤ 3) : MV l yX3_putPixel wsX3_putPixel { frames := 1, cells := 0, slots := 0, locals := 25 } G cs [.ref (b 1), .int (zI q), .int (zI r), .int (zI c), .int (zI v)] (fun H => va_P G vwCl (stW cs b S) H) (fun H => va_P G vwCl (stW cs b (up2 S 5 (updZ (S 5) (64 * q + (8 * r + c)) v))) H) (AX b 2 4) 0 0 := by
  refine m_intro (Pw := (fun H => va_P G vwCl (stW cs b S) H)) (cc := cX3_putPixel) (maxL := 8) (ret := none) RX3 (by decide) rfl rfl (Nat.le_of_ble_eq_true rfl) ?_
  intro pP eE sS mM below meth cC hx hb hr hts hown hml hlk hnm hPre hK ls hl
  have hl : lv_has ls 8 [(0, .ref (b 1)), (1, .int (zI q)), (2, .int (zI r)), (3, .int (zI c)), (4, .int (zI v))] := hl
  have hPs := hPre
  have hS : va_S (AX b 2 4) sS.heap sS.heap [] := va_S.rf
  obtain ⟨w0, w1, w2, w3, w4, wP, wC, wS, wX⟩ := wf
  refine z_bipush (n := 8) hx hb dX3_putPixel_0 (by decide) ?_
  refine lv_iload_n hx hb dX3_putPixel_2 rfl (lv_at hl 2 rfl) ?_
  refine z_imul hx hb dX3_putPixel_3 ?_
  refine lv_iload_n hx hb dX3_putPixel_4 rfl (lv_at hl 3 rfl) ?_
  refine z_iadd hx hb dX3_putPixel_5 ?_
  refine lv_istore (lv' := [(5, .int (zI ((8 * r) + c))), (0, .ref (b 1)), (1, .int (zI q)), (2, .int (zI r)), (3, .int (zI c)), (4, .int (zI v))]) hx hb dX3_putPixel_6 hl (by decide) rfl (fun ls hl => ?_)
  refine lv_lconst (v := 1) hx hb dX3_putPixel_8 (by decide) ?_
  refine z_top (v' := .long (lB (fun k => decide (k = 0)))) (congrArg Value.long lI_1b) ?_
  refine lv_iload hx hb dX3_putPixel_9 (lv_at hl 0 rfl) ?_
  refine z_lshl hx hb dX3_putPixel_11 (by omega) ?_
  refine lv_ldc2 (v := (-1)) hx hb hown (hts (.constantLong RX3 39 (-1)) (by decide +kernel)) dX3_putPixel_12 ?_
  refine z_lnot hx hb dX3_putPixel_15 ?_
  refine lv_lstore (lv' := [(6, .long (lB (fun k => !(fun k => decide (((8 * r) + c).toNat ≤ k) && (fun k => decide (k = 0)) (k - ((8 * r) + c).toNat)) k))), (5, .int (zI ((8 * r) + c))), (0, .ref (b 1)), (1, .int (zI q)), (2, .int (zI r)), (3, .int (zI c)), (4, .int (zI v))]) hx hb dX3_putPixel_16 hl (by decide) rfl (fun ls hl => ?_)
  refine lv_aload_n hx hb dX3_putPixel_18 rfl (lv_at hl 2 rfl) ?_
  refine lv_iload_n hx hb dX3_putPixel_19 rfl (lv_at hl 3 rfl) ?_
  refine lv_aload_n hx hb dX3_putPixel_20 rfl (lv_at hl 2 rfl) ?_
  refine lv_iload_n hx hb dX3_putPixel_21 rfl (lv_at hl 3 rfl) ?_
  refine z_ro (zrV (As := [.int (zI q)]) (rest := [.int (zI q), .ref (b 1)]) ⟨hx, hb, hml, hown, hts⟩ (c_X3_lowOf l G cs b S q (by omega)) gX3_putPixel_X3_lowOf rfl qX3_lowOf rfl rfl ⟨Nat.le_of_ble_eq_true rfl, Nat.le_of_ble_eq_true rfl⟩ hPs hK (va_recv hK.1 hPs (ci := 3) (q0 := 1) rfl rfl) hl.1 rfl (Nat.le_of_ble_eq_true rfl) dX3_putPixel_22 ⟨Nat.le_of_ble_eq_true rfl, Nat.le_of_ble_eq_true rfl⟩) ?_
  refine lv_lload hx hb dX3_putPixel_25 (lv_at hl 0 rfl) ?_
  refine z_land hx hb dX3_putPixel_27 ?_
  refine lv_iload hx hb dX3_putPixel_28 (lv_at hl 6 rfl) ?_
  refine z_iconst (n := 1) hx hb dX3_putPixel_30 ?_
  refine lv_iand hx hb dX3_putPixel_31 ?_
  refine z_top (v' := .int (zI (v % 2))) (congrArg Value.int (zI_and1 h5)) ?_
  refine lv_i2l (v := (lB (fun k => decide (k = 0) && decide (v % 2 = 1)))) hx hb dX3_putPixel_32 (i2l_b _) ?_
  refine lv_iload hx hb dX3_putPixel_33 (lv_at hl 1 rfl) ?_
  refine z_lshl hx hb dX3_putPixel_35 (by omega) ?_
  refine z_lor hx hb dX3_putPixel_36 ?_
  refine z_top (v' := .long (lB (fun k => if k = (8 * r + c).toNat then decide (v % 2 = 1) else bL (S 5) q k))) (congrArg Value.long (lB_congr (fun k _ => putbit))) ?_
  refine lv_aload_n hx hb dX3_putPixel_37 rfl (lv_at hl 2 rfl) ?_
  refine lv_iload_n hx hb dX3_putPixel_38 rfl (lv_at hl 3 rfl) ?_
  refine z_ro (zrV (As := [.int (zI q)]) (rest := [.long (lB (fun k => if k = (8 * r + c).toNat then decide (v % 2 = 1) else bL (S 5) q k)), .int (zI q), .ref (b 1)]) ⟨hx, hb, hml, hown, hts⟩ (c_X3_highOf l G cs b S q (by omega)) gX3_putPixel_X3_highOf rfl qX3_highOf rfl rfl ⟨Nat.le_of_ble_eq_true rfl, Nat.le_of_ble_eq_true rfl⟩ hPs hK (va_recv hK.1 hPs (ci := 3) (q0 := 1) rfl rfl) hl.1 rfl (Nat.le_of_ble_eq_true rfl) dX3_putPixel_39 ⟨Nat.le_of_ble_eq_true rfl, Nat.le_of_ble_eq_true rfl⟩) ?_
  refine lv_lload hx hb dX3_putPixel_42 (lv_at hl 0 rfl) ?_
  refine z_land hx hb dX3_putPixel_44 ?_
  refine lv_iload hx hb dX3_putPixel_45 (lv_at hl 6 rfl) ?_
  refine z_iconst (n := 1) hx hb dX3_putPixel_47 ?_
  refine lv_ishr hx hb dX3_putPixel_48 ?_
  refine z_top (v' := .int (zI (v / 2))) (congrArg Value.int (zI_shr1 h5)) ?_
  refine z_iconst (n := 1) hx hb dX3_putPixel_49 ?_
  refine lv_iand hx hb dX3_putPixel_50 ?_
  refine z_top (v' := .int (zI (v / 2 % 2))) (congrArg Value.int (zI_and1 (by omega))) ?_
  refine lv_i2l (v := (lB (fun k => decide (k = 0) && decide (v / 2 % 2 = 1)))) hx hb dX3_putPixel_51 (i2l_b _) ?_
  refine lv_iload hx hb dX3_putPixel_52 (lv_at hl 1 rfl) ?_
  refine z_lshl hx hb dX3_putPixel_54 (by omega) ?_
  refine z_lor hx hb dX3_putPixel_55 ?_
  refine z_top (v' := .long (lB (fun k => if k = (8 * r + c).toNat then decide (v / 2 % 2 = 1) else bH (S 5) q k))) (congrArg Value.long (lB_congr (fun k _ => putbit))) ?_
  refine z_v (zrV (As := [.int (zI q), .long (lB (fun k => if k = (8 * r + c).toNat then decide (v % 2 = 1) else bL (S 5) q k)), .long (lB (fun k => if k = (8 * r + c).toNat then decide (v / 2 % 2 = 1) else bH (S 5) q k))]) (rest := []) ⟨hx, hb, hml, hown, hts⟩ (c_X3_putPlanes l G cs b S q (fun k => if k = (8 * r + c).toNat then decide (v % 2 = 1) else bL (S 5) q k) (fun k => if k = (8 * r + c).toNat then decide (v / 2 % 2 = 1) else bH (S 5) q k) ib (by omega)) gX3_putPixel_X3_putPlanes rfl qX3_putPlanes rfl rfl ⟨Nat.le_of_ble_eq_true rfl, Nat.le_of_ble_eq_true rfl⟩ hPs hK (va_recv hK.1 hPs (ci := 3) (q0 := 1) rfl rfl) hl.1 rfl (Nat.le_of_ble_eq_true rfl) dX3_putPixel_56 ⟨Nat.le_of_ble_eq_true rfl, Nat.le_of_ble_eq_true rfl⟩) hS (fun q h => ax_mono h (by decide) (by decide)) (fun q h => ax_mono h (by decide) (by decide)) (fun H locs hpost hle hk hS => ?_)
  have hPs' := hpost
  have hPs : va_P G vwCl (stW cs b (up2 S 5 (putRw (S 5) q 64 (fun k => if k = (8 * r + c).toNat then decide (v % 2 = 1) else bL (S 5) q k) (fun k => if k = (8 * r + c).toNat then decide (v / 2 % 2 = 1) else bH (S 5) q k)))) H := hPs'
  exact v_ret hx hb hr hlk dX3_putPixel_59 hS (by rw [putPx_eq (by omega) (by omega) (fun j q1 q2 => wX j (by omega) (by omega))] at hPs; exact hPs)

set_option maxHeartbeats 4000000 in
set_option maxRecDepth 100000 in
theorem c_X3_putRows (l : Launch) (G : va_G) (cs : Nat → ClassId) (b : Nat → Nat) (S : SS) (q n : Int) (f g : Nat → Bool) (ib : Inj b 8) (wf : WF S) (h1 : 0 ≤ q ∧ q < 24) (h2 : 0 ≤ n ∧ n ≤ 8) (hz : ∀ k : Nat, 8 * n ≤ k → f k = false ∧ g k = false) : MV l yX3_putRows wsX3_putRows { frames := 1, cells := 0, slots := 0, locals := 25 } G cs [.ref (b 1), .int (zI q), .int (zI n), .long (lB f), .long (lB g)] (fun H => va_P G vwCl (stW cs b S) H) (fun H => va_P G vwCl (stW cs b (up2 S 5 (putRw (S 5) q (8 * n) f g))) H) (AX b 2 4) 0 0 := by
  refine m_intro (Pw := (fun H => va_P G vwCl (stW cs b S) H)) (cc := cX3_putRows) (maxL := 9) (ret := none) RX3 (by decide) rfl rfl (Nat.le_of_ble_eq_true rfl) ?_
  intro pP eE sS mM below meth cC hx hb hr hts hown hml hlk hnm hPre hK ls hl
  have hl : lv_has ls 9 [(0, .ref (b 1)), (1, .int (zI q)), (2, .int (zI n)), (3, .long (lB f)), (5, .long (lB g))] := hl
  have hPs := hPre
  have hS : va_S (AX b 2 4) sS.heap sS.heap [] := va_S.rf
  obtain ⟨w0, w1, w2, w3, w4, wP, wC, wS, wX⟩ := wf
  refine lv_iload_n hx hb dX3_putRows_0 rfl (lv_at hl 2 rfl) ?_
  refine z_bipush (n := 8) hx hb dX3_putRows_1 (by decide) ?_
  refine z_icmp_lt (tgt := 10) hx hb dX3_putRows_3 (by decide) (by omega) (by omega) (fun c1 => ?_) (fun c1 => ?_)
  · skip
    refine lv_ldc2 (v := (-1)) hx hb hown (hts (.constantLong RX3 39 (-1)) (by decide +kernel)) dX3_putRows_10 ?_
    refine z_bipush (n := 8) hx hb dX3_putRows_13 (by decide) ?_
    refine lv_iload_n hx hb dX3_putRows_15 rfl (lv_at hl 2 rfl) ?_
    refine z_imul hx hb dX3_putRows_16 ?_
    refine lv_lshl (v := (lB (fun k => decide ((8 * n).toNat ≤ k)))) hx hb dX3_putRows_17 (lB_from (by omega)) ?_
    refine lv_lstore (lv' := [(7, .long (lB (fun k => decide ((8 * n).toNat ≤ k)))), (0, .ref (b 1)), (1, .int (zI q)), (2, .int (zI n)), (3, .long (lB f)), (5, .long (lB g))]) hx hb dX3_putRows_18 hl (by decide) rfl (fun ls hl => ?_)
    refine lv_aload_n hx hb dX3_putRows_20 rfl (lv_at hl 1 rfl) ?_
    refine lv_iload_n hx hb dX3_putRows_21 rfl (lv_at hl 2 rfl) ?_
    refine lv_aload_n hx hb dX3_putRows_22 rfl (lv_at hl 1 rfl) ?_
    refine lv_iload_n hx hb dX3_putRows_23 rfl (lv_at hl 2 rfl) ?_
    refine z_ro (zrV (As := [.int (zI q)]) (rest := [.int (zI q), .ref (b 1)]) ⟨hx, hb, hml, hown, hts⟩ (c_X3_lowOf l G cs b S q (by omega)) gX3_putRows_X3_lowOf rfl qX3_lowOf rfl rfl ⟨Nat.le_of_ble_eq_true rfl, Nat.le_of_ble_eq_true rfl⟩ hPs hK (va_recv hK.1 hPs (ci := 3) (q0 := 1) rfl rfl) hl.1 rfl (Nat.le_of_ble_eq_true rfl) dX3_putRows_24 ⟨Nat.le_of_ble_eq_true rfl, Nat.le_of_ble_eq_true rfl⟩) ?_
    refine lv_lload hx hb dX3_putRows_27 (lv_at hl 0 rfl) ?_
    refine z_land hx hb dX3_putRows_29 ?_
    refine lv_lload_n hx hb dX3_putRows_30 rfl (lv_at hl 4 rfl) ?_
    refine z_lor hx hb dX3_putRows_31 ?_
    refine lv_aload_n hx hb dX3_putRows_32 rfl (lv_at hl 1 rfl) ?_
    refine lv_iload_n hx hb dX3_putRows_33 rfl (lv_at hl 2 rfl) ?_
    refine z_ro (zrV (As := [.int (zI q)]) (rest := [.long (lB (fun k => (fun k => (bL (S 5) q) k && (fun k => decide ((8 * n).toNat ≤ k)) k) k || f k)), .int (zI q), .ref (b 1)]) ⟨hx, hb, hml, hown, hts⟩ (c_X3_highOf l G cs b S q (by omega)) gX3_putRows_X3_highOf rfl qX3_highOf rfl rfl ⟨Nat.le_of_ble_eq_true rfl, Nat.le_of_ble_eq_true rfl⟩ hPs hK (va_recv hK.1 hPs (ci := 3) (q0 := 1) rfl rfl) hl.1 rfl (Nat.le_of_ble_eq_true rfl) dX3_putRows_34 ⟨Nat.le_of_ble_eq_true rfl, Nat.le_of_ble_eq_true rfl⟩) ?_
    refine lv_lload hx hb dX3_putRows_37 (lv_at hl 0 rfl) ?_
    refine z_land hx hb dX3_putRows_39 ?_
    refine lv_lload hx hb dX3_putRows_40 (lv_at hl 5 rfl) ?_
    refine z_lor hx hb dX3_putRows_42 ?_
    refine z_v (zrV (As := [.int (zI q), .long (lB (fun k => (fun k => (bL (S 5) q) k && (fun k => decide ((8 * n).toNat ≤ k)) k) k || f k)), .long (lB (fun k => (fun k => (bH (S 5) q) k && (fun k => decide ((8 * n).toNat ≤ k)) k) k || g k))]) (rest := []) ⟨hx, hb, hml, hown, hts⟩ (c_X3_putPlanes l G cs b S q (fun k => (fun k => (bL (S 5) q) k && (fun k => decide ((8 * n).toNat ≤ k)) k) k || f k) (fun k => (fun k => (bH (S 5) q) k && (fun k => decide ((8 * n).toNat ≤ k)) k) k || g k) ib (by omega)) gX3_putRows_X3_putPlanes rfl qX3_putPlanes rfl rfl ⟨Nat.le_of_ble_eq_true rfl, Nat.le_of_ble_eq_true rfl⟩ hPs hK (va_recv hK.1 hPs (ci := 3) (q0 := 1) rfl rfl) hl.1 rfl (Nat.le_of_ble_eq_true rfl) dX3_putRows_43 ⟨Nat.le_of_ble_eq_true rfl, Nat.le_of_ble_eq_true rfl⟩) hS (fun q h => ax_mono h (by decide) (by decide)) (fun q h => ax_mono h (by decide) (by decide)) (fun H locs hpost hle hk hS => ?_)
    have hPs' := hpost
    have hPs : va_P G vwCl (stW cs b (up2 S 5 (putRw (S 5) q 64 (fun k => (fun k => (bL (S 5) q) k && (fun k => decide ((8 * n).toNat ≤ k)) k) k || f k) (fun k => (fun k => (bH (S 5) q) k && (fun k => decide ((8 * n).toNat ≤ k)) k) k || g k)))) H := hPs'
    exact v_ret hx hb hr hlk dX3_putRows_46 hS (by rw [putRw_all (by omega) (fun j q1 q2 => wX j (by omega) (by omega)) hz] at hPs; exact hPs)
  · skip
    refine lv_lconst (v := 0) hx hb dX3_putRows_6 (by decide) ?_
    refine z_top (v' := .long (lB (fun _ => false))) (congrArg Value.long lB_0) ?_
    refine lv_goto (tgt := 18) hx hb dX3_putRows_7 (by decide) ?_
    refine lv_lstore (lv' := [(7, .long (lB (fun _ => false))), (0, .ref (b 1)), (1, .int (zI q)), (2, .int (zI n)), (3, .long (lB f)), (5, .long (lB g))]) hx hb dX3_putRows_18 hl (by decide) rfl (fun ls hl => ?_)
    refine lv_aload_n hx hb dX3_putRows_20 rfl (lv_at hl 1 rfl) ?_
    refine lv_iload_n hx hb dX3_putRows_21 rfl (lv_at hl 2 rfl) ?_
    refine lv_aload_n hx hb dX3_putRows_22 rfl (lv_at hl 1 rfl) ?_
    refine lv_iload_n hx hb dX3_putRows_23 rfl (lv_at hl 2 rfl) ?_
    refine z_ro (zrV (As := [.int (zI q)]) (rest := [.int (zI q), .ref (b 1)]) ⟨hx, hb, hml, hown, hts⟩ (c_X3_lowOf l G cs b S q (by omega)) gX3_putRows_X3_lowOf rfl qX3_lowOf rfl rfl ⟨Nat.le_of_ble_eq_true rfl, Nat.le_of_ble_eq_true rfl⟩ hPs hK (va_recv hK.1 hPs (ci := 3) (q0 := 1) rfl rfl) hl.1 rfl (Nat.le_of_ble_eq_true rfl) dX3_putRows_24 ⟨Nat.le_of_ble_eq_true rfl, Nat.le_of_ble_eq_true rfl⟩) ?_
    refine lv_lload hx hb dX3_putRows_27 (lv_at hl 0 rfl) ?_
    refine z_land hx hb dX3_putRows_29 ?_
    refine lv_lload_n hx hb dX3_putRows_30 rfl (lv_at hl 4 rfl) ?_
    refine z_lor hx hb dX3_putRows_31 ?_
    refine lv_aload_n hx hb dX3_putRows_32 rfl (lv_at hl 1 rfl) ?_
    refine lv_iload_n hx hb dX3_putRows_33 rfl (lv_at hl 2 rfl) ?_
    refine z_ro (zrV (As := [.int (zI q)]) (rest := [.long (lB (fun k => (fun k => (bL (S 5) q) k && (fun _ => false) k) k || f k)), .int (zI q), .ref (b 1)]) ⟨hx, hb, hml, hown, hts⟩ (c_X3_highOf l G cs b S q (by omega)) gX3_putRows_X3_highOf rfl qX3_highOf rfl rfl ⟨Nat.le_of_ble_eq_true rfl, Nat.le_of_ble_eq_true rfl⟩ hPs hK (va_recv hK.1 hPs (ci := 3) (q0 := 1) rfl rfl) hl.1 rfl (Nat.le_of_ble_eq_true rfl) dX3_putRows_34 ⟨Nat.le_of_ble_eq_true rfl, Nat.le_of_ble_eq_true rfl⟩) ?_
    refine lv_lload hx hb dX3_putRows_37 (lv_at hl 0 rfl) ?_
    refine z_land hx hb dX3_putRows_39 ?_
    refine lv_lload hx hb dX3_putRows_40 (lv_at hl 5 rfl) ?_
    refine z_lor hx hb dX3_putRows_42 ?_
    refine z_v (zrV (As := [.int (zI q), .long (lB (fun k => (fun k => (bL (S 5) q) k && (fun _ => false) k) k || f k)), .long (lB (fun k => (fun k => (bH (S 5) q) k && (fun _ => false) k) k || g k))]) (rest := []) ⟨hx, hb, hml, hown, hts⟩ (c_X3_putPlanes l G cs b S q (fun k => (fun k => (bL (S 5) q) k && (fun _ => false) k) k || f k) (fun k => (fun k => (bH (S 5) q) k && (fun _ => false) k) k || g k) ib (by omega)) gX3_putRows_X3_putPlanes rfl qX3_putPlanes rfl rfl ⟨Nat.le_of_ble_eq_true rfl, Nat.le_of_ble_eq_true rfl⟩ hPs hK (va_recv hK.1 hPs (ci := 3) (q0 := 1) rfl rfl) hl.1 rfl (Nat.le_of_ble_eq_true rfl) dX3_putRows_43 ⟨Nat.le_of_ble_eq_true rfl, Nat.le_of_ble_eq_true rfl⟩) hS (fun q h => ax_mono h (by decide) (by decide)) (fun q h => ax_mono h (by decide) (by decide)) (fun H locs hpost hle hk hS => ?_)
    have hPs' := hpost
    have hPs : va_P G vwCl (stW cs b (up2 S 5 (putRw (S 5) q 64 (fun k => (fun k => (bL (S 5) q) k && (fun _ => false) k) k || f k) (fun k => (fun k => (bH (S 5) q) k && (fun _ => false) k) k || g k)))) H := hPs'
    exact v_ret hx hb hr hlk dX3_putRows_46 hS (by rw [putRw_all0 (n := n) (by omega)] at hPs; exact hPs)

set_option maxHeartbeats 4000000 in
set_option maxRecDepth 100000 in
theorem c_X3_exchanged (l : Launch) (G : va_G) (cs : Nat → ClassId) (t : Int) (f g : Nat → Bool) (h1 : 0 ≤ t ∧ t < 64) : MRO l yX3_exchanged wsX3_exchanged { frames := 0, cells := 0, slots := 0, locals := 0 } G cs [.long (lB f), .int (zI t), .long (lB g)] (fun _ => True) (.long (lB (exB (Int.toNat t) f g))) := by
  refine m_intro (Pw := (fun _ => True)) (cc := cX3_exchanged) (maxL := 5) (ret := some .long) RX3 (by decide) rfl rfl (Nat.le_of_ble_eq_true rfl) ?_
  intro pP eE sS mM below meth cC hx hb hr hts hown hml hlk hnm hPre hK ls hl
  have hl : lv_has ls 5 [(0, .long (lB f)), (2, .int (zI t)), (3, .long (lB g))] := hl
  refine lv_lload_n hx hb dX3_exchanged_0 rfl (lv_at hl 0 rfl) ?_
  refine lv_iload_n hx hb dX3_exchanged_1 rfl (lv_at hl 1 rfl) ?_
  refine z_lushr hx hb dX3_exchanged_2 (by omega) ?_
  refine lv_lload_n hx hb dX3_exchanged_3 rfl (lv_at hl 2 rfl) ?_
  refine z_land hx hb dX3_exchanged_4 ?_
  refine lv_lload_n hx hb dX3_exchanged_5 rfl (lv_at hl 0 rfl) ?_
  refine lv_lload_n hx hb dX3_exchanged_6 rfl (lv_at hl 2 rfl) ?_
  refine z_land hx hb dX3_exchanged_7 ?_
  refine lv_iload_n hx hb dX3_exchanged_8 rfl (lv_at hl 1 rfl) ?_
  refine z_lshl hx hb dX3_exchanged_9 (by omega) ?_
  refine z_lor hx hb dX3_exchanged_10 ?_
  exact ro_lret hx hb hr hlk dX3_exchanged_11 rfl

set_option maxHeartbeats 4000000 in
set_option maxRecDepth 100000 in
theorem c_X3_mirrored (l : Launch) (G : va_G) (cs : Nat → ClassId) (f : Nat → Bool) (w : Int) (h2 : 0 ≤ w ∧ w ≤ 3) : MRO l yX3_mirrored wsX3_mirrored { frames := 1, cells := 0, slots := 0, locals := 24 } G cs [.long (lB f), .int (zI w)] (fun _ => True) (.long (lB (mirB w f))) := by
  refine m_intro (Pw := (fun _ => True)) (cc := cX3_mirrored) (maxL := 5) (ret := some .long) RX3 (by decide) rfl rfl (Nat.le_of_ble_eq_true rfl) ?_
  intro pP eE sS mM below meth cC hx hb hr hts hown hml hlk hnm hPre hK ls hl
  have hl : lv_has ls 5 [(0, .long (lB f)), (2, .int (zI w))] := hl
  refine lv_lload_n hx hb dX3_mirrored_0 rfl (lv_at hl 0 rfl) ?_
  refine lv_lstore_n (lv' := [(3, .long (lB f)), (0, .long (lB f)), (2, .int (zI w))]) hx hb dX3_mirrored_1 rfl hl (by decide) rfl (fun ls hl => ?_)
  refine lv_iload_n hx hb dX3_mirrored_2 rfl (lv_at hl 2 rfl) ?_
  refine z_iconst (n := 1) hx hb dX3_mirrored_3 ?_
  refine lv_iand hx hb dX3_mirrored_4 ?_
  refine z_top (v' := .int (zI (w % 2))) (congrArg Value.int (zI_and1 h2)) ?_
  refine z_if_eq (tgt := 35) hx hb dX3_mirrored_5 (by decide) (by omega) (fun c1 => ?_) (fun c1 => ?_)
  · skip
    refine lv_iload_n hx hb dX3_mirrored_35 rfl (lv_at hl 2 rfl) ?_
    refine z_iconst (n := 2) hx hb dX3_mirrored_36 ?_
    refine lv_iand hx hb dX3_mirrored_37 ?_
    refine z_top (v' := .int (zI (2 * (w / 2)))) (congrArg Value.int (zI_and2 h2)) ?_
    refine z_if_eq (tgt := 71) hx hb dX3_mirrored_38 (by decide) (by omega) (fun c2 => ?_) (fun c2 => ?_)
    · skip
      refine lv_lload_n hx hb dX3_mirrored_71 rfl (lv_at hl 0 rfl) ?_
      exact ro_lret hx hb hr hlk dX3_mirrored_72 (congrArg Value.long (lB_congr (fun k hk => by unfold mirB; rw [mirK_0 hk (by omega)])))
    · skip
      refine lv_lload_n hx hb dX3_mirrored_41 rfl (lv_at hl 0 rfl) ?_
      refine z_bipush (n := 8) hx hb dX3_mirrored_42 (by decide) ?_
      refine lv_ldc2 (v := (71777214294589695)) hx hb hown (hts (.constantLong RX3 68 (71777214294589695)) (by decide +kernel)) dX3_mirrored_44 ?_
      refine z_top (v' := .long (lB (mk 8))) (congrArg Value.long mk_8) ?_
      refine z_ro (zrS (As := [.long (lB f), .int (zI 8), .long (lB (mk 8))]) (rest := []) (Pw := fun _ => True) ⟨hx, hb, hml, hown, hts⟩ (c_X3_exchanged l G cs 8 f (mk 8) (by decide)) gX3_mirrored_X3_exchanged rfl qX3_exchanged rfl rfl ⟨Nat.le_of_ble_eq_true rfl, Nat.le_of_ble_eq_true rfl⟩ trivial hK hl.1 rfl (Nat.le_of_ble_eq_true rfl) dX3_mirrored_47 ⟨Nat.le_of_ble_eq_true rfl, Nat.le_of_ble_eq_true rfl⟩) ?_
      refine z_top (v' := .long (lB (fun k => f (xk 8 k)))) (congrArg Value.long (exB_x (n := 8) (by decide) f)) ?_
      refine lv_lstore_n (lv' := [(3, .long (lB (fun k => f (xk 8 k)))), (0, .long (lB f)), (2, .int (zI w))]) hx hb dX3_mirrored_50 rfl hl (by decide) rfl (fun ls hl => ?_)
      refine lv_lload_n hx hb dX3_mirrored_51 rfl (lv_at hl 0 rfl) ?_
      refine z_bipush (n := 16) hx hb dX3_mirrored_52 (by decide) ?_
      refine lv_ldc2 (v := (281470681808895)) hx hb hown (hts (.constantLong RX3 70 (281470681808895)) (by decide +kernel)) dX3_mirrored_54 ?_
      refine z_top (v' := .long (lB (mk 16))) (congrArg Value.long mk_16) ?_
      refine z_ro (zrS (As := [.long (lB (fun k => f (xk 8 k))), .int (zI 16), .long (lB (mk 16))]) (rest := []) (Pw := fun _ => True) ⟨hx, hb, hml, hown, hts⟩ (c_X3_exchanged l G cs 16 (fun k => f (xk 8 k)) (mk 16) (by decide)) gX3_mirrored_X3_exchanged rfl qX3_exchanged rfl rfl ⟨Nat.le_of_ble_eq_true rfl, Nat.le_of_ble_eq_true rfl⟩ trivial hK hl.1 rfl (Nat.le_of_ble_eq_true rfl) dX3_mirrored_57 ⟨Nat.le_of_ble_eq_true rfl, Nat.le_of_ble_eq_true rfl⟩) ?_
      refine z_top (v' := .long (lB (fun k => (fun k => f (xk 8 k)) (xk 16 k)))) (congrArg Value.long (exB_x (n := 16) (by decide) (fun k => f (xk 8 k)))) ?_
      refine lv_lstore_n (lv' := [(3, .long (lB (fun k => (fun k => f (xk 8 k)) (xk 16 k)))), (0, .long (lB f)), (2, .int (zI w))]) hx hb dX3_mirrored_60 rfl hl (by decide) rfl (fun ls hl => ?_)
      refine lv_lload_n hx hb dX3_mirrored_61 rfl (lv_at hl 0 rfl) ?_
      refine z_bipush (n := 32) hx hb dX3_mirrored_62 (by decide) ?_
      refine lv_ldc2 (v := (4294967295)) hx hb hown (hts (.constantLong RX3 72 (4294967295)) (by decide +kernel)) dX3_mirrored_64 ?_
      refine z_top (v' := .long (lB (mk 32))) (congrArg Value.long mk_32) ?_
      refine z_ro (zrS (As := [.long (lB (fun k => (fun k => f (xk 8 k)) (xk 16 k))), .int (zI 32), .long (lB (mk 32))]) (rest := []) (Pw := fun _ => True) ⟨hx, hb, hml, hown, hts⟩ (c_X3_exchanged l G cs 32 (fun k => (fun k => f (xk 8 k)) (xk 16 k)) (mk 32) (by decide)) gX3_mirrored_X3_exchanged rfl qX3_exchanged rfl rfl ⟨Nat.le_of_ble_eq_true rfl, Nat.le_of_ble_eq_true rfl⟩ trivial hK hl.1 rfl (Nat.le_of_ble_eq_true rfl) dX3_mirrored_67 ⟨Nat.le_of_ble_eq_true rfl, Nat.le_of_ble_eq_true rfl⟩) ?_
      refine z_top (v' := .long (lB (fun k => f (flY k)))) ((congrArg Value.long (exB_x (n := 32) (by decide) (fun k => (fun k => f (xk 8 k)) (xk 16 k)))).trans (congrArg Value.long (ex_Y f))) ?_
      refine lv_lstore_n (lv' := [(3, .long (lB (fun k => f (flY k)))), (0, .long (lB f)), (2, .int (zI w))]) hx hb dX3_mirrored_70 rfl hl (by decide) rfl (fun ls hl => ?_)
      refine lv_lload_n hx hb dX3_mirrored_71 rfl (lv_at hl 0 rfl) ?_
      exact ro_lret hx hb hr hlk dX3_mirrored_72 (congrArg Value.long (lB_congr (fun k hk => by unfold mirB; rw [mirK_2 (by omega)])))
  · skip
    refine lv_lload_n hx hb dX3_mirrored_8 rfl (lv_at hl 0 rfl) ?_
    refine z_iconst (n := 1) hx hb dX3_mirrored_9 ?_
    refine lv_ldc2 (v := (6148914691236517205)) hx hb hown (hts (.constantLong RX3 58 (6148914691236517205)) (by decide +kernel)) dX3_mirrored_10 ?_
    refine z_top (v' := .long (lB (mk 1))) (congrArg Value.long mk_1) ?_
    refine z_ro (zrS (As := [.long (lB f), .int (zI 1), .long (lB (mk 1))]) (rest := []) (Pw := fun _ => True) ⟨hx, hb, hml, hown, hts⟩ (c_X3_exchanged l G cs 1 f (mk 1) (by decide)) gX3_mirrored_X3_exchanged rfl qX3_exchanged rfl rfl ⟨Nat.le_of_ble_eq_true rfl, Nat.le_of_ble_eq_true rfl⟩ trivial hK hl.1 rfl (Nat.le_of_ble_eq_true rfl) dX3_mirrored_13 ⟨Nat.le_of_ble_eq_true rfl, Nat.le_of_ble_eq_true rfl⟩) ?_
    refine z_top (v' := .long (lB (fun k => f (xk 1 k)))) (congrArg Value.long (exB_x (n := 1) (by decide) f)) ?_
    refine lv_lstore_n (lv' := [(3, .long (lB (fun k => f (xk 1 k)))), (0, .long (lB f)), (2, .int (zI w))]) hx hb dX3_mirrored_16 rfl hl (by decide) rfl (fun ls hl => ?_)
    refine lv_lload_n hx hb dX3_mirrored_17 rfl (lv_at hl 0 rfl) ?_
    refine z_iconst (n := 2) hx hb dX3_mirrored_18 ?_
    refine lv_ldc2 (v := (3689348814741910323)) hx hb hown (hts (.constantLong RX3 64 (3689348814741910323)) (by decide +kernel)) dX3_mirrored_19 ?_
    refine z_top (v' := .long (lB (mk 2))) (congrArg Value.long mk_2) ?_
    refine z_ro (zrS (As := [.long (lB (fun k => f (xk 1 k))), .int (zI 2), .long (lB (mk 2))]) (rest := []) (Pw := fun _ => True) ⟨hx, hb, hml, hown, hts⟩ (c_X3_exchanged l G cs 2 (fun k => f (xk 1 k)) (mk 2) (by decide)) gX3_mirrored_X3_exchanged rfl qX3_exchanged rfl rfl ⟨Nat.le_of_ble_eq_true rfl, Nat.le_of_ble_eq_true rfl⟩ trivial hK hl.1 rfl (Nat.le_of_ble_eq_true rfl) dX3_mirrored_22 ⟨Nat.le_of_ble_eq_true rfl, Nat.le_of_ble_eq_true rfl⟩) ?_
    refine z_top (v' := .long (lB (fun k => (fun k => f (xk 1 k)) (xk 2 k)))) (congrArg Value.long (exB_x (n := 2) (by decide) (fun k => f (xk 1 k)))) ?_
    refine lv_lstore_n (lv' := [(3, .long (lB (fun k => (fun k => f (xk 1 k)) (xk 2 k)))), (0, .long (lB f)), (2, .int (zI w))]) hx hb dX3_mirrored_25 rfl hl (by decide) rfl (fun ls hl => ?_)
    refine lv_lload_n hx hb dX3_mirrored_26 rfl (lv_at hl 0 rfl) ?_
    refine z_iconst (n := 4) hx hb dX3_mirrored_27 ?_
    refine lv_ldc2 (v := (1085102592571150095)) hx hb hown (hts (.constantLong RX3 66 (1085102592571150095)) (by decide +kernel)) dX3_mirrored_28 ?_
    refine z_top (v' := .long (lB (mk 4))) (congrArg Value.long mk_4) ?_
    refine z_ro (zrS (As := [.long (lB (fun k => (fun k => f (xk 1 k)) (xk 2 k))), .int (zI 4), .long (lB (mk 4))]) (rest := []) (Pw := fun _ => True) ⟨hx, hb, hml, hown, hts⟩ (c_X3_exchanged l G cs 4 (fun k => (fun k => f (xk 1 k)) (xk 2 k)) (mk 4) (by decide)) gX3_mirrored_X3_exchanged rfl qX3_exchanged rfl rfl ⟨Nat.le_of_ble_eq_true rfl, Nat.le_of_ble_eq_true rfl⟩ trivial hK hl.1 rfl (Nat.le_of_ble_eq_true rfl) dX3_mirrored_31 ⟨Nat.le_of_ble_eq_true rfl, Nat.le_of_ble_eq_true rfl⟩) ?_
    refine z_top (v' := .long (lB (fun k => f (flX k)))) ((congrArg Value.long (exB_x (n := 4) (by decide) (fun k => (fun k => f (xk 1 k)) (xk 2 k)))).trans (congrArg Value.long (ex_X f))) ?_
    refine lv_lstore_n (lv' := [(3, .long (lB (fun k => f (flX k)))), (0, .long (lB f)), (2, .int (zI w))]) hx hb dX3_mirrored_34 rfl hl (by decide) rfl (fun ls hl => ?_)
    refine lv_iload_n hx hb dX3_mirrored_35 rfl (lv_at hl 2 rfl) ?_
    refine z_iconst (n := 2) hx hb dX3_mirrored_36 ?_
    refine lv_iand hx hb dX3_mirrored_37 ?_
    refine z_top (v' := .int (zI (2 * (w / 2)))) (congrArg Value.int (zI_and2 h2)) ?_
    refine z_if_eq (tgt := 71) hx hb dX3_mirrored_38 (by decide) (by omega) (fun c3 => ?_) (fun c3 => ?_)
    · skip
      refine lv_lload_n hx hb dX3_mirrored_71 rfl (lv_at hl 0 rfl) ?_
      exact ro_lret hx hb hr hlk dX3_mirrored_72 (congrArg Value.long (lB_congr (fun k hk => by unfold mirB; rw [mirK_1 (by omega)])))
    · skip
      refine lv_lload_n hx hb dX3_mirrored_41 rfl (lv_at hl 0 rfl) ?_
      refine z_bipush (n := 8) hx hb dX3_mirrored_42 (by decide) ?_
      refine lv_ldc2 (v := (71777214294589695)) hx hb hown (hts (.constantLong RX3 68 (71777214294589695)) (by decide +kernel)) dX3_mirrored_44 ?_
      refine z_top (v' := .long (lB (mk 8))) (congrArg Value.long mk_8) ?_
      refine z_ro (zrS (As := [.long (lB (fun k => f (flX k))), .int (zI 8), .long (lB (mk 8))]) (rest := []) (Pw := fun _ => True) ⟨hx, hb, hml, hown, hts⟩ (c_X3_exchanged l G cs 8 (fun k => f (flX k)) (mk 8) (by decide)) gX3_mirrored_X3_exchanged rfl qX3_exchanged rfl rfl ⟨Nat.le_of_ble_eq_true rfl, Nat.le_of_ble_eq_true rfl⟩ trivial hK hl.1 rfl (Nat.le_of_ble_eq_true rfl) dX3_mirrored_47 ⟨Nat.le_of_ble_eq_true rfl, Nat.le_of_ble_eq_true rfl⟩) ?_
      refine z_top (v' := .long (lB (fun k => (fun k => f (flX k)) (xk 8 k)))) (congrArg Value.long (exB_x (n := 8) (by decide) (fun k => f (flX k)))) ?_
      refine lv_lstore_n (lv' := [(3, .long (lB (fun k => (fun k => f (flX k)) (xk 8 k)))), (0, .long (lB f)), (2, .int (zI w))]) hx hb dX3_mirrored_50 rfl hl (by decide) rfl (fun ls hl => ?_)
      refine lv_lload_n hx hb dX3_mirrored_51 rfl (lv_at hl 0 rfl) ?_
      refine z_bipush (n := 16) hx hb dX3_mirrored_52 (by decide) ?_
      refine lv_ldc2 (v := (281470681808895)) hx hb hown (hts (.constantLong RX3 70 (281470681808895)) (by decide +kernel)) dX3_mirrored_54 ?_
      refine z_top (v' := .long (lB (mk 16))) (congrArg Value.long mk_16) ?_
      refine z_ro (zrS (As := [.long (lB (fun k => (fun k => f (flX k)) (xk 8 k))), .int (zI 16), .long (lB (mk 16))]) (rest := []) (Pw := fun _ => True) ⟨hx, hb, hml, hown, hts⟩ (c_X3_exchanged l G cs 16 (fun k => (fun k => f (flX k)) (xk 8 k)) (mk 16) (by decide)) gX3_mirrored_X3_exchanged rfl qX3_exchanged rfl rfl ⟨Nat.le_of_ble_eq_true rfl, Nat.le_of_ble_eq_true rfl⟩ trivial hK hl.1 rfl (Nat.le_of_ble_eq_true rfl) dX3_mirrored_57 ⟨Nat.le_of_ble_eq_true rfl, Nat.le_of_ble_eq_true rfl⟩) ?_
      refine z_top (v' := .long (lB (fun k => (fun k => (fun k => f (flX k)) (xk 8 k)) (xk 16 k)))) (congrArg Value.long (exB_x (n := 16) (by decide) (fun k => (fun k => f (flX k)) (xk 8 k)))) ?_
      refine lv_lstore_n (lv' := [(3, .long (lB (fun k => (fun k => (fun k => f (flX k)) (xk 8 k)) (xk 16 k)))), (0, .long (lB f)), (2, .int (zI w))]) hx hb dX3_mirrored_60 rfl hl (by decide) rfl (fun ls hl => ?_)
      refine lv_lload_n hx hb dX3_mirrored_61 rfl (lv_at hl 0 rfl) ?_
      refine z_bipush (n := 32) hx hb dX3_mirrored_62 (by decide) ?_
      refine lv_ldc2 (v := (4294967295)) hx hb hown (hts (.constantLong RX3 72 (4294967295)) (by decide +kernel)) dX3_mirrored_64 ?_
      refine z_top (v' := .long (lB (mk 32))) (congrArg Value.long mk_32) ?_
      refine z_ro (zrS (As := [.long (lB (fun k => (fun k => (fun k => f (flX k)) (xk 8 k)) (xk 16 k))), .int (zI 32), .long (lB (mk 32))]) (rest := []) (Pw := fun _ => True) ⟨hx, hb, hml, hown, hts⟩ (c_X3_exchanged l G cs 32 (fun k => (fun k => (fun k => f (flX k)) (xk 8 k)) (xk 16 k)) (mk 32) (by decide)) gX3_mirrored_X3_exchanged rfl qX3_exchanged rfl rfl ⟨Nat.le_of_ble_eq_true rfl, Nat.le_of_ble_eq_true rfl⟩ trivial hK hl.1 rfl (Nat.le_of_ble_eq_true rfl) dX3_mirrored_67 ⟨Nat.le_of_ble_eq_true rfl, Nat.le_of_ble_eq_true rfl⟩) ?_
      refine z_top (v' := .long (lB (fun k => (fun k => f (flX k)) (flY k)))) ((congrArg Value.long (exB_x (n := 32) (by decide) (fun k => (fun k => (fun k => f (flX k)) (xk 8 k)) (xk 16 k)))).trans (congrArg Value.long (ex_Y (fun k => f (flX k))))) ?_
      refine lv_lstore_n (lv' := [(3, .long (lB (fun k => (fun k => f (flX k)) (flY k)))), (0, .long (lB f)), (2, .int (zI w))]) hx hb dX3_mirrored_70 rfl hl (by decide) rfl (fun ls hl => ?_)
      refine lv_lload_n hx hb dX3_mirrored_71 rfl (lv_at hl 0 rfl) ?_
      exact ro_lret hx hb hr hlk dX3_mirrored_72 (congrArg Value.long (lB_congr (fun k hk => by unfold mirB; rw [mirK_3 hk (by omega)])))

set_option maxHeartbeats 4000000 in
set_option maxRecDepth 100000 in
theorem c_X3_filledInRow (l : Launch) (G : va_G) (cs : Nat → ClassId) (b : Nat → Nat) (S : SS) (q w r : Int) (h1 : 0 ≤ q ∧ q < 24) (h2 : 0 ≤ w ∧ w ≤ 3) (h3 : 0 ≤ r ∧ r < 8) : MRO l yX3_filledInRow wsX3_filledInRow { frames := 2, cells := 0, slots := 0, locals := 48 } G cs [.ref (b 1), .int (zI q), .int (zI w), .int (zI r)] (fun H => va_P G vwCl (stW cs b S) H) (.int (iB (fun k => decide (k < 8) && (fun j => bL (S 5) q j || bH (S 5) q j) (mirK w (k + (8 * r).toNat))))) := by
  refine m_intro (Pw := (fun H => va_P G vwCl (stW cs b S) H)) (cc := cX3_filledInRow) (maxL := 6) (ret := some .int) RX3 (by decide) rfl rfl (Nat.le_of_ble_eq_true rfl) ?_
  intro pP eE sS mM below meth cC hx hb hr hts hown hml hlk hnm hPre hK ls hl
  have hl : lv_has ls 6 [(0, .ref (b 1)), (1, .int (zI q)), (2, .int (zI w)), (3, .int (zI r))] := hl
  have hPs := hPre
  refine lv_aload_n hx hb dX3_filledInRow_0 rfl (lv_at hl 0 rfl) ?_
  refine lv_iload_n hx hb dX3_filledInRow_1 rfl (lv_at hl 1 rfl) ?_
  refine z_ro (zrV (As := [.int (zI q)]) (rest := []) ⟨hx, hb, hml, hown, hts⟩ (c_X3_lowOf l G cs b S q (by omega)) gX3_filledInRow_X3_lowOf rfl qX3_lowOf rfl rfl ⟨Nat.le_of_ble_eq_true rfl, Nat.le_of_ble_eq_true rfl⟩ hPs hK (va_recv hK.1 hPs (ci := 3) (q0 := 1) rfl rfl) hl.1 rfl (Nat.le_of_ble_eq_true rfl) dX3_filledInRow_2 ⟨Nat.le_of_ble_eq_true rfl, Nat.le_of_ble_eq_true rfl⟩) ?_
  refine lv_aload_n hx hb dX3_filledInRow_5 rfl (lv_at hl 0 rfl) ?_
  refine lv_iload_n hx hb dX3_filledInRow_6 rfl (lv_at hl 1 rfl) ?_
  refine z_ro (zrV (As := [.int (zI q)]) (rest := [.long (lB (bL (S 5) q))]) ⟨hx, hb, hml, hown, hts⟩ (c_X3_highOf l G cs b S q (by omega)) gX3_filledInRow_X3_highOf rfl qX3_highOf rfl rfl ⟨Nat.le_of_ble_eq_true rfl, Nat.le_of_ble_eq_true rfl⟩ hPs hK (va_recv hK.1 hPs (ci := 3) (q0 := 1) rfl rfl) hl.1 rfl (Nat.le_of_ble_eq_true rfl) dX3_filledInRow_7 ⟨Nat.le_of_ble_eq_true rfl, Nat.le_of_ble_eq_true rfl⟩) ?_
  refine z_lor hx hb dX3_filledInRow_10 ?_
  refine lv_iload_n hx hb dX3_filledInRow_11 rfl (lv_at hl 2 rfl) ?_
  refine z_ro (zrS (As := [.long (lB (fun k => (bL (S 5) q) k || (bH (S 5) q) k)), .int (zI w)]) (rest := []) (Pw := fun _ => True) ⟨hx, hb, hml, hown, hts⟩ (c_X3_mirrored l G cs (fun k => (bL (S 5) q) k || (bH (S 5) q) k) w (by omega)) gX3_filledInRow_X3_mirrored rfl qX3_mirrored rfl rfl ⟨Nat.le_of_ble_eq_true rfl, Nat.le_of_ble_eq_true rfl⟩ trivial hK hl.1 rfl (Nat.le_of_ble_eq_true rfl) dX3_filledInRow_12 ⟨Nat.le_of_ble_eq_true rfl, Nat.le_of_ble_eq_true rfl⟩) ?_
  refine lv_lstore (lv' := [(4, .long (lB (mirB w (fun k => (bL (S 5) q) k || (bH (S 5) q) k)))), (0, .ref (b 1)), (1, .int (zI q)), (2, .int (zI w)), (3, .int (zI r))]) hx hb dX3_filledInRow_15 hl (by decide) rfl (fun ls hl => ?_)
  refine lv_lload hx hb dX3_filledInRow_17 (lv_at hl 0 rfl) ?_
  refine z_bipush (n := 8) hx hb dX3_filledInRow_19 (by decide) ?_
  refine lv_iload_n hx hb dX3_filledInRow_21 rfl (lv_at hl 4 rfl) ?_
  refine z_imul hx hb dX3_filledInRow_22 ?_
  refine z_lushr hx hb dX3_filledInRow_23 (by omega) ?_
  refine lv_ldc2 (v := (255)) hx hb hown (hts (.constantLong RX3 45 (255)) (by decide +kernel)) dX3_filledInRow_24 ?_
  refine z_top (v' := .long (lB (fun k => decide (k < 8)))) (congrArg Value.long lB_255) ?_
  refine z_land hx hb dX3_filledInRow_27 ?_
  refine z_l2iB hx hb dX3_filledInRow_28 ?_
  exact ro_Iret hx hb hr hlk dX3_filledInRow_29 (congrArg Value.int (iB_congr (fun k hk => fir_bit (f := fun j => bL (S 5) q (mirK w j) || bH (S 5) q (mirK w j)) (by omega))))

set_option maxHeartbeats 4000000 in
set_option maxRecDepth 100000 in
theorem c_X3_wayToMatch (l : Launch) (G : va_G) (cs : Nat → ClassId) (b : Nat → Nat) (S : SS) (q w o : Int) (wX : ∀ j, 0 ≤ j → j < 1536 → 0 ≤ S 5 j ∧ S 5 j ≤ 3) (h1 : 0 ≤ q ∧ q < 24) (h2 : 0 ≤ w ∧ w ≤ 3) (h3 : 0 ≤ o ∧ o < 24) : MRO l yX3_wayToMatch wsX3_wayToMatch { frames := 2, cells := 0, slots := 0, locals := 48 } G cs [.ref (b 1), .int (zI q), .int (zI w), .int (zI o)] (fun H => va_P G vwCl (stW cs b S) H) (.int (zI (wayF S q w o))) := by
  refine m_intro (Pw := (fun H => va_P G vwCl (stW cs b S) H)) (cc := cX3_wayToMatch) (maxL := 9) (ret := some .int) RX3 (by decide) rfl rfl (Nat.le_of_ble_eq_true rfl) ?_
  intro pP eE sS mM below meth cC hx hb hr hts hown hml hlk hnm hPre hK ls hl
  have hl : lv_has ls 9 [(0, .ref (b 1)), (1, .int (zI q)), (2, .int (zI w)), (3, .int (zI o))] := hl
  have hPs := hPre
  refine lv_aload_n hx hb dX3_wayToMatch_0 rfl (lv_at hl 0 rfl) ?_
  refine lv_iload_n hx hb dX3_wayToMatch_1 rfl (lv_at hl 1 rfl) ?_
  refine z_ro (zrV (As := [.int (zI q)]) (rest := []) ⟨hx, hb, hml, hown, hts⟩ (c_X3_lowOf l G cs b S q (by omega)) gX3_wayToMatch_X3_lowOf rfl qX3_lowOf rfl rfl ⟨Nat.le_of_ble_eq_true rfl, Nat.le_of_ble_eq_true rfl⟩ hPs hK (va_recv hK.1 hPs (ci := 3) (q0 := 1) rfl rfl) hl.1 rfl (Nat.le_of_ble_eq_true rfl) dX3_wayToMatch_2 ⟨Nat.le_of_ble_eq_true rfl, Nat.le_of_ble_eq_true rfl⟩) ?_
  refine lv_iload_n hx hb dX3_wayToMatch_5 rfl (lv_at hl 2 rfl) ?_
  refine z_ro (zrS (As := [.long (lB (bL (S 5) q)), .int (zI w)]) (rest := []) (Pw := fun _ => True) ⟨hx, hb, hml, hown, hts⟩ (c_X3_mirrored l G cs (bL (S 5) q) w (by omega)) gX3_wayToMatch_X3_mirrored rfl qX3_mirrored rfl rfl ⟨Nat.le_of_ble_eq_true rfl, Nat.le_of_ble_eq_true rfl⟩ trivial hK hl.1 rfl (Nat.le_of_ble_eq_true rfl) dX3_wayToMatch_6 ⟨Nat.le_of_ble_eq_true rfl, Nat.le_of_ble_eq_true rfl⟩) ?_
  refine lv_lstore (lv' := [(4, .long (lB (mirB w (bL (S 5) q)))), (0, .ref (b 1)), (1, .int (zI q)), (2, .int (zI w)), (3, .int (zI o))]) hx hb dX3_wayToMatch_9 hl (by decide) rfl (fun ls hl => ?_)
  refine lv_aload_n hx hb dX3_wayToMatch_11 rfl (lv_at hl 1 rfl) ?_
  refine lv_iload_n hx hb dX3_wayToMatch_12 rfl (lv_at hl 2 rfl) ?_
  refine z_ro (zrV (As := [.int (zI q)]) (rest := []) ⟨hx, hb, hml, hown, hts⟩ (c_X3_highOf l G cs b S q (by omega)) gX3_wayToMatch_X3_highOf rfl qX3_highOf rfl rfl ⟨Nat.le_of_ble_eq_true rfl, Nat.le_of_ble_eq_true rfl⟩ hPs hK (va_recv hK.1 hPs (ci := 3) (q0 := 1) rfl rfl) hl.1 rfl (Nat.le_of_ble_eq_true rfl) dX3_wayToMatch_13 ⟨Nat.le_of_ble_eq_true rfl, Nat.le_of_ble_eq_true rfl⟩) ?_
  refine lv_iload_n hx hb dX3_wayToMatch_16 rfl (lv_at hl 3 rfl) ?_
  refine z_ro (zrS (As := [.long (lB (bH (S 5) q)), .int (zI w)]) (rest := []) (Pw := fun _ => True) ⟨hx, hb, hml, hown, hts⟩ (c_X3_mirrored l G cs (bH (S 5) q) w (by omega)) gX3_wayToMatch_X3_mirrored rfl qX3_mirrored rfl rfl ⟨Nat.le_of_ble_eq_true rfl, Nat.le_of_ble_eq_true rfl⟩ trivial hK hl.1 rfl (Nat.le_of_ble_eq_true rfl) dX3_wayToMatch_17 ⟨Nat.le_of_ble_eq_true rfl, Nat.le_of_ble_eq_true rfl⟩) ?_
  refine lv_lstore (lv' := [(6, .long (lB (mirB w (bH (S 5) q)))), (4, .long (lB (mirB w (bL (S 5) q)))), (0, .ref (b 1)), (1, .int (zI q)), (2, .int (zI w)), (3, .int (zI o))]) hx hb dX3_wayToMatch_20 hl (by decide) rfl (fun ls hl => ?_)
  refine z_iconst (n := 0) hx hb dX3_wayToMatch_22 ?_
  refine lv_istore (lv' := [(8, .int (zI 0)), (6, .long (lB (mirB w (bH (S 5) q)))), (4, .long (lB (mirB w (bL (S 5) q)))), (0, .ref (b 1)), (1, .int (zI q)), (2, .int (zI w)), (3, .int (zI o))]) hx hb dX3_wayToMatch_23 hl (by decide) rfl (fun ls hl => ?_)
  -- loop 25
  refine z_loop (nL := 9) (fun (i : Int) => [(0, .ref (b 1)), (3, .int (zI o)), (4, .long (lB (mirB w (bL (S 5) q)))), (6, .long (lB (mirB w (bH (S 5) q)))), (8, .int (zI i))]) (fun (i : Int) => (0 ≤ i ∧ i ≤ 4) ∧ ∀ j, 0 ≤ j → j < i → sameP S o j q w = false) (fun (i : Int) => (4 - i).toNat) 0 ⟨by omega, fun j h1 h2 => by omega⟩ (lv_sub hl [3, 6, 2, 1, 0] rfl) (fun i hI ih ls hl => ?_)
  have hl : lv_has ls 9 [(0, .ref (b 1)), (3, .int (zI o)), (4, .long (lB (mirB w (bL (S 5) q)))), (6, .long (lB (mirB w (bH (S 5) q)))), (8, .int (zI i))] := hl
  obtain ⟨hI, hJ⟩ := hI
  refine lv_iload hx hb dX3_wayToMatch_25 (lv_at hl 4 rfl) ?_
  refine z_iconst (n := 4) hx hb dX3_wayToMatch_27 ?_
  refine z_icmp_ge (tgt := 72) hx hb dX3_wayToMatch_28 (by decide) (by omega) (by omega) (fun c1 => ?_) (fun c1 => ?_)
  · skip
    refine z_bipush (n := -5) hx hb dX3_wayToMatch_72 (by decide) ?_
    exact ro_iret hx hb hr hlk dX3_wayToMatch_74 (congrArg (fun z => Value.int (zI z)) (by exact (ff_none (fun j q1 q2 => hJ j q1 (by omega))).symm))
  · skip
    refine lv_aload_n hx hb dX3_wayToMatch_31 rfl (lv_at hl 0 rfl) ?_
    refine lv_iload_n hx hb dX3_wayToMatch_32 rfl (lv_at hl 1 rfl) ?_
    refine z_ro (zrV (As := [.int (zI o)]) (rest := []) ⟨hx, hb, hml, hown, hts⟩ (c_X3_lowOf l G cs b S o (by omega)) gX3_wayToMatch_X3_lowOf rfl qX3_lowOf rfl rfl ⟨Nat.le_of_ble_eq_true rfl, Nat.le_of_ble_eq_true rfl⟩ hPs hK (va_recv hK.1 hPs (ci := 3) (q0 := 1) rfl rfl) hl.1 rfl (Nat.le_of_ble_eq_true rfl) dX3_wayToMatch_33 ⟨Nat.le_of_ble_eq_true rfl, Nat.le_of_ble_eq_true rfl⟩) ?_
    refine lv_iload hx hb dX3_wayToMatch_36 (lv_at hl 4 rfl) ?_
    refine z_ro (zrS (As := [.long (lB (bL (S 5) o)), .int (zI i)]) (rest := []) (Pw := fun _ => True) ⟨hx, hb, hml, hown, hts⟩ (c_X3_mirrored l G cs (bL (S 5) o) i (by omega)) gX3_wayToMatch_X3_mirrored rfl qX3_mirrored rfl rfl ⟨Nat.le_of_ble_eq_true rfl, Nat.le_of_ble_eq_true rfl⟩ trivial hK hl.1 rfl (Nat.le_of_ble_eq_true rfl) dX3_wayToMatch_38 ⟨Nat.le_of_ble_eq_true rfl, Nat.le_of_ble_eq_true rfl⟩) ?_
    refine lv_lload hx hb dX3_wayToMatch_41 (lv_at hl 2 rfl) ?_
    refine W.lcmp hx hb dX3_wayToMatch_43 ?_
    refine z_top (v' := .int (lg_cmp (lB (mirB i (bL (S 5) o))) (lB (mirB w (bL (S 5) q))))) rfl ?_
    refine lv_if_ne (tgt := 66) hx hb dX3_wayToMatch_44 (by decide) (fun c1 => ?_) (fun c1 => ?_)
    · skip
      refine z_iinc (k := 4) (lv' := [(8, .int (zI (i + 1))), (0, .ref (b 1)), (3, .int (zI o)), (4, .long (lB (mirB w (bL (S 5) q)))), (6, .long (lB (mirB w (bH (S 5) q))))]) hx hb dX3_wayToMatch_66 hl rfl (by decide) rfl (fun ls hl => ?_)
      refine lv_goto (tgt := 25) hx hb dX3_wayToMatch_69 (by decide) ?_
      exact ih (i + 1) ⟨by omega, fun j q1 q2 => by
      by_cases e : j = i
      · subst e; rw [Bool.eq_false_iff]; intro h; have h9 := (sameP_iff wX h3 h1).mp h; first | exact c1 (lg_cmp_0.mpr h9.1) | exact c2 (lg_cmp_0.mpr h9.2)
      · exact hJ j q1 (by omega)⟩ (by omega) ls (lv_sub hl [1, 2, 3, 4, 0] rfl)
    · skip
      refine lv_aload_n hx hb dX3_wayToMatch_47 rfl (lv_at hl 0 rfl) ?_
      refine lv_iload_n hx hb dX3_wayToMatch_48 rfl (lv_at hl 1 rfl) ?_
      refine z_ro (zrV (As := [.int (zI o)]) (rest := []) ⟨hx, hb, hml, hown, hts⟩ (c_X3_highOf l G cs b S o (by omega)) gX3_wayToMatch_X3_highOf rfl qX3_highOf rfl rfl ⟨Nat.le_of_ble_eq_true rfl, Nat.le_of_ble_eq_true rfl⟩ hPs hK (va_recv hK.1 hPs (ci := 3) (q0 := 1) rfl rfl) hl.1 rfl (Nat.le_of_ble_eq_true rfl) dX3_wayToMatch_49 ⟨Nat.le_of_ble_eq_true rfl, Nat.le_of_ble_eq_true rfl⟩) ?_
      refine lv_iload hx hb dX3_wayToMatch_52 (lv_at hl 4 rfl) ?_
      refine z_ro (zrS (As := [.long (lB (bH (S 5) o)), .int (zI i)]) (rest := []) (Pw := fun _ => True) ⟨hx, hb, hml, hown, hts⟩ (c_X3_mirrored l G cs (bH (S 5) o) i (by omega)) gX3_wayToMatch_X3_mirrored rfl qX3_mirrored rfl rfl ⟨Nat.le_of_ble_eq_true rfl, Nat.le_of_ble_eq_true rfl⟩ trivial hK hl.1 rfl (Nat.le_of_ble_eq_true rfl) dX3_wayToMatch_54 ⟨Nat.le_of_ble_eq_true rfl, Nat.le_of_ble_eq_true rfl⟩) ?_
      refine lv_lload hx hb dX3_wayToMatch_57 (lv_at hl 3 rfl) ?_
      refine W.lcmp hx hb dX3_wayToMatch_59 ?_
      refine z_top (v' := .int (lg_cmp (lB (mirB i (bH (S 5) o))) (lB (mirB w (bH (S 5) q))))) rfl ?_
      refine lv_if_ne (tgt := 66) hx hb dX3_wayToMatch_60 (by decide) (fun c2 => ?_) (fun c2 => ?_)
      · skip
        refine z_iinc (k := 4) (lv' := [(8, .int (zI (i + 1))), (0, .ref (b 1)), (3, .int (zI o)), (4, .long (lB (mirB w (bL (S 5) q)))), (6, .long (lB (mirB w (bH (S 5) q))))]) hx hb dX3_wayToMatch_66 hl rfl (by decide) rfl (fun ls hl => ?_)
        refine lv_goto (tgt := 25) hx hb dX3_wayToMatch_69 (by decide) ?_
        exact ih (i + 1) ⟨by omega, fun j q1 q2 => by
      by_cases e : j = i
      · subst e; rw [Bool.eq_false_iff]; intro h; have h9 := (sameP_iff wX h3 h1).mp h; first | exact c1 (lg_cmp_0.mpr h9.1) | exact c2 (lg_cmp_0.mpr h9.2)
      · exact hJ j q1 (by omega)⟩ (by omega) ls (lv_sub hl [1, 2, 3, 4, 0] rfl)
      · skip
        refine lv_iload hx hb dX3_wayToMatch_63 (lv_at hl 4 rfl) ?_
        exact ro_iret hx hb hr hlk dX3_wayToMatch_65 (congrArg (fun z => Value.int (zI z)) (by exact (ff_hit i (fun j q1 q2 => hJ j q1 q2) hI.1 (by omega) ((sameP_iff wX h3 h1).mpr ⟨lg_cmp_0.mp c1, lg_cmp_0.mp c2⟩)).symm))

set_option maxHeartbeats 4000000 in
set_option maxRecDepth 100000 in
theorem c_X3_lowestAlike (l : Launch) (G : va_G) (cs : Nat → ClassId) (b : Nat → Nat) (S : SS) (q : Int) (wf : WF S) (h1 : 0 ≤ q ∧ q < 24) : MRO l yX3_lowestAlike wsX3_lowestAlike { frames := 3, cells := 0, slots := 0, locals := 76 } G cs [.ref (b 1), .int (zI q)] (fun H => va_P G vwCl (stW cs b S) H) (.int (zI (lowA S q))) := by
  refine m_intro (Pw := (fun H => va_P G vwCl (stW cs b S) H)) (cc := cX3_lowestAlike) (maxL := 3) (ret := some .int) RX3 (by decide) rfl rfl (Nat.le_of_ble_eq_true rfl) ?_
  intro pP eE sS mM below meth cC hx hb hr hts hown hml hlk hnm hPre hK ls hl
  have hl : lv_has ls 3 [(0, .ref (b 1)), (1, .int (zI q))] := hl
  have hPs := hPre
  refine z_iconst (n := 0) hx hb dX3_lowestAlike_0 ?_
  refine lv_istore_n (lv' := [(2, .int (zI 0)), (0, .ref (b 1)), (1, .int (zI q))]) hx hb dX3_lowestAlike_1 rfl hl (by decide) rfl (fun ls hl => ?_)
  -- loop 2
  refine z_loop (nL := 3) (fun (i : Int) => [(0, .ref (b 1)), (1, .int (zI q)), (2, .int (zI i))]) (fun (i : Int) => (0 ≤ i ∧ i ≤ q) ∧ ∀ j, 0 ≤ j → j < i → alikeB S q j = false) (fun (i : Int) => (q - i).toNat) 0 ⟨by omega, fun j h1 h2 => by omega⟩ (lv_sub hl [1, 2, 0] rfl) (fun i hI ih ls hl => ?_)
  have hl : lv_has ls 3 [(0, .ref (b 1)), (1, .int (zI q)), (2, .int (zI i))] := hl
  obtain ⟨hI, hJ⟩ := hI
  have hw := wayF_r S q 0 i
  refine lv_iload_n hx hb dX3_lowestAlike_2 rfl (lv_at hl 2 rfl) ?_
  refine lv_iload_n hx hb dX3_lowestAlike_3 rfl (lv_at hl 1 rfl) ?_
  refine z_icmp_ge (tgt := 27) hx hb dX3_lowestAlike_4 (by decide) (by omega) (by omega) (fun c1 => ?_) (fun c1 => ?_)
  · skip
    refine lv_iload_n hx hb dX3_lowestAlike_27 rfl (lv_at hl 1 rfl) ?_
    exact ro_iret hx hb hr hlk dX3_lowestAlike_28 (congrArg (fun z => Value.int (zI z)) (by rw [lowA, ff_none (fun j q1 q2 => hJ j q1 (by omega)), if_pos rfl]))
  · skip
    refine lv_aload_n hx hb dX3_lowestAlike_7 rfl (lv_at hl 0 rfl) ?_
    refine lv_iload_n hx hb dX3_lowestAlike_8 rfl (lv_at hl 1 rfl) ?_
    refine z_iconst (n := 0) hx hb dX3_lowestAlike_9 ?_
    refine lv_iload_n hx hb dX3_lowestAlike_10 rfl (lv_at hl 2 rfl) ?_
    refine z_ro (zrV (As := [.int (zI q), .int (zI 0), .int (zI i)]) (rest := []) ⟨hx, hb, hml, hown, hts⟩ (c_X3_wayToMatch l G cs b S q 0 i wf.2.2.2.2.2.2.2.2 (by omega) (by omega) (by omega)) gX3_lowestAlike_X3_wayToMatch rfl qX3_wayToMatch rfl rfl ⟨Nat.le_of_ble_eq_true rfl, Nat.le_of_ble_eq_true rfl⟩ hPs hK (va_recv hK.1 hPs (ci := 3) (q0 := 1) rfl rfl) hl.1 rfl (Nat.le_of_ble_eq_true rfl) dX3_lowestAlike_11 ⟨Nat.le_of_ble_eq_true rfl, Nat.le_of_ble_eq_true rfl⟩) ?_
    refine z_bipush (n := -5) hx hb dX3_lowestAlike_14 (by decide) ?_
    refine z_icmp_eq (tgt := 21) hx hb dX3_lowestAlike_16 (by decide) (by omega) (by omega) (fun c2 => ?_) (fun c2 => ?_)
    · skip
      refine z_iinc (k := 2) (lv' := [(2, .int (zI (i + 1))), (0, .ref (b 1)), (1, .int (zI q))]) hx hb dX3_lowestAlike_21 hl rfl (by decide) rfl (fun ls hl => ?_)
      refine lv_goto (tgt := 2) hx hb dX3_lowestAlike_24 (by decide) ?_
      exact ih (i + 1) ⟨by omega, fun j q1 q2 => by
      by_cases e : j = i
      · subst e; simp only [alikeB, decide_eq_false_iff_not]; omega
      · exact hJ j q1 (by omega)⟩ (by omega) ls (lv_sub hl [1, 2, 0] rfl)
    · skip
      refine lv_iload_n hx hb dX3_lowestAlike_19 rfl (lv_at hl 2 rfl) ?_
      exact ro_iret hx hb hr hlk dX3_lowestAlike_20 (congrArg (fun z => Value.int (zI z)) (by rw [lowA, ff_hit i (fun j q1 q2 => hJ j q1 q2) hI.1 (by omega) (by simp only [alikeB, decide_eq_true_eq]; omega), if_neg (by omega)]))
