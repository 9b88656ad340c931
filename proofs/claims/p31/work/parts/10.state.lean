set_option maxHeartbeats 4000000 in
set_option maxRecDepth 100000 in
theorem c_X4_property (l : Launch) (G : va_G) (cs : Nat → ClassId) (b : Nat → Nat) (S : SS) (x w : Int) (h1 : 0 ≤ x ∧ x < 20) (h2 : 0 ≤ w ∧ w < 6) : MRO l yX4_property wsX4_property { frames := 0, cells := 0, slots := 0, locals := 0 } G cs [.ref (b 0), .int (zI x), .int (zI w)] (fun H => va_P G vwCl (stW cs b S) H) (.int (zI (S 1 (6 * x + w)))) := by
  refine m_intro (Pw := (fun H => va_P G vwCl (stW cs b S) H)) (cc := cX4_property) (maxL := 4) (ret := some .int) RX4 (by decide) rfl rfl (Nat.le_of_ble_eq_true rfl) ?_
  intro pP eE sS mM below meth cC hx hb hr hts hown hml hlk hnm hPre hK ls hl
  have hl : lv_has ls 4 [(0, .ref (b 0)), (1, .int (zI x)), (2, .int (zI w))] := hl
  have hPs := hPre
  have hi4 : ∀ w ∈ u_ws RX4 TX4 9, w ∈ wsX4_property := by decide +kernel
  refine z_bipush (n := 6) hx hb dX4_property_0 (by decide) ?_
  refine lv_iload_n hx hb dX4_property_2 rfl (lv_at hl 1 rfl) ?_
  refine z_imul hx hb dX4_property_3 ?_
  refine lv_iload_n hx hb dX4_property_4 rfl (lv_at hl 2 rfl) ?_
  refine z_iadd hx hb dX4_property_5 ?_
  refine lv_istore_n (lv' := [(3, .int (zI ((6 * x) + w))), (0, .ref (b 0)), (1, .int (zI x)), (2, .int (zI w))]) hx hb dX4_property_6 rfl hl (by decide) rfl (fun ls hl => ?_)
  refine lv_iload_n hx hb dX4_property_7 rfl (lv_at hl 0 rfl) ?_
  refine z_if_lt (tgt := 29) hx hb dX4_property_8 (by decide) (by omega) (fun c1 => ?_) (fun c1 => ?_)
  · skip
    exfalso; omega
  · skip
    refine lv_iload_n hx hb dX4_property_11 rfl (lv_at hl 0 rfl) ?_
    refine lv_aload_n hx hb dX4_property_12 rfl (lv_at hl 1 rfl) ?_
    refine va_get (D := G) (ci := 4) (v := .ref (b 4)) (C := RX4) (T := TX4) (N := 9) hx hb hts hi4 hown hK.1 hPs 0 rfl rfl 5 (by decide) (hts (.fieldLink RX4 22 "SpriteLines$State" "properties" "[I") (by decide +kernel)) (fun _ h9 => h9) rfl dX4_property_13 ?_
    refine z_alen hx hb hK.1 hPs 4 0 rfl rfl dX4_property_16 ?_
    refine z_topi (b := 120) rfl ?_
    refine z_icmp_ge (tgt := 29) hx hb dX4_property_17 (by decide) (by omega) (by omega) (fun c2 => ?_) (fun c2 => ?_)
    · skip
      exfalso; omega
    · skip
      refine lv_aload_n hx hb dX4_property_20 rfl (lv_at hl 1 rfl) ?_
      refine va_get (D := G) (ci := 4) (v := .ref (b 4)) (C := RX4) (T := TX4) (N := 9) hx hb hts hi4 hown hK.1 hPs 0 rfl rfl 5 (by decide) (hts (.fieldLink RX4 22 "SpriteLines$State" "properties" "[I") (by decide +kernel)) (fun _ h9 => h9) rfl dX4_property_21 ?_
      refine lv_iload_n hx hb dX4_property_24 rfl (lv_at hl 0 rfl) ?_
      refine z_iald hx hb hK.1 hPs 4 0 (F := S 1) rfl rfl (by omega) (by decide) dX4_property_25 ?_
      refine lv_goto (tgt := 30) hx hb dX4_property_26 (by decide) ?_
      exact ro_iret hx hb hr hlk dX4_property_30 (congrArg (fun z => Value.int (zI z)) (by omega))

set_option maxHeartbeats 4000000 in
set_option maxRecDepth 100000 in
theorem c_X4_colorOf (l : Launch) (G : va_G) (cs : Nat → ClassId) (b : Nat → Nat) (S : SS) (p0 v : Int) (h1 : 0 ≤ p0 ∧ p0 < 4) (h2 : 0 ≤ v ∧ v < 4) : MRO l yX4_colorOf wsX4_colorOf { frames := 0, cells := 0, slots := 0, locals := 0 } G cs [.ref (b 0), .int (zI p0), .int (zI v)] (fun H => va_P G vwCl (stW cs b S) H) (.int (zI (S 2 (4 * p0 + v)))) := by
  refine m_intro (Pw := (fun H => va_P G vwCl (stW cs b S) H)) (cc := cX4_colorOf) (maxL := 4) (ret := some .int) RX4 (by decide) rfl rfl (Nat.le_of_ble_eq_true rfl) ?_
  intro pP eE sS mM below meth cC hx hb hr hts hown hml hlk hnm hPre hK ls hl
  have hl : lv_has ls 4 [(0, .ref (b 0)), (1, .int (zI p0)), (2, .int (zI v))] := hl
  have hPs := hPre
  have hi4 : ∀ w ∈ u_ws RX4 TX4 9, w ∈ wsX4_colorOf := by decide +kernel
  refine z_iconst (n := 4) hx hb dX4_colorOf_0 ?_
  refine lv_iload_n hx hb dX4_colorOf_1 rfl (lv_at hl 1 rfl) ?_
  refine z_imul hx hb dX4_colorOf_2 ?_
  refine lv_iload_n hx hb dX4_colorOf_3 rfl (lv_at hl 2 rfl) ?_
  refine z_iadd hx hb dX4_colorOf_4 ?_
  refine lv_istore_n (lv' := [(3, .int (zI ((4 * p0) + v))), (0, .ref (b 0)), (1, .int (zI p0)), (2, .int (zI v))]) hx hb dX4_colorOf_5 rfl hl (by decide) rfl (fun ls hl => ?_)
  refine lv_iload_n hx hb dX4_colorOf_6 rfl (lv_at hl 0 rfl) ?_
  refine z_if_lt (tgt := 28) hx hb dX4_colorOf_7 (by decide) (by omega) (fun c1 => ?_) (fun c1 => ?_)
  · skip
    exfalso; omega
  · skip
    refine lv_iload_n hx hb dX4_colorOf_10 rfl (lv_at hl 0 rfl) ?_
    refine lv_aload_n hx hb dX4_colorOf_11 rfl (lv_at hl 1 rfl) ?_
    refine va_get (D := G) (ci := 4) (v := .ref (b 5)) (C := RX4) (T := TX4) (N := 9) hx hb hts hi4 hown hK.1 hPs 0 rfl rfl 6 (by decide) (hts (.fieldLink RX4 26 "SpriteLines$State" "colors" "[I") (by decide +kernel)) (fun _ h9 => h9) rfl dX4_colorOf_12 ?_
    refine z_alen hx hb hK.1 hPs 5 0 rfl rfl dX4_colorOf_15 ?_
    refine z_topi (b := 16) rfl ?_
    refine z_icmp_ge (tgt := 28) hx hb dX4_colorOf_16 (by decide) (by omega) (by omega) (fun c2 => ?_) (fun c2 => ?_)
    · skip
      exfalso; omega
    · skip
      refine lv_aload_n hx hb dX4_colorOf_19 rfl (lv_at hl 1 rfl) ?_
      refine va_get (D := G) (ci := 4) (v := .ref (b 5)) (C := RX4) (T := TX4) (N := 9) hx hb hts hi4 hown hK.1 hPs 0 rfl rfl 6 (by decide) (hts (.fieldLink RX4 26 "SpriteLines$State" "colors" "[I") (by decide +kernel)) (fun _ h9 => h9) rfl dX4_colorOf_20 ?_
      refine lv_iload_n hx hb dX4_colorOf_23 rfl (lv_at hl 0 rfl) ?_
      refine z_iald hx hb hK.1 hPs 5 0 (F := S 2) rfl rfl (by omega) (by decide) dX4_colorOf_24 ?_
      refine lv_goto (tgt := 29) hx hb dX4_colorOf_25 (by decide) ?_
      exact ro_iret hx hb hr hlk dX4_colorOf_29 (congrArg (fun z => Value.int (zI z)) (by omega))

set_option maxHeartbeats 4000000 in
set_option maxRecDepth 100000 in
theorem c_X4_lowerOfSwap (l : Launch) (G : va_G) (cs : Nat → ClassId) (b : Nat → Nat) (S : SS) (x : Int) (h1 : 0 ≤ x ∧ x < 32) : MRO l yX4_lowerOfSwap wsX4_lowerOfSwap { frames := 0, cells := 0, slots := 0, locals := 0 } G cs [.ref (b 0), .int (zI x)] (fun H => va_P G vwCl (stW cs b S) H) (.int (zI (S 3 x))) := by
  refine m_intro (Pw := (fun H => va_P G vwCl (stW cs b S) H)) (cc := cX4_lowerOfSwap) (maxL := 2) (ret := some .int) RX4 (by decide) rfl rfl (Nat.le_of_ble_eq_true rfl) ?_
  intro pP eE sS mM below meth cC hx hb hr hts hown hml hlk hnm hPre hK ls hl
  have hl : lv_has ls 2 [(0, .ref (b 0)), (1, .int (zI x))] := hl
  have hPs := hPre
  have hi4 : ∀ w ∈ u_ws RX4 TX4 9, w ∈ wsX4_lowerOfSwap := by decide +kernel
  refine lv_iload_n hx hb dX4_lowerOfSwap_0 rfl (lv_at hl 1 rfl) ?_
  refine z_if_lt (tgt := 22) hx hb dX4_lowerOfSwap_1 (by decide) (by omega) (fun c1 => ?_) (fun c1 => ?_)
  · skip
    exfalso; omega
  · skip
    refine lv_iload_n hx hb dX4_lowerOfSwap_4 rfl (lv_at hl 1 rfl) ?_
    refine lv_aload_n hx hb dX4_lowerOfSwap_5 rfl (lv_at hl 0 rfl) ?_
    refine va_get (D := G) (ci := 4) (v := .ref (b 6)) (C := RX4) (T := TX4) (N := 9) hx hb hts hi4 hown hK.1 hPs 0 rfl rfl 7 (by decide) (hts (.fieldLink RX4 29 "SpriteLines$State" "lowerOfSwaps" "[I") (by decide +kernel)) (fun _ h9 => h9) rfl dX4_lowerOfSwap_6 ?_
    refine z_alen hx hb hK.1 hPs 6 0 rfl rfl dX4_lowerOfSwap_9 ?_
    refine z_topi (b := 32) rfl ?_
    refine z_icmp_ge (tgt := 22) hx hb dX4_lowerOfSwap_10 (by decide) (by omega) (by omega) (fun c2 => ?_) (fun c2 => ?_)
    · skip
      exfalso; omega
    · skip
      refine lv_aload_n hx hb dX4_lowerOfSwap_13 rfl (lv_at hl 0 rfl) ?_
      refine va_get (D := G) (ci := 4) (v := .ref (b 6)) (C := RX4) (T := TX4) (N := 9) hx hb hts hi4 hown hK.1 hPs 0 rfl rfl 7 (by decide) (hts (.fieldLink RX4 29 "SpriteLines$State" "lowerOfSwaps" "[I") (by decide +kernel)) (fun _ h9 => h9) rfl dX4_lowerOfSwap_14 ?_
      refine lv_iload_n hx hb dX4_lowerOfSwap_17 rfl (lv_at hl 1 rfl) ?_
      refine z_iald hx hb hK.1 hPs 6 0 (F := S 3) rfl rfl (by omega) (by decide) dX4_lowerOfSwap_18 ?_
      refine lv_goto (tgt := 23) hx hb dX4_lowerOfSwap_19 (by decide) ?_
      exact ro_iret hx hb hr hlk dX4_lowerOfSwap_23 (congrArg (fun z => Value.int (zI z)) (by omega))

set_option maxHeartbeats 4000000 in
set_option maxRecDepth 100000 in
theorem c_X4_upperOfSwap (l : Launch) (G : va_G) (cs : Nat → ClassId) (b : Nat → Nat) (S : SS) (x : Int) (h1 : 0 ≤ x ∧ x < 32) : MRO l yX4_upperOfSwap wsX4_upperOfSwap { frames := 0, cells := 0, slots := 0, locals := 0 } G cs [.ref (b 0), .int (zI x)] (fun H => va_P G vwCl (stW cs b S) H) (.int (zI (S 4 x))) := by
  refine m_intro (Pw := (fun H => va_P G vwCl (stW cs b S) H)) (cc := cX4_upperOfSwap) (maxL := 2) (ret := some .int) RX4 (by decide) rfl rfl (Nat.le_of_ble_eq_true rfl) ?_
  intro pP eE sS mM below meth cC hx hb hr hts hown hml hlk hnm hPre hK ls hl
  have hl : lv_has ls 2 [(0, .ref (b 0)), (1, .int (zI x))] := hl
  have hPs := hPre
  have hi4 : ∀ w ∈ u_ws RX4 TX4 9, w ∈ wsX4_upperOfSwap := by decide +kernel
  refine lv_iload_n hx hb dX4_upperOfSwap_0 rfl (lv_at hl 1 rfl) ?_
  refine z_if_lt (tgt := 22) hx hb dX4_upperOfSwap_1 (by decide) (by omega) (fun c1 => ?_) (fun c1 => ?_)
  · skip
    exfalso; omega
  · skip
    refine lv_iload_n hx hb dX4_upperOfSwap_4 rfl (lv_at hl 1 rfl) ?_
    refine lv_aload_n hx hb dX4_upperOfSwap_5 rfl (lv_at hl 0 rfl) ?_
    refine va_get (D := G) (ci := 4) (v := .ref (b 7)) (C := RX4) (T := TX4) (N := 9) hx hb hts hi4 hown hK.1 hPs 0 rfl rfl 8 (by decide) (hts (.fieldLink RX4 32 "SpriteLines$State" "upperOfSwaps" "[I") (by decide +kernel)) (fun _ h9 => h9) rfl dX4_upperOfSwap_6 ?_
    refine z_alen hx hb hK.1 hPs 7 0 rfl rfl dX4_upperOfSwap_9 ?_
    refine z_topi (b := 32) rfl ?_
    refine z_icmp_ge (tgt := 22) hx hb dX4_upperOfSwap_10 (by decide) (by omega) (by omega) (fun c2 => ?_) (fun c2 => ?_)
    · skip
      exfalso; omega
    · skip
      refine lv_aload_n hx hb dX4_upperOfSwap_13 rfl (lv_at hl 0 rfl) ?_
      refine va_get (D := G) (ci := 4) (v := .ref (b 7)) (C := RX4) (T := TX4) (N := 9) hx hb hts hi4 hown hK.1 hPs 0 rfl rfl 8 (by decide) (hts (.fieldLink RX4 32 "SpriteLines$State" "upperOfSwaps" "[I") (by decide +kernel)) (fun _ h9 => h9) rfl dX4_upperOfSwap_14 ?_
      refine lv_iload_n hx hb dX4_upperOfSwap_17 rfl (lv_at hl 1 rfl) ?_
      refine z_iald hx hb hK.1 hPs 7 0 (F := S 4) rfl rfl (by omega) (by decide) dX4_upperOfSwap_18 ?_
      refine lv_goto (tgt := 23) hx hb dX4_upperOfSwap_19 (by decide) ?_
      exact ro_iret hx hb hr hlk dX4_upperOfSwap_23 (congrArg (fun z => Value.int (zI z)) (by omega))

set_option maxHeartbeats 4000000 in
set_option maxRecDepth 100000 in
theorem c_X4_hasSwap (l : Launch) (G : va_G) (cs : Nat → ClassId) (b : Nat → Nat) (S : SS) (x : Int) (wf : WF S) (h1 : 0 ≤ x ∧ x < 32) : MRO l yX4_hasSwap wsX4_hasSwap { frames := 1, cells := 0, slots := 0, locals := 21 } G cs [.ref (b 0), .int (zI x)] (fun H => va_P G vwCl (stW cs b S) H) (.int (zI (b2 (hasSw S x)))) := by
  refine m_intro (Pw := (fun H => va_P G vwCl (stW cs b S) H)) (cc := cX4_hasSwap) (maxL := 2) (ret := some .boolean) RX4 (by decide) rfl rfl (Nat.le_of_ble_eq_true rfl) ?_
  intro pP eE sS mM below meth cC hx hb hr hts hown hml hlk hnm hPre hK ls hl
  have hl : lv_has ls 2 [(0, .ref (b 0)), (1, .int (zI x))] := hl
  have hPs := hPre
  obtain ⟨w0, w1, w2, w3, w4, wP, wC, wS, wX⟩ := wf
  have q1 := wS x h1.1 h1.2
  refine lv_aload_n hx hb dX4_hasSwap_0 rfl (lv_at hl 0 rfl) ?_
  refine lv_iload_n hx hb dX4_hasSwap_1 rfl (lv_at hl 1 rfl) ?_
  refine z_ro (zrV (As := [.int (zI x)]) (rest := []) ⟨hx, hb, hml, hown, hts⟩ (c_X4_lowerOfSwap l G cs b S x (by omega)) gX4_hasSwap_X4_lowerOfSwap rfl qX4_lowerOfSwap rfl rfl ⟨Nat.le_of_ble_eq_true rfl, Nat.le_of_ble_eq_true rfl⟩ hPs hK (va_recv hK.1 hPs (ci := 4) (q0 := 0) rfl rfl) hl.1 rfl (Nat.le_of_ble_eq_true rfl) dX4_hasSwap_2 ⟨Nat.le_of_ble_eq_true rfl, Nat.le_of_ble_eq_true rfl⟩) ?_
  refine lv_aload_n hx hb dX4_hasSwap_5 rfl (lv_at hl 0 rfl) ?_
  refine lv_iload_n hx hb dX4_hasSwap_6 rfl (lv_at hl 1 rfl) ?_
  refine z_ro (zrV (As := [.int (zI x)]) (rest := [.int (zI (S 3 x))]) ⟨hx, hb, hml, hown, hts⟩ (c_X4_upperOfSwap l G cs b S x (by omega)) gX4_hasSwap_X4_upperOfSwap rfl qX4_upperOfSwap rfl rfl ⟨Nat.le_of_ble_eq_true rfl, Nat.le_of_ble_eq_true rfl⟩ hPs hK (va_recv hK.1 hPs (ci := 4) (q0 := 0) rfl rfl) hl.1 rfl (Nat.le_of_ble_eq_true rfl) dX4_hasSwap_7 ⟨Nat.le_of_ble_eq_true rfl, Nat.le_of_ble_eq_true rfl⟩) ?_
  refine z_icmp_eq (tgt := 17) hx hb dX4_hasSwap_10 (by decide) (by omega) (by omega) (fun c1 => ?_) (fun c1 => ?_)
  · skip
    refine z_iconst (n := 0) hx hb dX4_hasSwap_17 ?_
    exact ro_zret hx hb hr hlk dX4_hasSwap_18 (by omega) (congrArg (fun z => Value.int (zI z)) (b2_f (by rw [Bool.eq_false_iff]; intro h; simp only [hasSw, Bool.and_eq_true, Bool.or_eq_true, decide_eq_true_eq] at h; omega)).symm)
  · skip
    refine z_iconst (n := 1) hx hb dX4_hasSwap_13 ?_
    refine lv_goto (tgt := 18) hx hb dX4_hasSwap_14 (by decide) ?_
    exact ro_zret hx hb hr hlk dX4_hasSwap_18 (by omega) (congrArg (fun z => Value.int (zI z)) (b2_t (by simp only [hasSw, Bool.and_eq_true, Bool.or_eq_true, decide_eq_true_eq]; omega)).symm)

set_option maxHeartbeats 4000000 in
set_option maxRecDepth 100000 in
theorem c_X4_linesWithSwap (l : Launch) (G : va_G) (cs : Nat → ClassId) (b : Nat → Nat) (S : SS) (wf : WF S) : MRO l yX4_linesWithSwap wsX4_linesWithSwap { frames := 2, cells := 0, slots := 0, locals := 42 } G cs [.ref (b 0)] (fun H => va_P G vwCl (stW cs b S) H) (.int (zI (cntI (hasSw S) 32))) := by
  refine m_intro (Pw := (fun H => va_P G vwCl (stW cs b S) H)) (cc := cX4_linesWithSwap) (maxL := 3) (ret := some .int) RX4 (by decide) rfl rfl (Nat.le_of_ble_eq_true rfl) ?_
  intro pP eE sS mM below meth cC hx hb hr hts hown hml hlk hnm hPre hK ls hl
  have hl : lv_has ls 3 [(0, .ref (b 0))] := hl
  have hPs := hPre
  refine z_iconst (n := 0) hx hb dX4_linesWithSwap_0 ?_
  refine lv_istore_n (lv' := [(1, .int (zI 0)), (0, .ref (b 0))]) hx hb dX4_linesWithSwap_1 rfl hl (by decide) rfl (fun ls hl => ?_)
  refine z_iconst (n := 0) hx hb dX4_linesWithSwap_2 ?_
  refine lv_istore_n (lv' := [(2, .int (zI 0)), (1, .int (zI 0)), (0, .ref (b 0))]) hx hb dX4_linesWithSwap_3 rfl hl (by decide) rfl (fun ls hl => ?_)
  -- loop 4
  refine z_loop (nL := 3) (fun (i : Int) => [(0, .ref (b 0)), (1, .int (zI (cntI (hasSw S) i))), (2, .int (zI i))]) (fun (i : Int) => 0 ≤ i ∧ i ≤ 32) (fun (i : Int) => (32 - i).toNat) 0 (by omega) (lv_sub hl [2, 1, 0] rfl) (fun i hI ih ls hl => ?_)
  have hl : lv_has ls 3 [(0, .ref (b 0)), (1, .int (zI (cntI (hasSw S) i))), (2, .int (zI i))] := hl
  have hc := cntI_r (hasSw S) hI.1
  refine lv_iload_n hx hb dX4_linesWithSwap_4 rfl (lv_at hl 2 rfl) ?_
  refine z_bipush (n := 32) hx hb dX4_linesWithSwap_5 (by decide) ?_
  refine z_icmp_ge (tgt := 27) hx hb dX4_linesWithSwap_7 (by decide) (by omega) (by omega) (fun c1 => ?_) (fun c1 => ?_)
  · skip
    refine lv_iload_n hx hb dX4_linesWithSwap_27 rfl (lv_at hl 1 rfl) ?_
    exact ro_iret hx hb hr hlk dX4_linesWithSwap_28 (congrArg (fun z => Value.int (zI z)) (by rw [show i = 32 by omega]))
  · skip
    refine lv_aload_n hx hb dX4_linesWithSwap_10 rfl (lv_at hl 0 rfl) ?_
    refine lv_iload_n hx hb dX4_linesWithSwap_11 rfl (lv_at hl 2 rfl) ?_
    refine z_ro (zrV (As := [.int (zI i)]) (rest := []) ⟨hx, hb, hml, hown, hts⟩ (c_X4_hasSwap l G cs b S i wf (by omega)) gX4_linesWithSwap_X4_hasSwap rfl qX4_hasSwap rfl rfl ⟨Nat.le_of_ble_eq_true rfl, Nat.le_of_ble_eq_true rfl⟩ hPs hK (va_recv hK.1 hPs (ci := 4) (q0 := 0) rfl rfl) hl.1 rfl (Nat.le_of_ble_eq_true rfl) dX4_linesWithSwap_12 ⟨Nat.le_of_ble_eq_true rfl, Nat.le_of_ble_eq_true rfl⟩) ?_
    refine z_bif_eq (tgt := 21) hx hb dX4_linesWithSwap_15 (by decide) (fun c2 => ?_) (fun c2 => ?_)
    · skip
      refine z_iinc (k := 2) (lv' := [(2, .int (zI (i + 1))), (0, .ref (b 0)), (1, .int (zI (cntI (hasSw S) i)))]) hx hb dX4_linesWithSwap_21 hl rfl (by decide) rfl (fun ls hl => ?_)
      refine lv_goto (tgt := 4) hx hb dX4_linesWithSwap_24 (by decide) ?_
      exact ih (i + 1) (by omega) (by omega) ls (by show lv_has ls 3 [(0, .ref (b 0)), (1, .int (zI (cntI (hasSw S) (i + 1)))), (2, .int (zI (i + 1)))]; rw [cntI_f hI.1 c2]; exact lv_sub hl [1, 2, 0] rfl)
    · skip
      refine z_iinc (k := 1) (lv' := [(1, .int (zI ((cntI (hasSw S) i) + 1))), (0, .ref (b 0)), (2, .int (zI i))]) hx hb dX4_linesWithSwap_18 hl rfl (by decide) rfl (fun ls hl => ?_)
      refine z_iinc (k := 2) (lv' := [(2, .int (zI (i + 1))), (1, .int (zI ((cntI (hasSw S) i) + 1))), (0, .ref (b 0))]) hx hb dX4_linesWithSwap_21 hl rfl (by decide) rfl (fun ls hl => ?_)
      refine lv_goto (tgt := 4) hx hb dX4_linesWithSwap_24 (by decide) ?_
      exact ih (i + 1) (by omega) (by omega) ls (by show lv_has ls 3 [(0, .ref (b 0)), (1, .int (zI (cntI (hasSw S) (i + 1)))), (2, .int (zI (i + 1)))]; rw [cntI_t hI.1 c2]; exact lv_sub hl [2, 1, 0] rfl)

set_option maxHeartbeats 4000000 in
set_option maxRecDepth 100000 in
theorem c_X4_paletteOnLine (l : Launch) (G : va_G) (cs : Nat → ClassId) (b : Nat → Nat) (S : SS) (q x : Int) (wf : WF S) (h0 : 0 ≤ q ∧ q < 4) (h1 : 0 ≤ x ∧ x < 32) : MRO l yX4_paletteOnLine wsX4_paletteOnLine { frames := 1, cells := 0, slots := 0, locals := 21 } G cs [.ref (b 0), .int (zI q), .int (zI x)] (fun H => va_P G vwCl (stW cs b S) H) (.int (zI (palOn S x q))) := by
  refine m_intro (Pw := (fun H => va_P G vwCl (stW cs b S) H)) (cc := cX4_paletteOnLine) (maxL := 3) (ret := some .int) RX4 (by decide) rfl rfl (Nat.le_of_ble_eq_true rfl) ?_
  intro pP eE sS mM below meth cC hx hb hr hts hown hml hlk hnm hPre hK ls hl
  have hl : lv_has ls 3 [(0, .ref (b 0)), (1, .int (zI q)), (2, .int (zI x))] := hl
  have hPs := hPre
  obtain ⟨w0, w1, w2, w3, w4, wP, wC, wS, wX⟩ := wf
  have q1 := wS x h1.1 h1.2
  refine lv_iload_n hx hb dX4_paletteOnLine_0 rfl (lv_at hl 1 rfl) ?_
  refine lv_aload_n hx hb dX4_paletteOnLine_1 rfl (lv_at hl 0 rfl) ?_
  refine lv_iload_n hx hb dX4_paletteOnLine_2 rfl (lv_at hl 2 rfl) ?_
  refine z_ro (zrV (As := [.int (zI x)]) (rest := [.int (zI q)]) ⟨hx, hb, hml, hown, hts⟩ (c_X4_lowerOfSwap l G cs b S x (by omega)) gX4_paletteOnLine_X4_lowerOfSwap rfl qX4_lowerOfSwap rfl rfl ⟨Nat.le_of_ble_eq_true rfl, Nat.le_of_ble_eq_true rfl⟩ hPs hK (va_recv hK.1 hPs (ci := 4) (q0 := 0) rfl rfl) hl.1 rfl (Nat.le_of_ble_eq_true rfl) dX4_paletteOnLine_3 ⟨Nat.le_of_ble_eq_true rfl, Nat.le_of_ble_eq_true rfl⟩) ?_
  refine z_icmp_ne (tgt := 15) hx hb dX4_paletteOnLine_6 (by decide) (by omega) (by omega) (fun c1 => ?_) (fun c1 => ?_)
  · skip
    refine lv_iload_n hx hb dX4_paletteOnLine_15 rfl (lv_at hl 1 rfl) ?_
    refine lv_aload_n hx hb dX4_paletteOnLine_16 rfl (lv_at hl 0 rfl) ?_
    refine lv_iload_n hx hb dX4_paletteOnLine_17 rfl (lv_at hl 2 rfl) ?_
    refine z_ro (zrV (As := [.int (zI x)]) (rest := [.int (zI q)]) ⟨hx, hb, hml, hown, hts⟩ (c_X4_upperOfSwap l G cs b S x (by omega)) gX4_paletteOnLine_X4_upperOfSwap rfl qX4_upperOfSwap rfl rfl ⟨Nat.le_of_ble_eq_true rfl, Nat.le_of_ble_eq_true rfl⟩ hPs hK (va_recv hK.1 hPs (ci := 4) (q0 := 0) rfl rfl) hl.1 rfl (Nat.le_of_ble_eq_true rfl) dX4_paletteOnLine_18 ⟨Nat.le_of_ble_eq_true rfl, Nat.le_of_ble_eq_true rfl⟩) ?_
    refine z_icmp_ne (tgt := 32) hx hb dX4_paletteOnLine_21 (by decide) (by omega) (by omega) (fun c2 => ?_) (fun c2 => ?_)
    · skip
      refine lv_iload_n hx hb dX4_paletteOnLine_32 rfl (lv_at hl 1 rfl) ?_
      exact ro_iret hx hb hr hlk dX4_paletteOnLine_33 (congrArg (fun z => Value.int (zI z)) (by unfold palOn; (first | rw [if_pos (by omega)] | rw [if_neg (by omega), if_pos (by omega)] | rw [if_neg (by omega), if_neg (by omega)])))
    · skip
      refine lv_aload_n hx hb dX4_paletteOnLine_24 rfl (lv_at hl 0 rfl) ?_
      refine lv_iload_n hx hb dX4_paletteOnLine_25 rfl (lv_at hl 2 rfl) ?_
      refine z_ro (zrV (As := [.int (zI x)]) (rest := []) ⟨hx, hb, hml, hown, hts⟩ (c_X4_lowerOfSwap l G cs b S x (by omega)) gX4_paletteOnLine_X4_lowerOfSwap rfl qX4_lowerOfSwap rfl rfl ⟨Nat.le_of_ble_eq_true rfl, Nat.le_of_ble_eq_true rfl⟩ hPs hK (va_recv hK.1 hPs (ci := 4) (q0 := 0) rfl rfl) hl.1 rfl (Nat.le_of_ble_eq_true rfl) dX4_paletteOnLine_26 ⟨Nat.le_of_ble_eq_true rfl, Nat.le_of_ble_eq_true rfl⟩) ?_
      refine lv_goto (tgt := 33) hx hb dX4_paletteOnLine_29 (by decide) ?_
      exact ro_iret hx hb hr hlk dX4_paletteOnLine_33 (congrArg (fun z => Value.int (zI z)) (by unfold palOn; (first | rw [if_pos (by omega)] | rw [if_neg (by omega), if_pos (by omega)] | rw [if_neg (by omega), if_neg (by omega)])))
  · skip
    refine lv_aload_n hx hb dX4_paletteOnLine_9 rfl (lv_at hl 0 rfl) ?_
    refine lv_iload_n hx hb dX4_paletteOnLine_10 rfl (lv_at hl 2 rfl) ?_
    refine z_ro (zrV (As := [.int (zI x)]) (rest := []) ⟨hx, hb, hml, hown, hts⟩ (c_X4_upperOfSwap l G cs b S x (by omega)) gX4_paletteOnLine_X4_upperOfSwap rfl qX4_upperOfSwap rfl rfl ⟨Nat.le_of_ble_eq_true rfl, Nat.le_of_ble_eq_true rfl⟩ hPs hK (va_recv hK.1 hPs (ci := 4) (q0 := 0) rfl rfl) hl.1 rfl (Nat.le_of_ble_eq_true rfl) dX4_paletteOnLine_11 ⟨Nat.le_of_ble_eq_true rfl, Nat.le_of_ble_eq_true rfl⟩) ?_
    exact ro_iret hx hb hr hlk dX4_paletteOnLine_14 (congrArg (fun z => Value.int (zI z)) (by unfold palOn; (first | rw [if_pos (by omega)] | rw [if_neg (by omega), if_pos (by omega)] | rw [if_neg (by omega), if_neg (by omega)])))

set_option maxHeartbeats 4000000 in
set_option maxRecDepth 100000 in
theorem c_X4_isOnAndCovers (l : Launch) (G : va_G) (cs : Nat → ClassId) (b : Nat → Nat) (S : SS) (x y : Int) (wf : WF S) (h0 : 0 ≤ x ∧ x < S 0 1) (h1 : 0 ≤ y ∧ y < 32) : MRO l yX4_isOnAndCovers wsX4_isOnAndCovers { frames := 1, cells := 0, slots := 0, locals := 23 } G cs [.ref (b 0), .int (zI x), .int (zI y)] (fun H => va_P G vwCl (stW cs b S) H) (.int (zI (b2 (isW S y x)))) := by
  refine m_intro (Pw := (fun H => va_P G vwCl (stW cs b S) H)) (cc := cX4_isOnAndCovers) (maxL := 4) (ret := some .boolean) RX4 (by decide) rfl rfl (Nat.le_of_ble_eq_true rfl) ?_
  intro pP eE sS mM below meth cC hx hb hr hts hown hml hlk hnm hPre hK ls hl
  have hl : lv_has ls 4 [(0, .ref (b 0)), (1, .int (zI x)), (2, .int (zI y))] := hl
  have hPs := hPre
  obtain ⟨w0, w1, w2, w3, w4, wP, wC, wS, wX⟩ := wf
  have q1 := wP x h0.1 h0.2
  refine lv_iload_n hx hb dX4_isOnAndCovers_0 rfl (lv_at hl 2 rfl) ?_
  refine lv_aload_n hx hb dX4_isOnAndCovers_1 rfl (lv_at hl 0 rfl) ?_
  refine lv_iload_n hx hb dX4_isOnAndCovers_2 rfl (lv_at hl 1 rfl) ?_
  refine z_iconst (n := 5) hx hb dX4_isOnAndCovers_3 ?_
  refine z_ro (zrV (As := [.int (zI x), .int (zI 5)]) (rest := [.int (zI y)]) ⟨hx, hb, hml, hown, hts⟩ (c_X4_property l G cs b S x 5 (by omega) (by omega)) gX4_isOnAndCovers_X4_property rfl qX4_property rfl rfl ⟨Nat.le_of_ble_eq_true rfl, Nat.le_of_ble_eq_true rfl⟩ hPs hK (va_recv hK.1 hPs (ci := 4) (q0 := 0) rfl rfl) hl.1 rfl (Nat.le_of_ble_eq_true rfl) dX4_isOnAndCovers_4 ⟨Nat.le_of_ble_eq_true rfl, Nat.le_of_ble_eq_true rfl⟩) ?_
  refine z_isub hx hb dX4_isOnAndCovers_7 ?_
  refine lv_istore_n (lv' := [(3, .int (zI (y - (S 1 (6 * x + 5))))), (0, .ref (b 0)), (1, .int (zI x)), (2, .int (zI y))]) hx hb dX4_isOnAndCovers_8 rfl hl (by decide) rfl (fun ls hl => ?_)
  refine lv_aload_n hx hb dX4_isOnAndCovers_9 rfl (lv_at hl 1 rfl) ?_
  refine lv_iload_n hx hb dX4_isOnAndCovers_10 rfl (lv_at hl 2 rfl) ?_
  refine z_iconst (n := 3) hx hb dX4_isOnAndCovers_11 ?_
  refine z_ro (zrV (As := [.int (zI x), .int (zI 3)]) (rest := []) ⟨hx, hb, hml, hown, hts⟩ (c_X4_property l G cs b S x 3 (by omega) (by omega)) gX4_isOnAndCovers_X4_property rfl qX4_property rfl rfl ⟨Nat.le_of_ble_eq_true rfl, Nat.le_of_ble_eq_true rfl⟩ hPs hK (va_recv hK.1 hPs (ci := 4) (q0 := 0) rfl rfl) hl.1 rfl (Nat.le_of_ble_eq_true rfl) dX4_isOnAndCovers_12 ⟨Nat.le_of_ble_eq_true rfl, Nat.le_of_ble_eq_true rfl⟩) ?_
  refine z_iconst (n := 1) hx hb dX4_isOnAndCovers_15 ?_
  refine z_icmp_ne (tgt := 33) hx hb dX4_isOnAndCovers_16 (by decide) (by omega) (by omega) (fun c1 => ?_) (fun c1 => ?_)
  · skip
    refine z_iconst (n := 0) hx hb dX4_isOnAndCovers_33 ?_
    exact ro_zret hx hb hr hlk dX4_isOnAndCovers_34 (by omega) (congrArg (fun z => Value.int (zI z)) (b2_f (by rw [Bool.eq_false_iff]; intro h; simp only [isW, isOver, Bool.and_eq_true, Bool.or_eq_true, decide_eq_true_eq] at h; omega)).symm)
  · skip
    refine lv_iload_n hx hb dX4_isOnAndCovers_19 rfl (lv_at hl 0 rfl) ?_
    refine z_if_lt (tgt := 33) hx hb dX4_isOnAndCovers_20 (by decide) (by omega) (fun c2 => ?_) (fun c2 => ?_)
    · skip
      refine z_iconst (n := 0) hx hb dX4_isOnAndCovers_33 ?_
      exact ro_zret hx hb hr hlk dX4_isOnAndCovers_34 (by omega) (congrArg (fun z => Value.int (zI z)) (b2_f (by rw [Bool.eq_false_iff]; intro h; simp only [isW, isOver, Bool.and_eq_true, Bool.or_eq_true, decide_eq_true_eq] at h; omega)).symm)
    · skip
      refine lv_iload_n hx hb dX4_isOnAndCovers_23 rfl (lv_at hl 0 rfl) ?_
      refine z_bipush (n := 8) hx hb dX4_isOnAndCovers_24 (by decide) ?_
      refine z_icmp_ge (tgt := 33) hx hb dX4_isOnAndCovers_26 (by decide) (by omega) (by omega) (fun c3 => ?_) (fun c3 => ?_)
      · skip
        refine z_iconst (n := 0) hx hb dX4_isOnAndCovers_33 ?_
        exact ro_zret hx hb hr hlk dX4_isOnAndCovers_34 (by omega) (congrArg (fun z => Value.int (zI z)) (b2_f (by rw [Bool.eq_false_iff]; intro h; simp only [isW, isOver, Bool.and_eq_true, Bool.or_eq_true, decide_eq_true_eq] at h; omega)).symm)
      · skip
        refine z_iconst (n := 1) hx hb dX4_isOnAndCovers_29 ?_
        refine lv_goto (tgt := 34) hx hb dX4_isOnAndCovers_30 (by decide) ?_
        exact ro_zret hx hb hr hlk dX4_isOnAndCovers_34 (by omega) (congrArg (fun z => Value.int (zI z)) (b2_t (by simp only [isW, isOver, Bool.and_eq_true, Bool.or_eq_true, decide_eq_true_eq]; omega)).symm)

set_option maxHeartbeats 4000000 in
set_option maxRecDepth 100000 in
theorem c_X4_linesCovered (l : Launch) (G : va_G) (cs : Nat → ClassId) (b : Nat → Nat) (S : SS) (x : Int) (wf : WF S) (h0 : 0 ≤ x ∧ x < S 0 1) : MRO l yX4_linesCovered wsX4_linesCovered { frames := 1, cells := 0, slots := 0, locals := 40 } G cs [.ref (b 0), .int (zI x)] (fun H => va_P G vwCl (stW cs b S) H) (.int (zI (cntI (isOver S x) 32))) := by
  refine m_intro (Pw := (fun H => va_P G vwCl (stW cs b S) H)) (cc := cX4_linesCovered) (maxL := 3) (ret := some .int) RX4 (by decide) rfl rfl (Nat.le_of_ble_eq_true rfl) ?_
  intro pP eE sS mM below meth cC hx hb hr hts hown hml hlk hnm hPre hK ls hl
  have hl : lv_has ls 3 [(0, .ref (b 0)), (1, .int (zI x))] := hl
  have hPs := hPre
  obtain ⟨w0, w1, w2, w3, w4, wP, wC, wS, wX⟩ := wf
  have q1 := wP x h0.1 h0.2
  refine lv_aload_n hx hb dX4_linesCovered_0 rfl (lv_at hl 0 rfl) ?_
  refine lv_iload_n hx hb dX4_linesCovered_1 rfl (lv_at hl 1 rfl) ?_
  refine z_iconst (n := 5) hx hb dX4_linesCovered_2 ?_
  refine z_ro (zrV (As := [.int (zI x), .int (zI 5)]) (rest := []) ⟨hx, hb, hml, hown, hts⟩ (c_X4_property l G cs b S x 5 (by omega) (by omega)) gX4_linesCovered_X4_property rfl qX4_property rfl rfl ⟨Nat.le_of_ble_eq_true rfl, Nat.le_of_ble_eq_true rfl⟩ hPs hK (va_recv hK.1 hPs (ci := 4) (q0 := 0) rfl rfl) hl.1 rfl (Nat.le_of_ble_eq_true rfl) dX4_linesCovered_3 ⟨Nat.le_of_ble_eq_true rfl, Nat.le_of_ble_eq_true rfl⟩) ?_
  refine lv_istore_n (lv' := [(2, .int (zI (S 1 (6 * x + 5)))), (0, .ref (b 0)), (1, .int (zI x))]) hx hb dX4_linesCovered_6 rfl hl (by decide) rfl (fun ls hl => ?_)
  refine lv_iload_n hx hb dX4_linesCovered_7 rfl (lv_at hl 0 rfl) ?_
  refine z_bipush (n := 8) hx hb dX4_linesCovered_8 (by decide) ?_
  refine z_iadd hx hb dX4_linesCovered_10 ?_
  refine z_bipush (n := 32) hx hb dX4_linesCovered_11 (by decide) ?_
  refine va_mmin hx hb (by rw [hml]; exact hl.1.symm) hown (hts (.methodLink RX4 61 Lib.Math.min.name) (by decide +kernel)) (hts (.static Lib.Math.min.name) (by decide +kernel)) (hts (.initialized "java/lang/Math") (by decide +kernel)) (hts (.code Lib.Math.min.name Lib.Math.min.code 2 (some .int)) (by decide +kernel)) (Nat.le_of_ble_eq_true rfl) (Nat.le_of_ble_eq_true rfl) (Nat.le_of_ble_eq_true rfl) (Nat.le_of_ble_eq_true rfl) dX4_linesCovered_13 ?_
  refine z_top (v' := .int (zI (if (32 : Int) < S 1 (6 * x + 5) + 8 then (32 : Int) else S 1 (6 * x + 5) + 8))) (congrArg Value.int (z_min (by omega) (by omega))) ?_
  refine lv_iload_n hx hb dX4_linesCovered_16 rfl (lv_at hl 0 rfl) ?_
  refine z_iconst (n := 0) hx hb dX4_linesCovered_17 ?_
  refine va_mmax hx hb (by rw [hml]; exact hl.1.symm) hown (hts (.methodLink RX4 67 Lib.Math.max.name) (by decide +kernel)) (hts (.static Lib.Math.max.name) (by decide +kernel)) (hts (.initialized "java/lang/Math") (by decide +kernel)) (hts (.code Lib.Math.max.name Lib.Math.max.code 2 (some .int)) (by decide +kernel)) (Nat.le_of_ble_eq_true rfl) (Nat.le_of_ble_eq_true rfl) (Nat.le_of_ble_eq_true rfl) (Nat.le_of_ble_eq_true rfl) dX4_linesCovered_18 ?_
  refine z_top (v' := .int (zI (if S 1 (6 * x + 5) < 0 then (0 : Int) else S 1 (6 * x + 5)))) (congrArg Value.int (z_max (by omega) (by omega))) ?_
  refine z_isub hx hb dX4_linesCovered_21 ?_
  exact ro_iret hx hb hr hlk dX4_linesCovered_22 (congrArg (fun z => Value.int (zI z)) (by rw [cover_cnt (by omega)]))

set_option maxHeartbeats 4000000 in
set_option maxRecDepth 100000 in
theorem c_X4_spritesOn (l : Launch) (G : va_G) (cs : Nat → ClassId) (b : Nat → Nat) (S : SS) (wf : WF S) : MRO l yX4_spritesOn wsX4_spritesOn { frames := 1, cells := 0, slots := 0, locals := 23 } G cs [.ref (b 0)] (fun H => va_P G vwCl (stW cs b S) H) (.int (zI (cntI (isOn S) (S 0 1)))) := by
  refine m_intro (Pw := (fun H => va_P G vwCl (stW cs b S) H)) (cc := cX4_spritesOn) (maxL := 3) (ret := some .int) RX4 (by decide) rfl rfl (Nat.le_of_ble_eq_true rfl) ?_
  intro pP eE sS mM below meth cC hx hb hr hts hown hml hlk hnm hPre hK ls hl
  have hl : lv_has ls 3 [(0, .ref (b 0))] := hl
  have hPs := hPre
  have hi4 : ∀ w ∈ u_ws RX4 TX4 9, w ∈ wsX4_spritesOn := by decide +kernel
  obtain ⟨w0, w1, w2, w3, w4, wP, wC, wS, wX⟩ := wf
  refine z_iconst (n := 0) hx hb dX4_spritesOn_0 ?_
  refine lv_istore_n (lv' := [(1, .int (zI 0)), (0, .ref (b 0))]) hx hb dX4_spritesOn_1 rfl hl (by decide) rfl (fun ls hl => ?_)
  refine z_iconst (n := 0) hx hb dX4_spritesOn_2 ?_
  refine lv_istore_n (lv' := [(2, .int (zI 0)), (1, .int (zI 0)), (0, .ref (b 0))]) hx hb dX4_spritesOn_3 rfl hl (by decide) rfl (fun ls hl => ?_)
  -- loop 4
  refine z_loop (nL := 3) (fun (i : Int) => [(0, .ref (b 0)), (1, .int (zI (cntI (isOn S) i))), (2, .int (zI i))]) (fun (i : Int) => 0 ≤ i ∧ i ≤ S 0 1) (fun (i : Int) => (S 0 1 - i).toNat) 0 (by omega) (lv_sub hl [2, 1, 0] rfl) (fun i hI ih ls hl => ?_)
  have hl : lv_has ls 3 [(0, .ref (b 0)), (1, .int (zI (cntI (isOn S) i))), (2, .int (zI i))] := hl
  have hc := cntI_r (isOn S) hI.1
  refine lv_iload_n hx hb dX4_spritesOn_4 rfl (lv_at hl 2 rfl) ?_
  refine lv_aload_n hx hb dX4_spritesOn_5 rfl (lv_at hl 0 rfl) ?_
  refine va_get (D := G) (ci := 4) (v := .int (zI (S 0 1))) (C := RX4) (T := TX4) (N := 9) hx hb hts hi4 hown hK.1 hPs 0 rfl rfl 3 (by decide) (hts (.fieldLink RX4 41 "SpriteLines$State" "sprites" "I") (by decide +kernel)) (fun _ h9 => h9) rfl dX4_spritesOn_6 ?_
  refine z_icmp_ge (tgt := 27) hx hb dX4_spritesOn_9 (by decide) (by omega) (by omega) (fun c1 => ?_) (fun c1 => ?_)
  · skip
    refine lv_iload_n hx hb dX4_spritesOn_27 rfl (lv_at hl 1 rfl) ?_
    exact ro_iret hx hb hr hlk dX4_spritesOn_28 (congrArg (fun z => Value.int (zI z)) (by rw [show i = S 0 1 by omega]))
  · skip
    refine lv_iload_n hx hb dX4_spritesOn_12 rfl (lv_at hl 1 rfl) ?_
    refine lv_aload_n hx hb dX4_spritesOn_13 rfl (lv_at hl 0 rfl) ?_
    refine lv_iload_n hx hb dX4_spritesOn_14 rfl (lv_at hl 2 rfl) ?_
    refine z_iconst (n := 3) hx hb dX4_spritesOn_15 ?_
    refine z_ro (zrV (As := [.int (zI i), .int (zI 3)]) (rest := [.int (zI (cntI (isOn S) i))]) ⟨hx, hb, hml, hown, hts⟩ (c_X4_property l G cs b S i 3 (by omega) (by omega)) gX4_spritesOn_X4_property rfl qX4_property rfl rfl ⟨Nat.le_of_ble_eq_true rfl, Nat.le_of_ble_eq_true rfl⟩ hPs hK (va_recv hK.1 hPs (ci := 4) (q0 := 0) rfl rfl) hl.1 rfl (Nat.le_of_ble_eq_true rfl) dX4_spritesOn_16 ⟨Nat.le_of_ble_eq_true rfl, Nat.le_of_ble_eq_true rfl⟩) ?_
    refine z_iadd hx hb dX4_spritesOn_19 ?_
    refine lv_istore_n (lv' := [(1, .int (zI ((cntI (isOn S) i) + (S 1 (6 * i + 3))))), (0, .ref (b 0)), (2, .int (zI i))]) hx hb dX4_spritesOn_20 rfl hl (by decide) rfl (fun ls hl => ?_)
    refine z_iinc (k := 2) (lv' := [(2, .int (zI (i + 1))), (1, .int (zI ((cntI (isOn S) i) + (S 1 (6 * i + 3))))), (0, .ref (b 0))]) hx hb dX4_spritesOn_21 hl rfl (by decide) rfl (fun ls hl => ?_)
    refine lv_goto (tgt := 4) hx hb dX4_spritesOn_24 (by decide) ?_
    have q1 := wP i hI.1 (by omega)
    have e1 : cntI (isOn S) (i + 1) = cntI (isOn S) i + S 1 (6 * i + 3) := by rw [cntI_s _ hI.1, isOn, b2_v (by omega)]
    exact ih (i + 1) (by omega) (by omega) ls (by show lv_has ls 3 [(0, .ref (b 0)), (1, .int (zI (cntI (isOn S) (i + 1)))), (2, .int (zI (i + 1)))]; rw [e1]; exact lv_sub hl [2, 1, 0] rfl)

set_option maxHeartbeats 4000000 in
set_option maxRecDepth 100000 in
theorem c_X4_isUsed (l : Launch) (G : va_G) (cs : Nat → ClassId) (b : Nat → Nat) (S : SS) (q : Int) (wf : WF S) (h1 : 0 ≤ q ∧ q < 24) : MRO l yX4_isUsed wsX4_isUsed { frames := 1, cells := 0, slots := 0, locals := 23 } G cs [.ref (b 0), .int (zI q)] (fun H => va_P G vwCl (stW cs b S) H) (.int (zI (b2 (isUsed S q)))) := by
  refine m_intro (Pw := (fun H => va_P G vwCl (stW cs b S) H)) (cc := cX4_isUsed) (maxL := 3) (ret := some .boolean) RX4 (by decide) rfl rfl (Nat.le_of_ble_eq_true rfl) ?_
  intro pP eE sS mM below meth cC hx hb hr hts hown hml hlk hnm hPre hK ls hl
  have hl : lv_has ls 3 [(0, .ref (b 0)), (1, .int (zI q))] := hl
  have hPs := hPre
  have hi4 : ∀ w ∈ u_ws RX4 TX4 9, w ∈ wsX4_isUsed := by decide +kernel
  obtain ⟨w0, w1, w2, w3, w4, wP, wC, wS, wX⟩ := wf
  refine z_iconst (n := 0) hx hb dX4_isUsed_0 ?_
  refine lv_istore_n (lv' := [(2, .int (zI 0)), (0, .ref (b 0)), (1, .int (zI q))]) hx hb dX4_isUsed_1 rfl hl (by decide) rfl (fun ls hl => ?_)
  -- loop 2
  refine z_loop (nL := 3) (fun (i : Int) => [(0, .ref (b 0)), (1, .int (zI q)), (2, .int (zI i))]) (fun (i : Int) => (0 ≤ i ∧ i ≤ S 0 1) ∧ ∀ j, 0 ≤ j → j < i → S 1 (6 * j + 0) ≠ q) (fun (i : Int) => (S 0 1 - i).toNat) 0 ⟨by omega, fun j h1 h2 => by omega⟩ (lv_sub hl [1, 2, 0] rfl) (fun i hI ih ls hl => ?_)
  have hl : lv_has ls 3 [(0, .ref (b 0)), (1, .int (zI q)), (2, .int (zI i))] := hl
  obtain ⟨hI, hJ⟩ := hI
  refine lv_iload_n hx hb dX4_isUsed_2 rfl (lv_at hl 2 rfl) ?_
  refine lv_aload_n hx hb dX4_isUsed_3 rfl (lv_at hl 0 rfl) ?_
  refine va_get (D := G) (ci := 4) (v := .int (zI (S 0 1))) (C := RX4) (T := TX4) (N := 9) hx hb hts hi4 hown hK.1 hPs 0 rfl rfl 3 (by decide) (hts (.fieldLink RX4 41 "SpriteLines$State" "sprites" "I") (by decide +kernel)) (fun _ h9 => h9) rfl dX4_isUsed_4 ?_
  refine z_icmp_ge (tgt := 28) hx hb dX4_isUsed_7 (by decide) (by omega) (by omega) (fun c1 => ?_) (fun c1 => ?_)
  · skip
    refine z_iconst (n := 0) hx hb dX4_isUsed_28 ?_
    exact ro_zret hx hb hr hlk dX4_isUsed_29 (by omega) (congrArg (fun z => Value.int (zI z)) (b2_f (by rw [Bool.eq_false_iff]; intro h; obtain ⟨j, q1, q2, q3⟩ := anyN_iff.mp h; exact hJ j q1 (by omega) (by simpa using q3))).symm)
  · skip
    refine lv_aload_n hx hb dX4_isUsed_10 rfl (lv_at hl 0 rfl) ?_
    refine lv_iload_n hx hb dX4_isUsed_11 rfl (lv_at hl 2 rfl) ?_
    refine z_iconst (n := 0) hx hb dX4_isUsed_12 ?_
    refine z_ro (zrV (As := [.int (zI i), .int (zI 0)]) (rest := []) ⟨hx, hb, hml, hown, hts⟩ (c_X4_property l G cs b S i 0 (by omega) (by omega)) gX4_isUsed_X4_property rfl qX4_property rfl rfl ⟨Nat.le_of_ble_eq_true rfl, Nat.le_of_ble_eq_true rfl⟩ hPs hK (va_recv hK.1 hPs (ci := 4) (q0 := 0) rfl rfl) hl.1 rfl (Nat.le_of_ble_eq_true rfl) dX4_isUsed_13 ⟨Nat.le_of_ble_eq_true rfl, Nat.le_of_ble_eq_true rfl⟩) ?_
    refine lv_iload_n hx hb dX4_isUsed_16 rfl (lv_at hl 1 rfl) ?_
    refine z_icmp_ne (tgt := 22) hx hb dX4_isUsed_17 (by decide) (by have q1 := wP i hI.1 (by omega); omega) (by omega) (fun c3 => ?_) (fun c3 => ?_)
    · skip
      refine z_iinc (k := 2) (lv' := [(2, .int (zI (i + 1))), (0, .ref (b 0)), (1, .int (zI q))]) hx hb dX4_isUsed_22 hl rfl (by decide) rfl (fun ls hl => ?_)
      refine lv_goto (tgt := 2) hx hb dX4_isUsed_25 (by decide) ?_
      exact ih (i + 1) ⟨by omega, fun j q1 q2 => by
      by_cases e : j = i
      · subst e; exact c3
      · exact hJ j q1 (by omega)⟩ (by omega) ls (lv_sub hl [1, 2, 0] rfl)
    · skip
      refine z_iconst (n := 1) hx hb dX4_isUsed_20 ?_
      exact ro_zret hx hb hr hlk dX4_isUsed_21 (by omega) (congrArg (fun z => Value.int (zI z)) (b2_t (by exact anyN_iff.mpr ⟨i, hI.1, by omega, by simpa using c3⟩)).symm)

set_option maxHeartbeats 4000000 in
set_option maxRecDepth 100000 in
theorem c_X4_partsNotUsed (l : Launch) (G : va_G) (cs : Nat → ClassId) (b : Nat → Nat) (S : SS) (wf : WF S) : MRO l yX4_partsNotUsed wsX4_partsNotUsed { frames := 2, cells := 0, slots := 0, locals := 45 } G cs [.ref (b 0)] (fun H => va_P G vwCl (stW cs b S) H) (.int (zI (cntI (fun q => !isUsed S q) (S 0 0)))) := by
  refine m_intro (Pw := (fun H => va_P G vwCl (stW cs b S) H)) (cc := cX4_partsNotUsed) (maxL := 3) (ret := some .int) RX4 (by decide) rfl rfl (Nat.le_of_ble_eq_true rfl) ?_
  intro pP eE sS mM below meth cC hx hb hr hts hown hml hlk hnm hPre hK ls hl
  have hl : lv_has ls 3 [(0, .ref (b 0))] := hl
  have hPs := hPre
  have hi3 : ∀ w ∈ u_ws RX3 TX3 3, w ∈ wsX4_partsNotUsed := by decide +kernel
  have hi4 : ∀ w ∈ u_ws RX4 TX4 9, w ∈ wsX4_partsNotUsed := by decide +kernel
  have wf0 := wf
  obtain ⟨w0, w1, w2, w3, w4, wP, wC, wS, wX⟩ := wf
  refine z_iconst (n := 0) hx hb dX4_partsNotUsed_0 ?_
  refine lv_istore_n (lv' := [(1, .int (zI 0)), (0, .ref (b 0))]) hx hb dX4_partsNotUsed_1 rfl hl (by decide) rfl (fun ls hl => ?_)
  refine z_iconst (n := 0) hx hb dX4_partsNotUsed_2 ?_
  refine lv_istore_n (lv' := [(2, .int (zI 0)), (1, .int (zI 0)), (0, .ref (b 0))]) hx hb dX4_partsNotUsed_3 rfl hl (by decide) rfl (fun ls hl => ?_)
  -- loop 4
  refine z_loop (nL := 3) (fun (i : Int) => [(0, .ref (b 0)), (1, .int (zI (cntI (fun q => !isUsed S q) i))), (2, .int (zI i))]) (fun (i : Int) => 0 ≤ i ∧ i ≤ S 0 0) (fun (i : Int) => (S 0 0 - i).toNat) 0 (by omega) (lv_sub hl [2, 1, 0] rfl) (fun i hI ih ls hl => ?_)
  have hl : lv_has ls 3 [(0, .ref (b 0)), (1, .int (zI (cntI (fun q => !isUsed S q) i))), (2, .int (zI i))] := hl
  have hc := cntI_r (fun q => !isUsed S q) hI.1
  refine lv_iload_n hx hb dX4_partsNotUsed_4 rfl (lv_at hl 2 rfl) ?_
  refine lv_aload_n hx hb dX4_partsNotUsed_5 rfl (lv_at hl 0 rfl) ?_
  refine va_get (D := G) (ci := 4) (v := .ref (b 1)) (C := RX4) (T := TX4) (N := 9) hx hb hts hi4 hown hK.1 hPs 0 rfl rfl 4 (by decide) (hts (.fieldLink RX4 18 "SpriteLines$State" "sheet" "LSpriteLines$Sheet;") (by decide +kernel)) (fun _ h9 => h9) rfl dX4_partsNotUsed_6 ?_
  refine va_get (D := G) (ci := 3) (v := .int (zI (S 0 0))) (C := RX3) (T := TX3) (N := 3) hx hb hts hi3 hown hK.1 hPs 1 rfl rfl 0 (by decide) (hts (.fieldLink RX4 77 "SpriteLines$Sheet" "parts" "I") (by decide +kernel)) (fun _ h9 => h9) rfl dX4_partsNotUsed_9 ?_
  refine z_icmp_ge (tgt := 32) hx hb dX4_partsNotUsed_12 (by decide) (by omega) (by omega) (fun c1 => ?_) (fun c1 => ?_)
  · skip
    refine lv_iload_n hx hb dX4_partsNotUsed_32 rfl (lv_at hl 1 rfl) ?_
    exact ro_iret hx hb hr hlk dX4_partsNotUsed_33 (congrArg (fun z => Value.int (zI z)) (by rw [show i = S 0 0 by omega]))
  · skip
    refine lv_aload_n hx hb dX4_partsNotUsed_15 rfl (lv_at hl 0 rfl) ?_
    refine lv_iload_n hx hb dX4_partsNotUsed_16 rfl (lv_at hl 2 rfl) ?_
    refine z_ro (zrV (As := [.int (zI i)]) (rest := []) ⟨hx, hb, hml, hown, hts⟩ (c_X4_isUsed l G cs b S i wf0 (by omega)) gX4_partsNotUsed_X4_isUsed rfl qX4_isUsed rfl rfl ⟨Nat.le_of_ble_eq_true rfl, Nat.le_of_ble_eq_true rfl⟩ hPs hK (va_recv hK.1 hPs (ci := 4) (q0 := 0) rfl rfl) hl.1 rfl (Nat.le_of_ble_eq_true rfl) dX4_partsNotUsed_17 ⟨Nat.le_of_ble_eq_true rfl, Nat.le_of_ble_eq_true rfl⟩) ?_
    refine z_bif_ne (tgt := 26) hx hb dX4_partsNotUsed_20 (by decide) (fun c4 => ?_) (fun c4 => ?_)
    · skip
      refine z_iinc (k := 2) (lv' := [(2, .int (zI (i + 1))), (0, .ref (b 0)), (1, .int (zI (cntI (fun q => !isUsed S q) i)))]) hx hb dX4_partsNotUsed_26 hl rfl (by decide) rfl (fun ls hl => ?_)
      refine lv_goto (tgt := 4) hx hb dX4_partsNotUsed_29 (by decide) ?_
      exact ih (i + 1) (by omega) (by omega) ls (by show lv_has ls 3 [(0, .ref (b 0)), (1, .int (zI (cntI (fun q => !isUsed S q) (i + 1)))), (2, .int (zI (i + 1)))]; rw [cntI_f hI.1 (by simp [c4])]; exact lv_sub hl [1, 2, 0] rfl)
    · skip
      refine z_iinc (k := 1) (lv' := [(1, .int (zI ((cntI (fun q => !isUsed S q) i) + 1))), (0, .ref (b 0)), (2, .int (zI i))]) hx hb dX4_partsNotUsed_23 hl rfl (by decide) rfl (fun ls hl => ?_)
      refine z_iinc (k := 2) (lv' := [(2, .int (zI (i + 1))), (1, .int (zI ((cntI (fun q => !isUsed S q) i) + 1))), (0, .ref (b 0))]) hx hb dX4_partsNotUsed_26 hl rfl (by decide) rfl (fun ls hl => ?_)
      refine lv_goto (tgt := 4) hx hb dX4_partsNotUsed_29 (by decide) ?_
      exact ih (i + 1) (by omega) (by omega) ls (by show lv_has ls 3 [(0, .ref (b 0)), (1, .int (zI (cntI (fun q => !isUsed S q) (i + 1)))), (2, .int (zI (i + 1)))]; rw [cntI_t hI.1 (by simp [c4])]; exact lv_sub hl [2, 1, 0] rfl)
