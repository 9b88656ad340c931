def putSw (S : SS) (x u v : Int) : SS := up2 (up2 S 3 (updZ (S 3) x (if v < u then v else u))) 4 (updZ (S 4) x (if u < v then v else u))
set_option maxHeartbeats 4000000 in
set_option maxRecDepth 100000 in
theorem c_X4_putProperty (l : Launch) (G : va_G) (cs : Nat → ClassId) (b : Nat → Nat) (S : SS) (x w v : Int) (ib : Inj b 8) (h1 : 0 ≤ x ∧ x < 20) (h2 : 0 ≤ w ∧ w < 6) : MV l yX4_putProperty wsX4_putProperty { frames := 0, cells := 0, slots := 0, locals := 0 } G cs [.ref (b 0), .int (zI x), .int (zI w), .int (zI v)] (fun H => va_P G vwCl (stW cs b S) H) (fun H => va_P G vwCl (stW cs b (up2 S 1 (updZ (S 1) (6 * x + w) v))) H) (AX b 4 5) 0 0 := by
  refine m_intro (Pw := (fun H => va_P G vwCl (stW cs b S) H)) (cc := cX4_putProperty) (maxL := 5) (ret := none) RX4 (by decide) rfl rfl (Nat.le_of_ble_eq_true rfl) ?_
  intro pP eE sS mM below meth cC hx hb hr hts hown hml hlk hnm hPre hK ls hl
  have hl : lv_has ls 5 [(0, .ref (b 0)), (1, .int (zI x)), (2, .int (zI w)), (3, .int (zI v))] := hl
  have hPs := hPre
  have hS : va_S (AX b 4 5) sS.heap sS.heap [] := va_S.rf
  have hi4 : ∀ w ∈ u_ws RX4 TX4 9, w ∈ wsX4_putProperty := by decide +kernel
  refine z_bipush (n := 6) hx hb dX4_putProperty_0 (by decide) ?_
  refine lv_iload_n hx hb dX4_putProperty_2 rfl (lv_at hl 1 rfl) ?_
  refine z_imul hx hb dX4_putProperty_3 ?_
  refine lv_iload_n hx hb dX4_putProperty_4 rfl (lv_at hl 2 rfl) ?_
  refine z_iadd hx hb dX4_putProperty_5 ?_
  refine lv_istore (lv' := [(4, .int (zI ((6 * x) + w))), (0, .ref (b 0)), (1, .int (zI x)), (2, .int (zI w)), (3, .int (zI v))]) hx hb dX4_putProperty_6 hl (by decide) rfl (fun ls hl => ?_)
  refine lv_iload hx hb dX4_putProperty_8 (lv_at hl 0 rfl) ?_
  refine z_if_lt (tgt := 31) hx hb dX4_putProperty_10 (by decide) (by omega) (fun c1 => ?_) (fun c1 => ?_)
  · skip
    exfalso; omega
  · skip
    refine lv_iload hx hb dX4_putProperty_13 (lv_at hl 0 rfl) ?_
    refine lv_aload_n hx hb dX4_putProperty_15 rfl (lv_at hl 1 rfl) ?_
    refine va_get (D := G) (ci := 4) (v := .ref (b 4)) (C := RX4) (T := TX4) (N := 9) hx hb hts hi4 hown hK.1 hPs 0 rfl rfl 5 (by decide) (hts (.fieldLink RX4 22 "SpriteLines$State" "properties" "[I") (by decide +kernel)) (fun _ h9 => h9) rfl dX4_putProperty_16 ?_
    refine z_alen hx hb hK.1 hPs 4 0 rfl rfl dX4_putProperty_19 ?_
    refine z_topi (b := 120) rfl ?_
    refine z_icmp_ge (tgt := 31) hx hb dX4_putProperty_20 (by decide) (by omega) (by omega) (fun c2 => ?_) (fun c2 => ?_)
    · skip
      exfalso; omega
    · skip
      refine lv_aload_n hx hb dX4_putProperty_23 rfl (lv_at hl 1 rfl) ?_
      refine va_get (D := G) (ci := 4) (v := .ref (b 4)) (C := RX4) (T := TX4) (N := 9) hx hb hts hi4 hown hK.1 hPs 0 rfl rfl 5 (by decide) (hts (.fieldLink RX4 22 "SpriteLines$State" "properties" "[I") (by decide +kernel)) (fun _ h9 => h9) rfl dX4_putProperty_24 ?_
      refine lv_iload hx hb dX4_putProperty_27 (lv_at hl 0 rfl) ?_
      refine lv_iload_n hx hb dX4_putProperty_29 rfl (lv_at hl 4 rfl) ?_
      refine z_iast hx hb hK.1 hPs (Ord.D (ordSt cs b S) ib) hS 4 0 (F := S 1) rfl rfl (by omega) (by decide) ⟨4, by decide, by decide, rfl⟩ dX4_putProperty_30 (fun H locs hP1 hle hk hS => ?_)
      have hPs : va_P G vwCl (stW cs b (up2 S 1 (updZ (S 1) ((6 * x) + w) v))) H := hP1
      exact v_ret hx hb hr hlk dX4_putProperty_31 hS (hPs)

set_option maxHeartbeats 4000000 in
set_option maxRecDepth 100000 in
theorem c_X4_putColor (l : Launch) (G : va_G) (cs : Nat → ClassId) (b : Nat → Nat) (S : SS) (q p0 v : Int) (ib : Inj b 8) (h1 : 0 ≤ q ∧ q < 4) (h2 : 0 ≤ p0 ∧ p0 < 4) : MV l yX4_putColor wsX4_putColor { frames := 0, cells := 0, slots := 0, locals := 0 } G cs [.ref (b 0), .int (zI q), .int (zI p0), .int (zI v)] (fun H => va_P G vwCl (stW cs b S) H) (fun H => va_P G vwCl (stW cs b (up2 S 2 (updZ (S 2) (4 * q + p0) v))) H) (AX b 5 6) 0 0 := by
  refine m_intro (Pw := (fun H => va_P G vwCl (stW cs b S) H)) (cc := cX4_putColor) (maxL := 5) (ret := none) RX4 (by decide) rfl rfl (Nat.le_of_ble_eq_true rfl) ?_
  intro pP eE sS mM below meth cC hx hb hr hts hown hml hlk hnm hPre hK ls hl
  have hl : lv_has ls 5 [(0, .ref (b 0)), (1, .int (zI q)), (2, .int (zI p0)), (3, .int (zI v))] := hl
  have hPs := hPre
  have hS : va_S (AX b 5 6) sS.heap sS.heap [] := va_S.rf
  have hi4 : ∀ w ∈ u_ws RX4 TX4 9, w ∈ wsX4_putColor := by decide +kernel
  refine z_iconst (n := 4) hx hb dX4_putColor_0 ?_
  refine lv_iload_n hx hb dX4_putColor_1 rfl (lv_at hl 1 rfl) ?_
  refine z_imul hx hb dX4_putColor_2 ?_
  refine lv_iload_n hx hb dX4_putColor_3 rfl (lv_at hl 2 rfl) ?_
  refine z_iadd hx hb dX4_putColor_4 ?_
  refine lv_istore (lv' := [(4, .int (zI ((4 * q) + p0))), (0, .ref (b 0)), (1, .int (zI q)), (2, .int (zI p0)), (3, .int (zI v))]) hx hb dX4_putColor_5 hl (by decide) rfl (fun ls hl => ?_)
  refine lv_iload hx hb dX4_putColor_7 (lv_at hl 0 rfl) ?_
  refine z_if_lt (tgt := 30) hx hb dX4_putColor_9 (by decide) (by omega) (fun c1 => ?_) (fun c1 => ?_)
  · skip
    exfalso; omega
  · skip
    refine lv_iload hx hb dX4_putColor_12 (lv_at hl 0 rfl) ?_
    refine lv_aload_n hx hb dX4_putColor_14 rfl (lv_at hl 1 rfl) ?_
    refine va_get (D := G) (ci := 4) (v := .ref (b 5)) (C := RX4) (T := TX4) (N := 9) hx hb hts hi4 hown hK.1 hPs 0 rfl rfl 6 (by decide) (hts (.fieldLink RX4 26 "SpriteLines$State" "colors" "[I") (by decide +kernel)) (fun _ h9 => h9) rfl dX4_putColor_15 ?_
    refine z_alen hx hb hK.1 hPs 5 0 rfl rfl dX4_putColor_18 ?_
    refine z_topi (b := 16) rfl ?_
    refine z_icmp_ge (tgt := 30) hx hb dX4_putColor_19 (by decide) (by omega) (by omega) (fun c2 => ?_) (fun c2 => ?_)
    · skip
      exfalso; omega
    · skip
      refine lv_aload_n hx hb dX4_putColor_22 rfl (lv_at hl 1 rfl) ?_
      refine va_get (D := G) (ci := 4) (v := .ref (b 5)) (C := RX4) (T := TX4) (N := 9) hx hb hts hi4 hown hK.1 hPs 0 rfl rfl 6 (by decide) (hts (.fieldLink RX4 26 "SpriteLines$State" "colors" "[I") (by decide +kernel)) (fun _ h9 => h9) rfl dX4_putColor_23 ?_
      refine lv_iload hx hb dX4_putColor_26 (lv_at hl 0 rfl) ?_
      refine lv_iload_n hx hb dX4_putColor_28 rfl (lv_at hl 4 rfl) ?_
      refine z_iast hx hb hK.1 hPs (Ord.D (ordSt cs b S) ib) hS 5 0 (F := S 2) rfl rfl (by omega) (by decide) ⟨5, by decide, by decide, rfl⟩ dX4_putColor_29 (fun H locs hP1 hle hk hS => ?_)
      have hPs : va_P G vwCl (stW cs b (up2 S 2 (updZ (S 2) ((4 * q) + p0) v))) H := hP1
      exact v_ret hx hb hr hlk dX4_putColor_30 hS (hPs)

set_option maxHeartbeats 4000000 in
set_option maxRecDepth 100000 in
theorem c_X4_putSwap (l : Launch) (G : va_G) (cs : Nat → ClassId) (b : Nat → Nat) (S : SS) (x u v : Int) (ib : Inj b 8) (h1 : 0 ≤ x ∧ x < 32) (h2 : 0 ≤ u ∧ u < 4) (h3 : 0 ≤ v ∧ v < 4) : MV l yX4_putSwap wsX4_putSwap { frames := 1, cells := 0, slots := 0, locals := 40 } G cs [.ref (b 0), .int (zI x), .int (zI u), .int (zI v)] (fun H => va_P G vwCl (stW cs b S) H) (fun H => va_P G vwCl (stW cs b (putSw S x u v)) H) (AX b 6 8) 0 0 := by
  refine m_intro (Pw := (fun H => va_P G vwCl (stW cs b S) H)) (cc := cX4_putSwap) (maxL := 4) (ret := none) RX4 (by decide) rfl rfl (Nat.le_of_ble_eq_true rfl) ?_
  intro pP eE sS mM below meth cC hx hb hr hts hown hml hlk hnm hPre hK ls hl
  have hl : lv_has ls 4 [(0, .ref (b 0)), (1, .int (zI x)), (2, .int (zI u)), (3, .int (zI v))] := hl
  have hPs := hPre
  have hS : va_S (AX b 6 8) sS.heap sS.heap [] := va_S.rf
  have hi4 : ∀ w ∈ u_ws RX4 TX4 9, w ∈ wsX4_putSwap := by decide +kernel
  refine lv_iload_n hx hb dX4_putSwap_0 rfl (lv_at hl 1 rfl) ?_
  refine z_if_lt (tgt := 44) hx hb dX4_putSwap_1 (by decide) (by omega) (fun c1 => ?_) (fun c1 => ?_)
  · skip
    exfalso; omega
  · skip
    refine lv_iload_n hx hb dX4_putSwap_4 rfl (lv_at hl 1 rfl) ?_
    refine lv_aload_n hx hb dX4_putSwap_5 rfl (lv_at hl 0 rfl) ?_
    refine va_get (D := G) (ci := 4) (v := .ref (b 6)) (C := RX4) (T := TX4) (N := 9) hx hb hts hi4 hown hK.1 hPs 0 rfl rfl 7 (by decide) (hts (.fieldLink RX4 29 "SpriteLines$State" "lowerOfSwaps" "[I") (by decide +kernel)) (fun _ h9 => h9) rfl dX4_putSwap_6 ?_
    refine z_alen hx hb hK.1 hPs 6 0 rfl rfl dX4_putSwap_9 ?_
    refine z_topi (b := 32) rfl ?_
    refine z_icmp_ge (tgt := 44) hx hb dX4_putSwap_10 (by decide) (by omega) (by omega) (fun c2 => ?_) (fun c2 => ?_)
    · skip
      exfalso; omega
    · skip
      refine lv_iload_n hx hb dX4_putSwap_13 rfl (lv_at hl 1 rfl) ?_
      refine lv_aload_n hx hb dX4_putSwap_14 rfl (lv_at hl 0 rfl) ?_
      refine va_get (D := G) (ci := 4) (v := .ref (b 7)) (C := RX4) (T := TX4) (N := 9) hx hb hts hi4 hown hK.1 hPs 0 rfl rfl 8 (by decide) (hts (.fieldLink RX4 32 "SpriteLines$State" "upperOfSwaps" "[I") (by decide +kernel)) (fun _ h9 => h9) rfl dX4_putSwap_15 ?_
      refine z_alen hx hb hK.1 hPs 7 0 rfl rfl dX4_putSwap_18 ?_
      refine z_topi (b := 32) rfl ?_
      refine z_icmp_ge (tgt := 44) hx hb dX4_putSwap_19 (by decide) (by omega) (by omega) (fun c3 => ?_) (fun c3 => ?_)
      · skip
        exfalso; omega
      · skip
        refine lv_aload_n hx hb dX4_putSwap_22 rfl (lv_at hl 0 rfl) ?_
        refine va_get (D := G) (ci := 4) (v := .ref (b 6)) (C := RX4) (T := TX4) (N := 9) hx hb hts hi4 hown hK.1 hPs 0 rfl rfl 7 (by decide) (hts (.fieldLink RX4 29 "SpriteLines$State" "lowerOfSwaps" "[I") (by decide +kernel)) (fun _ h9 => h9) rfl dX4_putSwap_23 ?_
        refine lv_iload_n hx hb dX4_putSwap_26 rfl (lv_at hl 1 rfl) ?_
        refine lv_iload_n hx hb dX4_putSwap_27 rfl (lv_at hl 2 rfl) ?_
        refine lv_iload_n hx hb dX4_putSwap_28 rfl (lv_at hl 3 rfl) ?_
        refine va_mmin hx hb (by rw [hml]; exact hl.1.symm) hown (hts (.methodLink RX4 61 Lib.Math.min.name) (by decide +kernel)) (hts (.static Lib.Math.min.name) (by decide +kernel)) (hts (.initialized "java/lang/Math") (by decide +kernel)) (hts (.code Lib.Math.min.name Lib.Math.min.code 2 (some .int)) (by decide +kernel)) (Nat.le_of_ble_eq_true rfl) (Nat.le_of_ble_eq_true rfl) (Nat.le_of_ble_eq_true rfl) (Nat.le_of_ble_eq_true rfl) dX4_putSwap_29 ?_
        refine z_top (v' := .int (zI (if v < u then v else u))) (congrArg Value.int (z_min (by omega) (by omega))) ?_
        refine z_iast hx hb hK.1 hPs (Ord.D (ordSt cs b S) ib) hS 6 0 (F := S 3) rfl rfl (by omega) (by decide) ⟨6, by decide, by decide, rfl⟩ dX4_putSwap_32 (fun H locs hP1 hle hk hS => ?_)
        have hPs : va_P G vwCl (stW cs b (up2 S 3 (updZ (S 3) x (if v < u then v else u)))) H := hP1
        refine lv_aload_n hx hb dX4_putSwap_33 rfl (lv_at hl 0 rfl) ?_
        refine va_get (D := G) (ci := 4) (v := .ref (b 7)) (C := RX4) (T := TX4) (N := 9) hx hb hts hi4 hown hK.1 hPs 0 rfl rfl 8 (by decide) (hts (.fieldLink RX4 32 "SpriteLines$State" "upperOfSwaps" "[I") (by decide +kernel)) (fun _ h9 => h9) rfl dX4_putSwap_34 ?_
        refine lv_iload_n hx hb dX4_putSwap_37 rfl (lv_at hl 1 rfl) ?_
        refine lv_iload_n hx hb dX4_putSwap_38 rfl (lv_at hl 2 rfl) ?_
        refine lv_iload_n hx hb dX4_putSwap_39 rfl (lv_at hl 3 rfl) ?_
        refine va_mmax hx hb (by rw [hml]; exact hl.1.symm) hown (hts (.methodLink RX4 67 Lib.Math.max.name) (by decide +kernel)) (hts (.static Lib.Math.max.name) (by decide +kernel)) (hts (.initialized "java/lang/Math") (by decide +kernel)) (hts (.code Lib.Math.max.name Lib.Math.max.code 2 (some .int)) (by decide +kernel)) (Nat.le_of_ble_eq_true rfl) (Nat.le_of_ble_eq_true rfl) (Nat.le_of_ble_eq_true rfl) (Nat.le_of_ble_eq_true rfl) dX4_putSwap_40 ?_
        refine z_top (v' := .int (zI (if u < v then v else u))) (congrArg Value.int (z_max (by omega) (by omega))) ?_
        refine z_iast hx hb hK.1 hPs (Ord.D (ordSt cs b (up2 S 3 (updZ (S 3) x (if v < u then v else u)))) ib) hS 7 0 (F := (up2 S 3 (updZ (S 3) x (if v < u then v else u))) 4) rfl rfl (by omega) (by decide) ⟨7, by decide, by decide, rfl⟩ dX4_putSwap_43 (fun H locs hP1 hle hk hS => ?_)
        have hPs : va_P G vwCl (stW cs b (putSw S x u v)) H := hP1
        exact v_ret hx hb hr hlk dX4_putSwap_44 hS (hPs)

set_option maxHeartbeats 4000000 in
set_option maxRecDepth 100000 in
theorem c_X3_copyFrom (l : Launch) (G : va_G) (cs : Nat → ClassId) (b : Nat → Nat) (S : SS) (b2 : Nat → Nat) (S2 : SS) (ib : Inj b 8) (hdj : ∀ i j, i < 8 → j < 8 → b i ≠ b2 j) : MV l yX3_copyFrom wsX3_copyFrom { frames := 1, cells := 0, slots := 0, locals := 60 } G cs [.ref (b 1), .ref (b2 1)] (fun H => va_P G vwCl (stW cs b S) H ∧ va_P G vwCl (stW cs b2 S2) H) (fun H => va_P G vwCl (stW cs b (up2 (up2 S 0 (updZ (S 0) 0 (S2 0 0))) 5 (S2 5))) H) (AX b 1 4) 0 0 := by
  refine m_intro (Pw := (fun H => va_P G vwCl (stW cs b S) H ∧ va_P G vwCl (stW cs b2 S2) H)) (cc := cX3_copyFrom) (maxL := 2) (ret := none) RX3 (by decide) rfl rfl (Nat.le_of_ble_eq_true rfl) ?_
  intro pP eE sS mM below meth cC hx hb hr hts hown hml hlk hnm hPre hK ls hl
  have hl : lv_has ls 2 [(0, .ref (b 1)), (1, .ref (b2 1))] := hl
  obtain ⟨hPs, hQs⟩ := hPre
  have hS : va_S (AX b 1 4) sS.heap sS.heap [] := va_S.rf
  have hi3 : ∀ w ∈ u_ws RX3 TX3 3, w ∈ wsX3_copyFrom := by decide +kernel
  refine lv_aload_n hx hb dX3_copyFrom_0 rfl (lv_at hl 0 rfl) ?_
  refine lv_aload_n hx hb dX3_copyFrom_1 rfl (lv_at hl 1 rfl) ?_
  refine va_get (D := G) (ci := 3) (v := .int (zI (S2 0 0))) (C := RX3) (T := TX3) (N := 3) hx hb hts hi3 hown hK.1 hQs 1 rfl rfl 0 (by decide) (hts (.fieldLink RX3 18 "SpriteLines$Sheet" "parts" "I") (by decide +kernel)) (fun _ h9 => h9) rfl dX3_copyFrom_2 ?_
  refine z_put (G := G) (ci := 3) (v := .int (zI (S2 0 0))) (ty := .int) (C := RX3) (T := TX3) (N := 3) hx hb hts hi3 tyX3 tyX3_ok nmX3 hown hK.1 hPs (Ord.D (ordSt cs b S) ib) hS 1 rfl rfl 0 (by decide) (hts (.fieldLink RX3 18 "SpriteLines$Sheet" "parts" "I") (by decide +kernel)) (fun _ h9 => h9) rfl (by decide +kernel) rfl rfl (Nat.le_of_ble_eq_true rfl) ⟨1, by decide, by decide, rfl⟩ dX3_copyFrom_5 (fun H locs hP1 hle hk hS => ?_)
  have hQs := keepO (ordSt cs b2 S2) hQs hk (fun j hj h3 => hdj 1 j (by decide) hj h3.symm)
  have hPs : va_P G vwCl (stW cs b (up2 S 0 (updZ (S 0) 0 (S2 0 0)))) H := hP1
  refine lv_aload_n hx hb dX3_copyFrom_8 rfl (lv_at hl 1 rfl) ?_
  refine va_get (D := G) (ci := 3) (v := .ref (b2 2)) (C := RX3) (T := TX3) (N := 3) hx hb hts hi3 hown hK.1 hQs 1 rfl rfl 1 (by decide) (hts (.fieldLink RX3 9 "SpriteLines$Sheet" "low" "[J") (by decide +kernel)) (fun _ h9 => h9) rfl dX3_copyFrom_9 ?_
  refine z_iconst (n := 0) hx hb dX3_copyFrom_12 ?_
  refine lv_aload_n hx hb dX3_copyFrom_13 rfl (lv_at hl 0 rfl) ?_
  refine va_get (D := G) (ci := 3) (v := .ref (b 2)) (C := RX3) (T := TX3) (N := 3) hx hb hts hi3 hown hK.1 hPs 1 rfl rfl 1 (by decide) (hts (.fieldLink RX3 9 "SpriteLines$Sheet" "low" "[J") (by decide +kernel)) (fun _ h9 => h9) rfl dX3_copyFrom_14 ?_
  refine z_iconst (n := 0) hx hb dX3_copyFrom_17 ?_
  refine z_bipush (n := 24) hx hb dX3_copyFrom_18 (by decide) ?_
  refine z_copyl hx hb (by rw [hml]; exact hl.1.symm) hown (hts (.methodLink RX3 22 arraycopyName) (by decide +kernel)) (hts (.native arraycopyName) (by decide +kernel)) (hts (.static arraycopyName) (by decide +kernel)) (hts (.initialized "java/lang/System") (by decide +kernel)) hK.1 hQs hPs (Ord.D (ordSt cs b (up2 S 0 (updZ (S 0) 0 (S2 0 0)))) ib) hS 2 2 1 1 rfl rfl rfl rfl rfl (by decide) ⟨2, by decide, by decide, rfl⟩ (Nat.le_of_ble_eq_true rfl) (Nat.le_of_ble_eq_true rfl) dX3_copyFrom_20 (fun H locs hP1 hle hk hS => ?_)
  have hQs := keepO (ordSt cs b2 S2) hQs hk (fun j hj h3 => hdj 2 j (by decide) hj h3.symm)
  have hPs : va_P G vwCl (stW cs b (up2 (up2 S 0 (updZ (S 0) 0 (S2 0 0))) 5 (mixP (S2 5) ((up2 S 0 (updZ (S 0) 0 (S2 0 0))) 5)))) H := (by rw [stW_setL2] at hP1; exact hP1)
  refine lv_aload_n hx hb dX3_copyFrom_23 rfl (lv_at hl 1 rfl) ?_
  refine va_get (D := G) (ci := 3) (v := .ref (b2 3)) (C := RX3) (T := TX3) (N := 3) hx hb hts hi3 hown hK.1 hQs 1 rfl rfl 2 (by decide) (hts (.fieldLink RX3 15 "SpriteLines$Sheet" "high" "[J") (by decide +kernel)) (fun _ h9 => h9) rfl dX3_copyFrom_24 ?_
  refine z_iconst (n := 0) hx hb dX3_copyFrom_27 ?_
  refine lv_aload_n hx hb dX3_copyFrom_28 rfl (lv_at hl 0 rfl) ?_
  refine va_get (D := G) (ci := 3) (v := .ref (b 3)) (C := RX3) (T := TX3) (N := 3) hx hb hts hi3 hown hK.1 hPs 1 rfl rfl 2 (by decide) (hts (.fieldLink RX3 15 "SpriteLines$Sheet" "high" "[J") (by decide +kernel)) (fun _ h9 => h9) rfl dX3_copyFrom_29 ?_
  refine z_iconst (n := 0) hx hb dX3_copyFrom_32 ?_
  refine z_bipush (n := 24) hx hb dX3_copyFrom_33 (by decide) ?_
  refine z_copyl hx hb (by rw [hml]; exact hl.1.symm) hown (hts (.methodLink RX3 22 arraycopyName) (by decide +kernel)) (hts (.native arraycopyName) (by decide +kernel)) (hts (.static arraycopyName) (by decide +kernel)) (hts (.initialized "java/lang/System") (by decide +kernel)) hK.1 hQs hPs (Ord.D (ordSt cs b (up2 (up2 S 0 (updZ (S 0) 0 (S2 0 0))) 5 (mixP (S2 5) ((up2 S 0 (updZ (S 0) 0 (S2 0 0))) 5)))) ib) hS 3 3 1 1 rfl rfl rfl rfl rfl (by decide) ⟨3, by decide, by decide, rfl⟩ (Nat.le_of_ble_eq_true rfl) (Nat.le_of_ble_eq_true rfl) dX3_copyFrom_35 (fun H locs hP1 hle hk hS => ?_)
  have hQs := keepO (ordSt cs b2 S2) hQs hk (fun j hj h3 => hdj 3 j (by decide) hj h3.symm)
  have hPs : va_P G vwCl (stW cs b (up2 (up2 S 0 (updZ (S 0) 0 (S2 0 0))) 5 (S2 5))) H := (by rw [stW_setH2] at hP1; exact hP1)
  exact v_ret hx hb hr hlk dX3_copyFrom_38 hS hPs

set_option maxHeartbeats 4000000 in
set_option maxRecDepth 100000 in
theorem c_X4_copyFrom (l : Launch) (G : va_G) (cs : Nat → ClassId) (b : Nat → Nat) (S : SS) (b2 : Nat → Nat) (S2 : SS) (ib : Inj b 8) (hdj : ∀ i j, i < 8 → j < 8 → b i ≠ b2 j) : MV l yX4_copyFrom wsX4_copyFrom { frames := 2, cells := 0, slots := 0, locals := 81 } G cs [.ref (b 0), .ref (b2 0)] (fun H => va_P G vwCl (stW cs b S) H ∧ va_P G vwCl (stW cs b2 S2) H) (fun H => va_P G vwCl (stW cs b S2) H) (AX b 0 8) 0 0 := by
  refine m_intro (Pw := (fun H => va_P G vwCl (stW cs b S) H ∧ va_P G vwCl (stW cs b2 S2) H)) (cc := cX4_copyFrom) (maxL := 2) (ret := none) RX4 (by decide) rfl rfl (Nat.le_of_ble_eq_true rfl) ?_
  intro pP eE sS mM below meth cC hx hb hr hts hown hml hlk hnm hPre hK ls hl
  have hl : lv_has ls 2 [(0, .ref (b 0)), (1, .ref (b2 0))] := hl
  obtain ⟨hPs, hQs⟩ := hPre
  have hS : va_S (AX b 0 8) sS.heap sS.heap [] := va_S.rf
  have hi4 : ∀ w ∈ u_ws RX4 TX4 9, w ∈ wsX4_copyFrom := by decide +kernel
  refine lv_aload_n hx hb dX4_copyFrom_0 rfl (lv_at hl 0 rfl) ?_
  refine lv_aload_n hx hb dX4_copyFrom_1 rfl (lv_at hl 1 rfl) ?_
  refine va_get (D := G) (ci := 4) (v := .int (zI (S2 0 4))) (C := RX4) (T := TX4) (N := 9) hx hb hts hi4 hown hK.1 hQs 0 rfl rfl 0 (by decide) (hts (.fieldLink RX4 35 "SpriteLines$State" "frame" "I") (by decide +kernel)) (fun _ h9 => h9) rfl dX4_copyFrom_2 ?_
  refine z_put (G := G) (ci := 4) (v := .int (zI (S2 0 4))) (ty := .int) (C := RX4) (T := TX4) (N := 9) hx hb hts hi4 tyX4 tyX4_ok nmX4 hown hK.1 hPs (Ord.D (ordSt cs b S) ib) hS 0 rfl rfl 0 (by decide) (hts (.fieldLink RX4 35 "SpriteLines$State" "frame" "I") (by decide +kernel)) (fun _ h9 => h9) rfl (by decide +kernel) rfl rfl (Nat.le_of_ble_eq_true rfl) ⟨0, by decide, by decide, rfl⟩ dX4_copyFrom_5 (fun H locs hP1 hle hk hS => ?_)
  have hQs := keepO (ordSt cs b2 S2) hQs hk (fun j hj h3 => hdj 0 j (by decide) hj h3.symm)
  have hPs : va_P G vwCl (stW cs b (up2 S 0 (updZ (S 0) 4 (S2 0 4)))) H := hP1
  refine lv_aload_n hx hb dX4_copyFrom_8 rfl (lv_at hl 0 rfl) ?_
  refine lv_aload_n hx hb dX4_copyFrom_9 rfl (lv_at hl 1 rfl) ?_
  refine va_get (D := G) (ci := 4) (v := .int (zI (S2 0 2))) (C := RX4) (T := TX4) (N := 9) hx hb hts hi4 hown hK.1 hQs 0 rfl rfl 1 (by decide) (hts (.fieldLink RX4 9 "SpriteLines$State" "limit" "I") (by decide +kernel)) (fun _ h9 => h9) rfl dX4_copyFrom_10 ?_
  refine z_put (G := G) (ci := 4) (v := .int (zI (S2 0 2))) (ty := .int) (C := RX4) (T := TX4) (N := 9) hx hb hts hi4 tyX4 tyX4_ok nmX4 hown hK.1 hPs (Ord.D (ordSt cs b (up2 S 0 (updZ (S 0) 4 (S2 0 4)))) ib) hS 0 rfl rfl 1 (by decide) (hts (.fieldLink RX4 9 "SpriteLines$State" "limit" "I") (by decide +kernel)) (fun _ h9 => h9) rfl (by decide +kernel) rfl rfl (Nat.le_of_ble_eq_true rfl) ⟨0, by decide, by decide, rfl⟩ dX4_copyFrom_13 (fun H locs hP1 hle hk hS => ?_)
  have hQs := keepO (ordSt cs b2 S2) hQs hk (fun j hj h3 => hdj 0 j (by decide) hj h3.symm)
  have hPs : va_P G vwCl (stW cs b (up2 (up2 S 0 (updZ (S 0) 4 (S2 0 4))) 0 (updZ ((up2 S 0 (updZ (S 0) 4 (S2 0 4))) 0) 2 (S2 0 2)))) H := hP1
  refine lv_aload_n hx hb dX4_copyFrom_16 rfl (lv_at hl 0 rfl) ?_
  refine lv_aload_n hx hb dX4_copyFrom_17 rfl (lv_at hl 1 rfl) ?_
  refine va_get (D := G) (ci := 4) (v := .int (zI (S2 0 3))) (C := RX4) (T := TX4) (N := 9) hx hb hts hi4 hown hK.1 hQs 0 rfl rfl 2 (by decide) (hts (.fieldLink RX4 38 "SpriteLines$State" "stride" "I") (by decide +kernel)) (fun _ h9 => h9) rfl dX4_copyFrom_18 ?_
  refine z_put (G := G) (ci := 4) (v := .int (zI (S2 0 3))) (ty := .int) (C := RX4) (T := TX4) (N := 9) hx hb hts hi4 tyX4 tyX4_ok nmX4 hown hK.1 hPs (Ord.D (ordSt cs b (up2 (up2 S 0 (updZ (S 0) 4 (S2 0 4))) 0 (updZ ((up2 S 0 (updZ (S 0) 4 (S2 0 4))) 0) 2 (S2 0 2)))) ib) hS 0 rfl rfl 2 (by decide) (hts (.fieldLink RX4 38 "SpriteLines$State" "stride" "I") (by decide +kernel)) (fun _ h9 => h9) rfl (by decide +kernel) rfl rfl (Nat.le_of_ble_eq_true rfl) ⟨0, by decide, by decide, rfl⟩ dX4_copyFrom_21 (fun H locs hP1 hle hk hS => ?_)
  have hQs := keepO (ordSt cs b2 S2) hQs hk (fun j hj h3 => hdj 0 j (by decide) hj h3.symm)
  have hPs : va_P G vwCl (stW cs b (up2 (up2 (up2 S 0 (updZ (S 0) 4 (S2 0 4))) 0 (updZ ((up2 S 0 (updZ (S 0) 4 (S2 0 4))) 0) 2 (S2 0 2))) 0 (updZ ((up2 (up2 S 0 (updZ (S 0) 4 (S2 0 4))) 0 (updZ ((up2 S 0 (updZ (S 0) 4 (S2 0 4))) 0) 2 (S2 0 2))) 0) 3 (S2 0 3)))) H := hP1
  refine lv_aload_n hx hb dX4_copyFrom_24 rfl (lv_at hl 0 rfl) ?_
  refine lv_aload_n hx hb dX4_copyFrom_25 rfl (lv_at hl 1 rfl) ?_
  refine va_get (D := G) (ci := 4) (v := .int (zI (S2 0 1))) (C := RX4) (T := TX4) (N := 9) hx hb hts hi4 hown hK.1 hQs 0 rfl rfl 3 (by decide) (hts (.fieldLink RX4 41 "SpriteLines$State" "sprites" "I") (by decide +kernel)) (fun _ h9 => h9) rfl dX4_copyFrom_26 ?_
  refine z_put (G := G) (ci := 4) (v := .int (zI (S2 0 1))) (ty := .int) (C := RX4) (T := TX4) (N := 9) hx hb hts hi4 tyX4 tyX4_ok nmX4 hown hK.1 hPs (Ord.D (ordSt cs b (up2 (up2 (up2 S 0 (updZ (S 0) 4 (S2 0 4))) 0 (updZ ((up2 S 0 (updZ (S 0) 4 (S2 0 4))) 0) 2 (S2 0 2))) 0 (updZ ((up2 (up2 S 0 (updZ (S 0) 4 (S2 0 4))) 0 (updZ ((up2 S 0 (updZ (S 0) 4 (S2 0 4))) 0) 2 (S2 0 2))) 0) 3 (S2 0 3)))) ib) hS 0 rfl rfl 3 (by decide) (hts (.fieldLink RX4 41 "SpriteLines$State" "sprites" "I") (by decide +kernel)) (fun _ h9 => h9) rfl (by decide +kernel) rfl rfl (Nat.le_of_ble_eq_true rfl) ⟨0, by decide, by decide, rfl⟩ dX4_copyFrom_29 (fun H locs hP1 hle hk hS => ?_)
  have hQs := keepO (ordSt cs b2 S2) hQs hk (fun j hj h3 => hdj 0 j (by decide) hj h3.symm)
  have hPs : va_P G vwCl (stW cs b (up2 (up2 (up2 (up2 S 0 (updZ (S 0) 4 (S2 0 4))) 0 (updZ ((up2 S 0 (updZ (S 0) 4 (S2 0 4))) 0) 2 (S2 0 2))) 0 (updZ ((up2 (up2 S 0 (updZ (S 0) 4 (S2 0 4))) 0 (updZ ((up2 S 0 (updZ (S 0) 4 (S2 0 4))) 0) 2 (S2 0 2))) 0) 3 (S2 0 3))) 0 (updZ ((up2 (up2 (up2 S 0 (updZ (S 0) 4 (S2 0 4))) 0 (updZ ((up2 S 0 (updZ (S 0) 4 (S2 0 4))) 0) 2 (S2 0 2))) 0 (updZ ((up2 (up2 S 0 (updZ (S 0) 4 (S2 0 4))) 0 (updZ ((up2 S 0 (updZ (S 0) 4 (S2 0 4))) 0) 2 (S2 0 2))) 0) 3 (S2 0 3))) 0) 1 (S2 0 1)))) H := hP1
  refine lv_aload_n hx hb dX4_copyFrom_32 rfl (lv_at hl 0 rfl) ?_
  refine va_get (D := G) (ci := 4) (v := .ref (b 1)) (C := RX4) (T := TX4) (N := 9) hx hb hts hi4 hown hK.1 hPs 0 rfl rfl 4 (by decide) (hts (.fieldLink RX4 18 "SpriteLines$State" "sheet" "LSpriteLines$Sheet;") (by decide +kernel)) (fun _ h9 => h9) rfl dX4_copyFrom_33 ?_
  refine lv_aload_n hx hb dX4_copyFrom_36 rfl (lv_at hl 1 rfl) ?_
  refine va_get (D := G) (ci := 4) (v := .ref (b2 1)) (C := RX4) (T := TX4) (N := 9) hx hb hts hi4 hown hK.1 hQs 0 rfl rfl 4 (by decide) (hts (.fieldLink RX4 18 "SpriteLines$State" "sheet" "LSpriteLines$Sheet;") (by decide +kernel)) (fun _ h9 => h9) rfl dX4_copyFrom_37 ?_
  refine z_v (zrV (As := [.ref (b2 1)]) (rest := []) (Pw := fun H => va_P G vwCl (stW cs b (up2 (up2 (up2 (up2 S 0 (updZ (S 0) 4 (S2 0 4))) 0 (updZ ((up2 S 0 (updZ (S 0) 4 (S2 0 4))) 0) 2 (S2 0 2))) 0 (updZ ((up2 (up2 S 0 (updZ (S 0) 4 (S2 0 4))) 0 (updZ ((up2 S 0 (updZ (S 0) 4 (S2 0 4))) 0) 2 (S2 0 2))) 0) 3 (S2 0 3))) 0 (updZ ((up2 (up2 (up2 S 0 (updZ (S 0) 4 (S2 0 4))) 0 (updZ ((up2 S 0 (updZ (S 0) 4 (S2 0 4))) 0) 2 (S2 0 2))) 0 (updZ ((up2 (up2 S 0 (updZ (S 0) 4 (S2 0 4))) 0 (updZ ((up2 S 0 (updZ (S 0) 4 (S2 0 4))) 0) 2 (S2 0 2))) 0) 3 (S2 0 3))) 0) 1 (S2 0 1)))) H ∧ va_P G vwCl (stW cs b2 S2) H) ⟨hx, hb, hml, hown, hts⟩ (c_X3_copyFrom l G cs b (up2 (up2 (up2 (up2 S 0 (updZ (S 0) 4 (S2 0 4))) 0 (updZ ((up2 S 0 (updZ (S 0) 4 (S2 0 4))) 0) 2 (S2 0 2))) 0 (updZ ((up2 (up2 S 0 (updZ (S 0) 4 (S2 0 4))) 0 (updZ ((up2 S 0 (updZ (S 0) 4 (S2 0 4))) 0) 2 (S2 0 2))) 0) 3 (S2 0 3))) 0 (updZ ((up2 (up2 (up2 S 0 (updZ (S 0) 4 (S2 0 4))) 0 (updZ ((up2 S 0 (updZ (S 0) 4 (S2 0 4))) 0) 2 (S2 0 2))) 0 (updZ ((up2 (up2 S 0 (updZ (S 0) 4 (S2 0 4))) 0 (updZ ((up2 S 0 (updZ (S 0) 4 (S2 0 4))) 0) 2 (S2 0 2))) 0) 3 (S2 0 3))) 0) 1 (S2 0 1))) b2 S2 ib hdj) gX4_copyFrom_X3_copyFrom rfl qX3_copyFrom rfl rfl ⟨Nat.le_of_ble_eq_true rfl, Nat.le_of_ble_eq_true rfl⟩ ⟨hPs, hQs⟩ hK (va_recv hK.1 hPs (ci := 3) (q0 := 1) rfl rfl) hl.1 rfl (Nat.le_of_ble_eq_true rfl) dX4_copyFrom_40 ⟨Nat.le_of_ble_eq_true rfl, Nat.le_of_ble_eq_true rfl⟩) hS (fun q h => ax_mono h (by decide) (by decide)) (fun q h => ax_mono h (by decide) (by decide)) (fun H locs hpost hle hk hS => ?_)
  have hPs' := hpost
  have hQs := keepO (ordSt cs b2 S2) hQs hk (fun j hj ⟨i, h1, h2, h3⟩ => hdj i j (by omega) hj h3.symm)
  have hPs : va_P G vwCl (stW cs b (up2 (up2 (up2 (up2 (up2 (up2 S 0 (updZ (S 0) 4 (S2 0 4))) 0 (updZ ((up2 S 0 (updZ (S 0) 4 (S2 0 4))) 0) 2 (S2 0 2))) 0 (updZ ((up2 (up2 S 0 (updZ (S 0) 4 (S2 0 4))) 0 (updZ ((up2 S 0 (updZ (S 0) 4 (S2 0 4))) 0) 2 (S2 0 2))) 0) 3 (S2 0 3))) 0 (updZ ((up2 (up2 (up2 S 0 (updZ (S 0) 4 (S2 0 4))) 0 (updZ ((up2 S 0 (updZ (S 0) 4 (S2 0 4))) 0) 2 (S2 0 2))) 0 (updZ ((up2 (up2 S 0 (updZ (S 0) 4 (S2 0 4))) 0 (updZ ((up2 S 0 (updZ (S 0) 4 (S2 0 4))) 0) 2 (S2 0 2))) 0) 3 (S2 0 3))) 0) 1 (S2 0 1))) 0 (updZ ((up2 (up2 (up2 (up2 S 0 (updZ (S 0) 4 (S2 0 4))) 0 (updZ ((up2 S 0 (updZ (S 0) 4 (S2 0 4))) 0) 2 (S2 0 2))) 0 (updZ ((up2 (up2 S 0 (updZ (S 0) 4 (S2 0 4))) 0 (updZ ((up2 S 0 (updZ (S 0) 4 (S2 0 4))) 0) 2 (S2 0 2))) 0) 3 (S2 0 3))) 0 (updZ ((up2 (up2 (up2 S 0 (updZ (S 0) 4 (S2 0 4))) 0 (updZ ((up2 S 0 (updZ (S 0) 4 (S2 0 4))) 0) 2 (S2 0 2))) 0 (updZ ((up2 (up2 S 0 (updZ (S 0) 4 (S2 0 4))) 0 (updZ ((up2 S 0 (updZ (S 0) 4 (S2 0 4))) 0) 2 (S2 0 2))) 0) 3 (S2 0 3))) 0) 1 (S2 0 1))) 0) 0 (S2 0 0))) 5 (S2 5))) H := hPs'
  refine lv_aload_n hx hb dX4_copyFrom_43 rfl (lv_at hl 1 rfl) ?_
  refine va_get (D := G) (ci := 4) (v := .ref (b2 4)) (C := RX4) (T := TX4) (N := 9) hx hb hts hi4 hown hK.1 hQs 0 rfl rfl 5 (by decide) (hts (.fieldLink RX4 22 "SpriteLines$State" "properties" "[I") (by decide +kernel)) (fun _ h9 => h9) rfl dX4_copyFrom_44 ?_
  refine z_iconst (n := 0) hx hb dX4_copyFrom_47 ?_
  refine lv_aload_n hx hb dX4_copyFrom_48 rfl (lv_at hl 0 rfl) ?_
  refine va_get (D := G) (ci := 4) (v := .ref (b 4)) (C := RX4) (T := TX4) (N := 9) hx hb hts hi4 hown hK.1 hPs 0 rfl rfl 5 (by decide) (hts (.fieldLink RX4 22 "SpriteLines$State" "properties" "[I") (by decide +kernel)) (fun _ h9 => h9) rfl dX4_copyFrom_49 ?_
  refine z_iconst (n := 0) hx hb dX4_copyFrom_52 ?_
  refine z_bipush (n := 120) hx hb dX4_copyFrom_53 (by decide) ?_
  refine z_copyi hx hb (by rw [hml]; exact hl.1.symm) hown (hts (.methodLink RX4 48 arraycopyName) (by decide +kernel)) (hts (.native arraycopyName) (by decide +kernel)) (hts (.static arraycopyName) (by decide +kernel)) (hts (.initialized "java/lang/System") (by decide +kernel)) hK.1 hQs hPs (Ord.D (ordSt cs b (up2 (up2 (up2 (up2 (up2 (up2 S 0 (updZ (S 0) 4 (S2 0 4))) 0 (updZ ((up2 S 0 (updZ (S 0) 4 (S2 0 4))) 0) 2 (S2 0 2))) 0 (updZ ((up2 (up2 S 0 (updZ (S 0) 4 (S2 0 4))) 0 (updZ ((up2 S 0 (updZ (S 0) 4 (S2 0 4))) 0) 2 (S2 0 2))) 0) 3 (S2 0 3))) 0 (updZ ((up2 (up2 (up2 S 0 (updZ (S 0) 4 (S2 0 4))) 0 (updZ ((up2 S 0 (updZ (S 0) 4 (S2 0 4))) 0) 2 (S2 0 2))) 0 (updZ ((up2 (up2 S 0 (updZ (S 0) 4 (S2 0 4))) 0 (updZ ((up2 S 0 (updZ (S 0) 4 (S2 0 4))) 0) 2 (S2 0 2))) 0) 3 (S2 0 3))) 0) 1 (S2 0 1))) 0 (updZ ((up2 (up2 (up2 (up2 S 0 (updZ (S 0) 4 (S2 0 4))) 0 (updZ ((up2 S 0 (updZ (S 0) 4 (S2 0 4))) 0) 2 (S2 0 2))) 0 (updZ ((up2 (up2 S 0 (updZ (S 0) 4 (S2 0 4))) 0 (updZ ((up2 S 0 (updZ (S 0) 4 (S2 0 4))) 0) 2 (S2 0 2))) 0) 3 (S2 0 3))) 0 (updZ ((up2 (up2 (up2 S 0 (updZ (S 0) 4 (S2 0 4))) 0 (updZ ((up2 S 0 (updZ (S 0) 4 (S2 0 4))) 0) 2 (S2 0 2))) 0 (updZ ((up2 (up2 S 0 (updZ (S 0) 4 (S2 0 4))) 0 (updZ ((up2 S 0 (updZ (S 0) 4 (S2 0 4))) 0) 2 (S2 0 2))) 0) 3 (S2 0 3))) 0) 1 (S2 0 1))) 0) 0 (S2 0 0))) 5 (S2 5))) ib) hS 4 4 0 0 rfl rfl rfl rfl rfl (by decide) ⟨4, by decide, by decide, rfl⟩ (Nat.le_of_ble_eq_true rfl) (Nat.le_of_ble_eq_true rfl) dX4_copyFrom_55 (fun H locs hP1 hle hk hS => ?_)
  have hQs := keepO (ordSt cs b2 S2) hQs hk (fun j hj h3 => hdj 4 j (by decide) hj h3.symm)
  have hPs : va_P G vwCl (stW cs b (up2 (up2 (up2 (up2 (up2 (up2 (up2 S 0 (updZ (S 0) 4 (S2 0 4))) 0 (updZ ((up2 S 0 (updZ (S 0) 4 (S2 0 4))) 0) 2 (S2 0 2))) 0 (updZ ((up2 (up2 S 0 (updZ (S 0) 4 (S2 0 4))) 0 (updZ ((up2 S 0 (updZ (S 0) 4 (S2 0 4))) 0) 2 (S2 0 2))) 0) 3 (S2 0 3))) 0 (updZ ((up2 (up2 (up2 S 0 (updZ (S 0) 4 (S2 0 4))) 0 (updZ ((up2 S 0 (updZ (S 0) 4 (S2 0 4))) 0) 2 (S2 0 2))) 0 (updZ ((up2 (up2 S 0 (updZ (S 0) 4 (S2 0 4))) 0 (updZ ((up2 S 0 (updZ (S 0) 4 (S2 0 4))) 0) 2 (S2 0 2))) 0) 3 (S2 0 3))) 0) 1 (S2 0 1))) 0 (updZ ((up2 (up2 (up2 (up2 S 0 (updZ (S 0) 4 (S2 0 4))) 0 (updZ ((up2 S 0 (updZ (S 0) 4 (S2 0 4))) 0) 2 (S2 0 2))) 0 (updZ ((up2 (up2 S 0 (updZ (S 0) 4 (S2 0 4))) 0 (updZ ((up2 S 0 (updZ (S 0) 4 (S2 0 4))) 0) 2 (S2 0 2))) 0) 3 (S2 0 3))) 0 (updZ ((up2 (up2 (up2 S 0 (updZ (S 0) 4 (S2 0 4))) 0 (updZ ((up2 S 0 (updZ (S 0) 4 (S2 0 4))) 0) 2 (S2 0 2))) 0 (updZ ((up2 (up2 S 0 (updZ (S 0) 4 (S2 0 4))) 0 (updZ ((up2 S 0 (updZ (S 0) 4 (S2 0 4))) 0) 2 (S2 0 2))) 0) 3 (S2 0 3))) 0) 1 (S2 0 1))) 0) 0 (S2 0 0))) 5 (S2 5)) 1 (S2 1))) H := hP1
  refine lv_aload_n hx hb dX4_copyFrom_58 rfl (lv_at hl 1 rfl) ?_
  refine va_get (D := G) (ci := 4) (v := .ref (b2 5)) (C := RX4) (T := TX4) (N := 9) hx hb hts hi4 hown hK.1 hQs 0 rfl rfl 6 (by decide) (hts (.fieldLink RX4 26 "SpriteLines$State" "colors" "[I") (by decide +kernel)) (fun _ h9 => h9) rfl dX4_copyFrom_59 ?_
  refine z_iconst (n := 0) hx hb dX4_copyFrom_62 ?_
  refine lv_aload_n hx hb dX4_copyFrom_63 rfl (lv_at hl 0 rfl) ?_
  refine va_get (D := G) (ci := 4) (v := .ref (b 5)) (C := RX4) (T := TX4) (N := 9) hx hb hts hi4 hown hK.1 hPs 0 rfl rfl 6 (by decide) (hts (.fieldLink RX4 26 "SpriteLines$State" "colors" "[I") (by decide +kernel)) (fun _ h9 => h9) rfl dX4_copyFrom_64 ?_
  refine z_iconst (n := 0) hx hb dX4_copyFrom_67 ?_
  refine z_bipush (n := 16) hx hb dX4_copyFrom_68 (by decide) ?_
  refine z_copyi hx hb (by rw [hml]; exact hl.1.symm) hown (hts (.methodLink RX4 48 arraycopyName) (by decide +kernel)) (hts (.native arraycopyName) (by decide +kernel)) (hts (.static arraycopyName) (by decide +kernel)) (hts (.initialized "java/lang/System") (by decide +kernel)) hK.1 hQs hPs (Ord.D (ordSt cs b (up2 (up2 (up2 (up2 (up2 (up2 (up2 S 0 (updZ (S 0) 4 (S2 0 4))) 0 (updZ ((up2 S 0 (updZ (S 0) 4 (S2 0 4))) 0) 2 (S2 0 2))) 0 (updZ ((up2 (up2 S 0 (updZ (S 0) 4 (S2 0 4))) 0 (updZ ((up2 S 0 (updZ (S 0) 4 (S2 0 4))) 0) 2 (S2 0 2))) 0) 3 (S2 0 3))) 0 (updZ ((up2 (up2 (up2 S 0 (updZ (S 0) 4 (S2 0 4))) 0 (updZ ((up2 S 0 (updZ (S 0) 4 (S2 0 4))) 0) 2 (S2 0 2))) 0 (updZ ((up2 (up2 S 0 (updZ (S 0) 4 (S2 0 4))) 0 (updZ ((up2 S 0 (updZ (S 0) 4 (S2 0 4))) 0) 2 (S2 0 2))) 0) 3 (S2 0 3))) 0) 1 (S2 0 1))) 0 (updZ ((up2 (up2 (up2 (up2 S 0 (updZ (S 0) 4 (S2 0 4))) 0 (updZ ((up2 S 0 (updZ (S 0) 4 (S2 0 4))) 0) 2 (S2 0 2))) 0 (updZ ((up2 (up2 S 0 (updZ (S 0) 4 (S2 0 4))) 0 (updZ ((up2 S 0 (updZ (S 0) 4 (S2 0 4))) 0) 2 (S2 0 2))) 0) 3 (S2 0 3))) 0 (updZ ((up2 (up2 (up2 S 0 (updZ (S 0) 4 (S2 0 4))) 0 (updZ ((up2 S 0 (updZ (S 0) 4 (S2 0 4))) 0) 2 (S2 0 2))) 0 (updZ ((up2 (up2 S 0 (updZ (S 0) 4 (S2 0 4))) 0 (updZ ((up2 S 0 (updZ (S 0) 4 (S2 0 4))) 0) 2 (S2 0 2))) 0) 3 (S2 0 3))) 0) 1 (S2 0 1))) 0) 0 (S2 0 0))) 5 (S2 5)) 1 (S2 1))) ib) hS 5 5 0 0 rfl rfl rfl rfl rfl (by decide) ⟨5, by decide, by decide, rfl⟩ (Nat.le_of_ble_eq_true rfl) (Nat.le_of_ble_eq_true rfl) dX4_copyFrom_70 (fun H locs hP1 hle hk hS => ?_)
  have hQs := keepO (ordSt cs b2 S2) hQs hk (fun j hj h3 => hdj 5 j (by decide) hj h3.symm)
  have hPs : va_P G vwCl (stW cs b (up2 (up2 (up2 (up2 (up2 (up2 (up2 (up2 S 0 (updZ (S 0) 4 (S2 0 4))) 0 (updZ ((up2 S 0 (updZ (S 0) 4 (S2 0 4))) 0) 2 (S2 0 2))) 0 (updZ ((up2 (up2 S 0 (updZ (S 0) 4 (S2 0 4))) 0 (updZ ((up2 S 0 (updZ (S 0) 4 (S2 0 4))) 0) 2 (S2 0 2))) 0) 3 (S2 0 3))) 0 (updZ ((up2 (up2 (up2 S 0 (updZ (S 0) 4 (S2 0 4))) 0 (updZ ((up2 S 0 (updZ (S 0) 4 (S2 0 4))) 0) 2 (S2 0 2))) 0 (updZ ((up2 (up2 S 0 (updZ (S 0) 4 (S2 0 4))) 0 (updZ ((up2 S 0 (updZ (S 0) 4 (S2 0 4))) 0) 2 (S2 0 2))) 0) 3 (S2 0 3))) 0) 1 (S2 0 1))) 0 (updZ ((up2 (up2 (up2 (up2 S 0 (updZ (S 0) 4 (S2 0 4))) 0 (updZ ((up2 S 0 (updZ (S 0) 4 (S2 0 4))) 0) 2 (S2 0 2))) 0 (updZ ((up2 (up2 S 0 (updZ (S 0) 4 (S2 0 4))) 0 (updZ ((up2 S 0 (updZ (S 0) 4 (S2 0 4))) 0) 2 (S2 0 2))) 0) 3 (S2 0 3))) 0 (updZ ((up2 (up2 (up2 S 0 (updZ (S 0) 4 (S2 0 4))) 0 (updZ ((up2 S 0 (updZ (S 0) 4 (S2 0 4))) 0) 2 (S2 0 2))) 0 (updZ ((up2 (up2 S 0 (updZ (S 0) 4 (S2 0 4))) 0 (updZ ((up2 S 0 (updZ (S 0) 4 (S2 0 4))) 0) 2 (S2 0 2))) 0) 3 (S2 0 3))) 0) 1 (S2 0 1))) 0) 0 (S2 0 0))) 5 (S2 5)) 1 (S2 1)) 2 (S2 2))) H := hP1
  refine lv_aload_n hx hb dX4_copyFrom_73 rfl (lv_at hl 1 rfl) ?_
  refine va_get (D := G) (ci := 4) (v := .ref (b2 6)) (C := RX4) (T := TX4) (N := 9) hx hb hts hi4 hown hK.1 hQs 0 rfl rfl 7 (by decide) (hts (.fieldLink RX4 29 "SpriteLines$State" "lowerOfSwaps" "[I") (by decide +kernel)) (fun _ h9 => h9) rfl dX4_copyFrom_74 ?_
  refine z_iconst (n := 0) hx hb dX4_copyFrom_77 ?_
  refine lv_aload_n hx hb dX4_copyFrom_78 rfl (lv_at hl 0 rfl) ?_
  refine va_get (D := G) (ci := 4) (v := .ref (b 6)) (C := RX4) (T := TX4) (N := 9) hx hb hts hi4 hown hK.1 hPs 0 rfl rfl 7 (by decide) (hts (.fieldLink RX4 29 "SpriteLines$State" "lowerOfSwaps" "[I") (by decide +kernel)) (fun _ h9 => h9) rfl dX4_copyFrom_79 ?_
  refine z_iconst (n := 0) hx hb dX4_copyFrom_82 ?_
  refine z_bipush (n := 32) hx hb dX4_copyFrom_83 (by decide) ?_
  refine z_copyi hx hb (by rw [hml]; exact hl.1.symm) hown (hts (.methodLink RX4 48 arraycopyName) (by decide +kernel)) (hts (.native arraycopyName) (by decide +kernel)) (hts (.static arraycopyName) (by decide +kernel)) (hts (.initialized "java/lang/System") (by decide +kernel)) hK.1 hQs hPs (Ord.D (ordSt cs b (up2 (up2 (up2 (up2 (up2 (up2 (up2 (up2 S 0 (updZ (S 0) 4 (S2 0 4))) 0 (updZ ((up2 S 0 (updZ (S 0) 4 (S2 0 4))) 0) 2 (S2 0 2))) 0 (updZ ((up2 (up2 S 0 (updZ (S 0) 4 (S2 0 4))) 0 (updZ ((up2 S 0 (updZ (S 0) 4 (S2 0 4))) 0) 2 (S2 0 2))) 0) 3 (S2 0 3))) 0 (updZ ((up2 (up2 (up2 S 0 (updZ (S 0) 4 (S2 0 4))) 0 (updZ ((up2 S 0 (updZ (S 0) 4 (S2 0 4))) 0) 2 (S2 0 2))) 0 (updZ ((up2 (up2 S 0 (updZ (S 0) 4 (S2 0 4))) 0 (updZ ((up2 S 0 (updZ (S 0) 4 (S2 0 4))) 0) 2 (S2 0 2))) 0) 3 (S2 0 3))) 0) 1 (S2 0 1))) 0 (updZ ((up2 (up2 (up2 (up2 S 0 (updZ (S 0) 4 (S2 0 4))) 0 (updZ ((up2 S 0 (updZ (S 0) 4 (S2 0 4))) 0) 2 (S2 0 2))) 0 (updZ ((up2 (up2 S 0 (updZ (S 0) 4 (S2 0 4))) 0 (updZ ((up2 S 0 (updZ (S 0) 4 (S2 0 4))) 0) 2 (S2 0 2))) 0) 3 (S2 0 3))) 0 (updZ ((up2 (up2 (up2 S 0 (updZ (S 0) 4 (S2 0 4))) 0 (updZ ((up2 S 0 (updZ (S 0) 4 (S2 0 4))) 0) 2 (S2 0 2))) 0 (updZ ((up2 (up2 S 0 (updZ (S 0) 4 (S2 0 4))) 0 (updZ ((up2 S 0 (updZ (S 0) 4 (S2 0 4))) 0) 2 (S2 0 2))) 0) 3 (S2 0 3))) 0) 1 (S2 0 1))) 0) 0 (S2 0 0))) 5 (S2 5)) 1 (S2 1)) 2 (S2 2))) ib) hS 6 6 0 0 rfl rfl rfl rfl rfl (by decide) ⟨6, by decide, by decide, rfl⟩ (Nat.le_of_ble_eq_true rfl) (Nat.le_of_ble_eq_true rfl) dX4_copyFrom_85 (fun H locs hP1 hle hk hS => ?_)
  have hQs := keepO (ordSt cs b2 S2) hQs hk (fun j hj h3 => hdj 6 j (by decide) hj h3.symm)
  have hPs : va_P G vwCl (stW cs b (up2 (up2 (up2 (up2 (up2 (up2 (up2 (up2 (up2 S 0 (updZ (S 0) 4 (S2 0 4))) 0 (updZ ((up2 S 0 (updZ (S 0) 4 (S2 0 4))) 0) 2 (S2 0 2))) 0 (updZ ((up2 (up2 S 0 (updZ (S 0) 4 (S2 0 4))) 0 (updZ ((up2 S 0 (updZ (S 0) 4 (S2 0 4))) 0) 2 (S2 0 2))) 0) 3 (S2 0 3))) 0 (updZ ((up2 (up2 (up2 S 0 (updZ (S 0) 4 (S2 0 4))) 0 (updZ ((up2 S 0 (updZ (S 0) 4 (S2 0 4))) 0) 2 (S2 0 2))) 0 (updZ ((up2 (up2 S 0 (updZ (S 0) 4 (S2 0 4))) 0 (updZ ((up2 S 0 (updZ (S 0) 4 (S2 0 4))) 0) 2 (S2 0 2))) 0) 3 (S2 0 3))) 0) 1 (S2 0 1))) 0 (updZ ((up2 (up2 (up2 (up2 S 0 (updZ (S 0) 4 (S2 0 4))) 0 (updZ ((up2 S 0 (updZ (S 0) 4 (S2 0 4))) 0) 2 (S2 0 2))) 0 (updZ ((up2 (up2 S 0 (updZ (S 0) 4 (S2 0 4))) 0 (updZ ((up2 S 0 (updZ (S 0) 4 (S2 0 4))) 0) 2 (S2 0 2))) 0) 3 (S2 0 3))) 0 (updZ ((up2 (up2 (up2 S 0 (updZ (S 0) 4 (S2 0 4))) 0 (updZ ((up2 S 0 (updZ (S 0) 4 (S2 0 4))) 0) 2 (S2 0 2))) 0 (updZ ((up2 (up2 S 0 (updZ (S 0) 4 (S2 0 4))) 0 (updZ ((up2 S 0 (updZ (S 0) 4 (S2 0 4))) 0) 2 (S2 0 2))) 0) 3 (S2 0 3))) 0) 1 (S2 0 1))) 0) 0 (S2 0 0))) 5 (S2 5)) 1 (S2 1)) 2 (S2 2)) 3 (S2 3))) H := hP1
  refine lv_aload_n hx hb dX4_copyFrom_88 rfl (lv_at hl 1 rfl) ?_
  refine va_get (D := G) (ci := 4) (v := .ref (b2 7)) (C := RX4) (T := TX4) (N := 9) hx hb hts hi4 hown hK.1 hQs 0 rfl rfl 8 (by decide) (hts (.fieldLink RX4 32 "SpriteLines$State" "upperOfSwaps" "[I") (by decide +kernel)) (fun _ h9 => h9) rfl dX4_copyFrom_89 ?_
  refine z_iconst (n := 0) hx hb dX4_copyFrom_92 ?_
  refine lv_aload_n hx hb dX4_copyFrom_93 rfl (lv_at hl 0 rfl) ?_
  refine va_get (D := G) (ci := 4) (v := .ref (b 7)) (C := RX4) (T := TX4) (N := 9) hx hb hts hi4 hown hK.1 hPs 0 rfl rfl 8 (by decide) (hts (.fieldLink RX4 32 "SpriteLines$State" "upperOfSwaps" "[I") (by decide +kernel)) (fun _ h9 => h9) rfl dX4_copyFrom_94 ?_
  refine z_iconst (n := 0) hx hb dX4_copyFrom_97 ?_
  refine z_bipush (n := 32) hx hb dX4_copyFrom_98 (by decide) ?_
  refine z_copyi hx hb (by rw [hml]; exact hl.1.symm) hown (hts (.methodLink RX4 48 arraycopyName) (by decide +kernel)) (hts (.native arraycopyName) (by decide +kernel)) (hts (.static arraycopyName) (by decide +kernel)) (hts (.initialized "java/lang/System") (by decide +kernel)) hK.1 hQs hPs (Ord.D (ordSt cs b (up2 (up2 (up2 (up2 (up2 (up2 (up2 (up2 (up2 S 0 (updZ (S 0) 4 (S2 0 4))) 0 (updZ ((up2 S 0 (updZ (S 0) 4 (S2 0 4))) 0) 2 (S2 0 2))) 0 (updZ ((up2 (up2 S 0 (updZ (S 0) 4 (S2 0 4))) 0 (updZ ((up2 S 0 (updZ (S 0) 4 (S2 0 4))) 0) 2 (S2 0 2))) 0) 3 (S2 0 3))) 0 (updZ ((up2 (up2 (up2 S 0 (updZ (S 0) 4 (S2 0 4))) 0 (updZ ((up2 S 0 (updZ (S 0) 4 (S2 0 4))) 0) 2 (S2 0 2))) 0 (updZ ((up2 (up2 S 0 (updZ (S 0) 4 (S2 0 4))) 0 (updZ ((up2 S 0 (updZ (S 0) 4 (S2 0 4))) 0) 2 (S2 0 2))) 0) 3 (S2 0 3))) 0) 1 (S2 0 1))) 0 (updZ ((up2 (up2 (up2 (up2 S 0 (updZ (S 0) 4 (S2 0 4))) 0 (updZ ((up2 S 0 (updZ (S 0) 4 (S2 0 4))) 0) 2 (S2 0 2))) 0 (updZ ((up2 (up2 S 0 (updZ (S 0) 4 (S2 0 4))) 0 (updZ ((up2 S 0 (updZ (S 0) 4 (S2 0 4))) 0) 2 (S2 0 2))) 0) 3 (S2 0 3))) 0 (updZ ((up2 (up2 (up2 S 0 (updZ (S 0) 4 (S2 0 4))) 0 (updZ ((up2 S 0 (updZ (S 0) 4 (S2 0 4))) 0) 2 (S2 0 2))) 0 (updZ ((up2 (up2 S 0 (updZ (S 0) 4 (S2 0 4))) 0 (updZ ((up2 S 0 (updZ (S 0) 4 (S2 0 4))) 0) 2 (S2 0 2))) 0) 3 (S2 0 3))) 0) 1 (S2 0 1))) 0) 0 (S2 0 0))) 5 (S2 5)) 1 (S2 1)) 2 (S2 2)) 3 (S2 3))) ib) hS 7 7 0 0 rfl rfl rfl rfl rfl (by decide) ⟨7, by decide, by decide, rfl⟩ (Nat.le_of_ble_eq_true rfl) (Nat.le_of_ble_eq_true rfl) dX4_copyFrom_100 (fun H locs hP1 hle hk hS => ?_)
  have hQs := keepO (ordSt cs b2 S2) hQs hk (fun j hj h3 => hdj 7 j (by decide) hj h3.symm)
  have hPs : va_P G vwCl (stW cs b S2) H := hP1
  exact v_ret hx hb hr hlk dX4_copyFrom_103 hS hPs
