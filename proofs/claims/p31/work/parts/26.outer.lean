section TS
variable {p : Program} {l : Launch} {e : Env} {R : Room} {s : State} {m : MethodId} {args : Array Value} {below : List Frame} {meth : Method} {c : Code} {H : Heap} {locs : List Loc} {cells slots : Nat} {Q : State → Prop} {cc : ByteArray} {pc : Nat} {ls : Array Slot} {rest : List Value}
theorem z_tableIn (hx : p.tables.exec = Jvm.exec) (hb : c.code = cc) {dflt lo hi : Int} {offs : Array Int} {len : Nat} {x j : Int} {off : Int} {tgt : Nat} (hdg : decode cc pc = .ok (.tableswitch dflt lo hi offs, len)) (hj : x = j) (h1 : lo ≤ j) (h2 : j ≤ hi) (hr : -2147483648 ≤ j ∧ j < 2147483648) (ho : offs[(j - lo).toNat]? = some off) (ht : (pc : Int) + off = (tgt : Int))
    (k : W p l e R s m args below meth c H locs cells slots Q (F0 m tgt ls rest)) : W p l e R s m args below meth c H locs cells slots Q (F0 m pc ls (.int (zI x) :: rest)) := by
  subst hj
  exact lv_tableIn hx hb hdg (by rw [zI_toInt hr]; omega) (by rw [zI_toInt hr]; omega) (by rw [zI_toInt hr]; exact ho) ht k
theorem z_tableOut (hx : p.tables.exec = Jvm.exec) (hb : c.code = cc) {dflt lo hi : Int} {offs : Array Int} {len : Nat} {x : Int} {tgt : Nat} (hdg : decode cc pc = .ok (.tableswitch dflt lo hi offs, len)) (h : x < lo ∨ hi < x) (hr : -2147483648 ≤ x ∧ x < 2147483648) (ht : (pc : Int) + dflt = (tgt : Int))
    (k : W p l e R s m args below meth c H locs cells slots Q (F0 m tgt ls rest)) : W p l e R s m args below meth c H locs cells slots Q (F0 m pc ls (.int (zI x) :: rest)) :=
  lv_tableOut hx hb hdg (by rw [zI_toInt hr]; exact h) ht k
end TS
theorem tf_0 {T : Int → Int} (h : TF T) {x : Int} (hx : 0 ≤ x ∧ x ≤ 60) : TF (updZ T 0 x) := ⟨hx, h.2.1, h.2.2.1, h.2.2.2.1, h.2.2.2.2.1, h.2.2.2.2.2⟩
set_option maxHeartbeats 4000000 in
set_option maxRecDepth 100000 in
theorem c_X6_isNoPart (l : Launch) (G : va_G) (cs : Nat → ClassId) (a : Nat → Nat) (S : SS) (q : Int) (wf : WF S) (r_q : -2147483648 ≤ q ∧ q < 2147483648) : MRO l yX6_isNoPart wsX6_isNoPart { frames := 0, cells := 0, slots := 0, locals := 0 } G cs [.ref (a 0), .int (zI q)] (fun H => va_P G vwCl (xoW a) H ∧ va_P G vwCl (stW cs (sh a 1) S) H) (.int (zI (b2 (decide (¬ (0 ≤ q ∧ q < S 0 0)))))) := by
  refine m_intro (Pw := (fun H => va_P G vwCl (xoW a) H ∧ va_P G vwCl (stW cs (sh a 1) S) H)) (cc := cX6_isNoPart) (maxL := 2) (ret := some .boolean) RX6 (by decide) rfl rfl (Nat.le_of_ble_eq_true rfl) ?_
  intro pP eE sS mM below meth cC hx hb hr hts hown hml hlk hnm hPre hK ls hl
  have hl : lv_has ls 2 [(0, .ref (a 0)), (1, .int (zI q))] := hl
  obtain ⟨hXo, hPs⟩ := hPre
  have hi3 : ∀ w ∈ u_ws RX3 TX3 3, w ∈ wsX6_isNoPart := by decide +kernel
  have hi4 : ∀ w ∈ u_ws RX4 TX4 9, w ∈ wsX6_isNoPart := by decide +kernel
  have hi6 : ∀ w ∈ u_ws RX6 TX6 6, w ∈ wsX6_isNoPart := by decide +kernel
  obtain ⟨w0, w1, w2, w3, w4, wP, wC, wS, wX⟩ := wf
  refine lv_iload_n hx hb dX6_isNoPart_0 rfl (lv_at hl 1 rfl) ?_
  refine z_if_lt (tgt := 18) hx hb dX6_isNoPart_1 (by decide) (by omega) (fun c1 => ?_) (fun c1 => ?_)
  · skip
    refine z_iconst (n := 1) hx hb dX6_isNoPart_18 ?_
    refine lv_goto (tgt := 23) hx hb dX6_isNoPart_19 (by decide) ?_
    exact ro_zret hx hb hr hlk dX6_isNoPart_23 (by omega) (congrArg (fun z => Value.int (zI z)) (b2_t (by simp only [decide_eq_true_eq]; omega)).symm)
  · skip
    refine lv_iload_n hx hb dX6_isNoPart_4 rfl (lv_at hl 1 rfl) ?_
    refine lv_aload_n hx hb dX6_isNoPart_5 rfl (lv_at hl 0 rfl) ?_
    refine va_get (D := G) (ci := 6) (v := .ref ((sh a 1) 0)) (C := RX6) (T := TX6) (N := 6) hx hb hts hi6 hown hK.1 hXo 0 rfl rfl 0 (by decide) (hts (.fieldLink RX6 10 "SpriteLines" "now" "LSpriteLines$State;") (by decide +kernel)) (fun _ h9 => h9) rfl dX6_isNoPart_6 ?_
    refine va_get (D := G) (ci := 4) (v := .ref ((sh a 1) 1)) (C := RX4) (T := TX4) (N := 9) hx hb hts hi4 hown hK.1 hPs 0 rfl rfl 4 (by decide) (hts (.fieldLink RX6 50 "SpriteLines$State" "sheet" "LSpriteLines$Sheet;") (by decide +kernel)) (fun _ h9 => h9) rfl dX6_isNoPart_9 ?_
    refine va_get (D := G) (ci := 3) (v := .int (zI (S 0 0))) (C := RX3) (T := TX3) (N := 3) hx hb hts hi3 hown hK.1 hPs 1 rfl rfl 0 (by decide) (hts (.fieldLink RX6 54 "SpriteLines$Sheet" "parts" "I") (by decide +kernel)) (fun _ h9 => h9) rfl dX6_isNoPart_12 ?_
    refine z_icmp_lt (tgt := 22) hx hb dX6_isNoPart_15 (by decide) (by omega) (by omega) (fun c2 => ?_) (fun c2 => ?_)
    · skip
      refine z_iconst (n := 0) hx hb dX6_isNoPart_22 ?_
      exact ro_zret hx hb hr hlk dX6_isNoPart_23 (by omega) (congrArg (fun z => Value.int (zI z)) (b2_f (by simp only [decide_eq_false_iff_not]; omega)).symm)
    · skip
      refine z_iconst (n := 1) hx hb dX6_isNoPart_18 ?_
      refine lv_goto (tgt := 23) hx hb dX6_isNoPart_19 (by decide) ?_
      exact ro_zret hx hb hr hlk dX6_isNoPart_23 (by omega) (congrArg (fun z => Value.int (zI z)) (b2_t (by simp only [decide_eq_true_eq]; omega)).symm)

set_option maxHeartbeats 4000000 in
set_option maxRecDepth 100000 in
theorem c_X6_isNoSprite (l : Launch) (G : va_G) (cs : Nat → ClassId) (a : Nat → Nat) (S : SS) (q : Int) (wf : WF S) (r_q : -2147483648 ≤ q ∧ q < 2147483648) : MRO l yX6_isNoSprite wsX6_isNoSprite { frames := 0, cells := 0, slots := 0, locals := 0 } G cs [.ref (a 0), .int (zI q)] (fun H => va_P G vwCl (xoW a) H ∧ va_P G vwCl (stW cs (sh a 1) S) H) (.int (zI (b2 (decide (¬ (0 ≤ q ∧ q < S 0 1)))))) := by
  refine m_intro (Pw := (fun H => va_P G vwCl (xoW a) H ∧ va_P G vwCl (stW cs (sh a 1) S) H)) (cc := cX6_isNoSprite) (maxL := 2) (ret := some .boolean) RX6 (by decide) rfl rfl (Nat.le_of_ble_eq_true rfl) ?_
  intro pP eE sS mM below meth cC hx hb hr hts hown hml hlk hnm hPre hK ls hl
  have hl : lv_has ls 2 [(0, .ref (a 0)), (1, .int (zI q))] := hl
  obtain ⟨hXo, hPs⟩ := hPre
  have hi4 : ∀ w ∈ u_ws RX4 TX4 9, w ∈ wsX6_isNoSprite := by decide +kernel
  have hi6 : ∀ w ∈ u_ws RX6 TX6 6, w ∈ wsX6_isNoSprite := by decide +kernel
  obtain ⟨w0, w1, w2, w3, w4, wP, wC, wS, wX⟩ := wf
  refine lv_iload_n hx hb dX6_isNoSprite_0 rfl (lv_at hl 1 rfl) ?_
  refine z_if_lt (tgt := 15) hx hb dX6_isNoSprite_1 (by decide) (by omega) (fun c1 => ?_) (fun c1 => ?_)
  · skip
    refine z_iconst (n := 1) hx hb dX6_isNoSprite_15 ?_
    refine lv_goto (tgt := 20) hx hb dX6_isNoSprite_16 (by decide) ?_
    exact ro_zret hx hb hr hlk dX6_isNoSprite_20 (by omega) (congrArg (fun z => Value.int (zI z)) (b2_t (by simp only [decide_eq_true_eq]; omega)).symm)
  · skip
    refine lv_iload_n hx hb dX6_isNoSprite_4 rfl (lv_at hl 1 rfl) ?_
    refine lv_aload_n hx hb dX6_isNoSprite_5 rfl (lv_at hl 0 rfl) ?_
    refine va_get (D := G) (ci := 6) (v := .ref ((sh a 1) 0)) (C := RX6) (T := TX6) (N := 6) hx hb hts hi6 hown hK.1 hXo 0 rfl rfl 0 (by decide) (hts (.fieldLink RX6 10 "SpriteLines" "now" "LSpriteLines$State;") (by decide +kernel)) (fun _ h9 => h9) rfl dX6_isNoSprite_6 ?_
    refine va_get (D := G) (ci := 4) (v := .int (zI (S 0 1))) (C := RX4) (T := TX4) (N := 9) hx hb hts hi4 hown hK.1 hPs 0 rfl rfl 3 (by decide) (hts (.fieldLink RX6 128 "SpriteLines$State" "sprites" "I") (by decide +kernel)) (fun _ h9 => h9) rfl dX6_isNoSprite_9 ?_
    refine z_icmp_lt (tgt := 19) hx hb dX6_isNoSprite_12 (by decide) (by omega) (by omega) (fun c2 => ?_) (fun c2 => ?_)
    · skip
      refine z_iconst (n := 0) hx hb dX6_isNoSprite_19 ?_
      exact ro_zret hx hb hr hlk dX6_isNoSprite_20 (by omega) (congrArg (fun z => Value.int (zI z)) (b2_f (by simp only [decide_eq_false_iff_not]; omega)).symm)
    · skip
      refine z_iconst (n := 1) hx hb dX6_isNoSprite_15 ?_
      refine lv_goto (tgt := 20) hx hb dX6_isNoSprite_16 (by decide) ?_
      exact ro_zret hx hb hr hlk dX6_isNoSprite_20 (by omega) (congrArg (fun z => Value.int (zI z)) (b2_t (by simp only [decide_eq_true_eq]; omega)).symm)

set_option maxHeartbeats 4000000 in
set_option maxRecDepth 100000 in
theorem c_X6_isNoLine (l : Launch) (G : va_G) (cs : Nat → ClassId) (q : Int) (r_q : -2147483648 ≤ q ∧ q < 2147483648) : MRO l yX6_isNoLine wsX6_isNoLine { frames := 0, cells := 0, slots := 0, locals := 0 } G cs [.int (zI q)] (fun _ => True) (.int (zI (b2 (decide (¬ (0 ≤ q ∧ q < 32)))))) := by
  refine m_intro (Pw := (fun _ => True)) (cc := cX6_isNoLine) (maxL := 1) (ret := some .boolean) RX6 (by decide) rfl rfl (Nat.le_of_ble_eq_true rfl) ?_
  intro pP eE sS mM below meth cC hx hb hr hts hown hml hlk hnm hPre hK ls hl
  have hl : lv_has ls 1 [(0, .int (zI q))] := hl
  refine lv_iload_n hx hb dX6_isNoLine_0 rfl (lv_at hl 0 rfl) ?_
  refine z_if_lt (tgt := 10) hx hb dX6_isNoLine_1 (by decide) (by omega) (fun c1 => ?_) (fun c1 => ?_)
  · skip
    refine z_iconst (n := 1) hx hb dX6_isNoLine_10 ?_
    refine lv_goto (tgt := 15) hx hb dX6_isNoLine_11 (by decide) ?_
    exact ro_zret hx hb hr hlk dX6_isNoLine_15 (by omega) (congrArg (fun z => Value.int (zI z)) (b2_t (by simp only [decide_eq_true_eq]; omega)).symm)
  · skip
    refine lv_iload_n hx hb dX6_isNoLine_4 rfl (lv_at hl 0 rfl) ?_
    refine z_bipush (n := 32) hx hb dX6_isNoLine_5 (by decide) ?_
    refine z_icmp_lt (tgt := 14) hx hb dX6_isNoLine_7 (by decide) (by omega) (by omega) (fun c2 => ?_) (fun c2 => ?_)
    · skip
      refine z_iconst (n := 0) hx hb dX6_isNoLine_14 ?_
      exact ro_zret hx hb hr hlk dX6_isNoLine_15 (by omega) (congrArg (fun z => Value.int (zI z)) (b2_f (by simp only [decide_eq_false_iff_not]; omega)).symm)
    · skip
      refine z_iconst (n := 1) hx hb dX6_isNoLine_10 ?_
      refine lv_goto (tgt := 15) hx hb dX6_isNoLine_11 (by decide) ?_
      exact ro_zret hx hb hr hlk dX6_isNoLine_15 (by omega) (congrArg (fun z => Value.int (zI z)) (b2_t (by simp only [decide_eq_true_eq]; omega)).symm)

set_option maxHeartbeats 4000000 in
set_option maxRecDepth 100000 in
theorem c_X6_isNoPalette (l : Launch) (G : va_G) (cs : Nat → ClassId) (q : Int) (r_q : -2147483648 ≤ q ∧ q < 2147483648) : MRO l yX6_isNoPalette wsX6_isNoPalette { frames := 0, cells := 0, slots := 0, locals := 0 } G cs [.int (zI q)] (fun _ => True) (.int (zI (b2 (decide (¬ (0 ≤ q ∧ q < 4)))))) := by
  refine m_intro (Pw := (fun _ => True)) (cc := cX6_isNoPalette) (maxL := 1) (ret := some .boolean) RX6 (by decide) rfl rfl (Nat.le_of_ble_eq_true rfl) ?_
  intro pP eE sS mM below meth cC hx hb hr hts hown hml hlk hnm hPre hK ls hl
  have hl : lv_has ls 1 [(0, .int (zI q))] := hl
  refine lv_iload_n hx hb dX6_isNoPalette_0 rfl (lv_at hl 0 rfl) ?_
  refine z_if_lt (tgt := 9) hx hb dX6_isNoPalette_1 (by decide) (by omega) (fun c1 => ?_) (fun c1 => ?_)
  · skip
    refine z_iconst (n := 1) hx hb dX6_isNoPalette_9 ?_
    refine lv_goto (tgt := 14) hx hb dX6_isNoPalette_10 (by decide) ?_
    exact ro_zret hx hb hr hlk dX6_isNoPalette_14 (by omega) (congrArg (fun z => Value.int (zI z)) (b2_t (by simp only [decide_eq_true_eq]; omega)).symm)
  · skip
    refine lv_iload_n hx hb dX6_isNoPalette_4 rfl (lv_at hl 0 rfl) ?_
    refine z_iconst (n := 4) hx hb dX6_isNoPalette_5 ?_
    refine z_icmp_lt (tgt := 13) hx hb dX6_isNoPalette_6 (by decide) (by omega) (by omega) (fun c2 => ?_) (fun c2 => ?_)
    · skip
      refine z_iconst (n := 0) hx hb dX6_isNoPalette_13 ?_
      exact ro_zret hx hb hr hlk dX6_isNoPalette_14 (by omega) (congrArg (fun z => Value.int (zI z)) (b2_f (by simp only [decide_eq_false_iff_not]; omega)).symm)
    · skip
      refine z_iconst (n := 1) hx hb dX6_isNoPalette_9 ?_
      refine lv_goto (tgt := 14) hx hb dX6_isNoPalette_10 (by decide) ?_
      exact ro_zret hx hb hr hlk dX6_isNoPalette_14 (by omega) (congrArg (fun z => Value.int (zI z)) (b2_t (by simp only [decide_eq_true_eq]; omega)).symm)

set_option maxHeartbeats 4000000 in
set_option maxRecDepth 100000 in
theorem c_X6_isNoSlot (l : Launch) (G : va_G) (cs : Nat → ClassId) (q : Int) (r_q : -2147483648 ≤ q ∧ q < 2147483648) : MRO l yX6_isNoSlot wsX6_isNoSlot { frames := 0, cells := 0, slots := 0, locals := 0 } G cs [.int (zI q)] (fun _ => True) (.int (zI (b2 (decide (¬ (0 ≤ q ∧ q < 2)))))) := by
  refine m_intro (Pw := (fun _ => True)) (cc := cX6_isNoSlot) (maxL := 1) (ret := some .boolean) RX6 (by decide) rfl rfl (Nat.le_of_ble_eq_true rfl) ?_
  intro pP eE sS mM below meth cC hx hb hr hts hown hml hlk hnm hPre hK ls hl
  have hl : lv_has ls 1 [(0, .int (zI q))] := hl
  refine lv_iload_n hx hb dX6_isNoSlot_0 rfl (lv_at hl 0 rfl) ?_
  refine z_if_lt (tgt := 9) hx hb dX6_isNoSlot_1 (by decide) (by omega) (fun c1 => ?_) (fun c1 => ?_)
  · skip
    refine z_iconst (n := 1) hx hb dX6_isNoSlot_9 ?_
    refine lv_goto (tgt := 14) hx hb dX6_isNoSlot_10 (by decide) ?_
    exact ro_zret hx hb hr hlk dX6_isNoSlot_14 (by omega) (congrArg (fun z => Value.int (zI z)) (b2_t (by simp only [decide_eq_true_eq]; omega)).symm)
  · skip
    refine lv_iload_n hx hb dX6_isNoSlot_4 rfl (lv_at hl 0 rfl) ?_
    refine z_iconst (n := 2) hx hb dX6_isNoSlot_5 ?_
    refine z_icmp_lt (tgt := 13) hx hb dX6_isNoSlot_6 (by decide) (by omega) (by omega) (fun c2 => ?_) (fun c2 => ?_)
    · skip
      refine z_iconst (n := 0) hx hb dX6_isNoSlot_13 ?_
      exact ro_zret hx hb hr hlk dX6_isNoSlot_14 (by omega) (congrArg (fun z => Value.int (zI z)) (b2_f (by simp only [decide_eq_false_iff_not]; omega)).symm)
    · skip
      refine z_iconst (n := 1) hx hb dX6_isNoSlot_9 ?_
      refine lv_goto (tgt := 14) hx hb dX6_isNoSlot_10 (by decide) ?_
      exact ro_zret hx hb hr hlk dX6_isNoSlot_14 (by omega) (congrArg (fun z => Value.int (zI z)) (b2_t (by simp only [decide_eq_true_eq]; omega)).symm)

set_option maxHeartbeats 4000000 in
set_option maxRecDepth 100000 in
theorem c_X6_isNoPlaceOnScreen (l : Launch) (G : va_G) (cs : Nat → ClassId) (x y : Int) (r_x : -2147483648 ≤ x ∧ x < 2147483648) (r_y : -2147483648 ≤ y ∧ y < 2147483648) : MRO l yX6_isNoPlaceOnScreen wsX6_isNoPlaceOnScreen { frames := 0, cells := 0, slots := 0, locals := 0 } G cs [.int (zI x), .int (zI y)] (fun _ => True) (.int (zI (b2 (decide (¬ ((-7 ≤ x ∧ x ≤ 31) ∧ (-7 ≤ y ∧ y ≤ 31))))))) := by
  refine m_intro (Pw := (fun _ => True)) (cc := cX6_isNoPlaceOnScreen) (maxL := 2) (ret := some .boolean) RX6 (by decide) rfl rfl (Nat.le_of_ble_eq_true rfl) ?_
  intro pP eE sS mM below meth cC hx hb hr hts hown hml hlk hnm hPre hK ls hl
  have hl : lv_has ls 2 [(0, .int (zI x)), (1, .int (zI y))] := hl
  refine lv_iload_n hx hb dX6_isNoPlaceOnScreen_0 rfl (lv_at hl 0 rfl) ?_
  refine z_bipush (n := -8) hx hb dX6_isNoPlaceOnScreen_1 (by decide) ?_
  refine z_icmp_le (tgt := 24) hx hb dX6_isNoPlaceOnScreen_3 (by decide) (by omega) (by omega) (fun c1 => ?_) (fun c1 => ?_)
  · skip
    refine z_iconst (n := 1) hx hb dX6_isNoPlaceOnScreen_24 ?_
    refine lv_goto (tgt := 29) hx hb dX6_isNoPlaceOnScreen_25 (by decide) ?_
    exact ro_zret hx hb hr hlk dX6_isNoPlaceOnScreen_29 (by omega) (congrArg (fun z => Value.int (zI z)) (b2_t (by simp only [decide_eq_true_eq]; omega)).symm)
  · skip
    refine lv_iload_n hx hb dX6_isNoPlaceOnScreen_6 rfl (lv_at hl 0 rfl) ?_
    refine z_bipush (n := 32) hx hb dX6_isNoPlaceOnScreen_7 (by decide) ?_
    refine z_icmp_ge (tgt := 24) hx hb dX6_isNoPlaceOnScreen_9 (by decide) (by omega) (by omega) (fun c2 => ?_) (fun c2 => ?_)
    · skip
      refine z_iconst (n := 1) hx hb dX6_isNoPlaceOnScreen_24 ?_
      refine lv_goto (tgt := 29) hx hb dX6_isNoPlaceOnScreen_25 (by decide) ?_
      exact ro_zret hx hb hr hlk dX6_isNoPlaceOnScreen_29 (by omega) (congrArg (fun z => Value.int (zI z)) (b2_t (by simp only [decide_eq_true_eq]; omega)).symm)
    · skip
      refine lv_iload_n hx hb dX6_isNoPlaceOnScreen_12 rfl (lv_at hl 1 rfl) ?_
      refine z_bipush (n := -8) hx hb dX6_isNoPlaceOnScreen_13 (by decide) ?_
      refine z_icmp_le (tgt := 24) hx hb dX6_isNoPlaceOnScreen_15 (by decide) (by omega) (by omega) (fun c3 => ?_) (fun c3 => ?_)
      · skip
        refine z_iconst (n := 1) hx hb dX6_isNoPlaceOnScreen_24 ?_
        refine lv_goto (tgt := 29) hx hb dX6_isNoPlaceOnScreen_25 (by decide) ?_
        exact ro_zret hx hb hr hlk dX6_isNoPlaceOnScreen_29 (by omega) (congrArg (fun z => Value.int (zI z)) (b2_t (by simp only [decide_eq_true_eq]; omega)).symm)
      · skip
        refine lv_iload_n hx hb dX6_isNoPlaceOnScreen_18 rfl (lv_at hl 1 rfl) ?_
        refine z_bipush (n := 32) hx hb dX6_isNoPlaceOnScreen_19 (by decide) ?_
        refine z_icmp_lt (tgt := 28) hx hb dX6_isNoPlaceOnScreen_21 (by decide) (by omega) (by omega) (fun c4 => ?_) (fun c4 => ?_)
        · skip
          refine z_iconst (n := 0) hx hb dX6_isNoPlaceOnScreen_28 ?_
          exact ro_zret hx hb hr hlk dX6_isNoPlaceOnScreen_29 (by omega) (congrArg (fun z => Value.int (zI z)) (b2_f (by simp only [decide_eq_false_iff_not]; omega)).symm)
        · skip
          refine z_iconst (n := 1) hx hb dX6_isNoPlaceOnScreen_24 ?_
          refine lv_goto (tgt := 29) hx hb dX6_isNoPlaceOnScreen_25 (by decide) ?_
          exact ro_zret hx hb hr hlk dX6_isNoPlaceOnScreen_29 (by omega) (congrArg (fun z => Value.int (zI z)) (b2_t (by simp only [decide_eq_true_eq]; omega)).symm)

set_option maxHeartbeats 4000000 in
set_option maxRecDepth 100000 in
theorem c_X6_valuesOf (l : Launch) (G : va_G) (cs : Nat → ClassId) (a : Nat → Nat) (S : SS) (t : Int) (r_t : -2147483648 ≤ t ∧ t < 2147483648) : MRO l yX6_valuesOf wsX6_valuesOf { frames := 0, cells := 0, slots := 0, locals := 0 } G cs [.ref (a 0), .int (zI t)] (fun H => va_P G vwCl (xoW a) H ∧ va_P G vwCl (stW cs (sh a 1) S) H) (.int (zI (valsF S t))) := by
  refine m_intro (Pw := (fun H => va_P G vwCl (xoW a) H ∧ va_P G vwCl (stW cs (sh a 1) S) H)) (cc := cX6_valuesOf) (maxL := 2) (ret := some .int) RX6 (by decide) rfl rfl (Nat.le_of_ble_eq_true rfl) ?_
  intro pP eE sS mM below meth cC hx hb hr hts hown hml hlk hnm hPre hK ls hl
  have hl : lv_has ls 2 [(0, .ref (a 0)), (1, .int (zI t))] := hl
  obtain ⟨hXo, hPs⟩ := hPre
  have hi3 : ∀ w ∈ u_ws RX3 TX3 3, w ∈ wsX6_valuesOf := by decide +kernel
  have hi4 : ∀ w ∈ u_ws RX4 TX4 9, w ∈ wsX6_valuesOf := by decide +kernel
  have hi6 : ∀ w ∈ u_ws RX6 TX6 6, w ∈ wsX6_valuesOf := by decide +kernel
  refine lv_iload_n hx hb dX6_valuesOf_0 rfl (lv_at hl 1 rfl) ?_
  by_cases t1 : t = 0
  · refine z_tableIn (j := 0) (off := 31) (tgt := 32) hx hb dX6_valuesOf_1 t1 (by decide) (by decide) (by decide) rfl (by decide) ?_
    refine lv_aload_n hx hb dX6_valuesOf_32 rfl (lv_at hl 0 rfl) ?_
    refine va_get (D := G) (ci := 6) (v := .ref ((sh a 1) 0)) (C := RX6) (T := TX6) (N := 6) hx hb hts hi6 hown hK.1 hXo 0 rfl rfl 0 (by decide) (hts (.fieldLink RX6 10 "SpriteLines" "now" "LSpriteLines$State;") (by decide +kernel)) (fun _ h9 => h9) rfl dX6_valuesOf_33 ?_
    refine va_get (D := G) (ci := 4) (v := .ref ((sh a 1) 1)) (C := RX4) (T := TX4) (N := 9) hx hb hts hi4 hown hK.1 hPs 0 rfl rfl 4 (by decide) (hts (.fieldLink RX6 50 "SpriteLines$State" "sheet" "LSpriteLines$Sheet;") (by decide +kernel)) (fun _ h9 => h9) rfl dX6_valuesOf_36 ?_
    refine va_get (D := G) (ci := 3) (v := .int (zI (S 0 0))) (C := RX3) (T := TX3) (N := 3) hx hb hts hi3 hown hK.1 hPs 1 rfl rfl 0 (by decide) (hts (.fieldLink RX6 54 "SpriteLines$Sheet" "parts" "I") (by decide +kernel)) (fun _ h9 => h9) rfl dX6_valuesOf_39 ?_
    exact ro_iret hx hb hr hlk dX6_valuesOf_42 (congrArg (fun z => Value.int (zI z)) (by unfold valsF; rw [if_pos (by omega)]))
  by_cases t2 : t = 1
  · refine z_tableIn (j := 1) (off := 42) (tgt := 43) hx hb dX6_valuesOf_1 t2 (by decide) (by decide) (by decide) rfl (by decide) ?_
    refine z_iconst (n := 4) hx hb dX6_valuesOf_43 ?_
    exact ro_iret hx hb hr hlk dX6_valuesOf_44 (congrArg (fun z => Value.int (zI z)) (by unfold valsF; rw [if_neg (by omega), if_pos (by omega)]))
  by_cases t3 : t = 2
  · refine z_tableIn (j := 2) (off := 44) (tgt := 45) hx hb dX6_valuesOf_1 t3 (by decide) (by decide) (by decide) rfl (by decide) ?_
    refine z_iconst (n := 4) hx hb dX6_valuesOf_45 ?_
    exact ro_iret hx hb hr hlk dX6_valuesOf_46 (congrArg (fun z => Value.int (zI z)) (by unfold valsF; rw [if_neg (by omega), if_neg (by omega), if_pos (by omega)]))
  by_cases t4 : t = 3
  · refine z_tableIn (j := 3) (off := 46) (tgt := 47) hx hb dX6_valuesOf_1 t4 (by decide) (by decide) (by decide) rfl (by decide) ?_
    refine z_iconst (n := 2) hx hb dX6_valuesOf_47 ?_
    exact ro_iret hx hb hr hlk dX6_valuesOf_48 (congrArg (fun z => Value.int (zI z)) (by unfold valsF; rw [if_neg (by omega), if_neg (by omega), if_neg (by omega), if_pos (by omega)]))
  refine z_tableOut (tgt := 49) hx hb dX6_valuesOf_1 (by omega) (by omega) (by decide) ?_
  refine z_iconst (n := 0) hx hb dX6_valuesOf_49 ?_
  exact ro_iret hx hb hr hlk dX6_valuesOf_50 (congrArg (fun z => Value.int (zI z)) (by unfold valsF; rw [if_neg (by omega), if_neg (by omega), if_neg (by omega), if_neg (by omega)]))

set_option maxHeartbeats 4000000 in
set_option maxRecDepth 100000 in
theorem c_X6_addPart (l : Launch) (G : va_G) (cs : Nat → ClassId) (a w : Nat → Nat) (S : SS) (n : Int) (L : Nat → SS) (tl : Int) (X : Int → Int) (k : Nat → Bool) (V : Nat → SS)  (ia : Inj a 62) (hsd : SnD a w k) (hA : AWF (S, (n, L), (tl, X), (k, V))) : MW l yX6_addPart wsX6_addPart { frames := 4, cells := 0, slots := 0, locals := 123 } G cs [.ref (a 0)] (fun H => XI G cs a w (S, (n, L), (tl, X), (k, V)) H) (fun vv H => vv = .int (zI (addPartF (S, (n, L), (tl, X), (k, V))).1) ∧ XI G cs a w (addPartF (S, (n, L), (tl, X), (k, V))).2 H) (AX a 0 62) 0 0 := by
  refine m_intro (Pw := (fun H => XI G cs a w (S, (n, L), (tl, X), (k, V)) H)) (cc := cX6_addPart) (maxL := 2) (ret := some .int) RX6 (by decide) rfl rfl (Nat.le_of_ble_eq_true rfl) ?_
  intro pP eE sS mM below meth cC hx hb hr hts hown hml hlk hnm hPre hK ls hl
  have hl : lv_has ls 2 [(0, .ref (a 0))] := hl
  have hXI := hPre
  have hS : va_S (AX a 0 62) sS.heap sS.heap [] := va_S.rf
  have hi3 : ∀ w ∈ u_ws RX3 TX3 3, w ∈ wsX6_addPart := by decide +kernel
  have hi4 : ∀ w ∈ u_ws RX4 TX4 9, w ∈ wsX6_addPart := by decide +kernel
  have hi6 : ∀ w ∈ u_ws RX6 TX6 6, w ∈ wsX6_addPart := by decide +kernel
  obtain ⟨F, Fl, Pt, U, Q, N, T, lo, hi_, o, R, ⟨hTF, hT0⟩, ⟨ho, hRing⟩, hXo, hPs, hPv, hKp, hTx, hHi, hRg, hSn, hSw⟩ := hXI
  obtain ⟨wf, ⟨hn, hL9⟩, ⟨htl, hX⟩, hV9⟩ := hA
  have hT0 : T 0 = tl := hT0
  have hRing : ∀ i : Nat, (i : Int) < n → R ((o + i) % 5).toNat = L i := hRing
  have wf : WF S := wf
  have hn : 0 ≤ n ∧ n ≤ 5 := hn
  have htl : 0 ≤ tl ∧ tl ≤ 60 := htl
  have hX : ∀ j, 0 ≤ j → j < 60 → 0 ≤ X j ∧ X j < 65536 := hX
  have hXo : va_P G vwCl (xoW a) sS.heap := hXo
  have hPs : va_P G vwCl (stW cs (sh a 1) S) sS.heap := hPs
  have hPv : va_P G vwCl (viW cs (sh a 9) ((sh a 1) 0) (aI F) (cB Fl) (cB Pt)) sS.heap := hPv
  have hKp : va_P G vwCl (pkW cs (sh a 13) ((sh a 1) 0) (aI U) (aI Q) (aI N)) sS.heap := hKp
  have hTx : va_P G vwCl (txW cs (sh a 17) T lo hi_ X) sS.heap := hTx
  have hHi : va_P G vwCl (hiW cs (sh a 19) o n) sS.heap := hHi
  have hRg : ∀ i, i < 5 → va_P G vwCl (stW cs (sh a (21 + 8 * i)) (R i)) sS.heap := hRg
  have hSn : va_P G vwCl (snW cs (sh a 61) w k) sS.heap := hSn
  have hSw : ∀ i, i < 2 → k i = true → va_P G vwCl (stW cs (sh w (8 * i)) (V i)) sS.heap := hSw
  have wf0 := wf
  obtain ⟨w0, w1, w2, w3, w4, wP, wC, wS, wX⟩ := wf
  have ia1 := inj_sh (k := 1) (w := 8) ia (by decide)
  refine lv_aload_n hx hb dX6_addPart_0 rfl (lv_at hl 0 rfl) ?_
  refine va_get (D := G) (ci := 6) (v := .ref ((sh a 1) 0)) (C := RX6) (T := TX6) (N := 6) hx hb hts hi6 hown hK.1 hXo 0 rfl rfl 0 (by decide) (hts (.fieldLink RX6 10 "SpriteLines" "now" "LSpriteLines$State;") (by decide +kernel)) (fun _ h9 => h9) rfl dX6_addPart_1 ?_
  refine va_get (D := G) (ci := 4) (v := .ref ((sh a 1) 1)) (C := RX4) (T := TX4) (N := 9) hx hb hts hi4 hown hK.1 hPs 0 rfl rfl 4 (by decide) (hts (.fieldLink RX6 50 "SpriteLines$State" "sheet" "LSpriteLines$Sheet;") (by decide +kernel)) (fun _ h9 => h9) rfl dX6_addPart_4 ?_
  refine va_get (D := G) (ci := 3) (v := .int (zI (S 0 0))) (C := RX3) (T := TX3) (N := 3) hx hb hts hi3 hown hK.1 hPs 1 rfl rfl 0 (by decide) (hts (.fieldLink RX6 54 "SpriteLines$Sheet" "parts" "I") (by decide +kernel)) (fun _ h9 => h9) rfl dX6_addPart_7 ?_
  refine lv_istore_n (lv' := [(1, .int (zI (S 0 0))), (0, .ref (a 0))]) hx hb dX6_addPart_10 rfl hl (by decide) rfl (fun ls hl => ?_)
  refine lv_iload_n hx hb dX6_addPart_11 rfl (lv_at hl 0 rfl) ?_
  refine z_bipush (n := 24) hx hb dX6_addPart_12 (by decide) ?_
  refine z_icmp_lt (tgt := 20) hx hb dX6_addPart_14 (by decide) (by omega) (by omega) (fun c1 => ?_) (fun c1 => ?_)
  · skip
    refine lv_aload_n hx hb dX6_addPart_20 rfl (lv_at hl 1 rfl) ?_
    refine va_get (D := G) (ci := 6) (v := .ref ((sh a 19) 0)) (C := RX6) (T := TX6) (N := 6) hx hb hts hi6 hown hK.1 hXo 0 rfl rfl 4 (by decide) (hts (.fieldLink RX6 42 "SpriteLines" "history" "LSpriteLines$History;") (by decide +kernel)) (fun _ h9 => h9) rfl dX6_addPart_21 ?_
    refine lv_aload_n hx hb dX6_addPart_24 rfl (lv_at hl 1 rfl) ?_
    refine va_get (D := G) (ci := 6) (v := .ref ((sh a 1) 0)) (C := RX6) (T := TX6) (N := 6) hx hb hts hi6 hown hK.1 hXo 0 rfl rfl 0 (by decide) (hts (.fieldLink RX6 10 "SpriteLines" "now" "LSpriteLines$State;") (by decide +kernel)) (fun _ h9 => h9) rfl dX6_addPart_25 ?_
    refine z_v (zrV (As := [.ref ((sh a 1) 0)]) (rest := []) (Pw := fun H => va_P G vwCl (stW cs (sh a 1) S) H ∧ va_P G vwCl (hiW cs (sh a 19) o n) H ∧ ∀ i, i < 5 → va_P G vwCl (stW cs (sh a (21 + 8 * i)) (R i)) H) ⟨hx, hb, hml, hown, hts⟩ (c_X0_remember l G cs a S o n R ia (by omega) (by omega)) gX6_addPart_X0_remember rfl qX0_remember rfl rfl ⟨Nat.le_of_ble_eq_true rfl, Nat.le_of_ble_eq_true rfl⟩ ⟨hPs, hHi, hRg⟩ hK (va_recv hK.1 hHi (ci := 0) (q0 := 0) rfl rfl) hl.1 rfl (Nat.le_of_ble_eq_true rfl) dX6_addPart_28 ⟨Nat.le_of_ble_eq_true rfl, Nat.le_of_ble_eq_true rfl⟩) hS (fun q h => ax_mono h (by decide) (by decide)) (fun q h => ax_mono h (by decide) (by decide)) (fun H locs hpost hle hk hS => ?_)
    obtain ⟨hHi', hRg'⟩ := hpost
    have hXo := keepO (ordXo a) hXo hk (fun j hj ⟨i, h1, h2, h3⟩ => absurd (ia j i (by omega) (by omega) h3) (by omega))
    have hPs := keepO (ordSt cs (sh a 1) S) hPs hk (fun j hj ⟨i, h1, h2, h3⟩ => absurd (ia (1 + j) i (by omega) (by omega) h3) (by omega))
    have hPv := keepO (ordVi cs (sh a 9) ((sh a 1) 0) (aI F) (cB Fl) (cB Pt)) hPv hk (fun j hj ⟨i, h1, h2, h3⟩ => absurd (ia (9 + j) i (by omega) (by omega) h3) (by omega))
    have hKp := keepO (ordPk cs (sh a 13) ((sh a 1) 0) (aI U) (aI Q) (aI N)) hKp hk (fun j hj ⟨i, h1, h2, h3⟩ => absurd (ia (13 + j) i (by omega) (by omega) h3) (by omega))
    have hTx := keepO (ordTx cs (sh a 17) T lo hi_ X) hTx hk (fun j hj ⟨i, h1, h2, h3⟩ => absurd (ia (17 + j) i (by omega) (by omega) h3) (by omega))
    have hSn := keepO (ordSn cs (sh a 61) w k) hSn hk (fun j hj ⟨i, h1, h2, h3⟩ => absurd (ia (61 + j) i (by omega) (by omega) h3) (by omega))
    have hSw : ∀ i, i < 2 → k i = true → va_P G vwCl (stW cs (sh w (8 * i)) (V i)) H := fun i hi hk9 => keepO (ordSt _ _ _) (hSw i hi hk9) hk (fun j hj ⟨i', h1, h2, h3⟩ => absurd h3.symm (hsd.1 i' i j (by omega) hi hj hk9))
    have hHi : va_P G vwCl (hiW cs (sh a 19) (remO o n) (remN n)) H := hHi'
    have hRg : ∀ i, i < 5 → va_P G vwCl (stW cs (sh a (21 + 8 * i)) ((updT R ((o + n) % 5).toNat S) i)) H := hRg'
    refine lv_aload_n hx hb dX6_addPart_31 rfl (lv_at hl 1 rfl) ?_
    refine va_get (D := G) (ci := 6) (v := .ref ((sh a 1) 0)) (C := RX6) (T := TX6) (N := 6) hx hb hts hi6 hown hK.1 hXo 0 rfl rfl 0 (by decide) (hts (.fieldLink RX6 10 "SpriteLines" "now" "LSpriteLines$State;") (by decide +kernel)) (fun _ h9 => h9) rfl dX6_addPart_32 ?_
    refine va_get (D := G) (ci := 4) (v := .ref ((sh a 1) 1)) (C := RX4) (T := TX4) (N := 9) hx hb hts hi4 hown hK.1 hPs 0 rfl rfl 4 (by decide) (hts (.fieldLink RX6 50 "SpriteLines$State" "sheet" "LSpriteLines$Sheet;") (by decide +kernel)) (fun _ h9 => h9) rfl dX6_addPart_35 ?_
    refine z_v (zrV (As := []) (rest := []) ⟨hx, hb, hml, hown, hts⟩ (c_X3_addBlank l G cs (sh a 1) S ia1 (by omega)) gX6_addPart_X3_addBlank rfl qX3_addBlank rfl rfl ⟨Nat.le_of_ble_eq_true rfl, Nat.le_of_ble_eq_true rfl⟩ hPs hK (va_recv hK.1 hPs (ci := 3) (q0 := 1) rfl rfl) hl.1 rfl (Nat.le_of_ble_eq_true rfl) dX6_addPart_38 ⟨Nat.le_of_ble_eq_true rfl, Nat.le_of_ble_eq_true rfl⟩) hS (fun q h => ax_mono (ax_sh h) (by decide) (by decide)) (fun q h => ax_mono (ax_sh h) (by decide) (by decide)) (fun H locs hpost hle hk hS => ?_)
    have hPs' := hpost
    have hXo := keepO (ordXo a) hXo hk (fun j hj ⟨i, h1, h2, h3⟩ => absurd (ia j (1 + i) (by omega) (by omega) h3) (by omega))
    have hPv := keepO (ordVi cs (sh a 9) ((sh a 1) 0) (aI F) (cB Fl) (cB Pt)) hPv hk (fun j hj ⟨i, h1, h2, h3⟩ => absurd (ia (9 + j) (1 + i) (by omega) (by omega) h3) (by omega))
    have hKp := keepO (ordPk cs (sh a 13) ((sh a 1) 0) (aI U) (aI Q) (aI N)) hKp hk (fun j hj ⟨i, h1, h2, h3⟩ => absurd (ia (13 + j) (1 + i) (by omega) (by omega) h3) (by omega))
    have hTx := keepO (ordTx cs (sh a 17) T lo hi_ X) hTx hk (fun j hj ⟨i, h1, h2, h3⟩ => absurd (ia (17 + j) (1 + i) (by omega) (by omega) h3) (by omega))
    have hHi := keepO (ordHi cs (sh a 19) (remO o n) (remN n)) hHi hk (fun j hj ⟨i, h1, h2, h3⟩ => absurd (ia (19 + j) (1 + i) (by omega) (by omega) h3) (by omega))
    have hRg : ∀ i, i < 5 → va_P G vwCl (stW cs (sh a (21 + 8 * i)) ((updT R ((o + n) % 5).toNat S) i)) H := fun i hi => keepO (ordSt _ _ _) (hRg i hi) hk (fun j hj ⟨i', h1, h2, h3⟩ => absurd (ia (21 + 8 * i + j) (1 + i') (by omega) (by omega) h3) (by omega))
    have hSn := keepO (ordSn cs (sh a 61) w k) hSn hk (fun j hj ⟨i, h1, h2, h3⟩ => absurd (ia (61 + j) (1 + i) (by omega) (by omega) h3) (by omega))
    have hSw : ∀ i, i < 2 → k i = true → va_P G vwCl (stW cs (sh w (8 * i)) (V i)) H := fun i hi hk9 => keepO (ordSt _ _ _) (hSw i hi hk9) hk (fun j hj ⟨i', h1, h2, h3⟩ => absurd h3.symm (hsd.1 (1 + i') i j (by omega) hi hj hk9))
    have hPs : va_P G vwCl (stW cs (sh a 1) (addBl S)) H := hPs'
    refine lv_iload_n hx hb dX6_addPart_41 rfl (lv_at hl 0 rfl) ?_
    exact w_iret hx hb hr hlk dX6_addPart_42 hS (by rw [show addPartF (S, (n, L), (tl, X), (k, V)) = _ from by unfold addPartF; rw [if_neg (show ¬ (24 ≤ S 0 0) by omega)]]; exact ⟨rfl, ⟨F, Fl, Pt, U, Q, N, T, lo, hi_, remO o n, updT R ((o + n) % 5).toNat S, ⟨hTF, hT0⟩, (ring_rem ⟨ho, hRing⟩ hn), hXo, hPs, hPv, hKp, hTx, hHi, hRg, hSn, hSw⟩⟩)
  · skip
    refine z_bipush (n := -3) hx hb dX6_addPart_17 (by decide) ?_
    exact w_iret hx hb hr hlk dX6_addPart_19 hS (by rw [show addPartF (S, (n, L), (tl, X), (k, V)) = _ from by unfold addPartF; rw [if_pos (show 24 ≤ S 0 0 by omega)]]; exact ⟨rfl, ⟨F, Fl, Pt, U, Q, N, T, lo, hi_, o, R, ⟨hTF, hT0⟩, ⟨ho, hRing⟩, hXo, hPs, hPv, hKp, hTx, hHi, hRg, hSn, hSw⟩⟩)

set_option maxHeartbeats 4000000 in
set_option maxRecDepth 100000 in
theorem c_X6_setPixel (l : Launch) (G : va_G) (cs : Nat → ClassId) (a w : Nat → Nat) (S : SS) (n : Int) (L : Nat → SS) (tl : Int) (X : Int → Int) (k : Nat → Bool) (V : Nat → SS) (q r t v : Int) (ia : Inj a 62) (hsd : SnD a w k) (hA : AWF (S, (n, L), (tl, X), (k, V))) (r_q : -2147483648 ≤ q ∧ q < 2147483648) (r_r : -2147483648 ≤ r ∧ r < 2147483648) (r_t : -2147483648 ≤ t ∧ t < 2147483648) (r_v : -2147483648 ≤ v ∧ v < 2147483648) : MW l yX6_setPixel wsX6_setPixel { frames := 4, cells := 0, slots := 0, locals := 123 } G cs [.ref (a 0), .int (zI q), .int (zI r), .int (zI t), .int (zI v)] (fun H => XI G cs a w (S, (n, L), (tl, X), (k, V)) H) (fun vv H => vv = .int (zI (setPixelF (S, (n, L), (tl, X), (k, V)) q r t v).1) ∧ XI G cs a w (setPixelF (S, (n, L), (tl, X), (k, V)) q r t v).2 H) (AX a 0 62) 0 0 := by
  refine m_intro (Pw := (fun H => XI G cs a w (S, (n, L), (tl, X), (k, V)) H)) (cc := cX6_setPixel) (maxL := 6) (ret := some .int) RX6 (by decide) rfl rfl (Nat.le_of_ble_eq_true rfl) ?_
  intro pP eE sS mM below meth cC hx hb hr hts hown hml hlk hnm hPre hK ls hl
  have hl : lv_has ls 6 [(0, .ref (a 0)), (1, .int (zI q)), (2, .int (zI r)), (3, .int (zI t)), (4, .int (zI v))] := hl
  have hXI := hPre
  have hS : va_S (AX a 0 62) sS.heap sS.heap [] := va_S.rf
  have hi4 : ∀ w ∈ u_ws RX4 TX4 9, w ∈ wsX6_setPixel := by decide +kernel
  have hi6 : ∀ w ∈ u_ws RX6 TX6 6, w ∈ wsX6_setPixel := by decide +kernel
  obtain ⟨F, Fl, Pt, U, Q, N, T, lo, hi_, o, R, ⟨hTF, hT0⟩, ⟨ho, hRing⟩, hXo, hPs, hPv, hKp, hTx, hHi, hRg, hSn, hSw⟩ := hXI
  obtain ⟨wf, ⟨hn, hL9⟩, ⟨htl, hX⟩, hV9⟩ := hA
  have hT0 : T 0 = tl := hT0
  have hRing : ∀ i : Nat, (i : Int) < n → R ((o + i) % 5).toNat = L i := hRing
  have wf : WF S := wf
  have hn : 0 ≤ n ∧ n ≤ 5 := hn
  have htl : 0 ≤ tl ∧ tl ≤ 60 := htl
  have hX : ∀ j, 0 ≤ j → j < 60 → 0 ≤ X j ∧ X j < 65536 := hX
  have hXo : va_P G vwCl (xoW a) sS.heap := hXo
  have hPs : va_P G vwCl (stW cs (sh a 1) S) sS.heap := hPs
  have hPv : va_P G vwCl (viW cs (sh a 9) ((sh a 1) 0) (aI F) (cB Fl) (cB Pt)) sS.heap := hPv
  have hKp : va_P G vwCl (pkW cs (sh a 13) ((sh a 1) 0) (aI U) (aI Q) (aI N)) sS.heap := hKp
  have hTx : va_P G vwCl (txW cs (sh a 17) T lo hi_ X) sS.heap := hTx
  have hHi : va_P G vwCl (hiW cs (sh a 19) o n) sS.heap := hHi
  have hRg : ∀ i, i < 5 → va_P G vwCl (stW cs (sh a (21 + 8 * i)) (R i)) sS.heap := hRg
  have hSn : va_P G vwCl (snW cs (sh a 61) w k) sS.heap := hSn
  have hSw : ∀ i, i < 2 → k i = true → va_P G vwCl (stW cs (sh w (8 * i)) (V i)) sS.heap := hSw
  have wf0 := wf
  obtain ⟨w0, w1, w2, w3, w4, wP, wC, wS, wX⟩ := wf
  have ia1 := inj_sh (k := 1) (w := 8) ia (by decide)
  refine lv_aload_n hx hb dX6_setPixel_0 rfl (lv_at hl 0 rfl) ?_
  refine lv_iload_n hx hb dX6_setPixel_1 rfl (lv_at hl 1 rfl) ?_
  refine z_ro (zrV (As := [.int (zI q)]) (rest := []) (Pw := fun H => va_P G vwCl (xoW a) H ∧ va_P G vwCl (stW cs (sh a 1) S) H) ⟨hx, hb, hml, hown, hts⟩ (c_X6_isNoPart l G cs a S q wf0 (by omega)) gX6_setPixel_X6_isNoPart rfl qX6_isNoPart rfl rfl ⟨Nat.le_of_ble_eq_true rfl, Nat.le_of_ble_eq_true rfl⟩ ⟨hXo, hPs⟩ hK (va_recv hK.1 hXo (ci := 6) (q0 := 0) rfl rfl) hl.1 rfl (Nat.le_of_ble_eq_true rfl) dX6_setPixel_2 ⟨Nat.le_of_ble_eq_true rfl, Nat.le_of_ble_eq_true rfl⟩) ?_
  refine z_bif_eq (tgt := 10) hx hb dX6_setPixel_5 (by decide) (fun c1 => ?_) (fun c1 => ?_)
  · skip
    simp only [decide_eq_false_iff_not] at c1
    refine lv_iload_n hx hb dX6_setPixel_10 rfl (lv_at hl 2 rfl) ?_
    refine lv_iload_n hx hb dX6_setPixel_11 rfl (lv_at hl 3 rfl) ?_
    refine z_ro (zrS (As := [.int (zI r), .int (zI t)]) (rest := []) (Pw := fun _ => True) ⟨hx, hb, hml, hown, hts⟩ (c_X6_isNoPlaceInPart l G cs r t (by omega) (by omega)) gX6_setPixel_X6_isNoPlaceInPart rfl qX6_isNoPlaceInPart rfl rfl ⟨Nat.le_of_ble_eq_true rfl, Nat.le_of_ble_eq_true rfl⟩ trivial hK hl.1 rfl (Nat.le_of_ble_eq_true rfl) dX6_setPixel_12 ⟨Nat.le_of_ble_eq_true rfl, Nat.le_of_ble_eq_true rfl⟩) ?_
    refine z_bif_ne (tgt := 29) hx hb dX6_setPixel_15 (by decide) (fun c2 => ?_) (fun c2 => ?_)
    · skip
      simp only [decide_eq_true_eq] at c2
      refine z_bipush (n := -2) hx hb dX6_setPixel_29 (by decide) ?_
      exact w_iret hx hb hr hlk dX6_setPixel_31 hS (by rw [show setPixelF (S, (n, L), (tl, X), (k, V)) q r t v = _ from by unfold setPixelF; rw [if_neg (show ¬ (¬ (0 ≤ q ∧ q < S 0 0)) by omega), if_pos (show ¬ ((0 ≤ r ∧ r < 8) ∧ (0 ≤ t ∧ t < 8) ∧ (0 ≤ v ∧ v < 4)) by omega)]]; exact ⟨rfl, ⟨F, Fl, Pt, U, Q, N, T, lo, hi_, o, R, ⟨hTF, hT0⟩, ⟨ho, hRing⟩, hXo, hPs, hPv, hKp, hTx, hHi, hRg, hSn, hSw⟩⟩)
    · skip
      simp only [decide_eq_false_iff_not] at c2
      refine lv_iload hx hb dX6_setPixel_18 (lv_at hl 4 rfl) ?_
      refine z_if_lt (tgt := 29) hx hb dX6_setPixel_20 (by decide) (by omega) (fun c1 => ?_) (fun c1 => ?_)
      · skip
        refine z_bipush (n := -2) hx hb dX6_setPixel_29 (by decide) ?_
        exact w_iret hx hb hr hlk dX6_setPixel_31 hS (by rw [show setPixelF (S, (n, L), (tl, X), (k, V)) q r t v = _ from by unfold setPixelF; rw [if_neg (show ¬ (¬ (0 ≤ q ∧ q < S 0 0)) by omega), if_pos (show ¬ ((0 ≤ r ∧ r < 8) ∧ (0 ≤ t ∧ t < 8) ∧ (0 ≤ v ∧ v < 4)) by omega)]]; exact ⟨rfl, ⟨F, Fl, Pt, U, Q, N, T, lo, hi_, o, R, ⟨hTF, hT0⟩, ⟨ho, hRing⟩, hXo, hPs, hPv, hKp, hTx, hHi, hRg, hSn, hSw⟩⟩)
      · skip
        refine lv_iload hx hb dX6_setPixel_23 (lv_at hl 4 rfl) ?_
        refine z_iconst (n := 4) hx hb dX6_setPixel_25 ?_
        refine z_icmp_lt (tgt := 32) hx hb dX6_setPixel_26 (by decide) (by omega) (by omega) (fun c2 => ?_) (fun c2 => ?_)
        · skip
          refine lv_aload_n hx hb dX6_setPixel_32 rfl (lv_at hl 0 rfl) ?_
          refine va_get (D := G) (ci := 6) (v := .ref ((sh a 19) 0)) (C := RX6) (T := TX6) (N := 6) hx hb hts hi6 hown hK.1 hXo 0 rfl rfl 4 (by decide) (hts (.fieldLink RX6 42 "SpriteLines" "history" "LSpriteLines$History;") (by decide +kernel)) (fun _ h9 => h9) rfl dX6_setPixel_33 ?_
          refine lv_aload_n hx hb dX6_setPixel_36 rfl (lv_at hl 0 rfl) ?_
          refine va_get (D := G) (ci := 6) (v := .ref ((sh a 1) 0)) (C := RX6) (T := TX6) (N := 6) hx hb hts hi6 hown hK.1 hXo 0 rfl rfl 0 (by decide) (hts (.fieldLink RX6 10 "SpriteLines" "now" "LSpriteLines$State;") (by decide +kernel)) (fun _ h9 => h9) rfl dX6_setPixel_37 ?_
          refine z_v (zrV (As := [.ref ((sh a 1) 0)]) (rest := []) (Pw := fun H => va_P G vwCl (stW cs (sh a 1) S) H ∧ va_P G vwCl (hiW cs (sh a 19) o n) H ∧ ∀ i, i < 5 → va_P G vwCl (stW cs (sh a (21 + 8 * i)) (R i)) H) ⟨hx, hb, hml, hown, hts⟩ (c_X0_remember l G cs a S o n R ia (by omega) (by omega)) gX6_setPixel_X0_remember rfl qX0_remember rfl rfl ⟨Nat.le_of_ble_eq_true rfl, Nat.le_of_ble_eq_true rfl⟩ ⟨hPs, hHi, hRg⟩ hK (va_recv hK.1 hHi (ci := 0) (q0 := 0) rfl rfl) hl.1 rfl (Nat.le_of_ble_eq_true rfl) dX6_setPixel_40 ⟨Nat.le_of_ble_eq_true rfl, Nat.le_of_ble_eq_true rfl⟩) hS (fun q h => ax_mono h (by decide) (by decide)) (fun q h => ax_mono h (by decide) (by decide)) (fun H locs hpost hle hk hS => ?_)
          obtain ⟨hHi', hRg'⟩ := hpost
          have hXo := keepO (ordXo a) hXo hk (fun j hj ⟨i, h1, h2, h3⟩ => absurd (ia j i (by omega) (by omega) h3) (by omega))
          have hPs := keepO (ordSt cs (sh a 1) S) hPs hk (fun j hj ⟨i, h1, h2, h3⟩ => absurd (ia (1 + j) i (by omega) (by omega) h3) (by omega))
          have hPv := keepO (ordVi cs (sh a 9) ((sh a 1) 0) (aI F) (cB Fl) (cB Pt)) hPv hk (fun j hj ⟨i, h1, h2, h3⟩ => absurd (ia (9 + j) i (by omega) (by omega) h3) (by omega))
          have hKp := keepO (ordPk cs (sh a 13) ((sh a 1) 0) (aI U) (aI Q) (aI N)) hKp hk (fun j hj ⟨i, h1, h2, h3⟩ => absurd (ia (13 + j) i (by omega) (by omega) h3) (by omega))
          have hTx := keepO (ordTx cs (sh a 17) T lo hi_ X) hTx hk (fun j hj ⟨i, h1, h2, h3⟩ => absurd (ia (17 + j) i (by omega) (by omega) h3) (by omega))
          have hSn := keepO (ordSn cs (sh a 61) w k) hSn hk (fun j hj ⟨i, h1, h2, h3⟩ => absurd (ia (61 + j) i (by omega) (by omega) h3) (by omega))
          have hSw : ∀ i, i < 2 → k i = true → va_P G vwCl (stW cs (sh w (8 * i)) (V i)) H := fun i hi hk9 => keepO (ordSt _ _ _) (hSw i hi hk9) hk (fun j hj ⟨i', h1, h2, h3⟩ => absurd h3.symm (hsd.1 i' i j (by omega) hi hj hk9))
          have hHi : va_P G vwCl (hiW cs (sh a 19) (remO o n) (remN n)) H := hHi'
          have hRg : ∀ i, i < 5 → va_P G vwCl (stW cs (sh a (21 + 8 * i)) ((updT R ((o + n) % 5).toNat S) i)) H := hRg'
          refine lv_aload_n hx hb dX6_setPixel_43 rfl (lv_at hl 0 rfl) ?_
          refine va_get (D := G) (ci := 6) (v := .ref ((sh a 1) 0)) (C := RX6) (T := TX6) (N := 6) hx hb hts hi6 hown hK.1 hXo 0 rfl rfl 0 (by decide) (hts (.fieldLink RX6 10 "SpriteLines" "now" "LSpriteLines$State;") (by decide +kernel)) (fun _ h9 => h9) rfl dX6_setPixel_44 ?_
          refine va_get (D := G) (ci := 4) (v := .ref ((sh a 1) 1)) (C := RX4) (T := TX4) (N := 9) hx hb hts hi4 hown hK.1 hPs 0 rfl rfl 4 (by decide) (hts (.fieldLink RX6 50 "SpriteLines$State" "sheet" "LSpriteLines$Sheet;") (by decide +kernel)) (fun _ h9 => h9) rfl dX6_setPixel_47 ?_
          refine lv_iload_n hx hb dX6_setPixel_50 rfl (lv_at hl 1 rfl) ?_
          refine z_iconst (n := 0) hx hb dX6_setPixel_51 ?_
          refine lv_iload_n hx hb dX6_setPixel_52 rfl (lv_at hl 2 rfl) ?_
          refine lv_iload_n hx hb dX6_setPixel_53 rfl (lv_at hl 3 rfl) ?_
          refine z_ro (zrV (As := [.int (zI q), .int (zI 0), .int (zI r), .int (zI t)]) (rest := []) ⟨hx, hb, hml, hown, hts⟩ (c_X3_pixelAt l G cs (sh a 1) S q 0 r t wf0 (by omega) (by omega) (by omega) (by omega)) gX6_setPixel_X3_pixelAt rfl qX3_pixelAt rfl rfl ⟨Nat.le_of_ble_eq_true rfl, Nat.le_of_ble_eq_true rfl⟩ hPs hK (va_recv hK.1 hPs (ci := 3) (q0 := 1) rfl rfl) hl.1 rfl (Nat.le_of_ble_eq_true rfl) dX6_setPixel_54 ⟨Nat.le_of_ble_eq_true rfl, Nat.le_of_ble_eq_true rfl⟩) ?_
          refine lv_istore (lv' := [(5, .int (zI (pixW S q 0 r t))), (0, .ref (a 0)), (1, .int (zI q)), (2, .int (zI r)), (3, .int (zI t)), (4, .int (zI v))]) hx hb dX6_setPixel_57 hl (by decide) rfl (fun ls hl => ?_)
          refine lv_aload_n hx hb dX6_setPixel_59 rfl (lv_at hl 1 rfl) ?_
          refine va_get (D := G) (ci := 6) (v := .ref ((sh a 1) 0)) (C := RX6) (T := TX6) (N := 6) hx hb hts hi6 hown hK.1 hXo 0 rfl rfl 0 (by decide) (hts (.fieldLink RX6 10 "SpriteLines" "now" "LSpriteLines$State;") (by decide +kernel)) (fun _ h9 => h9) rfl dX6_setPixel_60 ?_
          refine va_get (D := G) (ci := 4) (v := .ref ((sh a 1) 1)) (C := RX4) (T := TX4) (N := 9) hx hb hts hi4 hown hK.1 hPs 0 rfl rfl 4 (by decide) (hts (.fieldLink RX6 50 "SpriteLines$State" "sheet" "LSpriteLines$Sheet;") (by decide +kernel)) (fun _ h9 => h9) rfl dX6_setPixel_63 ?_
          refine lv_iload_n hx hb dX6_setPixel_66 rfl (lv_at hl 2 rfl) ?_
          refine lv_iload_n hx hb dX6_setPixel_67 rfl (lv_at hl 3 rfl) ?_
          refine lv_iload_n hx hb dX6_setPixel_68 rfl (lv_at hl 4 rfl) ?_
          refine lv_iload hx hb dX6_setPixel_69 (lv_at hl 5 rfl) ?_
          refine z_v (zrV (As := [.int (zI q), .int (zI r), .int (zI t), .int (zI v)]) (rest := []) ⟨hx, hb, hml, hown, hts⟩ (c_X3_putPixel l G cs (sh a 1) S q r t v ia1 wf0 (by omega) (by omega) (by omega) (by omega)) gX6_setPixel_X3_putPixel rfl qX3_putPixel rfl rfl ⟨Nat.le_of_ble_eq_true rfl, Nat.le_of_ble_eq_true rfl⟩ hPs hK (va_recv hK.1 hPs (ci := 3) (q0 := 1) rfl rfl) hl.1 rfl (Nat.le_of_ble_eq_true rfl) dX6_setPixel_71 ⟨Nat.le_of_ble_eq_true rfl, Nat.le_of_ble_eq_true rfl⟩) hS (fun q h => ax_mono (ax_sh h) (by decide) (by decide)) (fun q h => ax_mono (ax_sh h) (by decide) (by decide)) (fun H locs hpost hle hk hS => ?_)
          have hPs' := hpost
          have hXo := keepO (ordXo a) hXo hk (fun j hj ⟨i, h1, h2, h3⟩ => absurd (ia j (1 + i) (by omega) (by omega) h3) (by omega))
          have hPv := keepO (ordVi cs (sh a 9) ((sh a 1) 0) (aI F) (cB Fl) (cB Pt)) hPv hk (fun j hj ⟨i, h1, h2, h3⟩ => absurd (ia (9 + j) (1 + i) (by omega) (by omega) h3) (by omega))
          have hKp := keepO (ordPk cs (sh a 13) ((sh a 1) 0) (aI U) (aI Q) (aI N)) hKp hk (fun j hj ⟨i, h1, h2, h3⟩ => absurd (ia (13 + j) (1 + i) (by omega) (by omega) h3) (by omega))
          have hTx := keepO (ordTx cs (sh a 17) T lo hi_ X) hTx hk (fun j hj ⟨i, h1, h2, h3⟩ => absurd (ia (17 + j) (1 + i) (by omega) (by omega) h3) (by omega))
          have hHi := keepO (ordHi cs (sh a 19) (remO o n) (remN n)) hHi hk (fun j hj ⟨i, h1, h2, h3⟩ => absurd (ia (19 + j) (1 + i) (by omega) (by omega) h3) (by omega))
          have hRg : ∀ i, i < 5 → va_P G vwCl (stW cs (sh a (21 + 8 * i)) ((updT R ((o + n) % 5).toNat S) i)) H := fun i hi => keepO (ordSt _ _ _) (hRg i hi) hk (fun j hj ⟨i', h1, h2, h3⟩ => absurd (ia (21 + 8 * i + j) (1 + i') (by omega) (by omega) h3) (by omega))
          have hSn := keepO (ordSn cs (sh a 61) w k) hSn hk (fun j hj ⟨i, h1, h2, h3⟩ => absurd (ia (61 + j) (1 + i) (by omega) (by omega) h3) (by omega))
          have hSw : ∀ i, i < 2 → k i = true → va_P G vwCl (stW cs (sh w (8 * i)) (V i)) H := fun i hi hk9 => keepO (ordSt _ _ _) (hSw i hi hk9) hk (fun j hj ⟨i', h1, h2, h3⟩ => absurd h3.symm (hsd.1 (1 + i') i j (by omega) hi hj hk9))
          have hPs : va_P G vwCl (stW cs (sh a 1) (up2 S 5 (updZ (S 5) (64 * q + (8 * r + t)) v))) H := hPs'
          refine lv_iload hx hb dX6_setPixel_74 (lv_at hl 0 rfl) ?_
          exact w_iret hx hb hr hlk dX6_setPixel_76 hS (by rw [show setPixelF (S, (n, L), (tl, X), (k, V)) q r t v = _ from by unfold setPixelF; rw [if_neg (show ¬ (¬ (0 ≤ q ∧ q < S 0 0)) by omega), if_neg (show ¬ (¬ ((0 ≤ r ∧ r < 8) ∧ (0 ≤ t ∧ t < 8) ∧ (0 ≤ v ∧ v < 4))) by omega)]]; exact ⟨rfl, ⟨F, Fl, Pt, U, Q, N, T, lo, hi_, remO o n, updT R ((o + n) % 5).toNat S, ⟨hTF, hT0⟩, (ring_rem ⟨ho, hRing⟩ hn), hXo, hPs, hPv, hKp, hTx, hHi, hRg, hSn, hSw⟩⟩)
        · skip
          refine z_bipush (n := -2) hx hb dX6_setPixel_29 (by decide) ?_
          exact w_iret hx hb hr hlk dX6_setPixel_31 hS (by rw [show setPixelF (S, (n, L), (tl, X), (k, V)) q r t v = _ from by unfold setPixelF; rw [if_neg (show ¬ (¬ (0 ≤ q ∧ q < S 0 0)) by omega), if_pos (show ¬ ((0 ≤ r ∧ r < 8) ∧ (0 ≤ t ∧ t < 8) ∧ (0 ≤ v ∧ v < 4)) by omega)]]; exact ⟨rfl, ⟨F, Fl, Pt, U, Q, N, T, lo, hi_, o, R, ⟨hTF, hT0⟩, ⟨ho, hRing⟩, hXo, hPs, hPv, hKp, hTx, hHi, hRg, hSn, hSw⟩⟩)
  · skip
    simp only [decide_eq_true_eq] at c1
    refine z_iconst (n := -1) hx hb dX6_setPixel_8 ?_
    exact w_iret hx hb hr hlk dX6_setPixel_9 hS (by rw [show setPixelF (S, (n, L), (tl, X), (k, V)) q r t v = _ from by unfold setPixelF; rw [if_pos (show ¬ (0 ≤ q ∧ q < S 0 0) by omega)]]; exact ⟨rfl, ⟨F, Fl, Pt, U, Q, N, T, lo, hi_, o, R, ⟨hTF, hT0⟩, ⟨ho, hRing⟩, hXo, hPs, hPv, hKp, hTx, hHi, hRg, hSn, hSw⟩⟩)

set_option maxHeartbeats 4000000 in
set_option maxRecDepth 100000 in
theorem c_X6_type (l : Launch) (G : va_G) (cs : Nat → ClassId) (a w : Nat → Nat) (S : SS) (n : Int) (L : Nat → SS) (tl : Int) (X : Int → Int) (k : Nat → Bool) (V : Nat → SS) (z : Int) (ia : Inj a 62) (hsd : SnD a w k) (hA : AWF (S, (n, L), (tl, X), (k, V))) (hz : narrow .char (.int (zI z)) = .int (zI z)) : MW l yX6_type wsX6_type { frames := 1, cells := 0, slots := 0, locals := 21 } G cs [.ref (a 0), .int (zI z)] (fun H => XI G cs a w (S, (n, L), (tl, X), (k, V)) H) (fun vv H => vv = .int (zI (typeF (S, (n, L), (tl, X), (k, V)) z).1) ∧ XI G cs a w (typeF (S, (n, L), (tl, X), (k, V)) z).2 H) (AX a 0 62) 0 0 := by
  refine m_intro (Pw := (fun H => XI G cs a w (S, (n, L), (tl, X), (k, V)) H)) (cc := cX6_type) (maxL := 2) (ret := some .int) RX6 (by decide) rfl rfl (Nat.le_of_ble_eq_true rfl) ?_
  intro pP eE sS mM below meth cC hx hb hr hts hown hml hlk hnm hPre hK ls hl
  have hl : lv_has ls 2 [(0, .ref (a 0)), (1, .int (zI z))] := hl
  have hXI := hPre
  have hS : va_S (AX a 0 62) sS.heap sS.heap [] := va_S.rf
  have hi2 : ∀ w ∈ u_ws RX2 TX2 9, w ∈ wsX6_type := by decide +kernel
  have hi6 : ∀ w ∈ u_ws RX6 TX6 6, w ∈ wsX6_type := by decide +kernel
  obtain ⟨F, Fl, Pt, U, Q, N, T, lo, hi_, o, R, ⟨hTF, hT0⟩, ⟨ho, hRing⟩, hXo, hPs, hPv, hKp, hTx, hHi, hRg, hSn, hSw⟩ := hXI
  obtain ⟨wf, ⟨hn, hL9⟩, ⟨htl, hX⟩, hV9⟩ := hA
  have hT0 : T 0 = tl := hT0
  have hRing : ∀ i : Nat, (i : Int) < n → R ((o + i) % 5).toNat = L i := hRing
  have wf : WF S := wf
  have hn : 0 ≤ n ∧ n ≤ 5 := hn
  have htl : 0 ≤ tl ∧ tl ≤ 60 := htl
  have hX : ∀ j, 0 ≤ j → j < 60 → 0 ≤ X j ∧ X j < 65536 := hX
  have hXo : va_P G vwCl (xoW a) sS.heap := hXo
  have hPs : va_P G vwCl (stW cs (sh a 1) S) sS.heap := hPs
  have hPv : va_P G vwCl (viW cs (sh a 9) ((sh a 1) 0) (aI F) (cB Fl) (cB Pt)) sS.heap := hPv
  have hKp : va_P G vwCl (pkW cs (sh a 13) ((sh a 1) 0) (aI U) (aI Q) (aI N)) sS.heap := hKp
  have hTx : va_P G vwCl (txW cs (sh a 17) T lo hi_ X) sS.heap := hTx
  have hHi : va_P G vwCl (hiW cs (sh a 19) o n) sS.heap := hHi
  have hRg : ∀ i, i < 5 → va_P G vwCl (stW cs (sh a (21 + 8 * i)) (R i)) sS.heap := hRg
  have hSn : va_P G vwCl (snW cs (sh a 61) w k) sS.heap := hSn
  have hSw : ∀ i, i < 2 → k i = true → va_P G vwCl (stW cs (sh w (8 * i)) (V i)) sS.heap := hSw
  have wf0 := wf
  obtain ⟨w0, w1, w2, w3, w4, wP, wC, wS, wX⟩ := wf
  have ia1 := inj_sh (k := 1) (w := 8) ia (by decide)
  refine lv_aload_n hx hb dX6_type_0 rfl (lv_at hl 0 rfl) ?_
  refine va_get (D := G) (ci := 6) (v := .ref ((sh a 17) 0)) (C := RX6) (T := TX6) (N := 6) hx hb hts hi6 hown hK.1 hXo 0 rfl rfl 3 (by decide) (hts (.fieldLink RX6 35 "SpriteLines" "text" "LSpriteLines$PixelText;") (by decide +kernel)) (fun _ h9 => h9) rfl dX6_type_1 ?_
  refine va_get (D := G) (ci := 2) (v := .int (zI (T 0))) (C := RX2) (T := TX2) (N := 9) hx hb hts hi2 hown hK.1 hTx 0 rfl rfl 1 (by decide) (hts (.fieldLink RX6 82 "SpriteLines$PixelText" "length" "I") (by decide +kernel)) (fun _ h9 => h9) rfl dX6_type_4 ?_
  refine z_bipush (n := 60) hx hb dX6_type_7 (by decide) ?_
  refine z_icmp_lt (tgt := 15) hx hb dX6_type_9 (by decide) (by omega) (by omega) (fun c1 => ?_) (fun c1 => ?_)
  · skip
    refine lv_aload_n hx hb dX6_type_15 rfl (lv_at hl 0 rfl) ?_
    refine va_get (D := G) (ci := 6) (v := .ref ((sh a 17) 0)) (C := RX6) (T := TX6) (N := 6) hx hb hts hi6 hown hK.1 hXo 0 rfl rfl 3 (by decide) (hts (.fieldLink RX6 35 "SpriteLines" "text" "LSpriteLines$PixelText;") (by decide +kernel)) (fun _ h9 => h9) rfl dX6_type_16 ?_
    refine lv_iload_n hx hb dX6_type_19 rfl (lv_at hl 1 rfl) ?_
    refine z_v (zrV (As := [.int (zI z)]) (rest := []) ⟨hx, hb, hml, hown, hts⟩ (c_X2_append l G cs a T lo hi_ X z ia (by omega) hz) gX6_type_X2_append rfl qX2_append rfl rfl ⟨Nat.le_of_ble_eq_true rfl, Nat.le_of_ble_eq_true rfl⟩ hTx hK (va_recv hK.1 hTx (ci := 2) (q0 := 0) rfl rfl) hl.1 rfl (Nat.le_of_ble_eq_true rfl) dX6_type_20 ⟨Nat.le_of_ble_eq_true rfl, Nat.le_of_ble_eq_true rfl⟩) hS (fun q h => ax_mono h (by decide) (by decide)) (fun q h => ax_mono h (by decide) (by decide)) (fun H locs hpost hle hk hS => ?_)
    have hTx' := hpost
    have hXo := keepO (ordXo a) hXo hk (fun j hj ⟨i, h1, h2, h3⟩ => absurd (ia j i (by omega) (by omega) h3) (by omega))
    have hPs := keepO (ordSt cs (sh a 1) S) hPs hk (fun j hj ⟨i, h1, h2, h3⟩ => absurd (ia (1 + j) i (by omega) (by omega) h3) (by omega))
    have hPv := keepO (ordVi cs (sh a 9) ((sh a 1) 0) (aI F) (cB Fl) (cB Pt)) hPv hk (fun j hj ⟨i, h1, h2, h3⟩ => absurd (ia (9 + j) i (by omega) (by omega) h3) (by omega))
    have hKp := keepO (ordPk cs (sh a 13) ((sh a 1) 0) (aI U) (aI Q) (aI N)) hKp hk (fun j hj ⟨i, h1, h2, h3⟩ => absurd (ia (13 + j) i (by omega) (by omega) h3) (by omega))
    have hHi := keepO (ordHi cs (sh a 19) o n) hHi hk (fun j hj ⟨i, h1, h2, h3⟩ => absurd (ia (19 + j) i (by omega) (by omega) h3) (by omega))
    have hRg : ∀ i, i < 5 → va_P G vwCl (stW cs (sh a (21 + 8 * i)) (R i)) H := fun i hi => keepO (ordSt _ _ _) (hRg i hi) hk (fun j hj ⟨i', h1, h2, h3⟩ => absurd (ia (21 + 8 * i + j) i' (by omega) (by omega) h3) (by omega))
    have hSn := keepO (ordSn cs (sh a 61) w k) hSn hk (fun j hj ⟨i, h1, h2, h3⟩ => absurd (ia (61 + j) i (by omega) (by omega) h3) (by omega))
    have hSw : ∀ i, i < 2 → k i = true → va_P G vwCl (stW cs (sh w (8 * i)) (V i)) H := fun i hi hk9 => keepO (ordSt _ _ _) (hSw i hi hk9) hk (fun j hj ⟨i', h1, h2, h3⟩ => absurd h3.symm (hsd.1 i' i j (by omega) hi hj hk9))
    have hTx : va_P G vwCl (txW cs (sh a 17) (updZ T 0 (T 0 + 1)) lo hi_ (updZ X (T 0) z)) H := hTx'
    have hTx : va_P G vwCl (txW cs (sh a 17) (updZ T 0 (T 0 + 1)) lo hi_ (updZ X tl z)) H := (by rw [hT0] at hTx; rw [hT0]; exact hTx)
    refine lv_aload_n hx hb dX6_type_23 rfl (lv_at hl 0 rfl) ?_
    refine va_get (D := G) (ci := 6) (v := .ref ((sh a 17) 0)) (C := RX6) (T := TX6) (N := 6) hx hb hts hi6 hown hK.1 hXo 0 rfl rfl 3 (by decide) (hts (.fieldLink RX6 35 "SpriteLines" "text" "LSpriteLines$PixelText;") (by decide +kernel)) (fun _ h9 => h9) rfl dX6_type_24 ?_
    refine va_get (D := G) (ci := 2) (v := .int (zI ((updZ T 0 (T 0 + 1)) 0))) (C := RX2) (T := TX2) (N := 9) hx hb hts hi2 hown hK.1 hTx 0 rfl rfl 1 (by decide) (hts (.fieldLink RX6 82 "SpriteLines$PixelText" "length" "I") (by decide +kernel)) (fun _ h9 => h9) rfl dX6_type_27 ?_
    refine z_topi (b := tl + 1) (by rw [hT0]; exact updZ_s) ?_
    exact w_iret hx hb hr hlk dX6_type_30 hS (by rw [show typeF (S, (n, L), (tl, X), (k, V)) z = _ from by unfold typeF; rw [if_neg (show ¬ (60 ≤ tl) by omega)]]; exact ⟨rfl, ⟨F, Fl, Pt, U, Q, N, updZ T 0 (T 0 + 1), lo, hi_, o, R, ⟨tf_0 hTF (by omega), congrArg (fun y => y + 1) hT0⟩, ⟨ho, hRing⟩, hXo, hPs, hPv, hKp, hTx, hHi, hRg, hSn, hSw⟩⟩)
  · skip
    refine z_bipush (n := -3) hx hb dX6_type_12 (by decide) ?_
    exact w_iret hx hb hr hlk dX6_type_14 hS (by rw [show typeF (S, (n, L), (tl, X), (k, V)) z = _ from by unfold typeF; rw [if_pos (show 60 ≤ tl by omega)]]; exact ⟨rfl, ⟨F, Fl, Pt, U, Q, N, T, lo, hi_, o, R, ⟨hTF, hT0⟩, ⟨ho, hRing⟩, hXo, hPs, hPv, hKp, hTx, hHi, hRg, hSn, hSw⟩⟩)

set_option maxHeartbeats 4000000 in
set_option maxRecDepth 100000 in
theorem c_X6_clearText (l : Launch) (G : va_G) (cs : Nat → ClassId) (a w : Nat → Nat) (S : SS) (n : Int) (L : Nat → SS) (tl : Int) (X : Int → Int) (k : Nat → Bool) (V : Nat → SS)  (ia : Inj a 62) (hsd : SnD a w k) (hA : AWF (S, (n, L), (tl, X), (k, V))) : MW l yX6_clearText wsX6_clearText { frames := 0, cells := 0, slots := 0, locals := 0 } G cs [.ref (a 0)] (fun H => XI G cs a w (S, (n, L), (tl, X), (k, V)) H) (fun vv H => vv = .int (zI (clearF (S, (n, L), (tl, X), (k, V))).1) ∧ XI G cs a w (clearF (S, (n, L), (tl, X), (k, V))).2 H) (AX a 0 62) 0 0 := by
  refine m_intro (Pw := (fun H => XI G cs a w (S, (n, L), (tl, X), (k, V)) H)) (cc := cX6_clearText) (maxL := 2) (ret := some .int) RX6 (by decide) rfl rfl (Nat.le_of_ble_eq_true rfl) ?_
  intro pP eE sS mM below meth cC hx hb hr hts hown hml hlk hnm hPre hK ls hl
  have hl : lv_has ls 2 [(0, .ref (a 0))] := hl
  have hXI := hPre
  have hS : va_S (AX a 0 62) sS.heap sS.heap [] := va_S.rf
  have hi2 : ∀ w ∈ u_ws RX2 TX2 9, w ∈ wsX6_clearText := by decide +kernel
  have hi6 : ∀ w ∈ u_ws RX6 TX6 6, w ∈ wsX6_clearText := by decide +kernel
  obtain ⟨F, Fl, Pt, U, Q, N, T, lo, hi_, o, R, ⟨hTF, hT0⟩, ⟨ho, hRing⟩, hXo, hPs, hPv, hKp, hTx, hHi, hRg, hSn, hSw⟩ := hXI
  obtain ⟨wf, ⟨hn, hL9⟩, ⟨htl, hX⟩, hV9⟩ := hA
  have hT0 : T 0 = tl := hT0
  have hRing : ∀ i : Nat, (i : Int) < n → R ((o + i) % 5).toNat = L i := hRing
  have wf : WF S := wf
  have hn : 0 ≤ n ∧ n ≤ 5 := hn
  have htl : 0 ≤ tl ∧ tl ≤ 60 := htl
  have hX : ∀ j, 0 ≤ j → j < 60 → 0 ≤ X j ∧ X j < 65536 := hX
  have hXo : va_P G vwCl (xoW a) sS.heap := hXo
  have hPs : va_P G vwCl (stW cs (sh a 1) S) sS.heap := hPs
  have hPv : va_P G vwCl (viW cs (sh a 9) ((sh a 1) 0) (aI F) (cB Fl) (cB Pt)) sS.heap := hPv
  have hKp : va_P G vwCl (pkW cs (sh a 13) ((sh a 1) 0) (aI U) (aI Q) (aI N)) sS.heap := hKp
  have hTx : va_P G vwCl (txW cs (sh a 17) T lo hi_ X) sS.heap := hTx
  have hHi : va_P G vwCl (hiW cs (sh a 19) o n) sS.heap := hHi
  have hRg : ∀ i, i < 5 → va_P G vwCl (stW cs (sh a (21 + 8 * i)) (R i)) sS.heap := hRg
  have hSn : va_P G vwCl (snW cs (sh a 61) w k) sS.heap := hSn
  have hSw : ∀ i, i < 2 → k i = true → va_P G vwCl (stW cs (sh w (8 * i)) (V i)) sS.heap := hSw
  have wf0 := wf
  obtain ⟨w0, w1, w2, w3, w4, wP, wC, wS, wX⟩ := wf
  have ia1 := inj_sh (k := 1) (w := 8) ia (by decide)
  refine lv_aload_n hx hb dX6_clearText_0 rfl (lv_at hl 0 rfl) ?_
  refine va_get (D := G) (ci := 6) (v := .ref ((sh a 17) 0)) (C := RX6) (T := TX6) (N := 6) hx hb hts hi6 hown hK.1 hXo 0 rfl rfl 3 (by decide) (hts (.fieldLink RX6 35 "SpriteLines" "text" "LSpriteLines$PixelText;") (by decide +kernel)) (fun _ h9 => h9) rfl dX6_clearText_1 ?_
  refine va_get (D := G) (ci := 2) (v := .int (zI (T 0))) (C := RX2) (T := TX2) (N := 9) hx hb hts hi2 hown hK.1 hTx 0 rfl rfl 1 (by decide) (hts (.fieldLink RX6 82 "SpriteLines$PixelText" "length" "I") (by decide +kernel)) (fun _ h9 => h9) rfl dX6_clearText_4 ?_
  refine lv_istore_n (lv' := [(1, .int (zI (T 0))), (0, .ref (a 0))]) hx hb dX6_clearText_7 rfl hl (by decide) rfl (fun ls hl => ?_)
  refine lv_aload_n hx hb dX6_clearText_8 rfl (lv_at hl 1 rfl) ?_
  refine va_get (D := G) (ci := 6) (v := .ref ((sh a 17) 0)) (C := RX6) (T := TX6) (N := 6) hx hb hts hi6 hown hK.1 hXo 0 rfl rfl 3 (by decide) (hts (.fieldLink RX6 35 "SpriteLines" "text" "LSpriteLines$PixelText;") (by decide +kernel)) (fun _ h9 => h9) rfl dX6_clearText_9 ?_
  refine z_iconst (n := 0) hx hb dX6_clearText_12 ?_
  refine z_put (G := G) (ci := 2) (v := .int (zI 0)) (ty := .int) (C := RX2) (T := TX2) (N := 9) hx hb hts hi2 tyX2 tyX2_ok nmX2 hown hK.1 hTx (Ord.D (ordTx cs (sh a 17) T lo hi_ X) (inj_sh (w := 2) ia (by decide))) hS 0 rfl rfl 1 (by decide) (hts (.fieldLink RX6 82 "SpriteLines$PixelText" "length" "I") (by decide +kernel)) (fun _ h9 => h9) rfl (by decide +kernel) rfl rfl (Nat.le_of_ble_eq_true rfl) ⟨17, by decide, by decide, rfl⟩ dX6_clearText_13 (fun H locs hP1 hle hk hS => ?_)
  have hXo := keepO (ordXo a) hXo hk (fun j hj h3 => absurd (ia j 17 (by omega) (by omega) h3) (by omega))
  have hPs := keepO (ordSt cs (sh a 1) S) hPs hk (fun j hj h3 => absurd (ia (1 + j) 17 (by omega) (by omega) h3) (by omega))
  have hPv := keepO (ordVi cs (sh a 9) ((sh a 1) 0) (aI F) (cB Fl) (cB Pt)) hPv hk (fun j hj h3 => absurd (ia (9 + j) 17 (by omega) (by omega) h3) (by omega))
  have hKp := keepO (ordPk cs (sh a 13) ((sh a 1) 0) (aI U) (aI Q) (aI N)) hKp hk (fun j hj h3 => absurd (ia (13 + j) 17 (by omega) (by omega) h3) (by omega))
  have hHi := keepO (ordHi cs (sh a 19) o n) hHi hk (fun j hj h3 => absurd (ia (19 + j) 17 (by omega) (by omega) h3) (by omega))
  have hRg : ∀ i, i < 5 → va_P G vwCl (stW cs (sh a (21 + 8 * i)) (R i)) H := fun i hi => keepO (ordSt _ _ _) (hRg i hi) hk (fun j hj h3 => absurd (ia (21 + 8 * i + j) 17 (by omega) (by omega) h3) (by omega))
  have hSn := keepO (ordSn cs (sh a 61) w k) hSn hk (fun j hj h3 => absurd (ia (61 + j) 17 (by omega) (by omega) h3) (by omega))
  have hSw : ∀ i, i < 2 → k i = true → va_P G vwCl (stW cs (sh w (8 * i)) (V i)) H := fun i hi hk9 => keepO (ordSt _ _ _) (hSw i hi hk9) hk (fun j hj h3 => absurd h3.symm (hsd.1 17 i j (by omega) hi hj hk9))
  have hTx : va_P G vwCl (txW cs (sh a 17) (updZ T 0 0) lo hi_ X) H := hP1
  refine lv_iload_n hx hb dX6_clearText_16 rfl (lv_at hl 0 rfl) ?_
  exact w_iret hx hb hr hlk dX6_clearText_17 hS ⟨hT0 ▸ rfl, ⟨F, Fl, Pt, U, Q, N, updZ T 0 0, lo, hi_, o, R, ⟨tf_0 hTF (by decide), rfl⟩, ⟨ho, hRing⟩, hXo, hPs, hPv, hKp, hTx, hHi, hRg, hSn, hSw⟩⟩
