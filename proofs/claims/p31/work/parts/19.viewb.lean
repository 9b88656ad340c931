theorem palOn_r {S : SS} {q p_ : Int} (h : 0 ≤ S 3 q ∧ S 3 q ≤ S 4 q ∧ S 4 q ≤ 3) (hp : 0 ≤ p_ ∧ p_ ≤ 3) : 0 ≤ palOn S q p_ ∧ palOn S q p_ ≤ 3 := by
  unfold palOn
  split
  · omega
  · split <;> omega
theorem colI_r {S : SS} {q fr r : Int} (hn : 0 ≤ S 0 1) : colI S q fr r = -5 ∨ (0 ≤ colI S q fr r ∧ colI S q fr r < S 0 1 ∧ shownB S q fr (colI S q fr r) = true ∧ pixAt S (colI S q fr r) q r ≠ 0) := by
  unfold colI
  rcases ff_cases (fun x => shownB S q fr x && decide (pixAt S x q r ≠ 0)) 0 (S 0 1).toNat with ⟨j, h1, h2, h3, -, h5⟩ | ⟨-, h⟩
  · rw [h5]
    rw [Bool.and_eq_true, decide_eq_true_eq] at h3
    exact Or.inr ⟨h1, by omega, h3.1, h3.2⟩
  · exact Or.inl h
theorem colF_r {S : SS} (wf : WF S) {q fr r : Int} (hq : 0 ≤ q ∧ q < 32) : 0 ≤ colF S q fr r ∧ colF S q fr r ≤ 63 := by
  obtain ⟨w0, w1, w2, w3, w4, wP, wC, wS, wX⟩ := id wf
  unfold colF
  split
  · omega
  · rename_i h
    rcases colI_r (S := S) (q := q) (fr := fr) (r := r) w1.1 with h2 | ⟨h2, h3, -, -⟩
    · exact absurd h2 h
    · have q1 := wP _ h2 h3
      have q2 := pixAt_r wf (x := colI S q fr r) (q := q) (r := r) ⟨h2, h3⟩
      have q3 := palOn_r (wS q hq.1 hq.2) (p_ := S 1 (6 * colI S q fr r + 2)) (by omega)
      exact wC _ (by omega) (by omega)
theorem bits_sh {S : SS} {q fr z : Int} (h1 : 0 ≤ z) (h2 : z < S 0 1) : (decide (((z.toNat : Nat) : Int) < S 0 1) && shownB S q fr (z.toNat : Nat)) = shownB S q fr z := by
  rw [show ((z.toNat : Nat) : Int) = z by omega]
  simp [h2]
theorem wgt_t {S : SS} {q fr i : Int} (h : 0 ≤ i) (c : shownB S q fr i = true) : wgtN S q fr (i + 1).toNat = FP.fadd (wgtN S q fr i.toNat) (shareF S (S 1 (6 * i + 0))) := by
  obtain ⟨n, rfl⟩ := Int.eq_ofNat_of_zero_le h
  rw [show ((n : Int) + 1).toNat = n + 1 by omega, wgtN, if_pos c]
  rfl
theorem wgt_f {S : SS} {q fr i : Int} (h : 0 ≤ i) (c : shownB S q fr i = false) : wgtN S q fr (i + 1).toNat = wgtN S q fr i.toNat := by
  obtain ⟨n, rfl⟩ := Int.eq_ofNat_of_zero_le h
  rw [show ((n : Int) + 1).toNat = n + 1 by omega, wgtN, if_neg (by rw [c]; decide)]
  rfl
theorem sumN_s {f : Int → Int} {i : Int} (h : 0 ≤ i) : sumN f (i + 1).toNat = sumN f i.toNat + f i := by
  obtain ⟨n, rfl⟩ := Int.eq_ofNat_of_zero_le h
  rfl
set_option maxHeartbeats 4000000 in
set_option maxRecDepth 100000 in
theorem c_X5_pixelOf (l : Launch) (G : va_G) (cs : Nat → ClassId) (a : Nat → Nat) (S : SS) (F1 : Int → Int) (f2 f3 : Nat → Int32) (x q r : Int) (wf : WF S) (hx0 : 0 ≤ x ∧ x < S 0 1) (hq : 0 ≤ q ∧ q < 32) (hr0 : 0 ≤ r ∧ r < 32) : MRO l yX5_pixelOf wsX5_pixelOf { frames := 2, cells := 0, slots := 0, locals := 46 } G cs [.ref ((sh a 9) 0), .int (zI x), .int (zI q), .int (zI r)] (fun H => va_P G vwCl (stW cs (sh a 1) S) H ∧ va_P G vwCl (viW cs (sh a 9) ((sh a 1) 0) (aI F1) f2 f3) H) (.int (zI (pixAt S x q r))) := by
  refine m_intro (Pw := (fun H => va_P G vwCl (stW cs (sh a 1) S) H ∧ va_P G vwCl (viW cs (sh a 9) ((sh a 1) 0) (aI F1) f2 f3) H)) (cc := cX5_pixelOf) (maxL := 7) (ret := some .int) RX5 (by decide) rfl rfl (Nat.le_of_ble_eq_true rfl) ?_
  intro pP eE sS mM below meth cC hx hb hr hts hown hml hlk hnm hPre hK ls hl
  have hl : lv_has ls 7 [(0, .ref ((sh a 9) 0)), (1, .int (zI x)), (2, .int (zI q)), (3, .int (zI r))] := hl
  obtain ⟨hPs, hPv⟩ := hPre
  have hi4 : ∀ w ∈ u_ws RX4 TX4 9, w ∈ wsX5_pixelOf := by decide +kernel
  have hi5 : ∀ w ∈ u_ws RX5 TX5 4, w ∈ wsX5_pixelOf := by decide +kernel
  have wf0 := wf
  obtain ⟨w0, w1, w2, w3, w4, wP, wC, wS, wX⟩ := wf
  have q1 := wP x hx0.1 hx0.2
  refine lv_iload_n hx hb dX5_pixelOf_0 rfl (lv_at hl 2 rfl) ?_
  refine lv_aload_n hx hb dX5_pixelOf_1 rfl (lv_at hl 0 rfl) ?_
  refine va_get (D := G) (ci := 5) (v := .ref ((sh a 1) 0)) (C := RX5) (T := TX5) (N := 4) hx hb hts hi5 hown hK.1 hPv 0 rfl rfl 0 (by decide) (hts (.fieldLink RX5 21 "SpriteLines$View" "state" "LSpriteLines$State;") (by decide +kernel)) (fun _ h9 => h9) rfl dX5_pixelOf_2 ?_
  refine lv_iload_n hx hb dX5_pixelOf_5 rfl (lv_at hl 1 rfl) ?_
  refine z_iconst (n := 5) hx hb dX5_pixelOf_6 ?_
  refine z_ro (zrV (As := [.int (zI x), .int (zI 5)]) (rest := [.int (zI q)]) ⟨hx, hb, hml, hown, hts⟩ (c_X4_property l G cs (sh a 1) S x 5 (by omega) (by omega)) gX5_pixelOf_X4_property rfl qX4_property rfl rfl ⟨Nat.le_of_ble_eq_true rfl, Nat.le_of_ble_eq_true rfl⟩ hPs hK (va_recv hK.1 hPs (ci := 4) (q0 := 0) rfl rfl) hl.1 rfl (Nat.le_of_ble_eq_true rfl) dX5_pixelOf_7 ⟨Nat.le_of_ble_eq_true rfl, Nat.le_of_ble_eq_true rfl⟩) ?_
  refine z_isub hx hb dX5_pixelOf_10 ?_
  refine lv_istore (lv' := [(4, .int (zI (q - (S 1 (6 * x + 5))))), (0, .ref ((sh a 9) 0)), (1, .int (zI x)), (2, .int (zI q)), (3, .int (zI r))]) hx hb dX5_pixelOf_11 hl (by decide) rfl (fun ls hl => ?_)
  refine lv_iload_n hx hb dX5_pixelOf_13 rfl (lv_at hl 4 rfl) ?_
  refine lv_aload_n hx hb dX5_pixelOf_14 rfl (lv_at hl 1 rfl) ?_
  refine va_get (D := G) (ci := 5) (v := .ref ((sh a 1) 0)) (C := RX5) (T := TX5) (N := 4) hx hb hts hi5 hown hK.1 hPv 0 rfl rfl 0 (by decide) (hts (.fieldLink RX5 21 "SpriteLines$View" "state" "LSpriteLines$State;") (by decide +kernel)) (fun _ h9 => h9) rfl dX5_pixelOf_15 ?_
  refine lv_iload_n hx hb dX5_pixelOf_18 rfl (lv_at hl 2 rfl) ?_
  refine z_iconst (n := 4) hx hb dX5_pixelOf_19 ?_
  refine z_ro (zrV (As := [.int (zI x), .int (zI 4)]) (rest := [.int (zI r)]) ⟨hx, hb, hml, hown, hts⟩ (c_X4_property l G cs (sh a 1) S x 4 (by omega) (by omega)) gX5_pixelOf_X4_property rfl qX4_property rfl rfl ⟨Nat.le_of_ble_eq_true rfl, Nat.le_of_ble_eq_true rfl⟩ hPs hK (va_recv hK.1 hPs (ci := 4) (q0 := 0) rfl rfl) hl.1 rfl (Nat.le_of_ble_eq_true rfl) dX5_pixelOf_20 ⟨Nat.le_of_ble_eq_true rfl, Nat.le_of_ble_eq_true rfl⟩) ?_
  refine z_isub hx hb dX5_pixelOf_23 ?_
  refine lv_istore (lv' := [(5, .int (zI (r - (S 1 (6 * x + 4))))), (4, .int (zI (q - (S 1 (6 * x + 5))))), (0, .ref ((sh a 9) 0)), (1, .int (zI x)), (2, .int (zI q)), (3, .int (zI r))]) hx hb dX5_pixelOf_24 hl (by decide) rfl (fun ls hl => ?_)
  refine lv_iload hx hb dX5_pixelOf_26 (lv_at hl 1 rfl) ?_
  refine lv_iload hx hb dX5_pixelOf_28 (lv_at hl 0 rfl) ?_
  refine z_ro (zrSN (As := [.int (zI (q - (S 1 (6 * x + 5)))), .int (zI (r - (S 1 (6 * x + 4))))]) (rest := []) (Pw := fun _ => True) ⟨hx, hb, hml, hown, hts⟩ (c_X6_isNoPlaceInPart l G cs (q - (S 1 (6 * x + 5))) (r - (S 1 (6 * x + 4))) (by omega) (by omega)) gX5_pixelOf_X6_isNoPlaceInPart_n79 rfl hK.2.2.1 (hts (.initialized RX6) (by decide +kernel)) (hts (.static yX6_isNoPlaceInPart) (by decide +kernel)) qX6_isNoPlaceInPart.2 rfl rfl ⟨Nat.le_of_ble_eq_true rfl, Nat.le_of_ble_eq_true rfl⟩ trivial hK hl.1 rfl (Nat.le_of_ble_eq_true rfl) dX5_pixelOf_30 ⟨Nat.le_of_ble_eq_true rfl, Nat.le_of_ble_eq_true rfl⟩) ?_
  refine z_top (v' := .int (zI (b2 (!decide ((0 ≤ q - S 1 (6 * x + 5) ∧ q - S 1 (6 * x + 5) < 8) ∧ 0 ≤ r - S 1 (6 * x + 4) ∧ r - S 1 (6 * x + 4) < 8))))) (congrArg (fun z => Value.int (zI (b2 z))) noPl) ?_
  refine z_bif_eq (tgt := 38) hx hb dX5_pixelOf_33 (by decide) (fun c1 => ?_) (fun c1 => ?_)
  · skip
    have c2 : (0 ≤ q - S 1 (6 * x + 5) ∧ q - S 1 (6 * x + 5) < 8) ∧ 0 ≤ r - S 1 (6 * x + 4) ∧ r - S 1 (6 * x + 4) < 8 := by simpa using c1
    refine lv_aload_n hx hb dX5_pixelOf_38 rfl (lv_at hl 2 rfl) ?_
    refine va_get (D := G) (ci := 5) (v := .ref ((sh a 1) 0)) (C := RX5) (T := TX5) (N := 4) hx hb hts hi5 hown hK.1 hPv 0 rfl rfl 0 (by decide) (hts (.fieldLink RX5 21 "SpriteLines$View" "state" "LSpriteLines$State;") (by decide +kernel)) (fun _ h9 => h9) rfl dX5_pixelOf_39 ?_
    refine lv_iload_n hx hb dX5_pixelOf_42 rfl (lv_at hl 3 rfl) ?_
    refine z_iconst (n := 1) hx hb dX5_pixelOf_43 ?_
    refine z_ro (zrV (As := [.int (zI x), .int (zI 1)]) (rest := []) ⟨hx, hb, hml, hown, hts⟩ (c_X4_property l G cs (sh a 1) S x 1 (by omega) (by omega)) gX5_pixelOf_X4_property rfl qX4_property rfl rfl ⟨Nat.le_of_ble_eq_true rfl, Nat.le_of_ble_eq_true rfl⟩ hPs hK (va_recv hK.1 hPs (ci := 4) (q0 := 0) rfl rfl) hl.1 rfl (Nat.le_of_ble_eq_true rfl) dX5_pixelOf_44 ⟨Nat.le_of_ble_eq_true rfl, Nat.le_of_ble_eq_true rfl⟩) ?_
    refine lv_istore (lv' := [(6, .int (zI (S 1 (6 * x + 1)))), (5, .int (zI (r - (S 1 (6 * x + 4))))), (4, .int (zI (q - (S 1 (6 * x + 5))))), (0, .ref ((sh a 9) 0)), (1, .int (zI x)), (2, .int (zI q)), (3, .int (zI r))]) hx hb dX5_pixelOf_47 hl (by decide) rfl (fun ls hl => ?_)
    refine lv_aload_n hx hb dX5_pixelOf_49 rfl (lv_at hl 3 rfl) ?_
    refine va_get (D := G) (ci := 5) (v := .ref ((sh a 1) 0)) (C := RX5) (T := TX5) (N := 4) hx hb hts hi5 hown hK.1 hPv 0 rfl rfl 0 (by decide) (hts (.fieldLink RX5 21 "SpriteLines$View" "state" "LSpriteLines$State;") (by decide +kernel)) (fun _ h9 => h9) rfl dX5_pixelOf_50 ?_
    refine va_get (D := G) (ci := 4) (v := .ref ((sh a 1) 1)) (C := RX4) (T := TX4) (N := 9) hx hb hts hi4 hown hK.1 hPs 0 rfl rfl 4 (by decide) (hts (.fieldLink RX5 82 "SpriteLines$State" "sheet" "LSpriteLines$Sheet;") (by decide +kernel)) (fun _ h9 => h9) rfl dX5_pixelOf_53 ?_
    refine lv_aload_n hx hb dX5_pixelOf_56 rfl (lv_at hl 3 rfl) ?_
    refine va_get (D := G) (ci := 5) (v := .ref ((sh a 1) 0)) (C := RX5) (T := TX5) (N := 4) hx hb hts hi5 hown hK.1 hPv 0 rfl rfl 0 (by decide) (hts (.fieldLink RX5 21 "SpriteLines$View" "state" "LSpriteLines$State;") (by decide +kernel)) (fun _ h9 => h9) rfl dX5_pixelOf_57 ?_
    refine lv_iload_n hx hb dX5_pixelOf_60 rfl (lv_at hl 4 rfl) ?_
    refine z_iconst (n := 0) hx hb dX5_pixelOf_61 ?_
    refine z_ro (zrV (As := [.int (zI x), .int (zI 0)]) (rest := [.ref ((sh a 1) 1)]) ⟨hx, hb, hml, hown, hts⟩ (c_X4_property l G cs (sh a 1) S x 0 (by omega) (by omega)) gX5_pixelOf_X4_property rfl qX4_property rfl rfl ⟨Nat.le_of_ble_eq_true rfl, Nat.le_of_ble_eq_true rfl⟩ hPs hK (va_recv hK.1 hPs (ci := 4) (q0 := 0) rfl rfl) hl.1 rfl (Nat.le_of_ble_eq_true rfl) dX5_pixelOf_62 ⟨Nat.le_of_ble_eq_true rfl, Nat.le_of_ble_eq_true rfl⟩) ?_
    refine lv_iload hx hb dX5_pixelOf_65 (lv_at hl 0 rfl) ?_
    refine lv_iload hx hb dX5_pixelOf_67 (lv_at hl 2 rfl) ?_
    refine lv_iload hx hb dX5_pixelOf_69 (lv_at hl 1 rfl) ?_
    refine z_ro (zrV (As := [.int (zI (S 1 (6 * x + 0))), .int (zI (S 1 (6 * x + 1))), .int (zI (q - (S 1 (6 * x + 5)))), .int (zI (r - (S 1 (6 * x + 4))))]) (rest := []) ⟨hx, hb, hml, hown, hts⟩ (c_X3_pixelAt l G cs (sh a 1) S (S 1 (6 * x + 0)) (S 1 (6 * x + 1)) (q - (S 1 (6 * x + 5))) (r - (S 1 (6 * x + 4))) wf0 (by omega) (by omega) (by omega) (by omega)) gX5_pixelOf_X3_pixelAt rfl qX3_pixelAt rfl rfl ⟨Nat.le_of_ble_eq_true rfl, Nat.le_of_ble_eq_true rfl⟩ hPs hK (va_recv hK.1 hPs (ci := 3) (q0 := 1) rfl rfl) hl.1 rfl (Nat.le_of_ble_eq_true rfl) dX5_pixelOf_71 ⟨Nat.le_of_ble_eq_true rfl, Nat.le_of_ble_eq_true rfl⟩) ?_
    exact ro_iret hx hb hr hlk dX5_pixelOf_74 (congrArg (fun z => Value.int (zI z)) (by unfold pixAt; rw [if_pos c2]))
  · skip
    have c2 : ¬ ((0 ≤ q - S 1 (6 * x + 5) ∧ q - S 1 (6 * x + 5) < 8) ∧ 0 ≤ r - S 1 (6 * x + 4) ∧ r - S 1 (6 * x + 4) < 8) := by intro h9; rw [decide_eq_true h9] at c1; exact absurd c1 (by decide)
    refine z_iconst (n := 0) hx hb dX5_pixelOf_36 ?_
    exact ro_iret hx hb hr hlk dX5_pixelOf_37 (congrArg (fun z => Value.int (zI z)) (by unfold pixAt; rw [if_neg c2]))

set_option maxHeartbeats 4000000 in
set_option maxRecDepth 100000 in
theorem c_X5_colorAt (l : Launch) (G : va_G) (cs : Nat → ClassId) (a : Nat → Nat) (S : SS) (F1 : Int → Int) (f2 f3 : Nat → Int32) (q r fr : Int) (g : Nat → Bool) (wf : WF S) (hq : 0 ≤ q ∧ q < 32) (hr0 : 0 ≤ r ∧ r < 32) (hg : ∀ z : Int, 0 ≤ z → z < S 0 1 → g z.toNat = shownB S q fr z) : MRO l yX5_colorAt wsX5_colorAt { frames := 3, cells := 0, slots := 0, locals := 72 } G cs [.ref ((sh a 9) 0), .int (zI q), .int (zI r), .int (iB g)] (fun H => va_P G vwCl (stW cs (sh a 1) S) H ∧ va_P G vwCl (viW cs (sh a 9) ((sh a 1) 0) (aI F1) f2 f3) H) (.int (zI (colF S q fr r))) := by
  refine m_intro (Pw := (fun H => va_P G vwCl (stW cs (sh a 1) S) H ∧ va_P G vwCl (viW cs (sh a 9) ((sh a 1) 0) (aI F1) f2 f3) H)) (cc := cX5_colorAt) (maxL := 7) (ret := some .int) RX5 (by decide) rfl rfl (Nat.le_of_ble_eq_true rfl) ?_
  intro pP eE sS mM below meth cC hx hb hr hts hown hml hlk hnm hPre hK ls hl
  have hl : lv_has ls 7 [(0, .ref ((sh a 9) 0)), (1, .int (zI q)), (2, .int (zI r)), (3, .int (iB g))] := hl
  obtain ⟨hPs, hPv⟩ := hPre
  have hi4 : ∀ w ∈ u_ws RX4 TX4 9, w ∈ wsX5_colorAt := by decide +kernel
  have hi5 : ∀ w ∈ u_ws RX5 TX5 4, w ∈ wsX5_colorAt := by decide +kernel
  have wf0 := wf
  obtain ⟨w0, w1, w2, w3, w4, wP, wC, wS, wX⟩ := wf
  refine z_iconst (n := 0) hx hb dX5_colorAt_0 ?_
  refine lv_istore (lv' := [(4, .int (zI 0)), (0, .ref ((sh a 9) 0)), (1, .int (zI q)), (2, .int (zI r)), (3, .int (iB g))]) hx hb dX5_colorAt_1 hl (by decide) rfl (fun ls hl => ?_)
  -- loop 3
  refine z_loop (nL := 7) (fun (i : Int) => [(0, .ref ((sh a 9) 0)), (1, .int (zI q)), (2, .int (zI r)), (3, .int (iB g)), (4, .int (zI i))]) (fun (i : Int) => (0 ≤ i ∧ i ≤ S 0 1) ∧ ∀ j, 0 ≤ j → j < i → (shownB S q fr j && decide (pixAt S j q r ≠ 0)) = false) (fun (i : Int) => (S 0 1 - i).toNat) 0 ⟨by omega, fun j h1 h2 => by omega⟩ (lv_sub hl [1, 2, 3, 4, 0] rfl) (fun i hI ih ls hl => ?_)
  have hl : lv_has ls 7 [(0, .ref ((sh a 9) 0)), (1, .int (zI q)), (2, .int (zI r)), (3, .int (iB g)), (4, .int (zI i))] := hl
  obtain ⟨hI, hJ⟩ := hI
  refine lv_iload hx hb dX5_colorAt_3 (lv_at hl 4 rfl) ?_
  refine lv_aload_n hx hb dX5_colorAt_5 rfl (lv_at hl 0 rfl) ?_
  refine va_get (D := G) (ci := 5) (v := .ref ((sh a 1) 0)) (C := RX5) (T := TX5) (N := 4) hx hb hts hi5 hown hK.1 hPv 0 rfl rfl 0 (by decide) (hts (.fieldLink RX5 21 "SpriteLines$View" "state" "LSpriteLines$State;") (by decide +kernel)) (fun _ h9 => h9) rfl dX5_colorAt_6 ?_
  refine va_get (D := G) (ci := 4) (v := .int (zI (S 0 1))) (C := RX4) (T := TX4) (N := 9) hx hb hts hi4 hown hK.1 hPs 0 rfl rfl 3 (by decide) (hts (.fieldLink RX5 25 "SpriteLines$State" "sprites" "I") (by decide +kernel)) (fun _ h9 => h9) rfl dX5_colorAt_9 ?_
  refine z_icmp_ge (tgt := 77) hx hb dX5_colorAt_12 (by decide) (by omega) (by omega) (fun c1 => ?_) (fun c1 => ?_)
  · skip
    refine z_iconst (n := 0) hx hb dX5_colorAt_77 ?_
    exact ro_iret hx hb hr hlk dX5_colorAt_78 (congrArg (fun z => Value.int (zI z)) (by unfold colF; rw [if_pos]; exact ff_none (fun j h1 h2 => hJ j h1 (by omega))))
  · skip
    refine lv_iload_n hx hb dX5_colorAt_15 rfl (lv_at hl 3 rfl) ?_
    refine lv_iload hx hb dX5_colorAt_16 (lv_at hl 4 rfl) ?_
    refine z_ro (zrSN (As := [.int (iB g), .int (zI i)]) (rest := []) (Pw := fun _ => True) ⟨hx, hb, hml, hown, hts⟩ (c_X6_contains l G cs g i (by omega)) gX5_colorAt_X6_contains_n63 rfl hK.2.1 (hts (.initialized RX6) (by decide +kernel)) (hts (.static yX6_contains) (by decide +kernel)) qX6_contains.2 rfl rfl ⟨Nat.le_of_ble_eq_true rfl, Nat.le_of_ble_eq_true rfl⟩ trivial hK hl.1 rfl (Nat.le_of_ble_eq_true rfl) dX5_colorAt_18 ⟨Nat.le_of_ble_eq_true rfl, Nat.le_of_ble_eq_true rfl⟩) ?_
    refine z_bif_eq (tgt := 71) hx hb dX5_colorAt_21 (by decide) (fun c2 => ?_) (fun c2 => ?_)
    · skip
      refine z_iinc (k := 4) (lv' := [(4, .int (zI (i + 1))), (0, .ref ((sh a 9) 0)), (1, .int (zI q)), (2, .int (zI r)), (3, .int (iB g))]) hx hb dX5_colorAt_71 hl rfl (by decide) rfl (fun ls hl => ?_)
      refine lv_goto (tgt := 3) hx hb dX5_colorAt_74 (by decide) ?_
      exact ih (i + 1) ⟨by omega, fun j q1 q2 => by
      by_cases e : j = i
      · subst e; rw [← hg j q1 (by omega), c2]; rfl
      · exact hJ j q1 (by omega)⟩ (by omega) ls (lv_sub hl [1, 2, 3, 4, 0] rfl)
    · skip
      refine lv_aload_n hx hb dX5_colorAt_24 rfl (lv_at hl 0 rfl) ?_
      refine lv_iload hx hb dX5_colorAt_25 (lv_at hl 4 rfl) ?_
      refine lv_iload_n hx hb dX5_colorAt_27 rfl (lv_at hl 1 rfl) ?_
      refine lv_iload_n hx hb dX5_colorAt_28 rfl (lv_at hl 2 rfl) ?_
      refine z_ro (zrV (As := [.int (zI i), .int (zI q), .int (zI r)]) (rest := []) (Pw := fun H => va_P G vwCl (stW cs (sh a 1) S) H ∧ va_P G vwCl (viW cs (sh a 9) ((sh a 1) 0) (aI F1) f2 f3) H) ⟨hx, hb, hml, hown, hts⟩ (c_X5_pixelOf l G cs a S F1 f2 f3 i q r wf0 (by omega) (by omega) (by omega)) gX5_colorAt_X5_pixelOf rfl qX5_pixelOf rfl rfl ⟨Nat.le_of_ble_eq_true rfl, Nat.le_of_ble_eq_true rfl⟩ ⟨hPs, hPv⟩ hK (va_recv hK.1 hPv (ci := 5) (q0 := 0) rfl rfl) hl.1 rfl (Nat.le_of_ble_eq_true rfl) dX5_colorAt_29 ⟨Nat.le_of_ble_eq_true rfl, Nat.le_of_ble_eq_true rfl⟩) ?_
      refine lv_istore (lv' := [(5, .int (zI (pixAt S i q r))), (0, .ref ((sh a 9) 0)), (1, .int (zI q)), (2, .int (zI r)), (3, .int (iB g)), (4, .int (zI i))]) hx hb dX5_colorAt_32 hl (by decide) rfl (fun ls hl => ?_)
      refine lv_iload hx hb dX5_colorAt_34 (lv_at hl 0 rfl) ?_
      refine z_if_eq (tgt := 71) hx hb dX5_colorAt_36 (by decide) (by have := pixAt_r (q := q) (r := r) wf0 (x := i) (by omega); omega) (fun c3 => ?_) (fun c3 => ?_)
      · skip
        refine z_iinc (k := 5) (lv' := [(4, .int (zI (i + 1))), (5, .int (zI (pixAt S i q r))), (0, .ref ((sh a 9) 0)), (1, .int (zI q)), (2, .int (zI r)), (3, .int (iB g))]) hx hb dX5_colorAt_71 hl rfl (by decide) rfl (fun ls hl => ?_)
        refine lv_goto (tgt := 3) hx hb dX5_colorAt_74 (by decide) ?_
        exact ih (i + 1) ⟨by omega, fun j q1 q2 => by
      by_cases e : j = i
      · subst e; simp [c3]
      · exact hJ j q1 (by omega)⟩ (by omega) ls (lv_sub hl [2, 3, 4, 5, 0] rfl)
      · skip
        have q1 := wP i hI.1 (by omega)
        have hpx := pixAt_r (q := q) (r := r) wf0 (x := i) (by omega)
        have hpo := palOn_r (wS q hq.1 hq.2) (p_ := S 1 (6 * i + 2)) (by omega)
        have hci : colI S q fr r = i := ff_hit i (fun j h1 h2 => hJ j h1 h2) hI.1 (by omega) (by rw [← hg i hI.1 (by omega), c2]; simp [c3])
        refine lv_aload_n hx hb dX5_colorAt_39 rfl (lv_at hl 1 rfl) ?_
        refine va_get (D := G) (ci := 5) (v := .ref ((sh a 1) 0)) (C := RX5) (T := TX5) (N := 4) hx hb hts hi5 hown hK.1 hPv 0 rfl rfl 0 (by decide) (hts (.fieldLink RX5 21 "SpriteLines$View" "state" "LSpriteLines$State;") (by decide +kernel)) (fun _ h9 => h9) rfl dX5_colorAt_40 ?_
        refine lv_iload hx hb dX5_colorAt_43 (lv_at hl 5 rfl) ?_
        refine z_iconst (n := 2) hx hb dX5_colorAt_45 ?_
        refine z_ro (zrV (As := [.int (zI i), .int (zI 2)]) (rest := []) ⟨hx, hb, hml, hown, hts⟩ (c_X4_property l G cs (sh a 1) S i 2 (by omega) (by omega)) gX5_colorAt_X4_property rfl qX4_property rfl rfl ⟨Nat.le_of_ble_eq_true rfl, Nat.le_of_ble_eq_true rfl⟩ hPs hK (va_recv hK.1 hPs (ci := 4) (q0 := 0) rfl rfl) hl.1 rfl (Nat.le_of_ble_eq_true rfl) dX5_colorAt_46 ⟨Nat.le_of_ble_eq_true rfl, Nat.le_of_ble_eq_true rfl⟩) ?_
        refine lv_istore (lv' := [(6, .int (zI (S 1 (6 * i + 2)))), (5, .int (zI (pixAt S i q r))), (0, .ref ((sh a 9) 0)), (1, .int (zI q)), (2, .int (zI r)), (3, .int (iB g)), (4, .int (zI i))]) hx hb dX5_colorAt_49 hl (by decide) rfl (fun ls hl => ?_)
        refine lv_aload_n hx hb dX5_colorAt_51 rfl (lv_at hl 2 rfl) ?_
        refine va_get (D := G) (ci := 5) (v := .ref ((sh a 1) 0)) (C := RX5) (T := TX5) (N := 4) hx hb hts hi5 hown hK.1 hPv 0 rfl rfl 0 (by decide) (hts (.fieldLink RX5 21 "SpriteLines$View" "state" "LSpriteLines$State;") (by decide +kernel)) (fun _ h9 => h9) rfl dX5_colorAt_52 ?_
        refine lv_aload_n hx hb dX5_colorAt_55 rfl (lv_at hl 2 rfl) ?_
        refine va_get (D := G) (ci := 5) (v := .ref ((sh a 1) 0)) (C := RX5) (T := TX5) (N := 4) hx hb hts hi5 hown hK.1 hPv 0 rfl rfl 0 (by decide) (hts (.fieldLink RX5 21 "SpriteLines$View" "state" "LSpriteLines$State;") (by decide +kernel)) (fun _ h9 => h9) rfl dX5_colorAt_56 ?_
        refine lv_iload hx hb dX5_colorAt_59 (lv_at hl 0 rfl) ?_
        refine lv_iload_n hx hb dX5_colorAt_61 rfl (lv_at hl 3 rfl) ?_
        refine z_ro (zrV (As := [.int (zI (S 1 (6 * i + 2))), .int (zI q)]) (rest := [.ref ((sh a 1) 0)]) ⟨hx, hb, hml, hown, hts⟩ (c_X4_paletteOnLine l G cs (sh a 1) S (S 1 (6 * i + 2)) q wf0 (by omega) (by omega)) gX5_colorAt_X4_paletteOnLine rfl qX4_paletteOnLine rfl rfl ⟨Nat.le_of_ble_eq_true rfl, Nat.le_of_ble_eq_true rfl⟩ hPs hK (va_recv hK.1 hPs (ci := 4) (q0 := 0) rfl rfl) hl.1 rfl (Nat.le_of_ble_eq_true rfl) dX5_colorAt_62 ⟨Nat.le_of_ble_eq_true rfl, Nat.le_of_ble_eq_true rfl⟩) ?_
        refine lv_iload hx hb dX5_colorAt_65 (lv_at hl 1 rfl) ?_
        refine z_ro (zrV (As := [.int (zI (palOn S q (S 1 (6 * i + 2)))), .int (zI (pixAt S i q r))]) (rest := []) ⟨hx, hb, hml, hown, hts⟩ (c_X4_colorOf l G cs (sh a 1) S (palOn S q (S 1 (6 * i + 2))) (pixAt S i q r) (by omega) (by omega)) gX5_colorAt_X4_colorOf rfl qX4_colorOf rfl rfl ⟨Nat.le_of_ble_eq_true rfl, Nat.le_of_ble_eq_true rfl⟩ hPs hK (va_recv hK.1 hPs (ci := 4) (q0 := 0) rfl rfl) hl.1 rfl (Nat.le_of_ble_eq_true rfl) dX5_colorAt_67 ⟨Nat.le_of_ble_eq_true rfl, Nat.le_of_ble_eq_true rfl⟩) ?_
        exact ro_iret hx hb hr hlk dX5_colorAt_70 (congrArg (fun z => Value.int (zI z)) (by unfold colF; rw [hci, if_neg (by omega)]))

set_option maxHeartbeats 4000000 in
set_option maxRecDepth 100000 in
theorem c_X5_countColored (l : Launch) (G : va_G) (cs : Nat → ClassId) (a : Nat → Nat) (S : SS) (F1 : Int → Int) (f2 f3 : Nat → Int32) (q : Int) (ia : Inj a 62) (wf : WF S) (hq : 0 ≤ q ∧ q < 32) : MW l yX5_countColored wsX5_countColored { frames := 4, cells := 0, slots := 0, locals := 99 } G cs [.ref ((sh a 9) 0), .int (zI q)] (fun H => va_P G vwCl (stW cs (sh a 1) S) H ∧ va_P G vwCl (viW cs (sh a 9) ((sh a 1) 0) (aI F1) f2 f3) H) (fun v H => ∃ F, v = .int (zI (cntI (fun r => decide (colF S q (S 0 4) r ≠ 0)) 32)) ∧ va_P G vwCl (viW cs (sh a 9) ((sh a 1) 0) (aI F) f2 f3) H) (AX a 10 11) 0 0 := by
  refine m_intro (Pw := (fun H => va_P G vwCl (stW cs (sh a 1) S) H ∧ va_P G vwCl (viW cs (sh a 9) ((sh a 1) 0) (aI F1) f2 f3) H)) (cc := cX5_countColored) (maxL := 5) (ret := some .int) RX5 (by decide) rfl rfl (Nat.le_of_ble_eq_true rfl) ?_
  intro pP eE sS mM below meth cC hx hb hr hts hown hml hlk hnm hPre hK ls hl
  have hl : lv_has ls 5 [(0, .ref ((sh a 9) 0)), (1, .int (zI q))] := hl
  obtain ⟨hPs, hPv⟩ := hPre
  have hS : va_S (AX a 10 11) sS.heap sS.heap [] := va_S.rf
  have hi4 : ∀ w ∈ u_ws RX4 TX4 9, w ∈ wsX5_countColored := by decide +kernel
  have hi5 : ∀ w ∈ u_ws RX5 TX5 4, w ∈ wsX5_countColored := by decide +kernel
  have wf0 := wf
  obtain ⟨w0, w1, w2, w3, w4, wP, wC, wS, wX⟩ := wf
  refine lv_aload_n hx hb dX5_countColored_0 rfl (lv_at hl 0 rfl) ?_
  refine lv_iload_n hx hb dX5_countColored_1 rfl (lv_at hl 1 rfl) ?_
  refine lv_aload_n hx hb dX5_countColored_2 rfl (lv_at hl 0 rfl) ?_
  refine va_get (D := G) (ci := 5) (v := .ref ((sh a 1) 0)) (C := RX5) (T := TX5) (N := 4) hx hb hts hi5 hown hK.1 hPv 0 rfl rfl 0 (by decide) (hts (.fieldLink RX5 21 "SpriteLines$View" "state" "LSpriteLines$State;") (by decide +kernel)) (fun _ h9 => h9) rfl dX5_countColored_3 ?_
  refine va_get (D := G) (ci := 4) (v := .int (zI (S 0 4))) (C := RX4) (T := TX4) (N := 9) hx hb hts hi4 hown hK.1 hPs 0 rfl rfl 0 (by decide) (hts (.fieldLink RX5 54 "SpriteLines$State" "frame" "I") (by decide +kernel)) (fun _ h9 => h9) rfl dX5_countColored_6 ?_
  refine z_w (zrV (As := [.int (zI q), .int (zI (S 0 4))]) (rest := []) (Pw := fun H => va_P G vwCl (stW cs (sh a 1) S) H ∧ va_P G vwCl (viW cs (sh a 9) ((sh a 1) 0) (aI F1) f2 f3) H) ⟨hx, hb, hml, hown, hts⟩ (c_X5_shownSet l G cs a S F1 f2 f3 q (S 0 4) ia wf0 (by omega) (by omega)) gX5_countColored_X5_shownSet rfl qX5_shownSet rfl rfl ⟨Nat.le_of_ble_eq_true rfl, Nat.le_of_ble_eq_true rfl⟩ ⟨hPs, hPv⟩ hK (va_recv hK.1 hPv (ci := 5) (q0 := 0) rfl rfl) hl.1 rfl (Nat.le_of_ble_eq_true rfl) dX5_countColored_9 ⟨Nat.le_of_ble_eq_true rfl, Nat.le_of_ble_eq_true rfl⟩) hS (fun q h => ax_mono h (by decide) (by decide)) (fun q h => ax_mono h (by decide) (by decide)) (fun v H locs hpost hle hk hS => ?_)
  obtain ⟨F, rfl, hPv'⟩ := hpost
  have hPs := keepO (ordSt cs (sh a 1) S) hPs hk (fun j hj ⟨i, h1, h2, h3⟩ => absurd (ia (1 + j) i (by omega) (by omega) h3) (by omega))
  have hPv : va_P G vwCl (viW cs (sh a 9) ((sh a 1) 0) (aI F) f2 f3) H := hPv'
  refine lv_istore_n (lv' := [(2, .int (iB (fun k => decide ((k : Int) < S 0 1) && shownB S q (S 0 4) k))), (0, .ref ((sh a 9) 0)), (1, .int (zI q))]) hx hb dX5_countColored_12 rfl hl (by decide) rfl (fun ls hl => ?_)
  refine z_iconst (n := 0) hx hb dX5_countColored_13 ?_
  refine lv_istore_n (lv' := [(3, .int (zI 0)), (2, .int (iB (fun k => decide ((k : Int) < S 0 1) && shownB S q (S 0 4) k))), (0, .ref ((sh a 9) 0)), (1, .int (zI q))]) hx hb dX5_countColored_14 rfl hl (by decide) rfl (fun ls hl => ?_)
  refine z_iconst (n := 0) hx hb dX5_countColored_15 ?_
  refine lv_istore (lv' := [(4, .int (zI 0)), (3, .int (zI 0)), (2, .int (iB (fun k => decide ((k : Int) < S 0 1) && shownB S q (S 0 4) k))), (0, .ref ((sh a 9) 0)), (1, .int (zI q))]) hx hb dX5_countColored_16 hl (by decide) rfl (fun ls hl => ?_)
  -- loop 18
  refine z_loop (nL := 5) (fun (i : Int) => [(0, .ref ((sh a 9) 0)), (1, .int (zI q)), (2, .int (iB (fun k => decide ((k : Int) < S 0 1) && shownB S q (S 0 4) k))), (3, .int (zI (cntI (fun r => decide (colF S q (S 0 4) r ≠ 0)) i))), (4, .int (zI i))]) (fun (i : Int) => 0 ≤ i ∧ i ≤ 32) (fun (i : Int) => (32 - i).toNat) 0 (by omega) (lv_sub hl [3, 4, 2, 1, 0] rfl) (fun i hI ih ls hl => ?_)
  have hl : lv_has ls 5 [(0, .ref ((sh a 9) 0)), (1, .int (zI q)), (2, .int (iB (fun k => decide ((k : Int) < S 0 1) && shownB S q (S 0 4) k))), (3, .int (zI (cntI (fun r => decide (colF S q (S 0 4) r ≠ 0)) i))), (4, .int (zI i))] := hl
  have hc := cntI_r (fun r => decide (colF S q (S 0 4) r ≠ 0)) hI.1
  refine lv_iload hx hb dX5_countColored_18 (lv_at hl 4 rfl) ?_
  refine z_bipush (n := 32) hx hb dX5_countColored_20 (by decide) ?_
  refine z_icmp_ge (tgt := 45) hx hb dX5_countColored_22 (by decide) (by omega) (by omega) (fun c1 => ?_) (fun c1 => ?_)
  · skip
    refine lv_iload_n hx hb dX5_countColored_45 rfl (lv_at hl 3 rfl) ?_
    exact w_iret hx hb hr hlk dX5_countColored_46 hS ⟨F, by rw [show i = 32 by omega], hPv⟩
  · skip
    refine lv_aload_n hx hb dX5_countColored_25 rfl (lv_at hl 0 rfl) ?_
    refine lv_iload_n hx hb dX5_countColored_26 rfl (lv_at hl 1 rfl) ?_
    refine lv_iload hx hb dX5_countColored_27 (lv_at hl 4 rfl) ?_
    refine lv_iload_n hx hb dX5_countColored_29 rfl (lv_at hl 2 rfl) ?_
    refine z_ro (zrV (As := [.int (zI q), .int (zI i), .int (iB (fun k => decide ((k : Int) < S 0 1) && shownB S q (S 0 4) k))]) (rest := []) (Pw := fun H => va_P G vwCl (stW cs (sh a 1) S) H ∧ va_P G vwCl (viW cs (sh a 9) ((sh a 1) 0) (aI F) f2 f3) H) ⟨hx, hb, hml, hown, hts⟩ (c_X5_colorAt l G cs a S F f2 f3 q i (S 0 4) (fun k => decide ((k : Int) < S 0 1) && shownB S q (S 0 4) k) wf0 (by omega) (by omega) (fun z h1 h2 => bits_sh h1 h2)) gX5_countColored_X5_colorAt rfl qX5_colorAt rfl rfl ⟨Nat.le_of_ble_eq_true rfl, Nat.le_of_ble_eq_true rfl⟩ ⟨hPs, hPv⟩ hK (va_recv hK.1 hPv (ci := 5) (q0 := 0) rfl rfl) hl.1 rfl (Nat.le_of_ble_eq_true rfl) dX5_countColored_30 ⟨Nat.le_of_ble_eq_true rfl, Nat.le_of_ble_eq_true rfl⟩) ?_
    refine z_if_eq (tgt := 39) hx hb dX5_countColored_33 (by decide) (by have := colF_r wf0 (fr := S 0 4) (q := q) (r := i) hq; omega) (fun c2 => ?_) (fun c2 => ?_)
    · skip
      refine z_iinc (k := 4) (lv' := [(4, .int (zI (i + 1))), (0, .ref ((sh a 9) 0)), (1, .int (zI q)), (2, .int (iB (fun k => decide ((k : Int) < S 0 1) && shownB S q (S 0 4) k))), (3, .int (zI (cntI (fun r => decide (colF S q (S 0 4) r ≠ 0)) i)))]) hx hb dX5_countColored_39 hl rfl (by decide) rfl (fun ls hl => ?_)
      refine lv_goto (tgt := 18) hx hb dX5_countColored_42 (by decide) ?_
      exact ih (i + 1) (by omega) (by omega) ls (by show lv_has ls 5 [(0, .ref ((sh a 9) 0)), (1, .int (zI q)), (2, .int (iB (fun k => decide ((k : Int) < S 0 1) && shownB S q (S 0 4) k))), (3, .int (zI (cntI (fun r => decide (colF S q (S 0 4) r ≠ 0)) (i + 1)))), (4, .int (zI (i + 1)))]; rw [cntI_f (f := fun r => decide (colF S q (S 0 4) r ≠ 0)) hI.1 (by simp [c2])]; exact lv_sub hl [1, 2, 3, 4, 0] rfl)
    · skip
      refine z_iinc (k := 3) (lv' := [(3, .int (zI ((cntI (fun r => decide (colF S q (S 0 4) r ≠ 0)) i) + 1))), (0, .ref ((sh a 9) 0)), (1, .int (zI q)), (2, .int (iB (fun k => decide ((k : Int) < S 0 1) && shownB S q (S 0 4) k))), (4, .int (zI i))]) hx hb dX5_countColored_36 hl rfl (by decide) rfl (fun ls hl => ?_)
      refine z_iinc (k := 4) (lv' := [(4, .int (zI (i + 1))), (3, .int (zI ((cntI (fun r => decide (colF S q (S 0 4) r ≠ 0)) i) + 1))), (0, .ref ((sh a 9) 0)), (1, .int (zI q)), (2, .int (iB (fun k => decide ((k : Int) < S 0 1) && shownB S q (S 0 4) k)))]) hx hb dX5_countColored_39 hl rfl (by decide) rfl (fun ls hl => ?_)
      refine lv_goto (tgt := 18) hx hb dX5_countColored_42 (by decide) ?_
      exact ih (i + 1) (by omega) (by omega) ls (by show lv_has ls 5 [(0, .ref ((sh a 9) 0)), (1, .int (zI q)), (2, .int (iB (fun k => decide ((k : Int) < S 0 1) && shownB S q (S 0 4) k))), (3, .int (zI (cntI (fun r => decide (colF S q (S 0 4) r ≠ 0)) (i + 1)))), (4, .int (zI (i + 1)))]; rw [cntI_t (f := fun r => decide (colF S q (S 0 4) r ≠ 0)) hI.1 (by simp [c2])]; exact lv_sub hl [2, 3, 4, 1, 0] rfl)

set_option maxHeartbeats 4000000 in
set_option maxRecDepth 100000 in
theorem c_X5_linesShowing (l : Launch) (G : va_G) (cs : Nat → ClassId) (a : Nat → Nat) (S : SS) (F1 : Int → Int) (f2 f3 : Nat → Int32) (x : Int) (ia : Inj a 62) (wf : WF S) (hx0 : 0 ≤ x ∧ x < S 0 1) : MW l yX5_linesShowing wsX5_linesShowing { frames := 4, cells := 0, slots := 0, locals := 99 } G cs [.ref ((sh a 9) 0), .int (zI x)] (fun H => va_P G vwCl (stW cs (sh a 1) S) H ∧ va_P G vwCl (viW cs (sh a 9) ((sh a 1) 0) (aI F1) f2 f3) H) (fun v H => ∃ F, v = .int (zI (cntI (fun q => shownB S q (S 0 4) x) 32)) ∧ va_P G vwCl (viW cs (sh a 9) ((sh a 1) 0) (aI F) f2 f3) H) (AX a 10 11) 0 0 := by
  refine m_intro (Pw := (fun H => va_P G vwCl (stW cs (sh a 1) S) H ∧ va_P G vwCl (viW cs (sh a 9) ((sh a 1) 0) (aI F1) f2 f3) H)) (cc := cX5_linesShowing) (maxL := 4) (ret := some .int) RX5 (by decide) rfl rfl (Nat.le_of_ble_eq_true rfl) ?_
  intro pP eE sS mM below meth cC hx hb hr hts hown hml hlk hnm hPre hK ls hl
  have hl : lv_has ls 4 [(0, .ref ((sh a 9) 0)), (1, .int (zI x))] := hl
  obtain ⟨hPs, hPv⟩ := hPre
  have hS : va_S (AX a 10 11) sS.heap sS.heap [] := va_S.rf
  have hi4 : ∀ w ∈ u_ws RX4 TX4 9, w ∈ wsX5_linesShowing := by decide +kernel
  have hi5 : ∀ w ∈ u_ws RX5 TX5 4, w ∈ wsX5_linesShowing := by decide +kernel
  have wf0 := wf
  obtain ⟨w0, w1, w2, w3, w4, wP, wC, wS, wX⟩ := wf
  refine z_iconst (n := 0) hx hb dX5_linesShowing_0 ?_
  refine lv_istore_n (lv' := [(2, .int (zI 0)), (0, .ref ((sh a 9) 0)), (1, .int (zI x))]) hx hb dX5_linesShowing_1 rfl hl (by decide) rfl (fun ls hl => ?_)
  refine z_iconst (n := 0) hx hb dX5_linesShowing_2 ?_
  refine lv_istore_n (lv' := [(3, .int (zI 0)), (2, .int (zI 0)), (0, .ref ((sh a 9) 0)), (1, .int (zI x))]) hx hb dX5_linesShowing_3 rfl hl (by decide) rfl (fun ls hl => ?_)
  -- loop 4
  refine z_loopH (nL := 4) (fun ((i, F) : Int × (Int → Int)) => [(0, .ref ((sh a 9) 0)), (1, .int (zI x)), (2, .int (zI (cntI (fun q => shownB S q (S 0 4) x) i))), (3, .int (zI i))]) (fun ((i, F) : Int × (Int → Int)) (H : Heap) => (0 ≤ i ∧ i ≤ 32) ∧ va_P G vwCl (stW cs (sh a 1) S) H ∧ va_P G vwCl (viW cs (sh a 9) ((sh a 1) 0) (aI F) f2 f3) H) (fun ((i, F) : Int × (Int → Int)) => (32 - i).toNat) (0, F1) ⟨(by omega), hPs, hPv⟩ hS (lv_sub hl [2, 3, 1, 0] rfl) (fun x_ H locs hIH hS ih ls hl => ?_)
  obtain ⟨i, F⟩ := x_
  obtain ⟨hI, hPs, hPv⟩ := hIH
  have hI : 0 ≤ i ∧ i ≤ 32 := hI
  have hPs : va_P G vwCl (stW cs (sh a 1) S) H := hPs
  have hPv : va_P G vwCl (viW cs (sh a 9) ((sh a 1) 0) (aI F) f2 f3) H := hPv
  have hl : lv_has ls 4 [(0, .ref ((sh a 9) 0)), (1, .int (zI x)), (2, .int (zI (cntI (fun q => shownB S q (S 0 4) x) i))), (3, .int (zI i))] := hl
  have hc := cntI_r (fun q => shownB S q (S 0 4) x) hI.1
  refine lv_iload_n hx hb dX5_linesShowing_4 rfl (lv_at hl 3 rfl) ?_
  refine z_bipush (n := 32) hx hb dX5_linesShowing_5 (by decide) ?_
  refine z_icmp_ge (tgt := 50) hx hb dX5_linesShowing_7 (by decide) (by omega) (by omega) (fun c1 => ?_) (fun c1 => ?_)
  · skip
    refine lv_iload_n hx hb dX5_linesShowing_50 rfl (lv_at hl 2 rfl) ?_
    exact w_iret hx hb hr hlk dX5_linesShowing_51 hS ⟨F, by rw [show i = 32 by omega], hPv⟩
  · skip
    refine lv_aload_n hx hb dX5_linesShowing_10 rfl (lv_at hl 0 rfl) ?_
    refine va_get (D := G) (ci := 5) (v := .ref ((sh a 1) 0)) (C := RX5) (T := TX5) (N := 4) hx hb hts hi5 hown hK.1 hPv 0 rfl rfl 0 (by decide) (hts (.fieldLink RX5 21 "SpriteLines$View" "state" "LSpriteLines$State;") (by decide +kernel)) (fun _ h9 => h9) rfl dX5_linesShowing_11 ?_
    refine lv_iload_n hx hb dX5_linesShowing_14 rfl (lv_at hl 1 rfl) ?_
    refine lv_iload_n hx hb dX5_linesShowing_15 rfl (lv_at hl 3 rfl) ?_
    refine z_ro (zrV (As := [.int (zI x), .int (zI i)]) (rest := []) ⟨hx, hb, hml, hown, hts⟩ (c_X4_isOnAndCovers l G cs (sh a 1) S x i wf0 (by omega) (by omega)) gX5_linesShowing_X4_isOnAndCovers rfl qX4_isOnAndCovers rfl rfl ⟨Nat.le_of_ble_eq_true rfl, Nat.le_of_ble_eq_true rfl⟩ hPs hK (va_recv hK.1 hPs (ci := 4) (q0 := 0) rfl rfl) hl.1 rfl (Nat.le_of_ble_eq_true rfl) dX5_linesShowing_16 ⟨Nat.le_of_ble_eq_true rfl, Nat.le_of_ble_eq_true rfl⟩) ?_
    refine z_bif_eq (tgt := 44) hx hb dX5_linesShowing_19 (by decide) (fun c2 => ?_) (fun c2 => ?_)
    · skip
      refine z_iinc (k := 3) (lv' := [(3, .int (zI (i + 1))), (0, .ref ((sh a 9) 0)), (1, .int (zI x)), (2, .int (zI (cntI (fun q => shownB S q (S 0 4) x) i)))]) hx hb dX5_linesShowing_44 hl rfl (by decide) rfl (fun ls hl => ?_)
      refine lv_goto (tgt := 4) hx hb dX5_linesShowing_47 (by decide) ?_
      exact ih (i + 1, F) H locs ⟨(by show 0 ≤ (i + 1) ∧ (i + 1) ≤ 32; omega), hPs, hPv⟩ hS (by show (32 - (i + 1)).toNat < (32 - i).toNat; omega) ls (by show lv_has ls 4 [(0, .ref ((sh a 9) 0)), (1, .int (zI x)), (2, .int (zI (cntI (fun q => shownB S q (S 0 4) x) (i + 1)))), (3, .int (zI (i + 1)))]; rw [cntI_f (f := fun q => shownB S q (S 0 4) x) hI.1 (by rw [Bool.eq_false_iff]; intro h; rw [shown_isW h] at c2; cases c2)]; exact lv_sub hl [1, 2, 3, 0] rfl)
    · skip
      refine lv_aload_n hx hb dX5_linesShowing_22 rfl (lv_at hl 0 rfl) ?_
      refine lv_iload_n hx hb dX5_linesShowing_23 rfl (lv_at hl 3 rfl) ?_
      refine lv_aload_n hx hb dX5_linesShowing_24 rfl (lv_at hl 0 rfl) ?_
      refine va_get (D := G) (ci := 5) (v := .ref ((sh a 1) 0)) (C := RX5) (T := TX5) (N := 4) hx hb hts hi5 hown hK.1 hPv 0 rfl rfl 0 (by decide) (hts (.fieldLink RX5 21 "SpriteLines$View" "state" "LSpriteLines$State;") (by decide +kernel)) (fun _ h9 => h9) rfl dX5_linesShowing_25 ?_
      refine va_get (D := G) (ci := 4) (v := .int (zI (S 0 4))) (C := RX4) (T := TX4) (N := 9) hx hb hts hi4 hown hK.1 hPs 0 rfl rfl 0 (by decide) (hts (.fieldLink RX5 54 "SpriteLines$State" "frame" "I") (by decide +kernel)) (fun _ h9 => h9) rfl dX5_linesShowing_28 ?_
      refine z_w (zrV (As := [.int (zI i), .int (zI (S 0 4))]) (rest := []) (Pw := fun H => va_P G vwCl (stW cs (sh a 1) S) H ∧ va_P G vwCl (viW cs (sh a 9) ((sh a 1) 0) (aI F) f2 f3) H) ⟨hx, hb, hml, hown, hts⟩ (c_X5_shownSet l G cs a S F f2 f3 i (S 0 4) ia wf0 (by omega) (by omega)) gX5_linesShowing_X5_shownSet rfl qX5_shownSet rfl rfl ⟨Nat.le_of_ble_eq_true rfl, Nat.le_of_ble_eq_true rfl⟩ ⟨hPs, hPv⟩ hK (va_recv hK.1 hPv (ci := 5) (q0 := 0) rfl rfl) hl.1 rfl (Nat.le_of_ble_eq_true rfl) dX5_linesShowing_31 ⟨Nat.le_of_ble_eq_true rfl, Nat.le_of_ble_eq_true rfl⟩) hS (fun q h => ax_mono h (by decide) (by decide)) (fun q h => ax_mono h (by decide) (by decide)) (fun v H locs hpost hle hk hS => ?_)
      obtain ⟨F, rfl, hPv'⟩ := hpost
      have hPs := keepO (ordSt cs (sh a 1) S) hPs hk (fun j hj ⟨i, h1, h2, h3⟩ => absurd (ia (1 + j) i (by omega) (by omega) h3) (by omega))
      have hPv : va_P G vwCl (viW cs (sh a 9) ((sh a 1) 0) (aI F) f2 f3) H := hPv'
      refine lv_iload_n hx hb dX5_linesShowing_34 rfl (lv_at hl 1 rfl) ?_
      refine z_ro (zrSN (As := [.int (iB (fun k => decide ((k : Int) < S 0 1) && shownB S i (S 0 4) k)), .int (zI x)]) (rest := []) (Pw := fun _ => True) ⟨hx, hb, hml, hown, hts⟩ (c_X6_contains l G cs (fun k => decide ((k : Int) < S 0 1) && shownB S i (S 0 4) k) x (by omega)) gX5_linesShowing_X6_contains_n63 rfl hK.2.1 (hts (.initialized RX6) (by decide +kernel)) (hts (.static yX6_contains) (by decide +kernel)) qX6_contains.2 rfl rfl ⟨Nat.le_of_ble_eq_true rfl, Nat.le_of_ble_eq_true rfl⟩ trivial hK hl.1 rfl (Nat.le_of_ble_eq_true rfl) dX5_linesShowing_35 ⟨Nat.le_of_ble_eq_true rfl, Nat.le_of_ble_eq_true rfl⟩) ?_
      refine z_top (v' := .int (zI (b2 (shownB S i (S 0 4) x)))) (congrArg (fun z => Value.int (zI (b2 z))) (bits_sh hx0.1 hx0.2)) ?_
      refine z_bif_eq (tgt := 44) hx hb dX5_linesShowing_38 (by decide) (fun c3 => ?_) (fun c3 => ?_)
      · skip
        refine z_iinc (k := 3) (lv' := [(3, .int (zI (i + 1))), (0, .ref ((sh a 9) 0)), (1, .int (zI x)), (2, .int (zI (cntI (fun q => shownB S q (S 0 4) x) i)))]) hx hb dX5_linesShowing_44 hl rfl (by decide) rfl (fun ls hl => ?_)
        refine lv_goto (tgt := 4) hx hb dX5_linesShowing_47 (by decide) ?_
        exact ih (i + 1, F) H locs ⟨(by show 0 ≤ (i + 1) ∧ (i + 1) ≤ 32; omega), hPs, hPv⟩ hS (by show (32 - (i + 1)).toNat < (32 - i).toNat; omega) ls (by show lv_has ls 4 [(0, .ref ((sh a 9) 0)), (1, .int (zI x)), (2, .int (zI (cntI (fun q => shownB S q (S 0 4) x) (i + 1)))), (3, .int (zI (i + 1)))]; rw [cntI_f (f := fun q => shownB S q (S 0 4) x) hI.1 c3]; exact lv_sub hl [1, 2, 3, 0] rfl)
      · skip
        refine z_iinc (k := 2) (lv' := [(2, .int (zI ((cntI (fun q => shownB S q (S 0 4) x) i) + 1))), (0, .ref ((sh a 9) 0)), (1, .int (zI x)), (3, .int (zI i))]) hx hb dX5_linesShowing_41 hl rfl (by decide) rfl (fun ls hl => ?_)
        refine z_iinc (k := 3) (lv' := [(3, .int (zI (i + 1))), (2, .int (zI ((cntI (fun q => shownB S q (S 0 4) x) i) + 1))), (0, .ref ((sh a 9) 0)), (1, .int (zI x))]) hx hb dX5_linesShowing_44 hl rfl (by decide) rfl (fun ls hl => ?_)
        refine lv_goto (tgt := 4) hx hb dX5_linesShowing_47 (by decide) ?_
        exact ih (i + 1, F) H locs ⟨(by show 0 ≤ (i + 1) ∧ (i + 1) ≤ 32; omega), hPs, hPv⟩ hS (by show (32 - (i + 1)).toNat < (32 - i).toNat; omega) ls (by show lv_has ls 4 [(0, .ref ((sh a 9) 0)), (1, .int (zI x)), (2, .int (zI (cntI (fun q => shownB S q (S 0 4) x) (i + 1)))), (3, .int (zI (i + 1)))]; rw [cntI_t (f := fun q => shownB S q (S 0 4) x) hI.1 c3]; exact lv_sub hl [2, 3, 1, 0] rfl)

set_option maxHeartbeats 4000000 in
set_option maxRecDepth 100000 in
theorem c_X5_weightOf (l : Launch) (G : va_G) (cs : Nat → ClassId) (a : Nat → Nat) (S : SS) (F1 : Int → Int) (f2 f3 : Nat → Int32) (q : Int) (ia : Inj a 62) (wf : WF S) (hq : 0 ≤ q ∧ q < 32) : MW l yX5_weightOf wsX5_weightOf { frames := 4, cells := 0, slots := 0, locals := 99 } G cs [.ref ((sh a 9) 0), .int (zI q)] (fun H => va_P G vwCl (stW cs (sh a 1) S) H ∧ va_P G vwCl (viW cs (sh a 9) ((sh a 1) 0) (aI F1) f2 f3) H) (fun v H => ∃ F, v = .float (wgtF S q (S 0 4)) ∧ va_P G vwCl (viW cs (sh a 9) ((sh a 1) 0) (aI F) f2 f3) H) (AX a 10 11) 0 0 := by
  refine m_intro (Pw := (fun H => va_P G vwCl (stW cs (sh a 1) S) H ∧ va_P G vwCl (viW cs (sh a 9) ((sh a 1) 0) (aI F1) f2 f3) H)) (cc := cX5_weightOf) (maxL := 5) (ret := some .float) RX5 (by decide) rfl rfl (Nat.le_of_ble_eq_true rfl) ?_
  intro pP eE sS mM below meth cC hx hb hr hts hown hml hlk hnm hPre hK ls hl
  have hl : lv_has ls 5 [(0, .ref ((sh a 9) 0)), (1, .int (zI q))] := hl
  obtain ⟨hPs, hPv⟩ := hPre
  have hS : va_S (AX a 10 11) sS.heap sS.heap [] := va_S.rf
  have hi4 : ∀ w ∈ u_ws RX4 TX4 9, w ∈ wsX5_weightOf := by decide +kernel
  have hi5 : ∀ w ∈ u_ws RX5 TX5 4, w ∈ wsX5_weightOf := by decide +kernel
  have wf0 := wf
  obtain ⟨w0, w1, w2, w3, w4, wP, wC, wS, wX⟩ := wf
  refine lv_aload_n hx hb dX5_weightOf_0 rfl (lv_at hl 0 rfl) ?_
  refine lv_iload_n hx hb dX5_weightOf_1 rfl (lv_at hl 1 rfl) ?_
  refine lv_aload_n hx hb dX5_weightOf_2 rfl (lv_at hl 0 rfl) ?_
  refine va_get (D := G) (ci := 5) (v := .ref ((sh a 1) 0)) (C := RX5) (T := TX5) (N := 4) hx hb hts hi5 hown hK.1 hPv 0 rfl rfl 0 (by decide) (hts (.fieldLink RX5 21 "SpriteLines$View" "state" "LSpriteLines$State;") (by decide +kernel)) (fun _ h9 => h9) rfl dX5_weightOf_3 ?_
  refine va_get (D := G) (ci := 4) (v := .int (zI (S 0 4))) (C := RX4) (T := TX4) (N := 9) hx hb hts hi4 hown hK.1 hPs 0 rfl rfl 0 (by decide) (hts (.fieldLink RX5 54 "SpriteLines$State" "frame" "I") (by decide +kernel)) (fun _ h9 => h9) rfl dX5_weightOf_6 ?_
  refine z_w (zrV (As := [.int (zI q), .int (zI (S 0 4))]) (rest := []) (Pw := fun H => va_P G vwCl (stW cs (sh a 1) S) H ∧ va_P G vwCl (viW cs (sh a 9) ((sh a 1) 0) (aI F1) f2 f3) H) ⟨hx, hb, hml, hown, hts⟩ (c_X5_shownSet l G cs a S F1 f2 f3 q (S 0 4) ia wf0 (by omega) (by omega)) gX5_weightOf_X5_shownSet rfl qX5_shownSet rfl rfl ⟨Nat.le_of_ble_eq_true rfl, Nat.le_of_ble_eq_true rfl⟩ ⟨hPs, hPv⟩ hK (va_recv hK.1 hPv (ci := 5) (q0 := 0) rfl rfl) hl.1 rfl (Nat.le_of_ble_eq_true rfl) dX5_weightOf_9 ⟨Nat.le_of_ble_eq_true rfl, Nat.le_of_ble_eq_true rfl⟩) hS (fun q h => ax_mono h (by decide) (by decide)) (fun q h => ax_mono h (by decide) (by decide)) (fun v H locs hpost hle hk hS => ?_)
  obtain ⟨F, rfl, hPv'⟩ := hpost
  have hPs := keepO (ordSt cs (sh a 1) S) hPs hk (fun j hj ⟨i, h1, h2, h3⟩ => absurd (ia (1 + j) i (by omega) (by omega) h3) (by omega))
  have hPv : va_P G vwCl (viW cs (sh a 9) ((sh a 1) 0) (aI F) f2 f3) H := hPv'
  refine lv_istore_n (lv' := [(2, .int (iB (fun k => decide ((k : Int) < S 0 1) && shownB S q (S 0 4) k))), (0, .ref ((sh a 9) 0)), (1, .int (zI q))]) hx hb dX5_weightOf_12 rfl hl (by decide) rfl (fun ls hl => ?_)
  refine lv_fconst0 hx hb dX5_weightOf_13 ?_
  refine lv_fstore_n (lv' := [(3, .float 0), (2, .int (iB (fun k => decide ((k : Int) < S 0 1) && shownB S q (S 0 4) k))), (0, .ref ((sh a 9) 0)), (1, .int (zI q))]) hx hb dX5_weightOf_14 rfl hl (by decide) rfl (fun ls hl => ?_)
  refine z_iconst (n := 0) hx hb dX5_weightOf_15 ?_
  refine lv_istore (lv' := [(4, .int (zI 0)), (3, .float 0), (2, .int (iB (fun k => decide ((k : Int) < S 0 1) && shownB S q (S 0 4) k))), (0, .ref ((sh a 9) 0)), (1, .int (zI q))]) hx hb dX5_weightOf_16 hl (by decide) rfl (fun ls hl => ?_)
  -- loop 18
  refine z_loop (nL := 5) (fun (i : Int) => [(0, .ref ((sh a 9) 0)), (2, .int (iB (fun k => decide ((k : Int) < S 0 1) && shownB S q (S 0 4) k))), (3, .float (wgtN S q (S 0 4) (i).toNat)), (4, .int (zI i))]) (fun (i : Int) => 0 ≤ i ∧ i ≤ S 0 1) (fun (i : Int) => (S 0 1 - i).toNat) 0 (by omega) (lv_sub hl [3, 2, 1, 0] rfl) (fun i hI ih ls hl => ?_)
  have hl : lv_has ls 5 [(0, .ref ((sh a 9) 0)), (2, .int (iB (fun k => decide ((k : Int) < S 0 1) && shownB S q (S 0 4) k))), (3, .float (wgtN S q (S 0 4) (i).toNat)), (4, .int (zI i))] := hl
  refine lv_iload hx hb dX5_weightOf_18 (lv_at hl 3 rfl) ?_
  refine lv_aload_n hx hb dX5_weightOf_20 rfl (lv_at hl 0 rfl) ?_
  refine va_get (D := G) (ci := 5) (v := .ref ((sh a 1) 0)) (C := RX5) (T := TX5) (N := 4) hx hb hts hi5 hown hK.1 hPv 0 rfl rfl 0 (by decide) (hts (.fieldLink RX5 21 "SpriteLines$View" "state" "LSpriteLines$State;") (by decide +kernel)) (fun _ h9 => h9) rfl dX5_weightOf_21 ?_
  refine va_get (D := G) (ci := 4) (v := .int (zI (S 0 1))) (C := RX4) (T := TX4) (N := 9) hx hb hts hi4 hown hK.1 hPs 0 rfl rfl 3 (by decide) (hts (.fieldLink RX5 25 "SpriteLines$State" "sprites" "I") (by decide +kernel)) (fun _ h9 => h9) rfl dX5_weightOf_24 ?_
  refine z_icmp_ge (tgt := 68) hx hb dX5_weightOf_27 (by decide) (by omega) (by omega) (fun c1 => ?_) (fun c1 => ?_)
  · skip
    refine lv_fload_n hx hb dX5_weightOf_68 rfl (lv_at hl 2 rfl) ?_
    exact w_fret hx hb hr hlk dX5_weightOf_69 hS ⟨F, by rw [show i = S 0 1 by omega]; rfl, hPv⟩
  · skip
    refine lv_iload_n hx hb dX5_weightOf_30 rfl (lv_at hl 1 rfl) ?_
    refine lv_iload hx hb dX5_weightOf_31 (lv_at hl 3 rfl) ?_
    refine z_ro (zrSN (As := [.int (iB (fun k => decide ((k : Int) < S 0 1) && shownB S q (S 0 4) k)), .int (zI i)]) (rest := []) (Pw := fun _ => True) ⟨hx, hb, hml, hown, hts⟩ (c_X6_contains l G cs (fun k => decide ((k : Int) < S 0 1) && shownB S q (S 0 4) k) i (by omega)) gX5_weightOf_X6_contains_n63 rfl hK.2.1 (hts (.initialized RX6) (by decide +kernel)) (hts (.static yX6_contains) (by decide +kernel)) qX6_contains.2 rfl rfl ⟨Nat.le_of_ble_eq_true rfl, Nat.le_of_ble_eq_true rfl⟩ trivial hK hl.1 rfl (Nat.le_of_ble_eq_true rfl) dX5_weightOf_33 ⟨Nat.le_of_ble_eq_true rfl, Nat.le_of_ble_eq_true rfl⟩) ?_
    refine z_top (v' := .int (zI (b2 (shownB S q (S 0 4) i)))) (congrArg (fun z => Value.int (zI (b2 z))) (bits_sh hI.1 (by omega))) ?_
    refine z_bif_eq (tgt := 62) hx hb dX5_weightOf_36 (by decide) (fun c2 => ?_) (fun c2 => ?_)
    · skip
      refine z_iinc (k := 3) (lv' := [(4, .int (zI (i + 1))), (0, .ref ((sh a 9) 0)), (2, .int (iB (fun k => decide ((k : Int) < S 0 1) && shownB S q (S 0 4) k))), (3, .float (wgtN S q (S 0 4) (i).toNat))]) hx hb dX5_weightOf_62 hl rfl (by decide) rfl (fun ls hl => ?_)
      refine lv_goto (tgt := 18) hx hb dX5_weightOf_65 (by decide) ?_
      exact ih (i + 1) (by omega) (by omega) ls (by show lv_has ls 5 [(0, .ref ((sh a 9) 0)), (2, .int (iB (fun k => decide ((k : Int) < S 0 1) && shownB S q (S 0 4) k))), (3, .float (wgtN S q (S 0 4) ((i + 1)).toNat)), (4, .int (zI (i + 1)))]; rw [wgt_f hI.1 c2]; exact lv_sub hl [1, 2, 3, 0] rfl)
    · skip
      have q1 := wP i hI.1 (by omega)
      refine lv_fload_n hx hb dX5_weightOf_39 rfl (lv_at hl 2 rfl) ?_
      refine lv_aload_n hx hb dX5_weightOf_40 rfl (lv_at hl 0 rfl) ?_
      refine va_get (D := G) (ci := 5) (v := .ref ((sh a 1) 0)) (C := RX5) (T := TX5) (N := 4) hx hb hts hi5 hown hK.1 hPv 0 rfl rfl 0 (by decide) (hts (.fieldLink RX5 21 "SpriteLines$View" "state" "LSpriteLines$State;") (by decide +kernel)) (fun _ h9 => h9) rfl dX5_weightOf_41 ?_
      refine va_get (D := G) (ci := 4) (v := .ref ((sh a 1) 1)) (C := RX4) (T := TX4) (N := 9) hx hb hts hi4 hown hK.1 hPs 0 rfl rfl 4 (by decide) (hts (.fieldLink RX5 82 "SpriteLines$State" "sheet" "LSpriteLines$Sheet;") (by decide +kernel)) (fun _ h9 => h9) rfl dX5_weightOf_44 ?_
      refine lv_aload_n hx hb dX5_weightOf_47 rfl (lv_at hl 0 rfl) ?_
      refine va_get (D := G) (ci := 5) (v := .ref ((sh a 1) 0)) (C := RX5) (T := TX5) (N := 4) hx hb hts hi5 hown hK.1 hPv 0 rfl rfl 0 (by decide) (hts (.fieldLink RX5 21 "SpriteLines$View" "state" "LSpriteLines$State;") (by decide +kernel)) (fun _ h9 => h9) rfl dX5_weightOf_48 ?_
      refine lv_iload hx hb dX5_weightOf_51 (lv_at hl 3 rfl) ?_
      refine z_iconst (n := 0) hx hb dX5_weightOf_53 ?_
      refine z_ro (zrV (As := [.int (zI i), .int (zI 0)]) (rest := [.ref ((sh a 1) 1), .float (wgtN S q (S 0 4) (i).toNat)]) ⟨hx, hb, hml, hown, hts⟩ (c_X4_property l G cs (sh a 1) S i 0 (by omega) (by omega)) gX5_weightOf_X4_property rfl qX4_property rfl rfl ⟨Nat.le_of_ble_eq_true rfl, Nat.le_of_ble_eq_true rfl⟩ hPs hK (va_recv hK.1 hPs (ci := 4) (q0 := 0) rfl rfl) hl.1 rfl (Nat.le_of_ble_eq_true rfl) dX5_weightOf_54 ⟨Nat.le_of_ble_eq_true rfl, Nat.le_of_ble_eq_true rfl⟩) ?_
      refine z_ro (zrV (As := [.int (zI (S 1 (6 * i + 0)))]) (rest := [.float (wgtN S q (S 0 4) (i).toNat)]) ⟨hx, hb, hml, hown, hts⟩ (c_X3_shareOf l G cs (sh a 1) S (S 1 (6 * i + 0)) wf0 (by omega)) gX5_weightOf_X3_shareOf rfl qX3_shareOf rfl rfl ⟨Nat.le_of_ble_eq_true rfl, Nat.le_of_ble_eq_true rfl⟩ hPs hK (va_recv hK.1 hPs (ci := 3) (q0 := 1) rfl rfl) hl.1 rfl (Nat.le_of_ble_eq_true rfl) dX5_weightOf_57 ⟨Nat.le_of_ble_eq_true rfl, Nat.le_of_ble_eq_true rfl⟩) ?_
      refine lv_fadd hx hb dX5_weightOf_60 (nn_n32 (fadd_nn (wgtN_nn _ _ _ _) (shareF_nn _ _))) ?_
      refine lv_fstore_n (lv' := [(3, .float (FP.fadd (wgtN S q (S 0 4) (i).toNat) (shareF S (S 1 (6 * i + 0))))), (0, .ref ((sh a 9) 0)), (2, .int (iB (fun k => decide ((k : Int) < S 0 1) && shownB S q (S 0 4) k))), (4, .int (zI i))]) hx hb dX5_weightOf_61 rfl hl (by decide) rfl (fun ls hl => ?_)
      refine z_iinc (k := 3) (lv' := [(4, .int (zI (i + 1))), (3, .float (FP.fadd (wgtN S q (S 0 4) (i).toNat) (shareF S (S 1 (6 * i + 0))))), (0, .ref ((sh a 9) 0)), (2, .int (iB (fun k => decide ((k : Int) < S 0 1) && shownB S q (S 0 4) k)))]) hx hb dX5_weightOf_62 hl rfl (by decide) rfl (fun ls hl => ?_)
      refine lv_goto (tgt := 18) hx hb dX5_weightOf_65 (by decide) ?_
      exact ih (i + 1) (by omega) (by omega) ls (by show lv_has ls 5 [(0, .ref ((sh a 9) 0)), (2, .int (iB (fun k => decide ((k : Int) < S 0 1) && shownB S q (S 0 4) k))), (3, .float (wgtN S q (S 0 4) ((i + 1)).toNat)), (4, .int (zI (i + 1)))]; rw [wgt_t hI.1 c2]; exact lv_sub hl [2, 3, 1, 0] rfl)

set_option maxHeartbeats 4000000 in
set_option maxRecDepth 100000 in
theorem c_X5_sumOfWholeWeights (l : Launch) (G : va_G) (cs : Nat → ClassId) (a : Nat → Nat) (S : SS) (F1 : Int → Int) (f2 f3 : Nat → Int32) (ia : Inj a 62) (wf : WF S) : MW l yX5_sumOfWholeWeights wsX5_sumOfWholeWeights { frames := 5, cells := 0, slots := 0, locals := 123 } G cs [.ref ((sh a 9) 0)] (fun H => va_P G vwCl (stW cs (sh a 1) S) H ∧ va_P G vwCl (viW cs (sh a 9) ((sh a 1) 0) (aI F1) f2 f3) H) (fun v H => ∃ F, v = .int (zI (sumN (fun q => (FP.f2i (wgtF S q (S 0 4))).toInt) 32)) ∧ va_P G vwCl (viW cs (sh a 9) ((sh a 1) 0) (aI F) f2 f3) H) (AX a 10 11) 0 0 := by
  refine m_intro (Pw := (fun H => va_P G vwCl (stW cs (sh a 1) S) H ∧ va_P G vwCl (viW cs (sh a 9) ((sh a 1) 0) (aI F1) f2 f3) H)) (cc := cX5_sumOfWholeWeights) (maxL := 3) (ret := some .int) RX5 (by decide) rfl rfl (Nat.le_of_ble_eq_true rfl) ?_
  intro pP eE sS mM below meth cC hx hb hr hts hown hml hlk hnm hPre hK ls hl
  have hl : lv_has ls 3 [(0, .ref ((sh a 9) 0))] := hl
  obtain ⟨hPs, hPv⟩ := hPre
  have hS : va_S (AX a 10 11) sS.heap sS.heap [] := va_S.rf
  have wf0 := wf
  obtain ⟨w0, w1, w2, w3, w4, wP, wC, wS, wX⟩ := wf
  refine z_iconst (n := 0) hx hb dX5_sumOfWholeWeights_0 ?_
  refine lv_istore_n (lv' := [(1, .int (zI 0)), (0, .ref ((sh a 9) 0))]) hx hb dX5_sumOfWholeWeights_1 rfl hl (by decide) rfl (fun ls hl => ?_)
  refine z_iconst (n := 0) hx hb dX5_sumOfWholeWeights_2 ?_
  refine lv_istore_n (lv' := [(2, .int (zI 0)), (1, .int (zI 0)), (0, .ref ((sh a 9) 0))]) hx hb dX5_sumOfWholeWeights_3 rfl hl (by decide) rfl (fun ls hl => ?_)
  -- loop 4
  refine z_loopH (nL := 3) (fun ((i, F) : Int × (Int → Int)) => [(0, .ref ((sh a 9) 0)), (1, .int (zI (sumN (fun q => (FP.f2i (wgtF S q (S 0 4))).toInt) i.toNat))), (2, .int (zI i))]) (fun ((i, F) : Int × (Int → Int)) (H : Heap) => (0 ≤ i ∧ i ≤ 32) ∧ va_P G vwCl (stW cs (sh a 1) S) H ∧ va_P G vwCl (viW cs (sh a 9) ((sh a 1) 0) (aI F) f2 f3) H) (fun ((i, F) : Int × (Int → Int)) => (32 - i).toNat) (0, F1) ⟨(by omega), hPs, hPv⟩ hS (lv_sub hl [2, 1, 0] rfl) (fun x_ H locs hIH hS ih ls hl => ?_)
  obtain ⟨i, F⟩ := x_
  obtain ⟨hI, hPs, hPv⟩ := hIH
  have hI : 0 ≤ i ∧ i ≤ 32 := hI
  have hPs : va_P G vwCl (stW cs (sh a 1) S) H := hPs
  have hPv : va_P G vwCl (viW cs (sh a 9) ((sh a 1) 0) (aI F) f2 f3) H := hPv
  have hl : lv_has ls 3 [(0, .ref ((sh a 9) 0)), (1, .int (zI (sumN (fun q => (FP.f2i (wgtF S q (S 0 4))).toInt) i.toNat))), (2, .int (zI i))] := hl
  refine lv_iload_n hx hb dX5_sumOfWholeWeights_4 rfl (lv_at hl 2 rfl) ?_
  refine z_bipush (n := 32) hx hb dX5_sumOfWholeWeights_5 (by decide) ?_
  refine z_icmp_ge (tgt := 25) hx hb dX5_sumOfWholeWeights_7 (by decide) (by omega) (by omega) (fun c1 => ?_) (fun c1 => ?_)
  · skip
    refine lv_iload_n hx hb dX5_sumOfWholeWeights_25 rfl (lv_at hl 1 rfl) ?_
    exact w_iret hx hb hr hlk dX5_sumOfWholeWeights_26 hS ⟨F, by rw [show i = 32 by omega]; rfl, hPv⟩
  · skip
    refine lv_iload_n hx hb dX5_sumOfWholeWeights_10 rfl (lv_at hl 1 rfl) ?_
    refine lv_aload_n hx hb dX5_sumOfWholeWeights_11 rfl (lv_at hl 0 rfl) ?_
    refine lv_iload_n hx hb dX5_sumOfWholeWeights_12 rfl (lv_at hl 2 rfl) ?_
    refine z_w (zrV (As := [.int (zI i)]) (rest := [.int (zI (sumN (fun q => (FP.f2i (wgtF S q (S 0 4))).toInt) i.toNat))]) (Pw := fun H => va_P G vwCl (stW cs (sh a 1) S) H ∧ va_P G vwCl (viW cs (sh a 9) ((sh a 1) 0) (aI F) f2 f3) H) ⟨hx, hb, hml, hown, hts⟩ (c_X5_weightOf l G cs a S F f2 f3 i ia wf0 (by omega)) gX5_sumOfWholeWeights_X5_weightOf rfl qX5_weightOf rfl rfl ⟨Nat.le_of_ble_eq_true rfl, Nat.le_of_ble_eq_true rfl⟩ ⟨hPs, hPv⟩ hK (va_recv hK.1 hPv (ci := 5) (q0 := 0) rfl rfl) hl.1 rfl (Nat.le_of_ble_eq_true rfl) dX5_sumOfWholeWeights_13 ⟨Nat.le_of_ble_eq_true rfl, Nat.le_of_ble_eq_true rfl⟩) hS (fun q h => ax_mono h (by decide) (by decide)) (fun q h => ax_mono h (by decide) (by decide)) (fun v H locs hpost hle hk hS => ?_)
    obtain ⟨F, rfl, hPv'⟩ := hpost
    have hPs := keepO (ordSt cs (sh a 1) S) hPs hk (fun j hj ⟨i, h1, h2, h3⟩ => absurd (ia (1 + j) i (by omega) (by omega) h3) (by omega))
    have hPv : va_P G vwCl (viW cs (sh a 9) ((sh a 1) 0) (aI F) f2 f3) H := hPv'
    refine lv_f2i hx hb dX5_sumOfWholeWeights_16 ?_
    refine z_top (v' := .int (zI ((FP.f2i (wgtF S i (S 0 4))).toInt))) (congrArg Value.int (zI_of _)) ?_
    refine z_iadd hx hb dX5_sumOfWholeWeights_17 ?_
    refine lv_istore_n (lv' := [(1, .int (zI ((sumN (fun q => (FP.f2i (wgtF S q (S 0 4))).toInt) i.toNat) + ((FP.f2i (wgtF S i (S 0 4))).toInt)))), (0, .ref ((sh a 9) 0)), (2, .int (zI i))]) hx hb dX5_sumOfWholeWeights_18 rfl hl (by decide) rfl (fun ls hl => ?_)
    refine z_iinc (k := 2) (lv' := [(2, .int (zI (i + 1))), (1, .int (zI ((sumN (fun q => (FP.f2i (wgtF S q (S 0 4))).toInt) i.toNat) + ((FP.f2i (wgtF S i (S 0 4))).toInt)))), (0, .ref ((sh a 9) 0))]) hx hb dX5_sumOfWholeWeights_19 hl rfl (by decide) rfl (fun ls hl => ?_)
    refine lv_goto (tgt := 4) hx hb dX5_sumOfWholeWeights_22 (by decide) ?_
    exact ih (i + 1, F) H locs ⟨(by show 0 ≤ (i + 1) ∧ (i + 1) ≤ 32; omega), hPs, hPv⟩ hS (by show (32 - (i + 1)).toNat < (32 - i).toNat; omega) ls (by show lv_has ls 3 [(0, .ref ((sh a 9) 0)), (1, .int (zI (sumN (fun q => (FP.f2i (wgtF S q (S 0 4))).toInt) (i + 1).toNat))), (2, .int (zI (i + 1)))]; rw [sumN_s (f := fun q => (FP.f2i (wgtF S q (S 0 4))).toInt) hI.1]; exact lv_sub hl [2, 1, 0] rfl)
