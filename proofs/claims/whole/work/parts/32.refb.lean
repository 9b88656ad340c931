theorem rw_or {S : SS} {Y : Int → Int} {q : Int} (rr : RR S Y) (hq : 0 ≤ q ∧ q < 32) : (S 3 q = S 4 q ∧ Y (329 + q) = 0) ∨ (S 3 q ≠ S 4 q ∧ Y (329 + q) = 16 * S 3 q + S 4 q) := by
  have h := rr.2.2.2.2 q hq.1 hq.2
  by_cases e : S 3 q = S 4 q
  · rw [if_pos e] at h
    exact Or.inl ⟨e, h⟩
  · rw [if_neg e] at h
    exact Or.inr ⟨e, h⟩
theorem lm_yes {S : SS} {fr x y q r : Int} (h1 : shownB S q fr x = true) (h2 : shownB S q fr y = true) (hr : 0 ≤ r ∧ r < 32) (p1 : pixAt S x q r ≠ 0) (p2 : pixAt S y q r ≠ 0) : lineMeet S fr x y q = true := by
  unfold lineMeet
  rw [h1, h2, Bool.true_and, Bool.true_and, anyN_iff]
  exact ⟨r, hr.1, by omega, by rw [decide_eq_true p1, decide_eq_true p2]; rfl⟩
theorem lm_no {S : SS} {fr x y q : Int} (h : shownB S q fr x = false ∨ shownB S q fr y = false ∨ ∀ r, 0 ≤ r → r < 32 → pixAt S x q r = 0 ∨ pixAt S y q r = 0) : lineMeet S fr x y q = false := by
  rw [Bool.eq_false_iff]
  intro h9
  unfold lineMeet at h9
  rw [Bool.and_eq_true, Bool.and_eq_true, anyN_iff] at h9
  obtain ⟨⟨a1, a2⟩, r, r1, r2, r3⟩ := h9
  rw [Bool.and_eq_true, decide_eq_true_eq, decide_eq_true_eq] at r3
  rcases h with h | h | h
  · rw [h] at a1; cases a1
  · rw [h] at a2; cases a2
  · rcases h r r1 (by omega) with h | h
    · exact r3.1 h
    · exact r3.2 h
theorem mt_yes {S : SS} {fr x y q : Int} (hq : 0 ≤ q ∧ q < 32) (h : lineMeet S fr x y q = true) : meetB S fr x y = true := anyN_iff.mpr ⟨q, hq.1, by omega, h⟩
theorem mt_no {S : SS} {fr x y : Int} (h : ∀ q, 0 ≤ q → q < 32 → lineMeet S fr x y q = false) : meetB S fr x y = false := by
  rw [Bool.eq_false_iff]
  intro h9
  obtain ⟨q, h1, h2, h3⟩ := anyN_iff.mp h9
  rw [h q h1 (by omega)] at h3
  cases h3
theorem turn_rng {S : SS} {q x fr : Int} (hx : 0 ≤ x ∧ x < S 0 1) (hl : S 0 2 ≤ 20) : -5 ≤ turnOf S q x fr ∧ turnOf S q x fr ≤ 20 := by
  have h := (atT_of (S := S) (fr := fr) hx).1
  have hc := cntI_r (gT S q fr) h.1
  unfold turnOf
  split <;> omega
theorem cnt_none {f : Int → Bool} {n : Int} (h : ∀ k, 0 ≤ k → k < n → f k = false) : cntI f n = 0 := by
  unfold cntI
  have key : ∀ m : Nat, (m : Int) ≤ n ∨ m = 0 → cnt f m = 0 := by
    intro m
    induction m with
    | zero => intro _; rfl
    | succ m ih =>
      intro hm
      rw [cnt, ih (by omega), b2_f (h m (by omega) (by omega))]
      rfl
  exact key _ (by omega)
theorem used_cnt {S : SS} {q : Int} : isUsed S q = false ↔ cntI (fun x => decide (S 1 (6 * x + 0) = q)) (S 0 1) = 0 := by
  constructor
  · intro h
    refine cnt_none (fun k h1 h2 => ?_)
    rw [Bool.eq_false_iff]
    intro h9
    rw [Bool.eq_false_iff] at h
    exact h (anyN_iff.mpr ⟨k, h1, by omega, h9⟩)
  · intro h
    rw [Bool.eq_false_iff]
    intro h9
    obtain ⟨k, h1, h2, h3⟩ := anyN_iff.mp h9
    have := cntI_lt (f := fun x => decide (S 1 (6 * x + 0) = q)) h1 (show k < S 0 1 by omega) h3
    have := (cntI_r (fun x => decide (S 1 (6 * x + 0) = q)) h1).1
    omega
set_option maxHeartbeats 4000000 in
set_option maxRecDepth 100000 in
theorem c_X7_pixelAt (l : Launch) (G : va_G) (cs : Nat → ClassId) (a : Nat → Nat) (S : SS) (Y : Int → Int) (kq tq nq : Int) (x q r : Int) (wf : WF S) (rr : RR S Y) (hx0 : 0 ≤ x ∧ x < S 0 1) (hq : 0 ≤ q ∧ q < 32) (hr0 : 0 ≤ r ∧ r < 32) : MRO l yX7_pixelAt wsX7_pixelAt { frames := 2, cells := 0, slots := 0, locals := 47 } G cs [.ref (a 0), .int (zI x), .int (zI q), .int (zI r)] (fun H => va_P G vwCl (moW cs a kq tq nq) H ∧ va_P G vwCl (m7 cs a 1 0 361 (aI Y)) H) (.int (zI (pixAt S x q r))) := by
  refine m_intro (Pw := (fun H => va_P G vwCl (moW cs a kq tq nq) H ∧ va_P G vwCl (m7 cs a 1 0 361 (aI Y)) H)) (cc := cX7_pixelAt) (maxL := 5) (ret := some .int) RX7 (by decide) rfl rfl (Nat.le_of_ble_eq_true rfl) ?_
  intro pP eE sS mM below meth cC hx hb hr hts hown hml hlk hnm hPre hK ls hl
  have hl : lv_has ls 5 [(0, .ref (a 0)), (1, .int (zI x)), (2, .int (zI q)), (3, .int (zI r))] := hl
  obtain ⟨hMo, hRw⟩ := hPre
  have wf0 := wf
  obtain ⟨w0, w1, w2, w3, w4, wP, wC, wS, wX⟩ := wf
  have q1 := wP x hx0.1 hx0.2
  refine lv_iload_n hx hb dX7_pixelAt_0 rfl (lv_at hl 3 rfl) ?_
  refine lv_aload_n hx hb dX7_pixelAt_1 rfl (lv_at hl 0 rfl) ?_
  refine lv_iload_n hx hb dX7_pixelAt_2 rfl (lv_at hl 1 rfl) ?_
  refine z_iconst (n := 4) hx hb dX7_pixelAt_3 ?_
  refine z_ro (zrV (As := [.int (zI x), .int (zI 4)]) (rest := [.int (zI r)]) (Pw := fun H => va_P G vwCl (moW cs a kq tq nq) H ∧ va_P G vwCl (m7 cs a 1 0 361 (aI Y)) H) ⟨hx, hb, hml, hown, hts⟩ (c_X7_of l G cs a S Y kq tq nq x 4 wf0 rr (by omega) (by omega)) gX7_pixelAt_X7_of rfl qX7_of rfl rfl ⟨Nat.le_of_ble_eq_true rfl, Nat.le_of_ble_eq_true rfl⟩ ⟨hMo, hRw⟩ hK (va_recv hK.1 hMo (ci := 7) (q0 := 0) rfl rfl) hl.1 rfl (Nat.le_of_ble_eq_true rfl) dX7_pixelAt_4 ⟨Nat.le_of_ble_eq_true rfl, Nat.le_of_ble_eq_true rfl⟩) ?_
  refine z_isub hx hb dX7_pixelAt_7 ?_
  refine lv_istore (lv' := [(4, .int (zI (r - (S 1 (6 * x + 4))))), (0, .ref (a 0)), (1, .int (zI x)), (2, .int (zI q)), (3, .int (zI r))]) hx hb dX7_pixelAt_8 hl (by decide) rfl (fun ls hl => ?_)
  refine lv_iload hx hb dX7_pixelAt_10 (lv_at hl 0 rfl) ?_
  refine z_iconst (n := 0) hx hb dX7_pixelAt_12 ?_
  refine z_bipush (n := 7) hx hb dX7_pixelAt_13 (by decide) ?_
  refine z_ro (zrS (As := [.int (zI (r - (S 1 (6 * x + 4)))), .int (zI 0), .int (zI 7)]) (rest := []) (Pw := fun _ => True) ⟨hx, hb, hml, hown, hts⟩ (c_X7_in l G cs (r - (S 1 (6 * x + 4))) 0 7 (by omega) (by omega) (by omega)) gX7_pixelAt_X7_in rfl qX7_in rfl rfl ⟨Nat.le_of_ble_eq_true rfl, Nat.le_of_ble_eq_true rfl⟩ trivial hK hl.1 rfl (Nat.le_of_ble_eq_true rfl) dX7_pixelAt_15 ⟨Nat.le_of_ble_eq_true rfl, Nat.le_of_ble_eq_true rfl⟩) ?_
  refine z_bif_eq (tgt := 59) hx hb dX7_pixelAt_18 (by decide) (fun c1 => ?_) (fun c1 => ?_)
  · skip
    simp only [decide_eq_false_iff_not] at c1
    refine z_iconst (n := 0) hx hb dX7_pixelAt_59 ?_
    exact ro_iret hx hb hr hlk dX7_pixelAt_60 (congrArg (fun z => Value.int (zI z)) (by unfold pixAt; rw [if_neg (show ¬ ((0 ≤ q - S 1 (6 * x + 5) ∧ q - S 1 (6 * x + 5) < 8) ∧ (0 ≤ r - S 1 (6 * x + 4) ∧ r - S 1 (6 * x + 4) < 8)) by omega)]))
  · skip
    simp only [decide_eq_true_eq] at c1
    refine lv_aload_n hx hb dX7_pixelAt_21 rfl (lv_at hl 1 rfl) ?_
    refine lv_iload_n hx hb dX7_pixelAt_22 rfl (lv_at hl 2 rfl) ?_
    refine lv_iload_n hx hb dX7_pixelAt_23 rfl (lv_at hl 3 rfl) ?_
    refine z_ro (zrV (As := [.int (zI x), .int (zI q)]) (rest := []) (Pw := fun H => va_P G vwCl (moW cs a kq tq nq) H ∧ va_P G vwCl (m7 cs a 1 0 361 (aI Y)) H) ⟨hx, hb, hml, hown, hts⟩ (c_X7_isOver l G cs a S Y kq tq nq x q wf0 rr (by omega) (by omega)) gX7_pixelAt_X7_isOver rfl qX7_isOver rfl rfl ⟨Nat.le_of_ble_eq_true rfl, Nat.le_of_ble_eq_true rfl⟩ ⟨hMo, hRw⟩ hK (va_recv hK.1 hMo (ci := 7) (q0 := 0) rfl rfl) hl.1 rfl (Nat.le_of_ble_eq_true rfl) dX7_pixelAt_24 ⟨Nat.le_of_ble_eq_true rfl, Nat.le_of_ble_eq_true rfl⟩) ?_
    refine z_bif_eq (tgt := 59) hx hb dX7_pixelAt_27 (by decide) (fun c2 => ?_) (fun c2 => ?_)
    · skip
      unfold isOver at c2
      simp only [decide_eq_false_iff_not] at c2
      refine z_iconst (n := 0) hx hb dX7_pixelAt_59 ?_
      exact ro_iret hx hb hr hlk dX7_pixelAt_60 (congrArg (fun z => Value.int (zI z)) (by unfold pixAt; rw [if_neg (show ¬ ((0 ≤ q - S 1 (6 * x + 5) ∧ q - S 1 (6 * x + 5) < 8) ∧ (0 ≤ r - S 1 (6 * x + 4) ∧ r - S 1 (6 * x + 4) < 8)) by omega)]))
    · skip
      unfold isOver at c2
      simp only [decide_eq_true_eq] at c2
      refine lv_aload_n hx hb dX7_pixelAt_30 rfl (lv_at hl 1 rfl) ?_
      refine lv_aload_n hx hb dX7_pixelAt_31 rfl (lv_at hl 1 rfl) ?_
      refine lv_iload_n hx hb dX7_pixelAt_32 rfl (lv_at hl 2 rfl) ?_
      refine z_iconst (n := 0) hx hb dX7_pixelAt_33 ?_
      refine z_ro (zrV (As := [.int (zI x), .int (zI 0)]) (rest := [.ref (a 0)]) (Pw := fun H => va_P G vwCl (moW cs a kq tq nq) H ∧ va_P G vwCl (m7 cs a 1 0 361 (aI Y)) H) ⟨hx, hb, hml, hown, hts⟩ (c_X7_of l G cs a S Y kq tq nq x 0 wf0 rr (by omega) (by omega)) gX7_pixelAt_X7_of rfl qX7_of rfl rfl ⟨Nat.le_of_ble_eq_true rfl, Nat.le_of_ble_eq_true rfl⟩ ⟨hMo, hRw⟩ hK (va_recv hK.1 hMo (ci := 7) (q0 := 0) rfl rfl) hl.1 rfl (Nat.le_of_ble_eq_true rfl) dX7_pixelAt_34 ⟨Nat.le_of_ble_eq_true rfl, Nat.le_of_ble_eq_true rfl⟩) ?_
      refine lv_aload_n hx hb dX7_pixelAt_37 rfl (lv_at hl 1 rfl) ?_
      refine lv_iload_n hx hb dX7_pixelAt_38 rfl (lv_at hl 2 rfl) ?_
      refine z_iconst (n := 1) hx hb dX7_pixelAt_39 ?_
      refine z_ro (zrV (As := [.int (zI x), .int (zI 1)]) (rest := [.int (zI (S 1 (6 * x + 0))), .ref (a 0)]) (Pw := fun H => va_P G vwCl (moW cs a kq tq nq) H ∧ va_P G vwCl (m7 cs a 1 0 361 (aI Y)) H) ⟨hx, hb, hml, hown, hts⟩ (c_X7_of l G cs a S Y kq tq nq x 1 wf0 rr (by omega) (by omega)) gX7_pixelAt_X7_of rfl qX7_of rfl rfl ⟨Nat.le_of_ble_eq_true rfl, Nat.le_of_ble_eq_true rfl⟩ ⟨hMo, hRw⟩ hK (va_recv hK.1 hMo (ci := 7) (q0 := 0) rfl rfl) hl.1 rfl (Nat.le_of_ble_eq_true rfl) dX7_pixelAt_40 ⟨Nat.le_of_ble_eq_true rfl, Nat.le_of_ble_eq_true rfl⟩) ?_
      refine lv_iload_n hx hb dX7_pixelAt_43 rfl (lv_at hl 3 rfl) ?_
      refine lv_aload_n hx hb dX7_pixelAt_44 rfl (lv_at hl 1 rfl) ?_
      refine lv_iload_n hx hb dX7_pixelAt_45 rfl (lv_at hl 2 rfl) ?_
      refine z_iconst (n := 5) hx hb dX7_pixelAt_46 ?_
      refine z_ro (zrV (As := [.int (zI x), .int (zI 5)]) (rest := [.int (zI q), .int (zI (S 1 (6 * x + 1))), .int (zI (S 1 (6 * x + 0))), .ref (a 0)]) (Pw := fun H => va_P G vwCl (moW cs a kq tq nq) H ∧ va_P G vwCl (m7 cs a 1 0 361 (aI Y)) H) ⟨hx, hb, hml, hown, hts⟩ (c_X7_of l G cs a S Y kq tq nq x 5 wf0 rr (by omega) (by omega)) gX7_pixelAt_X7_of rfl qX7_of rfl rfl ⟨Nat.le_of_ble_eq_true rfl, Nat.le_of_ble_eq_true rfl⟩ ⟨hMo, hRw⟩ hK (va_recv hK.1 hMo (ci := 7) (q0 := 0) rfl rfl) hl.1 rfl (Nat.le_of_ble_eq_true rfl) dX7_pixelAt_47 ⟨Nat.le_of_ble_eq_true rfl, Nat.le_of_ble_eq_true rfl⟩) ?_
      refine z_isub hx hb dX7_pixelAt_50 ?_
      refine lv_iload hx hb dX7_pixelAt_51 (lv_at hl 0 rfl) ?_
      refine z_ro (zrV (As := [.int (zI (S 1 (6 * x + 0))), .int (zI (S 1 (6 * x + 1))), .int (zI (q - (S 1 (6 * x + 5)))), .int (zI (r - (S 1 (6 * x + 4))))]) (rest := []) (Pw := fun H => va_P G vwCl (moW cs a kq tq nq) H ∧ va_P G vwCl (m7 cs a 1 0 361 (aI Y)) H) ⟨hx, hb, hml, hown, hts⟩ (c_X7_flipped l G cs a S Y kq tq nq (S 1 (6 * x + 0)) (S 1 (6 * x + 1)) (q - (S 1 (6 * x + 5))) (r - (S 1 (6 * x + 4))) wf0 rr (by omega) (by omega) (by omega) (by omega)) gX7_pixelAt_X7_flipped rfl qX7_flipped rfl rfl ⟨Nat.le_of_ble_eq_true rfl, Nat.le_of_ble_eq_true rfl⟩ ⟨hMo, hRw⟩ hK (va_recv hK.1 hMo (ci := 7) (q0 := 0) rfl rfl) hl.1 rfl (Nat.le_of_ble_eq_true rfl) dX7_pixelAt_53 ⟨Nat.le_of_ble_eq_true rfl, Nat.le_of_ble_eq_true rfl⟩) ?_
      refine lv_goto (tgt := 60) hx hb dX7_pixelAt_56 (by decide) ?_
      exact ro_iret hx hb hr hlk dX7_pixelAt_60 (congrArg (fun z => Value.int (zI z)) (by unfold pixAt; rw [if_pos (show (0 ≤ q - S 1 (6 * x + 5) ∧ q - S 1 (6 * x + 5) < 8) ∧ (0 ≤ r - S 1 (6 * x + 4) ∧ r - S 1 (6 * x + 4) < 8) by omega)]))

set_option maxHeartbeats 4000000 in
set_option maxRecDepth 100000 in
theorem c_X7_paletteOn (l : Launch) (G : va_G) (cs : Nat → ClassId) (a : Nat → Nat) (S : SS) (Y : Int → Int) (kq tq nq : Int) (q z : Int) (wf : WF S) (rr : RR S Y) (hq : 0 ≤ q ∧ q < 32) (hz : 0 ≤ z ∧ z ≤ 3) : MRO l yX7_paletteOn wsX7_paletteOn { frames := 0, cells := 0, slots := 0, locals := 0 } G cs [.ref (a 0), .int (zI q), .int (zI z)] (fun H => va_P G vwCl (moW cs a kq tq nq) H ∧ va_P G vwCl (m7 cs a 1 0 361 (aI Y)) H) (.int (zI (palOn S q z))) := by
  refine m_intro (Pw := (fun H => va_P G vwCl (moW cs a kq tq nq) H ∧ va_P G vwCl (m7 cs a 1 0 361 (aI Y)) H)) (cc := cX7_paletteOn) (maxL := 5) (ret := some .int) RX7 (by decide) rfl rfl (Nat.le_of_ble_eq_true rfl) ?_
  intro pP eE sS mM below meth cC hx hb hr hts hown hml hlk hnm hPre hK ls hl
  have hl : lv_has ls 5 [(0, .ref (a 0)), (1, .int (zI q)), (2, .int (zI z))] := hl
  obtain ⟨hMo, hRw⟩ := hPre
  have hi7 : ∀ w ∈ u_ws RX7 TX7 12, w ∈ wsX7_paletteOn := by decide +kernel
  have wf0 := wf
  obtain ⟨w0, w1, w2, w3, w4, wP, wC, wS, wX⟩ := wf
  have q1 := wS q hq.1 hq.2
  have q2 := rw_or rr hq
  refine lv_aload_n hx hb dX7_paletteOn_0 rfl (lv_at hl 0 rfl) ?_
  refine va_get (D := G) (ci := 7) (v := .ref ((sh a 1) 0)) (C := RX7) (T := TX7) (N := 12) hx hb hts hi7 hown hK.1 hMo 0 rfl rfl 0 (by decide) (hts (.fieldLink RX7 7 "SpriteLinesModel" "row" "[I") (by decide +kernel)) (fun _ h9 => h9) rfl dX7_paletteOn_1 ?_
  refine z_sipush (n := 329) hx hb dX7_paletteOn_4 (by decide) ?_
  refine lv_iload_n hx hb dX7_paletteOn_7 rfl (lv_at hl 1 rfl) ?_
  refine z_iadd hx hb dX7_paletteOn_8 ?_
  refine z_iald hx hb hK.1 hRw 0 0 (F := Y) rfl rfl (by omega) (by decide) dX7_paletteOn_9 ?_
  refine z_bipush (n := 16) hx hb dX7_paletteOn_10 (by decide) ?_
  refine z_idiv hx hb dX7_paletteOn_12 (by omega) (by omega) ?_
  refine lv_istore_n (lv' := [(3, .int (zI ((Y (329 + q)) / 16))), (0, .ref (a 0)), (1, .int (zI q)), (2, .int (zI z))]) hx hb dX7_paletteOn_13 rfl hl (by decide) rfl (fun ls hl => ?_)
  refine lv_aload_n hx hb dX7_paletteOn_14 rfl (lv_at hl 1 rfl) ?_
  refine va_get (D := G) (ci := 7) (v := .ref ((sh a 1) 0)) (C := RX7) (T := TX7) (N := 12) hx hb hts hi7 hown hK.1 hMo 0 rfl rfl 0 (by decide) (hts (.fieldLink RX7 7 "SpriteLinesModel" "row" "[I") (by decide +kernel)) (fun _ h9 => h9) rfl dX7_paletteOn_15 ?_
  refine z_sipush (n := 329) hx hb dX7_paletteOn_18 (by decide) ?_
  refine lv_iload_n hx hb dX7_paletteOn_21 rfl (lv_at hl 2 rfl) ?_
  refine z_iadd hx hb dX7_paletteOn_22 ?_
  refine z_iald hx hb hK.1 hRw 0 0 (F := Y) rfl rfl (by omega) (by decide) dX7_paletteOn_23 ?_
  refine z_bipush (n := 16) hx hb dX7_paletteOn_24 (by decide) ?_
  refine z_irem hx hb dX7_paletteOn_26 (by omega) (by omega) ?_
  refine lv_istore (lv' := [(4, .int (zI ((Y (329 + q)) % 16))), (3, .int (zI ((Y (329 + q)) / 16))), (0, .ref (a 0)), (1, .int (zI q)), (2, .int (zI z))]) hx hb dX7_paletteOn_27 hl (by decide) rfl (fun ls hl => ?_)
  refine lv_aload_n hx hb dX7_paletteOn_29 rfl (lv_at hl 2 rfl) ?_
  refine va_get (D := G) (ci := 7) (v := .ref ((sh a 1) 0)) (C := RX7) (T := TX7) (N := 12) hx hb hts hi7 hown hK.1 hMo 0 rfl rfl 0 (by decide) (hts (.fieldLink RX7 7 "SpriteLinesModel" "row" "[I") (by decide +kernel)) (fun _ h9 => h9) rfl dX7_paletteOn_30 ?_
  refine z_sipush (n := 329) hx hb dX7_paletteOn_33 (by decide) ?_
  refine lv_iload_n hx hb dX7_paletteOn_36 rfl (lv_at hl 3 rfl) ?_
  refine z_iadd hx hb dX7_paletteOn_37 ?_
  refine z_iald hx hb hK.1 hRw 0 0 (F := Y) rfl rfl (by omega) (by decide) dX7_paletteOn_38 ?_
  refine z_if_eq (tgt := 53) hx hb dX7_paletteOn_39 (by decide) (by omega) (fun c1 => ?_) (fun c1 => ?_)
  · skip
    refine lv_iload_n hx hb dX7_paletteOn_53 rfl (lv_at hl 4 rfl) ?_
    refine lv_goto (tgt := 63) hx hb dX7_paletteOn_54 (by decide) ?_
    exact ro_iret hx hb hr hlk dX7_paletteOn_63 (congrArg (fun z => Value.int (zI z)) (by unfold palOn; split <;> (try split) <;> omega))
  · skip
    refine lv_iload_n hx hb dX7_paletteOn_42 rfl (lv_at hl 4 rfl) ?_
    refine lv_iload_n hx hb dX7_paletteOn_43 rfl (lv_at hl 1 rfl) ?_
    refine z_icmp_eq (tgt := 57) hx hb dX7_paletteOn_44 (by decide) (by omega) (by omega) (fun c2 => ?_) (fun c2 => ?_)
    · skip
      refine lv_iload_n hx hb dX7_paletteOn_57 rfl (lv_at hl 1 rfl) ?_
      refine lv_iload hx hb dX7_paletteOn_58 (lv_at hl 0 rfl) ?_
      refine z_iadd hx hb dX7_paletteOn_60 ?_
      refine lv_iload_n hx hb dX7_paletteOn_61 rfl (lv_at hl 4 rfl) ?_
      refine z_isub hx hb dX7_paletteOn_62 ?_
      exact ro_iret hx hb hr hlk dX7_paletteOn_63 (congrArg (fun z => Value.int (zI z)) (by unfold palOn; split <;> (try split) <;> omega))
    · skip
      refine lv_iload_n hx hb dX7_paletteOn_47 rfl (lv_at hl 4 rfl) ?_
      refine lv_iload hx hb dX7_paletteOn_48 (lv_at hl 0 rfl) ?_
      refine z_icmp_eq (tgt := 57) hx hb dX7_paletteOn_50 (by decide) (by omega) (by omega) (fun c3 => ?_) (fun c3 => ?_)
      · skip
        refine lv_iload_n hx hb dX7_paletteOn_57 rfl (lv_at hl 1 rfl) ?_
        refine lv_iload hx hb dX7_paletteOn_58 (lv_at hl 0 rfl) ?_
        refine z_iadd hx hb dX7_paletteOn_60 ?_
        refine lv_iload_n hx hb dX7_paletteOn_61 rfl (lv_at hl 4 rfl) ?_
        refine z_isub hx hb dX7_paletteOn_62 ?_
        exact ro_iret hx hb hr hlk dX7_paletteOn_63 (congrArg (fun z => Value.int (zI z)) (by unfold palOn; split <;> (try split) <;> omega))
      · skip
        refine lv_iload_n hx hb dX7_paletteOn_53 rfl (lv_at hl 4 rfl) ?_
        refine lv_goto (tgt := 63) hx hb dX7_paletteOn_54 (by decide) ?_
        exact ro_iret hx hb hr hlk dX7_paletteOn_63 (congrArg (fun z => Value.int (zI z)) (by unfold palOn; split <;> (try split) <;> omega))

set_option maxHeartbeats 4000000 in
set_option maxRecDepth 100000 in
theorem c_X7_isShown (l : Launch) (G : va_G) (cs : Nat → ClassId) (a : Nat → Nat) (S : SS) (Y : Int → Int) (kq tq nq : Int) (q x : Int) (wf : WF S) (rr : RR S Y) (hx0 : 0 ≤ x ∧ x < S 0 1) (hq : 0 ≤ q ∧ q < 32) : MRO l yX7_isShown wsX7_isShown { frames := 4, cells := 0, slots := 0, locals := 93 } G cs [.ref (a 0), .int (zI q), .int (zI x)] (fun H => va_P G vwCl (moW cs a kq tq nq) H ∧ va_P G vwCl (m7 cs a 1 0 361 (aI Y)) H) (.int (zI (b2 (shownB S q (S 0 4) x)))) := by
  refine m_intro (Pw := (fun H => va_P G vwCl (moW cs a kq tq nq) H ∧ va_P G vwCl (m7 cs a 1 0 361 (aI Y)) H)) (cc := cX7_isShown) (maxL := 3) (ret := some .boolean) RX7 (by decide) rfl rfl (Nat.le_of_ble_eq_true rfl) ?_
  intro pP eE sS mM below meth cC hx hb hr hts hown hml hlk hnm hPre hK ls hl
  have hl : lv_has ls 3 [(0, .ref (a 0)), (1, .int (zI q)), (2, .int (zI x))] := hl
  obtain ⟨hMo, hRw⟩ := hPre
  have hi7 : ∀ w ∈ u_ws RX7 TX7 12, w ∈ wsX7_isShown := by decide +kernel
  have wf0 := wf
  obtain ⟨w0, w1, w2, w3, w4, wP, wC, wS, wX⟩ := wf
  refine lv_aload_n hx hb dX7_isShown_0 rfl (lv_at hl 0 rfl) ?_
  refine lv_iload_n hx hb dX7_isShown_1 rfl (lv_at hl 1 rfl) ?_
  refine lv_iload_n hx hb dX7_isShown_2 rfl (lv_at hl 2 rfl) ?_
  refine lv_aload_n hx hb dX7_isShown_3 rfl (lv_at hl 0 rfl) ?_
  refine va_get (D := G) (ci := 7) (v := .ref ((sh a 1) 0)) (C := RX7) (T := TX7) (N := 12) hx hb hts hi7 hown hK.1 hMo 0 rfl rfl 0 (by decide) (hts (.fieldLink RX7 7 "SpriteLinesModel" "row" "[I") (by decide +kernel)) (fun _ h9 => h9) rfl dX7_isShown_4 ?_
  refine z_iconst (n := 4) hx hb dX7_isShown_7 ?_
  refine z_iald hx hb hK.1 hRw 0 0 (F := Y) rfl rfl (by omega) (by decide) dX7_isShown_8 ?_
  refine z_topi (b := S 0 4) rr.1.2.2.2.2 ?_
  refine z_ro (zrV (As := [.int (zI q), .int (zI x), .int (zI (S 0 4))]) (rest := []) (Pw := fun H => va_P G vwCl (moW cs a kq tq nq) H ∧ va_P G vwCl (m7 cs a 1 0 361 (aI Y)) H) ⟨hx, hb, hml, hown, hts⟩ (c_X7_turnOf l G cs a S Y kq tq nq q x (S 0 4) wf0 rr (by omega) (by omega) (by omega)) gX7_isShown_X7_turnOf rfl qX7_turnOf rfl rfl ⟨Nat.le_of_ble_eq_true rfl, Nat.le_of_ble_eq_true rfl⟩ ⟨hMo, hRw⟩ hK (va_recv hK.1 hMo (ci := 7) (q0 := 0) rfl rfl) hl.1 rfl (Nat.le_of_ble_eq_true rfl) dX7_isShown_9 ⟨Nat.le_of_ble_eq_true rfl, Nat.le_of_ble_eq_true rfl⟩) ?_
  refine z_if_lt (tgt := 19) hx hb dX7_isShown_12 (by decide) (by have := turn_rng (q := q) (fr := S 0 4) hx0 w2.2; omega) (fun c1 => ?_) (fun c1 => ?_)
  · skip
    refine z_iconst (n := 0) hx hb dX7_isShown_19 ?_
    exact ro_zret hx hb hr hlk dX7_isShown_20 (by omega) (congrArg (fun z => Value.int (zI z)) (b2_f (by exact decide_eq_false (by omega))).symm)
  · skip
    refine z_iconst (n := 1) hx hb dX7_isShown_15 ?_
    refine lv_goto (tgt := 20) hx hb dX7_isShown_16 (by decide) ?_
    exact ro_zret hx hb hr hlk dX7_isShown_20 (by omega) (congrArg (fun z => Value.int (zI z)) (b2_t (by exact decide_eq_true c1)).symm)

set_option maxHeartbeats 4000000 in
set_option maxRecDepth 100000 in
theorem c_X7_colorAt (l : Launch) (G : va_G) (cs : Nat → ClassId) (a : Nat → Nat) (S : SS) (Y : Int → Int) (kq tq nq : Int) (q r : Int) (wf : WF S) (rr : RR S Y) (hq : 0 ≤ q ∧ q < 32) (hr0 : 0 ≤ r ∧ r < 32) : MRO l yX7_colorAt wsX7_colorAt { frames := 5, cells := 0, slots := 0, locals := 115 } G cs [.ref (a 0), .int (zI q), .int (zI r)] (fun H => va_P G vwCl (moW cs a kq tq nq) H ∧ va_P G vwCl (m7 cs a 1 0 361 (aI Y)) H) (.int (zI (colF S q (S 0 4) r))) := by
  refine m_intro (Pw := (fun H => va_P G vwCl (moW cs a kq tq nq) H ∧ va_P G vwCl (m7 cs a 1 0 361 (aI Y)) H)) (cc := cX7_colorAt) (maxL := 5) (ret := some .int) RX7 (by decide) rfl rfl (Nat.le_of_ble_eq_true rfl) ?_
  intro pP eE sS mM below meth cC hx hb hr hts hown hml hlk hnm hPre hK ls hl
  have hl : lv_has ls 5 [(0, .ref (a 0)), (1, .int (zI q)), (2, .int (zI r))] := hl
  obtain ⟨hMo, hRw⟩ := hPre
  have hi7 : ∀ w ∈ u_ws RX7 TX7 12, w ∈ wsX7_colorAt := by decide +kernel
  have wf0 := wf
  obtain ⟨w0, w1, w2, w3, w4, wP, wC, wS, wX⟩ := wf
  refine z_iconst (n := 0) hx hb dX7_colorAt_0 ?_
  refine lv_istore_n (lv' := [(3, .int (zI 0)), (0, .ref (a 0)), (1, .int (zI q)), (2, .int (zI r))]) hx hb dX7_colorAt_1 rfl hl (by decide) rfl (fun ls hl => ?_)
  -- loop 2
  refine z_loop (nL := 5) (fun (i : Int) => [(0, .ref (a 0)), (1, .int (zI q)), (2, .int (zI r)), (3, .int (zI i))]) (fun (i : Int) => (0 ≤ i ∧ i ≤ S 0 1) ∧ ∀ j, 0 ≤ j → j < i → (shownB S q (S 0 4) j && decide (pixAt S j q r ≠ 0)) = false) (fun (i : Int) => (S 0 1 - i).toNat) 0 ⟨by omega, fun j h1 h2 => by omega⟩ (lv_sub hl [1, 2, 3, 0] rfl) (fun i hI ih ls hl => ?_)
  have hl : lv_has ls 5 [(0, .ref (a 0)), (1, .int (zI q)), (2, .int (zI r)), (3, .int (zI i))] := hl
  obtain ⟨hI, hJ⟩ := hI
  refine lv_iload_n hx hb dX7_colorAt_2 rfl (lv_at hl 3 rfl) ?_
  refine lv_aload_n hx hb dX7_colorAt_3 rfl (lv_at hl 0 rfl) ?_
  refine z_ro (zrV (As := []) (rest := [.int (zI i)]) (Pw := fun H => va_P G vwCl (moW cs a kq tq nq) H ∧ va_P G vwCl (m7 cs a 1 0 361 (aI Y)) H) ⟨hx, hb, hml, hown, hts⟩ (c_X7_sprites l G cs a S Y kq tq nq rr) gX7_colorAt_X7_sprites rfl qX7_sprites rfl rfl ⟨Nat.le_of_ble_eq_true rfl, Nat.le_of_ble_eq_true rfl⟩ ⟨hMo, hRw⟩ hK (va_recv hK.1 hMo (ci := 7) (q0 := 0) rfl rfl) hl.1 rfl (Nat.le_of_ble_eq_true rfl) dX7_colorAt_4 ⟨Nat.le_of_ble_eq_true rfl, Nat.le_of_ble_eq_true rfl⟩) ?_
  refine z_icmp_ge (tgt := 67) hx hb dX7_colorAt_7 (by decide) (by omega) (by omega) (fun c1 => ?_) (fun c1 => ?_)
  · skip
    refine z_iconst (n := 0) hx hb dX7_colorAt_67 ?_
    exact ro_iret hx hb hr hlk dX7_colorAt_68 (congrArg (fun z => Value.int (zI z)) (by unfold colF; rw [if_pos]; exact ff_none (fun j h1 h2 => hJ j h1 (by omega))))
  · skip
    refine lv_aload_n hx hb dX7_colorAt_10 rfl (lv_at hl 0 rfl) ?_
    refine lv_iload_n hx hb dX7_colorAt_11 rfl (lv_at hl 3 rfl) ?_
    refine lv_iload_n hx hb dX7_colorAt_12 rfl (lv_at hl 1 rfl) ?_
    refine lv_iload_n hx hb dX7_colorAt_13 rfl (lv_at hl 2 rfl) ?_
    refine z_ro (zrV (As := [.int (zI i), .int (zI q), .int (zI r)]) (rest := []) (Pw := fun H => va_P G vwCl (moW cs a kq tq nq) H ∧ va_P G vwCl (m7 cs a 1 0 361 (aI Y)) H) ⟨hx, hb, hml, hown, hts⟩ (c_X7_pixelAt l G cs a S Y kq tq nq i q r wf0 rr (by omega) (by omega) (by omega)) gX7_colorAt_X7_pixelAt rfl qX7_pixelAt rfl rfl ⟨Nat.le_of_ble_eq_true rfl, Nat.le_of_ble_eq_true rfl⟩ ⟨hMo, hRw⟩ hK (va_recv hK.1 hMo (ci := 7) (q0 := 0) rfl rfl) hl.1 rfl (Nat.le_of_ble_eq_true rfl) dX7_colorAt_14 ⟨Nat.le_of_ble_eq_true rfl, Nat.le_of_ble_eq_true rfl⟩) ?_
    have hpx := pixAt_r (q := q) (r := r) wf0 (x := i) (by omega)
    refine lv_istore (lv' := [(4, .int (zI (pixAt S i q r))), (0, .ref (a 0)), (1, .int (zI q)), (2, .int (zI r)), (3, .int (zI i))]) hx hb dX7_colorAt_17 hl (by decide) rfl (fun ls hl => ?_)
    refine lv_iload hx hb dX7_colorAt_19 (lv_at hl 0 rfl) ?_
    refine z_if_le (tgt := 61) hx hb dX7_colorAt_21 (by decide) (by omega) (fun c2 => ?_) (fun c2 => ?_)
    · skip
      refine z_iinc (k := 4) (lv' := [(3, .int (zI (i + 1))), (4, .int (zI (pixAt S i q r))), (0, .ref (a 0)), (1, .int (zI q)), (2, .int (zI r))]) hx hb dX7_colorAt_61 hl rfl (by decide) rfl (fun ls hl => ?_)
      refine lv_goto (tgt := 2) hx hb dX7_colorAt_64 (by decide) ?_
      exact ih (i + 1) ⟨by omega, fun j q1 q2 => by
      by_cases e : j = i
      · subst e; rw [decide_eq_false (show ¬ pixAt S j q r ≠ 0 by omega), Bool.and_false]
      · exact hJ j q1 (by omega)⟩ (by omega) ls (lv_sub hl [2, 3, 4, 0] rfl)
    · skip
      refine lv_aload_n hx hb dX7_colorAt_24 rfl (lv_at hl 1 rfl) ?_
      refine lv_iload_n hx hb dX7_colorAt_25 rfl (lv_at hl 2 rfl) ?_
      refine lv_iload_n hx hb dX7_colorAt_26 rfl (lv_at hl 4 rfl) ?_
      refine z_ro (zrV (As := [.int (zI q), .int (zI i)]) (rest := []) (Pw := fun H => va_P G vwCl (moW cs a kq tq nq) H ∧ va_P G vwCl (m7 cs a 1 0 361 (aI Y)) H) ⟨hx, hb, hml, hown, hts⟩ (c_X7_isShown l G cs a S Y kq tq nq q i wf0 rr (by omega) (by omega)) gX7_colorAt_X7_isShown rfl qX7_isShown rfl rfl ⟨Nat.le_of_ble_eq_true rfl, Nat.le_of_ble_eq_true rfl⟩ ⟨hMo, hRw⟩ hK (va_recv hK.1 hMo (ci := 7) (q0 := 0) rfl rfl) hl.1 rfl (Nat.le_of_ble_eq_true rfl) dX7_colorAt_27 ⟨Nat.le_of_ble_eq_true rfl, Nat.le_of_ble_eq_true rfl⟩) ?_
      refine z_bif_eq (tgt := 61) hx hb dX7_colorAt_30 (by decide) (fun c3 => ?_) (fun c3 => ?_)
      · skip
        refine z_iinc (k := 4) (lv' := [(3, .int (zI (i + 1))), (4, .int (zI (pixAt S i q r))), (0, .ref (a 0)), (1, .int (zI q)), (2, .int (zI r))]) hx hb dX7_colorAt_61 hl rfl (by decide) rfl (fun ls hl => ?_)
        refine lv_goto (tgt := 2) hx hb dX7_colorAt_64 (by decide) ?_
        exact ih (i + 1) ⟨by omega, fun j q1 q2 => by
      by_cases e : j = i
      · subst e; rw [c3, Bool.false_and]
      · exact hJ j q1 (by omega)⟩ (by omega) ls (lv_sub hl [2, 3, 4, 0] rfl)
      · skip
        have q1 := wP i hI.1 (by omega)
        have hpo := palOn_r (wS q hq.1 hq.2) (p_ := S 1 (6 * i + 2)) (by omega)
        have hci : colI S q (S 0 4) r = i := ff_hit i (fun j h1 h2 => hJ j h1 h2) hI.1 (by omega) (by rw [c3, decide_eq_true (show pixAt S i q r ≠ 0 by omega)]; rfl)
        refine lv_aload_n hx hb dX7_colorAt_33 rfl (lv_at hl 1 rfl) ?_
        refine va_get (D := G) (ci := 7) (v := .ref ((sh a 1) 0)) (C := RX7) (T := TX7) (N := 12) hx hb hts hi7 hown hK.1 hMo 0 rfl rfl 0 (by decide) (hts (.fieldLink RX7 7 "SpriteLinesModel" "row" "[I") (by decide +kernel)) (fun _ h9 => h9) rfl dX7_colorAt_34 ?_
        refine z_sipush (n := 197) hx hb dX7_colorAt_37 (by decide) ?_
        refine z_iconst (n := 3) hx hb dX7_colorAt_40 ?_
        refine lv_aload_n hx hb dX7_colorAt_41 rfl (lv_at hl 1 rfl) ?_
        refine lv_iload_n hx hb dX7_colorAt_42 rfl (lv_at hl 2 rfl) ?_
        refine lv_aload_n hx hb dX7_colorAt_43 rfl (lv_at hl 1 rfl) ?_
        refine lv_iload_n hx hb dX7_colorAt_44 rfl (lv_at hl 4 rfl) ?_
        refine z_iconst (n := 2) hx hb dX7_colorAt_45 ?_
        refine z_ro (zrV (As := [.int (zI i), .int (zI 2)]) (rest := [.int (zI q), .ref (a 0), .int (zI 3), .int (zI 197), .ref ((sh a 1) 0)]) (Pw := fun H => va_P G vwCl (moW cs a kq tq nq) H ∧ va_P G vwCl (m7 cs a 1 0 361 (aI Y)) H) ⟨hx, hb, hml, hown, hts⟩ (c_X7_of l G cs a S Y kq tq nq i 2 wf0 rr (by omega) (by omega)) gX7_colorAt_X7_of rfl qX7_of rfl rfl ⟨Nat.le_of_ble_eq_true rfl, Nat.le_of_ble_eq_true rfl⟩ ⟨hMo, hRw⟩ hK (va_recv hK.1 hMo (ci := 7) (q0 := 0) rfl rfl) hl.1 rfl (Nat.le_of_ble_eq_true rfl) dX7_colorAt_46 ⟨Nat.le_of_ble_eq_true rfl, Nat.le_of_ble_eq_true rfl⟩) ?_
        refine z_ro (zrV (As := [.int (zI q), .int (zI (S 1 (6 * i + 2)))]) (rest := [.int (zI 3), .int (zI 197), .ref ((sh a 1) 0)]) (Pw := fun H => va_P G vwCl (moW cs a kq tq nq) H ∧ va_P G vwCl (m7 cs a 1 0 361 (aI Y)) H) ⟨hx, hb, hml, hown, hts⟩ (c_X7_paletteOn l G cs a S Y kq tq nq q (S 1 (6 * i + 2)) wf0 rr (by omega) (by omega)) gX7_colorAt_X7_paletteOn rfl qX7_paletteOn rfl rfl ⟨Nat.le_of_ble_eq_true rfl, Nat.le_of_ble_eq_true rfl⟩ ⟨hMo, hRw⟩ hK (va_recv hK.1 hMo (ci := 7) (q0 := 0) rfl rfl) hl.1 rfl (Nat.le_of_ble_eq_true rfl) dX7_colorAt_49 ⟨Nat.le_of_ble_eq_true rfl, Nat.le_of_ble_eq_true rfl⟩) ?_
        refine z_imul hx hb dX7_colorAt_52 ?_
        refine z_iadd hx hb dX7_colorAt_53 ?_
        refine lv_iload hx hb dX7_colorAt_54 (lv_at hl 0 rfl) ?_
        refine z_iadd hx hb dX7_colorAt_56 ?_
        refine z_iconst (n := 1) hx hb dX7_colorAt_57 ?_
        refine z_isub hx hb dX7_colorAt_58 ?_
        refine z_iald hx hb hK.1 hRw 0 0 (F := Y) rfl rfl (by omega) (by decide) dX7_colorAt_59 ?_
        refine z_topi (b := S 2 (4 * palOn S q (S 1 (6 * i + 2)) + pixAt S i q r)) (rr.2.2.1 _ _ (by omega) (by omega) (by omega) (by omega)) ?_
        exact ro_iret hx hb hr hlk dX7_colorAt_60 (congrArg (fun z => Value.int (zI z)) (by unfold colF; rw [hci, if_neg (by omega)]))

set_option maxHeartbeats 4000000 in
set_option maxRecDepth 100000 in
theorem c_X7_color (l : Launch) (G : va_G) (cs : Nat → ClassId) (a : Nat → Nat) (S : SS) (Y : Int → Int) (kq tq nq : Int) (q r : Int) (wf : WF S) (rr : RR S Y) (r_q : -2147483648 ≤ q ∧ q < 2147483648) (r_r : -2147483648 ≤ r ∧ r < 2147483648) : MRO l yX7_color wsX7_color { frames := 6, cells := 0, slots := 0, locals := 139 } G cs [.ref (a 0), .int (zI q), .int (zI r)] (fun H => va_P G vwCl (moW cs a kq tq nq) H ∧ va_P G vwCl (m7 cs a 1 0 361 (aI Y)) H) (.int (zI (colorF S q r))) := by
  refine m_intro (Pw := (fun H => va_P G vwCl (moW cs a kq tq nq) H ∧ va_P G vwCl (m7 cs a 1 0 361 (aI Y)) H)) (cc := cX7_color) (maxL := 3) (ret := some .int) RX7 (by decide) rfl rfl (Nat.le_of_ble_eq_true rfl) ?_
  intro pP eE sS mM below meth cC hx hb hr hts hown hml hlk hnm hPre hK ls hl
  have hl : lv_has ls 3 [(0, .ref (a 0)), (1, .int (zI q)), (2, .int (zI r))] := hl
  obtain ⟨hMo, hRw⟩ := hPre
  have wf0 := wf
  obtain ⟨w0, w1, w2, w3, w4, wP, wC, wS, wX⟩ := wf
  refine lv_iload_n hx hb dX7_color_0 rfl (lv_at hl 1 rfl) ?_
  refine z_ro (zrS (As := [.int (zI q)]) (rest := []) (Pw := fun _ => True) ⟨hx, hb, hml, hown, hts⟩ (c_X7_noLine l G cs q (by omega)) gX7_color_X7_noLine rfl qX7_noLine rfl rfl ⟨Nat.le_of_ble_eq_true rfl, Nat.le_of_ble_eq_true rfl⟩ trivial hK hl.1 rfl (Nat.le_of_ble_eq_true rfl) dX7_color_1 ⟨Nat.le_of_ble_eq_true rfl, Nat.le_of_ble_eq_true rfl⟩) ?_
  refine z_bif_ne (tgt := 17) hx hb dX7_color_4 (by decide) (fun c1 => ?_) (fun c1 => ?_)
  · skip
    simp only [decide_eq_true_eq] at c1
    refine z_iconst (n := -1) hx hb dX7_color_17 ?_
    refine lv_goto (tgt := 27) hx hb dX7_color_18 (by decide) ?_
    exact ro_iret hx hb hr hlk dX7_color_27 (congrArg (fun z => Value.int (zI z)) (by unfold colorF; rw [if_pos (show ¬ ((0 ≤ q ∧ q < 32) ∧ (0 ≤ r ∧ r < 32)) by omega)]))
  · skip
    simp only [decide_eq_false_iff_not] at c1
    refine lv_iload_n hx hb dX7_color_7 rfl (lv_at hl 2 rfl) ?_
    refine z_iconst (n := 0) hx hb dX7_color_8 ?_
    refine z_bipush (n := 31) hx hb dX7_color_9 (by decide) ?_
    refine z_ro (zrS (As := [.int (zI r), .int (zI 0), .int (zI 31)]) (rest := []) (Pw := fun _ => True) ⟨hx, hb, hml, hown, hts⟩ (c_X7_in l G cs r 0 31 (by omega) (by omega) (by omega)) gX7_color_X7_in rfl qX7_in rfl rfl ⟨Nat.le_of_ble_eq_true rfl, Nat.le_of_ble_eq_true rfl⟩ trivial hK hl.1 rfl (Nat.le_of_ble_eq_true rfl) dX7_color_11 ⟨Nat.le_of_ble_eq_true rfl, Nat.le_of_ble_eq_true rfl⟩) ?_
    refine z_bif_ne (tgt := 21) hx hb dX7_color_14 (by decide) (fun c2 => ?_) (fun c2 => ?_)
    · skip
      simp only [decide_eq_true_eq] at c2
      refine lv_aload_n hx hb dX7_color_21 rfl (lv_at hl 0 rfl) ?_
      refine lv_iload_n hx hb dX7_color_22 rfl (lv_at hl 1 rfl) ?_
      refine lv_iload_n hx hb dX7_color_23 rfl (lv_at hl 2 rfl) ?_
      refine z_ro (zrV (As := [.int (zI q), .int (zI r)]) (rest := []) (Pw := fun H => va_P G vwCl (moW cs a kq tq nq) H ∧ va_P G vwCl (m7 cs a 1 0 361 (aI Y)) H) ⟨hx, hb, hml, hown, hts⟩ (c_X7_colorAt l G cs a S Y kq tq nq q r wf0 rr (by omega) (by omega)) gX7_color_X7_colorAt rfl qX7_colorAt rfl rfl ⟨Nat.le_of_ble_eq_true rfl, Nat.le_of_ble_eq_true rfl⟩ ⟨hMo, hRw⟩ hK (va_recv hK.1 hMo (ci := 7) (q0 := 0) rfl rfl) hl.1 rfl (Nat.le_of_ble_eq_true rfl) dX7_color_24 ⟨Nat.le_of_ble_eq_true rfl, Nat.le_of_ble_eq_true rfl⟩) ?_
      exact ro_iret hx hb hr hlk dX7_color_27 (congrArg (fun z => Value.int (zI z)) (by unfold colorF; rw [if_neg (show ¬ ¬ ((0 ≤ q ∧ q < 32) ∧ (0 ≤ r ∧ r < 32)) by omega)]))
    · skip
      simp only [decide_eq_false_iff_not] at c2
      refine z_iconst (n := -1) hx hb dX7_color_17 ?_
      refine lv_goto (tgt := 27) hx hb dX7_color_18 (by decide) ?_
      exact ro_iret hx hb hr hlk dX7_color_27 (congrArg (fun z => Value.int (zI z)) (by unfold colorF; rw [if_pos (show ¬ ((0 ≤ q ∧ q < 32) ∧ (0 ≤ r ∧ r < 32)) by omega)]))

set_option maxHeartbeats 4000000 in
set_option maxRecDepth 100000 in
theorem c_X7_doMeet (l : Launch) (G : va_G) (cs : Nat → ClassId) (a : Nat → Nat) (S : SS) (Y : Int → Int) (kq tq nq : Int) (x y : Int) (wf : WF S) (rr : RR S Y) (hx0 : 0 ≤ x ∧ x < S 0 1) (hy0 : 0 ≤ y ∧ y < S 0 1) : MRO l yX7_doMeet wsX7_doMeet { frames := 5, cells := 0, slots := 0, locals := 115 } G cs [.ref (a 0), .int (zI x), .int (zI y)] (fun H => va_P G vwCl (moW cs a kq tq nq) H ∧ va_P G vwCl (m7 cs a 1 0 361 (aI Y)) H) (.int (zI (b2 (meetB S (S 0 4) x y)))) := by
  refine m_intro (Pw := (fun H => va_P G vwCl (moW cs a kq tq nq) H ∧ va_P G vwCl (m7 cs a 1 0 361 (aI Y)) H)) (cc := cX7_doMeet) (maxL := 5) (ret := some .boolean) RX7 (by decide) rfl rfl (Nat.le_of_ble_eq_true rfl) ?_
  intro pP eE sS mM below meth cC hx hb hr hts hown hml hlk hnm hPre hK ls hl
  have hl : lv_has ls 5 [(0, .ref (a 0)), (1, .int (zI x)), (2, .int (zI y))] := hl
  obtain ⟨hMo, hRw⟩ := hPre
  have wf0 := wf
  obtain ⟨w0, w1, w2, w3, w4, wP, wC, wS, wX⟩ := wf
  refine z_iconst (n := 0) hx hb dX7_doMeet_0 ?_
  refine lv_istore_n (lv' := [(3, .int (zI 0)), (0, .ref (a 0)), (1, .int (zI x)), (2, .int (zI y))]) hx hb dX7_doMeet_1 rfl hl (by decide) rfl (fun ls hl => ?_)
  -- loop 2
  refine z_loop (nL := 5) (fun (i : Int) => [(0, .ref (a 0)), (1, .int (zI x)), (2, .int (zI y)), (3, .int (zI i))]) (fun (i : Int) => (0 ≤ i ∧ i ≤ 32) ∧ ∀ j, 0 ≤ j → j < i → lineMeet S (S 0 4) x y j = false) (fun (i : Int) => (32 - i).toNat) 0 ⟨by omega, fun j h1 h2 => by omega⟩ (lv_sub hl [1, 2, 3, 0] rfl) (fun i hI ih ls hl => ?_)
  have hl : lv_has ls 5 [(0, .ref (a 0)), (1, .int (zI x)), (2, .int (zI y)), (3, .int (zI i))] := hl
  have ih1 := ih
  obtain ⟨hI, hJ⟩ := hI
  refine lv_iload_n hx hb dX7_doMeet_2 rfl (lv_at hl 3 rfl) ?_
  refine z_bipush (n := 32) hx hb dX7_doMeet_3 (by decide) ?_
  refine z_icmp_ge (tgt := 72) hx hb dX7_doMeet_5 (by decide) (by omega) (by omega) (fun c1 => ?_) (fun c1 => ?_)
  · skip
    refine z_iconst (n := 0) hx hb dX7_doMeet_72 ?_
    exact ro_zret hx hb hr hlk dX7_doMeet_73 (by omega) (congrArg (fun z => Value.int (zI z)) (b2_f (by exact mt_no (fun j h1 h2 => hJ j h1 (by omega)))).symm)
  · skip
    refine lv_aload_n hx hb dX7_doMeet_8 rfl (lv_at hl 0 rfl) ?_
    refine lv_iload_n hx hb dX7_doMeet_9 rfl (lv_at hl 3 rfl) ?_
    refine lv_iload_n hx hb dX7_doMeet_10 rfl (lv_at hl 1 rfl) ?_
    refine z_ro (zrV (As := [.int (zI i), .int (zI x)]) (rest := []) (Pw := fun H => va_P G vwCl (moW cs a kq tq nq) H ∧ va_P G vwCl (m7 cs a 1 0 361 (aI Y)) H) ⟨hx, hb, hml, hown, hts⟩ (c_X7_isShown l G cs a S Y kq tq nq i x wf0 rr (by omega) (by omega)) gX7_doMeet_X7_isShown rfl qX7_isShown rfl rfl ⟨Nat.le_of_ble_eq_true rfl, Nat.le_of_ble_eq_true rfl⟩ ⟨hMo, hRw⟩ hK (va_recv hK.1 hMo (ci := 7) (q0 := 0) rfl rfl) hl.1 rfl (Nat.le_of_ble_eq_true rfl) dX7_doMeet_11 ⟨Nat.le_of_ble_eq_true rfl, Nat.le_of_ble_eq_true rfl⟩) ?_
    refine z_bif_eq (tgt := 66) hx hb dX7_doMeet_14 (by decide) (fun cA => ?_) (fun cA => ?_)
    · skip
      refine z_iinc (k := 3) (lv' := [(3, .int (zI (i + 1))), (0, .ref (a 0)), (1, .int (zI x)), (2, .int (zI y))]) hx hb dX7_doMeet_66 hl rfl (by decide) rfl (fun ls hl => ?_)
      refine lv_goto (tgt := 2) hx hb dX7_doMeet_69 (by decide) ?_
      exact ih1 (i + 1) ⟨by omega, fun j q1 q2 => by
      by_cases e : j = i
      · subst e; exact lm_no (Or.inl cA)
      · exact hJ j q1 (by omega)⟩ (by omega) ls (lv_sub hl [1, 2, 3, 0] rfl)
    · skip
      refine lv_aload_n hx hb dX7_doMeet_17 rfl (lv_at hl 0 rfl) ?_
      refine lv_iload_n hx hb dX7_doMeet_18 rfl (lv_at hl 3 rfl) ?_
      refine lv_iload_n hx hb dX7_doMeet_19 rfl (lv_at hl 2 rfl) ?_
      refine z_ro (zrV (As := [.int (zI i), .int (zI y)]) (rest := []) (Pw := fun H => va_P G vwCl (moW cs a kq tq nq) H ∧ va_P G vwCl (m7 cs a 1 0 361 (aI Y)) H) ⟨hx, hb, hml, hown, hts⟩ (c_X7_isShown l G cs a S Y kq tq nq i y wf0 rr (by omega) (by omega)) gX7_doMeet_X7_isShown rfl qX7_isShown rfl rfl ⟨Nat.le_of_ble_eq_true rfl, Nat.le_of_ble_eq_true rfl⟩ ⟨hMo, hRw⟩ hK (va_recv hK.1 hMo (ci := 7) (q0 := 0) rfl rfl) hl.1 rfl (Nat.le_of_ble_eq_true rfl) dX7_doMeet_20 ⟨Nat.le_of_ble_eq_true rfl, Nat.le_of_ble_eq_true rfl⟩) ?_
      refine z_bif_eq (tgt := 66) hx hb dX7_doMeet_23 (by decide) (fun cB2 => ?_) (fun cB2 => ?_)
      · skip
        refine z_iinc (k := 3) (lv' := [(3, .int (zI (i + 1))), (0, .ref (a 0)), (1, .int (zI x)), (2, .int (zI y))]) hx hb dX7_doMeet_66 hl rfl (by decide) rfl (fun ls hl => ?_)
        refine lv_goto (tgt := 2) hx hb dX7_doMeet_69 (by decide) ?_
        exact ih1 (i + 1) ⟨by omega, fun j q1 q2 => by
      by_cases e : j = i
      · subst e; exact lm_no (Or.inr (Or.inl cB2))
      · exact hJ j q1 (by omega)⟩ (by omega) ls (lv_sub hl [1, 2, 3, 0] rfl)
      · skip
        refine z_iconst (n := 0) hx hb dX7_doMeet_26 ?_
        refine lv_istore (lv' := [(4, .int (zI 0)), (0, .ref (a 0)), (1, .int (zI x)), (2, .int (zI y)), (3, .int (zI i))]) hx hb dX7_doMeet_27 hl (by decide) rfl (fun ls hl => ?_)
        -- loop 29
        refine z_loop (nL := 5) (fun (u : Int) => [(0, .ref (a 0)), (1, .int (zI x)), (2, .int (zI y)), (3, .int (zI i)), (4, .int (zI u))]) (fun (u : Int) => (0 ≤ u ∧ u ≤ 32) ∧ ∀ r, 0 ≤ r → r < u → pixAt S x i r = 0 ∨ pixAt S y i r = 0) (fun (u : Int) => (32 - u).toNat) 0 ⟨by omega, fun j h1 h2 => by omega⟩ (lv_sub hl [1, 2, 3, 4, 0] rfl) (fun u hI ih ls hl => ?_)
        have hl : lv_has ls 5 [(0, .ref (a 0)), (1, .int (zI x)), (2, .int (zI y)), (3, .int (zI i)), (4, .int (zI u))] := hl
        have ih2 := ih
        obtain ⟨hI2, hK9⟩ := hI
        refine lv_iload hx hb dX7_doMeet_29 (lv_at hl 4 rfl) ?_
        refine z_bipush (n := 32) hx hb dX7_doMeet_31 (by decide) ?_
        have hpx := pixAt_r (q := i) (r := u) wf0 hx0
        have hpy := pixAt_r (q := i) (r := u) wf0 hy0
        refine z_icmp_ge (tgt := 66) hx hb dX7_doMeet_33 (by decide) (by omega) (by omega) (fun c2 => ?_) (fun c2 => ?_)
        · skip
          refine z_iinc (k := 3) (lv' := [(3, .int (zI (i + 1))), (0, .ref (a 0)), (1, .int (zI x)), (2, .int (zI y)), (4, .int (zI u))]) hx hb dX7_doMeet_66 hl rfl (by decide) rfl (fun ls hl => ?_)
          refine lv_goto (tgt := 2) hx hb dX7_doMeet_69 (by decide) ?_
          exact ih1 (i + 1) ⟨by omega, fun j q1 q2 => by
      by_cases e : j = i
      · subst e; exact lm_no (Or.inr (Or.inr (fun r h1 h2 => hK9 r h1 (by omega))))
      · exact hJ j q1 (by omega)⟩ (by omega) ls (lv_sub hl [1, 2, 3, 0] rfl)
        · skip
          refine lv_aload_n hx hb dX7_doMeet_36 rfl (lv_at hl 0 rfl) ?_
          refine lv_iload_n hx hb dX7_doMeet_37 rfl (lv_at hl 1 rfl) ?_
          refine lv_iload_n hx hb dX7_doMeet_38 rfl (lv_at hl 3 rfl) ?_
          refine lv_iload hx hb dX7_doMeet_39 (lv_at hl 4 rfl) ?_
          refine z_ro (zrV (As := [.int (zI x), .int (zI i), .int (zI u)]) (rest := []) (Pw := fun H => va_P G vwCl (moW cs a kq tq nq) H ∧ va_P G vwCl (m7 cs a 1 0 361 (aI Y)) H) ⟨hx, hb, hml, hown, hts⟩ (c_X7_pixelAt l G cs a S Y kq tq nq x i u wf0 rr (by omega) (by omega) (by omega)) gX7_doMeet_X7_pixelAt rfl qX7_pixelAt rfl rfl ⟨Nat.le_of_ble_eq_true rfl, Nat.le_of_ble_eq_true rfl⟩ ⟨hMo, hRw⟩ hK (va_recv hK.1 hMo (ci := 7) (q0 := 0) rfl rfl) hl.1 rfl (Nat.le_of_ble_eq_true rfl) dX7_doMeet_41 ⟨Nat.le_of_ble_eq_true rfl, Nat.le_of_ble_eq_true rfl⟩) ?_
          refine z_if_le (tgt := 60) hx hb dX7_doMeet_44 (by decide) (by omega) (fun c3 => ?_) (fun c3 => ?_)
          · skip
            refine z_iinc (k := 4) (lv' := [(4, .int (zI (u + 1))), (0, .ref (a 0)), (1, .int (zI x)), (2, .int (zI y)), (3, .int (zI i))]) hx hb dX7_doMeet_60 hl rfl (by decide) rfl (fun ls hl => ?_)
            refine lv_goto (tgt := 29) hx hb dX7_doMeet_63 (by decide) ?_
            exact ih2 (u + 1) ⟨by omega, fun r q1 q2 => by
      by_cases e : r = u
      · subst e; exact Or.inl (by omega)
      · exact hK9 r q1 (by omega)⟩ (by omega) ls (lv_sub hl [1, 2, 3, 4, 0] rfl)
          · skip
            refine lv_aload_n hx hb dX7_doMeet_47 rfl (lv_at hl 0 rfl) ?_
            refine lv_iload_n hx hb dX7_doMeet_48 rfl (lv_at hl 2 rfl) ?_
            refine lv_iload_n hx hb dX7_doMeet_49 rfl (lv_at hl 3 rfl) ?_
            refine lv_iload hx hb dX7_doMeet_50 (lv_at hl 4 rfl) ?_
            refine z_ro (zrV (As := [.int (zI y), .int (zI i), .int (zI u)]) (rest := []) (Pw := fun H => va_P G vwCl (moW cs a kq tq nq) H ∧ va_P G vwCl (m7 cs a 1 0 361 (aI Y)) H) ⟨hx, hb, hml, hown, hts⟩ (c_X7_pixelAt l G cs a S Y kq tq nq y i u wf0 rr (by omega) (by omega) (by omega)) gX7_doMeet_X7_pixelAt rfl qX7_pixelAt rfl rfl ⟨Nat.le_of_ble_eq_true rfl, Nat.le_of_ble_eq_true rfl⟩ ⟨hMo, hRw⟩ hK (va_recv hK.1 hMo (ci := 7) (q0 := 0) rfl rfl) hl.1 rfl (Nat.le_of_ble_eq_true rfl) dX7_doMeet_52 ⟨Nat.le_of_ble_eq_true rfl, Nat.le_of_ble_eq_true rfl⟩) ?_
            refine z_if_le (tgt := 60) hx hb dX7_doMeet_55 (by decide) (by omega) (fun c4 => ?_) (fun c4 => ?_)
            · skip
              refine z_iinc (k := 4) (lv' := [(4, .int (zI (u + 1))), (0, .ref (a 0)), (1, .int (zI x)), (2, .int (zI y)), (3, .int (zI i))]) hx hb dX7_doMeet_60 hl rfl (by decide) rfl (fun ls hl => ?_)
              refine lv_goto (tgt := 29) hx hb dX7_doMeet_63 (by decide) ?_
              exact ih2 (u + 1) ⟨by omega, fun r q1 q2 => by
      by_cases e : r = u
      · subst e; exact Or.inr (by omega)
      · exact hK9 r q1 (by omega)⟩ (by omega) ls (lv_sub hl [1, 2, 3, 4, 0] rfl)
            · skip
              refine z_iconst (n := 1) hx hb dX7_doMeet_58 ?_
              exact ro_zret hx hb hr hlk dX7_doMeet_59 (by omega) (congrArg (fun z => Value.int (zI z)) (b2_t (by exact mt_yes (q := i) (by omega) (lm_yes (r := u) cA cB2 (by omega) (by omega) (by omega)))).symm)

set_option maxHeartbeats 4000000 in
set_option maxRecDepth 100000 in
theorem c_X7_meet (l : Launch) (G : va_G) (cs : Nat → ClassId) (a : Nat → Nat) (S : SS) (Y : Int → Int) (kq tq nq : Int) (z t : Int) (wf : WF S) (rr : RR S Y) (r_z : -2147483648 ≤ z ∧ z < 2147483648) (r_t : -2147483648 ≤ t ∧ t < 2147483648) : MRO l yX7_meet wsX7_meet { frames := 6, cells := 0, slots := 0, locals := 139 } G cs [.ref (a 0), .int (zI z), .int (zI t)] (fun H => va_P G vwCl (moW cs a kq tq nq) H ∧ va_P G vwCl (m7 cs a 1 0 361 (aI Y)) H) (.int (zI (meetF S z t))) := by
  refine m_intro (Pw := (fun H => va_P G vwCl (moW cs a kq tq nq) H ∧ va_P G vwCl (m7 cs a 1 0 361 (aI Y)) H)) (cc := cX7_meet) (maxL := 3) (ret := some .int) RX7 (by decide) rfl rfl (Nat.le_of_ble_eq_true rfl) ?_
  intro pP eE sS mM below meth cC hx hb hr hts hown hml hlk hnm hPre hK ls hl
  have hl : lv_has ls 3 [(0, .ref (a 0)), (1, .int (zI z)), (2, .int (zI t))] := hl
  obtain ⟨hMo, hRw⟩ := hPre
  have wf0 := wf
  obtain ⟨w0, w1, w2, w3, w4, wP, wC, wS, wX⟩ := wf
  refine lv_aload_n hx hb dX7_meet_0 rfl (lv_at hl 0 rfl) ?_
  refine lv_iload_n hx hb dX7_meet_1 rfl (lv_at hl 1 rfl) ?_
  refine z_ro (zrV (As := [.int (zI z)]) (rest := []) (Pw := fun H => va_P G vwCl (moW cs a kq tq nq) H ∧ va_P G vwCl (m7 cs a 1 0 361 (aI Y)) H) ⟨hx, hb, hml, hown, hts⟩ (c_X7_noSprite l G cs a S Y kq tq nq z wf0 rr (by omega)) gX7_meet_X7_noSprite rfl qX7_noSprite rfl rfl ⟨Nat.le_of_ble_eq_true rfl, Nat.le_of_ble_eq_true rfl⟩ ⟨hMo, hRw⟩ hK (va_recv hK.1 hMo (ci := 7) (q0 := 0) rfl rfl) hl.1 rfl (Nat.le_of_ble_eq_true rfl) dX7_meet_2 ⟨Nat.le_of_ble_eq_true rfl, Nat.le_of_ble_eq_true rfl⟩) ?_
  refine z_bif_ne (tgt := 16) hx hb dX7_meet_5 (by decide) (fun c1 => ?_) (fun c1 => ?_)
  · skip
    simp only [decide_eq_true_eq] at c1
    refine z_iconst (n := -1) hx hb dX7_meet_16 ?_
    exact ro_iret hx hb hr hlk dX7_meet_17 (congrArg (fun z => Value.int (zI z)) (by unfold meetF; rw [if_pos (show ¬ ((0 ≤ z ∧ z < S 0 1) ∧ (0 ≤ t ∧ t < S 0 1)) by omega)]))
  · skip
    simp only [decide_eq_false_iff_not] at c1
    refine lv_aload_n hx hb dX7_meet_8 rfl (lv_at hl 0 rfl) ?_
    refine lv_iload_n hx hb dX7_meet_9 rfl (lv_at hl 2 rfl) ?_
    refine z_ro (zrV (As := [.int (zI t)]) (rest := []) (Pw := fun H => va_P G vwCl (moW cs a kq tq nq) H ∧ va_P G vwCl (m7 cs a 1 0 361 (aI Y)) H) ⟨hx, hb, hml, hown, hts⟩ (c_X7_noSprite l G cs a S Y kq tq nq t wf0 rr (by omega)) gX7_meet_X7_noSprite rfl qX7_noSprite rfl rfl ⟨Nat.le_of_ble_eq_true rfl, Nat.le_of_ble_eq_true rfl⟩ ⟨hMo, hRw⟩ hK (va_recv hK.1 hMo (ci := 7) (q0 := 0) rfl rfl) hl.1 rfl (Nat.le_of_ble_eq_true rfl) dX7_meet_10 ⟨Nat.le_of_ble_eq_true rfl, Nat.le_of_ble_eq_true rfl⟩) ?_
    refine z_bif_eq (tgt := 18) hx hb dX7_meet_13 (by decide) (fun c2 => ?_) (fun c2 => ?_)
    · skip
      simp only [decide_eq_false_iff_not] at c2
      refine lv_iload_n hx hb dX7_meet_18 rfl (lv_at hl 1 rfl) ?_
      refine lv_iload_n hx hb dX7_meet_19 rfl (lv_at hl 2 rfl) ?_
      refine z_icmp_ne (tgt := 28) hx hb dX7_meet_20 (by decide) (by omega) (by omega) (fun c3 => ?_) (fun c3 => ?_)
      · skip
        refine lv_aload_n hx hb dX7_meet_28 rfl (lv_at hl 0 rfl) ?_
        refine lv_iload_n hx hb dX7_meet_29 rfl (lv_at hl 1 rfl) ?_
        refine lv_iload_n hx hb dX7_meet_30 rfl (lv_at hl 2 rfl) ?_
        refine z_ro (zrV (As := [.int (zI z), .int (zI t)]) (rest := []) (Pw := fun H => va_P G vwCl (moW cs a kq tq nq) H ∧ va_P G vwCl (m7 cs a 1 0 361 (aI Y)) H) ⟨hx, hb, hml, hown, hts⟩ (c_X7_doMeet l G cs a S Y kq tq nq z t wf0 rr (by omega) (by omega)) gX7_meet_X7_doMeet rfl qX7_doMeet rfl rfl ⟨Nat.le_of_ble_eq_true rfl, Nat.le_of_ble_eq_true rfl⟩ ⟨hMo, hRw⟩ hK (va_recv hK.1 hMo (ci := 7) (q0 := 0) rfl rfl) hl.1 rfl (Nat.le_of_ble_eq_true rfl) dX7_meet_31 ⟨Nat.le_of_ble_eq_true rfl, Nat.le_of_ble_eq_true rfl⟩) ?_
        refine z_bif_eq (tgt := 41) hx hb dX7_meet_34 (by decide) (fun c4 => ?_) (fun c4 => ?_)
        · skip
          refine z_iconst (n := 0) hx hb dX7_meet_41 ?_
          exact ro_iret hx hb hr hlk dX7_meet_42 (congrArg (fun z => Value.int (zI z)) (by unfold meetF; rw [if_neg (show ¬ ¬ ((0 ≤ z ∧ z < S 0 1) ∧ (0 ≤ t ∧ t < S 0 1)) by omega), if_neg c3, c4]; rfl))
        · skip
          refine z_iconst (n := 1) hx hb dX7_meet_37 ?_
          refine lv_goto (tgt := 42) hx hb dX7_meet_38 (by decide) ?_
          exact ro_iret hx hb hr hlk dX7_meet_42 (congrArg (fun z => Value.int (zI z)) (by unfold meetF; rw [if_neg (show ¬ ¬ ((0 ≤ z ∧ z < S 0 1) ∧ (0 ≤ t ∧ t < S 0 1)) by omega), if_neg c3, c4]; rfl))
      · skip
        refine z_bipush (n := -2) hx hb dX7_meet_23 (by decide) ?_
        refine lv_goto (tgt := 42) hx hb dX7_meet_25 (by decide) ?_
        exact ro_iret hx hb hr hlk dX7_meet_42 (congrArg (fun z => Value.int (zI z)) (by unfold meetF; rw [if_neg (show ¬ ¬ ((0 ≤ z ∧ z < S 0 1) ∧ (0 ≤ t ∧ t < S 0 1)) by omega), if_pos c3]))
    · skip
      simp only [decide_eq_true_eq] at c2
      refine z_iconst (n := -1) hx hb dX7_meet_16 ?_
      exact ro_iret hx hb hr hlk dX7_meet_17 (congrArg (fun z => Value.int (zI z)) (by unfold meetF; rw [if_pos (show ¬ ((0 ≤ z ∧ z < S 0 1) ∧ (0 ≤ t ∧ t < S 0 1)) by omega)]))

set_option maxHeartbeats 4000000 in
set_option maxRecDepth 100000 in
theorem c_X7_metBy (l : Launch) (G : va_G) (cs : Nat → ClassId) (a : Nat → Nat) (S : SS) (Y : Int → Int) (kq tq nq : Int) (x : Int) (wf : WF S) (rr : RR S Y) (hx0 : 0 ≤ x ∧ x < S 0 1) : MRO l yX7_metBy wsX7_metBy { frames := 6, cells := 0, slots := 0, locals := 139 } G cs [.ref (a 0), .int (zI x)] (fun H => va_P G vwCl (moW cs a kq tq nq) H ∧ va_P G vwCl (m7 cs a 1 0 361 (aI Y)) H) (.int (zI (metF S (S 0 4) x))) := by
  refine m_intro (Pw := (fun H => va_P G vwCl (moW cs a kq tq nq) H ∧ va_P G vwCl (m7 cs a 1 0 361 (aI Y)) H)) (cc := cX7_metBy) (maxL := 4) (ret := some .int) RX7 (by decide) rfl rfl (Nat.le_of_ble_eq_true rfl) ?_
  intro pP eE sS mM below meth cC hx hb hr hts hown hml hlk hnm hPre hK ls hl
  have hl : lv_has ls 4 [(0, .ref (a 0)), (1, .int (zI x))] := hl
  obtain ⟨hMo, hRw⟩ := hPre
  have wf0 := wf
  obtain ⟨w0, w1, w2, w3, w4, wP, wC, wS, wX⟩ := wf
  refine z_iconst (n := 0) hx hb dX7_metBy_0 ?_
  refine lv_istore_n (lv' := [(2, .int (zI 0)), (0, .ref (a 0)), (1, .int (zI x))]) hx hb dX7_metBy_1 rfl hl (by decide) rfl (fun ls hl => ?_)
  refine z_iconst (n := 0) hx hb dX7_metBy_2 ?_
  refine lv_istore_n (lv' := [(3, .int (zI 0)), (2, .int (zI 0)), (0, .ref (a 0)), (1, .int (zI x))]) hx hb dX7_metBy_3 rfl hl (by decide) rfl (fun ls hl => ?_)
  -- loop 4
  refine z_loop (nL := 4) (fun (i : Int) => [(0, .ref (a 0)), (1, .int (zI x)), (2, .int (zI (cntI (fun y => decide (y ≠ x) && meetB S (S 0 4) x y) i))), (3, .int (zI i))]) (fun (i : Int) => 0 ≤ i ∧ i ≤ S 0 1) (fun (i : Int) => (S 0 1 - i).toNat) 0 (by omega) (lv_sub hl [2, 3, 1, 0] rfl) (fun i hI ih ls hl => ?_)
  have hl : lv_has ls 4 [(0, .ref (a 0)), (1, .int (zI x)), (2, .int (zI (cntI (fun y => decide (y ≠ x) && meetB S (S 0 4) x y) i))), (3, .int (zI i))] := hl
  have hc := cntI_r (fun y => decide (y ≠ x) && meetB S (S 0 4) x y) hI.1
  refine lv_iload_n hx hb dX7_metBy_4 rfl (lv_at hl 3 rfl) ?_
  refine lv_aload_n hx hb dX7_metBy_5 rfl (lv_at hl 0 rfl) ?_
  refine z_ro (zrV (As := []) (rest := [.int (zI i)]) (Pw := fun H => va_P G vwCl (moW cs a kq tq nq) H ∧ va_P G vwCl (m7 cs a 1 0 361 (aI Y)) H) ⟨hx, hb, hml, hown, hts⟩ (c_X7_sprites l G cs a S Y kq tq nq rr) gX7_metBy_X7_sprites rfl qX7_sprites rfl rfl ⟨Nat.le_of_ble_eq_true rfl, Nat.le_of_ble_eq_true rfl⟩ ⟨hMo, hRw⟩ hK (va_recv hK.1 hMo (ci := 7) (q0 := 0) rfl rfl) hl.1 rfl (Nat.le_of_ble_eq_true rfl) dX7_metBy_6 ⟨Nat.le_of_ble_eq_true rfl, Nat.le_of_ble_eq_true rfl⟩) ?_
  refine z_icmp_ge (tgt := 40) hx hb dX7_metBy_9 (by decide) (by omega) (by omega) (fun c1 => ?_) (fun c1 => ?_)
  · skip
    refine lv_iload_n hx hb dX7_metBy_40 rfl (lv_at hl 2 rfl) ?_
    exact ro_iret hx hb hr hlk dX7_metBy_41 (congrArg (fun z => Value.int (zI z)) (by rw [show i = S 0 1 by omega]; rfl))
  · skip
    refine lv_iload_n hx hb dX7_metBy_12 rfl (lv_at hl 2 rfl) ?_
    refine lv_iload_n hx hb dX7_metBy_13 rfl (lv_at hl 3 rfl) ?_
    refine lv_iload_n hx hb dX7_metBy_14 rfl (lv_at hl 1 rfl) ?_
    refine z_icmp_eq (tgt := 31) hx hb dX7_metBy_15 (by decide) (by omega) (by omega) (fun c2 => ?_) (fun c2 => ?_)
    · skip
      refine z_iconst (n := 0) hx hb dX7_metBy_31 ?_
      refine z_iadd hx hb dX7_metBy_32 ?_
      refine lv_istore_n (lv' := [(2, .int (zI ((cntI (fun y => decide (y ≠ x) && meetB S (S 0 4) x y) i) + 0))), (0, .ref (a 0)), (1, .int (zI x)), (3, .int (zI i))]) hx hb dX7_metBy_33 rfl hl (by decide) rfl (fun ls hl => ?_)
      refine z_iinc (k := 3) (lv' := [(3, .int (zI (i + 1))), (2, .int (zI ((cntI (fun y => decide (y ≠ x) && meetB S (S 0 4) x y) i) + 0))), (0, .ref (a 0)), (1, .int (zI x))]) hx hb dX7_metBy_34 hl rfl (by decide) rfl (fun ls hl => ?_)
      refine lv_goto (tgt := 4) hx hb dX7_metBy_37 (by decide) ?_
      exact ih (i + 1) (by omega) (by omega) ls (by show lv_has ls 4 [(0, .ref (a 0)), (1, .int (zI x)), (2, .int (zI (cntI (fun y => decide (y ≠ x) && meetB S (S 0 4) x y) (i + 1)))), (3, .int (zI (i + 1)))]; rw [cntI_z (f := fun y => decide (y ≠ x) && meetB S (S 0 4) x y) hI.1 (show (decide (i ≠ x) && meetB S (S 0 4) x i) = false by rw [decide_eq_false (show ¬ i ≠ x from fun h9 => h9 c2), Bool.false_and])]; exact lv_sub hl [2, 3, 1, 0] rfl)
    · skip
      refine lv_aload_n hx hb dX7_metBy_18 rfl (lv_at hl 0 rfl) ?_
      refine lv_iload_n hx hb dX7_metBy_19 rfl (lv_at hl 1 rfl) ?_
      refine lv_iload_n hx hb dX7_metBy_20 rfl (lv_at hl 3 rfl) ?_
      refine z_ro (zrV (As := [.int (zI x), .int (zI i)]) (rest := [.int (zI (cntI (fun y => decide (y ≠ x) && meetB S (S 0 4) x y) i))]) (Pw := fun H => va_P G vwCl (moW cs a kq tq nq) H ∧ va_P G vwCl (m7 cs a 1 0 361 (aI Y)) H) ⟨hx, hb, hml, hown, hts⟩ (c_X7_doMeet l G cs a S Y kq tq nq x i wf0 rr (by omega) (by omega)) gX7_metBy_X7_doMeet rfl qX7_doMeet rfl rfl ⟨Nat.le_of_ble_eq_true rfl, Nat.le_of_ble_eq_true rfl⟩ ⟨hMo, hRw⟩ hK (va_recv hK.1 hMo (ci := 7) (q0 := 0) rfl rfl) hl.1 rfl (Nat.le_of_ble_eq_true rfl) dX7_metBy_21 ⟨Nat.le_of_ble_eq_true rfl, Nat.le_of_ble_eq_true rfl⟩) ?_
      refine z_bif_eq (tgt := 31) hx hb dX7_metBy_24 (by decide) (fun c3 => ?_) (fun c3 => ?_)
      · skip
        refine z_iconst (n := 0) hx hb dX7_metBy_31 ?_
        refine z_iadd hx hb dX7_metBy_32 ?_
        refine lv_istore_n (lv' := [(2, .int (zI ((cntI (fun y => decide (y ≠ x) && meetB S (S 0 4) x y) i) + 0))), (0, .ref (a 0)), (1, .int (zI x)), (3, .int (zI i))]) hx hb dX7_metBy_33 rfl hl (by decide) rfl (fun ls hl => ?_)
        refine z_iinc (k := 3) (lv' := [(3, .int (zI (i + 1))), (2, .int (zI ((cntI (fun y => decide (y ≠ x) && meetB S (S 0 4) x y) i) + 0))), (0, .ref (a 0)), (1, .int (zI x))]) hx hb dX7_metBy_34 hl rfl (by decide) rfl (fun ls hl => ?_)
        refine lv_goto (tgt := 4) hx hb dX7_metBy_37 (by decide) ?_
        exact ih (i + 1) (by omega) (by omega) ls (by show lv_has ls 4 [(0, .ref (a 0)), (1, .int (zI x)), (2, .int (zI (cntI (fun y => decide (y ≠ x) && meetB S (S 0 4) x y) (i + 1)))), (3, .int (zI (i + 1)))]; rw [cntI_z (f := fun y => decide (y ≠ x) && meetB S (S 0 4) x y) hI.1 (show (decide (i ≠ x) && meetB S (S 0 4) x i) = false by rw [c3, Bool.and_false])]; exact lv_sub hl [2, 3, 1, 0] rfl)
      · skip
        refine z_iconst (n := 1) hx hb dX7_metBy_27 ?_
        refine lv_goto (tgt := 32) hx hb dX7_metBy_28 (by decide) ?_
        refine z_iadd hx hb dX7_metBy_32 ?_
        refine lv_istore_n (lv' := [(2, .int (zI ((cntI (fun y => decide (y ≠ x) && meetB S (S 0 4) x y) i) + 1))), (0, .ref (a 0)), (1, .int (zI x)), (3, .int (zI i))]) hx hb dX7_metBy_33 rfl hl (by decide) rfl (fun ls hl => ?_)
        refine z_iinc (k := 3) (lv' := [(3, .int (zI (i + 1))), (2, .int (zI ((cntI (fun y => decide (y ≠ x) && meetB S (S 0 4) x y) i) + 1))), (0, .ref (a 0)), (1, .int (zI x))]) hx hb dX7_metBy_34 hl rfl (by decide) rfl (fun ls hl => ?_)
        refine lv_goto (tgt := 4) hx hb dX7_metBy_37 (by decide) ?_
        exact ih (i + 1) (by omega) (by omega) ls (by show lv_has ls 4 [(0, .ref (a 0)), (1, .int (zI x)), (2, .int (zI (cntI (fun y => decide (y ≠ x) && meetB S (S 0 4) x y) (i + 1)))), (3, .int (zI (i + 1)))]; rw [cntI_t (f := fun y => decide (y ≠ x) && meetB S (S 0 4) x y) hI.1 (show (decide (i ≠ x) && meetB S (S 0 4) x i) = true by rw [c3, decide_eq_true c2]; rfl)]; exact lv_sub hl [2, 3, 1, 0] rfl)

set_option maxHeartbeats 4000000 in
set_option maxRecDepth 100000 in
theorem c_X7_linesShowing (l : Launch) (G : va_G) (cs : Nat → ClassId) (a : Nat → Nat) (S : SS) (Y : Int → Int) (kq tq nq : Int) (x : Int) (wf : WF S) (rr : RR S Y) (hx0 : 0 ≤ x ∧ x < S 0 1) : MRO l yX7_linesShowing wsX7_linesShowing { frames := 5, cells := 0, slots := 0, locals := 115 } G cs [.ref (a 0), .int (zI x)] (fun H => va_P G vwCl (moW cs a kq tq nq) H ∧ va_P G vwCl (m7 cs a 1 0 361 (aI Y)) H) (.int (zI (cntI (fun q => shownB S q (S 0 4) x) 32))) := by
  refine m_intro (Pw := (fun H => va_P G vwCl (moW cs a kq tq nq) H ∧ va_P G vwCl (m7 cs a 1 0 361 (aI Y)) H)) (cc := cX7_linesShowing) (maxL := 4) (ret := some .int) RX7 (by decide) rfl rfl (Nat.le_of_ble_eq_true rfl) ?_
  intro pP eE sS mM below meth cC hx hb hr hts hown hml hlk hnm hPre hK ls hl
  have hl : lv_has ls 4 [(0, .ref (a 0)), (1, .int (zI x))] := hl
  obtain ⟨hMo, hRw⟩ := hPre
  have wf0 := wf
  obtain ⟨w0, w1, w2, w3, w4, wP, wC, wS, wX⟩ := wf
  refine z_iconst (n := 0) hx hb dX7_linesShowing_0 ?_
  refine lv_istore_n (lv' := [(2, .int (zI 0)), (0, .ref (a 0)), (1, .int (zI x))]) hx hb dX7_linesShowing_1 rfl hl (by decide) rfl (fun ls hl => ?_)
  refine z_iconst (n := 0) hx hb dX7_linesShowing_2 ?_
  refine lv_istore_n (lv' := [(3, .int (zI 0)), (2, .int (zI 0)), (0, .ref (a 0)), (1, .int (zI x))]) hx hb dX7_linesShowing_3 rfl hl (by decide) rfl (fun ls hl => ?_)
  -- loop 4
  refine z_loop (nL := 4) (fun (i : Int) => [(0, .ref (a 0)), (1, .int (zI x)), (2, .int (zI (cntI (fun q => shownB S q (S 0 4) x) i))), (3, .int (zI i))]) (fun (i : Int) => 0 ≤ i ∧ i ≤ 32) (fun (i : Int) => (32 - i).toNat) 0 (by omega) (lv_sub hl [2, 3, 1, 0] rfl) (fun i hI ih ls hl => ?_)
  have hl : lv_has ls 4 [(0, .ref (a 0)), (1, .int (zI x)), (2, .int (zI (cntI (fun q => shownB S q (S 0 4) x) i))), (3, .int (zI i))] := hl
  have hc := cntI_r (fun q => shownB S q (S 0 4) x) hI.1
  refine lv_iload_n hx hb dX7_linesShowing_4 rfl (lv_at hl 3 rfl) ?_
  refine z_bipush (n := 32) hx hb dX7_linesShowing_5 (by decide) ?_
  refine z_icmp_ge (tgt := 33) hx hb dX7_linesShowing_7 (by decide) (by omega) (by omega) (fun c1 => ?_) (fun c1 => ?_)
  · skip
    refine lv_iload_n hx hb dX7_linesShowing_33 rfl (lv_at hl 2 rfl) ?_
    exact ro_iret hx hb hr hlk dX7_linesShowing_34 (congrArg (fun z => Value.int (zI z)) (by rw [show i = 32 by omega]))
  · skip
    refine lv_iload_n hx hb dX7_linesShowing_10 rfl (lv_at hl 2 rfl) ?_
    refine lv_aload_n hx hb dX7_linesShowing_11 rfl (lv_at hl 0 rfl) ?_
    refine lv_iload_n hx hb dX7_linesShowing_12 rfl (lv_at hl 3 rfl) ?_
    refine lv_iload_n hx hb dX7_linesShowing_13 rfl (lv_at hl 1 rfl) ?_
    refine z_ro (zrV (As := [.int (zI i), .int (zI x)]) (rest := [.int (zI (cntI (fun q => shownB S q (S 0 4) x) i))]) (Pw := fun H => va_P G vwCl (moW cs a kq tq nq) H ∧ va_P G vwCl (m7 cs a 1 0 361 (aI Y)) H) ⟨hx, hb, hml, hown, hts⟩ (c_X7_isShown l G cs a S Y kq tq nq i x wf0 rr (by omega) (by omega)) gX7_linesShowing_X7_isShown rfl qX7_isShown rfl rfl ⟨Nat.le_of_ble_eq_true rfl, Nat.le_of_ble_eq_true rfl⟩ ⟨hMo, hRw⟩ hK (va_recv hK.1 hMo (ci := 7) (q0 := 0) rfl rfl) hl.1 rfl (Nat.le_of_ble_eq_true rfl) dX7_linesShowing_14 ⟨Nat.le_of_ble_eq_true rfl, Nat.le_of_ble_eq_true rfl⟩) ?_
    refine z_bif_eq (tgt := 24) hx hb dX7_linesShowing_17 (by decide) (fun c2 => ?_) (fun c2 => ?_)
    · skip
      refine z_iconst (n := 0) hx hb dX7_linesShowing_24 ?_
      refine z_iadd hx hb dX7_linesShowing_25 ?_
      refine lv_istore_n (lv' := [(2, .int (zI ((cntI (fun q => shownB S q (S 0 4) x) i) + 0))), (0, .ref (a 0)), (1, .int (zI x)), (3, .int (zI i))]) hx hb dX7_linesShowing_26 rfl hl (by decide) rfl (fun ls hl => ?_)
      refine z_iinc (k := 3) (lv' := [(3, .int (zI (i + 1))), (2, .int (zI ((cntI (fun q => shownB S q (S 0 4) x) i) + 0))), (0, .ref (a 0)), (1, .int (zI x))]) hx hb dX7_linesShowing_27 hl rfl (by decide) rfl (fun ls hl => ?_)
      refine lv_goto (tgt := 4) hx hb dX7_linesShowing_30 (by decide) ?_
      exact ih (i + 1) (by omega) (by omega) ls (by show lv_has ls 4 [(0, .ref (a 0)), (1, .int (zI x)), (2, .int (zI (cntI (fun q => shownB S q (S 0 4) x) (i + 1)))), (3, .int (zI (i + 1)))]; rw [cntI_z (f := fun q => shownB S q (S 0 4) x) hI.1 c2]; exact lv_sub hl [2, 3, 1, 0] rfl)
    · skip
      refine z_iconst (n := 1) hx hb dX7_linesShowing_20 ?_
      refine lv_goto (tgt := 25) hx hb dX7_linesShowing_21 (by decide) ?_
      refine z_iadd hx hb dX7_linesShowing_25 ?_
      refine lv_istore_n (lv' := [(2, .int (zI ((cntI (fun q => shownB S q (S 0 4) x) i) + 1))), (0, .ref (a 0)), (1, .int (zI x)), (3, .int (zI i))]) hx hb dX7_linesShowing_26 rfl hl (by decide) rfl (fun ls hl => ?_)
      refine z_iinc (k := 3) (lv' := [(3, .int (zI (i + 1))), (2, .int (zI ((cntI (fun q => shownB S q (S 0 4) x) i) + 1))), (0, .ref (a 0)), (1, .int (zI x))]) hx hb dX7_linesShowing_27 hl rfl (by decide) rfl (fun ls hl => ?_)
      refine lv_goto (tgt := 4) hx hb dX7_linesShowing_30 (by decide) ?_
      exact ih (i + 1) (by omega) (by omega) ls (by show lv_has ls 4 [(0, .ref (a 0)), (1, .int (zI x)), (2, .int (zI (cntI (fun q => shownB S q (S 0 4) x) (i + 1)))), (3, .int (zI (i + 1)))]; rw [cntI_t (f := fun q => shownB S q (S 0 4) x) hI.1 c2]; exact lv_sub hl [2, 3, 1, 0] rfl)

set_option maxHeartbeats 4000000 in
set_option maxRecDepth 100000 in
theorem c_X7_sprite (l : Launch) (G : va_G) (cs : Nat → ClassId) (a : Nat → Nat) (S : SS) (Y : Int → Int) (kq tq nq : Int) (z t : Int) (wf : WF S) (rr : RR S Y) (r_z : -2147483648 ≤ z ∧ z < 2147483648) (r_t : -2147483648 ≤ t ∧ t < 2147483648) : MRO l yX7_sprite wsX7_sprite { frames := 7, cells := 0, slots := 0, locals := 162 } G cs [.ref (a 0), .int (zI z), .int (zI t)] (fun H => va_P G vwCl (moW cs a kq tq nq) H ∧ va_P G vwCl (m7 cs a 1 0 361 (aI Y)) H) (.int (zI (spriteF S z t))) := by
  refine m_intro (Pw := (fun H => va_P G vwCl (moW cs a kq tq nq) H ∧ va_P G vwCl (m7 cs a 1 0 361 (aI Y)) H)) (cc := cX7_sprite) (maxL := 3) (ret := some .int) RX7 (by decide) rfl rfl (Nat.le_of_ble_eq_true rfl) ?_
  intro pP eE sS mM below meth cC hx hb hr hts hown hml hlk hnm hPre hK ls hl
  have hl : lv_has ls 3 [(0, .ref (a 0)), (1, .int (zI z)), (2, .int (zI t))] := hl
  obtain ⟨hMo, hRw⟩ := hPre
  have wf0 := wf
  obtain ⟨w0, w1, w2, w3, w4, wP, wC, wS, wX⟩ := wf
  refine lv_aload_n hx hb dX7_sprite_0 rfl (lv_at hl 0 rfl) ?_
  refine lv_iload_n hx hb dX7_sprite_1 rfl (lv_at hl 1 rfl) ?_
  refine z_ro (zrV (As := [.int (zI z)]) (rest := []) (Pw := fun H => va_P G vwCl (moW cs a kq tq nq) H ∧ va_P G vwCl (m7 cs a 1 0 361 (aI Y)) H) ⟨hx, hb, hml, hown, hts⟩ (c_X7_noSprite l G cs a S Y kq tq nq z wf0 rr (by omega)) gX7_sprite_X7_noSprite rfl qX7_noSprite rfl rfl ⟨Nat.le_of_ble_eq_true rfl, Nat.le_of_ble_eq_true rfl⟩ ⟨hMo, hRw⟩ hK (va_recv hK.1 hMo (ci := 7) (q0 := 0) rfl rfl) hl.1 rfl (Nat.le_of_ble_eq_true rfl) dX7_sprite_2 ⟨Nat.le_of_ble_eq_true rfl, Nat.le_of_ble_eq_true rfl⟩) ?_
  refine z_bif_eq (tgt := 10) hx hb dX7_sprite_5 (by decide) (fun c1 => ?_) (fun c1 => ?_)
  · skip
    simp only [decide_eq_false_iff_not] at c1
    refine lv_iload_n hx hb dX7_sprite_10 rfl (lv_at hl 2 rfl) ?_
    by_cases t1 : t = 0
    · refine z_tableIn (j := 0) (off := 49) (tgt := 60) hx hb dX7_sprite_11 t1 (by decide) (by decide) (by decide) rfl (by decide) ?_
      refine lv_aload_n hx hb dX7_sprite_60 rfl (lv_at hl 0 rfl) ?_
      refine lv_iload_n hx hb dX7_sprite_61 rfl (lv_at hl 1 rfl) ?_
      refine lv_iload_n hx hb dX7_sprite_62 rfl (lv_at hl 2 rfl) ?_
      refine z_ro (zrV (As := [.int (zI z), .int (zI t)]) (rest := []) (Pw := fun H => va_P G vwCl (moW cs a kq tq nq) H ∧ va_P G vwCl (m7 cs a 1 0 361 (aI Y)) H) ⟨hx, hb, hml, hown, hts⟩ (c_X7_of l G cs a S Y kq tq nq z t wf0 rr (by omega) (by omega)) gX7_sprite_X7_of rfl qX7_of rfl rfl ⟨Nat.le_of_ble_eq_true rfl, Nat.le_of_ble_eq_true rfl⟩ ⟨hMo, hRw⟩ hK (va_recv hK.1 hMo (ci := 7) (q0 := 0) rfl rfl) hl.1 rfl (Nat.le_of_ble_eq_true rfl) dX7_sprite_63 ⟨Nat.le_of_ble_eq_true rfl, Nat.le_of_ble_eq_true rfl⟩) ?_
      exact ro_iret hx hb hr hlk dX7_sprite_66 (congrArg (fun z => Value.int (zI z)) (by unfold spriteF; rw [if_neg (show ¬ (¬ (0 ≤ z ∧ z < S 0 1)) by omega), if_pos (show 0 ≤ t ∧ t < 6 by omega)]))
    by_cases t2 : t = 1
    · refine z_tableIn (j := 1) (off := 49) (tgt := 60) hx hb dX7_sprite_11 t2 (by decide) (by decide) (by decide) rfl (by decide) ?_
      refine lv_aload_n hx hb dX7_sprite_60 rfl (lv_at hl 0 rfl) ?_
      refine lv_iload_n hx hb dX7_sprite_61 rfl (lv_at hl 1 rfl) ?_
      refine lv_iload_n hx hb dX7_sprite_62 rfl (lv_at hl 2 rfl) ?_
      refine z_ro (zrV (As := [.int (zI z), .int (zI t)]) (rest := []) (Pw := fun H => va_P G vwCl (moW cs a kq tq nq) H ∧ va_P G vwCl (m7 cs a 1 0 361 (aI Y)) H) ⟨hx, hb, hml, hown, hts⟩ (c_X7_of l G cs a S Y kq tq nq z t wf0 rr (by omega) (by omega)) gX7_sprite_X7_of rfl qX7_of rfl rfl ⟨Nat.le_of_ble_eq_true rfl, Nat.le_of_ble_eq_true rfl⟩ ⟨hMo, hRw⟩ hK (va_recv hK.1 hMo (ci := 7) (q0 := 0) rfl rfl) hl.1 rfl (Nat.le_of_ble_eq_true rfl) dX7_sprite_63 ⟨Nat.le_of_ble_eq_true rfl, Nat.le_of_ble_eq_true rfl⟩) ?_
      exact ro_iret hx hb hr hlk dX7_sprite_66 (congrArg (fun z => Value.int (zI z)) (by unfold spriteF; rw [if_neg (show ¬ (¬ (0 ≤ z ∧ z < S 0 1)) by omega), if_pos (show 0 ≤ t ∧ t < 6 by omega)]))
    by_cases t3 : t = 2
    · refine z_tableIn (j := 2) (off := 49) (tgt := 60) hx hb dX7_sprite_11 t3 (by decide) (by decide) (by decide) rfl (by decide) ?_
      refine lv_aload_n hx hb dX7_sprite_60 rfl (lv_at hl 0 rfl) ?_
      refine lv_iload_n hx hb dX7_sprite_61 rfl (lv_at hl 1 rfl) ?_
      refine lv_iload_n hx hb dX7_sprite_62 rfl (lv_at hl 2 rfl) ?_
      refine z_ro (zrV (As := [.int (zI z), .int (zI t)]) (rest := []) (Pw := fun H => va_P G vwCl (moW cs a kq tq nq) H ∧ va_P G vwCl (m7 cs a 1 0 361 (aI Y)) H) ⟨hx, hb, hml, hown, hts⟩ (c_X7_of l G cs a S Y kq tq nq z t wf0 rr (by omega) (by omega)) gX7_sprite_X7_of rfl qX7_of rfl rfl ⟨Nat.le_of_ble_eq_true rfl, Nat.le_of_ble_eq_true rfl⟩ ⟨hMo, hRw⟩ hK (va_recv hK.1 hMo (ci := 7) (q0 := 0) rfl rfl) hl.1 rfl (Nat.le_of_ble_eq_true rfl) dX7_sprite_63 ⟨Nat.le_of_ble_eq_true rfl, Nat.le_of_ble_eq_true rfl⟩) ?_
      exact ro_iret hx hb hr hlk dX7_sprite_66 (congrArg (fun z => Value.int (zI z)) (by unfold spriteF; rw [if_neg (show ¬ (¬ (0 ≤ z ∧ z < S 0 1)) by omega), if_pos (show 0 ≤ t ∧ t < 6 by omega)]))
    by_cases t4 : t = 3
    · refine z_tableIn (j := 3) (off := 49) (tgt := 60) hx hb dX7_sprite_11 t4 (by decide) (by decide) (by decide) rfl (by decide) ?_
      refine lv_aload_n hx hb dX7_sprite_60 rfl (lv_at hl 0 rfl) ?_
      refine lv_iload_n hx hb dX7_sprite_61 rfl (lv_at hl 1 rfl) ?_
      refine lv_iload_n hx hb dX7_sprite_62 rfl (lv_at hl 2 rfl) ?_
      refine z_ro (zrV (As := [.int (zI z), .int (zI t)]) (rest := []) (Pw := fun H => va_P G vwCl (moW cs a kq tq nq) H ∧ va_P G vwCl (m7 cs a 1 0 361 (aI Y)) H) ⟨hx, hb, hml, hown, hts⟩ (c_X7_of l G cs a S Y kq tq nq z t wf0 rr (by omega) (by omega)) gX7_sprite_X7_of rfl qX7_of rfl rfl ⟨Nat.le_of_ble_eq_true rfl, Nat.le_of_ble_eq_true rfl⟩ ⟨hMo, hRw⟩ hK (va_recv hK.1 hMo (ci := 7) (q0 := 0) rfl rfl) hl.1 rfl (Nat.le_of_ble_eq_true rfl) dX7_sprite_63 ⟨Nat.le_of_ble_eq_true rfl, Nat.le_of_ble_eq_true rfl⟩) ?_
      exact ro_iret hx hb hr hlk dX7_sprite_66 (congrArg (fun z => Value.int (zI z)) (by unfold spriteF; rw [if_neg (show ¬ (¬ (0 ≤ z ∧ z < S 0 1)) by omega), if_pos (show 0 ≤ t ∧ t < 6 by omega)]))
    by_cases t5 : t = 4
    · refine z_tableIn (j := 4) (off := 49) (tgt := 60) hx hb dX7_sprite_11 t5 (by decide) (by decide) (by decide) rfl (by decide) ?_
      refine lv_aload_n hx hb dX7_sprite_60 rfl (lv_at hl 0 rfl) ?_
      refine lv_iload_n hx hb dX7_sprite_61 rfl (lv_at hl 1 rfl) ?_
      refine lv_iload_n hx hb dX7_sprite_62 rfl (lv_at hl 2 rfl) ?_
      refine z_ro (zrV (As := [.int (zI z), .int (zI t)]) (rest := []) (Pw := fun H => va_P G vwCl (moW cs a kq tq nq) H ∧ va_P G vwCl (m7 cs a 1 0 361 (aI Y)) H) ⟨hx, hb, hml, hown, hts⟩ (c_X7_of l G cs a S Y kq tq nq z t wf0 rr (by omega) (by omega)) gX7_sprite_X7_of rfl qX7_of rfl rfl ⟨Nat.le_of_ble_eq_true rfl, Nat.le_of_ble_eq_true rfl⟩ ⟨hMo, hRw⟩ hK (va_recv hK.1 hMo (ci := 7) (q0 := 0) rfl rfl) hl.1 rfl (Nat.le_of_ble_eq_true rfl) dX7_sprite_63 ⟨Nat.le_of_ble_eq_true rfl, Nat.le_of_ble_eq_true rfl⟩) ?_
      exact ro_iret hx hb hr hlk dX7_sprite_66 (congrArg (fun z => Value.int (zI z)) (by unfold spriteF; rw [if_neg (show ¬ (¬ (0 ≤ z ∧ z < S 0 1)) by omega), if_pos (show 0 ≤ t ∧ t < 6 by omega)]))
    by_cases t6 : t = 5
    · refine z_tableIn (j := 5) (off := 49) (tgt := 60) hx hb dX7_sprite_11 t6 (by decide) (by decide) (by decide) rfl (by decide) ?_
      refine lv_aload_n hx hb dX7_sprite_60 rfl (lv_at hl 0 rfl) ?_
      refine lv_iload_n hx hb dX7_sprite_61 rfl (lv_at hl 1 rfl) ?_
      refine lv_iload_n hx hb dX7_sprite_62 rfl (lv_at hl 2 rfl) ?_
      refine z_ro (zrV (As := [.int (zI z), .int (zI t)]) (rest := []) (Pw := fun H => va_P G vwCl (moW cs a kq tq nq) H ∧ va_P G vwCl (m7 cs a 1 0 361 (aI Y)) H) ⟨hx, hb, hml, hown, hts⟩ (c_X7_of l G cs a S Y kq tq nq z t wf0 rr (by omega) (by omega)) gX7_sprite_X7_of rfl qX7_of rfl rfl ⟨Nat.le_of_ble_eq_true rfl, Nat.le_of_ble_eq_true rfl⟩ ⟨hMo, hRw⟩ hK (va_recv hK.1 hMo (ci := 7) (q0 := 0) rfl rfl) hl.1 rfl (Nat.le_of_ble_eq_true rfl) dX7_sprite_63 ⟨Nat.le_of_ble_eq_true rfl, Nat.le_of_ble_eq_true rfl⟩) ?_
      exact ro_iret hx hb hr hlk dX7_sprite_66 (congrArg (fun z => Value.int (zI z)) (by unfold spriteF; rw [if_neg (show ¬ (¬ (0 ≤ z ∧ z < S 0 1)) by omega), if_pos (show 0 ≤ t ∧ t < 6 by omega)]))
    by_cases t7 : t = 6
    · refine z_tableIn (j := 6) (off := 56) (tgt := 67) hx hb dX7_sprite_11 t7 (by decide) (by decide) (by decide) rfl (by decide) ?_
      refine lv_aload_n hx hb dX7_sprite_67 rfl (lv_at hl 0 rfl) ?_
      refine lv_iload_n hx hb dX7_sprite_68 rfl (lv_at hl 1 rfl) ?_
      refine z_ro (zrV (As := [.int (zI z)]) (rest := []) (Pw := fun H => va_P G vwCl (moW cs a kq tq nq) H ∧ va_P G vwCl (m7 cs a 1 0 361 (aI Y)) H) ⟨hx, hb, hml, hown, hts⟩ (c_X7_linesShowing l G cs a S Y kq tq nq z wf0 rr (by omega)) gX7_sprite_X7_linesShowing rfl qX7_linesShowing rfl rfl ⟨Nat.le_of_ble_eq_true rfl, Nat.le_of_ble_eq_true rfl⟩ ⟨hMo, hRw⟩ hK (va_recv hK.1 hMo (ci := 7) (q0 := 0) rfl rfl) hl.1 rfl (Nat.le_of_ble_eq_true rfl) dX7_sprite_69 ⟨Nat.le_of_ble_eq_true rfl, Nat.le_of_ble_eq_true rfl⟩) ?_
      exact ro_iret hx hb hr hlk dX7_sprite_72 (congrArg (fun z => Value.int (zI z)) (by unfold spriteF; rw [if_neg (show ¬ (¬ (0 ≤ z ∧ z < S 0 1)) by omega), if_neg (show ¬ (0 ≤ t ∧ t < 6) by omega), if_pos (show t = 6 by omega)]))
    by_cases t8 : t = 7
    · refine z_tableIn (j := 7) (off := 62) (tgt := 73) hx hb dX7_sprite_11 t8 (by decide) (by decide) (by decide) rfl (by decide) ?_
      refine lv_aload_n hx hb dX7_sprite_73 rfl (lv_at hl 0 rfl) ?_
      refine lv_iload_n hx hb dX7_sprite_74 rfl (lv_at hl 1 rfl) ?_
      refine z_ro (zrV (As := [.int (zI z)]) (rest := []) (Pw := fun H => va_P G vwCl (moW cs a kq tq nq) H ∧ va_P G vwCl (m7 cs a 1 0 361 (aI Y)) H) ⟨hx, hb, hml, hown, hts⟩ (c_X7_linesOf l G cs a S Y kq tq nq z wf0 rr (by omega)) gX7_sprite_X7_linesOf rfl qX7_linesOf rfl rfl ⟨Nat.le_of_ble_eq_true rfl, Nat.le_of_ble_eq_true rfl⟩ ⟨hMo, hRw⟩ hK (va_recv hK.1 hMo (ci := 7) (q0 := 0) rfl rfl) hl.1 rfl (Nat.le_of_ble_eq_true rfl) dX7_sprite_75 ⟨Nat.le_of_ble_eq_true rfl, Nat.le_of_ble_eq_true rfl⟩) ?_
      exact ro_iret hx hb hr hlk dX7_sprite_78 (congrArg (fun z => Value.int (zI z)) (by unfold spriteF; rw [if_neg (show ¬ (¬ (0 ≤ z ∧ z < S 0 1)) by omega), if_neg (show ¬ (0 ≤ t ∧ t < 6) by omega), if_neg (show ¬ t = 6 by omega), if_pos (show t = 7 by omega)]))
    by_cases t9 : t = 8
    · refine z_tableIn (j := 8) (off := 68) (tgt := 79) hx hb dX7_sprite_11 t9 (by decide) (by decide) (by decide) rfl (by decide) ?_
      refine lv_aload_n hx hb dX7_sprite_79 rfl (lv_at hl 0 rfl) ?_
      refine lv_iload_n hx hb dX7_sprite_80 rfl (lv_at hl 1 rfl) ?_
      refine z_ro (zrV (As := [.int (zI z)]) (rest := []) (Pw := fun H => va_P G vwCl (moW cs a kq tq nq) H ∧ va_P G vwCl (m7 cs a 1 0 361 (aI Y)) H) ⟨hx, hb, hml, hown, hts⟩ (c_X7_metBy l G cs a S Y kq tq nq z wf0 rr (by omega)) gX7_sprite_X7_metBy rfl qX7_metBy rfl rfl ⟨Nat.le_of_ble_eq_true rfl, Nat.le_of_ble_eq_true rfl⟩ ⟨hMo, hRw⟩ hK (va_recv hK.1 hMo (ci := 7) (q0 := 0) rfl rfl) hl.1 rfl (Nat.le_of_ble_eq_true rfl) dX7_sprite_81 ⟨Nat.le_of_ble_eq_true rfl, Nat.le_of_ble_eq_true rfl⟩) ?_
      exact ro_iret hx hb hr hlk dX7_sprite_84 (congrArg (fun z => Value.int (zI z)) (by unfold spriteF; rw [if_neg (show ¬ (¬ (0 ≤ z ∧ z < S 0 1)) by omega), if_neg (show ¬ (0 ≤ t ∧ t < 6) by omega), if_neg (show ¬ t = 6 by omega), if_neg (show ¬ t = 7 by omega), if_pos (show t = 8 by omega)]))
    refine z_tableOut (tgt := 85) hx hb dX7_sprite_11 (by omega) (by omega) (by decide) ?_
    refine z_bipush (n := -2) hx hb dX7_sprite_85 (by decide) ?_
    exact ro_iret hx hb hr hlk dX7_sprite_87 (congrArg (fun z => Value.int (zI z)) (by unfold spriteF; rw [if_neg (show ¬ (¬ (0 ≤ z ∧ z < S 0 1)) by omega), if_neg (show ¬ (0 ≤ t ∧ t < 6) by omega), if_neg (show ¬ t = 6 by omega), if_neg (show ¬ t = 7 by omega), if_neg (show ¬ t = 8 by omega)]))
  · skip
    simp only [decide_eq_true_eq] at c1
    refine z_iconst (n := -1) hx hb dX7_sprite_8 ?_
    exact ro_iret hx hb hr hlk dX7_sprite_9 (congrArg (fun z => Value.int (zI z)) (by unfold spriteF; rw [if_pos (show ¬ (0 ≤ z ∧ z < S 0 1) by omega)]))

set_option maxHeartbeats 4000000 in
set_option maxRecDepth 100000 in
theorem c_X7_colored (l : Launch) (G : va_G) (cs : Nat → ClassId) (a : Nat → Nat) (S : SS) (Y : Int → Int) (kq tq nq : Int) (q : Int) (wf : WF S) (rr : RR S Y) (hq : 0 ≤ q ∧ q < 32) : MRO l yX7_colored wsX7_colored { frames := 6, cells := 0, slots := 0, locals := 139 } G cs [.ref (a 0), .int (zI q)] (fun H => va_P G vwCl (moW cs a kq tq nq) H ∧ va_P G vwCl (m7 cs a 1 0 361 (aI Y)) H) (.int (zI (cntI (fun r => decide (colF S q (S 0 4) r ≠ 0)) 32))) := by
  refine m_intro (Pw := (fun H => va_P G vwCl (moW cs a kq tq nq) H ∧ va_P G vwCl (m7 cs a 1 0 361 (aI Y)) H)) (cc := cX7_colored) (maxL := 4) (ret := some .int) RX7 (by decide) rfl rfl (Nat.le_of_ble_eq_true rfl) ?_
  intro pP eE sS mM below meth cC hx hb hr hts hown hml hlk hnm hPre hK ls hl
  have hl : lv_has ls 4 [(0, .ref (a 0)), (1, .int (zI q))] := hl
  obtain ⟨hMo, hRw⟩ := hPre
  have wf0 := wf
  obtain ⟨w0, w1, w2, w3, w4, wP, wC, wS, wX⟩ := wf
  refine z_iconst (n := 0) hx hb dX7_colored_0 ?_
  refine lv_istore_n (lv' := [(2, .int (zI 0)), (0, .ref (a 0)), (1, .int (zI q))]) hx hb dX7_colored_1 rfl hl (by decide) rfl (fun ls hl => ?_)
  refine z_iconst (n := 0) hx hb dX7_colored_2 ?_
  refine lv_istore_n (lv' := [(3, .int (zI 0)), (2, .int (zI 0)), (0, .ref (a 0)), (1, .int (zI q))]) hx hb dX7_colored_3 rfl hl (by decide) rfl (fun ls hl => ?_)
  -- loop 4
  refine z_loop (nL := 4) (fun (i : Int) => [(0, .ref (a 0)), (1, .int (zI q)), (2, .int (zI (cntI (fun r => decide (colF S q (S 0 4) r ≠ 0)) i))), (3, .int (zI i))]) (fun (i : Int) => 0 ≤ i ∧ i ≤ 32) (fun (i : Int) => (32 - i).toNat) 0 (by omega) (lv_sub hl [2, 3, 1, 0] rfl) (fun i hI ih ls hl => ?_)
  have hl : lv_has ls 4 [(0, .ref (a 0)), (1, .int (zI q)), (2, .int (zI (cntI (fun r => decide (colF S q (S 0 4) r ≠ 0)) i))), (3, .int (zI i))] := hl
  have hc := cntI_r (fun r => decide (colF S q (S 0 4) r ≠ 0)) hI.1
  have hcf := colF_r wf0 (fr := S 0 4) (q := q) (r := i) hq
  refine lv_iload_n hx hb dX7_colored_4 rfl (lv_at hl 3 rfl) ?_
  refine z_bipush (n := 32) hx hb dX7_colored_5 (by decide) ?_
  refine z_icmp_ge (tgt := 33) hx hb dX7_colored_7 (by decide) (by omega) (by omega) (fun c1 => ?_) (fun c1 => ?_)
  · skip
    refine lv_iload_n hx hb dX7_colored_33 rfl (lv_at hl 2 rfl) ?_
    exact ro_iret hx hb hr hlk dX7_colored_34 (congrArg (fun z => Value.int (zI z)) (by rw [show i = 32 by omega]))
  · skip
    refine lv_iload_n hx hb dX7_colored_10 rfl (lv_at hl 2 rfl) ?_
    refine lv_aload_n hx hb dX7_colored_11 rfl (lv_at hl 0 rfl) ?_
    refine lv_iload_n hx hb dX7_colored_12 rfl (lv_at hl 1 rfl) ?_
    refine lv_iload_n hx hb dX7_colored_13 rfl (lv_at hl 3 rfl) ?_
    refine z_ro (zrV (As := [.int (zI q), .int (zI i)]) (rest := [.int (zI (cntI (fun r => decide (colF S q (S 0 4) r ≠ 0)) i))]) (Pw := fun H => va_P G vwCl (moW cs a kq tq nq) H ∧ va_P G vwCl (m7 cs a 1 0 361 (aI Y)) H) ⟨hx, hb, hml, hown, hts⟩ (c_X7_colorAt l G cs a S Y kq tq nq q i wf0 rr (by omega) (by omega)) gX7_colored_X7_colorAt rfl qX7_colorAt rfl rfl ⟨Nat.le_of_ble_eq_true rfl, Nat.le_of_ble_eq_true rfl⟩ ⟨hMo, hRw⟩ hK (va_recv hK.1 hMo (ci := 7) (q0 := 0) rfl rfl) hl.1 rfl (Nat.le_of_ble_eq_true rfl) dX7_colored_14 ⟨Nat.le_of_ble_eq_true rfl, Nat.le_of_ble_eq_true rfl⟩) ?_
    refine z_if_le (tgt := 24) hx hb dX7_colored_17 (by decide) (by omega) (fun c2 => ?_) (fun c2 => ?_)
    · skip
      refine z_iconst (n := 0) hx hb dX7_colored_24 ?_
      refine z_iadd hx hb dX7_colored_25 ?_
      refine lv_istore_n (lv' := [(2, .int (zI ((cntI (fun r => decide (colF S q (S 0 4) r ≠ 0)) i) + 0))), (0, .ref (a 0)), (1, .int (zI q)), (3, .int (zI i))]) hx hb dX7_colored_26 rfl hl (by decide) rfl (fun ls hl => ?_)
      refine z_iinc (k := 3) (lv' := [(3, .int (zI (i + 1))), (2, .int (zI ((cntI (fun r => decide (colF S q (S 0 4) r ≠ 0)) i) + 0))), (0, .ref (a 0)), (1, .int (zI q))]) hx hb dX7_colored_27 hl rfl (by decide) rfl (fun ls hl => ?_)
      refine lv_goto (tgt := 4) hx hb dX7_colored_30 (by decide) ?_
      exact ih (i + 1) (by omega) (by omega) ls (by show lv_has ls 4 [(0, .ref (a 0)), (1, .int (zI q)), (2, .int (zI (cntI (fun r => decide (colF S q (S 0 4) r ≠ 0)) (i + 1)))), (3, .int (zI (i + 1)))]; rw [cntI_z (f := fun r => decide (colF S q (S 0 4) r ≠ 0)) hI.1 (decide_eq_false (show ¬ colF S q (S 0 4) i ≠ 0 by omega))]; exact lv_sub hl [2, 3, 1, 0] rfl)
    · skip
      refine z_iconst (n := 1) hx hb dX7_colored_20 ?_
      refine lv_goto (tgt := 25) hx hb dX7_colored_21 (by decide) ?_
      refine z_iadd hx hb dX7_colored_25 ?_
      refine lv_istore_n (lv' := [(2, .int (zI ((cntI (fun r => decide (colF S q (S 0 4) r ≠ 0)) i) + 1))), (0, .ref (a 0)), (1, .int (zI q)), (3, .int (zI i))]) hx hb dX7_colored_26 rfl hl (by decide) rfl (fun ls hl => ?_)
      refine z_iinc (k := 3) (lv' := [(3, .int (zI (i + 1))), (2, .int (zI ((cntI (fun r => decide (colF S q (S 0 4) r ≠ 0)) i) + 1))), (0, .ref (a 0)), (1, .int (zI q))]) hx hb dX7_colored_27 hl rfl (by decide) rfl (fun ls hl => ?_)
      refine lv_goto (tgt := 4) hx hb dX7_colored_30 (by decide) ?_
      exact ih (i + 1) (by omega) (by omega) ls (by show lv_has ls 4 [(0, .ref (a 0)), (1, .int (zI q)), (2, .int (zI (cntI (fun r => decide (colF S q (S 0 4) r ≠ 0)) (i + 1)))), (3, .int (zI (i + 1)))]; rw [cntI_t (f := fun r => decide (colF S q (S 0 4) r ≠ 0)) hI.1 (decide_eq_true (show colF S q (S 0 4) i ≠ 0 by omega))]; exact lv_sub hl [2, 3, 1, 0] rfl)

set_option maxHeartbeats 4000000 in
set_option maxRecDepth 100000 in
theorem c_X7_line (l : Launch) (G : va_G) (cs : Nat → ClassId) (a : Nat → Nat) (S : SS) (Y : Int → Int) (kq tq nq : Int) (q t : Int) (wf : WF S) (rr : RR S Y) (r_q : -2147483648 ≤ q ∧ q < 2147483648) (r_t : -2147483648 ≤ t ∧ t < 2147483648) : MRO l yX7_line wsX7_line { frames := 7, cells := 0, slots := 0, locals := 162 } G cs [.ref (a 0), .int (zI q), .int (zI t)] (fun H => va_P G vwCl (moW cs a kq tq nq) H ∧ va_P G vwCl (m7 cs a 1 0 361 (aI Y)) H) (.int (zI (lineF S q t))) := by
  refine m_intro (Pw := (fun H => va_P G vwCl (moW cs a kq tq nq) H ∧ va_P G vwCl (m7 cs a 1 0 361 (aI Y)) H)) (cc := cX7_line) (maxL := 4) (ret := some .int) RX7 (by decide) rfl rfl (Nat.le_of_ble_eq_true rfl) ?_
  intro pP eE sS mM below meth cC hx hb hr hts hown hml hlk hnm hPre hK ls hl
  have hl : lv_has ls 4 [(0, .ref (a 0)), (1, .int (zI q)), (2, .int (zI t))] := hl
  obtain ⟨hMo, hRw⟩ := hPre
  have hi7 : ∀ w ∈ u_ws RX7 TX7 12, w ∈ wsX7_line := by decide +kernel
  have wf0 := wf
  obtain ⟨w0, w1, w2, w3, w4, wP, wC, wS, wX⟩ := wf
  have hcw := cntI_r (isW S q) w1.1
  refine lv_iload_n hx hb dX7_line_0 rfl (lv_at hl 1 rfl) ?_
  refine z_ro (zrS (As := [.int (zI q)]) (rest := []) (Pw := fun _ => True) ⟨hx, hb, hml, hown, hts⟩ (c_X7_noLine l G cs q (by omega)) gX7_line_X7_noLine rfl qX7_noLine rfl rfl ⟨Nat.le_of_ble_eq_true rfl, Nat.le_of_ble_eq_true rfl⟩ trivial hK hl.1 rfl (Nat.le_of_ble_eq_true rfl) dX7_line_1 ⟨Nat.le_of_ble_eq_true rfl, Nat.le_of_ble_eq_true rfl⟩) ?_
  refine z_bif_eq (tgt := 9) hx hb dX7_line_4 (by decide) (fun c1 => ?_) (fun c1 => ?_)
  · skip
    simp only [decide_eq_false_iff_not] at c1
    have q1 := wS q (by omega) (by omega)
    have q2 := rw_or rr (q := q) (by omega)
    refine lv_aload_n hx hb dX7_line_9 rfl (lv_at hl 0 rfl) ?_
    refine lv_iload_n hx hb dX7_line_10 rfl (lv_at hl 1 rfl) ?_
    refine z_ro (zrV (As := [.int (zI q)]) (rest := []) (Pw := fun H => va_P G vwCl (moW cs a kq tq nq) H ∧ va_P G vwCl (m7 cs a 1 0 361 (aI Y)) H) ⟨hx, hb, hml, hown, hts⟩ (c_X7_wanted l G cs a S Y kq tq nq q wf0 rr (by omega)) gX7_line_X7_wanted rfl qX7_wanted rfl rfl ⟨Nat.le_of_ble_eq_true rfl, Nat.le_of_ble_eq_true rfl⟩ ⟨hMo, hRw⟩ hK (va_recv hK.1 hMo (ci := 7) (q0 := 0) rfl rfl) hl.1 rfl (Nat.le_of_ble_eq_true rfl) dX7_line_11 ⟨Nat.le_of_ble_eq_true rfl, Nat.le_of_ble_eq_true rfl⟩) ?_
    refine lv_istore_n (lv' := [(3, .int (zI (cntI (isW S q) (S 0 1)))), (0, .ref (a 0)), (1, .int (zI q)), (2, .int (zI t))]) hx hb dX7_line_14 rfl hl (by decide) rfl (fun ls hl => ?_)
    refine lv_iload_n hx hb dX7_line_15 rfl (lv_at hl 3 rfl) ?_
    by_cases t1 : t = 0
    · refine z_tableIn (j := 0) (off := 36) (tgt := 52) hx hb dX7_line_16 t1 (by decide) (by decide) (by decide) rfl (by decide) ?_
      refine lv_iload_n hx hb dX7_line_52 rfl (lv_at hl 0 rfl) ?_
      exact ro_iret hx hb hr hlk dX7_line_53 (congrArg (fun z => Value.int (zI z)) (by unfold lineF; rw [if_neg (show ¬ (¬ (0 ≤ q ∧ q < 32)) by omega), if_pos (show t = 0 by omega)]))
    by_cases t2 : t = 1
    · refine z_tableIn (j := 1) (off := 38) (tgt := 54) hx hb dX7_line_16 t2 (by decide) (by decide) (by decide) rfl (by decide) ?_
      refine lv_iload_n hx hb dX7_line_54 rfl (lv_at hl 0 rfl) ?_
      refine lv_aload_n hx hb dX7_line_55 rfl (lv_at hl 1 rfl) ?_
      refine va_get (D := G) (ci := 7) (v := .ref ((sh a 1) 0)) (C := RX7) (T := TX7) (N := 12) hx hb hts hi7 hown hK.1 hMo 0 rfl rfl 0 (by decide) (hts (.fieldLink RX7 7 "SpriteLinesModel" "row" "[I") (by decide +kernel)) (fun _ h9 => h9) rfl dX7_line_56 ?_
      refine z_iconst (n := 2) hx hb dX7_line_59 ?_
      refine z_iald hx hb hK.1 hRw 0 0 (F := Y) rfl rfl (by omega) (by decide) dX7_line_60 ?_
      refine z_topi (b := S 0 2) rr.1.2.2.1 ?_
      refine z_icmp_ge (tgt := 68) hx hb dX7_line_61 (by decide) (by omega) (by omega) (fun c3 => ?_) (fun c3 => ?_)
      · skip
        refine lv_aload_n hx hb dX7_line_68 rfl (lv_at hl 1 rfl) ?_
        refine va_get (D := G) (ci := 7) (v := .ref ((sh a 1) 0)) (C := RX7) (T := TX7) (N := 12) hx hb hts hi7 hown hK.1 hMo 0 rfl rfl 0 (by decide) (hts (.fieldLink RX7 7 "SpriteLinesModel" "row" "[I") (by decide +kernel)) (fun _ h9 => h9) rfl dX7_line_69 ?_
        refine z_iconst (n := 2) hx hb dX7_line_72 ?_
        refine z_iald hx hb hK.1 hRw 0 0 (F := Y) rfl rfl (by omega) (by decide) dX7_line_73 ?_
        refine z_topi (b := S 0 2) rr.1.2.2.1 ?_
        exact ro_iret hx hb hr hlk dX7_line_74 (congrArg (fun z => Value.int (zI z)) (by unfold lineF; rw [if_neg (show ¬ (¬ (0 ≤ q ∧ q < 32)) by omega), if_neg (show ¬ t = 0 by omega), if_pos (show t = 1 by omega)]; unfold nSh; rw [nSh_wanted w1.1, if_neg (by omega)]))
      · skip
        refine lv_iload_n hx hb dX7_line_64 rfl (lv_at hl 0 rfl) ?_
        refine lv_goto (tgt := 74) hx hb dX7_line_65 (by decide) ?_
        exact ro_iret hx hb hr hlk dX7_line_74 (congrArg (fun z => Value.int (zI z)) (by unfold lineF; rw [if_neg (show ¬ (¬ (0 ≤ q ∧ q < 32)) by omega), if_neg (show ¬ t = 0 by omega), if_pos (show t = 1 by omega)]; unfold nSh; rw [nSh_wanted w1.1, if_pos (by omega)]))
    by_cases t4 : t = 2
    · refine z_tableIn (j := 2) (off := 59) (tgt := 75) hx hb dX7_line_16 t4 (by decide) (by decide) (by decide) rfl (by decide) ?_
      refine lv_aload_n hx hb dX7_line_75 rfl (lv_at hl 1 rfl) ?_
      refine lv_iload_n hx hb dX7_line_76 rfl (lv_at hl 2 rfl) ?_
      refine z_ro (zrV (As := [.int (zI q)]) (rest := []) (Pw := fun H => va_P G vwCl (moW cs a kq tq nq) H ∧ va_P G vwCl (m7 cs a 1 0 361 (aI Y)) H) ⟨hx, hb, hml, hown, hts⟩ (c_X7_colored l G cs a S Y kq tq nq q wf0 rr (by omega)) gX7_line_X7_colored rfl qX7_colored rfl rfl ⟨Nat.le_of_ble_eq_true rfl, Nat.le_of_ble_eq_true rfl⟩ ⟨hMo, hRw⟩ hK (va_recv hK.1 hMo (ci := 7) (q0 := 0) rfl rfl) hl.1 rfl (Nat.le_of_ble_eq_true rfl) dX7_line_77 ⟨Nat.le_of_ble_eq_true rfl, Nat.le_of_ble_eq_true rfl⟩) ?_
      exact ro_iret hx hb hr hlk dX7_line_80 (congrArg (fun z => Value.int (zI z)) (by unfold lineF; rw [if_neg (show ¬ (¬ (0 ≤ q ∧ q < 32)) by omega), if_neg (show ¬ t = 0 by omega), if_neg (show ¬ t = 1 by omega), if_pos (show t = 2 by omega)]))
    by_cases t5 : t = 3
    · refine z_tableIn (j := 3) (off := 65) (tgt := 81) hx hb dX7_line_16 t5 (by decide) (by decide) (by decide) rfl (by decide) ?_
      refine lv_aload_n hx hb dX7_line_81 rfl (lv_at hl 1 rfl) ?_
      refine va_get (D := G) (ci := 7) (v := .ref ((sh a 1) 0)) (C := RX7) (T := TX7) (N := 12) hx hb hts hi7 hown hK.1 hMo 0 rfl rfl 0 (by decide) (hts (.fieldLink RX7 7 "SpriteLinesModel" "row" "[I") (by decide +kernel)) (fun _ h9 => h9) rfl dX7_line_82 ?_
      refine z_sipush (n := 329) hx hb dX7_line_85 (by decide) ?_
      refine lv_iload_n hx hb dX7_line_88 rfl (lv_at hl 2 rfl) ?_
      refine z_iadd hx hb dX7_line_89 ?_
      refine z_iald hx hb hK.1 hRw 0 0 (F := Y) rfl rfl (by omega) (by decide) dX7_line_90 ?_
      refine z_if_ne (tgt := 99) hx hb dX7_line_91 (by decide) (by omega) (fun c6 => ?_) (fun c6 => ?_)
      · skip
        refine lv_aload_n hx hb dX7_line_99 rfl (lv_at hl 1 rfl) ?_
        refine va_get (D := G) (ci := 7) (v := .ref ((sh a 1) 0)) (C := RX7) (T := TX7) (N := 12) hx hb hts hi7 hown hK.1 hMo 0 rfl rfl 0 (by decide) (hts (.fieldLink RX7 7 "SpriteLinesModel" "row" "[I") (by decide +kernel)) (fun _ h9 => h9) rfl dX7_line_100 ?_
        refine z_sipush (n := 329) hx hb dX7_line_103 (by decide) ?_
        refine lv_iload_n hx hb dX7_line_106 rfl (lv_at hl 2 rfl) ?_
        refine z_iadd hx hb dX7_line_107 ?_
        refine z_iald hx hb hK.1 hRw 0 0 (F := Y) rfl rfl (by omega) (by decide) dX7_line_108 ?_
        refine z_bipush (n := 16) hx hb dX7_line_109 (by decide) ?_
        refine z_idiv hx hb dX7_line_111 (by omega) (by omega) ?_
        exact ro_iret hx hb hr hlk dX7_line_112 (congrArg (fun z => Value.int (zI z)) (by unfold lineF; rw [if_neg (show ¬ (¬ (0 ≤ q ∧ q < 32)) by omega), if_neg (show ¬ t = 0 by omega), if_neg (show ¬ t = 1 by omega), if_neg (show ¬ t = 2 by omega), if_pos (show t = 3 by omega)]; unfold hasSw; rw [if_pos (show decide (S 3 q ≠ S 4 q) = true by rw [decide_eq_true_eq]; omega)]; omega))
      · skip
        refine z_bipush (n := -5) hx hb dX7_line_94 (by decide) ?_
        refine lv_goto (tgt := 112) hx hb dX7_line_96 (by decide) ?_
        exact ro_iret hx hb hr hlk dX7_line_112 (congrArg (fun z => Value.int (zI z)) (by unfold lineF; rw [if_neg (show ¬ (¬ (0 ≤ q ∧ q < 32)) by omega), if_neg (show ¬ t = 0 by omega), if_neg (show ¬ t = 1 by omega), if_neg (show ¬ t = 2 by omega), if_pos (show t = 3 by omega)]; unfold hasSw; rw [if_neg (show ¬ decide (S 3 q ≠ S 4 q) = true by rw [decide_eq_true_eq]; omega)]))
    by_cases t7 : t = 4
    · refine z_tableIn (j := 4) (off := 97) (tgt := 113) hx hb dX7_line_16 t7 (by decide) (by decide) (by decide) rfl (by decide) ?_
      refine lv_aload_n hx hb dX7_line_113 rfl (lv_at hl 1 rfl) ?_
      refine va_get (D := G) (ci := 7) (v := .ref ((sh a 1) 0)) (C := RX7) (T := TX7) (N := 12) hx hb hts hi7 hown hK.1 hMo 0 rfl rfl 0 (by decide) (hts (.fieldLink RX7 7 "SpriteLinesModel" "row" "[I") (by decide +kernel)) (fun _ h9 => h9) rfl dX7_line_114 ?_
      refine z_sipush (n := 329) hx hb dX7_line_117 (by decide) ?_
      refine lv_iload_n hx hb dX7_line_120 rfl (lv_at hl 2 rfl) ?_
      refine z_iadd hx hb dX7_line_121 ?_
      refine z_iald hx hb hK.1 hRw 0 0 (F := Y) rfl rfl (by omega) (by decide) dX7_line_122 ?_
      refine z_if_ne (tgt := 131) hx hb dX7_line_123 (by decide) (by omega) (fun c8 => ?_) (fun c8 => ?_)
      · skip
        refine lv_aload_n hx hb dX7_line_131 rfl (lv_at hl 1 rfl) ?_
        refine va_get (D := G) (ci := 7) (v := .ref ((sh a 1) 0)) (C := RX7) (T := TX7) (N := 12) hx hb hts hi7 hown hK.1 hMo 0 rfl rfl 0 (by decide) (hts (.fieldLink RX7 7 "SpriteLinesModel" "row" "[I") (by decide +kernel)) (fun _ h9 => h9) rfl dX7_line_132 ?_
        refine z_sipush (n := 329) hx hb dX7_line_135 (by decide) ?_
        refine lv_iload_n hx hb dX7_line_138 rfl (lv_at hl 2 rfl) ?_
        refine z_iadd hx hb dX7_line_139 ?_
        refine z_iald hx hb hK.1 hRw 0 0 (F := Y) rfl rfl (by omega) (by decide) dX7_line_140 ?_
        refine z_bipush (n := 16) hx hb dX7_line_141 (by decide) ?_
        refine z_irem hx hb dX7_line_143 (by omega) (by omega) ?_
        exact ro_iret hx hb hr hlk dX7_line_144 (congrArg (fun z => Value.int (zI z)) (by unfold lineF; rw [if_neg (show ¬ (¬ (0 ≤ q ∧ q < 32)) by omega), if_neg (show ¬ t = 0 by omega), if_neg (show ¬ t = 1 by omega), if_neg (show ¬ t = 2 by omega), if_neg (show ¬ t = 3 by omega), if_pos (show t = 4 by omega)]; unfold hasSw; rw [if_pos (show decide (S 3 q ≠ S 4 q) = true by rw [decide_eq_true_eq]; omega)]; omega))
      · skip
        refine z_bipush (n := -5) hx hb dX7_line_126 (by decide) ?_
        refine lv_goto (tgt := 144) hx hb dX7_line_128 (by decide) ?_
        exact ro_iret hx hb hr hlk dX7_line_144 (congrArg (fun z => Value.int (zI z)) (by unfold lineF; rw [if_neg (show ¬ (¬ (0 ≤ q ∧ q < 32)) by omega), if_neg (show ¬ t = 0 by omega), if_neg (show ¬ t = 1 by omega), if_neg (show ¬ t = 2 by omega), if_neg (show ¬ t = 3 by omega), if_pos (show t = 4 by omega)]; unfold hasSw; rw [if_neg (show ¬ decide (S 3 q ≠ S 4 q) = true by rw [decide_eq_true_eq]; omega)]))
    refine z_tableOut (tgt := 145) hx hb dX7_line_16 (by omega) (by omega) (by decide) ?_
    refine z_bipush (n := -2) hx hb dX7_line_145 (by decide) ?_
    exact ro_iret hx hb hr hlk dX7_line_147 (congrArg (fun z => Value.int (zI z)) (by unfold lineF; rw [if_neg (show ¬ (¬ (0 ≤ q ∧ q < 32)) by omega), if_neg (show ¬ t = 0 by omega), if_neg (show ¬ t = 1 by omega), if_neg (show ¬ t = 2 by omega), if_neg (show ¬ t = 3 by omega), if_neg (show ¬ t = 4 by omega)]))
  · skip
    simp only [decide_eq_true_eq] at c1
    refine z_iconst (n := -1) hx hb dX7_line_7 ?_
    exact ro_iret hx hb hr hlk dX7_line_8 (congrArg (fun z => Value.int (zI z)) (by unfold lineF; rw [if_pos (show ¬ (0 ≤ q ∧ q < 32) by omega)]))

set_option maxHeartbeats 4000000 in
set_option maxRecDepth 100000 in
theorem c_X7_shareOf (l : Launch) (G : va_G) (cs : Nat → ClassId) (a : Nat → Nat) (S : SS) (Y : Int → Int) (kq tq nq : Int) (q : Int) (wf : WF S) (rr : RR S Y) (hq : 0 ≤ q ∧ q < S 0 0) : MRO l yX7_shareOf wsX7_shareOf { frames := 1, cells := 0, slots := 0, locals := 23 } G cs [.ref (a 0), .int (zI q)] (fun H => va_P G vwCl (moW cs a kq tq nq) H ∧ va_P G vwCl (m7 cs a 1 0 361 (aI Y)) H) (.float (shareF S q)) := by
  refine m_intro (Pw := (fun H => va_P G vwCl (moW cs a kq tq nq) H ∧ va_P G vwCl (m7 cs a 1 0 361 (aI Y)) H)) (cc := cX7_shareOf) (maxL := 4) (ret := some .float) RX7 (by decide) rfl rfl (Nat.le_of_ble_eq_true rfl) ?_
  intro pP eE sS mM below meth cC hx hb hr hts hown hml hlk hnm hPre hK ls hl
  have hl : lv_has ls 4 [(0, .ref (a 0)), (1, .int (zI q))] := hl
  obtain ⟨hMo, hRw⟩ := hPre
  have wf0 := wf
  obtain ⟨w0, w1, w2, w3, w4, wP, wC, wS, wX⟩ := wf
  refine z_iconst (n := 0) hx hb dX7_shareOf_0 ?_
  refine lv_istore_n (lv' := [(2, .int (zI 0)), (0, .ref (a 0)), (1, .int (zI q))]) hx hb dX7_shareOf_1 rfl hl (by decide) rfl (fun ls hl => ?_)
  refine z_iconst (n := 0) hx hb dX7_shareOf_2 ?_
  refine lv_istore_n (lv' := [(3, .int (zI 0)), (2, .int (zI 0)), (0, .ref (a 0)), (1, .int (zI q))]) hx hb dX7_shareOf_3 rfl hl (by decide) rfl (fun ls hl => ?_)
  -- loop 4
  refine z_loop (nL := 4) (fun (i : Int) => [(0, .ref (a 0)), (1, .int (zI q)), (2, .int (zI (cntI (nzP S q) i))), (3, .int (zI i))]) (fun (i : Int) => 0 ≤ i ∧ i ≤ 64) (fun (i : Int) => (64 - i).toNat) 0 (by omega) (lv_sub hl [2, 3, 1, 0] rfl) (fun i hI ih ls hl => ?_)
  have hl : lv_has ls 4 [(0, .ref (a 0)), (1, .int (zI q)), (2, .int (zI (cntI (nzP S q) i))), (3, .int (zI i))] := hl
  have hc := cntI_r (nzP S q) hI.1
  refine lv_iload_n hx hb dX7_shareOf_4 rfl (lv_at hl 3 rfl) ?_
  refine z_bipush (n := 64) hx hb dX7_shareOf_5 (by decide) ?_
  refine z_icmp_ge (tgt := 40) hx hb dX7_shareOf_7 (by decide) (by omega) (by omega) (fun c1 => ?_) (fun c1 => ?_)
  · skip
    refine lv_iload_n hx hb dX7_shareOf_40 rfl (lv_at hl 2 rfl) ?_
    refine lv_i2f hx hb dX7_shareOf_41 ?_
    refine lv_ldcf (v := (1115684864)) hx hb hown (hts (.constantFloat RX7 163 (1115684864)) (by decide +kernel)) dX7_shareOf_42 ?_
    refine lv_fdiv hx hb dX7_shareOf_44 (sh_nan (by omega)) ?_
    exact ro_fret hx hb hr hlk dX7_shareOf_45 (by rw [show i = 64 by omega]; rfl)
  · skip
    have hp8 := wX (64 * q + (8 * (i / 8) + i % 8)) (by omega) (by omega)
    have e8 : S 5 (64 * q + (8 * (i / 8) + i % 8)) = S 5 (64 * q + i) := congrArg (S 5) (by omega)
    refine lv_iload_n hx hb dX7_shareOf_10 rfl (lv_at hl 2 rfl) ?_
    refine lv_aload_n hx hb dX7_shareOf_11 rfl (lv_at hl 0 rfl) ?_
    refine lv_iload_n hx hb dX7_shareOf_12 rfl (lv_at hl 1 rfl) ?_
    refine lv_iload_n hx hb dX7_shareOf_13 rfl (lv_at hl 3 rfl) ?_
    refine z_bipush (n := 8) hx hb dX7_shareOf_14 (by decide) ?_
    refine z_idiv hx hb dX7_shareOf_16 (by omega) (by omega) ?_
    refine lv_iload_n hx hb dX7_shareOf_17 rfl (lv_at hl 3 rfl) ?_
    refine z_bipush (n := 8) hx hb dX7_shareOf_18 (by decide) ?_
    refine z_irem hx hb dX7_shareOf_20 (by omega) (by omega) ?_
    refine z_ro (zrV (As := [.int (zI q), .int (zI (i / 8)), .int (zI (i % 8))]) (rest := [.int (zI (cntI (nzP S q) i))]) (Pw := fun H => va_P G vwCl (moW cs a kq tq nq) H ∧ va_P G vwCl (m7 cs a 1 0 361 (aI Y)) H) ⟨hx, hb, hml, hown, hts⟩ (c_X7_pixelOf l G cs a S Y kq tq nq q (i / 8) (i % 8) wf0 rr (by omega) (by omega) (by omega)) gX7_shareOf_X7_pixelOf rfl qX7_pixelOf rfl rfl ⟨Nat.le_of_ble_eq_true rfl, Nat.le_of_ble_eq_true rfl⟩ ⟨hMo, hRw⟩ hK (va_recv hK.1 hMo (ci := 7) (q0 := 0) rfl rfl) hl.1 rfl (Nat.le_of_ble_eq_true rfl) dX7_shareOf_21 ⟨Nat.le_of_ble_eq_true rfl, Nat.le_of_ble_eq_true rfl⟩) ?_
    refine z_if_le (tgt := 31) hx hb dX7_shareOf_24 (by decide) (by omega) (fun c2 => ?_) (fun c2 => ?_)
    · skip
      refine z_iconst (n := 0) hx hb dX7_shareOf_31 ?_
      refine z_iadd hx hb dX7_shareOf_32 ?_
      refine lv_istore_n (lv' := [(2, .int (zI ((cntI (nzP S q) i) + 0))), (0, .ref (a 0)), (1, .int (zI q)), (3, .int (zI i))]) hx hb dX7_shareOf_33 rfl hl (by decide) rfl (fun ls hl => ?_)
      refine z_iinc (k := 3) (lv' := [(3, .int (zI (i + 1))), (2, .int (zI ((cntI (nzP S q) i) + 0))), (0, .ref (a 0)), (1, .int (zI q))]) hx hb dX7_shareOf_34 hl rfl (by decide) rfl (fun ls hl => ?_)
      refine lv_goto (tgt := 4) hx hb dX7_shareOf_37 (by decide) ?_
      exact ih (i + 1) (by omega) (by omega) ls (by show lv_has ls 4 [(0, .ref (a 0)), (1, .int (zI q)), (2, .int (zI (cntI (nzP S q) (i + 1)))), (3, .int (zI (i + 1)))]; rw [cntI_z (f := nzP S q) hI.1 (decide_eq_false (show ¬ S 5 (64 * q + i) ≠ 0 by rw [← e8]; omega))]; exact lv_sub hl [2, 3, 1, 0] rfl)
    · skip
      refine z_iconst (n := 1) hx hb dX7_shareOf_27 ?_
      refine lv_goto (tgt := 32) hx hb dX7_shareOf_28 (by decide) ?_
      refine z_iadd hx hb dX7_shareOf_32 ?_
      refine lv_istore_n (lv' := [(2, .int (zI ((cntI (nzP S q) i) + 1))), (0, .ref (a 0)), (1, .int (zI q)), (3, .int (zI i))]) hx hb dX7_shareOf_33 rfl hl (by decide) rfl (fun ls hl => ?_)
      refine z_iinc (k := 3) (lv' := [(3, .int (zI (i + 1))), (2, .int (zI ((cntI (nzP S q) i) + 1))), (0, .ref (a 0)), (1, .int (zI q))]) hx hb dX7_shareOf_34 hl rfl (by decide) rfl (fun ls hl => ?_)
      refine lv_goto (tgt := 4) hx hb dX7_shareOf_37 (by decide) ?_
      exact ih (i + 1) (by omega) (by omega) ls (by show lv_has ls 4 [(0, .ref (a 0)), (1, .int (zI q)), (2, .int (zI (cntI (nzP S q) (i + 1)))), (3, .int (zI (i + 1)))]; rw [cntI_t (f := nzP S q) hI.1 (decide_eq_true (show S 5 (64 * q + i) ≠ 0 by rw [← e8]; omega))]; exact lv_sub hl [2, 3, 1, 0] rfl)

set_option maxHeartbeats 4000000 in
set_option maxRecDepth 100000 in
theorem c_X7_share (l : Launch) (G : va_G) (cs : Nat → ClassId) (a : Nat → Nat) (S : SS) (Y : Int → Int) (kq tq nq : Int) (q : Int) (wf : WF S) (rr : RR S Y) (r_q : -2147483648 ≤ q ∧ q < 2147483648) : MRO l yX7_share wsX7_share { frames := 2, cells := 0, slots := 0, locals := 46 } G cs [.ref (a 0), .int (zI q)] (fun H => va_P G vwCl (moW cs a kq tq nq) H ∧ va_P G vwCl (m7 cs a 1 0 361 (aI Y)) H) (.float (shareG S q)) := by
  refine m_intro (Pw := (fun H => va_P G vwCl (moW cs a kq tq nq) H ∧ va_P G vwCl (m7 cs a 1 0 361 (aI Y)) H)) (cc := cX7_share) (maxL := 2) (ret := some .float) RX7 (by decide) rfl rfl (Nat.le_of_ble_eq_true rfl) ?_
  intro pP eE sS mM below meth cC hx hb hr hts hown hml hlk hnm hPre hK ls hl
  have hl : lv_has ls 2 [(0, .ref (a 0)), (1, .int (zI q))] := hl
  obtain ⟨hMo, hRw⟩ := hPre
  have wf0 := wf
  obtain ⟨w0, w1, w2, w3, w4, wP, wC, wS, wX⟩ := wf
  refine lv_aload_n hx hb dX7_share_0 rfl (lv_at hl 0 rfl) ?_
  refine lv_iload_n hx hb dX7_share_1 rfl (lv_at hl 1 rfl) ?_
  refine z_ro (zrV (As := [.int (zI q)]) (rest := []) (Pw := fun H => va_P G vwCl (moW cs a kq tq nq) H ∧ va_P G vwCl (m7 cs a 1 0 361 (aI Y)) H) ⟨hx, hb, hml, hown, hts⟩ (c_X7_noPart l G cs a S Y kq tq nq q wf0 rr (by omega)) gX7_share_X7_noPart rfl qX7_noPart rfl rfl ⟨Nat.le_of_ble_eq_true rfl, Nat.le_of_ble_eq_true rfl⟩ ⟨hMo, hRw⟩ hK (va_recv hK.1 hMo (ci := 7) (q0 := 0) rfl rfl) hl.1 rfl (Nat.le_of_ble_eq_true rfl) dX7_share_2 ⟨Nat.le_of_ble_eq_true rfl, Nat.le_of_ble_eq_true rfl⟩) ?_
  refine z_bif_eq (tgt := 12) hx hb dX7_share_5 (by decide) (fun c1 => ?_) (fun c1 => ?_)
  · skip
    simp only [decide_eq_false_iff_not] at c1
    refine lv_aload_n hx hb dX7_share_12 rfl (lv_at hl 0 rfl) ?_
    refine lv_iload_n hx hb dX7_share_13 rfl (lv_at hl 1 rfl) ?_
    refine z_ro (zrV (As := [.int (zI q)]) (rest := []) (Pw := fun H => va_P G vwCl (moW cs a kq tq nq) H ∧ va_P G vwCl (m7 cs a 1 0 361 (aI Y)) H) ⟨hx, hb, hml, hown, hts⟩ (c_X7_shareOf l G cs a S Y kq tq nq q wf0 rr (by omega)) gX7_share_X7_shareOf rfl qX7_shareOf rfl rfl ⟨Nat.le_of_ble_eq_true rfl, Nat.le_of_ble_eq_true rfl⟩ ⟨hMo, hRw⟩ hK (va_recv hK.1 hMo (ci := 7) (q0 := 0) rfl rfl) hl.1 rfl (Nat.le_of_ble_eq_true rfl) dX7_share_14 ⟨Nat.le_of_ble_eq_true rfl, Nat.le_of_ble_eq_true rfl⟩) ?_
    exact ro_fret hx hb hr hlk dX7_share_17 (congrArg Value.float (by unfold shareG; rw [if_neg (show ¬ (¬ (0 ≤ q ∧ q < S 0 0)) by omega)] <;> rfl))
  · skip
    simp only [decide_eq_true_eq] at c1
    refine lv_fconst0 hx hb dX7_share_8 ?_
    refine lv_goto (tgt := 17) hx hb dX7_share_9 (by decide) ?_
    exact ro_fret hx hb hr hlk dX7_share_17 (congrArg Value.float (by unfold shareG; rw [if_pos (show ¬ (0 ≤ q ∧ q < S 0 0) by omega)] <;> rfl))

set_option maxHeartbeats 4000000 in
set_option maxRecDepth 100000 in
theorem c_X7_weight (l : Launch) (G : va_G) (cs : Nat → ClassId) (a : Nat → Nat) (S : SS) (Y : Int → Int) (kq tq nq : Int) (q : Int) (wf : WF S) (rr : RR S Y) (r_q : -2147483648 ≤ q ∧ q < 2147483648) : MRO l yX7_weight wsX7_weight { frames := 5, cells := 0, slots := 0, locals := 115 } G cs [.ref (a 0), .int (zI q)] (fun H => va_P G vwCl (moW cs a kq tq nq) H ∧ va_P G vwCl (m7 cs a 1 0 361 (aI Y)) H) (.float (weightG S q)) := by
  refine m_intro (Pw := (fun H => va_P G vwCl (moW cs a kq tq nq) H ∧ va_P G vwCl (m7 cs a 1 0 361 (aI Y)) H)) (cc := cX7_weight) (maxL := 4) (ret := some .float) RX7 (by decide) rfl rfl (Nat.le_of_ble_eq_true rfl) ?_
  intro pP eE sS mM below meth cC hx hb hr hts hown hml hlk hnm hPre hK ls hl
  have hl : lv_has ls 4 [(0, .ref (a 0)), (1, .int (zI q))] := hl
  obtain ⟨hMo, hRw⟩ := hPre
  have wf0 := wf
  obtain ⟨w0, w1, w2, w3, w4, wP, wC, wS, wX⟩ := wf
  refine lv_fconst0 hx hb dX7_weight_0 ?_
  refine lv_fstore_n (lv' := [(2, .float 0), (0, .ref (a 0)), (1, .int (zI q))]) hx hb dX7_weight_1 rfl hl (by decide) rfl (fun ls hl => ?_)
  refine z_iconst (n := 0) hx hb dX7_weight_2 ?_
  refine lv_istore_n (lv' := [(3, .int (zI 0)), (2, .float 0), (0, .ref (a 0)), (1, .int (zI q))]) hx hb dX7_weight_3 rfl hl (by decide) rfl (fun ls hl => ?_)
  -- loop 4
  refine z_loop (nL := 4) (fun (i : Int) => [(0, .ref (a 0)), (1, .int (zI q)), (2, .float (wgtN S q (S 0 4) (i).toNat)), (3, .int (zI i))]) (fun (i : Int) => (0 ≤ i ∧ i ≤ S 0 1) ∧ (0 < i → 0 ≤ q ∧ q < 32)) (fun (i : Int) => (S 0 1 - i).toNat) 0 ⟨by omega, fun h => by omega⟩ (lv_sub hl [2, 3, 1, 0] rfl) (fun i hI ih ls hl => ?_)
  have hl : lv_has ls 4 [(0, .ref (a 0)), (1, .int (zI q)), (2, .float (wgtN S q (S 0 4) (i).toNat)), (3, .int (zI i))] := hl
  obtain ⟨hI, hJ⟩ := hI
  refine lv_iload_n hx hb dX7_weight_4 rfl (lv_at hl 3 rfl) ?_
  refine lv_aload_n hx hb dX7_weight_5 rfl (lv_at hl 0 rfl) ?_
  refine z_ro (zrV (As := []) (rest := [.int (zI i)]) (Pw := fun H => va_P G vwCl (moW cs a kq tq nq) H ∧ va_P G vwCl (m7 cs a 1 0 361 (aI Y)) H) ⟨hx, hb, hml, hown, hts⟩ (c_X7_sprites l G cs a S Y kq tq nq rr) gX7_weight_X7_sprites rfl qX7_sprites rfl rfl ⟨Nat.le_of_ble_eq_true rfl, Nat.le_of_ble_eq_true rfl⟩ ⟨hMo, hRw⟩ hK (va_recv hK.1 hMo (ci := 7) (q0 := 0) rfl rfl) hl.1 rfl (Nat.le_of_ble_eq_true rfl) dX7_weight_6 ⟨Nat.le_of_ble_eq_true rfl, Nat.le_of_ble_eq_true rfl⟩) ?_
  refine z_icmp_ge (tgt := 47) hx hb dX7_weight_9 (by decide) (by omega) (by omega) (fun c1 => ?_) (fun c1 => ?_)
  · skip
    refine lv_fload_n hx hb dX7_weight_47 rfl (lv_at hl 2 rfl) ?_
    exact ro_fret hx hb hr hlk dX7_weight_48 (congrArg Value.float (by
      unfold weightG
      by_cases h9 : 0 ≤ q ∧ q < 32
      · rw [if_neg (show ¬ ¬ (0 ≤ q ∧ q < 32) by omega), show i = S 0 1 by omega]; rfl
      · rw [if_pos h9, show i = 0 by omega]; rfl))
  · skip
    refine lv_iload_n hx hb dX7_weight_12 rfl (lv_at hl 1 rfl) ?_
    refine z_ro (zrS (As := [.int (zI q)]) (rest := []) (Pw := fun _ => True) ⟨hx, hb, hml, hown, hts⟩ (c_X7_noLine l G cs q (by omega)) gX7_weight_X7_noLine rfl qX7_noLine rfl rfl ⟨Nat.le_of_ble_eq_true rfl, Nat.le_of_ble_eq_true rfl⟩ trivial hK hl.1 rfl (Nat.le_of_ble_eq_true rfl) dX7_weight_13 ⟨Nat.le_of_ble_eq_true rfl, Nat.le_of_ble_eq_true rfl⟩) ?_
    refine z_bif_ne (tgt := 47) hx hb dX7_weight_16 (by decide) (fun c1 => ?_) (fun c1 => ?_)
    · skip
      simp only [decide_eq_true_eq] at c1
      refine lv_fload_n hx hb dX7_weight_47 rfl (lv_at hl 2 rfl) ?_
      exact ro_fret hx hb hr hlk dX7_weight_48 (congrArg Value.float (by unfold weightG; rw [if_pos (show ¬ (0 ≤ q ∧ q < 32) by omega), show i = 0 by omega]; rfl))
    · skip
      simp only [decide_eq_false_iff_not] at c1
      refine lv_aload_n hx hb dX7_weight_19 rfl (lv_at hl 0 rfl) ?_
      refine lv_iload_n hx hb dX7_weight_20 rfl (lv_at hl 1 rfl) ?_
      refine lv_iload_n hx hb dX7_weight_21 rfl (lv_at hl 3 rfl) ?_
      refine z_ro (zrV (As := [.int (zI q), .int (zI i)]) (rest := []) (Pw := fun H => va_P G vwCl (moW cs a kq tq nq) H ∧ va_P G vwCl (m7 cs a 1 0 361 (aI Y)) H) ⟨hx, hb, hml, hown, hts⟩ (c_X7_isShown l G cs a S Y kq tq nq q i wf0 rr (by omega) (by omega)) gX7_weight_X7_isShown rfl qX7_isShown rfl rfl ⟨Nat.le_of_ble_eq_true rfl, Nat.le_of_ble_eq_true rfl⟩ ⟨hMo, hRw⟩ hK (va_recv hK.1 hMo (ci := 7) (q0 := 0) rfl rfl) hl.1 rfl (Nat.le_of_ble_eq_true rfl) dX7_weight_22 ⟨Nat.le_of_ble_eq_true rfl, Nat.le_of_ble_eq_true rfl⟩) ?_
      refine z_bif_eq (tgt := 41) hx hb dX7_weight_25 (by decide) (fun c2 => ?_) (fun c2 => ?_)
      · skip
        refine z_iinc (k := 3) (lv' := [(3, .int (zI (i + 1))), (0, .ref (a 0)), (1, .int (zI q)), (2, .float (wgtN S q (S 0 4) (i).toNat))]) hx hb dX7_weight_41 hl rfl (by decide) rfl (fun ls hl => ?_)
        refine lv_goto (tgt := 4) hx hb dX7_weight_44 (by decide) ?_
        exact ih (i + 1) ⟨by omega, fun _ => by omega⟩ (by omega) ls (by show lv_has ls 4 [(0, .ref (a 0)), (1, .int (zI q)), (2, .float (wgtN S q (S 0 4) ((i + 1)).toNat)), (3, .int (zI (i + 1)))]; rw [wgt_f hI.1 c2]; exact lv_sub hl [1, 2, 3, 0] rfl)
      · skip
        have q1 := wP i hI.1 (by omega)
        refine lv_fload_n hx hb dX7_weight_28 rfl (lv_at hl 2 rfl) ?_
        refine lv_aload_n hx hb dX7_weight_29 rfl (lv_at hl 0 rfl) ?_
        refine lv_aload_n hx hb dX7_weight_30 rfl (lv_at hl 0 rfl) ?_
        refine lv_iload_n hx hb dX7_weight_31 rfl (lv_at hl 3 rfl) ?_
        refine z_iconst (n := 0) hx hb dX7_weight_32 ?_
        refine z_ro (zrV (As := [.int (zI i), .int (zI 0)]) (rest := [.ref (a 0), .float (wgtN S q (S 0 4) (i).toNat)]) (Pw := fun H => va_P G vwCl (moW cs a kq tq nq) H ∧ va_P G vwCl (m7 cs a 1 0 361 (aI Y)) H) ⟨hx, hb, hml, hown, hts⟩ (c_X7_of l G cs a S Y kq tq nq i 0 wf0 rr (by omega) (by omega)) gX7_weight_X7_of rfl qX7_of rfl rfl ⟨Nat.le_of_ble_eq_true rfl, Nat.le_of_ble_eq_true rfl⟩ ⟨hMo, hRw⟩ hK (va_recv hK.1 hMo (ci := 7) (q0 := 0) rfl rfl) hl.1 rfl (Nat.le_of_ble_eq_true rfl) dX7_weight_33 ⟨Nat.le_of_ble_eq_true rfl, Nat.le_of_ble_eq_true rfl⟩) ?_
        refine z_ro (zrV (As := [.int (zI (S 1 (6 * i + 0)))]) (rest := [.float (wgtN S q (S 0 4) (i).toNat)]) (Pw := fun H => va_P G vwCl (moW cs a kq tq nq) H ∧ va_P G vwCl (m7 cs a 1 0 361 (aI Y)) H) ⟨hx, hb, hml, hown, hts⟩ (c_X7_shareOf l G cs a S Y kq tq nq (S 1 (6 * i + 0)) wf0 rr (by omega)) gX7_weight_X7_shareOf rfl qX7_shareOf rfl rfl ⟨Nat.le_of_ble_eq_true rfl, Nat.le_of_ble_eq_true rfl⟩ ⟨hMo, hRw⟩ hK (va_recv hK.1 hMo (ci := 7) (q0 := 0) rfl rfl) hl.1 rfl (Nat.le_of_ble_eq_true rfl) dX7_weight_36 ⟨Nat.le_of_ble_eq_true rfl, Nat.le_of_ble_eq_true rfl⟩) ?_
        refine lv_fadd hx hb dX7_weight_39 (nn_n32 (fadd_nn (wgtN_nn _ _ _ _) (shareF_nn _ _))) ?_
        refine lv_fstore_n (lv' := [(2, .float (FP.fadd (wgtN S q (S 0 4) (i).toNat) (shareF S (S 1 (6 * i + 0))))), (0, .ref (a 0)), (1, .int (zI q)), (3, .int (zI i))]) hx hb dX7_weight_40 rfl hl (by decide) rfl (fun ls hl => ?_)
        refine z_iinc (k := 3) (lv' := [(3, .int (zI (i + 1))), (2, .float (FP.fadd (wgtN S q (S 0 4) (i).toNat) (shareF S (S 1 (6 * i + 0))))), (0, .ref (a 0)), (1, .int (zI q))]) hx hb dX7_weight_41 hl rfl (by decide) rfl (fun ls hl => ?_)
        refine lv_goto (tgt := 4) hx hb dX7_weight_44 (by decide) ?_
        exact ih (i + 1) ⟨by omega, fun _ => by omega⟩ (by omega) ls (by show lv_has ls 4 [(0, .ref (a 0)), (1, .int (zI q)), (2, .float (wgtN S q (S 0 4) ((i + 1)).toNat)), (3, .int (zI (i + 1)))]; rw [wgt_t hI.1 c2]; exact lv_sub hl [2, 3, 1, 0] rfl)

set_option maxHeartbeats 4000000 in
set_option maxRecDepth 100000 in
theorem c_X7_pixel (l : Launch) (G : va_G) (cs : Nat → ClassId) (a : Nat → Nat) (S : SS) (Y : Int → Int) (kq tq nq : Int) (q r t : Int) (wf : WF S) (rr : RR S Y) (r_q : -2147483648 ≤ q ∧ q < 2147483648) (r_r : -2147483648 ≤ r ∧ r < 2147483648) (r_t : -2147483648 ≤ t ∧ t < 2147483648) : MRO l yX7_pixel wsX7_pixel { frames := 2, cells := 0, slots := 0, locals := 43 } G cs [.ref (a 0), .int (zI q), .int (zI r), .int (zI t)] (fun H => va_P G vwCl (moW cs a kq tq nq) H ∧ va_P G vwCl (m7 cs a 1 0 361 (aI Y)) H) (.int (zI (pixelF S q r t))) := by
  refine m_intro (Pw := (fun H => va_P G vwCl (moW cs a kq tq nq) H ∧ va_P G vwCl (m7 cs a 1 0 361 (aI Y)) H)) (cc := cX7_pixel) (maxL := 4) (ret := some .int) RX7 (by decide) rfl rfl (Nat.le_of_ble_eq_true rfl) ?_
  intro pP eE sS mM below meth cC hx hb hr hts hown hml hlk hnm hPre hK ls hl
  have hl : lv_has ls 4 [(0, .ref (a 0)), (1, .int (zI q)), (2, .int (zI r)), (3, .int (zI t))] := hl
  obtain ⟨hMo, hRw⟩ := hPre
  have wf0 := wf
  obtain ⟨w0, w1, w2, w3, w4, wP, wC, wS, wX⟩ := wf
  refine lv_aload_n hx hb dX7_pixel_0 rfl (lv_at hl 0 rfl) ?_
  refine lv_iload_n hx hb dX7_pixel_1 rfl (lv_at hl 1 rfl) ?_
  refine z_ro (zrV (As := [.int (zI q)]) (rest := []) (Pw := fun H => va_P G vwCl (moW cs a kq tq nq) H ∧ va_P G vwCl (m7 cs a 1 0 361 (aI Y)) H) ⟨hx, hb, hml, hown, hts⟩ (c_X7_noPart l G cs a S Y kq tq nq q wf0 rr (by omega)) gX7_pixel_X7_noPart rfl qX7_noPart rfl rfl ⟨Nat.le_of_ble_eq_true rfl, Nat.le_of_ble_eq_true rfl⟩ ⟨hMo, hRw⟩ hK (va_recv hK.1 hMo (ci := 7) (q0 := 0) rfl rfl) hl.1 rfl (Nat.le_of_ble_eq_true rfl) dX7_pixel_2 ⟨Nat.le_of_ble_eq_true rfl, Nat.le_of_ble_eq_true rfl⟩) ?_
  refine z_bif_eq (tgt := 10) hx hb dX7_pixel_5 (by decide) (fun c1 => ?_) (fun c1 => ?_)
  · skip
    simp only [decide_eq_false_iff_not] at c1
    refine lv_iload_n hx hb dX7_pixel_10 rfl (lv_at hl 2 rfl) ?_
    refine z_iconst (n := 0) hx hb dX7_pixel_11 ?_
    refine z_bipush (n := 7) hx hb dX7_pixel_12 (by decide) ?_
    refine z_ro (zrS (As := [.int (zI r), .int (zI 0), .int (zI 7)]) (rest := []) (Pw := fun _ => True) ⟨hx, hb, hml, hown, hts⟩ (c_X7_in l G cs r 0 7 (by omega) (by omega) (by omega)) gX7_pixel_X7_in rfl qX7_in rfl rfl ⟨Nat.le_of_ble_eq_true rfl, Nat.le_of_ble_eq_true rfl⟩ trivial hK hl.1 rfl (Nat.le_of_ble_eq_true rfl) dX7_pixel_14 ⟨Nat.le_of_ble_eq_true rfl, Nat.le_of_ble_eq_true rfl⟩) ?_
    refine z_bif_eq (tgt := 40) hx hb dX7_pixel_17 (by decide) (fun c2 => ?_) (fun c2 => ?_)
    · skip
      simp only [decide_eq_false_iff_not] at c2
      refine z_bipush (n := -2) hx hb dX7_pixel_40 (by decide) ?_
      exact ro_iret hx hb hr hlk dX7_pixel_42 (congrArg (fun z => Value.int (zI z)) (by unfold pixelF; rw [if_neg (show ¬ ¬ (0 ≤ q ∧ q < S 0 0) by omega), if_pos (show ¬ ((0 ≤ r ∧ r < 8) ∧ (0 ≤ t ∧ t < 8)) by omega)]))
    · skip
      simp only [decide_eq_true_eq] at c2
      refine lv_iload_n hx hb dX7_pixel_20 rfl (lv_at hl 3 rfl) ?_
      refine z_iconst (n := 0) hx hb dX7_pixel_21 ?_
      refine z_bipush (n := 7) hx hb dX7_pixel_22 (by decide) ?_
      refine z_ro (zrS (As := [.int (zI t), .int (zI 0), .int (zI 7)]) (rest := []) (Pw := fun _ => True) ⟨hx, hb, hml, hown, hts⟩ (c_X7_in l G cs t 0 7 (by omega) (by omega) (by omega)) gX7_pixel_X7_in rfl qX7_in rfl rfl ⟨Nat.le_of_ble_eq_true rfl, Nat.le_of_ble_eq_true rfl⟩ trivial hK hl.1 rfl (Nat.le_of_ble_eq_true rfl) dX7_pixel_24 ⟨Nat.le_of_ble_eq_true rfl, Nat.le_of_ble_eq_true rfl⟩) ?_
      refine z_bif_eq (tgt := 40) hx hb dX7_pixel_27 (by decide) (fun c3 => ?_) (fun c3 => ?_)
      · skip
        simp only [decide_eq_false_iff_not] at c3
        refine z_bipush (n := -2) hx hb dX7_pixel_40 (by decide) ?_
        exact ro_iret hx hb hr hlk dX7_pixel_42 (congrArg (fun z => Value.int (zI z)) (by unfold pixelF; rw [if_neg (show ¬ ¬ (0 ≤ q ∧ q < S 0 0) by omega), if_pos (show ¬ ((0 ≤ r ∧ r < 8) ∧ (0 ≤ t ∧ t < 8)) by omega)]))
      · skip
        simp only [decide_eq_true_eq] at c3
        refine lv_aload_n hx hb dX7_pixel_30 rfl (lv_at hl 0 rfl) ?_
        refine lv_iload_n hx hb dX7_pixel_31 rfl (lv_at hl 1 rfl) ?_
        refine lv_iload_n hx hb dX7_pixel_32 rfl (lv_at hl 2 rfl) ?_
        refine lv_iload_n hx hb dX7_pixel_33 rfl (lv_at hl 3 rfl) ?_
        refine z_ro (zrV (As := [.int (zI q), .int (zI r), .int (zI t)]) (rest := []) (Pw := fun H => va_P G vwCl (moW cs a kq tq nq) H ∧ va_P G vwCl (m7 cs a 1 0 361 (aI Y)) H) ⟨hx, hb, hml, hown, hts⟩ (c_X7_pixelOf l G cs a S Y kq tq nq q r t wf0 rr (by omega) (by omega) (by omega)) gX7_pixel_X7_pixelOf rfl qX7_pixelOf rfl rfl ⟨Nat.le_of_ble_eq_true rfl, Nat.le_of_ble_eq_true rfl⟩ ⟨hMo, hRw⟩ hK (va_recv hK.1 hMo (ci := 7) (q0 := 0) rfl rfl) hl.1 rfl (Nat.le_of_ble_eq_true rfl) dX7_pixel_34 ⟨Nat.le_of_ble_eq_true rfl, Nat.le_of_ble_eq_true rfl⟩) ?_
        refine lv_goto (tgt := 42) hx hb dX7_pixel_37 (by decide) ?_
        exact ro_iret hx hb hr hlk dX7_pixel_42 (congrArg (fun z => Value.int (zI z)) (by unfold pixelF; rw [if_neg (show ¬ ¬ (0 ≤ q ∧ q < S 0 0) by omega), if_neg (show ¬ ¬ ((0 ≤ r ∧ r < 8) ∧ (0 ≤ t ∧ t < 8)) by omega)]; rfl))
  · skip
    simp only [decide_eq_true_eq] at c1
    refine z_iconst (n := -1) hx hb dX7_pixel_8 ?_
    exact ro_iret hx hb hr hlk dX7_pixel_9 (congrArg (fun z => Value.int (zI z)) (by unfold pixelF; rw [if_pos (show ¬ (0 ≤ q ∧ q < S 0 0) by omega)]))

set_option maxHeartbeats 4000000 in
set_option maxRecDepth 100000 in
theorem c_X7_shown (l : Launch) (G : va_G) (cs : Nat → ClassId) (a : Nat → Nat) (S : SS) (Y : Int → Int) (kq tq nq : Int) (q t : Int) (wf : WF S) (rr : RR S Y) (r_q : -2147483648 ≤ q ∧ q < 2147483648) (r_t : -2147483648 ≤ t ∧ t < 2147483648) : MRO l yX7_shown wsX7_shown { frames := 4, cells := 0, slots := 0, locals := 93 } G cs [.ref (a 0), .int (zI q), .int (zI t)] (fun H => va_P G vwCl (moW cs a kq tq nq) H ∧ va_P G vwCl (m7 cs a 1 0 361 (aI Y)) H) (.int (zI (shownF S q t))) := by
  refine m_intro (Pw := (fun H => va_P G vwCl (moW cs a kq tq nq) H ∧ va_P G vwCl (m7 cs a 1 0 361 (aI Y)) H)) (cc := cX7_shown) (maxL := 4) (ret := some .int) RX7 (by decide) rfl rfl (Nat.le_of_ble_eq_true rfl) ?_
  intro pP eE sS mM below meth cC hx hb hr hts hown hml hlk hnm hPre hK ls hl
  have hl : lv_has ls 4 [(0, .ref (a 0)), (1, .int (zI q)), (2, .int (zI t))] := hl
  obtain ⟨hMo, hRw⟩ := hPre
  have hi7 : ∀ w ∈ u_ws RX7 TX7 12, w ∈ wsX7_shown := by decide +kernel
  have wf0 := wf
  obtain ⟨w0, w1, w2, w3, w4, wP, wC, wS, wX⟩ := wf
  refine lv_iload_n hx hb dX7_shown_0 rfl (lv_at hl 1 rfl) ?_
  refine z_ro (zrS (As := [.int (zI q)]) (rest := []) (Pw := fun _ => True) ⟨hx, hb, hml, hown, hts⟩ (c_X7_noLine l G cs q (by omega)) gX7_shown_X7_noLine rfl qX7_noLine rfl rfl ⟨Nat.le_of_ble_eq_true rfl, Nat.le_of_ble_eq_true rfl⟩ trivial hK hl.1 rfl (Nat.le_of_ble_eq_true rfl) dX7_shown_1 ⟨Nat.le_of_ble_eq_true rfl, Nat.le_of_ble_eq_true rfl⟩) ?_
  refine z_bif_eq (tgt := 9) hx hb dX7_shown_4 (by decide) (fun c1 => ?_) (fun c1 => ?_)
  · skip
    simp only [decide_eq_false_iff_not] at c1
    refine lv_iload_n hx hb dX7_shown_9 rfl (lv_at hl 2 rfl) ?_
    refine z_if_ge (tgt := 16) hx hb dX7_shown_10 (by decide) (by omega) (fun c1 => ?_) (fun c1 => ?_)
    · skip
      refine z_iconst (n := 0) hx hb dX7_shown_16 ?_
      refine lv_istore_n (lv' := [(3, .int (zI 0)), (0, .ref (a 0)), (1, .int (zI q)), (2, .int (zI t))]) hx hb dX7_shown_17 rfl hl (by decide) rfl (fun ls hl => ?_)
      -- loop 18
      refine z_loop (nL := 4) (fun (i : Int) => [(0, .ref (a 0)), (1, .int (zI q)), (2, .int (zI t)), (3, .int (zI i))]) (fun (i : Int) => (0 ≤ i ∧ i ≤ S 0 1) ∧ ∀ j, 0 ≤ j → j < i → turnOf S q j (S 0 4) ≠ t) (fun (i : Int) => (S 0 1 - i).toNat) 0 ⟨by omega, fun j h1 h2 => by omega⟩ (lv_sub hl [1, 2, 3, 0] rfl) (fun i hI ih ls hl => ?_)
      have hl : lv_has ls 4 [(0, .ref (a 0)), (1, .int (zI q)), (2, .int (zI t)), (3, .int (zI i))] := hl
      obtain ⟨hI, hJ⟩ := hI
      refine lv_iload_n hx hb dX7_shown_18 rfl (lv_at hl 3 rfl) ?_
      refine lv_aload_n hx hb dX7_shown_19 rfl (lv_at hl 0 rfl) ?_
      refine z_ro (zrV (As := []) (rest := [.int (zI i)]) (Pw := fun H => va_P G vwCl (moW cs a kq tq nq) H ∧ va_P G vwCl (m7 cs a 1 0 361 (aI Y)) H) ⟨hx, hb, hml, hown, hts⟩ (c_X7_sprites l G cs a S Y kq tq nq rr) gX7_shown_X7_sprites rfl qX7_sprites rfl rfl ⟨Nat.le_of_ble_eq_true rfl, Nat.le_of_ble_eq_true rfl⟩ ⟨hMo, hRw⟩ hK (va_recv hK.1 hMo (ci := 7) (q0 := 0) rfl rfl) hl.1 rfl (Nat.le_of_ble_eq_true rfl) dX7_shown_20 ⟨Nat.le_of_ble_eq_true rfl, Nat.le_of_ble_eq_true rfl⟩) ?_
      refine z_icmp_ge (tgt := 50) hx hb dX7_shown_23 (by decide) (by omega) (by omega) (fun c2 => ?_) (fun c2 => ?_)
      · skip
        refine z_bipush (n := -5) hx hb dX7_shown_50 (by decide) ?_
        exact ro_iret hx hb hr hlk dX7_shown_52 (congrArg (fun z => Value.int (zI z)) (by unfold shownF; rw [if_neg (show ¬ (¬ (0 ≤ q ∧ q < 32)) by omega), if_neg (show ¬ t < 0 by omega)]; exact (ff_none (f := fun x => decide (turnOf S q x (S 0 4) = t)) (fun j h1 h2 => decide_eq_false (hJ j h1 (by omega)))).symm))
      · skip
        refine lv_aload_n hx hb dX7_shown_26 rfl (lv_at hl 0 rfl) ?_
        refine lv_iload_n hx hb dX7_shown_27 rfl (lv_at hl 1 rfl) ?_
        refine lv_iload_n hx hb dX7_shown_28 rfl (lv_at hl 3 rfl) ?_
        refine lv_aload_n hx hb dX7_shown_29 rfl (lv_at hl 0 rfl) ?_
        refine va_get (D := G) (ci := 7) (v := .ref ((sh a 1) 0)) (C := RX7) (T := TX7) (N := 12) hx hb hts hi7 hown hK.1 hMo 0 rfl rfl 0 (by decide) (hts (.fieldLink RX7 7 "SpriteLinesModel" "row" "[I") (by decide +kernel)) (fun _ h9 => h9) rfl dX7_shown_30 ?_
        refine z_iconst (n := 4) hx hb dX7_shown_33 ?_
        refine z_iald hx hb hK.1 hRw 0 0 (F := Y) rfl rfl (by omega) (by decide) dX7_shown_34 ?_
        refine z_topi (b := S 0 4) rr.1.2.2.2.2 ?_
        refine z_ro (zrV (As := [.int (zI q), .int (zI i), .int (zI (S 0 4))]) (rest := []) (Pw := fun H => va_P G vwCl (moW cs a kq tq nq) H ∧ va_P G vwCl (m7 cs a 1 0 361 (aI Y)) H) ⟨hx, hb, hml, hown, hts⟩ (c_X7_turnOf l G cs a S Y kq tq nq q i (S 0 4) wf0 rr (by omega) (by omega) (by omega)) gX7_shown_X7_turnOf rfl qX7_turnOf rfl rfl ⟨Nat.le_of_ble_eq_true rfl, Nat.le_of_ble_eq_true rfl⟩ ⟨hMo, hRw⟩ hK (va_recv hK.1 hMo (ci := 7) (q0 := 0) rfl rfl) hl.1 rfl (Nat.le_of_ble_eq_true rfl) dX7_shown_35 ⟨Nat.le_of_ble_eq_true rfl, Nat.le_of_ble_eq_true rfl⟩) ?_
        refine lv_iload_n hx hb dX7_shown_38 rfl (lv_at hl 2 rfl) ?_
        refine z_icmp_ne (tgt := 44) hx hb dX7_shown_39 (by decide) (by have := turn_rng (S := S) (q := q) (x := i) (fr := S 0 4) (by omega) w2.2; omega) (by omega) (fun c3 => ?_) (fun c3 => ?_)
        · skip
          refine z_iinc (k := 3) (lv' := [(3, .int (zI (i + 1))), (0, .ref (a 0)), (1, .int (zI q)), (2, .int (zI t))]) hx hb dX7_shown_44 hl rfl (by decide) rfl (fun ls hl => ?_)
          refine lv_goto (tgt := 18) hx hb dX7_shown_47 (by decide) ?_
          exact ih (i + 1) ⟨by omega, fun j q1 q2 => by
      by_cases e : j = i
      · subst e; exact c3
      · exact hJ j q1 (by omega)⟩ (by omega) ls (lv_sub hl [1, 2, 3, 0] rfl)
        · skip
          refine lv_iload_n hx hb dX7_shown_42 rfl (lv_at hl 3 rfl) ?_
          exact ro_iret hx hb hr hlk dX7_shown_43 (congrArg (fun z => Value.int (zI z)) (by unfold shownF; rw [if_neg (show ¬ (¬ (0 ≤ q ∧ q < 32)) by omega), if_neg (show ¬ t < 0 by omega)]; exact (ff_hit (f := fun x => decide (turnOf S q x (S 0 4) = t)) i (fun j h1 h2 => decide_eq_false (hJ j h1 h2)) hI.1 (by omega) (decide_eq_true c3)).symm))
    · skip
      refine z_bipush (n := -2) hx hb dX7_shown_13 (by decide) ?_
      exact ro_iret hx hb hr hlk dX7_shown_15 (congrArg (fun z => Value.int (zI z)) (by unfold shownF; rw [if_neg (show ¬ (¬ (0 ≤ q ∧ q < 32)) by omega), if_pos (show t < 0 by omega)]))
  · skip
    simp only [decide_eq_true_eq] at c1
    refine z_iconst (n := -1) hx hb dX7_shown_7 ?_
    exact ro_iret hx hb hr hlk dX7_shown_8 (congrArg (fun z => Value.int (zI z)) (by unfold shownF; rw [if_pos (show ¬ (0 ≤ q ∧ q < 32) by omega)]))

set_option maxHeartbeats 4000000 in
set_option maxRecDepth 100000 in
theorem c_X7_shownIn (l : Launch) (G : va_G) (cs : Nat → ClassId) (a : Nat → Nat) (S : SS) (Y : Int → Int) (kq tq nq : Int) (q z : Int) (wf : WF S) (rr : RR S Y) (r_q : -2147483648 ≤ q ∧ q < 2147483648) (r_z : -2147483648 ≤ z ∧ z < 2147483648) : MRO l yX7_shownIn wsX7_shownIn { frames := 4, cells := 0, slots := 0, locals := 93 } G cs [.ref (a 0), .int (zI q), .int (zI z)] (fun H => va_P G vwCl (moW cs a kq tq nq) H ∧ va_P G vwCl (m7 cs a 1 0 361 (aI Y)) H) (.int (zI (shownInF S q z))) := by
  refine m_intro (Pw := (fun H => va_P G vwCl (moW cs a kq tq nq) H ∧ va_P G vwCl (m7 cs a 1 0 361 (aI Y)) H)) (cc := cX7_shownIn) (maxL := 4) (ret := some .int) RX7 (by decide) rfl rfl (Nat.le_of_ble_eq_true rfl) ?_
  intro pP eE sS mM below meth cC hx hb hr hts hown hml hlk hnm hPre hK ls hl
  have hl : lv_has ls 4 [(0, .ref (a 0)), (1, .int (zI q)), (2, .int (zI z))] := hl
  obtain ⟨hMo, hRw⟩ := hPre
  have hi7 : ∀ w ∈ u_ws RX7 TX7 12, w ∈ wsX7_shownIn := by decide +kernel
  have wf0 := wf
  obtain ⟨w0, w1, w2, w3, w4, wP, wC, wS, wX⟩ := wf
  refine lv_iload_n hx hb dX7_shownIn_0 rfl (lv_at hl 1 rfl) ?_
  refine z_ro (zrS (As := [.int (zI q)]) (rest := []) (Pw := fun _ => True) ⟨hx, hb, hml, hown, hts⟩ (c_X7_noLine l G cs q (by omega)) gX7_shownIn_X7_noLine rfl qX7_noLine rfl rfl ⟨Nat.le_of_ble_eq_true rfl, Nat.le_of_ble_eq_true rfl⟩ trivial hK hl.1 rfl (Nat.le_of_ble_eq_true rfl) dX7_shownIn_1 ⟨Nat.le_of_ble_eq_true rfl, Nat.le_of_ble_eq_true rfl⟩) ?_
  refine z_bif_ne (tgt := 15) hx hb dX7_shownIn_4 (by decide) (fun c1 => ?_) (fun c1 => ?_)
  · skip
    simp only [decide_eq_true_eq] at c1
    refine z_iconst (n := -1) hx hb dX7_shownIn_15 ?_
    exact ro_iret hx hb hr hlk dX7_shownIn_16 (congrArg (fun z => Value.int (zI z)) (by unfold shownInF; rw [if_pos (show ¬ ((0 ≤ q ∧ q < 32) ∧ (0 ≤ z ∧ z < S 0 1)) by omega)]))
  · skip
    simp only [decide_eq_false_iff_not] at c1
    refine lv_aload_n hx hb dX7_shownIn_7 rfl (lv_at hl 0 rfl) ?_
    refine lv_iload_n hx hb dX7_shownIn_8 rfl (lv_at hl 2 rfl) ?_
    refine z_ro (zrV (As := [.int (zI z)]) (rest := []) (Pw := fun H => va_P G vwCl (moW cs a kq tq nq) H ∧ va_P G vwCl (m7 cs a 1 0 361 (aI Y)) H) ⟨hx, hb, hml, hown, hts⟩ (c_X7_noSprite l G cs a S Y kq tq nq z wf0 rr (by omega)) gX7_shownIn_X7_noSprite rfl qX7_noSprite rfl rfl ⟨Nat.le_of_ble_eq_true rfl, Nat.le_of_ble_eq_true rfl⟩ ⟨hMo, hRw⟩ hK (va_recv hK.1 hMo (ci := 7) (q0 := 0) rfl rfl) hl.1 rfl (Nat.le_of_ble_eq_true rfl) dX7_shownIn_9 ⟨Nat.le_of_ble_eq_true rfl, Nat.le_of_ble_eq_true rfl⟩) ?_
    refine z_bif_eq (tgt := 17) hx hb dX7_shownIn_12 (by decide) (fun c2 => ?_) (fun c2 => ?_)
    · skip
      simp only [decide_eq_false_iff_not] at c2
      refine z_iconst (n := 0) hx hb dX7_shownIn_17 ?_
      refine lv_istore_n (lv' := [(3, .int (zI 0)), (0, .ref (a 0)), (1, .int (zI q)), (2, .int (zI z))]) hx hb dX7_shownIn_18 rfl hl (by decide) rfl (fun ls hl => ?_)
      -- loop 19
      refine z_loop (nL := 4) (fun (i : Int) => [(0, .ref (a 0)), (1, .int (zI q)), (2, .int (zI z)), (3, .int (zI i))]) (fun (i : Int) => (0 ≤ i ∧ i ≤ 21) ∧ ∀ j, 0 ≤ j → j < i → shownB S q (S 0 4 + j) z = false) (fun (i : Int) => (21 - i).toNat) 0 ⟨by omega, fun j h1 h2 => by omega⟩ (lv_sub hl [1, 2, 3, 0] rfl) (fun i hI ih ls hl => ?_)
      have hl : lv_has ls 4 [(0, .ref (a 0)), (1, .int (zI q)), (2, .int (zI z)), (3, .int (zI i))] := hl
      obtain ⟨hI, hJ⟩ := hI
      refine lv_iload_n hx hb dX7_shownIn_19 rfl (lv_at hl 3 rfl) ?_
      refine z_bipush (n := 20) hx hb dX7_shownIn_20 (by decide) ?_
      refine z_icmp_gt (tgt := 50) hx hb dX7_shownIn_22 (by decide) (by omega) (by omega) (fun c1 => ?_) (fun c1 => ?_)
      · skip
        refine z_bipush (n := -5) hx hb dX7_shownIn_50 (by decide) ?_
        exact ro_iret hx hb hr hlk dX7_shownIn_52 (congrArg (fun z => Value.int (zI z)) (by unfold shownInF; rw [if_neg (show ¬ ¬ ((0 ≤ q ∧ q < 32) ∧ (0 ≤ z ∧ z < S 0 1)) by omega)]; exact (ff_none (f := fun i => shownB S q (S 0 4 + i) z) (fun j h1 h2 => hJ j h1 (by omega))).symm))
      · skip
        refine lv_aload_n hx hb dX7_shownIn_25 rfl (lv_at hl 0 rfl) ?_
        refine lv_iload_n hx hb dX7_shownIn_26 rfl (lv_at hl 1 rfl) ?_
        refine lv_iload_n hx hb dX7_shownIn_27 rfl (lv_at hl 2 rfl) ?_
        refine lv_aload_n hx hb dX7_shownIn_28 rfl (lv_at hl 0 rfl) ?_
        refine va_get (D := G) (ci := 7) (v := .ref ((sh a 1) 0)) (C := RX7) (T := TX7) (N := 12) hx hb hts hi7 hown hK.1 hMo 0 rfl rfl 0 (by decide) (hts (.fieldLink RX7 7 "SpriteLinesModel" "row" "[I") (by decide +kernel)) (fun _ h9 => h9) rfl dX7_shownIn_29 ?_
        refine z_iconst (n := 4) hx hb dX7_shownIn_32 ?_
        refine z_iald hx hb hK.1 hRw 0 0 (F := Y) rfl rfl (by omega) (by decide) dX7_shownIn_33 ?_
        refine z_topi (b := S 0 4) rr.1.2.2.2.2 ?_
        refine lv_iload_n hx hb dX7_shownIn_34 rfl (lv_at hl 3 rfl) ?_
        refine z_iadd hx hb dX7_shownIn_35 ?_
        refine z_ro (zrV (As := [.int (zI q), .int (zI z), .int (zI ((S 0 4) + i))]) (rest := []) (Pw := fun H => va_P G vwCl (moW cs a kq tq nq) H ∧ va_P G vwCl (m7 cs a 1 0 361 (aI Y)) H) ⟨hx, hb, hml, hown, hts⟩ (c_X7_turnOf l G cs a S Y kq tq nq q z ((S 0 4) + i) wf0 rr (by omega) (by omega) (by omega)) gX7_shownIn_X7_turnOf rfl qX7_turnOf rfl rfl ⟨Nat.le_of_ble_eq_true rfl, Nat.le_of_ble_eq_true rfl⟩ ⟨hMo, hRw⟩ hK (va_recv hK.1 hMo (ci := 7) (q0 := 0) rfl rfl) hl.1 rfl (Nat.le_of_ble_eq_true rfl) dX7_shownIn_36 ⟨Nat.le_of_ble_eq_true rfl, Nat.le_of_ble_eq_true rfl⟩) ?_
        refine z_if_lt (tgt := 44) hx hb dX7_shownIn_39 (by decide) (by have := turn_rng (S := S) (q := q) (x := z) (fr := S 0 4 + i) (by omega) w2.2; omega) (fun c3 => ?_) (fun c3 => ?_)
        · skip
          refine z_iinc (k := 3) (lv' := [(3, .int (zI (i + 1))), (0, .ref (a 0)), (1, .int (zI q)), (2, .int (zI z))]) hx hb dX7_shownIn_44 hl rfl (by decide) rfl (fun ls hl => ?_)
          refine lv_goto (tgt := 19) hx hb dX7_shownIn_47 (by decide) ?_
          exact ih (i + 1) ⟨by omega, fun j q1 q2 => by
      by_cases e : j = i
      · subst e; exact decide_eq_false (by omega)
      · exact hJ j q1 (by omega)⟩ (by omega) ls (lv_sub hl [1, 2, 3, 0] rfl)
        · skip
          refine lv_iload_n hx hb dX7_shownIn_42 rfl (lv_at hl 3 rfl) ?_
          exact ro_iret hx hb hr hlk dX7_shownIn_43 (congrArg (fun z => Value.int (zI z)) (by unfold shownInF; rw [if_neg (show ¬ ¬ ((0 ≤ q ∧ q < 32) ∧ (0 ≤ z ∧ z < S 0 1)) by omega)]; exact (ff_hit (f := fun i => shownB S q (S 0 4 + i) z) i (fun j h1 h2 => hJ j h1 h2) hI.1 (by omega) (decide_eq_true c3)).symm))
    · skip
      simp only [decide_eq_true_eq] at c2
      refine z_iconst (n := -1) hx hb dX7_shownIn_15 ?_
      exact ro_iret hx hb hr hlk dX7_shownIn_16 (congrArg (fun z => Value.int (zI z)) (by unfold shownInF; rw [if_pos (show ¬ ((0 ≤ q ∧ q < 32) ∧ (0 ≤ z ∧ z < S 0 1)) by omega)]))

set_option maxHeartbeats 4000000 in
set_option maxRecDepth 100000 in
theorem c_X7_pairs (l : Launch) (G : va_G) (cs : Nat → ClassId) (a : Nat → Nat) (S : SS) (Y : Int → Int) (kq tq nq : Int) (wf : WF S) (rr : RR S Y) : MRO l yX7_pairs wsX7_pairs { frames := 6, cells := 0, slots := 0, locals := 139 } G cs [.ref (a 0)] (fun H => va_P G vwCl (moW cs a kq tq nq) H ∧ va_P G vwCl (m7 cs a 1 0 361 (aI Y)) H) (.int (zI (pairsF S (S 0 4)))) := by
  refine m_intro (Pw := (fun H => va_P G vwCl (moW cs a kq tq nq) H ∧ va_P G vwCl (m7 cs a 1 0 361 (aI Y)) H)) (cc := cX7_pairs) (maxL := 4) (ret := some .int) RX7 (by decide) rfl rfl (Nat.le_of_ble_eq_true rfl) ?_
  intro pP eE sS mM below meth cC hx hb hr hts hown hml hlk hnm hPre hK ls hl
  have hl : lv_has ls 4 [(0, .ref (a 0))] := hl
  obtain ⟨hMo, hRw⟩ := hPre
  have wf0 := wf
  obtain ⟨w0, w1, w2, w3, w4, wP, wC, wS, wX⟩ := wf
  refine z_iconst (n := 0) hx hb dX7_pairs_0 ?_
  refine lv_istore_n (lv' := [(1, .int (zI 0)), (0, .ref (a 0))]) hx hb dX7_pairs_1 rfl hl (by decide) rfl (fun ls hl => ?_)
  refine z_iconst (n := 0) hx hb dX7_pairs_2 ?_
  refine lv_istore_n (lv' := [(2, .int (zI 0)), (1, .int (zI 0)), (0, .ref (a 0))]) hx hb dX7_pairs_3 rfl hl (by decide) rfl (fun ls hl => ?_)
  -- loop 4
  refine z_loop (nL := 4) (fun (i : Int) => [(0, .ref (a 0)), (1, .int (zI (sumN (fun x => cntI (fun y => decide (x < y) && meetB S (S 0 4) x y) (S 0 1)) i.toNat))), (2, .int (zI i))]) (fun (i : Int) => 0 ≤ i ∧ i ≤ S 0 1) (fun (i : Int) => (S 0 1 - i).toNat) 0 (by omega) (lv_sub hl [2, 1, 0] rfl) (fun i hI ih ls hl => ?_)
  have hl : lv_has ls 4 [(0, .ref (a 0)), (1, .int (zI (sumN (fun x => cntI (fun y => decide (x < y) && meetB S (S 0 4) x y) (S 0 1)) i.toNat))), (2, .int (zI i))] := hl
  have ih1 := ih
  have hI1 := hI
  refine lv_iload_n hx hb dX7_pairs_4 rfl (lv_at hl 2 rfl) ?_
  refine lv_aload_n hx hb dX7_pairs_5 rfl (lv_at hl 0 rfl) ?_
  refine z_ro (zrV (As := []) (rest := [.int (zI i)]) (Pw := fun H => va_P G vwCl (moW cs a kq tq nq) H ∧ va_P G vwCl (m7 cs a 1 0 361 (aI Y)) H) ⟨hx, hb, hml, hown, hts⟩ (c_X7_sprites l G cs a S Y kq tq nq rr) gX7_pairs_X7_sprites rfl qX7_sprites rfl rfl ⟨Nat.le_of_ble_eq_true rfl, Nat.le_of_ble_eq_true rfl⟩ ⟨hMo, hRw⟩ hK (va_recv hK.1 hMo (ci := 7) (q0 := 0) rfl rfl) hl.1 rfl (Nat.le_of_ble_eq_true rfl) dX7_pairs_6 ⟨Nat.le_of_ble_eq_true rfl, Nat.le_of_ble_eq_true rfl⟩) ?_
  refine z_icmp_ge (tgt := 53) hx hb dX7_pairs_9 (by decide) (by omega) (by omega) (fun c1 => ?_) (fun c1 => ?_)
  · skip
    refine lv_iload_n hx hb dX7_pairs_53 rfl (lv_at hl 1 rfl) ?_
    exact ro_iret hx hb hr hlk dX7_pairs_54 (congrArg (fun z => Value.int (zI z)) (by rw [show i = S 0 1 by omega]; rfl))
  · skip
    refine lv_iload_n hx hb dX7_pairs_12 rfl (lv_at hl 2 rfl) ?_
    refine z_iconst (n := 1) hx hb dX7_pairs_13 ?_
    refine z_iadd hx hb dX7_pairs_14 ?_
    refine lv_istore_n (lv' := [(3, .int (zI (i + 1))), (0, .ref (a 0)), (1, .int (zI (sumN (fun x => cntI (fun y => decide (x < y) && meetB S (S 0 4) x y) (S 0 1)) i.toNat))), (2, .int (zI i))]) hx hb dX7_pairs_15 rfl hl (by decide) rfl (fun ls hl => ?_)
    -- loop 16
    have e0 : cntI (fun y => decide (i < y) && meetB S (S 0 4) i y) (i + 1) = 0 := cnt_none (fun y h1 h2 => by show (decide (i < y) && meetB S (S 0 4) i y) = false; rw [decide_eq_false (show ¬ i < y by omega), Bool.false_and])
    refine z_loop (nL := 4) (fun (j : Int) => [(0, .ref (a 0)), (1, .int (zI (sumN (fun x => cntI (fun y => decide (x < y) && meetB S (S 0 4) x y) (S 0 1)) i.toNat + cntI (fun y => decide (i < y) && meetB S (S 0 4) i y) j))), (2, .int (zI i)), (3, .int (zI j))]) (fun (j : Int) => i + 1 ≤ j ∧ j ≤ S 0 1) (fun (j : Int) => (S 0 1 - j).toNat) (i + 1) (by omega) (by show lv_has ls 4 [(0, .ref (a 0)), (1, .int (zI (sumN (fun x => cntI (fun y => decide (x < y) && meetB S (S 0 4) x y) (S 0 1)) i.toNat + cntI (fun y => decide (i < y) && meetB S (S 0 4) i y) (i + 1)))), (2, .int (zI i)), (3, .int (zI (i + 1)))]; rw [e0, Int.add_zero]; exact lv_sub hl [1, 2, 3, 0] rfl) (fun j hI ih ls hl => ?_)
    have hl : lv_has ls 4 [(0, .ref (a 0)), (1, .int (zI (sumN (fun x => cntI (fun y => decide (x < y) && meetB S (S 0 4) x y) (S 0 1)) i.toNat + cntI (fun y => decide (i < y) && meetB S (S 0 4) i y) j))), (2, .int (zI i)), (3, .int (zI j))] := hl
    have ih2 := ih
    refine lv_iload_n hx hb dX7_pairs_16 rfl (lv_at hl 3 rfl) ?_
    refine lv_aload_n hx hb dX7_pairs_17 rfl (lv_at hl 0 rfl) ?_
    refine z_ro (zrV (As := []) (rest := [.int (zI j)]) (Pw := fun H => va_P G vwCl (moW cs a kq tq nq) H ∧ va_P G vwCl (m7 cs a 1 0 361 (aI Y)) H) ⟨hx, hb, hml, hown, hts⟩ (c_X7_sprites l G cs a S Y kq tq nq rr) gX7_pairs_X7_sprites rfl qX7_sprites rfl rfl ⟨Nat.le_of_ble_eq_true rfl, Nat.le_of_ble_eq_true rfl⟩ ⟨hMo, hRw⟩ hK (va_recv hK.1 hMo (ci := 7) (q0 := 0) rfl rfl) hl.1 rfl (Nat.le_of_ble_eq_true rfl) dX7_pairs_18 ⟨Nat.le_of_ble_eq_true rfl, Nat.le_of_ble_eq_true rfl⟩) ?_
    refine z_icmp_ge (tgt := 47) hx hb dX7_pairs_21 (by decide) (by omega) (by omega) (fun c2 => ?_) (fun c2 => ?_)
    · skip
      refine z_iinc (k := 2) (lv' := [(2, .int (zI (i + 1))), (0, .ref (a 0)), (1, .int (zI (sumN (fun x => cntI (fun y => decide (x < y) && meetB S (S 0 4) x y) (S 0 1)) i.toNat + cntI (fun y => decide (i < y) && meetB S (S 0 4) i y) j))), (3, .int (zI j))]) hx hb dX7_pairs_47 hl rfl (by decide) rfl (fun ls hl => ?_)
      refine lv_goto (tgt := 4) hx hb dX7_pairs_50 (by decide) ?_
      have e5 : sumN (fun x => cntI (fun y => decide (x < y) && meetB S (S 0 4) x y) (S 0 1)) i.toNat + cntI (fun y => decide (i < y) && meetB S (S 0 4) i y) j = sumN (fun x => cntI (fun y => decide (x < y) && meetB S (S 0 4) x y) (S 0 1)) (i + 1).toNat := by rw [sumN_s (f := fun x => cntI (fun y => decide (x < y) && meetB S (S 0 4) x y) (S 0 1)) hI1.1, show j = S 0 1 by omega]
      exact ih1 (i + 1) (by omega) (by omega) ls (by show lv_has ls 4 [(0, .ref (a 0)), (1, .int (zI (sumN (fun x => cntI (fun y => decide (x < y) && meetB S (S 0 4) x y) (S 0 1)) (i + 1).toNat))), (2, .int (zI (i + 1)))]; rw [← e5]; exact lv_sub hl [1, 2, 0] rfl)
    · skip
      refine lv_iload_n hx hb dX7_pairs_24 rfl (lv_at hl 1 rfl) ?_
      refine lv_aload_n hx hb dX7_pairs_25 rfl (lv_at hl 0 rfl) ?_
      refine lv_iload_n hx hb dX7_pairs_26 rfl (lv_at hl 2 rfl) ?_
      refine lv_iload_n hx hb dX7_pairs_27 rfl (lv_at hl 3 rfl) ?_
      refine z_ro (zrV (As := [.int (zI i), .int (zI j)]) (rest := [.int (zI (sumN (fun x => cntI (fun y => decide (x < y) && meetB S (S 0 4) x y) (S 0 1)) i.toNat + cntI (fun y => decide (i < y) && meetB S (S 0 4) i y) j))]) (Pw := fun H => va_P G vwCl (moW cs a kq tq nq) H ∧ va_P G vwCl (m7 cs a 1 0 361 (aI Y)) H) ⟨hx, hb, hml, hown, hts⟩ (c_X7_doMeet l G cs a S Y kq tq nq i j wf0 rr (by omega) (by omega)) gX7_pairs_X7_doMeet rfl qX7_doMeet rfl rfl ⟨Nat.le_of_ble_eq_true rfl, Nat.le_of_ble_eq_true rfl⟩ ⟨hMo, hRw⟩ hK (va_recv hK.1 hMo (ci := 7) (q0 := 0) rfl rfl) hl.1 rfl (Nat.le_of_ble_eq_true rfl) dX7_pairs_28 ⟨Nat.le_of_ble_eq_true rfl, Nat.le_of_ble_eq_true rfl⟩) ?_
      refine z_bif_eq (tgt := 38) hx hb dX7_pairs_31 (by decide) (fun c2 => ?_) (fun c2 => ?_)
      · skip
        refine z_iconst (n := 0) hx hb dX7_pairs_38 ?_
        refine z_iadd hx hb dX7_pairs_39 ?_
        refine lv_istore_n (lv' := [(1, .int (zI ((sumN (fun x => cntI (fun y => decide (x < y) && meetB S (S 0 4) x y) (S 0 1)) i.toNat + cntI (fun y => decide (i < y) && meetB S (S 0 4) i y) j) + 0))), (0, .ref (a 0)), (2, .int (zI i)), (3, .int (zI j))]) hx hb dX7_pairs_40 rfl hl (by decide) rfl (fun ls hl => ?_)
        refine z_iinc (k := 3) (lv' := [(3, .int (zI (j + 1))), (1, .int (zI ((sumN (fun x => cntI (fun y => decide (x < y) && meetB S (S 0 4) x y) (S 0 1)) i.toNat + cntI (fun y => decide (i < y) && meetB S (S 0 4) i y) j) + 0))), (0, .ref (a 0)), (2, .int (zI i))]) hx hb dX7_pairs_41 hl rfl (by decide) rfl (fun ls hl => ?_)
        refine lv_goto (tgt := 16) hx hb dX7_pairs_44 (by decide) ?_
        exact ih2 (j + 1) (by omega) (by omega) ls (by show lv_has ls 4 [(0, .ref (a 0)), (1, .int (zI (sumN (fun x => cntI (fun y => decide (x < y) && meetB S (S 0 4) x y) (S 0 1)) i.toNat + cntI (fun y => decide (i < y) && meetB S (S 0 4) i y) (j + 1)))), (2, .int (zI i)), (3, .int (zI (j + 1)))]; rw [cntI_z (f := fun y => decide (i < y) && meetB S (S 0 4) i y) (show 0 ≤ j by omega) (show (decide (i < j) && meetB S (S 0 4) i j) = false by rw [c2, Bool.and_false]), ← Int.add_assoc (sumN _ _)]; exact lv_sub hl [2, 1, 3, 0] rfl)
      · skip
        refine z_iconst (n := 1) hx hb dX7_pairs_34 ?_
        refine lv_goto (tgt := 39) hx hb dX7_pairs_35 (by decide) ?_
        refine z_iadd hx hb dX7_pairs_39 ?_
        refine lv_istore_n (lv' := [(1, .int (zI ((sumN (fun x => cntI (fun y => decide (x < y) && meetB S (S 0 4) x y) (S 0 1)) i.toNat + cntI (fun y => decide (i < y) && meetB S (S 0 4) i y) j) + 1))), (0, .ref (a 0)), (2, .int (zI i)), (3, .int (zI j))]) hx hb dX7_pairs_40 rfl hl (by decide) rfl (fun ls hl => ?_)
        refine z_iinc (k := 3) (lv' := [(3, .int (zI (j + 1))), (1, .int (zI ((sumN (fun x => cntI (fun y => decide (x < y) && meetB S (S 0 4) x y) (S 0 1)) i.toNat + cntI (fun y => decide (i < y) && meetB S (S 0 4) i y) j) + 1))), (0, .ref (a 0)), (2, .int (zI i))]) hx hb dX7_pairs_41 hl rfl (by decide) rfl (fun ls hl => ?_)
        refine lv_goto (tgt := 16) hx hb dX7_pairs_44 (by decide) ?_
        exact ih2 (j + 1) (by omega) (by omega) ls (by show lv_has ls 4 [(0, .ref (a 0)), (1, .int (zI (sumN (fun x => cntI (fun y => decide (x < y) && meetB S (S 0 4) x y) (S 0 1)) i.toNat + cntI (fun y => decide (i < y) && meetB S (S 0 4) i y) (j + 1)))), (2, .int (zI i)), (3, .int (zI (j + 1)))]; rw [cntI_t (f := fun y => decide (i < y) && meetB S (S 0 4) i y) (show 0 ≤ j by omega) (show (decide (i < j) && meetB S (S 0 4) i j) = true by rw [c2, decide_eq_true (show i < j by omega)]; rfl), ← Int.add_assoc (sumN _ _)]; exact lv_sub hl [2, 1, 3, 0] rfl)

set_option maxHeartbeats 4000000 in
set_option maxRecDepth 100000 in
theorem c_X7_weights (l : Launch) (G : va_G) (cs : Nat → ClassId) (a : Nat → Nat) (S : SS) (Y : Int → Int) (kq tq nq : Int) (wf : WF S) (rr : RR S Y) : MRO l yX7_weights wsX7_weights { frames := 6, cells := 0, slots := 0, locals := 138 } G cs [.ref (a 0)] (fun H => va_P G vwCl (moW cs a kq tq nq) H ∧ va_P G vwCl (m7 cs a 1 0 361 (aI Y)) H) (.int (zI (sumN (fun q => (FP.f2i (wgtF S q (S 0 4))).toInt) 32))) := by
  refine m_intro (Pw := (fun H => va_P G vwCl (moW cs a kq tq nq) H ∧ va_P G vwCl (m7 cs a 1 0 361 (aI Y)) H)) (cc := cX7_weights) (maxL := 3) (ret := some .int) RX7 (by decide) rfl rfl (Nat.le_of_ble_eq_true rfl) ?_
  intro pP eE sS mM below meth cC hx hb hr hts hown hml hlk hnm hPre hK ls hl
  have hl : lv_has ls 3 [(0, .ref (a 0))] := hl
  obtain ⟨hMo, hRw⟩ := hPre
  have wf0 := wf
  obtain ⟨w0, w1, w2, w3, w4, wP, wC, wS, wX⟩ := wf
  refine z_iconst (n := 0) hx hb dX7_weights_0 ?_
  refine lv_istore_n (lv' := [(1, .int (zI 0)), (0, .ref (a 0))]) hx hb dX7_weights_1 rfl hl (by decide) rfl (fun ls hl => ?_)
  refine z_iconst (n := 0) hx hb dX7_weights_2 ?_
  refine lv_istore_n (lv' := [(2, .int (zI 0)), (1, .int (zI 0)), (0, .ref (a 0))]) hx hb dX7_weights_3 rfl hl (by decide) rfl (fun ls hl => ?_)
  -- loop 4
  refine z_loop (nL := 3) (fun (i : Int) => [(0, .ref (a 0)), (1, .int (zI (sumN (fun q => (FP.f2i (wgtF S q (S 0 4))).toInt) i.toNat))), (2, .int (zI i))]) (fun (i : Int) => 0 ≤ i ∧ i ≤ 32) (fun (i : Int) => (32 - i).toNat) 0 (by omega) (lv_sub hl [2, 1, 0] rfl) (fun i hI ih ls hl => ?_)
  have hl : lv_has ls 3 [(0, .ref (a 0)), (1, .int (zI (sumN (fun q => (FP.f2i (wgtF S q (S 0 4))).toInt) i.toNat))), (2, .int (zI i))] := hl
  refine lv_iload_n hx hb dX7_weights_4 rfl (lv_at hl 2 rfl) ?_
  refine z_bipush (n := 32) hx hb dX7_weights_5 (by decide) ?_
  refine z_icmp_ge (tgt := 25) hx hb dX7_weights_7 (by decide) (by omega) (by omega) (fun c1 => ?_) (fun c1 => ?_)
  · skip
    refine lv_iload_n hx hb dX7_weights_25 rfl (lv_at hl 1 rfl) ?_
    exact ro_iret hx hb hr hlk dX7_weights_26 (congrArg (fun z => Value.int (zI z)) (by rw [show i = 32 by omega]; rfl))
  · skip
    refine lv_iload_n hx hb dX7_weights_10 rfl (lv_at hl 1 rfl) ?_
    refine lv_aload_n hx hb dX7_weights_11 rfl (lv_at hl 0 rfl) ?_
    refine lv_iload_n hx hb dX7_weights_12 rfl (lv_at hl 2 rfl) ?_
    refine z_ro (zrV (As := [.int (zI i)]) (rest := [.int (zI (sumN (fun q => (FP.f2i (wgtF S q (S 0 4))).toInt) i.toNat))]) (Pw := fun H => va_P G vwCl (moW cs a kq tq nq) H ∧ va_P G vwCl (m7 cs a 1 0 361 (aI Y)) H) ⟨hx, hb, hml, hown, hts⟩ (c_X7_weight l G cs a S Y kq tq nq i wf0 rr (by omega)) gX7_weights_X7_weight rfl qX7_weight rfl rfl ⟨Nat.le_of_ble_eq_true rfl, Nat.le_of_ble_eq_true rfl⟩ ⟨hMo, hRw⟩ hK (va_recv hK.1 hMo (ci := 7) (q0 := 0) rfl rfl) hl.1 rfl (Nat.le_of_ble_eq_true rfl) dX7_weights_13 ⟨Nat.le_of_ble_eq_true rfl, Nat.le_of_ble_eq_true rfl⟩) ?_
    have e7 : weightG S i = wgtF S i (S 0 4) := by unfold weightG; rw [if_neg (show ¬ ¬ (0 ≤ i ∧ i < 32) by omega)]
    refine lv_f2i hx hb dX7_weights_16 ?_
    refine z_top (v' := .int (zI ((FP.f2i (wgtF S i (S 0 4))).toInt))) (congrArg Value.int ((zI_of _).trans (by rw [e7]))) ?_
    refine z_iadd hx hb dX7_weights_17 ?_
    refine lv_istore_n (lv' := [(1, .int (zI ((sumN (fun q => (FP.f2i (wgtF S q (S 0 4))).toInt) i.toNat) + ((FP.f2i (wgtF S i (S 0 4))).toInt)))), (0, .ref (a 0)), (2, .int (zI i))]) hx hb dX7_weights_18 rfl hl (by decide) rfl (fun ls hl => ?_)
    refine z_iinc (k := 2) (lv' := [(2, .int (zI (i + 1))), (1, .int (zI ((sumN (fun q => (FP.f2i (wgtF S q (S 0 4))).toInt) i.toNat) + ((FP.f2i (wgtF S i (S 0 4))).toInt)))), (0, .ref (a 0))]) hx hb dX7_weights_19 hl rfl (by decide) rfl (fun ls hl => ?_)
    refine lv_goto (tgt := 4) hx hb dX7_weights_22 (by decide) ?_
    exact ih (i + 1) (by omega) (by omega) ls (by show lv_has ls 3 [(0, .ref (a 0)), (1, .int (zI (sumN (fun q => (FP.f2i (wgtF S q (S 0 4))).toInt) (i + 1).toNat))), (2, .int (zI (i + 1)))]; rw [sumN_s (f := fun q => (FP.f2i (wgtF S q (S 0 4))).toInt) hI.1]; exact lv_sub hl [2, 1, 0] rfl)

set_option maxHeartbeats 4000000 in
set_option maxRecDepth 100000 in
theorem c_X7_swaps (l : Launch) (G : va_G) (cs : Nat → ClassId) (a : Nat → Nat) (S : SS) (Y : Int → Int) (kq tq nq : Int) (wf : WF S) (rr : RR S Y) : MRO l yX7_swaps wsX7_swaps { frames := 0, cells := 0, slots := 0, locals := 0 } G cs [.ref (a 0)] (fun H => va_P G vwCl (moW cs a kq tq nq) H ∧ va_P G vwCl (m7 cs a 1 0 361 (aI Y)) H) (.int (zI (cntI (hasSw S) 32))) := by
  refine m_intro (Pw := (fun H => va_P G vwCl (moW cs a kq tq nq) H ∧ va_P G vwCl (m7 cs a 1 0 361 (aI Y)) H)) (cc := cX7_swaps) (maxL := 3) (ret := some .int) RX7 (by decide) rfl rfl (Nat.le_of_ble_eq_true rfl) ?_
  intro pP eE sS mM below meth cC hx hb hr hts hown hml hlk hnm hPre hK ls hl
  have hl : lv_has ls 3 [(0, .ref (a 0))] := hl
  obtain ⟨hMo, hRw⟩ := hPre
  have hi7 : ∀ w ∈ u_ws RX7 TX7 12, w ∈ wsX7_swaps := by decide +kernel
  have wf0 := wf
  obtain ⟨w0, w1, w2, w3, w4, wP, wC, wS, wX⟩ := wf
  refine z_iconst (n := 0) hx hb dX7_swaps_0 ?_
  refine lv_istore_n (lv' := [(1, .int (zI 0)), (0, .ref (a 0))]) hx hb dX7_swaps_1 rfl hl (by decide) rfl (fun ls hl => ?_)
  refine z_iconst (n := 0) hx hb dX7_swaps_2 ?_
  refine lv_istore_n (lv' := [(2, .int (zI 0)), (1, .int (zI 0)), (0, .ref (a 0))]) hx hb dX7_swaps_3 rfl hl (by decide) rfl (fun ls hl => ?_)
  -- loop 4
  refine z_loop (nL := 3) (fun (i : Int) => [(0, .ref (a 0)), (1, .int (zI (cntI (hasSw S) i))), (2, .int (zI i))]) (fun (i : Int) => 0 ≤ i ∧ i ≤ 32) (fun (i : Int) => (32 - i).toNat) 0 (by omega) (lv_sub hl [2, 1, 0] rfl) (fun i hI ih ls hl => ?_)
  have hl : lv_has ls 3 [(0, .ref (a 0)), (1, .int (zI (cntI (hasSw S) i))), (2, .int (zI i))] := hl
  have hc := cntI_r (hasSw S) hI.1
  refine lv_iload_n hx hb dX7_swaps_4 rfl (lv_at hl 2 rfl) ?_
  refine z_bipush (n := 32) hx hb dX7_swaps_5 (by decide) ?_
  refine z_icmp_ge (tgt := 37) hx hb dX7_swaps_7 (by decide) (by omega) (by omega) (fun c1 => ?_) (fun c1 => ?_)
  · skip
    refine lv_iload_n hx hb dX7_swaps_37 rfl (lv_at hl 1 rfl) ?_
    exact ro_iret hx hb hr hlk dX7_swaps_38 (congrArg (fun z => Value.int (zI z)) (by rw [show i = 32 by omega]))
  · skip
    refine lv_iload_n hx hb dX7_swaps_10 rfl (lv_at hl 1 rfl) ?_
    refine lv_aload_n hx hb dX7_swaps_11 rfl (lv_at hl 0 rfl) ?_
    refine va_get (D := G) (ci := 7) (v := .ref ((sh a 1) 0)) (C := RX7) (T := TX7) (N := 12) hx hb hts hi7 hown hK.1 hMo 0 rfl rfl 0 (by decide) (hts (.fieldLink RX7 7 "SpriteLinesModel" "row" "[I") (by decide +kernel)) (fun _ h9 => h9) rfl dX7_swaps_12 ?_
    refine z_sipush (n := 329) hx hb dX7_swaps_15 (by decide) ?_
    refine lv_iload_n hx hb dX7_swaps_18 rfl (lv_at hl 2 rfl) ?_
    refine z_iadd hx hb dX7_swaps_19 ?_
    have q1 := wS i hI.1 (by omega)
    have q2 := rw_or rr (q := i) (by omega)
    refine z_iald hx hb hK.1 hRw 0 0 (F := Y) rfl rfl (by omega) (by decide) dX7_swaps_20 ?_
    refine z_if_le (tgt := 28) hx hb dX7_swaps_21 (by decide) (by omega) (fun c2 => ?_) (fun c2 => ?_)
    · skip
      refine z_iconst (n := 0) hx hb dX7_swaps_28 ?_
      refine z_iadd hx hb dX7_swaps_29 ?_
      refine lv_istore_n (lv' := [(1, .int (zI ((cntI (hasSw S) i) + 0))), (0, .ref (a 0)), (2, .int (zI i))]) hx hb dX7_swaps_30 rfl hl (by decide) rfl (fun ls hl => ?_)
      refine z_iinc (k := 2) (lv' := [(2, .int (zI (i + 1))), (1, .int (zI ((cntI (hasSw S) i) + 0))), (0, .ref (a 0))]) hx hb dX7_swaps_31 hl rfl (by decide) rfl (fun ls hl => ?_)
      refine lv_goto (tgt := 4) hx hb dX7_swaps_34 (by decide) ?_
      exact ih (i + 1) (by omega) (by omega) ls (by show lv_has ls 3 [(0, .ref (a 0)), (1, .int (zI (cntI (hasSw S) (i + 1)))), (2, .int (zI (i + 1)))]; rw [cntI_z (f := hasSw S) hI.1 (decide_eq_false (show ¬ S 3 i ≠ S 4 i by omega))]; exact lv_sub hl [2, 1, 0] rfl)
    · skip
      refine z_iconst (n := 1) hx hb dX7_swaps_24 ?_
      refine lv_goto (tgt := 29) hx hb dX7_swaps_25 (by decide) ?_
      refine z_iadd hx hb dX7_swaps_29 ?_
      refine lv_istore_n (lv' := [(1, .int (zI ((cntI (hasSw S) i) + 1))), (0, .ref (a 0)), (2, .int (zI i))]) hx hb dX7_swaps_30 rfl hl (by decide) rfl (fun ls hl => ?_)
      refine z_iinc (k := 2) (lv' := [(2, .int (zI (i + 1))), (1, .int (zI ((cntI (hasSw S) i) + 1))), (0, .ref (a 0))]) hx hb dX7_swaps_31 hl rfl (by decide) rfl (fun ls hl => ?_)
      refine lv_goto (tgt := 4) hx hb dX7_swaps_34 (by decide) ?_
      exact ih (i + 1) (by omega) (by omega) ls (by show lv_has ls 3 [(0, .ref (a 0)), (1, .int (zI (cntI (hasSw S) (i + 1)))), (2, .int (zI (i + 1)))]; rw [cntI_t (f := hasSw S) hI.1 (decide_eq_true (show S 3 i ≠ S 4 i by omega))]; exact lv_sub hl [2, 1, 0] rfl)

set_option maxHeartbeats 4000000 in
set_option maxRecDepth 100000 in
theorem c_X7_count (l : Launch) (G : va_G) (cs : Nat → ClassId) (a : Nat → Nat) (S : SS) (Y : Int → Int) (kq tq nq : Int) (L : Nat → SS) (X : Int → Int) (k : Nat → Bool) (V : Nat → SS) (t : Int) (wf : WF S) (rr : RR S Y) (r_t : -2147483648 ≤ t ∧ t < 2147483648) : MRO l yX7_count wsX7_count { frames := 7, cells := 0, slots := 0, locals := 162 } G cs [.ref (a 0), .int (zI t)] (fun H => va_P G vwCl (moW cs a kq tq nq) H ∧ va_P G vwCl (m7 cs a 1 0 361 (aI Y)) H) (.int (zI (countF (S, (kq, L), (tq, X), (k, V)) t))) := by
  refine m_intro (Pw := (fun H => va_P G vwCl (moW cs a kq tq nq) H ∧ va_P G vwCl (m7 cs a 1 0 361 (aI Y)) H)) (cc := cX7_count) (maxL := 7) (ret := some .int) RX7 (by decide) rfl rfl (Nat.le_of_ble_eq_true rfl) ?_
  intro pP eE sS mM below meth cC hx hb hr hts hown hml hlk hnm hPre hK ls hl
  have hl : lv_has ls 7 [(0, .ref (a 0)), (1, .int (zI t))] := hl
  obtain ⟨hMo, hRw⟩ := hPre
  have hi7 : ∀ w ∈ u_ws RX7 TX7 12, w ∈ wsX7_count := by decide +kernel
  have wf0 := wf
  obtain ⟨w0, w1, w2, w3, w4, wP, wC, wS, wX⟩ := wf
  refine z_iconst (n := 0) hx hb dX7_count_0 ?_
  refine lv_istore_n (lv' := [(2, .int (zI 0)), (0, .ref (a 0)), (1, .int (zI t))]) hx hb dX7_count_1 rfl hl (by decide) rfl (fun ls hl => ?_)
  refine z_iconst (n := 0) hx hb dX7_count_2 ?_
  refine lv_istore_n (lv' := [(3, .int (zI 0)), (2, .int (zI 0)), (0, .ref (a 0)), (1, .int (zI t))]) hx hb dX7_count_3 rfl hl (by decide) rfl (fun ls hl => ?_)
  -- loop 4
  refine z_loop (nL := 7) (fun (i : Int) => [(0, .ref (a 0)), (1, .int (zI t)), (2, .int (zI (cntI (isOn S) i))), (3, .int (zI i))]) (fun (i : Int) => 0 ≤ i ∧ i ≤ S 0 1) (fun (i : Int) => (S 0 1 - i).toNat) 0 (by omega) (lv_sub hl [2, 3, 1, 0] rfl) (fun i hI ih ls hl => ?_)
  have hl : lv_has ls 7 [(0, .ref (a 0)), (1, .int (zI t)), (2, .int (zI (cntI (isOn S) i))), (3, .int (zI i))] := hl
  have ih1 := ih
  refine lv_iload_n hx hb dX7_count_4 rfl (lv_at hl 3 rfl) ?_
  refine lv_aload_n hx hb dX7_count_5 rfl (lv_at hl 0 rfl) ?_
  refine z_ro (zrV (As := []) (rest := [.int (zI i)]) (Pw := fun H => va_P G vwCl (moW cs a kq tq nq) H ∧ va_P G vwCl (m7 cs a 1 0 361 (aI Y)) H) ⟨hx, hb, hml, hown, hts⟩ (c_X7_sprites l G cs a S Y kq tq nq rr) gX7_count_X7_sprites rfl qX7_sprites rfl rfl ⟨Nat.le_of_ble_eq_true rfl, Nat.le_of_ble_eq_true rfl⟩ ⟨hMo, hRw⟩ hK (va_recv hK.1 hMo (ci := 7) (q0 := 0) rfl rfl) hl.1 rfl (Nat.le_of_ble_eq_true rfl) dX7_count_6 ⟨Nat.le_of_ble_eq_true rfl, Nat.le_of_ble_eq_true rfl⟩) ?_
  refine z_icmp_ge (tgt := 27) hx hb dX7_count_9 (by decide) (by omega) (by omega) (fun c1 => ?_) (fun c1 => ?_)
  · skip
    refine z_iconst (n := 0) hx hb dX7_count_27 ?_
    refine lv_istore_n (lv' := [(3, .int (zI 0)), (0, .ref (a 0)), (1, .int (zI t)), (2, .int (zI (cntI (isOn S) i)))]) hx hb dX7_count_28 rfl hl (by decide) rfl (fun ls hl => ?_)
    refine z_iconst (n := 0) hx hb dX7_count_29 ?_
    refine lv_istore (lv' := [(4, .int (zI 0)), (3, .int (zI 0)), (0, .ref (a 0)), (1, .int (zI t)), (2, .int (zI (cntI (isOn S) i)))]) hx hb dX7_count_30 hl (by decide) rfl (fun ls hl => ?_)
    refine z_iconst (n := 0) hx hb dX7_count_32 ?_
    refine lv_istore (lv' := [(5, .int (zI 0)), (4, .int (zI 0)), (3, .int (zI 0)), (0, .ref (a 0)), (1, .int (zI t)), (2, .int (zI (cntI (isOn S) i)))]) hx hb dX7_count_33 hl (by decide) rfl (fun ls hl => ?_)
    -- loop 35
    rw [show i = S 0 1 by omega] at hl
    refine z_loop (nL := 7) (fun (i : Int) => [(0, .ref (a 0)), (1, .int (zI t)), (2, .int (zI (cntI (isOn S) (S 0 1)))), (3, .int (zI (cntI (fun q => decide (S 0 2 < cntI (isW S q) (S 0 1))) i))), (4, .int (zI (maxI (fun q => cntI (isW S q) (S 0 1)) i))), (5, .int (zI i))]) (fun (i : Int) => 0 ≤ i ∧ i ≤ 32) (fun (i : Int) => (32 - i).toNat) 0 (by omega) (lv_sub hl [3, 4, 5, 2, 1, 0] rfl) (fun i hI ih ls hl => ?_)
    have hl : lv_has ls 7 [(0, .ref (a 0)), (1, .int (zI t)), (2, .int (zI (cntI (isOn S) (S 0 1)))), (3, .int (zI (cntI (fun q => decide (S 0 2 < cntI (isW S q) (S 0 1))) i))), (4, .int (zI (maxI (fun q => cntI (isW S q) (S 0 1)) i))), (5, .int (zI i))] := hl
    have ih2 := ih
    have hc := cntI_r (fun q => decide (S 0 2 < cntI (isW S q) (S 0 1))) hI.1
    have hc2 := cntI_r (isW S i) w1.1
    have hc3 := maxI_r (f := fun q => cntI (isW S q) (S 0 1)) (m := 20) (by decide) (fun k => by have := cntI_r (isW S k) w1.1; omega) i
    refine lv_iload hx hb dX7_count_35 (lv_at hl 5 rfl) ?_
    refine z_bipush (n := 32) hx hb dX7_count_37 (by decide) ?_
    refine z_icmp_ge (tgt := 91) hx hb dX7_count_39 (by decide) (by omega) (by omega) (fun c2 => ?_) (fun c2 => ?_)
    · skip
      refine z_iconst (n := 0) hx hb dX7_count_91 ?_
      refine lv_istore (lv' := [(5, .int (zI 0)), (0, .ref (a 0)), (1, .int (zI t)), (2, .int (zI (cntI (isOn S) (S 0 1)))), (3, .int (zI (cntI (fun q => decide (S 0 2 < cntI (isW S q) (S 0 1))) i))), (4, .int (zI (maxI (fun q => cntI (isW S q) (S 0 1)) i)))]) hx hb dX7_count_92 hl (by decide) rfl (fun ls hl => ?_)
      refine z_iconst (n := 0) hx hb dX7_count_94 ?_
      refine lv_istore (lv' := [(6, .int (zI 0)), (5, .int (zI 0)), (0, .ref (a 0)), (1, .int (zI t)), (2, .int (zI (cntI (isOn S) (S 0 1)))), (3, .int (zI (cntI (fun q => decide (S 0 2 < cntI (isW S q) (S 0 1))) i))), (4, .int (zI (maxI (fun q => cntI (isW S q) (S 0 1)) i)))]) hx hb dX7_count_95 hl (by decide) rfl (fun ls hl => ?_)
      -- loop 97
      rw [show i = 32 by omega] at hl
      refine z_loop (nL := 7) (fun (j : Int) => [(0, .ref (a 0)), (1, .int (zI t)), (2, .int (zI (cntI (isOn S) (S 0 1)))), (3, .int (zI (cntI (fun q => decide (S 0 2 < cntI (isW S q) (S 0 1))) 32))), (4, .int (zI (maxI (fun q => cntI (isW S q) (S 0 1)) 32))), (5, .int (zI (cntI (fun q => !isUsed S q) j))), (6, .int (zI j))]) (fun (j : Int) => 0 ≤ j ∧ j ≤ S 0 0) (fun (j : Int) => (S 0 0 - j).toNat) 0 (by omega) (lv_sub hl [2, 3, 4, 5, 6, 1, 0] rfl) (fun j hI ih ls hl => ?_)
      have hl : lv_has ls 7 [(0, .ref (a 0)), (1, .int (zI t)), (2, .int (zI (cntI (isOn S) (S 0 1)))), (3, .int (zI (cntI (fun q => decide (S 0 2 < cntI (isW S q) (S 0 1))) 32))), (4, .int (zI (maxI (fun q => cntI (isW S q) (S 0 1)) 32))), (5, .int (zI (cntI (fun q => !isUsed S q) j))), (6, .int (zI j))] := hl
      have ih3 := ih
      refine lv_iload hx hb dX7_count_97 (lv_at hl 6 rfl) ?_
      refine lv_aload_n hx hb dX7_count_99 rfl (lv_at hl 0 rfl) ?_
      refine va_get (D := G) (ci := 7) (v := .ref ((sh a 1) 0)) (C := RX7) (T := TX7) (N := 12) hx hb hts hi7 hown hK.1 hMo 0 rfl rfl 0 (by decide) (hts (.fieldLink RX7 7 "SpriteLinesModel" "row" "[I") (by decide +kernel)) (fun _ h9 => h9) rfl dX7_count_100 ?_
      refine z_iconst (n := 0) hx hb dX7_count_103 ?_
      refine z_iald hx hb hK.1 hRw 0 0 (F := Y) rfl rfl (by omega) (by decide) dX7_count_104 ?_
      refine z_topi (b := S 0 0) rr.1.1 ?_
      refine z_icmp_ge (tgt := 133) hx hb dX7_count_105 (by decide) (by omega) (by omega) (fun c3 => ?_) (fun c3 => ?_)
      · skip
        rw [show j = S 0 0 by omega] at hl
        refine lv_iload_n hx hb dX7_count_133 rfl (lv_at hl 1 rfl) ?_
        by_cases t4 : t = 0
        · refine z_tableIn (j := 0) (off := 70) (tgt := 204) hx hb dX7_count_134 t4 (by decide) (by decide) (by decide) rfl (by decide) ?_
          refine lv_aload_n hx hb dX7_count_204 rfl (lv_at hl 0 rfl) ?_
          refine va_get (D := G) (ci := 7) (v := .ref ((sh a 1) 0)) (C := RX7) (T := TX7) (N := 12) hx hb hts hi7 hown hK.1 hMo 0 rfl rfl 0 (by decide) (hts (.fieldLink RX7 7 "SpriteLinesModel" "row" "[I") (by decide +kernel)) (fun _ h9 => h9) rfl dX7_count_205 ?_
          refine z_iconst (n := 0) hx hb dX7_count_208 ?_
          refine z_iald hx hb hK.1 hRw 0 0 (F := Y) rfl rfl (by omega) (by decide) dX7_count_209 ?_
          refine z_topi (b := S 0 0) rr.1.1 ?_
          exact ro_iret hx hb hr hlk dX7_count_210 (congrArg (fun z => Value.int (zI z)) (by unfold countF; rw [if_pos (show t = 0 by omega)]))
        by_cases t5 : t = 1
        · refine z_tableIn (j := 1) (off := 77) (tgt := 211) hx hb dX7_count_134 t5 (by decide) (by decide) (by decide) rfl (by decide) ?_
          refine lv_aload_n hx hb dX7_count_211 rfl (lv_at hl 0 rfl) ?_
          refine z_ro (zrV (As := []) (rest := []) (Pw := fun H => va_P G vwCl (moW cs a kq tq nq) H ∧ va_P G vwCl (m7 cs a 1 0 361 (aI Y)) H) ⟨hx, hb, hml, hown, hts⟩ (c_X7_sprites l G cs a S Y kq tq nq rr) gX7_count_X7_sprites rfl qX7_sprites rfl rfl ⟨Nat.le_of_ble_eq_true rfl, Nat.le_of_ble_eq_true rfl⟩ ⟨hMo, hRw⟩ hK (va_recv hK.1 hMo (ci := 7) (q0 := 0) rfl rfl) hl.1 rfl (Nat.le_of_ble_eq_true rfl) dX7_count_212 ⟨Nat.le_of_ble_eq_true rfl, Nat.le_of_ble_eq_true rfl⟩) ?_
          exact ro_iret hx hb hr hlk dX7_count_215 (congrArg (fun z => Value.int (zI z)) (by unfold countF; rw [if_neg (show ¬ t = 0 by omega), if_pos (show t = 1 by omega)]))
        by_cases t6 : t = 2
        · refine z_tableIn (j := 2) (off := 82) (tgt := 216) hx hb dX7_count_134 t6 (by decide) (by decide) (by decide) rfl (by decide) ?_
          refine lv_iload_n hx hb dX7_count_216 rfl (lv_at hl 2 rfl) ?_
          exact ro_iret hx hb hr hlk dX7_count_217 (congrArg (fun z => Value.int (zI z)) (by unfold countF; rw [if_neg (show ¬ t = 0 by omega), if_neg (show ¬ t = 1 by omega), if_pos (show t = 2 by omega)]))
        by_cases t7 : t = 3
        · refine z_tableIn (j := 3) (off := 84) (tgt := 218) hx hb dX7_count_134 t7 (by decide) (by decide) (by decide) rfl (by decide) ?_
          refine lv_iload_n hx hb dX7_count_218 rfl (lv_at hl 3 rfl) ?_
          exact ro_iret hx hb hr hlk dX7_count_219 (congrArg (fun z => Value.int (zI z)) (by unfold countF; rw [if_neg (show ¬ t = 0 by omega), if_neg (show ¬ t = 1 by omega), if_neg (show ¬ t = 2 by omega), if_pos (show t = 3 by omega)]))
        by_cases t8 : t = 4
        · refine z_tableIn (j := 4) (off := 86) (tgt := 220) hx hb dX7_count_134 t8 (by decide) (by decide) (by decide) rfl (by decide) ?_
          refine lv_iload hx hb dX7_count_220 (lv_at hl 4 rfl) ?_
          exact ro_iret hx hb hr hlk dX7_count_222 (congrArg (fun z => Value.int (zI z)) (by unfold countF; rw [if_neg (show ¬ t = 0 by omega), if_neg (show ¬ t = 1 by omega), if_neg (show ¬ t = 2 by omega), if_neg (show ¬ t = 3 by omega), if_pos (show t = 4 by omega)]))
        by_cases t9 : t = 5
        · refine z_tableIn (j := 5) (off := 89) (tgt := 223) hx hb dX7_count_134 t9 (by decide) (by decide) (by decide) rfl (by decide) ?_
          refine lv_aload_n hx hb dX7_count_223 rfl (lv_at hl 0 rfl) ?_
          refine z_ro (zrV (As := []) (rest := []) (Pw := fun H => va_P G vwCl (moW cs a kq tq nq) H ∧ va_P G vwCl (m7 cs a 1 0 361 (aI Y)) H) ⟨hx, hb, hml, hown, hts⟩ (c_X7_swaps l G cs a S Y kq tq nq wf0 rr) gX7_count_X7_swaps rfl qX7_swaps rfl rfl ⟨Nat.le_of_ble_eq_true rfl, Nat.le_of_ble_eq_true rfl⟩ ⟨hMo, hRw⟩ hK (va_recv hK.1 hMo (ci := 7) (q0 := 0) rfl rfl) hl.1 rfl (Nat.le_of_ble_eq_true rfl) dX7_count_224 ⟨Nat.le_of_ble_eq_true rfl, Nat.le_of_ble_eq_true rfl⟩) ?_
          exact ro_iret hx hb hr hlk dX7_count_227 (congrArg (fun z => Value.int (zI z)) (by unfold countF; rw [if_neg (show ¬ t = 0 by omega), if_neg (show ¬ t = 1 by omega), if_neg (show ¬ t = 2 by omega), if_neg (show ¬ t = 3 by omega), if_neg (show ¬ t = 4 by omega), if_pos (show t = 5 by omega)]))
        by_cases t10 : t = 6
        · refine z_tableIn (j := 6) (off := 94) (tgt := 228) hx hb dX7_count_134 t10 (by decide) (by decide) (by decide) rfl (by decide) ?_
          refine lv_aload_n hx hb dX7_count_228 rfl (lv_at hl 0 rfl) ?_
          refine z_ro (zrV (As := []) (rest := []) (Pw := fun H => va_P G vwCl (moW cs a kq tq nq) H ∧ va_P G vwCl (m7 cs a 1 0 361 (aI Y)) H) ⟨hx, hb, hml, hown, hts⟩ (c_X7_pairs l G cs a S Y kq tq nq wf0 rr) gX7_count_X7_pairs rfl qX7_pairs rfl rfl ⟨Nat.le_of_ble_eq_true rfl, Nat.le_of_ble_eq_true rfl⟩ ⟨hMo, hRw⟩ hK (va_recv hK.1 hMo (ci := 7) (q0 := 0) rfl rfl) hl.1 rfl (Nat.le_of_ble_eq_true rfl) dX7_count_229 ⟨Nat.le_of_ble_eq_true rfl, Nat.le_of_ble_eq_true rfl⟩) ?_
          exact ro_iret hx hb hr hlk dX7_count_232 (congrArg (fun z => Value.int (zI z)) (by unfold countF; rw [if_neg (show ¬ t = 0 by omega), if_neg (show ¬ t = 1 by omega), if_neg (show ¬ t = 2 by omega), if_neg (show ¬ t = 3 by omega), if_neg (show ¬ t = 4 by omega), if_neg (show ¬ t = 5 by omega), if_pos (show t = 6 by omega)]))
        by_cases t11 : t = 7
        · refine z_tableIn (j := 7) (off := 99) (tgt := 233) hx hb dX7_count_134 t11 (by decide) (by decide) (by decide) rfl (by decide) ?_
          refine lv_iload hx hb dX7_count_233 (lv_at hl 5 rfl) ?_
          exact ro_iret hx hb hr hlk dX7_count_235 (congrArg (fun z => Value.int (zI z)) (by unfold countF; rw [if_neg (show ¬ t = 0 by omega), if_neg (show ¬ t = 1 by omega), if_neg (show ¬ t = 2 by omega), if_neg (show ¬ t = 3 by omega), if_neg (show ¬ t = 4 by omega), if_neg (show ¬ t = 5 by omega), if_neg (show ¬ t = 6 by omega), if_pos (show t = 7 by omega)]))
        by_cases t12 : t = 8
        · refine z_tableIn (j := 8) (off := 102) (tgt := 236) hx hb dX7_count_134 t12 (by decide) (by decide) (by decide) rfl (by decide) ?_
          refine lv_aload_n hx hb dX7_count_236 rfl (lv_at hl 0 rfl) ?_
          refine va_get (D := G) (ci := 7) (v := .ref ((sh a 1) 0)) (C := RX7) (T := TX7) (N := 12) hx hb hts hi7 hown hK.1 hMo 0 rfl rfl 0 (by decide) (hts (.fieldLink RX7 7 "SpriteLinesModel" "row" "[I") (by decide +kernel)) (fun _ h9 => h9) rfl dX7_count_237 ?_
          refine z_iconst (n := 4) hx hb dX7_count_240 ?_
          refine z_iald hx hb hK.1 hRw 0 0 (F := Y) rfl rfl (by omega) (by decide) dX7_count_241 ?_
          refine z_topi (b := S 0 4) rr.1.2.2.2.2 ?_
          exact ro_iret hx hb hr hlk dX7_count_242 (congrArg (fun z => Value.int (zI z)) (by unfold countF; rw [if_neg (show ¬ t = 0 by omega), if_neg (show ¬ t = 1 by omega), if_neg (show ¬ t = 2 by omega), if_neg (show ¬ t = 3 by omega), if_neg (show ¬ t = 4 by omega), if_neg (show ¬ t = 5 by omega), if_neg (show ¬ t = 6 by omega), if_neg (show ¬ t = 7 by omega), if_pos (show t = 8 by omega)]))
        by_cases t13 : t = 9
        · refine z_tableIn (j := 9) (off := 109) (tgt := 243) hx hb dX7_count_134 t13 (by decide) (by decide) (by decide) rfl (by decide) ?_
          refine lv_aload_n hx hb dX7_count_243 rfl (lv_at hl 0 rfl) ?_
          refine va_get (D := G) (ci := 7) (v := .ref ((sh a 1) 0)) (C := RX7) (T := TX7) (N := 12) hx hb hts hi7 hown hK.1 hMo 0 rfl rfl 0 (by decide) (hts (.fieldLink RX7 7 "SpriteLinesModel" "row" "[I") (by decide +kernel)) (fun _ h9 => h9) rfl dX7_count_244 ?_
          refine z_iconst (n := 2) hx hb dX7_count_247 ?_
          refine z_iald hx hb hK.1 hRw 0 0 (F := Y) rfl rfl (by omega) (by decide) dX7_count_248 ?_
          refine z_topi (b := S 0 2) rr.1.2.2.1 ?_
          exact ro_iret hx hb hr hlk dX7_count_249 (congrArg (fun z => Value.int (zI z)) (by unfold countF; rw [if_neg (show ¬ t = 0 by omega), if_neg (show ¬ t = 1 by omega), if_neg (show ¬ t = 2 by omega), if_neg (show ¬ t = 3 by omega), if_neg (show ¬ t = 4 by omega), if_neg (show ¬ t = 5 by omega), if_neg (show ¬ t = 6 by omega), if_neg (show ¬ t = 7 by omega), if_neg (show ¬ t = 8 by omega), if_pos (show t = 9 by omega)]))
        by_cases t14 : t = 10
        · refine z_tableIn (j := 10) (off := 116) (tgt := 250) hx hb dX7_count_134 t14 (by decide) (by decide) (by decide) rfl (by decide) ?_
          refine lv_aload_n hx hb dX7_count_250 rfl (lv_at hl 0 rfl) ?_
          refine va_get (D := G) (ci := 7) (v := .ref ((sh a 1) 0)) (C := RX7) (T := TX7) (N := 12) hx hb hts hi7 hown hK.1 hMo 0 rfl rfl 0 (by decide) (hts (.fieldLink RX7 7 "SpriteLinesModel" "row" "[I") (by decide +kernel)) (fun _ h9 => h9) rfl dX7_count_251 ?_
          refine z_iconst (n := 3) hx hb dX7_count_254 ?_
          refine z_iald hx hb hK.1 hRw 0 0 (F := Y) rfl rfl (by omega) (by decide) dX7_count_255 ?_
          refine z_topi (b := S 0 3) rr.1.2.2.2.1 ?_
          exact ro_iret hx hb hr hlk dX7_count_256 (congrArg (fun z => Value.int (zI z)) (by unfold countF; rw [if_neg (show ¬ t = 0 by omega), if_neg (show ¬ t = 1 by omega), if_neg (show ¬ t = 2 by omega), if_neg (show ¬ t = 3 by omega), if_neg (show ¬ t = 4 by omega), if_neg (show ¬ t = 5 by omega), if_neg (show ¬ t = 6 by omega), if_neg (show ¬ t = 7 by omega), if_neg (show ¬ t = 8 by omega), if_neg (show ¬ t = 9 by omega), if_pos (show t = 10 by omega)]))
        by_cases t15 : t = 11
        · refine z_tableIn (j := 11) (off := 123) (tgt := 257) hx hb dX7_count_134 t15 (by decide) (by decide) (by decide) rfl (by decide) ?_
          refine lv_aload_n hx hb dX7_count_257 rfl (lv_at hl 0 rfl) ?_
          refine z_ro (zrV (As := []) (rest := []) (Pw := fun H => va_P G vwCl (moW cs a kq tq nq) H ∧ va_P G vwCl (m7 cs a 1 0 361 (aI Y)) H) ⟨hx, hb, hml, hown, hts⟩ (c_X7_weights l G cs a S Y kq tq nq wf0 rr) gX7_count_X7_weights rfl qX7_weights rfl rfl ⟨Nat.le_of_ble_eq_true rfl, Nat.le_of_ble_eq_true rfl⟩ ⟨hMo, hRw⟩ hK (va_recv hK.1 hMo (ci := 7) (q0 := 0) rfl rfl) hl.1 rfl (Nat.le_of_ble_eq_true rfl) dX7_count_258 ⟨Nat.le_of_ble_eq_true rfl, Nat.le_of_ble_eq_true rfl⟩) ?_
          exact ro_iret hx hb hr hlk dX7_count_261 (congrArg (fun z => Value.int (zI z)) (by unfold countF; rw [if_neg (show ¬ t = 0 by omega), if_neg (show ¬ t = 1 by omega), if_neg (show ¬ t = 2 by omega), if_neg (show ¬ t = 3 by omega), if_neg (show ¬ t = 4 by omega), if_neg (show ¬ t = 5 by omega), if_neg (show ¬ t = 6 by omega), if_neg (show ¬ t = 7 by omega), if_neg (show ¬ t = 8 by omega), if_neg (show ¬ t = 9 by omega), if_neg (show ¬ t = 10 by omega), if_pos (show t = 11 by omega)]))
        by_cases t16 : t = 12
        · refine z_tableIn (j := 12) (off := 128) (tgt := 262) hx hb dX7_count_134 t16 (by decide) (by decide) (by decide) rfl (by decide) ?_
          refine lv_aload_n hx hb dX7_count_262 rfl (lv_at hl 0 rfl) ?_
          refine va_get (D := G) (ci := 7) (v := .int (zI kq)) (C := RX7) (T := TX7) (N := 12) hx hb hts hi7 hown hK.1 hMo 0 rfl rfl 3 (by decide) (hts (.fieldLink RX7 39 "SpriteLinesModel" "kept" "I") (by decide +kernel)) (fun _ h9 => h9) rfl dX7_count_263 ?_
          exact ro_iret hx hb hr hlk dX7_count_266 (congrArg (fun z => Value.int (zI z)) (by unfold countF; rw [if_neg (show ¬ t = 0 by omega), if_neg (show ¬ t = 1 by omega), if_neg (show ¬ t = 2 by omega), if_neg (show ¬ t = 3 by omega), if_neg (show ¬ t = 4 by omega), if_neg (show ¬ t = 5 by omega), if_neg (show ¬ t = 6 by omega), if_neg (show ¬ t = 7 by omega), if_neg (show ¬ t = 8 by omega), if_neg (show ¬ t = 9 by omega), if_neg (show ¬ t = 10 by omega), if_neg (show ¬ t = 11 by omega), if_pos (show t = 12 by omega)]))
        by_cases t17 : t = 13
        · refine z_tableIn (j := 13) (off := 133) (tgt := 267) hx hb dX7_count_134 t17 (by decide) (by decide) (by decide) rfl (by decide) ?_
          refine lv_aload_n hx hb dX7_count_267 rfl (lv_at hl 0 rfl) ?_
          refine va_get (D := G) (ci := 7) (v := .int (zI tq)) (C := RX7) (T := TX7) (N := 12) hx hb hts hi7 hown hK.1 hMo 0 rfl rfl 8 (by decide) (hts (.fieldLink RX7 96 "SpriteLinesModel" "typed" "I") (by decide +kernel)) (fun _ h9 => h9) rfl dX7_count_268 ?_
          exact ro_iret hx hb hr hlk dX7_count_271 (congrArg (fun z => Value.int (zI z)) (by unfold countF; rw [if_neg (show ¬ t = 0 by omega), if_neg (show ¬ t = 1 by omega), if_neg (show ¬ t = 2 by omega), if_neg (show ¬ t = 3 by omega), if_neg (show ¬ t = 4 by omega), if_neg (show ¬ t = 5 by omega), if_neg (show ¬ t = 6 by omega), if_neg (show ¬ t = 7 by omega), if_neg (show ¬ t = 8 by omega), if_neg (show ¬ t = 9 by omega), if_neg (show ¬ t = 10 by omega), if_neg (show ¬ t = 11 by omega), if_neg (show ¬ t = 12 by omega), if_pos (show t = 13 by omega)]))
        refine z_tableOut (tgt := 272) hx hb dX7_count_134 (by omega) (by omega) (by decide) ?_
        refine z_bipush (n := -2) hx hb dX7_count_272 (by decide) ?_
        exact ro_iret hx hb hr hlk dX7_count_274 (congrArg (fun z => Value.int (zI z)) (by unfold countF; rw [if_neg (show ¬ t = 0 by omega), if_neg (show ¬ t = 1 by omega), if_neg (show ¬ t = 2 by omega), if_neg (show ¬ t = 3 by omega), if_neg (show ¬ t = 4 by omega), if_neg (show ¬ t = 5 by omega), if_neg (show ¬ t = 6 by omega), if_neg (show ¬ t = 7 by omega), if_neg (show ¬ t = 8 by omega), if_neg (show ¬ t = 9 by omega), if_neg (show ¬ t = 10 by omega), if_neg (show ¬ t = 11 by omega), if_neg (show ¬ t = 12 by omega), if_neg (show ¬ t = 13 by omega)]))
      · skip
        refine lv_iload hx hb dX7_count_108 (lv_at hl 5 rfl) ?_
        refine lv_aload_n hx hb dX7_count_110 rfl (lv_at hl 0 rfl) ?_
        refine lv_iload hx hb dX7_count_111 (lv_at hl 6 rfl) ?_
        refine z_ro (zrV (As := [.int (zI j)]) (rest := [.int (zI (cntI (fun q => !isUsed S q) j))]) (Pw := fun H => va_P G vwCl (moW cs a kq tq nq) H ∧ va_P G vwCl (m7 cs a 1 0 361 (aI Y)) H) ⟨hx, hb, hml, hown, hts⟩ (c_X7_shownBy l G cs a S Y kq tq nq j wf0 rr (by omega)) gX7_count_X7_shownBy rfl qX7_shownBy rfl rfl ⟨Nat.le_of_ble_eq_true rfl, Nat.le_of_ble_eq_true rfl⟩ ⟨hMo, hRw⟩ hK (va_recv hK.1 hMo (ci := 7) (q0 := 0) rfl rfl) hl.1 rfl (Nat.le_of_ble_eq_true rfl) dX7_count_113 ⟨Nat.le_of_ble_eq_true rfl, Nat.le_of_ble_eq_true rfl⟩) ?_
        refine z_if_ne (tgt := 123) hx hb dX7_count_116 (by decide) (by have := cntI_r (fun x => decide (S 1 (6 * x + 0) = j)) w1.1; omega) (fun c5 => ?_) (fun c5 => ?_)
        · skip
          refine z_iconst (n := 0) hx hb dX7_count_123 ?_
          refine z_iadd hx hb dX7_count_124 ?_
          refine lv_istore (lv' := [(5, .int (zI ((cntI (fun q => !isUsed S q) j) + 0))), (0, .ref (a 0)), (1, .int (zI t)), (2, .int (zI (cntI (isOn S) (S 0 1)))), (3, .int (zI (cntI (fun q => decide (S 0 2 < cntI (isW S q) (S 0 1))) 32))), (4, .int (zI (maxI (fun q => cntI (isW S q) (S 0 1)) 32))), (6, .int (zI j))]) hx hb dX7_count_125 hl (by decide) rfl (fun ls hl => ?_)
          refine z_iinc (k := 6) (lv' := [(6, .int (zI (j + 1))), (5, .int (zI ((cntI (fun q => !isUsed S q) j) + 0))), (0, .ref (a 0)), (1, .int (zI t)), (2, .int (zI (cntI (isOn S) (S 0 1)))), (3, .int (zI (cntI (fun q => decide (S 0 2 < cntI (isW S q) (S 0 1))) 32))), (4, .int (zI (maxI (fun q => cntI (isW S q) (S 0 1)) 32)))]) hx hb dX7_count_127 hl rfl (by decide) rfl (fun ls hl => ?_)
          refine lv_goto (tgt := 97) hx hb dX7_count_130 (by decide) ?_
          exact ih3 (j + 1) (by omega) (by omega) ls (by show lv_has ls 7 [(0, .ref (a 0)), (1, .int (zI t)), (2, .int (zI (cntI (isOn S) (S 0 1)))), (3, .int (zI (cntI (fun q => decide (S 0 2 < cntI (isW S q) (S 0 1))) 32))), (4, .int (zI (maxI (fun q => cntI (isW S q) (S 0 1)) 32))), (5, .int (zI (cntI (fun q => !isUsed S q) (j + 1)))), (6, .int (zI (j + 1)))]; rw [cntI_z (f := fun q => !isUsed S q) hI.1 (show (!isUsed S j) = false by rw [Bool.not_eq_false']; exact Bool.of_not_eq_false (fun h9 => c5 (used_cnt.mp h9)))]; exact lv_sub hl [2, 3, 4, 5, 6, 1, 0] rfl)
        · skip
          refine z_iconst (n := 1) hx hb dX7_count_119 ?_
          refine lv_goto (tgt := 124) hx hb dX7_count_120 (by decide) ?_
          refine z_iadd hx hb dX7_count_124 ?_
          refine lv_istore (lv' := [(5, .int (zI ((cntI (fun q => !isUsed S q) j) + 1))), (0, .ref (a 0)), (1, .int (zI t)), (2, .int (zI (cntI (isOn S) (S 0 1)))), (3, .int (zI (cntI (fun q => decide (S 0 2 < cntI (isW S q) (S 0 1))) 32))), (4, .int (zI (maxI (fun q => cntI (isW S q) (S 0 1)) 32))), (6, .int (zI j))]) hx hb dX7_count_125 hl (by decide) rfl (fun ls hl => ?_)
          refine z_iinc (k := 6) (lv' := [(6, .int (zI (j + 1))), (5, .int (zI ((cntI (fun q => !isUsed S q) j) + 1))), (0, .ref (a 0)), (1, .int (zI t)), (2, .int (zI (cntI (isOn S) (S 0 1)))), (3, .int (zI (cntI (fun q => decide (S 0 2 < cntI (isW S q) (S 0 1))) 32))), (4, .int (zI (maxI (fun q => cntI (isW S q) (S 0 1)) 32)))]) hx hb dX7_count_127 hl rfl (by decide) rfl (fun ls hl => ?_)
          refine lv_goto (tgt := 97) hx hb dX7_count_130 (by decide) ?_
          exact ih3 (j + 1) (by omega) (by omega) ls (by show lv_has ls 7 [(0, .ref (a 0)), (1, .int (zI t)), (2, .int (zI (cntI (isOn S) (S 0 1)))), (3, .int (zI (cntI (fun q => decide (S 0 2 < cntI (isW S q) (S 0 1))) 32))), (4, .int (zI (maxI (fun q => cntI (isW S q) (S 0 1)) 32))), (5, .int (zI (cntI (fun q => !isUsed S q) (j + 1)))), (6, .int (zI (j + 1)))]; rw [cntI_t (f := fun q => !isUsed S q) hI.1 (show (!isUsed S j) = true by rw [used_cnt.mpr c5]; rfl)]; exact lv_sub hl [2, 3, 4, 5, 6, 1, 0] rfl)
    · skip
      refine lv_aload_n hx hb dX7_count_42 rfl (lv_at hl 0 rfl) ?_
      refine lv_iload hx hb dX7_count_43 (lv_at hl 5 rfl) ?_
      refine z_ro (zrV (As := [.int (zI i)]) (rest := []) (Pw := fun H => va_P G vwCl (moW cs a kq tq nq) H ∧ va_P G vwCl (m7 cs a 1 0 361 (aI Y)) H) ⟨hx, hb, hml, hown, hts⟩ (c_X7_wanted l G cs a S Y kq tq nq i wf0 rr (by omega)) gX7_count_X7_wanted rfl qX7_wanted rfl rfl ⟨Nat.le_of_ble_eq_true rfl, Nat.le_of_ble_eq_true rfl⟩ ⟨hMo, hRw⟩ hK (va_recv hK.1 hMo (ci := 7) (q0 := 0) rfl rfl) hl.1 rfl (Nat.le_of_ble_eq_true rfl) dX7_count_45 ⟨Nat.le_of_ble_eq_true rfl, Nat.le_of_ble_eq_true rfl⟩) ?_
      refine lv_istore (lv' := [(6, .int (zI (cntI (isW S i) (S 0 1)))), (0, .ref (a 0)), (1, .int (zI t)), (2, .int (zI (cntI (isOn S) (S 0 1)))), (3, .int (zI (cntI (fun q => decide (S 0 2 < cntI (isW S q) (S 0 1))) i))), (4, .int (zI (maxI (fun q => cntI (isW S q) (S 0 1)) i))), (5, .int (zI i))]) hx hb dX7_count_48 hl (by decide) rfl (fun ls hl => ?_)
      refine lv_iload_n hx hb dX7_count_50 rfl (lv_at hl 4 rfl) ?_
      refine lv_iload hx hb dX7_count_51 (lv_at hl 0 rfl) ?_
      refine lv_aload_n hx hb dX7_count_53 rfl (lv_at hl 1 rfl) ?_
      refine va_get (D := G) (ci := 7) (v := .ref ((sh a 1) 0)) (C := RX7) (T := TX7) (N := 12) hx hb hts hi7 hown hK.1 hMo 0 rfl rfl 0 (by decide) (hts (.fieldLink RX7 7 "SpriteLinesModel" "row" "[I") (by decide +kernel)) (fun _ h9 => h9) rfl dX7_count_54 ?_
      refine z_iconst (n := 2) hx hb dX7_count_57 ?_
      refine z_iald hx hb hK.1 hRw 0 0 (F := Y) rfl rfl (by omega) (by decide) dX7_count_58 ?_
      refine z_topi (b := S 0 2) rr.1.2.2.1 ?_
      refine z_icmp_le (tgt := 66) hx hb dX7_count_59 (by decide) (by omega) (by omega) (fun c18 => ?_) (fun c18 => ?_)
      · skip
        refine z_iconst (n := 0) hx hb dX7_count_66 ?_
        refine z_iadd hx hb dX7_count_67 ?_
        refine lv_istore_n (lv' := [(3, .int (zI ((cntI (fun q => decide (S 0 2 < cntI (isW S q) (S 0 1))) i) + 0))), (6, .int (zI (cntI (isW S i) (S 0 1)))), (0, .ref (a 0)), (1, .int (zI t)), (2, .int (zI (cntI (isOn S) (S 0 1)))), (4, .int (zI (maxI (fun q => cntI (isW S q) (S 0 1)) i))), (5, .int (zI i))]) hx hb dX7_count_68 rfl hl (by decide) rfl (fun ls hl => ?_)
        refine lv_iload hx hb dX7_count_69 (lv_at hl 1 rfl) ?_
        refine lv_iload hx hb dX7_count_71 (lv_at hl 5 rfl) ?_
        refine z_icmp_le (tgt := 81) hx hb dX7_count_73 (by decide) (by omega) (by omega) (fun c19 => ?_) (fun c19 => ?_)
        · skip
          refine lv_iload hx hb dX7_count_81 (lv_at hl 5 rfl) ?_
          refine lv_istore (lv' := [(4, .int (zI (maxI (fun q => cntI (isW S q) (S 0 1)) i))), (3, .int (zI ((cntI (fun q => decide (S 0 2 < cntI (isW S q) (S 0 1))) i) + 0))), (6, .int (zI (cntI (isW S i) (S 0 1)))), (0, .ref (a 0)), (1, .int (zI t)), (2, .int (zI (cntI (isOn S) (S 0 1)))), (5, .int (zI i))]) hx hb dX7_count_83 hl (by decide) rfl (fun ls hl => ?_)
          refine z_iinc (k := 6) (lv' := [(5, .int (zI (i + 1))), (4, .int (zI (maxI (fun q => cntI (isW S q) (S 0 1)) i))), (3, .int (zI ((cntI (fun q => decide (S 0 2 < cntI (isW S q) (S 0 1))) i) + 0))), (6, .int (zI (cntI (isW S i) (S 0 1)))), (0, .ref (a 0)), (1, .int (zI t)), (2, .int (zI (cntI (isOn S) (S 0 1))))]) hx hb dX7_count_85 hl rfl (by decide) rfl (fun ls hl => ?_)
          refine lv_goto (tgt := 35) hx hb dX7_count_88 (by decide) ?_
          exact ih2 (i + 1) (by omega) (by omega) ls (by show lv_has ls 7 [(0, .ref (a 0)), (1, .int (zI t)), (2, .int (zI (cntI (isOn S) (S 0 1)))), (3, .int (zI (cntI (fun q => decide (S 0 2 < cntI (isW S q) (S 0 1))) (i + 1)))), (4, .int (zI (maxI (fun q => cntI (isW S q) (S 0 1)) (i + 1)))), (5, .int (zI (i + 1)))]; rw [cntI_z (f := fun q => decide (S 0 2 < cntI (isW S q) (S 0 1))) hI.1 (decide_eq_false (show ¬ S 0 2 < cntI (isW S i) (S 0 1) by omega)), maxI_s (fun q => cntI (isW S q) (S 0 1)) hI.1, if_neg (show ¬ maxI (fun q => cntI (isW S q) (S 0 1)) i < cntI (isW S i) (S 0 1) by omega)]; exact lv_sub hl [4, 5, 6, 2, 1, 0] rfl)
        · skip
          refine lv_iload hx hb dX7_count_76 (lv_at hl 1 rfl) ?_
          refine lv_goto (tgt := 83) hx hb dX7_count_78 (by decide) ?_
          refine lv_istore (lv' := [(4, .int (zI (cntI (isW S i) (S 0 1)))), (3, .int (zI ((cntI (fun q => decide (S 0 2 < cntI (isW S q) (S 0 1))) i) + 0))), (6, .int (zI (cntI (isW S i) (S 0 1)))), (0, .ref (a 0)), (1, .int (zI t)), (2, .int (zI (cntI (isOn S) (S 0 1)))), (5, .int (zI i))]) hx hb dX7_count_83 hl (by decide) rfl (fun ls hl => ?_)
          refine z_iinc (k := 6) (lv' := [(5, .int (zI (i + 1))), (4, .int (zI (cntI (isW S i) (S 0 1)))), (3, .int (zI ((cntI (fun q => decide (S 0 2 < cntI (isW S q) (S 0 1))) i) + 0))), (6, .int (zI (cntI (isW S i) (S 0 1)))), (0, .ref (a 0)), (1, .int (zI t)), (2, .int (zI (cntI (isOn S) (S 0 1))))]) hx hb dX7_count_85 hl rfl (by decide) rfl (fun ls hl => ?_)
          refine lv_goto (tgt := 35) hx hb dX7_count_88 (by decide) ?_
          exact ih2 (i + 1) (by omega) (by omega) ls (by show lv_has ls 7 [(0, .ref (a 0)), (1, .int (zI t)), (2, .int (zI (cntI (isOn S) (S 0 1)))), (3, .int (zI (cntI (fun q => decide (S 0 2 < cntI (isW S q) (S 0 1))) (i + 1)))), (4, .int (zI (maxI (fun q => cntI (isW S q) (S 0 1)) (i + 1)))), (5, .int (zI (i + 1)))]; rw [cntI_z (f := fun q => decide (S 0 2 < cntI (isW S q) (S 0 1))) hI.1 (decide_eq_false (show ¬ S 0 2 < cntI (isW S i) (S 0 1) by omega)), maxI_s (fun q => cntI (isW S q) (S 0 1)) hI.1, if_pos (show maxI (fun q => cntI (isW S q) (S 0 1)) i < cntI (isW S i) (S 0 1) by omega)]; exact lv_sub hl [4, 5, 6, 2, 1, 0] rfl)
      · skip
        refine z_iconst (n := 1) hx hb dX7_count_62 ?_
        refine lv_goto (tgt := 67) hx hb dX7_count_63 (by decide) ?_
        refine z_iadd hx hb dX7_count_67 ?_
        refine lv_istore_n (lv' := [(3, .int (zI ((cntI (fun q => decide (S 0 2 < cntI (isW S q) (S 0 1))) i) + 1))), (6, .int (zI (cntI (isW S i) (S 0 1)))), (0, .ref (a 0)), (1, .int (zI t)), (2, .int (zI (cntI (isOn S) (S 0 1)))), (4, .int (zI (maxI (fun q => cntI (isW S q) (S 0 1)) i))), (5, .int (zI i))]) hx hb dX7_count_68 rfl hl (by decide) rfl (fun ls hl => ?_)
        refine lv_iload hx hb dX7_count_69 (lv_at hl 1 rfl) ?_
        refine lv_iload hx hb dX7_count_71 (lv_at hl 5 rfl) ?_
        refine z_icmp_le (tgt := 81) hx hb dX7_count_73 (by decide) (by omega) (by omega) (fun c20 => ?_) (fun c20 => ?_)
        · skip
          refine lv_iload hx hb dX7_count_81 (lv_at hl 5 rfl) ?_
          refine lv_istore (lv' := [(4, .int (zI (maxI (fun q => cntI (isW S q) (S 0 1)) i))), (3, .int (zI ((cntI (fun q => decide (S 0 2 < cntI (isW S q) (S 0 1))) i) + 1))), (6, .int (zI (cntI (isW S i) (S 0 1)))), (0, .ref (a 0)), (1, .int (zI t)), (2, .int (zI (cntI (isOn S) (S 0 1)))), (5, .int (zI i))]) hx hb dX7_count_83 hl (by decide) rfl (fun ls hl => ?_)
          refine z_iinc (k := 6) (lv' := [(5, .int (zI (i + 1))), (4, .int (zI (maxI (fun q => cntI (isW S q) (S 0 1)) i))), (3, .int (zI ((cntI (fun q => decide (S 0 2 < cntI (isW S q) (S 0 1))) i) + 1))), (6, .int (zI (cntI (isW S i) (S 0 1)))), (0, .ref (a 0)), (1, .int (zI t)), (2, .int (zI (cntI (isOn S) (S 0 1))))]) hx hb dX7_count_85 hl rfl (by decide) rfl (fun ls hl => ?_)
          refine lv_goto (tgt := 35) hx hb dX7_count_88 (by decide) ?_
          exact ih2 (i + 1) (by omega) (by omega) ls (by show lv_has ls 7 [(0, .ref (a 0)), (1, .int (zI t)), (2, .int (zI (cntI (isOn S) (S 0 1)))), (3, .int (zI (cntI (fun q => decide (S 0 2 < cntI (isW S q) (S 0 1))) (i + 1)))), (4, .int (zI (maxI (fun q => cntI (isW S q) (S 0 1)) (i + 1)))), (5, .int (zI (i + 1)))]; rw [cntI_t (f := fun q => decide (S 0 2 < cntI (isW S q) (S 0 1))) hI.1 (decide_eq_true (show S 0 2 < cntI (isW S i) (S 0 1) by omega)), maxI_s (fun q => cntI (isW S q) (S 0 1)) hI.1, if_neg (show ¬ maxI (fun q => cntI (isW S q) (S 0 1)) i < cntI (isW S i) (S 0 1) by omega)]; exact lv_sub hl [4, 5, 6, 2, 1, 0] rfl)
        · skip
          refine lv_iload hx hb dX7_count_76 (lv_at hl 1 rfl) ?_
          refine lv_goto (tgt := 83) hx hb dX7_count_78 (by decide) ?_
          refine lv_istore (lv' := [(4, .int (zI (cntI (isW S i) (S 0 1)))), (3, .int (zI ((cntI (fun q => decide (S 0 2 < cntI (isW S q) (S 0 1))) i) + 1))), (6, .int (zI (cntI (isW S i) (S 0 1)))), (0, .ref (a 0)), (1, .int (zI t)), (2, .int (zI (cntI (isOn S) (S 0 1)))), (5, .int (zI i))]) hx hb dX7_count_83 hl (by decide) rfl (fun ls hl => ?_)
          refine z_iinc (k := 6) (lv' := [(5, .int (zI (i + 1))), (4, .int (zI (cntI (isW S i) (S 0 1)))), (3, .int (zI ((cntI (fun q => decide (S 0 2 < cntI (isW S q) (S 0 1))) i) + 1))), (6, .int (zI (cntI (isW S i) (S 0 1)))), (0, .ref (a 0)), (1, .int (zI t)), (2, .int (zI (cntI (isOn S) (S 0 1))))]) hx hb dX7_count_85 hl rfl (by decide) rfl (fun ls hl => ?_)
          refine lv_goto (tgt := 35) hx hb dX7_count_88 (by decide) ?_
          exact ih2 (i + 1) (by omega) (by omega) ls (by show lv_has ls 7 [(0, .ref (a 0)), (1, .int (zI t)), (2, .int (zI (cntI (isOn S) (S 0 1)))), (3, .int (zI (cntI (fun q => decide (S 0 2 < cntI (isW S q) (S 0 1))) (i + 1)))), (4, .int (zI (maxI (fun q => cntI (isW S q) (S 0 1)) (i + 1)))), (5, .int (zI (i + 1)))]; rw [cntI_t (f := fun q => decide (S 0 2 < cntI (isW S q) (S 0 1))) hI.1 (decide_eq_true (show S 0 2 < cntI (isW S i) (S 0 1) by omega)), maxI_s (fun q => cntI (isW S q) (S 0 1)) hI.1, if_pos (show maxI (fun q => cntI (isW S q) (S 0 1)) i < cntI (isW S i) (S 0 1) by omega)]; exact lv_sub hl [4, 5, 6, 2, 1, 0] rfl)
  · skip
    refine lv_iload_n hx hb dX7_count_12 rfl (lv_at hl 2 rfl) ?_
    refine lv_aload_n hx hb dX7_count_13 rfl (lv_at hl 0 rfl) ?_
    refine lv_iload_n hx hb dX7_count_14 rfl (lv_at hl 3 rfl) ?_
    refine z_iconst (n := 3) hx hb dX7_count_15 ?_
    refine z_ro (zrV (As := [.int (zI i), .int (zI 3)]) (rest := [.int (zI (cntI (isOn S) i))]) (Pw := fun H => va_P G vwCl (moW cs a kq tq nq) H ∧ va_P G vwCl (m7 cs a 1 0 361 (aI Y)) H) ⟨hx, hb, hml, hown, hts⟩ (c_X7_of l G cs a S Y kq tq nq i 3 wf0 rr (by omega) (by omega)) gX7_count_X7_of rfl qX7_of rfl rfl ⟨Nat.le_of_ble_eq_true rfl, Nat.le_of_ble_eq_true rfl⟩ ⟨hMo, hRw⟩ hK (va_recv hK.1 hMo (ci := 7) (q0 := 0) rfl rfl) hl.1 rfl (Nat.le_of_ble_eq_true rfl) dX7_count_16 ⟨Nat.le_of_ble_eq_true rfl, Nat.le_of_ble_eq_true rfl⟩) ?_
    refine z_iadd hx hb dX7_count_19 ?_
    refine lv_istore_n (lv' := [(2, .int (zI ((cntI (isOn S) i) + (S 1 (6 * i + 3))))), (0, .ref (a 0)), (1, .int (zI t)), (3, .int (zI i))]) hx hb dX7_count_20 rfl hl (by decide) rfl (fun ls hl => ?_)
    refine z_iinc (k := 3) (lv' := [(3, .int (zI (i + 1))), (2, .int (zI ((cntI (isOn S) i) + (S 1 (6 * i + 3))))), (0, .ref (a 0)), (1, .int (zI t))]) hx hb dX7_count_21 hl rfl (by decide) rfl (fun ls hl => ?_)
    refine lv_goto (tgt := 4) hx hb dX7_count_24 (by decide) ?_
    have q1 := wP i hI.1 (by omega)
    have e1 : cntI (isOn S) (i + 1) = cntI (isOn S) i + S 1 (6 * i + 3) := by rw [cntI_s _ hI.1, isOn, b2_v (by omega)]
    exact ih1 (i + 1) (by omega) (by omega) ls (by show lv_has ls 7 [(0, .ref (a 0)), (1, .int (zI t)), (2, .int (zI (cntI (isOn S) (i + 1)))), (3, .int (zI (i + 1)))]; rw [e1]; exact lv_sub hl [2, 3, 1, 0] rfl)
