set_option maxHeartbeats 4000000 in
set_option maxRecDepth 100000 in
theorem c_X7_alike (l : Launch) (G : va_G) (cs : Nat → ClassId) (a : Nat → Nat) (S : SS) (Y : Int → Int) (kq tq nq : Int) (q t : Int) (wf : WF S) (rr : RR S Y) (r_q : -2147483648 ≤ q ∧ q < 2147483648) (r_t : -2147483648 ≤ t ∧ t < 2147483648) : MRO l yX7_alike wsX7_alike { frames := 4, cells := 0, slots := 0, locals := 97 } G cs [.ref (a 0), .int (zI q), .int (zI t)] (fun H => va_P G vwCl (moW cs a kq tq nq) H ∧ va_P G vwCl (m7 cs a 1 0 361 (aI Y)) H) (.int (zI (alikeF S q t))) := by
  refine m_intro (Pw := (fun H => va_P G vwCl (moW cs a kq tq nq) H ∧ va_P G vwCl (m7 cs a 1 0 361 (aI Y)) H)) (cc := cX7_alike) (maxL := 3) (ret := some .int) RX7 (by decide) rfl rfl (Nat.le_of_ble_eq_true rfl) ?_
  intro pP eE sS mM below meth cC hx hb hr hts hown hml hlk hnm hPre hK ls hl
  have hl : lv_has ls 3 [(0, .ref (a 0)), (1, .int (zI q)), (2, .int (zI t))] := hl
  obtain ⟨hMo, hRw⟩ := hPre
  have wf0 := wf
  obtain ⟨w0, w1, w2, w3, w4, wP, wC, wS, wX⟩ := wf
  refine lv_aload_n hx hb dX7_alike_0 rfl (lv_at hl 0 rfl) ?_
  refine lv_iload_n hx hb dX7_alike_1 rfl (lv_at hl 1 rfl) ?_
  refine z_ro (zrV (As := [.int (zI q)]) (rest := []) (Pw := fun H => va_P G vwCl (moW cs a kq tq nq) H ∧ va_P G vwCl (m7 cs a 1 0 361 (aI Y)) H) ⟨hx, hb, hml, hown, hts⟩ (c_X7_noPart l G cs a S Y kq tq nq q wf0 rr (by omega)) gX7_alike_X7_noPart rfl qX7_noPart rfl rfl ⟨Nat.le_of_ble_eq_true rfl, Nat.le_of_ble_eq_true rfl⟩ ⟨hMo, hRw⟩ hK (va_recv hK.1 hMo (ci := 7) (q0 := 0) rfl rfl) hl.1 rfl (Nat.le_of_ble_eq_true rfl) dX7_alike_2 ⟨Nat.le_of_ble_eq_true rfl, Nat.le_of_ble_eq_true rfl⟩) ?_
  refine z_bif_ne (tgt := 16) hx hb dX7_alike_5 (by decide) (fun c1 => ?_) (fun c1 => ?_)
  · skip
    simp only [decide_eq_true_eq] at c1
    refine z_iconst (n := -1) hx hb dX7_alike_16 ?_
    refine lv_goto (tgt := 27) hx hb dX7_alike_17 (by decide) ?_
    exact ro_iret hx hb hr hlk dX7_alike_27 (congrArg (fun z => Value.int (zI z)) (by unfold alikeF; rw [if_pos (show ¬ ((0 ≤ q ∧ q < S 0 0) ∧ (0 ≤ t ∧ t < S 0 0)) by omega)]))
  · skip
    simp only [decide_eq_false_iff_not] at c1
    refine lv_aload_n hx hb dX7_alike_8 rfl (lv_at hl 0 rfl) ?_
    refine lv_iload_n hx hb dX7_alike_9 rfl (lv_at hl 2 rfl) ?_
    refine z_ro (zrV (As := [.int (zI t)]) (rest := []) (Pw := fun H => va_P G vwCl (moW cs a kq tq nq) H ∧ va_P G vwCl (m7 cs a 1 0 361 (aI Y)) H) ⟨hx, hb, hml, hown, hts⟩ (c_X7_noPart l G cs a S Y kq tq nq t wf0 rr (by omega)) gX7_alike_X7_noPart rfl qX7_noPart rfl rfl ⟨Nat.le_of_ble_eq_true rfl, Nat.le_of_ble_eq_true rfl⟩ ⟨hMo, hRw⟩ hK (va_recv hK.1 hMo (ci := 7) (q0 := 0) rfl rfl) hl.1 rfl (Nat.le_of_ble_eq_true rfl) dX7_alike_10 ⟨Nat.le_of_ble_eq_true rfl, Nat.le_of_ble_eq_true rfl⟩) ?_
    refine z_bif_eq (tgt := 20) hx hb dX7_alike_13 (by decide) (fun c2 => ?_) (fun c2 => ?_)
    · skip
      simp only [decide_eq_false_iff_not] at c2
      refine lv_aload_n hx hb dX7_alike_20 rfl (lv_at hl 0 rfl) ?_
      refine lv_iload_n hx hb dX7_alike_21 rfl (lv_at hl 2 rfl) ?_
      refine lv_iload_n hx hb dX7_alike_22 rfl (lv_at hl 1 rfl) ?_
      refine z_iconst (n := 0) hx hb dX7_alike_23 ?_
      refine z_ro (zrV (As := [.int (zI t), .int (zI q), .int (zI 0)]) (rest := []) (Pw := fun H => va_P G vwCl (moW cs a kq tq nq) H ∧ va_P G vwCl (m7 cs a 1 0 361 (aI Y)) H) ⟨hx, hb, hml, hown, hts⟩ (c_X7_flipFor l G cs a S Y kq tq nq t q 0 wf0 rr (by omega) (by omega) (by omega)) gX7_alike_X7_flipFor rfl qX7_flipFor rfl rfl ⟨Nat.le_of_ble_eq_true rfl, Nat.le_of_ble_eq_true rfl⟩ ⟨hMo, hRw⟩ hK (va_recv hK.1 hMo (ci := 7) (q0 := 0) rfl rfl) hl.1 rfl (Nat.le_of_ble_eq_true rfl) dX7_alike_24 ⟨Nat.le_of_ble_eq_true rfl, Nat.le_of_ble_eq_true rfl⟩) ?_
      exact ro_iret hx hb hr hlk dX7_alike_27 (congrArg (fun z => Value.int (zI z)) (by unfold alikeF; rw [if_neg (show ¬ ¬ ((0 ≤ q ∧ q < S 0 0) ∧ (0 ≤ t ∧ t < S 0 0)) by omega)]))
    · skip
      simp only [decide_eq_true_eq] at c2
      refine z_iconst (n := -1) hx hb dX7_alike_16 ?_
      refine lv_goto (tgt := 27) hx hb dX7_alike_17 (by decide) ?_
      exact ro_iret hx hb hr hlk dX7_alike_27 (congrArg (fun z => Value.int (zI z)) (by unfold alikeF; rw [if_pos (show ¬ ((0 ≤ q ∧ q < S 0 0) ∧ (0 ≤ t ∧ t < S 0 0)) by omega)]))
