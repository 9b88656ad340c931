theorem ov_z {Fl : Int → Nat → Bool} {x k : Int} : iB (fun c => Fl x c && Fl k c) = 0 ↔ ovB Fl x k = false := by
  unfold ovB
  exact iB_z
theorem fil_no {S : SS} {q fr i : Int} {c : Nat} (h1 : 0 ≤ i) (h : (decide (((i.toNat : Nat) : Int) < S 0 1) && shownB S q fr (i.toNat : Nat)) = false) : filB S q fr i c = false := by
  rw [show ((i.toNat : Nat) : Int) = i by omega] at h
  unfold filB
  rw [h]
  rfl
theorem fil_yes {S : SS} {q fr i : Int} {c : Nat} (h1 : 0 ≤ i) (h : (decide (((i.toNat : Nat) : Int) < S 0 1) && shownB S q fr (i.toNat : Nat)) = true) (hc : c < 32) : filB S q fr i c = (decide (c < 32) && decide (pixAt S i q c ≠ 0)) := by
  rw [show ((i.toNat : Nat) : Int) = i by omega] at h
  unfold filB
  rw [h]
  simp [hc]
theorem sumP_r (P : Int → Nat → Bool) (n : Nat) : 0 ≤ sumN (fun x => cnt (fun k => P x k.toNat) 32) n ∧ sumN (fun x => cnt (fun k => P x k.toNat) 32) n ≤ 32 * n := by
  induction n with
  | zero => exact ⟨Int.le_refl _, Int.le_refl _⟩
  | succ n ih =>
    have := cnt_r (fun k => P n k.toNat) 32
    rw [sumN]
    omega
theorem part_cnt {S : SS} (w1 : 0 ≤ S 0 1 ∧ S 0 1 ≤ 20) {fr x : Int} {g : Nat → Bool} (hg : ∀ k : Nat, k < 32 → g k = partB S fr 32 x k) : cnt (fun k => g k.toNat) 32 = if x < S 0 1 then metF S fr x else 0 := by
  have e : cnt (fun k => g k.toNat) 32 = cnt (fun k => decide (k < S 0 1) && (decide (x < S 0 1) && (decide (k ≠ x) && meetB S fr x k))) 32 := by
    refine cnt_congr (fun k h1 h2 => ?_)
    rw [hg _ (by omega)]
    unfold partB
    rw [show ((k.toNat : Nat) : Int) = k by omega]
    show (decide (x ≠ k ∧ x < S 0 1 ∧ k < S 0 1) && meetB S fr x k) = _
    rw [Bool.eq_iff_iff]
    simp only [Bool.and_eq_true, decide_eq_true_eq]
    constructor
    · rintro ⟨⟨a1, a2, a3⟩, a4⟩
      exact ⟨a3, a2, fun h => a1 h.symm, a4⟩
    · rintro ⟨a3, a2, a1, a4⟩
      exact ⟨⟨fun h => a1 h.symm, a2, a3⟩, a4⟩
  rw [e, cnt_cut (by omega)]
  split
  · rename_i h
    unfold metF
    exact cntI_congr (fun k _ _ => by simp [h])
  · rename_i h
    have : ∀ n : Nat, cnt (fun k => decide (x < S 0 1) && (decide (k ≠ x) && meetB S fr x k)) n = 0 := by
      intro n
      induction n with
      | zero => rfl
      | succ n ih => rw [cnt, ih, b2_f (by simp [h])]; rfl
    exact this _
theorem parts_2 {S : SS} (w1 : 0 ≤ S 0 1 ∧ S 0 1 ≤ 20) {fr : Int} {P : Int → Nat → Bool} (hP : ∀ x : Int, 0 ≤ x → x < 20 → ∀ k : Nat, k < 32 → P x k = partB S fr 32 x k) : sumN (fun x => cnt (fun k => P x k.toNat) 32) 20 = 2 * pairsF S fr := by
  rw [← pairs_2, sumN_congr (g := fun x => if x < S 0 1 then metF S fr x else 0) (fun x h1 h2 => part_cnt w1 (fun k hk => hP x h1 (by omega) k hk)), sumN_cut (n := S 0 1) (by omega) (fun k h1 h2 => if_neg (by omega))]
  exact sumN_congr (fun x h1 h2 => if_pos (by omega))
set_option maxHeartbeats 4000000 in
set_option maxRecDepth 100000 in
theorem c_X5_columnsOf (l : Launch) (G : va_G) (cs : Nat → ClassId) (a : Nat → Nat) (S : SS) (F1 : Int → Int) (f2 f3 : Nat → Int32) (x q : Int) (wf : WF S) (hx0 : 0 ≤ x ∧ x < S 0 1) (hq : 0 ≤ q ∧ q < 32) (hw : isW S q x = true) : MRO l yX5_columnsOf wsX5_columnsOf { frames := 3, cells := 0, slots := 0, locals := 73 } G cs [.ref ((sh a 9) 0), .int (zI x), .int (zI q)] (fun H => va_P G vwCl (stW cs (sh a 1) S) H ∧ va_P G vwCl (viW cs (sh a 9) ((sh a 1) 0) (aI F1) f2 f3) H) (.int (iB (fun k => decide (k < 32) && decide (pixAt S x q k ≠ 0)))) := by
  refine m_intro (Pw := (fun H => va_P G vwCl (stW cs (sh a 1) S) H ∧ va_P G vwCl (viW cs (sh a 9) ((sh a 1) 0) (aI F1) f2 f3) H)) (cc := cX5_columnsOf) (maxL := 7) (ret := some .int) RX5 (by decide) rfl rfl (Nat.le_of_ble_eq_true rfl) ?_
  intro pP eE sS mM below meth cC hx hb hr hts hown hml hlk hnm hPre hK ls hl
  have hl : lv_has ls 7 [(0, .ref ((sh a 9) 0)), (1, .int (zI x)), (2, .int (zI q))] := hl
  obtain ⟨hPs, hPv⟩ := hPre
  have hi4 : ∀ w ∈ u_ws RX4 TX4 9, w ∈ wsX5_columnsOf := by decide +kernel
  have hi5 : ∀ w ∈ u_ws RX5 TX5 4, w ∈ wsX5_columnsOf := by decide +kernel
  have wf0 := wf
  obtain ⟨w0, w1, w2, w3, w4, wP, wC, wS, wX⟩ := wf
  have q1 := wP x hx0.1 hx0.2
  have q2 : 0 ≤ q - S 1 (6 * x + 5) ∧ q - S 1 (6 * x + 5) ≤ 7 := by unfold isW isOver at hw; simp only [Bool.and_eq_true, decide_eq_true_eq] at hw; exact hw.2
  refine lv_iload_n hx hb dX5_columnsOf_0 rfl (lv_at hl 2 rfl) ?_
  refine lv_aload_n hx hb dX5_columnsOf_1 rfl (lv_at hl 0 rfl) ?_
  refine va_get (D := G) (ci := 5) (v := .ref ((sh a 1) 0)) (C := RX5) (T := TX5) (N := 4) hx hb hts hi5 hown hK.1 hPv 0 rfl rfl 0 (by decide) (hts (.fieldLink RX5 21 "SpriteLines$View" "state" "LSpriteLines$State;") (by decide +kernel)) (fun _ h9 => h9) rfl dX5_columnsOf_2 ?_
  refine lv_iload_n hx hb dX5_columnsOf_5 rfl (lv_at hl 1 rfl) ?_
  refine z_iconst (n := 5) hx hb dX5_columnsOf_6 ?_
  refine z_ro (zrV (As := [.int (zI x), .int (zI 5)]) (rest := [.int (zI q)]) ⟨hx, hb, hml, hown, hts⟩ (c_X4_property l G cs (sh a 1) S x 5 (by omega) (by omega)) gX5_columnsOf_X4_property rfl qX4_property rfl rfl ⟨Nat.le_of_ble_eq_true rfl, Nat.le_of_ble_eq_true rfl⟩ hPs hK (va_recv hK.1 hPs (ci := 4) (q0 := 0) rfl rfl) hl.1 rfl (Nat.le_of_ble_eq_true rfl) dX5_columnsOf_7 ⟨Nat.le_of_ble_eq_true rfl, Nat.le_of_ble_eq_true rfl⟩) ?_
  refine z_isub hx hb dX5_columnsOf_10 ?_
  refine lv_istore_n (lv' := [(3, .int (zI (q - (S 1 (6 * x + 5))))), (0, .ref ((sh a 9) 0)), (1, .int (zI x)), (2, .int (zI q))]) hx hb dX5_columnsOf_11 rfl hl (by decide) rfl (fun ls hl => ?_)
  refine lv_aload_n hx hb dX5_columnsOf_12 rfl (lv_at hl 1 rfl) ?_
  refine va_get (D := G) (ci := 5) (v := .ref ((sh a 1) 0)) (C := RX5) (T := TX5) (N := 4) hx hb hts hi5 hown hK.1 hPv 0 rfl rfl 0 (by decide) (hts (.fieldLink RX5 21 "SpriteLines$View" "state" "LSpriteLines$State;") (by decide +kernel)) (fun _ h9 => h9) rfl dX5_columnsOf_13 ?_
  refine lv_iload_n hx hb dX5_columnsOf_16 rfl (lv_at hl 2 rfl) ?_
  refine z_iconst (n := 1) hx hb dX5_columnsOf_17 ?_
  refine z_ro (zrV (As := [.int (zI x), .int (zI 1)]) (rest := []) ⟨hx, hb, hml, hown, hts⟩ (c_X4_property l G cs (sh a 1) S x 1 (by omega) (by omega)) gX5_columnsOf_X4_property rfl qX4_property rfl rfl ⟨Nat.le_of_ble_eq_true rfl, Nat.le_of_ble_eq_true rfl⟩ hPs hK (va_recv hK.1 hPs (ci := 4) (q0 := 0) rfl rfl) hl.1 rfl (Nat.le_of_ble_eq_true rfl) dX5_columnsOf_18 ⟨Nat.le_of_ble_eq_true rfl, Nat.le_of_ble_eq_true rfl⟩) ?_
  refine lv_istore (lv' := [(4, .int (zI (S 1 (6 * x + 1)))), (3, .int (zI (q - (S 1 (6 * x + 5))))), (0, .ref ((sh a 9) 0)), (1, .int (zI x)), (2, .int (zI q))]) hx hb dX5_columnsOf_21 hl (by decide) rfl (fun ls hl => ?_)
  refine lv_aload_n hx hb dX5_columnsOf_23 rfl (lv_at hl 2 rfl) ?_
  refine va_get (D := G) (ci := 5) (v := .ref ((sh a 1) 0)) (C := RX5) (T := TX5) (N := 4) hx hb hts hi5 hown hK.1 hPv 0 rfl rfl 0 (by decide) (hts (.fieldLink RX5 21 "SpriteLines$View" "state" "LSpriteLines$State;") (by decide +kernel)) (fun _ h9 => h9) rfl dX5_columnsOf_24 ?_
  refine va_get (D := G) (ci := 4) (v := .ref ((sh a 1) 1)) (C := RX4) (T := TX4) (N := 9) hx hb hts hi4 hown hK.1 hPs 0 rfl rfl 4 (by decide) (hts (.fieldLink RX5 82 "SpriteLines$State" "sheet" "LSpriteLines$Sheet;") (by decide +kernel)) (fun _ h9 => h9) rfl dX5_columnsOf_27 ?_
  refine lv_aload_n hx hb dX5_columnsOf_30 rfl (lv_at hl 2 rfl) ?_
  refine va_get (D := G) (ci := 5) (v := .ref ((sh a 1) 0)) (C := RX5) (T := TX5) (N := 4) hx hb hts hi5 hown hK.1 hPv 0 rfl rfl 0 (by decide) (hts (.fieldLink RX5 21 "SpriteLines$View" "state" "LSpriteLines$State;") (by decide +kernel)) (fun _ h9 => h9) rfl dX5_columnsOf_31 ?_
  refine lv_iload_n hx hb dX5_columnsOf_34 rfl (lv_at hl 3 rfl) ?_
  refine z_iconst (n := 0) hx hb dX5_columnsOf_35 ?_
  refine z_ro (zrV (As := [.int (zI x), .int (zI 0)]) (rest := [.ref ((sh a 1) 1)]) ⟨hx, hb, hml, hown, hts⟩ (c_X4_property l G cs (sh a 1) S x 0 (by omega) (by omega)) gX5_columnsOf_X4_property rfl qX4_property rfl rfl ⟨Nat.le_of_ble_eq_true rfl, Nat.le_of_ble_eq_true rfl⟩ hPs hK (va_recv hK.1 hPs (ci := 4) (q0 := 0) rfl rfl) hl.1 rfl (Nat.le_of_ble_eq_true rfl) dX5_columnsOf_36 ⟨Nat.le_of_ble_eq_true rfl, Nat.le_of_ble_eq_true rfl⟩) ?_
  refine lv_iload hx hb dX5_columnsOf_39 (lv_at hl 0 rfl) ?_
  refine lv_iload_n hx hb dX5_columnsOf_41 rfl (lv_at hl 1 rfl) ?_
  refine z_ro (zrV (As := [.int (zI (S 1 (6 * x + 0))), .int (zI (S 1 (6 * x + 1))), .int (zI (q - (S 1 (6 * x + 5))))]) (rest := []) ⟨hx, hb, hml, hown, hts⟩ (c_X3_filledInRow l G cs (sh a 1) S (S 1 (6 * x + 0)) (S 1 (6 * x + 1)) (q - (S 1 (6 * x + 5))) (by omega) (by omega) (by omega)) gX5_columnsOf_X3_filledInRow rfl qX3_filledInRow rfl rfl ⟨Nat.le_of_ble_eq_true rfl, Nat.le_of_ble_eq_true rfl⟩ hPs hK (va_recv hK.1 hPs (ci := 3) (q0 := 1) rfl rfl) hl.1 rfl (Nat.le_of_ble_eq_true rfl) dX5_columnsOf_42 ⟨Nat.le_of_ble_eq_true rfl, Nat.le_of_ble_eq_true rfl⟩) ?_
  refine lv_istore (lv' := [(5, .int (iB (fun k => decide (k < 8) && (fun j => bL (S 5) (S 1 (6 * x + 0)) j || bH (S 5) (S 1 (6 * x + 0)) j) (mirK (S 1 (6 * x + 1)) (k + (8 * (q - (S 1 (6 * x + 5)))).toNat))))), (4, .int (zI (S 1 (6 * x + 1)))), (3, .int (zI (q - (S 1 (6 * x + 5))))), (0, .ref ((sh a 9) 0)), (1, .int (zI x)), (2, .int (zI q))]) hx hb dX5_columnsOf_45 hl (by decide) rfl (fun ls hl => ?_)
  refine lv_aload_n hx hb dX5_columnsOf_47 rfl (lv_at hl 3 rfl) ?_
  refine va_get (D := G) (ci := 5) (v := .ref ((sh a 1) 0)) (C := RX5) (T := TX5) (N := 4) hx hb hts hi5 hown hK.1 hPv 0 rfl rfl 0 (by decide) (hts (.fieldLink RX5 21 "SpriteLines$View" "state" "LSpriteLines$State;") (by decide +kernel)) (fun _ h9 => h9) rfl dX5_columnsOf_48 ?_
  refine lv_iload_n hx hb dX5_columnsOf_51 rfl (lv_at hl 4 rfl) ?_
  refine z_iconst (n := 4) hx hb dX5_columnsOf_52 ?_
  refine z_ro (zrV (As := [.int (zI x), .int (zI 4)]) (rest := []) ⟨hx, hb, hml, hown, hts⟩ (c_X4_property l G cs (sh a 1) S x 4 (by omega) (by omega)) gX5_columnsOf_X4_property rfl qX4_property rfl rfl ⟨Nat.le_of_ble_eq_true rfl, Nat.le_of_ble_eq_true rfl⟩ hPs hK (va_recv hK.1 hPs (ci := 4) (q0 := 0) rfl rfl) hl.1 rfl (Nat.le_of_ble_eq_true rfl) dX5_columnsOf_53 ⟨Nat.le_of_ble_eq_true rfl, Nat.le_of_ble_eq_true rfl⟩) ?_
  refine lv_istore (lv' := [(6, .int (zI (S 1 (6 * x + 4)))), (5, .int (iB (fun k => decide (k < 8) && (fun j => bL (S 5) (S 1 (6 * x + 0)) j || bH (S 5) (S 1 (6 * x + 0)) j) (mirK (S 1 (6 * x + 1)) (k + (8 * (q - (S 1 (6 * x + 5)))).toNat))))), (4, .int (zI (S 1 (6 * x + 1)))), (3, .int (zI (q - (S 1 (6 * x + 5))))), (0, .ref ((sh a 9) 0)), (1, .int (zI x)), (2, .int (zI q))]) hx hb dX5_columnsOf_56 hl (by decide) rfl (fun ls hl => ?_)
  refine lv_iload hx hb dX5_columnsOf_58 (lv_at hl 0 rfl) ?_
  refine z_if_lt (tgt := 71) hx hb dX5_columnsOf_60 (by decide) (by omega) (fun c1 => ?_) (fun c1 => ?_)
  · skip
    refine lv_iload hx hb dX5_columnsOf_71 (lv_at hl 1 rfl) ?_
    refine lv_iload hx hb dX5_columnsOf_73 (lv_at hl 0 rfl) ?_
    refine z_ineg hx hb dX5_columnsOf_75 ?_
    refine z_ishrB hx hb dX5_columnsOf_76 (by omega) ?_
    exact ro_Iret hx hb hr hlk dX5_columnsOf_77 (congrArg Value.int (iB_congr (fun k hk => col_neg wX (by omega) (by omega) (by omega) hk (fun j => rfl))))
  · skip
    refine lv_iload hx hb dX5_columnsOf_63 (lv_at hl 1 rfl) ?_
    refine lv_iload hx hb dX5_columnsOf_65 (lv_at hl 0 rfl) ?_
    refine z_ishlB hx hb dX5_columnsOf_67 (by omega) ?_
    refine lv_goto (tgt := 77) hx hb dX5_columnsOf_68 (by decide) ?_
    exact ro_Iret hx hb hr hlk dX5_columnsOf_77 (congrArg Value.int (iB_congr (fun k hk => col_pos wX (by omega) (by omega) (by omega) hk)))

set_option maxHeartbeats 4000000 in
set_option maxRecDepth 100000 in
theorem c_X5_addPartnersOnLine (l : Launch) (G : va_G) (cs : Nat → ClassId) (a : Nat → Nat) (F1 : Int → Int) (Fl Pt : Int → Nat → Bool) (ia : Inj a 62) : MV l yX5_addPartnersOnLine wsX5_addPartnersOnLine { frames := 0, cells := 0, slots := 0, locals := 0 } G cs [.ref ((sh a 9) 0)] (fun H => va_P G vwCl (viW cs (sh a 9) ((sh a 1) 0) (aI F1) (cB Fl) (cB Pt)) H) (fun H => ∃ P, RP Pt Fl P 20 0 ∧ va_P G vwCl (viW cs (sh a 9) ((sh a 1) 0) (aI F1) (cB Fl) (cB P)) H) (AX a 12 13) 0 0 := by
  refine m_intro (Pw := (fun H => va_P G vwCl (viW cs (sh a 9) ((sh a 1) 0) (aI F1) (cB Fl) (cB Pt)) H)) (cc := cX5_addPartnersOnLine) (maxL := 3) (ret := none) RX5 (by decide) rfl rfl (Nat.le_of_ble_eq_true rfl) ?_
  intro pP eE sS mM below meth cC hx hb hr hts hown hml hlk hnm hPre hK ls hl
  have hl : lv_has ls 3 [(0, .ref ((sh a 9) 0))] := hl
  have hPv := hPre
  have hS : va_S (AX a 12 13) sS.heap sS.heap [] := va_S.rf
  have hi5 : ∀ w ∈ u_ws RX5 TX5 4, w ∈ wsX5_addPartnersOnLine := by decide +kernel
  refine z_iconst (n := 0) hx hb dX5_addPartnersOnLine_0 ?_
  refine lv_istore_n (lv' := [(1, .int (zI 0)), (0, .ref ((sh a 9) 0))]) hx hb dX5_addPartnersOnLine_1 rfl hl (by decide) rfl (fun ls hl => ?_)
  -- loop 2
  refine z_loopH (nL := 3) (fun ((i, P) : Int × (Int → Nat → Bool)) => [(0, .ref ((sh a 9) 0)), (1, .int (zI i))]) (fun ((i, P) : Int × (Int → Nat → Bool)) (H : Heap) => ((0 ≤ i ∧ i ≤ 20) ∧ RP Pt Fl P i 0) ∧ va_P G vwCl (viW cs (sh a 9) ((sh a 1) 0) (aI F1) (cB Fl) (cB P)) H) (fun ((i, P) : Int × (Int → Nat → Bool)) => (20 - i).toNat) (0, Pt) ⟨⟨by omega, RP_0⟩, hPv⟩ hS (lv_sub hl [1, 0] rfl) (fun x_ H locs hIH hS ih ls hl => ?_)
  obtain ⟨i, P⟩ := x_
  obtain ⟨hI, hPv⟩ := hIH
  have hI : (0 ≤ i ∧ i ≤ 20) ∧ RP Pt Fl P i 0 := hI
  have hPv : va_P G vwCl (viW cs (sh a 9) ((sh a 1) 0) (aI F1) (cB Fl) (cB P)) H := hPv
  have hl : lv_has ls 3 [(0, .ref ((sh a 9) 0)), (1, .int (zI i))] := hl
  have ih1 := ih
  obtain ⟨hI1, hR1⟩ := hI
  refine lv_iload_n hx hb dX5_addPartnersOnLine_2 rfl (lv_at hl 1 rfl) ?_
  refine z_bipush (n := 20) hx hb dX5_addPartnersOnLine_3 (by decide) ?_
  refine z_icmp_ge (tgt := 67) hx hb dX5_addPartnersOnLine_5 (by decide) (by omega) (by omega) (fun c1 => ?_) (fun c1 => ?_)
  · skip
    exact v_ret hx hb hr hlk dX5_addPartnersOnLine_67 hS ⟨P, by rw [show i = 20 by omega] at hR1; exact hR1, hPv⟩
  · skip
    refine z_iconst (n := 0) hx hb dX5_addPartnersOnLine_8 ?_
    refine lv_istore_n (lv' := [(2, .int (zI 0)), (0, .ref ((sh a 9) 0)), (1, .int (zI i))]) hx hb dX5_addPartnersOnLine_9 rfl hl (by decide) rfl (fun ls hl => ?_)
    -- loop 10
    refine z_loopH (nL := 3) (fun ((j, P2) : Int × (Int → Nat → Bool)) => [(0, .ref ((sh a 9) 0)), (1, .int (zI i)), (2, .int (zI j))]) (fun ((j, P2) : Int × (Int → Nat → Bool)) (H : Heap) => ((0 ≤ j ∧ j ≤ i) ∧ RP Pt Fl P2 i j) ∧ va_P G vwCl (viW cs (sh a 9) ((sh a 1) 0) (aI F1) (cB Fl) (cB P2)) H) (fun ((j, P2) : Int × (Int → Nat → Bool)) => (i - j).toNat) (0, P) ⟨⟨by omega, hR1⟩, hPv⟩ hS (lv_sub hl [1, 2, 0] rfl) (fun x_ H locs hIH hS ih ls hl => ?_)
    obtain ⟨j, P2⟩ := x_
    obtain ⟨hI, hPv⟩ := hIH
    have hI : (0 ≤ j ∧ j ≤ i) ∧ RP Pt Fl P2 i j := hI
    have hPv : va_P G vwCl (viW cs (sh a 9) ((sh a 1) 0) (aI F1) (cB Fl) (cB P2)) H := hPv
    have hl : lv_has ls 3 [(0, .ref ((sh a 9) 0)), (1, .int (zI i)), (2, .int (zI j))] := hl
    obtain ⟨hI2, hR2⟩ := hI
    refine lv_iload_n hx hb dX5_addPartnersOnLine_10 rfl (lv_at hl 2 rfl) ?_
    refine lv_iload_n hx hb dX5_addPartnersOnLine_11 rfl (lv_at hl 1 rfl) ?_
    refine z_icmp_ge (tgt := 61) hx hb dX5_addPartnersOnLine_12 (by decide) (by omega) (by omega) (fun c2 => ?_) (fun c2 => ?_)
    · skip
      refine z_iinc (k := 1) (lv' := [(1, .int (zI (i + 1))), (0, .ref ((sh a 9) 0)), (2, .int (zI j))]) hx hb dX5_addPartnersOnLine_61 hl rfl (by decide) rfl (fun ls hl => ?_)
      refine lv_goto (tgt := 2) hx hb dX5_addPartnersOnLine_64 (by decide) ?_
      exact ih1 (i + 1, P2) H locs ⟨⟨by omega, RP_next (by rw [show j = i by omega] at hR2; exact hR2)⟩, hPv⟩ hS (by show (20 - (i + 1)).toNat < (20 - i).toNat; omega) ls (lv_sub hl [1, 0] rfl)
    · skip
      refine lv_aload_n hx hb dX5_addPartnersOnLine_15 rfl (lv_at hl 0 rfl) ?_
      refine va_get (D := G) (ci := 5) (v := .ref ((sh a 9) 2)) (C := RX5) (T := TX5) (N := 4) hx hb hts hi5 hown hK.1 hPv 0 rfl rfl 2 (by decide) (hts (.fieldLink RX5 15 "SpriteLines$View" "filled" "[I") (by decide +kernel)) (fun _ h9 => h9) rfl dX5_addPartnersOnLine_16 ?_
      refine lv_iload_n hx hb dX5_addPartnersOnLine_19 rfl (lv_at hl 1 rfl) ?_
      refine z_ialdB hx hb hK.1 hPv 2 0 (F := Fl) rfl rfl (by omega) (by decide) dX5_addPartnersOnLine_20 ?_
      refine lv_aload_n hx hb dX5_addPartnersOnLine_21 rfl (lv_at hl 0 rfl) ?_
      refine va_get (D := G) (ci := 5) (v := .ref ((sh a 9) 2)) (C := RX5) (T := TX5) (N := 4) hx hb hts hi5 hown hK.1 hPv 0 rfl rfl 2 (by decide) (hts (.fieldLink RX5 15 "SpriteLines$View" "filled" "[I") (by decide +kernel)) (fun _ h9 => h9) rfl dX5_addPartnersOnLine_22 ?_
      refine lv_iload_n hx hb dX5_addPartnersOnLine_25 rfl (lv_at hl 2 rfl) ?_
      refine z_ialdB hx hb hK.1 hPv 2 0 (F := Fl) rfl rfl (by omega) (by decide) dX5_addPartnersOnLine_26 ?_
      refine z_iandB hx hb dX5_addPartnersOnLine_27 ?_
      refine lv_if_eq (tgt := 55) hx hb dX5_addPartnersOnLine_28 (by decide) (fun c1 => ?_) (fun c1 => ?_)
      · skip
        refine z_iinc (k := 2) (lv' := [(2, .int (zI (j + 1))), (0, .ref ((sh a 9) 0)), (1, .int (zI i))]) hx hb dX5_addPartnersOnLine_55 hl rfl (by decide) rfl (fun ls hl => ?_)
        refine lv_goto (tgt := 10) hx hb dX5_addPartnersOnLine_58 (by decide) ?_
        exact ih (j + 1, P2) H locs ⟨⟨by omega, RP_no hR2 (by omega) (ov_z.mp c1)⟩, hPv⟩ hS (by show (i - (j + 1)).toNat < (i - j).toNat; omega) ls (lv_sub hl [1, 2, 0] rfl)
      · skip
        refine lv_aload_n hx hb dX5_addPartnersOnLine_31 rfl (lv_at hl 0 rfl) ?_
        refine va_get (D := G) (ci := 5) (v := .ref ((sh a 9) 3)) (C := RX5) (T := TX5) (N := 4) hx hb hts hi5 hown hK.1 hPv 0 rfl rfl 3 (by decide) (hts (.fieldLink RX5 18 "SpriteLines$View" "partners" "[I") (by decide +kernel)) (fun _ h9 => h9) rfl dX5_addPartnersOnLine_32 ?_
        refine lv_iload_n hx hb dX5_addPartnersOnLine_35 rfl (lv_at hl 1 rfl) ?_
        refine lv_dup2_11 hx hb dX5_addPartnersOnLine_36 rfl rfl ?_
        refine z_ialdB hx hb hK.1 hPv 3 0 (F := P2) rfl rfl (by omega) (by decide) dX5_addPartnersOnLine_37 ?_
        refine z_iconst (n := 1) hx hb dX5_addPartnersOnLine_38 ?_
        refine z_top (v' := .int (iB (fun k => decide (k = 0)))) (congrArg Value.int zI_1b) ?_
        refine lv_iload_n hx hb dX5_addPartnersOnLine_39 rfl (lv_at hl 2 rfl) ?_
        refine z_ishlB hx hb dX5_addPartnersOnLine_40 (by omega) ?_
        refine z_iorB hx hb dX5_addPartnersOnLine_41 ?_
        refine z_top (v' := .int (iB (fun c => P2 i c || decide (c = j.toNat)))) (congrArg Value.int (iB_congr (fun k _ => orbit))) ?_
        refine z_iastB hx hb hK.1 hPv (Ord.D (ordVi cs (sh a 9) ((sh a 1) 0) (aI F1) (cB Fl) (cB P2)) (inj_sh (w := 4) ia (by decide))) hS 3 0 (F := P2) rfl rfl (by omega) (by decide) ⟨12, by decide, by decide, rfl⟩ dX5_addPartnersOnLine_42 (fun H locs hP1 hle hk hS => ?_)
        have hPv : va_P G vwCl (viW cs (sh a 9) ((sh a 1) 0) (aI F1) (cB Fl) (cB (updB P2 i (fun c => P2 i c || decide (c = j.toNat))))) H := hP1
        refine lv_aload_n hx hb dX5_addPartnersOnLine_43 rfl (lv_at hl 0 rfl) ?_
        refine va_get (D := G) (ci := 5) (v := .ref ((sh a 9) 3)) (C := RX5) (T := TX5) (N := 4) hx hb hts hi5 hown hK.1 hPv 0 rfl rfl 3 (by decide) (hts (.fieldLink RX5 18 "SpriteLines$View" "partners" "[I") (by decide +kernel)) (fun _ h9 => h9) rfl dX5_addPartnersOnLine_44 ?_
        refine lv_iload_n hx hb dX5_addPartnersOnLine_47 rfl (lv_at hl 2 rfl) ?_
        refine lv_dup2_11 hx hb dX5_addPartnersOnLine_48 rfl rfl ?_
        refine z_ialdB hx hb hK.1 hPv 3 0 (F := (updB P2 i (fun c => P2 i c || decide (c = j.toNat)))) rfl rfl (by omega) (by decide) dX5_addPartnersOnLine_49 ?_
        refine z_iconst (n := 1) hx hb dX5_addPartnersOnLine_50 ?_
        refine z_top (v' := .int (iB (fun k => decide (k = 0)))) (congrArg Value.int zI_1b) ?_
        refine lv_iload_n hx hb dX5_addPartnersOnLine_51 rfl (lv_at hl 1 rfl) ?_
        refine z_ishlB hx hb dX5_addPartnersOnLine_52 (by omega) ?_
        refine z_iorB hx hb dX5_addPartnersOnLine_53 ?_
        refine z_top (v' := .int (iB (fun c => (updB P2 i (fun c => P2 i c || decide (c = j.toNat))) j c || decide (c = i.toNat)))) (congrArg Value.int (iB_congr (fun k _ => orbit))) ?_
        refine z_iastB hx hb hK.1 hPv (Ord.D (ordVi cs (sh a 9) ((sh a 1) 0) (aI F1) (cB Fl) (cB (updB P2 i (fun c => P2 i c || decide (c = j.toNat))))) (inj_sh (w := 4) ia (by decide))) hS 3 0 (F := (updB P2 i (fun c => P2 i c || decide (c = j.toNat)))) rfl rfl (by omega) (by decide) ⟨12, by decide, by decide, rfl⟩ dX5_addPartnersOnLine_54 (fun H locs hP1 hle hk hS => ?_)
        have hPv : va_P G vwCl (viW cs (sh a 9) ((sh a 1) 0) (aI F1) (cB Fl) (cB (updB (updB P2 i (fun c => P2 i c || decide (c = j.toNat))) j (fun c => (updB P2 i (fun c => P2 i c || decide (c = j.toNat))) j c || decide (c = i.toNat))))) H := hP1
        refine z_iinc (k := 2) (lv' := [(2, .int (zI (j + 1))), (0, .ref ((sh a 9) 0)), (1, .int (zI i))]) hx hb dX5_addPartnersOnLine_55 hl rfl (by decide) rfl (fun ls hl => ?_)
        refine lv_goto (tgt := 10) hx hb dX5_addPartnersOnLine_58 (by decide) ?_
        exact ih (j + 1, updB (updB P2 i (fun c => P2 i c || decide (c = j.toNat))) j (fun c => (updB P2 i (fun c => P2 i c || decide (c = j.toNat))) j c || decide (c = i.toNat))) H locs ⟨⟨by omega, RP_yes hR2 hI2.1 (by omega) (by omega) (by cases h9 : ovB Fl i j with | true => rfl | false => exact absurd (ov_z.mpr h9) c1)⟩, hPv⟩ hS (by show (i - (j + 1)).toNat < (i - j).toNat; omega) ls (lv_sub hl [1, 2, 0] rfl)

set_option maxHeartbeats 4000000 in
set_option maxRecDepth 100000 in
theorem c_X5_findPartners (l : Launch) (G : va_G) (cs : Nat → ClassId) (a : Nat → Nat) (S : SS) (F1 : Int → Int) (Fl Pt : Int → Nat → Bool) (ia : Inj a 62) (wf : WF S) : MV l yX5_findPartners wsX5_findPartners { frames := 4, cells := 0, slots := 0, locals := 99 } G cs [.ref ((sh a 9) 0)] (fun H => va_P G vwCl (stW cs (sh a 1) S) H ∧ va_P G vwCl (viW cs (sh a 9) ((sh a 1) 0) (aI F1) (cB Fl) (cB Pt)) H) (fun H => ∃ F Fl P, (∀ x : Int, 0 ≤ x → x < 20 → ∀ k : Nat, k < 32 → P x k = partB S (S 0 4) 32 x k) ∧ va_P G vwCl (viW cs (sh a 9) ((sh a 1) 0) (aI F) (cB Fl) (cB P)) H) (AX a 10 13) 0 0 := by
  refine m_intro (Pw := (fun H => va_P G vwCl (stW cs (sh a 1) S) H ∧ va_P G vwCl (viW cs (sh a 9) ((sh a 1) 0) (aI F1) (cB Fl) (cB Pt)) H)) (cc := cX5_findPartners) (maxL := 4) (ret := none) RX5 (by decide) rfl rfl (Nat.le_of_ble_eq_true rfl) ?_
  intro pP eE sS mM below meth cC hx hb hr hts hown hml hlk hnm hPre hK ls hl
  have hl : lv_has ls 4 [(0, .ref ((sh a 9) 0))] := hl
  obtain ⟨hPs, hPv⟩ := hPre
  have hS : va_S (AX a 10 13) sS.heap sS.heap [] := va_S.rf
  have hi4 : ∀ w ∈ u_ws RX4 TX4 9, w ∈ wsX5_findPartners := by decide +kernel
  have hi5 : ∀ w ∈ u_ws RX5 TX5 4, w ∈ wsX5_findPartners := by decide +kernel
  have wf0 := wf
  obtain ⟨w0, w1, w2, w3, w4, wP, wC, wS, wX⟩ := wf
  refine z_iconst (n := 0) hx hb dX5_findPartners_0 ?_
  refine lv_istore_n (lv' := [(1, .int (zI 0)), (0, .ref ((sh a 9) 0))]) hx hb dX5_findPartners_1 rfl hl (by decide) rfl (fun ls hl => ?_)
  -- loop 2
  refine z_loopH (nL := 4) (fun ((i, P) : Int × (Int → Nat → Bool)) => [(0, .ref ((sh a 9) 0)), (1, .int (zI i))]) (fun ((i, P) : Int × (Int → Nat → Bool)) (H : Heap) => ((0 ≤ i ∧ i ≤ 20) ∧ ∀ x : Int, 0 ≤ x → x < i → ∀ k : Nat, P x k = false) ∧ va_P G vwCl (stW cs (sh a 1) S) H ∧ va_P G vwCl (viW cs (sh a 9) ((sh a 1) 0) (aI F1) (cB Fl) (cB P)) H) (fun ((i, P) : Int × (Int → Nat → Bool)) => (20 - i).toNat) (0, Pt) ⟨⟨by omega, fun x h1 h2 => by omega⟩, hPs, hPv⟩ hS (lv_sub hl [1, 0] rfl) (fun x_ H locs hIH hS ih ls hl => ?_)
  obtain ⟨i, P⟩ := x_
  obtain ⟨hI, hPs, hPv⟩ := hIH
  have hI : (0 ≤ i ∧ i ≤ 20) ∧ ∀ x : Int, 0 ≤ x → x < i → ∀ k : Nat, P x k = false := hI
  have hPs : va_P G vwCl (stW cs (sh a 1) S) H := hPs
  have hPv : va_P G vwCl (viW cs (sh a 9) ((sh a 1) 0) (aI F1) (cB Fl) (cB P)) H := hPv
  have hl : lv_has ls 4 [(0, .ref ((sh a 9) 0)), (1, .int (zI i))] := hl
  have ih1 := ih
  obtain ⟨hI1, hR1⟩ := hI
  refine lv_iload_n hx hb dX5_findPartners_2 rfl (lv_at hl 1 rfl) ?_
  refine lv_aload_n hx hb dX5_findPartners_3 rfl (lv_at hl 0 rfl) ?_
  refine va_get (D := G) (ci := 5) (v := .ref ((sh a 9) 3)) (C := RX5) (T := TX5) (N := 4) hx hb hts hi5 hown hK.1 hPv 0 rfl rfl 3 (by decide) (hts (.fieldLink RX5 18 "SpriteLines$View" "partners" "[I") (by decide +kernel)) (fun _ h9 => h9) rfl dX5_findPartners_4 ?_
  refine z_alen hx hb hK.1 hPv 3 0 rfl rfl dX5_findPartners_7 ?_
  refine z_topi (b := 20) rfl ?_
  refine z_icmp_ge (tgt := 24) hx hb dX5_findPartners_8 (by decide) (by omega) (by omega) (fun c1 => ?_) (fun c1 => ?_)
  · skip
    refine z_iconst (n := 0) hx hb dX5_findPartners_24 ?_
    refine lv_istore_n (lv' := [(1, .int (zI 0)), (0, .ref ((sh a 9) 0))]) hx hb dX5_findPartners_25 rfl hl (by decide) rfl (fun ls hl => ?_)
    -- loop 26
    refine z_loopH (nL := 4) (fun ((q, F, Fm, P2) : Int × (Int → Int) × (Int → Nat → Bool) × (Int → Nat → Bool)) => [(0, .ref ((sh a 9) 0)), (1, .int (zI q))]) (fun ((q, F, Fm, P2) : Int × (Int → Int) × (Int → Nat → Bool) × (Int → Nat → Bool)) (H : Heap) => ((0 ≤ q ∧ q ≤ 32) ∧ ∀ x : Int, 0 ≤ x → x < 20 → ∀ k : Nat, k < 32 → P2 x k = partB S (S 0 4) q.toNat x k) ∧ va_P G vwCl (stW cs (sh a 1) S) H ∧ va_P G vwCl (viW cs (sh a 9) ((sh a 1) 0) (aI F) (cB Fm) (cB P2)) H) (fun ((q, F, Fm, P2) : Int × (Int → Int) × (Int → Nat → Bool) × (Int → Nat → Bool)) => (32 - q).toNat) (0, F1, Fl, P) ⟨⟨by omega, fun x h1 h2 k hk => by rw [hR1 x h1 (by omega) k]; unfold partB; simp [anyN]⟩, hPs, hPv⟩ hS (lv_sub hl [1, 0] rfl) (fun x_ H locs hIH hS ih ls hl => ?_)
    obtain ⟨q, F, Fm, P2⟩ := x_
    obtain ⟨hI, hPs, hPv⟩ := hIH
    have hI : (0 ≤ q ∧ q ≤ 32) ∧ ∀ x : Int, 0 ≤ x → x < 20 → ∀ k : Nat, k < 32 → P2 x k = partB S (S 0 4) q.toNat x k := hI
    have hPs : va_P G vwCl (stW cs (sh a 1) S) H := hPs
    have hPv : va_P G vwCl (viW cs (sh a 9) ((sh a 1) 0) (aI F) (cB Fm) (cB P2)) H := hPv
    have hl : lv_has ls 4 [(0, .ref ((sh a 9) 0)), (1, .int (zI q))] := hl
    have ih2 := ih
    obtain ⟨hI2, hR2⟩ := hI
    refine lv_iload_n hx hb dX5_findPartners_26 rfl (lv_at hl 1 rfl) ?_
    refine z_bipush (n := 32) hx hb dX5_findPartners_27 (by decide) ?_
    refine z_icmp_ge (tgt := 96) hx hb dX5_findPartners_29 (by decide) (by omega) (by omega) (fun c2 => ?_) (fun c2 => ?_)
    · skip
      exact v_ret hx hb hr hlk dX5_findPartners_96 hS ⟨F, Fm, P2, by rw [show q = 32 by omega] at hR2; exact hR2, hPv⟩
    · skip
      refine lv_aload_n hx hb dX5_findPartners_32 rfl (lv_at hl 0 rfl) ?_
      refine lv_iload_n hx hb dX5_findPartners_33 rfl (lv_at hl 1 rfl) ?_
      refine lv_aload_n hx hb dX5_findPartners_34 rfl (lv_at hl 0 rfl) ?_
      refine va_get (D := G) (ci := 5) (v := .ref ((sh a 1) 0)) (C := RX5) (T := TX5) (N := 4) hx hb hts hi5 hown hK.1 hPv 0 rfl rfl 0 (by decide) (hts (.fieldLink RX5 21 "SpriteLines$View" "state" "LSpriteLines$State;") (by decide +kernel)) (fun _ h9 => h9) rfl dX5_findPartners_35 ?_
      refine va_get (D := G) (ci := 4) (v := .int (zI (S 0 4))) (C := RX4) (T := TX4) (N := 9) hx hb hts hi4 hown hK.1 hPs 0 rfl rfl 0 (by decide) (hts (.fieldLink RX5 54 "SpriteLines$State" "frame" "I") (by decide +kernel)) (fun _ h9 => h9) rfl dX5_findPartners_38 ?_
      refine z_w (zrV (As := [.int (zI q), .int (zI (S 0 4))]) (rest := []) (Pw := fun H => va_P G vwCl (stW cs (sh a 1) S) H ∧ va_P G vwCl (viW cs (sh a 9) ((sh a 1) 0) (aI F) (cB Fm) (cB P2)) H) ⟨hx, hb, hml, hown, hts⟩ (c_X5_shownSet l G cs a S F (cB Fm) (cB P2) q (S 0 4) ia wf0 (by omega) (by omega)) gX5_findPartners_X5_shownSet rfl qX5_shownSet rfl rfl ⟨Nat.le_of_ble_eq_true rfl, Nat.le_of_ble_eq_true rfl⟩ ⟨hPs, hPv⟩ hK (va_recv hK.1 hPv (ci := 5) (q0 := 0) rfl rfl) hl.1 rfl (Nat.le_of_ble_eq_true rfl) dX5_findPartners_41 ⟨Nat.le_of_ble_eq_true rfl, Nat.le_of_ble_eq_true rfl⟩) hS (fun q h => ax_mono h (by decide) (by decide)) (fun q h => ax_mono h (by decide) (by decide)) (fun v H locs hpost hle hk hS => ?_)
      obtain ⟨F3, rfl, hPv'⟩ := hpost
      have hPs := keepO (ordSt cs (sh a 1) S) hPs hk (fun j hj ⟨i, h1, h2, h3⟩ => absurd (ia (1 + j) i (by omega) (by omega) h3) (by omega))
      have hPv : va_P G vwCl (viW cs (sh a 9) ((sh a 1) 0) (aI F3) (cB Fm) (cB P2)) H := hPv'
      refine lv_istore_n (lv' := [(2, .int (iB (fun k => decide ((k : Int) < S 0 1) && shownB S q (S 0 4) k))), (0, .ref ((sh a 9) 0)), (1, .int (zI q))]) hx hb dX5_findPartners_44 rfl hl (by decide) rfl (fun ls hl => ?_)
      refine z_iconst (n := 0) hx hb dX5_findPartners_45 ?_
      refine lv_istore_n (lv' := [(3, .int (zI 0)), (2, .int (iB (fun k => decide ((k : Int) < S 0 1) && shownB S q (S 0 4) k))), (0, .ref ((sh a 9) 0)), (1, .int (zI q))]) hx hb dX5_findPartners_46 rfl hl (by decide) rfl (fun ls hl => ?_)
      -- loop 47
      refine z_loopH (nL := 4) (fun ((i, Fn) : Int × (Int → Nat → Bool)) => [(0, .ref ((sh a 9) 0)), (1, .int (zI q)), (2, .int (iB (fun k => decide ((k : Int) < S 0 1) && shownB S q (S 0 4) k))), (3, .int (zI i))]) (fun ((i, Fn) : Int × (Int → Nat → Bool)) (H : Heap) => ((0 ≤ i ∧ i ≤ 20) ∧ ∀ x : Int, 0 ≤ x → x < i → ∀ c : Nat, c < 32 → Fn x c = filB S q (S 0 4) x c) ∧ va_P G vwCl (stW cs (sh a 1) S) H ∧ va_P G vwCl (viW cs (sh a 9) ((sh a 1) 0) (aI F3) (cB Fn) (cB P2)) H) (fun ((i, Fn) : Int × (Int → Nat → Bool)) => (20 - i).toNat) (0, Fm) ⟨⟨by omega, fun x h1 h2 => by omega⟩, hPs, hPv⟩ hS (lv_sub hl [2, 3, 1, 0] rfl) (fun x_ H locs hIH hS ih ls hl => ?_)
      obtain ⟨i, Fn⟩ := x_
      obtain ⟨hI, hPs, hPv⟩ := hIH
      have hI : (0 ≤ i ∧ i ≤ 20) ∧ ∀ x : Int, 0 ≤ x → x < i → ∀ c : Nat, c < 32 → Fn x c = filB S q (S 0 4) x c := hI
      have hPs : va_P G vwCl (stW cs (sh a 1) S) H := hPs
      have hPv : va_P G vwCl (viW cs (sh a 9) ((sh a 1) 0) (aI F3) (cB Fn) (cB P2)) H := hPv
      have hl : lv_has ls 4 [(0, .ref ((sh a 9) 0)), (1, .int (zI q)), (2, .int (iB (fun k => decide ((k : Int) < S 0 1) && shownB S q (S 0 4) k))), (3, .int (zI i))] := hl
      have ih3 := ih
      obtain ⟨hI3, hF3⟩ := hI
      refine lv_iload_n hx hb dX5_findPartners_47 rfl (lv_at hl 3 rfl) ?_
      refine lv_aload_n hx hb dX5_findPartners_48 rfl (lv_at hl 0 rfl) ?_
      refine va_get (D := G) (ci := 5) (v := .ref ((sh a 9) 2)) (C := RX5) (T := TX5) (N := 4) hx hb hts hi5 hown hK.1 hPv 0 rfl rfl 2 (by decide) (hts (.fieldLink RX5 15 "SpriteLines$View" "filled" "[I") (by decide +kernel)) (fun _ h9 => h9) rfl dX5_findPartners_49 ?_
      refine z_alen hx hb hK.1 hPv 2 0 rfl rfl dX5_findPartners_52 ?_
      refine z_topi (b := 20) rfl ?_
      refine z_icmp_ge (tgt := 86) hx hb dX5_findPartners_53 (by decide) (by omega) (by omega) (fun c3 => ?_) (fun c3 => ?_)
      · skip
        refine lv_aload_n hx hb dX5_findPartners_86 rfl (lv_at hl 0 rfl) ?_
        refine z_v (zrV (As := []) (rest := []) ⟨hx, hb, hml, hown, hts⟩ (c_X5_addPartnersOnLine l G cs a F3 Fn P2 ia) gX5_findPartners_X5_addPartnersOnLine rfl qX5_addPartnersOnLine rfl rfl ⟨Nat.le_of_ble_eq_true rfl, Nat.le_of_ble_eq_true rfl⟩ hPv hK (va_recv hK.1 hPv (ci := 5) (q0 := 0) rfl rfl) hl.1 rfl (Nat.le_of_ble_eq_true rfl) dX5_findPartners_87 ⟨Nat.le_of_ble_eq_true rfl, Nat.le_of_ble_eq_true rfl⟩) hS (fun q h => ax_mono h (by decide) (by decide)) (fun q h => ax_mono h (by decide) (by decide)) (fun H locs hpost hle hk hS => ?_)
        obtain ⟨P4, hR4, hPv'⟩ := hpost
        have hPs := keepO (ordSt cs (sh a 1) S) hPs hk (fun j hj ⟨i, h1, h2, h3⟩ => absurd (ia (1 + j) i (by omega) (by omega) h3) (by omega))
        have hPv : va_P G vwCl (viW cs (sh a 9) ((sh a 1) 0) (aI F3) (cB Fn) (cB P4)) H := hPv'
        refine z_iinc (k := 1) (lv' := [(1, .int (zI (q + 1))), (0, .ref ((sh a 9) 0)), (2, .int (iB (fun k => decide ((k : Int) < S 0 1) && shownB S q (S 0 4) k))), (3, .int (zI i))]) hx hb dX5_findPartners_90 hl rfl (by decide) rfl (fun ls hl => ?_)
        refine lv_goto (tgt := 26) hx hb dX5_findPartners_93 (by decide) ?_
        exact ih2 (q + 1, F3, Fn, P4) H locs ⟨⟨by omega, by rw [show (q + 1).toNat = q.toNat + 1 by omega]; exact part_step w1.2 hR2 (fun x h1 h2 c hc => by rw [show ((q.toNat : Nat) : Int) = q by omega]; exact hF3 x h1 (by omega) c hc) hR4⟩, hPs, hPv⟩ hS (by show (32 - (q + 1)).toNat < (32 - q).toNat; omega) ls (lv_sub hl [1, 0] rfl)
      · skip
        refine lv_aload_n hx hb dX5_findPartners_56 rfl (lv_at hl 0 rfl) ?_
        refine va_get (D := G) (ci := 5) (v := .ref ((sh a 9) 2)) (C := RX5) (T := TX5) (N := 4) hx hb hts hi5 hown hK.1 hPv 0 rfl rfl 2 (by decide) (hts (.fieldLink RX5 15 "SpriteLines$View" "filled" "[I") (by decide +kernel)) (fun _ h9 => h9) rfl dX5_findPartners_57 ?_
        refine lv_iload_n hx hb dX5_findPartners_60 rfl (lv_at hl 3 rfl) ?_
        refine lv_iload_n hx hb dX5_findPartners_61 rfl (lv_at hl 2 rfl) ?_
        refine lv_iload_n hx hb dX5_findPartners_62 rfl (lv_at hl 3 rfl) ?_
        refine z_ro (zrSN (As := [.int (iB (fun k => decide ((k : Int) < S 0 1) && shownB S q (S 0 4) k)), .int (zI i)]) (rest := [.int (zI i), .ref ((sh a 9) 2)]) (Pw := fun _ => True) ⟨hx, hb, hml, hown, hts⟩ (c_X6_contains l G cs (fun k => decide ((k : Int) < S 0 1) && shownB S q (S 0 4) k) i (by omega)) gX5_findPartners_X6_contains_n63 rfl hK.2.1 (hts (.initialized RX6) (by decide +kernel)) (hts (.static yX6_contains) (by decide +kernel)) qX6_contains.2 rfl rfl ⟨Nat.le_of_ble_eq_true rfl, Nat.le_of_ble_eq_true rfl⟩ trivial hK hl.1 rfl (Nat.le_of_ble_eq_true rfl) dX5_findPartners_63 ⟨Nat.le_of_ble_eq_true rfl, Nat.le_of_ble_eq_true rfl⟩) ?_
        refine z_bif_eq (tgt := 78) hx hb dX5_findPartners_66 (by decide) (fun c3 => ?_) (fun c3 => ?_)
        · skip
          refine z_iconst (n := 0) hx hb dX5_findPartners_78 ?_
          refine z_top (v' := .int (iB (fun _ => false))) (congrArg Value.int iB_0) ?_
          refine z_iastB hx hb hK.1 hPv (Ord.D (ordVi cs (sh a 9) ((sh a 1) 0) (aI F3) (cB Fn) (cB P2)) (inj_sh (w := 4) ia (by decide))) hS 2 0 (F := Fn) rfl rfl (by omega) (by decide) ⟨11, by decide, by decide, rfl⟩ dX5_findPartners_79 (fun H locs hP1 hle hk hS => ?_)
          have hPs := keepO (ordSt cs (sh a 1) S) hPs hk (fun j hj h3 => absurd (ia (1 + j) 11 (by omega) (by omega) h3) (by omega))
          have hPv : va_P G vwCl (viW cs (sh a 9) ((sh a 1) 0) (aI F3) (cB (updB Fn i (fun _ => false))) (cB P2)) H := hP1
          refine z_iinc (k := 3) (lv' := [(3, .int (zI (i + 1))), (0, .ref ((sh a 9) 0)), (1, .int (zI q)), (2, .int (iB (fun k => decide ((k : Int) < S 0 1) && shownB S q (S 0 4) k)))]) hx hb dX5_findPartners_80 hl rfl (by decide) rfl (fun ls hl => ?_)
          refine lv_goto (tgt := 47) hx hb dX5_findPartners_83 (by decide) ?_
          exact ih3 (i + 1, updB Fn i (fun _ => false)) H locs ⟨⟨by omega, fun x h1 h2 c hc => by
      by_cases e : x = i
      · subst e; rw [updB_s]; exact (fil_no h1 c3).symm
      · rw [updB_n e]; exact hF3 x h1 (by omega) c hc⟩, hPs, hPv⟩ hS (by show (20 - (i + 1)).toNat < (20 - i).toNat; omega) ls (lv_sub hl [1, 2, 3, 0] rfl)
        · skip
          have c4 := c3
          simp only [Bool.and_eq_true, decide_eq_true_eq] at c4
          rw [show ((i.toNat : Nat) : Int) = i by omega] at c4
          refine lv_aload_n hx hb dX5_findPartners_69 rfl (lv_at hl 0 rfl) ?_
          refine lv_iload_n hx hb dX5_findPartners_70 rfl (lv_at hl 3 rfl) ?_
          refine lv_iload_n hx hb dX5_findPartners_71 rfl (lv_at hl 1 rfl) ?_
          refine z_ro (zrV (As := [.int (zI i), .int (zI q)]) (rest := [.int (zI i), .ref ((sh a 9) 2)]) (Pw := fun H => va_P G vwCl (stW cs (sh a 1) S) H ∧ va_P G vwCl (viW cs (sh a 9) ((sh a 1) 0) (aI F3) (cB Fn) (cB P2)) H) ⟨hx, hb, hml, hown, hts⟩ (c_X5_columnsOf l G cs a S F3 (cB Fn) (cB P2) i q wf0 (by omega) (by omega) (shown_isW c4.2)) gX5_findPartners_X5_columnsOf rfl qX5_columnsOf rfl rfl ⟨Nat.le_of_ble_eq_true rfl, Nat.le_of_ble_eq_true rfl⟩ ⟨hPs, hPv⟩ hK (va_recv hK.1 hPv (ci := 5) (q0 := 0) rfl rfl) hl.1 rfl (Nat.le_of_ble_eq_true rfl) dX5_findPartners_72 ⟨Nat.le_of_ble_eq_true rfl, Nat.le_of_ble_eq_true rfl⟩) ?_
          refine lv_goto (tgt := 79) hx hb dX5_findPartners_75 (by decide) ?_
          refine z_iastB hx hb hK.1 hPv (Ord.D (ordVi cs (sh a 9) ((sh a 1) 0) (aI F3) (cB Fn) (cB P2)) (inj_sh (w := 4) ia (by decide))) hS 2 0 (F := Fn) rfl rfl (by omega) (by decide) ⟨11, by decide, by decide, rfl⟩ dX5_findPartners_79 (fun H locs hP1 hle hk hS => ?_)
          have hPs := keepO (ordSt cs (sh a 1) S) hPs hk (fun j hj h3 => absurd (ia (1 + j) 11 (by omega) (by omega) h3) (by omega))
          have hPv : va_P G vwCl (viW cs (sh a 9) ((sh a 1) 0) (aI F3) (cB (updB Fn i (fun k => decide (k < 32) && decide (pixAt S i q k ≠ 0)))) (cB P2)) H := hP1
          refine z_iinc (k := 3) (lv' := [(3, .int (zI (i + 1))), (0, .ref ((sh a 9) 0)), (1, .int (zI q)), (2, .int (iB (fun k => decide ((k : Int) < S 0 1) && shownB S q (S 0 4) k)))]) hx hb dX5_findPartners_80 hl rfl (by decide) rfl (fun ls hl => ?_)
          refine lv_goto (tgt := 47) hx hb dX5_findPartners_83 (by decide) ?_
          exact ih3 (i + 1, updB Fn i (fun c => decide (c < 32) && decide (pixAt S i q c ≠ 0))) H locs ⟨⟨by omega, fun x h1 h2 c hc => by
      by_cases e : x = i
      · subst e; rw [updB_s]; exact (fil_yes h1 c3 hc).symm
      · rw [updB_n e]; exact hF3 x h1 (by omega) c hc⟩, hPs, hPv⟩ hS (by show (20 - (i + 1)).toNat < (20 - i).toNat; omega) ls (lv_sub hl [1, 2, 3, 0] rfl)
  · skip
    refine lv_aload_n hx hb dX5_findPartners_11 rfl (lv_at hl 0 rfl) ?_
    refine va_get (D := G) (ci := 5) (v := .ref ((sh a 9) 3)) (C := RX5) (T := TX5) (N := 4) hx hb hts hi5 hown hK.1 hPv 0 rfl rfl 3 (by decide) (hts (.fieldLink RX5 18 "SpriteLines$View" "partners" "[I") (by decide +kernel)) (fun _ h9 => h9) rfl dX5_findPartners_12 ?_
    refine lv_iload_n hx hb dX5_findPartners_15 rfl (lv_at hl 1 rfl) ?_
    refine z_iconst (n := 0) hx hb dX5_findPartners_16 ?_
    refine z_top (v' := .int (iB (fun _ => false))) (congrArg Value.int iB_0) ?_
    refine z_iastB hx hb hK.1 hPv (Ord.D (ordVi cs (sh a 9) ((sh a 1) 0) (aI F1) (cB Fl) (cB P)) (inj_sh (w := 4) ia (by decide))) hS 3 0 (F := P) rfl rfl (by omega) (by decide) ⟨12, by decide, by decide, rfl⟩ dX5_findPartners_17 (fun H locs hP1 hle hk hS => ?_)
    have hPs := keepO (ordSt cs (sh a 1) S) hPs hk (fun j hj h3 => absurd (ia (1 + j) 12 (by omega) (by omega) h3) (by omega))
    have hPv : va_P G vwCl (viW cs (sh a 9) ((sh a 1) 0) (aI F1) (cB Fl) (cB (updB P i (fun _ => false)))) H := hP1
    refine z_iinc (k := 1) (lv' := [(1, .int (zI (i + 1))), (0, .ref ((sh a 9) 0))]) hx hb dX5_findPartners_18 hl rfl (by decide) rfl (fun ls hl => ?_)
    refine lv_goto (tgt := 2) hx hb dX5_findPartners_21 (by decide) ?_
    exact ih1 (i + 1, updB P i (fun _ => false)) H locs ⟨⟨by omega, fun x h1 h2 k => by
      by_cases e : x = i
      · rw [e, updB_s]
      · rw [updB_n e]; exact hR1 x h1 (by omega) k⟩, hPs, hPv⟩ hS (by show (20 - (i + 1)).toNat < (20 - i).toNat; omega) ls (lv_sub hl [1, 0] rfl)

set_option maxHeartbeats 4000000 in
set_option maxRecDepth 100000 in
theorem c_X5_partnersOf (l : Launch) (G : va_G) (cs : Nat → ClassId) (a : Nat → Nat) (S : SS) (F1 : Int → Int) (Fl Pt : Int → Nat → Bool) (x : Int) (ia : Inj a 62) (wf : WF S) (hx0 : 0 ≤ x ∧ x < 20) : MW l yX5_partnersOf wsX5_partnersOf { frames := 5, cells := 0, slots := 0, locals := 122 } G cs [.ref ((sh a 9) 0), .int (zI x)] (fun H => va_P G vwCl (stW cs (sh a 1) S) H ∧ va_P G vwCl (viW cs (sh a 9) ((sh a 1) 0) (aI F1) (cB Fl) (cB Pt)) H) (fun v H => ∃ g F Fl P, v = .int (iB g) ∧ (∀ k : Nat, k < 32 → g k = partB S (S 0 4) 32 x k) ∧ va_P G vwCl (viW cs (sh a 9) ((sh a 1) 0) (aI F) (cB Fl) (cB P)) H) (AX a 10 13) 0 0 := by
  refine m_intro (Pw := (fun H => va_P G vwCl (stW cs (sh a 1) S) H ∧ va_P G vwCl (viW cs (sh a 9) ((sh a 1) 0) (aI F1) (cB Fl) (cB Pt)) H)) (cc := cX5_partnersOf) (maxL := 2) (ret := some .int) RX5 (by decide) rfl rfl (Nat.le_of_ble_eq_true rfl) ?_
  intro pP eE sS mM below meth cC hx hb hr hts hown hml hlk hnm hPre hK ls hl
  have hl : lv_has ls 2 [(0, .ref ((sh a 9) 0)), (1, .int (zI x))] := hl
  obtain ⟨hPs, hPv⟩ := hPre
  have hS : va_S (AX a 10 13) sS.heap sS.heap [] := va_S.rf
  have hi5 : ∀ w ∈ u_ws RX5 TX5 4, w ∈ wsX5_partnersOf := by decide +kernel
  have wf0 := wf
  obtain ⟨w0, w1, w2, w3, w4, wP, wC, wS, wX⟩ := wf
  refine lv_aload_n hx hb dX5_partnersOf_0 rfl (lv_at hl 0 rfl) ?_
  refine z_v (zrV (As := []) (rest := []) (Pw := fun H => va_P G vwCl (stW cs (sh a 1) S) H ∧ va_P G vwCl (viW cs (sh a 9) ((sh a 1) 0) (aI F1) (cB Fl) (cB Pt)) H) ⟨hx, hb, hml, hown, hts⟩ (c_X5_findPartners l G cs a S F1 Fl Pt ia wf0) gX5_partnersOf_X5_findPartners rfl qX5_findPartners rfl rfl ⟨Nat.le_of_ble_eq_true rfl, Nat.le_of_ble_eq_true rfl⟩ ⟨hPs, hPv⟩ hK (va_recv hK.1 hPv (ci := 5) (q0 := 0) rfl rfl) hl.1 rfl (Nat.le_of_ble_eq_true rfl) dX5_partnersOf_1 ⟨Nat.le_of_ble_eq_true rfl, Nat.le_of_ble_eq_true rfl⟩) hS (fun q h => ax_mono h (by decide) (by decide)) (fun q h => ax_mono h (by decide) (by decide)) (fun H locs hpost hle hk hS => ?_)
  obtain ⟨F, Fl2, P, hR, hPv'⟩ := hpost
  have hPs := keepO (ordSt cs (sh a 1) S) hPs hk (fun j hj ⟨i, h1, h2, h3⟩ => absurd (ia (1 + j) i (by omega) (by omega) h3) (by omega))
  have hPv : va_P G vwCl (viW cs (sh a 9) ((sh a 1) 0) (aI F) (cB Fl2) (cB P)) H := hPv'
  refine lv_iload_n hx hb dX5_partnersOf_4 rfl (lv_at hl 1 rfl) ?_
  refine z_if_lt (tgt := 26) hx hb dX5_partnersOf_5 (by decide) (by omega) (fun c1 => ?_) (fun c1 => ?_)
  · skip
    exfalso; omega
  · skip
    refine lv_iload_n hx hb dX5_partnersOf_8 rfl (lv_at hl 1 rfl) ?_
    refine lv_aload_n hx hb dX5_partnersOf_9 rfl (lv_at hl 0 rfl) ?_
    refine va_get (D := G) (ci := 5) (v := .ref ((sh a 9) 3)) (C := RX5) (T := TX5) (N := 4) hx hb hts hi5 hown hK.1 hPv 0 rfl rfl 3 (by decide) (hts (.fieldLink RX5 18 "SpriteLines$View" "partners" "[I") (by decide +kernel)) (fun _ h9 => h9) rfl dX5_partnersOf_10 ?_
    refine z_alen hx hb hK.1 hPv 3 0 rfl rfl dX5_partnersOf_13 ?_
    refine z_topi (b := 20) rfl ?_
    refine z_icmp_ge (tgt := 26) hx hb dX5_partnersOf_14 (by decide) (by omega) (by omega) (fun c2 => ?_) (fun c2 => ?_)
    · skip
      exfalso; omega
    · skip
      refine lv_aload_n hx hb dX5_partnersOf_17 rfl (lv_at hl 0 rfl) ?_
      refine va_get (D := G) (ci := 5) (v := .ref ((sh a 9) 3)) (C := RX5) (T := TX5) (N := 4) hx hb hts hi5 hown hK.1 hPv 0 rfl rfl 3 (by decide) (hts (.fieldLink RX5 18 "SpriteLines$View" "partners" "[I") (by decide +kernel)) (fun _ h9 => h9) rfl dX5_partnersOf_18 ?_
      refine lv_iload_n hx hb dX5_partnersOf_21 rfl (lv_at hl 1 rfl) ?_
      refine z_ialdB hx hb hK.1 hPv 3 0 (F := P) rfl rfl (by omega) (by decide) dX5_partnersOf_22 ?_
      refine lv_goto (tgt := 27) hx hb dX5_partnersOf_23 (by decide) ?_
      exact w_Iret hx hb hr hlk dX5_partnersOf_27 hS ⟨P x, F, Fl2, P, rfl, fun k hk => hR x hx0.1 hx0.2 k hk, hPv⟩

set_option maxHeartbeats 4000000 in
set_option maxRecDepth 100000 in
theorem c_X5_countMeetingPairs (l : Launch) (G : va_G) (cs : Nat → ClassId) (a : Nat → Nat) (S : SS) (F1 : Int → Int) (Fl Pt : Int → Nat → Bool) (ia : Inj a 62) (wf : WF S) : MW l yX5_countMeetingPairs wsX5_countMeetingPairs { frames := 5, cells := 0, slots := 0, locals := 122 } G cs [.ref ((sh a 9) 0)] (fun H => va_P G vwCl (stW cs (sh a 1) S) H ∧ va_P G vwCl (viW cs (sh a 9) ((sh a 1) 0) (aI F1) (cB Fl) (cB Pt)) H) (fun v H => ∃ F Fl P, v = .int (zI (pairsF S (S 0 4))) ∧ va_P G vwCl (viW cs (sh a 9) ((sh a 1) 0) (aI F) (cB Fl) (cB P)) H) (AX a 10 13) 0 0 := by
  refine m_intro (Pw := (fun H => va_P G vwCl (stW cs (sh a 1) S) H ∧ va_P G vwCl (viW cs (sh a 9) ((sh a 1) 0) (aI F1) (cB Fl) (cB Pt)) H)) (cc := cX5_countMeetingPairs) (maxL := 3) (ret := some .int) RX5 (by decide) rfl rfl (Nat.le_of_ble_eq_true rfl) ?_
  intro pP eE sS mM below meth cC hx hb hr hts hown hml hlk hnm hPre hK ls hl
  have hl : lv_has ls 3 [(0, .ref ((sh a 9) 0))] := hl
  obtain ⟨hPs, hPv⟩ := hPre
  have hS : va_S (AX a 10 13) sS.heap sS.heap [] := va_S.rf
  have hi5 : ∀ w ∈ u_ws RX5 TX5 4, w ∈ wsX5_countMeetingPairs := by decide +kernel
  have wf0 := wf
  obtain ⟨w0, w1, w2, w3, w4, wP, wC, wS, wX⟩ := wf
  refine lv_aload_n hx hb dX5_countMeetingPairs_0 rfl (lv_at hl 0 rfl) ?_
  refine z_v (zrV (As := []) (rest := []) (Pw := fun H => va_P G vwCl (stW cs (sh a 1) S) H ∧ va_P G vwCl (viW cs (sh a 9) ((sh a 1) 0) (aI F1) (cB Fl) (cB Pt)) H) ⟨hx, hb, hml, hown, hts⟩ (c_X5_findPartners l G cs a S F1 Fl Pt ia wf0) gX5_countMeetingPairs_X5_findPartners rfl qX5_findPartners rfl rfl ⟨Nat.le_of_ble_eq_true rfl, Nat.le_of_ble_eq_true rfl⟩ ⟨hPs, hPv⟩ hK (va_recv hK.1 hPv (ci := 5) (q0 := 0) rfl rfl) hl.1 rfl (Nat.le_of_ble_eq_true rfl) dX5_countMeetingPairs_1 ⟨Nat.le_of_ble_eq_true rfl, Nat.le_of_ble_eq_true rfl⟩) hS (fun q h => ax_mono h (by decide) (by decide)) (fun q h => ax_mono h (by decide) (by decide)) (fun H locs hpost hle hk hS => ?_)
  obtain ⟨F, Fl2, P, hR, hPv'⟩ := hpost
  have hPs := keepO (ordSt cs (sh a 1) S) hPs hk (fun j hj ⟨i, h1, h2, h3⟩ => absurd (ia (1 + j) i (by omega) (by omega) h3) (by omega))
  have hPv : va_P G vwCl (viW cs (sh a 9) ((sh a 1) 0) (aI F) (cB Fl2) (cB P)) H := hPv'
  refine z_iconst (n := 0) hx hb dX5_countMeetingPairs_4 ?_
  refine lv_istore_n (lv' := [(1, .int (zI 0)), (0, .ref ((sh a 9) 0))]) hx hb dX5_countMeetingPairs_5 rfl hl (by decide) rfl (fun ls hl => ?_)
  refine z_iconst (n := 0) hx hb dX5_countMeetingPairs_6 ?_
  refine lv_istore_n (lv' := [(2, .int (zI 0)), (1, .int (zI 0)), (0, .ref ((sh a 9) 0))]) hx hb dX5_countMeetingPairs_7 rfl hl (by decide) rfl (fun ls hl => ?_)
  -- loop 8
  refine z_loop (nL := 3) (fun (i : Int) => [(0, .ref ((sh a 9) 0)), (1, .int (zI (sumN (fun x => cnt (fun k => P x k.toNat) 32) i.toNat))), (2, .int (zI i))]) (fun (i : Int) => 0 ≤ i ∧ i ≤ 20) (fun (i : Int) => (20 - i).toNat) 0 (by omega) (lv_sub hl [2, 1, 0] rfl) (fun i hI ih ls hl => ?_)
  have hl : lv_has ls 3 [(0, .ref ((sh a 9) 0)), (1, .int (zI (sumN (fun x => cnt (fun k => P x k.toNat) 32) i.toNat))), (2, .int (zI i))] := hl
  refine lv_iload_n hx hb dX5_countMeetingPairs_8 rfl (lv_at hl 2 rfl) ?_
  refine lv_aload_n hx hb dX5_countMeetingPairs_9 rfl (lv_at hl 0 rfl) ?_
  refine va_get (D := G) (ci := 5) (v := .ref ((sh a 9) 3)) (C := RX5) (T := TX5) (N := 4) hx hb hts hi5 hown hK.1 hPv 0 rfl rfl 3 (by decide) (hts (.fieldLink RX5 18 "SpriteLines$View" "partners" "[I") (by decide +kernel)) (fun _ h9 => h9) rfl dX5_countMeetingPairs_10 ?_
  refine z_alen hx hb hK.1 hPv 3 0 rfl rfl dX5_countMeetingPairs_13 ?_
  refine z_topi (b := 20) rfl ?_
  refine z_icmp_ge (tgt := 35) hx hb dX5_countMeetingPairs_14 (by decide) (by omega) (by omega) (fun c1 => ?_) (fun c1 => ?_)
  · skip
    refine lv_iload_n hx hb dX5_countMeetingPairs_35 rfl (lv_at hl 1 rfl) ?_
    refine z_iconst (n := 2) hx hb dX5_countMeetingPairs_36 ?_
    have hpp := parts_2 w1 hR
    rw [show i = 20 by omega]
    refine z_idiv hx hb dX5_countMeetingPairs_37 (by show 0 ≤ sumN _ 20 ∧ sumN _ 20 < _; have := sumP_r P 20; omega) (by decide) ?_
    exact w_iret hx hb hr hlk dX5_countMeetingPairs_38 hS ⟨F, Fl2, P, by rw [show (20 : Int).toNat = 20 from rfl, hpp, Int.mul_ediv_cancel_left _ (by decide)], hPv⟩
  · skip
    refine lv_iload_n hx hb dX5_countMeetingPairs_17 rfl (lv_at hl 1 rfl) ?_
    refine lv_aload_n hx hb dX5_countMeetingPairs_18 rfl (lv_at hl 0 rfl) ?_
    refine va_get (D := G) (ci := 5) (v := .ref ((sh a 9) 3)) (C := RX5) (T := TX5) (N := 4) hx hb hts hi5 hown hK.1 hPv 0 rfl rfl 3 (by decide) (hts (.fieldLink RX5 18 "SpriteLines$View" "partners" "[I") (by decide +kernel)) (fun _ h9 => h9) rfl dX5_countMeetingPairs_19 ?_
    refine lv_iload_n hx hb dX5_countMeetingPairs_22 rfl (lv_at hl 2 rfl) ?_
    refine z_ialdB hx hb hK.1 hPv 3 0 (F := P) rfl rfl (by omega) (by decide) dX5_countMeetingPairs_23 ?_
    refine z_ro (zrSJ (As := [.int (iB (P i))]) (rest := [.int (zI (sumN (fun x => cnt (fun k => P x k.toNat) 32) i.toNat))]) (Pw := fun _ => True) ⟨hx, hb, hml, hown, hts⟩ (c_J6_bitCount_0f7a4 l G cs (P i)) gX5_countMeetingPairs_J6_bitCount_0f7a4 rfl qJ6_bitCount_0f7a4 rfl rfl ⟨Nat.le_of_ble_eq_true rfl, Nat.le_of_ble_eq_true rfl⟩ trivial hK hl.1 rfl (Nat.le_of_ble_eq_true rfl) dX5_countMeetingPairs_24 ⟨Nat.le_of_ble_eq_true rfl, Nat.le_of_ble_eq_true rfl⟩) ?_
    refine z_iadd hx hb dX5_countMeetingPairs_27 ?_
    refine lv_istore_n (lv' := [(1, .int (zI ((sumN (fun x => cnt (fun k => P x k.toNat) 32) i.toNat) + (cnt (fun k => (P i) k.toNat) 32)))), (0, .ref ((sh a 9) 0)), (2, .int (zI i))]) hx hb dX5_countMeetingPairs_28 rfl hl (by decide) rfl (fun ls hl => ?_)
    refine z_iinc (k := 2) (lv' := [(2, .int (zI (i + 1))), (1, .int (zI ((sumN (fun x => cnt (fun k => P x k.toNat) 32) i.toNat) + (cnt (fun k => (P i) k.toNat) 32)))), (0, .ref ((sh a 9) 0))]) hx hb dX5_countMeetingPairs_29 hl rfl (by decide) rfl (fun ls hl => ?_)
    refine lv_goto (tgt := 8) hx hb dX5_countMeetingPairs_32 (by decide) ?_
    exact ih (i + 1) (by omega) (by omega) ls (by show lv_has ls 3 [(0, .ref ((sh a 9) 0)), (1, .int (zI (sumN (fun x => cnt (fun k => P x k.toNat) 32) (i + 1).toNat))), (2, .int (zI (i + 1)))]; rw [sumN_s (f := fun x => cnt (fun k => P x k.toNat) 32) hI.1]; exact lv_sub hl [2, 1, 0] rfl)
