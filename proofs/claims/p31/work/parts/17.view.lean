theorem cont_bit {g : Nat → Bool} {t : Int} (h : 0 ≤ t ∧ t < 32) : iB (fun k => (if k + t.toNat < 32 then g (k + t.toNat) else g 31) && decide (k = 0)) = zI (b2 (g t.toNat)) := by
  rw [← iB_b2]
  refine iB_congr (fun k hk => ?_)
  by_cases e : k = 0
  · subst e
    simp [show t.toNat < 32 by omega]
  · simp [e]
def maxN (f : Int → Int) : Nat → Int
  | 0 => 0
  | n + 1 => if maxN f n < f n then f n else maxN f n
def maxI (f : Int → Int) (n : Int) : Int := maxN f n.toNat
theorem maxI_s (f : Int → Int) {n : Int} (h : 0 ≤ n) : maxI f (n + 1) = if maxI f n < f n then f n else maxI f n := by
  obtain ⟨k, rfl⟩ := Int.eq_ofNat_of_zero_le h
  rfl
theorem maxI_r {f : Int → Int} {m : Int} (hm : 0 ≤ m) (h : ∀ k, 0 ≤ f k ∧ f k ≤ m) (n : Int) : 0 ≤ maxI f n ∧ maxI f n ≤ m := by
  unfold maxI
  generalize n.toNat = k
  induction k with
  | zero => exact ⟨Int.le_refl _, hm⟩
  | succ k ih =>
    rw [maxN]
    have := h k
    split <;> omega
theorem nSh_0 {S : SS} {q fr : Int} (hn : S 0 1 ≤ 0) (hl : 1 ≤ S 0 2) : nSh S q fr = 0 := by
  have h : cntI (gT S q fr) (S 0 1) = 0 := by
    unfold cntI
    rw [show (S 0 1).toNat = 0 by omega]
    rfl
  unfold nSh
  rw [h, if_pos (by omega)]
theorem prod_r {x y : Int} (hx : 0 ≤ x ∧ x ≤ 1000020) (hy : 0 ≤ y ∧ y ≤ 19) : 0 ≤ x * y ∧ x * y < 2147483648 := by
  refine ⟨Int.mul_nonneg hx.1 hy.1, ?_⟩
  have h1 : x * y ≤ x * 19 := Int.mul_le_mul_of_nonneg_left hy.2 hx.1
  omega
theorem set_step {F : Int → Int} {i : Int} {k : Nat} (hi : 0 ≤ i) (hF : 0 ≤ F i) : (anyN (fun j => decide (F j = (k : Int))) i.toNat || (decide ((F i).toNat ≤ k) && decide (k - (F i).toNat = 0))) = anyN (fun j => decide (F j = (k : Int))) (i + 1).toNat := by
  obtain ⟨n, rfl⟩ := Int.eq_ofNat_of_zero_le hi
  rw [show ((n : Int) + 1).toNat = n + 1 by omega, anyN, Int.toNat_natCast]
  refine congrArg (fun z => anyN (fun j => decide (F j = (k : Int))) n || z) ?_
  rw [Bool.eq_iff_iff]
  simp only [Bool.and_eq_true, decide_eq_true_eq]
  omega
set_option maxHeartbeats 4000000 in
set_option maxRecDepth 100000 in
theorem c_X6_contains (l : Launch) (G : va_G) (cs : Nat → ClassId) (g : Nat → Bool) (x : Int) (h1 : 0 ≤ x ∧ x < 32) : MRO l yX6_contains wsX6_contains { frames := 0, cells := 0, slots := 0, locals := 0 } G cs [.int (iB g), .int (zI x)] (fun _ => True) (.int (zI (b2 (g x.toNat)))) := by
  refine m_intro (Pw := (fun _ => True)) (cc := cX6_contains) (maxL := 2) (ret := some .boolean) RX6 (by decide) rfl rfl (Nat.le_of_ble_eq_true rfl) ?_
  intro pP eE sS mM below meth cC hx hb hr hts hown hml hlk hnm hPre hK ls hl
  have hl : lv_has ls 2 [(0, .int (iB g)), (1, .int (zI x))] := hl
  refine lv_iload_n hx hb dX6_contains_0 rfl (lv_at hl 0 rfl) ?_
  refine lv_iload_n hx hb dX6_contains_1 rfl (lv_at hl 1 rfl) ?_
  refine z_ishrB hx hb dX6_contains_2 (by omega) ?_
  refine z_iconst (n := 1) hx hb dX6_contains_3 ?_
  refine z_top (v' := .int (iB (fun k => decide (k = 0)))) (congrArg Value.int zI_1b) ?_
  refine z_iandB hx hb dX6_contains_4 ?_
  refine z_top (v' := .int (zI (b2 (g x.toNat)))) (congrArg Value.int (cont_bit (by omega))) ?_
  refine z_bif_eq (tgt := 12) hx hb dX6_contains_5 (by decide) (fun c1 => ?_) (fun c1 => ?_)
  · skip
    refine z_iconst (n := 0) hx hb dX6_contains_12 ?_
    exact ro_zret hx hb hr hlk dX6_contains_13 (by omega) (congrArg (fun z => Value.int (zI z)) (b2_f (by exact c1)).symm)
  · skip
    refine z_iconst (n := 1) hx hb dX6_contains_8 ?_
    refine lv_goto (tgt := 13) hx hb dX6_contains_9 (by decide) ?_
    exact ro_zret hx hb hr hlk dX6_contains_13 (by omega) (congrArg (fun z => Value.int (zI z)) (b2_t (by exact c1)).symm)

set_option maxHeartbeats 4000000 in
set_option maxRecDepth 100000 in
theorem c_X6_isNoPlaceInPart (l : Launch) (G : va_G) (cs : Nat → ClassId) (r t : Int) (h1 : -2147483648 ≤ r ∧ r < 2147483648) (h2 : -2147483648 ≤ t ∧ t < 2147483648) : MRO l yX6_isNoPlaceInPart wsX6_isNoPlaceInPart { frames := 0, cells := 0, slots := 0, locals := 0 } G cs [.int (zI r), .int (zI t)] (fun _ => True) (.int (zI (b2 (decide (r < 0 ∨ 8 ≤ r ∨ t < 0 ∨ 8 ≤ t))))) := by
  refine m_intro (Pw := (fun _ => True)) (cc := cX6_isNoPlaceInPart) (maxL := 2) (ret := some .boolean) RX6 (by decide) rfl rfl (Nat.le_of_ble_eq_true rfl) ?_
  intro pP eE sS mM below meth cC hx hb hr hts hown hml hlk hnm hPre hK ls hl
  have hl : lv_has ls 2 [(0, .int (zI r)), (1, .int (zI t))] := hl
  refine lv_iload_n hx hb dX6_isNoPlaceInPart_0 rfl (lv_at hl 0 rfl) ?_
  refine z_if_lt (tgt := 20) hx hb dX6_isNoPlaceInPart_1 (by decide) (by omega) (fun c1 => ?_) (fun c1 => ?_)
  · skip
    refine z_iconst (n := 1) hx hb dX6_isNoPlaceInPart_20 ?_
    refine lv_goto (tgt := 25) hx hb dX6_isNoPlaceInPart_21 (by decide) ?_
    exact ro_zret hx hb hr hlk dX6_isNoPlaceInPart_25 (by omega) (congrArg (fun z => Value.int (zI z)) (b2_t (by simp only [decide_eq_true_eq]; omega)).symm)
  · skip
    refine lv_iload_n hx hb dX6_isNoPlaceInPart_4 rfl (lv_at hl 0 rfl) ?_
    refine z_bipush (n := 8) hx hb dX6_isNoPlaceInPart_5 (by decide) ?_
    refine z_icmp_ge (tgt := 20) hx hb dX6_isNoPlaceInPart_7 (by decide) (by omega) (by omega) (fun c2 => ?_) (fun c2 => ?_)
    · skip
      refine z_iconst (n := 1) hx hb dX6_isNoPlaceInPart_20 ?_
      refine lv_goto (tgt := 25) hx hb dX6_isNoPlaceInPart_21 (by decide) ?_
      exact ro_zret hx hb hr hlk dX6_isNoPlaceInPart_25 (by omega) (congrArg (fun z => Value.int (zI z)) (b2_t (by simp only [decide_eq_true_eq]; omega)).symm)
    · skip
      refine lv_iload_n hx hb dX6_isNoPlaceInPart_10 rfl (lv_at hl 1 rfl) ?_
      refine z_if_lt (tgt := 20) hx hb dX6_isNoPlaceInPart_11 (by decide) (by omega) (fun c3 => ?_) (fun c3 => ?_)
      · skip
        refine z_iconst (n := 1) hx hb dX6_isNoPlaceInPart_20 ?_
        refine lv_goto (tgt := 25) hx hb dX6_isNoPlaceInPart_21 (by decide) ?_
        exact ro_zret hx hb hr hlk dX6_isNoPlaceInPart_25 (by omega) (congrArg (fun z => Value.int (zI z)) (b2_t (by simp only [decide_eq_true_eq]; omega)).symm)
      · skip
        refine lv_iload_n hx hb dX6_isNoPlaceInPart_14 rfl (lv_at hl 1 rfl) ?_
        refine z_bipush (n := 8) hx hb dX6_isNoPlaceInPart_15 (by decide) ?_
        refine z_icmp_lt (tgt := 24) hx hb dX6_isNoPlaceInPart_17 (by decide) (by omega) (by omega) (fun c4 => ?_) (fun c4 => ?_)
        · skip
          refine z_iconst (n := 0) hx hb dX6_isNoPlaceInPart_24 ?_
          exact ro_zret hx hb hr hlk dX6_isNoPlaceInPart_25 (by omega) (congrArg (fun z => Value.int (zI z)) (b2_f (by simp only [decide_eq_false_iff_not]; omega)).symm)
        · skip
          refine z_iconst (n := 1) hx hb dX6_isNoPlaceInPart_20 ?_
          refine lv_goto (tgt := 25) hx hb dX6_isNoPlaceInPart_21 (by decide) ?_
          exact ro_zret hx hb hr hlk dX6_isNoPlaceInPart_25 (by omega) (congrArg (fun z => Value.int (zI z)) (b2_t (by simp only [decide_eq_true_eq]; omega)).symm)

set_option maxHeartbeats 4000000 in
set_option maxRecDepth 100000 in
theorem c_X5_countCovering (l : Launch) (G : va_G) (cs : Nat → ClassId) (a : Nat → Nat) (S : SS) (F1 : Int → Int) (f2 f3 : Nat → Int32) (q : Int) (wf : WF S) (hq : 0 ≤ q ∧ q < 32) : MRO l yX5_countCovering wsX5_countCovering { frames := 2, cells := 0, slots := 0, locals := 46 } G cs [.ref ((sh a 9) 0), .int (zI q)] (fun H => va_P G vwCl (stW cs (sh a 1) S) H ∧ va_P G vwCl (viW cs (sh a 9) ((sh a 1) 0) (aI F1) f2 f3) H) (.int (zI (cntI (isW S q) (S 0 1)))) := by
  refine m_intro (Pw := (fun H => va_P G vwCl (stW cs (sh a 1) S) H ∧ va_P G vwCl (viW cs (sh a 9) ((sh a 1) 0) (aI F1) f2 f3) H)) (cc := cX5_countCovering) (maxL := 4) (ret := some .int) RX5 (by decide) rfl rfl (Nat.le_of_ble_eq_true rfl) ?_
  intro pP eE sS mM below meth cC hx hb hr hts hown hml hlk hnm hPre hK ls hl
  have hl : lv_has ls 4 [(0, .ref ((sh a 9) 0)), (1, .int (zI q))] := hl
  obtain ⟨hPs, hPv⟩ := hPre
  have hi4 : ∀ w ∈ u_ws RX4 TX4 9, w ∈ wsX5_countCovering := by decide +kernel
  have hi5 : ∀ w ∈ u_ws RX5 TX5 4, w ∈ wsX5_countCovering := by decide +kernel
  have wf0 := wf
  obtain ⟨w0, w1, w2, w3, w4, wP, wC, wS, wX⟩ := wf
  refine z_iconst (n := 0) hx hb dX5_countCovering_0 ?_
  refine lv_istore_n (lv' := [(2, .int (zI 0)), (0, .ref ((sh a 9) 0)), (1, .int (zI q))]) hx hb dX5_countCovering_1 rfl hl (by decide) rfl (fun ls hl => ?_)
  refine z_iconst (n := 0) hx hb dX5_countCovering_2 ?_
  refine lv_istore_n (lv' := [(3, .int (zI 0)), (2, .int (zI 0)), (0, .ref ((sh a 9) 0)), (1, .int (zI q))]) hx hb dX5_countCovering_3 rfl hl (by decide) rfl (fun ls hl => ?_)
  -- loop 4
  refine z_loop (nL := 4) (fun (i : Int) => [(0, .ref ((sh a 9) 0)), (1, .int (zI q)), (2, .int (zI (cntI (isW S q) i))), (3, .int (zI i))]) (fun (i : Int) => 0 ≤ i ∧ i ≤ S 0 1) (fun (i : Int) => (S 0 1 - i).toNat) 0 (by omega) (lv_sub hl [2, 3, 1, 0] rfl) (fun i hI ih ls hl => ?_)
  have hl : lv_has ls 4 [(0, .ref ((sh a 9) 0)), (1, .int (zI q)), (2, .int (zI (cntI (isW S q) i))), (3, .int (zI i))] := hl
  have hc := cntI_r (isW S q) hI.1
  refine lv_iload_n hx hb dX5_countCovering_4 rfl (lv_at hl 3 rfl) ?_
  refine lv_aload_n hx hb dX5_countCovering_5 rfl (lv_at hl 0 rfl) ?_
  refine va_get (D := G) (ci := 5) (v := .ref ((sh a 1) 0)) (C := RX5) (T := TX5) (N := 4) hx hb hts hi5 hown hK.1 hPv 0 rfl rfl 0 (by decide) (hts (.fieldLink RX5 21 "SpriteLines$View" "state" "LSpriteLines$State;") (by decide +kernel)) (fun _ h9 => h9) rfl dX5_countCovering_6 ?_
  refine va_get (D := G) (ci := 4) (v := .int (zI (S 0 1))) (C := RX4) (T := TX4) (N := 9) hx hb hts hi4 hown hK.1 hPs 0 rfl rfl 3 (by decide) (hts (.fieldLink RX5 25 "SpriteLines$State" "sprites" "I") (by decide +kernel)) (fun _ h9 => h9) rfl dX5_countCovering_9 ?_
  refine z_icmp_ge (tgt := 36) hx hb dX5_countCovering_12 (by decide) (by omega) (by omega) (fun c1 => ?_) (fun c1 => ?_)
  · skip
    refine lv_iload_n hx hb dX5_countCovering_36 rfl (lv_at hl 2 rfl) ?_
    exact ro_iret hx hb hr hlk dX5_countCovering_37 (congrArg (fun z => Value.int (zI z)) (by rw [show i = S 0 1 by omega]))
  · skip
    refine lv_aload_n hx hb dX5_countCovering_15 rfl (lv_at hl 0 rfl) ?_
    refine va_get (D := G) (ci := 5) (v := .ref ((sh a 1) 0)) (C := RX5) (T := TX5) (N := 4) hx hb hts hi5 hown hK.1 hPv 0 rfl rfl 0 (by decide) (hts (.fieldLink RX5 21 "SpriteLines$View" "state" "LSpriteLines$State;") (by decide +kernel)) (fun _ h9 => h9) rfl dX5_countCovering_16 ?_
    refine lv_iload_n hx hb dX5_countCovering_19 rfl (lv_at hl 3 rfl) ?_
    refine lv_iload_n hx hb dX5_countCovering_20 rfl (lv_at hl 1 rfl) ?_
    refine z_ro (zrV (As := [.int (zI i), .int (zI q)]) (rest := []) ⟨hx, hb, hml, hown, hts⟩ (c_X4_isOnAndCovers l G cs (sh a 1) S i q wf0 (by omega) (by omega)) gX5_countCovering_X4_isOnAndCovers rfl qX4_isOnAndCovers rfl rfl ⟨Nat.le_of_ble_eq_true rfl, Nat.le_of_ble_eq_true rfl⟩ hPs hK (va_recv hK.1 hPs (ci := 4) (q0 := 0) rfl rfl) hl.1 rfl (Nat.le_of_ble_eq_true rfl) dX5_countCovering_21 ⟨Nat.le_of_ble_eq_true rfl, Nat.le_of_ble_eq_true rfl⟩) ?_
    refine z_bif_eq (tgt := 30) hx hb dX5_countCovering_24 (by decide) (fun c2 => ?_) (fun c2 => ?_)
    · skip
      refine z_iinc (k := 3) (lv' := [(3, .int (zI (i + 1))), (0, .ref ((sh a 9) 0)), (1, .int (zI q)), (2, .int (zI (cntI (isW S q) i)))]) hx hb dX5_countCovering_30 hl rfl (by decide) rfl (fun ls hl => ?_)
      refine lv_goto (tgt := 4) hx hb dX5_countCovering_33 (by decide) ?_
      exact ih (i + 1) (by omega) (by omega) ls (by show lv_has ls 4 [(0, .ref ((sh a 9) 0)), (1, .int (zI q)), (2, .int (zI (cntI (isW S q) (i + 1)))), (3, .int (zI (i + 1)))]; rw [cntI_f hI.1 c2]; exact lv_sub hl [1, 2, 3, 0] rfl)
    · skip
      refine z_iinc (k := 2) (lv' := [(2, .int (zI ((cntI (isW S q) i) + 1))), (0, .ref ((sh a 9) 0)), (1, .int (zI q)), (3, .int (zI i))]) hx hb dX5_countCovering_27 hl rfl (by decide) rfl (fun ls hl => ?_)
      refine z_iinc (k := 3) (lv' := [(3, .int (zI (i + 1))), (2, .int (zI ((cntI (isW S q) i) + 1))), (0, .ref ((sh a 9) 0)), (1, .int (zI q))]) hx hb dX5_countCovering_30 hl rfl (by decide) rfl (fun ls hl => ?_)
      refine lv_goto (tgt := 4) hx hb dX5_countCovering_33 (by decide) ?_
      exact ih (i + 1) (by omega) (by omega) ls (by show lv_has ls 4 [(0, .ref ((sh a 9) 0)), (1, .int (zI q)), (2, .int (zI (cntI (isW S q) (i + 1)))), (3, .int (zI (i + 1)))]; rw [cntI_t hI.1 c2]; exact lv_sub hl [2, 3, 1, 0] rfl)

set_option maxHeartbeats 4000000 in
set_option maxRecDepth 100000 in
theorem c_X5_mostCovering (l : Launch) (G : va_G) (cs : Nat → ClassId) (a : Nat → Nat) (S : SS) (F1 : Int → Int) (f2 f3 : Nat → Int32) (wf : WF S) : MRO l yX5_mostCovering wsX5_mostCovering { frames := 3, cells := 0, slots := 0, locals := 69 } G cs [.ref ((sh a 9) 0)] (fun H => va_P G vwCl (stW cs (sh a 1) S) H ∧ va_P G vwCl (viW cs (sh a 9) ((sh a 1) 0) (aI F1) f2 f3) H) (.int (zI (maxI (fun l_ => cntI (isW S l_) (S 0 1)) 32))) := by
  refine m_intro (Pw := (fun H => va_P G vwCl (stW cs (sh a 1) S) H ∧ va_P G vwCl (viW cs (sh a 9) ((sh a 1) 0) (aI F1) f2 f3) H)) (cc := cX5_mostCovering) (maxL := 3) (ret := some .int) RX5 (by decide) rfl rfl (Nat.le_of_ble_eq_true rfl) ?_
  intro pP eE sS mM below meth cC hx hb hr hts hown hml hlk hnm hPre hK ls hl
  have hl : lv_has ls 3 [(0, .ref ((sh a 9) 0))] := hl
  obtain ⟨hPs, hPv⟩ := hPre
  have wf0 := wf
  obtain ⟨w0, w1, w2, w3, w4, wP, wC, wS, wX⟩ := wf
  refine z_iconst (n := 0) hx hb dX5_mostCovering_0 ?_
  refine lv_istore_n (lv' := [(1, .int (zI 0)), (0, .ref ((sh a 9) 0))]) hx hb dX5_mostCovering_1 rfl hl (by decide) rfl (fun ls hl => ?_)
  refine z_iconst (n := 0) hx hb dX5_mostCovering_2 ?_
  refine lv_istore_n (lv' := [(2, .int (zI 0)), (1, .int (zI 0)), (0, .ref ((sh a 9) 0))]) hx hb dX5_mostCovering_3 rfl hl (by decide) rfl (fun ls hl => ?_)
  -- loop 4
  refine z_loop (nL := 3) (fun (i : Int) => [(0, .ref ((sh a 9) 0)), (1, .int (zI (maxI (fun l_ => cntI (isW S l_) (S 0 1)) i))), (2, .int (zI i))]) (fun (i : Int) => 0 ≤ i ∧ i ≤ 32) (fun (i : Int) => (32 - i).toNat) 0 (by omega) (lv_sub hl [2, 1, 0] rfl) (fun i hI ih ls hl => ?_)
  have hl : lv_has ls 3 [(0, .ref ((sh a 9) 0)), (1, .int (zI (maxI (fun l_ => cntI (isW S l_) (S 0 1)) i))), (2, .int (zI i))] := hl
  have hc := maxI_r (f := fun l_ => cntI (isW S l_) (S 0 1)) (m := 20) (by decide) (fun k => by have := cntI_r (isW S k) w1.1; omega) i
  have hc2 := cntI_r (isW S i) w1.1
  refine lv_iload_n hx hb dX5_mostCovering_4 rfl (lv_at hl 2 rfl) ?_
  refine z_bipush (n := 32) hx hb dX5_mostCovering_5 (by decide) ?_
  refine z_icmp_ge (tgt := 26) hx hb dX5_mostCovering_7 (by decide) (by omega) (by omega) (fun c1 => ?_) (fun c1 => ?_)
  · skip
    refine lv_iload_n hx hb dX5_mostCovering_26 rfl (lv_at hl 1 rfl) ?_
    exact ro_iret hx hb hr hlk dX5_mostCovering_27 (congrArg (fun z => Value.int (zI z)) (by rw [show i = 32 by omega]))
  · skip
    refine lv_iload_n hx hb dX5_mostCovering_10 rfl (lv_at hl 1 rfl) ?_
    refine lv_aload_n hx hb dX5_mostCovering_11 rfl (lv_at hl 0 rfl) ?_
    refine lv_iload_n hx hb dX5_mostCovering_12 rfl (lv_at hl 2 rfl) ?_
    refine z_ro (zrV (As := [.int (zI i)]) (rest := [.int (zI (maxI (fun l_ => cntI (isW S l_) (S 0 1)) i))]) (Pw := fun H => va_P G vwCl (stW cs (sh a 1) S) H ∧ va_P G vwCl (viW cs (sh a 9) ((sh a 1) 0) (aI F1) f2 f3) H) ⟨hx, hb, hml, hown, hts⟩ (c_X5_countCovering l G cs a S F1 f2 f3 i wf0 (by omega)) gX5_mostCovering_X5_countCovering rfl qX5_countCovering rfl rfl ⟨Nat.le_of_ble_eq_true rfl, Nat.le_of_ble_eq_true rfl⟩ ⟨hPs, hPv⟩ hK (va_recv hK.1 hPv (ci := 5) (q0 := 0) rfl rfl) hl.1 rfl (Nat.le_of_ble_eq_true rfl) dX5_mostCovering_13 ⟨Nat.le_of_ble_eq_true rfl, Nat.le_of_ble_eq_true rfl⟩) ?_
    refine va_mmax hx hb (by rw [hml]; exact hl.1.symm) hown (hts (.methodLink RX5 39 Lib.Math.max.name) (by decide +kernel)) (hts (.static Lib.Math.max.name) (by decide +kernel)) (hts (.initialized "java/lang/Math") (by decide +kernel)) (hts (.code Lib.Math.max.name Lib.Math.max.code 2 (some .int)) (by decide +kernel)) (Nat.le_of_ble_eq_true rfl) (Nat.le_of_ble_eq_true rfl) (Nat.le_of_ble_eq_true rfl) (Nat.le_of_ble_eq_true rfl) dX5_mostCovering_16 ?_
    refine z_top (v' := .int (zI (if maxI (fun l_ => cntI (isW S l_) (S 0 1)) i < cntI (isW S i) (S 0 1) then cntI (isW S i) (S 0 1) else maxI (fun l_ => cntI (isW S l_) (S 0 1)) i))) (congrArg Value.int (z_max (by omega) (by omega))) ?_
    refine lv_istore_n (lv' := [(1, .int (zI (if maxI (fun l_ => cntI (isW S l_) (S 0 1)) i < cntI (isW S i) (S 0 1) then cntI (isW S i) (S 0 1) else maxI (fun l_ => cntI (isW S l_) (S 0 1)) i))), (0, .ref ((sh a 9) 0)), (2, .int (zI i))]) hx hb dX5_mostCovering_19 rfl hl (by decide) rfl (fun ls hl => ?_)
    refine z_iinc (k := 2) (lv' := [(2, .int (zI (i + 1))), (1, .int (zI (if maxI (fun l_ => cntI (isW S l_) (S 0 1)) i < cntI (isW S i) (S 0 1) then cntI (isW S i) (S 0 1) else maxI (fun l_ => cntI (isW S l_) (S 0 1)) i))), (0, .ref ((sh a 9) 0))]) hx hb dX5_mostCovering_20 hl rfl (by decide) rfl (fun ls hl => ?_)
    refine lv_goto (tgt := 4) hx hb dX5_mostCovering_23 (by decide) ?_
    exact ih (i + 1) (by omega) (by omega) ls (by show lv_has ls 3 [(0, .ref ((sh a 9) 0)), (1, .int (zI (maxI (fun l_ => cntI (isW S l_) (S 0 1)) (i + 1)))), (2, .int (zI (i + 1)))]; rw [maxI_s _ hI.1]; exact lv_sub hl [2, 1, 0] rfl)

set_option maxHeartbeats 4000000 in
set_option maxRecDepth 100000 in
theorem c_X5_countOverfullLines (l : Launch) (G : va_G) (cs : Nat → ClassId) (a : Nat → Nat) (S : SS) (F1 : Int → Int) (f2 f3 : Nat → Int32) (wf : WF S) : MRO l yX5_countOverfullLines wsX5_countOverfullLines { frames := 3, cells := 0, slots := 0, locals := 69 } G cs [.ref ((sh a 9) 0)] (fun H => va_P G vwCl (stW cs (sh a 1) S) H ∧ va_P G vwCl (viW cs (sh a 9) ((sh a 1) 0) (aI F1) f2 f3) H) (.int (zI (cntI (fun l_ => decide (S 0 2 < cntI (isW S l_) (S 0 1))) 32))) := by
  refine m_intro (Pw := (fun H => va_P G vwCl (stW cs (sh a 1) S) H ∧ va_P G vwCl (viW cs (sh a 9) ((sh a 1) 0) (aI F1) f2 f3) H)) (cc := cX5_countOverfullLines) (maxL := 3) (ret := some .int) RX5 (by decide) rfl rfl (Nat.le_of_ble_eq_true rfl) ?_
  intro pP eE sS mM below meth cC hx hb hr hts hown hml hlk hnm hPre hK ls hl
  have hl : lv_has ls 3 [(0, .ref ((sh a 9) 0))] := hl
  obtain ⟨hPs, hPv⟩ := hPre
  have hi4 : ∀ w ∈ u_ws RX4 TX4 9, w ∈ wsX5_countOverfullLines := by decide +kernel
  have hi5 : ∀ w ∈ u_ws RX5 TX5 4, w ∈ wsX5_countOverfullLines := by decide +kernel
  have wf0 := wf
  obtain ⟨w0, w1, w2, w3, w4, wP, wC, wS, wX⟩ := wf
  refine z_iconst (n := 0) hx hb dX5_countOverfullLines_0 ?_
  refine lv_istore_n (lv' := [(1, .int (zI 0)), (0, .ref ((sh a 9) 0))]) hx hb dX5_countOverfullLines_1 rfl hl (by decide) rfl (fun ls hl => ?_)
  refine z_iconst (n := 0) hx hb dX5_countOverfullLines_2 ?_
  refine lv_istore_n (lv' := [(2, .int (zI 0)), (1, .int (zI 0)), (0, .ref ((sh a 9) 0))]) hx hb dX5_countOverfullLines_3 rfl hl (by decide) rfl (fun ls hl => ?_)
  -- loop 4
  refine z_loop (nL := 3) (fun (i : Int) => [(0, .ref ((sh a 9) 0)), (1, .int (zI (cntI (fun l_ => decide (S 0 2 < cntI (isW S l_) (S 0 1))) i))), (2, .int (zI i))]) (fun (i : Int) => 0 ≤ i ∧ i ≤ 32) (fun (i : Int) => (32 - i).toNat) 0 (by omega) (lv_sub hl [2, 1, 0] rfl) (fun i hI ih ls hl => ?_)
  have hl : lv_has ls 3 [(0, .ref ((sh a 9) 0)), (1, .int (zI (cntI (fun l_ => decide (S 0 2 < cntI (isW S l_) (S 0 1))) i))), (2, .int (zI i))] := hl
  have hc := cntI_r (fun l_ => decide (S 0 2 < cntI (isW S l_) (S 0 1))) hI.1
  have hc2 := cntI_r (isW S i) w1.1
  refine lv_iload_n hx hb dX5_countOverfullLines_4 rfl (lv_at hl 2 rfl) ?_
  refine z_bipush (n := 32) hx hb dX5_countOverfullLines_5 (by decide) ?_
  refine z_icmp_ge (tgt := 34) hx hb dX5_countOverfullLines_7 (by decide) (by omega) (by omega) (fun c1 => ?_) (fun c1 => ?_)
  · skip
    refine lv_iload_n hx hb dX5_countOverfullLines_34 rfl (lv_at hl 1 rfl) ?_
    exact ro_iret hx hb hr hlk dX5_countOverfullLines_35 (congrArg (fun z => Value.int (zI z)) (by rw [show i = 32 by omega]))
  · skip
    refine lv_aload_n hx hb dX5_countOverfullLines_10 rfl (lv_at hl 0 rfl) ?_
    refine lv_iload_n hx hb dX5_countOverfullLines_11 rfl (lv_at hl 2 rfl) ?_
    refine z_ro (zrV (As := [.int (zI i)]) (rest := []) (Pw := fun H => va_P G vwCl (stW cs (sh a 1) S) H ∧ va_P G vwCl (viW cs (sh a 9) ((sh a 1) 0) (aI F1) f2 f3) H) ⟨hx, hb, hml, hown, hts⟩ (c_X5_countCovering l G cs a S F1 f2 f3 i wf0 (by omega)) gX5_countOverfullLines_X5_countCovering rfl qX5_countCovering rfl rfl ⟨Nat.le_of_ble_eq_true rfl, Nat.le_of_ble_eq_true rfl⟩ ⟨hPs, hPv⟩ hK (va_recv hK.1 hPv (ci := 5) (q0 := 0) rfl rfl) hl.1 rfl (Nat.le_of_ble_eq_true rfl) dX5_countOverfullLines_12 ⟨Nat.le_of_ble_eq_true rfl, Nat.le_of_ble_eq_true rfl⟩) ?_
    refine lv_aload_n hx hb dX5_countOverfullLines_15 rfl (lv_at hl 0 rfl) ?_
    refine va_get (D := G) (ci := 5) (v := .ref ((sh a 1) 0)) (C := RX5) (T := TX5) (N := 4) hx hb hts hi5 hown hK.1 hPv 0 rfl rfl 0 (by decide) (hts (.fieldLink RX5 21 "SpriteLines$View" "state" "LSpriteLines$State;") (by decide +kernel)) (fun _ h9 => h9) rfl dX5_countOverfullLines_16 ?_
    refine va_get (D := G) (ci := 4) (v := .int (zI (S 0 2))) (C := RX4) (T := TX4) (N := 9) hx hb hts hi4 hown hK.1 hPs 0 rfl rfl 1 (by decide) (hts (.fieldLink RX5 45 "SpriteLines$State" "limit" "I") (by decide +kernel)) (fun _ h9 => h9) rfl dX5_countOverfullLines_19 ?_
    refine z_icmp_le (tgt := 28) hx hb dX5_countOverfullLines_22 (by decide) (by omega) (by omega) (fun c2 => ?_) (fun c2 => ?_)
    · skip
      refine z_iinc (k := 2) (lv' := [(2, .int (zI (i + 1))), (0, .ref ((sh a 9) 0)), (1, .int (zI (cntI (fun l_ => decide (S 0 2 < cntI (isW S l_) (S 0 1))) i)))]) hx hb dX5_countOverfullLines_28 hl rfl (by decide) rfl (fun ls hl => ?_)
      refine lv_goto (tgt := 4) hx hb dX5_countOverfullLines_31 (by decide) ?_
      exact ih (i + 1) (by omega) (by omega) ls (by show lv_has ls 3 [(0, .ref ((sh a 9) 0)), (1, .int (zI (cntI (fun l_ => decide (S 0 2 < cntI (isW S l_) (S 0 1))) (i + 1)))), (2, .int (zI (i + 1)))]; rw [cntI_f (f := fun l_ => decide (S 0 2 < cntI (isW S l_) (S 0 1))) hI.1 (by simp only [decide_eq_false_iff_not]; omega)]; exact lv_sub hl [1, 2, 0] rfl)
    · skip
      refine z_iinc (k := 1) (lv' := [(1, .int (zI ((cntI (fun l_ => decide (S 0 2 < cntI (isW S l_) (S 0 1))) i) + 1))), (0, .ref ((sh a 9) 0)), (2, .int (zI i))]) hx hb dX5_countOverfullLines_25 hl rfl (by decide) rfl (fun ls hl => ?_)
      refine z_iinc (k := 2) (lv' := [(2, .int (zI (i + 1))), (1, .int (zI ((cntI (fun l_ => decide (S 0 2 < cntI (isW S l_) (S 0 1))) i) + 1))), (0, .ref ((sh a 9) 0))]) hx hb dX5_countOverfullLines_28 hl rfl (by decide) rfl (fun ls hl => ?_)
      refine lv_goto (tgt := 4) hx hb dX5_countOverfullLines_31 (by decide) ?_
      exact ih (i + 1) (by omega) (by omega) ls (by show lv_has ls 3 [(0, .ref ((sh a 9) 0)), (1, .int (zI (cntI (fun l_ => decide (S 0 2 < cntI (isW S l_) (S 0 1))) (i + 1)))), (2, .int (zI (i + 1)))]; rw [cntI_t (f := fun l_ => decide (S 0 2 < cntI (isW S l_) (S 0 1))) hI.1 (by simp only [decide_eq_true_eq]; omega)]; exact lv_sub hl [2, 1, 0] rfl)

set_option maxHeartbeats 4000000 in
set_option maxRecDepth 100000 in
theorem c_X5_findShown (l : Launch) (G : va_G) (cs : Nat → ClassId) (a : Nat → Nat) (S : SS) (F1 : Int → Int) (f2 f3 : Nat → Int32) (q fr : Int) (ia : Inj a 62) (wf : WF S) (hq : 0 ≤ q ∧ q < 32) (hfr : 0 ≤ fr ∧ fr ≤ 1000020) : MW l yX5_findShown wsX5_findShown { frames := 2, cells := 0, slots := 0, locals := 46 } G cs [.ref ((sh a 9) 0), .int (zI q), .int (zI fr)] (fun H => va_P G vwCl (stW cs (sh a 1) S) H ∧ va_P G vwCl (viW cs (sh a 9) ((sh a 1) 0) (aI F1) f2 f3) H) (fun v H => ∃ F, v = .int (zI (nSh S q fr)) ∧ InT S q fr F ∧ va_P G vwCl (viW cs (sh a 9) ((sh a 1) 0) (aI F) f2 f3) H) (AX a 10 11) 0 0 := by
  refine m_intro (Pw := (fun H => va_P G vwCl (stW cs (sh a 1) S) H ∧ va_P G vwCl (viW cs (sh a 9) ((sh a 1) 0) (aI F1) f2 f3) H)) (cc := cX5_findShown) (maxL := 9) (ret := some .int) RX5 (by decide) rfl rfl (Nat.le_of_ble_eq_true rfl) ?_
  intro pP eE sS mM below meth cC hx hb hr hts hown hml hlk hnm hPre hK ls hl
  have hl : lv_has ls 9 [(0, .ref ((sh a 9) 0)), (1, .int (zI q)), (2, .int (zI fr))] := hl
  obtain ⟨hPs, hPv⟩ := hPre
  have hS : va_S (AX a 10 11) sS.heap sS.heap [] := va_S.rf
  have hi4 : ∀ w ∈ u_ws RX4 TX4 9, w ∈ wsX5_findShown := by decide +kernel
  have hi5 : ∀ w ∈ u_ws RX5 TX5 4, w ∈ wsX5_findShown := by decide +kernel
  have wf0 := wf
  obtain ⟨w0, w1, w2, w3, w4, wP, wC, wS, wX⟩ := wf
  refine lv_aload_n hx hb dX5_findShown_0 rfl (lv_at hl 0 rfl) ?_
  refine va_get (D := G) (ci := 5) (v := .ref ((sh a 1) 0)) (C := RX5) (T := TX5) (N := 4) hx hb hts hi5 hown hK.1 hPv 0 rfl rfl 0 (by decide) (hts (.fieldLink RX5 21 "SpriteLines$View" "state" "LSpriteLines$State;") (by decide +kernel)) (fun _ h9 => h9) rfl dX5_findShown_1 ?_
  refine va_get (D := G) (ci := 4) (v := .int (zI (S 0 1))) (C := RX4) (T := TX4) (N := 9) hx hb hts hi4 hown hK.1 hPs 0 rfl rfl 3 (by decide) (hts (.fieldLink RX5 25 "SpriteLines$State" "sprites" "I") (by decide +kernel)) (fun _ h9 => h9) rfl dX5_findShown_4 ?_
  refine lv_istore_n (lv' := [(3, .int (zI (S 0 1))), (0, .ref ((sh a 9) 0)), (1, .int (zI q)), (2, .int (zI fr))]) hx hb dX5_findShown_7 rfl hl (by decide) rfl (fun ls hl => ?_)
  refine lv_iload_n hx hb dX5_findShown_8 rfl (lv_at hl 0 rfl) ?_
  refine z_if_gt (tgt := 14) hx hb dX5_findShown_9 (by decide) (by omega) (fun c1 => ?_) (fun c1 => ?_)
  · skip
    refine lv_aload_n hx hb dX5_findShown_14 rfl (lv_at hl 1 rfl) ?_
    refine va_get (D := G) (ci := 5) (v := .ref ((sh a 1) 0)) (C := RX5) (T := TX5) (N := 4) hx hb hts hi5 hown hK.1 hPv 0 rfl rfl 0 (by decide) (hts (.fieldLink RX5 21 "SpriteLines$View" "state" "LSpriteLines$State;") (by decide +kernel)) (fun _ h9 => h9) rfl dX5_findShown_15 ?_
    refine va_get (D := G) (ci := 4) (v := .int (zI (S 0 2))) (C := RX4) (T := TX4) (N := 9) hx hb hts hi4 hown hK.1 hPs 0 rfl rfl 1 (by decide) (hts (.fieldLink RX5 45 "SpriteLines$State" "limit" "I") (by decide +kernel)) (fun _ h9 => h9) rfl dX5_findShown_18 ?_
    refine lv_aload_n hx hb dX5_findShown_21 rfl (lv_at hl 1 rfl) ?_
    refine va_get (D := G) (ci := 5) (v := .ref ((sh a 9) 1)) (C := RX5) (T := TX5) (N := 4) hx hb hts hi5 hown hK.1 hPv 0 rfl rfl 1 (by decide) (hts (.fieldLink RX5 9 "SpriteLines$View" "inTurn" "[I") (by decide +kernel)) (fun _ h9 => h9) rfl dX5_findShown_22 ?_
    refine z_alen hx hb hK.1 hPv 1 0 rfl rfl dX5_findShown_25 ?_
    refine z_topi (b := 20) rfl ?_
    refine va_mmin hx hb (by rw [hml]; exact hl.1.symm) hown (hts (.methodLink RX5 48 Lib.Math.min.name) (by decide +kernel)) (hts (.static Lib.Math.min.name) (by decide +kernel)) (hts (.initialized "java/lang/Math") (by decide +kernel)) (hts (.code Lib.Math.min.name Lib.Math.min.code 2 (some .int)) (by decide +kernel)) (Nat.le_of_ble_eq_true rfl) (Nat.le_of_ble_eq_true rfl) (Nat.le_of_ble_eq_true rfl) (Nat.le_of_ble_eq_true rfl) dX5_findShown_26 ?_
    refine z_top (v' := .int (zI (S 0 2))) (congrArg Value.int ((z_min (by omega) (by omega)).trans (congrArg zI (if_neg (by omega))))) ?_
    refine lv_istore (lv' := [(4, .int (zI (S 0 2))), (3, .int (zI (S 0 1))), (0, .ref ((sh a 9) 0)), (1, .int (zI q)), (2, .int (zI fr))]) hx hb dX5_findShown_29 hl (by decide) rfl (fun ls hl => ?_)
    refine lv_iload_n hx hb dX5_findShown_31 rfl (lv_at hl 4 rfl) ?_
    refine lv_aload_n hx hb dX5_findShown_32 rfl (lv_at hl 2 rfl) ?_
    refine va_get (D := G) (ci := 5) (v := .ref ((sh a 1) 0)) (C := RX5) (T := TX5) (N := 4) hx hb hts hi5 hown hK.1 hPv 0 rfl rfl 0 (by decide) (hts (.fieldLink RX5 21 "SpriteLines$View" "state" "LSpriteLines$State;") (by decide +kernel)) (fun _ h9 => h9) rfl dX5_findShown_33 ?_
    refine va_get (D := G) (ci := 4) (v := .int (zI (S 0 3))) (C := RX4) (T := TX4) (N := 9) hx hb hts hi4 hown hK.1 hPs 0 rfl rfl 2 (by decide) (hts (.fieldLink RX5 51 "SpriteLines$State" "stride" "I") (by decide +kernel)) (fun _ h9 => h9) rfl dX5_findShown_36 ?_
    refine z_imul hx hb dX5_findShown_39 ?_
    refine lv_iload_n hx hb dX5_findShown_40 rfl (lv_at hl 1 rfl) ?_
    refine z_irem hx hb dX5_findShown_41 (prod_r hfr w3) (by omega) ?_
    refine z_topi (b := firstT S fr) rfl ?_
    refine lv_istore (lv' := [(5, .int (zI (firstT S fr))), (4, .int (zI (S 0 2))), (3, .int (zI (S 0 1))), (0, .ref ((sh a 9) 0)), (1, .int (zI q)), (2, .int (zI fr))]) hx hb dX5_findShown_42 hl (by decide) rfl (fun ls hl => ?_)
    refine z_iconst (n := 0) hx hb dX5_findShown_44 ?_
    refine lv_istore (lv' := [(6, .int (zI 0)), (5, .int (zI (firstT S fr))), (4, .int (zI (S 0 2))), (3, .int (zI (S 0 1))), (0, .ref ((sh a 9) 0)), (1, .int (zI q)), (2, .int (zI fr))]) hx hb dX5_findShown_45 hl (by decide) rfl (fun ls hl => ?_)
    refine z_iconst (n := 0) hx hb dX5_findShown_47 ?_
    refine lv_istore (lv' := [(7, .int (zI 0)), (6, .int (zI 0)), (5, .int (zI (firstT S fr))), (4, .int (zI (S 0 2))), (3, .int (zI (S 0 1))), (0, .ref ((sh a 9) 0)), (1, .int (zI q)), (2, .int (zI fr))]) hx hb dX5_findShown_48 hl (by decide) rfl (fun ls hl => ?_)
    -- loop 50
    refine z_loopH (nL := 9) (fun ((i, F) : Int × (Int → Int)) => [(0, .ref ((sh a 9) 0)), (1, .int (zI q)), (3, .int (zI (S 0 1))), (4, .int (zI (S 0 2))), (5, .int (zI (firstT S fr))), (6, .int (zI (cntI (gT S q fr) i))), (7, .int (zI i))]) (fun ((i, F) : Int × (Int → Int)) (H : Heap) => (((0 ≤ i ∧ i ≤ S 0 1) ∧ cntI (gT S q fr) i ≤ S 0 2) ∧ ∀ u, 0 ≤ u → u < i → gT S q fr u = true → F (cntI (gT S q fr) u) = atT S fr u) ∧ va_P G vwCl (stW cs (sh a 1) S) H ∧ va_P G vwCl (viW cs (sh a 9) ((sh a 1) 0) (aI F) f2 f3) H) (fun ((i, F) : Int × (Int → Int)) => (S 0 1 - i).toNat) (0, F1) ⟨⟨⟨by omega, by rw [cntI_0]; omega⟩, fun u h1 h2 => by omega⟩, hPs, hPv⟩ hS (lv_sub hl [5, 6, 4, 3, 2, 1, 0] rfl) (fun x_ H locs hIH hS ih ls hl => ?_)
    obtain ⟨i, F⟩ := x_
    obtain ⟨hI, hPs, hPv⟩ := hIH
    have hI : ((0 ≤ i ∧ i ≤ S 0 1) ∧ cntI (gT S q fr) i ≤ S 0 2) ∧ ∀ u, 0 ≤ u → u < i → gT S q fr u = true → F (cntI (gT S q fr) u) = atT S fr u := hI
    have hPs : va_P G vwCl (stW cs (sh a 1) S) H := hPs
    have hPv : va_P G vwCl (viW cs (sh a 9) ((sh a 1) 0) (aI F) f2 f3) H := hPv
    have hl : lv_has ls 9 [(0, .ref ((sh a 9) 0)), (1, .int (zI q)), (3, .int (zI (S 0 1))), (4, .int (zI (S 0 2))), (5, .int (zI (firstT S fr))), (6, .int (zI (cntI (gT S q fr) i))), (7, .int (zI i))] := hl
    obtain ⟨hI, hJ⟩ := hI
    have hc := cntI_r (gT S q fr) hI.1.1
    have hf := firstT_r (S := S) (fr := fr) (by omega)
    have hat := atT_r (S := S) (fr := fr) i (by omega)
    refine lv_iload hx hb dX5_findShown_50 (lv_at hl 6 rfl) ?_
    refine lv_iload_n hx hb dX5_findShown_52 rfl (lv_at hl 2 rfl) ?_
    refine z_icmp_ge (tgt := 103) hx hb dX5_findShown_53 (by decide) (by omega) (by omega) (fun c2 => ?_) (fun c2 => ?_)
    · skip
      refine lv_iload hx hb dX5_findShown_103 (lv_at hl 5 rfl) ?_
      exact w_iret hx hb hr hlk dX5_findShown_105 hS ⟨F, congrArg (fun z => Value.int (zI z)) (by unfold nSh; rw [show S 0 1 = i by omega]; split <;> omega), (fun u h1 h2 h3 h4 => hJ u h1 (by omega) h3), hPv⟩
    · skip
      refine lv_iload hx hb dX5_findShown_56 (lv_at hl 5 rfl) ?_
      refine lv_iload hx hb dX5_findShown_58 (lv_at hl 3 rfl) ?_
      refine z_icmp_ge (tgt := 103) hx hb dX5_findShown_60 (by decide) (by omega) (by omega) (fun c3 => ?_) (fun c3 => ?_)
      · skip
        refine lv_iload hx hb dX5_findShown_103 (lv_at hl 5 rfl) ?_
        exact w_iret hx hb hr hlk dX5_findShown_105 hS ⟨F, congrArg (fun z => Value.int (zI z)) (by have h8 := cntI_mono (gT S q fr) (show i ≤ S 0 1 by omega); unfold nSh; rw [if_neg (by omega)]; omega), (fun u h1 h2 h3 h4 => hJ u h1 (by rcases Int.lt_or_le u i with h7 | h7; exact h7; have h8 := cntI_mono (gT S q fr) h7; omega) h3), hPv⟩
      · skip
        refine lv_iload hx hb dX5_findShown_63 (lv_at hl 4 rfl) ?_
        refine lv_iload hx hb dX5_findShown_65 (lv_at hl 6 rfl) ?_
        refine z_iadd hx hb dX5_findShown_67 ?_
        refine lv_iload_n hx hb dX5_findShown_68 rfl (lv_at hl 2 rfl) ?_
        refine z_irem hx hb dX5_findShown_69 (by omega) (by omega) ?_
        refine z_topi (b := atT S fr i) rfl ?_
        refine lv_istore (lv' := [(8, .int (zI (atT S fr i))), (0, .ref ((sh a 9) 0)), (1, .int (zI q)), (3, .int (zI (S 0 1))), (4, .int (zI (S 0 2))), (5, .int (zI (firstT S fr))), (6, .int (zI (cntI (gT S q fr) i))), (7, .int (zI i))]) hx hb dX5_findShown_70 hl (by decide) rfl (fun ls hl => ?_)
        refine lv_aload_n hx hb dX5_findShown_72 rfl (lv_at hl 1 rfl) ?_
        refine va_get (D := G) (ci := 5) (v := .ref ((sh a 1) 0)) (C := RX5) (T := TX5) (N := 4) hx hb hts hi5 hown hK.1 hPv 0 rfl rfl 0 (by decide) (hts (.fieldLink RX5 21 "SpriteLines$View" "state" "LSpriteLines$State;") (by decide +kernel)) (fun _ h9 => h9) rfl dX5_findShown_73 ?_
        refine lv_iload hx hb dX5_findShown_76 (lv_at hl 0 rfl) ?_
        refine lv_iload_n hx hb dX5_findShown_78 rfl (lv_at hl 2 rfl) ?_
        refine z_ro (zrV (As := [.int (zI (atT S fr i)), .int (zI q)]) (rest := []) ⟨hx, hb, hml, hown, hts⟩ (c_X4_isOnAndCovers l G cs (sh a 1) S (atT S fr i) q wf0 (by omega) (by omega)) gX5_findShown_X4_isOnAndCovers rfl qX4_isOnAndCovers rfl rfl ⟨Nat.le_of_ble_eq_true rfl, Nat.le_of_ble_eq_true rfl⟩ hPs hK (va_recv hK.1 hPs (ci := 4) (q0 := 0) rfl rfl) hl.1 rfl (Nat.le_of_ble_eq_true rfl) dX5_findShown_79 ⟨Nat.le_of_ble_eq_true rfl, Nat.le_of_ble_eq_true rfl⟩) ?_
        refine z_bif_eq (tgt := 97) hx hb dX5_findShown_82 (by decide) (fun c2 => ?_) (fun c2 => ?_)
        · skip
          refine z_iinc (k := 7) (lv' := [(7, .int (zI (i + 1))), (8, .int (zI (atT S fr i))), (0, .ref ((sh a 9) 0)), (1, .int (zI q)), (3, .int (zI (S 0 1))), (4, .int (zI (S 0 2))), (5, .int (zI (firstT S fr))), (6, .int (zI (cntI (gT S q fr) i)))]) hx hb dX5_findShown_97 hl rfl (by decide) rfl (fun ls hl => ?_)
          refine lv_goto (tgt := 50) hx hb dX5_findShown_100 (by decide) ?_
          exact ih (i + 1, F) H locs ⟨⟨⟨by omega, by rw [cntI_f hI.1.1 c2]; omega⟩, fun u h1 h2 h3 => by
      by_cases e : u = i
      · subst e; exact absurd (h3.symm.trans c2) (by decide)
      · exact hJ u h1 (by omega) h3⟩, hPs, hPv⟩ hS (by show (S 0 1 - (i + 1)).toNat < (S 0 1 - i).toNat; omega) ls (by show lv_has ls 9 [(0, .ref ((sh a 9) 0)), (1, .int (zI q)), (3, .int (zI (S 0 1))), (4, .int (zI (S 0 2))), (5, .int (zI (firstT S fr))), (6, .int (zI (cntI (gT S q fr) (i + 1)))), (7, .int (zI (i + 1)))]; rw [cntI_f hI.1.1 c2]; exact lv_sub hl [2, 3, 4, 5, 6, 7, 0] rfl)
        · skip
          refine lv_aload_n hx hb dX5_findShown_85 rfl (lv_at hl 1 rfl) ?_
          refine va_get (D := G) (ci := 5) (v := .ref ((sh a 9) 1)) (C := RX5) (T := TX5) (N := 4) hx hb hts hi5 hown hK.1 hPv 0 rfl rfl 1 (by decide) (hts (.fieldLink RX5 9 "SpriteLines$View" "inTurn" "[I") (by decide +kernel)) (fun _ h9 => h9) rfl dX5_findShown_86 ?_
          refine lv_iload hx hb dX5_findShown_89 (lv_at hl 6 rfl) ?_
          refine lv_iload hx hb dX5_findShown_91 (lv_at hl 0 rfl) ?_
          refine z_iast hx hb hK.1 hPv (Ord.D (ordVi cs (sh a 9) ((sh a 1) 0) (aI F) f2 f3) (inj_sh (w := 4) ia (by decide))) hS 1 0 (F := F) rfl rfl (by omega) (by decide) ⟨10, by decide, by decide, rfl⟩ dX5_findShown_93 (fun H locs hP1 hle hk hS => ?_)
          have hPs := keepO (ordSt cs (sh a 1) S) hPs hk (fun j hj h3 => absurd (ia (1 + j) 10 (by omega) (by omega) h3) (by omega))
          have hPv : va_P G vwCl (viW cs (sh a 9) ((sh a 1) 0) (aI (updZ F (cntI (gT S q fr) i) (atT S fr i))) f2 f3) H := hP1
          refine z_iinc (k := 6) (lv' := [(6, .int (zI ((cntI (gT S q fr) i) + 1))), (8, .int (zI (atT S fr i))), (0, .ref ((sh a 9) 0)), (1, .int (zI q)), (3, .int (zI (S 0 1))), (4, .int (zI (S 0 2))), (5, .int (zI (firstT S fr))), (7, .int (zI i))]) hx hb dX5_findShown_94 hl rfl (by decide) rfl (fun ls hl => ?_)
          refine z_iinc (k := 7) (lv' := [(7, .int (zI (i + 1))), (6, .int (zI ((cntI (gT S q fr) i) + 1))), (8, .int (zI (atT S fr i))), (0, .ref ((sh a 9) 0)), (1, .int (zI q)), (3, .int (zI (S 0 1))), (4, .int (zI (S 0 2))), (5, .int (zI (firstT S fr)))]) hx hb dX5_findShown_97 hl rfl (by decide) rfl (fun ls hl => ?_)
          refine lv_goto (tgt := 50) hx hb dX5_findShown_100 (by decide) ?_
          exact ih (i + 1, updZ F (cntI (gT S q fr) i) (atT S fr i)) H locs ⟨⟨⟨by omega, by rw [cntI_t hI.1.1 c2]; omega⟩, fun u h1 h2 h3 => by
      by_cases e : u = i
      · subst e; exact updZ_s
      · have h9 := cntI_lt (f := gT S q fr) h1 (show u < i by omega) h3
        rw [updZ_n (by omega)]
        exact hJ u h1 (by omega) h3⟩, hPs, hPv⟩ hS (by show (S 0 1 - (i + 1)).toNat < (S 0 1 - i).toNat; omega) ls (by show lv_has ls 9 [(0, .ref ((sh a 9) 0)), (1, .int (zI q)), (3, .int (zI (S 0 1))), (4, .int (zI (S 0 2))), (5, .int (zI (firstT S fr))), (6, .int (zI (cntI (gT S q fr) (i + 1)))), (7, .int (zI (i + 1)))]; rw [cntI_t hI.1.1 c2]; exact lv_sub hl [3, 4, 5, 6, 7, 1, 0] rfl)
  · skip
    refine z_iconst (n := 0) hx hb dX5_findShown_12 ?_
    exact w_iret hx hb hr hlk dX5_findShown_13 hS ⟨F1, congrArg (fun z => Value.int (zI z)) (nSh_0 (by omega) w2.1).symm, fun u h1 h2 => by omega, hPv⟩

set_option maxHeartbeats 4000000 in
set_option maxRecDepth 100000 in
theorem c_X5_shownAt (l : Launch) (G : va_G) (cs : Nat → ClassId) (a : Nat → Nat) (S : SS) (F1 : Int → Int) (f2 f3 : Nat → Int32) (q t : Int) (ia : Inj a 62) (wf : WF S) (hq : 0 ≤ q ∧ q < 32) (ht : 0 ≤ t ∧ t < 2147483648) : MW l yX5_shownAt wsX5_shownAt { frames := 3, cells := 0, slots := 0, locals := 74 } G cs [.ref ((sh a 9) 0), .int (zI q), .int (zI t)] (fun H => va_P G vwCl (stW cs (sh a 1) S) H ∧ va_P G vwCl (viW cs (sh a 9) ((sh a 1) 0) (aI F1) f2 f3) H) (fun v H => ∃ F, v = .int (zI (shAt S q (S 0 4) t)) ∧ va_P G vwCl (viW cs (sh a 9) ((sh a 1) 0) (aI F) f2 f3) H) (AX a 10 11) 0 0 := by
  refine m_intro (Pw := (fun H => va_P G vwCl (stW cs (sh a 1) S) H ∧ va_P G vwCl (viW cs (sh a 9) ((sh a 1) 0) (aI F1) f2 f3) H)) (cc := cX5_shownAt) (maxL := 4) (ret := some .int) RX5 (by decide) rfl rfl (Nat.le_of_ble_eq_true rfl) ?_
  intro pP eE sS mM below meth cC hx hb hr hts hown hml hlk hnm hPre hK ls hl
  have hl : lv_has ls 4 [(0, .ref ((sh a 9) 0)), (1, .int (zI q)), (2, .int (zI t))] := hl
  obtain ⟨hPs, hPv⟩ := hPre
  have hS : va_S (AX a 10 11) sS.heap sS.heap [] := va_S.rf
  have hi4 : ∀ w ∈ u_ws RX4 TX4 9, w ∈ wsX5_shownAt := by decide +kernel
  have hi5 : ∀ w ∈ u_ws RX5 TX5 4, w ∈ wsX5_shownAt := by decide +kernel
  have wf0 := wf
  obtain ⟨w0, w1, w2, w3, w4, wP, wC, wS, wX⟩ := wf
  have hns := nSh_r (q := q) (fr := S 0 4) w1.1 (by omega)
  refine lv_aload_n hx hb dX5_shownAt_0 rfl (lv_at hl 0 rfl) ?_
  refine lv_iload_n hx hb dX5_shownAt_1 rfl (lv_at hl 1 rfl) ?_
  refine lv_aload_n hx hb dX5_shownAt_2 rfl (lv_at hl 0 rfl) ?_
  refine va_get (D := G) (ci := 5) (v := .ref ((sh a 1) 0)) (C := RX5) (T := TX5) (N := 4) hx hb hts hi5 hown hK.1 hPv 0 rfl rfl 0 (by decide) (hts (.fieldLink RX5 21 "SpriteLines$View" "state" "LSpriteLines$State;") (by decide +kernel)) (fun _ h9 => h9) rfl dX5_shownAt_3 ?_
  refine va_get (D := G) (ci := 4) (v := .int (zI (S 0 4))) (C := RX4) (T := TX4) (N := 9) hx hb hts hi4 hown hK.1 hPs 0 rfl rfl 0 (by decide) (hts (.fieldLink RX5 54 "SpriteLines$State" "frame" "I") (by decide +kernel)) (fun _ h9 => h9) rfl dX5_shownAt_6 ?_
  refine z_w (zrV (As := [.int (zI q), .int (zI (S 0 4))]) (rest := []) (Pw := fun H => va_P G vwCl (stW cs (sh a 1) S) H ∧ va_P G vwCl (viW cs (sh a 9) ((sh a 1) 0) (aI F1) f2 f3) H) ⟨hx, hb, hml, hown, hts⟩ (c_X5_findShown l G cs a S F1 f2 f3 q (S 0 4) ia wf0 (by omega) (by omega)) gX5_shownAt_X5_findShown rfl qX5_findShown rfl rfl ⟨Nat.le_of_ble_eq_true rfl, Nat.le_of_ble_eq_true rfl⟩ ⟨hPs, hPv⟩ hK (va_recv hK.1 hPv (ci := 5) (q0 := 0) rfl rfl) hl.1 rfl (Nat.le_of_ble_eq_true rfl) dX5_shownAt_9 ⟨Nat.le_of_ble_eq_true rfl, Nat.le_of_ble_eq_true rfl⟩) hS (fun q h => ax_mono h (by decide) (by decide)) (fun q h => ax_mono h (by decide) (by decide)) (fun v H locs hpost hle hk hS => ?_)
  obtain ⟨F, rfl, hT, hPv'⟩ := hpost
  have hPs := keepO (ordSt cs (sh a 1) S) hPs hk (fun j hj ⟨i, h1, h2, h3⟩ => absurd (ia (1 + j) i (by omega) (by omega) h3) (by omega))
  have hPv : va_P G vwCl (viW cs (sh a 9) ((sh a 1) 0) (aI F) f2 f3) H := hPv'
  refine lv_istore_n (lv' := [(3, .int (zI (nSh S q (S 0 4)))), (0, .ref ((sh a 9) 0)), (1, .int (zI q)), (2, .int (zI t))]) hx hb dX5_shownAt_12 rfl hl (by decide) rfl (fun ls hl => ?_)
  refine lv_iload_n hx hb dX5_shownAt_13 rfl (lv_at hl 3 rfl) ?_
  refine z_if_lt (tgt := 40) hx hb dX5_shownAt_14 (by decide) (by omega) (fun c1 => ?_) (fun c1 => ?_)
  · skip
    exfalso; omega
  · skip
    refine lv_iload_n hx hb dX5_shownAt_17 rfl (lv_at hl 3 rfl) ?_
    refine lv_iload_n hx hb dX5_shownAt_18 rfl (lv_at hl 0 rfl) ?_
    refine z_icmp_ge (tgt := 40) hx hb dX5_shownAt_19 (by decide) (by omega) (by omega) (fun c1 => ?_) (fun c1 => ?_)
    · skip
      refine z_bipush (n := -5) hx hb dX5_shownAt_40 (by decide) ?_
      exact w_iret hx hb hr hlk dX5_shownAt_42 hS ⟨F, congrArg (fun z => Value.int (zI z)) (shAt_out w1.1 ht.1 (by omega)).symm, hPv⟩
    · skip
      refine lv_iload_n hx hb dX5_shownAt_22 rfl (lv_at hl 3 rfl) ?_
      refine lv_aload_n hx hb dX5_shownAt_23 rfl (lv_at hl 1 rfl) ?_
      refine va_get (D := G) (ci := 5) (v := .ref ((sh a 9) 1)) (C := RX5) (T := TX5) (N := 4) hx hb hts hi5 hown hK.1 hPv 0 rfl rfl 1 (by decide) (hts (.fieldLink RX5 9 "SpriteLines$View" "inTurn" "[I") (by decide +kernel)) (fun _ h9 => h9) rfl dX5_shownAt_24 ?_
      refine z_alen hx hb hK.1 hPv 1 0 rfl rfl dX5_shownAt_27 ?_
      refine z_topi (b := 20) rfl ?_
      refine z_icmp_ge (tgt := 40) hx hb dX5_shownAt_28 (by decide) (by omega) (by omega) (fun c2 => ?_) (fun c2 => ?_)
      · skip
        exfalso; omega
      · skip
        refine lv_aload_n hx hb dX5_shownAt_31 rfl (lv_at hl 1 rfl) ?_
        refine va_get (D := G) (ci := 5) (v := .ref ((sh a 9) 1)) (C := RX5) (T := TX5) (N := 4) hx hb hts hi5 hown hK.1 hPv 0 rfl rfl 1 (by decide) (hts (.fieldLink RX5 9 "SpriteLines$View" "inTurn" "[I") (by decide +kernel)) (fun _ h9 => h9) rfl dX5_shownAt_32 ?_
        refine lv_iload_n hx hb dX5_shownAt_35 rfl (lv_at hl 3 rfl) ?_
        refine z_iald hx hb hK.1 hPv 1 0 (F := F) rfl rfl (by omega) (by decide) dX5_shownAt_36 ?_
        refine lv_goto (tgt := 42) hx hb dX5_shownAt_37 (by decide) ?_
        exact w_iret hx hb hr hlk dX5_shownAt_42 hS ⟨F, congrArg (fun z => Value.int (zI z)) (shAt_in hT w1.1 (by omega)), hPv⟩

set_option maxHeartbeats 4000000 in
set_option maxRecDepth 100000 in
theorem c_X5_shownSet (l : Launch) (G : va_G) (cs : Nat → ClassId) (a : Nat → Nat) (S : SS) (F1 : Int → Int) (f2 f3 : Nat → Int32) (q fr : Int) (ia : Inj a 62) (wf : WF S) (hq : 0 ≤ q ∧ q < 32) (hfr : 0 ≤ fr ∧ fr ≤ 1000020) : MW l yX5_shownSet wsX5_shownSet { frames := 3, cells := 0, slots := 0, locals := 74 } G cs [.ref ((sh a 9) 0), .int (zI q), .int (zI fr)] (fun H => va_P G vwCl (stW cs (sh a 1) S) H ∧ va_P G vwCl (viW cs (sh a 9) ((sh a 1) 0) (aI F1) f2 f3) H) (fun v H => ∃ F, v = .int (iB (fun k => decide ((k : Int) < S 0 1) && shownB S q fr k)) ∧ va_P G vwCl (viW cs (sh a 9) ((sh a 1) 0) (aI F) f2 f3) H) (AX a 10 11) 0 0 := by
  refine m_intro (Pw := (fun H => va_P G vwCl (stW cs (sh a 1) S) H ∧ va_P G vwCl (viW cs (sh a 9) ((sh a 1) 0) (aI F1) f2 f3) H)) (cc := cX5_shownSet) (maxL := 6) (ret := some .int) RX5 (by decide) rfl rfl (Nat.le_of_ble_eq_true rfl) ?_
  intro pP eE sS mM below meth cC hx hb hr hts hown hml hlk hnm hPre hK ls hl
  have hl : lv_has ls 6 [(0, .ref ((sh a 9) 0)), (1, .int (zI q)), (2, .int (zI fr))] := hl
  obtain ⟨hPs, hPv⟩ := hPre
  have hS : va_S (AX a 10 11) sS.heap sS.heap [] := va_S.rf
  have hi5 : ∀ w ∈ u_ws RX5 TX5 4, w ∈ wsX5_shownSet := by decide +kernel
  have wf0 := wf
  obtain ⟨w0, w1, w2, w3, w4, wP, wC, wS, wX⟩ := wf
  have hns := nSh_r (q := q) (fr := fr) w1.1 (by omega)
  refine lv_aload_n hx hb dX5_shownSet_0 rfl (lv_at hl 0 rfl) ?_
  refine lv_iload_n hx hb dX5_shownSet_1 rfl (lv_at hl 1 rfl) ?_
  refine lv_iload_n hx hb dX5_shownSet_2 rfl (lv_at hl 2 rfl) ?_
  refine z_w (zrV (As := [.int (zI q), .int (zI fr)]) (rest := []) (Pw := fun H => va_P G vwCl (stW cs (sh a 1) S) H ∧ va_P G vwCl (viW cs (sh a 9) ((sh a 1) 0) (aI F1) f2 f3) H) ⟨hx, hb, hml, hown, hts⟩ (c_X5_findShown l G cs a S F1 f2 f3 q fr ia wf0 (by omega) (by omega)) gX5_shownSet_X5_findShown rfl qX5_findShown rfl rfl ⟨Nat.le_of_ble_eq_true rfl, Nat.le_of_ble_eq_true rfl⟩ ⟨hPs, hPv⟩ hK (va_recv hK.1 hPv (ci := 5) (q0 := 0) rfl rfl) hl.1 rfl (Nat.le_of_ble_eq_true rfl) dX5_shownSet_3 ⟨Nat.le_of_ble_eq_true rfl, Nat.le_of_ble_eq_true rfl⟩) hS (fun q h => ax_mono h (by decide) (by decide)) (fun q h => ax_mono h (by decide) (by decide)) (fun v H locs hpost hle hk hS => ?_)
  obtain ⟨F, rfl, hT, hPv'⟩ := hpost
  have hPs := keepO (ordSt cs (sh a 1) S) hPs hk (fun j hj ⟨i, h1, h2, h3⟩ => absurd (ia (1 + j) i (by omega) (by omega) h3) (by omega))
  have hPv : va_P G vwCl (viW cs (sh a 9) ((sh a 1) 0) (aI F) f2 f3) H := hPv'
  refine lv_istore_n (lv' := [(3, .int (zI (nSh S q fr))), (0, .ref ((sh a 9) 0)), (1, .int (zI q)), (2, .int (zI fr))]) hx hb dX5_shownSet_6 rfl hl (by decide) rfl (fun ls hl => ?_)
  refine z_iconst (n := 0) hx hb dX5_shownSet_7 ?_
  refine z_top (v' := .int (iB (fun k => anyN (fun j => decide (F j = (k : Int))) (0 : Int).toNat))) (congrArg Value.int iB_0) ?_
  refine lv_istore (lv' := [(4, .int (iB (fun k => anyN (fun j => decide (F j = (k : Int))) (0 : Int).toNat))), (3, .int (zI (nSh S q fr))), (0, .ref ((sh a 9) 0)), (1, .int (zI q)), (2, .int (zI fr))]) hx hb dX5_shownSet_8 hl (by decide) rfl (fun ls hl => ?_)
  refine z_iconst (n := 0) hx hb dX5_shownSet_10 ?_
  refine lv_istore (lv' := [(5, .int (zI 0)), (4, .int (iB (fun k => anyN (fun j => decide (F j = (k : Int))) (0 : Int).toNat))), (3, .int (zI (nSh S q fr))), (0, .ref ((sh a 9) 0)), (1, .int (zI q)), (2, .int (zI fr))]) hx hb dX5_shownSet_11 hl (by decide) rfl (fun ls hl => ?_)
  -- loop 13
  refine z_loop (nL := 6) (fun (i : Int) => [(0, .ref ((sh a 9) 0)), (3, .int (zI (nSh S q fr))), (4, .int (iB (fun k => anyN (fun j => decide (F j = (k : Int))) i.toNat))), (5, .int (zI i))]) (fun (i : Int) => 0 ≤ i ∧ i ≤ nSh S q fr) (fun (i : Int) => (nSh S q fr - i).toNat) 0 (by omega) (lv_sub hl [3, 2, 1, 0] rfl) (fun i hI ih ls hl => ?_)
  have hl : lv_has ls 6 [(0, .ref ((sh a 9) 0)), (3, .int (zI (nSh S q fr))), (4, .int (iB (fun k => anyN (fun j => decide (F j = (k : Int))) i.toNat))), (5, .int (zI i))] := hl
  refine lv_iload hx hb dX5_shownSet_13 (lv_at hl 3 rfl) ?_
  refine lv_iload_n hx hb dX5_shownSet_15 rfl (lv_at hl 1 rfl) ?_
  refine z_icmp_ge (tgt := 49) hx hb dX5_shownSet_16 (by decide) (by omega) (by omega) (fun c1 => ?_) (fun c1 => ?_)
  · skip
    refine lv_iload hx hb dX5_shownSet_49 (lv_at hl 2 rfl) ?_
    exact w_Iret hx hb hr hlk dX5_shownSet_51 hS ⟨F, congrArg Value.int (iB_congr (fun k _ => by rw [show i = nSh S q fr by omega]; exact set_bits hT w1.1 k)), hPv⟩
  · skip
    refine lv_iload hx hb dX5_shownSet_19 (lv_at hl 3 rfl) ?_
    refine lv_aload_n hx hb dX5_shownSet_21 rfl (lv_at hl 0 rfl) ?_
    refine va_get (D := G) (ci := 5) (v := .ref ((sh a 9) 1)) (C := RX5) (T := TX5) (N := 4) hx hb hts hi5 hown hK.1 hPv 0 rfl rfl 1 (by decide) (hts (.fieldLink RX5 9 "SpriteLines$View" "inTurn" "[I") (by decide +kernel)) (fun _ h9 => h9) rfl dX5_shownSet_22 ?_
    refine z_alen hx hb hK.1 hPv 1 0 rfl rfl dX5_shownSet_25 ?_
    refine z_topi (b := 20) rfl ?_
    refine z_icmp_ge (tgt := 49) hx hb dX5_shownSet_26 (by decide) (by omega) (by omega) (fun c2 => ?_) (fun c2 => ?_)
    · skip
      exfalso; omega
    · skip
      refine lv_iload hx hb dX5_shownSet_29 (lv_at hl 2 rfl) ?_
      refine z_iconst (n := 1) hx hb dX5_shownSet_31 ?_
      refine z_top (v' := .int (iB (fun k => decide (k = 0)))) (congrArg Value.int zI_1b) ?_
      refine lv_aload_n hx hb dX5_shownSet_32 rfl (lv_at hl 0 rfl) ?_
      refine va_get (D := G) (ci := 5) (v := .ref ((sh a 9) 1)) (C := RX5) (T := TX5) (N := 4) hx hb hts hi5 hown hK.1 hPv 0 rfl rfl 1 (by decide) (hts (.fieldLink RX5 9 "SpriteLines$View" "inTurn" "[I") (by decide +kernel)) (fun _ h9 => h9) rfl dX5_shownSet_33 ?_
      refine lv_iload hx hb dX5_shownSet_36 (lv_at hl 3 rfl) ?_
      have hFi := inT_r hT w1.1 (k := i) (by omega)
      refine z_iald hx hb hK.1 hPv 1 0 (F := F) rfl rfl (by omega) (by decide) dX5_shownSet_38 ?_
      refine z_topi (b := F i) rfl ?_
      refine z_ishlB hx hb dX5_shownSet_39 (by omega) ?_
      refine z_iorB hx hb dX5_shownSet_40 ?_
      refine z_top (v' := .int (iB (fun k => anyN (fun j => decide (F j = (k : Int))) (i + 1).toNat))) (congrArg Value.int (iB_congr (fun k _ => set_step hI.1 hFi.1))) ?_
      refine lv_istore (lv' := [(4, .int (iB (fun k => anyN (fun j => decide (F j = (k : Int))) (i + 1).toNat))), (0, .ref ((sh a 9) 0)), (3, .int (zI (nSh S q fr))), (5, .int (zI i))]) hx hb dX5_shownSet_41 hl (by decide) rfl (fun ls hl => ?_)
      refine z_iinc (k := 3) (lv' := [(5, .int (zI (i + 1))), (4, .int (iB (fun k => anyN (fun j => decide (F j = (k : Int))) (i + 1).toNat))), (0, .ref ((sh a 9) 0)), (3, .int (zI (nSh S q fr)))]) hx hb dX5_shownSet_43 hl rfl (by decide) rfl (fun ls hl => ?_)
      refine lv_goto (tgt := 13) hx hb dX5_shownSet_46 (by decide) ?_
      exact ih (i + 1) (by omega) (by omega) ls (lv_sub hl [2, 3, 1, 0] rfl)
