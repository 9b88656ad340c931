/-! Packing. -/
theorem lowA_r (S : SS) {q : Int} (hq : 0 ≤ q) : 0 ≤ lowA S q ∧ lowA S q ≤ q := by
  unfold lowA
  rcases ff_cases (fun j => alikeB S q j) 0 q.toNat with ⟨j, h1, h2, -, -, h5⟩ | ⟨-, h⟩
  · rw [h5]
    split <;> omega
  · rw [h, if_pos rfl]
    omega
def stayF (S : SS) (rm : Int) (q : Int) : Bool := if rm = 0 then decide (lowA S q = q) else anyN (fun x => decide (lowA S (S 1 (6 * x + 0)) = q)) (S 0 1).toNat
theorem stay_step {S : SS} {R : Int → Int} {i q : Int} (hi : 0 ≤ i) (h : R q = b2 (anyN (fun x => decide (lowA S (S 1 (6 * x + 0)) = q)) i.toNat)) : updZ R (lowA S (S 1 (6 * i + 0))) 1 q = b2 (anyN (fun x => decide (lowA S (S 1 (6 * x + 0)) = q)) (i + 1).toNat) := by
  obtain ⟨n, rfl⟩ := Int.eq_ofNat_of_zero_le hi
  rw [show ((n : Int) + 1).toNat = n + 1 by omega, anyN]
  by_cases e : q = lowA S (S 1 (6 * (n : Int) + 0))
  · rw [e, updZ_s]
    simp [b2]
  · have e2 : decide (lowA S (S 1 (6 * (n : Int) + 0)) = q) = false := decide_eq_false (fun h9 => e h9.symm)
    rw [updZ_n e, h, e2, Bool.or_false]
    rfl
/-- the sprites' properties, the first i of them united and numbered anew -/
def P1 (S : SS) (f : Int → Bool) (i : Int) : Int → Int := fun k =>
  if 0 ≤ k ∧ k / 6 < i then
    (if k % 6 = 0 then cntI f (lowA S (S 1 (6 * (k / 6) + 0)))
     else if k % 6 = 1 ∧ lowA S (S 1 (6 * (k / 6) + 0)) ≠ S 1 (6 * (k / 6) + 0) then wayF S (S 1 (6 * (k / 6) + 0)) (S 1 (6 * (k / 6) + 1)) (lowA S (S 1 (6 * (k / 6) + 0)))
     else S 1 k)
  else S 1 k
theorem P1_0 (S : SS) (f : Int → Bool) : P1 S f 0 = S 1 := by
  funext k
  unfold P1
  rw [if_neg (by omega)]
theorem up2_id {S : SS} {g : Nat} : up2 S g (S g) = S := by
  funext k
  unfold up2
  by_cases h : k = g
  · rw [if_pos h, h]
  · rw [if_neg h]
theorem P1_at (S : SS) (f : Int → Bool) {x k : Int} (h : 6 * x ≤ k) (_ : 0 ≤ 0 + (0 : Int)) : (up2 S 1 (P1 S f x)) 1 k = S 1 k := by
  rw [up2_s]
  unfold P1
  rw [if_neg (by omega)]
theorem wayF_up1 (S : SS) (F : Int → Int) (p w q : Int) : wayF (up2 S 1 F) p w q = wayF S p w q := by
  have e : (up2 S 1 F) 5 = S 5 := up2_n (by decide)
  unfold wayF sameP pixW
  rw [e]
theorem P1_sn (S : SS) (f : Int → Bool) {x : Int} (h0 : 0 ≤ x) (h1 : x < S 0 1) (hne : lowA S (S 1 (6 * x + 0)) ≠ S 1 (6 * x + 0)) : P1 S f (x + 1) = updZ (updZ (P1 S f x) (6 * x + 1) (wayF S (S 1 (6 * x + 0)) (S 1 (6 * x + 1)) (lowA S (S 1 (6 * x + 0))))) (6 * x + 0) (cntI f (lowA S (S 1 (6 * x + 0)))) := by
  funext k
  by_cases ek : k / 6 = x
  · by_cases e0 : k = 6 * x + 0
    · subst e0
      rw [updZ_s]
      unfold P1
      rw [if_pos (by omega), if_pos (by omega), ek]
    · rw [updZ_n e0]
      by_cases e1 : k = 6 * x + 1
      · subst e1
        rw [updZ_s]
        unfold P1
        rw [if_pos (by omega), if_neg (by omega), ek, if_pos ⟨by omega, hne⟩]
      · rw [updZ_n e1]
        unfold P1
        rw [if_pos (by omega), if_neg (by omega), if_neg (by omega), if_neg (by omega)]
  · rw [updZ_n (by omega), updZ_n (by omega)]
    unfold P1
    by_cases h : 0 ≤ k ∧ k / 6 < x
    · rw [if_pos (by omega), if_pos h]
    · rw [if_neg (by omega), if_neg h]
theorem P1_se (S : SS) (f : Int → Bool) {x : Int} (h0 : 0 ≤ x) (h1 : x < S 0 1) (he : lowA S (S 1 (6 * x + 0)) = S 1 (6 * x + 0)) : P1 S f (x + 1) = updZ (P1 S f x) (6 * x + 0) (cntI f (lowA S (S 1 (6 * x + 0)))) := by
  funext k
  by_cases ek : k / 6 = x
  · by_cases e0 : k = 6 * x + 0
    · subst e0
      rw [updZ_s]
      unfold P1
      rw [if_pos (by omega), if_pos (by omega), ek]
    · rw [updZ_n e0]
      unfold P1
      rw [if_pos (by omega), if_neg (by omega), ek, if_neg (fun h => h.2 he), if_neg (by omega)]
  · rw [updZ_n (by omega)]
    unfold P1
    by_cases h : 0 ≤ k ∧ k / 6 < x
    · rw [if_pos (by omega), if_pos h]
    · rw [if_neg (by omega), if_neg h]
/-- the planes of the parts that stay, moved down, of the first n parts -/
def pkX (X : Int → Int) (f : Int → Bool) : Nat → Int → Int
  | 0 => X
  | n + 1 => if f n then putRw (pkX X f n) (cntI f n) 64 (bL (pkX X f n) n) (bH (pkX X f n) n) else pkX X f n
theorem pkX_t (X : Int → Int) {f : Int → Bool} {i : Int} (h : 0 ≤ i) (c : f i = true) : pkX X f (i + 1).toNat = putRw (pkX X f i.toNat) (cntI f i) 64 (bL (pkX X f i.toNat) i) (bH (pkX X f i.toNat) i) := by
  obtain ⟨n, rfl⟩ := Int.eq_ofNat_of_zero_le h
  rw [show ((n : Int) + 1).toNat = n + 1 by omega, pkX, if_pos c]
  rfl
theorem pkX_f (X : Int → Int) {f : Int → Bool} {i : Int} (h : 0 ≤ i) (c : f i = false) : pkX X f (i + 1).toNat = pkX X f i.toNat := by
  obtain ⟨n, rfl⟩ := Int.eq_ofNat_of_zero_le h
  rw [show ((n : Int) + 1).toNat = n + 1 by omega, pkX, if_neg (by rw [c]; decide)]
  rfl
def packS (S : SS) (f : Int → Bool) : SS := up2 (up2 (up2 S 1 (P1 S f (S 0 1))) 5 (pkX (S 5) f (S 0 0).toNat)) 0 (updZ (S 0) 0 (cntI f (S 0 0)))
set_option maxHeartbeats 4000000 in
set_option maxRecDepth 100000 in
theorem c_X1_partsInReach (l : Launch) (G : va_G) (cs : Nat → ClassId) (a : Nat → Nat) (S : SS) (U Q N : Int → Int) (h00 : 0 ≤ S 0 0 ∧ S 0 0 ≤ 24) : MRO l yX1_partsInReach wsX1_partsInReach { frames := 1, cells := 0, slots := 0, locals := 40 } G cs [.ref ((sh a 13) 0)] (fun H => va_P G vwCl (stW cs (sh a 1) S) H ∧ va_P G vwCl (pkW cs (sh a 13) ((sh a 1) 0) (aI U) (aI Q) (aI N)) H) (.int (zI (S 0 0))) := by
  refine m_intro (Pw := (fun H => va_P G vwCl (stW cs (sh a 1) S) H ∧ va_P G vwCl (pkW cs (sh a 13) ((sh a 1) 0) (aI U) (aI Q) (aI N)) H)) (cc := cX1_partsInReach) (maxL := 1) (ret := some .int) RX1 (by decide) rfl rfl (Nat.le_of_ble_eq_true rfl) ?_
  intro pP eE sS mM below meth cC hx hb hr hts hown hml hlk hnm hPre hK ls hl
  have hl : lv_has ls 1 [(0, .ref ((sh a 13) 0))] := hl
  obtain ⟨hPs, hKp⟩ := hPre
  have hi1 : ∀ w ∈ u_ws RX1 TX1 4, w ∈ wsX1_partsInReach := by decide +kernel
  have hi3 : ∀ w ∈ u_ws RX3 TX3 3, w ∈ wsX1_partsInReach := by decide +kernel
  have hi4 : ∀ w ∈ u_ws RX4 TX4 9, w ∈ wsX1_partsInReach := by decide +kernel
  refine lv_aload_n hx hb dX1_partsInReach_0 rfl (lv_at hl 0 rfl) ?_
  refine va_get (D := G) (ci := 1) (v := .ref ((sh a 1) 0)) (C := RX1) (T := TX1) (N := 4) hx hb hts hi1 hown hK.1 hKp 0 rfl rfl 0 (by decide) (hts (.fieldLink RX1 22 "SpriteLines$Packing" "state" "LSpriteLines$State;") (by decide +kernel)) (fun _ h9 => h9) rfl dX1_partsInReach_1 ?_
  refine va_get (D := G) (ci := 4) (v := .ref ((sh a 1) 1)) (C := RX4) (T := TX4) (N := 9) hx hb hts hi4 hown hK.1 hPs 0 rfl rfl 4 (by decide) (hts (.fieldLink RX1 30 "SpriteLines$State" "sheet" "LSpriteLines$Sheet;") (by decide +kernel)) (fun _ h9 => h9) rfl dX1_partsInReach_4 ?_
  refine va_get (D := G) (ci := 3) (v := .int (zI (S 0 0))) (C := RX3) (T := TX3) (N := 3) hx hb hts hi3 hown hK.1 hPs 1 rfl rfl 0 (by decide) (hts (.fieldLink RX1 67 "SpriteLines$Sheet" "parts" "I") (by decide +kernel)) (fun _ h9 => h9) rfl dX1_partsInReach_7 ?_
  refine z_bipush (n := 24) hx hb dX1_partsInReach_10 (by decide) ?_
  refine va_mmin hx hb (by rw [hml]; exact hl.1.symm) hown (hts (.methodLink RX1 70 Lib.Math.min.name) (by decide +kernel)) (hts (.static Lib.Math.min.name) (by decide +kernel)) (hts (.initialized "java/lang/Math") (by decide +kernel)) (hts (.code Lib.Math.min.name Lib.Math.min.code 2 (some .int)) (by decide +kernel)) (Nat.le_of_ble_eq_true rfl) (Nat.le_of_ble_eq_true rfl) (Nat.le_of_ble_eq_true rfl) (Nat.le_of_ble_eq_true rfl) dX1_partsInReach_12 ?_
  refine z_top (v' := .int (zI (S 0 0))) (congrArg Value.int ((z_min (by omega) (by omega)).trans (congrArg zI (if_neg (by omega))))) ?_
  exact ro_iret hx hb hr hlk dX1_partsInReach_15 rfl

set_option maxHeartbeats 4000000 in
set_option maxRecDepth 100000 in
theorem c_X1_unitedOf (l : Launch) (G : va_G) (cs : Nat → ClassId) (a : Nat → Nat) (U Q N : Int → Int) (q : Int) (hq : 0 ≤ q ∧ q < 24) : MRO l yX1_unitedOf wsX1_unitedOf { frames := 0, cells := 0, slots := 0, locals := 0 } G cs [.ref ((sh a 13) 0), .int (zI q)] (fun H => va_P G vwCl (pkW cs (sh a 13) ((sh a 1) 0) (aI U) (aI Q) (aI N)) H) (.int (zI (U q))) := by
  refine m_intro (Pw := (fun H => va_P G vwCl (pkW cs (sh a 13) ((sh a 1) 0) (aI U) (aI Q) (aI N)) H)) (cc := cX1_unitedOf) (maxL := 2) (ret := some .int) RX1 (by decide) rfl rfl (Nat.le_of_ble_eq_true rfl) ?_
  intro pP eE sS mM below meth cC hx hb hr hts hown hml hlk hnm hPre hK ls hl
  have hl : lv_has ls 2 [(0, .ref ((sh a 13) 0)), (1, .int (zI q))] := hl
  have hKp := hPre
  have hi1 : ∀ w ∈ u_ws RX1 TX1 4, w ∈ wsX1_unitedOf := by decide +kernel
  refine lv_iload_n hx hb dX1_unitedOf_0 rfl (lv_at hl 1 rfl) ?_
  refine z_if_lt (tgt := 22) hx hb dX1_unitedOf_1 (by decide) (by omega) (fun c1 => ?_) (fun c1 => ?_)
  · skip
    exfalso; omega
  · skip
    refine lv_iload_n hx hb dX1_unitedOf_4 rfl (lv_at hl 1 rfl) ?_
    refine lv_aload_n hx hb dX1_unitedOf_5 rfl (lv_at hl 0 rfl) ?_
    refine va_get (D := G) (ci := 1) (v := .ref ((sh a 13) 1)) (C := RX1) (T := TX1) (N := 4) hx hb hts hi1 hown hK.1 hKp 0 rfl rfl 1 (by decide) (hts (.fieldLink RX1 9 "SpriteLines$Packing" "united" "[I") (by decide +kernel)) (fun _ h9 => h9) rfl dX1_unitedOf_6 ?_
    refine z_alen hx hb hK.1 hKp 1 0 rfl rfl dX1_unitedOf_9 ?_
    refine z_topi (b := 24) rfl ?_
    refine z_icmp_ge (tgt := 22) hx hb dX1_unitedOf_10 (by decide) (by omega) (by omega) (fun c2 => ?_) (fun c2 => ?_)
    · skip
      exfalso; omega
    · skip
      refine lv_aload_n hx hb dX1_unitedOf_13 rfl (lv_at hl 0 rfl) ?_
      refine va_get (D := G) (ci := 1) (v := .ref ((sh a 13) 1)) (C := RX1) (T := TX1) (N := 4) hx hb hts hi1 hown hK.1 hKp 0 rfl rfl 1 (by decide) (hts (.fieldLink RX1 9 "SpriteLines$Packing" "united" "[I") (by decide +kernel)) (fun _ h9 => h9) rfl dX1_unitedOf_14 ?_
      refine lv_iload_n hx hb dX1_unitedOf_17 rfl (lv_at hl 1 rfl) ?_
      refine z_iald hx hb hK.1 hKp 1 0 (F := U) rfl rfl (by omega) (by decide) dX1_unitedOf_18 ?_
      refine lv_goto (tgt := 23) hx hb dX1_unitedOf_19 (by decide) ?_
      exact ro_iret hx hb hr hlk dX1_unitedOf_23 rfl

set_option maxHeartbeats 4000000 in
set_option maxRecDepth 100000 in
theorem c_X1_letStayWhatIsShown (l : Launch) (G : va_G) (cs : Nat → ClassId) (a : Nat → Nat) (S : SS) (U Q N : Int → Int) (ia : Inj a 62) (wf : WF S) (hU : ∀ q, 0 ≤ q → q < S 0 0 → U q = lowA S q) (hQ : ∀ q, 0 ≤ q → q < S 0 0 → Q q = 0) : MV l yX1_letStayWhatIsShown wsX1_letStayWhatIsShown { frames := 1, cells := 0, slots := 0, locals := 23 } G cs [.ref ((sh a 13) 0)] (fun H => va_P G vwCl (stW cs (sh a 1) S) H ∧ va_P G vwCl (pkW cs (sh a 13) ((sh a 1) 0) (aI U) (aI Q) (aI N)) H) (fun H => ∃ Q2, (∀ q, 0 ≤ q → q < S 0 0 → Q2 q = b2 (anyN (fun x => decide (lowA S (S 1 (6 * x + 0)) = q)) (S 0 1).toNat)) ∧ va_P G vwCl (pkW cs (sh a 13) ((sh a 1) 0) (aI U) (aI Q2) (aI N)) H) (AX a 15 16) 0 0 := by
  refine m_intro (Pw := (fun H => va_P G vwCl (stW cs (sh a 1) S) H ∧ va_P G vwCl (pkW cs (sh a 13) ((sh a 1) 0) (aI U) (aI Q) (aI N)) H)) (cc := cX1_letStayWhatIsShown) (maxL := 3) (ret := none) RX1 (by decide) rfl rfl (Nat.le_of_ble_eq_true rfl) ?_
  intro pP eE sS mM below meth cC hx hb hr hts hown hml hlk hnm hPre hK ls hl
  have hl : lv_has ls 3 [(0, .ref ((sh a 13) 0))] := hl
  obtain ⟨hPs, hKp⟩ := hPre
  have hS : va_S (AX a 15 16) sS.heap sS.heap [] := va_S.rf
  have hi1 : ∀ w ∈ u_ws RX1 TX1 4, w ∈ wsX1_letStayWhatIsShown := by decide +kernel
  have hi4 : ∀ w ∈ u_ws RX4 TX4 9, w ∈ wsX1_letStayWhatIsShown := by decide +kernel
  have wf0 := wf
  obtain ⟨w0, w1, w2, w3, w4, wP, wC, wS, wX⟩ := wf
  refine z_iconst (n := 0) hx hb dX1_letStayWhatIsShown_0 ?_
  refine lv_istore_n (lv' := [(1, .int (zI 0)), (0, .ref ((sh a 13) 0))]) hx hb dX1_letStayWhatIsShown_1 rfl hl (by decide) rfl (fun ls hl => ?_)
  -- loop 2
  refine z_loopH (nL := 3) (fun ((i, R) : Int × (Int → Int)) => [(0, .ref ((sh a 13) 0)), (1, .int (zI i))]) (fun ((i, R) : Int × (Int → Int)) (H : Heap) => ((0 ≤ i ∧ i ≤ S 0 1) ∧ ∀ q, 0 ≤ q → q < S 0 0 → R q = b2 (anyN (fun x => decide (lowA S (S 1 (6 * x + 0)) = q)) i.toNat)) ∧ va_P G vwCl (stW cs (sh a 1) S) H ∧ va_P G vwCl (pkW cs (sh a 13) ((sh a 1) 0) (aI U) (aI R) (aI N)) H) (fun ((i, R) : Int × (Int → Int)) => (S 0 1 - i).toNat) (0, Q) ⟨⟨by omega, fun q h1 h2 => hQ q h1 h2⟩, hPs, hKp⟩ hS (lv_sub hl [1, 0] rfl) (fun x_ H locs hIH hS ih ls hl => ?_)
  obtain ⟨i, R⟩ := x_
  obtain ⟨hI, hPs, hKp⟩ := hIH
  have hI : (0 ≤ i ∧ i ≤ S 0 1) ∧ ∀ q, 0 ≤ q → q < S 0 0 → R q = b2 (anyN (fun x => decide (lowA S (S 1 (6 * x + 0)) = q)) i.toNat) := hI
  have hPs : va_P G vwCl (stW cs (sh a 1) S) H := hPs
  have hKp : va_P G vwCl (pkW cs (sh a 13) ((sh a 1) 0) (aI U) (aI R) (aI N)) H := hKp
  have hl : lv_has ls 3 [(0, .ref ((sh a 13) 0)), (1, .int (zI i))] := hl
  obtain ⟨hI, hJ⟩ := hI
  refine lv_iload_n hx hb dX1_letStayWhatIsShown_2 rfl (lv_at hl 1 rfl) ?_
  refine lv_aload_n hx hb dX1_letStayWhatIsShown_3 rfl (lv_at hl 0 rfl) ?_
  refine va_get (D := G) (ci := 1) (v := .ref ((sh a 1) 0)) (C := RX1) (T := TX1) (N := 4) hx hb hts hi1 hown hK.1 hKp 0 rfl rfl 0 (by decide) (hts (.fieldLink RX1 22 "SpriteLines$Packing" "state" "LSpriteLines$State;") (by decide +kernel)) (fun _ h9 => h9) rfl dX1_letStayWhatIsShown_4 ?_
  refine va_get (D := G) (ci := 4) (v := .int (zI (S 0 1))) (C := RX4) (T := TX4) (N := 9) hx hb hts hi4 hown hK.1 hPs 0 rfl rfl 3 (by decide) (hts (.fieldLink RX1 48 "SpriteLines$State" "sprites" "I") (by decide +kernel)) (fun _ h9 => h9) rfl dX1_letStayWhatIsShown_7 ?_
  refine z_icmp_ge (tgt := 53) hx hb dX1_letStayWhatIsShown_10 (by decide) (by omega) (by omega) (fun c1 => ?_) (fun c1 => ?_)
  · skip
    exact v_ret hx hb hr hlk dX1_letStayWhatIsShown_53 hS ⟨R, by rw [show i = S 0 1 by omega] at hJ; exact hJ, hKp⟩
  · skip
    refine lv_aload_n hx hb dX1_letStayWhatIsShown_13 rfl (lv_at hl 0 rfl) ?_
    refine lv_aload_n hx hb dX1_letStayWhatIsShown_14 rfl (lv_at hl 0 rfl) ?_
    refine va_get (D := G) (ci := 1) (v := .ref ((sh a 1) 0)) (C := RX1) (T := TX1) (N := 4) hx hb hts hi1 hown hK.1 hKp 0 rfl rfl 0 (by decide) (hts (.fieldLink RX1 22 "SpriteLines$Packing" "state" "LSpriteLines$State;") (by decide +kernel)) (fun _ h9 => h9) rfl dX1_letStayWhatIsShown_15 ?_
    refine lv_iload_n hx hb dX1_letStayWhatIsShown_18 rfl (lv_at hl 1 rfl) ?_
    refine z_iconst (n := 0) hx hb dX1_letStayWhatIsShown_19 ?_
    have q1 := wP i hI.1 (by omega)
    have q2 := lowA_r S (q := S 1 (6 * i + 0)) (by omega)
    refine z_ro (zrV (As := [.int (zI i), .int (zI 0)]) (rest := [.ref ((sh a 13) 0)]) ⟨hx, hb, hml, hown, hts⟩ (c_X4_property l G cs (sh a 1) S i 0 (by omega) (by omega)) gX1_letStayWhatIsShown_X4_property rfl qX4_property rfl rfl ⟨Nat.le_of_ble_eq_true rfl, Nat.le_of_ble_eq_true rfl⟩ hPs hK (va_recv hK.1 hPs (ci := 4) (q0 := 0) rfl rfl) hl.1 rfl (Nat.le_of_ble_eq_true rfl) dX1_letStayWhatIsShown_20 ⟨Nat.le_of_ble_eq_true rfl, Nat.le_of_ble_eq_true rfl⟩) ?_
    refine z_ro (zrV (As := [.int (zI (S 1 (6 * i + 0)))]) (rest := []) ⟨hx, hb, hml, hown, hts⟩ (c_X1_unitedOf l G cs a U R N (S 1 (6 * i + 0)) (by omega)) gX1_letStayWhatIsShown_X1_unitedOf rfl qX1_unitedOf rfl rfl ⟨Nat.le_of_ble_eq_true rfl, Nat.le_of_ble_eq_true rfl⟩ hKp hK (va_recv hK.1 hKp (ci := 1) (q0 := 0) rfl rfl) hl.1 rfl (Nat.le_of_ble_eq_true rfl) dX1_letStayWhatIsShown_23 ⟨Nat.le_of_ble_eq_true rfl, Nat.le_of_ble_eq_true rfl⟩) ?_
    refine z_topi (b := lowA S (S 1 (6 * i + 0))) (hU _ (by omega) (by omega)) ?_
    refine lv_istore_n (lv' := [(2, .int (zI (lowA S (S 1 (6 * i + 0))))), (0, .ref ((sh a 13) 0)), (1, .int (zI i))]) hx hb dX1_letStayWhatIsShown_26 rfl hl (by decide) rfl (fun ls hl => ?_)
    refine lv_iload_n hx hb dX1_letStayWhatIsShown_27 rfl (lv_at hl 0 rfl) ?_
    refine z_if_lt (tgt := 47) hx hb dX1_letStayWhatIsShown_28 (by decide) (by omega) (fun c2 => ?_) (fun c2 => ?_)
    · skip
      exfalso; omega
    · skip
      refine lv_iload_n hx hb dX1_letStayWhatIsShown_31 rfl (lv_at hl 0 rfl) ?_
      refine lv_aload_n hx hb dX1_letStayWhatIsShown_32 rfl (lv_at hl 1 rfl) ?_
      refine va_get (D := G) (ci := 1) (v := .ref ((sh a 13) 2)) (C := RX1) (T := TX1) (N := 4) hx hb hts hi1 hown hK.1 hKp 0 rfl rfl 2 (by decide) (hts (.fieldLink RX1 15 "SpriteLines$Packing" "stays" "[Z") (by decide +kernel)) (fun _ h9 => h9) rfl dX1_letStayWhatIsShown_33 ?_
      refine z_alen hx hb hK.1 hKp 2 2 rfl rfl dX1_letStayWhatIsShown_36 ?_
      refine z_topi (b := 24) rfl ?_
      refine z_icmp_ge (tgt := 47) hx hb dX1_letStayWhatIsShown_37 (by decide) (by omega) (by omega) (fun c3 => ?_) (fun c3 => ?_)
      · skip
        exfalso; omega
      · skip
        refine lv_aload_n hx hb dX1_letStayWhatIsShown_40 rfl (lv_at hl 1 rfl) ?_
        refine va_get (D := G) (ci := 1) (v := .ref ((sh a 13) 2)) (C := RX1) (T := TX1) (N := 4) hx hb hts hi1 hown hK.1 hKp 0 rfl rfl 2 (by decide) (hts (.fieldLink RX1 15 "SpriteLines$Packing" "stays" "[Z") (by decide +kernel)) (fun _ h9 => h9) rfl dX1_letStayWhatIsShown_41 ?_
        refine lv_iload_n hx hb dX1_letStayWhatIsShown_44 rfl (lv_at hl 0 rfl) ?_
        refine z_iconst (n := 1) hx hb dX1_letStayWhatIsShown_45 ?_
        refine z_zast hx hb hK.1 hKp (Ord.D (ordPk cs (sh a 13) ((sh a 1) 0) (aI U) (aI R) (aI N)) (inj_sh (w := 4) ia (by decide))) hS 2 2 (F := R) rfl rfl (by omega) (by decide) (by omega) ⟨15, by decide, by decide, rfl⟩ dX1_letStayWhatIsShown_46 (fun H locs hP1 hle hk hS => ?_)
        have hPs := keepO (ordSt cs (sh a 1) S) hPs hk (fun j hj h3 => absurd (ia (1 + j) 15 (by omega) (by omega) h3) (by omega))
        have hKp : va_P G vwCl (pkW cs (sh a 13) ((sh a 1) 0) (aI U) (aI (updZ R (lowA S (S 1 (6 * i + 0))) 1)) (aI N)) H := hP1
        refine z_iinc (k := 2) (lv' := [(1, .int (zI (i + 1))), (2, .int (zI (lowA S (S 1 (6 * i + 0))))), (0, .ref ((sh a 13) 0))]) hx hb dX1_letStayWhatIsShown_47 hl rfl (by decide) rfl (fun ls hl => ?_)
        refine lv_goto (tgt := 2) hx hb dX1_letStayWhatIsShown_50 (by decide) ?_
        exact ih (i + 1, updZ R (lowA S (S 1 (6 * i + 0))) 1) H locs ⟨⟨by omega, fun q h1 h2 => stay_step hI.1 (hJ q h1 h2)⟩, hPs, hKp⟩ hS (by show (S 0 1 - (i + 1)).toNat < (S 0 1 - i).toNat; omega) ls (lv_sub hl [2, 0] rfl)

set_option maxHeartbeats 4000000 in
set_option maxRecDepth 100000 in
theorem c_X1_numberAnew (l : Launch) (G : va_G) (cs : Nat → ClassId) (a : Nat → Nat) (S : SS) (U Q N : Int → Int) (f : Int → Bool) (ia : Inj a 62) (wf : WF S) (hQ : ∀ q, 0 ≤ q → q < S 0 0 → Q q = b2 (f q)) : MW l yX1_numberAnew wsX1_numberAnew { frames := 2, cells := 0, slots := 0, locals := 60 } G cs [.ref ((sh a 13) 0)] (fun H => va_P G vwCl (stW cs (sh a 1) S) H ∧ va_P G vwCl (pkW cs (sh a 13) ((sh a 1) 0) (aI U) (aI Q) (aI N)) H) (fun v H => ∃ N2, v = .int (zI (cntI f (S 0 0))) ∧ (∀ q, 0 ≤ q → q < S 0 0 → N2 q = cntI f q) ∧ va_P G vwCl (pkW cs (sh a 13) ((sh a 1) 0) (aI U) (aI Q) (aI N2)) H) (AX a 16 17) 0 0 := by
  refine m_intro (Pw := (fun H => va_P G vwCl (stW cs (sh a 1) S) H ∧ va_P G vwCl (pkW cs (sh a 13) ((sh a 1) 0) (aI U) (aI Q) (aI N)) H)) (cc := cX1_numberAnew) (maxL := 4) (ret := some .int) RX1 (by decide) rfl rfl (Nat.le_of_ble_eq_true rfl) ?_
  intro pP eE sS mM below meth cC hx hb hr hts hown hml hlk hnm hPre hK ls hl
  have hl : lv_has ls 4 [(0, .ref ((sh a 13) 0))] := hl
  obtain ⟨hPs, hKp⟩ := hPre
  have hS : va_S (AX a 16 17) sS.heap sS.heap [] := va_S.rf
  have hi1 : ∀ w ∈ u_ws RX1 TX1 4, w ∈ wsX1_numberAnew := by decide +kernel
  have wf0 := wf
  obtain ⟨w0, w1, w2, w3, w4, wP, wC, wS, wX⟩ := wf
  refine lv_aload_n hx hb dX1_numberAnew_0 rfl (lv_at hl 0 rfl) ?_
  refine z_ro (zrV (As := []) (rest := []) (Pw := fun H => va_P G vwCl (stW cs (sh a 1) S) H ∧ va_P G vwCl (pkW cs (sh a 13) ((sh a 1) 0) (aI U) (aI Q) (aI N)) H) ⟨hx, hb, hml, hown, hts⟩ (c_X1_partsInReach l G cs a S U Q N w0) gX1_numberAnew_X1_partsInReach rfl qX1_partsInReach rfl rfl ⟨Nat.le_of_ble_eq_true rfl, Nat.le_of_ble_eq_true rfl⟩ ⟨hPs, hKp⟩ hK (va_recv hK.1 hKp (ci := 1) (q0 := 0) rfl rfl) hl.1 rfl (Nat.le_of_ble_eq_true rfl) dX1_numberAnew_1 ⟨Nat.le_of_ble_eq_true rfl, Nat.le_of_ble_eq_true rfl⟩) ?_
  refine lv_istore_n (lv' := [(1, .int (zI (S 0 0))), (0, .ref ((sh a 13) 0))]) hx hb dX1_numberAnew_4 rfl hl (by decide) rfl (fun ls hl => ?_)
  refine z_iconst (n := 0) hx hb dX1_numberAnew_5 ?_
  refine lv_istore_n (lv' := [(2, .int (zI 0)), (1, .int (zI (S 0 0))), (0, .ref ((sh a 13) 0))]) hx hb dX1_numberAnew_6 rfl hl (by decide) rfl (fun ls hl => ?_)
  refine z_iconst (n := 0) hx hb dX1_numberAnew_7 ?_
  refine lv_istore_n (lv' := [(3, .int (zI 0)), (2, .int (zI 0)), (1, .int (zI (S 0 0))), (0, .ref ((sh a 13) 0))]) hx hb dX1_numberAnew_8 rfl hl (by decide) rfl (fun ls hl => ?_)
  -- loop 9
  refine z_loopH (nL := 4) (fun ((i, R) : Int × (Int → Int)) => [(0, .ref ((sh a 13) 0)), (1, .int (zI (S 0 0))), (2, .int (zI (cntI f i))), (3, .int (zI i))]) (fun ((i, R) : Int × (Int → Int)) (H : Heap) => ((0 ≤ i ∧ i ≤ S 0 0) ∧ ∀ q, 0 ≤ q → q < i → R q = cntI f q) ∧ va_P G vwCl (stW cs (sh a 1) S) H ∧ va_P G vwCl (pkW cs (sh a 13) ((sh a 1) 0) (aI U) (aI Q) (aI R)) H) (fun ((i, R) : Int × (Int → Int)) => (S 0 0 - i).toNat) (0, N) ⟨⟨by omega, fun q h1 h2 => by omega⟩, hPs, hKp⟩ hS (lv_sub hl [3, 2, 1, 0] rfl) (fun x_ H locs hIH hS ih ls hl => ?_)
  obtain ⟨i, R⟩ := x_
  obtain ⟨hI, hPs, hKp⟩ := hIH
  have hI : (0 ≤ i ∧ i ≤ S 0 0) ∧ ∀ q, 0 ≤ q → q < i → R q = cntI f q := hI
  have hPs : va_P G vwCl (stW cs (sh a 1) S) H := hPs
  have hKp : va_P G vwCl (pkW cs (sh a 13) ((sh a 1) 0) (aI U) (aI Q) (aI R)) H := hKp
  have hl : lv_has ls 4 [(0, .ref ((sh a 13) 0)), (1, .int (zI (S 0 0))), (2, .int (zI (cntI f i))), (3, .int (zI i))] := hl
  obtain ⟨hI, hJ⟩ := hI
  have hc := cntI_r f hI.1
  refine lv_iload_n hx hb dX1_numberAnew_9 rfl (lv_at hl 3 rfl) ?_
  refine lv_iload_n hx hb dX1_numberAnew_10 rfl (lv_at hl 1 rfl) ?_
  refine z_icmp_ge (tgt := 39) hx hb dX1_numberAnew_11 (by decide) (by omega) (by omega) (fun c1 => ?_) (fun c1 => ?_)
  · skip
    refine lv_iload_n hx hb dX1_numberAnew_39 rfl (lv_at hl 2 rfl) ?_
    exact w_iret hx hb hr hlk dX1_numberAnew_40 hS ⟨R, by rw [show i = S 0 0 by omega], by rw [show i = S 0 0 by omega] at hJ; exact hJ, hKp⟩
  · skip
    refine lv_aload_n hx hb dX1_numberAnew_14 rfl (lv_at hl 0 rfl) ?_
    refine va_get (D := G) (ci := 1) (v := .ref ((sh a 13) 3)) (C := RX1) (T := TX1) (N := 4) hx hb hts hi1 hown hK.1 hKp 0 rfl rfl 3 (by decide) (hts (.fieldLink RX1 19 "SpriteLines$Packing" "newNumbers" "[I") (by decide +kernel)) (fun _ h9 => h9) rfl dX1_numberAnew_15 ?_
    refine lv_iload_n hx hb dX1_numberAnew_18 rfl (lv_at hl 3 rfl) ?_
    refine lv_iload_n hx hb dX1_numberAnew_19 rfl (lv_at hl 2 rfl) ?_
    refine z_iast hx hb hK.1 hKp (Ord.D (ordPk cs (sh a 13) ((sh a 1) 0) (aI U) (aI Q) (aI R)) (inj_sh (w := 4) ia (by decide))) hS 3 0 (F := R) rfl rfl (by omega) (by decide) ⟨16, by decide, by decide, rfl⟩ dX1_numberAnew_20 (fun H locs hP1 hle hk hS => ?_)
    have hPs := keepO (ordSt cs (sh a 1) S) hPs hk (fun j hj h3 => absurd (ia (1 + j) 16 (by omega) (by omega) h3) (by omega))
    have hKp : va_P G vwCl (pkW cs (sh a 13) ((sh a 1) 0) (aI U) (aI Q) (aI (updZ R i (cntI f i)))) H := hP1
    refine lv_aload_n hx hb dX1_numberAnew_21 rfl (lv_at hl 0 rfl) ?_
    refine va_get (D := G) (ci := 1) (v := .ref ((sh a 13) 2)) (C := RX1) (T := TX1) (N := 4) hx hb hts hi1 hown hK.1 hKp 0 rfl rfl 2 (by decide) (hts (.fieldLink RX1 15 "SpriteLines$Packing" "stays" "[Z") (by decide +kernel)) (fun _ h9 => h9) rfl dX1_numberAnew_22 ?_
    refine lv_iload_n hx hb dX1_numberAnew_25 rfl (lv_at hl 3 rfl) ?_
    refine z_zald hx hb hK.1 hKp 2 2 (F := Q) rfl rfl (by omega) (by decide) dX1_numberAnew_26 ?_
    refine z_top (v' := .int (zI (b2 (f i)))) (congrArg (fun z => Value.int (zI z)) (hQ i hI.1 (by omega))) ?_
    refine z_bif_eq (tgt := 33) hx hb dX1_numberAnew_27 (by decide) (fun c3 => ?_) (fun c3 => ?_)
    · skip
      refine z_iinc (k := 3) (lv' := [(3, .int (zI (i + 1))), (0, .ref ((sh a 13) 0)), (1, .int (zI (S 0 0))), (2, .int (zI (cntI f i)))]) hx hb dX1_numberAnew_33 hl rfl (by decide) rfl (fun ls hl => ?_)
      refine lv_goto (tgt := 9) hx hb dX1_numberAnew_36 (by decide) ?_
      exact ih (i + 1, updZ R i (cntI f i)) H locs ⟨⟨by omega, fun q h1 h2 => by
      by_cases e : q = i
      · rw [e, updZ_s]
      · rw [updZ_n e]; exact hJ q h1 (by omega)⟩, hPs, hKp⟩ hS (by show (S 0 0 - (i + 1)).toNat < (S 0 0 - i).toNat; omega) ls (by show lv_has ls 4 [(0, .ref ((sh a 13) 0)), (1, .int (zI (S 0 0))), (2, .int (zI (cntI f (i + 1)))), (3, .int (zI (i + 1)))]; rw [cntI_f hI.1 c3]; exact lv_sub hl [1, 2, 3, 0] rfl)
    · skip
      refine z_iinc (k := 2) (lv' := [(2, .int (zI ((cntI f i) + 1))), (0, .ref ((sh a 13) 0)), (1, .int (zI (S 0 0))), (3, .int (zI i))]) hx hb dX1_numberAnew_30 hl rfl (by decide) rfl (fun ls hl => ?_)
      refine z_iinc (k := 3) (lv' := [(3, .int (zI (i + 1))), (2, .int (zI ((cntI f i) + 1))), (0, .ref ((sh a 13) 0)), (1, .int (zI (S 0 0)))]) hx hb dX1_numberAnew_33 hl rfl (by decide) rfl (fun ls hl => ?_)
      refine lv_goto (tgt := 9) hx hb dX1_numberAnew_36 (by decide) ?_
      exact ih (i + 1, updZ R i (cntI f i)) H locs ⟨⟨by omega, fun q h1 h2 => by
      by_cases e : q = i
      · rw [e, updZ_s]
      · rw [updZ_n e]; exact hJ q h1 (by omega)⟩, hPs, hKp⟩ hS (by show (S 0 0 - (i + 1)).toNat < (S 0 0 - i).toNat; omega) ls (by show lv_has ls 4 [(0, .ref ((sh a 13) 0)), (1, .int (zI (S 0 0))), (2, .int (zI (cntI f (i + 1)))), (3, .int (zI (i + 1)))]; rw [cntI_t hI.1 c3]; exact lv_sub hl [2, 3, 1, 0] rfl)

set_option maxHeartbeats 4000000 in
set_option maxRecDepth 100000 in
theorem c_X1_plan (l : Launch) (G : va_G) (cs : Nat → ClassId) (a : Nat → Nat) (S : SS) (U Q N : Int → Int) (rm : Int) (ia : Inj a 62) (wf : WF S) (hrm : rm = 0 ∨ rm = 1) : MW l yX1_plan wsX1_plan { frames := 4, cells := 0, slots := 0, locals := 98 } G cs [.ref ((sh a 13) 0), .int (zI rm)] (fun H => va_P G vwCl (stW cs (sh a 1) S) H ∧ va_P G vwCl (pkW cs (sh a 13) ((sh a 1) 0) (aI U) (aI Q) (aI N)) H) (fun v H => ∃ U2 Q2 N2, v = .int (zI (S 0 0 - cntI (stayF S rm) (S 0 0))) ∧ (∀ q, 0 ≤ q → q < S 0 0 → U2 q = lowA S q) ∧ (∀ q, 0 ≤ q → q < S 0 0 → Q2 q = b2 (stayF S rm q)) ∧ (∀ q, 0 ≤ q → q < S 0 0 → N2 q = cntI (stayF S rm) q) ∧ va_P G vwCl (pkW cs (sh a 13) ((sh a 1) 0) (aI U2) (aI Q2) (aI N2)) H) (AX a 14 17) 0 0 := by
  refine m_intro (Pw := (fun H => va_P G vwCl (stW cs (sh a 1) S) H ∧ va_P G vwCl (pkW cs (sh a 13) ((sh a 1) 0) (aI U) (aI Q) (aI N)) H)) (cc := cX1_plan) (maxL := 4) (ret := some .int) RX1 (by decide) rfl rfl (Nat.le_of_ble_eq_true rfl) ?_
  intro pP eE sS mM below meth cC hx hb hr hts hown hml hlk hnm hPre hK ls hl
  have hl : lv_has ls 4 [(0, .ref ((sh a 13) 0)), (1, .int (zI rm))] := hl
  obtain ⟨hPs, hKp⟩ := hPre
  have hS : va_S (AX a 14 17) sS.heap sS.heap [] := va_S.rf
  have hi1 : ∀ w ∈ u_ws RX1 TX1 4, w ∈ wsX1_plan := by decide +kernel
  have hi4 : ∀ w ∈ u_ws RX4 TX4 9, w ∈ wsX1_plan := by decide +kernel
  have wf0 := wf
  obtain ⟨w0, w1, w2, w3, w4, wP, wC, wS, wX⟩ := wf
  refine lv_aload_n hx hb dX1_plan_0 rfl (lv_at hl 0 rfl) ?_
  refine z_ro (zrV (As := []) (rest := []) (Pw := fun H => va_P G vwCl (stW cs (sh a 1) S) H ∧ va_P G vwCl (pkW cs (sh a 13) ((sh a 1) 0) (aI U) (aI Q) (aI N)) H) ⟨hx, hb, hml, hown, hts⟩ (c_X1_partsInReach l G cs a S U Q N w0) gX1_plan_X1_partsInReach rfl qX1_partsInReach rfl rfl ⟨Nat.le_of_ble_eq_true rfl, Nat.le_of_ble_eq_true rfl⟩ ⟨hPs, hKp⟩ hK (va_recv hK.1 hKp (ci := 1) (q0 := 0) rfl rfl) hl.1 rfl (Nat.le_of_ble_eq_true rfl) dX1_plan_1 ⟨Nat.le_of_ble_eq_true rfl, Nat.le_of_ble_eq_true rfl⟩) ?_
  refine lv_istore_n (lv' := [(2, .int (zI (S 0 0))), (0, .ref ((sh a 13) 0)), (1, .int (zI rm))]) hx hb dX1_plan_4 rfl hl (by decide) rfl (fun ls hl => ?_)
  refine z_iconst (n := 0) hx hb dX1_plan_5 ?_
  refine lv_istore_n (lv' := [(3, .int (zI 0)), (2, .int (zI (S 0 0))), (0, .ref ((sh a 13) 0)), (1, .int (zI rm))]) hx hb dX1_plan_6 rfl hl (by decide) rfl (fun ls hl => ?_)
  -- loop 7
  refine z_loopH (nL := 4) (fun ((i, R1, R2) : Int × (Int → Int) × (Int → Int)) => [(0, .ref ((sh a 13) 0)), (1, .int (zI rm)), (2, .int (zI (S 0 0))), (3, .int (zI i))]) (fun ((i, R1, R2) : Int × (Int → Int) × (Int → Int)) (H : Heap) => (((0 ≤ i ∧ i ≤ S 0 0) ∧ ∀ q, 0 ≤ q → q < i → R1 q = lowA S q) ∧ ∀ q, 0 ≤ q → q < i → R2 q = b2 (decide (rm = 0 ∧ lowA S q = q))) ∧ va_P G vwCl (stW cs (sh a 1) S) H ∧ va_P G vwCl (pkW cs (sh a 13) ((sh a 1) 0) (aI R1) (aI R2) (aI N)) H) (fun ((i, R1, R2) : Int × (Int → Int) × (Int → Int)) => (S 0 0 - i).toNat) (0, U, Q) ⟨⟨⟨by omega, fun q h1 h2 => by omega⟩, fun q h1 h2 => by omega⟩, hPs, hKp⟩ hS (lv_sub hl [2, 3, 1, 0] rfl) (fun x_ H locs hIH hS ih ls hl => ?_)
  obtain ⟨i, R1, R2⟩ := x_
  obtain ⟨hI, hPs, hKp⟩ := hIH
  have hI : ((0 ≤ i ∧ i ≤ S 0 0) ∧ ∀ q, 0 ≤ q → q < i → R1 q = lowA S q) ∧ ∀ q, 0 ≤ q → q < i → R2 q = b2 (decide (rm = 0 ∧ lowA S q = q)) := hI
  have hPs : va_P G vwCl (stW cs (sh a 1) S) H := hPs
  have hKp : va_P G vwCl (pkW cs (sh a 13) ((sh a 1) 0) (aI R1) (aI R2) (aI N)) H := hKp
  have hl : lv_has ls 4 [(0, .ref ((sh a 13) 0)), (1, .int (zI rm)), (2, .int (zI (S 0 0))), (3, .int (zI i))] := hl
  obtain ⟨⟨hI, hJ1⟩, hJ2⟩ := hI
  have hlo := lowA_r S (q := i) hI.1
  refine lv_iload_n hx hb dX1_plan_7 rfl (lv_at hl 3 rfl) ?_
  refine lv_iload_n hx hb dX1_plan_8 rfl (lv_at hl 2 rfl) ?_
  refine z_icmp_ge (tgt := 60) hx hb dX1_plan_9 (by decide) (by omega) (by omega) (fun c1 => ?_) (fun c1 => ?_)
  · skip
    refine lv_iload_n hx hb dX1_plan_60 rfl (lv_at hl 1 rfl) ?_
    refine z_if_eq (tgt := 68) hx hb dX1_plan_61 (by decide) (by omega) (fun c2 => ?_) (fun c2 => ?_)
    · skip
      refine lv_iload_n hx hb dX1_plan_68 rfl (lv_at hl 2 rfl) ?_
      refine lv_aload_n hx hb dX1_plan_69 rfl (lv_at hl 0 rfl) ?_
      refine z_w (zrV (As := []) (rest := [.int (zI (S 0 0))]) (Pw := fun H => va_P G vwCl (stW cs (sh a 1) S) H ∧ va_P G vwCl (pkW cs (sh a 13) ((sh a 1) 0) (aI R1) (aI R2) (aI N)) H) ⟨hx, hb, hml, hown, hts⟩ (c_X1_numberAnew l G cs a S R1 R2 N (stayF S rm) ia wf0 (fun q h1 h2 => (hJ2 q h1 (by omega)).trans (by unfold stayF; rw [if_pos (by omega)]; exact congrArg b2 (decide_eq_decide.mpr (by omega))))) gX1_plan_X1_numberAnew rfl qX1_numberAnew rfl rfl ⟨Nat.le_of_ble_eq_true rfl, Nat.le_of_ble_eq_true rfl⟩ ⟨hPs, hKp⟩ hK (va_recv hK.1 hKp (ci := 1) (q0 := 0) rfl rfl) hl.1 rfl (Nat.le_of_ble_eq_true rfl) dX1_plan_70 ⟨Nat.le_of_ble_eq_true rfl, Nat.le_of_ble_eq_true rfl⟩) hS (fun q h => ax_mono h (by decide) (by decide)) (fun q h => ax_mono h (by decide) (by decide)) (fun v H locs hpost hle hk hS => ?_)
      obtain ⟨N2, rfl, hN2, hKp'⟩ := hpost
      have hPs := keepO (ordSt cs (sh a 1) S) hPs hk (fun j hj ⟨i, h1, h2, h3⟩ => absurd (ia (1 + j) i (by omega) (by omega) h3) (by omega))
      have hKp : va_P G vwCl (pkW cs (sh a 13) ((sh a 1) 0) (aI R1) (aI R2) (aI N2)) H := hKp'
      refine z_isub hx hb dX1_plan_73 ?_
      exact w_iret hx hb hr hlk dX1_plan_74 hS ⟨R1, R2, N2, rfl, fun q h1 h2 => hJ1 q h1 (by omega), fun q h1 h2 => (hJ2 q h1 (by omega)).trans (by unfold stayF; rw [if_pos (by omega)]; exact congrArg b2 (decide_eq_decide.mpr (by omega))), hN2, hKp⟩
    · skip
      refine lv_aload_n hx hb dX1_plan_64 rfl (lv_at hl 0 rfl) ?_
      refine z_v (zrV (As := []) (rest := []) (Pw := fun H => va_P G vwCl (stW cs (sh a 1) S) H ∧ va_P G vwCl (pkW cs (sh a 13) ((sh a 1) 0) (aI R1) (aI R2) (aI N)) H) ⟨hx, hb, hml, hown, hts⟩ (c_X1_letStayWhatIsShown l G cs a S R1 R2 N ia wf0 (fun q h1 h2 => hJ1 q h1 (by omega)) (fun q h1 h2 => (hJ2 q h1 (by omega)).trans (b2_f (by rw [decide_eq_false_iff_not]; omega)))) gX1_plan_X1_letStayWhatIsShown rfl qX1_letStayWhatIsShown rfl rfl ⟨Nat.le_of_ble_eq_true rfl, Nat.le_of_ble_eq_true rfl⟩ ⟨hPs, hKp⟩ hK (va_recv hK.1 hKp (ci := 1) (q0 := 0) rfl rfl) hl.1 rfl (Nat.le_of_ble_eq_true rfl) dX1_plan_65 ⟨Nat.le_of_ble_eq_true rfl, Nat.le_of_ble_eq_true rfl⟩) hS (fun q h => ax_mono h (by decide) (by decide)) (fun q h => ax_mono h (by decide) (by decide)) (fun H locs hpost hle hk hS => ?_)
      obtain ⟨Q2, hQ2, hKp'⟩ := hpost
      have hPs := keepO (ordSt cs (sh a 1) S) hPs hk (fun j hj ⟨i, h1, h2, h3⟩ => absurd (ia (1 + j) i (by omega) (by omega) h3) (by omega))
      have hKp : va_P G vwCl (pkW cs (sh a 13) ((sh a 1) 0) (aI R1) (aI Q2) (aI N)) H := hKp'
      have hst : ∀ q, 0 ≤ q → q < S 0 0 → Q2 q = b2 (stayF S rm q) := fun q h1 h2 => (hQ2 q h1 h2).trans (by unfold stayF; rw [if_neg (by omega)])
      refine lv_iload_n hx hb dX1_plan_68 rfl (lv_at hl 2 rfl) ?_
      refine lv_aload_n hx hb dX1_plan_69 rfl (lv_at hl 0 rfl) ?_
      refine z_w (zrV (As := []) (rest := [.int (zI (S 0 0))]) (Pw := fun H => va_P G vwCl (stW cs (sh a 1) S) H ∧ va_P G vwCl (pkW cs (sh a 13) ((sh a 1) 0) (aI R1) (aI Q2) (aI N)) H) ⟨hx, hb, hml, hown, hts⟩ (c_X1_numberAnew l G cs a S R1 Q2 N (stayF S rm) ia wf0 hst) gX1_plan_X1_numberAnew rfl qX1_numberAnew rfl rfl ⟨Nat.le_of_ble_eq_true rfl, Nat.le_of_ble_eq_true rfl⟩ ⟨hPs, hKp⟩ hK (va_recv hK.1 hKp (ci := 1) (q0 := 0) rfl rfl) hl.1 rfl (Nat.le_of_ble_eq_true rfl) dX1_plan_70 ⟨Nat.le_of_ble_eq_true rfl, Nat.le_of_ble_eq_true rfl⟩) hS (fun q h => ax_mono h (by decide) (by decide)) (fun q h => ax_mono h (by decide) (by decide)) (fun v H locs hpost hle hk hS => ?_)
      obtain ⟨N2, rfl, hN2, hKp'⟩ := hpost
      have hPs := keepO (ordSt cs (sh a 1) S) hPs hk (fun j hj ⟨i, h1, h2, h3⟩ => absurd (ia (1 + j) i (by omega) (by omega) h3) (by omega))
      have hKp : va_P G vwCl (pkW cs (sh a 13) ((sh a 1) 0) (aI R1) (aI Q2) (aI N2)) H := hKp'
      refine z_isub hx hb dX1_plan_73 ?_
      exact w_iret hx hb hr hlk dX1_plan_74 hS ⟨R1, Q2, N2, rfl, fun q h1 h2 => hJ1 q h1 (by omega), hst, hN2, hKp⟩
  · skip
    refine lv_aload_n hx hb dX1_plan_12 rfl (lv_at hl 0 rfl) ?_
    refine va_get (D := G) (ci := 1) (v := .ref ((sh a 13) 1)) (C := RX1) (T := TX1) (N := 4) hx hb hts hi1 hown hK.1 hKp 0 rfl rfl 1 (by decide) (hts (.fieldLink RX1 9 "SpriteLines$Packing" "united" "[I") (by decide +kernel)) (fun _ h9 => h9) rfl dX1_plan_13 ?_
    refine lv_iload_n hx hb dX1_plan_16 rfl (lv_at hl 3 rfl) ?_
    refine lv_aload_n hx hb dX1_plan_17 rfl (lv_at hl 0 rfl) ?_
    refine va_get (D := G) (ci := 1) (v := .ref ((sh a 1) 0)) (C := RX1) (T := TX1) (N := 4) hx hb hts hi1 hown hK.1 hKp 0 rfl rfl 0 (by decide) (hts (.fieldLink RX1 22 "SpriteLines$Packing" "state" "LSpriteLines$State;") (by decide +kernel)) (fun _ h9 => h9) rfl dX1_plan_18 ?_
    refine va_get (D := G) (ci := 4) (v := .ref ((sh a 1) 1)) (C := RX4) (T := TX4) (N := 9) hx hb hts hi4 hown hK.1 hPs 0 rfl rfl 4 (by decide) (hts (.fieldLink RX1 30 "SpriteLines$State" "sheet" "LSpriteLines$Sheet;") (by decide +kernel)) (fun _ h9 => h9) rfl dX1_plan_21 ?_
    refine lv_iload_n hx hb dX1_plan_24 rfl (lv_at hl 3 rfl) ?_
    refine z_ro (zrV (As := [.int (zI i)]) (rest := [.int (zI i), .ref ((sh a 13) 1)]) ⟨hx, hb, hml, hown, hts⟩ (c_X3_lowestAlike l G cs (sh a 1) S i wf0 (by omega)) gX1_plan_X3_lowestAlike rfl qX3_lowestAlike rfl rfl ⟨Nat.le_of_ble_eq_true rfl, Nat.le_of_ble_eq_true rfl⟩ hPs hK (va_recv hK.1 hPs (ci := 3) (q0 := 1) rfl rfl) hl.1 rfl (Nat.le_of_ble_eq_true rfl) dX1_plan_25 ⟨Nat.le_of_ble_eq_true rfl, Nat.le_of_ble_eq_true rfl⟩) ?_
    refine z_iast hx hb hK.1 hKp (Ord.D (ordPk cs (sh a 13) ((sh a 1) 0) (aI R1) (aI R2) (aI N)) (inj_sh (w := 4) ia (by decide))) hS 1 0 (F := R1) rfl rfl (by omega) (by decide) ⟨14, by decide, by decide, rfl⟩ dX1_plan_28 (fun H locs hP1 hle hk hS => ?_)
    have hPs := keepO (ordSt cs (sh a 1) S) hPs hk (fun j hj h3 => absurd (ia (1 + j) 14 (by omega) (by omega) h3) (by omega))
    have hKp : va_P G vwCl (pkW cs (sh a 13) ((sh a 1) 0) (aI (updZ R1 i (lowA S i))) (aI R2) (aI N)) H := hP1
    refine lv_aload_n hx hb dX1_plan_29 rfl (lv_at hl 0 rfl) ?_
    refine va_get (D := G) (ci := 1) (v := .ref ((sh a 13) 2)) (C := RX1) (T := TX1) (N := 4) hx hb hts hi1 hown hK.1 hKp 0 rfl rfl 2 (by decide) (hts (.fieldLink RX1 15 "SpriteLines$Packing" "stays" "[Z") (by decide +kernel)) (fun _ h9 => h9) rfl dX1_plan_30 ?_
    refine lv_iload_n hx hb dX1_plan_33 rfl (lv_at hl 3 rfl) ?_
    refine lv_iload_n hx hb dX1_plan_34 rfl (lv_at hl 1 rfl) ?_
    refine z_if_ne (tgt := 52) hx hb dX1_plan_35 (by decide) (by omega) (fun c3 => ?_) (fun c3 => ?_)
    · skip
      refine z_iconst (n := 0) hx hb dX1_plan_52 ?_
      refine z_zast hx hb hK.1 hKp (Ord.D (ordPk cs (sh a 13) ((sh a 1) 0) (aI (updZ R1 i (lowA S i))) (aI R2) (aI N)) (inj_sh (w := 4) ia (by decide))) hS 2 2 (F := R2) rfl rfl (by omega) (by decide) (by omega) ⟨15, by decide, by decide, rfl⟩ dX1_plan_53 (fun H locs hP1 hle hk hS => ?_)
      have hPs := keepO (ordSt cs (sh a 1) S) hPs hk (fun j hj h3 => absurd (ia (1 + j) 15 (by omega) (by omega) h3) (by omega))
      have hKp : va_P G vwCl (pkW cs (sh a 13) ((sh a 1) 0) (aI (updZ R1 i (lowA S i))) (aI (updZ R2 i 0)) (aI N)) H := hP1
      refine z_iinc (k := 3) (lv' := [(3, .int (zI (i + 1))), (0, .ref ((sh a 13) 0)), (1, .int (zI rm)), (2, .int (zI (S 0 0)))]) hx hb dX1_plan_54 hl rfl (by decide) rfl (fun ls hl => ?_)
      refine lv_goto (tgt := 7) hx hb dX1_plan_57 (by decide) ?_
      exact ih (i + 1, updZ R1 i (lowA S i), updZ R2 i 0) H locs ⟨⟨⟨by omega, fun q h1 h2 => by
      by_cases e : q = i
      · rw [e, updZ_s]
      · rw [updZ_n e]; exact hJ1 q h1 (by omega)⟩, fun q h1 h2 => by
      by_cases e : q = i
      · rw [e, updZ_s]; exact (b2_f (by rw [decide_eq_false_iff_not]; omega)).symm
      · rw [updZ_n e]; exact hJ2 q h1 (by omega)⟩, hPs, hKp⟩ hS (by show (S 0 0 - (i + 1)).toNat < (S 0 0 - i).toNat; omega) ls (lv_sub hl [1, 2, 3, 0] rfl)
    · skip
      refine lv_aload_n hx hb dX1_plan_38 rfl (lv_at hl 0 rfl) ?_
      refine va_get (D := G) (ci := 1) (v := .ref ((sh a 13) 1)) (C := RX1) (T := TX1) (N := 4) hx hb hts hi1 hown hK.1 hKp 0 rfl rfl 1 (by decide) (hts (.fieldLink RX1 9 "SpriteLines$Packing" "united" "[I") (by decide +kernel)) (fun _ h9 => h9) rfl dX1_plan_39 ?_
      refine lv_iload_n hx hb dX1_plan_42 rfl (lv_at hl 3 rfl) ?_
      refine z_iald hx hb hK.1 hKp 1 0 (F := (updZ R1 i (lowA S i))) rfl rfl (by omega) (by decide) dX1_plan_43 ?_
      refine z_topi (b := lowA S i) updZ_s ?_
      refine lv_iload_n hx hb dX1_plan_44 rfl (lv_at hl 3 rfl) ?_
      refine z_icmp_ne (tgt := 52) hx hb dX1_plan_45 (by decide) (by omega) (by omega) (fun c4 => ?_) (fun c4 => ?_)
      · skip
        refine z_iconst (n := 0) hx hb dX1_plan_52 ?_
        refine z_zast hx hb hK.1 hKp (Ord.D (ordPk cs (sh a 13) ((sh a 1) 0) (aI (updZ R1 i (lowA S i))) (aI R2) (aI N)) (inj_sh (w := 4) ia (by decide))) hS 2 2 (F := R2) rfl rfl (by omega) (by decide) (by omega) ⟨15, by decide, by decide, rfl⟩ dX1_plan_53 (fun H locs hP1 hle hk hS => ?_)
        have hPs := keepO (ordSt cs (sh a 1) S) hPs hk (fun j hj h3 => absurd (ia (1 + j) 15 (by omega) (by omega) h3) (by omega))
        have hKp : va_P G vwCl (pkW cs (sh a 13) ((sh a 1) 0) (aI (updZ R1 i (lowA S i))) (aI (updZ R2 i 0)) (aI N)) H := hP1
        refine z_iinc (k := 3) (lv' := [(3, .int (zI (i + 1))), (0, .ref ((sh a 13) 0)), (1, .int (zI rm)), (2, .int (zI (S 0 0)))]) hx hb dX1_plan_54 hl rfl (by decide) rfl (fun ls hl => ?_)
        refine lv_goto (tgt := 7) hx hb dX1_plan_57 (by decide) ?_
        exact ih (i + 1, updZ R1 i (lowA S i), updZ R2 i 0) H locs ⟨⟨⟨by omega, fun q h1 h2 => by
      by_cases e : q = i
      · rw [e, updZ_s]
      · rw [updZ_n e]; exact hJ1 q h1 (by omega)⟩, fun q h1 h2 => by
      by_cases e : q = i
      · rw [e, updZ_s]; exact (b2_f (by rw [decide_eq_false_iff_not]; omega)).symm
      · rw [updZ_n e]; exact hJ2 q h1 (by omega)⟩, hPs, hKp⟩ hS (by show (S 0 0 - (i + 1)).toNat < (S 0 0 - i).toNat; omega) ls (lv_sub hl [1, 2, 3, 0] rfl)
      · skip
        refine z_iconst (n := 1) hx hb dX1_plan_48 ?_
        refine lv_goto (tgt := 53) hx hb dX1_plan_49 (by decide) ?_
        refine z_zast hx hb hK.1 hKp (Ord.D (ordPk cs (sh a 13) ((sh a 1) 0) (aI (updZ R1 i (lowA S i))) (aI R2) (aI N)) (inj_sh (w := 4) ia (by decide))) hS 2 2 (F := R2) rfl rfl (by omega) (by decide) (by omega) ⟨15, by decide, by decide, rfl⟩ dX1_plan_53 (fun H locs hP1 hle hk hS => ?_)
        have hPs := keepO (ordSt cs (sh a 1) S) hPs hk (fun j hj h3 => absurd (ia (1 + j) 15 (by omega) (by omega) h3) (by omega))
        have hKp : va_P G vwCl (pkW cs (sh a 13) ((sh a 1) 0) (aI (updZ R1 i (lowA S i))) (aI (updZ R2 i 1)) (aI N)) H := hP1
        refine z_iinc (k := 3) (lv' := [(3, .int (zI (i + 1))), (0, .ref ((sh a 13) 0)), (1, .int (zI rm)), (2, .int (zI (S 0 0)))]) hx hb dX1_plan_54 hl rfl (by decide) rfl (fun ls hl => ?_)
        refine lv_goto (tgt := 7) hx hb dX1_plan_57 (by decide) ?_
        exact ih (i + 1, updZ R1 i (lowA S i), updZ R2 i 1) H locs ⟨⟨⟨by omega, fun q h1 h2 => by
      by_cases e : q = i
      · rw [e, updZ_s]
      · rw [updZ_n e]; exact hJ1 q h1 (by omega)⟩, fun q h1 h2 => by
      by_cases e : q = i
      · rw [e, updZ_s]; exact (b2_t (by rw [decide_eq_true_eq]; omega)).symm
      · rw [updZ_n e]; exact hJ2 q h1 (by omega)⟩, hPs, hKp⟩ hS (by show (S 0 0 - (i + 1)).toNat < (S 0 0 - i).toNat; omega) ls (lv_sub hl [1, 2, 3, 0] rfl)

set_option maxHeartbeats 4000000 in
set_option maxRecDepth 100000 in
theorem c_X1_unite (l : Launch) (G : va_G) (cs : Nat → ClassId) (a : Nat → Nat) (S : SS) (U Q N : Int → Int) (f : Int → Bool) (x : Int) (ia : Inj a 62) (wf : WF S) (hU : ∀ q, 0 ≤ q → q < S 0 0 → U q = lowA S q) (hN : ∀ q, 0 ≤ q → q < S 0 0 → N q = cntI f q) (hx0 : 0 ≤ x ∧ x < S 0 1) : MV l yX1_unite wsX1_unite { frames := 3, cells := 0, slots := 0, locals := 76 } G cs [.ref ((sh a 13) 0), .int (zI x)] (fun H => va_P G vwCl (stW cs (sh a 1) (up2 S 1 (P1 S f x))) H ∧ va_P G vwCl (pkW cs (sh a 13) ((sh a 1) 0) (aI U) (aI Q) (aI N)) H) (fun H => va_P G vwCl (stW cs (sh a 1) (up2 S 1 (P1 S f (x + 1)))) H) (AX a 5 6) 0 0 := by
  refine m_intro (Pw := (fun H => va_P G vwCl (stW cs (sh a 1) (up2 S 1 (P1 S f x))) H ∧ va_P G vwCl (pkW cs (sh a 13) ((sh a 1) 0) (aI U) (aI Q) (aI N)) H)) (cc := cX1_unite) (maxL := 5) (ret := none) RX1 (by decide) rfl rfl (Nat.le_of_ble_eq_true rfl) ?_
  intro pP eE sS mM below meth cC hx hb hr hts hown hml hlk hnm hPre hK ls hl
  have hl : lv_has ls 5 [(0, .ref ((sh a 13) 0)), (1, .int (zI x))] := hl
  obtain ⟨hPs, hKp⟩ := hPre
  have hS : va_S (AX a 5 6) sS.heap sS.heap [] := va_S.rf
  have hi1 : ∀ w ∈ u_ws RX1 TX1 4, w ∈ wsX1_unite := by decide +kernel
  have hi4 : ∀ w ∈ u_ws RX4 TX4 9, w ∈ wsX1_unite := by decide +kernel
  have wf0 := wf
  obtain ⟨w0, w1, w2, w3, w4, wP, wC, wS, wX⟩ := wf
  have q1 := wP x hx0.1 hx0.2
  have q2 := lowA_r S (q := S 1 (6 * x + 0)) (by omega)
  have ia1 := inj_sh (k := 1) (w := 8) ia (by decide)
  refine lv_aload_n hx hb dX1_unite_0 rfl (lv_at hl 0 rfl) ?_
  refine va_get (D := G) (ci := 1) (v := .ref ((sh a 1) 0)) (C := RX1) (T := TX1) (N := 4) hx hb hts hi1 hown hK.1 hKp 0 rfl rfl 0 (by decide) (hts (.fieldLink RX1 22 "SpriteLines$Packing" "state" "LSpriteLines$State;") (by decide +kernel)) (fun _ h9 => h9) rfl dX1_unite_1 ?_
  refine lv_iload_n hx hb dX1_unite_4 rfl (lv_at hl 1 rfl) ?_
  refine z_iconst (n := 0) hx hb dX1_unite_5 ?_
  refine z_ro (zrV (As := [.int (zI x), .int (zI 0)]) (rest := []) ⟨hx, hb, hml, hown, hts⟩ (c_X4_property l G cs (sh a 1) (up2 S 1 (P1 S f x)) x 0 (by omega) (by omega)) gX1_unite_X4_property rfl qX4_property rfl rfl ⟨Nat.le_of_ble_eq_true rfl, Nat.le_of_ble_eq_true rfl⟩ hPs hK (va_recv hK.1 hPs (ci := 4) (q0 := 0) rfl rfl) hl.1 rfl (Nat.le_of_ble_eq_true rfl) dX1_unite_6 ⟨Nat.le_of_ble_eq_true rfl, Nat.le_of_ble_eq_true rfl⟩) ?_
  refine z_topi (b := S 1 (6 * x + 0)) (P1_at S f (by omega) (by omega)) ?_
  refine lv_istore_n (lv' := [(2, .int (zI (S 1 (6 * x + 0)))), (0, .ref ((sh a 13) 0)), (1, .int (zI x))]) hx hb dX1_unite_9 rfl hl (by decide) rfl (fun ls hl => ?_)
  refine lv_aload_n hx hb dX1_unite_10 rfl (lv_at hl 1 rfl) ?_
  refine lv_iload_n hx hb dX1_unite_11 rfl (lv_at hl 0 rfl) ?_
  refine z_ro (zrV (As := [.int (zI (S 1 (6 * x + 0)))]) (rest := []) ⟨hx, hb, hml, hown, hts⟩ (c_X1_unitedOf l G cs a U Q N (S 1 (6 * x + 0)) (by omega)) gX1_unite_X1_unitedOf rfl qX1_unitedOf rfl rfl ⟨Nat.le_of_ble_eq_true rfl, Nat.le_of_ble_eq_true rfl⟩ hKp hK (va_recv hK.1 hKp (ci := 1) (q0 := 0) rfl rfl) hl.1 rfl (Nat.le_of_ble_eq_true rfl) dX1_unite_12 ⟨Nat.le_of_ble_eq_true rfl, Nat.le_of_ble_eq_true rfl⟩) ?_
  refine z_topi (b := lowA S (S 1 (6 * x + 0))) (hU _ (by omega) (by omega)) ?_
  refine lv_istore_n (lv' := [(3, .int (zI (lowA S (S 1 (6 * x + 0))))), (2, .int (zI (S 1 (6 * x + 0)))), (0, .ref ((sh a 13) 0)), (1, .int (zI x))]) hx hb dX1_unite_15 rfl hl (by decide) rfl (fun ls hl => ?_)
  refine lv_iload_n hx hb dX1_unite_16 rfl (lv_at hl 0 rfl) ?_
  refine lv_iload_n hx hb dX1_unite_17 rfl (lv_at hl 1 rfl) ?_
  refine z_icmp_eq (tgt := 55) hx hb dX1_unite_18 (by decide) (by omega) (by omega) (fun c1 => ?_) (fun c1 => ?_)
  · skip
    refine lv_iload_n hx hb dX1_unite_55 rfl (lv_at hl 0 rfl) ?_
    refine z_if_lt (tgt := 83) hx hb dX1_unite_56 (by decide) (by omega) (fun c2 => ?_) (fun c2 => ?_)
    · skip
      exfalso; omega
    · skip
      refine lv_iload_n hx hb dX1_unite_59 rfl (lv_at hl 0 rfl) ?_
      refine lv_aload_n hx hb dX1_unite_60 rfl (lv_at hl 2 rfl) ?_
      refine va_get (D := G) (ci := 1) (v := .ref ((sh a 13) 3)) (C := RX1) (T := TX1) (N := 4) hx hb hts hi1 hown hK.1 hKp 0 rfl rfl 3 (by decide) (hts (.fieldLink RX1 19 "SpriteLines$Packing" "newNumbers" "[I") (by decide +kernel)) (fun _ h9 => h9) rfl dX1_unite_61 ?_
      refine z_alen hx hb hK.1 hKp 3 0 rfl rfl dX1_unite_64 ?_
      refine z_topi (b := 24) rfl ?_
      refine z_icmp_ge (tgt := 83) hx hb dX1_unite_65 (by decide) (by omega) (by omega) (fun c3 => ?_) (fun c3 => ?_)
      · skip
        exfalso; omega
      · skip
        refine lv_aload_n hx hb dX1_unite_68 rfl (lv_at hl 2 rfl) ?_
        refine va_get (D := G) (ci := 1) (v := .ref ((sh a 1) 0)) (C := RX1) (T := TX1) (N := 4) hx hb hts hi1 hown hK.1 hKp 0 rfl rfl 0 (by decide) (hts (.fieldLink RX1 22 "SpriteLines$Packing" "state" "LSpriteLines$State;") (by decide +kernel)) (fun _ h9 => h9) rfl dX1_unite_69 ?_
        refine lv_iload_n hx hb dX1_unite_72 rfl (lv_at hl 3 rfl) ?_
        refine z_iconst (n := 0) hx hb dX1_unite_73 ?_
        refine lv_aload_n hx hb dX1_unite_74 rfl (lv_at hl 2 rfl) ?_
        refine va_get (D := G) (ci := 1) (v := .ref ((sh a 13) 3)) (C := RX1) (T := TX1) (N := 4) hx hb hts hi1 hown hK.1 hKp 0 rfl rfl 3 (by decide) (hts (.fieldLink RX1 19 "SpriteLines$Packing" "newNumbers" "[I") (by decide +kernel)) (fun _ h9 => h9) rfl dX1_unite_75 ?_
        refine lv_iload_n hx hb dX1_unite_78 rfl (lv_at hl 0 rfl) ?_
        refine z_iald hx hb hK.1 hKp 3 0 (F := N) rfl rfl (by omega) (by decide) dX1_unite_79 ?_
        refine z_topi (b := cntI f (lowA S (S 1 (6 * x + 0)))) (hN _ (by omega) (by omega)) ?_
        refine z_v (zrV (As := [.int (zI x), .int (zI 0), .int (zI (cntI f (lowA S (S 1 (6 * x + 0)))))]) (rest := []) ⟨hx, hb, hml, hown, hts⟩ (c_X4_putProperty l G cs (sh a 1) (up2 S 1 (P1 S f x)) x 0 (cntI f (lowA S (S 1 (6 * x + 0)))) ia1 (by omega) (by omega)) gX1_unite_X4_putProperty rfl qX4_putProperty rfl rfl ⟨Nat.le_of_ble_eq_true rfl, Nat.le_of_ble_eq_true rfl⟩ hPs hK (va_recv hK.1 hPs (ci := 4) (q0 := 0) rfl rfl) hl.1 rfl (Nat.le_of_ble_eq_true rfl) dX1_unite_80 ⟨Nat.le_of_ble_eq_true rfl, Nat.le_of_ble_eq_true rfl⟩) hS (fun q h => ax_mono (ax_sh h) (by decide) (by decide)) (fun q h => ax_mono (ax_sh h) (by decide) (by decide)) (fun H locs hpost hle hk hS => ?_)
        have hPs' := hpost
        have hKp := keepO (ordPk cs (sh a 13) ((sh a 1) 0) (aI U) (aI Q) (aI N)) hKp hk (fun j hj ⟨i, h1, h2, h3⟩ => absurd (ia (13 + j) (1 + i) (by omega) (by omega) h3) (by omega))
        have hPs : va_P G vwCl (stW cs (sh a 1) (up2 (up2 S 1 (P1 S f x)) 1 (updZ ((up2 S 1 (P1 S f x)) 1) (6 * x + 0) (cntI f (lowA S (S 1 (6 * x + 0))))))) H := hPs'
        have hPs : va_P G vwCl (stW cs (sh a 1) (up2 S 1 (P1 S f (x + 1)))) H := (by rw [up2_2, up2_s] at hPs; rw [P1_se S f hx0.1 hx0.2 (by omega)]; exact hPs)
        exact v_ret hx hb hr hlk dX1_unite_83 hS hPs
  · skip
    refine lv_aload_n hx hb dX1_unite_21 rfl (lv_at hl 2 rfl) ?_
    refine va_get (D := G) (ci := 1) (v := .ref ((sh a 1) 0)) (C := RX1) (T := TX1) (N := 4) hx hb hts hi1 hown hK.1 hKp 0 rfl rfl 0 (by decide) (hts (.fieldLink RX1 22 "SpriteLines$Packing" "state" "LSpriteLines$State;") (by decide +kernel)) (fun _ h9 => h9) rfl dX1_unite_22 ?_
    refine lv_iload_n hx hb dX1_unite_25 rfl (lv_at hl 3 rfl) ?_
    refine z_iconst (n := 1) hx hb dX1_unite_26 ?_
    refine z_ro (zrV (As := [.int (zI x), .int (zI 1)]) (rest := []) ⟨hx, hb, hml, hown, hts⟩ (c_X4_property l G cs (sh a 1) (up2 S 1 (P1 S f x)) x 1 (by omega) (by omega)) gX1_unite_X4_property rfl qX4_property rfl rfl ⟨Nat.le_of_ble_eq_true rfl, Nat.le_of_ble_eq_true rfl⟩ hPs hK (va_recv hK.1 hPs (ci := 4) (q0 := 0) rfl rfl) hl.1 rfl (Nat.le_of_ble_eq_true rfl) dX1_unite_27 ⟨Nat.le_of_ble_eq_true rfl, Nat.le_of_ble_eq_true rfl⟩) ?_
    refine z_topi (b := S 1 (6 * x + 1)) (P1_at S f (by omega) (by omega)) ?_
    refine lv_istore (lv' := [(4, .int (zI (S 1 (6 * x + 1)))), (3, .int (zI (lowA S (S 1 (6 * x + 0))))), (2, .int (zI (S 1 (6 * x + 0)))), (0, .ref ((sh a 13) 0)), (1, .int (zI x))]) hx hb dX1_unite_30 hl (by decide) rfl (fun ls hl => ?_)
    refine lv_aload_n hx hb dX1_unite_32 rfl (lv_at hl 3 rfl) ?_
    refine va_get (D := G) (ci := 1) (v := .ref ((sh a 1) 0)) (C := RX1) (T := TX1) (N := 4) hx hb hts hi1 hown hK.1 hKp 0 rfl rfl 0 (by decide) (hts (.fieldLink RX1 22 "SpriteLines$Packing" "state" "LSpriteLines$State;") (by decide +kernel)) (fun _ h9 => h9) rfl dX1_unite_33 ?_
    refine lv_iload_n hx hb dX1_unite_36 rfl (lv_at hl 4 rfl) ?_
    refine z_iconst (n := 1) hx hb dX1_unite_37 ?_
    refine lv_aload_n hx hb dX1_unite_38 rfl (lv_at hl 3 rfl) ?_
    refine va_get (D := G) (ci := 1) (v := .ref ((sh a 1) 0)) (C := RX1) (T := TX1) (N := 4) hx hb hts hi1 hown hK.1 hKp 0 rfl rfl 0 (by decide) (hts (.fieldLink RX1 22 "SpriteLines$Packing" "state" "LSpriteLines$State;") (by decide +kernel)) (fun _ h9 => h9) rfl dX1_unite_39 ?_
    refine va_get (D := G) (ci := 4) (v := .ref ((sh a 1) 1)) (C := RX4) (T := TX4) (N := 9) hx hb hts hi4 hown hK.1 hPs 0 rfl rfl 4 (by decide) (hts (.fieldLink RX1 30 "SpriteLines$State" "sheet" "LSpriteLines$Sheet;") (by decide +kernel)) (fun _ h9 => h9) rfl dX1_unite_42 ?_
    refine lv_iload_n hx hb dX1_unite_45 rfl (lv_at hl 2 rfl) ?_
    refine lv_iload hx hb dX1_unite_46 (lv_at hl 0 rfl) ?_
    refine lv_iload_n hx hb dX1_unite_48 rfl (lv_at hl 1 rfl) ?_
    refine z_ro (zrV (As := [.int (zI (S 1 (6 * x + 0))), .int (zI (S 1 (6 * x + 1))), .int (zI (lowA S (S 1 (6 * x + 0))))]) (rest := [.int (zI 1), .int (zI x), .ref ((sh a 1) 0)]) ⟨hx, hb, hml, hown, hts⟩ (c_X3_wayToMatch l G cs (sh a 1) (up2 S 1 (P1 S f x)) (S 1 (6 * x + 0)) (S 1 (6 * x + 1)) (lowA S (S 1 (6 * x + 0))) wX (by omega) (by omega) (by omega)) gX1_unite_X3_wayToMatch rfl qX3_wayToMatch rfl rfl ⟨Nat.le_of_ble_eq_true rfl, Nat.le_of_ble_eq_true rfl⟩ hPs hK (va_recv hK.1 hPs (ci := 3) (q0 := 1) rfl rfl) hl.1 rfl (Nat.le_of_ble_eq_true rfl) dX1_unite_49 ⟨Nat.le_of_ble_eq_true rfl, Nat.le_of_ble_eq_true rfl⟩) ?_
    refine z_topi (b := wayF S (S 1 (6 * x + 0)) (S 1 (6 * x + 1)) (lowA S (S 1 (6 * x + 0)))) (wayF_up1 S _ _ _ _) ?_
    refine z_v (zrV (As := [.int (zI x), .int (zI 1), .int (zI (wayF S (S 1 (6 * x + 0)) (S 1 (6 * x + 1)) (lowA S (S 1 (6 * x + 0)))))]) (rest := []) ⟨hx, hb, hml, hown, hts⟩ (c_X4_putProperty l G cs (sh a 1) (up2 S 1 (P1 S f x)) x 1 (wayF S (S 1 (6 * x + 0)) (S 1 (6 * x + 1)) (lowA S (S 1 (6 * x + 0)))) ia1 (by omega) (by omega)) gX1_unite_X4_putProperty rfl qX4_putProperty rfl rfl ⟨Nat.le_of_ble_eq_true rfl, Nat.le_of_ble_eq_true rfl⟩ hPs hK (va_recv hK.1 hPs (ci := 4) (q0 := 0) rfl rfl) hl.1 rfl (Nat.le_of_ble_eq_true rfl) dX1_unite_52 ⟨Nat.le_of_ble_eq_true rfl, Nat.le_of_ble_eq_true rfl⟩) hS (fun q h => ax_mono (ax_sh h) (by decide) (by decide)) (fun q h => ax_mono (ax_sh h) (by decide) (by decide)) (fun H locs hpost hle hk hS => ?_)
    have hPs' := hpost
    have hKp := keepO (ordPk cs (sh a 13) ((sh a 1) 0) (aI U) (aI Q) (aI N)) hKp hk (fun j hj ⟨i, h1, h2, h3⟩ => absurd (ia (13 + j) (1 + i) (by omega) (by omega) h3) (by omega))
    have hPs : va_P G vwCl (stW cs (sh a 1) (up2 (up2 S 1 (P1 S f x)) 1 (updZ ((up2 S 1 (P1 S f x)) 1) (6 * x + 1) (wayF S (S 1 (6 * x + 0)) (S 1 (6 * x + 1)) (lowA S (S 1 (6 * x + 0))))))) H := hPs'
    have hPs : va_P G vwCl (stW cs (sh a 1) (up2 S 1 (updZ (P1 S f x) (6 * x + 1) (wayF S (S 1 (6 * x + 0)) (S 1 (6 * x + 1)) (lowA S (S 1 (6 * x + 0))))))) H := (by rw [up2_2, up2_s] at hPs; exact hPs)
    refine lv_iload_n hx hb dX1_unite_55 rfl (lv_at hl 1 rfl) ?_
    refine z_if_lt (tgt := 83) hx hb dX1_unite_56 (by decide) (by omega) (fun c4 => ?_) (fun c4 => ?_)
    · skip
      exfalso; omega
    · skip
      refine lv_iload_n hx hb dX1_unite_59 rfl (lv_at hl 1 rfl) ?_
      refine lv_aload_n hx hb dX1_unite_60 rfl (lv_at hl 3 rfl) ?_
      refine va_get (D := G) (ci := 1) (v := .ref ((sh a 13) 3)) (C := RX1) (T := TX1) (N := 4) hx hb hts hi1 hown hK.1 hKp 0 rfl rfl 3 (by decide) (hts (.fieldLink RX1 19 "SpriteLines$Packing" "newNumbers" "[I") (by decide +kernel)) (fun _ h9 => h9) rfl dX1_unite_61 ?_
      refine z_alen hx hb hK.1 hKp 3 0 rfl rfl dX1_unite_64 ?_
      refine z_topi (b := 24) rfl ?_
      refine z_icmp_ge (tgt := 83) hx hb dX1_unite_65 (by decide) (by omega) (by omega) (fun c5 => ?_) (fun c5 => ?_)
      · skip
        exfalso; omega
      · skip
        refine lv_aload_n hx hb dX1_unite_68 rfl (lv_at hl 3 rfl) ?_
        refine va_get (D := G) (ci := 1) (v := .ref ((sh a 1) 0)) (C := RX1) (T := TX1) (N := 4) hx hb hts hi1 hown hK.1 hKp 0 rfl rfl 0 (by decide) (hts (.fieldLink RX1 22 "SpriteLines$Packing" "state" "LSpriteLines$State;") (by decide +kernel)) (fun _ h9 => h9) rfl dX1_unite_69 ?_
        refine lv_iload_n hx hb dX1_unite_72 rfl (lv_at hl 4 rfl) ?_
        refine z_iconst (n := 0) hx hb dX1_unite_73 ?_
        refine lv_aload_n hx hb dX1_unite_74 rfl (lv_at hl 3 rfl) ?_
        refine va_get (D := G) (ci := 1) (v := .ref ((sh a 13) 3)) (C := RX1) (T := TX1) (N := 4) hx hb hts hi1 hown hK.1 hKp 0 rfl rfl 3 (by decide) (hts (.fieldLink RX1 19 "SpriteLines$Packing" "newNumbers" "[I") (by decide +kernel)) (fun _ h9 => h9) rfl dX1_unite_75 ?_
        refine lv_iload_n hx hb dX1_unite_78 rfl (lv_at hl 1 rfl) ?_
        refine z_iald hx hb hK.1 hKp 3 0 (F := N) rfl rfl (by omega) (by decide) dX1_unite_79 ?_
        refine z_topi (b := cntI f (lowA S (S 1 (6 * x + 0)))) (hN _ (by omega) (by omega)) ?_
        refine z_v (zrV (As := [.int (zI x), .int (zI 0), .int (zI (cntI f (lowA S (S 1 (6 * x + 0)))))]) (rest := []) ⟨hx, hb, hml, hown, hts⟩ (c_X4_putProperty l G cs (sh a 1) (up2 S 1 (updZ (P1 S f x) (6 * x + 1) (wayF S (S 1 (6 * x + 0)) (S 1 (6 * x + 1)) (lowA S (S 1 (6 * x + 0)))))) x 0 (cntI f (lowA S (S 1 (6 * x + 0)))) ia1 (by omega) (by omega)) gX1_unite_X4_putProperty rfl qX4_putProperty rfl rfl ⟨Nat.le_of_ble_eq_true rfl, Nat.le_of_ble_eq_true rfl⟩ hPs hK (va_recv hK.1 hPs (ci := 4) (q0 := 0) rfl rfl) hl.1 rfl (Nat.le_of_ble_eq_true rfl) dX1_unite_80 ⟨Nat.le_of_ble_eq_true rfl, Nat.le_of_ble_eq_true rfl⟩) hS (fun q h => ax_mono (ax_sh h) (by decide) (by decide)) (fun q h => ax_mono (ax_sh h) (by decide) (by decide)) (fun H locs hpost hle hk hS => ?_)
        have hPs' := hpost
        have hKp := keepO (ordPk cs (sh a 13) ((sh a 1) 0) (aI U) (aI Q) (aI N)) hKp hk (fun j hj ⟨i, h1, h2, h3⟩ => absurd (ia (13 + j) (1 + i) (by omega) (by omega) h3) (by omega))
        have hPs : va_P G vwCl (stW cs (sh a 1) (up2 (up2 S 1 (updZ (P1 S f x) (6 * x + 1) (wayF S (S 1 (6 * x + 0)) (S 1 (6 * x + 1)) (lowA S (S 1 (6 * x + 0)))))) 1 (updZ ((up2 S 1 (updZ (P1 S f x) (6 * x + 1) (wayF S (S 1 (6 * x + 0)) (S 1 (6 * x + 1)) (lowA S (S 1 (6 * x + 0)))))) 1) (6 * x + 0) (cntI f (lowA S (S 1 (6 * x + 0))))))) H := hPs'
        have hPs : va_P G vwCl (stW cs (sh a 1) (up2 S 1 (P1 S f (x + 1)))) H := (by rw [up2_2, up2_s] at hPs; rw [P1_sn S f hx0.1 hx0.2 (by omega)]; exact hPs)
        exact v_ret hx hb hr hlk dX1_unite_83 hS hPs

set_option maxHeartbeats 4000000 in
set_option maxRecDepth 100000 in
theorem c_X1_carryOut (l : Launch) (G : va_G) (cs : Nat → ClassId) (a : Nat → Nat) (S : SS) (U Q N : Int → Int) (f : Int → Bool) (ia : Inj a 62) (wf : WF S) (hU : ∀ q, 0 ≤ q → q < S 0 0 → U q = lowA S q) (hQ : ∀ q, 0 ≤ q → q < S 0 0 → Q q = b2 (f q)) (hN : ∀ q, 0 ≤ q → q < S 0 0 → N q = cntI f q) : MV l yX1_carryOut wsX1_carryOut { frames := 4, cells := 0, slots := 0, locals := 100 } G cs [.ref ((sh a 13) 0)] (fun H => va_P G vwCl (stW cs (sh a 1) S) H ∧ va_P G vwCl (pkW cs (sh a 13) ((sh a 1) 0) (aI U) (aI Q) (aI N)) H) (fun H => va_P G vwCl (stW cs (sh a 1) (packS S f)) H) (AX a 1 9) 0 0 := by
  refine m_intro (Pw := (fun H => va_P G vwCl (stW cs (sh a 1) S) H ∧ va_P G vwCl (pkW cs (sh a 13) ((sh a 1) 0) (aI U) (aI Q) (aI N)) H)) (cc := cX1_carryOut) (maxL := 4) (ret := none) RX1 (by decide) rfl rfl (Nat.le_of_ble_eq_true rfl) ?_
  intro pP eE sS mM below meth cC hx hb hr hts hown hml hlk hnm hPre hK ls hl
  have hl : lv_has ls 4 [(0, .ref ((sh a 13) 0))] := hl
  obtain ⟨hPs, hKp⟩ := hPre
  have hS : va_S (AX a 1 9) sS.heap sS.heap [] := va_S.rf
  have hi1 : ∀ w ∈ u_ws RX1 TX1 4, w ∈ wsX1_carryOut := by decide +kernel
  have hi3 : ∀ w ∈ u_ws RX3 TX3 3, w ∈ wsX1_carryOut := by decide +kernel
  have hi4 : ∀ w ∈ u_ws RX4 TX4 9, w ∈ wsX1_carryOut := by decide +kernel
  have wf0 := wf
  obtain ⟨w0, w1, w2, w3, w4, wP, wC, wS, wX⟩ := wf
  have ia1 := inj_sh (k := 1) (w := 8) ia (by decide)
  refine z_iconst (n := 0) hx hb dX1_carryOut_0 ?_
  refine lv_istore_n (lv' := [(1, .int (zI 0)), (0, .ref ((sh a 13) 0))]) hx hb dX1_carryOut_1 rfl hl (by decide) rfl (fun ls hl => ?_)
  -- loop 2
  refine z_loopH (nL := 4) (fun (i : Int) => [(0, .ref ((sh a 13) 0)), (1, .int (zI i))]) (fun (i : Int) (H : Heap) => (0 ≤ i ∧ i ≤ S 0 1) ∧ va_P G vwCl (stW cs (sh a 1) (up2 S 1 (P1 S f i))) H ∧ va_P G vwCl (pkW cs (sh a 13) ((sh a 1) 0) (aI U) (aI Q) (aI N)) H) (fun (i : Int) => (S 0 1 - i).toNat) 0 ⟨(by omega), (by rw [P1_0, up2_id]; exact hPs), hKp⟩ hS (lv_sub hl [1, 0] rfl) (fun i H locs hIH hS ih ls hl => ?_)
  obtain ⟨hI, hPs, hKp⟩ := hIH
  have hl : lv_has ls 4 [(0, .ref ((sh a 13) 0)), (1, .int (zI i))] := hl
  refine lv_iload_n hx hb dX1_carryOut_2 rfl (lv_at hl 1 rfl) ?_
  refine lv_aload_n hx hb dX1_carryOut_3 rfl (lv_at hl 0 rfl) ?_
  refine va_get (D := G) (ci := 1) (v := .ref ((sh a 1) 0)) (C := RX1) (T := TX1) (N := 4) hx hb hts hi1 hown hK.1 hKp 0 rfl rfl 0 (by decide) (hts (.fieldLink RX1 22 "SpriteLines$Packing" "state" "LSpriteLines$State;") (by decide +kernel)) (fun _ h9 => h9) rfl dX1_carryOut_4 ?_
  refine va_get (D := G) (ci := 4) (v := .int (zI ((up2 S 1 (P1 S f i)) 0 1))) (C := RX4) (T := TX4) (N := 9) hx hb hts hi4 hown hK.1 hPs 0 rfl rfl 3 (by decide) (hts (.fieldLink RX1 48 "SpriteLines$State" "sprites" "I") (by decide +kernel)) (fun _ h9 => h9) rfl dX1_carryOut_7 ?_
  refine z_topi (b := S 0 1) rfl ?_
  refine z_icmp_ge (tgt := 24) hx hb dX1_carryOut_10 (by decide) (by omega) (by omega) (fun c1 => ?_) (fun c1 => ?_)
  · skip
    refine lv_aload_n hx hb dX1_carryOut_24 rfl (lv_at hl 0 rfl) ?_
    refine z_ro (zrV (As := []) (rest := []) (Pw := fun H => va_P G vwCl (stW cs (sh a 1) (up2 S 1 (P1 S f i))) H ∧ va_P G vwCl (pkW cs (sh a 13) ((sh a 1) 0) (aI U) (aI Q) (aI N)) H) ⟨hx, hb, hml, hown, hts⟩ (c_X1_partsInReach l G cs a (up2 S 1 (P1 S f i)) U Q N w0) gX1_carryOut_X1_partsInReach rfl qX1_partsInReach rfl rfl ⟨Nat.le_of_ble_eq_true rfl, Nat.le_of_ble_eq_true rfl⟩ ⟨hPs, hKp⟩ hK (va_recv hK.1 hKp (ci := 1) (q0 := 0) rfl rfl) hl.1 rfl (Nat.le_of_ble_eq_true rfl) dX1_carryOut_25 ⟨Nat.le_of_ble_eq_true rfl, Nat.le_of_ble_eq_true rfl⟩) ?_
    refine z_topi (b := S 0 0) rfl ?_
    refine lv_istore_n (lv' := [(1, .int (zI (S 0 0))), (0, .ref ((sh a 13) 0))]) hx hb dX1_carryOut_28 rfl hl (by decide) rfl (fun ls hl => ?_)
    refine z_iconst (n := 0) hx hb dX1_carryOut_29 ?_
    refine lv_istore_n (lv' := [(2, .int (zI 0)), (1, .int (zI (S 0 0))), (0, .ref ((sh a 13) 0))]) hx hb dX1_carryOut_30 rfl hl (by decide) rfl (fun ls hl => ?_)
    refine z_iconst (n := 0) hx hb dX1_carryOut_31 ?_
    refine lv_istore_n (lv' := [(3, .int (zI 0)), (2, .int (zI 0)), (1, .int (zI (S 0 0))), (0, .ref ((sh a 13) 0))]) hx hb dX1_carryOut_32 rfl hl (by decide) rfl (fun ls hl => ?_)
    -- loop 33
    refine z_loopH (nL := 4) (fun (j : Int) => [(0, .ref ((sh a 13) 0)), (1, .int (zI (S 0 0))), (2, .int (zI (cntI f j))), (3, .int (zI j))]) (fun (j : Int) (H : Heap) => (0 ≤ j ∧ j ≤ S 0 0) ∧ va_P G vwCl (stW cs (sh a 1) (up2 (up2 S 1 (P1 S f (S 0 1))) 5 (pkX (S 5) f (j).toNat))) H ∧ va_P G vwCl (pkW cs (sh a 13) ((sh a 1) 0) (aI U) (aI Q) (aI N)) H) (fun (j : Int) => (S 0 0 - j).toNat) 0 ⟨(by omega), (by rw [show (0 : Int).toNat = 0 from rfl, pkX, show S 5 = (up2 S 1 (P1 S f (S 0 1))) 5 from rfl, up2_id]; rw [show i = S 0 1 by omega] at hPs; exact hPs), hKp⟩ hS (lv_sub hl [3, 2, 1, 0] rfl) (fun j H locs hIH hS ih ls hl => ?_)
    obtain ⟨hI, hPs, hKp⟩ := hIH
    have hl : lv_has ls 4 [(0, .ref ((sh a 13) 0)), (1, .int (zI (S 0 0))), (2, .int (zI (cntI f j))), (3, .int (zI j))] := hl
    have hc := cntI_r f hI.1
    refine lv_iload_n hx hb dX1_carryOut_33 rfl (lv_at hl 3 rfl) ?_
    refine lv_iload_n hx hb dX1_carryOut_34 rfl (lv_at hl 1 rfl) ?_
    refine z_icmp_ge (tgt := 89) hx hb dX1_carryOut_35 (by decide) (by omega) (by omega) (fun c2 => ?_) (fun c2 => ?_)
    · skip
      refine lv_aload_n hx hb dX1_carryOut_89 rfl (lv_at hl 0 rfl) ?_
      refine va_get (D := G) (ci := 1) (v := .ref ((sh a 1) 0)) (C := RX1) (T := TX1) (N := 4) hx hb hts hi1 hown hK.1 hKp 0 rfl rfl 0 (by decide) (hts (.fieldLink RX1 22 "SpriteLines$Packing" "state" "LSpriteLines$State;") (by decide +kernel)) (fun _ h9 => h9) rfl dX1_carryOut_90 ?_
      refine va_get (D := G) (ci := 4) (v := .ref ((sh a 1) 1)) (C := RX4) (T := TX4) (N := 9) hx hb hts hi4 hown hK.1 hPs 0 rfl rfl 4 (by decide) (hts (.fieldLink RX1 30 "SpriteLines$State" "sheet" "LSpriteLines$Sheet;") (by decide +kernel)) (fun _ h9 => h9) rfl dX1_carryOut_93 ?_
      refine lv_iload_n hx hb dX1_carryOut_96 rfl (lv_at hl 2 rfl) ?_
      refine z_put (G := G) (ci := 3) (v := .int (zI (cntI f j))) (ty := .int) (C := RX3) (T := TX3) (N := 3) hx hb hts hi3 tyX3 tyX3_ok nmX3 hown hK.1 hPs (Ord.D (ordSt cs (sh a 1) (up2 (up2 S 1 (P1 S f (S 0 1))) 5 (pkX (S 5) f (j).toNat))) (inj_sh (w := 8) ia (by decide))) hS 1 rfl rfl 0 (by decide) (hts (.fieldLink RX1 67 "SpriteLines$Sheet" "parts" "I") (by decide +kernel)) (fun _ h9 => h9) rfl (by decide +kernel) rfl rfl (Nat.le_of_ble_eq_true rfl) ⟨2, by decide, by decide, rfl⟩ dX1_carryOut_97 (fun H locs hP1 hle hk hS => ?_)
      have hKp := keepO (ordPk cs (sh a 13) ((sh a 1) 0) (aI U) (aI Q) (aI N)) hKp hk (fun j hj h3 => absurd (ia (13 + j) 2 (by omega) (by omega) h3) (by omega))
      have hPs : va_P G vwCl (stW cs (sh a 1) (packS S f)) H := (by rw [show j = S 0 0 by omega] at hP1; exact hP1)
      exact v_ret hx hb hr hlk dX1_carryOut_100 hS hPs
    · skip
      refine lv_aload_n hx hb dX1_carryOut_38 rfl (lv_at hl 0 rfl) ?_
      refine va_get (D := G) (ci := 1) (v := .ref ((sh a 13) 2)) (C := RX1) (T := TX1) (N := 4) hx hb hts hi1 hown hK.1 hKp 0 rfl rfl 2 (by decide) (hts (.fieldLink RX1 15 "SpriteLines$Packing" "stays" "[Z") (by decide +kernel)) (fun _ h9 => h9) rfl dX1_carryOut_39 ?_
      refine lv_iload_n hx hb dX1_carryOut_42 rfl (lv_at hl 3 rfl) ?_
      refine z_zald hx hb hK.1 hKp 2 2 (F := Q) rfl rfl (by omega) (by decide) dX1_carryOut_43 ?_
      refine z_top (v' := .int (zI (b2 (f j)))) (congrArg (fun z => Value.int (zI z)) (hQ j hI.1 (by omega))) ?_
      refine z_bif_eq (tgt := 83) hx hb dX1_carryOut_44 (by decide) (fun c3 => ?_) (fun c3 => ?_)
      · skip
        refine z_iinc (k := 3) (lv' := [(3, .int (zI (j + 1))), (0, .ref ((sh a 13) 0)), (1, .int (zI (S 0 0))), (2, .int (zI (cntI f j)))]) hx hb dX1_carryOut_83 hl rfl (by decide) rfl (fun ls hl => ?_)
        refine lv_goto (tgt := 33) hx hb dX1_carryOut_86 (by decide) ?_
        exact ih (j + 1) H locs ⟨(by omega), (by rw [pkX_f (S 5) hI.1 c3]; exact hPs), hKp⟩ hS (by omega) ls (by show lv_has ls 4 [(0, .ref ((sh a 13) 0)), (1, .int (zI (S 0 0))), (2, .int (zI (cntI f (j + 1)))), (3, .int (zI (j + 1)))]; rw [cntI_f hI.1 c3]; exact lv_sub hl [1, 2, 3, 0] rfl)
      · skip
        refine lv_aload_n hx hb dX1_carryOut_47 rfl (lv_at hl 0 rfl) ?_
        refine va_get (D := G) (ci := 1) (v := .ref ((sh a 1) 0)) (C := RX1) (T := TX1) (N := 4) hx hb hts hi1 hown hK.1 hKp 0 rfl rfl 0 (by decide) (hts (.fieldLink RX1 22 "SpriteLines$Packing" "state" "LSpriteLines$State;") (by decide +kernel)) (fun _ h9 => h9) rfl dX1_carryOut_48 ?_
        refine va_get (D := G) (ci := 4) (v := .ref ((sh a 1) 1)) (C := RX4) (T := TX4) (N := 9) hx hb hts hi4 hown hK.1 hPs 0 rfl rfl 4 (by decide) (hts (.fieldLink RX1 30 "SpriteLines$State" "sheet" "LSpriteLines$Sheet;") (by decide +kernel)) (fun _ h9 => h9) rfl dX1_carryOut_51 ?_
        refine lv_iload_n hx hb dX1_carryOut_54 rfl (lv_at hl 2 rfl) ?_
        refine lv_aload_n hx hb dX1_carryOut_55 rfl (lv_at hl 0 rfl) ?_
        refine va_get (D := G) (ci := 1) (v := .ref ((sh a 1) 0)) (C := RX1) (T := TX1) (N := 4) hx hb hts hi1 hown hK.1 hKp 0 rfl rfl 0 (by decide) (hts (.fieldLink RX1 22 "SpriteLines$Packing" "state" "LSpriteLines$State;") (by decide +kernel)) (fun _ h9 => h9) rfl dX1_carryOut_56 ?_
        refine va_get (D := G) (ci := 4) (v := .ref ((sh a 1) 1)) (C := RX4) (T := TX4) (N := 9) hx hb hts hi4 hown hK.1 hPs 0 rfl rfl 4 (by decide) (hts (.fieldLink RX1 30 "SpriteLines$State" "sheet" "LSpriteLines$Sheet;") (by decide +kernel)) (fun _ h9 => h9) rfl dX1_carryOut_59 ?_
        refine lv_iload_n hx hb dX1_carryOut_62 rfl (lv_at hl 3 rfl) ?_
        refine z_ro (zrV (As := [.int (zI j)]) (rest := [.int (zI (cntI f j)), .ref ((sh a 1) 1)]) ⟨hx, hb, hml, hown, hts⟩ (c_X3_lowOf l G cs (sh a 1) (up2 (up2 S 1 (P1 S f (S 0 1))) 5 (pkX (S 5) f (j).toNat)) j (by omega)) gX1_carryOut_X3_lowOf rfl qX3_lowOf rfl rfl ⟨Nat.le_of_ble_eq_true rfl, Nat.le_of_ble_eq_true rfl⟩ hPs hK (va_recv hK.1 hPs (ci := 3) (q0 := 1) rfl rfl) hl.1 rfl (Nat.le_of_ble_eq_true rfl) dX1_carryOut_63 ⟨Nat.le_of_ble_eq_true rfl, Nat.le_of_ble_eq_true rfl⟩) ?_
        refine z_top (v' := .long (lB (bL (pkX (S 5) f j.toNat) j))) rfl ?_
        refine lv_aload_n hx hb dX1_carryOut_66 rfl (lv_at hl 0 rfl) ?_
        refine va_get (D := G) (ci := 1) (v := .ref ((sh a 1) 0)) (C := RX1) (T := TX1) (N := 4) hx hb hts hi1 hown hK.1 hKp 0 rfl rfl 0 (by decide) (hts (.fieldLink RX1 22 "SpriteLines$Packing" "state" "LSpriteLines$State;") (by decide +kernel)) (fun _ h9 => h9) rfl dX1_carryOut_67 ?_
        refine va_get (D := G) (ci := 4) (v := .ref ((sh a 1) 1)) (C := RX4) (T := TX4) (N := 9) hx hb hts hi4 hown hK.1 hPs 0 rfl rfl 4 (by decide) (hts (.fieldLink RX1 30 "SpriteLines$State" "sheet" "LSpriteLines$Sheet;") (by decide +kernel)) (fun _ h9 => h9) rfl dX1_carryOut_70 ?_
        refine lv_iload_n hx hb dX1_carryOut_73 rfl (lv_at hl 3 rfl) ?_
        refine z_ro (zrV (As := [.int (zI j)]) (rest := [.long (lB (bL (pkX (S 5) f j.toNat) j)), .int (zI (cntI f j)), .ref ((sh a 1) 1)]) ⟨hx, hb, hml, hown, hts⟩ (c_X3_highOf l G cs (sh a 1) (up2 (up2 S 1 (P1 S f (S 0 1))) 5 (pkX (S 5) f (j).toNat)) j (by omega)) gX1_carryOut_X3_highOf rfl qX3_highOf rfl rfl ⟨Nat.le_of_ble_eq_true rfl, Nat.le_of_ble_eq_true rfl⟩ hPs hK (va_recv hK.1 hPs (ci := 3) (q0 := 1) rfl rfl) hl.1 rfl (Nat.le_of_ble_eq_true rfl) dX1_carryOut_74 ⟨Nat.le_of_ble_eq_true rfl, Nat.le_of_ble_eq_true rfl⟩) ?_
        refine z_top (v' := .long (lB (bH (pkX (S 5) f j.toNat) j))) rfl ?_
        refine z_v (zrV (As := [.int (zI (cntI f j)), .long (lB (bL (pkX (S 5) f j.toNat) j)), .long (lB (bH (pkX (S 5) f j.toNat) j))]) (rest := []) ⟨hx, hb, hml, hown, hts⟩ (c_X3_putPlanes l G cs (sh a 1) (up2 (up2 S 1 (P1 S f (S 0 1))) 5 (pkX (S 5) f (j).toNat)) (cntI f j) (bL (pkX (S 5) f j.toNat) j) (bH (pkX (S 5) f j.toNat) j) ia1 (by omega)) gX1_carryOut_X3_putPlanes rfl qX3_putPlanes rfl rfl ⟨Nat.le_of_ble_eq_true rfl, Nat.le_of_ble_eq_true rfl⟩ hPs hK (va_recv hK.1 hPs (ci := 3) (q0 := 1) rfl rfl) hl.1 rfl (Nat.le_of_ble_eq_true rfl) dX1_carryOut_77 ⟨Nat.le_of_ble_eq_true rfl, Nat.le_of_ble_eq_true rfl⟩) hS (fun q h => ax_mono (ax_sh h) (by decide) (by decide)) (fun q h => ax_mono (ax_sh h) (by decide) (by decide)) (fun H locs hpost hle hk hS => ?_)
        have hPs' := hpost
        have hKp := keepO (ordPk cs (sh a 13) ((sh a 1) 0) (aI U) (aI Q) (aI N)) hKp hk (fun j hj ⟨i, h1, h2, h3⟩ => absurd (ia (13 + j) (1 + i) (by omega) (by omega) h3) (by omega))
        have hPs : va_P G vwCl (stW cs (sh a 1) (up2 (up2 (up2 S 1 (P1 S f (S 0 1))) 5 (pkX (S 5) f (j).toNat)) 5 (putRw ((up2 (up2 S 1 (P1 S f (S 0 1))) 5 (pkX (S 5) f (j).toNat)) 5) (cntI f j) 64 (bL (pkX (S 5) f j.toNat) j) (bH (pkX (S 5) f j.toNat) j)))) H := hPs'
        have hPs : va_P G vwCl (stW cs (sh a 1) (up2 (up2 S 1 (P1 S f (S 0 1))) 5 (putRw (pkX (S 5) f (j).toNat) (cntI f j) 64 (bL (pkX (S 5) f (j).toNat) j) (bH (pkX (S 5) f (j).toNat) j)))) H := (by rw [up2_2, up2_s] at hPs; exact hPs)
        refine z_iinc (k := 2) (lv' := [(2, .int (zI ((cntI f j) + 1))), (0, .ref ((sh a 13) 0)), (1, .int (zI (S 0 0))), (3, .int (zI j))]) hx hb dX1_carryOut_80 hl rfl (by decide) rfl (fun ls hl => ?_)
        refine z_iinc (k := 3) (lv' := [(3, .int (zI (j + 1))), (2, .int (zI ((cntI f j) + 1))), (0, .ref ((sh a 13) 0)), (1, .int (zI (S 0 0)))]) hx hb dX1_carryOut_83 hl rfl (by decide) rfl (fun ls hl => ?_)
        refine lv_goto (tgt := 33) hx hb dX1_carryOut_86 (by decide) ?_
        exact ih (j + 1) H locs ⟨(by omega), (by rw [pkX_t (S 5) hI.1 c3]; exact hPs), hKp⟩ hS (by omega) ls (by show lv_has ls 4 [(0, .ref ((sh a 13) 0)), (1, .int (zI (S 0 0))), (2, .int (zI (cntI f (j + 1)))), (3, .int (zI (j + 1)))]; rw [cntI_t hI.1 c3]; exact lv_sub hl [2, 3, 1, 0] rfl)
  · skip
    refine lv_aload_n hx hb dX1_carryOut_13 rfl (lv_at hl 0 rfl) ?_
    refine lv_iload_n hx hb dX1_carryOut_14 rfl (lv_at hl 1 rfl) ?_
    refine z_v (zrV (As := [.int (zI i)]) (rest := []) (Pw := fun H => va_P G vwCl (stW cs (sh a 1) (up2 S 1 (P1 S f i))) H ∧ va_P G vwCl (pkW cs (sh a 13) ((sh a 1) 0) (aI U) (aI Q) (aI N)) H) ⟨hx, hb, hml, hown, hts⟩ (c_X1_unite l G cs a S U Q N f i ia wf0 hU hN (by omega)) gX1_carryOut_X1_unite rfl qX1_unite rfl rfl ⟨Nat.le_of_ble_eq_true rfl, Nat.le_of_ble_eq_true rfl⟩ ⟨hPs, hKp⟩ hK (va_recv hK.1 hKp (ci := 1) (q0 := 0) rfl rfl) hl.1 rfl (Nat.le_of_ble_eq_true rfl) dX1_carryOut_15 ⟨Nat.le_of_ble_eq_true rfl, Nat.le_of_ble_eq_true rfl⟩) hS (fun q h => ax_mono h (by decide) (by decide)) (fun q h => ax_mono h (by decide) (by decide)) (fun H locs hpost hle hk hS => ?_)
    have hPs' := hpost
    have hKp := keepO (ordPk cs (sh a 13) ((sh a 1) 0) (aI U) (aI Q) (aI N)) hKp hk (fun j hj ⟨i, h1, h2, h3⟩ => absurd (ia (13 + j) i (by omega) (by omega) h3) (by omega))
    have hPs : va_P G vwCl (stW cs (sh a 1) (up2 S 1 (P1 S f (i + 1)))) H := hPs'
    refine z_iinc (k := 1) (lv' := [(1, .int (zI (i + 1))), (0, .ref ((sh a 13) 0))]) hx hb dX1_carryOut_18 hl rfl (by decide) rfl (fun ls hl => ?_)
    refine lv_goto (tgt := 2) hx hb dX1_carryOut_21 (by decide) ?_
    exact ih (i + 1) H locs ⟨(by omega), hPs, hKp⟩ hS (by omega) ls (lv_sub hl [1, 0] rfl)
