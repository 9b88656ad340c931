theorem zb_fit {x : Int} (h : x = 0 ∨ x = 1) : fits .boolean (.int (zI x)) = true := by
  rcases h with rfl | rfl <;> rfl
abbrev PS : Type := (Int → Int) × (Nat → Bool) × (Nat → Bool)
def pb (f : Nat → Bool) (t n : Int) (x : Bool) : Nat → Bool := fun k => f k || (decide (t ≤ (k : Int) ∧ (k : Int) < t + n) && x)
theorem pb_0 {f : Nat → Bool} {t : Int} {x : Bool} : pb f t 0 x = f := by
  funext k
  unfold pb
  rw [decide_eq_false (by omega)]
  simp
theorem pb_step {f : Nat → Bool} {t i : Int} {x : Bool} {k : Nat} (h : 0 ≤ t ∧ 0 ≤ i) : (pb f t i x k || (decide ((t + i).toNat ≤ k) && (decide (k - (t + i).toNat = 0) && x))) = pb f t (i + 1) x k := by
  unfold pb
  rw [Bool.or_assoc]
  refine congrArg (fun z => f k || z) ?_
  cases x with
  | false => simp
  | true =>
    rw [Bool.eq_iff_iff]
    simp only [Bool.or_eq_true, Bool.and_eq_true, decide_eq_true_eq, and_true]
    omega
theorem updZ_id {F : Int → Int} {a : Int} : updZ F a (F a) = F := by
  funext k
  unfold updZ
  by_cases h : k = a
  · rw [if_pos h, h]
  · rw [if_neg h]
theorem updZ_2 {F : Int → Int} {a x y : Int} : updZ (updZ F a x) a y = updZ F a y := by
  funext k
  unfold updZ
  by_cases h : k = a
  · rw [if_pos h, if_pos h]
  · rw [if_neg h, if_neg h, if_neg h]
/-- ranges of what the text's reader holds -/
def TF (T : Int → Int) : Prop := (0 ≤ T 0 ∧ T 0 ≤ 60) ∧ (0 ≤ T 1 ∧ T 1 ≤ 7) ∧ (0 ≤ T 2 ∧ T 2 ≤ 8) ∧ (0 ≤ T 3 ∧ T 3 ≤ 3) ∧ (0 ≤ T 4 ∧ T 4 ≤ 1) ∧ (0 ≤ T 5 ∧ T 5 ≤ 1)
/-- the pixel v, n times; the row's width grows -/
def putsF (P : PS) (v n : Int) : Bool × PS := if P.1 2 + n > 8 then (false, P) else (true, updZ P.1 2 (P.1 2 + n), pb P.2.1 (8 * P.1 1 + P.1 2) n (decide (v % 2 = 1)), pb P.2.2 (8 * P.1 1 + P.1 2) n (decide (v / 2 % 2 = 1)))
def pixF (P : PS) (v : Int) : Bool × PS := putsF (updZ (updZ P.1 3 v) 4 1, P.2) v 1
def endF (P : PS) : Bool × PS := if P.1 2 < 8 ∨ 7 ≤ P.1 1 then (false, P) else (true, updZ (updZ P.1 1 (P.1 1 + 1)) 2 0, P.2)
def timesF (P : PS) (c_ : Int) : Bool × PS := if c_ < 50 ∨ 56 < c_ then (false, updZ P.1 5 0, P.2) else putsF (updZ P.1 5 0, P.2) (P.1 3) (c_ - 48 - 1)
def takesF (P : PS) (c_ : Int) : Bool × PS :=
  if P.1 5 = 1 then timesF P c_
  else if c_ = 120 then (decide (P.1 4 = 1), updZ (updZ P.1 4 0) 5 (P.1 4), P.2)
  else if c_ = 47 then endF (updZ P.1 4 0, P.2)
  else if c_ = 46 then pixF (updZ P.1 4 0, P.2) 0
  else if 49 ≤ c_ ∧ c_ ≤ 51 then pixF (updZ P.1 4 0, P.2) (c_ - 48)
  else (false, updZ P.1 4 0, P.2)
def rdS (T X : Int → Int) : Nat → PS
  | 0 => (updZ (updZ (updZ (updZ T 1 0) 2 0) 4 0) 5 0, fun _ => false, fun _ => false)
  | n + 1 => (takesF (rdS T X n) (X n)).2
def faultF (T X : Int → Int) : Int := if ff (fun k => !(takesF (rdS T X k.toNat) (X k)).1) 0 (T 0).toNat = -5 then (if (rdS T X (T 0).toNat).1 5 = 1 ∨ (rdS T X (T 0).toNat).1 2 < 8 then T 0 else -5) else ff (fun k => !(takesF (rdS T X k.toNat) (X k)).1) 0 (T 0).toNat
theorem tf_4 {T : Int → Int} (h : TF T) {x : Int} (hx : 0 ≤ x ∧ x ≤ 1) : TF (updZ T 4 x) := ⟨h.1, h.2.1, h.2.2.1, h.2.2.2.1, hx, h.2.2.2.2.2⟩
theorem tf_5 {T : Int → Int} (h : TF T) {x : Int} (hx : 0 ≤ x ∧ x ≤ 1) : TF (updZ T 5 x) := ⟨h.1, h.2.1, h.2.2.1, h.2.2.2.1, h.2.2.2.2.1, hx⟩
theorem tf_3 {T : Int → Int} (h : TF T) {x : Int} (hx : 0 ≤ x ∧ x ≤ 3) : TF (updZ T 3 x) := ⟨h.1, h.2.1, h.2.2.1, hx, h.2.2.2.2.1, h.2.2.2.2.2⟩
theorem tf_2 {T : Int → Int} (h : TF T) {x : Int} (hx : 0 ≤ x ∧ x ≤ 8) : TF (updZ T 2 x) := ⟨h.1, h.2.1, hx, h.2.2.2.1, h.2.2.2.2.1, h.2.2.2.2.2⟩
theorem tf_1 {T : Int → Int} (h : TF T) {x : Int} (hx : 0 ≤ x ∧ x ≤ 7) : TF (updZ T 1 x) := ⟨h.1, hx, h.2.2.1, h.2.2.2.1, h.2.2.2.2.1, h.2.2.2.2.2⟩
theorem tf_pix {T : Int → Int} (h : TF T) {v : Int} (hv : 0 ≤ v ∧ v ≤ 3) : TF (updZ (updZ T 3 v) 4 1) := tf_4 (tf_3 h hv) (by decide)
theorem puts_tf {P : PS} (h : TF P.1) {v n : Int} (hn : 0 ≤ n) : TF (putsF P v n).2.1 := by
  unfold putsF
  split
  · exact h
  · exact tf_2 h (by have := h.2.2.1; omega)
theorem puts_0 (P : PS) (v n : Int) : (putsF P v n).2.1 0 = P.1 0 := by
  unfold putsF
  split
  · rfl
  · rfl
theorem takes_tf {P : PS} (h : TF P.1) {c_ : Int} : TF (takesF P c_).2.1 := by
  have h4 := tf_4 h (x := 0) (by decide)
  unfold takesF
  split
  · unfold timesF
    split
    · exact tf_5 h (by decide)
    · exact puts_tf (P := (updZ P.1 5 0, P.2)) (tf_5 h (by decide)) (by omega)
  · split
    · exact tf_5 h4 h.2.2.2.2.1
    · split
      · unfold endF
        split
        · exact h4
        · rename_i h9
          exact tf_2 (tf_1 h4 (by have := h4.2.1; show 0 ≤ updZ P.1 4 0 1 + 1 ∧ _; omega)) (by decide)
      · split
        · exact puts_tf (P := (updZ (updZ (updZ P.1 4 0) 3 0) 4 1, P.2)) (tf_pix h4 (by decide)) (by decide)
        · split
          · exact puts_tf (P := (updZ (updZ (updZ P.1 4 0) 3 (c_ - 48)) 4 1, P.2)) (tf_pix h4 (by omega)) (by decide)
          · exact h4
theorem takes_0 (P : PS) (c_ : Int) : (takesF P c_).2.1 0 = P.1 0 := by
  unfold takesF
  split
  · unfold timesF
    split
    · rfl
    · exact (puts_0 _ _ _).trans rfl
  · split
    · rfl
    · split
      · unfold endF
        split
        · rfl
        · rfl
      · split
        · exact (puts_0 _ _ _).trans rfl
        · split
          · exact (puts_0 _ _ _).trans rfl
          · rfl
theorem rdS_0 (T X : Int → Int) (n : Nat) : (rdS T X n).1 0 = T 0 := by
  induction n with
  | zero => rfl
  | succ n ih => exact (takes_0 _ _).trans ih
theorem rdS_tf {T X : Int → Int} (h : TF T) (n : Nat) : TF (rdS T X n).1 := by
  induction n with
  | zero => exact tf_5 (tf_4 (tf_2 (tf_1 h (by decide)) (by decide)) (by decide)) (by decide)
  | succ n ih => exact takes_tf ih
theorem rdS_s {T X : Int → Int} {i : Int} (h : 0 ≤ i) : rdS T X (i + 1).toNat = (takesF (rdS T X i.toNat) (X i)).2 := by
  obtain ⟨n, rfl⟩ := Int.eq_ofNat_of_zero_le h
  rfl
theorem fault_at {T X : Int → Int} {i : Int} (h0 : 0 ≤ i) (h1 : i < T 0) (hJ : ∀ j, 0 ≤ j → j < i → (takesF (rdS T X j.toNat) (X j)).1 = true) (h : (takesF (rdS T X i.toNat) (X i)).1 = false) : faultF T X = i := by
  have e : ff (fun k => !(takesF (rdS T X k.toNat) (X k)).1) 0 (T 0).toNat = i := ff_hit i (fun j q1 q2 => by simp [hJ j q1 q2]) h0 (by omega) (by simp [h])
  unfold faultF
  rw [e, if_neg (by omega)]
theorem fault_end {T X : Int → Int} {i : Int} (h : T 0 ≤ i) (h0 : 0 ≤ i) (h1 : i ≤ T 0) (hJ : ∀ j, 0 ≤ j → j < i → (takesF (rdS T X j.toNat) (X j)).1 = true) (hc : (rdS T X i.toNat).1 5 = 1 ∨ (rdS T X i.toNat).1 2 < 8) : faultF T X = T 0 := by
  have hi : i = T 0 := by omega
  subst hi
  have e : ff (fun k => !(takesF (rdS T X k.toNat) (X k)).1) 0 (T 0).toNat = -5 := ff_none (fun j q1 q2 => by simp [hJ j q1 (by omega)])
  unfold faultF
  rw [if_pos e, if_pos hc]
theorem fault_no {T X : Int → Int} {i : Int} (h : T 0 ≤ i) (h0 : 0 ≤ i) (h1 : i ≤ T 0) (hJ : ∀ j, 0 ≤ j → j < i → (takesF (rdS T X j.toNat) (X j)).1 = true) (hc : ¬ ((rdS T X i.toNat).1 5 = 1 ∨ (rdS T X i.toNat).1 2 < 8)) : faultF T X = -5 := by
  have hi : i = T 0 := by omega
  subst hi
  have e : ff (fun k => !(takesF (rdS T X k.toNat) (X k)).1) 0 (T 0).toNat = -5 := ff_none (fun j q1 q2 => by simp [hJ j q1 (by omega)])
  unfold faultF
  rw [if_pos e, if_neg hc]
set_option maxHeartbeats 4000000 in
set_option maxRecDepth 100000 in
theorem c_X2_puts (l : Launch) (G : va_G) (cs : Nat → ClassId) (a : Nat → Nat) (T : Int → Int) (lo hi_ : Nat → Bool) (X : Int → Int) (v n : Int) (ia : Inj a 62) (hT : TF T) (hv : 0 ≤ v ∧ v ≤ 3) (hn : 0 ≤ n ∧ n ≤ 8) : MW l yX2_puts wsX2_puts { frames := 0, cells := 0, slots := 0, locals := 0 } G cs [.ref ((sh a 17) 0), .int (zI v), .int (zI n)] (fun H => va_P G vwCl (txW cs (sh a 17) T lo hi_ X) H) (fun vv H => ∃ r : Bool × PS, r = putsF (T, lo, hi_) v n ∧ vv = .int (zI (b2 r.1)) ∧ va_P G vwCl (txW cs (sh a 17) r.2.1 r.2.2.1 r.2.2.2 X) H) (AX a 17 18) 0 0 := by
  refine m_intro (Pw := (fun H => va_P G vwCl (txW cs (sh a 17) T lo hi_ X) H)) (cc := cX2_puts) (maxL := 5) (ret := some .boolean) RX2 (by decide) rfl rfl (Nat.le_of_ble_eq_true rfl) ?_
  intro pP eE sS mM below meth cC hx hb hr hts hown hml hlk hnm hPre hK ls hl
  have hl : lv_has ls 5 [(0, .ref ((sh a 17) 0)), (1, .int (zI v)), (2, .int (zI n))] := hl
  have hTx := hPre
  have hS : va_S (AX a 17 18) sS.heap sS.heap [] := va_S.rf
  have hi2 : ∀ w ∈ u_ws RX2 TX2 9, w ∈ wsX2_puts := by decide +kernel
  obtain ⟨t0, t1, t2, t3, t4, t5⟩ := hT
  refine lv_aload_n hx hb dX2_puts_0 rfl (lv_at hl 0 rfl) ?_
  refine va_get (D := G) (ci := 2) (v := .int (zI (T 2))) (C := RX2) (T := TX2) (N := 9) hx hb hts hi2 hown hK.1 hTx 0 rfl rfl 5 (by decide) (hts (.fieldLink RX2 29 "SpriteLines$PixelText" "width" "I") (by decide +kernel)) (fun _ h9 => h9) rfl dX2_puts_1 ?_
  refine lv_iload_n hx hb dX2_puts_4 rfl (lv_at hl 2 rfl) ?_
  refine z_iadd hx hb dX2_puts_5 ?_
  refine z_bipush (n := 8) hx hb dX2_puts_6 (by decide) ?_
  refine z_icmp_le (tgt := 13) hx hb dX2_puts_8 (by decide) (by omega) (by omega) (fun c1 => ?_) (fun c1 => ?_)
  · skip
    refine z_iconst (n := 0) hx hb dX2_puts_13 ?_
    refine lv_istore_n (lv' := [(3, .int (zI 0)), (0, .ref ((sh a 17) 0)), (1, .int (zI v)), (2, .int (zI n))]) hx hb dX2_puts_14 rfl hl (by decide) rfl (fun ls hl => ?_)
    -- loop 15
    refine z_loopH (nL := 5) (fun (i : Int) => [(0, .ref ((sh a 17) 0)), (1, .int (zI v)), (2, .int (zI n)), (3, .int (zI i))]) (fun (i : Int) (H : Heap) => (0 ≤ i ∧ i ≤ n) ∧ va_P G vwCl (txW cs (sh a 17) (updZ T 2 (T 2 + i)) (pb lo (8 * T 1 + T 2) i (decide (v % 2 = 1))) (pb hi_ (8 * T 1 + T 2) i (decide (v / 2 % 2 = 1))) X) H) (fun (i : Int) => (n - i).toNat) 0 ⟨(by omega), (by rw [pb_0, pb_0, Int.add_zero, updZ_id]; exact hTx)⟩ hS (lv_sub hl [1, 2, 3, 0] rfl) (fun i H locs hIH hS ih ls hl => ?_)
    obtain ⟨hI, hTx⟩ := hIH
    have hl : lv_has ls 5 [(0, .ref ((sh a 17) 0)), (1, .int (zI v)), (2, .int (zI n)), (3, .int (zI i))] := hl
    refine lv_iload_n hx hb dX2_puts_15 rfl (lv_at hl 3 rfl) ?_
    refine lv_iload_n hx hb dX2_puts_16 rfl (lv_at hl 2 rfl) ?_
    refine z_icmp_ge (tgt := 84) hx hb dX2_puts_17 (by decide) (by omega) (by omega) (fun c2 => ?_) (fun c2 => ?_)
    · skip
      refine z_iconst (n := 1) hx hb dX2_puts_84 ?_
      exact w_zret hx hb hr hlk dX2_puts_85 (by omega) hS ⟨_, rfl, by unfold putsF; rw [if_neg (show ¬ T 2 + n > 8 by omega)]; rfl, by unfold putsF; rw [if_neg (show ¬ T 2 + n > 8 by omega)]; rw [show i = n by omega] at hTx; exact hTx⟩
    · skip
      refine z_bipush (n := 8) hx hb dX2_puts_20 (by decide) ?_
      refine lv_aload_n hx hb dX2_puts_22 rfl (lv_at hl 0 rfl) ?_
      refine va_get (D := G) (ci := 2) (v := .int (zI ((updZ T 2 (T 2 + i)) 1))) (C := RX2) (T := TX2) (N := 9) hx hb hts hi2 hown hK.1 hTx 0 rfl rfl 4 (by decide) (hts (.fieldLink RX2 26 "SpriteLines$PixelText" "row" "I") (by decide +kernel)) (fun _ h9 => h9) rfl dX2_puts_23 ?_
      refine z_topi (b := T 1) rfl ?_
      refine z_imul hx hb dX2_puts_26 ?_
      refine lv_aload_n hx hb dX2_puts_27 rfl (lv_at hl 0 rfl) ?_
      refine va_get (D := G) (ci := 2) (v := .int (zI ((updZ T 2 (T 2 + i)) 2))) (C := RX2) (T := TX2) (N := 9) hx hb hts hi2 hown hK.1 hTx 0 rfl rfl 5 (by decide) (hts (.fieldLink RX2 29 "SpriteLines$PixelText" "width" "I") (by decide +kernel)) (fun _ h9 => h9) rfl dX2_puts_28 ?_
      refine z_topi (b := T 2 + i) rfl ?_
      refine z_iadd hx hb dX2_puts_31 ?_
      refine z_topi (b := 8 * T 1 + T 2 + i) (by omega) ?_
      refine lv_istore (lv' := [(4, .int (zI (8 * T 1 + T 2 + i))), (0, .ref ((sh a 17) 0)), (1, .int (zI v)), (2, .int (zI n)), (3, .int (zI i))]) hx hb dX2_puts_32 hl (by decide) rfl (fun ls hl => ?_)
      refine lv_aload_n hx hb dX2_puts_34 rfl (lv_at hl 1 rfl) ?_
      refine lv_dup hx hb dX2_puts_35 rfl ?_
      refine va_get (D := G) (ci := 2) (v := .long (lB (pb lo (8 * T 1 + T 2) i (decide (v % 2 = 1))))) (C := RX2) (T := TX2) (N := 9) hx hb hts hi2 hown hK.1 hTx 0 rfl rfl 2 (by decide) (hts (.fieldLink RX2 19 "SpriteLines$PixelText" "low" "J") (by decide +kernel)) (fun _ h9 => h9) rfl dX2_puts_36 ?_
      refine lv_iload_n hx hb dX2_puts_39 rfl (lv_at hl 2 rfl) ?_
      refine z_iconst (n := 1) hx hb dX2_puts_40 ?_
      refine lv_iand hx hb dX2_puts_41 ?_
      refine z_top (v' := .int (zI (v % 2))) (congrArg Value.int (zI_and1 hv)) ?_
      refine lv_i2l (v := (lB (fun k => decide (k = 0) && decide (v % 2 = 1)))) hx hb dX2_puts_42 (i2l_b _) ?_
      refine lv_iload hx hb dX2_puts_43 (lv_at hl 0 rfl) ?_
      refine z_lshl hx hb dX2_puts_45 (by omega) ?_
      refine z_lor hx hb dX2_puts_46 ?_
      refine z_top (v' := .long (lB (pb lo (8 * T 1 + T 2) (i + 1) (decide (v % 2 = 1))))) (congrArg Value.long (lB_congr (fun k _ => pb_step (t := 8 * T 1 + T 2) (i := i) (by omega)))) ?_
      refine z_put (G := G) (ci := 2) (v := .long (lB (pb lo (8 * T 1 + T 2) (i + 1) (decide (v % 2 = 1))))) (ty := .long) (C := RX2) (T := TX2) (N := 9) hx hb hts hi2 tyX2 tyX2_ok nmX2 hown hK.1 hTx (Ord.D (ordTx cs (sh a 17) (updZ T 2 (T 2 + i)) (pb lo (8 * T 1 + T 2) i (decide (v % 2 = 1))) (pb hi_ (8 * T 1 + T 2) i (decide (v / 2 % 2 = 1))) X) (inj_sh (w := 2) ia (by decide))) hS 0 rfl rfl 2 (by decide) (hts (.fieldLink RX2 19 "SpriteLines$PixelText" "low" "J") (by decide +kernel)) (fun _ h9 => h9) rfl (by decide +kernel) rfl rfl (Nat.le_of_ble_eq_true rfl) ⟨17, by decide, by decide, rfl⟩ dX2_puts_47 (fun H locs hP1 hle hk hS => ?_)
      have hTx : va_P G vwCl (txW cs (sh a 17) (updZ T 2 (T 2 + i)) (pb lo (8 * T 1 + T 2) (i + 1) (decide (v % 2 = 1))) (pb hi_ (8 * T 1 + T 2) i (decide (v / 2 % 2 = 1))) X) H := hP1
      refine lv_aload_n hx hb dX2_puts_50 rfl (lv_at hl 1 rfl) ?_
      refine lv_dup hx hb dX2_puts_51 rfl ?_
      refine va_get (D := G) (ci := 2) (v := .long (lB (pb hi_ (8 * T 1 + T 2) i (decide (v / 2 % 2 = 1))))) (C := RX2) (T := TX2) (N := 9) hx hb hts hi2 hown hK.1 hTx 0 rfl rfl 3 (by decide) (hts (.fieldLink RX2 23 "SpriteLines$PixelText" "high" "J") (by decide +kernel)) (fun _ h9 => h9) rfl dX2_puts_52 ?_
      refine lv_iload_n hx hb dX2_puts_55 rfl (lv_at hl 2 rfl) ?_
      refine z_iconst (n := 1) hx hb dX2_puts_56 ?_
      refine lv_ishr hx hb dX2_puts_57 ?_
      refine z_top (v' := .int (zI (v / 2))) (congrArg Value.int (zI_shr1 hv)) ?_
      refine z_iconst (n := 1) hx hb dX2_puts_58 ?_
      refine lv_iand hx hb dX2_puts_59 ?_
      refine z_top (v' := .int (zI (v / 2 % 2))) (congrArg Value.int (zI_and1 (by omega))) ?_
      refine lv_i2l (v := (lB (fun k => decide (k = 0) && decide (v / 2 % 2 = 1)))) hx hb dX2_puts_60 (i2l_b _) ?_
      refine lv_iload hx hb dX2_puts_61 (lv_at hl 0 rfl) ?_
      refine z_lshl hx hb dX2_puts_63 (by omega) ?_
      refine z_lor hx hb dX2_puts_64 ?_
      refine z_top (v' := .long (lB (pb hi_ (8 * T 1 + T 2) (i + 1) (decide (v / 2 % 2 = 1))))) (congrArg Value.long (lB_congr (fun k _ => pb_step (t := 8 * T 1 + T 2) (i := i) (by omega)))) ?_
      refine z_put (G := G) (ci := 2) (v := .long (lB (pb hi_ (8 * T 1 + T 2) (i + 1) (decide (v / 2 % 2 = 1))))) (ty := .long) (C := RX2) (T := TX2) (N := 9) hx hb hts hi2 tyX2 tyX2_ok nmX2 hown hK.1 hTx (Ord.D (ordTx cs (sh a 17) (updZ T 2 (T 2 + i)) (pb lo (8 * T 1 + T 2) (i + 1) (decide (v % 2 = 1))) (pb hi_ (8 * T 1 + T 2) i (decide (v / 2 % 2 = 1))) X) (inj_sh (w := 2) ia (by decide))) hS 0 rfl rfl 3 (by decide) (hts (.fieldLink RX2 23 "SpriteLines$PixelText" "high" "J") (by decide +kernel)) (fun _ h9 => h9) rfl (by decide +kernel) rfl rfl (Nat.le_of_ble_eq_true rfl) ⟨17, by decide, by decide, rfl⟩ dX2_puts_65 (fun H locs hP1 hle hk hS => ?_)
      have hTx : va_P G vwCl (txW cs (sh a 17) (updZ T 2 (T 2 + i)) (pb lo (8 * T 1 + T 2) (i + 1) (decide (v % 2 = 1))) (pb hi_ (8 * T 1 + T 2) (i + 1) (decide (v / 2 % 2 = 1))) X) H := hP1
      refine lv_aload_n hx hb dX2_puts_68 rfl (lv_at hl 1 rfl) ?_
      refine lv_dup hx hb dX2_puts_69 rfl ?_
      refine va_get (D := G) (ci := 2) (v := .int (zI ((updZ T 2 (T 2 + i)) 2))) (C := RX2) (T := TX2) (N := 9) hx hb hts hi2 hown hK.1 hTx 0 rfl rfl 5 (by decide) (hts (.fieldLink RX2 29 "SpriteLines$PixelText" "width" "I") (by decide +kernel)) (fun _ h9 => h9) rfl dX2_puts_70 ?_
      refine z_topi (b := T 2 + i) rfl ?_
      refine z_iconst (n := 1) hx hb dX2_puts_73 ?_
      refine z_iadd hx hb dX2_puts_74 ?_
      refine z_put (G := G) (ci := 2) (v := .int (zI ((T 2 + i) + 1))) (ty := .int) (C := RX2) (T := TX2) (N := 9) hx hb hts hi2 tyX2 tyX2_ok nmX2 hown hK.1 hTx (Ord.D (ordTx cs (sh a 17) (updZ T 2 (T 2 + i)) (pb lo (8 * T 1 + T 2) (i + 1) (decide (v % 2 = 1))) (pb hi_ (8 * T 1 + T 2) (i + 1) (decide (v / 2 % 2 = 1))) X) (inj_sh (w := 2) ia (by decide))) hS 0 rfl rfl 5 (by decide) (hts (.fieldLink RX2 29 "SpriteLines$PixelText" "width" "I") (by decide +kernel)) (fun _ h9 => h9) rfl (by decide +kernel) rfl rfl (Nat.le_of_ble_eq_true rfl) ⟨17, by decide, by decide, rfl⟩ dX2_puts_75 (fun H locs hP1 hle hk hS => ?_)
      have hTx : va_P G vwCl (txW cs (sh a 17) (updZ T 2 (T 2 + (i + 1))) (pb lo (8 * T 1 + T 2) (i + 1) (decide (v % 2 = 1))) (pb hi_ (8 * T 1 + T 2) (i + 1) (decide (v / 2 % 2 = 1))) X) H := (by rw [← Int.add_assoc, ← updZ_2 (F := T) (x := T 2 + i)]; exact hP1)
      refine z_iinc (k := 4) (lv' := [(3, .int (zI (i + 1))), (4, .int (zI (8 * T 1 + T 2 + i))), (0, .ref ((sh a 17) 0)), (1, .int (zI v)), (2, .int (zI n))]) hx hb dX2_puts_78 hl rfl (by decide) rfl (fun ls hl => ?_)
      refine lv_goto (tgt := 15) hx hb dX2_puts_81 (by decide) ?_
      exact ih (i + 1) H locs ⟨(by omega), hTx⟩ hS (by omega) ls (lv_sub hl [2, 3, 4, 0] rfl)
  · skip
    refine z_iconst (n := 0) hx hb dX2_puts_11 ?_
    exact w_zret hx hb hr hlk dX2_puts_12 (by omega) hS ⟨_, rfl, by unfold putsF; rw [if_pos (show T 2 + n > 8 by omega)]; rfl, by unfold putsF; rw [if_pos (show T 2 + n > 8 by omega)]; exact hTx⟩

set_option maxHeartbeats 4000000 in
set_option maxRecDepth 100000 in
theorem c_X2_takesPixel (l : Launch) (G : va_G) (cs : Nat → ClassId) (a : Nat → Nat) (T : Int → Int) (lo hi_ : Nat → Bool) (X : Int → Int) (v : Int) (ia : Inj a 62) (hT : TF T) (hv : 0 ≤ v ∧ v ≤ 3) : MW l yX2_takesPixel wsX2_takesPixel { frames := 1, cells := 0, slots := 0, locals := 24 } G cs [.ref ((sh a 17) 0), .int (zI v)] (fun H => va_P G vwCl (txW cs (sh a 17) T lo hi_ X) H) (fun vv H => ∃ r : Bool × PS, r = pixF (T, lo, hi_) v ∧ vv = .int (zI (b2 r.1)) ∧ va_P G vwCl (txW cs (sh a 17) r.2.1 r.2.2.1 r.2.2.2 X) H) (AX a 17 18) 0 0 := by
  refine m_intro (Pw := (fun H => va_P G vwCl (txW cs (sh a 17) T lo hi_ X) H)) (cc := cX2_takesPixel) (maxL := 2) (ret := some .boolean) RX2 (by decide) rfl rfl (Nat.le_of_ble_eq_true rfl) ?_
  intro pP eE sS mM below meth cC hx hb hr hts hown hml hlk hnm hPre hK ls hl
  have hl : lv_has ls 2 [(0, .ref ((sh a 17) 0)), (1, .int (zI v))] := hl
  have hTx := hPre
  have hS : va_S (AX a 17 18) sS.heap sS.heap [] := va_S.rf
  have hi2 : ∀ w ∈ u_ws RX2 TX2 9, w ∈ wsX2_takesPixel := by decide +kernel
  refine lv_aload_n hx hb dX2_takesPixel_0 rfl (lv_at hl 0 rfl) ?_
  refine lv_iload_n hx hb dX2_takesPixel_1 rfl (lv_at hl 1 rfl) ?_
  refine z_put (G := G) (ci := 2) (v := .int (zI v)) (ty := .int) (C := RX2) (T := TX2) (N := 9) hx hb hts hi2 tyX2 tyX2_ok nmX2 hown hK.1 hTx (Ord.D (ordTx cs (sh a 17) T lo hi_ X) (inj_sh (w := 2) ia (by decide))) hS 0 rfl rfl 6 (by decide) (hts (.fieldLink RX2 54 "SpriteLines$PixelText" "lastPixel" "I") (by decide +kernel)) (fun _ h9 => h9) rfl (by decide +kernel) rfl rfl (Nat.le_of_ble_eq_true rfl) ⟨17, by decide, by decide, rfl⟩ dX2_takesPixel_2 (fun H locs hP1 hle hk hS => ?_)
  have hTx : va_P G vwCl (txW cs (sh a 17) (updZ T 3 v) lo hi_ X) H := hP1
  refine lv_aload_n hx hb dX2_takesPixel_5 rfl (lv_at hl 0 rfl) ?_
  refine z_iconst (n := 1) hx hb dX2_takesPixel_6 ?_
  refine z_put (G := G) (ci := 2) (v := .int (zI 1)) (ty := .boolean) (C := RX2) (T := TX2) (N := 9) hx hb hts hi2 tyX2 tyX2_ok nmX2 hown hK.1 hTx (Ord.D (ordTx cs (sh a 17) (updZ T 3 v) lo hi_ X) (inj_sh (w := 2) ia (by decide))) hS 0 rfl rfl 7 (by decide) (hts (.fieldLink RX2 32 "SpriteLines$PixelText" "behindPixel" "Z") (by decide +kernel)) (fun _ h9 => h9) rfl (by decide +kernel) (zb_nar (by omega)) (zb_fit (by omega)) (Nat.le_of_ble_eq_true rfl) ⟨17, by decide, by decide, rfl⟩ dX2_takesPixel_7 (fun H locs hP1 hle hk hS => ?_)
  have hTx : va_P G vwCl (txW cs (sh a 17) (updZ (updZ T 3 v) 4 1) lo hi_ X) H := hP1
  refine lv_aload_n hx hb dX2_takesPixel_10 rfl (lv_at hl 0 rfl) ?_
  refine lv_iload_n hx hb dX2_takesPixel_11 rfl (lv_at hl 1 rfl) ?_
  refine z_iconst (n := 1) hx hb dX2_takesPixel_12 ?_
  refine z_w (zrV (As := [.int (zI v), .int (zI 1)]) (rest := []) ⟨hx, hb, hml, hown, hts⟩ (c_X2_puts l G cs a (updZ (updZ T 3 v) 4 1) lo hi_ X v 1 ia (tf_pix hT hv) (by omega) (by omega)) gX2_takesPixel_X2_puts rfl qX2_puts rfl rfl ⟨Nat.le_of_ble_eq_true rfl, Nat.le_of_ble_eq_true rfl⟩ hTx hK (va_recv hK.1 hTx (ci := 2) (q0 := 0) rfl rfl) hl.1 rfl (Nat.le_of_ble_eq_true rfl) dX2_takesPixel_13 ⟨Nat.le_of_ble_eq_true rfl, Nat.le_of_ble_eq_true rfl⟩) hS (fun q h => ax_mono h (by decide) (by decide)) (fun q h => ax_mono h (by decide) (by decide)) (fun v H locs hpost hle hk hS => ?_)
  obtain ⟨r, hr9, rfl, hTx'⟩ := hpost
  have hTx : va_P G vwCl (txW cs (sh a 17) r.2.1 r.2.2.1 r.2.2.2 X) H := hTx'
  exact w_zret hx hb hr hlk dX2_takesPixel_16 (by have := b2_r r.1; omega) hS ⟨r, hr9.trans (by rfl), rfl, hTx⟩

set_option maxHeartbeats 4000000 in
set_option maxRecDepth 100000 in
theorem c_X2_takesEndOfRow (l : Launch) (G : va_G) (cs : Nat → ClassId) (a : Nat → Nat) (T : Int → Int) (lo hi_ : Nat → Bool) (X : Int → Int) (ia : Inj a 62) (hT : TF T) : MW l yX2_takesEndOfRow wsX2_takesEndOfRow { frames := 0, cells := 0, slots := 0, locals := 0 } G cs [.ref ((sh a 17) 0)] (fun H => va_P G vwCl (txW cs (sh a 17) T lo hi_ X) H) (fun vv H => ∃ r : Bool × PS, r = endF (T, lo, hi_) ∧ vv = .int (zI (b2 r.1)) ∧ va_P G vwCl (txW cs (sh a 17) r.2.1 r.2.2.1 r.2.2.2 X) H) (AX a 17 18) 0 0 := by
  refine m_intro (Pw := (fun H => va_P G vwCl (txW cs (sh a 17) T lo hi_ X) H)) (cc := cX2_takesEndOfRow) (maxL := 1) (ret := some .boolean) RX2 (by decide) rfl rfl (Nat.le_of_ble_eq_true rfl) ?_
  intro pP eE sS mM below meth cC hx hb hr hts hown hml hlk hnm hPre hK ls hl
  have hl : lv_has ls 1 [(0, .ref ((sh a 17) 0))] := hl
  have hTx := hPre
  have hS : va_S (AX a 17 18) sS.heap sS.heap [] := va_S.rf
  have hi2 : ∀ w ∈ u_ws RX2 TX2 9, w ∈ wsX2_takesEndOfRow := by decide +kernel
  obtain ⟨t0, t1, t2, t3, t4, t5⟩ := hT
  refine lv_aload_n hx hb dX2_takesEndOfRow_0 rfl (lv_at hl 0 rfl) ?_
  refine va_get (D := G) (ci := 2) (v := .int (zI (T 2))) (C := RX2) (T := TX2) (N := 9) hx hb hts hi2 hown hK.1 hTx 0 rfl rfl 5 (by decide) (hts (.fieldLink RX2 29 "SpriteLines$PixelText" "width" "I") (by decide +kernel)) (fun _ h9 => h9) rfl dX2_takesEndOfRow_1 ?_
  refine z_bipush (n := 8) hx hb dX2_takesEndOfRow_4 (by decide) ?_
  refine z_icmp_lt (tgt := 18) hx hb dX2_takesEndOfRow_6 (by decide) (by omega) (by omega) (fun c1 => ?_) (fun c1 => ?_)
  · skip
    refine z_iconst (n := 0) hx hb dX2_takesEndOfRow_18 ?_
    exact w_zret hx hb hr hlk dX2_takesEndOfRow_19 (by omega) hS ⟨_, rfl, by unfold endF; rw [if_pos (show T 2 < 8 ∨ 7 ≤ T 1 by omega)]; rfl, by unfold endF; rw [if_pos (show T 2 < 8 ∨ 7 ≤ T 1 by omega)]; exact hTx⟩
  · skip
    refine lv_aload_n hx hb dX2_takesEndOfRow_9 rfl (lv_at hl 0 rfl) ?_
    refine va_get (D := G) (ci := 2) (v := .int (zI (T 1))) (C := RX2) (T := TX2) (N := 9) hx hb hts hi2 hown hK.1 hTx 0 rfl rfl 4 (by decide) (hts (.fieldLink RX2 26 "SpriteLines$PixelText" "row" "I") (by decide +kernel)) (fun _ h9 => h9) rfl dX2_takesEndOfRow_10 ?_
    refine z_bipush (n := 7) hx hb dX2_takesEndOfRow_13 (by decide) ?_
    refine z_icmp_lt (tgt := 20) hx hb dX2_takesEndOfRow_15 (by decide) (by omega) (by omega) (fun c2 => ?_) (fun c2 => ?_)
    · skip
      refine lv_aload_n hx hb dX2_takesEndOfRow_20 rfl (lv_at hl 0 rfl) ?_
      refine lv_dup hx hb dX2_takesEndOfRow_21 rfl ?_
      refine va_get (D := G) (ci := 2) (v := .int (zI (T 1))) (C := RX2) (T := TX2) (N := 9) hx hb hts hi2 hown hK.1 hTx 0 rfl rfl 4 (by decide) (hts (.fieldLink RX2 26 "SpriteLines$PixelText" "row" "I") (by decide +kernel)) (fun _ h9 => h9) rfl dX2_takesEndOfRow_22 ?_
      refine z_iconst (n := 1) hx hb dX2_takesEndOfRow_25 ?_
      refine z_iadd hx hb dX2_takesEndOfRow_26 ?_
      refine z_put (G := G) (ci := 2) (v := .int (zI ((T 1) + 1))) (ty := .int) (C := RX2) (T := TX2) (N := 9) hx hb hts hi2 tyX2 tyX2_ok nmX2 hown hK.1 hTx (Ord.D (ordTx cs (sh a 17) T lo hi_ X) (inj_sh (w := 2) ia (by decide))) hS 0 rfl rfl 4 (by decide) (hts (.fieldLink RX2 26 "SpriteLines$PixelText" "row" "I") (by decide +kernel)) (fun _ h9 => h9) rfl (by decide +kernel) rfl rfl (Nat.le_of_ble_eq_true rfl) ⟨17, by decide, by decide, rfl⟩ dX2_takesEndOfRow_27 (fun H locs hP1 hle hk hS => ?_)
      have hTx : va_P G vwCl (txW cs (sh a 17) (updZ T 1 ((T 1) + 1)) lo hi_ X) H := hP1
      refine lv_aload_n hx hb dX2_takesEndOfRow_30 rfl (lv_at hl 0 rfl) ?_
      refine z_iconst (n := 0) hx hb dX2_takesEndOfRow_31 ?_
      refine z_put (G := G) (ci := 2) (v := .int (zI 0)) (ty := .int) (C := RX2) (T := TX2) (N := 9) hx hb hts hi2 tyX2 tyX2_ok nmX2 hown hK.1 hTx (Ord.D (ordTx cs (sh a 17) (updZ T 1 ((T 1) + 1)) lo hi_ X) (inj_sh (w := 2) ia (by decide))) hS 0 rfl rfl 5 (by decide) (hts (.fieldLink RX2 29 "SpriteLines$PixelText" "width" "I") (by decide +kernel)) (fun _ h9 => h9) rfl (by decide +kernel) rfl rfl (Nat.le_of_ble_eq_true rfl) ⟨17, by decide, by decide, rfl⟩ dX2_takesEndOfRow_32 (fun H locs hP1 hle hk hS => ?_)
      have hTx : va_P G vwCl (txW cs (sh a 17) (updZ (updZ T 1 ((T 1) + 1)) 2 0) lo hi_ X) H := hP1
      refine z_iconst (n := 1) hx hb dX2_takesEndOfRow_35 ?_
      exact w_zret hx hb hr hlk dX2_takesEndOfRow_36 (by omega) hS ⟨_, rfl, by unfold endF; rw [if_neg (show ¬ (T 2 < 8 ∨ 7 ≤ T 1) by omega)]; rfl, by unfold endF; rw [if_neg (show ¬ (T 2 < 8 ∨ 7 ≤ T 1) by omega)]; exact hTx⟩
    · skip
      refine z_iconst (n := 0) hx hb dX2_takesEndOfRow_18 ?_
      exact w_zret hx hb hr hlk dX2_takesEndOfRow_19 (by omega) hS ⟨_, rfl, by unfold endF; rw [if_pos (show T 2 < 8 ∨ 7 ≤ T 1 by omega)]; rfl, by unfold endF; rw [if_pos (show T 2 < 8 ∨ 7 ≤ T 1 by omega)]; exact hTx⟩

set_option maxHeartbeats 4000000 in
set_option maxRecDepth 100000 in
theorem c_X2_takesTimes (l : Launch) (G : va_G) (cs : Nat → ClassId) (a : Nat → Nat) (T : Int → Int) (lo hi_ : Nat → Bool) (X : Int → Int) (c_ : Int) (ia : Inj a 62) (hT : TF T) (hc : 0 ≤ c_ ∧ c_ < 65536) : MW l yX2_takesTimes wsX2_takesTimes { frames := 1, cells := 0, slots := 0, locals := 24 } G cs [.ref ((sh a 17) 0), .int (zI c_)] (fun H => va_P G vwCl (txW cs (sh a 17) T lo hi_ X) H) (fun vv H => ∃ r : Bool × PS, r = timesF (T, lo, hi_) c_ ∧ vv = .int (zI (b2 r.1)) ∧ va_P G vwCl (txW cs (sh a 17) r.2.1 r.2.2.1 r.2.2.2 X) H) (AX a 17 18) 0 0 := by
  refine m_intro (Pw := (fun H => va_P G vwCl (txW cs (sh a 17) T lo hi_ X) H)) (cc := cX2_takesTimes) (maxL := 2) (ret := some .boolean) RX2 (by decide) rfl rfl (Nat.le_of_ble_eq_true rfl) ?_
  intro pP eE sS mM below meth cC hx hb hr hts hown hml hlk hnm hPre hK ls hl
  have hl : lv_has ls 2 [(0, .ref ((sh a 17) 0)), (1, .int (zI c_))] := hl
  have hTx := hPre
  have hS : va_S (AX a 17 18) sS.heap sS.heap [] := va_S.rf
  have hi2 : ∀ w ∈ u_ws RX2 TX2 9, w ∈ wsX2_takesTimes := by decide +kernel
  have hT0 := hT
  obtain ⟨t0, t1, t2, t3, t4, t5⟩ := hT
  refine lv_aload_n hx hb dX2_takesTimes_0 rfl (lv_at hl 0 rfl) ?_
  refine z_iconst (n := 0) hx hb dX2_takesTimes_1 ?_
  refine z_put (G := G) (ci := 2) (v := .int (zI 0)) (ty := .boolean) (C := RX2) (T := TX2) (N := 9) hx hb hts hi2 tyX2 tyX2_ok nmX2 hown hK.1 hTx (Ord.D (ordTx cs (sh a 17) T lo hi_ X) (inj_sh (w := 2) ia (by decide))) hS 0 rfl rfl 8 (by decide) (hts (.fieldLink RX2 36 "SpriteLines$PixelText" "behindTimes" "Z") (by decide +kernel)) (fun _ h9 => h9) rfl (by decide +kernel) (zb_nar (by omega)) (zb_fit (by omega)) (Nat.le_of_ble_eq_true rfl) ⟨17, by decide, by decide, rfl⟩ dX2_takesTimes_2 (fun H locs hP1 hle hk hS => ?_)
  have hTx : va_P G vwCl (txW cs (sh a 17) (updZ T 5 0) lo hi_ X) H := hP1
  refine lv_iload_n hx hb dX2_takesTimes_5 rfl (lv_at hl 1 rfl) ?_
  refine z_bipush (n := 50) hx hb dX2_takesTimes_6 (by decide) ?_
  refine z_icmp_lt (tgt := 17) hx hb dX2_takesTimes_8 (by decide) (by omega) (by omega) (fun c1 => ?_) (fun c1 => ?_)
  · skip
    refine z_iconst (n := 0) hx hb dX2_takesTimes_17 ?_
    exact w_zret hx hb hr hlk dX2_takesTimes_18 (by omega) hS ⟨_, rfl, by unfold timesF; rw [if_pos (show c_ < 50 ∨ 56 < c_ by omega)]; rfl, by unfold timesF; rw [if_pos (show c_ < 50 ∨ 56 < c_ by omega)]; exact hTx⟩
  · skip
    refine lv_iload_n hx hb dX2_takesTimes_11 rfl (lv_at hl 1 rfl) ?_
    refine z_bipush (n := 56) hx hb dX2_takesTimes_12 (by decide) ?_
    refine z_icmp_le (tgt := 19) hx hb dX2_takesTimes_14 (by decide) (by omega) (by omega) (fun c2 => ?_) (fun c2 => ?_)
    · skip
      refine lv_aload_n hx hb dX2_takesTimes_19 rfl (lv_at hl 0 rfl) ?_
      refine lv_aload_n hx hb dX2_takesTimes_20 rfl (lv_at hl 0 rfl) ?_
      refine va_get (D := G) (ci := 2) (v := .int (zI ((updZ T 5 0) 3))) (C := RX2) (T := TX2) (N := 9) hx hb hts hi2 hown hK.1 hTx 0 rfl rfl 6 (by decide) (hts (.fieldLink RX2 54 "SpriteLines$PixelText" "lastPixel" "I") (by decide +kernel)) (fun _ h9 => h9) rfl dX2_takesTimes_21 ?_
      refine z_topi (b := T 3) rfl ?_
      refine lv_iload_n hx hb dX2_takesTimes_24 rfl (lv_at hl 1 rfl) ?_
      refine z_bipush (n := 48) hx hb dX2_takesTimes_25 (by decide) ?_
      refine z_isub hx hb dX2_takesTimes_27 ?_
      refine z_iconst (n := 1) hx hb dX2_takesTimes_28 ?_
      refine z_isub hx hb dX2_takesTimes_29 ?_
      refine z_w (zrV (As := [.int (zI (T 3)), .int (zI ((c_ - 48) - 1))]) (rest := []) ⟨hx, hb, hml, hown, hts⟩ (c_X2_puts l G cs a (updZ T 5 0) lo hi_ X (T 3) ((c_ - 48) - 1) ia (tf_5 hT0 (by omega)) (by omega) (by omega)) gX2_takesTimes_X2_puts rfl qX2_puts rfl rfl ⟨Nat.le_of_ble_eq_true rfl, Nat.le_of_ble_eq_true rfl⟩ hTx hK (va_recv hK.1 hTx (ci := 2) (q0 := 0) rfl rfl) hl.1 rfl (Nat.le_of_ble_eq_true rfl) dX2_takesTimes_30 ⟨Nat.le_of_ble_eq_true rfl, Nat.le_of_ble_eq_true rfl⟩) hS (fun q h => ax_mono h (by decide) (by decide)) (fun q h => ax_mono h (by decide) (by decide)) (fun v H locs hpost hle hk hS => ?_)
      obtain ⟨r, hr9, rfl, hTx'⟩ := hpost
      have hTx : va_P G vwCl (txW cs (sh a 17) r.2.1 r.2.2.1 r.2.2.2 X) H := hTx'
      exact w_zret hx hb hr hlk dX2_takesTimes_33 (by have := b2_r r.1; omega) hS ⟨r, hr9.trans (by unfold timesF; rw [if_neg (show ¬ (c_ < 50 ∨ 56 < c_) by omega)] <;> rfl), rfl, hTx⟩
    · skip
      refine z_iconst (n := 0) hx hb dX2_takesTimes_17 ?_
      exact w_zret hx hb hr hlk dX2_takesTimes_18 (by omega) hS ⟨_, rfl, by unfold timesF; rw [if_pos (show c_ < 50 ∨ 56 < c_ by omega)]; rfl, by unfold timesF; rw [if_pos (show c_ < 50 ∨ 56 < c_ by omega)]; exact hTx⟩

set_option maxHeartbeats 4000000 in
set_option maxRecDepth 100000 in
theorem c_X2_takes (l : Launch) (G : va_G) (cs : Nat → ClassId) (a : Nat → Nat) (T : Int → Int) (lo hi_ : Nat → Bool) (X : Int → Int) (c_ : Int) (ia : Inj a 62) (hT : TF T) (hc : 0 ≤ c_ ∧ c_ < 65536) : MW l yX2_takes wsX2_takes { frames := 2, cells := 0, slots := 0, locals := 45 } G cs [.ref ((sh a 17) 0), .int (zI c_)] (fun H => va_P G vwCl (txW cs (sh a 17) T lo hi_ X) H) (fun vv H => ∃ r : Bool × PS, r = takesF (T, lo, hi_) c_ ∧ vv = .int (zI (b2 r.1)) ∧ va_P G vwCl (txW cs (sh a 17) r.2.1 r.2.2.1 r.2.2.2 X) H) (AX a 17 18) 0 0 := by
  refine m_intro (Pw := (fun H => va_P G vwCl (txW cs (sh a 17) T lo hi_ X) H)) (cc := cX2_takes) (maxL := 3) (ret := some .boolean) RX2 (by decide) rfl rfl (Nat.le_of_ble_eq_true rfl) ?_
  intro pP eE sS mM below meth cC hx hb hr hts hown hml hlk hnm hPre hK ls hl
  have hl : lv_has ls 3 [(0, .ref ((sh a 17) 0)), (1, .int (zI c_))] := hl
  have hTx := hPre
  have hS : va_S (AX a 17 18) sS.heap sS.heap [] := va_S.rf
  have hi2 : ∀ w ∈ u_ws RX2 TX2 9, w ∈ wsX2_takes := by decide +kernel
  have hT0 := hT
  obtain ⟨t0, t1, t2, t3, t4, t5⟩ := hT
  refine lv_aload_n hx hb dX2_takes_0 rfl (lv_at hl 0 rfl) ?_
  refine va_get (D := G) (ci := 2) (v := .int (zI (T 5))) (C := RX2) (T := TX2) (N := 9) hx hb hts hi2 hown hK.1 hTx 0 rfl rfl 8 (by decide) (hts (.fieldLink RX2 36 "SpriteLines$PixelText" "behindTimes" "Z") (by decide +kernel)) (fun _ h9 => h9) rfl dX2_takes_1 ?_
  refine z_if_eq (tgt := 13) hx hb dX2_takes_4 (by decide) (by omega) (fun c1 => ?_) (fun c1 => ?_)
  · skip
    refine lv_aload_n hx hb dX2_takes_13 rfl (lv_at hl 0 rfl) ?_
    refine va_get (D := G) (ci := 2) (v := .int (zI (T 4))) (C := RX2) (T := TX2) (N := 9) hx hb hts hi2 hown hK.1 hTx 0 rfl rfl 7 (by decide) (hts (.fieldLink RX2 32 "SpriteLines$PixelText" "behindPixel" "Z") (by decide +kernel)) (fun _ h9 => h9) rfl dX2_takes_14 ?_
    refine lv_istore_n (lv' := [(2, .int (zI (T 4))), (0, .ref ((sh a 17) 0)), (1, .int (zI c_))]) hx hb dX2_takes_17 rfl hl (by decide) rfl (fun ls hl => ?_)
    refine lv_aload_n hx hb dX2_takes_18 rfl (lv_at hl 1 rfl) ?_
    refine z_iconst (n := 0) hx hb dX2_takes_19 ?_
    refine z_put (G := G) (ci := 2) (v := .int (zI 0)) (ty := .boolean) (C := RX2) (T := TX2) (N := 9) hx hb hts hi2 tyX2 tyX2_ok nmX2 hown hK.1 hTx (Ord.D (ordTx cs (sh a 17) T lo hi_ X) (inj_sh (w := 2) ia (by decide))) hS 0 rfl rfl 7 (by decide) (hts (.fieldLink RX2 32 "SpriteLines$PixelText" "behindPixel" "Z") (by decide +kernel)) (fun _ h9 => h9) rfl (by decide +kernel) (zb_nar (by omega)) (zb_fit (by omega)) (Nat.le_of_ble_eq_true rfl) ⟨17, by decide, by decide, rfl⟩ dX2_takes_20 (fun H locs hP1 hle hk hS => ?_)
    have hTx : va_P G vwCl (txW cs (sh a 17) (updZ T 4 0) lo hi_ X) H := hP1
    refine lv_iload_n hx hb dX2_takes_23 rfl (lv_at hl 2 rfl) ?_
    refine z_bipush (n := 120) hx hb dX2_takes_24 (by decide) ?_
    refine z_icmp_ne (tgt := 36) hx hb dX2_takes_26 (by decide) (by omega) (by omega) (fun c2 => ?_) (fun c2 => ?_)
    · skip
      refine lv_iload_n hx hb dX2_takes_36 rfl (lv_at hl 2 rfl) ?_
      refine z_bipush (n := 47) hx hb dX2_takes_37 (by decide) ?_
      refine z_icmp_ne (tgt := 47) hx hb dX2_takes_39 (by decide) (by omega) (by omega) (fun c3 => ?_) (fun c3 => ?_)
      · skip
        refine lv_iload_n hx hb dX2_takes_47 rfl (lv_at hl 2 rfl) ?_
        refine z_bipush (n := 46) hx hb dX2_takes_48 (by decide) ?_
        refine z_icmp_ne (tgt := 59) hx hb dX2_takes_50 (by decide) (by omega) (by omega) (fun c4 => ?_) (fun c4 => ?_)
        · skip
          refine lv_iload_n hx hb dX2_takes_59 rfl (lv_at hl 2 rfl) ?_
          refine z_bipush (n := 49) hx hb dX2_takes_60 (by decide) ?_
          refine z_icmp_lt (tgt := 86) hx hb dX2_takes_62 (by decide) (by omega) (by omega) (fun c5 => ?_) (fun c5 => ?_)
          · skip
            refine z_iconst (n := 0) hx hb dX2_takes_86 ?_
            exact w_zret hx hb hr hlk dX2_takes_87 (by omega) hS ⟨_, rfl, by unfold takesF; rw [if_neg (show ¬ T 5 = 1 by omega), if_neg (show ¬ c_ = 120 by omega), if_neg (show ¬ c_ = 47 by omega), if_neg (show ¬ c_ = 46 by omega), if_neg (show ¬ (49 ≤ c_ ∧ c_ ≤ 51) by omega)]; rfl, by unfold takesF; rw [if_neg (show ¬ T 5 = 1 by omega), if_neg (show ¬ c_ = 120 by omega), if_neg (show ¬ c_ = 47 by omega), if_neg (show ¬ c_ = 46 by omega), if_neg (show ¬ (49 ≤ c_ ∧ c_ ≤ 51) by omega)]; exact hTx⟩
          · skip
            refine lv_iload_n hx hb dX2_takes_65 rfl (lv_at hl 2 rfl) ?_
            refine z_bipush (n := 51) hx hb dX2_takes_66 (by decide) ?_
            refine z_icmp_gt (tgt := 86) hx hb dX2_takes_68 (by decide) (by omega) (by omega) (fun c6 => ?_) (fun c6 => ?_)
            · skip
              refine z_iconst (n := 0) hx hb dX2_takes_86 ?_
              exact w_zret hx hb hr hlk dX2_takes_87 (by omega) hS ⟨_, rfl, by unfold takesF; rw [if_neg (show ¬ T 5 = 1 by omega), if_neg (show ¬ c_ = 120 by omega), if_neg (show ¬ c_ = 47 by omega), if_neg (show ¬ c_ = 46 by omega), if_neg (show ¬ (49 ≤ c_ ∧ c_ ≤ 51) by omega)]; rfl, by unfold takesF; rw [if_neg (show ¬ T 5 = 1 by omega), if_neg (show ¬ c_ = 120 by omega), if_neg (show ¬ c_ = 47 by omega), if_neg (show ¬ c_ = 46 by omega), if_neg (show ¬ (49 ≤ c_ ∧ c_ ≤ 51) by omega)]; exact hTx⟩
            · skip
              refine lv_aload_n hx hb dX2_takes_71 rfl (lv_at hl 1 rfl) ?_
              refine lv_iload_n hx hb dX2_takes_72 rfl (lv_at hl 2 rfl) ?_
              refine z_bipush (n := 48) hx hb dX2_takes_73 (by decide) ?_
              refine z_isub hx hb dX2_takes_75 ?_
              refine z_w (zrV (As := [.int (zI (c_ - 48))]) (rest := []) ⟨hx, hb, hml, hown, hts⟩ (c_X2_takesPixel l G cs a (updZ T 4 0) lo hi_ X (c_ - 48) ia (tf_4 hT0 (by omega)) (by omega)) gX2_takes_X2_takesPixel rfl qX2_takesPixel rfl rfl ⟨Nat.le_of_ble_eq_true rfl, Nat.le_of_ble_eq_true rfl⟩ hTx hK (va_recv hK.1 hTx (ci := 2) (q0 := 0) rfl rfl) hl.1 rfl (Nat.le_of_ble_eq_true rfl) dX2_takes_76 ⟨Nat.le_of_ble_eq_true rfl, Nat.le_of_ble_eq_true rfl⟩) hS (fun q h => ax_mono h (by decide) (by decide)) (fun q h => ax_mono h (by decide) (by decide)) (fun v H locs hpost hle hk hS => ?_)
              obtain ⟨r, hr9, rfl, hTx'⟩ := hpost
              have hTx : va_P G vwCl (txW cs (sh a 17) r.2.1 r.2.2.1 r.2.2.2 X) H := hTx'
              refine z_bif_eq (tgt := 86) hx hb dX2_takes_79 (by decide) (fun c9 => ?_) (fun c9 => ?_)
              · skip
                refine z_iconst (n := 0) hx hb dX2_takes_86 ?_
                exact w_zret hx hb hr hlk dX2_takes_87 (by omega) hS ⟨r, hr9.trans (by unfold takesF; rw [if_neg (show ¬ T 5 = 1 by omega), if_neg (show ¬ c_ = 120 by omega), if_neg (show ¬ c_ = 47 by omega), if_neg (show ¬ c_ = 46 by omega), if_pos (show 49 ≤ c_ ∧ c_ ≤ 51 by omega)] <;> rfl), by rw [c9]; rfl, hTx⟩
              · skip
                refine z_iconst (n := 1) hx hb dX2_takes_82 ?_
                refine lv_goto (tgt := 87) hx hb dX2_takes_83 (by decide) ?_
                exact w_zret hx hb hr hlk dX2_takes_87 (by omega) hS ⟨r, hr9.trans (by unfold takesF; rw [if_neg (show ¬ T 5 = 1 by omega), if_neg (show ¬ c_ = 120 by omega), if_neg (show ¬ c_ = 47 by omega), if_neg (show ¬ c_ = 46 by omega), if_pos (show 49 ≤ c_ ∧ c_ ≤ 51 by omega)] <;> rfl), by rw [c9]; rfl, hTx⟩
        · skip
          refine lv_aload_n hx hb dX2_takes_53 rfl (lv_at hl 1 rfl) ?_
          refine z_iconst (n := 0) hx hb dX2_takes_54 ?_
          refine z_w (zrV (As := [.int (zI 0)]) (rest := []) ⟨hx, hb, hml, hown, hts⟩ (c_X2_takesPixel l G cs a (updZ T 4 0) lo hi_ X 0 ia (tf_4 hT0 (by omega)) (by omega)) gX2_takes_X2_takesPixel rfl qX2_takesPixel rfl rfl ⟨Nat.le_of_ble_eq_true rfl, Nat.le_of_ble_eq_true rfl⟩ hTx hK (va_recv hK.1 hTx (ci := 2) (q0 := 0) rfl rfl) hl.1 rfl (Nat.le_of_ble_eq_true rfl) dX2_takes_55 ⟨Nat.le_of_ble_eq_true rfl, Nat.le_of_ble_eq_true rfl⟩) hS (fun q h => ax_mono h (by decide) (by decide)) (fun q h => ax_mono h (by decide) (by decide)) (fun v H locs hpost hle hk hS => ?_)
          obtain ⟨r, hr9, rfl, hTx'⟩ := hpost
          have hTx : va_P G vwCl (txW cs (sh a 17) r.2.1 r.2.2.1 r.2.2.2 X) H := hTx'
          exact w_zret hx hb hr hlk dX2_takes_58 (by have := b2_r r.1; omega) hS ⟨r, hr9.trans (by unfold takesF; rw [if_neg (show ¬ T 5 = 1 by omega), if_neg (show ¬ c_ = 120 by omega), if_neg (show ¬ c_ = 47 by omega), if_pos (show c_ = 46 by omega)] <;> rfl), rfl, hTx⟩
      · skip
        refine lv_aload_n hx hb dX2_takes_42 rfl (lv_at hl 1 rfl) ?_
        refine z_w (zrV (As := []) (rest := []) ⟨hx, hb, hml, hown, hts⟩ (c_X2_takesEndOfRow l G cs a (updZ T 4 0) lo hi_ X ia (tf_4 hT0 (by omega))) gX2_takes_X2_takesEndOfRow rfl qX2_takesEndOfRow rfl rfl ⟨Nat.le_of_ble_eq_true rfl, Nat.le_of_ble_eq_true rfl⟩ hTx hK (va_recv hK.1 hTx (ci := 2) (q0 := 0) rfl rfl) hl.1 rfl (Nat.le_of_ble_eq_true rfl) dX2_takes_43 ⟨Nat.le_of_ble_eq_true rfl, Nat.le_of_ble_eq_true rfl⟩) hS (fun q h => ax_mono h (by decide) (by decide)) (fun q h => ax_mono h (by decide) (by decide)) (fun v H locs hpost hle hk hS => ?_)
        obtain ⟨r, hr9, rfl, hTx'⟩ := hpost
        have hTx : va_P G vwCl (txW cs (sh a 17) r.2.1 r.2.2.1 r.2.2.2 X) H := hTx'
        exact w_zret hx hb hr hlk dX2_takes_46 (by have := b2_r r.1; omega) hS ⟨r, hr9.trans (by unfold takesF; rw [if_neg (show ¬ T 5 = 1 by omega), if_neg (show ¬ c_ = 120 by omega), if_pos (show c_ = 47 by omega)] <;> rfl), rfl, hTx⟩
    · skip
      refine lv_aload_n hx hb dX2_takes_29 rfl (lv_at hl 1 rfl) ?_
      refine lv_iload_n hx hb dX2_takes_30 rfl (lv_at hl 0 rfl) ?_
      refine z_put (G := G) (ci := 2) (v := .int (zI (T 4))) (ty := .boolean) (C := RX2) (T := TX2) (N := 9) hx hb hts hi2 tyX2 tyX2_ok nmX2 hown hK.1 hTx (Ord.D (ordTx cs (sh a 17) (updZ T 4 0) lo hi_ X) (inj_sh (w := 2) ia (by decide))) hS 0 rfl rfl 8 (by decide) (hts (.fieldLink RX2 36 "SpriteLines$PixelText" "behindTimes" "Z") (by decide +kernel)) (fun _ h9 => h9) rfl (by decide +kernel) (zb_nar (by omega)) (zb_fit (by omega)) (Nat.le_of_ble_eq_true rfl) ⟨17, by decide, by decide, rfl⟩ dX2_takes_31 (fun H locs hP1 hle hk hS => ?_)
      have hTx : va_P G vwCl (txW cs (sh a 17) (updZ (updZ T 4 0) 5 (T 4)) lo hi_ X) H := hP1
      refine lv_iload_n hx hb dX2_takes_34 rfl (lv_at hl 0 rfl) ?_
      exact w_zret hx hb hr hlk dX2_takes_35 (by omega) hS ⟨_, rfl, by unfold takesF; rw [if_neg (show ¬ T 5 = 1 by omega), if_pos (show c_ = 120 by omega)]; exact congrArg (fun z => Value.int (zI z)) (b2_v t4).symm, by unfold takesF; rw [if_neg (show ¬ T 5 = 1 by omega), if_pos (show c_ = 120 by omega)]; exact hTx⟩
  · skip
    refine lv_aload_n hx hb dX2_takes_7 rfl (lv_at hl 0 rfl) ?_
    refine lv_iload_n hx hb dX2_takes_8 rfl (lv_at hl 1 rfl) ?_
    refine z_w (zrV (As := [.int (zI c_)]) (rest := []) ⟨hx, hb, hml, hown, hts⟩ (c_X2_takesTimes l G cs a T lo hi_ X c_ ia hT0 (by omega)) gX2_takes_X2_takesTimes rfl qX2_takesTimes rfl rfl ⟨Nat.le_of_ble_eq_true rfl, Nat.le_of_ble_eq_true rfl⟩ hTx hK (va_recv hK.1 hTx (ci := 2) (q0 := 0) rfl rfl) hl.1 rfl (Nat.le_of_ble_eq_true rfl) dX2_takes_9 ⟨Nat.le_of_ble_eq_true rfl, Nat.le_of_ble_eq_true rfl⟩) hS (fun q h => ax_mono h (by decide) (by decide)) (fun q h => ax_mono h (by decide) (by decide)) (fun v H locs hpost hle hk hS => ?_)
    obtain ⟨r, hr9, rfl, hTx'⟩ := hpost
    have hTx : va_P G vwCl (txW cs (sh a 17) r.2.1 r.2.2.1 r.2.2.2 X) H := hTx'
    exact w_zret hx hb hr hlk dX2_takes_12 (by have := b2_r r.1; omega) hS ⟨r, hr9.trans (by unfold takesF; rw [if_pos (show T 5 = 1 by omega)] <;> rfl), rfl, hTx⟩

set_option maxHeartbeats 4000000 in
set_option maxRecDepth 100000 in
theorem c_X2_read (l : Launch) (G : va_G) (cs : Nat → ClassId) (a : Nat → Nat) (T : Int → Int) (lo hi_ : Nat → Bool) (X : Int → Int) (ia : Inj a 62) (hT : TF T) (hX : ∀ k, 0 ≤ k → k < 60 → 0 ≤ X k ∧ X k < 65536) : MW l yX2_read wsX2_read { frames := 3, cells := 0, slots := 0, locals := 67 } G cs [.ref ((sh a 17) 0)] (fun H => va_P G vwCl (txW cs (sh a 17) T lo hi_ X) H) (fun v H => ∃ P : PS, v = .int (zI (faultF T X)) ∧ TF P.1 ∧ P.1 0 = T 0 ∧ (faultF T X = -5 → P = rdS T X (T 0).toNat) ∧ va_P G vwCl (txW cs (sh a 17) P.1 P.2.1 P.2.2 X) H) (AX a 17 18) 0 0 := by
  refine m_intro (Pw := (fun H => va_P G vwCl (txW cs (sh a 17) T lo hi_ X) H)) (cc := cX2_read) (maxL := 2) (ret := some .int) RX2 (by decide) rfl rfl (Nat.le_of_ble_eq_true rfl) ?_
  intro pP eE sS mM below meth cC hx hb hr hts hown hml hlk hnm hPre hK ls hl
  have hl : lv_has ls 2 [(0, .ref ((sh a 17) 0))] := hl
  have hTx := hPre
  have hS : va_S (AX a 17 18) sS.heap sS.heap [] := va_S.rf
  have hi2 : ∀ w ∈ u_ws RX2 TX2 9, w ∈ wsX2_read := by decide +kernel
  have hT0 := hT
  obtain ⟨t0, t1, t2, t3, t4, t5⟩ := hT
  refine lv_aload_n hx hb dX2_read_0 rfl (lv_at hl 0 rfl) ?_
  refine lv_lconst (v := 0) hx hb dX2_read_1 (by decide) ?_
  refine z_top (v' := .long (lB (fun _ => false))) (congrArg Value.long lB_0) ?_
  refine z_put (G := G) (ci := 2) (v := .long (lB (fun _ => false))) (ty := .long) (C := RX2) (T := TX2) (N := 9) hx hb hts hi2 tyX2 tyX2_ok nmX2 hown hK.1 hTx (Ord.D (ordTx cs (sh a 17) T lo hi_ X) (inj_sh (w := 2) ia (by decide))) hS 0 rfl rfl 2 (by decide) (hts (.fieldLink RX2 19 "SpriteLines$PixelText" "low" "J") (by decide +kernel)) (fun _ h9 => h9) rfl (by decide +kernel) rfl rfl (Nat.le_of_ble_eq_true rfl) ⟨17, by decide, by decide, rfl⟩ dX2_read_2 (fun H locs hP1 hle hk hS => ?_)
  have hTx : va_P G vwCl (txW cs (sh a 17) T (fun _ => false) hi_ X) H := hP1
  refine lv_aload_n hx hb dX2_read_5 rfl (lv_at hl 0 rfl) ?_
  refine lv_lconst (v := 0) hx hb dX2_read_6 (by decide) ?_
  refine z_top (v' := .long (lB (fun _ => false))) (congrArg Value.long lB_0) ?_
  refine z_put (G := G) (ci := 2) (v := .long (lB (fun _ => false))) (ty := .long) (C := RX2) (T := TX2) (N := 9) hx hb hts hi2 tyX2 tyX2_ok nmX2 hown hK.1 hTx (Ord.D (ordTx cs (sh a 17) T (fun _ => false) hi_ X) (inj_sh (w := 2) ia (by decide))) hS 0 rfl rfl 3 (by decide) (hts (.fieldLink RX2 23 "SpriteLines$PixelText" "high" "J") (by decide +kernel)) (fun _ h9 => h9) rfl (by decide +kernel) rfl rfl (Nat.le_of_ble_eq_true rfl) ⟨17, by decide, by decide, rfl⟩ dX2_read_7 (fun H locs hP1 hle hk hS => ?_)
  have hTx : va_P G vwCl (txW cs (sh a 17) T (fun _ => false) (fun _ => false) X) H := hP1
  refine lv_aload_n hx hb dX2_read_10 rfl (lv_at hl 0 rfl) ?_
  refine z_iconst (n := 0) hx hb dX2_read_11 ?_
  refine z_put (G := G) (ci := 2) (v := .int (zI 0)) (ty := .int) (C := RX2) (T := TX2) (N := 9) hx hb hts hi2 tyX2 tyX2_ok nmX2 hown hK.1 hTx (Ord.D (ordTx cs (sh a 17) T (fun _ => false) (fun _ => false) X) (inj_sh (w := 2) ia (by decide))) hS 0 rfl rfl 4 (by decide) (hts (.fieldLink RX2 26 "SpriteLines$PixelText" "row" "I") (by decide +kernel)) (fun _ h9 => h9) rfl (by decide +kernel) rfl rfl (Nat.le_of_ble_eq_true rfl) ⟨17, by decide, by decide, rfl⟩ dX2_read_12 (fun H locs hP1 hle hk hS => ?_)
  have hTx : va_P G vwCl (txW cs (sh a 17) (updZ T 1 0) (fun _ => false) (fun _ => false) X) H := hP1
  refine lv_aload_n hx hb dX2_read_15 rfl (lv_at hl 0 rfl) ?_
  refine z_iconst (n := 0) hx hb dX2_read_16 ?_
  refine z_put (G := G) (ci := 2) (v := .int (zI 0)) (ty := .int) (C := RX2) (T := TX2) (N := 9) hx hb hts hi2 tyX2 tyX2_ok nmX2 hown hK.1 hTx (Ord.D (ordTx cs (sh a 17) (updZ T 1 0) (fun _ => false) (fun _ => false) X) (inj_sh (w := 2) ia (by decide))) hS 0 rfl rfl 5 (by decide) (hts (.fieldLink RX2 29 "SpriteLines$PixelText" "width" "I") (by decide +kernel)) (fun _ h9 => h9) rfl (by decide +kernel) rfl rfl (Nat.le_of_ble_eq_true rfl) ⟨17, by decide, by decide, rfl⟩ dX2_read_17 (fun H locs hP1 hle hk hS => ?_)
  have hTx : va_P G vwCl (txW cs (sh a 17) (updZ (updZ T 1 0) 2 0) (fun _ => false) (fun _ => false) X) H := hP1
  refine lv_aload_n hx hb dX2_read_20 rfl (lv_at hl 0 rfl) ?_
  refine z_iconst (n := 0) hx hb dX2_read_21 ?_
  refine z_put (G := G) (ci := 2) (v := .int (zI 0)) (ty := .boolean) (C := RX2) (T := TX2) (N := 9) hx hb hts hi2 tyX2 tyX2_ok nmX2 hown hK.1 hTx (Ord.D (ordTx cs (sh a 17) (updZ (updZ T 1 0) 2 0) (fun _ => false) (fun _ => false) X) (inj_sh (w := 2) ia (by decide))) hS 0 rfl rfl 7 (by decide) (hts (.fieldLink RX2 32 "SpriteLines$PixelText" "behindPixel" "Z") (by decide +kernel)) (fun _ h9 => h9) rfl (by decide +kernel) (zb_nar (by omega)) (zb_fit (by omega)) (Nat.le_of_ble_eq_true rfl) ⟨17, by decide, by decide, rfl⟩ dX2_read_22 (fun H locs hP1 hle hk hS => ?_)
  have hTx : va_P G vwCl (txW cs (sh a 17) (updZ (updZ (updZ T 1 0) 2 0) 4 0) (fun _ => false) (fun _ => false) X) H := hP1
  refine lv_aload_n hx hb dX2_read_25 rfl (lv_at hl 0 rfl) ?_
  refine z_iconst (n := 0) hx hb dX2_read_26 ?_
  refine z_put (G := G) (ci := 2) (v := .int (zI 0)) (ty := .boolean) (C := RX2) (T := TX2) (N := 9) hx hb hts hi2 tyX2 tyX2_ok nmX2 hown hK.1 hTx (Ord.D (ordTx cs (sh a 17) (updZ (updZ (updZ T 1 0) 2 0) 4 0) (fun _ => false) (fun _ => false) X) (inj_sh (w := 2) ia (by decide))) hS 0 rfl rfl 8 (by decide) (hts (.fieldLink RX2 36 "SpriteLines$PixelText" "behindTimes" "Z") (by decide +kernel)) (fun _ h9 => h9) rfl (by decide +kernel) (zb_nar (by omega)) (zb_fit (by omega)) (Nat.le_of_ble_eq_true rfl) ⟨17, by decide, by decide, rfl⟩ dX2_read_27 (fun H locs hP1 hle hk hS => ?_)
  have hTx : va_P G vwCl (txW cs (sh a 17) (updZ (updZ (updZ (updZ T 1 0) 2 0) 4 0) 5 0) (fun _ => false) (fun _ => false) X) H := hP1
  refine z_iconst (n := 0) hx hb dX2_read_30 ?_
  refine lv_istore_n (lv' := [(1, .int (zI 0)), (0, .ref ((sh a 17) 0))]) hx hb dX2_read_31 rfl hl (by decide) rfl (fun ls hl => ?_)
  -- loop 32
  refine z_loopH (nL := 2) (fun (i : Int) => [(0, .ref ((sh a 17) 0)), (1, .int (zI i))]) (fun (i : Int) (H : Heap) => ((0 ≤ i ∧ i ≤ T 0) ∧ ∀ j, 0 ≤ j → j < i → (takesF (rdS T X j.toNat) (X j)).1 = true) ∧ va_P G vwCl (txW cs (sh a 17) ((rdS T X i.toNat).1) ((rdS T X i.toNat).2.1) ((rdS T X i.toNat).2.2) X) H) (fun (i : Int) => (T 0 - i).toNat) 0 ⟨⟨by omega, fun j h1 h2 => by omega⟩, hTx⟩ hS (lv_sub hl [1, 0] rfl) (fun i H locs hIH hS ih ls hl => ?_)
  obtain ⟨hI, hTx⟩ := hIH
  have hl : lv_has ls 2 [(0, .ref ((sh a 17) 0)), (1, .int (zI i))] := hl
  obtain ⟨hI, hJ⟩ := hI
  have h0 := rdS_0 T X i.toNat
  have hTF := rdS_tf (X := X) hT0 i.toNat
  refine lv_iload_n hx hb dX2_read_32 rfl (lv_at hl 1 rfl) ?_
  refine lv_aload_n hx hb dX2_read_33 rfl (lv_at hl 0 rfl) ?_
  refine va_get (D := G) (ci := 2) (v := .int (zI (((rdS T X i.toNat).1) 0))) (C := RX2) (T := TX2) (N := 9) hx hb hts hi2 hown hK.1 hTx 0 rfl rfl 1 (by decide) (hts (.fieldLink RX2 15 "SpriteLines$PixelText" "length" "I") (by decide +kernel)) (fun _ h9 => h9) rfl dX2_read_34 ?_
  refine z_topi (b := T 0) h0 ?_
  refine z_icmp_ge (tgt := 70) hx hb dX2_read_37 (by decide) (by omega) (by omega) (fun c1 => ?_) (fun c1 => ?_)
  · skip
    refine lv_aload_n hx hb dX2_read_70 rfl (lv_at hl 0 rfl) ?_
    refine va_get (D := G) (ci := 2) (v := .int (zI (((rdS T X i.toNat).1) 5))) (C := RX2) (T := TX2) (N := 9) hx hb hts hi2 hown hK.1 hTx 0 rfl rfl 8 (by decide) (hts (.fieldLink RX2 36 "SpriteLines$PixelText" "behindTimes" "Z") (by decide +kernel)) (fun _ h9 => h9) rfl dX2_read_71 ?_
    refine z_if_ne (tgt := 86) hx hb dX2_read_74 (by decide) (by have := hTF.2.2.2.2.2; omega) (fun c5 => ?_) (fun c5 => ?_)
    · skip
      refine lv_aload_n hx hb dX2_read_86 rfl (lv_at hl 0 rfl) ?_
      refine va_get (D := G) (ci := 2) (v := .int (zI (((rdS T X i.toNat).1) 0))) (C := RX2) (T := TX2) (N := 9) hx hb hts hi2 hown hK.1 hTx 0 rfl rfl 1 (by decide) (hts (.fieldLink RX2 15 "SpriteLines$PixelText" "length" "I") (by decide +kernel)) (fun _ h9 => h9) rfl dX2_read_87 ?_
      refine z_topi (b := T 0) h0 ?_
      refine lv_goto (tgt := 95) hx hb dX2_read_90 (by decide) ?_
      exact w_iret hx hb hr hlk dX2_read_95 hS ⟨rdS T X i.toNat, congrArg (fun z => Value.int (zI z)) (fault_end (by omega) hI.1 (by omega) hJ (by first | omega | exact Or.inl (by have := hTF.2.2.2.2.2; omega))).symm, hTF, h0, fun h => by rw [show i = T 0 by omega], hTx⟩
    · skip
      refine lv_aload_n hx hb dX2_read_77 rfl (lv_at hl 0 rfl) ?_
      refine va_get (D := G) (ci := 2) (v := .int (zI (((rdS T X i.toNat).1) 2))) (C := RX2) (T := TX2) (N := 9) hx hb hts hi2 hown hK.1 hTx 0 rfl rfl 5 (by decide) (hts (.fieldLink RX2 29 "SpriteLines$PixelText" "width" "I") (by decide +kernel)) (fun _ h9 => h9) rfl dX2_read_78 ?_
      refine z_bipush (n := 8) hx hb dX2_read_81 (by decide) ?_
      refine z_icmp_ge (tgt := 93) hx hb dX2_read_83 (by decide) (by have := hTF.2.2.1; omega) (by omega) (fun c6 => ?_) (fun c6 => ?_)
      · skip
        refine z_bipush (n := -5) hx hb dX2_read_93 (by decide) ?_
        exact w_iret hx hb hr hlk dX2_read_95 hS ⟨rdS T X i.toNat, congrArg (fun z => Value.int (zI z)) (fault_no (by omega) hI.1 (by omega) hJ (by have := hTF.2.2.2.2.2; have := hTF.2.2.1; omega)).symm, hTF, h0, fun h => by rw [show i = T 0 by omega], hTx⟩
      · skip
        refine lv_aload_n hx hb dX2_read_86 rfl (lv_at hl 0 rfl) ?_
        refine va_get (D := G) (ci := 2) (v := .int (zI (((rdS T X i.toNat).1) 0))) (C := RX2) (T := TX2) (N := 9) hx hb hts hi2 hown hK.1 hTx 0 rfl rfl 1 (by decide) (hts (.fieldLink RX2 15 "SpriteLines$PixelText" "length" "I") (by decide +kernel)) (fun _ h9 => h9) rfl dX2_read_87 ?_
        refine z_topi (b := T 0) h0 ?_
        refine lv_goto (tgt := 95) hx hb dX2_read_90 (by decide) ?_
        exact w_iret hx hb hr hlk dX2_read_95 hS ⟨rdS T X i.toNat, congrArg (fun z => Value.int (zI z)) (fault_end (by omega) hI.1 (by omega) hJ (by first | omega | exact Or.inl (by have := hTF.2.2.2.2.2; omega))).symm, hTF, h0, fun h => by rw [show i = T 0 by omega], hTx⟩
  · skip
    refine lv_iload_n hx hb dX2_read_40 rfl (lv_at hl 1 rfl) ?_
    refine lv_aload_n hx hb dX2_read_41 rfl (lv_at hl 0 rfl) ?_
    refine va_get (D := G) (ci := 2) (v := .ref ((sh a 17) 1)) (C := RX2) (T := TX2) (N := 9) hx hb hts hi2 hown hK.1 hTx 0 rfl rfl 0 (by decide) (hts (.fieldLink RX2 9 "SpriteLines$PixelText" "characters" "[C") (by decide +kernel)) (fun _ h9 => h9) rfl dX2_read_42 ?_
    refine z_alen hx hb hK.1 hTx 1 3 rfl rfl dX2_read_45 ?_
    refine z_topi (b := 60) rfl ?_
    refine z_icmp_ge (tgt := 70) hx hb dX2_read_46 (by decide) (by omega) (by omega) (fun c2 => ?_) (fun c2 => ?_)
    · skip
      exfalso; omega
    · skip
      refine lv_aload_n hx hb dX2_read_49 rfl (lv_at hl 0 rfl) ?_
      refine lv_aload_n hx hb dX2_read_50 rfl (lv_at hl 0 rfl) ?_
      refine va_get (D := G) (ci := 2) (v := .ref ((sh a 17) 1)) (C := RX2) (T := TX2) (N := 9) hx hb hts hi2 hown hK.1 hTx 0 rfl rfl 0 (by decide) (hts (.fieldLink RX2 9 "SpriteLines$PixelText" "characters" "[C") (by decide +kernel)) (fun _ h9 => h9) rfl dX2_read_51 ?_
      refine lv_iload_n hx hb dX2_read_54 rfl (lv_at hl 1 rfl) ?_
      have hXi := hX i hI.1 (by omega)
      refine z_cald hx hb hK.1 hTx 1 3 (F := X) rfl rfl (by omega) (by decide) dX2_read_55 ?_
      refine z_w (zrV (As := [.int (zI (X i))]) (rest := []) ⟨hx, hb, hml, hown, hts⟩ (c_X2_takes l G cs a ((rdS T X i.toNat).1) ((rdS T X i.toNat).2.1) ((rdS T X i.toNat).2.2) X (X i) ia hTF (by omega)) gX2_read_X2_takes rfl qX2_takes rfl rfl ⟨Nat.le_of_ble_eq_true rfl, Nat.le_of_ble_eq_true rfl⟩ hTx hK (va_recv hK.1 hTx (ci := 2) (q0 := 0) rfl rfl) hl.1 rfl (Nat.le_of_ble_eq_true rfl) dX2_read_56 ⟨Nat.le_of_ble_eq_true rfl, Nat.le_of_ble_eq_true rfl⟩) hS (fun q h => ax_mono h (by decide) (by decide)) (fun q h => ax_mono h (by decide) (by decide)) (fun v H locs hpost hle hk hS => ?_)
      obtain ⟨r, hr9, rfl, hTx'⟩ := hpost
      have hTx : va_P G vwCl (txW cs (sh a 17) r.2.1 r.2.2.1 r.2.2.2 X) H := hTx'
      refine z_bif_ne (tgt := 64) hx hb dX2_read_59 (by decide) (fun c4 => ?_) (fun c4 => ?_)
      · skip
        refine z_iinc (k := 1) (lv' := [(1, .int (zI (i + 1))), (0, .ref ((sh a 17) 0))]) hx hb dX2_read_64 hl rfl (by decide) rfl (fun ls hl => ?_)
        refine lv_goto (tgt := 32) hx hb dX2_read_67 (by decide) ?_
        exact ih (i + 1) H locs ⟨⟨by omega, fun j q1 q2 => by
      by_cases e : j = i
      · subst e; rw [hr9] at c4; exact c4
      · exact hJ j q1 (by omega)⟩, (by rw [rdS_s hI.1, ← hr9]; exact hTx)⟩ hS (by omega) ls (lv_sub hl [1, 0] rfl)
      · skip
        refine lv_iload_n hx hb dX2_read_62 rfl (lv_at hl 1 rfl) ?_
        exact w_iret hx hb hr hlk dX2_read_63 hS ⟨r.2, congrArg (fun z => Value.int (zI z)) (fault_at hI.1 (by omega) hJ (by rw [← hr9]; exact c4)).symm, by rw [hr9]; exact takes_tf hTF, by rw [hr9]; exact (takes_0 _ _).trans h0, fun h => by rw [fault_at hI.1 (by omega) hJ (by rw [← hr9]; exact c4)] at h; omega, hTx⟩

set_option maxHeartbeats 4000000 in
set_option maxRecDepth 100000 in
theorem c_X2_append (l : Launch) (G : va_G) (cs : Nat → ClassId) (a : Nat → Nat) (T : Int → Int) (lo hi_ : Nat → Bool) (X : Int → Int) (c_ : Int) (ia : Inj a 62) (ht0 : 0 ≤ T 0 ∧ T 0 < 60) (hc : narrow .char (.int (zI c_)) = .int (zI c_)) : MV l yX2_append wsX2_append { frames := 0, cells := 0, slots := 0, locals := 0 } G cs [.ref ((sh a 17) 0), .int (zI c_)] (fun H => va_P G vwCl (txW cs (sh a 17) T lo hi_ X) H) (fun H => va_P G vwCl (txW cs (sh a 17) (updZ T 0 (T 0 + 1)) lo hi_ (updZ X (T 0) c_)) H) (AX a 17 19) 0 0 := by
  refine m_intro (Pw := (fun H => va_P G vwCl (txW cs (sh a 17) T lo hi_ X) H)) (cc := cX2_append) (maxL := 2) (ret := none) RX2 (by decide) rfl rfl (Nat.le_of_ble_eq_true rfl) ?_
  intro pP eE sS mM below meth cC hx hb hr hts hown hml hlk hnm hPre hK ls hl
  have hl : lv_has ls 2 [(0, .ref ((sh a 17) 0)), (1, .int (zI c_))] := hl
  have hTx := hPre
  have hS : va_S (AX a 17 19) sS.heap sS.heap [] := va_S.rf
  have hi2 : ∀ w ∈ u_ws RX2 TX2 9, w ∈ wsX2_append := by decide +kernel
  refine lv_aload_n hx hb dX2_append_0 rfl (lv_at hl 0 rfl) ?_
  refine va_get (D := G) (ci := 2) (v := .int (zI (T 0))) (C := RX2) (T := TX2) (N := 9) hx hb hts hi2 hown hK.1 hTx 0 rfl rfl 1 (by decide) (hts (.fieldLink RX2 15 "SpriteLines$PixelText" "length" "I") (by decide +kernel)) (fun _ h9 => h9) rfl dX2_append_1 ?_
  refine z_if_lt (tgt := 39) hx hb dX2_append_4 (by decide) (by omega) (fun c1 => ?_) (fun c1 => ?_)
  · skip
    exfalso; omega
  · skip
    refine lv_aload_n hx hb dX2_append_7 rfl (lv_at hl 0 rfl) ?_
    refine va_get (D := G) (ci := 2) (v := .int (zI (T 0))) (C := RX2) (T := TX2) (N := 9) hx hb hts hi2 hown hK.1 hTx 0 rfl rfl 1 (by decide) (hts (.fieldLink RX2 15 "SpriteLines$PixelText" "length" "I") (by decide +kernel)) (fun _ h9 => h9) rfl dX2_append_8 ?_
    refine lv_aload_n hx hb dX2_append_11 rfl (lv_at hl 0 rfl) ?_
    refine va_get (D := G) (ci := 2) (v := .ref ((sh a 17) 1)) (C := RX2) (T := TX2) (N := 9) hx hb hts hi2 hown hK.1 hTx 0 rfl rfl 0 (by decide) (hts (.fieldLink RX2 9 "SpriteLines$PixelText" "characters" "[C") (by decide +kernel)) (fun _ h9 => h9) rfl dX2_append_12 ?_
    refine z_alen hx hb hK.1 hTx 1 3 rfl rfl dX2_append_15 ?_
    refine z_topi (b := 60) rfl ?_
    refine z_icmp_ge (tgt := 39) hx hb dX2_append_16 (by decide) (by omega) (by omega) (fun c2 => ?_) (fun c2 => ?_)
    · skip
      exfalso; omega
    · skip
      refine lv_aload_n hx hb dX2_append_19 rfl (lv_at hl 0 rfl) ?_
      refine va_get (D := G) (ci := 2) (v := .ref ((sh a 17) 1)) (C := RX2) (T := TX2) (N := 9) hx hb hts hi2 hown hK.1 hTx 0 rfl rfl 0 (by decide) (hts (.fieldLink RX2 9 "SpriteLines$PixelText" "characters" "[C") (by decide +kernel)) (fun _ h9 => h9) rfl dX2_append_20 ?_
      refine lv_aload_n hx hb dX2_append_23 rfl (lv_at hl 0 rfl) ?_
      refine va_get (D := G) (ci := 2) (v := .int (zI (T 0))) (C := RX2) (T := TX2) (N := 9) hx hb hts hi2 hown hK.1 hTx 0 rfl rfl 1 (by decide) (hts (.fieldLink RX2 15 "SpriteLines$PixelText" "length" "I") (by decide +kernel)) (fun _ h9 => h9) rfl dX2_append_24 ?_
      refine lv_iload_n hx hb dX2_append_27 rfl (lv_at hl 1 rfl) ?_
      refine z_cast hx hb hK.1 hTx (Ord.D (ordTx cs (sh a 17) T lo hi_ X) (inj_sh (w := 2) ia (by decide))) hS 1 3 (F := X) rfl rfl (by omega) (by decide) hc ⟨18, by decide, by decide, rfl⟩ dX2_append_28 (fun H locs hP1 hle hk hS => ?_)
      have hTx : va_P G vwCl (txW cs (sh a 17) T lo hi_ (updZ X (T 0) c_)) H := hP1
      refine lv_aload_n hx hb dX2_append_29 rfl (lv_at hl 0 rfl) ?_
      refine lv_dup hx hb dX2_append_30 rfl ?_
      refine va_get (D := G) (ci := 2) (v := .int (zI (T 0))) (C := RX2) (T := TX2) (N := 9) hx hb hts hi2 hown hK.1 hTx 0 rfl rfl 1 (by decide) (hts (.fieldLink RX2 15 "SpriteLines$PixelText" "length" "I") (by decide +kernel)) (fun _ h9 => h9) rfl dX2_append_31 ?_
      refine z_iconst (n := 1) hx hb dX2_append_34 ?_
      refine z_iadd hx hb dX2_append_35 ?_
      refine z_put (G := G) (ci := 2) (v := .int (zI ((T 0) + 1))) (ty := .int) (C := RX2) (T := TX2) (N := 9) hx hb hts hi2 tyX2 tyX2_ok nmX2 hown hK.1 hTx (Ord.D (ordTx cs (sh a 17) T lo hi_ (updZ X (T 0) c_)) (inj_sh (w := 2) ia (by decide))) hS 0 rfl rfl 1 (by decide) (hts (.fieldLink RX2 15 "SpriteLines$PixelText" "length" "I") (by decide +kernel)) (fun _ h9 => h9) rfl (by decide +kernel) rfl rfl (Nat.le_of_ble_eq_true rfl) ⟨17, by decide, by decide, rfl⟩ dX2_append_36 (fun H locs hP1 hle hk hS => ?_)
      have hTx : va_P G vwCl (txW cs (sh a 17) (updZ T 0 ((T 0) + 1)) lo hi_ (updZ X (T 0) c_)) H := hP1
      exact v_ret hx hb hr hlk dX2_append_39 hS hTx
