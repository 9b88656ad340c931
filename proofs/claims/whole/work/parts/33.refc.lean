theorem rr_bl {S : SS} {Y Y2 : Int → Int} (wf : WF S) (h : RR S Y) (h0 : S 0 0 < 24) (e : ∀ k, 0 ≤ k → k < 361 → Y2 k = if k = 0 then S 0 0 + 1 else if 5 + 8 * S 0 0 ≤ k ∧ k < 5 + 8 * S 0 0 + 8 then 0 else Y k) : RR (addBl S) Y2 := by
  obtain ⟨w0, w1, -⟩ := wf
  obtain ⟨⟨a0, a1, a2, a3, a4⟩, hx, hc, hs, hw⟩ := h
  have en : ∀ k, 0 < k → k < 361 → ¬ (5 + 8 * S 0 0 ≤ k ∧ k < 5 + 8 * S 0 0 + 8) → Y2 k = Y k := fun k h1 h2 h3 => by rw [e k (by omega) h2, if_neg (by omega), if_neg h3]
  refine ⟨⟨by rw [e 0 (by decide) (by decide)]; rfl, (en 1 (by decide) (by decide) (by omega)).trans a1, (en 2 (by decide) (by decide) (by omega)).trans a2, (en 3 (by decide) (by decide) (by omega)).trans a3, (en 4 (by decide) (by decide) (by omega)).trans a4⟩, ?_, ?_, ?_, ?_⟩
  · intro p r h1 h2 h3 h4
    have h2 : p < S 0 0 + 1 := h2
    show _ = iB (rowB (putRw (S 5) (S 0 0) 64 (fun _ => false) (fun _ => false)) (64 * p + 8 * r))
    by_cases c : p = S 0 0
    · subst c
      rw [e _ (by omega) (by omega), if_neg (by omega), if_pos (by omega), iB_0]
      refine iB_congr (fun k _ => ?_)
      unfold rowB
      by_cases hk : k < 16
      · rw [show putRw (S 5) (S 0 0) 64 (fun _ => false) (fun _ => false) (64 * S 0 0 + 8 * r + ((k / 2 : Nat) : Int)) = 0 from if_pos (by omega)]
        simp
      · rw [decide_eq_false hk, Bool.false_and]
    · rw [en _ (by omega) (by omega) (by omega), rowB_congr (X2 := S 5) (fun c q1 q2 => putRw_out (by omega))]
      exact hx p r h1 (by omega) h3 h4
  · intro q v h1 h2 h3 h4
    rw [en _ (by omega) (by omega) (by omega)]
    exact hc q v h1 h2 h3 h4
  · intro s t h1 h2 h3 h4
    have h2 : s < S 0 1 := h2
    rw [en _ (by omega) (by omega) (by omega)]
    exact hs s t h1 h2 h3 h4
  · intro x h1 h2
    rw [en _ (by omega) (by omega) (by omega)]
    exact hw x h1 h2
def blZ (Y : Int → Int) (p i : Int) : Int → Int := fun k => if 5 + 8 * p ≤ k ∧ k < 5 + 8 * p + i then 0 else Y k
theorem blZ_0 {Y : Int → Int} {p : Int} : blZ Y p 0 = Y := funext fun k => if_neg (by omega)
theorem blZ_s {Y : Int → Int} {p i : Int} (h : 0 ≤ i) : updZ (blZ Y p i) (5 + 8 * p + i) 0 = blZ Y p (i + 1) := by
  funext k
  unfold updZ blZ
  by_cases e : k = 5 + 8 * p + i
  · rw [if_pos e, if_pos (by omega)]
  · rw [if_neg e]
    by_cases c : 5 + 8 * p ≤ k ∧ k < 5 + 8 * p + i
    · rw [if_pos c, if_pos (by omega)]
    · rw [if_neg c, if_neg (by omega)]
theorem bl_all {S : SS} {Y : Int → Int} (h0 : 0 ≤ S 0 0) : ∀ k, 0 ≤ k → k < 361 → updZ (blZ Y (S 0 0) 8) 0 (S 0 0 + 1) k = if k = 0 then S 0 0 + 1 else if 5 + 8 * S 0 0 ≤ k ∧ k < 5 + 8 * S 0 0 + 8 then 0 else Y k := fun _ _ _ => rfl
/-- a new sprite -/
theorem rr_sp {S : SS} {Y Y2 : Int → Int} {q x y : Int} (wf : WF S) (h : RR S Y) (h1 : S 0 1 < 20) (e : Y2 = updZ (updZ (updZ (updZ (updZ (updZ (updZ Y (209 + 6 * S 0 1 + 0) q) (209 + 6 * S 0 1 + 1) 0) (209 + 6 * S 0 1 + 2) 0) (209 + 6 * S 0 1 + 3) 1) (209 + 6 * S 0 1 + 4) x) (209 + 6 * S 0 1 + 5) y) 1 (S 0 1 + 1)) : RR (addSp S q x y) Y2 := by
  subst e
  obtain ⟨w0, w1, -⟩ := wf
  obtain ⟨⟨a0, a1, a2, a3, a4⟩, hx, hc, hs, hw⟩ := h
  have en : ∀ k, k ≠ 1 → ¬ (209 + 6 * S 0 1 ≤ k ∧ k < 209 + 6 * S 0 1 + 6) → updZ (updZ (updZ (updZ (updZ (updZ (updZ Y (209 + 6 * S 0 1 + 0) q) (209 + 6 * S 0 1 + 1) 0) (209 + 6 * S 0 1 + 2) 0) (209 + 6 * S 0 1 + 3) 1) (209 + 6 * S 0 1 + 4) x) (209 + 6 * S 0 1 + 5) y) 1 (S 0 1 + 1) k = Y k := fun k g1 g2 => by
    rw [updZ_n g1, updZ_n (by omega), updZ_n (by omega), updZ_n (by omega), updZ_n (by omega), updZ_n (by omega), updZ_n (by omega)]
  refine ⟨⟨(en 0 (by decide) (by omega)).trans a0, by rw [updZ_s]; rfl, (en 2 (by decide) (by omega)).trans a2, (en 3 (by decide) (by omega)).trans a3, (en 4 (by decide) (by omega)).trans a4⟩, ?_, ?_, ?_, ?_⟩
  · intro p r g1 g2 g3 g4
    have g2 : p < S 0 0 := g2
    rw [en _ (by omega) (by omega)]
    exact hx p r g1 g2 g3 g4
  · intro q2 v g1 g2 g3 g4
    rw [en _ (by omega) (by omega)]
    exact hc q2 v g1 g2 g3 g4
  · intro s t g1 g2 g3 g4
    have g2 : s < S 0 1 + 1 := g2
    show _ = updZ (updZ (updZ (updZ (updZ (updZ (S 1) (6 * S 0 1 + 0) q) (6 * S 0 1 + 1) 0) (6 * S 0 1 + 2) 0) (6 * S 0 1 + 3) 1) (6 * S 0 1 + 4) x) (6 * S 0 1 + 5) y (6 * s + t)
    by_cases c : s = S 0 1
    · subst c
      rw [updZ_n (show 209 + 6 * S 0 1 + t ≠ 1 by omega)]
      unfold updZ
      rcases (show t = 0 ∨ t = 1 ∨ t = 2 ∨ t = 3 ∨ t = 4 ∨ t = 5 by omega) with rfl | rfl | rfl | rfl | rfl | rfl <;> simp only [Int.add_right_inj, if_true, if_false] <;> simp
    · rw [en _ (by omega) (by omega), updZ_n (by omega), updZ_n (by omega), updZ_n (by omega), updZ_n (by omega), updZ_n (by omega), updZ_n (by omega)]
      exact hs s t g1 (by omega) g3 g4
  · intro x2 g1 g2
    rw [en _ (by omega) (by omega)]
    exact hw x2 g1 g2
/-- the swap of a line -/
def swV (u v : Int) : Int := if u = v then 0 else if u < v then 16 * u + v else 16 * v + u
def swZ (Y : Int → Int) (f w i : Int) : Int → Int := fun k => if 329 + f ≤ k ∧ k < 329 + i then w else Y k
theorem swZ_0 {Y : Int → Int} {f w : Int} : swZ Y f w f = Y := funext fun k => if_neg (by omega)
theorem swZ_s {Y : Int → Int} {f w i : Int} (h : f ≤ i) : updZ (swZ Y f w i) (329 + i) w = swZ Y f w (i + 1) := by
  funext k
  unfold updZ swZ
  by_cases e : k = 329 + i
  · rw [if_pos e, if_pos (by omega)]
  · rw [if_neg e]
    by_cases c : 329 + f ≤ k ∧ k < 329 + i
    · rw [if_pos c, if_pos (by omega)]
    · rw [if_neg c, if_neg (by omega)]
theorem swN_at {S : SS} {f u v : Int} (n : Nat) : (∀ g, g ≠ 3 → g ≠ 4 → swN S f u v n g = S g) ∧ (∀ x, swN S f u v n 3 x = if f ≤ x ∧ x < f + n then (if v < u then v else u) else S 3 x) ∧ (∀ x, swN S f u v n 4 x = if f ≤ x ∧ x < f + n then (if u < v then v else u) else S 4 x) := by
  induction n with
  | zero => exact ⟨fun _ _ _ => rfl, fun x => by rw [if_neg (show ¬ (f ≤ x ∧ x < f + ((0 : Nat) : Int)) by omega)]; rfl, fun x => by rw [if_neg (show ¬ (f ≤ x ∧ x < f + ((0 : Nat) : Int)) by omega)]; rfl⟩
  | succ n ih =>
    refine ⟨fun g h3 h4 => ?_, fun x => ?_, fun x => ?_⟩
    · show putSw (swN S f u v n) (f + n) u v g = _
      unfold putSw
      rw [up2_n h4, up2_n h3]
      exact ih.1 g h3 h4
    · show putSw (swN S f u v n) (f + n) u v 3 x = _
      unfold putSw
      rw [up2_n (by decide), up2_s]
      unfold updZ
      by_cases e : x = f + n
      · rw [if_pos e, if_pos (show f ≤ x ∧ x < f + ((n + 1 : Nat) : Int) by omega)]
      · rw [if_neg e, ih.2.1 x]
        by_cases c : f ≤ x ∧ x < f + n
        · rw [if_pos c, if_pos (show f ≤ x ∧ x < f + ((n + 1 : Nat) : Int) by omega)]
        · rw [if_neg c, if_neg (show ¬ (f ≤ x ∧ x < f + ((n + 1 : Nat) : Int)) by omega)]
    · show putSw (swN S f u v n) (f + n) u v 4 x = _
      unfold putSw
      rw [up2_s]
      unfold updZ
      by_cases e : x = f + n
      · rw [if_pos e, if_pos (show f ≤ x ∧ x < f + ((n + 1 : Nat) : Int) by omega)]
      · rw [if_neg e, ih.2.2 x]
        by_cases c : f ≤ x ∧ x < f + n
        · rw [if_pos c, if_pos (show f ≤ x ∧ x < f + ((n + 1 : Nat) : Int) by omega)]
        · rw [if_neg c, if_neg (show ¬ (f ≤ x ∧ x < f + ((n + 1 : Nat) : Int)) by omega)]
theorem rr_sw {S : SS} {Y : Int → Int} {f t u v : Int} (wf : WF S) (h : RR S Y) (hf : 0 ≤ f ∧ f ≤ t ∧ t < 32) : RR (swN S f u v (t + 1 - f).toNat) (swZ Y f (swV u v) (t + 1)) := by
  obtain ⟨w0, w1, -⟩ := wf
  obtain ⟨⟨a0, a1, a2, a3, a4⟩, hx, hc, hs, hw⟩ := h
  obtain ⟨e, e3, e4⟩ := swN_at (S := S) (f := f) (u := u) (v := v) (t + 1 - f).toNat
  have en : ∀ k, ¬ (329 + f ≤ k ∧ k < 329 + (t + 1)) → swZ Y f (swV u v) (t + 1) k = Y k := fun k g => if_neg g
  unfold RR
  rw [e 0 (by decide) (by decide), e 1 (by decide) (by decide), e 2 (by decide) (by decide), e 5 (by decide) (by decide)]
  refine ⟨⟨(en 0 (by omega)).trans a0, (en 1 (by omega)).trans a1, (en 2 (by omega)).trans a2, (en 3 (by omega)).trans a3, (en 4 (by omega)).trans a4⟩, ?_, ?_, ?_, ?_⟩
  · intro p r g1 g2 g3 g4
    rw [en _ (by omega)]
    exact hx p r g1 g2 g3 g4
  · intro q2 v g1 g2 g3 g4
    rw [en _ (by omega)]
    exact hc q2 v g1 g2 g3 g4
  · intro s t g1 g2 g3 g4
    rw [en _ (by omega)]
    exact hs s t g1 g2 g3 g4
  · intro x g1 g2
    rw [e3 x, e4 x]
    by_cases c : f ≤ x ∧ x < f + (((t + 1 - f).toNat : Nat) : Int)
    · rw [if_pos c, if_pos c, show swZ Y f (swV u v) (t + 1) (329 + x) = swV u v from if_pos (by omega)]
      unfold swV
      by_cases c1 : u = v
      · subst c1
        rw [if_pos rfl, if_pos rfl]
      · rw [if_neg c1]
        by_cases c2 : u < v
        · rw [if_pos c2, if_pos c2, if_neg (show ¬ v < u by omega), if_neg (show ¬ u = v by omega)]
        · rw [if_neg c2, if_neg c2, if_pos (show v < u by omega), if_neg (show ¬ v = u by omega)]
    · rw [if_neg c, if_neg c, en _ (by omega)]
      exact hw x g1 g2
theorem rr_mv {S : SS} {Y : Int → Int} {z x y : Int} (w0 : 0 ≤ S 0 0 ∧ S 0 0 ≤ 24) (w1 : 0 ≤ S 0 1 ∧ S 0 1 ≤ 20) (rr : RR S Y) (hz : 0 ≤ z ∧ z < 20) : RR (mvS S z x y) (updZ (updZ Y (209 + 6 * z + 4) x) (209 + 6 * z + 5) y) := by
  have h := rr_prop (S := up2 S 1 (updZ (S 1) (6 * z + 4) x)) (x := z) (t := 5) (v := y) w0 w1 (rr_prop (x := z) (t := 4) (v := x) w0 w1 rr hz (by decide)) hz (by decide)
  rw [up2_2, up2_s] at h
  exact h
theorem rr_cp {S : SS} {Y W : Int → Int} (wf : WF S) (h : RR S W) : RR S (cpZ Y W 361) := rr_congr wf h (fun _ h1 h2 => if_pos ⟨h1, h2⟩)
theorem hr_at {n : Int} {L : Nat → SS} {H : Int → Int} (h : HR n L H) {i : Int} (hi : 0 ≤ i ∧ i < n) : RR (L i.toNat) (fun k => H (361 * i + k)) := by
  have h1 := h i.toNat (by omega)
  rw [show ((i.toNat : Nat) : Int) = i by omega] at h1
  exact h1
theorem sr_at {k : Nat → Bool} {V : Nat → SS} {Kp Sl : Int → Int} (h : SR k V Kp Sl) {z : Int} (hz : 0 ≤ z ∧ z < 2) : Kp z = b2 (k z.toNat) ∧ (k z.toNat = true → RR (V z.toNat) (fun j => Sl (361 * z + j))) := by
  have h1 := h z.toNat (by omega)
  rw [show ((z.toNat : Nat) : Int) = z by omega] at h1
  exact h1
theorem sr_keep {k : Nat → Bool} {V : Nat → SS} {Kp Sl Y : Int → Int} {S : SS} {z : Int} (wf : WF S) (hV : ∀ s : Nat, s < 2 → k s = true → WF (V s)) (h : SR k V Kp Sl) (rr : RR S Y) (hz : 0 ≤ z ∧ z < 2) : SR (updK k z.toNat) (updT V z.toNat S) (updZ Kp z 1) (wrZ Sl Y (361 * z) 361) := by
  intro i hi
  by_cases e : i = z.toNat
  · subst e
    rw [show ((z.toNat : Nat) : Int) = z by omega]
    refine ⟨by rw [updZ_s]; unfold updK; rw [if_pos rfl]; rfl, fun _ => ?_⟩
    rw [updT_s]
    refine rr_congr wf rr (fun k h1 h2 => ?_)
    show wrZ Sl Y (361 * z) 361 (361 * z + k) = Y k
    unfold wrZ
    rw [if_pos (by omega), show 361 * z + k - 361 * z = k by omega]
  · have h1 := h i hi
    refine ⟨?_, fun hk => ?_⟩
    · rw [updZ_n (by omega), h1.1]
      unfold updK
      rw [if_neg e]
    · have hk : k i = true := by unfold updK at hk; rw [if_neg e] at hk; exact hk
      rw [updT_n e]
      refine rr_congr (hV i hi hk) (h1.2 hk) (fun j g1 g2 => ?_)
      show wrZ Sl Y (361 * z) 361 (361 * (i : Int) + j) = Sl (361 * (i : Int) + j)
      exact if_neg (by omega)
theorem pix0 {S : SS} {q r t : Int} : S 5 (64 * q + (8 * r + t)) = pixW S q 0 r t := by
  unfold pixW
  rw [if_neg (by decide), if_neg (by decide)]
set_option maxHeartbeats 4000000 in
set_option maxRecDepth 100000 in
theorem c_X7_begin (l : Launch) (G : va_G) (cs : Nat → ClassId) (a : Nat → Nat) (Y Z : Int → Int) (kq tq nq : Int) (ia : Inj a 10) : MV l yX7_begin wsX7_begin { frames := 0, cells := 0, slots := 0, locals := 0 } G cs [.ref (a 0)] (fun H => va_P G vwCl (moW cs a kq tq nq) H ∧ va_P G vwCl (m7 cs a 1 0 361 (aI Y)) H ∧ va_P G vwCl (m7 cs a 2 0 361 (aI Z)) H) (fun H => va_P G vwCl (m7 cs a 2 0 361 (aI (cpZ Z Y 361))) H) (AX a 2 3) 0 0 := by
  refine m_intro (Pw := (fun H => va_P G vwCl (moW cs a kq tq nq) H ∧ va_P G vwCl (m7 cs a 1 0 361 (aI Y)) H ∧ va_P G vwCl (m7 cs a 2 0 361 (aI Z)) H)) (cc := cX7_begin) (maxL := 2) (ret := none) RX7 (by decide) rfl rfl (Nat.le_of_ble_eq_true rfl) ?_
  intro pP eE sS mM below meth cC hx hb hr hts hown hml hlk hnm hPre hK ls hl
  have hl : lv_has ls 2 [(0, .ref (a 0))] := hl
  obtain ⟨hMo, hRw, hSc⟩ := hPre
  have hS : va_S (AX a 2 3) sS.heap sS.heap [] := va_S.rf
  have hi7 : ∀ w ∈ u_ws RX7 TX7 12, w ∈ wsX7_begin := by decide +kernel
  refine z_iconst (n := 0) hx hb dX7_begin_0 ?_
  refine lv_istore_n (lv' := [(1, .int (zI 0)), (0, .ref (a 0))]) hx hb dX7_begin_1 rfl hl (by decide) rfl (fun ls hl => ?_)
  -- loop 2
  refine z_loopH (nL := 2) (fun (i : Int) => [(0, .ref (a 0)), (1, .int (zI i))]) (fun (i : Int) (H : Heap) => (0 ≤ i ∧ i ≤ 361) ∧ va_P G vwCl (moW cs a kq tq nq) H ∧ va_P G vwCl (m7 cs a 1 0 361 (aI Y)) H ∧ va_P G vwCl (m7 cs a 2 0 361 (aI (cpZ Z Y i))) H) (fun (i : Int) => (361 - i).toNat) 0 ⟨(by omega), hMo, hRw, (by rw [cpZ_0]; exact hSc)⟩ hS (lv_sub hl [1, 0] rfl) (fun i H locs hIH hS ih ls hl => ?_)
  obtain ⟨hI, hMo, hRw, hSc⟩ := hIH
  have hl : lv_has ls 2 [(0, .ref (a 0)), (1, .int (zI i))] := hl
  refine lv_iload_n hx hb dX7_begin_2 rfl (lv_at hl 1 rfl) ?_
  refine z_sipush (n := 361) hx hb dX7_begin_3 (by decide) ?_
  refine z_icmp_ge (tgt := 27) hx hb dX7_begin_6 (by decide) (by omega) (by omega) (fun c1 => ?_) (fun c1 => ?_)
  · skip
    exact v_ret hx hb hr hlk dX7_begin_27 hS (by rw [show i = 361 by omega] at hSc; exact hSc)
  · skip
    refine lv_aload_n hx hb dX7_begin_9 rfl (lv_at hl 0 rfl) ?_
    refine va_get (D := G) (ci := 7) (v := .ref ((sh a 2) 0)) (C := RX7) (T := TX7) (N := 12) hx hb hts hi7 hown hK.1 hMo 0 rfl rfl 1 (by decide) (hts (.fieldLink RX7 13 "SpriteLinesModel" "scratch" "[I") (by decide +kernel)) (fun _ h9 => h9) rfl dX7_begin_10 ?_
    refine lv_iload_n hx hb dX7_begin_13 rfl (lv_at hl 1 rfl) ?_
    refine lv_aload_n hx hb dX7_begin_14 rfl (lv_at hl 0 rfl) ?_
    refine va_get (D := G) (ci := 7) (v := .ref ((sh a 1) 0)) (C := RX7) (T := TX7) (N := 12) hx hb hts hi7 hown hK.1 hMo 0 rfl rfl 0 (by decide) (hts (.fieldLink RX7 7 "SpriteLinesModel" "row" "[I") (by decide +kernel)) (fun _ h9 => h9) rfl dX7_begin_15 ?_
    refine lv_iload_n hx hb dX7_begin_18 rfl (lv_at hl 1 rfl) ?_
    refine z_iald hx hb hK.1 hRw 0 0 (F := Y) rfl rfl (by omega) (by decide) dX7_begin_19 ?_
    refine z_iast hx hb hK.1 hSc (Ord.D (ordM7 cs a 2 0 361 (aI (cpZ Z Y i))) inj1) hS 0 0 (F := (cpZ Z Y i)) rfl rfl (by omega) (by decide) ⟨2, by decide, by decide, rfl⟩ dX7_begin_20 (fun H locs hP1 hle hk hS => ?_)
    have hMo := keepO (ordMo cs a kq tq nq) hMo hk (fun j hj h3 => absurd (ia j 2 (by omega) (by omega) h3) (by omega))
    have hRw := keepO (ordM7 cs a 1 0 361 (aI Y)) hRw hk (fun j hj h3 => absurd (ia (1 + j) 2 (by omega) (by omega) h3) (by omega))
    have hSc : va_P G vwCl (m7 cs a 2 0 361 (aI (updZ (cpZ Z Y i) i (Y i)))) H := hP1
    refine z_iinc (k := 1) (lv' := [(1, .int (zI (i + 1))), (0, .ref (a 0))]) hx hb dX7_begin_21 hl rfl (by decide) rfl (fun ls hl => ?_)
    refine lv_goto (tgt := 2) hx hb dX7_begin_24 (by decide) ?_
    exact ih (i + 1) H locs ⟨(by omega), hMo, hRw, (by rw [← cpZ_s hI.1]; exact hSc)⟩ hS (by omega) ls (lv_sub hl [1, 0] rfl)

set_option maxHeartbeats 4000000 in
set_option maxRecDepth 100000 in
theorem c_X7_done (l : Launch) (G : va_G) (cs : Nat → ClassId) (a : Nat → Nat) (kq tq nq : Int) (Hh Z : Int → Int) (v : Int) (ia : Inj a 10) (hk : 0 ≤ kq ∧ kq ≤ 5) : MW l yX7_done wsX7_done { frames := 0, cells := 0, slots := 0, locals := 0 } G cs [.ref (a 0), .int (zI v)] (fun H => va_P G vwCl (moW cs a kq tq nq) H ∧ va_P G vwCl (m7 cs a 2 0 361 (aI Z)) H ∧ va_P G vwCl (m7 cs a 3 0 1805 (aI Hh)) H) (fun vv H => vv = .int (zI v) ∧ va_P G vwCl (moW cs a (remN kq) tq nq) H ∧ va_P G vwCl (m7 cs a 3 0 1805 (aI (doneH kq Hh Z))) H) (fun q => AX a 0 1 q ∨ AX a 3 4 q) 0 0 := by
  refine m_intro (Pw := (fun H => va_P G vwCl (moW cs a kq tq nq) H ∧ va_P G vwCl (m7 cs a 2 0 361 (aI Z)) H ∧ va_P G vwCl (m7 cs a 3 0 1805 (aI Hh)) H)) (cc := cX7_done) (maxL := 3) (ret := some .int) RX7 (by decide) rfl rfl (Nat.le_of_ble_eq_true rfl) ?_
  intro pP eE sS mM below meth cC hx hb hr hts hown hml hlk hnm hPre hK ls hl
  have hl : lv_has ls 3 [(0, .ref (a 0)), (1, .int (zI v))] := hl
  obtain ⟨hMo, hSc, hHs⟩ := hPre
  have hS : va_S (fun q => AX a 0 1 q ∨ AX a 3 4 q) sS.heap sS.heap [] := va_S.rf
  have hi7 : ∀ w ∈ u_ws RX7 TX7 12, w ∈ wsX7_done := by decide +kernel
  refine lv_aload_n hx hb dX7_done_0 rfl (lv_at hl 0 rfl) ?_
  refine va_get (D := G) (ci := 7) (v := .int (zI kq)) (C := RX7) (T := TX7) (N := 12) hx hb hts hi7 hown hK.1 hMo 0 rfl rfl 3 (by decide) (hts (.fieldLink RX7 39 "SpriteLinesModel" "kept" "I") (by decide +kernel)) (fun _ h9 => h9) rfl dX7_done_1 ?_
  refine z_iconst (n := 5) hx hb dX7_done_4 ?_
  refine z_icmp_ne (tgt := 54) hx hb dX7_done_5 (by decide) (by omega) (by omega) (fun c1 => ?_) (fun c1 => ?_)
  · skip
    refine z_iconst (n := 0) hx hb dX7_done_54 ?_
    refine lv_istore_n (lv' := [(2, .int (zI 0)), (0, .ref (a 0)), (1, .int (zI v))]) hx hb dX7_done_55 rfl hl (by decide) rfl (fun ls hl => ?_)
    -- loop 56
    skip
    refine z_loopH (nL := 3) (fun (i : Int) => [(0, .ref (a 0)), (1, .int (zI v)), (2, .int (zI i))]) (fun (i : Int) (H : Heap) => (0 ≤ i ∧ i ≤ 361) ∧ va_P G vwCl (moW cs a kq tq nq) H ∧ va_P G vwCl (m7 cs a 2 0 361 (aI Z)) H ∧ va_P G vwCl (m7 cs a 3 0 1805 (aI (wrZ Hh Z (361 * kq) i))) H) (fun (i : Int) => (361 - i).toNat) 0 ⟨(by omega), hMo, hSc, (by rw [wrZ_0]; exact hHs)⟩ hS (lv_sub hl [1, 2, 0] rfl) (fun i H locs hIH hS ih ls hl => ?_)
    obtain ⟨hI, hMo, hSc, hHs⟩ := hIH
    have hl : lv_has ls 3 [(0, .ref (a 0)), (1, .int (zI v)), (2, .int (zI i))] := hl
    refine lv_iload_n hx hb dX7_done_56 rfl (lv_at hl 2 rfl) ?_
    refine z_sipush (n := 361) hx hb dX7_done_57 (by decide) ?_
    refine z_icmp_ge (tgt := 90) hx hb dX7_done_60 (by decide) (by omega) (by omega) (fun c1 => ?_) (fun c1 => ?_)
    · skip
      refine lv_aload_n hx hb dX7_done_90 rfl (lv_at hl 0 rfl) ?_
      refine lv_dup hx hb dX7_done_91 rfl ?_
      refine va_get (D := G) (ci := 7) (v := .int (zI kq)) (C := RX7) (T := TX7) (N := 12) hx hb hts hi7 hown hK.1 hMo 0 rfl rfl 3 (by decide) (hts (.fieldLink RX7 39 "SpriteLinesModel" "kept" "I") (by decide +kernel)) (fun _ h9 => h9) rfl dX7_done_92 ?_
      refine z_iconst (n := 1) hx hb dX7_done_95 ?_
      refine z_iadd hx hb dX7_done_96 ?_
      refine z_put (G := G) (ci := 7) (v := .int (zI (kq + 1))) (ty := .int) (C := RX7) (T := TX7) (N := 12) hx hb hts hi7 tyX7 tyX7_ok nmX7 hown hK.1 hMo (Ord.D (ordMo cs a kq tq nq) inj1) hS 0 rfl rfl 3 (by decide) (hts (.fieldLink RX7 39 "SpriteLinesModel" "kept" "I") (by decide +kernel)) (fun _ h9 => h9) rfl (by decide +kernel) rfl rfl (Nat.le_of_ble_eq_true rfl) (Or.inl (⟨0, by decide, by decide, rfl⟩)) dX7_done_97 (fun H locs hP1 hle hk hS => ?_)
      have hSc := keepO (ordM7 cs a 2 0 361 (aI Z)) hSc hk (fun j hj h3 => absurd (ia (2 + j) 0 (by omega) (by omega) h3) (by omega))
      have hHs := keepO (ordM7 cs a 3 0 1805 (aI (wrZ Hh Z (361 * kq) i))) hHs hk (fun j hj h3 => absurd (ia (3 + j) 0 (by omega) (by omega) h3) (by omega))
      have hMo : va_P G vwCl (moW cs a (kq + 1) tq nq) H := hP1
      refine lv_iload_n hx hb dX7_done_100 rfl (lv_at hl 1 rfl) ?_
      exact w_iret hx hb hr hlk dX7_done_101 hS ⟨rfl, by rw [show remN kq = kq + 1 from if_pos (by omega)]; exact hMo, by rw [show i = 361 by omega] at hHs; unfold doneH; rw [if_neg (show ¬ kq = 5 by omega)]; exact hHs⟩
    · skip
      refine lv_aload_n hx hb dX7_done_63 rfl (lv_at hl 0 rfl) ?_
      refine va_get (D := G) (ci := 7) (v := .ref ((sh a 3) 0)) (C := RX7) (T := TX7) (N := 12) hx hb hts hi7 hown hK.1 hMo 0 rfl rfl 2 (by decide) (hts (.fieldLink RX7 16 "SpriteLinesModel" "history" "[I") (by decide +kernel)) (fun _ h9 => h9) rfl dX7_done_64 ?_
      refine z_sipush (n := 361) hx hb dX7_done_67 (by decide) ?_
      refine lv_aload_n hx hb dX7_done_70 rfl (lv_at hl 0 rfl) ?_
      refine va_get (D := G) (ci := 7) (v := .int (zI kq)) (C := RX7) (T := TX7) (N := 12) hx hb hts hi7 hown hK.1 hMo 0 rfl rfl 3 (by decide) (hts (.fieldLink RX7 39 "SpriteLinesModel" "kept" "I") (by decide +kernel)) (fun _ h9 => h9) rfl dX7_done_71 ?_
      refine z_imul hx hb dX7_done_74 ?_
      refine lv_iload_n hx hb dX7_done_75 rfl (lv_at hl 2 rfl) ?_
      refine z_iadd hx hb dX7_done_76 ?_
      refine lv_aload_n hx hb dX7_done_77 rfl (lv_at hl 0 rfl) ?_
      refine va_get (D := G) (ci := 7) (v := .ref ((sh a 2) 0)) (C := RX7) (T := TX7) (N := 12) hx hb hts hi7 hown hK.1 hMo 0 rfl rfl 1 (by decide) (hts (.fieldLink RX7 13 "SpriteLinesModel" "scratch" "[I") (by decide +kernel)) (fun _ h9 => h9) rfl dX7_done_78 ?_
      refine lv_iload_n hx hb dX7_done_81 rfl (lv_at hl 2 rfl) ?_
      refine z_iald hx hb hK.1 hSc 0 0 (F := Z) rfl rfl (by omega) (by decide) dX7_done_82 ?_
      refine z_iast hx hb hK.1 hHs (Ord.D (ordM7 cs a 3 0 1805 (aI (wrZ Hh Z (361 * kq) i))) inj1) hS 0 0 (F := (wrZ Hh Z (361 * kq) i)) rfl rfl (by omega) (by decide) (Or.inr (⟨3, by decide, by decide, rfl⟩)) dX7_done_83 (fun H locs hP1 hle hk hS => ?_)
      have hMo := keepO (ordMo cs a kq tq nq) hMo hk (fun j hj h3 => absurd (ia j 3 (by omega) (by omega) h3) (by omega))
      have hSc := keepO (ordM7 cs a 2 0 361 (aI Z)) hSc hk (fun j hj h3 => absurd (ia (2 + j) 3 (by omega) (by omega) h3) (by omega))
      have hHs : va_P G vwCl (m7 cs a 3 0 1805 (aI (updZ (wrZ Hh Z (361 * kq) i) ((361 * kq) + i) (Z i)))) H := hP1
      refine z_iinc (k := 2) (lv' := [(2, .int (zI (i + 1))), (0, .ref (a 0)), (1, .int (zI v))]) hx hb dX7_done_84 hl rfl (by decide) rfl (fun ls hl => ?_)
      refine lv_goto (tgt := 56) hx hb dX7_done_87 (by decide) ?_
      exact ih (i + 1) H locs ⟨(by omega), hMo, hSc, (by rw [← wrZ_s hI.1]; exact hHs)⟩ hS (by omega) ls (lv_sub hl [1, 2, 0] rfl)
  · skip
    refine lv_aload_n hx hb dX7_done_8 rfl (lv_at hl 0 rfl) ?_
    refine lv_dup hx hb dX7_done_9 rfl ?_
    refine va_get (D := G) (ci := 7) (v := .int (zI kq)) (C := RX7) (T := TX7) (N := 12) hx hb hts hi7 hown hK.1 hMo 0 rfl rfl 3 (by decide) (hts (.fieldLink RX7 39 "SpriteLinesModel" "kept" "I") (by decide +kernel)) (fun _ h9 => h9) rfl dX7_done_10 ?_
    refine z_iconst (n := 1) hx hb dX7_done_13 ?_
    refine z_isub hx hb dX7_done_14 ?_
    refine z_put (G := G) (ci := 7) (v := .int (zI (kq - 1))) (ty := .int) (C := RX7) (T := TX7) (N := 12) hx hb hts hi7 tyX7 tyX7_ok nmX7 hown hK.1 hMo (Ord.D (ordMo cs a kq tq nq) inj1) hS 0 rfl rfl 3 (by decide) (hts (.fieldLink RX7 39 "SpriteLinesModel" "kept" "I") (by decide +kernel)) (fun _ h9 => h9) rfl (by decide +kernel) rfl rfl (Nat.le_of_ble_eq_true rfl) (Or.inl (⟨0, by decide, by decide, rfl⟩)) dX7_done_15 (fun H locs hP1 hle hk hS => ?_)
    have hSc := keepO (ordM7 cs a 2 0 361 (aI Z)) hSc hk (fun j hj h3 => absurd (ia (2 + j) 0 (by omega) (by omega) h3) (by omega))
    have hHs := keepO (ordM7 cs a 3 0 1805 (aI Hh)) hHs hk (fun j hj h3 => absurd (ia (3 + j) 0 (by omega) (by omega) h3) (by omega))
    have hMo : va_P G vwCl (moW cs a (kq - 1) tq nq) H := hP1
    refine z_iconst (n := 0) hx hb dX7_done_18 ?_
    refine lv_istore_n (lv' := [(2, .int (zI 0)), (0, .ref (a 0)), (1, .int (zI v))]) hx hb dX7_done_19 rfl hl (by decide) rfl (fun ls hl => ?_)
    -- loop 20
    refine z_loopH (nL := 3) (fun (i : Int) => [(0, .ref (a 0)), (1, .int (zI v)), (2, .int (zI i))]) (fun (i : Int) (H : Heap) => (0 ≤ i ∧ i ≤ 361 * (kq - 1)) ∧ va_P G vwCl (moW cs a (kq - 1) tq nq) H ∧ va_P G vwCl (m7 cs a 2 0 361 (aI Z)) H ∧ va_P G vwCl (m7 cs a 3 0 1805 (aI (shZ Hh i))) H) (fun (i : Int) => (361 * (kq - 1) - i).toNat) 0 ⟨(by omega), hMo, hSc, (by rw [shZ_0]; exact hHs)⟩ hS (lv_sub hl [1, 2, 0] rfl) (fun i H locs hIH hS ih ls hl => ?_)
    obtain ⟨hI, hMo, hSc, hHs⟩ := hIH
    have hl : lv_has ls 3 [(0, .ref (a 0)), (1, .int (zI v)), (2, .int (zI i))] := hl
    refine lv_iload_n hx hb dX7_done_20 rfl (lv_at hl 2 rfl) ?_
    refine z_sipush (n := 361) hx hb dX7_done_21 (by decide) ?_
    refine lv_aload_n hx hb dX7_done_24 rfl (lv_at hl 0 rfl) ?_
    refine va_get (D := G) (ci := 7) (v := .int (zI (kq - 1))) (C := RX7) (T := TX7) (N := 12) hx hb hts hi7 hown hK.1 hMo 0 rfl rfl 3 (by decide) (hts (.fieldLink RX7 39 "SpriteLinesModel" "kept" "I") (by decide +kernel)) (fun _ h9 => h9) rfl dX7_done_25 ?_
    refine z_imul hx hb dX7_done_28 ?_
    refine z_icmp_ge (tgt := 54) hx hb dX7_done_29 (by decide) (by omega) (by omega) (fun c2 => ?_) (fun c2 => ?_)
    · skip
      refine z_iconst (n := 0) hx hb dX7_done_54 ?_
      refine lv_istore_n (lv' := [(2, .int (zI 0)), (0, .ref (a 0)), (1, .int (zI v))]) hx hb dX7_done_55 rfl hl (by decide) rfl (fun ls hl => ?_)
      -- loop 56
      rw [show i = 361 * (kq - 1) by omega] at hHs
      refine z_loopH (nL := 3) (fun (i : Int) => [(0, .ref (a 0)), (1, .int (zI v)), (2, .int (zI i))]) (fun (i : Int) (H : Heap) => (0 ≤ i ∧ i ≤ 361) ∧ va_P G vwCl (moW cs a (kq - 1) tq nq) H ∧ va_P G vwCl (m7 cs a 2 0 361 (aI Z)) H ∧ va_P G vwCl (m7 cs a 3 0 1805 (aI (wrZ (shZ Hh (361 * (kq - 1))) Z (361 * (kq - 1)) i))) H) (fun (i : Int) => (361 - i).toNat) 0 ⟨(by omega), hMo, hSc, (by rw [wrZ_0]; exact hHs)⟩ hS (lv_sub hl [1, 2, 0] rfl) (fun i H locs hIH hS ih ls hl => ?_)
      obtain ⟨hI, hMo, hSc, hHs⟩ := hIH
      have hl : lv_has ls 3 [(0, .ref (a 0)), (1, .int (zI v)), (2, .int (zI i))] := hl
      refine lv_iload_n hx hb dX7_done_56 rfl (lv_at hl 2 rfl) ?_
      refine z_sipush (n := 361) hx hb dX7_done_57 (by decide) ?_
      refine z_icmp_ge (tgt := 90) hx hb dX7_done_60 (by decide) (by omega) (by omega) (fun c3 => ?_) (fun c3 => ?_)
      · skip
        refine lv_aload_n hx hb dX7_done_90 rfl (lv_at hl 0 rfl) ?_
        refine lv_dup hx hb dX7_done_91 rfl ?_
        refine va_get (D := G) (ci := 7) (v := .int (zI (kq - 1))) (C := RX7) (T := TX7) (N := 12) hx hb hts hi7 hown hK.1 hMo 0 rfl rfl 3 (by decide) (hts (.fieldLink RX7 39 "SpriteLinesModel" "kept" "I") (by decide +kernel)) (fun _ h9 => h9) rfl dX7_done_92 ?_
        refine z_iconst (n := 1) hx hb dX7_done_95 ?_
        refine z_iadd hx hb dX7_done_96 ?_
        refine z_put (G := G) (ci := 7) (v := .int (zI ((kq - 1) + 1))) (ty := .int) (C := RX7) (T := TX7) (N := 12) hx hb hts hi7 tyX7 tyX7_ok nmX7 hown hK.1 hMo (Ord.D (ordMo cs a (kq - 1) tq nq) inj1) hS 0 rfl rfl 3 (by decide) (hts (.fieldLink RX7 39 "SpriteLinesModel" "kept" "I") (by decide +kernel)) (fun _ h9 => h9) rfl (by decide +kernel) rfl rfl (Nat.le_of_ble_eq_true rfl) (Or.inl (⟨0, by decide, by decide, rfl⟩)) dX7_done_97 (fun H locs hP1 hle hk hS => ?_)
        have hSc := keepO (ordM7 cs a 2 0 361 (aI Z)) hSc hk (fun j hj h3 => absurd (ia (2 + j) 0 (by omega) (by omega) h3) (by omega))
        have hHs := keepO (ordM7 cs a 3 0 1805 (aI (wrZ (shZ Hh (361 * (kq - 1))) Z (361 * (kq - 1)) i))) hHs hk (fun j hj h3 => absurd (ia (3 + j) 0 (by omega) (by omega) h3) (by omega))
        have hMo : va_P G vwCl (moW cs a ((kq - 1) + 1) tq nq) H := hP1
        refine lv_iload_n hx hb dX7_done_100 rfl (lv_at hl 1 rfl) ?_
        exact w_iret hx hb hr hlk dX7_done_101 hS ⟨rfl, by rw [show remN kq = kq - 1 + 1 by unfold remN; rw [if_neg (show ¬ kq < 5 by omega)]; omega]; exact hMo, by rw [show i = 361 by omega] at hHs; unfold doneH; rw [if_pos (show kq = 5 by omega), show (1444 : Int) = 361 * (kq - 1) by omega]; exact hHs⟩
      · skip
        refine lv_aload_n hx hb dX7_done_63 rfl (lv_at hl 0 rfl) ?_
        refine va_get (D := G) (ci := 7) (v := .ref ((sh a 3) 0)) (C := RX7) (T := TX7) (N := 12) hx hb hts hi7 hown hK.1 hMo 0 rfl rfl 2 (by decide) (hts (.fieldLink RX7 16 "SpriteLinesModel" "history" "[I") (by decide +kernel)) (fun _ h9 => h9) rfl dX7_done_64 ?_
        refine z_sipush (n := 361) hx hb dX7_done_67 (by decide) ?_
        refine lv_aload_n hx hb dX7_done_70 rfl (lv_at hl 0 rfl) ?_
        refine va_get (D := G) (ci := 7) (v := .int (zI (kq - 1))) (C := RX7) (T := TX7) (N := 12) hx hb hts hi7 hown hK.1 hMo 0 rfl rfl 3 (by decide) (hts (.fieldLink RX7 39 "SpriteLinesModel" "kept" "I") (by decide +kernel)) (fun _ h9 => h9) rfl dX7_done_71 ?_
        refine z_imul hx hb dX7_done_74 ?_
        refine lv_iload_n hx hb dX7_done_75 rfl (lv_at hl 2 rfl) ?_
        refine z_iadd hx hb dX7_done_76 ?_
        refine lv_aload_n hx hb dX7_done_77 rfl (lv_at hl 0 rfl) ?_
        refine va_get (D := G) (ci := 7) (v := .ref ((sh a 2) 0)) (C := RX7) (T := TX7) (N := 12) hx hb hts hi7 hown hK.1 hMo 0 rfl rfl 1 (by decide) (hts (.fieldLink RX7 13 "SpriteLinesModel" "scratch" "[I") (by decide +kernel)) (fun _ h9 => h9) rfl dX7_done_78 ?_
        refine lv_iload_n hx hb dX7_done_81 rfl (lv_at hl 2 rfl) ?_
        refine z_iald hx hb hK.1 hSc 0 0 (F := Z) rfl rfl (by omega) (by decide) dX7_done_82 ?_
        refine z_iast hx hb hK.1 hHs (Ord.D (ordM7 cs a 3 0 1805 (aI (wrZ (shZ Hh (361 * (kq - 1))) Z (361 * (kq - 1)) i))) inj1) hS 0 0 (F := (wrZ (shZ Hh (361 * (kq - 1))) Z (361 * (kq - 1)) i)) rfl rfl (by omega) (by decide) (Or.inr (⟨3, by decide, by decide, rfl⟩)) dX7_done_83 (fun H locs hP1 hle hk hS => ?_)
        have hMo := keepO (ordMo cs a (kq - 1) tq nq) hMo hk (fun j hj h3 => absurd (ia j 3 (by omega) (by omega) h3) (by omega))
        have hSc := keepO (ordM7 cs a 2 0 361 (aI Z)) hSc hk (fun j hj h3 => absurd (ia (2 + j) 3 (by omega) (by omega) h3) (by omega))
        have hHs : va_P G vwCl (m7 cs a 3 0 1805 (aI (updZ (wrZ (shZ Hh (361 * (kq - 1))) Z (361 * (kq - 1)) i) ((361 * (kq - 1)) + i) (Z i)))) H := hP1
        refine z_iinc (k := 2) (lv' := [(2, .int (zI (i + 1))), (0, .ref (a 0)), (1, .int (zI v))]) hx hb dX7_done_84 hl rfl (by decide) rfl (fun ls hl => ?_)
        refine lv_goto (tgt := 56) hx hb dX7_done_87 (by decide) ?_
        exact ih (i + 1) H locs ⟨(by omega), hMo, hSc, (by rw [← wrZ_s hI.1]; exact hHs)⟩ hS (by omega) ls (lv_sub hl [1, 2, 0] rfl)
    · skip
      refine lv_aload_n hx hb dX7_done_32 rfl (lv_at hl 0 rfl) ?_
      refine va_get (D := G) (ci := 7) (v := .ref ((sh a 3) 0)) (C := RX7) (T := TX7) (N := 12) hx hb hts hi7 hown hK.1 hMo 0 rfl rfl 2 (by decide) (hts (.fieldLink RX7 16 "SpriteLinesModel" "history" "[I") (by decide +kernel)) (fun _ h9 => h9) rfl dX7_done_33 ?_
      refine lv_iload_n hx hb dX7_done_36 rfl (lv_at hl 2 rfl) ?_
      refine lv_aload_n hx hb dX7_done_37 rfl (lv_at hl 0 rfl) ?_
      refine va_get (D := G) (ci := 7) (v := .ref ((sh a 3) 0)) (C := RX7) (T := TX7) (N := 12) hx hb hts hi7 hown hK.1 hMo 0 rfl rfl 2 (by decide) (hts (.fieldLink RX7 16 "SpriteLinesModel" "history" "[I") (by decide +kernel)) (fun _ h9 => h9) rfl dX7_done_38 ?_
      refine lv_iload_n hx hb dX7_done_41 rfl (lv_at hl 2 rfl) ?_
      refine z_sipush (n := 361) hx hb dX7_done_42 (by decide) ?_
      refine z_iadd hx hb dX7_done_45 ?_
      refine z_iald hx hb hK.1 hHs 0 0 (F := (shZ Hh i)) rfl rfl (by omega) (by decide) dX7_done_46 ?_
      refine z_iast hx hb hK.1 hHs (Ord.D (ordM7 cs a 3 0 1805 (aI (shZ Hh i))) inj1) hS 0 0 (F := (shZ Hh i)) rfl rfl (by omega) (by decide) (Or.inr (⟨3, by decide, by decide, rfl⟩)) dX7_done_47 (fun H locs hP1 hle hk hS => ?_)
      have hMo := keepO (ordMo cs a (kq - 1) tq nq) hMo hk (fun j hj h3 => absurd (ia j 3 (by omega) (by omega) h3) (by omega))
      have hSc := keepO (ordM7 cs a 2 0 361 (aI Z)) hSc hk (fun j hj h3 => absurd (ia (2 + j) 3 (by omega) (by omega) h3) (by omega))
      have hHs : va_P G vwCl (m7 cs a 3 0 1805 (aI (updZ (shZ Hh i) i ((shZ Hh i) (i + 361))))) H := hP1
      refine z_iinc (k := 2) (lv' := [(2, .int (zI (i + 1))), (0, .ref (a 0)), (1, .int (zI v))]) hx hb dX7_done_48 hl rfl (by decide) rfl (fun ls hl => ?_)
      refine lv_goto (tgt := 20) hx hb dX7_done_51 (by decide) ?_
      exact ih (i + 1) H locs ⟨(by omega), hMo, hSc, (by rw [← shZ_s hI.1]; exact hHs)⟩ hS (by omega) ls (lv_sub hl [1, 2, 0] rfl)

set_option maxHeartbeats 4000000 in
set_option maxRecDepth 100000 in
theorem c_X7_addPart (l : Launch) (G : va_G) (cs : Nat → ClassId) (a : Nat → Nat) (S : SS) (n : Int) (L : Nat → SS) (tl : Int) (X : Int → Int) (k : Nat → Bool) (V : Nat → SS)  (ia : Inj a 10) (hA : AWF (S, (n, L), (tl, X), (k, V))) : MW l yX7_addPart wsX7_addPart { frames := 1, cells := 0, slots := 0, locals := 22 } G cs [.ref (a 0)] (fun H => MI G cs a (S, (n, L), (tl, X), (k, V)) H) (fun vv H => vv = .int (zI (addPartF (S, (n, L), (tl, X), (k, V))).1) ∧ MI G cs a (addPartF (S, (n, L), (tl, X), (k, V))).2 H) (AX a 0 10) 0 0 := by
  refine m_intro (Pw := (fun H => MI G cs a (S, (n, L), (tl, X), (k, V)) H)) (cc := cX7_addPart) (maxL := 3) (ret := some .int) RX7 (by decide) rfl rfl (Nat.le_of_ble_eq_true rfl) ?_
  intro pP eE sS mM below meth cC hx hb hr hts hown hml hlk hnm hPre hK ls hl
  have hl : lv_has ls 3 [(0, .ref (a 0))] := hl
  have hMI := hPre
  have hS : va_S (AX a 0 10) sS.heap sS.heap [] := va_S.rf
  have hi7 : ∀ w ∈ u_ws RX7 TX7 12, w ∈ wsX7_addPart := by decide +kernel
  obtain ⟨Y, Z, Hh, Sl, Kp, Go, Nt, rn, Rd, rr, hHR, hSR, hMo, hRw, hSc, hHs, hSl, hKp, hGo, hNt, hTx, hRd⟩ := hMI
  obtain ⟨wf, ⟨hn, hL9⟩, ⟨htl, hX⟩, hV9⟩ := hA
  have wf : WF S := wf
  have hn : 0 ≤ n ∧ n ≤ 5 := hn
  have htl : 0 ≤ tl ∧ tl ≤ 60 := htl
  have hX : ∀ j, 0 ≤ j → j < 60 → 0 ≤ X j ∧ X j < 65536 := hX
  have rr : RR S Y := rr
  have hHR : HR n L Hh := hHR
  have hSR : SR k V Kp Sl := hSR
  have hL9 : ∀ i : Nat, (i : Int) < n → WF (L i) := hL9
  have hV9 : ∀ s : Nat, s < 2 → k s = true → WF (V s) := hV9
  have hMo : va_P G vwCl (moW cs a n tl rn) sS.heap := hMo
  have hRw : va_P G vwCl (m7 cs a 1 0 361 (aI Y)) sS.heap := hRw
  have hSc : va_P G vwCl (m7 cs a 2 0 361 (aI Z)) sS.heap := hSc
  have hHs : va_P G vwCl (m7 cs a 3 0 1805 (aI Hh)) sS.heap := hHs
  have hSl : va_P G vwCl (m7 cs a 4 0 722 (aI Sl)) sS.heap := hSl
  have hKp : va_P G vwCl (m7 cs a 5 2 2 (aI Kp)) sS.heap := hKp
  have hGo : va_P G vwCl (m7 cs a 6 2 24 (aI Go)) sS.heap := hGo
  have hNt : va_P G vwCl (m7 cs a 7 0 24 (aI Nt)) sS.heap := hNt
  have hTx : va_P G vwCl (m7 cs a 8 3 60 (aI X)) sS.heap := hTx
  have hRd : va_P G vwCl (m7 cs a 9 0 8 (cB Rd)) sS.heap := hRd
  have wf0 := wf
  obtain ⟨w0, w1, w2, w3, w4, wP, wC, wS, wX⟩ := wf
  refine lv_aload_n hx hb dX7_addPart_0 rfl (lv_at hl 0 rfl) ?_
  refine va_get (D := G) (ci := 7) (v := .ref ((sh a 1) 0)) (C := RX7) (T := TX7) (N := 12) hx hb hts hi7 hown hK.1 hMo 0 rfl rfl 0 (by decide) (hts (.fieldLink RX7 7 "SpriteLinesModel" "row" "[I") (by decide +kernel)) (fun _ h9 => h9) rfl dX7_addPart_1 ?_
  refine z_iconst (n := 0) hx hb dX7_addPart_4 ?_
  refine z_iald hx hb hK.1 hRw 0 0 (F := Y) rfl rfl (by omega) (by decide) dX7_addPart_5 ?_
  refine z_topi (b := S 0 0) rr.1.1 ?_
  refine z_bipush (n := 24) hx hb dX7_addPart_6 (by decide) ?_
  refine z_icmp_ne (tgt := 14) hx hb dX7_addPart_8 (by decide) (by omega) (by omega) (fun c1 => ?_) (fun c1 => ?_)
  · skip
    refine lv_aload_n hx hb dX7_addPart_14 rfl (lv_at hl 0 rfl) ?_
    refine z_v (zrV (As := []) (rest := []) (Pw := fun H => va_P G vwCl (moW cs a n tl rn) H ∧ va_P G vwCl (m7 cs a 1 0 361 (aI Y)) H ∧ va_P G vwCl (m7 cs a 2 0 361 (aI Z)) H) ⟨hx, hb, hml, hown, hts⟩ (c_X7_begin l G cs a Y Z n tl rn ia) gX7_addPart_X7_begin rfl qX7_begin rfl rfl ⟨Nat.le_of_ble_eq_true rfl, Nat.le_of_ble_eq_true rfl⟩ ⟨hMo, hRw, hSc⟩ hK (va_recv hK.1 hMo (ci := 7) (q0 := 0) rfl rfl) hl.1 rfl (Nat.le_of_ble_eq_true rfl) dX7_addPart_15 ⟨Nat.le_of_ble_eq_true rfl, Nat.le_of_ble_eq_true rfl⟩) hS (fun q h => ax_mono h (by decide) (by decide)) (fun q h => ax_mono h (by decide) (by decide)) (fun H locs hpost hle hk hS => ?_)
    have hSc' := hpost
    have hMo := keepO (ordMo cs a n tl rn) hMo hk (fun j hj ⟨i, h1, h2, h3⟩ => absurd (ia j i (by omega) (by omega) h3) (by omega))
    have hRw := keepO (ordM7 cs a 1 0 361 (aI Y)) hRw hk (fun j hj ⟨i, h1, h2, h3⟩ => absurd (ia (1 + j) i (by omega) (by omega) h3) (by omega))
    have hHs := keepO (ordM7 cs a 3 0 1805 (aI Hh)) hHs hk (fun j hj ⟨i, h1, h2, h3⟩ => absurd (ia (3 + j) i (by omega) (by omega) h3) (by omega))
    have hSl := keepO (ordM7 cs a 4 0 722 (aI Sl)) hSl hk (fun j hj ⟨i, h1, h2, h3⟩ => absurd (ia (4 + j) i (by omega) (by omega) h3) (by omega))
    have hKp := keepO (ordM7 cs a 5 2 2 (aI Kp)) hKp hk (fun j hj ⟨i, h1, h2, h3⟩ => absurd (ia (5 + j) i (by omega) (by omega) h3) (by omega))
    have hGo := keepO (ordM7 cs a 6 2 24 (aI Go)) hGo hk (fun j hj ⟨i, h1, h2, h3⟩ => absurd (ia (6 + j) i (by omega) (by omega) h3) (by omega))
    have hNt := keepO (ordM7 cs a 7 0 24 (aI Nt)) hNt hk (fun j hj ⟨i, h1, h2, h3⟩ => absurd (ia (7 + j) i (by omega) (by omega) h3) (by omega))
    have hTx := keepO (ordM7 cs a 8 3 60 (aI X)) hTx hk (fun j hj ⟨i, h1, h2, h3⟩ => absurd (ia (8 + j) i (by omega) (by omega) h3) (by omega))
    have hRd := keepO (ordM7 cs a 9 0 8 (cB Rd)) hRd hk (fun j hj ⟨i, h1, h2, h3⟩ => absurd (ia (9 + j) i (by omega) (by omega) h3) (by omega))
    have hSc : va_P G vwCl (m7 cs a 2 0 361 (aI (cpZ Z Y 361))) H := hSc'
    refine lv_aload_n hx hb dX7_addPart_18 rfl (lv_at hl 0 rfl) ?_
    refine va_get (D := G) (ci := 7) (v := .ref ((sh a 1) 0)) (C := RX7) (T := TX7) (N := 12) hx hb hts hi7 hown hK.1 hMo 0 rfl rfl 0 (by decide) (hts (.fieldLink RX7 7 "SpriteLinesModel" "row" "[I") (by decide +kernel)) (fun _ h9 => h9) rfl dX7_addPart_19 ?_
    refine z_iconst (n := 0) hx hb dX7_addPart_22 ?_
    refine z_iald hx hb hK.1 hRw 0 0 (F := Y) rfl rfl (by omega) (by decide) dX7_addPart_23 ?_
    refine z_topi (b := S 0 0) rr.1.1 ?_
    refine lv_istore_n (lv' := [(1, .int (zI (S 0 0))), (0, .ref (a 0))]) hx hb dX7_addPart_24 rfl hl (by decide) rfl (fun ls hl => ?_)
    refine z_iconst (n := 0) hx hb dX7_addPart_25 ?_
    refine lv_istore_n (lv' := [(2, .int (zI 0)), (1, .int (zI (S 0 0))), (0, .ref (a 0))]) hx hb dX7_addPart_26 rfl hl (by decide) rfl (fun ls hl => ?_)
    -- loop 27
    refine z_loopH (nL := 3) (fun (i : Int) => [(0, .ref (a 0)), (1, .int (zI (S 0 0))), (2, .int (zI i))]) (fun (i : Int) (H : Heap) => (0 ≤ i ∧ i ≤ 8) ∧ va_P G vwCl (moW cs a n tl rn) H ∧ va_P G vwCl (m7 cs a 1 0 361 (aI (blZ Y (S 0 0) i))) H ∧ va_P G vwCl (m7 cs a 2 0 361 (aI (cpZ Z Y 361))) H ∧ va_P G vwCl (m7 cs a 3 0 1805 (aI Hh)) H ∧ va_P G vwCl (m7 cs a 4 0 722 (aI Sl)) H ∧ va_P G vwCl (m7 cs a 5 2 2 (aI Kp)) H ∧ va_P G vwCl (m7 cs a 6 2 24 (aI Go)) H ∧ va_P G vwCl (m7 cs a 7 0 24 (aI Nt)) H ∧ va_P G vwCl (m7 cs a 8 3 60 (aI X)) H ∧ va_P G vwCl (m7 cs a 9 0 8 (cB Rd)) H) (fun (i : Int) => (8 - i).toNat) 0 ⟨(by omega), hMo, (by rw [blZ_0]; exact hRw), hSc, hHs, hSl, hKp, hGo, hNt, hTx, hRd⟩ hS (lv_sub hl [2, 1, 0] rfl) (fun i H locs hIH hS ih ls hl => ?_)
    obtain ⟨hI, hMo, hRw, hSc, hHs, hSl, hKp, hGo, hNt, hTx, hRd⟩ := hIH
    have hl : lv_has ls 3 [(0, .ref (a 0)), (1, .int (zI (S 0 0))), (2, .int (zI i))] := hl
    refine lv_iload_n hx hb dX7_addPart_27 rfl (lv_at hl 2 rfl) ?_
    refine z_bipush (n := 8) hx hb dX7_addPart_28 (by decide) ?_
    refine z_icmp_ge (tgt := 53) hx hb dX7_addPart_30 (by decide) (by omega) (by omega) (fun c1 => ?_) (fun c1 => ?_)
    · skip
      have hRw : va_P G vwCl (m7 cs a 1 0 361 (aI (blZ Y (S 0 0) 8))) H := (by rw [show i = 8 by omega] at hRw; exact hRw)
      refine lv_aload_n hx hb dX7_addPart_53 rfl (lv_at hl 0 rfl) ?_
      refine va_get (D := G) (ci := 7) (v := .ref ((sh a 1) 0)) (C := RX7) (T := TX7) (N := 12) hx hb hts hi7 hown hK.1 hMo 0 rfl rfl 0 (by decide) (hts (.fieldLink RX7 7 "SpriteLinesModel" "row" "[I") (by decide +kernel)) (fun _ h9 => h9) rfl dX7_addPart_54 ?_
      refine z_iconst (n := 0) hx hb dX7_addPart_57 ?_
      refine lv_dup2_11 hx hb dX7_addPart_58 rfl rfl ?_
      refine z_iald hx hb hK.1 hRw 0 0 (F := (blZ Y (S 0 0) 8)) rfl rfl (by omega) (by decide) dX7_addPart_59 ?_
      refine z_topi (b := S 0 0) ((show blZ Y (S 0 0) 8 0 = Y 0 from if_neg (by omega)).trans rr.1.1) ?_
      refine z_iconst (n := 1) hx hb dX7_addPart_60 ?_
      refine z_iadd hx hb dX7_addPart_61 ?_
      refine z_iast hx hb hK.1 hRw (Ord.D (ordM7 cs a 1 0 361 (aI (blZ Y (S 0 0) 8))) inj1) hS 0 0 (F := (blZ Y (S 0 0) 8)) rfl rfl (by omega) (by decide) ⟨1, by decide, by decide, rfl⟩ dX7_addPart_62 (fun H locs hP1 hle hk hS => ?_)
      have hMo := keepO (ordMo cs a n tl rn) hMo hk (fun j hj h3 => absurd (ia j 1 (by omega) (by omega) h3) (by omega))
      have hSc := keepO (ordM7 cs a 2 0 361 (aI (cpZ Z Y 361))) hSc hk (fun j hj h3 => absurd (ia (2 + j) 1 (by omega) (by omega) h3) (by omega))
      have hHs := keepO (ordM7 cs a 3 0 1805 (aI Hh)) hHs hk (fun j hj h3 => absurd (ia (3 + j) 1 (by omega) (by omega) h3) (by omega))
      have hSl := keepO (ordM7 cs a 4 0 722 (aI Sl)) hSl hk (fun j hj h3 => absurd (ia (4 + j) 1 (by omega) (by omega) h3) (by omega))
      have hKp := keepO (ordM7 cs a 5 2 2 (aI Kp)) hKp hk (fun j hj h3 => absurd (ia (5 + j) 1 (by omega) (by omega) h3) (by omega))
      have hGo := keepO (ordM7 cs a 6 2 24 (aI Go)) hGo hk (fun j hj h3 => absurd (ia (6 + j) 1 (by omega) (by omega) h3) (by omega))
      have hNt := keepO (ordM7 cs a 7 0 24 (aI Nt)) hNt hk (fun j hj h3 => absurd (ia (7 + j) 1 (by omega) (by omega) h3) (by omega))
      have hTx := keepO (ordM7 cs a 8 3 60 (aI X)) hTx hk (fun j hj h3 => absurd (ia (8 + j) 1 (by omega) (by omega) h3) (by omega))
      have hRd := keepO (ordM7 cs a 9 0 8 (cB Rd)) hRd hk (fun j hj h3 => absurd (ia (9 + j) 1 (by omega) (by omega) h3) (by omega))
      have hRw : va_P G vwCl (m7 cs a 1 0 361 (aI (updZ (blZ Y (S 0 0) 8) 0 ((S 0 0) + 1)))) H := hP1
      refine lv_aload_n hx hb dX7_addPart_63 rfl (lv_at hl 0 rfl) ?_
      refine lv_iload_n hx hb dX7_addPart_64 rfl (lv_at hl 1 rfl) ?_
      refine z_w (zrV (As := [.int (zI (S 0 0))]) (rest := []) (Pw := fun H => va_P G vwCl (moW cs a n tl rn) H ∧ va_P G vwCl (m7 cs a 2 0 361 (aI (cpZ Z Y 361))) H ∧ va_P G vwCl (m7 cs a 3 0 1805 (aI Hh)) H) ⟨hx, hb, hml, hown, hts⟩ (c_X7_done l G cs a n tl rn Hh (cpZ Z Y 361) (S 0 0) ia (by omega)) gX7_addPart_X7_done rfl qX7_done rfl rfl ⟨Nat.le_of_ble_eq_true rfl, Nat.le_of_ble_eq_true rfl⟩ ⟨hMo, hSc, hHs⟩ hK (va_recv hK.1 hMo (ci := 7) (q0 := 0) rfl rfl) hl.1 rfl (Nat.le_of_ble_eq_true rfl) dX7_addPart_65 ⟨Nat.le_of_ble_eq_true rfl, Nat.le_of_ble_eq_true rfl⟩) hS (fun q h => by rcases h with h | h <;> exact ax_mono h (by decide) (by decide)) (fun q h => by rcases h with h | h <;> exact ax_mono h (by decide) (by decide)) (fun v H locs hpost hle hk hS => ?_)
      obtain ⟨rfl, hMo', hHs'⟩ := hpost
      have hRw := keepO (ordM7 cs a 1 0 361 (aI (updZ (blZ Y (S 0 0) 8) 0 ((S 0 0) + 1)))) hRw hk (fun j hj h0 => by rcases h0 with ⟨i, h1, h2, h3⟩ | ⟨i, h1, h2, h3⟩ <;> exact absurd (ia (1 + j) i (by omega) (by omega) h3) (by omega))
      have hSc := keepO (ordM7 cs a 2 0 361 (aI (cpZ Z Y 361))) hSc hk (fun j hj h0 => by rcases h0 with ⟨i, h1, h2, h3⟩ | ⟨i, h1, h2, h3⟩ <;> exact absurd (ia (2 + j) i (by omega) (by omega) h3) (by omega))
      have hSl := keepO (ordM7 cs a 4 0 722 (aI Sl)) hSl hk (fun j hj h0 => by rcases h0 with ⟨i, h1, h2, h3⟩ | ⟨i, h1, h2, h3⟩ <;> exact absurd (ia (4 + j) i (by omega) (by omega) h3) (by omega))
      have hKp := keepO (ordM7 cs a 5 2 2 (aI Kp)) hKp hk (fun j hj h0 => by rcases h0 with ⟨i, h1, h2, h3⟩ | ⟨i, h1, h2, h3⟩ <;> exact absurd (ia (5 + j) i (by omega) (by omega) h3) (by omega))
      have hGo := keepO (ordM7 cs a 6 2 24 (aI Go)) hGo hk (fun j hj h0 => by rcases h0 with ⟨i, h1, h2, h3⟩ | ⟨i, h1, h2, h3⟩ <;> exact absurd (ia (6 + j) i (by omega) (by omega) h3) (by omega))
      have hNt := keepO (ordM7 cs a 7 0 24 (aI Nt)) hNt hk (fun j hj h0 => by rcases h0 with ⟨i, h1, h2, h3⟩ | ⟨i, h1, h2, h3⟩ <;> exact absurd (ia (7 + j) i (by omega) (by omega) h3) (by omega))
      have hTx := keepO (ordM7 cs a 8 3 60 (aI X)) hTx hk (fun j hj h0 => by rcases h0 with ⟨i, h1, h2, h3⟩ | ⟨i, h1, h2, h3⟩ <;> exact absurd (ia (8 + j) i (by omega) (by omega) h3) (by omega))
      have hRd := keepO (ordM7 cs a 9 0 8 (cB Rd)) hRd hk (fun j hj h0 => by rcases h0 with ⟨i, h1, h2, h3⟩ | ⟨i, h1, h2, h3⟩ <;> exact absurd (ia (9 + j) i (by omega) (by omega) h3) (by omega))
      have hMo : va_P G vwCl (moW cs a (remN n) tl rn) H := hMo'
      have hHs : va_P G vwCl (m7 cs a 3 0 1805 (aI (doneH n Hh (cpZ Z Y 361)))) H := hHs'
      exact w_iret hx hb hr hlk dX7_addPart_68 hS (by rw [show addPartF (S, (n, L), (tl, X), (k, V)) = _ from by unfold addPartF; rw [if_neg (show ¬ (24 ≤ S 0 0) by omega)]]; exact ⟨rfl, ⟨updZ (blZ Y (S 0 0) 8) 0 ((S 0 0) + 1), cpZ Z Y 361, doneH n Hh (cpZ Z Y 361), Sl, Kp, Go, Nt, rn, Rd, rr_bl (S := S) wf0 rr (by omega) (bl_all w0.1), (hr_done (S := S) wf0 hL9 hHR rr hn), hSR, hMo, hRw, hSc, hHs, hSl, hKp, hGo, hNt, hTx, hRd⟩⟩)
    · skip
      refine lv_aload_n hx hb dX7_addPart_33 rfl (lv_at hl 0 rfl) ?_
      refine va_get (D := G) (ci := 7) (v := .ref ((sh a 1) 0)) (C := RX7) (T := TX7) (N := 12) hx hb hts hi7 hown hK.1 hMo 0 rfl rfl 0 (by decide) (hts (.fieldLink RX7 7 "SpriteLinesModel" "row" "[I") (by decide +kernel)) (fun _ h9 => h9) rfl dX7_addPart_34 ?_
      refine z_iconst (n := 5) hx hb dX7_addPart_37 ?_
      refine z_bipush (n := 8) hx hb dX7_addPart_38 (by decide) ?_
      refine lv_iload_n hx hb dX7_addPart_40 rfl (lv_at hl 1 rfl) ?_
      refine z_imul hx hb dX7_addPart_41 ?_
      refine z_iadd hx hb dX7_addPart_42 ?_
      refine lv_iload_n hx hb dX7_addPart_43 rfl (lv_at hl 2 rfl) ?_
      refine z_iadd hx hb dX7_addPart_44 ?_
      refine z_iconst (n := 0) hx hb dX7_addPart_45 ?_
      refine z_iast hx hb hK.1 hRw (Ord.D (ordM7 cs a 1 0 361 (aI (blZ Y (S 0 0) i))) inj1) hS 0 0 (F := (blZ Y (S 0 0) i)) rfl rfl (by omega) (by decide) ⟨1, by decide, by decide, rfl⟩ dX7_addPart_46 (fun H locs hP1 hle hk hS => ?_)
      have hMo := keepO (ordMo cs a n tl rn) hMo hk (fun j hj h3 => absurd (ia j 1 (by omega) (by omega) h3) (by omega))
      have hSc := keepO (ordM7 cs a 2 0 361 (aI (cpZ Z Y 361))) hSc hk (fun j hj h3 => absurd (ia (2 + j) 1 (by omega) (by omega) h3) (by omega))
      have hHs := keepO (ordM7 cs a 3 0 1805 (aI Hh)) hHs hk (fun j hj h3 => absurd (ia (3 + j) 1 (by omega) (by omega) h3) (by omega))
      have hSl := keepO (ordM7 cs a 4 0 722 (aI Sl)) hSl hk (fun j hj h3 => absurd (ia (4 + j) 1 (by omega) (by omega) h3) (by omega))
      have hKp := keepO (ordM7 cs a 5 2 2 (aI Kp)) hKp hk (fun j hj h3 => absurd (ia (5 + j) 1 (by omega) (by omega) h3) (by omega))
      have hGo := keepO (ordM7 cs a 6 2 24 (aI Go)) hGo hk (fun j hj h3 => absurd (ia (6 + j) 1 (by omega) (by omega) h3) (by omega))
      have hNt := keepO (ordM7 cs a 7 0 24 (aI Nt)) hNt hk (fun j hj h3 => absurd (ia (7 + j) 1 (by omega) (by omega) h3) (by omega))
      have hTx := keepO (ordM7 cs a 8 3 60 (aI X)) hTx hk (fun j hj h3 => absurd (ia (8 + j) 1 (by omega) (by omega) h3) (by omega))
      have hRd := keepO (ordM7 cs a 9 0 8 (cB Rd)) hRd hk (fun j hj h3 => absurd (ia (9 + j) 1 (by omega) (by omega) h3) (by omega))
      have hRw : va_P G vwCl (m7 cs a 1 0 361 (aI (updZ (blZ Y (S 0 0) i) ((5 + (8 * (S 0 0))) + i) 0))) H := hP1
      refine z_iinc (k := 2) (lv' := [(2, .int (zI (i + 1))), (0, .ref (a 0)), (1, .int (zI (S 0 0)))]) hx hb dX7_addPart_47 hl rfl (by decide) rfl (fun ls hl => ?_)
      refine lv_goto (tgt := 27) hx hb dX7_addPart_50 (by decide) ?_
      exact ih (i + 1) H locs ⟨(by omega), hMo, (by rw [← blZ_s hI.1]; exact hRw), hSc, hHs, hSl, hKp, hGo, hNt, hTx, hRd⟩ hS (by omega) ls (lv_sub hl [1, 2, 0] rfl)
  · skip
    refine z_bipush (n := -3) hx hb dX7_addPart_11 (by decide) ?_
    exact w_iret hx hb hr hlk dX7_addPart_13 hS (by rw [show addPartF (S, (n, L), (tl, X), (k, V)) = _ from by unfold addPartF; rw [if_pos (show 24 ≤ S 0 0 by omega)]]; exact ⟨rfl, ⟨Y, Z, Hh, Sl, Kp, Go, Nt, rn, Rd, rr, hHR, hSR, hMo, hRw, hSc, hHs, hSl, hKp, hGo, hNt, hTx, hRd⟩⟩)

set_option maxHeartbeats 4000000 in
set_option maxRecDepth 100000 in
theorem c_X7_setPixel (l : Launch) (G : va_G) (cs : Nat → ClassId) (a : Nat → Nat) (S : SS) (n : Int) (L : Nat → SS) (tl : Int) (X : Int → Int) (k : Nat → Bool) (V : Nat → SS) (q r t v : Int) (ia : Inj a 10) (hA : AWF (S, (n, L), (tl, X), (k, V))) (r_q : -2147483648 ≤ q ∧ q < 2147483648) (r_r : -2147483648 ≤ r ∧ r < 2147483648) (r_t : -2147483648 ≤ t ∧ t < 2147483648) (r_v : -2147483648 ≤ v ∧ v < 2147483648) : MW l yX7_setPixel wsX7_setPixel { frames := 2, cells := 0, slots := 0, locals := 43 } G cs [.ref (a 0), .int (zI q), .int (zI r), .int (zI t), .int (zI v)] (fun H => MI G cs a (S, (n, L), (tl, X), (k, V)) H) (fun vv H => vv = .int (zI (setPixelF (S, (n, L), (tl, X), (k, V)) q r t v).1) ∧ MI G cs a (setPixelF (S, (n, L), (tl, X), (k, V)) q r t v).2 H) (AX a 0 10) 0 0 := by
  refine m_intro (Pw := (fun H => MI G cs a (S, (n, L), (tl, X), (k, V)) H)) (cc := cX7_setPixel) (maxL := 6) (ret := some .int) RX7 (by decide) rfl rfl (Nat.le_of_ble_eq_true rfl) ?_
  intro pP eE sS mM below meth cC hx hb hr hts hown hml hlk hnm hPre hK ls hl
  have hl : lv_has ls 6 [(0, .ref (a 0)), (1, .int (zI q)), (2, .int (zI r)), (3, .int (zI t)), (4, .int (zI v))] := hl
  have hMI := hPre
  have hS : va_S (AX a 0 10) sS.heap sS.heap [] := va_S.rf
  obtain ⟨Y, Z, Hh, Sl, Kp, Go, Nt, rn, Rd, rr, hHR, hSR, hMo, hRw, hSc, hHs, hSl, hKp, hGo, hNt, hTx, hRd⟩ := hMI
  obtain ⟨wf, ⟨hn, hL9⟩, ⟨htl, hX⟩, hV9⟩ := hA
  have wf : WF S := wf
  have hn : 0 ≤ n ∧ n ≤ 5 := hn
  have htl : 0 ≤ tl ∧ tl ≤ 60 := htl
  have hX : ∀ j, 0 ≤ j → j < 60 → 0 ≤ X j ∧ X j < 65536 := hX
  have rr : RR S Y := rr
  have hHR : HR n L Hh := hHR
  have hSR : SR k V Kp Sl := hSR
  have hL9 : ∀ i : Nat, (i : Int) < n → WF (L i) := hL9
  have hV9 : ∀ s : Nat, s < 2 → k s = true → WF (V s) := hV9
  have hMo : va_P G vwCl (moW cs a n tl rn) sS.heap := hMo
  have hRw : va_P G vwCl (m7 cs a 1 0 361 (aI Y)) sS.heap := hRw
  have hSc : va_P G vwCl (m7 cs a 2 0 361 (aI Z)) sS.heap := hSc
  have hHs : va_P G vwCl (m7 cs a 3 0 1805 (aI Hh)) sS.heap := hHs
  have hSl : va_P G vwCl (m7 cs a 4 0 722 (aI Sl)) sS.heap := hSl
  have hKp : va_P G vwCl (m7 cs a 5 2 2 (aI Kp)) sS.heap := hKp
  have hGo : va_P G vwCl (m7 cs a 6 2 24 (aI Go)) sS.heap := hGo
  have hNt : va_P G vwCl (m7 cs a 7 0 24 (aI Nt)) sS.heap := hNt
  have hTx : va_P G vwCl (m7 cs a 8 3 60 (aI X)) sS.heap := hTx
  have hRd : va_P G vwCl (m7 cs a 9 0 8 (cB Rd)) sS.heap := hRd
  have wf0 := wf
  obtain ⟨w0, w1, w2, w3, w4, wP, wC, wS, wX⟩ := wf
  refine lv_aload_n hx hb dX7_setPixel_0 rfl (lv_at hl 0 rfl) ?_
  refine lv_iload_n hx hb dX7_setPixel_1 rfl (lv_at hl 1 rfl) ?_
  refine z_ro (zrV (As := [.int (zI q)]) (rest := []) (Pw := fun H => va_P G vwCl (moW cs a n tl rn) H ∧ va_P G vwCl (m7 cs a 1 0 361 (aI Y)) H) ⟨hx, hb, hml, hown, hts⟩ (c_X7_noPart l G cs a S Y n tl rn q wf0 rr (by omega)) gX7_setPixel_X7_noPart rfl qX7_noPart rfl rfl ⟨Nat.le_of_ble_eq_true rfl, Nat.le_of_ble_eq_true rfl⟩ ⟨hMo, hRw⟩ hK (va_recv hK.1 hMo (ci := 7) (q0 := 0) rfl rfl) hl.1 rfl (Nat.le_of_ble_eq_true rfl) dX7_setPixel_2 ⟨Nat.le_of_ble_eq_true rfl, Nat.le_of_ble_eq_true rfl⟩) ?_
  refine z_bif_eq (tgt := 10) hx hb dX7_setPixel_5 (by decide) (fun c1 => ?_) (fun c1 => ?_)
  · skip
    simp only [decide_eq_false_iff_not] at c1
    refine lv_iload_n hx hb dX7_setPixel_10 rfl (lv_at hl 2 rfl) ?_
    refine z_iconst (n := 0) hx hb dX7_setPixel_11 ?_
    refine z_bipush (n := 7) hx hb dX7_setPixel_12 (by decide) ?_
    refine z_ro (zrS (As := [.int (zI r), .int (zI 0), .int (zI 7)]) (rest := []) (Pw := fun _ => True) ⟨hx, hb, hml, hown, hts⟩ (c_X7_in l G cs r 0 7 (by omega) (by omega) (by omega)) gX7_setPixel_X7_in rfl qX7_in rfl rfl ⟨Nat.le_of_ble_eq_true rfl, Nat.le_of_ble_eq_true rfl⟩ trivial hK hl.1 rfl (Nat.le_of_ble_eq_true rfl) dX7_setPixel_14 ⟨Nat.le_of_ble_eq_true rfl, Nat.le_of_ble_eq_true rfl⟩) ?_
    refine z_bif_eq (tgt := 40) hx hb dX7_setPixel_17 (by decide) (fun c2 => ?_) (fun c2 => ?_)
    · skip
      simp only [decide_eq_false_iff_not] at c2
      refine z_bipush (n := -2) hx hb dX7_setPixel_40 (by decide) ?_
      exact w_iret hx hb hr hlk dX7_setPixel_42 hS (by rw [show setPixelF (S, (n, L), (tl, X), (k, V)) q r t v = _ from by unfold setPixelF; rw [if_neg (show ¬ (¬ (0 ≤ q ∧ q < S 0 0)) by omega), if_pos (show ¬ ((0 ≤ r ∧ r < 8) ∧ (0 ≤ t ∧ t < 8) ∧ (0 ≤ v ∧ v < 4)) by omega)]]; exact ⟨rfl, ⟨Y, Z, Hh, Sl, Kp, Go, Nt, rn, Rd, rr, hHR, hSR, hMo, hRw, hSc, hHs, hSl, hKp, hGo, hNt, hTx, hRd⟩⟩)
    · skip
      simp only [decide_eq_true_eq] at c2
      refine lv_iload_n hx hb dX7_setPixel_20 rfl (lv_at hl 3 rfl) ?_
      refine z_iconst (n := 0) hx hb dX7_setPixel_21 ?_
      refine z_bipush (n := 7) hx hb dX7_setPixel_22 (by decide) ?_
      refine z_ro (zrS (As := [.int (zI t), .int (zI 0), .int (zI 7)]) (rest := []) (Pw := fun _ => True) ⟨hx, hb, hml, hown, hts⟩ (c_X7_in l G cs t 0 7 (by omega) (by omega) (by omega)) gX7_setPixel_X7_in rfl qX7_in rfl rfl ⟨Nat.le_of_ble_eq_true rfl, Nat.le_of_ble_eq_true rfl⟩ trivial hK hl.1 rfl (Nat.le_of_ble_eq_true rfl) dX7_setPixel_24 ⟨Nat.le_of_ble_eq_true rfl, Nat.le_of_ble_eq_true rfl⟩) ?_
      refine z_bif_eq (tgt := 40) hx hb dX7_setPixel_27 (by decide) (fun c3 => ?_) (fun c3 => ?_)
      · skip
        simp only [decide_eq_false_iff_not] at c3
        refine z_bipush (n := -2) hx hb dX7_setPixel_40 (by decide) ?_
        exact w_iret hx hb hr hlk dX7_setPixel_42 hS (by rw [show setPixelF (S, (n, L), (tl, X), (k, V)) q r t v = _ from by unfold setPixelF; rw [if_neg (show ¬ (¬ (0 ≤ q ∧ q < S 0 0)) by omega), if_pos (show ¬ ((0 ≤ r ∧ r < 8) ∧ (0 ≤ t ∧ t < 8) ∧ (0 ≤ v ∧ v < 4)) by omega)]]; exact ⟨rfl, ⟨Y, Z, Hh, Sl, Kp, Go, Nt, rn, Rd, rr, hHR, hSR, hMo, hRw, hSc, hHs, hSl, hKp, hGo, hNt, hTx, hRd⟩⟩)
      · skip
        simp only [decide_eq_true_eq] at c3
        refine lv_iload hx hb dX7_setPixel_30 (lv_at hl 4 rfl) ?_
        refine z_iconst (n := 0) hx hb dX7_setPixel_32 ?_
        refine z_iconst (n := 3) hx hb dX7_setPixel_33 ?_
        refine z_ro (zrS (As := [.int (zI v), .int (zI 0), .int (zI 3)]) (rest := []) (Pw := fun _ => True) ⟨hx, hb, hml, hown, hts⟩ (c_X7_in l G cs v 0 3 (by omega) (by omega) (by omega)) gX7_setPixel_X7_in rfl qX7_in rfl rfl ⟨Nat.le_of_ble_eq_true rfl, Nat.le_of_ble_eq_true rfl⟩ trivial hK hl.1 rfl (Nat.le_of_ble_eq_true rfl) dX7_setPixel_34 ⟨Nat.le_of_ble_eq_true rfl, Nat.le_of_ble_eq_true rfl⟩) ?_
        refine z_bif_ne (tgt := 43) hx hb dX7_setPixel_37 (by decide) (fun c4 => ?_) (fun c4 => ?_)
        · skip
          simp only [decide_eq_true_eq] at c4
          refine lv_aload_n hx hb dX7_setPixel_43 rfl (lv_at hl 0 rfl) ?_
          refine z_v (zrV (As := []) (rest := []) (Pw := fun H => va_P G vwCl (moW cs a n tl rn) H ∧ va_P G vwCl (m7 cs a 1 0 361 (aI Y)) H ∧ va_P G vwCl (m7 cs a 2 0 361 (aI Z)) H) ⟨hx, hb, hml, hown, hts⟩ (c_X7_begin l G cs a Y Z n tl rn ia) gX7_setPixel_X7_begin rfl qX7_begin rfl rfl ⟨Nat.le_of_ble_eq_true rfl, Nat.le_of_ble_eq_true rfl⟩ ⟨hMo, hRw, hSc⟩ hK (va_recv hK.1 hMo (ci := 7) (q0 := 0) rfl rfl) hl.1 rfl (Nat.le_of_ble_eq_true rfl) dX7_setPixel_44 ⟨Nat.le_of_ble_eq_true rfl, Nat.le_of_ble_eq_true rfl⟩) hS (fun q h => ax_mono h (by decide) (by decide)) (fun q h => ax_mono h (by decide) (by decide)) (fun H locs hpost hle hk hS => ?_)
          have hSc' := hpost
          have hMo := keepO (ordMo cs a n tl rn) hMo hk (fun j hj ⟨i, h1, h2, h3⟩ => absurd (ia j i (by omega) (by omega) h3) (by omega))
          have hRw := keepO (ordM7 cs a 1 0 361 (aI Y)) hRw hk (fun j hj ⟨i, h1, h2, h3⟩ => absurd (ia (1 + j) i (by omega) (by omega) h3) (by omega))
          have hHs := keepO (ordM7 cs a 3 0 1805 (aI Hh)) hHs hk (fun j hj ⟨i, h1, h2, h3⟩ => absurd (ia (3 + j) i (by omega) (by omega) h3) (by omega))
          have hSl := keepO (ordM7 cs a 4 0 722 (aI Sl)) hSl hk (fun j hj ⟨i, h1, h2, h3⟩ => absurd (ia (4 + j) i (by omega) (by omega) h3) (by omega))
          have hKp := keepO (ordM7 cs a 5 2 2 (aI Kp)) hKp hk (fun j hj ⟨i, h1, h2, h3⟩ => absurd (ia (5 + j) i (by omega) (by omega) h3) (by omega))
          have hGo := keepO (ordM7 cs a 6 2 24 (aI Go)) hGo hk (fun j hj ⟨i, h1, h2, h3⟩ => absurd (ia (6 + j) i (by omega) (by omega) h3) (by omega))
          have hNt := keepO (ordM7 cs a 7 0 24 (aI Nt)) hNt hk (fun j hj ⟨i, h1, h2, h3⟩ => absurd (ia (7 + j) i (by omega) (by omega) h3) (by omega))
          have hTx := keepO (ordM7 cs a 8 3 60 (aI X)) hTx hk (fun j hj ⟨i, h1, h2, h3⟩ => absurd (ia (8 + j) i (by omega) (by omega) h3) (by omega))
          have hRd := keepO (ordM7 cs a 9 0 8 (cB Rd)) hRd hk (fun j hj ⟨i, h1, h2, h3⟩ => absurd (ia (9 + j) i (by omega) (by omega) h3) (by omega))
          have hSc : va_P G vwCl (m7 cs a 2 0 361 (aI (cpZ Z Y 361))) H := hSc'
          refine lv_aload_n hx hb dX7_setPixel_47 rfl (lv_at hl 0 rfl) ?_
          refine lv_iload_n hx hb dX7_setPixel_48 rfl (lv_at hl 1 rfl) ?_
          refine lv_iload_n hx hb dX7_setPixel_49 rfl (lv_at hl 2 rfl) ?_
          refine lv_iload_n hx hb dX7_setPixel_50 rfl (lv_at hl 3 rfl) ?_
          refine z_ro (zrV (As := [.int (zI q), .int (zI r), .int (zI t)]) (rest := []) (Pw := fun H => va_P G vwCl (moW cs a n tl rn) H ∧ va_P G vwCl (m7 cs a 1 0 361 (aI Y)) H) ⟨hx, hb, hml, hown, hts⟩ (c_X7_pixelOf l G cs a S Y n tl rn q r t wf0 rr (by omega) (by omega) (by omega)) gX7_setPixel_X7_pixelOf rfl qX7_pixelOf rfl rfl ⟨Nat.le_of_ble_eq_true rfl, Nat.le_of_ble_eq_true rfl⟩ ⟨hMo, hRw⟩ hK (va_recv hK.1 hMo (ci := 7) (q0 := 0) rfl rfl) hl.1 rfl (Nat.le_of_ble_eq_true rfl) dX7_setPixel_51 ⟨Nat.le_of_ble_eq_true rfl, Nat.le_of_ble_eq_true rfl⟩) ?_
          refine z_topi (b := pixW S q 0 r t) pix0 ?_
          refine lv_istore (lv' := [(5, .int (zI (pixW S q 0 r t))), (0, .ref (a 0)), (1, .int (zI q)), (2, .int (zI r)), (3, .int (zI t)), (4, .int (zI v))]) hx hb dX7_setPixel_54 hl (by decide) rfl (fun ls hl => ?_)
          refine lv_aload_n hx hb dX7_setPixel_56 rfl (lv_at hl 1 rfl) ?_
          refine lv_iload_n hx hb dX7_setPixel_57 rfl (lv_at hl 2 rfl) ?_
          refine lv_iload_n hx hb dX7_setPixel_58 rfl (lv_at hl 3 rfl) ?_
          refine lv_iload_n hx hb dX7_setPixel_59 rfl (lv_at hl 4 rfl) ?_
          refine lv_iload hx hb dX7_setPixel_60 (lv_at hl 5 rfl) ?_
          refine z_v (zrV (As := [.int (zI q), .int (zI r), .int (zI t), .int (zI v)]) (rest := []) (Pw := fun H => va_P G vwCl (moW cs a n tl rn) H ∧ va_P G vwCl (m7 cs a 1 0 361 (aI Y)) H) ⟨hx, hb, hml, hown, hts⟩ (c_X7_putPixel l G cs a S Y n tl rn q r t v ia wf0 rr (by omega) (by omega) (by omega) (by omega)) gX7_setPixel_X7_putPixel rfl qX7_putPixel rfl rfl ⟨Nat.le_of_ble_eq_true rfl, Nat.le_of_ble_eq_true rfl⟩ ⟨hMo, hRw⟩ hK (va_recv hK.1 hMo (ci := 7) (q0 := 0) rfl rfl) hl.1 rfl (Nat.le_of_ble_eq_true rfl) dX7_setPixel_62 ⟨Nat.le_of_ble_eq_true rfl, Nat.le_of_ble_eq_true rfl⟩) hS (fun q h => ax_mono h (by decide) (by decide)) (fun q h => ax_mono h (by decide) (by decide)) (fun H locs hpost hle hk hS => ?_)
          have hRw' := hpost
          have hMo := keepO (ordMo cs a n tl rn) hMo hk (fun j hj ⟨i, h1, h2, h3⟩ => absurd (ia j i (by omega) (by omega) h3) (by omega))
          have hSc := keepO (ordM7 cs a 2 0 361 (aI (cpZ Z Y 361))) hSc hk (fun j hj ⟨i, h1, h2, h3⟩ => absurd (ia (2 + j) i (by omega) (by omega) h3) (by omega))
          have hHs := keepO (ordM7 cs a 3 0 1805 (aI Hh)) hHs hk (fun j hj ⟨i, h1, h2, h3⟩ => absurd (ia (3 + j) i (by omega) (by omega) h3) (by omega))
          have hSl := keepO (ordM7 cs a 4 0 722 (aI Sl)) hSl hk (fun j hj ⟨i, h1, h2, h3⟩ => absurd (ia (4 + j) i (by omega) (by omega) h3) (by omega))
          have hKp := keepO (ordM7 cs a 5 2 2 (aI Kp)) hKp hk (fun j hj ⟨i, h1, h2, h3⟩ => absurd (ia (5 + j) i (by omega) (by omega) h3) (by omega))
          have hGo := keepO (ordM7 cs a 6 2 24 (aI Go)) hGo hk (fun j hj ⟨i, h1, h2, h3⟩ => absurd (ia (6 + j) i (by omega) (by omega) h3) (by omega))
          have hNt := keepO (ordM7 cs a 7 0 24 (aI Nt)) hNt hk (fun j hj ⟨i, h1, h2, h3⟩ => absurd (ia (7 + j) i (by omega) (by omega) h3) (by omega))
          have hTx := keepO (ordM7 cs a 8 3 60 (aI X)) hTx hk (fun j hj ⟨i, h1, h2, h3⟩ => absurd (ia (8 + j) i (by omega) (by omega) h3) (by omega))
          have hRd := keepO (ordM7 cs a 9 0 8 (cB Rd)) hRd hk (fun j hj ⟨i, h1, h2, h3⟩ => absurd (ia (9 + j) i (by omega) (by omega) h3) (by omega))
          have hRw : va_P G vwCl (m7 cs a 1 0 361 (aI (updZ Y (5 + 8 * q + r) (iB (rowB (updZ (S 5) (64 * q + (8 * r + t)) v) (64 * q + 8 * r))).toInt))) H := hRw'
          refine lv_aload_n hx hb dX7_setPixel_65 rfl (lv_at hl 1 rfl) ?_
          refine lv_iload hx hb dX7_setPixel_66 (lv_at hl 0 rfl) ?_
          refine z_w (zrV (As := [.int (zI (pixW S q 0 r t))]) (rest := []) (Pw := fun H => va_P G vwCl (moW cs a n tl rn) H ∧ va_P G vwCl (m7 cs a 2 0 361 (aI (cpZ Z Y 361))) H ∧ va_P G vwCl (m7 cs a 3 0 1805 (aI Hh)) H) ⟨hx, hb, hml, hown, hts⟩ (c_X7_done l G cs a n tl rn Hh (cpZ Z Y 361) (pixW S q 0 r t) ia (by omega)) gX7_setPixel_X7_done rfl qX7_done rfl rfl ⟨Nat.le_of_ble_eq_true rfl, Nat.le_of_ble_eq_true rfl⟩ ⟨hMo, hSc, hHs⟩ hK (va_recv hK.1 hMo (ci := 7) (q0 := 0) rfl rfl) hl.1 rfl (Nat.le_of_ble_eq_true rfl) dX7_setPixel_68 ⟨Nat.le_of_ble_eq_true rfl, Nat.le_of_ble_eq_true rfl⟩) hS (fun q h => by rcases h with h | h <;> exact ax_mono h (by decide) (by decide)) (fun q h => by rcases h with h | h <;> exact ax_mono h (by decide) (by decide)) (fun v H locs hpost hle hk hS => ?_)
          obtain ⟨rfl, hMo', hHs'⟩ := hpost
          have hRw := keepO (ordM7 cs a 1 0 361 (aI (updZ Y (5 + 8 * q + r) (iB (rowB (updZ (S 5) (64 * q + (8 * r + t)) v) (64 * q + 8 * r))).toInt))) hRw hk (fun j hj h0 => by rcases h0 with ⟨i, h1, h2, h3⟩ | ⟨i, h1, h2, h3⟩ <;> exact absurd (ia (1 + j) i (by omega) (by omega) h3) (by omega))
          have hSc := keepO (ordM7 cs a 2 0 361 (aI (cpZ Z Y 361))) hSc hk (fun j hj h0 => by rcases h0 with ⟨i, h1, h2, h3⟩ | ⟨i, h1, h2, h3⟩ <;> exact absurd (ia (2 + j) i (by omega) (by omega) h3) (by omega))
          have hSl := keepO (ordM7 cs a 4 0 722 (aI Sl)) hSl hk (fun j hj h0 => by rcases h0 with ⟨i, h1, h2, h3⟩ | ⟨i, h1, h2, h3⟩ <;> exact absurd (ia (4 + j) i (by omega) (by omega) h3) (by omega))
          have hKp := keepO (ordM7 cs a 5 2 2 (aI Kp)) hKp hk (fun j hj h0 => by rcases h0 with ⟨i, h1, h2, h3⟩ | ⟨i, h1, h2, h3⟩ <;> exact absurd (ia (5 + j) i (by omega) (by omega) h3) (by omega))
          have hGo := keepO (ordM7 cs a 6 2 24 (aI Go)) hGo hk (fun j hj h0 => by rcases h0 with ⟨i, h1, h2, h3⟩ | ⟨i, h1, h2, h3⟩ <;> exact absurd (ia (6 + j) i (by omega) (by omega) h3) (by omega))
          have hNt := keepO (ordM7 cs a 7 0 24 (aI Nt)) hNt hk (fun j hj h0 => by rcases h0 with ⟨i, h1, h2, h3⟩ | ⟨i, h1, h2, h3⟩ <;> exact absurd (ia (7 + j) i (by omega) (by omega) h3) (by omega))
          have hTx := keepO (ordM7 cs a 8 3 60 (aI X)) hTx hk (fun j hj h0 => by rcases h0 with ⟨i, h1, h2, h3⟩ | ⟨i, h1, h2, h3⟩ <;> exact absurd (ia (8 + j) i (by omega) (by omega) h3) (by omega))
          have hRd := keepO (ordM7 cs a 9 0 8 (cB Rd)) hRd hk (fun j hj h0 => by rcases h0 with ⟨i, h1, h2, h3⟩ | ⟨i, h1, h2, h3⟩ <;> exact absurd (ia (9 + j) i (by omega) (by omega) h3) (by omega))
          have hMo : va_P G vwCl (moW cs a (remN n) tl rn) H := hMo'
          have hHs : va_P G vwCl (m7 cs a 3 0 1805 (aI (doneH n Hh (cpZ Z Y 361)))) H := hHs'
          exact w_iret hx hb hr hlk dX7_setPixel_71 hS (by rw [show setPixelF (S, (n, L), (tl, X), (k, V)) q r t v = _ from by unfold setPixelF; rw [if_neg (show ¬ (¬ (0 ≤ q ∧ q < S 0 0)) by omega), if_neg (show ¬ (¬ ((0 ≤ r ∧ r < 8) ∧ (0 ≤ t ∧ t < 8) ∧ (0 ≤ v ∧ v < 4))) by omega)]]; exact ⟨rfl, ⟨updZ Y (5 + 8 * q + r) (iB (rowB (updZ (S 5) (64 * q + (8 * r + t)) v) (64 * q + 8 * r))).toInt, cpZ Z Y 361, doneH n Hh (cpZ Z Y 361), Sl, Kp, Go, Nt, rn, Rd, rr_pix (S := S) wf0 rr (by omega) (by omega) (by omega), (hr_done (S := S) wf0 hL9 hHR rr hn), hSR, hMo, hRw, hSc, hHs, hSl, hKp, hGo, hNt, hTx, hRd⟩⟩)
        · skip
          simp only [decide_eq_false_iff_not] at c4
          refine z_bipush (n := -2) hx hb dX7_setPixel_40 (by decide) ?_
          exact w_iret hx hb hr hlk dX7_setPixel_42 hS (by rw [show setPixelF (S, (n, L), (tl, X), (k, V)) q r t v = _ from by unfold setPixelF; rw [if_neg (show ¬ (¬ (0 ≤ q ∧ q < S 0 0)) by omega), if_pos (show ¬ ((0 ≤ r ∧ r < 8) ∧ (0 ≤ t ∧ t < 8) ∧ (0 ≤ v ∧ v < 4)) by omega)]]; exact ⟨rfl, ⟨Y, Z, Hh, Sl, Kp, Go, Nt, rn, Rd, rr, hHR, hSR, hMo, hRw, hSc, hHs, hSl, hKp, hGo, hNt, hTx, hRd⟩⟩)
  · skip
    simp only [decide_eq_true_eq] at c1
    refine z_iconst (n := -1) hx hb dX7_setPixel_8 ?_
    exact w_iret hx hb hr hlk dX7_setPixel_9 hS (by rw [show setPixelF (S, (n, L), (tl, X), (k, V)) q r t v = _ from by unfold setPixelF; rw [if_pos (show ¬ (0 ≤ q ∧ q < S 0 0) by omega)]]; exact ⟨rfl, ⟨Y, Z, Hh, Sl, Kp, Go, Nt, rn, Rd, rr, hHR, hSR, hMo, hRw, hSc, hHs, hSl, hKp, hGo, hNt, hTx, hRd⟩⟩)

set_option maxHeartbeats 4000000 in
set_option maxRecDepth 100000 in
theorem c_X7_type (l : Launch) (G : va_G) (cs : Nat → ClassId) (a : Nat → Nat) (S : SS) (n : Int) (L : Nat → SS) (tl : Int) (X : Int → Int) (k : Nat → Bool) (V : Nat → SS) (z : Int) (ia : Inj a 10) (hA : AWF (S, (n, L), (tl, X), (k, V))) (hz : narrow .char (.int (zI z)) = .int (zI z)) : MW l yX7_type wsX7_type { frames := 0, cells := 0, slots := 0, locals := 0 } G cs [.ref (a 0), .int (zI z)] (fun H => MI G cs a (S, (n, L), (tl, X), (k, V)) H) (fun vv H => vv = .int (zI (typeF (S, (n, L), (tl, X), (k, V)) z).1) ∧ MI G cs a (typeF (S, (n, L), (tl, X), (k, V)) z).2 H) (AX a 0 10) 0 0 := by
  refine m_intro (Pw := (fun H => MI G cs a (S, (n, L), (tl, X), (k, V)) H)) (cc := cX7_type) (maxL := 2) (ret := some .int) RX7 (by decide) rfl rfl (Nat.le_of_ble_eq_true rfl) ?_
  intro pP eE sS mM below meth cC hx hb hr hts hown hml hlk hnm hPre hK ls hl
  have hl : lv_has ls 2 [(0, .ref (a 0)), (1, .int (zI z))] := hl
  have hMI := hPre
  have hS : va_S (AX a 0 10) sS.heap sS.heap [] := va_S.rf
  have hi7 : ∀ w ∈ u_ws RX7 TX7 12, w ∈ wsX7_type := by decide +kernel
  obtain ⟨Y, Z, Hh, Sl, Kp, Go, Nt, rn, Rd, rr, hHR, hSR, hMo, hRw, hSc, hHs, hSl, hKp, hGo, hNt, hTx, hRd⟩ := hMI
  obtain ⟨wf, ⟨hn, hL9⟩, ⟨htl, hX⟩, hV9⟩ := hA
  have wf : WF S := wf
  have hn : 0 ≤ n ∧ n ≤ 5 := hn
  have htl : 0 ≤ tl ∧ tl ≤ 60 := htl
  have hX : ∀ j, 0 ≤ j → j < 60 → 0 ≤ X j ∧ X j < 65536 := hX
  have rr : RR S Y := rr
  have hHR : HR n L Hh := hHR
  have hSR : SR k V Kp Sl := hSR
  have hL9 : ∀ i : Nat, (i : Int) < n → WF (L i) := hL9
  have hV9 : ∀ s : Nat, s < 2 → k s = true → WF (V s) := hV9
  have hMo : va_P G vwCl (moW cs a n tl rn) sS.heap := hMo
  have hRw : va_P G vwCl (m7 cs a 1 0 361 (aI Y)) sS.heap := hRw
  have hSc : va_P G vwCl (m7 cs a 2 0 361 (aI Z)) sS.heap := hSc
  have hHs : va_P G vwCl (m7 cs a 3 0 1805 (aI Hh)) sS.heap := hHs
  have hSl : va_P G vwCl (m7 cs a 4 0 722 (aI Sl)) sS.heap := hSl
  have hKp : va_P G vwCl (m7 cs a 5 2 2 (aI Kp)) sS.heap := hKp
  have hGo : va_P G vwCl (m7 cs a 6 2 24 (aI Go)) sS.heap := hGo
  have hNt : va_P G vwCl (m7 cs a 7 0 24 (aI Nt)) sS.heap := hNt
  have hTx : va_P G vwCl (m7 cs a 8 3 60 (aI X)) sS.heap := hTx
  have hRd : va_P G vwCl (m7 cs a 9 0 8 (cB Rd)) sS.heap := hRd
  have wf0 := wf
  obtain ⟨w0, w1, w2, w3, w4, wP, wC, wS, wX⟩ := wf
  refine lv_aload_n hx hb dX7_type_0 rfl (lv_at hl 0 rfl) ?_
  refine va_get (D := G) (ci := 7) (v := .int (zI tl)) (C := RX7) (T := TX7) (N := 12) hx hb hts hi7 hown hK.1 hMo 0 rfl rfl 8 (by decide) (hts (.fieldLink RX7 96 "SpriteLinesModel" "typed" "I") (by decide +kernel)) (fun _ h9 => h9) rfl dX7_type_1 ?_
  refine z_bipush (n := 60) hx hb dX7_type_4 (by decide) ?_
  refine z_icmp_ne (tgt := 12) hx hb dX7_type_6 (by decide) (by omega) (by omega) (fun c1 => ?_) (fun c1 => ?_)
  · skip
    refine lv_aload_n hx hb dX7_type_12 rfl (lv_at hl 0 rfl) ?_
    refine va_get (D := G) (ci := 7) (v := .ref ((sh a 8) 0)) (C := RX7) (T := TX7) (N := 12) hx hb hts hi7 hown hK.1 hMo 0 rfl rfl 9 (by decide) (hts (.fieldLink RX7 32 "SpriteLinesModel" "text" "[C") (by decide +kernel)) (fun _ h9 => h9) rfl dX7_type_13 ?_
    refine lv_aload_n hx hb dX7_type_16 rfl (lv_at hl 0 rfl) ?_
    refine va_get (D := G) (ci := 7) (v := .int (zI tl)) (C := RX7) (T := TX7) (N := 12) hx hb hts hi7 hown hK.1 hMo 0 rfl rfl 8 (by decide) (hts (.fieldLink RX7 96 "SpriteLinesModel" "typed" "I") (by decide +kernel)) (fun _ h9 => h9) rfl dX7_type_17 ?_
    refine lv_iload_n hx hb dX7_type_20 rfl (lv_at hl 1 rfl) ?_
    refine z_cast hx hb hK.1 hTx (Ord.D (ordM7 cs a 8 3 60 (aI X)) inj1) hS 0 3 (F := X) rfl rfl (by omega) (by decide) hz ⟨8, by decide, by decide, rfl⟩ dX7_type_21 (fun H locs hP1 hle hk hS => ?_)
    have hMo := keepO (ordMo cs a n tl rn) hMo hk (fun j hj h3 => absurd (ia j 8 (by omega) (by omega) h3) (by omega))
    have hRw := keepO (ordM7 cs a 1 0 361 (aI Y)) hRw hk (fun j hj h3 => absurd (ia (1 + j) 8 (by omega) (by omega) h3) (by omega))
    have hSc := keepO (ordM7 cs a 2 0 361 (aI Z)) hSc hk (fun j hj h3 => absurd (ia (2 + j) 8 (by omega) (by omega) h3) (by omega))
    have hHs := keepO (ordM7 cs a 3 0 1805 (aI Hh)) hHs hk (fun j hj h3 => absurd (ia (3 + j) 8 (by omega) (by omega) h3) (by omega))
    have hSl := keepO (ordM7 cs a 4 0 722 (aI Sl)) hSl hk (fun j hj h3 => absurd (ia (4 + j) 8 (by omega) (by omega) h3) (by omega))
    have hKp := keepO (ordM7 cs a 5 2 2 (aI Kp)) hKp hk (fun j hj h3 => absurd (ia (5 + j) 8 (by omega) (by omega) h3) (by omega))
    have hGo := keepO (ordM7 cs a 6 2 24 (aI Go)) hGo hk (fun j hj h3 => absurd (ia (6 + j) 8 (by omega) (by omega) h3) (by omega))
    have hNt := keepO (ordM7 cs a 7 0 24 (aI Nt)) hNt hk (fun j hj h3 => absurd (ia (7 + j) 8 (by omega) (by omega) h3) (by omega))
    have hRd := keepO (ordM7 cs a 9 0 8 (cB Rd)) hRd hk (fun j hj h3 => absurd (ia (9 + j) 8 (by omega) (by omega) h3) (by omega))
    have hTx : va_P G vwCl (m7 cs a 8 3 60 (aI (updZ X tl z))) H := hP1
    refine lv_aload_n hx hb dX7_type_22 rfl (lv_at hl 0 rfl) ?_
    refine lv_dup hx hb dX7_type_23 rfl ?_
    refine va_get (D := G) (ci := 7) (v := .int (zI tl)) (C := RX7) (T := TX7) (N := 12) hx hb hts hi7 hown hK.1 hMo 0 rfl rfl 8 (by decide) (hts (.fieldLink RX7 96 "SpriteLinesModel" "typed" "I") (by decide +kernel)) (fun _ h9 => h9) rfl dX7_type_24 ?_
    refine z_iconst (n := 1) hx hb dX7_type_27 ?_
    refine z_iadd hx hb dX7_type_28 ?_
    refine z_put (G := G) (ci := 7) (v := .int (zI (tl + 1))) (ty := .int) (C := RX7) (T := TX7) (N := 12) hx hb hts hi7 tyX7 tyX7_ok nmX7 hown hK.1 hMo (Ord.D (ordMo cs a n tl rn) inj1) hS 0 rfl rfl 8 (by decide) (hts (.fieldLink RX7 96 "SpriteLinesModel" "typed" "I") (by decide +kernel)) (fun _ h9 => h9) rfl (by decide +kernel) rfl rfl (Nat.le_of_ble_eq_true rfl) ⟨0, by decide, by decide, rfl⟩ dX7_type_29 (fun H locs hP1 hle hk hS => ?_)
    have hRw := keepO (ordM7 cs a 1 0 361 (aI Y)) hRw hk (fun j hj h3 => absurd (ia (1 + j) 0 (by omega) (by omega) h3) (by omega))
    have hSc := keepO (ordM7 cs a 2 0 361 (aI Z)) hSc hk (fun j hj h3 => absurd (ia (2 + j) 0 (by omega) (by omega) h3) (by omega))
    have hHs := keepO (ordM7 cs a 3 0 1805 (aI Hh)) hHs hk (fun j hj h3 => absurd (ia (3 + j) 0 (by omega) (by omega) h3) (by omega))
    have hSl := keepO (ordM7 cs a 4 0 722 (aI Sl)) hSl hk (fun j hj h3 => absurd (ia (4 + j) 0 (by omega) (by omega) h3) (by omega))
    have hKp := keepO (ordM7 cs a 5 2 2 (aI Kp)) hKp hk (fun j hj h3 => absurd (ia (5 + j) 0 (by omega) (by omega) h3) (by omega))
    have hGo := keepO (ordM7 cs a 6 2 24 (aI Go)) hGo hk (fun j hj h3 => absurd (ia (6 + j) 0 (by omega) (by omega) h3) (by omega))
    have hNt := keepO (ordM7 cs a 7 0 24 (aI Nt)) hNt hk (fun j hj h3 => absurd (ia (7 + j) 0 (by omega) (by omega) h3) (by omega))
    have hTx := keepO (ordM7 cs a 8 3 60 (aI (updZ X tl z))) hTx hk (fun j hj h3 => absurd (ia (8 + j) 0 (by omega) (by omega) h3) (by omega))
    have hRd := keepO (ordM7 cs a 9 0 8 (cB Rd)) hRd hk (fun j hj h3 => absurd (ia (9 + j) 0 (by omega) (by omega) h3) (by omega))
    have hMo : va_P G vwCl (moW cs a n (tl + 1) rn) H := hP1
    refine lv_aload_n hx hb dX7_type_32 rfl (lv_at hl 0 rfl) ?_
    refine va_get (D := G) (ci := 7) (v := .int (zI (tl + 1))) (C := RX7) (T := TX7) (N := 12) hx hb hts hi7 hown hK.1 hMo 0 rfl rfl 8 (by decide) (hts (.fieldLink RX7 96 "SpriteLinesModel" "typed" "I") (by decide +kernel)) (fun _ h9 => h9) rfl dX7_type_33 ?_
    exact w_iret hx hb hr hlk dX7_type_36 hS (by rw [show typeF (S, (n, L), (tl, X), (k, V)) z = _ from by unfold typeF; rw [if_neg (show ¬ (60 ≤ tl) by omega)]]; exact ⟨rfl, ⟨Y, Z, Hh, Sl, Kp, Go, Nt, rn, Rd, rr, hHR, hSR, hMo, hRw, hSc, hHs, hSl, hKp, hGo, hNt, hTx, hRd⟩⟩)
  · skip
    refine z_bipush (n := -3) hx hb dX7_type_9 (by decide) ?_
    exact w_iret hx hb hr hlk dX7_type_11 hS (by rw [show typeF (S, (n, L), (tl, X), (k, V)) z = _ from by unfold typeF; rw [if_pos (show 60 ≤ tl by omega)]]; exact ⟨rfl, ⟨Y, Z, Hh, Sl, Kp, Go, Nt, rn, Rd, rr, hHR, hSR, hMo, hRw, hSc, hHs, hSl, hKp, hGo, hNt, hTx, hRd⟩⟩)

set_option maxHeartbeats 4000000 in
set_option maxRecDepth 100000 in
theorem c_X7_clearText (l : Launch) (G : va_G) (cs : Nat → ClassId) (a : Nat → Nat) (S : SS) (n : Int) (L : Nat → SS) (tl : Int) (X : Int → Int) (k : Nat → Bool) (V : Nat → SS)  (ia : Inj a 10) (hA : AWF (S, (n, L), (tl, X), (k, V))) : MW l yX7_clearText wsX7_clearText { frames := 0, cells := 0, slots := 0, locals := 0 } G cs [.ref (a 0)] (fun H => MI G cs a (S, (n, L), (tl, X), (k, V)) H) (fun vv H => vv = .int (zI (clearF (S, (n, L), (tl, X), (k, V))).1) ∧ MI G cs a (clearF (S, (n, L), (tl, X), (k, V))).2 H) (AX a 0 10) 0 0 := by
  refine m_intro (Pw := (fun H => MI G cs a (S, (n, L), (tl, X), (k, V)) H)) (cc := cX7_clearText) (maxL := 2) (ret := some .int) RX7 (by decide) rfl rfl (Nat.le_of_ble_eq_true rfl) ?_
  intro pP eE sS mM below meth cC hx hb hr hts hown hml hlk hnm hPre hK ls hl
  have hl : lv_has ls 2 [(0, .ref (a 0))] := hl
  have hMI := hPre
  have hS : va_S (AX a 0 10) sS.heap sS.heap [] := va_S.rf
  have hi7 : ∀ w ∈ u_ws RX7 TX7 12, w ∈ wsX7_clearText := by decide +kernel
  obtain ⟨Y, Z, Hh, Sl, Kp, Go, Nt, rn, Rd, rr, hHR, hSR, hMo, hRw, hSc, hHs, hSl, hKp, hGo, hNt, hTx, hRd⟩ := hMI
  obtain ⟨wf, ⟨hn, hL9⟩, ⟨htl, hX⟩, hV9⟩ := hA
  have wf : WF S := wf
  have hn : 0 ≤ n ∧ n ≤ 5 := hn
  have htl : 0 ≤ tl ∧ tl ≤ 60 := htl
  have hX : ∀ j, 0 ≤ j → j < 60 → 0 ≤ X j ∧ X j < 65536 := hX
  have rr : RR S Y := rr
  have hHR : HR n L Hh := hHR
  have hSR : SR k V Kp Sl := hSR
  have hL9 : ∀ i : Nat, (i : Int) < n → WF (L i) := hL9
  have hV9 : ∀ s : Nat, s < 2 → k s = true → WF (V s) := hV9
  have hMo : va_P G vwCl (moW cs a n tl rn) sS.heap := hMo
  have hRw : va_P G vwCl (m7 cs a 1 0 361 (aI Y)) sS.heap := hRw
  have hSc : va_P G vwCl (m7 cs a 2 0 361 (aI Z)) sS.heap := hSc
  have hHs : va_P G vwCl (m7 cs a 3 0 1805 (aI Hh)) sS.heap := hHs
  have hSl : va_P G vwCl (m7 cs a 4 0 722 (aI Sl)) sS.heap := hSl
  have hKp : va_P G vwCl (m7 cs a 5 2 2 (aI Kp)) sS.heap := hKp
  have hGo : va_P G vwCl (m7 cs a 6 2 24 (aI Go)) sS.heap := hGo
  have hNt : va_P G vwCl (m7 cs a 7 0 24 (aI Nt)) sS.heap := hNt
  have hTx : va_P G vwCl (m7 cs a 8 3 60 (aI X)) sS.heap := hTx
  have hRd : va_P G vwCl (m7 cs a 9 0 8 (cB Rd)) sS.heap := hRd
  have wf0 := wf
  obtain ⟨w0, w1, w2, w3, w4, wP, wC, wS, wX⟩ := wf
  refine lv_aload_n hx hb dX7_clearText_0 rfl (lv_at hl 0 rfl) ?_
  refine va_get (D := G) (ci := 7) (v := .int (zI tl)) (C := RX7) (T := TX7) (N := 12) hx hb hts hi7 hown hK.1 hMo 0 rfl rfl 8 (by decide) (hts (.fieldLink RX7 96 "SpriteLinesModel" "typed" "I") (by decide +kernel)) (fun _ h9 => h9) rfl dX7_clearText_1 ?_
  refine lv_istore_n (lv' := [(1, .int (zI tl)), (0, .ref (a 0))]) hx hb dX7_clearText_4 rfl hl (by decide) rfl (fun ls hl => ?_)
  refine lv_aload_n hx hb dX7_clearText_5 rfl (lv_at hl 1 rfl) ?_
  refine z_iconst (n := 0) hx hb dX7_clearText_6 ?_
  refine z_put (G := G) (ci := 7) (v := .int (zI 0)) (ty := .int) (C := RX7) (T := TX7) (N := 12) hx hb hts hi7 tyX7 tyX7_ok nmX7 hown hK.1 hMo (Ord.D (ordMo cs a n tl rn) inj1) hS 0 rfl rfl 8 (by decide) (hts (.fieldLink RX7 96 "SpriteLinesModel" "typed" "I") (by decide +kernel)) (fun _ h9 => h9) rfl (by decide +kernel) rfl rfl (Nat.le_of_ble_eq_true rfl) ⟨0, by decide, by decide, rfl⟩ dX7_clearText_7 (fun H locs hP1 hle hk hS => ?_)
  have hRw := keepO (ordM7 cs a 1 0 361 (aI Y)) hRw hk (fun j hj h3 => absurd (ia (1 + j) 0 (by omega) (by omega) h3) (by omega))
  have hSc := keepO (ordM7 cs a 2 0 361 (aI Z)) hSc hk (fun j hj h3 => absurd (ia (2 + j) 0 (by omega) (by omega) h3) (by omega))
  have hHs := keepO (ordM7 cs a 3 0 1805 (aI Hh)) hHs hk (fun j hj h3 => absurd (ia (3 + j) 0 (by omega) (by omega) h3) (by omega))
  have hSl := keepO (ordM7 cs a 4 0 722 (aI Sl)) hSl hk (fun j hj h3 => absurd (ia (4 + j) 0 (by omega) (by omega) h3) (by omega))
  have hKp := keepO (ordM7 cs a 5 2 2 (aI Kp)) hKp hk (fun j hj h3 => absurd (ia (5 + j) 0 (by omega) (by omega) h3) (by omega))
  have hGo := keepO (ordM7 cs a 6 2 24 (aI Go)) hGo hk (fun j hj h3 => absurd (ia (6 + j) 0 (by omega) (by omega) h3) (by omega))
  have hNt := keepO (ordM7 cs a 7 0 24 (aI Nt)) hNt hk (fun j hj h3 => absurd (ia (7 + j) 0 (by omega) (by omega) h3) (by omega))
  have hTx := keepO (ordM7 cs a 8 3 60 (aI X)) hTx hk (fun j hj h3 => absurd (ia (8 + j) 0 (by omega) (by omega) h3) (by omega))
  have hRd := keepO (ordM7 cs a 9 0 8 (cB Rd)) hRd hk (fun j hj h3 => absurd (ia (9 + j) 0 (by omega) (by omega) h3) (by omega))
  have hMo : va_P G vwCl (moW cs a n 0 rn) H := hP1
  refine lv_iload_n hx hb dX7_clearText_10 rfl (lv_at hl 0 rfl) ?_
  exact w_iret hx hb hr hlk dX7_clearText_11 hS ⟨rfl, ⟨Y, Z, Hh, Sl, Kp, Go, Nt, rn, Rd, rr, hHR, hSR, hMo, hRw, hSc, hHs, hSl, hKp, hGo, hNt, hTx, hRd⟩⟩

set_option maxHeartbeats 4000000 in
set_option maxRecDepth 100000 in
theorem c_X7_setColor (l : Launch) (G : va_G) (cs : Nat → ClassId) (a : Nat → Nat) (S : SS) (n : Int) (L : Nat → SS) (tl : Int) (X : Int → Int) (k : Nat → Bool) (V : Nat → SS) (q z v : Int) (ia : Inj a 10) (hA : AWF (S, (n, L), (tl, X), (k, V))) (r_q : -2147483648 ≤ q ∧ q < 2147483648) (r_z : -2147483648 ≤ z ∧ z < 2147483648) (r_v : -2147483648 ≤ v ∧ v < 2147483648) : MW l yX7_setColor wsX7_setColor { frames := 1, cells := 0, slots := 0, locals := 22 } G cs [.ref (a 0), .int (zI q), .int (zI z), .int (zI v)] (fun H => MI G cs a (S, (n, L), (tl, X), (k, V)) H) (fun vv H => vv = .int (zI (setColorF (S, (n, L), (tl, X), (k, V)) q z v).1) ∧ MI G cs a (setColorF (S, (n, L), (tl, X), (k, V)) q z v).2 H) (AX a 0 10) 0 0 := by
  refine m_intro (Pw := (fun H => MI G cs a (S, (n, L), (tl, X), (k, V)) H)) (cc := cX7_setColor) (maxL := 6) (ret := some .int) RX7 (by decide) rfl rfl (Nat.le_of_ble_eq_true rfl) ?_
  intro pP eE sS mM below meth cC hx hb hr hts hown hml hlk hnm hPre hK ls hl
  have hl : lv_has ls 6 [(0, .ref (a 0)), (1, .int (zI q)), (2, .int (zI z)), (3, .int (zI v))] := hl
  have hMI := hPre
  have hS : va_S (AX a 0 10) sS.heap sS.heap [] := va_S.rf
  have hi7 : ∀ w ∈ u_ws RX7 TX7 12, w ∈ wsX7_setColor := by decide +kernel
  obtain ⟨Y, Z, Hh, Sl, Kp, Go, Nt, rn, Rd, rr, hHR, hSR, hMo, hRw, hSc, hHs, hSl, hKp, hGo, hNt, hTx, hRd⟩ := hMI
  obtain ⟨wf, ⟨hn, hL9⟩, ⟨htl, hX⟩, hV9⟩ := hA
  have wf : WF S := wf
  have hn : 0 ≤ n ∧ n ≤ 5 := hn
  have htl : 0 ≤ tl ∧ tl ≤ 60 := htl
  have hX : ∀ j, 0 ≤ j → j < 60 → 0 ≤ X j ∧ X j < 65536 := hX
  have rr : RR S Y := rr
  have hHR : HR n L Hh := hHR
  have hSR : SR k V Kp Sl := hSR
  have hL9 : ∀ i : Nat, (i : Int) < n → WF (L i) := hL9
  have hV9 : ∀ s : Nat, s < 2 → k s = true → WF (V s) := hV9
  have hMo : va_P G vwCl (moW cs a n tl rn) sS.heap := hMo
  have hRw : va_P G vwCl (m7 cs a 1 0 361 (aI Y)) sS.heap := hRw
  have hSc : va_P G vwCl (m7 cs a 2 0 361 (aI Z)) sS.heap := hSc
  have hHs : va_P G vwCl (m7 cs a 3 0 1805 (aI Hh)) sS.heap := hHs
  have hSl : va_P G vwCl (m7 cs a 4 0 722 (aI Sl)) sS.heap := hSl
  have hKp : va_P G vwCl (m7 cs a 5 2 2 (aI Kp)) sS.heap := hKp
  have hGo : va_P G vwCl (m7 cs a 6 2 24 (aI Go)) sS.heap := hGo
  have hNt : va_P G vwCl (m7 cs a 7 0 24 (aI Nt)) sS.heap := hNt
  have hTx : va_P G vwCl (m7 cs a 8 3 60 (aI X)) sS.heap := hTx
  have hRd : va_P G vwCl (m7 cs a 9 0 8 (cB Rd)) sS.heap := hRd
  have wf0 := wf
  obtain ⟨w0, w1, w2, w3, w4, wP, wC, wS, wX⟩ := wf
  refine lv_iload_n hx hb dX7_setColor_0 rfl (lv_at hl 1 rfl) ?_
  refine z_iconst (n := 0) hx hb dX7_setColor_1 ?_
  refine z_iconst (n := 3) hx hb dX7_setColor_2 ?_
  refine z_ro (zrS (As := [.int (zI q), .int (zI 0), .int (zI 3)]) (rest := []) (Pw := fun _ => True) ⟨hx, hb, hml, hown, hts⟩ (c_X7_in l G cs q 0 3 (by omega) (by omega) (by omega)) gX7_setColor_X7_in rfl qX7_in rfl rfl ⟨Nat.le_of_ble_eq_true rfl, Nat.le_of_ble_eq_true rfl⟩ trivial hK hl.1 rfl (Nat.le_of_ble_eq_true rfl) dX7_setColor_3 ⟨Nat.le_of_ble_eq_true rfl, Nat.le_of_ble_eq_true rfl⟩) ?_
  refine z_bif_ne (tgt := 11) hx hb dX7_setColor_6 (by decide) (fun c1 => ?_) (fun c1 => ?_)
  · skip
    simp only [decide_eq_true_eq] at c1
    refine lv_iload_n hx hb dX7_setColor_11 rfl (lv_at hl 2 rfl) ?_
    refine z_iconst (n := 1) hx hb dX7_setColor_12 ?_
    refine z_iconst (n := 3) hx hb dX7_setColor_13 ?_
    refine z_ro (zrS (As := [.int (zI z), .int (zI 1), .int (zI 3)]) (rest := []) (Pw := fun _ => True) ⟨hx, hb, hml, hown, hts⟩ (c_X7_in l G cs z 1 3 (by omega) (by omega) (by omega)) gX7_setColor_X7_in rfl qX7_in rfl rfl ⟨Nat.le_of_ble_eq_true rfl, Nat.le_of_ble_eq_true rfl⟩ trivial hK hl.1 rfl (Nat.le_of_ble_eq_true rfl) dX7_setColor_14 ⟨Nat.le_of_ble_eq_true rfl, Nat.le_of_ble_eq_true rfl⟩) ?_
    refine z_bif_eq (tgt := 30) hx hb dX7_setColor_17 (by decide) (fun c2 => ?_) (fun c2 => ?_)
    · skip
      simp only [decide_eq_false_iff_not] at c2
      refine z_bipush (n := -2) hx hb dX7_setColor_30 (by decide) ?_
      exact w_iret hx hb hr hlk dX7_setColor_32 hS (by rw [show setColorF (S, (n, L), (tl, X), (k, V)) q z v = _ from by unfold setColorF; rw [if_neg (show ¬ (¬ (0 ≤ q ∧ q < 4)) by omega), if_pos (show ¬ ((1 ≤ z ∧ z < 4) ∧ (0 ≤ v ∧ v < 64)) by omega)]]; exact ⟨rfl, ⟨Y, Z, Hh, Sl, Kp, Go, Nt, rn, Rd, rr, hHR, hSR, hMo, hRw, hSc, hHs, hSl, hKp, hGo, hNt, hTx, hRd⟩⟩)
    · skip
      simp only [decide_eq_true_eq] at c2
      refine lv_iload_n hx hb dX7_setColor_20 rfl (lv_at hl 3 rfl) ?_
      refine z_iconst (n := 0) hx hb dX7_setColor_21 ?_
      refine z_bipush (n := 63) hx hb dX7_setColor_22 (by decide) ?_
      refine z_ro (zrS (As := [.int (zI v), .int (zI 0), .int (zI 63)]) (rest := []) (Pw := fun _ => True) ⟨hx, hb, hml, hown, hts⟩ (c_X7_in l G cs v 0 63 (by omega) (by omega) (by omega)) gX7_setColor_X7_in rfl qX7_in rfl rfl ⟨Nat.le_of_ble_eq_true rfl, Nat.le_of_ble_eq_true rfl⟩ trivial hK hl.1 rfl (Nat.le_of_ble_eq_true rfl) dX7_setColor_24 ⟨Nat.le_of_ble_eq_true rfl, Nat.le_of_ble_eq_true rfl⟩) ?_
      refine z_bif_ne (tgt := 33) hx hb dX7_setColor_27 (by decide) (fun c3 => ?_) (fun c3 => ?_)
      · skip
        simp only [decide_eq_true_eq] at c3
        refine lv_aload_n hx hb dX7_setColor_33 rfl (lv_at hl 0 rfl) ?_
        refine z_v (zrV (As := []) (rest := []) (Pw := fun H => va_P G vwCl (moW cs a n tl rn) H ∧ va_P G vwCl (m7 cs a 1 0 361 (aI Y)) H ∧ va_P G vwCl (m7 cs a 2 0 361 (aI Z)) H) ⟨hx, hb, hml, hown, hts⟩ (c_X7_begin l G cs a Y Z n tl rn ia) gX7_setColor_X7_begin rfl qX7_begin rfl rfl ⟨Nat.le_of_ble_eq_true rfl, Nat.le_of_ble_eq_true rfl⟩ ⟨hMo, hRw, hSc⟩ hK (va_recv hK.1 hMo (ci := 7) (q0 := 0) rfl rfl) hl.1 rfl (Nat.le_of_ble_eq_true rfl) dX7_setColor_34 ⟨Nat.le_of_ble_eq_true rfl, Nat.le_of_ble_eq_true rfl⟩) hS (fun q h => ax_mono h (by decide) (by decide)) (fun q h => ax_mono h (by decide) (by decide)) (fun H locs hpost hle hk hS => ?_)
        have hSc' := hpost
        have hMo := keepO (ordMo cs a n tl rn) hMo hk (fun j hj ⟨i, h1, h2, h3⟩ => absurd (ia j i (by omega) (by omega) h3) (by omega))
        have hRw := keepO (ordM7 cs a 1 0 361 (aI Y)) hRw hk (fun j hj ⟨i, h1, h2, h3⟩ => absurd (ia (1 + j) i (by omega) (by omega) h3) (by omega))
        have hHs := keepO (ordM7 cs a 3 0 1805 (aI Hh)) hHs hk (fun j hj ⟨i, h1, h2, h3⟩ => absurd (ia (3 + j) i (by omega) (by omega) h3) (by omega))
        have hSl := keepO (ordM7 cs a 4 0 722 (aI Sl)) hSl hk (fun j hj ⟨i, h1, h2, h3⟩ => absurd (ia (4 + j) i (by omega) (by omega) h3) (by omega))
        have hKp := keepO (ordM7 cs a 5 2 2 (aI Kp)) hKp hk (fun j hj ⟨i, h1, h2, h3⟩ => absurd (ia (5 + j) i (by omega) (by omega) h3) (by omega))
        have hGo := keepO (ordM7 cs a 6 2 24 (aI Go)) hGo hk (fun j hj ⟨i, h1, h2, h3⟩ => absurd (ia (6 + j) i (by omega) (by omega) h3) (by omega))
        have hNt := keepO (ordM7 cs a 7 0 24 (aI Nt)) hNt hk (fun j hj ⟨i, h1, h2, h3⟩ => absurd (ia (7 + j) i (by omega) (by omega) h3) (by omega))
        have hTx := keepO (ordM7 cs a 8 3 60 (aI X)) hTx hk (fun j hj ⟨i, h1, h2, h3⟩ => absurd (ia (8 + j) i (by omega) (by omega) h3) (by omega))
        have hRd := keepO (ordM7 cs a 9 0 8 (cB Rd)) hRd hk (fun j hj ⟨i, h1, h2, h3⟩ => absurd (ia (9 + j) i (by omega) (by omega) h3) (by omega))
        have hSc : va_P G vwCl (m7 cs a 2 0 361 (aI (cpZ Z Y 361))) H := hSc'
        refine z_sipush (n := 197) hx hb dX7_setColor_37 (by decide) ?_
        refine z_iconst (n := 3) hx hb dX7_setColor_40 ?_
        refine lv_iload_n hx hb dX7_setColor_41 rfl (lv_at hl 1 rfl) ?_
        refine z_imul hx hb dX7_setColor_42 ?_
        refine z_iadd hx hb dX7_setColor_43 ?_
        refine lv_iload_n hx hb dX7_setColor_44 rfl (lv_at hl 2 rfl) ?_
        refine z_iadd hx hb dX7_setColor_45 ?_
        refine z_iconst (n := 1) hx hb dX7_setColor_46 ?_
        refine z_isub hx hb dX7_setColor_47 ?_
        refine lv_istore (lv' := [(4, .int (zI (((197 + (3 * q)) + z) - 1))), (0, .ref (a 0)), (1, .int (zI q)), (2, .int (zI z)), (3, .int (zI v))]) hx hb dX7_setColor_48 hl (by decide) rfl (fun ls hl => ?_)
        refine lv_aload_n hx hb dX7_setColor_50 rfl (lv_at hl 1 rfl) ?_
        refine va_get (D := G) (ci := 7) (v := .ref ((sh a 1) 0)) (C := RX7) (T := TX7) (N := 12) hx hb hts hi7 hown hK.1 hMo 0 rfl rfl 0 (by decide) (hts (.fieldLink RX7 7 "SpriteLinesModel" "row" "[I") (by decide +kernel)) (fun _ h9 => h9) rfl dX7_setColor_51 ?_
        refine lv_iload hx hb dX7_setColor_54 (lv_at hl 0 rfl) ?_
        refine z_iald hx hb hK.1 hRw 0 0 (F := Y) rfl rfl (by omega) (by decide) dX7_setColor_56 ?_
        refine z_topi (b := S 2 (4 * q + z)) (rr.2.2.1 q z (by omega) (by omega) (by omega) (by omega)) ?_
        refine lv_istore (lv' := [(5, .int (zI (S 2 (4 * q + z)))), (4, .int (zI (((197 + (3 * q)) + z) - 1))), (0, .ref (a 0)), (1, .int (zI q)), (2, .int (zI z)), (3, .int (zI v))]) hx hb dX7_setColor_57 hl (by decide) rfl (fun ls hl => ?_)
        refine lv_aload_n hx hb dX7_setColor_59 rfl (lv_at hl 2 rfl) ?_
        refine va_get (D := G) (ci := 7) (v := .ref ((sh a 1) 0)) (C := RX7) (T := TX7) (N := 12) hx hb hts hi7 hown hK.1 hMo 0 rfl rfl 0 (by decide) (hts (.fieldLink RX7 7 "SpriteLinesModel" "row" "[I") (by decide +kernel)) (fun _ h9 => h9) rfl dX7_setColor_60 ?_
        refine lv_iload hx hb dX7_setColor_63 (lv_at hl 1 rfl) ?_
        refine lv_iload_n hx hb dX7_setColor_65 rfl (lv_at hl 5 rfl) ?_
        refine z_iast hx hb hK.1 hRw (Ord.D (ordM7 cs a 1 0 361 (aI Y)) inj1) hS 0 0 (F := Y) rfl rfl (by omega) (by decide) ⟨1, by decide, by decide, rfl⟩ dX7_setColor_66 (fun H locs hP1 hle hk hS => ?_)
        have hMo := keepO (ordMo cs a n tl rn) hMo hk (fun j hj h3 => absurd (ia j 1 (by omega) (by omega) h3) (by omega))
        have hSc := keepO (ordM7 cs a 2 0 361 (aI (cpZ Z Y 361))) hSc hk (fun j hj h3 => absurd (ia (2 + j) 1 (by omega) (by omega) h3) (by omega))
        have hHs := keepO (ordM7 cs a 3 0 1805 (aI Hh)) hHs hk (fun j hj h3 => absurd (ia (3 + j) 1 (by omega) (by omega) h3) (by omega))
        have hSl := keepO (ordM7 cs a 4 0 722 (aI Sl)) hSl hk (fun j hj h3 => absurd (ia (4 + j) 1 (by omega) (by omega) h3) (by omega))
        have hKp := keepO (ordM7 cs a 5 2 2 (aI Kp)) hKp hk (fun j hj h3 => absurd (ia (5 + j) 1 (by omega) (by omega) h3) (by omega))
        have hGo := keepO (ordM7 cs a 6 2 24 (aI Go)) hGo hk (fun j hj h3 => absurd (ia (6 + j) 1 (by omega) (by omega) h3) (by omega))
        have hNt := keepO (ordM7 cs a 7 0 24 (aI Nt)) hNt hk (fun j hj h3 => absurd (ia (7 + j) 1 (by omega) (by omega) h3) (by omega))
        have hTx := keepO (ordM7 cs a 8 3 60 (aI X)) hTx hk (fun j hj h3 => absurd (ia (8 + j) 1 (by omega) (by omega) h3) (by omega))
        have hRd := keepO (ordM7 cs a 9 0 8 (cB Rd)) hRd hk (fun j hj h3 => absurd (ia (9 + j) 1 (by omega) (by omega) h3) (by omega))
        have hRw : va_P G vwCl (m7 cs a 1 0 361 (aI (updZ Y (((197 + (3 * q)) + z) - 1) v))) H := hP1
        refine lv_aload_n hx hb dX7_setColor_67 rfl (lv_at hl 2 rfl) ?_
        refine lv_iload hx hb dX7_setColor_68 (lv_at hl 0 rfl) ?_
        refine z_w (zrV (As := [.int (zI (S 2 (4 * q + z)))]) (rest := []) (Pw := fun H => va_P G vwCl (moW cs a n tl rn) H ∧ va_P G vwCl (m7 cs a 2 0 361 (aI (cpZ Z Y 361))) H ∧ va_P G vwCl (m7 cs a 3 0 1805 (aI Hh)) H) ⟨hx, hb, hml, hown, hts⟩ (c_X7_done l G cs a n tl rn Hh (cpZ Z Y 361) (S 2 (4 * q + z)) ia (by omega)) gX7_setColor_X7_done rfl qX7_done rfl rfl ⟨Nat.le_of_ble_eq_true rfl, Nat.le_of_ble_eq_true rfl⟩ ⟨hMo, hSc, hHs⟩ hK (va_recv hK.1 hMo (ci := 7) (q0 := 0) rfl rfl) hl.1 rfl (Nat.le_of_ble_eq_true rfl) dX7_setColor_70 ⟨Nat.le_of_ble_eq_true rfl, Nat.le_of_ble_eq_true rfl⟩) hS (fun q h => by rcases h with h | h <;> exact ax_mono h (by decide) (by decide)) (fun q h => by rcases h with h | h <;> exact ax_mono h (by decide) (by decide)) (fun v H locs hpost hle hk hS => ?_)
        obtain ⟨rfl, hMo', hHs'⟩ := hpost
        have hRw := keepO (ordM7 cs a 1 0 361 (aI (updZ Y (((197 + (3 * q)) + z) - 1) v))) hRw hk (fun j hj h0 => by rcases h0 with ⟨i, h1, h2, h3⟩ | ⟨i, h1, h2, h3⟩ <;> exact absurd (ia (1 + j) i (by omega) (by omega) h3) (by omega))
        have hSc := keepO (ordM7 cs a 2 0 361 (aI (cpZ Z Y 361))) hSc hk (fun j hj h0 => by rcases h0 with ⟨i, h1, h2, h3⟩ | ⟨i, h1, h2, h3⟩ <;> exact absurd (ia (2 + j) i (by omega) (by omega) h3) (by omega))
        have hSl := keepO (ordM7 cs a 4 0 722 (aI Sl)) hSl hk (fun j hj h0 => by rcases h0 with ⟨i, h1, h2, h3⟩ | ⟨i, h1, h2, h3⟩ <;> exact absurd (ia (4 + j) i (by omega) (by omega) h3) (by omega))
        have hKp := keepO (ordM7 cs a 5 2 2 (aI Kp)) hKp hk (fun j hj h0 => by rcases h0 with ⟨i, h1, h2, h3⟩ | ⟨i, h1, h2, h3⟩ <;> exact absurd (ia (5 + j) i (by omega) (by omega) h3) (by omega))
        have hGo := keepO (ordM7 cs a 6 2 24 (aI Go)) hGo hk (fun j hj h0 => by rcases h0 with ⟨i, h1, h2, h3⟩ | ⟨i, h1, h2, h3⟩ <;> exact absurd (ia (6 + j) i (by omega) (by omega) h3) (by omega))
        have hNt := keepO (ordM7 cs a 7 0 24 (aI Nt)) hNt hk (fun j hj h0 => by rcases h0 with ⟨i, h1, h2, h3⟩ | ⟨i, h1, h2, h3⟩ <;> exact absurd (ia (7 + j) i (by omega) (by omega) h3) (by omega))
        have hTx := keepO (ordM7 cs a 8 3 60 (aI X)) hTx hk (fun j hj h0 => by rcases h0 with ⟨i, h1, h2, h3⟩ | ⟨i, h1, h2, h3⟩ <;> exact absurd (ia (8 + j) i (by omega) (by omega) h3) (by omega))
        have hRd := keepO (ordM7 cs a 9 0 8 (cB Rd)) hRd hk (fun j hj h0 => by rcases h0 with ⟨i, h1, h2, h3⟩ | ⟨i, h1, h2, h3⟩ <;> exact absurd (ia (9 + j) i (by omega) (by omega) h3) (by omega))
        have hMo : va_P G vwCl (moW cs a (remN n) tl rn) H := hMo'
        have hHs : va_P G vwCl (m7 cs a 3 0 1805 (aI (doneH n Hh (cpZ Z Y 361)))) H := hHs'
        exact w_iret hx hb hr hlk dX7_setColor_73 hS (by rw [show setColorF (S, (n, L), (tl, X), (k, V)) q z v = _ from by unfold setColorF; rw [if_neg (show ¬ (¬ (0 ≤ q ∧ q < 4)) by omega), if_neg (show ¬ (¬ ((1 ≤ z ∧ z < 4) ∧ (0 ≤ v ∧ v < 64))) by omega)]]; exact ⟨rfl, ⟨updZ Y (((197 + (3 * q)) + z) - 1) v, cpZ Z Y 361, doneH n Hh (cpZ Z Y 361), Sl, Kp, Go, Nt, rn, Rd, rr_col (S := S) wf0 rr (by omega) (by omega), (hr_done (S := S) wf0 hL9 hHR rr hn), hSR, hMo, hRw, hSc, hHs, hSl, hKp, hGo, hNt, hTx, hRd⟩⟩)
      · skip
        simp only [decide_eq_false_iff_not] at c3
        refine z_bipush (n := -2) hx hb dX7_setColor_30 (by decide) ?_
        exact w_iret hx hb hr hlk dX7_setColor_32 hS (by rw [show setColorF (S, (n, L), (tl, X), (k, V)) q z v = _ from by unfold setColorF; rw [if_neg (show ¬ (¬ (0 ≤ q ∧ q < 4)) by omega), if_pos (show ¬ ((1 ≤ z ∧ z < 4) ∧ (0 ≤ v ∧ v < 64)) by omega)]]; exact ⟨rfl, ⟨Y, Z, Hh, Sl, Kp, Go, Nt, rn, Rd, rr, hHR, hSR, hMo, hRw, hSc, hHs, hSl, hKp, hGo, hNt, hTx, hRd⟩⟩)
  · skip
    simp only [decide_eq_false_iff_not] at c1
    refine z_iconst (n := -1) hx hb dX7_setColor_9 ?_
    exact w_iret hx hb hr hlk dX7_setColor_10 hS (by rw [show setColorF (S, (n, L), (tl, X), (k, V)) q z v = _ from by unfold setColorF; rw [if_pos (show ¬ (0 ≤ q ∧ q < 4) by omega)]]; exact ⟨rfl, ⟨Y, Z, Hh, Sl, Kp, Go, Nt, rn, Rd, rr, hHR, hSR, hMo, hRw, hSc, hHs, hSl, hKp, hGo, hNt, hTx, hRd⟩⟩)

set_option maxHeartbeats 4000000 in
set_option maxRecDepth 100000 in
theorem c_X7_addSprite (l : Launch) (G : va_G) (cs : Nat → ClassId) (a : Nat → Nat) (S : SS) (n : Int) (L : Nat → SS) (tl : Int) (X : Int → Int) (k : Nat → Bool) (V : Nat → SS) (q x y : Int) (ia : Inj a 10) (hA : AWF (S, (n, L), (tl, X), (k, V))) (r_q : -2147483648 ≤ q ∧ q < 2147483648) (r_x : -2147483648 ≤ x ∧ x < 2147483648) (r_y : -2147483648 ≤ y ∧ y < 2147483648) : MW l yX7_addSprite wsX7_addSprite { frames := 2, cells := 0, slots := 0, locals := 43 } G cs [.ref (a 0), .int (zI q), .int (zI x), .int (zI y)] (fun H => MI G cs a (S, (n, L), (tl, X), (k, V)) H) (fun vv H => vv = .int (zI (addSpriteF (S, (n, L), (tl, X), (k, V)) q x y).1) ∧ MI G cs a (addSpriteF (S, (n, L), (tl, X), (k, V)) q x y).2 H) (AX a 0 10) 0 0 := by
  refine m_intro (Pw := (fun H => MI G cs a (S, (n, L), (tl, X), (k, V)) H)) (cc := cX7_addSprite) (maxL := 5) (ret := some .int) RX7 (by decide) rfl rfl (Nat.le_of_ble_eq_true rfl) ?_
  intro pP eE sS mM below meth cC hx hb hr hts hown hml hlk hnm hPre hK ls hl
  have hl : lv_has ls 5 [(0, .ref (a 0)), (1, .int (zI q)), (2, .int (zI x)), (3, .int (zI y))] := hl
  have hMI := hPre
  have hS : va_S (AX a 0 10) sS.heap sS.heap [] := va_S.rf
  have hi7 : ∀ w ∈ u_ws RX7 TX7 12, w ∈ wsX7_addSprite := by decide +kernel
  obtain ⟨Y, Z, Hh, Sl, Kp, Go, Nt, rn, Rd, rr, hHR, hSR, hMo, hRw, hSc, hHs, hSl, hKp, hGo, hNt, hTx, hRd⟩ := hMI
  obtain ⟨wf, ⟨hn, hL9⟩, ⟨htl, hX⟩, hV9⟩ := hA
  have wf : WF S := wf
  have hn : 0 ≤ n ∧ n ≤ 5 := hn
  have htl : 0 ≤ tl ∧ tl ≤ 60 := htl
  have hX : ∀ j, 0 ≤ j → j < 60 → 0 ≤ X j ∧ X j < 65536 := hX
  have rr : RR S Y := rr
  have hHR : HR n L Hh := hHR
  have hSR : SR k V Kp Sl := hSR
  have hL9 : ∀ i : Nat, (i : Int) < n → WF (L i) := hL9
  have hV9 : ∀ s : Nat, s < 2 → k s = true → WF (V s) := hV9
  have hMo : va_P G vwCl (moW cs a n tl rn) sS.heap := hMo
  have hRw : va_P G vwCl (m7 cs a 1 0 361 (aI Y)) sS.heap := hRw
  have hSc : va_P G vwCl (m7 cs a 2 0 361 (aI Z)) sS.heap := hSc
  have hHs : va_P G vwCl (m7 cs a 3 0 1805 (aI Hh)) sS.heap := hHs
  have hSl : va_P G vwCl (m7 cs a 4 0 722 (aI Sl)) sS.heap := hSl
  have hKp : va_P G vwCl (m7 cs a 5 2 2 (aI Kp)) sS.heap := hKp
  have hGo : va_P G vwCl (m7 cs a 6 2 24 (aI Go)) sS.heap := hGo
  have hNt : va_P G vwCl (m7 cs a 7 0 24 (aI Nt)) sS.heap := hNt
  have hTx : va_P G vwCl (m7 cs a 8 3 60 (aI X)) sS.heap := hTx
  have hRd : va_P G vwCl (m7 cs a 9 0 8 (cB Rd)) sS.heap := hRd
  have wf0 := wf
  obtain ⟨w0, w1, w2, w3, w4, wP, wC, wS, wX⟩ := wf
  refine lv_aload_n hx hb dX7_addSprite_0 rfl (lv_at hl 0 rfl) ?_
  refine lv_iload_n hx hb dX7_addSprite_1 rfl (lv_at hl 1 rfl) ?_
  refine z_ro (zrV (As := [.int (zI q)]) (rest := []) (Pw := fun H => va_P G vwCl (moW cs a n tl rn) H ∧ va_P G vwCl (m7 cs a 1 0 361 (aI Y)) H) ⟨hx, hb, hml, hown, hts⟩ (c_X7_noPart l G cs a S Y n tl rn q wf0 rr (by omega)) gX7_addSprite_X7_noPart rfl qX7_noPart rfl rfl ⟨Nat.le_of_ble_eq_true rfl, Nat.le_of_ble_eq_true rfl⟩ ⟨hMo, hRw⟩ hK (va_recv hK.1 hMo (ci := 7) (q0 := 0) rfl rfl) hl.1 rfl (Nat.le_of_ble_eq_true rfl) dX7_addSprite_2 ⟨Nat.le_of_ble_eq_true rfl, Nat.le_of_ble_eq_true rfl⟩) ?_
  refine z_bif_eq (tgt := 10) hx hb dX7_addSprite_5 (by decide) (fun c1 => ?_) (fun c1 => ?_)
  · skip
    simp only [decide_eq_false_iff_not] at c1
    refine lv_iload_n hx hb dX7_addSprite_10 rfl (lv_at hl 2 rfl) ?_
    refine lv_iload_n hx hb dX7_addSprite_11 rfl (lv_at hl 3 rfl) ?_
    refine z_ro (zrS (As := [.int (zI x), .int (zI y)]) (rest := []) (Pw := fun _ => True) ⟨hx, hb, hml, hown, hts⟩ (c_X7_isPlace l G cs x y (by omega) (by omega)) gX7_addSprite_X7_isPlace rfl qX7_isPlace rfl rfl ⟨Nat.le_of_ble_eq_true rfl, Nat.le_of_ble_eq_true rfl⟩ trivial hK hl.1 rfl (Nat.le_of_ble_eq_true rfl) dX7_addSprite_12 ⟨Nat.le_of_ble_eq_true rfl, Nat.le_of_ble_eq_true rfl⟩) ?_
    refine z_bif_ne (tgt := 21) hx hb dX7_addSprite_15 (by decide) (fun c2 => ?_) (fun c2 => ?_)
    · skip
      simp only [decide_eq_true_eq] at c2
      refine lv_aload_n hx hb dX7_addSprite_21 rfl (lv_at hl 0 rfl) ?_
      refine z_ro (zrV (As := []) (rest := []) (Pw := fun H => va_P G vwCl (moW cs a n tl rn) H ∧ va_P G vwCl (m7 cs a 1 0 361 (aI Y)) H) ⟨hx, hb, hml, hown, hts⟩ (c_X7_sprites l G cs a S Y n tl rn rr) gX7_addSprite_X7_sprites rfl qX7_sprites rfl rfl ⟨Nat.le_of_ble_eq_true rfl, Nat.le_of_ble_eq_true rfl⟩ ⟨hMo, hRw⟩ hK (va_recv hK.1 hMo (ci := 7) (q0 := 0) rfl rfl) hl.1 rfl (Nat.le_of_ble_eq_true rfl) dX7_addSprite_22 ⟨Nat.le_of_ble_eq_true rfl, Nat.le_of_ble_eq_true rfl⟩) ?_
      refine z_bipush (n := 20) hx hb dX7_addSprite_25 (by decide) ?_
      refine z_icmp_ne (tgt := 33) hx hb dX7_addSprite_27 (by decide) (by omega) (by omega) (fun c3 => ?_) (fun c3 => ?_)
      · skip
        refine lv_aload_n hx hb dX7_addSprite_33 rfl (lv_at hl 0 rfl) ?_
        refine z_v (zrV (As := []) (rest := []) (Pw := fun H => va_P G vwCl (moW cs a n tl rn) H ∧ va_P G vwCl (m7 cs a 1 0 361 (aI Y)) H ∧ va_P G vwCl (m7 cs a 2 0 361 (aI Z)) H) ⟨hx, hb, hml, hown, hts⟩ (c_X7_begin l G cs a Y Z n tl rn ia) gX7_addSprite_X7_begin rfl qX7_begin rfl rfl ⟨Nat.le_of_ble_eq_true rfl, Nat.le_of_ble_eq_true rfl⟩ ⟨hMo, hRw, hSc⟩ hK (va_recv hK.1 hMo (ci := 7) (q0 := 0) rfl rfl) hl.1 rfl (Nat.le_of_ble_eq_true rfl) dX7_addSprite_34 ⟨Nat.le_of_ble_eq_true rfl, Nat.le_of_ble_eq_true rfl⟩) hS (fun q h => ax_mono h (by decide) (by decide)) (fun q h => ax_mono h (by decide) (by decide)) (fun H locs hpost hle hk hS => ?_)
        have hSc' := hpost
        have hMo := keepO (ordMo cs a n tl rn) hMo hk (fun j hj ⟨i, h1, h2, h3⟩ => absurd (ia j i (by omega) (by omega) h3) (by omega))
        have hRw := keepO (ordM7 cs a 1 0 361 (aI Y)) hRw hk (fun j hj ⟨i, h1, h2, h3⟩ => absurd (ia (1 + j) i (by omega) (by omega) h3) (by omega))
        have hHs := keepO (ordM7 cs a 3 0 1805 (aI Hh)) hHs hk (fun j hj ⟨i, h1, h2, h3⟩ => absurd (ia (3 + j) i (by omega) (by omega) h3) (by omega))
        have hSl := keepO (ordM7 cs a 4 0 722 (aI Sl)) hSl hk (fun j hj ⟨i, h1, h2, h3⟩ => absurd (ia (4 + j) i (by omega) (by omega) h3) (by omega))
        have hKp := keepO (ordM7 cs a 5 2 2 (aI Kp)) hKp hk (fun j hj ⟨i, h1, h2, h3⟩ => absurd (ia (5 + j) i (by omega) (by omega) h3) (by omega))
        have hGo := keepO (ordM7 cs a 6 2 24 (aI Go)) hGo hk (fun j hj ⟨i, h1, h2, h3⟩ => absurd (ia (6 + j) i (by omega) (by omega) h3) (by omega))
        have hNt := keepO (ordM7 cs a 7 0 24 (aI Nt)) hNt hk (fun j hj ⟨i, h1, h2, h3⟩ => absurd (ia (7 + j) i (by omega) (by omega) h3) (by omega))
        have hTx := keepO (ordM7 cs a 8 3 60 (aI X)) hTx hk (fun j hj ⟨i, h1, h2, h3⟩ => absurd (ia (8 + j) i (by omega) (by omega) h3) (by omega))
        have hRd := keepO (ordM7 cs a 9 0 8 (cB Rd)) hRd hk (fun j hj ⟨i, h1, h2, h3⟩ => absurd (ia (9 + j) i (by omega) (by omega) h3) (by omega))
        have hSc : va_P G vwCl (m7 cs a 2 0 361 (aI (cpZ Z Y 361))) H := hSc'
        refine lv_aload_n hx hb dX7_addSprite_37 rfl (lv_at hl 0 rfl) ?_
        refine z_ro (zrV (As := []) (rest := []) (Pw := fun H => va_P G vwCl (moW cs a n tl rn) H ∧ va_P G vwCl (m7 cs a 1 0 361 (aI Y)) H) ⟨hx, hb, hml, hown, hts⟩ (c_X7_sprites l G cs a S Y n tl rn rr) gX7_addSprite_X7_sprites rfl qX7_sprites rfl rfl ⟨Nat.le_of_ble_eq_true rfl, Nat.le_of_ble_eq_true rfl⟩ ⟨hMo, hRw⟩ hK (va_recv hK.1 hMo (ci := 7) (q0 := 0) rfl rfl) hl.1 rfl (Nat.le_of_ble_eq_true rfl) dX7_addSprite_38 ⟨Nat.le_of_ble_eq_true rfl, Nat.le_of_ble_eq_true rfl⟩) ?_
        refine lv_istore (lv' := [(4, .int (zI (S 0 1))), (0, .ref (a 0)), (1, .int (zI q)), (2, .int (zI x)), (3, .int (zI y))]) hx hb dX7_addSprite_41 hl (by decide) rfl (fun ls hl => ?_)
        refine lv_aload_n hx hb dX7_addSprite_43 rfl (lv_at hl 1 rfl) ?_
        refine lv_iload hx hb dX7_addSprite_44 (lv_at hl 0 rfl) ?_
        refine z_iconst (n := 0) hx hb dX7_addSprite_46 ?_
        refine lv_iload_n hx hb dX7_addSprite_47 rfl (lv_at hl 2 rfl) ?_
        refine z_v (zrV (As := [.int (zI (S 0 1)), .int (zI 0), .int (zI q)]) (rest := []) (Pw := fun H => va_P G vwCl (moW cs a n tl rn) H ∧ va_P G vwCl (m7 cs a 1 0 361 (aI Y)) H) ⟨hx, hb, hml, hown, hts⟩ (c_X7_put l G cs a S Y n tl rn (S 0 1) 0 q ia (by omega) (by omega)) gX7_addSprite_X7_put rfl qX7_put rfl rfl ⟨Nat.le_of_ble_eq_true rfl, Nat.le_of_ble_eq_true rfl⟩ ⟨hMo, hRw⟩ hK (va_recv hK.1 hMo (ci := 7) (q0 := 0) rfl rfl) hl.1 rfl (Nat.le_of_ble_eq_true rfl) dX7_addSprite_48 ⟨Nat.le_of_ble_eq_true rfl, Nat.le_of_ble_eq_true rfl⟩) hS (fun q h => ax_mono h (by decide) (by decide)) (fun q h => ax_mono h (by decide) (by decide)) (fun H locs hpost hle hk hS => ?_)
        have hRw' := hpost
        have hMo := keepO (ordMo cs a n tl rn) hMo hk (fun j hj ⟨i, h1, h2, h3⟩ => absurd (ia j i (by omega) (by omega) h3) (by omega))
        have hSc := keepO (ordM7 cs a 2 0 361 (aI (cpZ Z Y 361))) hSc hk (fun j hj ⟨i, h1, h2, h3⟩ => absurd (ia (2 + j) i (by omega) (by omega) h3) (by omega))
        have hHs := keepO (ordM7 cs a 3 0 1805 (aI Hh)) hHs hk (fun j hj ⟨i, h1, h2, h3⟩ => absurd (ia (3 + j) i (by omega) (by omega) h3) (by omega))
        have hSl := keepO (ordM7 cs a 4 0 722 (aI Sl)) hSl hk (fun j hj ⟨i, h1, h2, h3⟩ => absurd (ia (4 + j) i (by omega) (by omega) h3) (by omega))
        have hKp := keepO (ordM7 cs a 5 2 2 (aI Kp)) hKp hk (fun j hj ⟨i, h1, h2, h3⟩ => absurd (ia (5 + j) i (by omega) (by omega) h3) (by omega))
        have hGo := keepO (ordM7 cs a 6 2 24 (aI Go)) hGo hk (fun j hj ⟨i, h1, h2, h3⟩ => absurd (ia (6 + j) i (by omega) (by omega) h3) (by omega))
        have hNt := keepO (ordM7 cs a 7 0 24 (aI Nt)) hNt hk (fun j hj ⟨i, h1, h2, h3⟩ => absurd (ia (7 + j) i (by omega) (by omega) h3) (by omega))
        have hTx := keepO (ordM7 cs a 8 3 60 (aI X)) hTx hk (fun j hj ⟨i, h1, h2, h3⟩ => absurd (ia (8 + j) i (by omega) (by omega) h3) (by omega))
        have hRd := keepO (ordM7 cs a 9 0 8 (cB Rd)) hRd hk (fun j hj ⟨i, h1, h2, h3⟩ => absurd (ia (9 + j) i (by omega) (by omega) h3) (by omega))
        have hRw : va_P G vwCl (m7 cs a 1 0 361 (aI (updZ Y (209 + 6 * (S 0 1) + 0) q))) H := hRw'
        refine lv_aload_n hx hb dX7_addSprite_51 rfl (lv_at hl 1 rfl) ?_
        refine lv_iload hx hb dX7_addSprite_52 (lv_at hl 0 rfl) ?_
        refine z_iconst (n := 1) hx hb dX7_addSprite_54 ?_
        refine z_iconst (n := 0) hx hb dX7_addSprite_55 ?_
        refine z_v (zrV (As := [.int (zI (S 0 1)), .int (zI 1), .int (zI 0)]) (rest := []) (Pw := fun H => va_P G vwCl (moW cs a n tl rn) H ∧ va_P G vwCl (m7 cs a 1 0 361 (aI (updZ Y (209 + 6 * (S 0 1) + 0) q))) H) ⟨hx, hb, hml, hown, hts⟩ (c_X7_put l G cs a S (updZ Y (209 + 6 * (S 0 1) + 0) q) n tl rn (S 0 1) 1 0 ia (by omega) (by omega)) gX7_addSprite_X7_put rfl qX7_put rfl rfl ⟨Nat.le_of_ble_eq_true rfl, Nat.le_of_ble_eq_true rfl⟩ ⟨hMo, hRw⟩ hK (va_recv hK.1 hMo (ci := 7) (q0 := 0) rfl rfl) hl.1 rfl (Nat.le_of_ble_eq_true rfl) dX7_addSprite_56 ⟨Nat.le_of_ble_eq_true rfl, Nat.le_of_ble_eq_true rfl⟩) hS (fun q h => ax_mono h (by decide) (by decide)) (fun q h => ax_mono h (by decide) (by decide)) (fun H locs hpost hle hk hS => ?_)
        have hRw' := hpost
        have hMo := keepO (ordMo cs a n tl rn) hMo hk (fun j hj ⟨i, h1, h2, h3⟩ => absurd (ia j i (by omega) (by omega) h3) (by omega))
        have hSc := keepO (ordM7 cs a 2 0 361 (aI (cpZ Z Y 361))) hSc hk (fun j hj ⟨i, h1, h2, h3⟩ => absurd (ia (2 + j) i (by omega) (by omega) h3) (by omega))
        have hHs := keepO (ordM7 cs a 3 0 1805 (aI Hh)) hHs hk (fun j hj ⟨i, h1, h2, h3⟩ => absurd (ia (3 + j) i (by omega) (by omega) h3) (by omega))
        have hSl := keepO (ordM7 cs a 4 0 722 (aI Sl)) hSl hk (fun j hj ⟨i, h1, h2, h3⟩ => absurd (ia (4 + j) i (by omega) (by omega) h3) (by omega))
        have hKp := keepO (ordM7 cs a 5 2 2 (aI Kp)) hKp hk (fun j hj ⟨i, h1, h2, h3⟩ => absurd (ia (5 + j) i (by omega) (by omega) h3) (by omega))
        have hGo := keepO (ordM7 cs a 6 2 24 (aI Go)) hGo hk (fun j hj ⟨i, h1, h2, h3⟩ => absurd (ia (6 + j) i (by omega) (by omega) h3) (by omega))
        have hNt := keepO (ordM7 cs a 7 0 24 (aI Nt)) hNt hk (fun j hj ⟨i, h1, h2, h3⟩ => absurd (ia (7 + j) i (by omega) (by omega) h3) (by omega))
        have hTx := keepO (ordM7 cs a 8 3 60 (aI X)) hTx hk (fun j hj ⟨i, h1, h2, h3⟩ => absurd (ia (8 + j) i (by omega) (by omega) h3) (by omega))
        have hRd := keepO (ordM7 cs a 9 0 8 (cB Rd)) hRd hk (fun j hj ⟨i, h1, h2, h3⟩ => absurd (ia (9 + j) i (by omega) (by omega) h3) (by omega))
        have hRw : va_P G vwCl (m7 cs a 1 0 361 (aI (updZ (updZ Y (209 + 6 * (S 0 1) + 0) q) (209 + 6 * (S 0 1) + 1) 0))) H := hRw'
        refine lv_aload_n hx hb dX7_addSprite_59 rfl (lv_at hl 1 rfl) ?_
        refine lv_iload hx hb dX7_addSprite_60 (lv_at hl 0 rfl) ?_
        refine z_iconst (n := 2) hx hb dX7_addSprite_62 ?_
        refine z_iconst (n := 0) hx hb dX7_addSprite_63 ?_
        refine z_v (zrV (As := [.int (zI (S 0 1)), .int (zI 2), .int (zI 0)]) (rest := []) (Pw := fun H => va_P G vwCl (moW cs a n tl rn) H ∧ va_P G vwCl (m7 cs a 1 0 361 (aI (updZ (updZ Y (209 + 6 * (S 0 1) + 0) q) (209 + 6 * (S 0 1) + 1) 0))) H) ⟨hx, hb, hml, hown, hts⟩ (c_X7_put l G cs a S (updZ (updZ Y (209 + 6 * (S 0 1) + 0) q) (209 + 6 * (S 0 1) + 1) 0) n tl rn (S 0 1) 2 0 ia (by omega) (by omega)) gX7_addSprite_X7_put rfl qX7_put rfl rfl ⟨Nat.le_of_ble_eq_true rfl, Nat.le_of_ble_eq_true rfl⟩ ⟨hMo, hRw⟩ hK (va_recv hK.1 hMo (ci := 7) (q0 := 0) rfl rfl) hl.1 rfl (Nat.le_of_ble_eq_true rfl) dX7_addSprite_64 ⟨Nat.le_of_ble_eq_true rfl, Nat.le_of_ble_eq_true rfl⟩) hS (fun q h => ax_mono h (by decide) (by decide)) (fun q h => ax_mono h (by decide) (by decide)) (fun H locs hpost hle hk hS => ?_)
        have hRw' := hpost
        have hMo := keepO (ordMo cs a n tl rn) hMo hk (fun j hj ⟨i, h1, h2, h3⟩ => absurd (ia j i (by omega) (by omega) h3) (by omega))
        have hSc := keepO (ordM7 cs a 2 0 361 (aI (cpZ Z Y 361))) hSc hk (fun j hj ⟨i, h1, h2, h3⟩ => absurd (ia (2 + j) i (by omega) (by omega) h3) (by omega))
        have hHs := keepO (ordM7 cs a 3 0 1805 (aI Hh)) hHs hk (fun j hj ⟨i, h1, h2, h3⟩ => absurd (ia (3 + j) i (by omega) (by omega) h3) (by omega))
        have hSl := keepO (ordM7 cs a 4 0 722 (aI Sl)) hSl hk (fun j hj ⟨i, h1, h2, h3⟩ => absurd (ia (4 + j) i (by omega) (by omega) h3) (by omega))
        have hKp := keepO (ordM7 cs a 5 2 2 (aI Kp)) hKp hk (fun j hj ⟨i, h1, h2, h3⟩ => absurd (ia (5 + j) i (by omega) (by omega) h3) (by omega))
        have hGo := keepO (ordM7 cs a 6 2 24 (aI Go)) hGo hk (fun j hj ⟨i, h1, h2, h3⟩ => absurd (ia (6 + j) i (by omega) (by omega) h3) (by omega))
        have hNt := keepO (ordM7 cs a 7 0 24 (aI Nt)) hNt hk (fun j hj ⟨i, h1, h2, h3⟩ => absurd (ia (7 + j) i (by omega) (by omega) h3) (by omega))
        have hTx := keepO (ordM7 cs a 8 3 60 (aI X)) hTx hk (fun j hj ⟨i, h1, h2, h3⟩ => absurd (ia (8 + j) i (by omega) (by omega) h3) (by omega))
        have hRd := keepO (ordM7 cs a 9 0 8 (cB Rd)) hRd hk (fun j hj ⟨i, h1, h2, h3⟩ => absurd (ia (9 + j) i (by omega) (by omega) h3) (by omega))
        have hRw : va_P G vwCl (m7 cs a 1 0 361 (aI (updZ (updZ (updZ Y (209 + 6 * (S 0 1) + 0) q) (209 + 6 * (S 0 1) + 1) 0) (209 + 6 * (S 0 1) + 2) 0))) H := hRw'
        refine lv_aload_n hx hb dX7_addSprite_67 rfl (lv_at hl 1 rfl) ?_
        refine lv_iload hx hb dX7_addSprite_68 (lv_at hl 0 rfl) ?_
        refine z_iconst (n := 3) hx hb dX7_addSprite_70 ?_
        refine z_iconst (n := 1) hx hb dX7_addSprite_71 ?_
        refine z_v (zrV (As := [.int (zI (S 0 1)), .int (zI 3), .int (zI 1)]) (rest := []) (Pw := fun H => va_P G vwCl (moW cs a n tl rn) H ∧ va_P G vwCl (m7 cs a 1 0 361 (aI (updZ (updZ (updZ Y (209 + 6 * (S 0 1) + 0) q) (209 + 6 * (S 0 1) + 1) 0) (209 + 6 * (S 0 1) + 2) 0))) H) ⟨hx, hb, hml, hown, hts⟩ (c_X7_put l G cs a S (updZ (updZ (updZ Y (209 + 6 * (S 0 1) + 0) q) (209 + 6 * (S 0 1) + 1) 0) (209 + 6 * (S 0 1) + 2) 0) n tl rn (S 0 1) 3 1 ia (by omega) (by omega)) gX7_addSprite_X7_put rfl qX7_put rfl rfl ⟨Nat.le_of_ble_eq_true rfl, Nat.le_of_ble_eq_true rfl⟩ ⟨hMo, hRw⟩ hK (va_recv hK.1 hMo (ci := 7) (q0 := 0) rfl rfl) hl.1 rfl (Nat.le_of_ble_eq_true rfl) dX7_addSprite_72 ⟨Nat.le_of_ble_eq_true rfl, Nat.le_of_ble_eq_true rfl⟩) hS (fun q h => ax_mono h (by decide) (by decide)) (fun q h => ax_mono h (by decide) (by decide)) (fun H locs hpost hle hk hS => ?_)
        have hRw' := hpost
        have hMo := keepO (ordMo cs a n tl rn) hMo hk (fun j hj ⟨i, h1, h2, h3⟩ => absurd (ia j i (by omega) (by omega) h3) (by omega))
        have hSc := keepO (ordM7 cs a 2 0 361 (aI (cpZ Z Y 361))) hSc hk (fun j hj ⟨i, h1, h2, h3⟩ => absurd (ia (2 + j) i (by omega) (by omega) h3) (by omega))
        have hHs := keepO (ordM7 cs a 3 0 1805 (aI Hh)) hHs hk (fun j hj ⟨i, h1, h2, h3⟩ => absurd (ia (3 + j) i (by omega) (by omega) h3) (by omega))
        have hSl := keepO (ordM7 cs a 4 0 722 (aI Sl)) hSl hk (fun j hj ⟨i, h1, h2, h3⟩ => absurd (ia (4 + j) i (by omega) (by omega) h3) (by omega))
        have hKp := keepO (ordM7 cs a 5 2 2 (aI Kp)) hKp hk (fun j hj ⟨i, h1, h2, h3⟩ => absurd (ia (5 + j) i (by omega) (by omega) h3) (by omega))
        have hGo := keepO (ordM7 cs a 6 2 24 (aI Go)) hGo hk (fun j hj ⟨i, h1, h2, h3⟩ => absurd (ia (6 + j) i (by omega) (by omega) h3) (by omega))
        have hNt := keepO (ordM7 cs a 7 0 24 (aI Nt)) hNt hk (fun j hj ⟨i, h1, h2, h3⟩ => absurd (ia (7 + j) i (by omega) (by omega) h3) (by omega))
        have hTx := keepO (ordM7 cs a 8 3 60 (aI X)) hTx hk (fun j hj ⟨i, h1, h2, h3⟩ => absurd (ia (8 + j) i (by omega) (by omega) h3) (by omega))
        have hRd := keepO (ordM7 cs a 9 0 8 (cB Rd)) hRd hk (fun j hj ⟨i, h1, h2, h3⟩ => absurd (ia (9 + j) i (by omega) (by omega) h3) (by omega))
        have hRw : va_P G vwCl (m7 cs a 1 0 361 (aI (updZ (updZ (updZ (updZ Y (209 + 6 * (S 0 1) + 0) q) (209 + 6 * (S 0 1) + 1) 0) (209 + 6 * (S 0 1) + 2) 0) (209 + 6 * (S 0 1) + 3) 1))) H := hRw'
        refine lv_aload_n hx hb dX7_addSprite_75 rfl (lv_at hl 1 rfl) ?_
        refine lv_iload hx hb dX7_addSprite_76 (lv_at hl 0 rfl) ?_
        refine z_iconst (n := 4) hx hb dX7_addSprite_78 ?_
        refine lv_iload_n hx hb dX7_addSprite_79 rfl (lv_at hl 3 rfl) ?_
        refine z_v (zrV (As := [.int (zI (S 0 1)), .int (zI 4), .int (zI x)]) (rest := []) (Pw := fun H => va_P G vwCl (moW cs a n tl rn) H ∧ va_P G vwCl (m7 cs a 1 0 361 (aI (updZ (updZ (updZ (updZ Y (209 + 6 * (S 0 1) + 0) q) (209 + 6 * (S 0 1) + 1) 0) (209 + 6 * (S 0 1) + 2) 0) (209 + 6 * (S 0 1) + 3) 1))) H) ⟨hx, hb, hml, hown, hts⟩ (c_X7_put l G cs a S (updZ (updZ (updZ (updZ Y (209 + 6 * (S 0 1) + 0) q) (209 + 6 * (S 0 1) + 1) 0) (209 + 6 * (S 0 1) + 2) 0) (209 + 6 * (S 0 1) + 3) 1) n tl rn (S 0 1) 4 x ia (by omega) (by omega)) gX7_addSprite_X7_put rfl qX7_put rfl rfl ⟨Nat.le_of_ble_eq_true rfl, Nat.le_of_ble_eq_true rfl⟩ ⟨hMo, hRw⟩ hK (va_recv hK.1 hMo (ci := 7) (q0 := 0) rfl rfl) hl.1 rfl (Nat.le_of_ble_eq_true rfl) dX7_addSprite_80 ⟨Nat.le_of_ble_eq_true rfl, Nat.le_of_ble_eq_true rfl⟩) hS (fun q h => ax_mono h (by decide) (by decide)) (fun q h => ax_mono h (by decide) (by decide)) (fun H locs hpost hle hk hS => ?_)
        have hRw' := hpost
        have hMo := keepO (ordMo cs a n tl rn) hMo hk (fun j hj ⟨i, h1, h2, h3⟩ => absurd (ia j i (by omega) (by omega) h3) (by omega))
        have hSc := keepO (ordM7 cs a 2 0 361 (aI (cpZ Z Y 361))) hSc hk (fun j hj ⟨i, h1, h2, h3⟩ => absurd (ia (2 + j) i (by omega) (by omega) h3) (by omega))
        have hHs := keepO (ordM7 cs a 3 0 1805 (aI Hh)) hHs hk (fun j hj ⟨i, h1, h2, h3⟩ => absurd (ia (3 + j) i (by omega) (by omega) h3) (by omega))
        have hSl := keepO (ordM7 cs a 4 0 722 (aI Sl)) hSl hk (fun j hj ⟨i, h1, h2, h3⟩ => absurd (ia (4 + j) i (by omega) (by omega) h3) (by omega))
        have hKp := keepO (ordM7 cs a 5 2 2 (aI Kp)) hKp hk (fun j hj ⟨i, h1, h2, h3⟩ => absurd (ia (5 + j) i (by omega) (by omega) h3) (by omega))
        have hGo := keepO (ordM7 cs a 6 2 24 (aI Go)) hGo hk (fun j hj ⟨i, h1, h2, h3⟩ => absurd (ia (6 + j) i (by omega) (by omega) h3) (by omega))
        have hNt := keepO (ordM7 cs a 7 0 24 (aI Nt)) hNt hk (fun j hj ⟨i, h1, h2, h3⟩ => absurd (ia (7 + j) i (by omega) (by omega) h3) (by omega))
        have hTx := keepO (ordM7 cs a 8 3 60 (aI X)) hTx hk (fun j hj ⟨i, h1, h2, h3⟩ => absurd (ia (8 + j) i (by omega) (by omega) h3) (by omega))
        have hRd := keepO (ordM7 cs a 9 0 8 (cB Rd)) hRd hk (fun j hj ⟨i, h1, h2, h3⟩ => absurd (ia (9 + j) i (by omega) (by omega) h3) (by omega))
        have hRw : va_P G vwCl (m7 cs a 1 0 361 (aI (updZ (updZ (updZ (updZ (updZ Y (209 + 6 * (S 0 1) + 0) q) (209 + 6 * (S 0 1) + 1) 0) (209 + 6 * (S 0 1) + 2) 0) (209 + 6 * (S 0 1) + 3) 1) (209 + 6 * (S 0 1) + 4) x))) H := hRw'
        refine lv_aload_n hx hb dX7_addSprite_83 rfl (lv_at hl 1 rfl) ?_
        refine lv_iload hx hb dX7_addSprite_84 (lv_at hl 0 rfl) ?_
        refine z_iconst (n := 5) hx hb dX7_addSprite_86 ?_
        refine lv_iload_n hx hb dX7_addSprite_87 rfl (lv_at hl 4 rfl) ?_
        refine z_v (zrV (As := [.int (zI (S 0 1)), .int (zI 5), .int (zI y)]) (rest := []) (Pw := fun H => va_P G vwCl (moW cs a n tl rn) H ∧ va_P G vwCl (m7 cs a 1 0 361 (aI (updZ (updZ (updZ (updZ (updZ Y (209 + 6 * (S 0 1) + 0) q) (209 + 6 * (S 0 1) + 1) 0) (209 + 6 * (S 0 1) + 2) 0) (209 + 6 * (S 0 1) + 3) 1) (209 + 6 * (S 0 1) + 4) x))) H) ⟨hx, hb, hml, hown, hts⟩ (c_X7_put l G cs a S (updZ (updZ (updZ (updZ (updZ Y (209 + 6 * (S 0 1) + 0) q) (209 + 6 * (S 0 1) + 1) 0) (209 + 6 * (S 0 1) + 2) 0) (209 + 6 * (S 0 1) + 3) 1) (209 + 6 * (S 0 1) + 4) x) n tl rn (S 0 1) 5 y ia (by omega) (by omega)) gX7_addSprite_X7_put rfl qX7_put rfl rfl ⟨Nat.le_of_ble_eq_true rfl, Nat.le_of_ble_eq_true rfl⟩ ⟨hMo, hRw⟩ hK (va_recv hK.1 hMo (ci := 7) (q0 := 0) rfl rfl) hl.1 rfl (Nat.le_of_ble_eq_true rfl) dX7_addSprite_88 ⟨Nat.le_of_ble_eq_true rfl, Nat.le_of_ble_eq_true rfl⟩) hS (fun q h => ax_mono h (by decide) (by decide)) (fun q h => ax_mono h (by decide) (by decide)) (fun H locs hpost hle hk hS => ?_)
        have hRw' := hpost
        have hMo := keepO (ordMo cs a n tl rn) hMo hk (fun j hj ⟨i, h1, h2, h3⟩ => absurd (ia j i (by omega) (by omega) h3) (by omega))
        have hSc := keepO (ordM7 cs a 2 0 361 (aI (cpZ Z Y 361))) hSc hk (fun j hj ⟨i, h1, h2, h3⟩ => absurd (ia (2 + j) i (by omega) (by omega) h3) (by omega))
        have hHs := keepO (ordM7 cs a 3 0 1805 (aI Hh)) hHs hk (fun j hj ⟨i, h1, h2, h3⟩ => absurd (ia (3 + j) i (by omega) (by omega) h3) (by omega))
        have hSl := keepO (ordM7 cs a 4 0 722 (aI Sl)) hSl hk (fun j hj ⟨i, h1, h2, h3⟩ => absurd (ia (4 + j) i (by omega) (by omega) h3) (by omega))
        have hKp := keepO (ordM7 cs a 5 2 2 (aI Kp)) hKp hk (fun j hj ⟨i, h1, h2, h3⟩ => absurd (ia (5 + j) i (by omega) (by omega) h3) (by omega))
        have hGo := keepO (ordM7 cs a 6 2 24 (aI Go)) hGo hk (fun j hj ⟨i, h1, h2, h3⟩ => absurd (ia (6 + j) i (by omega) (by omega) h3) (by omega))
        have hNt := keepO (ordM7 cs a 7 0 24 (aI Nt)) hNt hk (fun j hj ⟨i, h1, h2, h3⟩ => absurd (ia (7 + j) i (by omega) (by omega) h3) (by omega))
        have hTx := keepO (ordM7 cs a 8 3 60 (aI X)) hTx hk (fun j hj ⟨i, h1, h2, h3⟩ => absurd (ia (8 + j) i (by omega) (by omega) h3) (by omega))
        have hRd := keepO (ordM7 cs a 9 0 8 (cB Rd)) hRd hk (fun j hj ⟨i, h1, h2, h3⟩ => absurd (ia (9 + j) i (by omega) (by omega) h3) (by omega))
        have hRw : va_P G vwCl (m7 cs a 1 0 361 (aI (updZ (updZ (updZ (updZ (updZ (updZ Y (209 + 6 * (S 0 1) + 0) q) (209 + 6 * (S 0 1) + 1) 0) (209 + 6 * (S 0 1) + 2) 0) (209 + 6 * (S 0 1) + 3) 1) (209 + 6 * (S 0 1) + 4) x) (209 + 6 * (S 0 1) + 5) y))) H := hRw'
        refine lv_aload_n hx hb dX7_addSprite_91 rfl (lv_at hl 1 rfl) ?_
        refine va_get (D := G) (ci := 7) (v := .ref ((sh a 1) 0)) (C := RX7) (T := TX7) (N := 12) hx hb hts hi7 hown hK.1 hMo 0 rfl rfl 0 (by decide) (hts (.fieldLink RX7 7 "SpriteLinesModel" "row" "[I") (by decide +kernel)) (fun _ h9 => h9) rfl dX7_addSprite_92 ?_
        refine z_iconst (n := 1) hx hb dX7_addSprite_95 ?_
        refine lv_dup2_11 hx hb dX7_addSprite_96 rfl rfl ?_
        refine z_iald hx hb hK.1 hRw 0 0 (F := (updZ (updZ (updZ (updZ (updZ (updZ Y (209 + 6 * (S 0 1) + 0) q) (209 + 6 * (S 0 1) + 1) 0) (209 + 6 * (S 0 1) + 2) 0) (209 + 6 * (S 0 1) + 3) 1) (209 + 6 * (S 0 1) + 4) x) (209 + 6 * (S 0 1) + 5) y)) rfl rfl (by omega) (by decide) dX7_addSprite_97 ?_
        refine z_topi (b := S 0 1) (by rw [updZ_n (by omega), updZ_n (by omega), updZ_n (by omega), updZ_n (by omega), updZ_n (by omega), updZ_n (by omega)]; exact rr.1.2.1) ?_
        refine z_iconst (n := 1) hx hb dX7_addSprite_98 ?_
        refine z_iadd hx hb dX7_addSprite_99 ?_
        refine z_iast hx hb hK.1 hRw (Ord.D (ordM7 cs a 1 0 361 (aI (updZ (updZ (updZ (updZ (updZ (updZ Y (209 + 6 * (S 0 1) + 0) q) (209 + 6 * (S 0 1) + 1) 0) (209 + 6 * (S 0 1) + 2) 0) (209 + 6 * (S 0 1) + 3) 1) (209 + 6 * (S 0 1) + 4) x) (209 + 6 * (S 0 1) + 5) y))) inj1) hS 0 0 (F := (updZ (updZ (updZ (updZ (updZ (updZ Y (209 + 6 * (S 0 1) + 0) q) (209 + 6 * (S 0 1) + 1) 0) (209 + 6 * (S 0 1) + 2) 0) (209 + 6 * (S 0 1) + 3) 1) (209 + 6 * (S 0 1) + 4) x) (209 + 6 * (S 0 1) + 5) y)) rfl rfl (by omega) (by decide) ⟨1, by decide, by decide, rfl⟩ dX7_addSprite_100 (fun H locs hP1 hle hk hS => ?_)
        have hMo := keepO (ordMo cs a n tl rn) hMo hk (fun j hj h3 => absurd (ia j 1 (by omega) (by omega) h3) (by omega))
        have hSc := keepO (ordM7 cs a 2 0 361 (aI (cpZ Z Y 361))) hSc hk (fun j hj h3 => absurd (ia (2 + j) 1 (by omega) (by omega) h3) (by omega))
        have hHs := keepO (ordM7 cs a 3 0 1805 (aI Hh)) hHs hk (fun j hj h3 => absurd (ia (3 + j) 1 (by omega) (by omega) h3) (by omega))
        have hSl := keepO (ordM7 cs a 4 0 722 (aI Sl)) hSl hk (fun j hj h3 => absurd (ia (4 + j) 1 (by omega) (by omega) h3) (by omega))
        have hKp := keepO (ordM7 cs a 5 2 2 (aI Kp)) hKp hk (fun j hj h3 => absurd (ia (5 + j) 1 (by omega) (by omega) h3) (by omega))
        have hGo := keepO (ordM7 cs a 6 2 24 (aI Go)) hGo hk (fun j hj h3 => absurd (ia (6 + j) 1 (by omega) (by omega) h3) (by omega))
        have hNt := keepO (ordM7 cs a 7 0 24 (aI Nt)) hNt hk (fun j hj h3 => absurd (ia (7 + j) 1 (by omega) (by omega) h3) (by omega))
        have hTx := keepO (ordM7 cs a 8 3 60 (aI X)) hTx hk (fun j hj h3 => absurd (ia (8 + j) 1 (by omega) (by omega) h3) (by omega))
        have hRd := keepO (ordM7 cs a 9 0 8 (cB Rd)) hRd hk (fun j hj h3 => absurd (ia (9 + j) 1 (by omega) (by omega) h3) (by omega))
        have hRw : va_P G vwCl (m7 cs a 1 0 361 (aI (updZ (updZ (updZ (updZ (updZ (updZ (updZ Y (209 + 6 * (S 0 1) + 0) q) (209 + 6 * (S 0 1) + 1) 0) (209 + 6 * (S 0 1) + 2) 0) (209 + 6 * (S 0 1) + 3) 1) (209 + 6 * (S 0 1) + 4) x) (209 + 6 * (S 0 1) + 5) y) 1 ((S 0 1) + 1)))) H := hP1
        refine lv_aload_n hx hb dX7_addSprite_101 rfl (lv_at hl 1 rfl) ?_
        refine lv_iload hx hb dX7_addSprite_102 (lv_at hl 0 rfl) ?_
        refine z_w (zrV (As := [.int (zI (S 0 1))]) (rest := []) (Pw := fun H => va_P G vwCl (moW cs a n tl rn) H ∧ va_P G vwCl (m7 cs a 2 0 361 (aI (cpZ Z Y 361))) H ∧ va_P G vwCl (m7 cs a 3 0 1805 (aI Hh)) H) ⟨hx, hb, hml, hown, hts⟩ (c_X7_done l G cs a n tl rn Hh (cpZ Z Y 361) (S 0 1) ia (by omega)) gX7_addSprite_X7_done rfl qX7_done rfl rfl ⟨Nat.le_of_ble_eq_true rfl, Nat.le_of_ble_eq_true rfl⟩ ⟨hMo, hSc, hHs⟩ hK (va_recv hK.1 hMo (ci := 7) (q0 := 0) rfl rfl) hl.1 rfl (Nat.le_of_ble_eq_true rfl) dX7_addSprite_104 ⟨Nat.le_of_ble_eq_true rfl, Nat.le_of_ble_eq_true rfl⟩) hS (fun q h => by rcases h with h | h <;> exact ax_mono h (by decide) (by decide)) (fun q h => by rcases h with h | h <;> exact ax_mono h (by decide) (by decide)) (fun v H locs hpost hle hk hS => ?_)
        obtain ⟨rfl, hMo', hHs'⟩ := hpost
        have hRw := keepO (ordM7 cs a 1 0 361 (aI (updZ (updZ (updZ (updZ (updZ (updZ (updZ Y (209 + 6 * (S 0 1) + 0) q) (209 + 6 * (S 0 1) + 1) 0) (209 + 6 * (S 0 1) + 2) 0) (209 + 6 * (S 0 1) + 3) 1) (209 + 6 * (S 0 1) + 4) x) (209 + 6 * (S 0 1) + 5) y) 1 ((S 0 1) + 1)))) hRw hk (fun j hj h0 => by rcases h0 with ⟨i, h1, h2, h3⟩ | ⟨i, h1, h2, h3⟩ <;> exact absurd (ia (1 + j) i (by omega) (by omega) h3) (by omega))
        have hSc := keepO (ordM7 cs a 2 0 361 (aI (cpZ Z Y 361))) hSc hk (fun j hj h0 => by rcases h0 with ⟨i, h1, h2, h3⟩ | ⟨i, h1, h2, h3⟩ <;> exact absurd (ia (2 + j) i (by omega) (by omega) h3) (by omega))
        have hSl := keepO (ordM7 cs a 4 0 722 (aI Sl)) hSl hk (fun j hj h0 => by rcases h0 with ⟨i, h1, h2, h3⟩ | ⟨i, h1, h2, h3⟩ <;> exact absurd (ia (4 + j) i (by omega) (by omega) h3) (by omega))
        have hKp := keepO (ordM7 cs a 5 2 2 (aI Kp)) hKp hk (fun j hj h0 => by rcases h0 with ⟨i, h1, h2, h3⟩ | ⟨i, h1, h2, h3⟩ <;> exact absurd (ia (5 + j) i (by omega) (by omega) h3) (by omega))
        have hGo := keepO (ordM7 cs a 6 2 24 (aI Go)) hGo hk (fun j hj h0 => by rcases h0 with ⟨i, h1, h2, h3⟩ | ⟨i, h1, h2, h3⟩ <;> exact absurd (ia (6 + j) i (by omega) (by omega) h3) (by omega))
        have hNt := keepO (ordM7 cs a 7 0 24 (aI Nt)) hNt hk (fun j hj h0 => by rcases h0 with ⟨i, h1, h2, h3⟩ | ⟨i, h1, h2, h3⟩ <;> exact absurd (ia (7 + j) i (by omega) (by omega) h3) (by omega))
        have hTx := keepO (ordM7 cs a 8 3 60 (aI X)) hTx hk (fun j hj h0 => by rcases h0 with ⟨i, h1, h2, h3⟩ | ⟨i, h1, h2, h3⟩ <;> exact absurd (ia (8 + j) i (by omega) (by omega) h3) (by omega))
        have hRd := keepO (ordM7 cs a 9 0 8 (cB Rd)) hRd hk (fun j hj h0 => by rcases h0 with ⟨i, h1, h2, h3⟩ | ⟨i, h1, h2, h3⟩ <;> exact absurd (ia (9 + j) i (by omega) (by omega) h3) (by omega))
        have hMo : va_P G vwCl (moW cs a (remN n) tl rn) H := hMo'
        have hHs : va_P G vwCl (m7 cs a 3 0 1805 (aI (doneH n Hh (cpZ Z Y 361)))) H := hHs'
        exact w_iret hx hb hr hlk dX7_addSprite_107 hS (by rw [show addSpriteF (S, (n, L), (tl, X), (k, V)) q x y = _ from by unfold addSpriteF; rw [if_neg (show ¬ (¬ (0 ≤ q ∧ q < S 0 0)) by omega), if_neg (show ¬ (¬ ((-7 ≤ x ∧ x ≤ 31) ∧ (-7 ≤ y ∧ y ≤ 31))) by omega), if_neg (show ¬ (20 ≤ S 0 1) by omega)]]; exact ⟨rfl, ⟨updZ (updZ (updZ (updZ (updZ (updZ (updZ Y (209 + 6 * (S 0 1) + 0) q) (209 + 6 * (S 0 1) + 1) 0) (209 + 6 * (S 0 1) + 2) 0) (209 + 6 * (S 0 1) + 3) 1) (209 + 6 * (S 0 1) + 4) x) (209 + 6 * (S 0 1) + 5) y) 1 ((S 0 1) + 1), cpZ Z Y 361, doneH n Hh (cpZ Z Y 361), Sl, Kp, Go, Nt, rn, Rd, rr_sp (S := S) wf0 rr (by omega) rfl, (hr_done (S := S) wf0 hL9 hHR rr hn), hSR, hMo, hRw, hSc, hHs, hSl, hKp, hGo, hNt, hTx, hRd⟩⟩)
      · skip
        refine z_bipush (n := -3) hx hb dX7_addSprite_30 (by decide) ?_
        exact w_iret hx hb hr hlk dX7_addSprite_32 hS (by rw [show addSpriteF (S, (n, L), (tl, X), (k, V)) q x y = _ from by unfold addSpriteF; rw [if_neg (show ¬ (¬ (0 ≤ q ∧ q < S 0 0)) by omega), if_neg (show ¬ (¬ ((-7 ≤ x ∧ x ≤ 31) ∧ (-7 ≤ y ∧ y ≤ 31))) by omega), if_pos (show 20 ≤ S 0 1 by omega)]]; exact ⟨rfl, ⟨Y, Z, Hh, Sl, Kp, Go, Nt, rn, Rd, rr, hHR, hSR, hMo, hRw, hSc, hHs, hSl, hKp, hGo, hNt, hTx, hRd⟩⟩)
    · skip
      simp only [decide_eq_false_iff_not] at c2
      refine z_bipush (n := -2) hx hb dX7_addSprite_18 (by decide) ?_
      exact w_iret hx hb hr hlk dX7_addSprite_20 hS (by rw [show addSpriteF (S, (n, L), (tl, X), (k, V)) q x y = _ from by unfold addSpriteF; rw [if_neg (show ¬ (¬ (0 ≤ q ∧ q < S 0 0)) by omega), if_pos (show ¬ ((-7 ≤ x ∧ x ≤ 31) ∧ (-7 ≤ y ∧ y ≤ 31)) by omega)]]; exact ⟨rfl, ⟨Y, Z, Hh, Sl, Kp, Go, Nt, rn, Rd, rr, hHR, hSR, hMo, hRw, hSc, hHs, hSl, hKp, hGo, hNt, hTx, hRd⟩⟩)
  · skip
    simp only [decide_eq_true_eq] at c1
    refine z_iconst (n := -1) hx hb dX7_addSprite_8 ?_
    exact w_iret hx hb hr hlk dX7_addSprite_9 hS (by rw [show addSpriteF (S, (n, L), (tl, X), (k, V)) q x y = _ from by unfold addSpriteF; rw [if_pos (show ¬ (0 ≤ q ∧ q < S 0 0) by omega)]]; exact ⟨rfl, ⟨Y, Z, Hh, Sl, Kp, Go, Nt, rn, Rd, rr, hHR, hSR, hMo, hRw, hSc, hHs, hSl, hKp, hGo, hNt, hTx, hRd⟩⟩)

set_option maxHeartbeats 4000000 in
set_option maxRecDepth 100000 in
theorem c_X7_move (l : Launch) (G : va_G) (cs : Nat → ClassId) (a : Nat → Nat) (S : SS) (n : Int) (L : Nat → SS) (tl : Int) (X : Int → Int) (k : Nat → Bool) (V : Nat → SS) (z x y : Int) (ia : Inj a 10) (hA : AWF (S, (n, L), (tl, X), (k, V))) (r_z : -2147483648 ≤ z ∧ z < 2147483648) (r_x : -2147483648 ≤ x ∧ x < 2147483648) (r_y : -2147483648 ≤ y ∧ y < 2147483648) : MW l yX7_move wsX7_move { frames := 3, cells := 0, slots := 0, locals := 67 } G cs [.ref (a 0), .int (zI z), .int (zI x), .int (zI y)] (fun H => MI G cs a (S, (n, L), (tl, X), (k, V)) H) (fun vv H => vv = .int (zI (moveF (S, (n, L), (tl, X), (k, V)) z x y).1) ∧ MI G cs a (moveF (S, (n, L), (tl, X), (k, V)) z x y).2 H) (AX a 0 10) 0 0 := by
  refine m_intro (Pw := (fun H => MI G cs a (S, (n, L), (tl, X), (k, V)) H)) (cc := cX7_move) (maxL := 4) (ret := some .int) RX7 (by decide) rfl rfl (Nat.le_of_ble_eq_true rfl) ?_
  intro pP eE sS mM below meth cC hx hb hr hts hown hml hlk hnm hPre hK ls hl
  have hl : lv_has ls 4 [(0, .ref (a 0)), (1, .int (zI z)), (2, .int (zI x)), (3, .int (zI y))] := hl
  have hMI := hPre
  have hS : va_S (AX a 0 10) sS.heap sS.heap [] := va_S.rf
  obtain ⟨Y, Z, Hh, Sl, Kp, Go, Nt, rn, Rd, rr, hHR, hSR, hMo, hRw, hSc, hHs, hSl, hKp, hGo, hNt, hTx, hRd⟩ := hMI
  obtain ⟨wf, ⟨hn, hL9⟩, ⟨htl, hX⟩, hV9⟩ := hA
  have wf : WF S := wf
  have hn : 0 ≤ n ∧ n ≤ 5 := hn
  have htl : 0 ≤ tl ∧ tl ≤ 60 := htl
  have hX : ∀ j, 0 ≤ j → j < 60 → 0 ≤ X j ∧ X j < 65536 := hX
  have rr : RR S Y := rr
  have hHR : HR n L Hh := hHR
  have hSR : SR k V Kp Sl := hSR
  have hL9 : ∀ i : Nat, (i : Int) < n → WF (L i) := hL9
  have hV9 : ∀ s : Nat, s < 2 → k s = true → WF (V s) := hV9
  have hMo : va_P G vwCl (moW cs a n tl rn) sS.heap := hMo
  have hRw : va_P G vwCl (m7 cs a 1 0 361 (aI Y)) sS.heap := hRw
  have hSc : va_P G vwCl (m7 cs a 2 0 361 (aI Z)) sS.heap := hSc
  have hHs : va_P G vwCl (m7 cs a 3 0 1805 (aI Hh)) sS.heap := hHs
  have hSl : va_P G vwCl (m7 cs a 4 0 722 (aI Sl)) sS.heap := hSl
  have hKp : va_P G vwCl (m7 cs a 5 2 2 (aI Kp)) sS.heap := hKp
  have hGo : va_P G vwCl (m7 cs a 6 2 24 (aI Go)) sS.heap := hGo
  have hNt : va_P G vwCl (m7 cs a 7 0 24 (aI Nt)) sS.heap := hNt
  have hTx : va_P G vwCl (m7 cs a 8 3 60 (aI X)) sS.heap := hTx
  have hRd : va_P G vwCl (m7 cs a 9 0 8 (cB Rd)) sS.heap := hRd
  have wf0 := wf
  obtain ⟨w0, w1, w2, w3, w4, wP, wC, wS, wX⟩ := wf
  refine lv_aload_n hx hb dX7_move_0 rfl (lv_at hl 0 rfl) ?_
  refine lv_iload_n hx hb dX7_move_1 rfl (lv_at hl 1 rfl) ?_
  refine z_ro (zrV (As := [.int (zI z)]) (rest := []) (Pw := fun H => va_P G vwCl (moW cs a n tl rn) H ∧ va_P G vwCl (m7 cs a 1 0 361 (aI Y)) H) ⟨hx, hb, hml, hown, hts⟩ (c_X7_noSprite l G cs a S Y n tl rn z wf0 rr (by omega)) gX7_move_X7_noSprite rfl qX7_noSprite rfl rfl ⟨Nat.le_of_ble_eq_true rfl, Nat.le_of_ble_eq_true rfl⟩ ⟨hMo, hRw⟩ hK (va_recv hK.1 hMo (ci := 7) (q0 := 0) rfl rfl) hl.1 rfl (Nat.le_of_ble_eq_true rfl) dX7_move_2 ⟨Nat.le_of_ble_eq_true rfl, Nat.le_of_ble_eq_true rfl⟩) ?_
  refine z_bif_eq (tgt := 10) hx hb dX7_move_5 (by decide) (fun c1 => ?_) (fun c1 => ?_)
  · skip
    simp only [decide_eq_false_iff_not] at c1
    refine lv_iload_n hx hb dX7_move_10 rfl (lv_at hl 2 rfl) ?_
    refine lv_iload_n hx hb dX7_move_11 rfl (lv_at hl 3 rfl) ?_
    refine z_ro (zrS (As := [.int (zI x), .int (zI y)]) (rest := []) (Pw := fun _ => True) ⟨hx, hb, hml, hown, hts⟩ (c_X7_isPlace l G cs x y (by omega) (by omega)) gX7_move_X7_isPlace rfl qX7_isPlace rfl rfl ⟨Nat.le_of_ble_eq_true rfl, Nat.le_of_ble_eq_true rfl⟩ trivial hK hl.1 rfl (Nat.le_of_ble_eq_true rfl) dX7_move_12 ⟨Nat.le_of_ble_eq_true rfl, Nat.le_of_ble_eq_true rfl⟩) ?_
    refine z_bif_ne (tgt := 21) hx hb dX7_move_15 (by decide) (fun c2 => ?_) (fun c2 => ?_)
    · skip
      simp only [decide_eq_true_eq] at c2
      refine lv_aload_n hx hb dX7_move_21 rfl (lv_at hl 0 rfl) ?_
      refine z_v (zrV (As := []) (rest := []) (Pw := fun H => va_P G vwCl (moW cs a n tl rn) H ∧ va_P G vwCl (m7 cs a 1 0 361 (aI Y)) H ∧ va_P G vwCl (m7 cs a 2 0 361 (aI Z)) H) ⟨hx, hb, hml, hown, hts⟩ (c_X7_begin l G cs a Y Z n tl rn ia) gX7_move_X7_begin rfl qX7_begin rfl rfl ⟨Nat.le_of_ble_eq_true rfl, Nat.le_of_ble_eq_true rfl⟩ ⟨hMo, hRw, hSc⟩ hK (va_recv hK.1 hMo (ci := 7) (q0 := 0) rfl rfl) hl.1 rfl (Nat.le_of_ble_eq_true rfl) dX7_move_22 ⟨Nat.le_of_ble_eq_true rfl, Nat.le_of_ble_eq_true rfl⟩) hS (fun q h => ax_mono h (by decide) (by decide)) (fun q h => ax_mono h (by decide) (by decide)) (fun H locs hpost hle hk hS => ?_)
      have hSc' := hpost
      have hMo := keepO (ordMo cs a n tl rn) hMo hk (fun j hj ⟨i, h1, h2, h3⟩ => absurd (ia j i (by omega) (by omega) h3) (by omega))
      have hRw := keepO (ordM7 cs a 1 0 361 (aI Y)) hRw hk (fun j hj ⟨i, h1, h2, h3⟩ => absurd (ia (1 + j) i (by omega) (by omega) h3) (by omega))
      have hHs := keepO (ordM7 cs a 3 0 1805 (aI Hh)) hHs hk (fun j hj ⟨i, h1, h2, h3⟩ => absurd (ia (3 + j) i (by omega) (by omega) h3) (by omega))
      have hSl := keepO (ordM7 cs a 4 0 722 (aI Sl)) hSl hk (fun j hj ⟨i, h1, h2, h3⟩ => absurd (ia (4 + j) i (by omega) (by omega) h3) (by omega))
      have hKp := keepO (ordM7 cs a 5 2 2 (aI Kp)) hKp hk (fun j hj ⟨i, h1, h2, h3⟩ => absurd (ia (5 + j) i (by omega) (by omega) h3) (by omega))
      have hGo := keepO (ordM7 cs a 6 2 24 (aI Go)) hGo hk (fun j hj ⟨i, h1, h2, h3⟩ => absurd (ia (6 + j) i (by omega) (by omega) h3) (by omega))
      have hNt := keepO (ordM7 cs a 7 0 24 (aI Nt)) hNt hk (fun j hj ⟨i, h1, h2, h3⟩ => absurd (ia (7 + j) i (by omega) (by omega) h3) (by omega))
      have hTx := keepO (ordM7 cs a 8 3 60 (aI X)) hTx hk (fun j hj ⟨i, h1, h2, h3⟩ => absurd (ia (8 + j) i (by omega) (by omega) h3) (by omega))
      have hRd := keepO (ordM7 cs a 9 0 8 (cB Rd)) hRd hk (fun j hj ⟨i, h1, h2, h3⟩ => absurd (ia (9 + j) i (by omega) (by omega) h3) (by omega))
      have hSc : va_P G vwCl (m7 cs a 2 0 361 (aI (cpZ Z Y 361))) H := hSc'
      refine lv_aload_n hx hb dX7_move_25 rfl (lv_at hl 0 rfl) ?_
      refine lv_iload_n hx hb dX7_move_26 rfl (lv_at hl 1 rfl) ?_
      refine z_iconst (n := 4) hx hb dX7_move_27 ?_
      refine lv_iload_n hx hb dX7_move_28 rfl (lv_at hl 2 rfl) ?_
      refine z_v (zrV (As := [.int (zI z), .int (zI 4), .int (zI x)]) (rest := []) (Pw := fun H => va_P G vwCl (moW cs a n tl rn) H ∧ va_P G vwCl (m7 cs a 1 0 361 (aI Y)) H) ⟨hx, hb, hml, hown, hts⟩ (c_X7_put l G cs a S Y n tl rn z 4 x ia (by omega) (by omega)) gX7_move_X7_put rfl qX7_put rfl rfl ⟨Nat.le_of_ble_eq_true rfl, Nat.le_of_ble_eq_true rfl⟩ ⟨hMo, hRw⟩ hK (va_recv hK.1 hMo (ci := 7) (q0 := 0) rfl rfl) hl.1 rfl (Nat.le_of_ble_eq_true rfl) dX7_move_29 ⟨Nat.le_of_ble_eq_true rfl, Nat.le_of_ble_eq_true rfl⟩) hS (fun q h => ax_mono h (by decide) (by decide)) (fun q h => ax_mono h (by decide) (by decide)) (fun H locs hpost hle hk hS => ?_)
      have hRw' := hpost
      have hMo := keepO (ordMo cs a n tl rn) hMo hk (fun j hj ⟨i, h1, h2, h3⟩ => absurd (ia j i (by omega) (by omega) h3) (by omega))
      have hSc := keepO (ordM7 cs a 2 0 361 (aI (cpZ Z Y 361))) hSc hk (fun j hj ⟨i, h1, h2, h3⟩ => absurd (ia (2 + j) i (by omega) (by omega) h3) (by omega))
      have hHs := keepO (ordM7 cs a 3 0 1805 (aI Hh)) hHs hk (fun j hj ⟨i, h1, h2, h3⟩ => absurd (ia (3 + j) i (by omega) (by omega) h3) (by omega))
      have hSl := keepO (ordM7 cs a 4 0 722 (aI Sl)) hSl hk (fun j hj ⟨i, h1, h2, h3⟩ => absurd (ia (4 + j) i (by omega) (by omega) h3) (by omega))
      have hKp := keepO (ordM7 cs a 5 2 2 (aI Kp)) hKp hk (fun j hj ⟨i, h1, h2, h3⟩ => absurd (ia (5 + j) i (by omega) (by omega) h3) (by omega))
      have hGo := keepO (ordM7 cs a 6 2 24 (aI Go)) hGo hk (fun j hj ⟨i, h1, h2, h3⟩ => absurd (ia (6 + j) i (by omega) (by omega) h3) (by omega))
      have hNt := keepO (ordM7 cs a 7 0 24 (aI Nt)) hNt hk (fun j hj ⟨i, h1, h2, h3⟩ => absurd (ia (7 + j) i (by omega) (by omega) h3) (by omega))
      have hTx := keepO (ordM7 cs a 8 3 60 (aI X)) hTx hk (fun j hj ⟨i, h1, h2, h3⟩ => absurd (ia (8 + j) i (by omega) (by omega) h3) (by omega))
      have hRd := keepO (ordM7 cs a 9 0 8 (cB Rd)) hRd hk (fun j hj ⟨i, h1, h2, h3⟩ => absurd (ia (9 + j) i (by omega) (by omega) h3) (by omega))
      have hRw : va_P G vwCl (m7 cs a 1 0 361 (aI (updZ Y (209 + 6 * z + 4) x))) H := hRw'
      refine lv_aload_n hx hb dX7_move_32 rfl (lv_at hl 0 rfl) ?_
      refine lv_iload_n hx hb dX7_move_33 rfl (lv_at hl 1 rfl) ?_
      refine z_iconst (n := 5) hx hb dX7_move_34 ?_
      refine lv_iload_n hx hb dX7_move_35 rfl (lv_at hl 3 rfl) ?_
      refine z_v (zrV (As := [.int (zI z), .int (zI 5), .int (zI y)]) (rest := []) (Pw := fun H => va_P G vwCl (moW cs a n tl rn) H ∧ va_P G vwCl (m7 cs a 1 0 361 (aI (updZ Y (209 + 6 * z + 4) x))) H) ⟨hx, hb, hml, hown, hts⟩ (c_X7_put l G cs a S (updZ Y (209 + 6 * z + 4) x) n tl rn z 5 y ia (by omega) (by omega)) gX7_move_X7_put rfl qX7_put rfl rfl ⟨Nat.le_of_ble_eq_true rfl, Nat.le_of_ble_eq_true rfl⟩ ⟨hMo, hRw⟩ hK (va_recv hK.1 hMo (ci := 7) (q0 := 0) rfl rfl) hl.1 rfl (Nat.le_of_ble_eq_true rfl) dX7_move_36 ⟨Nat.le_of_ble_eq_true rfl, Nat.le_of_ble_eq_true rfl⟩) hS (fun q h => ax_mono h (by decide) (by decide)) (fun q h => ax_mono h (by decide) (by decide)) (fun H locs hpost hle hk hS => ?_)
      have hRw' := hpost
      have hMo := keepO (ordMo cs a n tl rn) hMo hk (fun j hj ⟨i, h1, h2, h3⟩ => absurd (ia j i (by omega) (by omega) h3) (by omega))
      have hSc := keepO (ordM7 cs a 2 0 361 (aI (cpZ Z Y 361))) hSc hk (fun j hj ⟨i, h1, h2, h3⟩ => absurd (ia (2 + j) i (by omega) (by omega) h3) (by omega))
      have hHs := keepO (ordM7 cs a 3 0 1805 (aI Hh)) hHs hk (fun j hj ⟨i, h1, h2, h3⟩ => absurd (ia (3 + j) i (by omega) (by omega) h3) (by omega))
      have hSl := keepO (ordM7 cs a 4 0 722 (aI Sl)) hSl hk (fun j hj ⟨i, h1, h2, h3⟩ => absurd (ia (4 + j) i (by omega) (by omega) h3) (by omega))
      have hKp := keepO (ordM7 cs a 5 2 2 (aI Kp)) hKp hk (fun j hj ⟨i, h1, h2, h3⟩ => absurd (ia (5 + j) i (by omega) (by omega) h3) (by omega))
      have hGo := keepO (ordM7 cs a 6 2 24 (aI Go)) hGo hk (fun j hj ⟨i, h1, h2, h3⟩ => absurd (ia (6 + j) i (by omega) (by omega) h3) (by omega))
      have hNt := keepO (ordM7 cs a 7 0 24 (aI Nt)) hNt hk (fun j hj ⟨i, h1, h2, h3⟩ => absurd (ia (7 + j) i (by omega) (by omega) h3) (by omega))
      have hTx := keepO (ordM7 cs a 8 3 60 (aI X)) hTx hk (fun j hj ⟨i, h1, h2, h3⟩ => absurd (ia (8 + j) i (by omega) (by omega) h3) (by omega))
      have hRd := keepO (ordM7 cs a 9 0 8 (cB Rd)) hRd hk (fun j hj ⟨i, h1, h2, h3⟩ => absurd (ia (9 + j) i (by omega) (by omega) h3) (by omega))
      have hRw : va_P G vwCl (m7 cs a 1 0 361 (aI (updZ (updZ Y (209 + 6 * z + 4) x) (209 + 6 * z + 5) y))) H := hRw'
      refine lv_aload_n hx hb dX7_move_39 rfl (lv_at hl 0 rfl) ?_
      refine lv_aload_n hx hb dX7_move_40 rfl (lv_at hl 0 rfl) ?_
      refine lv_iload_n hx hb dX7_move_41 rfl (lv_at hl 1 rfl) ?_
      refine z_ro (zrV (As := [.int (zI z)]) (rest := [.ref (a 0)]) (Pw := fun H => va_P G vwCl (moW cs a n tl rn) H ∧ va_P G vwCl (m7 cs a 1 0 361 (aI (updZ (updZ Y (209 + 6 * z + 4) x) (209 + 6 * z + 5) y))) H) ⟨hx, hb, hml, hown, hts⟩ (c_X7_linesOf l G cs a (mvS S z x y) (updZ (updZ Y (209 + 6 * z + 4) x) (209 + 6 * z + 5) y) n tl rn z (wf_mv wf0 (by omega)) (rr_mv w0 w1 rr (by omega)) (show 0 ≤ z ∧ z < S 0 1 by omega)) gX7_move_X7_linesOf rfl qX7_linesOf rfl rfl ⟨Nat.le_of_ble_eq_true rfl, Nat.le_of_ble_eq_true rfl⟩ ⟨hMo, hRw⟩ hK (va_recv hK.1 hMo (ci := 7) (q0 := 0) rfl rfl) hl.1 rfl (Nat.le_of_ble_eq_true rfl) dX7_move_42 ⟨Nat.le_of_ble_eq_true rfl, Nat.le_of_ble_eq_true rfl⟩) ?_
      refine z_w (zrV (As := [.int (zI (cntI (isOver (mvS S z x y) z) 32))]) (rest := []) (Pw := fun H => va_P G vwCl (moW cs a n tl rn) H ∧ va_P G vwCl (m7 cs a 2 0 361 (aI (cpZ Z Y 361))) H ∧ va_P G vwCl (m7 cs a 3 0 1805 (aI Hh)) H) ⟨hx, hb, hml, hown, hts⟩ (c_X7_done l G cs a n tl rn Hh (cpZ Z Y 361) (cntI (isOver (mvS S z x y) z) 32) ia (by omega)) gX7_move_X7_done rfl qX7_done rfl rfl ⟨Nat.le_of_ble_eq_true rfl, Nat.le_of_ble_eq_true rfl⟩ ⟨hMo, hSc, hHs⟩ hK (va_recv hK.1 hMo (ci := 7) (q0 := 0) rfl rfl) hl.1 rfl (Nat.le_of_ble_eq_true rfl) dX7_move_45 ⟨Nat.le_of_ble_eq_true rfl, Nat.le_of_ble_eq_true rfl⟩) hS (fun q h => by rcases h with h | h <;> exact ax_mono h (by decide) (by decide)) (fun q h => by rcases h with h | h <;> exact ax_mono h (by decide) (by decide)) (fun v H locs hpost hle hk hS => ?_)
      obtain ⟨rfl, hMo', hHs'⟩ := hpost
      have hRw := keepO (ordM7 cs a 1 0 361 (aI (updZ (updZ Y (209 + 6 * z + 4) x) (209 + 6 * z + 5) y))) hRw hk (fun j hj h0 => by rcases h0 with ⟨i, h1, h2, h3⟩ | ⟨i, h1, h2, h3⟩ <;> exact absurd (ia (1 + j) i (by omega) (by omega) h3) (by omega))
      have hSc := keepO (ordM7 cs a 2 0 361 (aI (cpZ Z Y 361))) hSc hk (fun j hj h0 => by rcases h0 with ⟨i, h1, h2, h3⟩ | ⟨i, h1, h2, h3⟩ <;> exact absurd (ia (2 + j) i (by omega) (by omega) h3) (by omega))
      have hSl := keepO (ordM7 cs a 4 0 722 (aI Sl)) hSl hk (fun j hj h0 => by rcases h0 with ⟨i, h1, h2, h3⟩ | ⟨i, h1, h2, h3⟩ <;> exact absurd (ia (4 + j) i (by omega) (by omega) h3) (by omega))
      have hKp := keepO (ordM7 cs a 5 2 2 (aI Kp)) hKp hk (fun j hj h0 => by rcases h0 with ⟨i, h1, h2, h3⟩ | ⟨i, h1, h2, h3⟩ <;> exact absurd (ia (5 + j) i (by omega) (by omega) h3) (by omega))
      have hGo := keepO (ordM7 cs a 6 2 24 (aI Go)) hGo hk (fun j hj h0 => by rcases h0 with ⟨i, h1, h2, h3⟩ | ⟨i, h1, h2, h3⟩ <;> exact absurd (ia (6 + j) i (by omega) (by omega) h3) (by omega))
      have hNt := keepO (ordM7 cs a 7 0 24 (aI Nt)) hNt hk (fun j hj h0 => by rcases h0 with ⟨i, h1, h2, h3⟩ | ⟨i, h1, h2, h3⟩ <;> exact absurd (ia (7 + j) i (by omega) (by omega) h3) (by omega))
      have hTx := keepO (ordM7 cs a 8 3 60 (aI X)) hTx hk (fun j hj h0 => by rcases h0 with ⟨i, h1, h2, h3⟩ | ⟨i, h1, h2, h3⟩ <;> exact absurd (ia (8 + j) i (by omega) (by omega) h3) (by omega))
      have hRd := keepO (ordM7 cs a 9 0 8 (cB Rd)) hRd hk (fun j hj h0 => by rcases h0 with ⟨i, h1, h2, h3⟩ | ⟨i, h1, h2, h3⟩ <;> exact absurd (ia (9 + j) i (by omega) (by omega) h3) (by omega))
      have hMo : va_P G vwCl (moW cs a (remN n) tl rn) H := hMo'
      have hHs : va_P G vwCl (m7 cs a 3 0 1805 (aI (doneH n Hh (cpZ Z Y 361)))) H := hHs'
      exact w_iret hx hb hr hlk dX7_move_48 hS (by rw [show moveF (S, (n, L), (tl, X), (k, V)) z x y = _ from by unfold moveF; rw [if_neg (show ¬ (¬ (0 ≤ z ∧ z < S 0 1)) by omega), if_neg (show ¬ (¬ ((-7 ≤ x ∧ x ≤ 31) ∧ (-7 ≤ y ∧ y ≤ 31))) by omega)]]; exact ⟨rfl, ⟨updZ (updZ Y (209 + 6 * z + 4) x) (209 + 6 * z + 5) y, cpZ Z Y 361, doneH n Hh (cpZ Z Y 361), Sl, Kp, Go, Nt, rn, Rd, rr_mv (S := S) w0 w1 rr (by omega), (hr_done (S := S) wf0 hL9 hHR rr hn), hSR, hMo, hRw, hSc, hHs, hSl, hKp, hGo, hNt, hTx, hRd⟩⟩)
    · skip
      simp only [decide_eq_false_iff_not] at c2
      refine z_bipush (n := -2) hx hb dX7_move_18 (by decide) ?_
      exact w_iret hx hb hr hlk dX7_move_20 hS (by rw [show moveF (S, (n, L), (tl, X), (k, V)) z x y = _ from by unfold moveF; rw [if_neg (show ¬ (¬ (0 ≤ z ∧ z < S 0 1)) by omega), if_pos (show ¬ ((-7 ≤ x ∧ x ≤ 31) ∧ (-7 ≤ y ∧ y ≤ 31)) by omega)]]; exact ⟨rfl, ⟨Y, Z, Hh, Sl, Kp, Go, Nt, rn, Rd, rr, hHR, hSR, hMo, hRw, hSc, hHs, hSl, hKp, hGo, hNt, hTx, hRd⟩⟩)
  · skip
    simp only [decide_eq_true_eq] at c1
    refine z_iconst (n := -1) hx hb dX7_move_8 ?_
    exact w_iret hx hb hr hlk dX7_move_9 hS (by rw [show moveF (S, (n, L), (tl, X), (k, V)) z x y = _ from by unfold moveF; rw [if_pos (show ¬ (0 ≤ z ∧ z < S 0 1) by omega)]]; exact ⟨rfl, ⟨Y, Z, Hh, Sl, Kp, Go, Nt, rn, Rd, rr, hHR, hSR, hMo, hRw, hSc, hHs, hSl, hKp, hGo, hNt, hTx, hRd⟩⟩)

set_option maxHeartbeats 4000000 in
set_option maxRecDepth 100000 in
theorem c_X7_set (l : Launch) (G : va_G) (cs : Nat → ClassId) (a : Nat → Nat) (S : SS) (n : Int) (L : Nat → SS) (tl : Int) (X : Int → Int) (k : Nat → Bool) (V : Nat → SS) (z t v : Int) (ia : Inj a 10) (hA : AWF (S, (n, L), (tl, X), (k, V))) (r_z : -2147483648 ≤ z ∧ z < 2147483648) (r_t : -2147483648 ≤ t ∧ t < 2147483648) (r_v : -2147483648 ≤ v ∧ v < 2147483648) : MW l yX7_set wsX7_set { frames := 2, cells := 0, slots := 0, locals := 43 } G cs [.ref (a 0), .int (zI z), .int (zI t), .int (zI v)] (fun H => MI G cs a (S, (n, L), (tl, X), (k, V)) H) (fun vv H => vv = .int (zI (setF (S, (n, L), (tl, X), (k, V)) z t v).1) ∧ MI G cs a (setF (S, (n, L), (tl, X), (k, V)) z t v).2 H) (AX a 0 10) 0 0 := by
  refine m_intro (Pw := (fun H => MI G cs a (S, (n, L), (tl, X), (k, V)) H)) (cc := cX7_set) (maxL := 5) (ret := some .int) RX7 (by decide) rfl rfl (Nat.le_of_ble_eq_true rfl) ?_
  intro pP eE sS mM below meth cC hx hb hr hts hown hml hlk hnm hPre hK ls hl
  have hl : lv_has ls 5 [(0, .ref (a 0)), (1, .int (zI z)), (2, .int (zI t)), (3, .int (zI v))] := hl
  have hMI := hPre
  have hS : va_S (AX a 0 10) sS.heap sS.heap [] := va_S.rf
  have hi7 : ∀ w ∈ u_ws RX7 TX7 12, w ∈ wsX7_set := by decide +kernel
  obtain ⟨Y, Z, Hh, Sl, Kp, Go, Nt, rn, Rd, rr, hHR, hSR, hMo, hRw, hSc, hHs, hSl, hKp, hGo, hNt, hTx, hRd⟩ := hMI
  obtain ⟨wf, ⟨hn, hL9⟩, ⟨htl, hX⟩, hV9⟩ := hA
  have wf : WF S := wf
  have hn : 0 ≤ n ∧ n ≤ 5 := hn
  have htl : 0 ≤ tl ∧ tl ≤ 60 := htl
  have hX : ∀ j, 0 ≤ j → j < 60 → 0 ≤ X j ∧ X j < 65536 := hX
  have rr : RR S Y := rr
  have hHR : HR n L Hh := hHR
  have hSR : SR k V Kp Sl := hSR
  have hL9 : ∀ i : Nat, (i : Int) < n → WF (L i) := hL9
  have hV9 : ∀ s : Nat, s < 2 → k s = true → WF (V s) := hV9
  have hMo : va_P G vwCl (moW cs a n tl rn) sS.heap := hMo
  have hRw : va_P G vwCl (m7 cs a 1 0 361 (aI Y)) sS.heap := hRw
  have hSc : va_P G vwCl (m7 cs a 2 0 361 (aI Z)) sS.heap := hSc
  have hHs : va_P G vwCl (m7 cs a 3 0 1805 (aI Hh)) sS.heap := hHs
  have hSl : va_P G vwCl (m7 cs a 4 0 722 (aI Sl)) sS.heap := hSl
  have hKp : va_P G vwCl (m7 cs a 5 2 2 (aI Kp)) sS.heap := hKp
  have hGo : va_P G vwCl (m7 cs a 6 2 24 (aI Go)) sS.heap := hGo
  have hNt : va_P G vwCl (m7 cs a 7 0 24 (aI Nt)) sS.heap := hNt
  have hTx : va_P G vwCl (m7 cs a 8 3 60 (aI X)) sS.heap := hTx
  have hRd : va_P G vwCl (m7 cs a 9 0 8 (cB Rd)) sS.heap := hRd
  have wf0 := wf
  obtain ⟨w0, w1, w2, w3, w4, wP, wC, wS, wX⟩ := wf
  refine lv_aload_n hx hb dX7_set_0 rfl (lv_at hl 0 rfl) ?_
  refine lv_iload_n hx hb dX7_set_1 rfl (lv_at hl 1 rfl) ?_
  refine z_ro (zrV (As := [.int (zI z)]) (rest := []) (Pw := fun H => va_P G vwCl (moW cs a n tl rn) H ∧ va_P G vwCl (m7 cs a 1 0 361 (aI Y)) H) ⟨hx, hb, hml, hown, hts⟩ (c_X7_noSprite l G cs a S Y n tl rn z wf0 rr (by omega)) gX7_set_X7_noSprite rfl qX7_noSprite rfl rfl ⟨Nat.le_of_ble_eq_true rfl, Nat.le_of_ble_eq_true rfl⟩ ⟨hMo, hRw⟩ hK (va_recv hK.1 hMo (ci := 7) (q0 := 0) rfl rfl) hl.1 rfl (Nat.le_of_ble_eq_true rfl) dX7_set_2 ⟨Nat.le_of_ble_eq_true rfl, Nat.le_of_ble_eq_true rfl⟩) ?_
  refine z_bif_eq (tgt := 10) hx hb dX7_set_5 (by decide) (fun c1 => ?_) (fun c1 => ?_)
  · skip
    simp only [decide_eq_false_iff_not] at c1
    refine lv_iload_n hx hb dX7_set_10 rfl (lv_at hl 2 rfl) ?_
    refine z_iconst (n := 0) hx hb dX7_set_11 ?_
    refine z_iconst (n := 3) hx hb dX7_set_12 ?_
    refine z_ro (zrS (As := [.int (zI t), .int (zI 0), .int (zI 3)]) (rest := []) (Pw := fun _ => True) ⟨hx, hb, hml, hown, hts⟩ (c_X7_in l G cs t 0 3 (by omega) (by omega) (by omega)) gX7_set_X7_in rfl qX7_in rfl rfl ⟨Nat.le_of_ble_eq_true rfl, Nat.le_of_ble_eq_true rfl⟩ trivial hK hl.1 rfl (Nat.le_of_ble_eq_true rfl) dX7_set_13 ⟨Nat.le_of_ble_eq_true rfl, Nat.le_of_ble_eq_true rfl⟩) ?_
    refine z_bif_eq (tgt := 52) hx hb dX7_set_16 (by decide) (fun c2 => ?_) (fun c2 => ?_)
    · skip
      simp only [decide_eq_false_iff_not] at c2
      refine z_bipush (n := -2) hx hb dX7_set_52 (by decide) ?_
      exact w_iret hx hb hr hlk dX7_set_54 hS (by rw [show setF (S, (n, L), (tl, X), (k, V)) z t v = _ from by unfold setF; rw [if_neg (show ¬ (¬ (0 ≤ z ∧ z < S 0 1)) by omega), if_pos (show ¬ (0 ≤ v ∧ v < valsF S t) by unfold valsF; (repeat' split) <;> omega)]]; exact ⟨rfl, ⟨Y, Z, Hh, Sl, Kp, Go, Nt, rn, Rd, rr, hHR, hSR, hMo, hRw, hSc, hHs, hSl, hKp, hGo, hNt, hTx, hRd⟩⟩)
    · skip
      simp only [decide_eq_true_eq] at c2
      refine lv_iload_n hx hb dX7_set_19 rfl (lv_at hl 3 rfl) ?_
      refine z_iconst (n := 0) hx hb dX7_set_20 ?_
      refine lv_iload_n hx hb dX7_set_21 rfl (lv_at hl 2 rfl) ?_
      refine z_if_ne (tgt := 36) hx hb dX7_set_22 (by decide) (by omega) (fun c1 => ?_) (fun c1 => ?_)
      · skip
        refine lv_iload_n hx hb dX7_set_36 rfl (lv_at hl 2 rfl) ?_
        refine z_iconst (n := 3) hx hb dX7_set_37 ?_
        refine z_icmp_ne (tgt := 45) hx hb dX7_set_38 (by decide) (by omega) (by omega) (fun c2 => ?_) (fun c2 => ?_)
        · skip
          refine z_iconst (n := 3) hx hb dX7_set_45 ?_
          refine z_ro (zrS (As := [.int (zI v), .int (zI 0), .int (zI 3)]) (rest := []) (Pw := fun _ => True) ⟨hx, hb, hml, hown, hts⟩ (c_X7_in l G cs v 0 3 (by omega) (by omega) (by omega)) gX7_set_X7_in rfl qX7_in rfl rfl ⟨Nat.le_of_ble_eq_true rfl, Nat.le_of_ble_eq_true rfl⟩ trivial hK hl.1 rfl (Nat.le_of_ble_eq_true rfl) dX7_set_46 ⟨Nat.le_of_ble_eq_true rfl, Nat.le_of_ble_eq_true rfl⟩) ?_
          refine z_bif_ne (tgt := 55) hx hb dX7_set_49 (by decide) (fun c3 => ?_) (fun c3 => ?_)
          · skip
            simp only [decide_eq_true_eq] at c3
            refine lv_aload_n hx hb dX7_set_55 rfl (lv_at hl 0 rfl) ?_
            refine z_v (zrV (As := []) (rest := []) (Pw := fun H => va_P G vwCl (moW cs a n tl rn) H ∧ va_P G vwCl (m7 cs a 1 0 361 (aI Y)) H ∧ va_P G vwCl (m7 cs a 2 0 361 (aI Z)) H) ⟨hx, hb, hml, hown, hts⟩ (c_X7_begin l G cs a Y Z n tl rn ia) gX7_set_X7_begin rfl qX7_begin rfl rfl ⟨Nat.le_of_ble_eq_true rfl, Nat.le_of_ble_eq_true rfl⟩ ⟨hMo, hRw, hSc⟩ hK (va_recv hK.1 hMo (ci := 7) (q0 := 0) rfl rfl) hl.1 rfl (Nat.le_of_ble_eq_true rfl) dX7_set_56 ⟨Nat.le_of_ble_eq_true rfl, Nat.le_of_ble_eq_true rfl⟩) hS (fun q h => ax_mono h (by decide) (by decide)) (fun q h => ax_mono h (by decide) (by decide)) (fun H locs hpost hle hk hS => ?_)
            have hSc' := hpost
            have hMo := keepO (ordMo cs a n tl rn) hMo hk (fun j hj ⟨i, h1, h2, h3⟩ => absurd (ia j i (by omega) (by omega) h3) (by omega))
            have hRw := keepO (ordM7 cs a 1 0 361 (aI Y)) hRw hk (fun j hj ⟨i, h1, h2, h3⟩ => absurd (ia (1 + j) i (by omega) (by omega) h3) (by omega))
            have hHs := keepO (ordM7 cs a 3 0 1805 (aI Hh)) hHs hk (fun j hj ⟨i, h1, h2, h3⟩ => absurd (ia (3 + j) i (by omega) (by omega) h3) (by omega))
            have hSl := keepO (ordM7 cs a 4 0 722 (aI Sl)) hSl hk (fun j hj ⟨i, h1, h2, h3⟩ => absurd (ia (4 + j) i (by omega) (by omega) h3) (by omega))
            have hKp := keepO (ordM7 cs a 5 2 2 (aI Kp)) hKp hk (fun j hj ⟨i, h1, h2, h3⟩ => absurd (ia (5 + j) i (by omega) (by omega) h3) (by omega))
            have hGo := keepO (ordM7 cs a 6 2 24 (aI Go)) hGo hk (fun j hj ⟨i, h1, h2, h3⟩ => absurd (ia (6 + j) i (by omega) (by omega) h3) (by omega))
            have hNt := keepO (ordM7 cs a 7 0 24 (aI Nt)) hNt hk (fun j hj ⟨i, h1, h2, h3⟩ => absurd (ia (7 + j) i (by omega) (by omega) h3) (by omega))
            have hTx := keepO (ordM7 cs a 8 3 60 (aI X)) hTx hk (fun j hj ⟨i, h1, h2, h3⟩ => absurd (ia (8 + j) i (by omega) (by omega) h3) (by omega))
            have hRd := keepO (ordM7 cs a 9 0 8 (cB Rd)) hRd hk (fun j hj ⟨i, h1, h2, h3⟩ => absurd (ia (9 + j) i (by omega) (by omega) h3) (by omega))
            have hSc : va_P G vwCl (m7 cs a 2 0 361 (aI (cpZ Z Y 361))) H := hSc'
            refine lv_aload_n hx hb dX7_set_59 rfl (lv_at hl 0 rfl) ?_
            refine lv_iload_n hx hb dX7_set_60 rfl (lv_at hl 1 rfl) ?_
            refine lv_iload_n hx hb dX7_set_61 rfl (lv_at hl 2 rfl) ?_
            refine z_ro (zrV (As := [.int (zI z), .int (zI t)]) (rest := []) (Pw := fun H => va_P G vwCl (moW cs a n tl rn) H ∧ va_P G vwCl (m7 cs a 1 0 361 (aI Y)) H) ⟨hx, hb, hml, hown, hts⟩ (c_X7_of l G cs a S Y n tl rn z t wf0 rr (by omega) (by omega)) gX7_set_X7_of rfl qX7_of rfl rfl ⟨Nat.le_of_ble_eq_true rfl, Nat.le_of_ble_eq_true rfl⟩ ⟨hMo, hRw⟩ hK (va_recv hK.1 hMo (ci := 7) (q0 := 0) rfl rfl) hl.1 rfl (Nat.le_of_ble_eq_true rfl) dX7_set_62 ⟨Nat.le_of_ble_eq_true rfl, Nat.le_of_ble_eq_true rfl⟩) ?_
            refine lv_istore (lv' := [(4, .int (zI (S 1 (6 * z + t)))), (0, .ref (a 0)), (1, .int (zI z)), (2, .int (zI t)), (3, .int (zI v))]) hx hb dX7_set_65 hl (by decide) rfl (fun ls hl => ?_)
            refine lv_aload_n hx hb dX7_set_67 rfl (lv_at hl 1 rfl) ?_
            refine lv_iload_n hx hb dX7_set_68 rfl (lv_at hl 2 rfl) ?_
            refine lv_iload_n hx hb dX7_set_69 rfl (lv_at hl 3 rfl) ?_
            refine lv_iload_n hx hb dX7_set_70 rfl (lv_at hl 4 rfl) ?_
            refine z_v (zrV (As := [.int (zI z), .int (zI t), .int (zI v)]) (rest := []) (Pw := fun H => va_P G vwCl (moW cs a n tl rn) H ∧ va_P G vwCl (m7 cs a 1 0 361 (aI Y)) H) ⟨hx, hb, hml, hown, hts⟩ (c_X7_put l G cs a S Y n tl rn z t v ia (by omega) (by omega)) gX7_set_X7_put rfl qX7_put rfl rfl ⟨Nat.le_of_ble_eq_true rfl, Nat.le_of_ble_eq_true rfl⟩ ⟨hMo, hRw⟩ hK (va_recv hK.1 hMo (ci := 7) (q0 := 0) rfl rfl) hl.1 rfl (Nat.le_of_ble_eq_true rfl) dX7_set_71 ⟨Nat.le_of_ble_eq_true rfl, Nat.le_of_ble_eq_true rfl⟩) hS (fun q h => ax_mono h (by decide) (by decide)) (fun q h => ax_mono h (by decide) (by decide)) (fun H locs hpost hle hk hS => ?_)
            have hRw' := hpost
            have hMo := keepO (ordMo cs a n tl rn) hMo hk (fun j hj ⟨i, h1, h2, h3⟩ => absurd (ia j i (by omega) (by omega) h3) (by omega))
            have hSc := keepO (ordM7 cs a 2 0 361 (aI (cpZ Z Y 361))) hSc hk (fun j hj ⟨i, h1, h2, h3⟩ => absurd (ia (2 + j) i (by omega) (by omega) h3) (by omega))
            have hHs := keepO (ordM7 cs a 3 0 1805 (aI Hh)) hHs hk (fun j hj ⟨i, h1, h2, h3⟩ => absurd (ia (3 + j) i (by omega) (by omega) h3) (by omega))
            have hSl := keepO (ordM7 cs a 4 0 722 (aI Sl)) hSl hk (fun j hj ⟨i, h1, h2, h3⟩ => absurd (ia (4 + j) i (by omega) (by omega) h3) (by omega))
            have hKp := keepO (ordM7 cs a 5 2 2 (aI Kp)) hKp hk (fun j hj ⟨i, h1, h2, h3⟩ => absurd (ia (5 + j) i (by omega) (by omega) h3) (by omega))
            have hGo := keepO (ordM7 cs a 6 2 24 (aI Go)) hGo hk (fun j hj ⟨i, h1, h2, h3⟩ => absurd (ia (6 + j) i (by omega) (by omega) h3) (by omega))
            have hNt := keepO (ordM7 cs a 7 0 24 (aI Nt)) hNt hk (fun j hj ⟨i, h1, h2, h3⟩ => absurd (ia (7 + j) i (by omega) (by omega) h3) (by omega))
            have hTx := keepO (ordM7 cs a 8 3 60 (aI X)) hTx hk (fun j hj ⟨i, h1, h2, h3⟩ => absurd (ia (8 + j) i (by omega) (by omega) h3) (by omega))
            have hRd := keepO (ordM7 cs a 9 0 8 (cB Rd)) hRd hk (fun j hj ⟨i, h1, h2, h3⟩ => absurd (ia (9 + j) i (by omega) (by omega) h3) (by omega))
            have hRw : va_P G vwCl (m7 cs a 1 0 361 (aI (updZ Y (209 + 6 * z + t) v))) H := hRw'
            refine lv_aload_n hx hb dX7_set_74 rfl (lv_at hl 1 rfl) ?_
            refine lv_iload hx hb dX7_set_75 (lv_at hl 0 rfl) ?_
            refine z_w (zrV (As := [.int (zI (S 1 (6 * z + t)))]) (rest := []) (Pw := fun H => va_P G vwCl (moW cs a n tl rn) H ∧ va_P G vwCl (m7 cs a 2 0 361 (aI (cpZ Z Y 361))) H ∧ va_P G vwCl (m7 cs a 3 0 1805 (aI Hh)) H) ⟨hx, hb, hml, hown, hts⟩ (c_X7_done l G cs a n tl rn Hh (cpZ Z Y 361) (S 1 (6 * z + t)) ia (by omega)) gX7_set_X7_done rfl qX7_done rfl rfl ⟨Nat.le_of_ble_eq_true rfl, Nat.le_of_ble_eq_true rfl⟩ ⟨hMo, hSc, hHs⟩ hK (va_recv hK.1 hMo (ci := 7) (q0 := 0) rfl rfl) hl.1 rfl (Nat.le_of_ble_eq_true rfl) dX7_set_77 ⟨Nat.le_of_ble_eq_true rfl, Nat.le_of_ble_eq_true rfl⟩) hS (fun q h => by rcases h with h | h <;> exact ax_mono h (by decide) (by decide)) (fun q h => by rcases h with h | h <;> exact ax_mono h (by decide) (by decide)) (fun v H locs hpost hle hk hS => ?_)
            obtain ⟨rfl, hMo', hHs'⟩ := hpost
            have hRw := keepO (ordM7 cs a 1 0 361 (aI (updZ Y (209 + 6 * z + t) v))) hRw hk (fun j hj h0 => by rcases h0 with ⟨i, h1, h2, h3⟩ | ⟨i, h1, h2, h3⟩ <;> exact absurd (ia (1 + j) i (by omega) (by omega) h3) (by omega))
            have hSc := keepO (ordM7 cs a 2 0 361 (aI (cpZ Z Y 361))) hSc hk (fun j hj h0 => by rcases h0 with ⟨i, h1, h2, h3⟩ | ⟨i, h1, h2, h3⟩ <;> exact absurd (ia (2 + j) i (by omega) (by omega) h3) (by omega))
            have hSl := keepO (ordM7 cs a 4 0 722 (aI Sl)) hSl hk (fun j hj h0 => by rcases h0 with ⟨i, h1, h2, h3⟩ | ⟨i, h1, h2, h3⟩ <;> exact absurd (ia (4 + j) i (by omega) (by omega) h3) (by omega))
            have hKp := keepO (ordM7 cs a 5 2 2 (aI Kp)) hKp hk (fun j hj h0 => by rcases h0 with ⟨i, h1, h2, h3⟩ | ⟨i, h1, h2, h3⟩ <;> exact absurd (ia (5 + j) i (by omega) (by omega) h3) (by omega))
            have hGo := keepO (ordM7 cs a 6 2 24 (aI Go)) hGo hk (fun j hj h0 => by rcases h0 with ⟨i, h1, h2, h3⟩ | ⟨i, h1, h2, h3⟩ <;> exact absurd (ia (6 + j) i (by omega) (by omega) h3) (by omega))
            have hNt := keepO (ordM7 cs a 7 0 24 (aI Nt)) hNt hk (fun j hj h0 => by rcases h0 with ⟨i, h1, h2, h3⟩ | ⟨i, h1, h2, h3⟩ <;> exact absurd (ia (7 + j) i (by omega) (by omega) h3) (by omega))
            have hTx := keepO (ordM7 cs a 8 3 60 (aI X)) hTx hk (fun j hj h0 => by rcases h0 with ⟨i, h1, h2, h3⟩ | ⟨i, h1, h2, h3⟩ <;> exact absurd (ia (8 + j) i (by omega) (by omega) h3) (by omega))
            have hRd := keepO (ordM7 cs a 9 0 8 (cB Rd)) hRd hk (fun j hj h0 => by rcases h0 with ⟨i, h1, h2, h3⟩ | ⟨i, h1, h2, h3⟩ <;> exact absurd (ia (9 + j) i (by omega) (by omega) h3) (by omega))
            have hMo : va_P G vwCl (moW cs a (remN n) tl rn) H := hMo'
            have hHs : va_P G vwCl (m7 cs a 3 0 1805 (aI (doneH n Hh (cpZ Z Y 361)))) H := hHs'
            exact w_iret hx hb hr hlk dX7_set_80 hS (by rw [show setF (S, (n, L), (tl, X), (k, V)) z t v = _ from by unfold setF; rw [if_neg (show ¬ (¬ (0 ≤ z ∧ z < S 0 1)) by omega), if_neg (show ¬ ¬ (0 ≤ v ∧ v < valsF S t) by unfold valsF; (repeat' split) <;> omega)]]; exact ⟨rfl, ⟨updZ Y (209 + 6 * z + t) v, cpZ Z Y 361, doneH n Hh (cpZ Z Y 361), Sl, Kp, Go, Nt, rn, Rd, rr_prop (S := S) w0 w1 rr (by omega) (by omega), (hr_done (S := S) wf0 hL9 hHR rr hn), hSR, hMo, hRw, hSc, hHs, hSl, hKp, hGo, hNt, hTx, hRd⟩⟩)
          · skip
            simp only [decide_eq_false_iff_not] at c3
            refine z_bipush (n := -2) hx hb dX7_set_52 (by decide) ?_
            exact w_iret hx hb hr hlk dX7_set_54 hS (by rw [show setF (S, (n, L), (tl, X), (k, V)) z t v = _ from by unfold setF; rw [if_neg (show ¬ (¬ (0 ≤ z ∧ z < S 0 1)) by omega), if_pos (show ¬ (0 ≤ v ∧ v < valsF S t) by unfold valsF; (repeat' split) <;> omega)]]; exact ⟨rfl, ⟨Y, Z, Hh, Sl, Kp, Go, Nt, rn, Rd, rr, hHR, hSR, hMo, hRw, hSc, hHs, hSl, hKp, hGo, hNt, hTx, hRd⟩⟩)
        · skip
          refine z_iconst (n := 1) hx hb dX7_set_41 ?_
          refine lv_goto (tgt := 46) hx hb dX7_set_42 (by decide) ?_
          refine z_ro (zrS (As := [.int (zI v), .int (zI 0), .int (zI 1)]) (rest := []) (Pw := fun _ => True) ⟨hx, hb, hml, hown, hts⟩ (c_X7_in l G cs v 0 1 (by omega) (by omega) (by omega)) gX7_set_X7_in rfl qX7_in rfl rfl ⟨Nat.le_of_ble_eq_true rfl, Nat.le_of_ble_eq_true rfl⟩ trivial hK hl.1 rfl (Nat.le_of_ble_eq_true rfl) dX7_set_46 ⟨Nat.le_of_ble_eq_true rfl, Nat.le_of_ble_eq_true rfl⟩) ?_
          refine z_bif_ne (tgt := 55) hx hb dX7_set_49 (by decide) (fun c3 => ?_) (fun c3 => ?_)
          · skip
            simp only [decide_eq_true_eq] at c3
            refine lv_aload_n hx hb dX7_set_55 rfl (lv_at hl 0 rfl) ?_
            refine z_v (zrV (As := []) (rest := []) (Pw := fun H => va_P G vwCl (moW cs a n tl rn) H ∧ va_P G vwCl (m7 cs a 1 0 361 (aI Y)) H ∧ va_P G vwCl (m7 cs a 2 0 361 (aI Z)) H) ⟨hx, hb, hml, hown, hts⟩ (c_X7_begin l G cs a Y Z n tl rn ia) gX7_set_X7_begin rfl qX7_begin rfl rfl ⟨Nat.le_of_ble_eq_true rfl, Nat.le_of_ble_eq_true rfl⟩ ⟨hMo, hRw, hSc⟩ hK (va_recv hK.1 hMo (ci := 7) (q0 := 0) rfl rfl) hl.1 rfl (Nat.le_of_ble_eq_true rfl) dX7_set_56 ⟨Nat.le_of_ble_eq_true rfl, Nat.le_of_ble_eq_true rfl⟩) hS (fun q h => ax_mono h (by decide) (by decide)) (fun q h => ax_mono h (by decide) (by decide)) (fun H locs hpost hle hk hS => ?_)
            have hSc' := hpost
            have hMo := keepO (ordMo cs a n tl rn) hMo hk (fun j hj ⟨i, h1, h2, h3⟩ => absurd (ia j i (by omega) (by omega) h3) (by omega))
            have hRw := keepO (ordM7 cs a 1 0 361 (aI Y)) hRw hk (fun j hj ⟨i, h1, h2, h3⟩ => absurd (ia (1 + j) i (by omega) (by omega) h3) (by omega))
            have hHs := keepO (ordM7 cs a 3 0 1805 (aI Hh)) hHs hk (fun j hj ⟨i, h1, h2, h3⟩ => absurd (ia (3 + j) i (by omega) (by omega) h3) (by omega))
            have hSl := keepO (ordM7 cs a 4 0 722 (aI Sl)) hSl hk (fun j hj ⟨i, h1, h2, h3⟩ => absurd (ia (4 + j) i (by omega) (by omega) h3) (by omega))
            have hKp := keepO (ordM7 cs a 5 2 2 (aI Kp)) hKp hk (fun j hj ⟨i, h1, h2, h3⟩ => absurd (ia (5 + j) i (by omega) (by omega) h3) (by omega))
            have hGo := keepO (ordM7 cs a 6 2 24 (aI Go)) hGo hk (fun j hj ⟨i, h1, h2, h3⟩ => absurd (ia (6 + j) i (by omega) (by omega) h3) (by omega))
            have hNt := keepO (ordM7 cs a 7 0 24 (aI Nt)) hNt hk (fun j hj ⟨i, h1, h2, h3⟩ => absurd (ia (7 + j) i (by omega) (by omega) h3) (by omega))
            have hTx := keepO (ordM7 cs a 8 3 60 (aI X)) hTx hk (fun j hj ⟨i, h1, h2, h3⟩ => absurd (ia (8 + j) i (by omega) (by omega) h3) (by omega))
            have hRd := keepO (ordM7 cs a 9 0 8 (cB Rd)) hRd hk (fun j hj ⟨i, h1, h2, h3⟩ => absurd (ia (9 + j) i (by omega) (by omega) h3) (by omega))
            have hSc : va_P G vwCl (m7 cs a 2 0 361 (aI (cpZ Z Y 361))) H := hSc'
            refine lv_aload_n hx hb dX7_set_59 rfl (lv_at hl 0 rfl) ?_
            refine lv_iload_n hx hb dX7_set_60 rfl (lv_at hl 1 rfl) ?_
            refine lv_iload_n hx hb dX7_set_61 rfl (lv_at hl 2 rfl) ?_
            refine z_ro (zrV (As := [.int (zI z), .int (zI t)]) (rest := []) (Pw := fun H => va_P G vwCl (moW cs a n tl rn) H ∧ va_P G vwCl (m7 cs a 1 0 361 (aI Y)) H) ⟨hx, hb, hml, hown, hts⟩ (c_X7_of l G cs a S Y n tl rn z t wf0 rr (by omega) (by omega)) gX7_set_X7_of rfl qX7_of rfl rfl ⟨Nat.le_of_ble_eq_true rfl, Nat.le_of_ble_eq_true rfl⟩ ⟨hMo, hRw⟩ hK (va_recv hK.1 hMo (ci := 7) (q0 := 0) rfl rfl) hl.1 rfl (Nat.le_of_ble_eq_true rfl) dX7_set_62 ⟨Nat.le_of_ble_eq_true rfl, Nat.le_of_ble_eq_true rfl⟩) ?_
            refine lv_istore (lv' := [(4, .int (zI (S 1 (6 * z + t)))), (0, .ref (a 0)), (1, .int (zI z)), (2, .int (zI t)), (3, .int (zI v))]) hx hb dX7_set_65 hl (by decide) rfl (fun ls hl => ?_)
            refine lv_aload_n hx hb dX7_set_67 rfl (lv_at hl 1 rfl) ?_
            refine lv_iload_n hx hb dX7_set_68 rfl (lv_at hl 2 rfl) ?_
            refine lv_iload_n hx hb dX7_set_69 rfl (lv_at hl 3 rfl) ?_
            refine lv_iload_n hx hb dX7_set_70 rfl (lv_at hl 4 rfl) ?_
            refine z_v (zrV (As := [.int (zI z), .int (zI t), .int (zI v)]) (rest := []) (Pw := fun H => va_P G vwCl (moW cs a n tl rn) H ∧ va_P G vwCl (m7 cs a 1 0 361 (aI Y)) H) ⟨hx, hb, hml, hown, hts⟩ (c_X7_put l G cs a S Y n tl rn z t v ia (by omega) (by omega)) gX7_set_X7_put rfl qX7_put rfl rfl ⟨Nat.le_of_ble_eq_true rfl, Nat.le_of_ble_eq_true rfl⟩ ⟨hMo, hRw⟩ hK (va_recv hK.1 hMo (ci := 7) (q0 := 0) rfl rfl) hl.1 rfl (Nat.le_of_ble_eq_true rfl) dX7_set_71 ⟨Nat.le_of_ble_eq_true rfl, Nat.le_of_ble_eq_true rfl⟩) hS (fun q h => ax_mono h (by decide) (by decide)) (fun q h => ax_mono h (by decide) (by decide)) (fun H locs hpost hle hk hS => ?_)
            have hRw' := hpost
            have hMo := keepO (ordMo cs a n tl rn) hMo hk (fun j hj ⟨i, h1, h2, h3⟩ => absurd (ia j i (by omega) (by omega) h3) (by omega))
            have hSc := keepO (ordM7 cs a 2 0 361 (aI (cpZ Z Y 361))) hSc hk (fun j hj ⟨i, h1, h2, h3⟩ => absurd (ia (2 + j) i (by omega) (by omega) h3) (by omega))
            have hHs := keepO (ordM7 cs a 3 0 1805 (aI Hh)) hHs hk (fun j hj ⟨i, h1, h2, h3⟩ => absurd (ia (3 + j) i (by omega) (by omega) h3) (by omega))
            have hSl := keepO (ordM7 cs a 4 0 722 (aI Sl)) hSl hk (fun j hj ⟨i, h1, h2, h3⟩ => absurd (ia (4 + j) i (by omega) (by omega) h3) (by omega))
            have hKp := keepO (ordM7 cs a 5 2 2 (aI Kp)) hKp hk (fun j hj ⟨i, h1, h2, h3⟩ => absurd (ia (5 + j) i (by omega) (by omega) h3) (by omega))
            have hGo := keepO (ordM7 cs a 6 2 24 (aI Go)) hGo hk (fun j hj ⟨i, h1, h2, h3⟩ => absurd (ia (6 + j) i (by omega) (by omega) h3) (by omega))
            have hNt := keepO (ordM7 cs a 7 0 24 (aI Nt)) hNt hk (fun j hj ⟨i, h1, h2, h3⟩ => absurd (ia (7 + j) i (by omega) (by omega) h3) (by omega))
            have hTx := keepO (ordM7 cs a 8 3 60 (aI X)) hTx hk (fun j hj ⟨i, h1, h2, h3⟩ => absurd (ia (8 + j) i (by omega) (by omega) h3) (by omega))
            have hRd := keepO (ordM7 cs a 9 0 8 (cB Rd)) hRd hk (fun j hj ⟨i, h1, h2, h3⟩ => absurd (ia (9 + j) i (by omega) (by omega) h3) (by omega))
            have hRw : va_P G vwCl (m7 cs a 1 0 361 (aI (updZ Y (209 + 6 * z + t) v))) H := hRw'
            refine lv_aload_n hx hb dX7_set_74 rfl (lv_at hl 1 rfl) ?_
            refine lv_iload hx hb dX7_set_75 (lv_at hl 0 rfl) ?_
            refine z_w (zrV (As := [.int (zI (S 1 (6 * z + t)))]) (rest := []) (Pw := fun H => va_P G vwCl (moW cs a n tl rn) H ∧ va_P G vwCl (m7 cs a 2 0 361 (aI (cpZ Z Y 361))) H ∧ va_P G vwCl (m7 cs a 3 0 1805 (aI Hh)) H) ⟨hx, hb, hml, hown, hts⟩ (c_X7_done l G cs a n tl rn Hh (cpZ Z Y 361) (S 1 (6 * z + t)) ia (by omega)) gX7_set_X7_done rfl qX7_done rfl rfl ⟨Nat.le_of_ble_eq_true rfl, Nat.le_of_ble_eq_true rfl⟩ ⟨hMo, hSc, hHs⟩ hK (va_recv hK.1 hMo (ci := 7) (q0 := 0) rfl rfl) hl.1 rfl (Nat.le_of_ble_eq_true rfl) dX7_set_77 ⟨Nat.le_of_ble_eq_true rfl, Nat.le_of_ble_eq_true rfl⟩) hS (fun q h => by rcases h with h | h <;> exact ax_mono h (by decide) (by decide)) (fun q h => by rcases h with h | h <;> exact ax_mono h (by decide) (by decide)) (fun v H locs hpost hle hk hS => ?_)
            obtain ⟨rfl, hMo', hHs'⟩ := hpost
            have hRw := keepO (ordM7 cs a 1 0 361 (aI (updZ Y (209 + 6 * z + t) v))) hRw hk (fun j hj h0 => by rcases h0 with ⟨i, h1, h2, h3⟩ | ⟨i, h1, h2, h3⟩ <;> exact absurd (ia (1 + j) i (by omega) (by omega) h3) (by omega))
            have hSc := keepO (ordM7 cs a 2 0 361 (aI (cpZ Z Y 361))) hSc hk (fun j hj h0 => by rcases h0 with ⟨i, h1, h2, h3⟩ | ⟨i, h1, h2, h3⟩ <;> exact absurd (ia (2 + j) i (by omega) (by omega) h3) (by omega))
            have hSl := keepO (ordM7 cs a 4 0 722 (aI Sl)) hSl hk (fun j hj h0 => by rcases h0 with ⟨i, h1, h2, h3⟩ | ⟨i, h1, h2, h3⟩ <;> exact absurd (ia (4 + j) i (by omega) (by omega) h3) (by omega))
            have hKp := keepO (ordM7 cs a 5 2 2 (aI Kp)) hKp hk (fun j hj h0 => by rcases h0 with ⟨i, h1, h2, h3⟩ | ⟨i, h1, h2, h3⟩ <;> exact absurd (ia (5 + j) i (by omega) (by omega) h3) (by omega))
            have hGo := keepO (ordM7 cs a 6 2 24 (aI Go)) hGo hk (fun j hj h0 => by rcases h0 with ⟨i, h1, h2, h3⟩ | ⟨i, h1, h2, h3⟩ <;> exact absurd (ia (6 + j) i (by omega) (by omega) h3) (by omega))
            have hNt := keepO (ordM7 cs a 7 0 24 (aI Nt)) hNt hk (fun j hj h0 => by rcases h0 with ⟨i, h1, h2, h3⟩ | ⟨i, h1, h2, h3⟩ <;> exact absurd (ia (7 + j) i (by omega) (by omega) h3) (by omega))
            have hTx := keepO (ordM7 cs a 8 3 60 (aI X)) hTx hk (fun j hj h0 => by rcases h0 with ⟨i, h1, h2, h3⟩ | ⟨i, h1, h2, h3⟩ <;> exact absurd (ia (8 + j) i (by omega) (by omega) h3) (by omega))
            have hRd := keepO (ordM7 cs a 9 0 8 (cB Rd)) hRd hk (fun j hj h0 => by rcases h0 with ⟨i, h1, h2, h3⟩ | ⟨i, h1, h2, h3⟩ <;> exact absurd (ia (9 + j) i (by omega) (by omega) h3) (by omega))
            have hMo : va_P G vwCl (moW cs a (remN n) tl rn) H := hMo'
            have hHs : va_P G vwCl (m7 cs a 3 0 1805 (aI (doneH n Hh (cpZ Z Y 361)))) H := hHs'
            exact w_iret hx hb hr hlk dX7_set_80 hS (by rw [show setF (S, (n, L), (tl, X), (k, V)) z t v = _ from by unfold setF; rw [if_neg (show ¬ (¬ (0 ≤ z ∧ z < S 0 1)) by omega), if_neg (show ¬ ¬ (0 ≤ v ∧ v < valsF S t) by unfold valsF; (repeat' split) <;> omega)]]; exact ⟨rfl, ⟨updZ Y (209 + 6 * z + t) v, cpZ Z Y 361, doneH n Hh (cpZ Z Y 361), Sl, Kp, Go, Nt, rn, Rd, rr_prop (S := S) w0 w1 rr (by omega) (by omega), (hr_done (S := S) wf0 hL9 hHR rr hn), hSR, hMo, hRw, hSc, hHs, hSl, hKp, hGo, hNt, hTx, hRd⟩⟩)
          · skip
            simp only [decide_eq_false_iff_not] at c3
            refine z_bipush (n := -2) hx hb dX7_set_52 (by decide) ?_
            exact w_iret hx hb hr hlk dX7_set_54 hS (by rw [show setF (S, (n, L), (tl, X), (k, V)) z t v = _ from by unfold setF; rw [if_neg (show ¬ (¬ (0 ≤ z ∧ z < S 0 1)) by omega), if_pos (show ¬ (0 ≤ v ∧ v < valsF S t) by unfold valsF; (repeat' split) <;> omega)]]; exact ⟨rfl, ⟨Y, Z, Hh, Sl, Kp, Go, Nt, rn, Rd, rr, hHR, hSR, hMo, hRw, hSc, hHs, hSl, hKp, hGo, hNt, hTx, hRd⟩⟩)
      · skip
        refine lv_aload_n hx hb dX7_set_25 rfl (lv_at hl 0 rfl) ?_
        refine va_get (D := G) (ci := 7) (v := .ref ((sh a 1) 0)) (C := RX7) (T := TX7) (N := 12) hx hb hts hi7 hown hK.1 hMo 0 rfl rfl 0 (by decide) (hts (.fieldLink RX7 7 "SpriteLinesModel" "row" "[I") (by decide +kernel)) (fun _ h9 => h9) rfl dX7_set_26 ?_
        refine z_iconst (n := 0) hx hb dX7_set_29 ?_
        refine z_iald hx hb hK.1 hRw 0 0 (F := Y) rfl rfl (by omega) (by decide) dX7_set_30 ?_
        refine z_topi (b := S 0 0) rr.1.1 ?_
        refine z_iconst (n := 1) hx hb dX7_set_31 ?_
        refine z_isub hx hb dX7_set_32 ?_
        refine lv_goto (tgt := 46) hx hb dX7_set_33 (by decide) ?_
        refine z_ro (zrS (As := [.int (zI v), .int (zI 0), .int (zI ((S 0 0) - 1))]) (rest := []) (Pw := fun _ => True) ⟨hx, hb, hml, hown, hts⟩ (c_X7_in l G cs v 0 ((S 0 0) - 1) (by omega) (by omega) (by omega)) gX7_set_X7_in rfl qX7_in rfl rfl ⟨Nat.le_of_ble_eq_true rfl, Nat.le_of_ble_eq_true rfl⟩ trivial hK hl.1 rfl (Nat.le_of_ble_eq_true rfl) dX7_set_46 ⟨Nat.le_of_ble_eq_true rfl, Nat.le_of_ble_eq_true rfl⟩) ?_
        refine z_bif_ne (tgt := 55) hx hb dX7_set_49 (by decide) (fun c3 => ?_) (fun c3 => ?_)
        · skip
          simp only [decide_eq_true_eq] at c3
          refine lv_aload_n hx hb dX7_set_55 rfl (lv_at hl 0 rfl) ?_
          refine z_v (zrV (As := []) (rest := []) (Pw := fun H => va_P G vwCl (moW cs a n tl rn) H ∧ va_P G vwCl (m7 cs a 1 0 361 (aI Y)) H ∧ va_P G vwCl (m7 cs a 2 0 361 (aI Z)) H) ⟨hx, hb, hml, hown, hts⟩ (c_X7_begin l G cs a Y Z n tl rn ia) gX7_set_X7_begin rfl qX7_begin rfl rfl ⟨Nat.le_of_ble_eq_true rfl, Nat.le_of_ble_eq_true rfl⟩ ⟨hMo, hRw, hSc⟩ hK (va_recv hK.1 hMo (ci := 7) (q0 := 0) rfl rfl) hl.1 rfl (Nat.le_of_ble_eq_true rfl) dX7_set_56 ⟨Nat.le_of_ble_eq_true rfl, Nat.le_of_ble_eq_true rfl⟩) hS (fun q h => ax_mono h (by decide) (by decide)) (fun q h => ax_mono h (by decide) (by decide)) (fun H locs hpost hle hk hS => ?_)
          have hSc' := hpost
          have hMo := keepO (ordMo cs a n tl rn) hMo hk (fun j hj ⟨i, h1, h2, h3⟩ => absurd (ia j i (by omega) (by omega) h3) (by omega))
          have hRw := keepO (ordM7 cs a 1 0 361 (aI Y)) hRw hk (fun j hj ⟨i, h1, h2, h3⟩ => absurd (ia (1 + j) i (by omega) (by omega) h3) (by omega))
          have hHs := keepO (ordM7 cs a 3 0 1805 (aI Hh)) hHs hk (fun j hj ⟨i, h1, h2, h3⟩ => absurd (ia (3 + j) i (by omega) (by omega) h3) (by omega))
          have hSl := keepO (ordM7 cs a 4 0 722 (aI Sl)) hSl hk (fun j hj ⟨i, h1, h2, h3⟩ => absurd (ia (4 + j) i (by omega) (by omega) h3) (by omega))
          have hKp := keepO (ordM7 cs a 5 2 2 (aI Kp)) hKp hk (fun j hj ⟨i, h1, h2, h3⟩ => absurd (ia (5 + j) i (by omega) (by omega) h3) (by omega))
          have hGo := keepO (ordM7 cs a 6 2 24 (aI Go)) hGo hk (fun j hj ⟨i, h1, h2, h3⟩ => absurd (ia (6 + j) i (by omega) (by omega) h3) (by omega))
          have hNt := keepO (ordM7 cs a 7 0 24 (aI Nt)) hNt hk (fun j hj ⟨i, h1, h2, h3⟩ => absurd (ia (7 + j) i (by omega) (by omega) h3) (by omega))
          have hTx := keepO (ordM7 cs a 8 3 60 (aI X)) hTx hk (fun j hj ⟨i, h1, h2, h3⟩ => absurd (ia (8 + j) i (by omega) (by omega) h3) (by omega))
          have hRd := keepO (ordM7 cs a 9 0 8 (cB Rd)) hRd hk (fun j hj ⟨i, h1, h2, h3⟩ => absurd (ia (9 + j) i (by omega) (by omega) h3) (by omega))
          have hSc : va_P G vwCl (m7 cs a 2 0 361 (aI (cpZ Z Y 361))) H := hSc'
          refine lv_aload_n hx hb dX7_set_59 rfl (lv_at hl 0 rfl) ?_
          refine lv_iload_n hx hb dX7_set_60 rfl (lv_at hl 1 rfl) ?_
          refine lv_iload_n hx hb dX7_set_61 rfl (lv_at hl 2 rfl) ?_
          refine z_ro (zrV (As := [.int (zI z), .int (zI t)]) (rest := []) (Pw := fun H => va_P G vwCl (moW cs a n tl rn) H ∧ va_P G vwCl (m7 cs a 1 0 361 (aI Y)) H) ⟨hx, hb, hml, hown, hts⟩ (c_X7_of l G cs a S Y n tl rn z t wf0 rr (by omega) (by omega)) gX7_set_X7_of rfl qX7_of rfl rfl ⟨Nat.le_of_ble_eq_true rfl, Nat.le_of_ble_eq_true rfl⟩ ⟨hMo, hRw⟩ hK (va_recv hK.1 hMo (ci := 7) (q0 := 0) rfl rfl) hl.1 rfl (Nat.le_of_ble_eq_true rfl) dX7_set_62 ⟨Nat.le_of_ble_eq_true rfl, Nat.le_of_ble_eq_true rfl⟩) ?_
          refine lv_istore (lv' := [(4, .int (zI (S 1 (6 * z + t)))), (0, .ref (a 0)), (1, .int (zI z)), (2, .int (zI t)), (3, .int (zI v))]) hx hb dX7_set_65 hl (by decide) rfl (fun ls hl => ?_)
          refine lv_aload_n hx hb dX7_set_67 rfl (lv_at hl 1 rfl) ?_
          refine lv_iload_n hx hb dX7_set_68 rfl (lv_at hl 2 rfl) ?_
          refine lv_iload_n hx hb dX7_set_69 rfl (lv_at hl 3 rfl) ?_
          refine lv_iload_n hx hb dX7_set_70 rfl (lv_at hl 4 rfl) ?_
          refine z_v (zrV (As := [.int (zI z), .int (zI t), .int (zI v)]) (rest := []) (Pw := fun H => va_P G vwCl (moW cs a n tl rn) H ∧ va_P G vwCl (m7 cs a 1 0 361 (aI Y)) H) ⟨hx, hb, hml, hown, hts⟩ (c_X7_put l G cs a S Y n tl rn z t v ia (by omega) (by omega)) gX7_set_X7_put rfl qX7_put rfl rfl ⟨Nat.le_of_ble_eq_true rfl, Nat.le_of_ble_eq_true rfl⟩ ⟨hMo, hRw⟩ hK (va_recv hK.1 hMo (ci := 7) (q0 := 0) rfl rfl) hl.1 rfl (Nat.le_of_ble_eq_true rfl) dX7_set_71 ⟨Nat.le_of_ble_eq_true rfl, Nat.le_of_ble_eq_true rfl⟩) hS (fun q h => ax_mono h (by decide) (by decide)) (fun q h => ax_mono h (by decide) (by decide)) (fun H locs hpost hle hk hS => ?_)
          have hRw' := hpost
          have hMo := keepO (ordMo cs a n tl rn) hMo hk (fun j hj ⟨i, h1, h2, h3⟩ => absurd (ia j i (by omega) (by omega) h3) (by omega))
          have hSc := keepO (ordM7 cs a 2 0 361 (aI (cpZ Z Y 361))) hSc hk (fun j hj ⟨i, h1, h2, h3⟩ => absurd (ia (2 + j) i (by omega) (by omega) h3) (by omega))
          have hHs := keepO (ordM7 cs a 3 0 1805 (aI Hh)) hHs hk (fun j hj ⟨i, h1, h2, h3⟩ => absurd (ia (3 + j) i (by omega) (by omega) h3) (by omega))
          have hSl := keepO (ordM7 cs a 4 0 722 (aI Sl)) hSl hk (fun j hj ⟨i, h1, h2, h3⟩ => absurd (ia (4 + j) i (by omega) (by omega) h3) (by omega))
          have hKp := keepO (ordM7 cs a 5 2 2 (aI Kp)) hKp hk (fun j hj ⟨i, h1, h2, h3⟩ => absurd (ia (5 + j) i (by omega) (by omega) h3) (by omega))
          have hGo := keepO (ordM7 cs a 6 2 24 (aI Go)) hGo hk (fun j hj ⟨i, h1, h2, h3⟩ => absurd (ia (6 + j) i (by omega) (by omega) h3) (by omega))
          have hNt := keepO (ordM7 cs a 7 0 24 (aI Nt)) hNt hk (fun j hj ⟨i, h1, h2, h3⟩ => absurd (ia (7 + j) i (by omega) (by omega) h3) (by omega))
          have hTx := keepO (ordM7 cs a 8 3 60 (aI X)) hTx hk (fun j hj ⟨i, h1, h2, h3⟩ => absurd (ia (8 + j) i (by omega) (by omega) h3) (by omega))
          have hRd := keepO (ordM7 cs a 9 0 8 (cB Rd)) hRd hk (fun j hj ⟨i, h1, h2, h3⟩ => absurd (ia (9 + j) i (by omega) (by omega) h3) (by omega))
          have hRw : va_P G vwCl (m7 cs a 1 0 361 (aI (updZ Y (209 + 6 * z + t) v))) H := hRw'
          refine lv_aload_n hx hb dX7_set_74 rfl (lv_at hl 1 rfl) ?_
          refine lv_iload hx hb dX7_set_75 (lv_at hl 0 rfl) ?_
          refine z_w (zrV (As := [.int (zI (S 1 (6 * z + t)))]) (rest := []) (Pw := fun H => va_P G vwCl (moW cs a n tl rn) H ∧ va_P G vwCl (m7 cs a 2 0 361 (aI (cpZ Z Y 361))) H ∧ va_P G vwCl (m7 cs a 3 0 1805 (aI Hh)) H) ⟨hx, hb, hml, hown, hts⟩ (c_X7_done l G cs a n tl rn Hh (cpZ Z Y 361) (S 1 (6 * z + t)) ia (by omega)) gX7_set_X7_done rfl qX7_done rfl rfl ⟨Nat.le_of_ble_eq_true rfl, Nat.le_of_ble_eq_true rfl⟩ ⟨hMo, hSc, hHs⟩ hK (va_recv hK.1 hMo (ci := 7) (q0 := 0) rfl rfl) hl.1 rfl (Nat.le_of_ble_eq_true rfl) dX7_set_77 ⟨Nat.le_of_ble_eq_true rfl, Nat.le_of_ble_eq_true rfl⟩) hS (fun q h => by rcases h with h | h <;> exact ax_mono h (by decide) (by decide)) (fun q h => by rcases h with h | h <;> exact ax_mono h (by decide) (by decide)) (fun v H locs hpost hle hk hS => ?_)
          obtain ⟨rfl, hMo', hHs'⟩ := hpost
          have hRw := keepO (ordM7 cs a 1 0 361 (aI (updZ Y (209 + 6 * z + t) v))) hRw hk (fun j hj h0 => by rcases h0 with ⟨i, h1, h2, h3⟩ | ⟨i, h1, h2, h3⟩ <;> exact absurd (ia (1 + j) i (by omega) (by omega) h3) (by omega))
          have hSc := keepO (ordM7 cs a 2 0 361 (aI (cpZ Z Y 361))) hSc hk (fun j hj h0 => by rcases h0 with ⟨i, h1, h2, h3⟩ | ⟨i, h1, h2, h3⟩ <;> exact absurd (ia (2 + j) i (by omega) (by omega) h3) (by omega))
          have hSl := keepO (ordM7 cs a 4 0 722 (aI Sl)) hSl hk (fun j hj h0 => by rcases h0 with ⟨i, h1, h2, h3⟩ | ⟨i, h1, h2, h3⟩ <;> exact absurd (ia (4 + j) i (by omega) (by omega) h3) (by omega))
          have hKp := keepO (ordM7 cs a 5 2 2 (aI Kp)) hKp hk (fun j hj h0 => by rcases h0 with ⟨i, h1, h2, h3⟩ | ⟨i, h1, h2, h3⟩ <;> exact absurd (ia (5 + j) i (by omega) (by omega) h3) (by omega))
          have hGo := keepO (ordM7 cs a 6 2 24 (aI Go)) hGo hk (fun j hj h0 => by rcases h0 with ⟨i, h1, h2, h3⟩ | ⟨i, h1, h2, h3⟩ <;> exact absurd (ia (6 + j) i (by omega) (by omega) h3) (by omega))
          have hNt := keepO (ordM7 cs a 7 0 24 (aI Nt)) hNt hk (fun j hj h0 => by rcases h0 with ⟨i, h1, h2, h3⟩ | ⟨i, h1, h2, h3⟩ <;> exact absurd (ia (7 + j) i (by omega) (by omega) h3) (by omega))
          have hTx := keepO (ordM7 cs a 8 3 60 (aI X)) hTx hk (fun j hj h0 => by rcases h0 with ⟨i, h1, h2, h3⟩ | ⟨i, h1, h2, h3⟩ <;> exact absurd (ia (8 + j) i (by omega) (by omega) h3) (by omega))
          have hRd := keepO (ordM7 cs a 9 0 8 (cB Rd)) hRd hk (fun j hj h0 => by rcases h0 with ⟨i, h1, h2, h3⟩ | ⟨i, h1, h2, h3⟩ <;> exact absurd (ia (9 + j) i (by omega) (by omega) h3) (by omega))
          have hMo : va_P G vwCl (moW cs a (remN n) tl rn) H := hMo'
          have hHs : va_P G vwCl (m7 cs a 3 0 1805 (aI (doneH n Hh (cpZ Z Y 361)))) H := hHs'
          exact w_iret hx hb hr hlk dX7_set_80 hS (by rw [show setF (S, (n, L), (tl, X), (k, V)) z t v = _ from by unfold setF; rw [if_neg (show ¬ (¬ (0 ≤ z ∧ z < S 0 1)) by omega), if_neg (show ¬ ¬ (0 ≤ v ∧ v < valsF S t) by unfold valsF; (repeat' split) <;> omega)]]; exact ⟨rfl, ⟨updZ Y (209 + 6 * z + t) v, cpZ Z Y 361, doneH n Hh (cpZ Z Y 361), Sl, Kp, Go, Nt, rn, Rd, rr_prop (S := S) w0 w1 rr (by omega) (by omega), (hr_done (S := S) wf0 hL9 hHR rr hn), hSR, hMo, hRw, hSc, hHs, hSl, hKp, hGo, hNt, hTx, hRd⟩⟩)
        · skip
          simp only [decide_eq_false_iff_not] at c3
          refine z_bipush (n := -2) hx hb dX7_set_52 (by decide) ?_
          exact w_iret hx hb hr hlk dX7_set_54 hS (by rw [show setF (S, (n, L), (tl, X), (k, V)) z t v = _ from by unfold setF; rw [if_neg (show ¬ (¬ (0 ≤ z ∧ z < S 0 1)) by omega), if_pos (show ¬ (0 ≤ v ∧ v < valsF S t) by unfold valsF; (repeat' split) <;> omega)]]; exact ⟨rfl, ⟨Y, Z, Hh, Sl, Kp, Go, Nt, rn, Rd, rr, hHR, hSR, hMo, hRw, hSc, hHs, hSl, hKp, hGo, hNt, hTx, hRd⟩⟩)
  · skip
    simp only [decide_eq_true_eq] at c1
    refine z_iconst (n := -1) hx hb dX7_set_8 ?_
    exact w_iret hx hb hr hlk dX7_set_9 hS (by rw [show setF (S, (n, L), (tl, X), (k, V)) z t v = _ from by unfold setF; rw [if_pos (show ¬ (0 ≤ z ∧ z < S 0 1) by omega)]]; exact ⟨rfl, ⟨Y, Z, Hh, Sl, Kp, Go, Nt, rn, Rd, rr, hHR, hSR, hMo, hRw, hSc, hHs, hSl, hKp, hGo, hNt, hTx, hRd⟩⟩)

set_option maxHeartbeats 4000000 in
set_option maxRecDepth 100000 in
theorem c_X7_swap (l : Launch) (G : va_G) (cs : Nat → ClassId) (a : Nat → Nat) (S : SS) (n : Int) (L : Nat → SS) (tl : Int) (X : Int → Int) (k : Nat → Bool) (V : Nat → SS) (f t u d : Int) (ia : Inj a 10) (hA : AWF (S, (n, L), (tl, X), (k, V))) (r_f : -2147483648 ≤ f ∧ f < 2147483648) (r_t : -2147483648 ≤ t ∧ t < 2147483648) (r_u : -2147483648 ≤ u ∧ u < 2147483648) (r_d : -2147483648 ≤ d ∧ d < 2147483648) : MW l yX7_swap wsX7_swap { frames := 2, cells := 0, slots := 0, locals := 42 } G cs [.ref (a 0), .int (zI f), .int (zI t), .int (zI u), .int (zI d)] (fun H => MI G cs a (S, (n, L), (tl, X), (k, V)) H) (fun vv H => vv = .int (zI (swapF (S, (n, L), (tl, X), (k, V)) f t u d).1) ∧ MI G cs a (swapF (S, (n, L), (tl, X), (k, V)) f t u d).2 H) (AX a 0 10) 0 0 := by
  refine m_intro (Pw := (fun H => MI G cs a (S, (n, L), (tl, X), (k, V)) H)) (cc := cX7_swap) (maxL := 6) (ret := some .int) RX7 (by decide) rfl rfl (Nat.le_of_ble_eq_true rfl) ?_
  intro pP eE sS mM below meth cC hx hb hr hts hown hml hlk hnm hPre hK ls hl
  have hl : lv_has ls 6 [(0, .ref (a 0)), (1, .int (zI f)), (2, .int (zI t)), (3, .int (zI u)), (4, .int (zI d))] := hl
  have hMI := hPre
  have hS : va_S (AX a 0 10) sS.heap sS.heap [] := va_S.rf
  have hi7 : ∀ w ∈ u_ws RX7 TX7 12, w ∈ wsX7_swap := by decide +kernel
  obtain ⟨Y, Z, Hh, Sl, Kp, Go, Nt, rn, Rd, rr, hHR, hSR, hMo, hRw, hSc, hHs, hSl, hKp, hGo, hNt, hTx, hRd⟩ := hMI
  obtain ⟨wf, ⟨hn, hL9⟩, ⟨htl, hX⟩, hV9⟩ := hA
  have wf : WF S := wf
  have hn : 0 ≤ n ∧ n ≤ 5 := hn
  have htl : 0 ≤ tl ∧ tl ≤ 60 := htl
  have hX : ∀ j, 0 ≤ j → j < 60 → 0 ≤ X j ∧ X j < 65536 := hX
  have rr : RR S Y := rr
  have hHR : HR n L Hh := hHR
  have hSR : SR k V Kp Sl := hSR
  have hL9 : ∀ i : Nat, (i : Int) < n → WF (L i) := hL9
  have hV9 : ∀ s : Nat, s < 2 → k s = true → WF (V s) := hV9
  have hMo : va_P G vwCl (moW cs a n tl rn) sS.heap := hMo
  have hRw : va_P G vwCl (m7 cs a 1 0 361 (aI Y)) sS.heap := hRw
  have hSc : va_P G vwCl (m7 cs a 2 0 361 (aI Z)) sS.heap := hSc
  have hHs : va_P G vwCl (m7 cs a 3 0 1805 (aI Hh)) sS.heap := hHs
  have hSl : va_P G vwCl (m7 cs a 4 0 722 (aI Sl)) sS.heap := hSl
  have hKp : va_P G vwCl (m7 cs a 5 2 2 (aI Kp)) sS.heap := hKp
  have hGo : va_P G vwCl (m7 cs a 6 2 24 (aI Go)) sS.heap := hGo
  have hNt : va_P G vwCl (m7 cs a 7 0 24 (aI Nt)) sS.heap := hNt
  have hTx : va_P G vwCl (m7 cs a 8 3 60 (aI X)) sS.heap := hTx
  have hRd : va_P G vwCl (m7 cs a 9 0 8 (cB Rd)) sS.heap := hRd
  have wf0 := wf
  obtain ⟨w0, w1, w2, w3, w4, wP, wC, wS, wX⟩ := wf
  refine lv_iload_n hx hb dX7_swap_0 rfl (lv_at hl 1 rfl) ?_
  refine z_ro (zrS (As := [.int (zI f)]) (rest := []) (Pw := fun _ => True) ⟨hx, hb, hml, hown, hts⟩ (c_X7_noLine l G cs f (by omega)) gX7_swap_X7_noLine rfl qX7_noLine rfl rfl ⟨Nat.le_of_ble_eq_true rfl, Nat.le_of_ble_eq_true rfl⟩ trivial hK hl.1 rfl (Nat.le_of_ble_eq_true rfl) dX7_swap_1 ⟨Nat.le_of_ble_eq_true rfl, Nat.le_of_ble_eq_true rfl⟩) ?_
  refine z_bif_ne (tgt := 33) hx hb dX7_swap_4 (by decide) (fun c1 => ?_) (fun c1 => ?_)
  · skip
    simp only [decide_eq_true_eq] at c1
    refine z_iconst (n := -1) hx hb dX7_swap_33 ?_
    exact w_iret hx hb hr hlk dX7_swap_34 hS (by rw [show swapF (S, (n, L), (tl, X), (k, V)) f t u d = _ from by unfold swapF; rw [if_pos (show ¬ ((0 ≤ f ∧ f < 32) ∧ (0 ≤ t ∧ t < 32) ∧ (0 ≤ u ∧ u < 4) ∧ (0 ≤ d ∧ d < 4)) by omega)]]; exact ⟨rfl, ⟨Y, Z, Hh, Sl, Kp, Go, Nt, rn, Rd, rr, hHR, hSR, hMo, hRw, hSc, hHs, hSl, hKp, hGo, hNt, hTx, hRd⟩⟩)
  · skip
    simp only [decide_eq_false_iff_not] at c1
    refine lv_iload_n hx hb dX7_swap_7 rfl (lv_at hl 2 rfl) ?_
    refine z_ro (zrS (As := [.int (zI t)]) (rest := []) (Pw := fun _ => True) ⟨hx, hb, hml, hown, hts⟩ (c_X7_noLine l G cs t (by omega)) gX7_swap_X7_noLine rfl qX7_noLine rfl rfl ⟨Nat.le_of_ble_eq_true rfl, Nat.le_of_ble_eq_true rfl⟩ trivial hK hl.1 rfl (Nat.le_of_ble_eq_true rfl) dX7_swap_8 ⟨Nat.le_of_ble_eq_true rfl, Nat.le_of_ble_eq_true rfl⟩) ?_
    refine z_bif_ne (tgt := 33) hx hb dX7_swap_11 (by decide) (fun c2 => ?_) (fun c2 => ?_)
    · skip
      simp only [decide_eq_true_eq] at c2
      refine z_iconst (n := -1) hx hb dX7_swap_33 ?_
      exact w_iret hx hb hr hlk dX7_swap_34 hS (by rw [show swapF (S, (n, L), (tl, X), (k, V)) f t u d = _ from by unfold swapF; rw [if_pos (show ¬ ((0 ≤ f ∧ f < 32) ∧ (0 ≤ t ∧ t < 32) ∧ (0 ≤ u ∧ u < 4) ∧ (0 ≤ d ∧ d < 4)) by omega)]]; exact ⟨rfl, ⟨Y, Z, Hh, Sl, Kp, Go, Nt, rn, Rd, rr, hHR, hSR, hMo, hRw, hSc, hHs, hSl, hKp, hGo, hNt, hTx, hRd⟩⟩)
    · skip
      simp only [decide_eq_false_iff_not] at c2
      refine lv_iload_n hx hb dX7_swap_14 rfl (lv_at hl 3 rfl) ?_
      refine z_iconst (n := 0) hx hb dX7_swap_15 ?_
      refine z_iconst (n := 3) hx hb dX7_swap_16 ?_
      refine z_ro (zrS (As := [.int (zI u), .int (zI 0), .int (zI 3)]) (rest := []) (Pw := fun _ => True) ⟨hx, hb, hml, hown, hts⟩ (c_X7_in l G cs u 0 3 (by omega) (by omega) (by omega)) gX7_swap_X7_in rfl qX7_in rfl rfl ⟨Nat.le_of_ble_eq_true rfl, Nat.le_of_ble_eq_true rfl⟩ trivial hK hl.1 rfl (Nat.le_of_ble_eq_true rfl) dX7_swap_17 ⟨Nat.le_of_ble_eq_true rfl, Nat.le_of_ble_eq_true rfl⟩) ?_
      refine z_bif_eq (tgt := 33) hx hb dX7_swap_20 (by decide) (fun c3 => ?_) (fun c3 => ?_)
      · skip
        simp only [decide_eq_false_iff_not] at c3
        refine z_iconst (n := -1) hx hb dX7_swap_33 ?_
        exact w_iret hx hb hr hlk dX7_swap_34 hS (by rw [show swapF (S, (n, L), (tl, X), (k, V)) f t u d = _ from by unfold swapF; rw [if_pos (show ¬ ((0 ≤ f ∧ f < 32) ∧ (0 ≤ t ∧ t < 32) ∧ (0 ≤ u ∧ u < 4) ∧ (0 ≤ d ∧ d < 4)) by omega)]]; exact ⟨rfl, ⟨Y, Z, Hh, Sl, Kp, Go, Nt, rn, Rd, rr, hHR, hSR, hMo, hRw, hSc, hHs, hSl, hKp, hGo, hNt, hTx, hRd⟩⟩)
      · skip
        simp only [decide_eq_true_eq] at c3
        refine lv_iload hx hb dX7_swap_23 (lv_at hl 4 rfl) ?_
        refine z_iconst (n := 0) hx hb dX7_swap_25 ?_
        refine z_iconst (n := 3) hx hb dX7_swap_26 ?_
        refine z_ro (zrS (As := [.int (zI d), .int (zI 0), .int (zI 3)]) (rest := []) (Pw := fun _ => True) ⟨hx, hb, hml, hown, hts⟩ (c_X7_in l G cs d 0 3 (by omega) (by omega) (by omega)) gX7_swap_X7_in rfl qX7_in rfl rfl ⟨Nat.le_of_ble_eq_true rfl, Nat.le_of_ble_eq_true rfl⟩ trivial hK hl.1 rfl (Nat.le_of_ble_eq_true rfl) dX7_swap_27 ⟨Nat.le_of_ble_eq_true rfl, Nat.le_of_ble_eq_true rfl⟩) ?_
        refine z_bif_ne (tgt := 35) hx hb dX7_swap_30 (by decide) (fun c4 => ?_) (fun c4 => ?_)
        · skip
          simp only [decide_eq_true_eq] at c4
          refine lv_iload_n hx hb dX7_swap_35 rfl (lv_at hl 1 rfl) ?_
          refine lv_iload_n hx hb dX7_swap_36 rfl (lv_at hl 2 rfl) ?_
          refine z_icmp_le (tgt := 43) hx hb dX7_swap_37 (by decide) (by omega) (by omega) (fun c1 => ?_) (fun c1 => ?_)
          · skip
            refine lv_aload_n hx hb dX7_swap_43 rfl (lv_at hl 0 rfl) ?_
            refine z_v (zrV (As := []) (rest := []) (Pw := fun H => va_P G vwCl (moW cs a n tl rn) H ∧ va_P G vwCl (m7 cs a 1 0 361 (aI Y)) H ∧ va_P G vwCl (m7 cs a 2 0 361 (aI Z)) H) ⟨hx, hb, hml, hown, hts⟩ (c_X7_begin l G cs a Y Z n tl rn ia) gX7_swap_X7_begin rfl qX7_begin rfl rfl ⟨Nat.le_of_ble_eq_true rfl, Nat.le_of_ble_eq_true rfl⟩ ⟨hMo, hRw, hSc⟩ hK (va_recv hK.1 hMo (ci := 7) (q0 := 0) rfl rfl) hl.1 rfl (Nat.le_of_ble_eq_true rfl) dX7_swap_44 ⟨Nat.le_of_ble_eq_true rfl, Nat.le_of_ble_eq_true rfl⟩) hS (fun q h => ax_mono h (by decide) (by decide)) (fun q h => ax_mono h (by decide) (by decide)) (fun H locs hpost hle hk hS => ?_)
            have hSc' := hpost
            have hMo := keepO (ordMo cs a n tl rn) hMo hk (fun j hj ⟨i, h1, h2, h3⟩ => absurd (ia j i (by omega) (by omega) h3) (by omega))
            have hRw := keepO (ordM7 cs a 1 0 361 (aI Y)) hRw hk (fun j hj ⟨i, h1, h2, h3⟩ => absurd (ia (1 + j) i (by omega) (by omega) h3) (by omega))
            have hHs := keepO (ordM7 cs a 3 0 1805 (aI Hh)) hHs hk (fun j hj ⟨i, h1, h2, h3⟩ => absurd (ia (3 + j) i (by omega) (by omega) h3) (by omega))
            have hSl := keepO (ordM7 cs a 4 0 722 (aI Sl)) hSl hk (fun j hj ⟨i, h1, h2, h3⟩ => absurd (ia (4 + j) i (by omega) (by omega) h3) (by omega))
            have hKp := keepO (ordM7 cs a 5 2 2 (aI Kp)) hKp hk (fun j hj ⟨i, h1, h2, h3⟩ => absurd (ia (5 + j) i (by omega) (by omega) h3) (by omega))
            have hGo := keepO (ordM7 cs a 6 2 24 (aI Go)) hGo hk (fun j hj ⟨i, h1, h2, h3⟩ => absurd (ia (6 + j) i (by omega) (by omega) h3) (by omega))
            have hNt := keepO (ordM7 cs a 7 0 24 (aI Nt)) hNt hk (fun j hj ⟨i, h1, h2, h3⟩ => absurd (ia (7 + j) i (by omega) (by omega) h3) (by omega))
            have hTx := keepO (ordM7 cs a 8 3 60 (aI X)) hTx hk (fun j hj ⟨i, h1, h2, h3⟩ => absurd (ia (8 + j) i (by omega) (by omega) h3) (by omega))
            have hRd := keepO (ordM7 cs a 9 0 8 (cB Rd)) hRd hk (fun j hj ⟨i, h1, h2, h3⟩ => absurd (ia (9 + j) i (by omega) (by omega) h3) (by omega))
            have hSc : va_P G vwCl (m7 cs a 2 0 361 (aI (cpZ Z Y 361))) H := hSc'
            refine lv_iload_n hx hb dX7_swap_47 rfl (lv_at hl 1 rfl) ?_
            refine lv_istore (lv' := [(5, .int (zI f)), (0, .ref (a 0)), (1, .int (zI f)), (2, .int (zI t)), (3, .int (zI u)), (4, .int (zI d))]) hx hb dX7_swap_48 hl (by decide) rfl (fun ls hl => ?_)
            -- loop 50
            refine z_loopH (nL := 6) (fun (i : Int) => [(0, .ref (a 0)), (1, .int (zI f)), (2, .int (zI t)), (3, .int (zI u)), (4, .int (zI d)), (5, .int (zI i))]) (fun (i : Int) (H : Heap) => (f ≤ i ∧ i ≤ t + 1) ∧ va_P G vwCl (moW cs a n tl rn) H ∧ va_P G vwCl (m7 cs a 1 0 361 (aI (swZ Y f (swV u d) i))) H ∧ va_P G vwCl (m7 cs a 2 0 361 (aI (cpZ Z Y 361))) H ∧ va_P G vwCl (m7 cs a 3 0 1805 (aI Hh)) H ∧ va_P G vwCl (m7 cs a 4 0 722 (aI Sl)) H ∧ va_P G vwCl (m7 cs a 5 2 2 (aI Kp)) H ∧ va_P G vwCl (m7 cs a 6 2 24 (aI Go)) H ∧ va_P G vwCl (m7 cs a 7 0 24 (aI Nt)) H ∧ va_P G vwCl (m7 cs a 8 3 60 (aI X)) H ∧ va_P G vwCl (m7 cs a 9 0 8 (cB Rd)) H) (fun (i : Int) => (t + 1 - i).toNat) f ⟨(by omega), hMo, (by rw [swZ_0]; exact hRw), hSc, hHs, hSl, hKp, hGo, hNt, hTx, hRd⟩ hS (lv_sub hl [1, 2, 3, 4, 5, 0] rfl) (fun i H locs hIH hS ih ls hl => ?_)
            obtain ⟨hI, hMo, hRw, hSc, hHs, hSl, hKp, hGo, hNt, hTx, hRd⟩ := hIH
            have hl : lv_has ls 6 [(0, .ref (a 0)), (1, .int (zI f)), (2, .int (zI t)), (3, .int (zI u)), (4, .int (zI d)), (5, .int (zI i))] := hl
            refine lv_iload hx hb dX7_swap_50 (lv_at hl 5 rfl) ?_
            refine lv_iload_n hx hb dX7_swap_52 rfl (lv_at hl 2 rfl) ?_
            refine z_icmp_gt (tgt := 106) hx hb dX7_swap_53 (by decide) (by omega) (by omega) (fun c2 => ?_) (fun c2 => ?_)
            · skip
              have hRw : va_P G vwCl (m7 cs a 1 0 361 (aI (swZ Y f (swV u d) (t + 1)))) H := (by rw [show i = t + 1 by omega] at hRw; exact hRw)
              refine lv_aload_n hx hb dX7_swap_106 rfl (lv_at hl 0 rfl) ?_
              refine lv_aload_n hx hb dX7_swap_107 rfl (lv_at hl 0 rfl) ?_
              refine z_ro (zrV (As := []) (rest := [.ref (a 0)]) (Pw := fun H => va_P G vwCl (moW cs a n tl rn) H ∧ va_P G vwCl (m7 cs a 1 0 361 (aI (swZ Y f (swV u d) (t + 1)))) H) ⟨hx, hb, hml, hown, hts⟩ (c_X7_swaps l G cs a (swN S f u d (t + 1 - f).toNat) (swZ Y f (swV u d) (t + 1)) n tl rn (wf_swN wf0 (by omega) (by omega) _) (rr_sw wf0 rr (by omega))) gX7_swap_X7_swaps rfl qX7_swaps rfl rfl ⟨Nat.le_of_ble_eq_true rfl, Nat.le_of_ble_eq_true rfl⟩ ⟨hMo, hRw⟩ hK (va_recv hK.1 hMo (ci := 7) (q0 := 0) rfl rfl) hl.1 rfl (Nat.le_of_ble_eq_true rfl) dX7_swap_108 ⟨Nat.le_of_ble_eq_true rfl, Nat.le_of_ble_eq_true rfl⟩) ?_
              refine z_w (zrV (As := [.int (zI (cntI (hasSw (swN S f u d (t + 1 - f).toNat)) 32))]) (rest := []) (Pw := fun H => va_P G vwCl (moW cs a n tl rn) H ∧ va_P G vwCl (m7 cs a 2 0 361 (aI (cpZ Z Y 361))) H ∧ va_P G vwCl (m7 cs a 3 0 1805 (aI Hh)) H) ⟨hx, hb, hml, hown, hts⟩ (c_X7_done l G cs a n tl rn Hh (cpZ Z Y 361) (cntI (hasSw (swN S f u d (t + 1 - f).toNat)) 32) ia (by omega)) gX7_swap_X7_done rfl qX7_done rfl rfl ⟨Nat.le_of_ble_eq_true rfl, Nat.le_of_ble_eq_true rfl⟩ ⟨hMo, hSc, hHs⟩ hK (va_recv hK.1 hMo (ci := 7) (q0 := 0) rfl rfl) hl.1 rfl (Nat.le_of_ble_eq_true rfl) dX7_swap_111 ⟨Nat.le_of_ble_eq_true rfl, Nat.le_of_ble_eq_true rfl⟩) hS (fun q h => by rcases h with h | h <;> exact ax_mono h (by decide) (by decide)) (fun q h => by rcases h with h | h <;> exact ax_mono h (by decide) (by decide)) (fun v H locs hpost hle hk hS => ?_)
              obtain ⟨rfl, hMo', hHs'⟩ := hpost
              have hRw := keepO (ordM7 cs a 1 0 361 (aI (swZ Y f (swV u d) (t + 1)))) hRw hk (fun j hj h0 => by rcases h0 with ⟨i, h1, h2, h3⟩ | ⟨i, h1, h2, h3⟩ <;> exact absurd (ia (1 + j) i (by omega) (by omega) h3) (by omega))
              have hSc := keepO (ordM7 cs a 2 0 361 (aI (cpZ Z Y 361))) hSc hk (fun j hj h0 => by rcases h0 with ⟨i, h1, h2, h3⟩ | ⟨i, h1, h2, h3⟩ <;> exact absurd (ia (2 + j) i (by omega) (by omega) h3) (by omega))
              have hSl := keepO (ordM7 cs a 4 0 722 (aI Sl)) hSl hk (fun j hj h0 => by rcases h0 with ⟨i, h1, h2, h3⟩ | ⟨i, h1, h2, h3⟩ <;> exact absurd (ia (4 + j) i (by omega) (by omega) h3) (by omega))
              have hKp := keepO (ordM7 cs a 5 2 2 (aI Kp)) hKp hk (fun j hj h0 => by rcases h0 with ⟨i, h1, h2, h3⟩ | ⟨i, h1, h2, h3⟩ <;> exact absurd (ia (5 + j) i (by omega) (by omega) h3) (by omega))
              have hGo := keepO (ordM7 cs a 6 2 24 (aI Go)) hGo hk (fun j hj h0 => by rcases h0 with ⟨i, h1, h2, h3⟩ | ⟨i, h1, h2, h3⟩ <;> exact absurd (ia (6 + j) i (by omega) (by omega) h3) (by omega))
              have hNt := keepO (ordM7 cs a 7 0 24 (aI Nt)) hNt hk (fun j hj h0 => by rcases h0 with ⟨i, h1, h2, h3⟩ | ⟨i, h1, h2, h3⟩ <;> exact absurd (ia (7 + j) i (by omega) (by omega) h3) (by omega))
              have hTx := keepO (ordM7 cs a 8 3 60 (aI X)) hTx hk (fun j hj h0 => by rcases h0 with ⟨i, h1, h2, h3⟩ | ⟨i, h1, h2, h3⟩ <;> exact absurd (ia (8 + j) i (by omega) (by omega) h3) (by omega))
              have hRd := keepO (ordM7 cs a 9 0 8 (cB Rd)) hRd hk (fun j hj h0 => by rcases h0 with ⟨i, h1, h2, h3⟩ | ⟨i, h1, h2, h3⟩ <;> exact absurd (ia (9 + j) i (by omega) (by omega) h3) (by omega))
              have hMo : va_P G vwCl (moW cs a (remN n) tl rn) H := hMo'
              have hHs : va_P G vwCl (m7 cs a 3 0 1805 (aI (doneH n Hh (cpZ Z Y 361)))) H := hHs'
              exact w_iret hx hb hr hlk dX7_swap_114 hS (by rw [show swapF (S, (n, L), (tl, X), (k, V)) f t u d = _ from by unfold swapF; rw [if_neg (show ¬ (¬ ((0 ≤ f ∧ f < 32) ∧ (0 ≤ t ∧ t < 32) ∧ (0 ≤ u ∧ u < 4) ∧ (0 ≤ d ∧ d < 4))) by omega), if_neg (show ¬ (t < f) by omega)]]; exact ⟨rfl, ⟨swZ Y f (swV u d) (t + 1), cpZ Z Y 361, doneH n Hh (cpZ Z Y 361), Sl, Kp, Go, Nt, rn, Rd, rr_sw (S := S) wf0 rr (by omega), (hr_done (S := S) wf0 hL9 hHR rr hn), hSR, hMo, hRw, hSc, hHs, hSl, hKp, hGo, hNt, hTx, hRd⟩⟩)
            · skip
              refine lv_aload_n hx hb dX7_swap_56 rfl (lv_at hl 0 rfl) ?_
              refine va_get (D := G) (ci := 7) (v := .ref ((sh a 1) 0)) (C := RX7) (T := TX7) (N := 12) hx hb hts hi7 hown hK.1 hMo 0 rfl rfl 0 (by decide) (hts (.fieldLink RX7 7 "SpriteLinesModel" "row" "[I") (by decide +kernel)) (fun _ h9 => h9) rfl dX7_swap_57 ?_
              refine z_sipush (n := 329) hx hb dX7_swap_60 (by decide) ?_
              refine lv_iload hx hb dX7_swap_63 (lv_at hl 5 rfl) ?_
              refine z_iadd hx hb dX7_swap_65 ?_
              refine lv_iload_n hx hb dX7_swap_66 rfl (lv_at hl 3 rfl) ?_
              refine lv_iload hx hb dX7_swap_67 (lv_at hl 4 rfl) ?_
              refine z_icmp_ne (tgt := 76) hx hb dX7_swap_69 (by decide) (by omega) (by omega) (fun c5 => ?_) (fun c5 => ?_)
              · skip
                refine lv_iload_n hx hb dX7_swap_76 rfl (lv_at hl 3 rfl) ?_
                refine lv_iload hx hb dX7_swap_77 (lv_at hl 4 rfl) ?_
                refine z_icmp_ge (tgt := 92) hx hb dX7_swap_79 (by decide) (by omega) (by omega) (fun c6 => ?_) (fun c6 => ?_)
                · skip
                  refine z_bipush (n := 16) hx hb dX7_swap_92 (by decide) ?_
                  refine lv_iload hx hb dX7_swap_94 (lv_at hl 4 rfl) ?_
                  refine z_imul hx hb dX7_swap_96 ?_
                  refine lv_iload_n hx hb dX7_swap_97 rfl (lv_at hl 3 rfl) ?_
                  refine z_iadd hx hb dX7_swap_98 ?_
                  refine z_topi (b := swV u d) (show 16 * d + u = swV u d by unfold swV; rw [if_neg c5, if_neg (show ¬ u < d by omega)]) ?_
                  refine z_iast hx hb hK.1 hRw (Ord.D (ordM7 cs a 1 0 361 (aI (swZ Y f (swV u d) i))) inj1) hS 0 0 (F := (swZ Y f (swV u d) i)) rfl rfl (by omega) (by decide) ⟨1, by decide, by decide, rfl⟩ dX7_swap_99 (fun H locs hP1 hle hk hS => ?_)
                  have hMo := keepO (ordMo cs a n tl rn) hMo hk (fun j hj h3 => absurd (ia j 1 (by omega) (by omega) h3) (by omega))
                  have hSc := keepO (ordM7 cs a 2 0 361 (aI (cpZ Z Y 361))) hSc hk (fun j hj h3 => absurd (ia (2 + j) 1 (by omega) (by omega) h3) (by omega))
                  have hHs := keepO (ordM7 cs a 3 0 1805 (aI Hh)) hHs hk (fun j hj h3 => absurd (ia (3 + j) 1 (by omega) (by omega) h3) (by omega))
                  have hSl := keepO (ordM7 cs a 4 0 722 (aI Sl)) hSl hk (fun j hj h3 => absurd (ia (4 + j) 1 (by omega) (by omega) h3) (by omega))
                  have hKp := keepO (ordM7 cs a 5 2 2 (aI Kp)) hKp hk (fun j hj h3 => absurd (ia (5 + j) 1 (by omega) (by omega) h3) (by omega))
                  have hGo := keepO (ordM7 cs a 6 2 24 (aI Go)) hGo hk (fun j hj h3 => absurd (ia (6 + j) 1 (by omega) (by omega) h3) (by omega))
                  have hNt := keepO (ordM7 cs a 7 0 24 (aI Nt)) hNt hk (fun j hj h3 => absurd (ia (7 + j) 1 (by omega) (by omega) h3) (by omega))
                  have hTx := keepO (ordM7 cs a 8 3 60 (aI X)) hTx hk (fun j hj h3 => absurd (ia (8 + j) 1 (by omega) (by omega) h3) (by omega))
                  have hRd := keepO (ordM7 cs a 9 0 8 (cB Rd)) hRd hk (fun j hj h3 => absurd (ia (9 + j) 1 (by omega) (by omega) h3) (by omega))
                  have hRw : va_P G vwCl (m7 cs a 1 0 361 (aI (updZ (swZ Y f (swV u d) i) (329 + i) (swV u d)))) H := hP1
                  refine z_iinc (k := 5) (lv' := [(5, .int (zI (i + 1))), (0, .ref (a 0)), (1, .int (zI f)), (2, .int (zI t)), (3, .int (zI u)), (4, .int (zI d))]) hx hb dX7_swap_100 hl rfl (by decide) rfl (fun ls hl => ?_)
                  refine lv_goto (tgt := 50) hx hb dX7_swap_103 (by decide) ?_
                  exact ih (i + 1) H locs ⟨(by omega), hMo, (by rw [← swZ_s hI.1]; exact hRw), hSc, hHs, hSl, hKp, hGo, hNt, hTx, hRd⟩ hS (by omega) ls (lv_sub hl [1, 2, 3, 4, 5, 0] rfl)
                · skip
                  refine z_bipush (n := 16) hx hb dX7_swap_82 (by decide) ?_
                  refine lv_iload_n hx hb dX7_swap_84 rfl (lv_at hl 3 rfl) ?_
                  refine z_imul hx hb dX7_swap_85 ?_
                  refine lv_iload hx hb dX7_swap_86 (lv_at hl 4 rfl) ?_
                  refine z_iadd hx hb dX7_swap_88 ?_
                  refine z_topi (b := swV u d) (show 16 * u + d = swV u d by unfold swV; rw [if_neg c5, if_pos c6]) ?_
                  refine lv_goto (tgt := 99) hx hb dX7_swap_89 (by decide) ?_
                  refine z_iast hx hb hK.1 hRw (Ord.D (ordM7 cs a 1 0 361 (aI (swZ Y f (swV u d) i))) inj1) hS 0 0 (F := (swZ Y f (swV u d) i)) rfl rfl (by omega) (by decide) ⟨1, by decide, by decide, rfl⟩ dX7_swap_99 (fun H locs hP1 hle hk hS => ?_)
                  have hMo := keepO (ordMo cs a n tl rn) hMo hk (fun j hj h3 => absurd (ia j 1 (by omega) (by omega) h3) (by omega))
                  have hSc := keepO (ordM7 cs a 2 0 361 (aI (cpZ Z Y 361))) hSc hk (fun j hj h3 => absurd (ia (2 + j) 1 (by omega) (by omega) h3) (by omega))
                  have hHs := keepO (ordM7 cs a 3 0 1805 (aI Hh)) hHs hk (fun j hj h3 => absurd (ia (3 + j) 1 (by omega) (by omega) h3) (by omega))
                  have hSl := keepO (ordM7 cs a 4 0 722 (aI Sl)) hSl hk (fun j hj h3 => absurd (ia (4 + j) 1 (by omega) (by omega) h3) (by omega))
                  have hKp := keepO (ordM7 cs a 5 2 2 (aI Kp)) hKp hk (fun j hj h3 => absurd (ia (5 + j) 1 (by omega) (by omega) h3) (by omega))
                  have hGo := keepO (ordM7 cs a 6 2 24 (aI Go)) hGo hk (fun j hj h3 => absurd (ia (6 + j) 1 (by omega) (by omega) h3) (by omega))
                  have hNt := keepO (ordM7 cs a 7 0 24 (aI Nt)) hNt hk (fun j hj h3 => absurd (ia (7 + j) 1 (by omega) (by omega) h3) (by omega))
                  have hTx := keepO (ordM7 cs a 8 3 60 (aI X)) hTx hk (fun j hj h3 => absurd (ia (8 + j) 1 (by omega) (by omega) h3) (by omega))
                  have hRd := keepO (ordM7 cs a 9 0 8 (cB Rd)) hRd hk (fun j hj h3 => absurd (ia (9 + j) 1 (by omega) (by omega) h3) (by omega))
                  have hRw : va_P G vwCl (m7 cs a 1 0 361 (aI (updZ (swZ Y f (swV u d) i) (329 + i) (swV u d)))) H := hP1
                  refine z_iinc (k := 5) (lv' := [(5, .int (zI (i + 1))), (0, .ref (a 0)), (1, .int (zI f)), (2, .int (zI t)), (3, .int (zI u)), (4, .int (zI d))]) hx hb dX7_swap_100 hl rfl (by decide) rfl (fun ls hl => ?_)
                  refine lv_goto (tgt := 50) hx hb dX7_swap_103 (by decide) ?_
                  exact ih (i + 1) H locs ⟨(by omega), hMo, (by rw [← swZ_s hI.1]; exact hRw), hSc, hHs, hSl, hKp, hGo, hNt, hTx, hRd⟩ hS (by omega) ls (lv_sub hl [1, 2, 3, 4, 5, 0] rfl)
              · skip
                refine z_iconst (n := 0) hx hb dX7_swap_72 ?_
                refine z_topi (b := swV u d) (show (0 : Int) = swV u d by unfold swV; rw [if_pos c5]) ?_
                refine lv_goto (tgt := 99) hx hb dX7_swap_73 (by decide) ?_
                refine z_iast hx hb hK.1 hRw (Ord.D (ordM7 cs a 1 0 361 (aI (swZ Y f (swV u d) i))) inj1) hS 0 0 (F := (swZ Y f (swV u d) i)) rfl rfl (by omega) (by decide) ⟨1, by decide, by decide, rfl⟩ dX7_swap_99 (fun H locs hP1 hle hk hS => ?_)
                have hMo := keepO (ordMo cs a n tl rn) hMo hk (fun j hj h3 => absurd (ia j 1 (by omega) (by omega) h3) (by omega))
                have hSc := keepO (ordM7 cs a 2 0 361 (aI (cpZ Z Y 361))) hSc hk (fun j hj h3 => absurd (ia (2 + j) 1 (by omega) (by omega) h3) (by omega))
                have hHs := keepO (ordM7 cs a 3 0 1805 (aI Hh)) hHs hk (fun j hj h3 => absurd (ia (3 + j) 1 (by omega) (by omega) h3) (by omega))
                have hSl := keepO (ordM7 cs a 4 0 722 (aI Sl)) hSl hk (fun j hj h3 => absurd (ia (4 + j) 1 (by omega) (by omega) h3) (by omega))
                have hKp := keepO (ordM7 cs a 5 2 2 (aI Kp)) hKp hk (fun j hj h3 => absurd (ia (5 + j) 1 (by omega) (by omega) h3) (by omega))
                have hGo := keepO (ordM7 cs a 6 2 24 (aI Go)) hGo hk (fun j hj h3 => absurd (ia (6 + j) 1 (by omega) (by omega) h3) (by omega))
                have hNt := keepO (ordM7 cs a 7 0 24 (aI Nt)) hNt hk (fun j hj h3 => absurd (ia (7 + j) 1 (by omega) (by omega) h3) (by omega))
                have hTx := keepO (ordM7 cs a 8 3 60 (aI X)) hTx hk (fun j hj h3 => absurd (ia (8 + j) 1 (by omega) (by omega) h3) (by omega))
                have hRd := keepO (ordM7 cs a 9 0 8 (cB Rd)) hRd hk (fun j hj h3 => absurd (ia (9 + j) 1 (by omega) (by omega) h3) (by omega))
                have hRw : va_P G vwCl (m7 cs a 1 0 361 (aI (updZ (swZ Y f (swV u d) i) (329 + i) (swV u d)))) H := hP1
                refine z_iinc (k := 5) (lv' := [(5, .int (zI (i + 1))), (0, .ref (a 0)), (1, .int (zI f)), (2, .int (zI t)), (3, .int (zI u)), (4, .int (zI d))]) hx hb dX7_swap_100 hl rfl (by decide) rfl (fun ls hl => ?_)
                refine lv_goto (tgt := 50) hx hb dX7_swap_103 (by decide) ?_
                exact ih (i + 1) H locs ⟨(by omega), hMo, (by rw [← swZ_s hI.1]; exact hRw), hSc, hHs, hSl, hKp, hGo, hNt, hTx, hRd⟩ hS (by omega) ls (lv_sub hl [1, 2, 3, 4, 5, 0] rfl)
          · skip
            refine z_bipush (n := -2) hx hb dX7_swap_40 (by decide) ?_
            exact w_iret hx hb hr hlk dX7_swap_42 hS (by rw [show swapF (S, (n, L), (tl, X), (k, V)) f t u d = _ from by unfold swapF; rw [if_neg (show ¬ (¬ ((0 ≤ f ∧ f < 32) ∧ (0 ≤ t ∧ t < 32) ∧ (0 ≤ u ∧ u < 4) ∧ (0 ≤ d ∧ d < 4))) by omega), if_pos (show t < f by omega)]]; exact ⟨rfl, ⟨Y, Z, Hh, Sl, Kp, Go, Nt, rn, Rd, rr, hHR, hSR, hMo, hRw, hSc, hHs, hSl, hKp, hGo, hNt, hTx, hRd⟩⟩)
        · skip
          simp only [decide_eq_false_iff_not] at c4
          refine z_iconst (n := -1) hx hb dX7_swap_33 ?_
          exact w_iret hx hb hr hlk dX7_swap_34 hS (by rw [show swapF (S, (n, L), (tl, X), (k, V)) f t u d = _ from by unfold swapF; rw [if_pos (show ¬ ((0 ≤ f ∧ f < 32) ∧ (0 ≤ t ∧ t < 32) ∧ (0 ≤ u ∧ u < 4) ∧ (0 ≤ d ∧ d < 4)) by omega)]]; exact ⟨rfl, ⟨Y, Z, Hh, Sl, Kp, Go, Nt, rn, Rd, rr, hHR, hSR, hMo, hRw, hSc, hHs, hSl, hKp, hGo, hNt, hTx, hRd⟩⟩)

set_option maxHeartbeats 4000000 in
set_option maxRecDepth 100000 in
theorem c_X7_setLimit (l : Launch) (G : va_G) (cs : Nat → ClassId) (a : Nat → Nat) (S : SS) (n : Int) (L : Nat → SS) (tl : Int) (X : Int → Int) (k : Nat → Bool) (V : Nat → SS) (v : Int) (ia : Inj a 10) (hA : AWF (S, (n, L), (tl, X), (k, V))) (r_v : -2147483648 ≤ v ∧ v < 2147483648) : MW l yX7_setLimit wsX7_setLimit { frames := 1, cells := 0, slots := 0, locals := 22 } G cs [.ref (a 0), .int (zI v)] (fun H => MI G cs a (S, (n, L), (tl, X), (k, V)) H) (fun vv H => vv = .int (zI (setLimitF (S, (n, L), (tl, X), (k, V)) v).1) ∧ MI G cs a (setLimitF (S, (n, L), (tl, X), (k, V)) v).2 H) (AX a 0 10) 0 0 := by
  refine m_intro (Pw := (fun H => MI G cs a (S, (n, L), (tl, X), (k, V)) H)) (cc := cX7_setLimit) (maxL := 3) (ret := some .int) RX7 (by decide) rfl rfl (Nat.le_of_ble_eq_true rfl) ?_
  intro pP eE sS mM below meth cC hx hb hr hts hown hml hlk hnm hPre hK ls hl
  have hl : lv_has ls 3 [(0, .ref (a 0)), (1, .int (zI v))] := hl
  have hMI := hPre
  have hS : va_S (AX a 0 10) sS.heap sS.heap [] := va_S.rf
  have hi7 : ∀ w ∈ u_ws RX7 TX7 12, w ∈ wsX7_setLimit := by decide +kernel
  obtain ⟨Y, Z, Hh, Sl, Kp, Go, Nt, rn, Rd, rr, hHR, hSR, hMo, hRw, hSc, hHs, hSl, hKp, hGo, hNt, hTx, hRd⟩ := hMI
  obtain ⟨wf, ⟨hn, hL9⟩, ⟨htl, hX⟩, hV9⟩ := hA
  have wf : WF S := wf
  have hn : 0 ≤ n ∧ n ≤ 5 := hn
  have htl : 0 ≤ tl ∧ tl ≤ 60 := htl
  have hX : ∀ j, 0 ≤ j → j < 60 → 0 ≤ X j ∧ X j < 65536 := hX
  have rr : RR S Y := rr
  have hHR : HR n L Hh := hHR
  have hSR : SR k V Kp Sl := hSR
  have hL9 : ∀ i : Nat, (i : Int) < n → WF (L i) := hL9
  have hV9 : ∀ s : Nat, s < 2 → k s = true → WF (V s) := hV9
  have hMo : va_P G vwCl (moW cs a n tl rn) sS.heap := hMo
  have hRw : va_P G vwCl (m7 cs a 1 0 361 (aI Y)) sS.heap := hRw
  have hSc : va_P G vwCl (m7 cs a 2 0 361 (aI Z)) sS.heap := hSc
  have hHs : va_P G vwCl (m7 cs a 3 0 1805 (aI Hh)) sS.heap := hHs
  have hSl : va_P G vwCl (m7 cs a 4 0 722 (aI Sl)) sS.heap := hSl
  have hKp : va_P G vwCl (m7 cs a 5 2 2 (aI Kp)) sS.heap := hKp
  have hGo : va_P G vwCl (m7 cs a 6 2 24 (aI Go)) sS.heap := hGo
  have hNt : va_P G vwCl (m7 cs a 7 0 24 (aI Nt)) sS.heap := hNt
  have hTx : va_P G vwCl (m7 cs a 8 3 60 (aI X)) sS.heap := hTx
  have hRd : va_P G vwCl (m7 cs a 9 0 8 (cB Rd)) sS.heap := hRd
  have wf0 := wf
  obtain ⟨w0, w1, w2, w3, w4, wP, wC, wS, wX⟩ := wf
  refine lv_iload_n hx hb dX7_setLimit_0 rfl (lv_at hl 1 rfl) ?_
  refine z_iconst (n := 1) hx hb dX7_setLimit_1 ?_
  refine z_bipush (n := 20) hx hb dX7_setLimit_2 (by decide) ?_
  refine z_ro (zrS (As := [.int (zI v), .int (zI 1), .int (zI 20)]) (rest := []) (Pw := fun _ => True) ⟨hx, hb, hml, hown, hts⟩ (c_X7_in l G cs v 1 20 (by omega) (by omega) (by omega)) gX7_setLimit_X7_in rfl qX7_in rfl rfl ⟨Nat.le_of_ble_eq_true rfl, Nat.le_of_ble_eq_true rfl⟩ trivial hK hl.1 rfl (Nat.le_of_ble_eq_true rfl) dX7_setLimit_4 ⟨Nat.le_of_ble_eq_true rfl, Nat.le_of_ble_eq_true rfl⟩) ?_
  refine z_bif_ne (tgt := 13) hx hb dX7_setLimit_7 (by decide) (fun c1 => ?_) (fun c1 => ?_)
  · skip
    simp only [decide_eq_true_eq] at c1
    refine lv_aload_n hx hb dX7_setLimit_13 rfl (lv_at hl 0 rfl) ?_
    refine z_v (zrV (As := []) (rest := []) (Pw := fun H => va_P G vwCl (moW cs a n tl rn) H ∧ va_P G vwCl (m7 cs a 1 0 361 (aI Y)) H ∧ va_P G vwCl (m7 cs a 2 0 361 (aI Z)) H) ⟨hx, hb, hml, hown, hts⟩ (c_X7_begin l G cs a Y Z n tl rn ia) gX7_setLimit_X7_begin rfl qX7_begin rfl rfl ⟨Nat.le_of_ble_eq_true rfl, Nat.le_of_ble_eq_true rfl⟩ ⟨hMo, hRw, hSc⟩ hK (va_recv hK.1 hMo (ci := 7) (q0 := 0) rfl rfl) hl.1 rfl (Nat.le_of_ble_eq_true rfl) dX7_setLimit_14 ⟨Nat.le_of_ble_eq_true rfl, Nat.le_of_ble_eq_true rfl⟩) hS (fun q h => ax_mono h (by decide) (by decide)) (fun q h => ax_mono h (by decide) (by decide)) (fun H locs hpost hle hk hS => ?_)
    have hSc' := hpost
    have hMo := keepO (ordMo cs a n tl rn) hMo hk (fun j hj ⟨i, h1, h2, h3⟩ => absurd (ia j i (by omega) (by omega) h3) (by omega))
    have hRw := keepO (ordM7 cs a 1 0 361 (aI Y)) hRw hk (fun j hj ⟨i, h1, h2, h3⟩ => absurd (ia (1 + j) i (by omega) (by omega) h3) (by omega))
    have hHs := keepO (ordM7 cs a 3 0 1805 (aI Hh)) hHs hk (fun j hj ⟨i, h1, h2, h3⟩ => absurd (ia (3 + j) i (by omega) (by omega) h3) (by omega))
    have hSl := keepO (ordM7 cs a 4 0 722 (aI Sl)) hSl hk (fun j hj ⟨i, h1, h2, h3⟩ => absurd (ia (4 + j) i (by omega) (by omega) h3) (by omega))
    have hKp := keepO (ordM7 cs a 5 2 2 (aI Kp)) hKp hk (fun j hj ⟨i, h1, h2, h3⟩ => absurd (ia (5 + j) i (by omega) (by omega) h3) (by omega))
    have hGo := keepO (ordM7 cs a 6 2 24 (aI Go)) hGo hk (fun j hj ⟨i, h1, h2, h3⟩ => absurd (ia (6 + j) i (by omega) (by omega) h3) (by omega))
    have hNt := keepO (ordM7 cs a 7 0 24 (aI Nt)) hNt hk (fun j hj ⟨i, h1, h2, h3⟩ => absurd (ia (7 + j) i (by omega) (by omega) h3) (by omega))
    have hTx := keepO (ordM7 cs a 8 3 60 (aI X)) hTx hk (fun j hj ⟨i, h1, h2, h3⟩ => absurd (ia (8 + j) i (by omega) (by omega) h3) (by omega))
    have hRd := keepO (ordM7 cs a 9 0 8 (cB Rd)) hRd hk (fun j hj ⟨i, h1, h2, h3⟩ => absurd (ia (9 + j) i (by omega) (by omega) h3) (by omega))
    have hSc : va_P G vwCl (m7 cs a 2 0 361 (aI (cpZ Z Y 361))) H := hSc'
    refine lv_aload_n hx hb dX7_setLimit_17 rfl (lv_at hl 0 rfl) ?_
    refine va_get (D := G) (ci := 7) (v := .ref ((sh a 1) 0)) (C := RX7) (T := TX7) (N := 12) hx hb hts hi7 hown hK.1 hMo 0 rfl rfl 0 (by decide) (hts (.fieldLink RX7 7 "SpriteLinesModel" "row" "[I") (by decide +kernel)) (fun _ h9 => h9) rfl dX7_setLimit_18 ?_
    refine z_iconst (n := 2) hx hb dX7_setLimit_21 ?_
    refine z_iald hx hb hK.1 hRw 0 0 (F := Y) rfl rfl (by omega) (by decide) dX7_setLimit_22 ?_
    refine z_topi (b := S 0 2) rr.1.2.2.1 ?_
    refine lv_istore_n (lv' := [(2, .int (zI (S 0 2))), (0, .ref (a 0)), (1, .int (zI v))]) hx hb dX7_setLimit_23 rfl hl (by decide) rfl (fun ls hl => ?_)
    refine lv_aload_n hx hb dX7_setLimit_24 rfl (lv_at hl 1 rfl) ?_
    refine va_get (D := G) (ci := 7) (v := .ref ((sh a 1) 0)) (C := RX7) (T := TX7) (N := 12) hx hb hts hi7 hown hK.1 hMo 0 rfl rfl 0 (by decide) (hts (.fieldLink RX7 7 "SpriteLinesModel" "row" "[I") (by decide +kernel)) (fun _ h9 => h9) rfl dX7_setLimit_25 ?_
    refine z_iconst (n := 2) hx hb dX7_setLimit_28 ?_
    refine lv_iload_n hx hb dX7_setLimit_29 rfl (lv_at hl 2 rfl) ?_
    refine z_iast hx hb hK.1 hRw (Ord.D (ordM7 cs a 1 0 361 (aI Y)) inj1) hS 0 0 (F := Y) rfl rfl (by omega) (by decide) ⟨1, by decide, by decide, rfl⟩ dX7_setLimit_30 (fun H locs hP1 hle hk hS => ?_)
    have hMo := keepO (ordMo cs a n tl rn) hMo hk (fun j hj h3 => absurd (ia j 1 (by omega) (by omega) h3) (by omega))
    have hSc := keepO (ordM7 cs a 2 0 361 (aI (cpZ Z Y 361))) hSc hk (fun j hj h3 => absurd (ia (2 + j) 1 (by omega) (by omega) h3) (by omega))
    have hHs := keepO (ordM7 cs a 3 0 1805 (aI Hh)) hHs hk (fun j hj h3 => absurd (ia (3 + j) 1 (by omega) (by omega) h3) (by omega))
    have hSl := keepO (ordM7 cs a 4 0 722 (aI Sl)) hSl hk (fun j hj h3 => absurd (ia (4 + j) 1 (by omega) (by omega) h3) (by omega))
    have hKp := keepO (ordM7 cs a 5 2 2 (aI Kp)) hKp hk (fun j hj h3 => absurd (ia (5 + j) 1 (by omega) (by omega) h3) (by omega))
    have hGo := keepO (ordM7 cs a 6 2 24 (aI Go)) hGo hk (fun j hj h3 => absurd (ia (6 + j) 1 (by omega) (by omega) h3) (by omega))
    have hNt := keepO (ordM7 cs a 7 0 24 (aI Nt)) hNt hk (fun j hj h3 => absurd (ia (7 + j) 1 (by omega) (by omega) h3) (by omega))
    have hTx := keepO (ordM7 cs a 8 3 60 (aI X)) hTx hk (fun j hj h3 => absurd (ia (8 + j) 1 (by omega) (by omega) h3) (by omega))
    have hRd := keepO (ordM7 cs a 9 0 8 (cB Rd)) hRd hk (fun j hj h3 => absurd (ia (9 + j) 1 (by omega) (by omega) h3) (by omega))
    have hRw : va_P G vwCl (m7 cs a 1 0 361 (aI (updZ Y 2 v))) H := hP1
    refine lv_aload_n hx hb dX7_setLimit_31 rfl (lv_at hl 1 rfl) ?_
    refine lv_iload_n hx hb dX7_setLimit_32 rfl (lv_at hl 0 rfl) ?_
    refine z_w (zrV (As := [.int (zI (S 0 2))]) (rest := []) (Pw := fun H => va_P G vwCl (moW cs a n tl rn) H ∧ va_P G vwCl (m7 cs a 2 0 361 (aI (cpZ Z Y 361))) H ∧ va_P G vwCl (m7 cs a 3 0 1805 (aI Hh)) H) ⟨hx, hb, hml, hown, hts⟩ (c_X7_done l G cs a n tl rn Hh (cpZ Z Y 361) (S 0 2) ia (by omega)) gX7_setLimit_X7_done rfl qX7_done rfl rfl ⟨Nat.le_of_ble_eq_true rfl, Nat.le_of_ble_eq_true rfl⟩ ⟨hMo, hSc, hHs⟩ hK (va_recv hK.1 hMo (ci := 7) (q0 := 0) rfl rfl) hl.1 rfl (Nat.le_of_ble_eq_true rfl) dX7_setLimit_33 ⟨Nat.le_of_ble_eq_true rfl, Nat.le_of_ble_eq_true rfl⟩) hS (fun q h => by rcases h with h | h <;> exact ax_mono h (by decide) (by decide)) (fun q h => by rcases h with h | h <;> exact ax_mono h (by decide) (by decide)) (fun v H locs hpost hle hk hS => ?_)
    obtain ⟨rfl, hMo', hHs'⟩ := hpost
    have hRw := keepO (ordM7 cs a 1 0 361 (aI (updZ Y 2 v))) hRw hk (fun j hj h0 => by rcases h0 with ⟨i, h1, h2, h3⟩ | ⟨i, h1, h2, h3⟩ <;> exact absurd (ia (1 + j) i (by omega) (by omega) h3) (by omega))
    have hSc := keepO (ordM7 cs a 2 0 361 (aI (cpZ Z Y 361))) hSc hk (fun j hj h0 => by rcases h0 with ⟨i, h1, h2, h3⟩ | ⟨i, h1, h2, h3⟩ <;> exact absurd (ia (2 + j) i (by omega) (by omega) h3) (by omega))
    have hSl := keepO (ordM7 cs a 4 0 722 (aI Sl)) hSl hk (fun j hj h0 => by rcases h0 with ⟨i, h1, h2, h3⟩ | ⟨i, h1, h2, h3⟩ <;> exact absurd (ia (4 + j) i (by omega) (by omega) h3) (by omega))
    have hKp := keepO (ordM7 cs a 5 2 2 (aI Kp)) hKp hk (fun j hj h0 => by rcases h0 with ⟨i, h1, h2, h3⟩ | ⟨i, h1, h2, h3⟩ <;> exact absurd (ia (5 + j) i (by omega) (by omega) h3) (by omega))
    have hGo := keepO (ordM7 cs a 6 2 24 (aI Go)) hGo hk (fun j hj h0 => by rcases h0 with ⟨i, h1, h2, h3⟩ | ⟨i, h1, h2, h3⟩ <;> exact absurd (ia (6 + j) i (by omega) (by omega) h3) (by omega))
    have hNt := keepO (ordM7 cs a 7 0 24 (aI Nt)) hNt hk (fun j hj h0 => by rcases h0 with ⟨i, h1, h2, h3⟩ | ⟨i, h1, h2, h3⟩ <;> exact absurd (ia (7 + j) i (by omega) (by omega) h3) (by omega))
    have hTx := keepO (ordM7 cs a 8 3 60 (aI X)) hTx hk (fun j hj h0 => by rcases h0 with ⟨i, h1, h2, h3⟩ | ⟨i, h1, h2, h3⟩ <;> exact absurd (ia (8 + j) i (by omega) (by omega) h3) (by omega))
    have hRd := keepO (ordM7 cs a 9 0 8 (cB Rd)) hRd hk (fun j hj h0 => by rcases h0 with ⟨i, h1, h2, h3⟩ | ⟨i, h1, h2, h3⟩ <;> exact absurd (ia (9 + j) i (by omega) (by omega) h3) (by omega))
    have hMo : va_P G vwCl (moW cs a (remN n) tl rn) H := hMo'
    have hHs : va_P G vwCl (m7 cs a 3 0 1805 (aI (doneH n Hh (cpZ Z Y 361)))) H := hHs'
    exact w_iret hx hb hr hlk dX7_setLimit_36 hS (by rw [show setLimitF (S, (n, L), (tl, X), (k, V)) v = _ from by unfold setLimitF; rw [if_neg (show ¬ (¬ (1 ≤ v ∧ v ≤ 20)) by omega)]]; exact ⟨rfl, ⟨updZ Y 2 v, cpZ Z Y 361, doneH n Hh (cpZ Z Y 361), Sl, Kp, Go, Nt, rn, Rd, rr_02 (S := S) wf0 rr, (hr_done (S := S) wf0 hL9 hHR rr hn), hSR, hMo, hRw, hSc, hHs, hSl, hKp, hGo, hNt, hTx, hRd⟩⟩)
  · skip
    simp only [decide_eq_false_iff_not] at c1
    refine z_bipush (n := -2) hx hb dX7_setLimit_10 (by decide) ?_
    exact w_iret hx hb hr hlk dX7_setLimit_12 hS (by rw [show setLimitF (S, (n, L), (tl, X), (k, V)) v = _ from by unfold setLimitF; rw [if_pos (show ¬ (1 ≤ v ∧ v ≤ 20) by omega)]]; exact ⟨rfl, ⟨Y, Z, Hh, Sl, Kp, Go, Nt, rn, Rd, rr, hHR, hSR, hMo, hRw, hSc, hHs, hSl, hKp, hGo, hNt, hTx, hRd⟩⟩)

set_option maxHeartbeats 4000000 in
set_option maxRecDepth 100000 in
theorem c_X7_setStride (l : Launch) (G : va_G) (cs : Nat → ClassId) (a : Nat → Nat) (S : SS) (n : Int) (L : Nat → SS) (tl : Int) (X : Int → Int) (k : Nat → Bool) (V : Nat → SS) (v : Int) (ia : Inj a 10) (hA : AWF (S, (n, L), (tl, X), (k, V))) (r_v : -2147483648 ≤ v ∧ v < 2147483648) : MW l yX7_setStride wsX7_setStride { frames := 1, cells := 0, slots := 0, locals := 22 } G cs [.ref (a 0), .int (zI v)] (fun H => MI G cs a (S, (n, L), (tl, X), (k, V)) H) (fun vv H => vv = .int (zI (setStrideF (S, (n, L), (tl, X), (k, V)) v).1) ∧ MI G cs a (setStrideF (S, (n, L), (tl, X), (k, V)) v).2 H) (AX a 0 10) 0 0 := by
  refine m_intro (Pw := (fun H => MI G cs a (S, (n, L), (tl, X), (k, V)) H)) (cc := cX7_setStride) (maxL := 3) (ret := some .int) RX7 (by decide) rfl rfl (Nat.le_of_ble_eq_true rfl) ?_
  intro pP eE sS mM below meth cC hx hb hr hts hown hml hlk hnm hPre hK ls hl
  have hl : lv_has ls 3 [(0, .ref (a 0)), (1, .int (zI v))] := hl
  have hMI := hPre
  have hS : va_S (AX a 0 10) sS.heap sS.heap [] := va_S.rf
  have hi7 : ∀ w ∈ u_ws RX7 TX7 12, w ∈ wsX7_setStride := by decide +kernel
  obtain ⟨Y, Z, Hh, Sl, Kp, Go, Nt, rn, Rd, rr, hHR, hSR, hMo, hRw, hSc, hHs, hSl, hKp, hGo, hNt, hTx, hRd⟩ := hMI
  obtain ⟨wf, ⟨hn, hL9⟩, ⟨htl, hX⟩, hV9⟩ := hA
  have wf : WF S := wf
  have hn : 0 ≤ n ∧ n ≤ 5 := hn
  have htl : 0 ≤ tl ∧ tl ≤ 60 := htl
  have hX : ∀ j, 0 ≤ j → j < 60 → 0 ≤ X j ∧ X j < 65536 := hX
  have rr : RR S Y := rr
  have hHR : HR n L Hh := hHR
  have hSR : SR k V Kp Sl := hSR
  have hL9 : ∀ i : Nat, (i : Int) < n → WF (L i) := hL9
  have hV9 : ∀ s : Nat, s < 2 → k s = true → WF (V s) := hV9
  have hMo : va_P G vwCl (moW cs a n tl rn) sS.heap := hMo
  have hRw : va_P G vwCl (m7 cs a 1 0 361 (aI Y)) sS.heap := hRw
  have hSc : va_P G vwCl (m7 cs a 2 0 361 (aI Z)) sS.heap := hSc
  have hHs : va_P G vwCl (m7 cs a 3 0 1805 (aI Hh)) sS.heap := hHs
  have hSl : va_P G vwCl (m7 cs a 4 0 722 (aI Sl)) sS.heap := hSl
  have hKp : va_P G vwCl (m7 cs a 5 2 2 (aI Kp)) sS.heap := hKp
  have hGo : va_P G vwCl (m7 cs a 6 2 24 (aI Go)) sS.heap := hGo
  have hNt : va_P G vwCl (m7 cs a 7 0 24 (aI Nt)) sS.heap := hNt
  have hTx : va_P G vwCl (m7 cs a 8 3 60 (aI X)) sS.heap := hTx
  have hRd : va_P G vwCl (m7 cs a 9 0 8 (cB Rd)) sS.heap := hRd
  have wf0 := wf
  obtain ⟨w0, w1, w2, w3, w4, wP, wC, wS, wX⟩ := wf
  refine lv_iload_n hx hb dX7_setStride_0 rfl (lv_at hl 1 rfl) ?_
  refine z_iconst (n := 0) hx hb dX7_setStride_1 ?_
  refine z_bipush (n := 19) hx hb dX7_setStride_2 (by decide) ?_
  refine z_ro (zrS (As := [.int (zI v), .int (zI 0), .int (zI 19)]) (rest := []) (Pw := fun _ => True) ⟨hx, hb, hml, hown, hts⟩ (c_X7_in l G cs v 0 19 (by omega) (by omega) (by omega)) gX7_setStride_X7_in rfl qX7_in rfl rfl ⟨Nat.le_of_ble_eq_true rfl, Nat.le_of_ble_eq_true rfl⟩ trivial hK hl.1 rfl (Nat.le_of_ble_eq_true rfl) dX7_setStride_4 ⟨Nat.le_of_ble_eq_true rfl, Nat.le_of_ble_eq_true rfl⟩) ?_
  refine z_bif_ne (tgt := 13) hx hb dX7_setStride_7 (by decide) (fun c1 => ?_) (fun c1 => ?_)
  · skip
    simp only [decide_eq_true_eq] at c1
    refine lv_aload_n hx hb dX7_setStride_13 rfl (lv_at hl 0 rfl) ?_
    refine z_v (zrV (As := []) (rest := []) (Pw := fun H => va_P G vwCl (moW cs a n tl rn) H ∧ va_P G vwCl (m7 cs a 1 0 361 (aI Y)) H ∧ va_P G vwCl (m7 cs a 2 0 361 (aI Z)) H) ⟨hx, hb, hml, hown, hts⟩ (c_X7_begin l G cs a Y Z n tl rn ia) gX7_setStride_X7_begin rfl qX7_begin rfl rfl ⟨Nat.le_of_ble_eq_true rfl, Nat.le_of_ble_eq_true rfl⟩ ⟨hMo, hRw, hSc⟩ hK (va_recv hK.1 hMo (ci := 7) (q0 := 0) rfl rfl) hl.1 rfl (Nat.le_of_ble_eq_true rfl) dX7_setStride_14 ⟨Nat.le_of_ble_eq_true rfl, Nat.le_of_ble_eq_true rfl⟩) hS (fun q h => ax_mono h (by decide) (by decide)) (fun q h => ax_mono h (by decide) (by decide)) (fun H locs hpost hle hk hS => ?_)
    have hSc' := hpost
    have hMo := keepO (ordMo cs a n tl rn) hMo hk (fun j hj ⟨i, h1, h2, h3⟩ => absurd (ia j i (by omega) (by omega) h3) (by omega))
    have hRw := keepO (ordM7 cs a 1 0 361 (aI Y)) hRw hk (fun j hj ⟨i, h1, h2, h3⟩ => absurd (ia (1 + j) i (by omega) (by omega) h3) (by omega))
    have hHs := keepO (ordM7 cs a 3 0 1805 (aI Hh)) hHs hk (fun j hj ⟨i, h1, h2, h3⟩ => absurd (ia (3 + j) i (by omega) (by omega) h3) (by omega))
    have hSl := keepO (ordM7 cs a 4 0 722 (aI Sl)) hSl hk (fun j hj ⟨i, h1, h2, h3⟩ => absurd (ia (4 + j) i (by omega) (by omega) h3) (by omega))
    have hKp := keepO (ordM7 cs a 5 2 2 (aI Kp)) hKp hk (fun j hj ⟨i, h1, h2, h3⟩ => absurd (ia (5 + j) i (by omega) (by omega) h3) (by omega))
    have hGo := keepO (ordM7 cs a 6 2 24 (aI Go)) hGo hk (fun j hj ⟨i, h1, h2, h3⟩ => absurd (ia (6 + j) i (by omega) (by omega) h3) (by omega))
    have hNt := keepO (ordM7 cs a 7 0 24 (aI Nt)) hNt hk (fun j hj ⟨i, h1, h2, h3⟩ => absurd (ia (7 + j) i (by omega) (by omega) h3) (by omega))
    have hTx := keepO (ordM7 cs a 8 3 60 (aI X)) hTx hk (fun j hj ⟨i, h1, h2, h3⟩ => absurd (ia (8 + j) i (by omega) (by omega) h3) (by omega))
    have hRd := keepO (ordM7 cs a 9 0 8 (cB Rd)) hRd hk (fun j hj ⟨i, h1, h2, h3⟩ => absurd (ia (9 + j) i (by omega) (by omega) h3) (by omega))
    have hSc : va_P G vwCl (m7 cs a 2 0 361 (aI (cpZ Z Y 361))) H := hSc'
    refine lv_aload_n hx hb dX7_setStride_17 rfl (lv_at hl 0 rfl) ?_
    refine va_get (D := G) (ci := 7) (v := .ref ((sh a 1) 0)) (C := RX7) (T := TX7) (N := 12) hx hb hts hi7 hown hK.1 hMo 0 rfl rfl 0 (by decide) (hts (.fieldLink RX7 7 "SpriteLinesModel" "row" "[I") (by decide +kernel)) (fun _ h9 => h9) rfl dX7_setStride_18 ?_
    refine z_iconst (n := 3) hx hb dX7_setStride_21 ?_
    refine z_iald hx hb hK.1 hRw 0 0 (F := Y) rfl rfl (by omega) (by decide) dX7_setStride_22 ?_
    refine z_topi (b := S 0 3) rr.1.2.2.2.1 ?_
    refine lv_istore_n (lv' := [(2, .int (zI (S 0 3))), (0, .ref (a 0)), (1, .int (zI v))]) hx hb dX7_setStride_23 rfl hl (by decide) rfl (fun ls hl => ?_)
    refine lv_aload_n hx hb dX7_setStride_24 rfl (lv_at hl 1 rfl) ?_
    refine va_get (D := G) (ci := 7) (v := .ref ((sh a 1) 0)) (C := RX7) (T := TX7) (N := 12) hx hb hts hi7 hown hK.1 hMo 0 rfl rfl 0 (by decide) (hts (.fieldLink RX7 7 "SpriteLinesModel" "row" "[I") (by decide +kernel)) (fun _ h9 => h9) rfl dX7_setStride_25 ?_
    refine z_iconst (n := 3) hx hb dX7_setStride_28 ?_
    refine lv_iload_n hx hb dX7_setStride_29 rfl (lv_at hl 2 rfl) ?_
    refine z_iast hx hb hK.1 hRw (Ord.D (ordM7 cs a 1 0 361 (aI Y)) inj1) hS 0 0 (F := Y) rfl rfl (by omega) (by decide) ⟨1, by decide, by decide, rfl⟩ dX7_setStride_30 (fun H locs hP1 hle hk hS => ?_)
    have hMo := keepO (ordMo cs a n tl rn) hMo hk (fun j hj h3 => absurd (ia j 1 (by omega) (by omega) h3) (by omega))
    have hSc := keepO (ordM7 cs a 2 0 361 (aI (cpZ Z Y 361))) hSc hk (fun j hj h3 => absurd (ia (2 + j) 1 (by omega) (by omega) h3) (by omega))
    have hHs := keepO (ordM7 cs a 3 0 1805 (aI Hh)) hHs hk (fun j hj h3 => absurd (ia (3 + j) 1 (by omega) (by omega) h3) (by omega))
    have hSl := keepO (ordM7 cs a 4 0 722 (aI Sl)) hSl hk (fun j hj h3 => absurd (ia (4 + j) 1 (by omega) (by omega) h3) (by omega))
    have hKp := keepO (ordM7 cs a 5 2 2 (aI Kp)) hKp hk (fun j hj h3 => absurd (ia (5 + j) 1 (by omega) (by omega) h3) (by omega))
    have hGo := keepO (ordM7 cs a 6 2 24 (aI Go)) hGo hk (fun j hj h3 => absurd (ia (6 + j) 1 (by omega) (by omega) h3) (by omega))
    have hNt := keepO (ordM7 cs a 7 0 24 (aI Nt)) hNt hk (fun j hj h3 => absurd (ia (7 + j) 1 (by omega) (by omega) h3) (by omega))
    have hTx := keepO (ordM7 cs a 8 3 60 (aI X)) hTx hk (fun j hj h3 => absurd (ia (8 + j) 1 (by omega) (by omega) h3) (by omega))
    have hRd := keepO (ordM7 cs a 9 0 8 (cB Rd)) hRd hk (fun j hj h3 => absurd (ia (9 + j) 1 (by omega) (by omega) h3) (by omega))
    have hRw : va_P G vwCl (m7 cs a 1 0 361 (aI (updZ Y 3 v))) H := hP1
    refine lv_aload_n hx hb dX7_setStride_31 rfl (lv_at hl 1 rfl) ?_
    refine lv_iload_n hx hb dX7_setStride_32 rfl (lv_at hl 0 rfl) ?_
    refine z_w (zrV (As := [.int (zI (S 0 3))]) (rest := []) (Pw := fun H => va_P G vwCl (moW cs a n tl rn) H ∧ va_P G vwCl (m7 cs a 2 0 361 (aI (cpZ Z Y 361))) H ∧ va_P G vwCl (m7 cs a 3 0 1805 (aI Hh)) H) ⟨hx, hb, hml, hown, hts⟩ (c_X7_done l G cs a n tl rn Hh (cpZ Z Y 361) (S 0 3) ia (by omega)) gX7_setStride_X7_done rfl qX7_done rfl rfl ⟨Nat.le_of_ble_eq_true rfl, Nat.le_of_ble_eq_true rfl⟩ ⟨hMo, hSc, hHs⟩ hK (va_recv hK.1 hMo (ci := 7) (q0 := 0) rfl rfl) hl.1 rfl (Nat.le_of_ble_eq_true rfl) dX7_setStride_33 ⟨Nat.le_of_ble_eq_true rfl, Nat.le_of_ble_eq_true rfl⟩) hS (fun q h => by rcases h with h | h <;> exact ax_mono h (by decide) (by decide)) (fun q h => by rcases h with h | h <;> exact ax_mono h (by decide) (by decide)) (fun v H locs hpost hle hk hS => ?_)
    obtain ⟨rfl, hMo', hHs'⟩ := hpost
    have hRw := keepO (ordM7 cs a 1 0 361 (aI (updZ Y 3 v))) hRw hk (fun j hj h0 => by rcases h0 with ⟨i, h1, h2, h3⟩ | ⟨i, h1, h2, h3⟩ <;> exact absurd (ia (1 + j) i (by omega) (by omega) h3) (by omega))
    have hSc := keepO (ordM7 cs a 2 0 361 (aI (cpZ Z Y 361))) hSc hk (fun j hj h0 => by rcases h0 with ⟨i, h1, h2, h3⟩ | ⟨i, h1, h2, h3⟩ <;> exact absurd (ia (2 + j) i (by omega) (by omega) h3) (by omega))
    have hSl := keepO (ordM7 cs a 4 0 722 (aI Sl)) hSl hk (fun j hj h0 => by rcases h0 with ⟨i, h1, h2, h3⟩ | ⟨i, h1, h2, h3⟩ <;> exact absurd (ia (4 + j) i (by omega) (by omega) h3) (by omega))
    have hKp := keepO (ordM7 cs a 5 2 2 (aI Kp)) hKp hk (fun j hj h0 => by rcases h0 with ⟨i, h1, h2, h3⟩ | ⟨i, h1, h2, h3⟩ <;> exact absurd (ia (5 + j) i (by omega) (by omega) h3) (by omega))
    have hGo := keepO (ordM7 cs a 6 2 24 (aI Go)) hGo hk (fun j hj h0 => by rcases h0 with ⟨i, h1, h2, h3⟩ | ⟨i, h1, h2, h3⟩ <;> exact absurd (ia (6 + j) i (by omega) (by omega) h3) (by omega))
    have hNt := keepO (ordM7 cs a 7 0 24 (aI Nt)) hNt hk (fun j hj h0 => by rcases h0 with ⟨i, h1, h2, h3⟩ | ⟨i, h1, h2, h3⟩ <;> exact absurd (ia (7 + j) i (by omega) (by omega) h3) (by omega))
    have hTx := keepO (ordM7 cs a 8 3 60 (aI X)) hTx hk (fun j hj h0 => by rcases h0 with ⟨i, h1, h2, h3⟩ | ⟨i, h1, h2, h3⟩ <;> exact absurd (ia (8 + j) i (by omega) (by omega) h3) (by omega))
    have hRd := keepO (ordM7 cs a 9 0 8 (cB Rd)) hRd hk (fun j hj h0 => by rcases h0 with ⟨i, h1, h2, h3⟩ | ⟨i, h1, h2, h3⟩ <;> exact absurd (ia (9 + j) i (by omega) (by omega) h3) (by omega))
    have hMo : va_P G vwCl (moW cs a (remN n) tl rn) H := hMo'
    have hHs : va_P G vwCl (m7 cs a 3 0 1805 (aI (doneH n Hh (cpZ Z Y 361)))) H := hHs'
    exact w_iret hx hb hr hlk dX7_setStride_36 hS (by rw [show setStrideF (S, (n, L), (tl, X), (k, V)) v = _ from by unfold setStrideF; rw [if_neg (show ¬ (¬ (0 ≤ v ∧ v < 20)) by omega)]]; exact ⟨rfl, ⟨updZ Y 3 v, cpZ Z Y 361, doneH n Hh (cpZ Z Y 361), Sl, Kp, Go, Nt, rn, Rd, rr_03 (S := S) wf0 rr, (hr_done (S := S) wf0 hL9 hHR rr hn), hSR, hMo, hRw, hSc, hHs, hSl, hKp, hGo, hNt, hTx, hRd⟩⟩)
  · skip
    simp only [decide_eq_false_iff_not] at c1
    refine z_bipush (n := -2) hx hb dX7_setStride_10 (by decide) ?_
    exact w_iret hx hb hr hlk dX7_setStride_12 hS (by rw [show setStrideF (S, (n, L), (tl, X), (k, V)) v = _ from by unfold setStrideF; rw [if_pos (show ¬ (0 ≤ v ∧ v < 20) by omega)]]; exact ⟨rfl, ⟨Y, Z, Hh, Sl, Kp, Go, Nt, rn, Rd, rr, hHR, hSR, hMo, hRw, hSc, hHs, hSl, hKp, hGo, hNt, hTx, hRd⟩⟩)

set_option maxHeartbeats 4000000 in
set_option maxRecDepth 100000 in
theorem c_X7_next (l : Launch) (G : va_G) (cs : Nat → ClassId) (a : Nat → Nat) (S : SS) (n : Int) (L : Nat → SS) (tl : Int) (X : Int → Int) (k : Nat → Bool) (V : Nat → SS) (v : Int) (ia : Inj a 10) (hA : AWF (S, (n, L), (tl, X), (k, V))) (r_v : -2147483648 ≤ v ∧ v < 2147483648) : MW l yX7_next wsX7_next { frames := 1, cells := 0, slots := 0, locals := 22 } G cs [.ref (a 0), .int (zI v)] (fun H => MI G cs a (S, (n, L), (tl, X), (k, V)) H) (fun vv H => vv = .int (zI (nextF (S, (n, L), (tl, X), (k, V)) v).1) ∧ MI G cs a (nextF (S, (n, L), (tl, X), (k, V)) v).2 H) (AX a 0 10) 0 0 := by
  refine m_intro (Pw := (fun H => MI G cs a (S, (n, L), (tl, X), (k, V)) H)) (cc := cX7_next) (maxL := 2) (ret := some .int) RX7 (by decide) rfl rfl (Nat.le_of_ble_eq_true rfl) ?_
  intro pP eE sS mM below meth cC hx hb hr hts hown hml hlk hnm hPre hK ls hl
  have hl : lv_has ls 2 [(0, .ref (a 0)), (1, .int (zI v))] := hl
  have hMI := hPre
  have hS : va_S (AX a 0 10) sS.heap sS.heap [] := va_S.rf
  have hi7 : ∀ w ∈ u_ws RX7 TX7 12, w ∈ wsX7_next := by decide +kernel
  obtain ⟨Y, Z, Hh, Sl, Kp, Go, Nt, rn, Rd, rr, hHR, hSR, hMo, hRw, hSc, hHs, hSl, hKp, hGo, hNt, hTx, hRd⟩ := hMI
  obtain ⟨wf, ⟨hn, hL9⟩, ⟨htl, hX⟩, hV9⟩ := hA
  have wf : WF S := wf
  have hn : 0 ≤ n ∧ n ≤ 5 := hn
  have htl : 0 ≤ tl ∧ tl ≤ 60 := htl
  have hX : ∀ j, 0 ≤ j → j < 60 → 0 ≤ X j ∧ X j < 65536 := hX
  have rr : RR S Y := rr
  have hHR : HR n L Hh := hHR
  have hSR : SR k V Kp Sl := hSR
  have hL9 : ∀ i : Nat, (i : Int) < n → WF (L i) := hL9
  have hV9 : ∀ s : Nat, s < 2 → k s = true → WF (V s) := hV9
  have hMo : va_P G vwCl (moW cs a n tl rn) sS.heap := hMo
  have hRw : va_P G vwCl (m7 cs a 1 0 361 (aI Y)) sS.heap := hRw
  have hSc : va_P G vwCl (m7 cs a 2 0 361 (aI Z)) sS.heap := hSc
  have hHs : va_P G vwCl (m7 cs a 3 0 1805 (aI Hh)) sS.heap := hHs
  have hSl : va_P G vwCl (m7 cs a 4 0 722 (aI Sl)) sS.heap := hSl
  have hKp : va_P G vwCl (m7 cs a 5 2 2 (aI Kp)) sS.heap := hKp
  have hGo : va_P G vwCl (m7 cs a 6 2 24 (aI Go)) sS.heap := hGo
  have hNt : va_P G vwCl (m7 cs a 7 0 24 (aI Nt)) sS.heap := hNt
  have hTx : va_P G vwCl (m7 cs a 8 3 60 (aI X)) sS.heap := hTx
  have hRd : va_P G vwCl (m7 cs a 9 0 8 (cB Rd)) sS.heap := hRd
  have wf0 := wf
  obtain ⟨w0, w1, w2, w3, w4, wP, wC, wS, wX⟩ := wf
  refine lv_iload_n hx hb dX7_next_0 rfl (lv_at hl 1 rfl) ?_
  refine z_iconst (n := 1) hx hb dX7_next_1 ?_
  refine lv_ldc (v := (100000)) hx hb hown (hts (.constant RX7 128 (100000)) (by decide +kernel)) dX7_next_2 ?_
  refine z_top (v' := .int (zI (100000))) rfl ?_
  refine z_ro (zrS (As := [.int (zI v), .int (zI 1), .int (zI (100000))]) (rest := []) (Pw := fun _ => True) ⟨hx, hb, hml, hown, hts⟩ (c_X7_in l G cs v 1 (100000) (by omega) (by omega) (by omega)) gX7_next_X7_in rfl qX7_in rfl rfl ⟨Nat.le_of_ble_eq_true rfl, Nat.le_of_ble_eq_true rfl⟩ trivial hK hl.1 rfl (Nat.le_of_ble_eq_true rfl) dX7_next_4 ⟨Nat.le_of_ble_eq_true rfl, Nat.le_of_ble_eq_true rfl⟩) ?_
  refine z_bif_ne (tgt := 13) hx hb dX7_next_7 (by decide) (fun c1 => ?_) (fun c1 => ?_)
  · skip
    simp only [decide_eq_true_eq] at c1
    refine lv_aload_n hx hb dX7_next_13 rfl (lv_at hl 0 rfl) ?_
    refine va_get (D := G) (ci := 7) (v := .ref ((sh a 1) 0)) (C := RX7) (T := TX7) (N := 12) hx hb hts hi7 hown hK.1 hMo 0 rfl rfl 0 (by decide) (hts (.fieldLink RX7 7 "SpriteLinesModel" "row" "[I") (by decide +kernel)) (fun _ h9 => h9) rfl dX7_next_14 ?_
    refine z_iconst (n := 4) hx hb dX7_next_17 ?_
    refine z_iald hx hb hK.1 hRw 0 0 (F := Y) rfl rfl (by omega) (by decide) dX7_next_18 ?_
    refine z_topi (b := S 0 4) rr.1.2.2.2.2 ?_
    refine lv_iload_n hx hb dX7_next_19 rfl (lv_at hl 1 rfl) ?_
    refine z_iadd hx hb dX7_next_20 ?_
    refine lv_ldc (v := (1000000)) hx hb hown (hts (.constant RX7 129 (1000000)) (by decide +kernel)) dX7_next_21 ?_
    refine z_top (v' := .int (zI (1000000))) rfl ?_
    refine z_icmp_le (tgt := 29) hx hb dX7_next_23 (by decide) (by omega) (by omega) (fun c1 => ?_) (fun c1 => ?_)
    · skip
      refine lv_aload_n hx hb dX7_next_29 rfl (lv_at hl 0 rfl) ?_
      refine z_v (zrV (As := []) (rest := []) (Pw := fun H => va_P G vwCl (moW cs a n tl rn) H ∧ va_P G vwCl (m7 cs a 1 0 361 (aI Y)) H ∧ va_P G vwCl (m7 cs a 2 0 361 (aI Z)) H) ⟨hx, hb, hml, hown, hts⟩ (c_X7_begin l G cs a Y Z n tl rn ia) gX7_next_X7_begin rfl qX7_begin rfl rfl ⟨Nat.le_of_ble_eq_true rfl, Nat.le_of_ble_eq_true rfl⟩ ⟨hMo, hRw, hSc⟩ hK (va_recv hK.1 hMo (ci := 7) (q0 := 0) rfl rfl) hl.1 rfl (Nat.le_of_ble_eq_true rfl) dX7_next_30 ⟨Nat.le_of_ble_eq_true rfl, Nat.le_of_ble_eq_true rfl⟩) hS (fun q h => ax_mono h (by decide) (by decide)) (fun q h => ax_mono h (by decide) (by decide)) (fun H locs hpost hle hk hS => ?_)
      have hSc' := hpost
      have hMo := keepO (ordMo cs a n tl rn) hMo hk (fun j hj ⟨i, h1, h2, h3⟩ => absurd (ia j i (by omega) (by omega) h3) (by omega))
      have hRw := keepO (ordM7 cs a 1 0 361 (aI Y)) hRw hk (fun j hj ⟨i, h1, h2, h3⟩ => absurd (ia (1 + j) i (by omega) (by omega) h3) (by omega))
      have hHs := keepO (ordM7 cs a 3 0 1805 (aI Hh)) hHs hk (fun j hj ⟨i, h1, h2, h3⟩ => absurd (ia (3 + j) i (by omega) (by omega) h3) (by omega))
      have hSl := keepO (ordM7 cs a 4 0 722 (aI Sl)) hSl hk (fun j hj ⟨i, h1, h2, h3⟩ => absurd (ia (4 + j) i (by omega) (by omega) h3) (by omega))
      have hKp := keepO (ordM7 cs a 5 2 2 (aI Kp)) hKp hk (fun j hj ⟨i, h1, h2, h3⟩ => absurd (ia (5 + j) i (by omega) (by omega) h3) (by omega))
      have hGo := keepO (ordM7 cs a 6 2 24 (aI Go)) hGo hk (fun j hj ⟨i, h1, h2, h3⟩ => absurd (ia (6 + j) i (by omega) (by omega) h3) (by omega))
      have hNt := keepO (ordM7 cs a 7 0 24 (aI Nt)) hNt hk (fun j hj ⟨i, h1, h2, h3⟩ => absurd (ia (7 + j) i (by omega) (by omega) h3) (by omega))
      have hTx := keepO (ordM7 cs a 8 3 60 (aI X)) hTx hk (fun j hj ⟨i, h1, h2, h3⟩ => absurd (ia (8 + j) i (by omega) (by omega) h3) (by omega))
      have hRd := keepO (ordM7 cs a 9 0 8 (cB Rd)) hRd hk (fun j hj ⟨i, h1, h2, h3⟩ => absurd (ia (9 + j) i (by omega) (by omega) h3) (by omega))
      have hSc : va_P G vwCl (m7 cs a 2 0 361 (aI (cpZ Z Y 361))) H := hSc'
      refine lv_aload_n hx hb dX7_next_33 rfl (lv_at hl 0 rfl) ?_
      refine va_get (D := G) (ci := 7) (v := .ref ((sh a 1) 0)) (C := RX7) (T := TX7) (N := 12) hx hb hts hi7 hown hK.1 hMo 0 rfl rfl 0 (by decide) (hts (.fieldLink RX7 7 "SpriteLinesModel" "row" "[I") (by decide +kernel)) (fun _ h9 => h9) rfl dX7_next_34 ?_
      refine z_iconst (n := 4) hx hb dX7_next_37 ?_
      refine lv_dup2_11 hx hb dX7_next_38 rfl rfl ?_
      refine z_iald hx hb hK.1 hRw 0 0 (F := Y) rfl rfl (by omega) (by decide) dX7_next_39 ?_
      refine z_topi (b := S 0 4) rr.1.2.2.2.2 ?_
      refine lv_iload_n hx hb dX7_next_40 rfl (lv_at hl 1 rfl) ?_
      refine z_iadd hx hb dX7_next_41 ?_
      refine z_iast hx hb hK.1 hRw (Ord.D (ordM7 cs a 1 0 361 (aI Y)) inj1) hS 0 0 (F := Y) rfl rfl (by omega) (by decide) ⟨1, by decide, by decide, rfl⟩ dX7_next_42 (fun H locs hP1 hle hk hS => ?_)
      have hMo := keepO (ordMo cs a n tl rn) hMo hk (fun j hj h3 => absurd (ia j 1 (by omega) (by omega) h3) (by omega))
      have hSc := keepO (ordM7 cs a 2 0 361 (aI (cpZ Z Y 361))) hSc hk (fun j hj h3 => absurd (ia (2 + j) 1 (by omega) (by omega) h3) (by omega))
      have hHs := keepO (ordM7 cs a 3 0 1805 (aI Hh)) hHs hk (fun j hj h3 => absurd (ia (3 + j) 1 (by omega) (by omega) h3) (by omega))
      have hSl := keepO (ordM7 cs a 4 0 722 (aI Sl)) hSl hk (fun j hj h3 => absurd (ia (4 + j) 1 (by omega) (by omega) h3) (by omega))
      have hKp := keepO (ordM7 cs a 5 2 2 (aI Kp)) hKp hk (fun j hj h3 => absurd (ia (5 + j) 1 (by omega) (by omega) h3) (by omega))
      have hGo := keepO (ordM7 cs a 6 2 24 (aI Go)) hGo hk (fun j hj h3 => absurd (ia (6 + j) 1 (by omega) (by omega) h3) (by omega))
      have hNt := keepO (ordM7 cs a 7 0 24 (aI Nt)) hNt hk (fun j hj h3 => absurd (ia (7 + j) 1 (by omega) (by omega) h3) (by omega))
      have hTx := keepO (ordM7 cs a 8 3 60 (aI X)) hTx hk (fun j hj h3 => absurd (ia (8 + j) 1 (by omega) (by omega) h3) (by omega))
      have hRd := keepO (ordM7 cs a 9 0 8 (cB Rd)) hRd hk (fun j hj h3 => absurd (ia (9 + j) 1 (by omega) (by omega) h3) (by omega))
      have hRw : va_P G vwCl (m7 cs a 1 0 361 (aI (updZ Y 4 ((S 0 4) + v)))) H := hP1
      refine lv_aload_n hx hb dX7_next_43 rfl (lv_at hl 0 rfl) ?_
      refine lv_aload_n hx hb dX7_next_44 rfl (lv_at hl 0 rfl) ?_
      refine va_get (D := G) (ci := 7) (v := .ref ((sh a 1) 0)) (C := RX7) (T := TX7) (N := 12) hx hb hts hi7 hown hK.1 hMo 0 rfl rfl 0 (by decide) (hts (.fieldLink RX7 7 "SpriteLinesModel" "row" "[I") (by decide +kernel)) (fun _ h9 => h9) rfl dX7_next_45 ?_
      refine z_iconst (n := 4) hx hb dX7_next_48 ?_
      refine z_iald hx hb hK.1 hRw 0 0 (F := (updZ Y 4 ((S 0 4) + v))) rfl rfl (by omega) (by decide) dX7_next_49 ?_
      refine z_topi (b := S 0 4 + v) updZ_s ?_
      refine z_w (zrV (As := [.int (zI (S 0 4 + v))]) (rest := []) (Pw := fun H => va_P G vwCl (moW cs a n tl rn) H ∧ va_P G vwCl (m7 cs a 2 0 361 (aI (cpZ Z Y 361))) H ∧ va_P G vwCl (m7 cs a 3 0 1805 (aI Hh)) H) ⟨hx, hb, hml, hown, hts⟩ (c_X7_done l G cs a n tl rn Hh (cpZ Z Y 361) (S 0 4 + v) ia (by omega)) gX7_next_X7_done rfl qX7_done rfl rfl ⟨Nat.le_of_ble_eq_true rfl, Nat.le_of_ble_eq_true rfl⟩ ⟨hMo, hSc, hHs⟩ hK (va_recv hK.1 hMo (ci := 7) (q0 := 0) rfl rfl) hl.1 rfl (Nat.le_of_ble_eq_true rfl) dX7_next_50 ⟨Nat.le_of_ble_eq_true rfl, Nat.le_of_ble_eq_true rfl⟩) hS (fun q h => by rcases h with h | h <;> exact ax_mono h (by decide) (by decide)) (fun q h => by rcases h with h | h <;> exact ax_mono h (by decide) (by decide)) (fun v H locs hpost hle hk hS => ?_)
      obtain ⟨rfl, hMo', hHs'⟩ := hpost
      have hRw := keepO (ordM7 cs a 1 0 361 (aI (updZ Y 4 ((S 0 4) + v)))) hRw hk (fun j hj h0 => by rcases h0 with ⟨i, h1, h2, h3⟩ | ⟨i, h1, h2, h3⟩ <;> exact absurd (ia (1 + j) i (by omega) (by omega) h3) (by omega))
      have hSc := keepO (ordM7 cs a 2 0 361 (aI (cpZ Z Y 361))) hSc hk (fun j hj h0 => by rcases h0 with ⟨i, h1, h2, h3⟩ | ⟨i, h1, h2, h3⟩ <;> exact absurd (ia (2 + j) i (by omega) (by omega) h3) (by omega))
      have hSl := keepO (ordM7 cs a 4 0 722 (aI Sl)) hSl hk (fun j hj h0 => by rcases h0 with ⟨i, h1, h2, h3⟩ | ⟨i, h1, h2, h3⟩ <;> exact absurd (ia (4 + j) i (by omega) (by omega) h3) (by omega))
      have hKp := keepO (ordM7 cs a 5 2 2 (aI Kp)) hKp hk (fun j hj h0 => by rcases h0 with ⟨i, h1, h2, h3⟩ | ⟨i, h1, h2, h3⟩ <;> exact absurd (ia (5 + j) i (by omega) (by omega) h3) (by omega))
      have hGo := keepO (ordM7 cs a 6 2 24 (aI Go)) hGo hk (fun j hj h0 => by rcases h0 with ⟨i, h1, h2, h3⟩ | ⟨i, h1, h2, h3⟩ <;> exact absurd (ia (6 + j) i (by omega) (by omega) h3) (by omega))
      have hNt := keepO (ordM7 cs a 7 0 24 (aI Nt)) hNt hk (fun j hj h0 => by rcases h0 with ⟨i, h1, h2, h3⟩ | ⟨i, h1, h2, h3⟩ <;> exact absurd (ia (7 + j) i (by omega) (by omega) h3) (by omega))
      have hTx := keepO (ordM7 cs a 8 3 60 (aI X)) hTx hk (fun j hj h0 => by rcases h0 with ⟨i, h1, h2, h3⟩ | ⟨i, h1, h2, h3⟩ <;> exact absurd (ia (8 + j) i (by omega) (by omega) h3) (by omega))
      have hRd := keepO (ordM7 cs a 9 0 8 (cB Rd)) hRd hk (fun j hj h0 => by rcases h0 with ⟨i, h1, h2, h3⟩ | ⟨i, h1, h2, h3⟩ <;> exact absurd (ia (9 + j) i (by omega) (by omega) h3) (by omega))
      have hMo : va_P G vwCl (moW cs a (remN n) tl rn) H := hMo'
      have hHs : va_P G vwCl (m7 cs a 3 0 1805 (aI (doneH n Hh (cpZ Z Y 361)))) H := hHs'
      exact w_iret hx hb hr hlk dX7_next_53 hS (by rw [show nextF (S, (n, L), (tl, X), (k, V)) v = _ from by unfold nextF; rw [if_neg (show ¬ (¬ (1 ≤ v ∧ v ≤ 100000)) by omega), if_neg (show ¬ (1000000 < S 0 4 + v) by omega)]]; exact ⟨rfl, ⟨updZ Y 4 ((S 0 4) + v), cpZ Z Y 361, doneH n Hh (cpZ Z Y 361), Sl, Kp, Go, Nt, rn, Rd, rr_04 (S := S) wf0 rr, (hr_done (S := S) wf0 hL9 hHR rr hn), hSR, hMo, hRw, hSc, hHs, hSl, hKp, hGo, hNt, hTx, hRd⟩⟩)
    · skip
      refine z_bipush (n := -4) hx hb dX7_next_26 (by decide) ?_
      exact w_iret hx hb hr hlk dX7_next_28 hS (by rw [show nextF (S, (n, L), (tl, X), (k, V)) v = _ from by unfold nextF; rw [if_neg (show ¬ (¬ (1 ≤ v ∧ v ≤ 100000)) by omega), if_pos (show 1000000 < S 0 4 + v by omega)]]; exact ⟨rfl, ⟨Y, Z, Hh, Sl, Kp, Go, Nt, rn, Rd, rr, hHR, hSR, hMo, hRw, hSc, hHs, hSl, hKp, hGo, hNt, hTx, hRd⟩⟩)
  · skip
    simp only [decide_eq_false_iff_not] at c1
    refine z_bipush (n := -2) hx hb dX7_next_10 (by decide) ?_
    exact w_iret hx hb hr hlk dX7_next_12 hS (by rw [show nextF (S, (n, L), (tl, X), (k, V)) v = _ from by unfold nextF; rw [if_pos (show ¬ (1 ≤ v ∧ v ≤ 100000) by omega)]]; exact ⟨rfl, ⟨Y, Z, Hh, Sl, Kp, Go, Nt, rn, Rd, rr, hHR, hSR, hMo, hRw, hSc, hHs, hSl, hKp, hGo, hNt, hTx, hRd⟩⟩)

set_option maxHeartbeats 4000000 in
set_option maxRecDepth 100000 in
theorem c_X7_undo (l : Launch) (G : va_G) (cs : Nat → ClassId) (a : Nat → Nat) (S : SS) (n : Int) (L : Nat → SS) (tl : Int) (X : Int → Int) (k : Nat → Bool) (V : Nat → SS)  (ia : Inj a 10) (hA : AWF (S, (n, L), (tl, X), (k, V))) : MW l yX7_undo wsX7_undo { frames := 0, cells := 0, slots := 0, locals := 0 } G cs [.ref (a 0)] (fun H => MI G cs a (S, (n, L), (tl, X), (k, V)) H) (fun vv H => vv = .int (zI (undoF (S, (n, L), (tl, X), (k, V))).1) ∧ MI G cs a (undoF (S, (n, L), (tl, X), (k, V))).2 H) (AX a 0 10) 0 0 := by
  refine m_intro (Pw := (fun H => MI G cs a (S, (n, L), (tl, X), (k, V)) H)) (cc := cX7_undo) (maxL := 2) (ret := some .int) RX7 (by decide) rfl rfl (Nat.le_of_ble_eq_true rfl) ?_
  intro pP eE sS mM below meth cC hx hb hr hts hown hml hlk hnm hPre hK ls hl
  have hl : lv_has ls 2 [(0, .ref (a 0))] := hl
  have hMI := hPre
  have hS : va_S (AX a 0 10) sS.heap sS.heap [] := va_S.rf
  have hi7 : ∀ w ∈ u_ws RX7 TX7 12, w ∈ wsX7_undo := by decide +kernel
  obtain ⟨Y, Z, Hh, Sl, Kp, Go, Nt, rn, Rd, rr, hHR, hSR, hMo, hRw, hSc, hHs, hSl, hKp, hGo, hNt, hTx, hRd⟩ := hMI
  obtain ⟨wf, ⟨hn, hL9⟩, ⟨htl, hX⟩, hV9⟩ := hA
  have wf : WF S := wf
  have hn : 0 ≤ n ∧ n ≤ 5 := hn
  have htl : 0 ≤ tl ∧ tl ≤ 60 := htl
  have hX : ∀ j, 0 ≤ j → j < 60 → 0 ≤ X j ∧ X j < 65536 := hX
  have rr : RR S Y := rr
  have hHR : HR n L Hh := hHR
  have hSR : SR k V Kp Sl := hSR
  have hL9 : ∀ i : Nat, (i : Int) < n → WF (L i) := hL9
  have hV9 : ∀ s : Nat, s < 2 → k s = true → WF (V s) := hV9
  have hMo : va_P G vwCl (moW cs a n tl rn) sS.heap := hMo
  have hRw : va_P G vwCl (m7 cs a 1 0 361 (aI Y)) sS.heap := hRw
  have hSc : va_P G vwCl (m7 cs a 2 0 361 (aI Z)) sS.heap := hSc
  have hHs : va_P G vwCl (m7 cs a 3 0 1805 (aI Hh)) sS.heap := hHs
  have hSl : va_P G vwCl (m7 cs a 4 0 722 (aI Sl)) sS.heap := hSl
  have hKp : va_P G vwCl (m7 cs a 5 2 2 (aI Kp)) sS.heap := hKp
  have hGo : va_P G vwCl (m7 cs a 6 2 24 (aI Go)) sS.heap := hGo
  have hNt : va_P G vwCl (m7 cs a 7 0 24 (aI Nt)) sS.heap := hNt
  have hTx : va_P G vwCl (m7 cs a 8 3 60 (aI X)) sS.heap := hTx
  have hRd : va_P G vwCl (m7 cs a 9 0 8 (cB Rd)) sS.heap := hRd
  have wf0 := wf
  obtain ⟨w0, w1, w2, w3, w4, wP, wC, wS, wX⟩ := wf
  refine lv_aload_n hx hb dX7_undo_0 rfl (lv_at hl 0 rfl) ?_
  refine va_get (D := G) (ci := 7) (v := .int (zI n)) (C := RX7) (T := TX7) (N := 12) hx hb hts hi7 hown hK.1 hMo 0 rfl rfl 3 (by decide) (hts (.fieldLink RX7 39 "SpriteLinesModel" "kept" "I") (by decide +kernel)) (fun _ h9 => h9) rfl dX7_undo_1 ?_
  refine z_if_ne (tgt := 10) hx hb dX7_undo_4 (by decide) (by omega) (fun c1 => ?_) (fun c1 => ?_)
  · skip
    refine lv_aload_n hx hb dX7_undo_10 rfl (lv_at hl 0 rfl) ?_
    refine lv_dup hx hb dX7_undo_11 rfl ?_
    refine va_get (D := G) (ci := 7) (v := .int (zI n)) (C := RX7) (T := TX7) (N := 12) hx hb hts hi7 hown hK.1 hMo 0 rfl rfl 3 (by decide) (hts (.fieldLink RX7 39 "SpriteLinesModel" "kept" "I") (by decide +kernel)) (fun _ h9 => h9) rfl dX7_undo_12 ?_
    refine z_iconst (n := 1) hx hb dX7_undo_15 ?_
    refine z_isub hx hb dX7_undo_16 ?_
    refine z_put (G := G) (ci := 7) (v := .int (zI (n - 1))) (ty := .int) (C := RX7) (T := TX7) (N := 12) hx hb hts hi7 tyX7 tyX7_ok nmX7 hown hK.1 hMo (Ord.D (ordMo cs a n tl rn) inj1) hS 0 rfl rfl 3 (by decide) (hts (.fieldLink RX7 39 "SpriteLinesModel" "kept" "I") (by decide +kernel)) (fun _ h9 => h9) rfl (by decide +kernel) rfl rfl (Nat.le_of_ble_eq_true rfl) ⟨0, by decide, by decide, rfl⟩ dX7_undo_17 (fun H locs hP1 hle hk hS => ?_)
    have hRw := keepO (ordM7 cs a 1 0 361 (aI Y)) hRw hk (fun j hj h3 => absurd (ia (1 + j) 0 (by omega) (by omega) h3) (by omega))
    have hSc := keepO (ordM7 cs a 2 0 361 (aI Z)) hSc hk (fun j hj h3 => absurd (ia (2 + j) 0 (by omega) (by omega) h3) (by omega))
    have hHs := keepO (ordM7 cs a 3 0 1805 (aI Hh)) hHs hk (fun j hj h3 => absurd (ia (3 + j) 0 (by omega) (by omega) h3) (by omega))
    have hSl := keepO (ordM7 cs a 4 0 722 (aI Sl)) hSl hk (fun j hj h3 => absurd (ia (4 + j) 0 (by omega) (by omega) h3) (by omega))
    have hKp := keepO (ordM7 cs a 5 2 2 (aI Kp)) hKp hk (fun j hj h3 => absurd (ia (5 + j) 0 (by omega) (by omega) h3) (by omega))
    have hGo := keepO (ordM7 cs a 6 2 24 (aI Go)) hGo hk (fun j hj h3 => absurd (ia (6 + j) 0 (by omega) (by omega) h3) (by omega))
    have hNt := keepO (ordM7 cs a 7 0 24 (aI Nt)) hNt hk (fun j hj h3 => absurd (ia (7 + j) 0 (by omega) (by omega) h3) (by omega))
    have hTx := keepO (ordM7 cs a 8 3 60 (aI X)) hTx hk (fun j hj h3 => absurd (ia (8 + j) 0 (by omega) (by omega) h3) (by omega))
    have hRd := keepO (ordM7 cs a 9 0 8 (cB Rd)) hRd hk (fun j hj h3 => absurd (ia (9 + j) 0 (by omega) (by omega) h3) (by omega))
    have hMo : va_P G vwCl (moW cs a (n - 1) tl rn) H := hP1
    refine z_iconst (n := 0) hx hb dX7_undo_20 ?_
    refine lv_istore_n (lv' := [(1, .int (zI 0)), (0, .ref (a 0))]) hx hb dX7_undo_21 rfl hl (by decide) rfl (fun ls hl => ?_)
    -- loop 22
    refine z_loopH (nL := 2) (fun (i : Int) => [(0, .ref (a 0)), (1, .int (zI i))]) (fun (i : Int) (H : Heap) => (0 ≤ i ∧ i ≤ 361) ∧ va_P G vwCl (moW cs a (n - 1) tl rn) H ∧ va_P G vwCl (m7 cs a 1 0 361 (aI (cpZ Y (fun k => Hh (361 * (n - 1) + k)) i))) H ∧ va_P G vwCl (m7 cs a 2 0 361 (aI Z)) H ∧ va_P G vwCl (m7 cs a 3 0 1805 (aI Hh)) H ∧ va_P G vwCl (m7 cs a 4 0 722 (aI Sl)) H ∧ va_P G vwCl (m7 cs a 5 2 2 (aI Kp)) H ∧ va_P G vwCl (m7 cs a 6 2 24 (aI Go)) H ∧ va_P G vwCl (m7 cs a 7 0 24 (aI Nt)) H ∧ va_P G vwCl (m7 cs a 8 3 60 (aI X)) H ∧ va_P G vwCl (m7 cs a 9 0 8 (cB Rd)) H) (fun (i : Int) => (361 - i).toNat) 0 ⟨(by omega), hMo, (by rw [cpZ_0]; exact hRw), hSc, hHs, hSl, hKp, hGo, hNt, hTx, hRd⟩ hS (lv_sub hl [1, 0] rfl) (fun i H locs hIH hS ih ls hl => ?_)
    obtain ⟨hI, hMo, hRw, hSc, hHs, hSl, hKp, hGo, hNt, hTx, hRd⟩ := hIH
    have hl : lv_has ls 2 [(0, .ref (a 0)), (1, .int (zI i))] := hl
    refine lv_iload_n hx hb dX7_undo_22 rfl (lv_at hl 1 rfl) ?_
    refine z_sipush (n := 361) hx hb dX7_undo_23 (by decide) ?_
    refine z_icmp_ge (tgt := 56) hx hb dX7_undo_26 (by decide) (by omega) (by omega) (fun c1 => ?_) (fun c1 => ?_)
    · skip
      have hRw : va_P G vwCl (m7 cs a 1 0 361 (aI (cpZ Y (fun k => Hh (361 * (n - 1) + k)) 361))) H := (by rw [show i = 361 by omega] at hRw; exact hRw)
      refine lv_aload_n hx hb dX7_undo_56 rfl (lv_at hl 0 rfl) ?_
      refine va_get (D := G) (ci := 7) (v := .int (zI (n - 1))) (C := RX7) (T := TX7) (N := 12) hx hb hts hi7 hown hK.1 hMo 0 rfl rfl 3 (by decide) (hts (.fieldLink RX7 39 "SpriteLinesModel" "kept" "I") (by decide +kernel)) (fun _ h9 => h9) rfl dX7_undo_57 ?_
      exact w_iret hx hb hr hlk dX7_undo_60 hS (by rw [show undoF (S, (n, L), (tl, X), (k, V)) = _ from by unfold undoF; rw [if_neg (show ¬ (n = 0) by omega)]]; exact ⟨rfl, ⟨cpZ Y (fun k => Hh (361 * (n - 1) + k)) 361, Z, Hh, Sl, Kp, Go, Nt, rn, Rd, rr_cp (hL9 (n - 1).toNat (by omega)) (hr_at (i := n - 1) hHR (by omega)), (fun i (hi : (i : Int) < n - 1) => hHR i (by omega)), hSR, hMo, hRw, hSc, hHs, hSl, hKp, hGo, hNt, hTx, hRd⟩⟩)
    · skip
      refine lv_aload_n hx hb dX7_undo_29 rfl (lv_at hl 0 rfl) ?_
      refine va_get (D := G) (ci := 7) (v := .ref ((sh a 1) 0)) (C := RX7) (T := TX7) (N := 12) hx hb hts hi7 hown hK.1 hMo 0 rfl rfl 0 (by decide) (hts (.fieldLink RX7 7 "SpriteLinesModel" "row" "[I") (by decide +kernel)) (fun _ h9 => h9) rfl dX7_undo_30 ?_
      refine lv_iload_n hx hb dX7_undo_33 rfl (lv_at hl 1 rfl) ?_
      refine lv_aload_n hx hb dX7_undo_34 rfl (lv_at hl 0 rfl) ?_
      refine va_get (D := G) (ci := 7) (v := .ref ((sh a 3) 0)) (C := RX7) (T := TX7) (N := 12) hx hb hts hi7 hown hK.1 hMo 0 rfl rfl 2 (by decide) (hts (.fieldLink RX7 16 "SpriteLinesModel" "history" "[I") (by decide +kernel)) (fun _ h9 => h9) rfl dX7_undo_35 ?_
      refine z_sipush (n := 361) hx hb dX7_undo_38 (by decide) ?_
      refine lv_aload_n hx hb dX7_undo_41 rfl (lv_at hl 0 rfl) ?_
      refine va_get (D := G) (ci := 7) (v := .int (zI (n - 1))) (C := RX7) (T := TX7) (N := 12) hx hb hts hi7 hown hK.1 hMo 0 rfl rfl 3 (by decide) (hts (.fieldLink RX7 39 "SpriteLinesModel" "kept" "I") (by decide +kernel)) (fun _ h9 => h9) rfl dX7_undo_42 ?_
      refine z_imul hx hb dX7_undo_45 ?_
      refine lv_iload_n hx hb dX7_undo_46 rfl (lv_at hl 1 rfl) ?_
      refine z_iadd hx hb dX7_undo_47 ?_
      refine z_iald hx hb hK.1 hHs 0 0 (F := Hh) rfl rfl (by omega) (by decide) dX7_undo_48 ?_
      refine z_iast hx hb hK.1 hRw (Ord.D (ordM7 cs a 1 0 361 (aI (cpZ Y (fun k => Hh (361 * (n - 1) + k)) i))) inj1) hS 0 0 (F := (cpZ Y (fun k => Hh (361 * (n - 1) + k)) i)) rfl rfl (by omega) (by decide) ⟨1, by decide, by decide, rfl⟩ dX7_undo_49 (fun H locs hP1 hle hk hS => ?_)
      have hMo := keepO (ordMo cs a (n - 1) tl rn) hMo hk (fun j hj h3 => absurd (ia j 1 (by omega) (by omega) h3) (by omega))
      have hSc := keepO (ordM7 cs a 2 0 361 (aI Z)) hSc hk (fun j hj h3 => absurd (ia (2 + j) 1 (by omega) (by omega) h3) (by omega))
      have hHs := keepO (ordM7 cs a 3 0 1805 (aI Hh)) hHs hk (fun j hj h3 => absurd (ia (3 + j) 1 (by omega) (by omega) h3) (by omega))
      have hSl := keepO (ordM7 cs a 4 0 722 (aI Sl)) hSl hk (fun j hj h3 => absurd (ia (4 + j) 1 (by omega) (by omega) h3) (by omega))
      have hKp := keepO (ordM7 cs a 5 2 2 (aI Kp)) hKp hk (fun j hj h3 => absurd (ia (5 + j) 1 (by omega) (by omega) h3) (by omega))
      have hGo := keepO (ordM7 cs a 6 2 24 (aI Go)) hGo hk (fun j hj h3 => absurd (ia (6 + j) 1 (by omega) (by omega) h3) (by omega))
      have hNt := keepO (ordM7 cs a 7 0 24 (aI Nt)) hNt hk (fun j hj h3 => absurd (ia (7 + j) 1 (by omega) (by omega) h3) (by omega))
      have hTx := keepO (ordM7 cs a 8 3 60 (aI X)) hTx hk (fun j hj h3 => absurd (ia (8 + j) 1 (by omega) (by omega) h3) (by omega))
      have hRd := keepO (ordM7 cs a 9 0 8 (cB Rd)) hRd hk (fun j hj h3 => absurd (ia (9 + j) 1 (by omega) (by omega) h3) (by omega))
      have hRw : va_P G vwCl (m7 cs a 1 0 361 (aI (updZ (cpZ Y (fun k => Hh (361 * (n - 1) + k)) i) i (Hh ((361 * (n - 1)) + i))))) H := hP1
      refine z_iinc (k := 1) (lv' := [(1, .int (zI (i + 1))), (0, .ref (a 0))]) hx hb dX7_undo_50 hl rfl (by decide) rfl (fun ls hl => ?_)
      refine lv_goto (tgt := 22) hx hb dX7_undo_53 (by decide) ?_
      exact ih (i + 1) H locs ⟨(by omega), hMo, (by rw [← cpZ_s (Z := Y) (Y := fun k => Hh (361 * (n - 1) + k)) hI.1]; exact hRw), hSc, hHs, hSl, hKp, hGo, hNt, hTx, hRd⟩ hS (by omega) ls (lv_sub hl [1, 0] rfl)
  · skip
    refine z_bipush (n := -5) hx hb dX7_undo_7 (by decide) ?_
    exact w_iret hx hb hr hlk dX7_undo_9 hS (by rw [show undoF (S, (n, L), (tl, X), (k, V)) = _ from by unfold undoF; rw [if_pos (show n = 0 by omega)]]; exact ⟨rfl, ⟨Y, Z, Hh, Sl, Kp, Go, Nt, rn, Rd, rr, hHR, hSR, hMo, hRw, hSc, hHs, hSl, hKp, hGo, hNt, hTx, hRd⟩⟩)

set_option maxHeartbeats 4000000 in
set_option maxRecDepth 100000 in
theorem c_X7_keep (l : Launch) (G : va_G) (cs : Nat → ClassId) (a : Nat → Nat) (S : SS) (n : Int) (L : Nat → SS) (tl : Int) (X : Int → Int) (k : Nat → Bool) (V : Nat → SS) (z : Int) (ia : Inj a 10) (hA : AWF (S, (n, L), (tl, X), (k, V))) (r_z : -2147483648 ≤ z ∧ z < 2147483648) : MW l yX7_keep wsX7_keep { frames := 1, cells := 0, slots := 0, locals := 22 } G cs [.ref (a 0), .int (zI z)] (fun H => MI G cs a (S, (n, L), (tl, X), (k, V)) H) (fun vv H => vv = .int (zI (keepF (S, (n, L), (tl, X), (k, V)) z).1) ∧ MI G cs a (keepF (S, (n, L), (tl, X), (k, V)) z).2 H) (AX a 0 10) 0 0 := by
  refine m_intro (Pw := (fun H => MI G cs a (S, (n, L), (tl, X), (k, V)) H)) (cc := cX7_keep) (maxL := 3) (ret := some .int) RX7 (by decide) rfl rfl (Nat.le_of_ble_eq_true rfl) ?_
  intro pP eE sS mM below meth cC hx hb hr hts hown hml hlk hnm hPre hK ls hl
  have hl : lv_has ls 3 [(0, .ref (a 0)), (1, .int (zI z))] := hl
  have hMI := hPre
  have hS : va_S (AX a 0 10) sS.heap sS.heap [] := va_S.rf
  have hi7 : ∀ w ∈ u_ws RX7 TX7 12, w ∈ wsX7_keep := by decide +kernel
  obtain ⟨Y, Z, Hh, Sl, Kp, Go, Nt, rn, Rd, rr, hHR, hSR, hMo, hRw, hSc, hHs, hSl, hKp, hGo, hNt, hTx, hRd⟩ := hMI
  obtain ⟨wf, ⟨hn, hL9⟩, ⟨htl, hX⟩, hV9⟩ := hA
  have wf : WF S := wf
  have hn : 0 ≤ n ∧ n ≤ 5 := hn
  have htl : 0 ≤ tl ∧ tl ≤ 60 := htl
  have hX : ∀ j, 0 ≤ j → j < 60 → 0 ≤ X j ∧ X j < 65536 := hX
  have rr : RR S Y := rr
  have hHR : HR n L Hh := hHR
  have hSR : SR k V Kp Sl := hSR
  have hL9 : ∀ i : Nat, (i : Int) < n → WF (L i) := hL9
  have hV9 : ∀ s : Nat, s < 2 → k s = true → WF (V s) := hV9
  have hMo : va_P G vwCl (moW cs a n tl rn) sS.heap := hMo
  have hRw : va_P G vwCl (m7 cs a 1 0 361 (aI Y)) sS.heap := hRw
  have hSc : va_P G vwCl (m7 cs a 2 0 361 (aI Z)) sS.heap := hSc
  have hHs : va_P G vwCl (m7 cs a 3 0 1805 (aI Hh)) sS.heap := hHs
  have hSl : va_P G vwCl (m7 cs a 4 0 722 (aI Sl)) sS.heap := hSl
  have hKp : va_P G vwCl (m7 cs a 5 2 2 (aI Kp)) sS.heap := hKp
  have hGo : va_P G vwCl (m7 cs a 6 2 24 (aI Go)) sS.heap := hGo
  have hNt : va_P G vwCl (m7 cs a 7 0 24 (aI Nt)) sS.heap := hNt
  have hTx : va_P G vwCl (m7 cs a 8 3 60 (aI X)) sS.heap := hTx
  have hRd : va_P G vwCl (m7 cs a 9 0 8 (cB Rd)) sS.heap := hRd
  have wf0 := wf
  obtain ⟨w0, w1, w2, w3, w4, wP, wC, wS, wX⟩ := wf
  refine lv_iload_n hx hb dX7_keep_0 rfl (lv_at hl 1 rfl) ?_
  refine z_iconst (n := 0) hx hb dX7_keep_1 ?_
  refine z_iconst (n := 1) hx hb dX7_keep_2 ?_
  refine z_ro (zrS (As := [.int (zI z), .int (zI 0), .int (zI 1)]) (rest := []) (Pw := fun _ => True) ⟨hx, hb, hml, hown, hts⟩ (c_X7_in l G cs z 0 1 (by omega) (by omega) (by omega)) gX7_keep_X7_in rfl qX7_in rfl rfl ⟨Nat.le_of_ble_eq_true rfl, Nat.le_of_ble_eq_true rfl⟩ trivial hK hl.1 rfl (Nat.le_of_ble_eq_true rfl) dX7_keep_3 ⟨Nat.le_of_ble_eq_true rfl, Nat.le_of_ble_eq_true rfl⟩) ?_
  refine z_bif_ne (tgt := 11) hx hb dX7_keep_6 (by decide) (fun c1 => ?_) (fun c1 => ?_)
  · skip
    simp only [decide_eq_true_eq] at c1
    refine lv_aload_n hx hb dX7_keep_11 rfl (lv_at hl 0 rfl) ?_
    refine va_get (D := G) (ci := 7) (v := .ref ((sh a 5) 0)) (C := RX7) (T := TX7) (N := 12) hx hb hts hi7 hown hK.1 hMo 0 rfl rfl 5 (by decide) (hts (.fieldLink RX7 22 "SpriteLinesModel" "isKept" "[Z") (by decide +kernel)) (fun _ h9 => h9) rfl dX7_keep_12 ?_
    refine lv_iload_n hx hb dX7_keep_15 rfl (lv_at hl 1 rfl) ?_
    refine z_iconst (n := 1) hx hb dX7_keep_16 ?_
    refine z_zast hx hb hK.1 hKp (Ord.D (ordM7 cs a 5 2 2 (aI Kp)) inj1) hS 0 2 (F := Kp) rfl rfl (by omega) (by decide) (by omega) ⟨5, by decide, by decide, rfl⟩ dX7_keep_17 (fun H locs hP1 hle hk hS => ?_)
    have hMo := keepO (ordMo cs a n tl rn) hMo hk (fun j hj h3 => absurd (ia j 5 (by omega) (by omega) h3) (by omega))
    have hRw := keepO (ordM7 cs a 1 0 361 (aI Y)) hRw hk (fun j hj h3 => absurd (ia (1 + j) 5 (by omega) (by omega) h3) (by omega))
    have hSc := keepO (ordM7 cs a 2 0 361 (aI Z)) hSc hk (fun j hj h3 => absurd (ia (2 + j) 5 (by omega) (by omega) h3) (by omega))
    have hHs := keepO (ordM7 cs a 3 0 1805 (aI Hh)) hHs hk (fun j hj h3 => absurd (ia (3 + j) 5 (by omega) (by omega) h3) (by omega))
    have hSl := keepO (ordM7 cs a 4 0 722 (aI Sl)) hSl hk (fun j hj h3 => absurd (ia (4 + j) 5 (by omega) (by omega) h3) (by omega))
    have hGo := keepO (ordM7 cs a 6 2 24 (aI Go)) hGo hk (fun j hj h3 => absurd (ia (6 + j) 5 (by omega) (by omega) h3) (by omega))
    have hNt := keepO (ordM7 cs a 7 0 24 (aI Nt)) hNt hk (fun j hj h3 => absurd (ia (7 + j) 5 (by omega) (by omega) h3) (by omega))
    have hTx := keepO (ordM7 cs a 8 3 60 (aI X)) hTx hk (fun j hj h3 => absurd (ia (8 + j) 5 (by omega) (by omega) h3) (by omega))
    have hRd := keepO (ordM7 cs a 9 0 8 (cB Rd)) hRd hk (fun j hj h3 => absurd (ia (9 + j) 5 (by omega) (by omega) h3) (by omega))
    have hKp : va_P G vwCl (m7 cs a 5 2 2 (aI (updZ Kp z 1))) H := hP1
    refine z_iconst (n := 0) hx hb dX7_keep_18 ?_
    refine lv_istore_n (lv' := [(2, .int (zI 0)), (0, .ref (a 0)), (1, .int (zI z))]) hx hb dX7_keep_19 rfl hl (by decide) rfl (fun ls hl => ?_)
    -- loop 20
    refine z_loopH (nL := 3) (fun (i : Int) => [(0, .ref (a 0)), (1, .int (zI z)), (2, .int (zI i))]) (fun (i : Int) (H : Heap) => (0 ≤ i ∧ i ≤ 361) ∧ va_P G vwCl (moW cs a n tl rn) H ∧ va_P G vwCl (m7 cs a 1 0 361 (aI Y)) H ∧ va_P G vwCl (m7 cs a 2 0 361 (aI Z)) H ∧ va_P G vwCl (m7 cs a 3 0 1805 (aI Hh)) H ∧ va_P G vwCl (m7 cs a 4 0 722 (aI (wrZ Sl Y (361 * z) i))) H ∧ va_P G vwCl (m7 cs a 5 2 2 (aI (updZ Kp z 1))) H ∧ va_P G vwCl (m7 cs a 6 2 24 (aI Go)) H ∧ va_P G vwCl (m7 cs a 7 0 24 (aI Nt)) H ∧ va_P G vwCl (m7 cs a 8 3 60 (aI X)) H ∧ va_P G vwCl (m7 cs a 9 0 8 (cB Rd)) H) (fun (i : Int) => (361 - i).toNat) 0 ⟨(by omega), hMo, hRw, hSc, hHs, (by rw [wrZ_0]; exact hSl), hKp, hGo, hNt, hTx, hRd⟩ hS (lv_sub hl [1, 2, 0] rfl) (fun i H locs hIH hS ih ls hl => ?_)
    obtain ⟨hI, hMo, hRw, hSc, hHs, hSl, hKp, hGo, hNt, hTx, hRd⟩ := hIH
    have hl : lv_has ls 3 [(0, .ref (a 0)), (1, .int (zI z)), (2, .int (zI i))] := hl
    refine lv_iload_n hx hb dX7_keep_20 rfl (lv_at hl 2 rfl) ?_
    refine z_sipush (n := 361) hx hb dX7_keep_21 (by decide) ?_
    refine z_icmp_ge (tgt := 51) hx hb dX7_keep_24 (by decide) (by omega) (by omega) (fun c1 => ?_) (fun c1 => ?_)
    · skip
      have hSl : va_P G vwCl (m7 cs a 4 0 722 (aI (wrZ Sl Y (361 * z) 361))) H := (by rw [show i = 361 by omega] at hSl; exact hSl)
      refine lv_aload_n hx hb dX7_keep_51 rfl (lv_at hl 0 rfl) ?_
      refine va_get (D := G) (ci := 7) (v := .ref ((sh a 1) 0)) (C := RX7) (T := TX7) (N := 12) hx hb hts hi7 hown hK.1 hMo 0 rfl rfl 0 (by decide) (hts (.fieldLink RX7 7 "SpriteLinesModel" "row" "[I") (by decide +kernel)) (fun _ h9 => h9) rfl dX7_keep_52 ?_
      refine z_iconst (n := 4) hx hb dX7_keep_55 ?_
      refine z_iald hx hb hK.1 hRw 0 0 (F := Y) rfl rfl (by omega) (by decide) dX7_keep_56 ?_
      refine z_topi (b := S 0 4) rr.1.2.2.2.2 ?_
      exact w_iret hx hb hr hlk dX7_keep_57 hS (by rw [show keepF (S, (n, L), (tl, X), (k, V)) z = _ from by unfold keepF; rw [if_neg (show ¬ (¬ (0 ≤ z ∧ z < 2)) by omega)]]; exact ⟨rfl, ⟨Y, Z, Hh, wrZ Sl Y (361 * z) 361, updZ Kp z 1, Go, Nt, rn, Rd, rr, hHR, sr_keep (S := S) wf0 hV9 hSR rr (by omega), hMo, hRw, hSc, hHs, hSl, hKp, hGo, hNt, hTx, hRd⟩⟩)
    · skip
      refine lv_aload_n hx hb dX7_keep_27 rfl (lv_at hl 0 rfl) ?_
      refine va_get (D := G) (ci := 7) (v := .ref ((sh a 4) 0)) (C := RX7) (T := TX7) (N := 12) hx hb hts hi7 hown hK.1 hMo 0 rfl rfl 4 (by decide) (hts (.fieldLink RX7 19 "SpriteLinesModel" "slots" "[I") (by decide +kernel)) (fun _ h9 => h9) rfl dX7_keep_28 ?_
      refine z_sipush (n := 361) hx hb dX7_keep_31 (by decide) ?_
      refine lv_iload_n hx hb dX7_keep_34 rfl (lv_at hl 1 rfl) ?_
      refine z_imul hx hb dX7_keep_35 ?_
      refine lv_iload_n hx hb dX7_keep_36 rfl (lv_at hl 2 rfl) ?_
      refine z_iadd hx hb dX7_keep_37 ?_
      refine lv_aload_n hx hb dX7_keep_38 rfl (lv_at hl 0 rfl) ?_
      refine va_get (D := G) (ci := 7) (v := .ref ((sh a 1) 0)) (C := RX7) (T := TX7) (N := 12) hx hb hts hi7 hown hK.1 hMo 0 rfl rfl 0 (by decide) (hts (.fieldLink RX7 7 "SpriteLinesModel" "row" "[I") (by decide +kernel)) (fun _ h9 => h9) rfl dX7_keep_39 ?_
      refine lv_iload_n hx hb dX7_keep_42 rfl (lv_at hl 2 rfl) ?_
      refine z_iald hx hb hK.1 hRw 0 0 (F := Y) rfl rfl (by omega) (by decide) dX7_keep_43 ?_
      refine z_iast hx hb hK.1 hSl (Ord.D (ordM7 cs a 4 0 722 (aI (wrZ Sl Y (361 * z) i))) inj1) hS 0 0 (F := (wrZ Sl Y (361 * z) i)) rfl rfl (by omega) (by decide) ⟨4, by decide, by decide, rfl⟩ dX7_keep_44 (fun H locs hP1 hle hk hS => ?_)
      have hMo := keepO (ordMo cs a n tl rn) hMo hk (fun j hj h3 => absurd (ia j 4 (by omega) (by omega) h3) (by omega))
      have hRw := keepO (ordM7 cs a 1 0 361 (aI Y)) hRw hk (fun j hj h3 => absurd (ia (1 + j) 4 (by omega) (by omega) h3) (by omega))
      have hSc := keepO (ordM7 cs a 2 0 361 (aI Z)) hSc hk (fun j hj h3 => absurd (ia (2 + j) 4 (by omega) (by omega) h3) (by omega))
      have hHs := keepO (ordM7 cs a 3 0 1805 (aI Hh)) hHs hk (fun j hj h3 => absurd (ia (3 + j) 4 (by omega) (by omega) h3) (by omega))
      have hKp := keepO (ordM7 cs a 5 2 2 (aI (updZ Kp z 1))) hKp hk (fun j hj h3 => absurd (ia (5 + j) 4 (by omega) (by omega) h3) (by omega))
      have hGo := keepO (ordM7 cs a 6 2 24 (aI Go)) hGo hk (fun j hj h3 => absurd (ia (6 + j) 4 (by omega) (by omega) h3) (by omega))
      have hNt := keepO (ordM7 cs a 7 0 24 (aI Nt)) hNt hk (fun j hj h3 => absurd (ia (7 + j) 4 (by omega) (by omega) h3) (by omega))
      have hTx := keepO (ordM7 cs a 8 3 60 (aI X)) hTx hk (fun j hj h3 => absurd (ia (8 + j) 4 (by omega) (by omega) h3) (by omega))
      have hRd := keepO (ordM7 cs a 9 0 8 (cB Rd)) hRd hk (fun j hj h3 => absurd (ia (9 + j) 4 (by omega) (by omega) h3) (by omega))
      have hSl : va_P G vwCl (m7 cs a 4 0 722 (aI (updZ (wrZ Sl Y (361 * z) i) ((361 * z) + i) (Y i)))) H := hP1
      refine z_iinc (k := 2) (lv' := [(2, .int (zI (i + 1))), (0, .ref (a 0)), (1, .int (zI z))]) hx hb dX7_keep_45 hl rfl (by decide) rfl (fun ls hl => ?_)
      refine lv_goto (tgt := 20) hx hb dX7_keep_48 (by decide) ?_
      exact ih (i + 1) H locs ⟨(by omega), hMo, hRw, hSc, hHs, (by rw [← wrZ_s hI.1]; exact hSl), hKp, hGo, hNt, hTx, hRd⟩ hS (by omega) ls (lv_sub hl [1, 2, 0] rfl)
  · skip
    simp only [decide_eq_false_iff_not] at c1
    refine z_iconst (n := -1) hx hb dX7_keep_9 ?_
    exact w_iret hx hb hr hlk dX7_keep_10 hS (by rw [show keepF (S, (n, L), (tl, X), (k, V)) z = _ from by unfold keepF; rw [if_pos (show ¬ (0 ≤ z ∧ z < 2) by omega)]]; exact ⟨rfl, ⟨Y, Z, Hh, Sl, Kp, Go, Nt, rn, Rd, rr, hHR, hSR, hMo, hRw, hSc, hHs, hSl, hKp, hGo, hNt, hTx, hRd⟩⟩)

set_option maxHeartbeats 4000000 in
set_option maxRecDepth 100000 in
theorem c_X7_restore (l : Launch) (G : va_G) (cs : Nat → ClassId) (a : Nat → Nat) (S : SS) (n : Int) (L : Nat → SS) (tl : Int) (X : Int → Int) (k : Nat → Bool) (V : Nat → SS) (z : Int) (ia : Inj a 10) (hA : AWF (S, (n, L), (tl, X), (k, V))) (r_z : -2147483648 ≤ z ∧ z < 2147483648) : MW l yX7_restore wsX7_restore { frames := 1, cells := 0, slots := 0, locals := 22 } G cs [.ref (a 0), .int (zI z)] (fun H => MI G cs a (S, (n, L), (tl, X), (k, V)) H) (fun vv H => vv = .int (zI (restoreF (S, (n, L), (tl, X), (k, V)) z).1) ∧ MI G cs a (restoreF (S, (n, L), (tl, X), (k, V)) z).2 H) (AX a 0 10) 0 0 := by
  refine m_intro (Pw := (fun H => MI G cs a (S, (n, L), (tl, X), (k, V)) H)) (cc := cX7_restore) (maxL := 3) (ret := some .int) RX7 (by decide) rfl rfl (Nat.le_of_ble_eq_true rfl) ?_
  intro pP eE sS mM below meth cC hx hb hr hts hown hml hlk hnm hPre hK ls hl
  have hl : lv_has ls 3 [(0, .ref (a 0)), (1, .int (zI z))] := hl
  have hMI := hPre
  have hS : va_S (AX a 0 10) sS.heap sS.heap [] := va_S.rf
  have hi7 : ∀ w ∈ u_ws RX7 TX7 12, w ∈ wsX7_restore := by decide +kernel
  obtain ⟨Y, Z, Hh, Sl, Kp, Go, Nt, rn, Rd, rr, hHR, hSR, hMo, hRw, hSc, hHs, hSl, hKp, hGo, hNt, hTx, hRd⟩ := hMI
  obtain ⟨wf, ⟨hn, hL9⟩, ⟨htl, hX⟩, hV9⟩ := hA
  have wf : WF S := wf
  have hn : 0 ≤ n ∧ n ≤ 5 := hn
  have htl : 0 ≤ tl ∧ tl ≤ 60 := htl
  have hX : ∀ j, 0 ≤ j → j < 60 → 0 ≤ X j ∧ X j < 65536 := hX
  have rr : RR S Y := rr
  have hHR : HR n L Hh := hHR
  have hSR : SR k V Kp Sl := hSR
  have hL9 : ∀ i : Nat, (i : Int) < n → WF (L i) := hL9
  have hV9 : ∀ s : Nat, s < 2 → k s = true → WF (V s) := hV9
  have hMo : va_P G vwCl (moW cs a n tl rn) sS.heap := hMo
  have hRw : va_P G vwCl (m7 cs a 1 0 361 (aI Y)) sS.heap := hRw
  have hSc : va_P G vwCl (m7 cs a 2 0 361 (aI Z)) sS.heap := hSc
  have hHs : va_P G vwCl (m7 cs a 3 0 1805 (aI Hh)) sS.heap := hHs
  have hSl : va_P G vwCl (m7 cs a 4 0 722 (aI Sl)) sS.heap := hSl
  have hKp : va_P G vwCl (m7 cs a 5 2 2 (aI Kp)) sS.heap := hKp
  have hGo : va_P G vwCl (m7 cs a 6 2 24 (aI Go)) sS.heap := hGo
  have hNt : va_P G vwCl (m7 cs a 7 0 24 (aI Nt)) sS.heap := hNt
  have hTx : va_P G vwCl (m7 cs a 8 3 60 (aI X)) sS.heap := hTx
  have hRd : va_P G vwCl (m7 cs a 9 0 8 (cB Rd)) sS.heap := hRd
  have wf0 := wf
  obtain ⟨w0, w1, w2, w3, w4, wP, wC, wS, wX⟩ := wf
  refine lv_iload_n hx hb dX7_restore_0 rfl (lv_at hl 1 rfl) ?_
  refine z_iconst (n := 0) hx hb dX7_restore_1 ?_
  refine z_iconst (n := 1) hx hb dX7_restore_2 ?_
  refine z_ro (zrS (As := [.int (zI z), .int (zI 0), .int (zI 1)]) (rest := []) (Pw := fun _ => True) ⟨hx, hb, hml, hown, hts⟩ (c_X7_in l G cs z 0 1 (by omega) (by omega) (by omega)) gX7_restore_X7_in rfl qX7_in rfl rfl ⟨Nat.le_of_ble_eq_true rfl, Nat.le_of_ble_eq_true rfl⟩ trivial hK hl.1 rfl (Nat.le_of_ble_eq_true rfl) dX7_restore_3 ⟨Nat.le_of_ble_eq_true rfl, Nat.le_of_ble_eq_true rfl⟩) ?_
  refine z_bif_ne (tgt := 11) hx hb dX7_restore_6 (by decide) (fun c1 => ?_) (fun c1 => ?_)
  · skip
    simp only [decide_eq_true_eq] at c1
    refine lv_aload_n hx hb dX7_restore_11 rfl (lv_at hl 0 rfl) ?_
    refine va_get (D := G) (ci := 7) (v := .ref ((sh a 5) 0)) (C := RX7) (T := TX7) (N := 12) hx hb hts hi7 hown hK.1 hMo 0 rfl rfl 5 (by decide) (hts (.fieldLink RX7 22 "SpriteLinesModel" "isKept" "[Z") (by decide +kernel)) (fun _ h9 => h9) rfl dX7_restore_12 ?_
    refine lv_iload_n hx hb dX7_restore_15 rfl (lv_at hl 1 rfl) ?_
    refine z_zald hx hb hK.1 hKp 0 2 (F := Kp) rfl rfl (by omega) (by decide) dX7_restore_16 ?_
    refine z_top (v' := .int (zI (b2 (k z.toNat)))) (congrArg (fun z => Value.int (zI z)) (sr_at hSR (by omega)).1) ?_
    refine z_bif_ne (tgt := 23) hx hb dX7_restore_17 (by decide) (fun c2 => ?_) (fun c2 => ?_)
    · skip
      refine lv_aload_n hx hb dX7_restore_23 rfl (lv_at hl 0 rfl) ?_
      refine z_v (zrV (As := []) (rest := []) (Pw := fun H => va_P G vwCl (moW cs a n tl rn) H ∧ va_P G vwCl (m7 cs a 1 0 361 (aI Y)) H ∧ va_P G vwCl (m7 cs a 2 0 361 (aI Z)) H) ⟨hx, hb, hml, hown, hts⟩ (c_X7_begin l G cs a Y Z n tl rn ia) gX7_restore_X7_begin rfl qX7_begin rfl rfl ⟨Nat.le_of_ble_eq_true rfl, Nat.le_of_ble_eq_true rfl⟩ ⟨hMo, hRw, hSc⟩ hK (va_recv hK.1 hMo (ci := 7) (q0 := 0) rfl rfl) hl.1 rfl (Nat.le_of_ble_eq_true rfl) dX7_restore_24 ⟨Nat.le_of_ble_eq_true rfl, Nat.le_of_ble_eq_true rfl⟩) hS (fun q h => ax_mono h (by decide) (by decide)) (fun q h => ax_mono h (by decide) (by decide)) (fun H locs hpost hle hk hS => ?_)
      have hSc' := hpost
      have hMo := keepO (ordMo cs a n tl rn) hMo hk (fun j hj ⟨i, h1, h2, h3⟩ => absurd (ia j i (by omega) (by omega) h3) (by omega))
      have hRw := keepO (ordM7 cs a 1 0 361 (aI Y)) hRw hk (fun j hj ⟨i, h1, h2, h3⟩ => absurd (ia (1 + j) i (by omega) (by omega) h3) (by omega))
      have hHs := keepO (ordM7 cs a 3 0 1805 (aI Hh)) hHs hk (fun j hj ⟨i, h1, h2, h3⟩ => absurd (ia (3 + j) i (by omega) (by omega) h3) (by omega))
      have hSl := keepO (ordM7 cs a 4 0 722 (aI Sl)) hSl hk (fun j hj ⟨i, h1, h2, h3⟩ => absurd (ia (4 + j) i (by omega) (by omega) h3) (by omega))
      have hKp := keepO (ordM7 cs a 5 2 2 (aI Kp)) hKp hk (fun j hj ⟨i, h1, h2, h3⟩ => absurd (ia (5 + j) i (by omega) (by omega) h3) (by omega))
      have hGo := keepO (ordM7 cs a 6 2 24 (aI Go)) hGo hk (fun j hj ⟨i, h1, h2, h3⟩ => absurd (ia (6 + j) i (by omega) (by omega) h3) (by omega))
      have hNt := keepO (ordM7 cs a 7 0 24 (aI Nt)) hNt hk (fun j hj ⟨i, h1, h2, h3⟩ => absurd (ia (7 + j) i (by omega) (by omega) h3) (by omega))
      have hTx := keepO (ordM7 cs a 8 3 60 (aI X)) hTx hk (fun j hj ⟨i, h1, h2, h3⟩ => absurd (ia (8 + j) i (by omega) (by omega) h3) (by omega))
      have hRd := keepO (ordM7 cs a 9 0 8 (cB Rd)) hRd hk (fun j hj ⟨i, h1, h2, h3⟩ => absurd (ia (9 + j) i (by omega) (by omega) h3) (by omega))
      have hSc : va_P G vwCl (m7 cs a 2 0 361 (aI (cpZ Z Y 361))) H := hSc'
      refine z_iconst (n := 0) hx hb dX7_restore_27 ?_
      refine lv_istore_n (lv' := [(2, .int (zI 0)), (0, .ref (a 0)), (1, .int (zI z))]) hx hb dX7_restore_28 rfl hl (by decide) rfl (fun ls hl => ?_)
      -- loop 29
      refine z_loopH (nL := 3) (fun (i : Int) => [(0, .ref (a 0)), (1, .int (zI z)), (2, .int (zI i))]) (fun (i : Int) (H : Heap) => (0 ≤ i ∧ i ≤ 361) ∧ va_P G vwCl (moW cs a n tl rn) H ∧ va_P G vwCl (m7 cs a 1 0 361 (aI (cpZ Y (fun k => Sl (361 * z + k)) i))) H ∧ va_P G vwCl (m7 cs a 2 0 361 (aI (cpZ Z Y 361))) H ∧ va_P G vwCl (m7 cs a 3 0 1805 (aI Hh)) H ∧ va_P G vwCl (m7 cs a 4 0 722 (aI Sl)) H ∧ va_P G vwCl (m7 cs a 5 2 2 (aI Kp)) H ∧ va_P G vwCl (m7 cs a 6 2 24 (aI Go)) H ∧ va_P G vwCl (m7 cs a 7 0 24 (aI Nt)) H ∧ va_P G vwCl (m7 cs a 8 3 60 (aI X)) H ∧ va_P G vwCl (m7 cs a 9 0 8 (cB Rd)) H) (fun (i : Int) => (361 - i).toNat) 0 ⟨(by omega), hMo, (by rw [cpZ_0]; exact hRw), hSc, hHs, hSl, hKp, hGo, hNt, hTx, hRd⟩ hS (lv_sub hl [1, 2, 0] rfl) (fun i H locs hIH hS ih ls hl => ?_)
      obtain ⟨hI, hMo, hRw, hSc, hHs, hSl, hKp, hGo, hNt, hTx, hRd⟩ := hIH
      have hl : lv_has ls 3 [(0, .ref (a 0)), (1, .int (zI z)), (2, .int (zI i))] := hl
      refine lv_iload_n hx hb dX7_restore_29 rfl (lv_at hl 2 rfl) ?_
      refine z_sipush (n := 361) hx hb dX7_restore_30 (by decide) ?_
      refine z_icmp_ge (tgt := 60) hx hb dX7_restore_33 (by decide) (by omega) (by omega) (fun c1 => ?_) (fun c1 => ?_)
      · skip
        have hRw : va_P G vwCl (m7 cs a 1 0 361 (aI (cpZ Y (fun k => Sl (361 * z + k)) 361))) H := (by rw [show i = 361 by omega] at hRw; exact hRw)
        have rr2 : RR (V z.toNat) (cpZ Y (fun k => Sl (361 * z + k)) 361) := rr_cp (hV9 _ (by omega) c2) ((sr_at hSR (by omega)).2 c2)
        refine lv_aload_n hx hb dX7_restore_60 rfl (lv_at hl 0 rfl) ?_
        refine lv_aload_n hx hb dX7_restore_61 rfl (lv_at hl 0 rfl) ?_
        refine va_get (D := G) (ci := 7) (v := .ref ((sh a 1) 0)) (C := RX7) (T := TX7) (N := 12) hx hb hts hi7 hown hK.1 hMo 0 rfl rfl 0 (by decide) (hts (.fieldLink RX7 7 "SpriteLinesModel" "row" "[I") (by decide +kernel)) (fun _ h9 => h9) rfl dX7_restore_62 ?_
        refine z_iconst (n := 4) hx hb dX7_restore_65 ?_
        refine z_iald hx hb hK.1 hRw 0 0 (F := (cpZ Y (fun k => Sl (361 * z + k)) 361)) rfl rfl (by omega) (by decide) dX7_restore_66 ?_
        refine z_topi (b := V z.toNat 0 4) rr2.1.2.2.2.2 ?_
        refine z_w (zrV (As := [.int (zI (V z.toNat 0 4))]) (rest := []) (Pw := fun H => va_P G vwCl (moW cs a n tl rn) H ∧ va_P G vwCl (m7 cs a 2 0 361 (aI (cpZ Z Y 361))) H ∧ va_P G vwCl (m7 cs a 3 0 1805 (aI Hh)) H) ⟨hx, hb, hml, hown, hts⟩ (c_X7_done l G cs a n tl rn Hh (cpZ Z Y 361) (V z.toNat 0 4) ia (by omega)) gX7_restore_X7_done rfl qX7_done rfl rfl ⟨Nat.le_of_ble_eq_true rfl, Nat.le_of_ble_eq_true rfl⟩ ⟨hMo, hSc, hHs⟩ hK (va_recv hK.1 hMo (ci := 7) (q0 := 0) rfl rfl) hl.1 rfl (Nat.le_of_ble_eq_true rfl) dX7_restore_67 ⟨Nat.le_of_ble_eq_true rfl, Nat.le_of_ble_eq_true rfl⟩) hS (fun q h => by rcases h with h | h <;> exact ax_mono h (by decide) (by decide)) (fun q h => by rcases h with h | h <;> exact ax_mono h (by decide) (by decide)) (fun v H locs hpost hle hk hS => ?_)
        obtain ⟨rfl, hMo', hHs'⟩ := hpost
        have hRw := keepO (ordM7 cs a 1 0 361 (aI (cpZ Y (fun k => Sl (361 * z + k)) 361))) hRw hk (fun j hj h0 => by rcases h0 with ⟨i, h1, h2, h3⟩ | ⟨i, h1, h2, h3⟩ <;> exact absurd (ia (1 + j) i (by omega) (by omega) h3) (by omega))
        have hSc := keepO (ordM7 cs a 2 0 361 (aI (cpZ Z Y 361))) hSc hk (fun j hj h0 => by rcases h0 with ⟨i, h1, h2, h3⟩ | ⟨i, h1, h2, h3⟩ <;> exact absurd (ia (2 + j) i (by omega) (by omega) h3) (by omega))
        have hSl := keepO (ordM7 cs a 4 0 722 (aI Sl)) hSl hk (fun j hj h0 => by rcases h0 with ⟨i, h1, h2, h3⟩ | ⟨i, h1, h2, h3⟩ <;> exact absurd (ia (4 + j) i (by omega) (by omega) h3) (by omega))
        have hKp := keepO (ordM7 cs a 5 2 2 (aI Kp)) hKp hk (fun j hj h0 => by rcases h0 with ⟨i, h1, h2, h3⟩ | ⟨i, h1, h2, h3⟩ <;> exact absurd (ia (5 + j) i (by omega) (by omega) h3) (by omega))
        have hGo := keepO (ordM7 cs a 6 2 24 (aI Go)) hGo hk (fun j hj h0 => by rcases h0 with ⟨i, h1, h2, h3⟩ | ⟨i, h1, h2, h3⟩ <;> exact absurd (ia (6 + j) i (by omega) (by omega) h3) (by omega))
        have hNt := keepO (ordM7 cs a 7 0 24 (aI Nt)) hNt hk (fun j hj h0 => by rcases h0 with ⟨i, h1, h2, h3⟩ | ⟨i, h1, h2, h3⟩ <;> exact absurd (ia (7 + j) i (by omega) (by omega) h3) (by omega))
        have hTx := keepO (ordM7 cs a 8 3 60 (aI X)) hTx hk (fun j hj h0 => by rcases h0 with ⟨i, h1, h2, h3⟩ | ⟨i, h1, h2, h3⟩ <;> exact absurd (ia (8 + j) i (by omega) (by omega) h3) (by omega))
        have hRd := keepO (ordM7 cs a 9 0 8 (cB Rd)) hRd hk (fun j hj h0 => by rcases h0 with ⟨i, h1, h2, h3⟩ | ⟨i, h1, h2, h3⟩ <;> exact absurd (ia (9 + j) i (by omega) (by omega) h3) (by omega))
        have hMo : va_P G vwCl (moW cs a (remN n) tl rn) H := hMo'
        have hHs : va_P G vwCl (m7 cs a 3 0 1805 (aI (doneH n Hh (cpZ Z Y 361)))) H := hHs'
        exact w_iret hx hb hr hlk dX7_restore_70 hS (by rw [show restoreF (S, (n, L), (tl, X), (k, V)) z = _ from by unfold restoreF; rw [if_neg (show ¬ (¬ (0 ≤ z ∧ z < 2)) by omega), if_neg (show ¬ (k z.toNat = false) by rw [c2]; decide)]]; exact ⟨rfl, ⟨cpZ Y (fun k => Sl (361 * z + k)) 361, cpZ Z Y 361, doneH n Hh (cpZ Z Y 361), Sl, Kp, Go, Nt, rn, Rd, rr2, (hr_done (S := S) wf0 hL9 hHR rr hn), hSR, hMo, hRw, hSc, hHs, hSl, hKp, hGo, hNt, hTx, hRd⟩⟩)
      · skip
        refine lv_aload_n hx hb dX7_restore_36 rfl (lv_at hl 0 rfl) ?_
        refine va_get (D := G) (ci := 7) (v := .ref ((sh a 1) 0)) (C := RX7) (T := TX7) (N := 12) hx hb hts hi7 hown hK.1 hMo 0 rfl rfl 0 (by decide) (hts (.fieldLink RX7 7 "SpriteLinesModel" "row" "[I") (by decide +kernel)) (fun _ h9 => h9) rfl dX7_restore_37 ?_
        refine lv_iload_n hx hb dX7_restore_40 rfl (lv_at hl 2 rfl) ?_
        refine lv_aload_n hx hb dX7_restore_41 rfl (lv_at hl 0 rfl) ?_
        refine va_get (D := G) (ci := 7) (v := .ref ((sh a 4) 0)) (C := RX7) (T := TX7) (N := 12) hx hb hts hi7 hown hK.1 hMo 0 rfl rfl 4 (by decide) (hts (.fieldLink RX7 19 "SpriteLinesModel" "slots" "[I") (by decide +kernel)) (fun _ h9 => h9) rfl dX7_restore_42 ?_
        refine z_sipush (n := 361) hx hb dX7_restore_45 (by decide) ?_
        refine lv_iload_n hx hb dX7_restore_48 rfl (lv_at hl 1 rfl) ?_
        refine z_imul hx hb dX7_restore_49 ?_
        refine lv_iload_n hx hb dX7_restore_50 rfl (lv_at hl 2 rfl) ?_
        refine z_iadd hx hb dX7_restore_51 ?_
        refine z_iald hx hb hK.1 hSl 0 0 (F := Sl) rfl rfl (by omega) (by decide) dX7_restore_52 ?_
        refine z_iast hx hb hK.1 hRw (Ord.D (ordM7 cs a 1 0 361 (aI (cpZ Y (fun k => Sl (361 * z + k)) i))) inj1) hS 0 0 (F := (cpZ Y (fun k => Sl (361 * z + k)) i)) rfl rfl (by omega) (by decide) ⟨1, by decide, by decide, rfl⟩ dX7_restore_53 (fun H locs hP1 hle hk hS => ?_)
        have hMo := keepO (ordMo cs a n tl rn) hMo hk (fun j hj h3 => absurd (ia j 1 (by omega) (by omega) h3) (by omega))
        have hSc := keepO (ordM7 cs a 2 0 361 (aI (cpZ Z Y 361))) hSc hk (fun j hj h3 => absurd (ia (2 + j) 1 (by omega) (by omega) h3) (by omega))
        have hHs := keepO (ordM7 cs a 3 0 1805 (aI Hh)) hHs hk (fun j hj h3 => absurd (ia (3 + j) 1 (by omega) (by omega) h3) (by omega))
        have hSl := keepO (ordM7 cs a 4 0 722 (aI Sl)) hSl hk (fun j hj h3 => absurd (ia (4 + j) 1 (by omega) (by omega) h3) (by omega))
        have hKp := keepO (ordM7 cs a 5 2 2 (aI Kp)) hKp hk (fun j hj h3 => absurd (ia (5 + j) 1 (by omega) (by omega) h3) (by omega))
        have hGo := keepO (ordM7 cs a 6 2 24 (aI Go)) hGo hk (fun j hj h3 => absurd (ia (6 + j) 1 (by omega) (by omega) h3) (by omega))
        have hNt := keepO (ordM7 cs a 7 0 24 (aI Nt)) hNt hk (fun j hj h3 => absurd (ia (7 + j) 1 (by omega) (by omega) h3) (by omega))
        have hTx := keepO (ordM7 cs a 8 3 60 (aI X)) hTx hk (fun j hj h3 => absurd (ia (8 + j) 1 (by omega) (by omega) h3) (by omega))
        have hRd := keepO (ordM7 cs a 9 0 8 (cB Rd)) hRd hk (fun j hj h3 => absurd (ia (9 + j) 1 (by omega) (by omega) h3) (by omega))
        have hRw : va_P G vwCl (m7 cs a 1 0 361 (aI (updZ (cpZ Y (fun k => Sl (361 * z + k)) i) i (Sl ((361 * z) + i))))) H := hP1
        refine z_iinc (k := 2) (lv' := [(2, .int (zI (i + 1))), (0, .ref (a 0)), (1, .int (zI z))]) hx hb dX7_restore_54 hl rfl (by decide) rfl (fun ls hl => ?_)
        refine lv_goto (tgt := 29) hx hb dX7_restore_57 (by decide) ?_
        exact ih (i + 1) H locs ⟨(by omega), hMo, (by rw [← cpZ_s (Z := Y) (Y := fun k => Sl (361 * z + k)) hI.1]; exact hRw), hSc, hHs, hSl, hKp, hGo, hNt, hTx, hRd⟩ hS (by omega) ls (lv_sub hl [1, 2, 0] rfl)
    · skip
      refine z_bipush (n := -5) hx hb dX7_restore_20 (by decide) ?_
      exact w_iret hx hb hr hlk dX7_restore_22 hS (by rw [show restoreF (S, (n, L), (tl, X), (k, V)) z = _ from by unfold restoreF; rw [if_neg (show ¬ (¬ (0 ≤ z ∧ z < 2)) by omega), if_pos c2]]; exact ⟨rfl, ⟨Y, Z, Hh, Sl, Kp, Go, Nt, rn, Rd, rr, hHR, hSR, hMo, hRw, hSc, hHs, hSl, hKp, hGo, hNt, hTx, hRd⟩⟩)
  · skip
    simp only [decide_eq_false_iff_not] at c1
    refine z_iconst (n := -1) hx hb dX7_restore_9 ?_
    exact w_iret hx hb hr hlk dX7_restore_10 hS (by rw [show restoreF (S, (n, L), (tl, X), (k, V)) z = _ from by unfold restoreF; rw [if_pos (show ¬ (0 ≤ z ∧ z < 2) by omega)]]; exact ⟨rfl, ⟨Y, Z, Hh, Sl, Kp, Go, Nt, rn, Rd, rr, hHR, hSR, hMo, hRw, hSc, hHs, hSl, hKp, hGo, hNt, hTx, hRd⟩⟩)
