/-! Colors by their source, meetings, the sums over the sprites and the lines. -/
section PU2
variable {S : SS} {q r : Int}
theorem colI_cases (S : SS) (q fr r : Int) : (colI S q fr r = -5 ∧ ∀ x, 0 ≤ x → x < S 0 1 → (shownB S q fr x && decide (pixAt S x q r ≠ 0)) = false) ∨ ((0 ≤ colI S q fr r ∧ colI S q fr r < S 0 1) ∧ shownB S q fr (colI S q fr r) = true ∧ pixAt S (colI S q fr r) q r ≠ 0) := by
  unfold colI
  rcases ff_cases (fun x => shownB S q fr x && decide (pixAt S x q r ≠ 0)) 0 (S 0 1).toNat with ⟨j, h1, h2, h3, -, h5⟩ | ⟨h4, h5⟩
  · refine Or.inr ?_
    rw [h5]
    have h3 : (shownB S q fr j && decide (pixAt S j q r ≠ 0)) = true := h3
    rw [Bool.and_eq_true, decide_eq_true_iff] at h3
    exact ⟨by omega, h3.1, h3.2⟩
  · exact Or.inl ⟨h5, fun x h1 h2 => h4 x h1 (by omega)⟩
theorem colI_hit {fr x : Int} (hx : 0 ≤ x ∧ x < S 0 1) (h : ∀ j, 0 ≤ j → j < x → (shownB S q fr j && decide (pixAt S j q r ≠ 0)) = false) (h1 : shownB S q fr x = true) (h2 : pixAt S x q r ≠ 0) : colI S q fr r = x := ff_hit x h hx.1 (by omega) (by rw [h1, decide_eq_true h2]; rfl)
theorem colI_none {fr : Int} (h : ∀ j, 0 ≤ j → j < S 0 1 → (shownB S q fr j && decide (pixAt S j q r ≠ 0)) = false) : colI S q fr r = -5 := ff_none (fun i h1 h2 => h i h1 (by omega))
/-- where the color of a pixel comes from, as the law counts -/
def srcF (S : SS) (q r : Int) : Int := if colI S q (S 0 4) r = -5 then 0 else 4 * palOn S q (S 1 (6 * colI S q (S 0 4) r + 2)) + pixAt S (colI S q (S 0 4) r) q r
theorem palOn_rr (h : WF S) {z : Int} (hq : 0 ≤ q ∧ q < 32) (hz : 0 ≤ z ∧ z ≤ 3) : 0 ≤ palOn S q z ∧ palOn S q z ≤ 3 := by
  have := h.2.2.2.2.2.2.2.1 q hq.1 hq.2
  unfold palOn
  repeat' split
  all_goals omega
theorem srcF_r (h : WF S) (hq : 0 ≤ q ∧ q < 32) : srcF S q r = 0 ∨ ((0 < srcF S q r ∧ srcF S q r < 16) ∧ srcF S q r % 4 ≠ 0) := by
  unfold srcF
  rcases colI_cases S q (S 0 4) r with ⟨e, -⟩ | ⟨hx, -, hp⟩
  · rw [if_pos e]; exact Or.inl rfl
  · rw [if_neg (by omega)]
    have h1 := pixAt_r h (q := q) (r := r) hx
    have h2 := wf_wP h _ hx.1 hx.2
    have h3 := palOn_rr h hq (z := S 1 (6 * colI S q (S 0 4) r + 2)) h2.2.2.1
    exact Or.inr ⟨by omega, by omega⟩
theorem col_src' (h : WF S) (hq : 0 ≤ q ∧ q < 32) : colF S q (S 0 4) r = if srcF S q r = 0 then 0 else S 2 (srcF S q r) := by
  rcases colI_cases S q (S 0 4) r with ⟨e, -⟩ | ⟨hx, -, hp⟩
  · unfold colF srcF
    rw [if_pos e, if_pos e, if_pos rfl]
  · have h1 := pixAt_r h (q := q) (r := r) hx
    have h2 := wf_wP h _ hx.1 hx.2
    have h3 := palOn_rr h hq (z := S 1 (6 * colI S q (S 0 4) r + 2)) h2.2.2.1
    unfold colF srcF
    rw [if_neg (by omega), if_neg (by omega), if_neg (by omega)]
theorem ln_pal (h : WF S) (hq : 0 ≤ q ∧ q < 32) {z : Int} (hz : 0 ≤ z) : palOn S q z = if z = lineF S q 3 then lineF S q 4 else if z = lineF S q 4 then lineF S q 3 else z := by
  rw [ln_3 hq, ln_4 hq]
  unfold palOn
  cases c : hasSw S q with
  | true => rfl
  | false =>
    have e : S 3 q = S 4 q := by
      unfold hasSw at c
      by_cases e : S 3 q = S 4 q
      · exact e
      · rw [decide_eq_true e] at c
        cases c
    show _ = if z = -5 then (-5 : Int) else if z = -5 then (-5 : Int) else z
    rw [if_neg (show ¬ z = -5 by omega), if_neg (show ¬ z = -5 by omega)]
    repeat' split
    all_goals omega
theorem src_hit (h : WF S) (hq : 0 ≤ q ∧ q < 32) {x v : Int} (hx : 0 ≤ x ∧ x < S 0 1) (hj : ∀ j, 0 ≤ j → j < x → (shownB S q (S 0 4) j && decide (pixAt S j q r ≠ 0)) = false) (h1 : shownB S q (S 0 4) x = true) (h2 : 0 < pixAt S x q r) (hv : v = if S 1 (6 * x + 2) = lineF S q 3 then lineF S q 4 else if S 1 (6 * x + 2) = lineF S q 4 then lineF S q 3 else S 1 (6 * x + 2)) : 4 * v + pixAt S x q r = srcF S q r := by
  have e := colI_hit (q := q) (r := r) hx hj h1 (by omega)
  have hp := wf_wP h x hx.1 hx.2
  unfold srcF
  rw [e, if_neg (by omega), hv, ← ln_pal h hq hp.2.2.1.1]
theorem src_none (hj : ∀ j, 0 ≤ j → j < S 0 1 → (shownB S q (S 0 4) j && decide (pixAt S j q r ≠ 0)) = false) : srcF S q r = 0 := by
  unfold srcF
  rw [if_pos (colI_none hj)]
theorem ln_34 (h : WF S) (hq : 0 ≤ q ∧ q < 32) : (lineF S q 3 = -5 ∧ lineF S q 4 = -5 ∧ hasSw S q = false) ∨ ((0 ≤ lineF S q 3 ∧ lineF S q 3 < lineF S q 4 ∧ lineF S q 4 ≤ 3) ∧ hasSw S q = true) := by
  have h3 := h.2.2.2.2.2.2.2.1 q hq.1 hq.2
  rw [ln_3 hq, ln_4 hq]
  cases c : hasSw S q with
  | true =>
    refine Or.inr ⟨?_, rfl⟩
    have := of_decide_eq_true c
    show 0 ≤ S 3 q ∧ S 3 q < S 4 q ∧ S 4 q ≤ 3
    omega
  | false => exact Or.inl ⟨rfl, rfl, rfl⟩
theorem colF_rr (h : WF S) (hq : 0 ≤ q ∧ q < 32) : 0 ≤ colF S q (S 0 4) r ∧ colF S q (S 0 4) r ≤ 63 := by
  rw [col_src' h hq]
  rcases srcF_r h hq (r := r) with e | ⟨e, -⟩
  · rw [if_pos e]; decide
  · rw [if_neg (by omega)]
    exact h.2.2.2.2.2.2.1 _ (by omega) (by omega)
theorem colorF_r (h : WF S) : -1 ≤ colorF S q r ∧ colorF S q r ≤ 63 := by
  by_cases c : (0 ≤ q ∧ q < 32) ∧ (0 ≤ r ∧ r < 32)
  · rw [cl_at c.1 c.2]
    have := colF_rr h c.1 (r := r)
    omega
  · rw [cl_no c]
    decide
/-- the palettes that the law keeps -/
def PalR (S : SS) (P : Int → Int) : Prop := ∀ k, 0 < k → k < 16 → k % 4 ≠ 0 → S 2 k = P k
theorem pal_due (h : WF S) (hq : 0 ≤ q ∧ q < 32) {P : Int → Int} (hP : PalR S P) : colF S q (S 0 4) r = if srcF S q r = 0 then 0 else P (srcF S q r) := by
  rw [col_src' h hq]
  rcases srcF_r h hq (r := r) with e | ⟨e, e4⟩
  · rw [if_pos e, if_pos e]
  · rw [if_neg (by omega), if_neg (by omega)]
    exact hP _ (by omega) (by omega) e4
-- meetings
theorem lm_of {fr x y : Int} (h1 : shownB S q fr x = true) (h2 : shownB S q fr y = true) : lineMeet S fr x y q = anyN (fun r => decide (pixAt S x q r ≠ 0) && decide (pixAt S y q r ≠ 0)) 32 := by
  unfold lineMeet
  rw [h1, h2]
  rfl
theorem lm_no {fr x y : Int} (h : shownB S q fr x = false ∨ shownB S q fr y = false) : lineMeet S fr x y q = false := by
  unfold lineMeet
  rcases h with h | h
  · rw [h]; rfl
  · rw [h, Bool.and_false]; rfl
theorem notW {fr x : Int} (h : isW S q x = false) : shownB S q fr x = false := by
  cases c : shownB S q fr x with
  | false => rfl
  | true => rw [shown_isW c] at h; cases h
theorem mt_at {x y : Int} (hx : 0 ≤ x ∧ x < S 0 1) (hy : 0 ≤ y ∧ y < S 0 1) (hne : x ≠ y) : meetF S x y = b2 (meetB S (S 0 4) x y) := by
  unfold meetF
  rw [if_neg (fun h9 => h9 ⟨hx, hy⟩), if_neg hne]
theorem mt_same {x : Int} (hx : 0 ≤ x ∧ x < S 0 1) : meetF S x x = -2 := by
  unfold meetF
  rw [if_neg (fun h9 => h9 ⟨hx, hx⟩), if_pos rfl]
theorem mt_no {x y : Int} (h : ¬ ((0 ≤ x ∧ x < S 0 1) ∧ (0 ≤ y ∧ y < S 0 1))) : meetF S x y = -1 := by
  unfold meetF
  rw [if_pos h]
theorem met_t {x s : Int} (hx : 0 ≤ x ∧ x < S 0 1) (hs : 0 ≤ s ∧ s < S 0 1) (hne : x ≠ s) : cntI (fun y => decide (y ≠ s) && meetB S (S 0 4) s y) (x + 1) = cntI (fun y => decide (y ≠ s) && meetB S (S 0 4) s y) x + meetF S s x := by
  rw [cntI_s _ hx.1, mt_at hs hx (Ne.symm hne)]
  show _ + b2 (decide (x ≠ s) && meetB S (S 0 4) s x) = _
  rw [decide_eq_true hne]
  rfl
theorem met_f {s : Int} (hs : 0 ≤ s) : cntI (fun y => decide (y ≠ s) && meetB S (S 0 4) s y) (s + 1) = cntI (fun y => decide (y ≠ s) && meetB S (S 0 4) s y) s + 0 := by
  rw [cntI_s _ hs]
  show _ + b2 (decide (s ≠ s) && meetB S (S 0 4) s s) = _
  rw [decide_eq_false (fun h9 => h9 rfl)]
  rfl
theorem sumN_ss {f : Int → Int} {k : Int} (h : 0 ≤ k) : sumN f (k + 1).toNat = sumN f k.toNat + f k := by
  obtain ⟨n, rfl⟩ := Int.eq_ofNat_of_zero_le h
  rw [show ((n : Int) + 1).toNat = n + 1 by omega, sumN]
  rfl
theorem cnt_on {s : Int} (h : WF S) (hs : 0 ≤ s ∧ s < S 0 1) : cntI (isOn S) (s + 1) = cntI (isOn S) s + S 1 (6 * s + 3) := by
  have hp := (wf_wP h s hs.1 hs.2).2.2.2.1
  rw [cntI_s _ hs.1]
  unfold isOn
  by_cases e : S 1 (6 * s + 3) = 1
  · rw [b2_t (decide_eq_true e)]; omega
  · rw [b2_f (decide_eq_false e)]; omega
theorem ct_0 {A : AS} : countF A 0 = A.1 0 0 := rfl
theorem ct_1 {A : AS} : countF A 1 = A.1 0 1 := rfl
theorem ct_2 {A : AS} : countF A 2 = cntI (isOn A.1) (A.1 0 1) := rfl
theorem ct_3 {A : AS} : countF A 3 = cntI (fun q => decide (A.1 0 2 < cntI (isW A.1 q) (A.1 0 1))) 32 := rfl
theorem ct_4 {A : AS} : countF A 4 = maxI (fun q => cntI (isW A.1 q) (A.1 0 1)) 32 := rfl
theorem ct_5 {A : AS} : countF A 5 = cntI (hasSw A.1) 32 := rfl
theorem ct_6 {A : AS} : countF A 6 = pairsF A.1 (A.1 0 4) := rfl
theorem ct_7 {A : AS} : countF A 7 = cntI (fun q => !isUsed A.1 q) (A.1 0 0) := rfl
theorem ct_8 {A : AS} : countF A 8 = A.1 0 4 := rfl
theorem ct_9 {A : AS} : countF A 9 = A.1 0 2 := rfl
theorem ct_10 {A : AS} : countF A 10 = A.1 0 3 := rfl
theorem ct_14 {A : AS} : countF A 14 = -2 := rfl
/-- what the law prints of the screen -/
def prN (S : SS) : Nat → Int
  | 0 => 7
  | n + 1 => 31 * prN S n + colorF S (3 * n / 32) (3 * n % 32)
def prF (S : SS) : Int := (zI (prN S 342)).toInt
theorem prN_congr {S S2 : SS} (h : ∀ q r, 0 ≤ q → q < 32 → 0 ≤ r → r < 32 → colorF S q r = colorF S2 q r) (n : Nat) (hn : n ≤ 342) : prN S n = prN S2 n := by
  induction n with
  | zero => rfl
  | succ n ih => rw [prN, prN, ih (by omega), h _ _ (by omega) (by omega) (by omega) (by omega)]
theorem prF_congr {S S2 : SS} (h : ∀ q r, 0 ≤ q → q < 32 → 0 ≤ r → r < 32 → colorF S q r = colorF S2 q r) : prF S = prF S2 := by
  unfold prF
  rw [prN_congr h 342 (Nat.le_refl _)]
theorem prF_r (S : SS) : -2147483648 ≤ prF S ∧ prF S < 2147483648 := zI_rng _
theorem prF_i (S : SS) : Value.int (zI (prN S 342)) = .int (zI (prF S)) := congrArg Value.int (zI_of _)
theorem prN_s {k : Int} (h : 0 ≤ k) : prN S (k + 1).toNat = 31 * prN S k.toNat + colorF S (3 * k / 32) (3 * k % 32) := by
  obtain ⟨n, rfl⟩ := Int.eq_ofNat_of_zero_le h
  rw [show ((n : Int) + 1).toNat = n + 1 by omega, prN]
  rfl
theorem shn_no {q k : Int} (hq : ¬ (0 ≤ q ∧ q < 32)) : shownF S q k = -1 := by
  unfold shownF
  rw [if_pos hq]
theorem shI_no {q k : Int} (hq : ¬ ((0 ≤ q ∧ q < 32) ∧ (0 ≤ k ∧ k < S 0 1))) : shownInF S q k = -1 := by
  unfold shownInF
  rw [if_pos hq]
theorem px_no1 {q r t : Int} (hq : ¬ (0 ≤ q ∧ q < S 0 0)) : pixelF S q r t = -1 := by
  unfold pixelF
  rw [if_pos hq]
theorem px_no2 {q r t : Int} (hq : 0 ≤ q ∧ q < S 0 0) (h : ¬ ((0 ≤ r ∧ r < 8) ∧ (0 ≤ t ∧ t < 8))) : pixelF S q r t = -2 := by
  unfold pixelF
  rw [if_neg (fun h9 => h9 hq), if_pos h]
theorem al_no {q t : Int} (h : ¬ ((0 ≤ q ∧ q < S 0 0) ∧ (0 ≤ t ∧ t < S 0 0))) : alikeF S q t = -1 := by
  unfold alikeF
  rw [if_pos h]
theorem sum_r {f : Int → Int} (h : ∀ k, 0 ≤ f k ∧ f k ≤ 20) (n : Nat) : 0 ≤ sumN f n ∧ sumN f n ≤ 20 * (n : Int) := by
  induction n with
  | zero => exact ⟨Int.le_refl _, Int.le_refl _⟩
  | succ n ih =>
    have := h n
    rw [sumN]
    omega
theorem met_r (h : WF S) (fr x : Int) : 0 ≤ metF S fr x ∧ metF S fr x ≤ 20 := by
  have h1 := h.2.1
  have := cntI_r (fun y => decide (y ≠ x) && meetB S fr x y) h1.1
  unfold metF
  omega
end PU2
