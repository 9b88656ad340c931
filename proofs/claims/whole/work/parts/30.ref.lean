/-! The reference: its cells, and what its row says of a State. -/
abbrev moW (cs : Nat → ClassId) (a : Nat → Nat) (k t n : Int) : va_W := [
  (a 0, .inr (7, [.ref ((sh a 1) 0), .ref ((sh a 2) 0), .ref ((sh a 3) 0), .int (zI k), .ref ((sh a 4) 0), .ref ((sh a 5) 0), .ref ((sh a 6) 0), .ref ((sh a 7) 0), .int (zI t), .ref ((sh a 8) 0), .int (zI n), .ref ((sh a 9) 0)]))]
abbrev m7 (cs : Nat → ClassId) (a : Nat → Nat) (o t n : Nat) (f : Nat → Int32) : va_W := [((sh a o) 0, .inl (cs t, n, .inl f))]
theorem ordMo (cs : Nat → ClassId) (a : Nat → Nat) (k t n : Int) : Ord a 1 (moW cs a k t n) := Ord.of rfl
theorem ordM7 (cs : Nat → ClassId) (a : Nat → Nat) (o t n : Nat) (f : Nat → Int32) : Ord (sh a o) 1 (m7 cs a o t n f) := Ord.of rfl
/-- a row of eight pixels, two bits each -/
def rowB (X : Int → Int) (b : Int) : Nat → Bool := fun k => decide (k < 16) && (if k % 2 = 0 then decide (X (b + ((k / 2 : Nat) : Int)) % 2 = 1) else decide (X (b + ((k / 2 : Nat) : Int)) / 2 % 2 = 1))
def RX (n : Int) (X Y : Int → Int) : Prop := ∀ p r, 0 ≤ p → p < n → 0 ≤ r → r < 8 → zI (Y (5 + 8 * p + r)) = iB (rowB X (64 * p + 8 * r))
def RC (C Y : Int → Int) : Prop := ∀ q v, 0 ≤ q → q < 4 → 1 ≤ v → v < 4 → Y (197 + 3 * q + v - 1) = C (4 * q + v)
def RS (n : Int) (P Y : Int → Int) : Prop := ∀ s t, 0 ≤ s → s < n → 0 ≤ t → t < 6 → Y (209 + 6 * s + t) = P (6 * s + t)
def RW (B U Y : Int → Int) : Prop := ∀ x, 0 ≤ x → x < 32 → Y (329 + x) = if B x = U x then 0 else 16 * B x + U x
/-- the row Y says what S says, as far as it can be seen -/
def RR (S : SS) (Y : Int → Int) : Prop := (Y 0 = S 0 0 ∧ Y 1 = S 0 1 ∧ Y 2 = S 0 2 ∧ Y 3 = S 0 3 ∧ Y 4 = S 0 4) ∧ RX (S 0 0) (S 5) Y ∧ RC (S 2) Y ∧ RS (S 0 1) (S 1) Y ∧ RW (S 3) (S 4) Y
theorem rr_congr {S : SS} {Y Y2 : Int → Int} (wf : WF S) (h : RR S Y) (e : ∀ k, 0 ≤ k → k < 361 → Y2 k = Y k) : RR S Y2 := by
  obtain ⟨w0, w1, -⟩ := wf
  obtain ⟨⟨a0, a1, a2, a3, a4⟩, hx, hc, hs, hw⟩ := h
  refine ⟨⟨by rw [e 0 (by decide) (by decide), a0], by rw [e 1 (by decide) (by decide), a1], by rw [e 2 (by decide) (by decide), a2], by rw [e 3 (by decide) (by decide), a3], by rw [e 4 (by decide) (by decide), a4]⟩, ?_, ?_, ?_, ?_⟩
  · intro p r h1 h2 h3 h4
    rw [e _ (by omega) (by omega)]
    exact hx p r h1 h2 h3 h4
  · intro q v h1 h2 h3 h4
    rw [e _ (by omega) (by omega)]
    exact hc q v h1 h2 h3 h4
  · intro s t h1 h2 h3 h4
    rw [e _ (by omega) (by omega)]
    exact hs s t h1 h2 h3 h4
  · intro x h1 h2
    rw [e _ (by omega) (by omega)]
    exact hw x h1 h2
theorem zI_pix {v : Int} (h : 0 ≤ v ∧ v ≤ 3) : zI v = iB (fun k => if k = 0 then decide (v % 2 = 1) else if k = 1 then decide (v / 2 % 2 = 1) else false) := by rcases Int4 h with rfl | rfl | rfl | rfl <;> decide +kernel
theorem zI_3B : zI 3 = iB (fun k => decide (k < 2)) := by decide +kernel
theorem iB_nt (f : Nat → Bool) : iB f ^^^ zI (-1) = iB (fun k => !f k) := by
  rw [show zI (-1) = iB (fun _ => true) by decide +kernel, iB_xor]
  exact iB_congr (fun k _ => by simp)
theorem pixB {X : Int → Int} {b c : Int} (hc : 0 ≤ c ∧ c < 8) (hv : 0 ≤ X (b + c) ∧ X (b + c) ≤ 3) : iB (fun k => if k + (2 * c).toNat < 32 then rowB X b (k + (2 * c).toNat) else rowB X b 31) &&& zI 3 = zI (X (b + c)) := by
  rw [zI_3B, iB_and, zI_pix hv]
  obtain ⟨n, rfl⟩ := Int.eq_ofNat_of_zero_le hc.1
  have e : (2 * (n : Int)).toNat = 2 * n := by omega
  rw [e]
  refine iB_congr (fun k hk => ?_)
  by_cases h0 : k = 0
  · subst h0
    rw [if_pos (show 0 + 2 * n < 32 by omega), if_pos rfl]
    unfold rowB
    rw [if_pos (show (0 + 2 * n) % 2 = 0 by omega), show (0 + 2 * n) / 2 = n by omega, decide_eq_true (show 0 + 2 * n < 16 by omega)]
    simp
  · by_cases h1 : k = 1
    · subst h1
      rw [if_pos (show 1 + 2 * n < 32 by omega), if_neg h0, if_pos rfl]
      unfold rowB
      rw [if_neg (show ¬ (1 + 2 * n) % 2 = 0 by omega), show (1 + 2 * n) / 2 = n by omega, decide_eq_true (show 1 + 2 * n < 16 by omega)]
      simp
    · rw [if_neg h0, if_neg h1, decide_eq_false (show ¬ k < 2 by omega), Bool.and_false]
theorem rowB_congr {X X2 : Int → Int} {b : Int} (h : ∀ c : Int, 0 ≤ c → c < 8 → X (b + c) = X2 (b + c)) : rowB X b = rowB X2 b := by
  funext k
  unfold rowB
  by_cases hk : k < 16
  · rw [h ((k / 2 : Nat) : Int) (by omega) (by omega)]
  · rw [decide_eq_false hk, Bool.false_and, Bool.false_and]
/-- a pixel put into a row -/
theorem putB {X : Int → Int} {b c v : Int} (hc : 0 ≤ c ∧ c < 8) {k : Nat} : ((rowB X b k && !(decide ((2 * c).toNat ≤ k) && decide (k - (2 * c).toNat < 2))) || (decide ((2 * c).toNat ≤ k) && (if k - (2 * c).toNat = 0 then decide (v % 2 = 1) else if k - (2 * c).toNat = 1 then decide (v / 2 % 2 = 1) else false))) = rowB (updZ X (b + c) v) b k := by
  obtain ⟨n, rfl⟩ := Int.eq_ofNat_of_zero_le hc.1
  have e : (2 * (n : Int)).toNat = 2 * n := by omega
  rw [e]
  by_cases h0 : k = 2 * n
  · subst h0
    have e2 : rowB (updZ X (b + n) v) b (2 * n) = decide (v % 2 = 1) := by
      unfold rowB
      rw [if_pos (show 2 * n % 2 = 0 by omega), show 2 * n / 2 = n by omega, updZ_s, decide_eq_true (show 2 * n < 16 by omega), Bool.true_and]
    rw [e2, Nat.sub_self, if_pos rfl]
    simp
  · by_cases h1 : k = 2 * n + 1
    · subst h1
      have e2 : rowB (updZ X (b + n) v) b (2 * n + 1) = decide (v / 2 % 2 = 1) := by
        unfold rowB
        rw [if_neg (show ¬ (2 * n + 1) % 2 = 0 by omega), show (2 * n + 1) / 2 = n by omega, updZ_s, decide_eq_true (show 2 * n + 1 < 16 by omega), Bool.true_and]
      rw [e2, show 2 * n + 1 - 2 * n = 1 by omega, if_neg (by decide), if_pos rfl]
      simp
    · have e2 : rowB (updZ X (b + n) v) b k = rowB X b k := by
        unfold rowB
        rw [updZ_n (show b + ((k / 2 : Nat) : Int) ≠ b + (n : Int) by omega)]
      rw [e2]
      by_cases h2 : 2 * n ≤ k
      · rw [decide_eq_false (show ¬ k - 2 * n < 2 by omega), if_neg (show ¬ k - 2 * n = 0 by omega), if_neg (show ¬ k - 2 * n = 1 by omega)]
        simp
      · rw [decide_eq_false h2]
        simp
theorem cntI_z {f : Int → Bool} {n : Int} (h : 0 ≤ n) (hf : f n = false) : cntI f (n + 1) = cntI f n + 0 := by rw [cntI_f h hf, Int.add_zero]
theorem zI_toInt_iB (f : Nat → Bool) : iB f = zI (iB f).toInt := zI_of _
/-- copies of a row -/
def cpZ (Z Y : Int → Int) (i : Int) : Int → Int := fun k => if 0 ≤ k ∧ k < i then Y k else Z k
theorem cpZ_0 {Z Y : Int → Int} : cpZ Z Y 0 = Z := funext fun k => if_neg (by omega)
theorem cpZ_s {Z Y : Int → Int} {i : Int} (h : 0 ≤ i) : updZ (cpZ Z Y i) i (Y i) = cpZ Z Y (i + 1) := by
  funext k
  unfold updZ cpZ
  by_cases e : k = i
  · rw [if_pos e, if_pos (by omega), e]
  · rw [if_neg e]
    by_cases c : 0 ≤ k ∧ k < i
    · rw [if_pos c, if_pos (by omega)]
    · rw [if_neg c, if_neg (by omega)]
/-- a row written into an array at o -/
def wrZ (H Z : Int → Int) (o i : Int) : Int → Int := fun k => if o ≤ k ∧ k < o + i then Z (k - o) else H k
theorem wrZ_0 {H Z : Int → Int} {o : Int} : wrZ H Z o 0 = H := funext fun k => if_neg (by omega)
theorem wrZ_s {H Z : Int → Int} {o i : Int} (h : 0 ≤ i) : updZ (wrZ H Z o i) (o + i) (Z i) = wrZ H Z o (i + 1) := by
  funext k
  unfold updZ wrZ
  by_cases e : k = o + i
  · rw [if_pos e, if_pos (by omega), e, show o + i - o = i by omega]
  · rw [if_neg e]
    by_cases c : o ≤ k ∧ k < o + i
    · rw [if_pos c, if_pos (by omega)]
    · rw [if_neg c, if_neg (by omega)]
def shZ (H : Int → Int) (i : Int) : Int → Int := fun k => if 0 ≤ k ∧ k < i then H (k + 361) else H k
theorem shZ_0 {H : Int → Int} : shZ H 0 = H := funext fun k => if_neg (by omega)
theorem shZ_at {H : Int → Int} {i : Int} : shZ H i (i + 361) = H (i + 361) := if_neg (by omega)
theorem shZ_s {H : Int → Int} {i : Int} (h : 0 ≤ i) : updZ (shZ H i) i (shZ H i (i + 361)) = shZ H (i + 1) := by
  funext k
  rw [shZ_at]
  unfold updZ shZ
  by_cases e : k = i
  · rw [if_pos e, if_pos (by omega), e]
  · rw [if_neg e]
    by_cases c : 0 ≤ k ∧ k < i
    · rw [if_pos c, if_pos (by omega)]
    · rw [if_neg c, if_neg (by omega)]
def doneH (n : Int) (H Z : Int → Int) : Int → Int := if n = 5 then wrZ (shZ H 1444) Z 1444 361 else wrZ H Z (361 * n) 361
/-- the reference's history holds the states -/
def HR (n : Int) (L : Nat → SS) (H : Int → Int) : Prop := ∀ i : Nat, (i : Int) < n → RR (L i) (fun k => H (361 * (i : Int) + k))
def SR (k : Nat → Bool) (V : Nat → SS) (Kp Sl : Int → Int) : Prop := ∀ i : Nat, i < 2 → Kp (i : Int) = b2 (k i) ∧ (k i = true → RR (V i) (fun j => Sl (361 * (i : Int) + j)))
theorem hr_done {n : Int} {L : Nat → SS} {H Z Y : Int → Int} {S : SS} (wf : WF S) (hL : ∀ i : Nat, (i : Int) < n → WF (L i)) (h : HR n L H) (rr : RR S Y) (hn : 0 ≤ n ∧ n ≤ 5) : HR (remN n) (remL n L S) (doneH n H (cpZ Z Y 361)) := by
  have hZ : ∀ k, 0 ≤ k → k < 361 → cpZ Z Y 361 k = Y k := fun k h1 h2 => if_pos ⟨h1, h2⟩
  unfold remN
  by_cases c : n < 5
  · rw [if_pos c]
    intro i hi
    unfold remL doneH
    rw [if_pos c, if_neg (show ¬ n = 5 by omega)]
    by_cases e : (i : Int) = n
    · rw [if_pos e]
      refine rr_congr wf rr (fun k h1 h2 => ?_)
      show wrZ H (cpZ Z Y 361) (361 * n) 361 (361 * (i : Int) + k) = Y k
      unfold wrZ
      rw [if_pos (by omega), show 361 * (i : Int) + k - 361 * n = k by omega]
      exact hZ k h1 h2
    · rw [if_neg e]
      refine rr_congr (hL i (by omega)) (h i (by omega)) (fun k h1 h2 => ?_)
      show wrZ H (cpZ Z Y 361) (361 * n) 361 (361 * (i : Int) + k) = H (361 * (i : Int) + k)
      unfold wrZ
      rw [if_neg (by omega)]
  · rw [if_neg c]
    intro i hi
    unfold remL doneH
    rw [if_neg c, if_pos (show n = 5 by omega)]
    by_cases e : i = 4
    · rw [if_pos e]
      refine rr_congr wf rr (fun k h1 h2 => ?_)
      show wrZ (shZ H 1444) (cpZ Z Y 361) 1444 361 (361 * (i : Int) + k) = Y k
      unfold wrZ
      rw [if_pos (by omega), show 361 * (i : Int) + k - 1444 = k by omega]
      exact hZ k h1 h2
    · rw [if_neg e]
      refine rr_congr (hL (i + 1) (by omega)) (h (i + 1) (by omega)) (fun k h1 h2 => ?_)
      show wrZ (shZ H 1444) (cpZ Z Y 361) 1444 361 (361 * (i : Int) + k) = H (361 * ((i + 1 : Nat) : Int) + k)
      unfold wrZ shZ
      rw [if_neg (by omega), if_pos (by omega)]
      exact congrArg H (by omega)
/-- the reference, as it stands between the calls -/
def MI (G : va_G) (cs : Nat → ClassId) (a : Nat → Nat) (A : AS) (H : Heap) : Prop := ∃ (Y Z Hh Sl Kp Go Nt : Int → Int) (rn : Int) (Rd : Int → Nat → Bool), RR A.1 Y ∧ HR A.2.1.1 A.2.1.2 Hh ∧ SR A.2.2.2.1 A.2.2.2.2 Kp Sl ∧ va_P G vwCl (moW cs a A.2.1.1 A.2.2.1.1 rn) H ∧ va_P G vwCl (m7 cs a 1 0 361 (aI Y)) H ∧ va_P G vwCl (m7 cs a 2 0 361 (aI Z)) H ∧ va_P G vwCl (m7 cs a 3 0 1805 (aI Hh)) H ∧ va_P G vwCl (m7 cs a 4 0 722 (aI Sl)) H ∧ va_P G vwCl (m7 cs a 5 2 2 (aI Kp)) H ∧ va_P G vwCl (m7 cs a 6 2 24 (aI Go)) H ∧ va_P G vwCl (m7 cs a 7 0 24 (aI Nt)) H ∧ va_P G vwCl (m7 cs a 8 3 60 (aI A.2.2.1.2)) H ∧ va_P G vwCl (m7 cs a 9 0 8 (cB Rd)) H
/-! writes of the row -/
theorem rr_02 {S : SS} {Y : Int → Int} {v : Int} (wf : WF S) (h : RR S Y) : RR (up2 S 0 (updZ (S 0) 2 v)) (updZ Y 2 v) := by
  obtain ⟨w0, w1, -⟩ := wf
  obtain ⟨⟨a0, a1, a2, a3, a4⟩, hx, hc, hs, hw⟩ := h
  refine ⟨⟨a0, a1, rfl, a3, a4⟩, ?_, ?_, ?_, ?_⟩
  · intro p r h1 h2 h3 h4
    rw [updZ_n (by omega)]
    exact hx p r h1 h2 h3 h4
  · intro q v h1 h2 h3 h4
    rw [updZ_n (by omega)]
    exact hc q v h1 h2 h3 h4
  · intro s t h1 h2 h3 h4
    rw [updZ_n (by omega)]
    exact hs s t h1 h2 h3 h4
  · intro x h1 h2
    rw [updZ_n (by omega)]
    exact hw x h1 h2
theorem rr_03 {S : SS} {Y : Int → Int} {v : Int} (wf : WF S) (h : RR S Y) : RR (up2 S 0 (updZ (S 0) 3 v)) (updZ Y 3 v) := by
  obtain ⟨w0, w1, -⟩ := wf
  obtain ⟨⟨a0, a1, a2, a3, a4⟩, hx, hc, hs, hw⟩ := h
  refine ⟨⟨a0, a1, a2, rfl, a4⟩, ?_, ?_, ?_, ?_⟩
  · intro p r h1 h2 h3 h4
    rw [updZ_n (by omega)]
    exact hx p r h1 h2 h3 h4
  · intro q v h1 h2 h3 h4
    rw [updZ_n (by omega)]
    exact hc q v h1 h2 h3 h4
  · intro s t h1 h2 h3 h4
    rw [updZ_n (by omega)]
    exact hs s t h1 h2 h3 h4
  · intro x h1 h2
    rw [updZ_n (by omega)]
    exact hw x h1 h2
theorem rr_04 {S : SS} {Y : Int → Int} {v : Int} (wf : WF S) (h : RR S Y) : RR (up2 S 0 (updZ (S 0) 4 v)) (updZ Y 4 v) := by
  obtain ⟨w0, w1, -⟩ := wf
  obtain ⟨⟨a0, a1, a2, a3, a4⟩, hx, hc, hs, hw⟩ := h
  refine ⟨⟨a0, a1, a2, a3, rfl⟩, ?_, ?_, ?_, ?_⟩
  · intro p r h1 h2 h3 h4
    rw [updZ_n (by omega)]
    exact hx p r h1 h2 h3 h4
  · intro q v h1 h2 h3 h4
    rw [updZ_n (by omega)]
    exact hc q v h1 h2 h3 h4
  · intro s t h1 h2 h3 h4
    rw [updZ_n (by omega)]
    exact hs s t h1 h2 h3 h4
  · intro x h1 h2
    rw [updZ_n (by omega)]
    exact hw x h1 h2
theorem rr_col {S : SS} {Y : Int → Int} {q z v : Int} (wf : WF S) (h : RR S Y) (hq : 0 ≤ q ∧ q < 4) (hz : 1 ≤ z ∧ z < 4) : RR (up2 S 2 (updZ (S 2) (4 * q + z) v)) (updZ Y (197 + 3 * q + z - 1) v) := by
  obtain ⟨w0, w1, -⟩ := wf
  obtain ⟨⟨a0, a1, a2, a3, a4⟩, hx, hc, hs, hw⟩ := h
  refine ⟨⟨by rw [updZ_n (by omega)]; exact a0, by rw [updZ_n (by omega)]; exact a1, by rw [updZ_n (by omega)]; exact a2, by rw [updZ_n (by omega)]; exact a3, by rw [updZ_n (by omega)]; exact a4⟩, ?_, ?_, ?_, ?_⟩
  · intro p r h1 h2 h3 h4
    have h2 : p < S 0 0 := h2
    rw [updZ_n (by omega)]
    exact hx p r h1 h2 h3 h4
  · intro q2 v2 h1 h2 h3 h4
    show _ = updZ (S 2) (4 * q + z) v (4 * q2 + v2)
    by_cases e : q2 = q ∧ v2 = z
    · rw [e.1, e.2, updZ_s, updZ_s]
    · rw [updZ_n (by omega), updZ_n (by omega)]
      exact hc q2 v2 h1 h2 h3 h4
  · intro s t h1 h2 h3 h4
    rw [updZ_n (by omega)]
    exact hs s t h1 h2 h3 h4
  · intro x h1 h2
    rw [updZ_n (by omega)]
    exact hw x h1 h2
theorem rr_prop {S : SS} {Y : Int → Int} {x t v : Int} (w0 : 0 ≤ S 0 0 ∧ S 0 0 ≤ 24) (w1 : 0 ≤ S 0 1 ∧ S 0 1 ≤ 20) (h : RR S Y) (hx0 : 0 ≤ x ∧ x < 20) (ht : 0 ≤ t ∧ t < 6) : RR (up2 S 1 (updZ (S 1) (6 * x + t) v)) (updZ Y (209 + 6 * x + t) v) := by
  obtain ⟨⟨a0, a1, a2, a3, a4⟩, hx, hc, hs, hw⟩ := h
  refine ⟨⟨by rw [updZ_n (by omega)]; exact a0, by rw [updZ_n (by omega)]; exact a1, by rw [updZ_n (by omega)]; exact a2, by rw [updZ_n (by omega)]; exact a3, by rw [updZ_n (by omega)]; exact a4⟩, ?_, ?_, ?_, ?_⟩
  · intro p r h1 h2 h3 h4
    have h2 : p < S 0 0 := h2
    rw [updZ_n (by omega)]
    exact hx p r h1 h2 h3 h4
  · intro q2 v2 h1 h2 h3 h4
    rw [updZ_n (by omega)]
    exact hc q2 v2 h1 h2 h3 h4
  · intro s t2 h1 h2 h3 h4
    show _ = updZ (S 1) (6 * x + t) v (6 * s + t2)
    by_cases e : s = x ∧ t2 = t
    · rw [e.1, e.2, updZ_s, updZ_s]
    · rw [updZ_n (by omega), updZ_n (by omega)]
      exact hs s t2 h1 h2 h3 h4
  · intro x h1 h2
    rw [updZ_n (by omega)]
    exact hw x h1 h2
theorem rr_pix {S : SS} {Y : Int → Int} {q r t v : Int} (wf : WF S) (h : RR S Y) (hq : 0 ≤ q ∧ q < S 0 0) (hr : 0 ≤ r ∧ r < 8) (ht : 0 ≤ t ∧ t < 8) : RR (up2 S 5 (updZ (S 5) (64 * q + (8 * r + t)) v)) (updZ Y (5 + 8 * q + r) (iB (rowB (updZ (S 5) (64 * q + (8 * r + t)) v) (64 * q + 8 * r))).toInt) := by
  obtain ⟨w0, w1, -⟩ := wf
  obtain ⟨⟨a0, a1, a2, a3, a4⟩, hx, hc, hs, hw⟩ := h
  refine ⟨⟨by rw [updZ_n (by omega)]; exact a0, by rw [updZ_n (by omega)]; exact a1, by rw [updZ_n (by omega)]; exact a2, by rw [updZ_n (by omega)]; exact a3, by rw [updZ_n (by omega)]; exact a4⟩, ?_, ?_, ?_, ?_⟩
  · intro p r2 h1 h2 h3 h4
    have h2 : p < S 0 0 := h2
    show _ = iB (rowB (updZ (S 5) (64 * q + (8 * r + t)) v) (64 * p + 8 * r2))
    by_cases e : p = q ∧ r2 = r
    · rw [e.1, e.2, updZ_s]
      exact (zI_of _).symm
    · rw [updZ_n (by omega), rowB_congr (X2 := S 5) (fun c q1 q2 => updZ_n (by omega))]
      exact hx p r2 h1 h2 h3 h4
  · intro q2 v2 h1 h2 h3 h4
    rw [updZ_n (by omega)]
    exact hc q2 v2 h1 h2 h3 h4
  · intro s t2 h1 h2 h3 h4
    rw [updZ_n (by omega)]
    exact hs s t2 h1 h2 h3 h4
  · intro x h1 h2
    rw [updZ_n (by omega)]
    exact hw x h1 h2
theorem all_z {f : Int → Bool} {i : Int} (h : 0 ≤ i) (hf : allN f i.toNat = false ∨ f i = false) : allN f (i + 1).toNat = false := by
  obtain ⟨n, rfl⟩ := Int.eq_ofNat_of_zero_le h
  rw [show ((n : Int) + 1).toNat = n + 1 by omega, allN]
  rcases hf with hf | hf
  · rw [show allN f n = false from hf, Bool.false_and]
  · rw [hf, Bool.and_false]
theorem all_t {f : Int → Bool} {i : Int} (h : 0 ≤ i) (h1 : allN f i.toNat = true) (h2 : f i = true) : allN f (i + 1).toNat = true := by
  obtain ⟨n, rfl⟩ := Int.eq_ofNat_of_zero_le h
  rw [show ((n : Int) + 1).toNat = n + 1 by omega, allN, show allN f n = true from h1, h2, Bool.and_true]
