/-! The text: the reference reads it as the class does. -/
def atF (tl : Int) (X : Int → Int) (k : Int) : Int := if k < tl then X k else 32
def pvF (c : Int) : Int := if c = 46 then 0 else c - 48
/-- a row of the planes, as the reference holds it -/
def tB (P : PS) (r : Int) : Nat → Bool := fun k => decide (k < 16) && (if k % 2 = 0 then P.2.1 (8 * r.toNat + k / 2) else P.2.2 (8 * r.toNat + k / 2))
def BI (P : PS) (R : Int) (g : Int → Nat → Bool) : Prop := ∀ r, 0 ≤ r → r ≤ R → ∀ k : Nat, g r k = tB P r k
def RI (tl : Int) (X : Int → Int) (k u R : Int) (g : Int → Nat → Bool) : Prop := (0 ≤ k ∧ k ≤ tl) ∧ ((rdS (tlT tl) X k.toNat).1 5 = 0 ∧ (rdS (tlT tl) X k.toNat).1 2 = u ∧ (rdS (tlT tl) X k.toNat).1 1 = R) ∧ ((rdS (tlT tl) X k.toNat).1 4 = 1 → ¬ (k < tl ∧ X k = 120)) ∧ (∀ j, 0 ≤ j → j < k → (takesF (rdS (tlT tl) X j.toNat) (X j)).1 = true) ∧ BI (rdS (tlT tl) X k.toNat) R g
def gI (g : Int → Nat → Bool) (R u v i : Int) : Int → Nat → Bool := updB g R (fun k => g R k || (decide (2 * u ≤ (k : Int) ∧ (k : Int) < 2 * (u + i)) && (if k % 2 = 0 then decide (v % 2 = 1) else decide (v / 2 % 2 = 1))))
theorem gI_0 {g : Int → Nat → Bool} {R u v : Int} : gI g R u v 0 = g := by
  unfold gI
  funext r k
  unfold updB
  by_cases e : r = R
  · rw [if_pos e, e, decide_eq_false (by omega), Bool.false_and, Bool.or_false]
  · rw [if_neg e]
theorem gI_s {g : Int → Nat → Bool} {R u v i : Int} (hu : 0 ≤ u) (hi : 0 ≤ i) : updB (gI g R u v i) R (fun k => gI g R u v i R k || (decide ((2 * (u + i)).toNat ≤ k) && (if k - (2 * (u + i)).toNat = 0 then decide (v % 2 = 1) else if k - (2 * (u + i)).toNat = 1 then decide (v / 2 % 2 = 1) else false))) = gI g R u v (i + 1) := by
  funext r k
  by_cases e : r = R
  · subst e
    rw [updB_s]
    unfold gI
    rw [updB_s, updB_s, Bool.or_assoc]
    refine congrArg (fun z => g r k || z) ?_
    by_cases c0 : k = (2 * (u + i)).toNat
    · rw [decide_eq_false (show ¬ (2 * u ≤ (k : Int) ∧ (k : Int) < 2 * (u + i)) by omega), decide_eq_true (show (2 * (u + i)).toNat ≤ k by omega), if_pos (show k - (2 * (u + i)).toNat = 0 by omega), decide_eq_true (show 2 * u ≤ (k : Int) ∧ (k : Int) < 2 * (u + (i + 1)) by omega), if_pos (show k % 2 = 0 by omega)]
      rfl
    · by_cases c1 : k = (2 * (u + i)).toNat + 1
      · rw [decide_eq_false (show ¬ (2 * u ≤ (k : Int) ∧ (k : Int) < 2 * (u + i)) by omega), decide_eq_true (show (2 * (u + i)).toNat ≤ k by omega), if_neg (show ¬ k - (2 * (u + i)).toNat = 0 by omega), if_pos (show k - (2 * (u + i)).toNat = 1 by omega), decide_eq_true (show 2 * u ≤ (k : Int) ∧ (k : Int) < 2 * (u + (i + 1)) by omega), if_neg (show ¬ k % 2 = 0 by omega)]
        rfl
      · have e2 : (decide ((2 * (u + i)).toNat ≤ k) && (if k - (2 * (u + i)).toNat = 0 then decide (v % 2 = 1) else if k - (2 * (u + i)).toNat = 1 then decide (v / 2 % 2 = 1) else false)) = false := by
          by_cases c2 : (2 * (u + i)).toNat ≤ k
          · rw [if_neg (by omega), if_neg (by omega), Bool.and_false]
          · rw [decide_eq_false c2, Bool.false_and]
        rw [e2, Bool.or_false, decide_eq_decide.mpr (show (2 * u ≤ (k : Int) ∧ (k : Int) < 2 * (u + i)) ↔ (2 * u ≤ (k : Int) ∧ (k : Int) < 2 * (u + (i + 1))) by omega)]
  · rw [updB_n e]
    unfold gI
    rw [updB_n e, updB_n e]
theorem rd_s {T X : Int → Int} {k : Int} (h : 0 ≤ k) : rdS T X (k + 1).toNat = (takesF (rdS T X k.toNat) (X k)).2 := by
  obtain ⟨n, rfl⟩ := Int.eq_ofNat_of_zero_le h
  rfl
theorem fl_at {tl k : Int} {X : Int → Int} (h0 : 0 ≤ k) (hk : k < tl) (ha : ∀ j, 0 ≤ j → j < k → (takesF (rdS (tlT tl) X j.toNat) (X j)).1 = true) (hf : (takesF (rdS (tlT tl) X k.toNat) (X k)).1 = false) : faultF (tlT tl) X = k := by
  have e : ff (fun k => !(takesF (rdS (tlT tl) X k.toNat) (X k)).1) 0 (tlT tl 0).toNat = k := ff_hit k (fun j h1 h2 => by show (!(takesF (rdS (tlT tl) X j.toNat) (X j)).1) = false; rw [ha j h1 h2]; rfl) h0 (by show k < 0 + ((tl.toNat : Nat) : Int); omega) (by show (!(takesF (rdS (tlT tl) X k.toNat) (X k)).1) = true; rw [hf]; rfl)
  unfold faultF
  rw [e, if_neg (by omega)]
theorem fl_end {tl : Int} {X : Int → Int} (ha : ∀ j, 0 ≤ j → j < tl → (takesF (rdS (tlT tl) X j.toNat) (X j)).1 = true) : faultF (tlT tl) X = if (rdS (tlT tl) X tl.toNat).1 5 = 1 ∨ (rdS (tlT tl) X tl.toNat).1 2 < 8 then tl else -5 := by
  have e : ff (fun k => !(takesF (rdS (tlT tl) X k.toNat) (X k)).1) 0 (tlT tl 0).toNat = -5 := ff_none (fun j h1 h2 => by
    have h2 : j < 0 + ((tl.toNat : Nat) : Int) := h2
    show (!(takesF (rdS (tlT tl) X j.toNat) (X j)).1) = false
    rw [ha j h1 (by omega)]
    rfl)
  unfold faultF
  rw [if_pos e]
  rfl
theorem tk_sl {P : PS} (h5 : ¬ P.1 5 = 1) : takesF P 47 = endF (updZ P.1 4 0, P.2) := by
  unfold takesF
  rw [if_neg h5, if_neg (by decide), if_pos rfl]
theorem tk_x {P : PS} (h5 : ¬ P.1 5 = 1) : takesF P 120 = (decide (P.1 4 = 1), updZ (updZ P.1 4 0) 5 (P.1 4), P.2) := by
  unfold takesF
  rw [if_neg h5, if_pos rfl]
theorem tk_pix {P : PS} (h5 : ¬ P.1 5 = 1) {c : Int} (hc : c = 46 ∨ (49 ≤ c ∧ c ≤ 51)) : takesF P c = pixF (updZ P.1 4 0, P.2) (pvF c) := by
  unfold takesF pvF
  rw [if_neg h5, if_neg (show ¬ c = 120 by omega), if_neg (show ¬ c = 47 by omega)]
  by_cases e : c = 46
  · rw [if_pos e, if_pos e]
  · rw [if_neg e, if_neg e, if_pos (by omega)]
theorem tk_bad {P : PS} (h5 : ¬ P.1 5 = 1) {c : Int} (h1 : c ≠ 120) (h2 : c ≠ 47) (h3 : c ≠ 46) (h4 : ¬ (49 ≤ c ∧ c ≤ 51)) : (takesF P c).1 = false := by
  unfold takesF
  rw [if_neg h5, if_neg h1, if_neg h2, if_neg h3, if_neg h4]
theorem pix_yes {P : PS} {v : Int} (h : P.1 2 + 1 ≤ 8) : pixF (updZ P.1 4 0, P.2) v = (true, updZ (updZ (updZ (updZ P.1 4 0) 3 v) 4 1) 2 (P.1 2 + 1), pb P.2.1 (8 * P.1 1 + P.1 2) 1 (decide (v % 2 = 1)), pb P.2.2 (8 * P.1 1 + P.1 2) 1 (decide (v / 2 % 2 = 1))) := by
  exact if_neg (show ¬ P.1 2 + 1 > 8 by omega)
theorem pix_no {P : PS} {v : Int} (h : P.1 2 + 1 > 8) : (pixF (updZ P.1 4 0, P.2) v).1 = false := by
  exact congrArg Prod.fst (if_pos (show P.1 2 + 1 > 8 by omega))
theorem pb_2 {f : Nat → Bool} {t m : Int} {x : Bool} (hm : 1 ≤ m) : pb (pb f t 1 x) (t + 1) (m - 1) x = pb f t m x := by
  funext k
  unfold pb
  rw [Bool.or_assoc]
  refine congrArg (fun z => f k || z) ?_
  cases x with
  | false => simp
  | true =>
    rw [Bool.eq_iff_iff]
    simp only [Bool.or_eq_true, Bool.and_eq_true, decide_eq_true_eq, and_true]
    omega
theorem bi_put {P Q : PS} {R u v m : Int} {g : Int → Nat → Bool} (hb : BI P R g) (h1 : Q.2.1 = pb P.2.1 (8 * R + u) m (decide (v % 2 = 1))) (h2 : Q.2.2 = pb P.2.2 (8 * R + u) m (decide (v / 2 % 2 = 1))) (hu : 0 ≤ u) (hm : u + m ≤ 8) (hR : 0 ≤ R) : BI Q R (gI g R u v m) := by
  intro r q1 q2 k
  unfold tB
  rw [h1, h2]
  by_cases e : r = R
  · subst e
    unfold gI
    rw [updB_s, hb r q1 q2 k]
    unfold tB pb
    by_cases hk : k < 16
    · have e1 : decide (8 * r + u ≤ ((8 * r.toNat + k / 2 : Nat) : Int) ∧ ((8 * r.toNat + k / 2 : Nat) : Int) < 8 * r + u + m) = decide (2 * u ≤ (k : Int) ∧ (k : Int) < 2 * (u + m)) := decide_eq_decide.mpr (by omega)
      rw [decide_eq_true hk, Bool.true_and, Bool.true_and, e1]
      by_cases h0 : k % 2 = 0
      · rw [if_pos h0, if_pos h0, if_pos h0]
      · rw [if_neg h0, if_neg h0, if_neg h0]
    · rw [decide_eq_false hk, Bool.false_and, Bool.false_and, decide_eq_false (show ¬ (2 * u ≤ (k : Int) ∧ (k : Int) < 2 * (u + m)) by omega), Bool.false_and, Bool.or_false]
  · unfold gI
    rw [updB_n e, hb r q1 q2 k]
    unfold tB
    by_cases hk : k < 16
    · have e1 : ∀ x, (decide (8 * R + u ≤ ((8 * r.toNat + k / 2 : Nat) : Int) ∧ ((8 * r.toNat + k / 2 : Nat) : Int) < 8 * R + u + m) && x) = false := fun x => by rw [decide_eq_false (by omega), Bool.false_and]
      unfold pb
      rw [e1, e1, Bool.or_false, Bool.or_false]
    · rw [decide_eq_false hk, Bool.false_and, Bool.false_and]
theorem ri_rng {tl k u R : Int} {X : Int → Int} {g : Int → Nat → Bool} (h : RI tl X k u R g) (ht : 0 ≤ tl ∧ tl ≤ 60) : (0 ≤ k ∧ k ≤ tl) ∧ (0 ≤ u ∧ u ≤ 8) ∧ (0 ≤ R ∧ R ≤ 7) := by
  obtain ⟨hk, ⟨-, h2, h1⟩, -⟩ := h
  have hT := rdS_tf (X := X) (tlT_TF ht) k.toNat
  have a2 := hT.2.2.1
  have a1 := hT.2.1
  rw [h2] at a2
  rw [h1] at a1
  exact ⟨hk, a2, a1⟩
theorem ri_0 {tl : Int} {X : Int → Int} {g : Int → Nat → Bool} (ht : 0 ≤ tl) : RI tl X 0 0 0 (updB g 0 (fun _ => false)) := by
  refine ⟨⟨Int.le_refl _, ht⟩, ⟨rfl, rfl, rfl⟩, fun h => absurd (show (0 : Int) = 1 from h) (by decide), fun j h1 h2 => by omega, fun r h1 h2 k => ?_⟩
  have e : r = 0 := by omega
  subst e
  rw [updB_s]
  show false = tB (rdS (tlT tl) X 0) 0 k
  unfold tB
  show false = (decide (k < 16) && (if k % 2 = 0 then false else false))
  split <;> rw [Bool.and_false]
theorem all_1 {tl k : Int} {X : Int → Int} (ha : ∀ j, 0 ≤ j → j < k → (takesF (rdS (tlT tl) X j.toNat) (X j)).1 = true) (h : (takesF (rdS (tlT tl) X k.toNat) (X k)).1 = true) : ∀ j, 0 ≤ j → j < k + 1 → (takesF (rdS (tlT tl) X j.toNat) (X j)).1 = true := fun j h1 h2 => by
  by_cases e : j = k
  · subst e; exact h
  · exact ha j h1 (by omega)
section TX7
variable {tl k u R : Int} {X : Int → Int} {g : Int → Nat → Bool}
theorem ri_sl_no (h : RI tl X k u R g) (hk : k < tl) (hc : X k = 47) (hb : u < 8 ∨ 7 ≤ R) : faultF (tlT tl) X = k := by
  obtain ⟨h0, ⟨h5, h2, h1⟩, -, ha, -⟩ := h
  refine fl_at h0.1 hk ha ?_
  rw [hc, tk_sl (by omega)]
  exact congrArg Prod.fst (if_pos (show (rdS (tlT tl) X k.toNat).1 2 < 8 ∨ 7 ≤ (rdS (tlT tl) X k.toNat).1 1 by omega))
theorem ri_sl (ht : 0 ≤ tl ∧ tl ≤ 60) (h : RI tl X k u R g) (hk : k < tl) (hc : X k = 47) (hb : ¬ (u < 8 ∨ 7 ≤ R)) : RI tl X (k + 1) 0 (R + 1) (updB g (R + 1) (fun _ => false)) := by
  have hr := ri_rng h ht
  have hz := rdS_hz (X := X) (tlT_TF ht) k.toNat
  obtain ⟨h0, ⟨h5, h2, h1⟩, -, ha, hbi⟩ := h
  have e := rd_s (T := tlT tl) (X := X) h0.1
  have et : takesF (rdS (tlT tl) X k.toNat) (X k) = (true, updZ (updZ (updZ (rdS (tlT tl) X k.toNat).1 4 0) 1 ((rdS (tlT tl) X k.toNat).1 1 + 1)) 2 0, (rdS (tlT tl) X k.toNat).2) := by
    rw [hc, tk_sl (by omega)]
    exact if_neg (show ¬ ((rdS (tlT tl) X k.toNat).1 2 < 8 ∨ 7 ≤ (rdS (tlT tl) X k.toNat).1 1) by omega)
  have ha' := all_1 ha (by rw [et])
  rw [et] at e
  unfold RI
  rw [e]
  refine ⟨by omega, ⟨h5, rfl, ?_⟩, fun q => absurd (show (0 : Int) = 1 from q) (by decide), ha', ?_⟩
  · show (rdS (tlT tl) X k.toNat).1 1 + 1 = R + 1
    rw [h1]
  · intro r q1 q2 j
    by_cases c : r = R + 1
    · subst c
      rw [updB_s]
      unfold tB
      show false = (decide (j < 16) && (if j % 2 = 0 then (rdS (tlT tl) X k.toNat).2.1 (8 * (R + 1).toNat + j / 2) else (rdS (tlT tl) X k.toNat).2.2 (8 * (R + 1).toNat + j / 2)))
      have hz2 := hz (8 * (R + 1).toNat + j / 2) (by rw [h1, h2]; omega)
      rw [hz2.1, hz2.2]
      split <;> rw [Bool.and_false]
    · rw [updB_n c]
      exact hbi r q1 (by omega) j
theorem ri_bad (h : RI tl X k u R g) (hk : k < tl) (hs : X k ≠ 47) (hb : 8 ≤ u ∨ (X k ≠ 46 ∧ ¬ (49 ≤ X k ∧ X k ≤ 51))) : faultF (tlT tl) X = k := by
  obtain ⟨h0, ⟨h5, h2, h1⟩, h4, ha, -⟩ := h
  refine fl_at h0.1 hk ha ?_
  by_cases cx : X k = 120
  · rw [cx, tk_x (by omega)]
    exact decide_eq_false (fun q => h4 q ⟨hk, cx⟩)
  · by_cases cp : X k = 46 ∨ (49 ≤ X k ∧ X k ≤ 51)
    · rw [tk_pix (by omega) cp]
      exact pix_no (by omega)
    · exact tk_bad (by omega) cx hs (by omega) (by omega)
theorem ri_pix (h : RI tl X k u R g) (hp : X k = 46 ∨ (49 ≤ X k ∧ X k ≤ 51)) (hu : u < 8) : (takesF (rdS (tlT tl) X k.toNat) (X k)).1 = true ∧ ((rdS (tlT tl) X (k + 1).toNat).1 5 = 0 ∧ (rdS (tlT tl) X (k + 1).toNat).1 4 = 1 ∧ (rdS (tlT tl) X (k + 1).toNat).1 3 = pvF (X k) ∧ (rdS (tlT tl) X (k + 1).toNat).1 2 = u + 1 ∧ (rdS (tlT tl) X (k + 1).toNat).1 1 = R) ∧ (rdS (tlT tl) X (k + 1).toNat).2.1 = pb (rdS (tlT tl) X k.toNat).2.1 (8 * R + u) 1 (decide (pvF (X k) % 2 = 1)) ∧ (rdS (tlT tl) X (k + 1).toNat).2.2 = pb (rdS (tlT tl) X k.toNat).2.2 (8 * R + u) 1 (decide (pvF (X k) / 2 % 2 = 1)) := by
  obtain ⟨h0, ⟨h5, h2, h1⟩, -, ha, -⟩ := h
  have e := rd_s (T := tlT tl) (X := X) h0.1
  rw [tk_pix (show ¬ (rdS (tlT tl) X k.toNat).1 5 = 1 by omega) hp, pix_yes (by omega)] at e
  rw [tk_pix (show ¬ (rdS (tlT tl) X k.toNat).1 5 = 1 by omega) hp, pix_yes (by omega), e]
  refine ⟨rfl, ⟨h5, rfl, rfl, ?_, h1⟩, ?_, ?_⟩
  · show (rdS (tlT tl) X k.toNat).1 2 + 1 = u + 1
    rw [h2]
  · show pb _ (8 * (rdS (tlT tl) X k.toNat).1 1 + (rdS (tlT tl) X k.toNat).1 2) 1 _ = _
    rw [h1, h2]
  · show pb _ (8 * (rdS (tlT tl) X k.toNat).1 1 + (rdS (tlT tl) X k.toNat).1 2) 1 _ = _
    rw [h1, h2]
theorem ri_one (ht : 0 ≤ tl ∧ tl ≤ 60) (h : RI tl X k u R g) (hk : k < tl) (hp : X k = 46 ∨ (49 ≤ X k ∧ X k ≤ 51)) (hu : u < 8) (hx : ¬ (k + 1 < tl ∧ X (k + 1) = 120)) : RI tl X (k + 1) (u + 1) R (gI g R u (pvF (X k)) 1) := by
  have hr := ri_rng h ht
  obtain ⟨a1, ⟨b5, b4, b3, b2', b1⟩, c1, c2⟩ := ri_pix h hp hu
  obtain ⟨h0, -, -, ha, hbi⟩ := h
  exact ⟨by omega, ⟨b5, b2', b1⟩, fun _ => hx, all_1 ha a1, bi_put hbi c1 c2 (by omega) (by omega) (by omega)⟩
theorem ri_x2 (h : RI tl X k u R g) (hp : X k = 46 ∨ (49 ≤ X k ∧ X k ≤ 51)) (hu : u < 8) (hx : X (k + 1) = 120) : (takesF (rdS (tlT tl) X (k + 1).toNat) (X (k + 1))).1 = true ∧ ((rdS (tlT tl) X (k + 2).toNat).1 5 = 1 ∧ (rdS (tlT tl) X (k + 2).toNat).1 4 = 0 ∧ (rdS (tlT tl) X (k + 2).toNat).1 3 = pvF (X k) ∧ (rdS (tlT tl) X (k + 2).toNat).1 2 = u + 1 ∧ (rdS (tlT tl) X (k + 2).toNat).1 1 = R) ∧ (rdS (tlT tl) X (k + 2).toNat).2 = (rdS (tlT tl) X (k + 1).toNat).2 := by
  obtain ⟨a1, ⟨b5, b4, b3, b2', b1⟩, c1, c2⟩ := ri_pix h hp hu
  have e := rd_s (T := tlT tl) (X := X) (k := k + 1) (by have := h.1; omega)
  rw [hx, tk_x (show ¬ (rdS (tlT tl) X (k + 1).toNat).1 5 = 1 by omega), show k + 1 + 1 = k + 2 by omega] at e
  rw [hx, tk_x (show ¬ (rdS (tlT tl) X (k + 1).toNat).1 5 = 1 by omega), e]
  exact ⟨decide_eq_true b4, ⟨b4, rfl, b3, b2', b1⟩, rfl⟩
theorem ri_all2 (h : RI tl X k u R g) (hp : X k = 46 ∨ (49 ≤ X k ∧ X k ≤ 51)) (hu : u < 8) (hx : X (k + 1) = 120) : ∀ j, 0 ≤ j → j < k + 2 → (takesF (rdS (tlT tl) X j.toNat) (X j)).1 = true := by
  have a1 := (ri_pix h hp hu).1
  have a2 := (ri_x2 h hp hu hx).1
  have := all_1 (all_1 h.2.2.2.1 a1) a2
  intro j h1 h2
  exact this j h1 (by omega)
theorem ri_x_bad (h : RI tl X k u R g) (hp : X k = 46 ∨ (49 ≤ X k ∧ X k ≤ 51)) (hu : u < 8) (hk : k + 1 < tl) (hx : X (k + 1) = 120) (hb : atF tl X (k + 2) - 48 < 2 ∨ 8 < atF tl X (k + 2) - 48 ∨ 8 < u + (atF tl X (k + 2) - 48)) : faultF (tlT tl) X = k + 2 := by
  obtain ⟨a1, ⟨b5, b4, b3, b2', b1⟩, c1⟩ := ri_x2 h hp hu hx
  have ha := ri_all2 h hp hu hx
  have h0 := h.1
  by_cases c : k + 2 < tl
  · unfold atF at hb
    rw [if_pos c] at hb
    refine fl_at (by omega) c ha ?_
    unfold takesF
    rw [if_pos b5]
    unfold timesF
    by_cases d : X (k + 2) < 50 ∨ 56 < X (k + 2)
    · rw [if_pos d]
    · rw [if_neg d]
      exact congrArg Prod.fst (if_pos (show (rdS (tlT tl) X (k + 2).toNat).1 2 + (X (k + 2) - 48 - 1) > 8 by omega))
  · have e : tl = k + 2 := by omega
    rw [fl_end (fun j h1 h2 => ha j h1 (by omega)), e, if_pos (Or.inl (by rw [← e]; rw [← e] at b5; exact b5))]
theorem ri_x (ht : 0 ≤ tl ∧ tl ≤ 60) (h : RI tl X k u R g) (hp : X k = 46 ∨ (49 ≤ X k ∧ X k ≤ 51)) (hu : u < 8) (hk : k + 1 < tl) (hx : X (k + 1) = 120) (hb : ¬ (atF tl X (k + 2) - 48 < 2 ∨ 8 < atF tl X (k + 2) - 48 ∨ 8 < u + (atF tl X (k + 2) - 48))) : RI tl X (k + 3) (u + (atF tl X (k + 2) - 48)) R (gI g R u (pvF (X k)) (atF tl X (k + 2) - 48)) := by
  have hr := ri_rng h ht
  obtain ⟨-, -, p1, p2⟩ := ri_pix h hp hu
  obtain ⟨a1, ⟨b5, b4, b3, b2', b1⟩, c1⟩ := ri_x2 h hp hu hx
  have ha := ri_all2 h hp hu hx
  obtain ⟨h0, -, -, -, hbi⟩ := h
  have c : k + 2 < tl := by
    rcases Int.lt_or_le (k + 2) tl with q | q
    · exact q
    · exact absurd (Or.inl (by unfold atF; rw [if_neg (by omega)]; decide)) hb
  have eA : atF tl X (k + 2) = X (k + 2) := if_pos c
  rw [eA] at hb ⊢
  have et : takesF (rdS (tlT tl) X (k + 2).toNat) (X (k + 2)) = (true, updZ (updZ (rdS (tlT tl) X (k + 2).toNat).1 5 0) 2 ((rdS (tlT tl) X (k + 2).toNat).1 2 + (X (k + 2) - 48 - 1)), pb (rdS (tlT tl) X (k + 2).toNat).2.1 (8 * (rdS (tlT tl) X (k + 2).toNat).1 1 + (rdS (tlT tl) X (k + 2).toNat).1 2) (X (k + 2) - 48 - 1) (decide ((rdS (tlT tl) X (k + 2).toNat).1 3 % 2 = 1)), pb (rdS (tlT tl) X (k + 2).toNat).2.2 (8 * (rdS (tlT tl) X (k + 2).toNat).1 1 + (rdS (tlT tl) X (k + 2).toNat).1 2) (X (k + 2) - 48 - 1) (decide ((rdS (tlT tl) X (k + 2).toNat).1 3 / 2 % 2 = 1))) := by
    unfold takesF
    rw [if_pos b5]
    unfold timesF
    rw [if_neg (show ¬ (X (k + 2) < 50 ∨ 56 < X (k + 2)) by omega)]
    exact if_neg (show ¬ (rdS (tlT tl) X (k + 2).toNat).1 2 + (X (k + 2) - 48 - 1) > 8 by omega)
  have e := rd_s (T := tlT tl) (X := X) (k := k + 2) (by omega)
  rw [et, show k + 2 + 1 = k + 3 by omega] at e
  have ha3 : ∀ j, 0 ≤ j → j < k + 3 → (takesF (rdS (tlT tl) X j.toNat) (X j)).1 = true := fun j h1 h2 => all_1 ha (by rw [et]) j h1 (by omega)
  have hm : 1 ≤ X (k + 2) - 48 := by omega
  refine ⟨by omega, ?_, ?_, ha3, ?_⟩
  · rw [e]
    refine ⟨rfl, ?_, b1⟩
    show (rdS (tlT tl) X (k + 2).toNat).1 2 + (X (k + 2) - 48 - 1) = _
    omega
  · rw [e]
    intro q
    have q : (rdS (tlT tl) X (k + 2).toNat).1 4 = 1 := q
    omega
  · refine bi_put (P := rdS (tlT tl) X k.toNat) hbi ?_ ?_ (by omega) (by omega) (by omega)
    · rw [e]
      show pb (rdS (tlT tl) X (k + 2).toNat).2.1 _ _ _ = _
      rw [c1, p1, b1, b2', b3, ← pb_2 hm, Int.add_assoc]
    · rw [e]
      show pb (rdS (tlT tl) X (k + 2).toNat).2.2 _ _ _ = _
      rw [c1, p2, b1, b2', b3, ← pb_2 hm, Int.add_assoc]
theorem ri_end (h : RI tl X k u R g) (hk : tl ≤ k) : (faultF (tlT tl) X = if u < 8 then tl else -5) ∧ (rdS (tlT tl) X tl.toNat).1 1 = R ∧ BI (rdS (tlT tl) X tl.toNat) R g := by
  obtain ⟨h0, ⟨h5, h2, h1⟩, -, ha, hbi⟩ := h
  have e : k = tl := by omega
  subst e
  refine ⟨?_, h1, hbi⟩
  rw [fl_end ha]
  by_cases c : u < 8
  · rw [if_pos c, if_pos (Or.inr (by omega))]
  · rw [if_neg c, if_neg (by omega)]
end TX7
def drZ (Y : Int → Int) (q : Int) (g : Int → Nat → Bool) (i : Int) : Int → Int := fun k => if 5 + 8 * q ≤ k ∧ k < 5 + 8 * q + i then (iB (g (k - (5 + 8 * q)))).toInt else Y k
theorem drZ_0 {Y : Int → Int} {q : Int} {g : Int → Nat → Bool} : drZ Y q g 0 = Y := funext fun k => if_neg (by omega)
theorem drZ_s {Y : Int → Int} {q i : Int} {g : Int → Nat → Bool} (h : 0 ≤ i) : updZ (drZ Y q g i) (5 + 8 * q + i) (iB (g i)).toInt = drZ Y q g (i + 1) := by
  funext k
  unfold updZ drZ
  by_cases e : k = 5 + 8 * q + i
  · rw [if_pos e, if_pos (by omega), show k - (5 + 8 * q) = i by omega]
  · rw [if_neg e]
    by_cases c : 5 + 8 * q ≤ k ∧ k < 5 + 8 * q + i
    · rw [if_pos c, if_pos (by omega)]
    · rw [if_neg c, if_neg (by omega)]
theorem rr_dr {S : SS} {Y : Int → Int} {q n : Int} {g : Int → Nat → Bool} {P : PS} (wf : WF S) (h : RR S Y) (hq : 0 ≤ q ∧ q < S 0 0) (hn : 0 ≤ n ∧ n ≤ 8) (hg : ∀ r, 0 ≤ r → r < n → ∀ k : Nat, g r k = tB P r k) : RR (up2 S 5 (putRw (S 5) q (8 * n) P.2.1 P.2.2)) (drZ Y q g n) := by
  obtain ⟨w0, w1, -⟩ := wf
  obtain ⟨⟨a0, a1, a2, a3, a4⟩, hx, hc, hs, hw⟩ := h
  have en : ∀ k, ¬ (5 + 8 * q ≤ k ∧ k < 5 + 8 * q + n) → drZ Y q g n k = Y k := fun k c => if_neg c
  refine ⟨⟨(en 0 (by omega)).trans a0, (en 1 (by omega)).trans a1, (en 2 (by omega)).trans a2, (en 3 (by omega)).trans a3, (en 4 (by omega)).trans a4⟩, ?_, ?_, ?_, ?_⟩
  · intro p r h1 h2 h3 h4
    have h2 : p < S 0 0 := h2
    show _ = iB (rowB (putRw (S 5) q (8 * n) P.2.1 P.2.2) (64 * p + 8 * r))
    by_cases c : p = q ∧ r < n
    · obtain ⟨rfl, c⟩ := c
      rw [show drZ Y p g n (5 + 8 * p + r) = (iB (g (5 + 8 * p + r - (5 + 8 * p)))).toInt from if_pos (by omega), ← zI_of, show 5 + 8 * p + r - (5 + 8 * p) = r by omega]
      refine iB_congr (fun k _ => ?_)
      rw [hg r h3 c k]
      unfold tB rowB
      by_cases hk : k < 16
      · have e1 : putRw (S 5) p (8 * n) P.2.1 P.2.2 (64 * p + 8 * r + ((k / 2 : Nat) : Int)) = b2 (P.2.1 (8 * r.toNat + k / 2)) + 2 * b2 (P.2.2 (8 * r.toNat + k / 2)) := by
          unfold putRw
          rw [if_pos (by omega), show (64 * p + 8 * r + ((k / 2 : Nat) : Int) - 64 * p).toNat = 8 * r.toNat + k / 2 by omega]
        rw [e1, (b2_bits _ _).1, (b2_bits _ _).2]
      · rw [decide_eq_false hk, Bool.false_and, Bool.false_and]
    · rw [en _ (by omega), rowB_congr (X2 := S 5) (fun c q1 q2 => putRw_out (by omega))]
      exact hx p r h1 h2 h3 h4
  · intro q2 v h1 h2 h3 h4
    rw [en _ (by omega)]
    exact hc q2 v h1 h2 h3 h4
  · intro s t h1 h2 h3 h4
    rw [en _ (by omega)]
    exact hs s t h1 h2 h3 h4
  · intro x h1 h2
    rw [en _ (by omega)]
    exact hw x h1 h2
theorem fault_or {T X : Int → Int} (h : TF T) : faultF T X = -5 ∨ 0 ≤ faultF T X := by
  have h0 := h.1
  unfold faultF
  rcases ff_cases (fun k => !(takesF (rdS T X k.toNat) (X k)).1) 0 (T 0).toNat with ⟨j, h1, h2, -, -, h5⟩ | ⟨-, h5⟩
  · rw [h5, if_neg (show ¬ j = -5 by omega)]
    omega
  · rw [h5, if_pos rfl]
    split <;> omega
theorem nar_char {x : Int} (h : 0 ≤ x ∧ x < 65536) : narrow .char (.int (zI x)) = .int (zI x) := by
  obtain ⟨n, rfl⟩ := Int.eq_ofNat_of_zero_le h.1
  have hn : n < 2 ^ 16 := by omega
  show Value.int ((zI (n : Int)).toUInt32.toUInt16.toUInt32.toInt32) = _
  refine congrArg Value.int (I_ext (fun k hk => ?_))
  show (((zI (n : Int)).toBitVec.setWidth 16).setWidth 32).getLsbD k = (zI (n : Int)).toBitVec.getLsbD k
  rw [BitVec.getLsbD_setWidth, BitVec.getLsbD_setWidth]
  by_cases c : k < 16
  · simp [c, hk]
  · have e : (zI (n : Int)).toBitVec.getLsbD k = false := by
      rw [← zI_nat]
      show (BitVec.ofNat 32 n).getLsbD k = false
      rw [BitVec.getLsbD_ofNat, Nat.testBit_lt_two_pow (Nat.lt_of_lt_of_le hn (Nat.pow_le_pow_right (by decide) (by omega)))]
      simp
    rw [e]
    simp
theorem at_r {tq k : Int} {X : Int → Int} (hX : ∀ j, 0 ≤ j → j < 60 → 0 ≤ X j ∧ X j < 65536) (h : 0 ≤ k ∧ tq ≤ 60) : 0 ≤ atF tq X k ∧ atF tq X k < 65536 := by
  unfold atF
  split
  · exact hX k h.1 (by omega)
  · decide
set_option maxHeartbeats 4000000 in
set_option maxRecDepth 100000 in
theorem c_X7_at (l : Launch) (G : va_G) (cs : Nat → ClassId) (a : Nat → Nat) (kq tq nq : Int) (X : Int → Int) (u : Int) (ht : 0 ≤ tq ∧ tq ≤ 60) (hX : ∀ j, 0 ≤ j → j < 60 → 0 ≤ X j ∧ X j < 65536) (hu : 0 ≤ u ∧ u ≤ 62) : MRO l yX7_at wsX7_at { frames := 0, cells := 0, slots := 0, locals := 0 } G cs [.ref (a 0), .int (zI u)] (fun H => va_P G vwCl (moW cs a kq tq nq) H ∧ va_P G vwCl (m7 cs a 8 3 60 (aI X)) H) (.int (zI (atF tq X u))) := by
  refine m_intro (Pw := (fun H => va_P G vwCl (moW cs a kq tq nq) H ∧ va_P G vwCl (m7 cs a 8 3 60 (aI X)) H)) (cc := cX7_at) (maxL := 2) (ret := some .char) RX7 (by decide) rfl rfl (Nat.le_of_ble_eq_true rfl) ?_
  intro pP eE sS mM below meth cC hx hb hr hts hown hml hlk hnm hPre hK ls hl
  have hl : lv_has ls 2 [(0, .ref (a 0)), (1, .int (zI u))] := hl
  obtain ⟨hMo, hTx⟩ := hPre
  have hi7 : ∀ w ∈ u_ws RX7 TX7 12, w ∈ wsX7_at := by decide +kernel
  refine lv_iload_n hx hb dX7_at_0 rfl (lv_at hl 1 rfl) ?_
  refine lv_aload_n hx hb dX7_at_1 rfl (lv_at hl 0 rfl) ?_
  refine va_get (D := G) (ci := 7) (v := .int (zI tq)) (C := RX7) (T := TX7) (N := 12) hx hb hts hi7 hown hK.1 hMo 0 rfl rfl 8 (by decide) (hts (.fieldLink RX7 96 "SpriteLinesModel" "typed" "I") (by decide +kernel)) (fun _ h9 => h9) rfl dX7_at_2 ?_
  refine z_icmp_ge (tgt := 17) hx hb dX7_at_5 (by decide) (by omega) (by omega) (fun c1 => ?_) (fun c1 => ?_)
  · skip
    refine z_bipush (n := 32) hx hb dX7_at_17 (by decide) ?_
    exact W.zret hx hb hr (show narrow .char (.int (zI 32)) = .int (zI 32) by decide) (fun t ht _ => ⟨congrArg (fun z => Outcome.returned (some (Value.int (zI z)))) (show (32 : Int) = atF tq X u from (if_neg (by omega)).symm), ht⟩) (fun _ h => absurd h List.not_mem_nil) dX7_at_19 hlk
  · skip
    refine lv_aload_n hx hb dX7_at_8 rfl (lv_at hl 0 rfl) ?_
    refine va_get (D := G) (ci := 7) (v := .ref ((sh a 8) 0)) (C := RX7) (T := TX7) (N := 12) hx hb hts hi7 hown hK.1 hMo 0 rfl rfl 9 (by decide) (hts (.fieldLink RX7 32 "SpriteLinesModel" "text" "[C") (by decide +kernel)) (fun _ h9 => h9) rfl dX7_at_9 ?_
    refine lv_iload_n hx hb dX7_at_12 rfl (lv_at hl 1 rfl) ?_
    refine z_cald hx hb hK.1 hTx 0 3 (F := X) rfl rfl (by omega) (by decide) dX7_at_13 ?_
    refine lv_goto (tgt := 19) hx hb dX7_at_14 (by decide) ?_
    exact W.zret hx hb hr (nar_char (hX u (by omega) (by omega))) (fun t ht _ => ⟨congrArg (fun z => Outcome.returned (some (Value.int (zI z)))) (show X u = atF tq X u from (if_pos c1).symm), ht⟩) (fun _ h => absurd h List.not_mem_nil) dX7_at_19 hlk

set_option maxHeartbeats 4000000 in
set_option maxRecDepth 100000 in
theorem c_X7_readRows (l : Launch) (G : va_G) (cs : Nat → ClassId) (a : Nat → Nat) (kq tq nq : Int) (X : Int → Int) (Rd : Int → Nat → Bool) (ia : Inj a 10) (ht : 0 ≤ tq ∧ tq ≤ 60) (hX : ∀ j, 0 ≤ j → j < 60 → 0 ≤ X j ∧ X j < 65536) : MW l yX7_readRows wsX7_readRows { frames := 1, cells := 0, slots := 0, locals := 21 } G cs [.ref (a 0)] (fun H => va_P G vwCl (moW cs a kq tq nq) H ∧ va_P G vwCl (m7 cs a 8 3 60 (aI X)) H ∧ va_P G vwCl (m7 cs a 9 0 8 (cB Rd)) H) (fun vv H => ∃ (n2 : Int) (g : Int → Nat → Bool), vv = .int (zI (faultF (tlT tq) X)) ∧ (faultF (tlT tq) X = -5 → n2 = (rdS (tlT tq) X tq.toNat).1 1 + 1 ∧ ∀ r, 0 ≤ r → r < n2 → ∀ k : Nat, g r k = tB (rdS (tlT tq) X tq.toNat) r k) ∧ va_P G vwCl (moW cs a kq tq n2) H ∧ va_P G vwCl (m7 cs a 9 0 8 (cB g)) H) (fun q => AX a 0 1 q ∨ AX a 9 10 q) 0 0 := by
  refine m_intro (Pw := (fun H => va_P G vwCl (moW cs a kq tq nq) H ∧ va_P G vwCl (m7 cs a 8 3 60 (aI X)) H ∧ va_P G vwCl (m7 cs a 9 0 8 (cB Rd)) H)) (cc := cX7_readRows) (maxL := 7) (ret := some .int) RX7 (by decide) rfl rfl (Nat.le_of_ble_eq_true rfl) ?_
  intro pP eE sS mM below meth cC hx hb hr hts hown hml hlk hnm hPre hK ls hl
  have hl : lv_has ls 7 [(0, .ref (a 0))] := hl
  obtain ⟨hMo, hTx, hRd⟩ := hPre
  have hS : va_S (fun q => AX a 0 1 q ∨ AX a 9 10 q) sS.heap sS.heap [] := va_S.rf
  have hi7 : ∀ w ∈ u_ws RX7 TX7 12, w ∈ wsX7_readRows := by decide +kernel
  refine z_iconst (n := 0) hx hb dX7_readRows_0 ?_
  refine lv_istore_n (lv' := [(1, .int (zI 0)), (0, .ref (a 0))]) hx hb dX7_readRows_1 rfl hl (by decide) rfl (fun ls hl => ?_)
  refine z_iconst (n := 0) hx hb dX7_readRows_2 ?_
  refine lv_istore_n (lv' := [(2, .int (zI 0)), (1, .int (zI 0)), (0, .ref (a 0))]) hx hb dX7_readRows_3 rfl hl (by decide) rfl (fun ls hl => ?_)
  refine lv_aload_n hx hb dX7_readRows_4 rfl (lv_at hl 2 rfl) ?_
  refine z_iconst (n := 0) hx hb dX7_readRows_5 ?_
  refine z_put (G := G) (ci := 7) (v := .int (zI 0)) (ty := .int) (C := RX7) (T := TX7) (N := 12) hx hb hts hi7 tyX7 tyX7_ok nmX7 hown hK.1 hMo (Ord.D (ordMo cs a kq tq nq) inj1) hS 0 rfl rfl 10 (by decide) (hts (.fieldLink RX7 99 "SpriteLinesModel" "rowsRead" "I") (by decide +kernel)) (fun _ h9 => h9) rfl (by decide +kernel) rfl rfl (Nat.le_of_ble_eq_true rfl) (Or.inl (⟨0, by decide, by decide, rfl⟩)) dX7_readRows_6 (fun H locs hP1 hle hk hS => ?_)
  have hTx := keepO (ordM7 cs a 8 3 60 (aI X)) hTx hk (fun j hj h3 => absurd (ia (8 + j) 0 (by omega) (by omega) h3) (by omega))
  have hRd := keepO (ordM7 cs a 9 0 8 (cB Rd)) hRd hk (fun j hj h3 => absurd (ia (9 + j) 0 (by omega) (by omega) h3) (by omega))
  have hMo : va_P G vwCl (moW cs a kq tq 0) H := hP1
  refine lv_aload_n hx hb dX7_readRows_9 rfl (lv_at hl 2 rfl) ?_
  refine va_get (D := G) (ci := 7) (v := .ref ((sh a 9) 0)) (C := RX7) (T := TX7) (N := 12) hx hb hts hi7 hown hK.1 hMo 0 rfl rfl 11 (by decide) (hts (.fieldLink RX7 36 "SpriteLinesModel" "read" "[I") (by decide +kernel)) (fun _ h9 => h9) rfl dX7_readRows_10 ?_
  refine z_iconst (n := 0) hx hb dX7_readRows_13 ?_
  refine z_iconst (n := 0) hx hb dX7_readRows_14 ?_
  refine z_top (v' := .int (iB (fun _ => false))) (congrArg Value.int iB_0) ?_
  refine z_iastB hx hb hK.1 hRd (Ord.D (ordM7 cs a 9 0 8 (cB Rd)) inj1) hS 0 0 (F := Rd) rfl rfl (by omega) (by decide) (Or.inr (⟨9, by decide, by decide, rfl⟩)) dX7_readRows_15 (fun H locs hP1 hle hk hS => ?_)
  have hMo := keepO (ordMo cs a kq tq 0) hMo hk (fun j hj h3 => absurd (ia j 9 (by omega) (by omega) h3) (by omega))
  have hTx := keepO (ordM7 cs a 8 3 60 (aI X)) hTx hk (fun j hj h3 => absurd (ia (8 + j) 9 (by omega) (by omega) h3) (by omega))
  have hRd : va_P G vwCl (m7 cs a 9 0 8 (cB (updB Rd 0 (fun _ => false)))) H := hP1
  -- loop 16
  refine z_loopH (nL := 7) (fun ((e, u, R, g) : Int × Int × Int × (Int → Nat → Bool)) => [(0, .ref (a 0)), (1, .int (zI e)), (2, .int (zI u))]) (fun ((e, u, R, g) : Int × Int × Int × (Int → Nat → Bool)) (H : Heap) => (RI tq X e u R g) ∧ va_P G vwCl (moW cs a kq tq R) H ∧ va_P G vwCl (m7 cs a 8 3 60 (aI X)) H ∧ va_P G vwCl (m7 cs a 9 0 8 (cB g)) H) (fun ((e, u, R, g) : Int × Int × Int × (Int → Nat → Bool)) => (tq - e).toNat) (0, 0, 0, updB Rd 0 (fun _ => false)) ⟨ri_0 ht.1, hMo, hTx, hRd⟩ hS (lv_sub hl [2, 1, 0] rfl) (fun x_ H locs hIH hS ih ls hl => ?_)
  obtain ⟨e, u, R, g⟩ := x_
  obtain ⟨hI, hMo, hTx, hRd⟩ := hIH
  have hI : RI tq X e u R g := hI
  have hMo : va_P G vwCl (moW cs a kq tq R) H := hMo
  have hTx : va_P G vwCl (m7 cs a 8 3 60 (aI X)) H := hTx
  have hRd : va_P G vwCl (m7 cs a 9 0 8 (cB g)) H := hRd
  have hl : lv_has ls 7 [(0, .ref (a 0)), (1, .int (zI e)), (2, .int (zI u))] := hl
  have ih1 := ih
  have hrr := ri_rng hI ht
  refine lv_iload_n hx hb dX7_readRows_16 rfl (lv_at hl 1 rfl) ?_
  refine lv_aload_n hx hb dX7_readRows_17 rfl (lv_at hl 0 rfl) ?_
  refine va_get (D := G) (ci := 7) (v := .int (zI tq)) (C := RX7) (T := TX7) (N := 12) hx hb hts hi7 hown hK.1 hMo 0 rfl rfl 8 (by decide) (hts (.fieldLink RX7 96 "SpriteLinesModel" "typed" "I") (by decide +kernel)) (fun _ h9 => h9) rfl dX7_readRows_18 ?_
  refine z_icmp_ge (tgt := 220) hx hb dX7_readRows_21 (by decide) (by omega) (by omega) (fun c0 => ?_) (fun c0 => ?_)
  · skip
    refine lv_aload_n hx hb dX7_readRows_220 rfl (lv_at hl 0 rfl) ?_
    refine lv_dup hx hb dX7_readRows_221 rfl ?_
    refine va_get (D := G) (ci := 7) (v := .int (zI R)) (C := RX7) (T := TX7) (N := 12) hx hb hts hi7 hown hK.1 hMo 0 rfl rfl 10 (by decide) (hts (.fieldLink RX7 99 "SpriteLinesModel" "rowsRead" "I") (by decide +kernel)) (fun _ h9 => h9) rfl dX7_readRows_222 ?_
    refine z_iconst (n := 1) hx hb dX7_readRows_225 ?_
    refine z_iadd hx hb dX7_readRows_226 ?_
    refine z_put (G := G) (ci := 7) (v := .int (zI (R + 1))) (ty := .int) (C := RX7) (T := TX7) (N := 12) hx hb hts hi7 tyX7 tyX7_ok nmX7 hown hK.1 hMo (Ord.D (ordMo cs a kq tq R) inj1) hS 0 rfl rfl 10 (by decide) (hts (.fieldLink RX7 99 "SpriteLinesModel" "rowsRead" "I") (by decide +kernel)) (fun _ h9 => h9) rfl (by decide +kernel) rfl rfl (Nat.le_of_ble_eq_true rfl) (Or.inl (⟨0, by decide, by decide, rfl⟩)) dX7_readRows_227 (fun H locs hP1 hle hk hS => ?_)
    have hTx := keepO (ordM7 cs a 8 3 60 (aI X)) hTx hk (fun j hj h3 => absurd (ia (8 + j) 0 (by omega) (by omega) h3) (by omega))
    have hRd := keepO (ordM7 cs a 9 0 8 (cB g)) hRd hk (fun j hj h3 => absurd (ia (9 + j) 0 (by omega) (by omega) h3) (by omega))
    have hMo : va_P G vwCl (moW cs a kq tq (R + 1)) H := hP1
    refine lv_iload_n hx hb dX7_readRows_230 rfl (lv_at hl 2 rfl) ?_
    refine z_bipush (n := 8) hx hb dX7_readRows_231 (by decide) ?_
    refine z_icmp_ge (tgt := 243) hx hb dX7_readRows_233 (by decide) (by omega) (by omega) (fun c1 => ?_) (fun c1 => ?_)
    · skip
      refine z_bipush (n := -5) hx hb dX7_readRows_243 (by decide) ?_
      exact w_iret hx hb hr hlk dX7_readRows_245 hS ⟨R + 1, g, congrArg (fun z => Value.int (zI z)) (show (-5 : Int) = faultF (tlT tq) X from (by rw [(ri_end hI (by omega)).1, if_neg (show ¬ u < 8 by omega)])), fun _ => ⟨by rw [(ri_end hI (by omega)).2.1], fun r h1 h2 k => (ri_end hI (by omega)).2.2 r h1 (by omega) k⟩, hMo, hRd⟩
    · skip
      refine lv_aload_n hx hb dX7_readRows_236 rfl (lv_at hl 0 rfl) ?_
      refine va_get (D := G) (ci := 7) (v := .int (zI tq)) (C := RX7) (T := TX7) (N := 12) hx hb hts hi7 hown hK.1 hMo 0 rfl rfl 8 (by decide) (hts (.fieldLink RX7 96 "SpriteLinesModel" "typed" "I") (by decide +kernel)) (fun _ h9 => h9) rfl dX7_readRows_237 ?_
      refine lv_goto (tgt := 245) hx hb dX7_readRows_240 (by decide) ?_
      exact w_iret hx hb hr hlk dX7_readRows_245 hS ⟨R + 1, g, congrArg (fun z => Value.int (zI z)) (show tq = faultF (tlT tq) X from (by rw [(ri_end hI (by omega)).1, if_pos (show u < 8 by omega)])), fun h9 => absurd h9 (by rw [← (show tq = faultF (tlT tq) X from (by rw [(ri_end hI (by omega)).1, if_pos (show u < 8 by omega)]))]; omega), hMo, hRd⟩
  · skip
    have hke : e < tq := by omega
    have hXk := hX e (by omega) (by omega)
    refine lv_aload_n hx hb dX7_readRows_24 rfl (lv_at hl 0 rfl) ?_
    refine va_get (D := G) (ci := 7) (v := .ref ((sh a 8) 0)) (C := RX7) (T := TX7) (N := 12) hx hb hts hi7 hown hK.1 hMo 0 rfl rfl 9 (by decide) (hts (.fieldLink RX7 32 "SpriteLinesModel" "text" "[C") (by decide +kernel)) (fun _ h9 => h9) rfl dX7_readRows_25 ?_
    refine lv_iload_n hx hb dX7_readRows_28 rfl (lv_at hl 1 rfl) ?_
    refine z_cald hx hb hK.1 hTx 0 3 (F := X) rfl rfl (by omega) (by decide) dX7_readRows_29 ?_
    refine lv_istore_n (lv' := [(3, .int (zI (X e))), (0, .ref (a 0)), (1, .int (zI e)), (2, .int (zI u))]) hx hb dX7_readRows_30 rfl hl (by decide) rfl (fun ls hl => ?_)
    refine lv_iload_n hx hb dX7_readRows_31 rfl (lv_at hl 0 rfl) ?_
    refine z_bipush (n := 47) hx hb dX7_readRows_32 (by decide) ?_
    refine z_icmp_ne (tgt := 82) hx hb dX7_readRows_34 (by decide) (by omega) (by omega) (fun c1 => ?_) (fun c1 => ?_)
    · skip
      refine lv_iload_n hx hb dX7_readRows_82 rfl (lv_at hl 3 rfl) ?_
      refine z_bipush (n := 8) hx hb dX7_readRows_83 (by decide) ?_
      refine z_icmp_eq (tgt := 106) hx hb dX7_readRows_85 (by decide) (by omega) (by omega) (fun c2 => ?_) (fun c2 => ?_)
      · skip
        refine lv_iload_n hx hb dX7_readRows_106 rfl (lv_at hl 2 rfl) ?_
        exact w_iret hx hb hr hlk dX7_readRows_107 hS ⟨R, g, congrArg (fun z => Value.int (zI z)) (show e = faultF (tlT tq) X from (ri_bad hI hke c1 (by omega)).symm), fun h9 => absurd h9 (by rw [← ((show e = faultF (tlT tq) X from (ri_bad hI hke c1 (by omega)).symm))]; omega), hMo, hRd⟩
      · skip
        refine lv_iload_n hx hb dX7_readRows_88 rfl (lv_at hl 0 rfl) ?_
        refine z_bipush (n := 46) hx hb dX7_readRows_89 (by decide) ?_
        refine z_icmp_eq (tgt := 108) hx hb dX7_readRows_91 (by decide) (by omega) (by omega) (fun c3 => ?_) (fun c3 => ?_)
        · skip
          refine lv_iload_n hx hb dX7_readRows_108 rfl (lv_at hl 0 rfl) ?_
          refine z_bipush (n := 46) hx hb dX7_readRows_109 (by decide) ?_
          refine z_icmp_ne (tgt := 118) hx hb dX7_readRows_111 (by decide) (by omega) (by omega) (fun c4 => ?_) (fun c4 => ?_)
          · skip
            exfalso; omega
          · skip
            have hpx : X e = 46 ∨ (49 ≤ X e ∧ X e ≤ 51) := by omega
            refine z_iconst (n := 0) hx hb dX7_readRows_114 ?_
            refine z_topi (b := pvF (X e)) (show (0 : Int) = pvF (X e) by unfold pvF; rw [if_pos (by omega)]) ?_
            refine lv_goto (tgt := 122) hx hb dX7_readRows_115 (by decide) ?_
            refine lv_istore (lv' := [(4, .int (zI (pvF (X e)))), (3, .int (zI (X e))), (0, .ref (a 0)), (1, .int (zI e)), (2, .int (zI u))]) hx hb dX7_readRows_122 hl (by decide) rfl (fun ls hl => ?_)
            have hpv : 0 ≤ pvF (X e) ∧ pvF (X e) ≤ 3 := by unfold pvF; split <;> omega
            have hat1 := at_r (tq := tq) (k := e + 1) hX (by omega)
            have hat2 := at_r (tq := tq) (k := e + 2) hX (by omega)
            refine z_iconst (n := 1) hx hb dX7_readRows_124 ?_
            refine lv_istore (lv' := [(5, .int (zI 1)), (4, .int (zI (pvF (X e)))), (3, .int (zI (X e))), (0, .ref (a 0)), (1, .int (zI e)), (2, .int (zI u))]) hx hb dX7_readRows_125 hl (by decide) rfl (fun ls hl => ?_)
            refine z_iinc (k := 4) (lv' := [(1, .int (zI (e + 1))), (5, .int (zI 1)), (4, .int (zI (pvF (X e)))), (3, .int (zI (X e))), (0, .ref (a 0)), (2, .int (zI u))]) hx hb dX7_readRows_127 hl rfl (by decide) rfl (fun ls hl => ?_)
            refine lv_aload_n hx hb dX7_readRows_130 rfl (lv_at hl 4 rfl) ?_
            refine lv_iload_n hx hb dX7_readRows_131 rfl (lv_at hl 0 rfl) ?_
            refine z_ro (zrV (As := [.int (zI (e + 1))]) (rest := []) (Pw := fun H => va_P G vwCl (moW cs a kq tq R) H ∧ va_P G vwCl (m7 cs a 8 3 60 (aI X)) H) ⟨hx, hb, hml, hown, hts⟩ (c_X7_at l G cs a kq tq R X (e + 1) (by omega) hX (by omega)) gX7_readRows_X7_at rfl qX7_at rfl rfl ⟨Nat.le_of_ble_eq_true rfl, Nat.le_of_ble_eq_true rfl⟩ ⟨hMo, hTx⟩ hK (va_recv hK.1 hMo (ci := 7) (q0 := 0) rfl rfl) hl.1 rfl (Nat.le_of_ble_eq_true rfl) dX7_readRows_132 ⟨Nat.le_of_ble_eq_true rfl, Nat.le_of_ble_eq_true rfl⟩) ?_
            refine z_bipush (n := 120) hx hb dX7_readRows_135 (by decide) ?_
            refine z_icmp_ne (tgt := 180) hx hb dX7_readRows_137 (by decide) (by omega) (by omega) (fun c7 => ?_) (fun c7 => ?_)
            · skip
              have hnx : ¬ (e + 1 < tq ∧ X (e + 1) = 120) := fun h9 => c7 ((show atF tq X (e + 1) = X (e + 1) from if_pos h9.1).trans h9.2)
              refine z_iconst (n := 0) hx hb dX7_readRows_180 ?_
              refine lv_istore (lv' := [(6, .int (zI 0)), (1, .int (zI (e + 1))), (5, .int (zI 1)), (4, .int (zI (pvF (X e)))), (3, .int (zI (X e))), (0, .ref (a 0)), (2, .int (zI u))]) hx hb dX7_readRows_181 hl (by decide) rfl (fun ls hl => ?_)
              -- loop 183
              have hI1 := hI
              refine z_loopH (nL := 7) (fun (i : Int) => [(0, .ref (a 0)), (1, .int (zI (e + 1))), (2, .int (zI (u + i))), (4, .int (zI (pvF (X e)))), (5, .int (zI 1)), (6, .int (zI i))]) (fun (i : Int) (H : Heap) => (0 ≤ i ∧ i ≤ 1) ∧ va_P G vwCl (moW cs a kq tq R) H ∧ va_P G vwCl (m7 cs a 8 3 60 (aI X)) H ∧ va_P G vwCl (m7 cs a 9 0 8 (cB (gI g R u (pvF (X e)) i))) H) (fun (i : Int) => (1 - i).toNat) 0 ⟨(by omega), hMo, hTx, (by rw [gI_0]; exact hRd)⟩ hS (by show lv_has ls 7 [(0, .ref (a 0)), (1, .int (zI (e + 1))), (2, .int (zI (u + 0))), (4, .int (zI (pvF (X e)))), (5, .int (zI 1)), (6, .int (zI 0))]; rw [Int.add_zero]; exact lv_sub hl [5, 1, 6, 3, 2, 0] rfl) (fun i H locs hIH hS ih ls hl => ?_)
              obtain ⟨hI, hMo, hTx, hRd⟩ := hIH
              have hl : lv_has ls 7 [(0, .ref (a 0)), (1, .int (zI (e + 1))), (2, .int (zI (u + i))), (4, .int (zI (pvF (X e)))), (5, .int (zI 1)), (6, .int (zI i))] := hl
              have ih2 := ih
              have hJ := hI
              refine lv_iload hx hb dX7_readRows_183 (lv_at hl 5 rfl) ?_
              refine lv_iload hx hb dX7_readRows_185 (lv_at hl 4 rfl) ?_
              refine z_icmp_ge (tgt := 217) hx hb dX7_readRows_187 (by decide) (by omega) (by omega) (fun c5 => ?_) (fun c5 => ?_)
              · skip
                refine lv_goto (tgt := 16) hx hb dX7_readRows_217 (by decide) ?_
                exact ih1 (e + 1, u + 1, R, gI g R u (pvF (X e)) 1) H locs ⟨(ri_one ht hI1 hke hpx (by omega) hnx), hMo, hTx, (by rw [show i = 1 by omega] at hRd; exact hRd)⟩ hS (by show (tq - (e + 1)).toNat < (tq - e).toNat; omega) ls (by show lv_has ls 7 [(0, .ref (a 0)), (1, .int (zI (e + 1))), (2, .int (zI (u + 1)))]; rw [show u + 1 = u + i by omega]; exact lv_sub hl [0, 1, 2] rfl)
              · skip
                refine lv_aload_n hx hb dX7_readRows_190 rfl (lv_at hl 0 rfl) ?_
                refine va_get (D := G) (ci := 7) (v := .ref ((sh a 9) 0)) (C := RX7) (T := TX7) (N := 12) hx hb hts hi7 hown hK.1 hMo 0 rfl rfl 11 (by decide) (hts (.fieldLink RX7 36 "SpriteLinesModel" "read" "[I") (by decide +kernel)) (fun _ h9 => h9) rfl dX7_readRows_191 ?_
                refine lv_aload_n hx hb dX7_readRows_194 rfl (lv_at hl 0 rfl) ?_
                refine va_get (D := G) (ci := 7) (v := .int (zI R)) (C := RX7) (T := TX7) (N := 12) hx hb hts hi7 hown hK.1 hMo 0 rfl rfl 10 (by decide) (hts (.fieldLink RX7 99 "SpriteLinesModel" "rowsRead" "I") (by decide +kernel)) (fun _ h9 => h9) rfl dX7_readRows_195 ?_
                refine lv_dup2_11 hx hb dX7_readRows_198 rfl rfl ?_
                refine z_ialdB hx hb hK.1 hRd 0 0 (F := (gI g R u (pvF (X e)) i)) rfl rfl (by omega) (by decide) dX7_readRows_199 ?_
                refine lv_iload hx hb dX7_readRows_200 (lv_at hl 3 rfl) ?_
                refine z_top (v' := .int (iB (fun k => if k = 0 then decide (pvF (X e) % 2 = 1) else if k = 1 then decide (pvF (X e) / 2 % 2 = 1) else false))) (congrArg Value.int (zI_pix hpv)) ?_
                refine z_iconst (n := 2) hx hb dX7_readRows_202 ?_
                refine lv_iload_n hx hb dX7_readRows_203 rfl (lv_at hl 2 rfl) ?_
                refine z_imul hx hb dX7_readRows_204 ?_
                refine z_ishlB hx hb dX7_readRows_205 (by omega) ?_
                refine z_iorB hx hb dX7_readRows_206 ?_
                refine z_iastB hx hb hK.1 hRd (Ord.D (ordM7 cs a 9 0 8 (cB (gI g R u (pvF (X e)) i))) inj1) hS 0 0 (F := (gI g R u (pvF (X e)) i)) rfl rfl (by omega) (by decide) (Or.inr (⟨9, by decide, by decide, rfl⟩)) dX7_readRows_207 (fun H locs hP1 hle hk hS => ?_)
                have hMo := keepO (ordMo cs a kq tq R) hMo hk (fun j hj h3 => absurd (ia j 9 (by omega) (by omega) h3) (by omega))
                have hTx := keepO (ordM7 cs a 8 3 60 (aI X)) hTx hk (fun j hj h3 => absurd (ia (8 + j) 9 (by omega) (by omega) h3) (by omega))
                have hRd : va_P G vwCl (m7 cs a 9 0 8 (cB (updB (gI g R u (pvF (X e)) i) R (fun k => ((gI g R u (pvF (X e)) i) R) k || (fun k => decide ((2 * (u + i)).toNat ≤ k) && (fun k => if k = 0 then decide (pvF (X e) % 2 = 1) else if k = 1 then decide (pvF (X e) / 2 % 2 = 1) else false) (k - (2 * (u + i)).toNat)) k)))) H := hP1
                refine z_iinc (k := 2) (lv' := [(2, .int (zI ((u + i) + 1))), (0, .ref (a 0)), (1, .int (zI (e + 1))), (4, .int (zI (pvF (X e)))), (5, .int (zI 1)), (6, .int (zI i))]) hx hb dX7_readRows_208 hl rfl (by decide) rfl (fun ls hl => ?_)
                refine z_iinc (k := 5) (lv' := [(6, .int (zI (i + 1))), (2, .int (zI ((u + i) + 1))), (0, .ref (a 0)), (1, .int (zI (e + 1))), (4, .int (zI (pvF (X e)))), (5, .int (zI 1))]) hx hb dX7_readRows_211 hl rfl (by decide) rfl (fun ls hl => ?_)
                refine lv_goto (tgt := 183) hx hb dX7_readRows_214 (by decide) ?_
                exact ih2 (i + 1) H locs ⟨(by omega), hMo, hTx, (by rw [← gI_s (g := g) (R := R) (u := u) (v := pvF (X e)) (i := i) (by omega) hJ.1]; exact hRd)⟩ hS (by omega) ls (by show lv_has ls 7 [(0, .ref (a 0)), (1, .int (zI (e + 1))), (2, .int (zI (u + (i + 1)))), (4, .int (zI (pvF (X e)))), (5, .int (zI 1)), (6, .int (zI (i + 1)))]; rw [← Int.add_assoc u i 1]; exact lv_sub hl [2, 3, 1, 4, 5, 0] rfl)
            · skip
              have hk1 : e + 1 < tq := by
                rcases Int.lt_or_le (e + 1) tq with q | q
                · exact q
                · exact absurd ((show atF tq X (e + 1) = 32 from if_neg (by omega)).symm.trans c7) (by decide)
              have hx1 : X (e + 1) = 120 := (show atF tq X (e + 1) = X (e + 1) from if_pos hk1).symm.trans c7
              refine z_iinc (k := 0) (lv' := [(1, .int (zI ((e + 1) + 1))), (5, .int (zI 1)), (4, .int (zI (pvF (X e)))), (3, .int (zI (X e))), (0, .ref (a 0)), (2, .int (zI u))]) hx hb dX7_readRows_140 hl rfl (by decide) rfl (fun ls hl => ?_)
              refine lv_aload_n hx hb dX7_readRows_143 rfl (lv_at hl 4 rfl) ?_
              refine lv_iload_n hx hb dX7_readRows_144 rfl (lv_at hl 0 rfl) ?_
              refine z_ro (zrV (As := [.int (zI ((e + 1) + 1))]) (rest := []) (Pw := fun H => va_P G vwCl (moW cs a kq tq R) H ∧ va_P G vwCl (m7 cs a 8 3 60 (aI X)) H) ⟨hx, hb, hml, hown, hts⟩ (c_X7_at l G cs a kq tq R X ((e + 1) + 1) (by omega) hX (by omega)) gX7_readRows_X7_at rfl qX7_at rfl rfl ⟨Nat.le_of_ble_eq_true rfl, Nat.le_of_ble_eq_true rfl⟩ ⟨hMo, hTx⟩ hK (va_recv hK.1 hMo (ci := 7) (q0 := 0) rfl rfl) hl.1 rfl (Nat.le_of_ble_eq_true rfl) dX7_readRows_145 ⟨Nat.le_of_ble_eq_true rfl, Nat.le_of_ble_eq_true rfl⟩) ?_
              refine z_topi (b := atF tq X (e + 2)) (congrArg (atF tq X) (by omega)) ?_
              refine z_bipush (n := 48) hx hb dX7_readRows_148 (by decide) ?_
              refine z_isub hx hb dX7_readRows_150 ?_
              refine lv_istore (lv' := [(5, .int (zI ((atF tq X (e + 2)) - 48))), (1, .int (zI ((e + 1) + 1))), (4, .int (zI (pvF (X e)))), (3, .int (zI (X e))), (0, .ref (a 0)), (2, .int (zI u))]) hx hb dX7_readRows_151 hl (by decide) rfl (fun ls hl => ?_)
              refine lv_iload hx hb dX7_readRows_153 (lv_at hl 0 rfl) ?_
              refine z_iconst (n := 2) hx hb dX7_readRows_155 ?_
              refine z_icmp_lt (tgt := 175) hx hb dX7_readRows_156 (by decide) (by omega) (by omega) (fun c6 => ?_) (fun c6 => ?_)
              · skip
                refine lv_iload_n hx hb dX7_readRows_175 rfl (lv_at hl 1 rfl) ?_
                exact w_iret hx hb hr hlk dX7_readRows_176 hS ⟨R, g, congrArg (fun z => Value.int (zI z)) (show e + 1 + 1 = faultF (tlT tq) X from (by rw [ri_x_bad hI hpx (by omega) hk1 hx1 (by omega)]; omega)), fun h9 => absurd h9 (by rw [← ((show e + 1 + 1 = faultF (tlT tq) X from (by rw [ri_x_bad hI hpx (by omega) hk1 hx1 (by omega)]; omega)))]; omega), hMo, hRd⟩
              · skip
                refine lv_iload hx hb dX7_readRows_159 (lv_at hl 0 rfl) ?_
                refine z_bipush (n := 8) hx hb dX7_readRows_161 (by decide) ?_
                refine z_icmp_gt (tgt := 175) hx hb dX7_readRows_163 (by decide) (by omega) (by omega) (fun c7 => ?_) (fun c7 => ?_)
                · skip
                  refine lv_iload_n hx hb dX7_readRows_175 rfl (lv_at hl 1 rfl) ?_
                  exact w_iret hx hb hr hlk dX7_readRows_176 hS ⟨R, g, congrArg (fun z => Value.int (zI z)) (show e + 1 + 1 = faultF (tlT tq) X from (by rw [ri_x_bad hI hpx (by omega) hk1 hx1 (by omega)]; omega)), fun h9 => absurd h9 (by rw [← ((show e + 1 + 1 = faultF (tlT tq) X from (by rw [ri_x_bad hI hpx (by omega) hk1 hx1 (by omega)]; omega)))]; omega), hMo, hRd⟩
                · skip
                  refine lv_iload_n hx hb dX7_readRows_166 rfl (lv_at hl 5 rfl) ?_
                  refine lv_iload hx hb dX7_readRows_167 (lv_at hl 0 rfl) ?_
                  refine z_iadd hx hb dX7_readRows_169 ?_
                  refine z_bipush (n := 8) hx hb dX7_readRows_170 (by decide) ?_
                  refine z_icmp_le (tgt := 177) hx hb dX7_readRows_172 (by decide) (by omega) (by omega) (fun c8 => ?_) (fun c8 => ?_)
                  · skip
                    refine z_iinc (k := 1) (lv' := [(1, .int (zI (((e + 1) + 1) + 1))), (5, .int (zI ((atF tq X (e + 2)) - 48))), (4, .int (zI (pvF (X e)))), (3, .int (zI (X e))), (0, .ref (a 0)), (2, .int (zI u))]) hx hb dX7_readRows_177 hl rfl (by decide) rfl (fun ls hl => ?_)
                    refine z_iconst (n := 0) hx hb dX7_readRows_180 ?_
                    refine lv_istore (lv' := [(6, .int (zI 0)), (1, .int (zI (((e + 1) + 1) + 1))), (5, .int (zI ((atF tq X (e + 2)) - 48))), (4, .int (zI (pvF (X e)))), (3, .int (zI (X e))), (0, .ref (a 0)), (2, .int (zI u))]) hx hb dX7_readRows_181 hl (by decide) rfl (fun ls hl => ?_)
                    -- loop 183
                    have hI1 := hI
                    refine z_loopH (nL := 7) (fun (i : Int) => [(0, .ref (a 0)), (1, .int (zI (((e + 1) + 1) + 1))), (2, .int (zI (u + i))), (4, .int (zI (pvF (X e)))), (5, .int (zI ((atF tq X (e + 2)) - 48))), (6, .int (zI i))]) (fun (i : Int) (H : Heap) => (0 ≤ i ∧ i ≤ ((atF tq X (e + 2)) - 48)) ∧ va_P G vwCl (moW cs a kq tq R) H ∧ va_P G vwCl (m7 cs a 8 3 60 (aI X)) H ∧ va_P G vwCl (m7 cs a 9 0 8 (cB (gI g R u (pvF (X e)) i))) H) (fun (i : Int) => (((atF tq X (e + 2)) - 48) - i).toNat) 0 ⟨(by omega), hMo, hTx, (by rw [gI_0]; exact hRd)⟩ hS (by show lv_has ls 7 [(0, .ref (a 0)), (1, .int (zI (((e + 1) + 1) + 1))), (2, .int (zI (u + 0))), (4, .int (zI (pvF (X e)))), (5, .int (zI ((atF tq X (e + 2)) - 48))), (6, .int (zI 0))]; rw [Int.add_zero]; exact lv_sub hl [5, 1, 6, 3, 2, 0] rfl) (fun i H locs hIH hS ih ls hl => ?_)
                    obtain ⟨hI, hMo, hTx, hRd⟩ := hIH
                    have hl : lv_has ls 7 [(0, .ref (a 0)), (1, .int (zI (((e + 1) + 1) + 1))), (2, .int (zI (u + i))), (4, .int (zI (pvF (X e)))), (5, .int (zI ((atF tq X (e + 2)) - 48))), (6, .int (zI i))] := hl
                    have ih2 := ih
                    have hJ := hI
                    refine lv_iload hx hb dX7_readRows_183 (lv_at hl 5 rfl) ?_
                    refine lv_iload hx hb dX7_readRows_185 (lv_at hl 4 rfl) ?_
                    refine z_icmp_ge (tgt := 217) hx hb dX7_readRows_187 (by decide) (by omega) (by omega) (fun c9 => ?_) (fun c9 => ?_)
                    · skip
                      refine lv_goto (tgt := 16) hx hb dX7_readRows_217 (by decide) ?_
                      exact ih1 (e + 3, u + (atF tq X (e + 2) - 48), R, gI g R u (pvF (X e)) (atF tq X (e + 2) - 48)) H locs ⟨(ri_x ht hI1 hpx (by omega) hk1 hx1 (by omega)), hMo, hTx, (by rw [show i = atF tq X (e + 2) - 48 by omega] at hRd; exact hRd)⟩ hS (by show (tq - (e + 3)).toNat < (tq - e).toNat; omega) ls (by show lv_has ls 7 [(0, .ref (a 0)), (1, .int (zI (e + 3))), (2, .int (zI (u + (atF tq X (e + 2) - 48))))]; rw [show u + (atF tq X (e + 2) - 48) = u + i by omega, show e + 3 = e + 1 + 1 + 1 by omega]; exact lv_sub hl [0, 1, 2] rfl)
                    · skip
                      refine lv_aload_n hx hb dX7_readRows_190 rfl (lv_at hl 0 rfl) ?_
                      refine va_get (D := G) (ci := 7) (v := .ref ((sh a 9) 0)) (C := RX7) (T := TX7) (N := 12) hx hb hts hi7 hown hK.1 hMo 0 rfl rfl 11 (by decide) (hts (.fieldLink RX7 36 "SpriteLinesModel" "read" "[I") (by decide +kernel)) (fun _ h9 => h9) rfl dX7_readRows_191 ?_
                      refine lv_aload_n hx hb dX7_readRows_194 rfl (lv_at hl 0 rfl) ?_
                      refine va_get (D := G) (ci := 7) (v := .int (zI R)) (C := RX7) (T := TX7) (N := 12) hx hb hts hi7 hown hK.1 hMo 0 rfl rfl 10 (by decide) (hts (.fieldLink RX7 99 "SpriteLinesModel" "rowsRead" "I") (by decide +kernel)) (fun _ h9 => h9) rfl dX7_readRows_195 ?_
                      refine lv_dup2_11 hx hb dX7_readRows_198 rfl rfl ?_
                      refine z_ialdB hx hb hK.1 hRd 0 0 (F := (gI g R u (pvF (X e)) i)) rfl rfl (by omega) (by decide) dX7_readRows_199 ?_
                      refine lv_iload hx hb dX7_readRows_200 (lv_at hl 3 rfl) ?_
                      refine z_top (v' := .int (iB (fun k => if k = 0 then decide (pvF (X e) % 2 = 1) else if k = 1 then decide (pvF (X e) / 2 % 2 = 1) else false))) (congrArg Value.int (zI_pix hpv)) ?_
                      refine z_iconst (n := 2) hx hb dX7_readRows_202 ?_
                      refine lv_iload_n hx hb dX7_readRows_203 rfl (lv_at hl 2 rfl) ?_
                      refine z_imul hx hb dX7_readRows_204 ?_
                      refine z_ishlB hx hb dX7_readRows_205 (by omega) ?_
                      refine z_iorB hx hb dX7_readRows_206 ?_
                      refine z_iastB hx hb hK.1 hRd (Ord.D (ordM7 cs a 9 0 8 (cB (gI g R u (pvF (X e)) i))) inj1) hS 0 0 (F := (gI g R u (pvF (X e)) i)) rfl rfl (by omega) (by decide) (Or.inr (⟨9, by decide, by decide, rfl⟩)) dX7_readRows_207 (fun H locs hP1 hle hk hS => ?_)
                      have hMo := keepO (ordMo cs a kq tq R) hMo hk (fun j hj h3 => absurd (ia j 9 (by omega) (by omega) h3) (by omega))
                      have hTx := keepO (ordM7 cs a 8 3 60 (aI X)) hTx hk (fun j hj h3 => absurd (ia (8 + j) 9 (by omega) (by omega) h3) (by omega))
                      have hRd : va_P G vwCl (m7 cs a 9 0 8 (cB (updB (gI g R u (pvF (X e)) i) R (fun k => ((gI g R u (pvF (X e)) i) R) k || (fun k => decide ((2 * (u + i)).toNat ≤ k) && (fun k => if k = 0 then decide (pvF (X e) % 2 = 1) else if k = 1 then decide (pvF (X e) / 2 % 2 = 1) else false) (k - (2 * (u + i)).toNat)) k)))) H := hP1
                      refine z_iinc (k := 2) (lv' := [(2, .int (zI ((u + i) + 1))), (0, .ref (a 0)), (1, .int (zI (((e + 1) + 1) + 1))), (4, .int (zI (pvF (X e)))), (5, .int (zI ((atF tq X (e + 2)) - 48))), (6, .int (zI i))]) hx hb dX7_readRows_208 hl rfl (by decide) rfl (fun ls hl => ?_)
                      refine z_iinc (k := 5) (lv' := [(6, .int (zI (i + 1))), (2, .int (zI ((u + i) + 1))), (0, .ref (a 0)), (1, .int (zI (((e + 1) + 1) + 1))), (4, .int (zI (pvF (X e)))), (5, .int (zI ((atF tq X (e + 2)) - 48)))]) hx hb dX7_readRows_211 hl rfl (by decide) rfl (fun ls hl => ?_)
                      refine lv_goto (tgt := 183) hx hb dX7_readRows_214 (by decide) ?_
                      exact ih2 (i + 1) H locs ⟨(by omega), hMo, hTx, (by rw [← gI_s (g := g) (R := R) (u := u) (v := pvF (X e)) (i := i) (by omega) hJ.1]; exact hRd)⟩ hS (by omega) ls (by show lv_has ls 7 [(0, .ref (a 0)), (1, .int (zI (((e + 1) + 1) + 1))), (2, .int (zI (u + (i + 1)))), (4, .int (zI (pvF (X e)))), (5, .int (zI ((atF tq X (e + 2)) - 48))), (6, .int (zI (i + 1)))]; rw [← Int.add_assoc u i 1]; exact lv_sub hl [2, 3, 1, 4, 5, 0] rfl)
                  · skip
                    refine lv_iload_n hx hb dX7_readRows_175 rfl (lv_at hl 1 rfl) ?_
                    exact w_iret hx hb hr hlk dX7_readRows_176 hS ⟨R, g, congrArg (fun z => Value.int (zI z)) (show e + 1 + 1 = faultF (tlT tq) X from (by rw [ri_x_bad hI hpx (by omega) hk1 hx1 (by omega)]; omega)), fun h9 => absurd h9 (by rw [← ((show e + 1 + 1 = faultF (tlT tq) X from (by rw [ri_x_bad hI hpx (by omega) hk1 hx1 (by omega)]; omega)))]; omega), hMo, hRd⟩
        · skip
          refine lv_iload_n hx hb dX7_readRows_94 rfl (lv_at hl 0 rfl) ?_
          refine z_bipush (n := 49) hx hb dX7_readRows_95 (by decide) ?_
          refine z_icmp_lt (tgt := 106) hx hb dX7_readRows_97 (by decide) (by omega) (by omega) (fun c10 => ?_) (fun c10 => ?_)
          · skip
            refine lv_iload_n hx hb dX7_readRows_106 rfl (lv_at hl 2 rfl) ?_
            exact w_iret hx hb hr hlk dX7_readRows_107 hS ⟨R, g, congrArg (fun z => Value.int (zI z)) (show e = faultF (tlT tq) X from (ri_bad hI hke c1 (by omega)).symm), fun h9 => absurd h9 (by rw [← ((show e = faultF (tlT tq) X from (ri_bad hI hke c1 (by omega)).symm))]; omega), hMo, hRd⟩
          · skip
            refine lv_iload_n hx hb dX7_readRows_100 rfl (lv_at hl 0 rfl) ?_
            refine z_bipush (n := 51) hx hb dX7_readRows_101 (by decide) ?_
            refine z_icmp_le (tgt := 108) hx hb dX7_readRows_103 (by decide) (by omega) (by omega) (fun c11 => ?_) (fun c11 => ?_)
            · skip
              refine lv_iload_n hx hb dX7_readRows_108 rfl (lv_at hl 0 rfl) ?_
              refine z_bipush (n := 46) hx hb dX7_readRows_109 (by decide) ?_
              refine z_icmp_ne (tgt := 118) hx hb dX7_readRows_111 (by decide) (by omega) (by omega) (fun c12 => ?_) (fun c12 => ?_)
              · skip
                refine lv_iload_n hx hb dX7_readRows_118 rfl (lv_at hl 0 rfl) ?_
                refine z_bipush (n := 48) hx hb dX7_readRows_119 (by decide) ?_
                have hpx : X e = 46 ∨ (49 ≤ X e ∧ X e ≤ 51) := by omega
                refine z_isub hx hb dX7_readRows_121 ?_
                refine z_topi (b := pvF (X e)) (show X e - 48 = pvF (X e) by unfold pvF; rw [if_neg (by omega)]) ?_
                refine lv_istore (lv' := [(4, .int (zI (pvF (X e)))), (3, .int (zI (X e))), (0, .ref (a 0)), (1, .int (zI e)), (2, .int (zI u))]) hx hb dX7_readRows_122 hl (by decide) rfl (fun ls hl => ?_)
                have hpv : 0 ≤ pvF (X e) ∧ pvF (X e) ≤ 3 := by unfold pvF; split <;> omega
                have hat1 := at_r (tq := tq) (k := e + 1) hX (by omega)
                have hat2 := at_r (tq := tq) (k := e + 2) hX (by omega)
                refine z_iconst (n := 1) hx hb dX7_readRows_124 ?_
                refine lv_istore (lv' := [(5, .int (zI 1)), (4, .int (zI (pvF (X e)))), (3, .int (zI (X e))), (0, .ref (a 0)), (1, .int (zI e)), (2, .int (zI u))]) hx hb dX7_readRows_125 hl (by decide) rfl (fun ls hl => ?_)
                refine z_iinc (k := 4) (lv' := [(1, .int (zI (e + 1))), (5, .int (zI 1)), (4, .int (zI (pvF (X e)))), (3, .int (zI (X e))), (0, .ref (a 0)), (2, .int (zI u))]) hx hb dX7_readRows_127 hl rfl (by decide) rfl (fun ls hl => ?_)
                refine lv_aload_n hx hb dX7_readRows_130 rfl (lv_at hl 4 rfl) ?_
                refine lv_iload_n hx hb dX7_readRows_131 rfl (lv_at hl 0 rfl) ?_
                refine z_ro (zrV (As := [.int (zI (e + 1))]) (rest := []) (Pw := fun H => va_P G vwCl (moW cs a kq tq R) H ∧ va_P G vwCl (m7 cs a 8 3 60 (aI X)) H) ⟨hx, hb, hml, hown, hts⟩ (c_X7_at l G cs a kq tq R X (e + 1) (by omega) hX (by omega)) gX7_readRows_X7_at rfl qX7_at rfl rfl ⟨Nat.le_of_ble_eq_true rfl, Nat.le_of_ble_eq_true rfl⟩ ⟨hMo, hTx⟩ hK (va_recv hK.1 hMo (ci := 7) (q0 := 0) rfl rfl) hl.1 rfl (Nat.le_of_ble_eq_true rfl) dX7_readRows_132 ⟨Nat.le_of_ble_eq_true rfl, Nat.le_of_ble_eq_true rfl⟩) ?_
                refine z_bipush (n := 120) hx hb dX7_readRows_135 (by decide) ?_
                refine z_icmp_ne (tgt := 180) hx hb dX7_readRows_137 (by decide) (by omega) (by omega) (fun c7 => ?_) (fun c7 => ?_)
                · skip
                  have hnx : ¬ (e + 1 < tq ∧ X (e + 1) = 120) := fun h9 => c7 ((show atF tq X (e + 1) = X (e + 1) from if_pos h9.1).trans h9.2)
                  refine z_iconst (n := 0) hx hb dX7_readRows_180 ?_
                  refine lv_istore (lv' := [(6, .int (zI 0)), (1, .int (zI (e + 1))), (5, .int (zI 1)), (4, .int (zI (pvF (X e)))), (3, .int (zI (X e))), (0, .ref (a 0)), (2, .int (zI u))]) hx hb dX7_readRows_181 hl (by decide) rfl (fun ls hl => ?_)
                  -- loop 183
                  have hI1 := hI
                  refine z_loopH (nL := 7) (fun (i : Int) => [(0, .ref (a 0)), (1, .int (zI (e + 1))), (2, .int (zI (u + i))), (4, .int (zI (pvF (X e)))), (5, .int (zI 1)), (6, .int (zI i))]) (fun (i : Int) (H : Heap) => (0 ≤ i ∧ i ≤ 1) ∧ va_P G vwCl (moW cs a kq tq R) H ∧ va_P G vwCl (m7 cs a 8 3 60 (aI X)) H ∧ va_P G vwCl (m7 cs a 9 0 8 (cB (gI g R u (pvF (X e)) i))) H) (fun (i : Int) => (1 - i).toNat) 0 ⟨(by omega), hMo, hTx, (by rw [gI_0]; exact hRd)⟩ hS (by show lv_has ls 7 [(0, .ref (a 0)), (1, .int (zI (e + 1))), (2, .int (zI (u + 0))), (4, .int (zI (pvF (X e)))), (5, .int (zI 1)), (6, .int (zI 0))]; rw [Int.add_zero]; exact lv_sub hl [5, 1, 6, 3, 2, 0] rfl) (fun i H locs hIH hS ih ls hl => ?_)
                  obtain ⟨hI, hMo, hTx, hRd⟩ := hIH
                  have hl : lv_has ls 7 [(0, .ref (a 0)), (1, .int (zI (e + 1))), (2, .int (zI (u + i))), (4, .int (zI (pvF (X e)))), (5, .int (zI 1)), (6, .int (zI i))] := hl
                  have ih2 := ih
                  have hJ := hI
                  refine lv_iload hx hb dX7_readRows_183 (lv_at hl 5 rfl) ?_
                  refine lv_iload hx hb dX7_readRows_185 (lv_at hl 4 rfl) ?_
                  refine z_icmp_ge (tgt := 217) hx hb dX7_readRows_187 (by decide) (by omega) (by omega) (fun c13 => ?_) (fun c13 => ?_)
                  · skip
                    refine lv_goto (tgt := 16) hx hb dX7_readRows_217 (by decide) ?_
                    exact ih1 (e + 1, u + 1, R, gI g R u (pvF (X e)) 1) H locs ⟨(ri_one ht hI1 hke hpx (by omega) hnx), hMo, hTx, (by rw [show i = 1 by omega] at hRd; exact hRd)⟩ hS (by show (tq - (e + 1)).toNat < (tq - e).toNat; omega) ls (by show lv_has ls 7 [(0, .ref (a 0)), (1, .int (zI (e + 1))), (2, .int (zI (u + 1)))]; rw [show u + 1 = u + i by omega]; exact lv_sub hl [0, 1, 2] rfl)
                  · skip
                    refine lv_aload_n hx hb dX7_readRows_190 rfl (lv_at hl 0 rfl) ?_
                    refine va_get (D := G) (ci := 7) (v := .ref ((sh a 9) 0)) (C := RX7) (T := TX7) (N := 12) hx hb hts hi7 hown hK.1 hMo 0 rfl rfl 11 (by decide) (hts (.fieldLink RX7 36 "SpriteLinesModel" "read" "[I") (by decide +kernel)) (fun _ h9 => h9) rfl dX7_readRows_191 ?_
                    refine lv_aload_n hx hb dX7_readRows_194 rfl (lv_at hl 0 rfl) ?_
                    refine va_get (D := G) (ci := 7) (v := .int (zI R)) (C := RX7) (T := TX7) (N := 12) hx hb hts hi7 hown hK.1 hMo 0 rfl rfl 10 (by decide) (hts (.fieldLink RX7 99 "SpriteLinesModel" "rowsRead" "I") (by decide +kernel)) (fun _ h9 => h9) rfl dX7_readRows_195 ?_
                    refine lv_dup2_11 hx hb dX7_readRows_198 rfl rfl ?_
                    refine z_ialdB hx hb hK.1 hRd 0 0 (F := (gI g R u (pvF (X e)) i)) rfl rfl (by omega) (by decide) dX7_readRows_199 ?_
                    refine lv_iload hx hb dX7_readRows_200 (lv_at hl 3 rfl) ?_
                    refine z_top (v' := .int (iB (fun k => if k = 0 then decide (pvF (X e) % 2 = 1) else if k = 1 then decide (pvF (X e) / 2 % 2 = 1) else false))) (congrArg Value.int (zI_pix hpv)) ?_
                    refine z_iconst (n := 2) hx hb dX7_readRows_202 ?_
                    refine lv_iload_n hx hb dX7_readRows_203 rfl (lv_at hl 2 rfl) ?_
                    refine z_imul hx hb dX7_readRows_204 ?_
                    refine z_ishlB hx hb dX7_readRows_205 (by omega) ?_
                    refine z_iorB hx hb dX7_readRows_206 ?_
                    refine z_iastB hx hb hK.1 hRd (Ord.D (ordM7 cs a 9 0 8 (cB (gI g R u (pvF (X e)) i))) inj1) hS 0 0 (F := (gI g R u (pvF (X e)) i)) rfl rfl (by omega) (by decide) (Or.inr (⟨9, by decide, by decide, rfl⟩)) dX7_readRows_207 (fun H locs hP1 hle hk hS => ?_)
                    have hMo := keepO (ordMo cs a kq tq R) hMo hk (fun j hj h3 => absurd (ia j 9 (by omega) (by omega) h3) (by omega))
                    have hTx := keepO (ordM7 cs a 8 3 60 (aI X)) hTx hk (fun j hj h3 => absurd (ia (8 + j) 9 (by omega) (by omega) h3) (by omega))
                    have hRd : va_P G vwCl (m7 cs a 9 0 8 (cB (updB (gI g R u (pvF (X e)) i) R (fun k => ((gI g R u (pvF (X e)) i) R) k || (fun k => decide ((2 * (u + i)).toNat ≤ k) && (fun k => if k = 0 then decide (pvF (X e) % 2 = 1) else if k = 1 then decide (pvF (X e) / 2 % 2 = 1) else false) (k - (2 * (u + i)).toNat)) k)))) H := hP1
                    refine z_iinc (k := 2) (lv' := [(2, .int (zI ((u + i) + 1))), (0, .ref (a 0)), (1, .int (zI (e + 1))), (4, .int (zI (pvF (X e)))), (5, .int (zI 1)), (6, .int (zI i))]) hx hb dX7_readRows_208 hl rfl (by decide) rfl (fun ls hl => ?_)
                    refine z_iinc (k := 5) (lv' := [(6, .int (zI (i + 1))), (2, .int (zI ((u + i) + 1))), (0, .ref (a 0)), (1, .int (zI (e + 1))), (4, .int (zI (pvF (X e)))), (5, .int (zI 1))]) hx hb dX7_readRows_211 hl rfl (by decide) rfl (fun ls hl => ?_)
                    refine lv_goto (tgt := 183) hx hb dX7_readRows_214 (by decide) ?_
                    exact ih2 (i + 1) H locs ⟨(by omega), hMo, hTx, (by rw [← gI_s (g := g) (R := R) (u := u) (v := pvF (X e)) (i := i) (by omega) hJ.1]; exact hRd)⟩ hS (by omega) ls (by show lv_has ls 7 [(0, .ref (a 0)), (1, .int (zI (e + 1))), (2, .int (zI (u + (i + 1)))), (4, .int (zI (pvF (X e)))), (5, .int (zI 1)), (6, .int (zI (i + 1)))]; rw [← Int.add_assoc u i 1]; exact lv_sub hl [2, 3, 1, 4, 5, 0] rfl)
                · skip
                  have hk1 : e + 1 < tq := by
                    rcases Int.lt_or_le (e + 1) tq with q | q
                    · exact q
                    · exact absurd ((show atF tq X (e + 1) = 32 from if_neg (by omega)).symm.trans c7) (by decide)
                  have hx1 : X (e + 1) = 120 := (show atF tq X (e + 1) = X (e + 1) from if_pos hk1).symm.trans c7
                  refine z_iinc (k := 0) (lv' := [(1, .int (zI ((e + 1) + 1))), (5, .int (zI 1)), (4, .int (zI (pvF (X e)))), (3, .int (zI (X e))), (0, .ref (a 0)), (2, .int (zI u))]) hx hb dX7_readRows_140 hl rfl (by decide) rfl (fun ls hl => ?_)
                  refine lv_aload_n hx hb dX7_readRows_143 rfl (lv_at hl 4 rfl) ?_
                  refine lv_iload_n hx hb dX7_readRows_144 rfl (lv_at hl 0 rfl) ?_
                  refine z_ro (zrV (As := [.int (zI ((e + 1) + 1))]) (rest := []) (Pw := fun H => va_P G vwCl (moW cs a kq tq R) H ∧ va_P G vwCl (m7 cs a 8 3 60 (aI X)) H) ⟨hx, hb, hml, hown, hts⟩ (c_X7_at l G cs a kq tq R X ((e + 1) + 1) (by omega) hX (by omega)) gX7_readRows_X7_at rfl qX7_at rfl rfl ⟨Nat.le_of_ble_eq_true rfl, Nat.le_of_ble_eq_true rfl⟩ ⟨hMo, hTx⟩ hK (va_recv hK.1 hMo (ci := 7) (q0 := 0) rfl rfl) hl.1 rfl (Nat.le_of_ble_eq_true rfl) dX7_readRows_145 ⟨Nat.le_of_ble_eq_true rfl, Nat.le_of_ble_eq_true rfl⟩) ?_
                  refine z_topi (b := atF tq X (e + 2)) (congrArg (atF tq X) (by omega)) ?_
                  refine z_bipush (n := 48) hx hb dX7_readRows_148 (by decide) ?_
                  refine z_isub hx hb dX7_readRows_150 ?_
                  refine lv_istore (lv' := [(5, .int (zI ((atF tq X (e + 2)) - 48))), (1, .int (zI ((e + 1) + 1))), (4, .int (zI (pvF (X e)))), (3, .int (zI (X e))), (0, .ref (a 0)), (2, .int (zI u))]) hx hb dX7_readRows_151 hl (by decide) rfl (fun ls hl => ?_)
                  refine lv_iload hx hb dX7_readRows_153 (lv_at hl 0 rfl) ?_
                  refine z_iconst (n := 2) hx hb dX7_readRows_155 ?_
                  refine z_icmp_lt (tgt := 175) hx hb dX7_readRows_156 (by decide) (by omega) (by omega) (fun c14 => ?_) (fun c14 => ?_)
                  · skip
                    refine lv_iload_n hx hb dX7_readRows_175 rfl (lv_at hl 1 rfl) ?_
                    exact w_iret hx hb hr hlk dX7_readRows_176 hS ⟨R, g, congrArg (fun z => Value.int (zI z)) (show e + 1 + 1 = faultF (tlT tq) X from (by rw [ri_x_bad hI hpx (by omega) hk1 hx1 (by omega)]; omega)), fun h9 => absurd h9 (by rw [← ((show e + 1 + 1 = faultF (tlT tq) X from (by rw [ri_x_bad hI hpx (by omega) hk1 hx1 (by omega)]; omega)))]; omega), hMo, hRd⟩
                  · skip
                    refine lv_iload hx hb dX7_readRows_159 (lv_at hl 0 rfl) ?_
                    refine z_bipush (n := 8) hx hb dX7_readRows_161 (by decide) ?_
                    refine z_icmp_gt (tgt := 175) hx hb dX7_readRows_163 (by decide) (by omega) (by omega) (fun c15 => ?_) (fun c15 => ?_)
                    · skip
                      refine lv_iload_n hx hb dX7_readRows_175 rfl (lv_at hl 1 rfl) ?_
                      exact w_iret hx hb hr hlk dX7_readRows_176 hS ⟨R, g, congrArg (fun z => Value.int (zI z)) (show e + 1 + 1 = faultF (tlT tq) X from (by rw [ri_x_bad hI hpx (by omega) hk1 hx1 (by omega)]; omega)), fun h9 => absurd h9 (by rw [← ((show e + 1 + 1 = faultF (tlT tq) X from (by rw [ri_x_bad hI hpx (by omega) hk1 hx1 (by omega)]; omega)))]; omega), hMo, hRd⟩
                    · skip
                      refine lv_iload_n hx hb dX7_readRows_166 rfl (lv_at hl 5 rfl) ?_
                      refine lv_iload hx hb dX7_readRows_167 (lv_at hl 0 rfl) ?_
                      refine z_iadd hx hb dX7_readRows_169 ?_
                      refine z_bipush (n := 8) hx hb dX7_readRows_170 (by decide) ?_
                      refine z_icmp_le (tgt := 177) hx hb dX7_readRows_172 (by decide) (by omega) (by omega) (fun c16 => ?_) (fun c16 => ?_)
                      · skip
                        refine z_iinc (k := 1) (lv' := [(1, .int (zI (((e + 1) + 1) + 1))), (5, .int (zI ((atF tq X (e + 2)) - 48))), (4, .int (zI (pvF (X e)))), (3, .int (zI (X e))), (0, .ref (a 0)), (2, .int (zI u))]) hx hb dX7_readRows_177 hl rfl (by decide) rfl (fun ls hl => ?_)
                        refine z_iconst (n := 0) hx hb dX7_readRows_180 ?_
                        refine lv_istore (lv' := [(6, .int (zI 0)), (1, .int (zI (((e + 1) + 1) + 1))), (5, .int (zI ((atF tq X (e + 2)) - 48))), (4, .int (zI (pvF (X e)))), (3, .int (zI (X e))), (0, .ref (a 0)), (2, .int (zI u))]) hx hb dX7_readRows_181 hl (by decide) rfl (fun ls hl => ?_)
                        -- loop 183
                        have hI1 := hI
                        refine z_loopH (nL := 7) (fun (i : Int) => [(0, .ref (a 0)), (1, .int (zI (((e + 1) + 1) + 1))), (2, .int (zI (u + i))), (4, .int (zI (pvF (X e)))), (5, .int (zI ((atF tq X (e + 2)) - 48))), (6, .int (zI i))]) (fun (i : Int) (H : Heap) => (0 ≤ i ∧ i ≤ ((atF tq X (e + 2)) - 48)) ∧ va_P G vwCl (moW cs a kq tq R) H ∧ va_P G vwCl (m7 cs a 8 3 60 (aI X)) H ∧ va_P G vwCl (m7 cs a 9 0 8 (cB (gI g R u (pvF (X e)) i))) H) (fun (i : Int) => (((atF tq X (e + 2)) - 48) - i).toNat) 0 ⟨(by omega), hMo, hTx, (by rw [gI_0]; exact hRd)⟩ hS (by show lv_has ls 7 [(0, .ref (a 0)), (1, .int (zI (((e + 1) + 1) + 1))), (2, .int (zI (u + 0))), (4, .int (zI (pvF (X e)))), (5, .int (zI ((atF tq X (e + 2)) - 48))), (6, .int (zI 0))]; rw [Int.add_zero]; exact lv_sub hl [5, 1, 6, 3, 2, 0] rfl) (fun i H locs hIH hS ih ls hl => ?_)
                        obtain ⟨hI, hMo, hTx, hRd⟩ := hIH
                        have hl : lv_has ls 7 [(0, .ref (a 0)), (1, .int (zI (((e + 1) + 1) + 1))), (2, .int (zI (u + i))), (4, .int (zI (pvF (X e)))), (5, .int (zI ((atF tq X (e + 2)) - 48))), (6, .int (zI i))] := hl
                        have ih2 := ih
                        have hJ := hI
                        refine lv_iload hx hb dX7_readRows_183 (lv_at hl 5 rfl) ?_
                        refine lv_iload hx hb dX7_readRows_185 (lv_at hl 4 rfl) ?_
                        refine z_icmp_ge (tgt := 217) hx hb dX7_readRows_187 (by decide) (by omega) (by omega) (fun c17 => ?_) (fun c17 => ?_)
                        · skip
                          refine lv_goto (tgt := 16) hx hb dX7_readRows_217 (by decide) ?_
                          exact ih1 (e + 3, u + (atF tq X (e + 2) - 48), R, gI g R u (pvF (X e)) (atF tq X (e + 2) - 48)) H locs ⟨(ri_x ht hI1 hpx (by omega) hk1 hx1 (by omega)), hMo, hTx, (by rw [show i = atF tq X (e + 2) - 48 by omega] at hRd; exact hRd)⟩ hS (by show (tq - (e + 3)).toNat < (tq - e).toNat; omega) ls (by show lv_has ls 7 [(0, .ref (a 0)), (1, .int (zI (e + 3))), (2, .int (zI (u + (atF tq X (e + 2) - 48))))]; rw [show u + (atF tq X (e + 2) - 48) = u + i by omega, show e + 3 = e + 1 + 1 + 1 by omega]; exact lv_sub hl [0, 1, 2] rfl)
                        · skip
                          refine lv_aload_n hx hb dX7_readRows_190 rfl (lv_at hl 0 rfl) ?_
                          refine va_get (D := G) (ci := 7) (v := .ref ((sh a 9) 0)) (C := RX7) (T := TX7) (N := 12) hx hb hts hi7 hown hK.1 hMo 0 rfl rfl 11 (by decide) (hts (.fieldLink RX7 36 "SpriteLinesModel" "read" "[I") (by decide +kernel)) (fun _ h9 => h9) rfl dX7_readRows_191 ?_
                          refine lv_aload_n hx hb dX7_readRows_194 rfl (lv_at hl 0 rfl) ?_
                          refine va_get (D := G) (ci := 7) (v := .int (zI R)) (C := RX7) (T := TX7) (N := 12) hx hb hts hi7 hown hK.1 hMo 0 rfl rfl 10 (by decide) (hts (.fieldLink RX7 99 "SpriteLinesModel" "rowsRead" "I") (by decide +kernel)) (fun _ h9 => h9) rfl dX7_readRows_195 ?_
                          refine lv_dup2_11 hx hb dX7_readRows_198 rfl rfl ?_
                          refine z_ialdB hx hb hK.1 hRd 0 0 (F := (gI g R u (pvF (X e)) i)) rfl rfl (by omega) (by decide) dX7_readRows_199 ?_
                          refine lv_iload hx hb dX7_readRows_200 (lv_at hl 3 rfl) ?_
                          refine z_top (v' := .int (iB (fun k => if k = 0 then decide (pvF (X e) % 2 = 1) else if k = 1 then decide (pvF (X e) / 2 % 2 = 1) else false))) (congrArg Value.int (zI_pix hpv)) ?_
                          refine z_iconst (n := 2) hx hb dX7_readRows_202 ?_
                          refine lv_iload_n hx hb dX7_readRows_203 rfl (lv_at hl 2 rfl) ?_
                          refine z_imul hx hb dX7_readRows_204 ?_
                          refine z_ishlB hx hb dX7_readRows_205 (by omega) ?_
                          refine z_iorB hx hb dX7_readRows_206 ?_
                          refine z_iastB hx hb hK.1 hRd (Ord.D (ordM7 cs a 9 0 8 (cB (gI g R u (pvF (X e)) i))) inj1) hS 0 0 (F := (gI g R u (pvF (X e)) i)) rfl rfl (by omega) (by decide) (Or.inr (⟨9, by decide, by decide, rfl⟩)) dX7_readRows_207 (fun H locs hP1 hle hk hS => ?_)
                          have hMo := keepO (ordMo cs a kq tq R) hMo hk (fun j hj h3 => absurd (ia j 9 (by omega) (by omega) h3) (by omega))
                          have hTx := keepO (ordM7 cs a 8 3 60 (aI X)) hTx hk (fun j hj h3 => absurd (ia (8 + j) 9 (by omega) (by omega) h3) (by omega))
                          have hRd : va_P G vwCl (m7 cs a 9 0 8 (cB (updB (gI g R u (pvF (X e)) i) R (fun k => ((gI g R u (pvF (X e)) i) R) k || (fun k => decide ((2 * (u + i)).toNat ≤ k) && (fun k => if k = 0 then decide (pvF (X e) % 2 = 1) else if k = 1 then decide (pvF (X e) / 2 % 2 = 1) else false) (k - (2 * (u + i)).toNat)) k)))) H := hP1
                          refine z_iinc (k := 2) (lv' := [(2, .int (zI ((u + i) + 1))), (0, .ref (a 0)), (1, .int (zI (((e + 1) + 1) + 1))), (4, .int (zI (pvF (X e)))), (5, .int (zI ((atF tq X (e + 2)) - 48))), (6, .int (zI i))]) hx hb dX7_readRows_208 hl rfl (by decide) rfl (fun ls hl => ?_)
                          refine z_iinc (k := 5) (lv' := [(6, .int (zI (i + 1))), (2, .int (zI ((u + i) + 1))), (0, .ref (a 0)), (1, .int (zI (((e + 1) + 1) + 1))), (4, .int (zI (pvF (X e)))), (5, .int (zI ((atF tq X (e + 2)) - 48)))]) hx hb dX7_readRows_211 hl rfl (by decide) rfl (fun ls hl => ?_)
                          refine lv_goto (tgt := 183) hx hb dX7_readRows_214 (by decide) ?_
                          exact ih2 (i + 1) H locs ⟨(by omega), hMo, hTx, (by rw [← gI_s (g := g) (R := R) (u := u) (v := pvF (X e)) (i := i) (by omega) hJ.1]; exact hRd)⟩ hS (by omega) ls (by show lv_has ls 7 [(0, .ref (a 0)), (1, .int (zI (((e + 1) + 1) + 1))), (2, .int (zI (u + (i + 1)))), (4, .int (zI (pvF (X e)))), (5, .int (zI ((atF tq X (e + 2)) - 48))), (6, .int (zI (i + 1)))]; rw [← Int.add_assoc u i 1]; exact lv_sub hl [2, 3, 1, 4, 5, 0] rfl)
                      · skip
                        refine lv_iload_n hx hb dX7_readRows_175 rfl (lv_at hl 1 rfl) ?_
                        exact w_iret hx hb hr hlk dX7_readRows_176 hS ⟨R, g, congrArg (fun z => Value.int (zI z)) (show e + 1 + 1 = faultF (tlT tq) X from (by rw [ri_x_bad hI hpx (by omega) hk1 hx1 (by omega)]; omega)), fun h9 => absurd h9 (by rw [← ((show e + 1 + 1 = faultF (tlT tq) X from (by rw [ri_x_bad hI hpx (by omega) hk1 hx1 (by omega)]; omega)))]; omega), hMo, hRd⟩
              · skip
                exfalso; omega
            · skip
              refine lv_iload_n hx hb dX7_readRows_106 rfl (lv_at hl 2 rfl) ?_
              exact w_iret hx hb hr hlk dX7_readRows_107 hS ⟨R, g, congrArg (fun z => Value.int (zI z)) (show e = faultF (tlT tq) X from (ri_bad hI hke c1 (by omega)).symm), fun h9 => absurd h9 (by rw [← ((show e = faultF (tlT tq) X from (ri_bad hI hke c1 (by omega)).symm))]; omega), hMo, hRd⟩
    · skip
      refine lv_iload_n hx hb dX7_readRows_37 rfl (lv_at hl 3 rfl) ?_
      refine z_bipush (n := 8) hx hb dX7_readRows_38 (by decide) ?_
      refine z_icmp_lt (tgt := 52) hx hb dX7_readRows_40 (by decide) (by omega) (by omega) (fun c18 => ?_) (fun c18 => ?_)
      · skip
        refine lv_iload_n hx hb dX7_readRows_52 rfl (lv_at hl 2 rfl) ?_
        exact w_iret hx hb hr hlk dX7_readRows_53 hS ⟨R, g, congrArg (fun z => Value.int (zI z)) (show e = faultF (tlT tq) X from (ri_sl_no hI hke c1 (by omega)).symm), fun h9 => absurd h9 (by rw [← ((show e = faultF (tlT tq) X from (ri_sl_no hI hke c1 (by omega)).symm))]; omega), hMo, hRd⟩
      · skip
        refine lv_aload_n hx hb dX7_readRows_43 rfl (lv_at hl 1 rfl) ?_
        refine va_get (D := G) (ci := 7) (v := .int (zI R)) (C := RX7) (T := TX7) (N := 12) hx hb hts hi7 hown hK.1 hMo 0 rfl rfl 10 (by decide) (hts (.fieldLink RX7 99 "SpriteLinesModel" "rowsRead" "I") (by decide +kernel)) (fun _ h9 => h9) rfl dX7_readRows_44 ?_
        refine z_bipush (n := 7) hx hb dX7_readRows_47 (by decide) ?_
        refine z_icmp_ne (tgt := 54) hx hb dX7_readRows_49 (by decide) (by omega) (by omega) (fun c19 => ?_) (fun c19 => ?_)
        · skip
          refine lv_aload_n hx hb dX7_readRows_54 rfl (lv_at hl 1 rfl) ?_
          refine lv_dup hx hb dX7_readRows_55 rfl ?_
          refine va_get (D := G) (ci := 7) (v := .int (zI R)) (C := RX7) (T := TX7) (N := 12) hx hb hts hi7 hown hK.1 hMo 0 rfl rfl 10 (by decide) (hts (.fieldLink RX7 99 "SpriteLinesModel" "rowsRead" "I") (by decide +kernel)) (fun _ h9 => h9) rfl dX7_readRows_56 ?_
          refine z_iconst (n := 1) hx hb dX7_readRows_59 ?_
          refine z_iadd hx hb dX7_readRows_60 ?_
          refine z_put (G := G) (ci := 7) (v := .int (zI (R + 1))) (ty := .int) (C := RX7) (T := TX7) (N := 12) hx hb hts hi7 tyX7 tyX7_ok nmX7 hown hK.1 hMo (Ord.D (ordMo cs a kq tq R) inj1) hS 0 rfl rfl 10 (by decide) (hts (.fieldLink RX7 99 "SpriteLinesModel" "rowsRead" "I") (by decide +kernel)) (fun _ h9 => h9) rfl (by decide +kernel) rfl rfl (Nat.le_of_ble_eq_true rfl) (Or.inl (⟨0, by decide, by decide, rfl⟩)) dX7_readRows_61 (fun H locs hP1 hle hk hS => ?_)
          have hTx := keepO (ordM7 cs a 8 3 60 (aI X)) hTx hk (fun j hj h3 => absurd (ia (8 + j) 0 (by omega) (by omega) h3) (by omega))
          have hRd := keepO (ordM7 cs a 9 0 8 (cB g)) hRd hk (fun j hj h3 => absurd (ia (9 + j) 0 (by omega) (by omega) h3) (by omega))
          have hMo : va_P G vwCl (moW cs a kq tq (R + 1)) H := hP1
          refine lv_aload_n hx hb dX7_readRows_64 rfl (lv_at hl 1 rfl) ?_
          refine va_get (D := G) (ci := 7) (v := .ref ((sh a 9) 0)) (C := RX7) (T := TX7) (N := 12) hx hb hts hi7 hown hK.1 hMo 0 rfl rfl 11 (by decide) (hts (.fieldLink RX7 36 "SpriteLinesModel" "read" "[I") (by decide +kernel)) (fun _ h9 => h9) rfl dX7_readRows_65 ?_
          refine lv_aload_n hx hb dX7_readRows_68 rfl (lv_at hl 1 rfl) ?_
          refine va_get (D := G) (ci := 7) (v := .int (zI (R + 1))) (C := RX7) (T := TX7) (N := 12) hx hb hts hi7 hown hK.1 hMo 0 rfl rfl 10 (by decide) (hts (.fieldLink RX7 99 "SpriteLinesModel" "rowsRead" "I") (by decide +kernel)) (fun _ h9 => h9) rfl dX7_readRows_69 ?_
          refine z_iconst (n := 0) hx hb dX7_readRows_72 ?_
          refine z_top (v' := .int (iB (fun _ => false))) (congrArg Value.int iB_0) ?_
          refine z_iastB hx hb hK.1 hRd (Ord.D (ordM7 cs a 9 0 8 (cB g)) inj1) hS 0 0 (F := g) rfl rfl (by omega) (by decide) (Or.inr (⟨9, by decide, by decide, rfl⟩)) dX7_readRows_73 (fun H locs hP1 hle hk hS => ?_)
          have hMo := keepO (ordMo cs a kq tq (R + 1)) hMo hk (fun j hj h3 => absurd (ia j 9 (by omega) (by omega) h3) (by omega))
          have hTx := keepO (ordM7 cs a 8 3 60 (aI X)) hTx hk (fun j hj h3 => absurd (ia (8 + j) 9 (by omega) (by omega) h3) (by omega))
          have hRd : va_P G vwCl (m7 cs a 9 0 8 (cB (updB g (R + 1) (fun _ => false)))) H := hP1
          refine z_iconst (n := 0) hx hb dX7_readRows_74 ?_
          refine lv_istore_n (lv' := [(2, .int (zI 0)), (3, .int (zI (X e))), (0, .ref (a 0)), (1, .int (zI e))]) hx hb dX7_readRows_75 rfl hl (by decide) rfl (fun ls hl => ?_)
          refine z_iinc (k := 3) (lv' := [(1, .int (zI (e + 1))), (2, .int (zI 0)), (3, .int (zI (X e))), (0, .ref (a 0))]) hx hb dX7_readRows_76 hl rfl (by decide) rfl (fun ls hl => ?_)
          refine lv_goto (tgt := 217) hx hb dX7_readRows_79 (by decide) ?_
          refine lv_goto (tgt := 16) hx hb dX7_readRows_217 (by decide) ?_
          exact ih1 (e + 1, 0, R + 1, updB g (R + 1) (fun _ => false)) H locs ⟨(ri_sl ht hI hke c1 (by omega)), hMo, hTx, hRd⟩ hS (by show (tq - (e + 1)).toNat < (tq - e).toNat; omega) ls (lv_sub hl [3, 0, 1] rfl)
        · skip
          refine lv_iload_n hx hb dX7_readRows_52 rfl (lv_at hl 2 rfl) ?_
          exact w_iret hx hb hr hlk dX7_readRows_53 hS ⟨R, g, congrArg (fun z => Value.int (zI z)) (show e = faultF (tlT tq) X from (ri_sl_no hI hke c1 (by omega)).symm), fun h9 => absurd h9 (by rw [← ((show e = faultF (tlT tq) X from (ri_sl_no hI hke c1 (by omega)).symm))]; omega), hMo, hRd⟩

set_option maxHeartbeats 4000000 in
set_option maxRecDepth 100000 in
theorem c_X7_draw (l : Launch) (G : va_G) (cs : Nat → ClassId) (a : Nat → Nat) (S : SS) (n : Int) (L : Nat → SS) (tl : Int) (X : Int → Int) (k : Nat → Bool) (V : Nat → SS) (q : Int) (ia : Inj a 10) (hA : AWF (S, (n, L), (tl, X), (k, V))) (r_q : -2147483648 ≤ q ∧ q < 2147483648) : MW l yX7_draw wsX7_draw { frames := 2, cells := 0, slots := 0, locals := 47 } G cs [.ref (a 0), .int (zI q)] (fun H => MI G cs a (S, (n, L), (tl, X), (k, V)) H) (fun vv H => vv = .int (zI (drawF (S, (n, L), (tl, X), (k, V)) q).1) ∧ MI G cs a (drawF (S, (n, L), (tl, X), (k, V)) q).2 H) (AX a 0 10) 0 0 := by
  refine m_intro (Pw := (fun H => MI G cs a (S, (n, L), (tl, X), (k, V)) H)) (cc := cX7_draw) (maxL := 4) (ret := some .int) RX7 (by decide) rfl rfl (Nat.le_of_ble_eq_true rfl) ?_
  intro pP eE sS mM below meth cC hx hb hr hts hown hml hlk hnm hPre hK ls hl
  have hl : lv_has ls 4 [(0, .ref (a 0)), (1, .int (zI q))] := hl
  have hMI := hPre
  have hS : va_S (AX a 0 10) sS.heap sS.heap [] := va_S.rf
  have hi7 : ∀ w ∈ u_ws RX7 TX7 12, w ∈ wsX7_draw := by decide +kernel
  obtain ⟨Y, Z, Hh, Sl, Kp, Go, Nt, rn, Rd, rr, hHR, hSR, hMo, hRw, hSc, hHs, hSl, hKp, hGo, hNt, hTx, hRd⟩ := hMI
  obtain ⟨wf, ⟨hn, hL9⟩, ⟨htl, hX⟩, hV9⟩ := hA
  have wf : WF S := wf
  have hn : 0 ≤ n ∧ n ≤ 5 := hn
  have htl : 0 ≤ tl ∧ tl ≤ 60 := htl
  have hX : ∀ j, 0 ≤ j → j < 60 → 0 ≤ X j ∧ X j < 65536 := hX
  have rr : RR S Y := rr
  have hHR : HR n L Hh := hHR
  have hSR : SR k V Kp Sl := hSR
  have hL9 : ∀ i : Nat, (i : Int) < n → WF (L i) := hL9
  have hV9 : ∀ s : Nat, s < 2 → k s = true → WF (V s) := hV9
  have hMo : va_P G vwCl (moW cs a n tl rn) sS.heap := hMo
  have hRw : va_P G vwCl (m7 cs a 1 0 361 (aI Y)) sS.heap := hRw
  have hSc : va_P G vwCl (m7 cs a 2 0 361 (aI Z)) sS.heap := hSc
  have hHs : va_P G vwCl (m7 cs a 3 0 1805 (aI Hh)) sS.heap := hHs
  have hSl : va_P G vwCl (m7 cs a 4 0 722 (aI Sl)) sS.heap := hSl
  have hKp : va_P G vwCl (m7 cs a 5 2 2 (aI Kp)) sS.heap := hKp
  have hGo : va_P G vwCl (m7 cs a 6 2 24 (aI Go)) sS.heap := hGo
  have hNt : va_P G vwCl (m7 cs a 7 0 24 (aI Nt)) sS.heap := hNt
  have hTx : va_P G vwCl (m7 cs a 8 3 60 (aI X)) sS.heap := hTx
  have hRd : va_P G vwCl (m7 cs a 9 0 8 (cB Rd)) sS.heap := hRd
  have wf0 := wf
  obtain ⟨w0, w1, w2, w3, w4, wP, wC, wS, wX⟩ := wf
  refine lv_aload_n hx hb dX7_draw_0 rfl (lv_at hl 0 rfl) ?_
  refine lv_iload_n hx hb dX7_draw_1 rfl (lv_at hl 1 rfl) ?_
  refine z_ro (zrV (As := [.int (zI q)]) (rest := []) (Pw := fun H => va_P G vwCl (moW cs a n tl rn) H ∧ va_P G vwCl (m7 cs a 1 0 361 (aI Y)) H) ⟨hx, hb, hml, hown, hts⟩ (c_X7_noPart l G cs a S Y n tl rn q wf0 rr (by omega)) gX7_draw_X7_noPart rfl qX7_noPart rfl rfl ⟨Nat.le_of_ble_eq_true rfl, Nat.le_of_ble_eq_true rfl⟩ ⟨hMo, hRw⟩ hK (va_recv hK.1 hMo (ci := 7) (q0 := 0) rfl rfl) hl.1 rfl (Nat.le_of_ble_eq_true rfl) dX7_draw_2 ⟨Nat.le_of_ble_eq_true rfl, Nat.le_of_ble_eq_true rfl⟩) ?_
  refine z_bif_eq (tgt := 10) hx hb dX7_draw_5 (by decide) (fun c1 => ?_) (fun c1 => ?_)
  · skip
    simp only [decide_eq_false_iff_not] at c1
    refine lv_aload_n hx hb dX7_draw_10 rfl (lv_at hl 0 rfl) ?_
    have hfr := fault_r (X := X) (tlT_TF htl)
    have hfo := fault_or (X := X) (tlT_TF htl)
    refine z_w (zrV (As := []) (rest := []) (Pw := fun H => va_P G vwCl (moW cs a n tl rn) H ∧ va_P G vwCl (m7 cs a 8 3 60 (aI X)) H ∧ va_P G vwCl (m7 cs a 9 0 8 (cB Rd)) H) ⟨hx, hb, hml, hown, hts⟩ (c_X7_readRows l G cs a n tl rn X Rd ia (by omega) hX) gX7_draw_X7_readRows rfl qX7_readRows rfl rfl ⟨Nat.le_of_ble_eq_true rfl, Nat.le_of_ble_eq_true rfl⟩ ⟨hMo, hTx, hRd⟩ hK (va_recv hK.1 hMo (ci := 7) (q0 := 0) rfl rfl) hl.1 rfl (Nat.le_of_ble_eq_true rfl) dX7_draw_11 ⟨Nat.le_of_ble_eq_true rfl, Nat.le_of_ble_eq_true rfl⟩) hS (fun q h => by rcases h with h | h <;> exact ax_mono h (by decide) (by decide)) (fun q h => by rcases h with h | h <;> exact ax_mono h (by decide) (by decide)) (fun v H locs hpost hle hk hS => ?_)
    obtain ⟨n2, g, rfl, hg9, hMo', hRd'⟩ := hpost
    have hRw := keepO (ordM7 cs a 1 0 361 (aI Y)) hRw hk (fun j hj h0 => by rcases h0 with ⟨i, h1, h2, h3⟩ | ⟨i, h1, h2, h3⟩ <;> exact absurd (ia (1 + j) i (by omega) (by omega) h3) (by omega))
    have hSc := keepO (ordM7 cs a 2 0 361 (aI Z)) hSc hk (fun j hj h0 => by rcases h0 with ⟨i, h1, h2, h3⟩ | ⟨i, h1, h2, h3⟩ <;> exact absurd (ia (2 + j) i (by omega) (by omega) h3) (by omega))
    have hHs := keepO (ordM7 cs a 3 0 1805 (aI Hh)) hHs hk (fun j hj h0 => by rcases h0 with ⟨i, h1, h2, h3⟩ | ⟨i, h1, h2, h3⟩ <;> exact absurd (ia (3 + j) i (by omega) (by omega) h3) (by omega))
    have hSl := keepO (ordM7 cs a 4 0 722 (aI Sl)) hSl hk (fun j hj h0 => by rcases h0 with ⟨i, h1, h2, h3⟩ | ⟨i, h1, h2, h3⟩ <;> exact absurd (ia (4 + j) i (by omega) (by omega) h3) (by omega))
    have hKp := keepO (ordM7 cs a 5 2 2 (aI Kp)) hKp hk (fun j hj h0 => by rcases h0 with ⟨i, h1, h2, h3⟩ | ⟨i, h1, h2, h3⟩ <;> exact absurd (ia (5 + j) i (by omega) (by omega) h3) (by omega))
    have hGo := keepO (ordM7 cs a 6 2 24 (aI Go)) hGo hk (fun j hj h0 => by rcases h0 with ⟨i, h1, h2, h3⟩ | ⟨i, h1, h2, h3⟩ <;> exact absurd (ia (6 + j) i (by omega) (by omega) h3) (by omega))
    have hNt := keepO (ordM7 cs a 7 0 24 (aI Nt)) hNt hk (fun j hj h0 => by rcases h0 with ⟨i, h1, h2, h3⟩ | ⟨i, h1, h2, h3⟩ <;> exact absurd (ia (7 + j) i (by omega) (by omega) h3) (by omega))
    have hTx := keepO (ordM7 cs a 8 3 60 (aI X)) hTx hk (fun j hj h0 => by rcases h0 with ⟨i, h1, h2, h3⟩ | ⟨i, h1, h2, h3⟩ <;> exact absurd (ia (8 + j) i (by omega) (by omega) h3) (by omega))
    have hMo : va_P G vwCl (moW cs a n tl n2) H := hMo'
    have hRd : va_P G vwCl (m7 cs a 9 0 8 (cB g)) H := hRd'
    refine lv_istore_n (lv' := [(2, .int (zI (faultF (tlT tl) X))), (0, .ref (a 0)), (1, .int (zI q))]) hx hb dX7_draw_14 rfl hl (by decide) rfl (fun ls hl => ?_)
    refine lv_iload_n hx hb dX7_draw_15 rfl (lv_at hl 0 rfl) ?_
    refine z_if_lt (tgt := 24) hx hb dX7_draw_16 (by decide) (by omega) (fun c2 => ?_) (fun c2 => ?_)
    · skip
      have hff : faultF (tlT tl) X = -5 := by omega
      obtain ⟨hn2, hg2⟩ := hg9 hff
      have hT1 := (rdS_tf (X := X) (tlT_TF htl) tl.toNat).2.1
      have hn8 : 0 ≤ n2 ∧ n2 ≤ 8 := by omega
      refine lv_aload_n hx hb dX7_draw_24 rfl (lv_at hl 1 rfl) ?_
      refine z_v (zrV (As := []) (rest := []) (Pw := fun H => va_P G vwCl (moW cs a n tl n2) H ∧ va_P G vwCl (m7 cs a 1 0 361 (aI Y)) H ∧ va_P G vwCl (m7 cs a 2 0 361 (aI Z)) H) ⟨hx, hb, hml, hown, hts⟩ (c_X7_begin l G cs a Y Z n tl n2 ia) gX7_draw_X7_begin rfl qX7_begin rfl rfl ⟨Nat.le_of_ble_eq_true rfl, Nat.le_of_ble_eq_true rfl⟩ ⟨hMo, hRw, hSc⟩ hK (va_recv hK.1 hMo (ci := 7) (q0 := 0) rfl rfl) hl.1 rfl (Nat.le_of_ble_eq_true rfl) dX7_draw_25 ⟨Nat.le_of_ble_eq_true rfl, Nat.le_of_ble_eq_true rfl⟩) hS (fun q h => ax_mono h (by decide) (by decide)) (fun q h => ax_mono h (by decide) (by decide)) (fun H locs hpost hle hk hS => ?_)
      have hSc' := hpost
      have hMo := keepO (ordMo cs a n tl n2) hMo hk (fun j hj ⟨i, h1, h2, h3⟩ => absurd (ia j i (by omega) (by omega) h3) (by omega))
      have hRw := keepO (ordM7 cs a 1 0 361 (aI Y)) hRw hk (fun j hj ⟨i, h1, h2, h3⟩ => absurd (ia (1 + j) i (by omega) (by omega) h3) (by omega))
      have hHs := keepO (ordM7 cs a 3 0 1805 (aI Hh)) hHs hk (fun j hj ⟨i, h1, h2, h3⟩ => absurd (ia (3 + j) i (by omega) (by omega) h3) (by omega))
      have hSl := keepO (ordM7 cs a 4 0 722 (aI Sl)) hSl hk (fun j hj ⟨i, h1, h2, h3⟩ => absurd (ia (4 + j) i (by omega) (by omega) h3) (by omega))
      have hKp := keepO (ordM7 cs a 5 2 2 (aI Kp)) hKp hk (fun j hj ⟨i, h1, h2, h3⟩ => absurd (ia (5 + j) i (by omega) (by omega) h3) (by omega))
      have hGo := keepO (ordM7 cs a 6 2 24 (aI Go)) hGo hk (fun j hj ⟨i, h1, h2, h3⟩ => absurd (ia (6 + j) i (by omega) (by omega) h3) (by omega))
      have hNt := keepO (ordM7 cs a 7 0 24 (aI Nt)) hNt hk (fun j hj ⟨i, h1, h2, h3⟩ => absurd (ia (7 + j) i (by omega) (by omega) h3) (by omega))
      have hTx := keepO (ordM7 cs a 8 3 60 (aI X)) hTx hk (fun j hj ⟨i, h1, h2, h3⟩ => absurd (ia (8 + j) i (by omega) (by omega) h3) (by omega))
      have hRd := keepO (ordM7 cs a 9 0 8 (cB g)) hRd hk (fun j hj ⟨i, h1, h2, h3⟩ => absurd (ia (9 + j) i (by omega) (by omega) h3) (by omega))
      have hSc : va_P G vwCl (m7 cs a 2 0 361 (aI (cpZ Z Y 361))) H := hSc'
      refine z_iconst (n := 0) hx hb dX7_draw_28 ?_
      refine lv_istore_n (lv' := [(3, .int (zI 0)), (2, .int (zI (faultF (tlT tl) X))), (0, .ref (a 0)), (1, .int (zI q))]) hx hb dX7_draw_29 rfl hl (by decide) rfl (fun ls hl => ?_)
      -- loop 30
      refine z_loopH (nL := 4) (fun (i : Int) => [(0, .ref (a 0)), (1, .int (zI q)), (3, .int (zI i))]) (fun (i : Int) (H : Heap) => (0 ≤ i ∧ i ≤ n2) ∧ va_P G vwCl (moW cs a n tl n2) H ∧ va_P G vwCl (m7 cs a 1 0 361 (aI (drZ Y q g i))) H ∧ va_P G vwCl (m7 cs a 2 0 361 (aI (cpZ Z Y 361))) H ∧ va_P G vwCl (m7 cs a 3 0 1805 (aI Hh)) H ∧ va_P G vwCl (m7 cs a 4 0 722 (aI Sl)) H ∧ va_P G vwCl (m7 cs a 5 2 2 (aI Kp)) H ∧ va_P G vwCl (m7 cs a 6 2 24 (aI Go)) H ∧ va_P G vwCl (m7 cs a 7 0 24 (aI Nt)) H ∧ va_P G vwCl (m7 cs a 8 3 60 (aI X)) H ∧ va_P G vwCl (m7 cs a 9 0 8 (cB g)) H) (fun (i : Int) => (n2 - i).toNat) 0 ⟨(by omega), hMo, (by rw [drZ_0]; exact hRw), hSc, hHs, hSl, hKp, hGo, hNt, hTx, hRd⟩ hS (lv_sub hl [2, 3, 0] rfl) (fun i H locs hIH hS ih ls hl => ?_)
      obtain ⟨hI, hMo, hRw, hSc, hHs, hSl, hKp, hGo, hNt, hTx, hRd⟩ := hIH
      have hl : lv_has ls 4 [(0, .ref (a 0)), (1, .int (zI q)), (3, .int (zI i))] := hl
      refine lv_iload_n hx hb dX7_draw_30 rfl (lv_at hl 2 rfl) ?_
      refine lv_aload_n hx hb dX7_draw_31 rfl (lv_at hl 0 rfl) ?_
      refine va_get (D := G) (ci := 7) (v := .int (zI n2)) (C := RX7) (T := TX7) (N := 12) hx hb hts hi7 hown hK.1 hMo 0 rfl rfl 10 (by decide) (hts (.fieldLink RX7 99 "SpriteLinesModel" "rowsRead" "I") (by decide +kernel)) (fun _ h9 => h9) rfl dX7_draw_32 ?_
      refine z_icmp_ge (tgt := 63) hx hb dX7_draw_35 (by decide) (by omega) (by omega) (fun c1 => ?_) (fun c1 => ?_)
      · skip
        have hRw : va_P G vwCl (m7 cs a 1 0 361 (aI (drZ Y q g n2))) H := (by rw [show i = n2 by omega] at hRw; exact hRw)
        refine lv_aload_n hx hb dX7_draw_63 rfl (lv_at hl 0 rfl) ?_
        refine lv_aload_n hx hb dX7_draw_64 rfl (lv_at hl 0 rfl) ?_
        refine va_get (D := G) (ci := 7) (v := .int (zI n2)) (C := RX7) (T := TX7) (N := 12) hx hb hts hi7 hown hK.1 hMo 0 rfl rfl 10 (by decide) (hts (.fieldLink RX7 99 "SpriteLinesModel" "rowsRead" "I") (by decide +kernel)) (fun _ h9 => h9) rfl dX7_draw_65 ?_
        refine z_w (zrV (As := [.int (zI n2)]) (rest := []) (Pw := fun H => va_P G vwCl (moW cs a n tl n2) H ∧ va_P G vwCl (m7 cs a 2 0 361 (aI (cpZ Z Y 361))) H ∧ va_P G vwCl (m7 cs a 3 0 1805 (aI Hh)) H) ⟨hx, hb, hml, hown, hts⟩ (c_X7_done l G cs a n tl n2 Hh (cpZ Z Y 361) n2 ia (by omega)) gX7_draw_X7_done rfl qX7_done rfl rfl ⟨Nat.le_of_ble_eq_true rfl, Nat.le_of_ble_eq_true rfl⟩ ⟨hMo, hSc, hHs⟩ hK (va_recv hK.1 hMo (ci := 7) (q0 := 0) rfl rfl) hl.1 rfl (Nat.le_of_ble_eq_true rfl) dX7_draw_68 ⟨Nat.le_of_ble_eq_true rfl, Nat.le_of_ble_eq_true rfl⟩) hS (fun q h => by rcases h with h | h <;> exact ax_mono h (by decide) (by decide)) (fun q h => by rcases h with h | h <;> exact ax_mono h (by decide) (by decide)) (fun v H locs hpost hle hk hS => ?_)
        obtain ⟨rfl, hMo', hHs'⟩ := hpost
        have hRw := keepO (ordM7 cs a 1 0 361 (aI (drZ Y q g n2))) hRw hk (fun j hj h0 => by rcases h0 with ⟨i, h1, h2, h3⟩ | ⟨i, h1, h2, h3⟩ <;> exact absurd (ia (1 + j) i (by omega) (by omega) h3) (by omega))
        have hSc := keepO (ordM7 cs a 2 0 361 (aI (cpZ Z Y 361))) hSc hk (fun j hj h0 => by rcases h0 with ⟨i, h1, h2, h3⟩ | ⟨i, h1, h2, h3⟩ <;> exact absurd (ia (2 + j) i (by omega) (by omega) h3) (by omega))
        have hSl := keepO (ordM7 cs a 4 0 722 (aI Sl)) hSl hk (fun j hj h0 => by rcases h0 with ⟨i, h1, h2, h3⟩ | ⟨i, h1, h2, h3⟩ <;> exact absurd (ia (4 + j) i (by omega) (by omega) h3) (by omega))
        have hKp := keepO (ordM7 cs a 5 2 2 (aI Kp)) hKp hk (fun j hj h0 => by rcases h0 with ⟨i, h1, h2, h3⟩ | ⟨i, h1, h2, h3⟩ <;> exact absurd (ia (5 + j) i (by omega) (by omega) h3) (by omega))
        have hGo := keepO (ordM7 cs a 6 2 24 (aI Go)) hGo hk (fun j hj h0 => by rcases h0 with ⟨i, h1, h2, h3⟩ | ⟨i, h1, h2, h3⟩ <;> exact absurd (ia (6 + j) i (by omega) (by omega) h3) (by omega))
        have hNt := keepO (ordM7 cs a 7 0 24 (aI Nt)) hNt hk (fun j hj h0 => by rcases h0 with ⟨i, h1, h2, h3⟩ | ⟨i, h1, h2, h3⟩ <;> exact absurd (ia (7 + j) i (by omega) (by omega) h3) (by omega))
        have hTx := keepO (ordM7 cs a 8 3 60 (aI X)) hTx hk (fun j hj h0 => by rcases h0 with ⟨i, h1, h2, h3⟩ | ⟨i, h1, h2, h3⟩ <;> exact absurd (ia (8 + j) i (by omega) (by omega) h3) (by omega))
        have hRd := keepO (ordM7 cs a 9 0 8 (cB g)) hRd hk (fun j hj h0 => by rcases h0 with ⟨i, h1, h2, h3⟩ | ⟨i, h1, h2, h3⟩ <;> exact absurd (ia (9 + j) i (by omega) (by omega) h3) (by omega))
        have hMo : va_P G vwCl (moW cs a (remN n) tl n2) H := hMo'
        have hHs : va_P G vwCl (m7 cs a 3 0 1805 (aI (doneH n Hh (cpZ Z Y 361)))) H := hHs'
        exact w_iret hx hb hr hlk dX7_draw_71 hS (by rw [show drawF (S, (n, L), (tl, X), (k, V)) q = _ from by unfold drawF; rw [if_neg (show ¬ (¬ (0 ≤ q ∧ q < S 0 0)) by omega), if_neg (show ¬ faultF (tlT tl) X ≠ -5 from fun h9 => h9 hff)]]; exact ⟨by rw [hn2], ⟨drZ Y q g n2, cpZ Z Y 361, doneH n Hh (cpZ Z Y 361), Sl, Kp, Go, Nt, n2, g, by rw [← hn2]; exact rr_dr (S := S) wf0 rr (by omega) hn8 hg2, (hr_done (S := S) wf0 hL9 hHR rr hn), hSR, hMo, hRw, hSc, hHs, hSl, hKp, hGo, hNt, hTx, hRd⟩⟩)
      · skip
        refine lv_aload_n hx hb dX7_draw_38 rfl (lv_at hl 0 rfl) ?_
        refine va_get (D := G) (ci := 7) (v := .ref ((sh a 1) 0)) (C := RX7) (T := TX7) (N := 12) hx hb hts hi7 hown hK.1 hMo 0 rfl rfl 0 (by decide) (hts (.fieldLink RX7 7 "SpriteLinesModel" "row" "[I") (by decide +kernel)) (fun _ h9 => h9) rfl dX7_draw_39 ?_
        refine z_iconst (n := 5) hx hb dX7_draw_42 ?_
        refine z_bipush (n := 8) hx hb dX7_draw_43 (by decide) ?_
        refine lv_iload_n hx hb dX7_draw_45 rfl (lv_at hl 1 rfl) ?_
        refine z_imul hx hb dX7_draw_46 ?_
        refine z_iadd hx hb dX7_draw_47 ?_
        refine lv_iload_n hx hb dX7_draw_48 rfl (lv_at hl 2 rfl) ?_
        refine z_iadd hx hb dX7_draw_49 ?_
        refine lv_aload_n hx hb dX7_draw_50 rfl (lv_at hl 0 rfl) ?_
        refine va_get (D := G) (ci := 7) (v := .ref ((sh a 9) 0)) (C := RX7) (T := TX7) (N := 12) hx hb hts hi7 hown hK.1 hMo 0 rfl rfl 11 (by decide) (hts (.fieldLink RX7 36 "SpriteLinesModel" "read" "[I") (by decide +kernel)) (fun _ h9 => h9) rfl dX7_draw_51 ?_
        refine lv_iload_n hx hb dX7_draw_54 rfl (lv_at hl 2 rfl) ?_
        refine z_ialdB hx hb hK.1 hRd 0 0 (F := g) rfl rfl (by omega) (by decide) dX7_draw_55 ?_
        refine z_top (v' := .int (zI ((iB (g i)).toInt))) (congrArg Value.int (zI_of _)) ?_
        refine z_iast hx hb hK.1 hRw (Ord.D (ordM7 cs a 1 0 361 (aI (drZ Y q g i))) inj1) hS 0 0 (F := (drZ Y q g i)) rfl rfl (by omega) (by decide) ⟨1, by decide, by decide, rfl⟩ dX7_draw_56 (fun H locs hP1 hle hk hS => ?_)
        have hMo := keepO (ordMo cs a n tl n2) hMo hk (fun j hj h3 => absurd (ia j 1 (by omega) (by omega) h3) (by omega))
        have hSc := keepO (ordM7 cs a 2 0 361 (aI (cpZ Z Y 361))) hSc hk (fun j hj h3 => absurd (ia (2 + j) 1 (by omega) (by omega) h3) (by omega))
        have hHs := keepO (ordM7 cs a 3 0 1805 (aI Hh)) hHs hk (fun j hj h3 => absurd (ia (3 + j) 1 (by omega) (by omega) h3) (by omega))
        have hSl := keepO (ordM7 cs a 4 0 722 (aI Sl)) hSl hk (fun j hj h3 => absurd (ia (4 + j) 1 (by omega) (by omega) h3) (by omega))
        have hKp := keepO (ordM7 cs a 5 2 2 (aI Kp)) hKp hk (fun j hj h3 => absurd (ia (5 + j) 1 (by omega) (by omega) h3) (by omega))
        have hGo := keepO (ordM7 cs a 6 2 24 (aI Go)) hGo hk (fun j hj h3 => absurd (ia (6 + j) 1 (by omega) (by omega) h3) (by omega))
        have hNt := keepO (ordM7 cs a 7 0 24 (aI Nt)) hNt hk (fun j hj h3 => absurd (ia (7 + j) 1 (by omega) (by omega) h3) (by omega))
        have hTx := keepO (ordM7 cs a 8 3 60 (aI X)) hTx hk (fun j hj h3 => absurd (ia (8 + j) 1 (by omega) (by omega) h3) (by omega))
        have hRd := keepO (ordM7 cs a 9 0 8 (cB g)) hRd hk (fun j hj h3 => absurd (ia (9 + j) 1 (by omega) (by omega) h3) (by omega))
        have hRw : va_P G vwCl (m7 cs a 1 0 361 (aI (updZ (drZ Y q g i) ((5 + (8 * q)) + i) ((iB (g i)).toInt)))) H := hP1
        refine z_iinc (k := 2) (lv' := [(3, .int (zI (i + 1))), (0, .ref (a 0)), (1, .int (zI q))]) hx hb dX7_draw_57 hl rfl (by decide) rfl (fun ls hl => ?_)
        refine lv_goto (tgt := 30) hx hb dX7_draw_60 (by decide) ?_
        exact ih (i + 1) H locs ⟨(by omega), hMo, (by rw [← drZ_s hI.1]; exact hRw), hSc, hHs, hSl, hKp, hGo, hNt, hTx, hRd⟩ hS (by omega) ls (lv_sub hl [1, 2, 0] rfl)
    · skip
      refine z_bipush (n := -100) hx hb dX7_draw_19 (by decide) ?_
      refine lv_iload_n hx hb dX7_draw_21 rfl (lv_at hl 0 rfl) ?_
      refine z_isub hx hb dX7_draw_22 ?_
      exact w_iret hx hb hr hlk dX7_draw_23 hS (by rw [show drawF (S, (n, L), (tl, X), (k, V)) q = _ from by unfold drawF; rw [if_neg (show ¬ (¬ (0 ≤ q ∧ q < S 0 0)) by omega), if_pos (show faultF (tlT tl) X ≠ -5 by omega)]]; exact ⟨rfl, ⟨Y, Z, Hh, Sl, Kp, Go, Nt, n2, g, rr, hHR, hSR, hMo, hRw, hSc, hHs, hSl, hKp, hGo, hNt, hTx, hRd⟩⟩)
  · skip
    simp only [decide_eq_true_eq] at c1
    refine z_iconst (n := -1) hx hb dX7_draw_8 ?_
    exact w_iret hx hb hr hlk dX7_draw_9 hS (by rw [show drawF (S, (n, L), (tl, X), (k, V)) q = _ from by unfold drawF; rw [if_pos (show ¬ (0 ≤ q ∧ q < S 0 0) by omega)]]; exact ⟨rfl, ⟨Y, Z, Hh, Sl, Kp, Go, Nt, rn, Rd, rr, hHR, hSR, hMo, hRw, hSc, hHs, hSl, hKp, hGo, hNt, hTx, hRd⟩⟩)
