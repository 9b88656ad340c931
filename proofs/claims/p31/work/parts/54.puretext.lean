/-! The text that the law types: what a reading of it gives, character by character. -/
section TX1
/-- behind len characters: all of them read, the row r, c pixels of it, the pixels so far in V; b4: behind the pixel v; b5: behind its x -/
def RD (X : Int → Int) (len r c : Int) (V : Int → Int) (b4 b5 v : Int) : Prop := ∀ T : Int → Int, TF T → (∀ k : Int, 0 ≤ k → k < len → (takesF (rdS T X k.toNat) (X k)).1 = true) ∧ ((rdS T X len.toNat).1 1 = r ∧ (rdS T X len.toNat).1 2 = c ∧ (rdS T X len.toNat).1 5 = b5) ∧ (b4 = 1 → (rdS T X len.toNat).1 4 = 1) ∧ (b4 = 1 ∨ b5 = 1 → (rdS T X len.toNat).1 3 = v) ∧ ∀ k : Nat, (k : Int) < 8 * r + c → b2 ((rdS T X len.toNat).2.1 k) + 2 * b2 ((rdS T X len.toNat).2.2 k) = V k
theorem rd_ext {T X : Int → Int} {z len : Int} (n : Nat) (hn : (n : Int) ≤ len) : rdS T (updZ X len z) n = rdS T X n := by
  induction n with
  | zero => rfl
  | succ n ih =>
    show (takesF (rdS T (updZ X len z) n) (updZ X len z n)).2 = (takesF (rdS T X n) (X n)).2
    rw [ih (by omega), updZ_n (by omega)]
theorem rd_step {X T : Int → Int} {len z : Int} {P' : PS} (h0 : 0 ≤ len) (hok : ∀ k : Int, 0 ≤ k → k < len → (takesF (rdS T X k.toNat) (X k)).1 = true) (e : takesF (rdS T X len.toNat) z = (true, P')) : (∀ k : Int, 0 ≤ k → k < len + 1 → (takesF (rdS T (updZ X len z) k.toNat) (updZ X len z k)).1 = true) ∧ rdS T (updZ X len z) (len + 1).toNat = P' := by
  constructor
  · intro k k0 k1
    rw [rd_ext k.toNat (by omega)]
    by_cases c : k = len
    · rw [c, updZ_s, e]
    · rw [updZ_n c]
      exact hok k k0 (by omega)
  · rw [show (len + 1).toNat = len.toNat + 1 by omega]
    show (takesF (rdS T (updZ X len z) len.toNat) (updZ X len z (len.toNat : Nat))).2 = P'
    rw [rd_ext len.toNat (by omega), show ((len.toNat : Nat) : Int) = len by omega, updZ_s, e]
theorem rd_0 (X V : Int → Int) : RD X 0 0 0 V 0 0 0 := by
  intro T hT
  refine ⟨fun k a b => by omega, ⟨rfl, rfl, rfl⟩, fun h => by omega, fun h => by omega, fun k h => by omega⟩
variable {X V : Int → Int} {len r c b4 b5 v : Int}
theorem rd_slash (h0 : 0 ≤ len) (hr : r < 7) (h : RD X len r 8 V b4 0 v) : RD (updZ X len 47) (len + 1) (r + 1) 0 V 0 0 0 := by
  intro T hT
  obtain ⟨hok, ⟨h1, h2, h5⟩, -, -, hV⟩ := h T hT
  have e : takesF (rdS T X len.toNat) 47 = (true, (updZ (updZ (updZ (rdS T X len.toNat).1 4 0) 1 ((rdS T X len.toNat).1 1 + 1)) 2 0, (rdS T X len.toNat).2)) := by
    unfold takesF
    rw [if_neg (by omega), if_neg (by decide), if_pos rfl]
    unfold endF
    exact if_neg (show ¬ ((rdS T X len.toNat).1 2 < 8 ∨ 7 ≤ (rdS T X len.toNat).1 1) by omega)
  obtain ⟨g1, g2⟩ := rd_step h0 hok e
  refine ⟨g1, ?_, fun h => by omega, fun h => by omega, ?_⟩
  · rw [g2]
    refine ⟨?_, rfl, ?_⟩
    · show (rdS T X len.toNat).1 1 + 1 = r + 1
      rw [h1]
    · exact h5
  · rw [g2]
    intro k hk
    exact hV k (by omega)
theorem puts_ok {Q : PS} {n : Int} {V2 : Int → Int} (hv : 0 ≤ v ∧ v ≤ 3) (hn : 0 ≤ n) (h1 : Q.1 1 = r) (h2 : Q.1 2 = c) (h3 : c + n ≤ 8) (hz : ∀ k : Nat, 8 * r + c ≤ (k : Int) → Q.2.1 k = false ∧ Q.2.2 k = false) (hV : ∀ k : Nat, (k : Int) < 8 * r + c → b2 (Q.2.1 k) + 2 * b2 (Q.2.2 k) = V k) (hV1 : ∀ k, 0 ≤ k → k < 8 * r + c → V2 k = V k) (hV2 : ∀ k, 8 * r + c ≤ k → k < 8 * r + c + n → V2 k = v) : ∃ P' : PS, putsF Q v n = (true, P') ∧ P'.1 = updZ Q.1 2 (c + n) ∧ ∀ k : Nat, (k : Int) < 8 * r + (c + n) → b2 (P'.2.1 k) + 2 * b2 (P'.2.2 k) = V2 k := by
  refine ⟨_, by unfold putsF; rw [if_neg (by omega)], by rw [h2], fun k hk => ?_⟩
  show b2 (pb Q.2.1 (8 * Q.1 1 + Q.1 2) n (decide (v % 2 = 1)) k) + 2 * b2 (pb Q.2.2 (8 * Q.1 1 + Q.1 2) n (decide (v / 2 % 2 = 1)) k) = V2 k
  unfold pb
  rw [h1, h2]
  by_cases e : (k : Int) < 8 * r + c
  · rw [decide_eq_false (show ¬ (8 * r + c ≤ (k : Int) ∧ (k : Int) < 8 * r + c + n) by omega), Bool.false_and, Bool.false_and, Bool.or_false, Bool.or_false, hV1 _ (by omega) e]
    exact hV k e
  · obtain ⟨z1, z2⟩ := hz k (by omega)
    rw [decide_eq_true (show 8 * r + c ≤ (k : Int) ∧ (k : Int) < 8 * r + c + n by omega), z1, z2, Bool.false_or, Bool.false_or, Bool.true_and, Bool.true_and, hV2 _ (by omega) (by omega)]
    rcases Int4 hv with rfl | rfl | rfl | rfl <;> decide
theorem puts_no {Q : PS} {n : Int} (h : Q.1 2 + n > 8) : putsF Q v n = (false, Q) := if_pos h
theorem rd_pix {V2 : Int → Int} {z : Int} (h0 : 0 ≤ len) (hc : c < 8) (hv : 0 ≤ v ∧ v ≤ 3) (hz : (v = 0 ∧ z = 46) ∨ (1 ≤ v ∧ z = 48 + v)) (hV1 : ∀ k, 0 ≤ k → k < 8 * r + c → V2 k = V k) (hV2 : V2 (8 * r + c) = v) {w : Int} (h : RD X len r c V b4 0 w) : RD (updZ X len z) (len + 1) r (c + 1) V2 1 0 v := by
  intro T hT
  obtain ⟨hok, ⟨h1, h2, h5⟩, -, -, hV⟩ := h T hT
  have hhz := rdS_hz (X := X) hT len.toNat
  obtain ⟨P', e1, e2, e3⟩ := puts_ok (Q := (updZ (updZ (updZ (rdS T X len.toNat).1 4 0) 3 v) 4 1, (rdS T X len.toNat).2)) (r := r) (c := c) (n := 1) (V := V) (V2 := V2) hv (by decide) h1 h2 (by omega) (fun k hk => hhz k (by omega)) hV hV1 (fun k a b => by rw [show k = 8 * r + c by omega]; exact hV2)
  have e : takesF (rdS T X len.toNat) z = (true, P') := by
    rw [← e1]
    unfold takesF
    rcases hz with ⟨rfl, rfl⟩ | ⟨hv1, rfl⟩
    · rw [if_neg (by omega), if_neg (by decide), if_neg (by decide), if_pos rfl]
      rfl
    · rw [if_neg (by omega), if_neg (by omega), if_neg (by omega), if_neg (by omega), if_pos (by omega), show 48 + v - 48 = v by omega]
      rfl
  obtain ⟨g1, g2⟩ := rd_step h0 hok e
  refine ⟨g1, ?_, fun _ => ?_, fun _ => ?_, ?_⟩
  · rw [g2, e2]
    exact ⟨h1, rfl, h5⟩
  · rw [g2, e2]
    rfl
  · rw [g2, e2]
    rfl
  · rw [g2]
    exact e3
theorem rd_x (h0 : 0 ≤ len) (h : RD X len r c V 1 0 v) : RD (updZ X len 120) (len + 1) r c V 0 1 v := by
  intro T hT
  obtain ⟨hok, ⟨h1, h2, h5⟩, h4, h3, hV⟩ := h T hT
  have h4 := h4 rfl
  have e : takesF (rdS T X len.toNat) 120 = (true, (updZ (updZ (rdS T X len.toNat).1 4 0) 5 ((rdS T X len.toNat).1 4), (rdS T X len.toNat).2)) := by
    unfold takesF
    rw [if_neg (by omega), if_pos rfl, decide_eq_true h4]
  obtain ⟨g1, g2⟩ := rd_step h0 hok e
  refine ⟨g1, ?_, fun h => by omega, fun _ => ?_, ?_⟩
  · rw [g2]
    exact ⟨h1, h2, h4⟩
  · rw [g2]
    exact h3 (Or.inl rfl)
  · rw [g2]
    exact hV
theorem rd_dig {V2 : Int → Int} {n : Int} (h0 : 0 ≤ len) (hv : 0 ≤ v ∧ v ≤ 3) (hn : 2 ≤ n ∧ n ≤ 8) (hc : c + (n - 1) ≤ 8) (hV1 : ∀ k, 0 ≤ k → k < 8 * r + c → V2 k = V k) (hV2 : ∀ k, 8 * r + c ≤ k → k < 8 * r + c + (n - 1) → V2 k = v) (h : RD X len r c V 0 1 v) : RD (updZ X len (48 + n)) (len + 1) r (c + (n - 1)) V2 0 0 v := by
  intro T hT
  obtain ⟨hok, ⟨h1, h2, h5⟩, -, h3, hV⟩ := h T hT
  have h3 := h3 (Or.inr rfl)
  have hhz := rdS_hz (X := X) hT len.toNat
  obtain ⟨P', e1, e2, e3⟩ := puts_ok (Q := (updZ (rdS T X len.toNat).1 5 0, (rdS T X len.toNat).2)) (r := r) (c := c) (n := n - 1) (V := V) (V2 := V2) hv (by omega) h1 h2 hc (fun k hk => hhz k (by omega)) hV hV1 hV2
  have e : takesF (rdS T X len.toNat) (48 + n) = (true, P') := by
    rw [← e1]
    unfold takesF
    rw [if_pos h5]
    unfold timesF
    rw [if_neg (by omega), h3, show 48 + n - 48 - 1 = n - 1 by omega]
  obtain ⟨g1, g2⟩ := rd_step h0 hok e
  refine ⟨g1, ?_, fun h => by omega, fun h => by omega, ?_⟩
  · rw [g2, e2]
    exact ⟨h1, rfl, rfl⟩
  · rw [g2]
    exact e3
-- the text's fault
theorem fault_len (h0 : 0 ≤ len ∧ len ≤ 60) (hb : b5 = 1 ∨ c < 8) (h : RD X len r c V b4 b5 v) : faultF (tlT len) X = len := by
  obtain ⟨hok, ⟨h1, h2, h5⟩, -, -, -⟩ := h (tlT len) (tlT_TF h0)
  unfold faultF
  have e : ff (fun k => !(takesF (rdS (tlT len) X k.toNat) (X k)).1) 0 (tlT len 0).toNat = -5 := ff_none (fun i a b => by
    show (!(takesF (rdS (tlT len) X i.toNat) (X i)).1) = false
    have b : i < 0 + ((tlT len 0).toNat : Nat) := b
    have e0 : tlT len 0 = len := rfl
    rw [e0] at b
    rw [hok i a (by omega)]
    rfl)
  rw [if_pos e]
  have e0 : tlT len 0 = len := rfl
  rw [e0, if_pos (by rcases hb with hb | hb; exact Or.inl (h5.trans hb); exact Or.inr (by omega))]
theorem fault_ok (h0 : 0 ≤ len ∧ len ≤ 60) (h : RD X len r 8 V b4 0 v) : faultF (tlT len) X = -5 := by
  obtain ⟨hok, ⟨h1, h2, h5⟩, -, -, -⟩ := h (tlT len) (tlT_TF h0)
  unfold faultF
  have e0 : tlT len 0 = len := rfl
  have e : ff (fun k => !(takesF (rdS (tlT len) X k.toNat) (X k)).1) 0 (tlT len 0).toNat = -5 := ff_none (fun i a b => by
    show (!(takesF (rdS (tlT len) X i.toNat) (X i)).1) = false
    have b : i < 0 + ((tlT len 0).toNat : Nat) := b
    rw [e0] at b
    rw [hok i a (by omega)]
    rfl)
  rw [if_pos e, e0, if_neg (by omega)]
theorem fault_1 (h0 : 0 ≤ len ∧ len < 60) (h : RD X len r 8 V b4 0 v) : faultF (tlT (len + 1)) (updZ X len 49) = len := by
  have hT := tlT_TF (t := len + 1) (by omega)
  obtain ⟨hok, ⟨h1, h2, h5⟩, -, -, -⟩ := h (tlT (len + 1)) hT
  unfold faultF
  have e0 : tlT (len + 1) 0 = len + 1 := rfl
  have e : ff (fun k => !(takesF (rdS (tlT (len + 1)) (updZ X len 49) k.toNat) (updZ X len 49 k)).1) 0 (tlT (len + 1) 0).toNat = len := by
    refine ff_hit len (fun i a b => ?_) h0.1 (by rw [e0]; omega) ?_
    · show (!(takesF (rdS (tlT (len + 1)) (updZ X len 49) i.toNat) (updZ X len 49 i)).1) = false
      rw [rd_ext i.toNat (by omega), updZ_n (by omega), hok i a b]
      rfl
    · show (!(takesF (rdS (tlT (len + 1)) (updZ X len 49) len.toNat) (updZ X len 49 len)).1) = true
      rw [rd_ext len.toNat (by omega), updZ_s]
      unfold takesF
      rw [if_neg (by omega), if_neg (by decide), if_neg (by decide), if_neg (by decide), if_pos (by decide)]
      unfold pixF
      exact congrArg (fun z : Bool × PS => !z.1) (puts_no (Q := (updZ (updZ (updZ (rdS (tlT (len + 1)) X len.toNat).1 4 0) 3 (49 - 48)) 4 1, (rdS (tlT (len + 1)) X len.toNat).2)) (v := 49 - 48) (n := 1) (show (rdS (tlT (len + 1)) X len.toNat).1 2 + 1 > 8 by omega))
  rw [e, if_neg (by omega)]
end TX1
section TX2
variable {A B : AS} {r c b4 b5 v q : Int} {V : Int → Int}
theorem type_ok (h : GA B) {z : Int} (hl : B.2.2.1.1 < 60) (hz : 0 ≤ z ∧ z < 65536) : ∃ C : AS, typeF B z = (B.2.2.1.1 + 1, C) ∧ GA C ∧ C.1 = B.1 ∧ C.2.2.1.1 = B.2.2.1.1 + 1 ∧ C.2.2.1.2 = updZ B.2.2.1.2 B.2.2.1.1 z := by
  have e : typeF B z = (B.2.2.1.1 + 1, (B.1, B.2.1, (B.2.2.1.1 + 1, updZ B.2.2.1.2 B.2.2.1.1 z), B.2.2.2)) := by
    unfold typeF
    rw [if_neg (by omega)]
  have h1 := awf_type h.1 hz
  rw [e] at h1
  exact ⟨_, e, ⟨h1, h.2⟩, rfl, rfl, rfl⟩
theorem clear_ok (h : GA B) : ∃ C : AS, clearF B = (B.2.2.1.1, C) ∧ GA C ∧ C.1 = B.1 ∧ C.2.2.1.1 = 0 := ⟨_, rfl, ⟨awf_clear h.1, h.2⟩, rfl, rfl⟩
theorem draw_no (hq : ¬ (0 ≤ q ∧ q < B.1 0 0)) : drawF B q = (-1, B) := by
  unfold drawF
  rw [if_pos hq]
theorem draw_len (h : GA B) (hq : 0 ≤ q ∧ q < B.1 0 0) (hb : b5 = 1 ∨ c < 8) (hR : RD B.2.2.1.2 B.2.2.1.1 r c V b4 b5 v) : drawF B q = (-100 - B.2.2.1.1, B) := by
  have h0 := h.1.2.2.1.1
  have hf := fault_len h0 hb hR
  unfold drawF
  rw [if_neg (fun h9 => h9 hq), hf, if_pos (by omega)]
theorem draw_ok (h : GA B) (hr : 0 ≤ r) (hq : 0 ≤ q ∧ q < B.1 0 0) (hR : RD B.2.2.1.2 B.2.2.1.1 r 8 V b4 0 v) : ∃ C : AS, drawF B q = (r + 1, C) ∧ GA C ∧ (∀ f, f ≠ 5 → C.1 f = B.1 f) ∧ C.2.2.1 = B.2.2.1 ∧ ∀ k, 0 ≤ k → k < 8 * (r + 1) → k < 64 → pixelF C.1 q (k / 8) (k % 8) = V k := by
  have h0 := h.1.2.2.1.1
  have hf := fault_ok h0 hR
  obtain ⟨-, ⟨h1, -, -⟩, -, -, hV⟩ := hR (tlT B.2.2.1.1) (tlT_TF h0)
  have e : drawF B q = (r + 1, act B (up2 B.1 5 (putRw (B.1 5) q (8 * (r + 1)) (rdS (tlT B.2.2.1.1) B.2.2.1.2 B.2.2.1.1.toNat).2.1 (rdS (tlT B.2.2.1.1) B.2.2.1.2 B.2.2.1.1.toNat).2.2))) := by
    unfold drawF
    rw [if_neg (fun h9 => h9 hq), hf, if_neg (by decide), h1]
  have h2 := awf_draw h.1 q
  have h3 := kp_draw (A := B) q
  rw [e] at h2
  suffices key : ∀ (S2 : SS) (k : Int), S2 0 0 = B.1 0 0 → S2 5 = putRw (B.1 5) q (8 * (r + 1)) (rdS (tlT B.2.2.1.1) B.2.2.1.2 B.2.2.1.1.toNat).2.1 (rdS (tlT B.2.2.1.1) B.2.2.1.2 B.2.2.1.1.toNat).2.2 → 0 ≤ k → k < 8 * (r + 1) → k < 64 → pixelF S2 q (k / 8) (k % 8) = V k by
    exact ⟨_, e, ⟨h2, h.2⟩, fun f hf => up2_n hf, rfl, fun k k0 k1 k2 => key _ k rfl rfl k0 k1 k2⟩
  intro S2 k e0 e5 k0 k1 k2
  rw [px_at (by rw [e0]; exact hq) (by omega) (by omega), pixW_0, e5]
  unfold putRw
  rw [if_pos (by omega), show (64 * q + (8 * (k / 8) + k % 8) - 64 * q).toNat = k.toNat by omega]
  have h5 := hV k.toNat (by omega)
  rw [show ((k.toNat : Nat) : Int) = k by omega] at h5
  exact h5
theorem draw_1 (h : GA B) (hl : B.2.2.1.1 < 60) (hq : 0 ≤ q ∧ q < B.1 0 0) (hR : RD B.2.2.1.2 B.2.2.1.1 r 8 V b4 0 v) {C : AS} (h1 : C.1 0 0 = B.1 0 0) (h2 : C.2.2.1.1 = B.2.2.1.1 + 1) (h3 : C.2.2.1.2 = updZ B.2.2.1.2 B.2.2.1.1 49) : drawF C q = (-100 - B.2.2.1.1, C) := by
  have h0 := h.1.2.2.1.1
  have hf := fault_1 ⟨h0.1, hl⟩ hR
  unfold drawF
  rw [if_neg (fun h9 => h9 (by rw [h1]; exact hq)), h2, h3, hf, if_pos (by omega)]
/-- a row of ints, n of them from t on set -/
def fillV (V : Int → Int) (t n x : Int) : Int → Int := fun k => if t ≤ k ∧ k < t + n then x else V k
theorem fill_0 {V : Int → Int} {t x : Int} : fillV V t 0 x = V := by
  funext k
  unfold fillV
  rw [if_neg (by omega)]
theorem fill_s {V : Int → Int} {t n x : Int} (hn : 0 ≤ n) : updZ (fillV V t n x) (t + n) x = fillV V t (n + 1) x := by
  funext k
  by_cases e : k = t + n
  · rw [e, updZ_s]
    unfold fillV
    rw [if_pos (by omega)]
  · rw [updZ_n e]
    unfold fillV
    by_cases c : t ≤ k ∧ k < t + n
    · rw [if_pos c, if_pos (by omega)]
    · rw [if_neg c, if_neg (by omega)]
theorem fill_lo {V : Int → Int} {t n x k : Int} (h : k < t) : fillV V t n x k = V k := if_neg (by omega)
theorem fill_at {V : Int → Int} {t n x k : Int} (h : t ≤ k) (h2 : k < t + n) : fillV V t n x k = x := if_pos ⟨h, h2⟩
end TX2
