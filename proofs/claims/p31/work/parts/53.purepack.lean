/-! Packing: the screen stays, no likes, counts. -/
section PK1
theorem cnt_le {f g : Int → Bool} {n : Nat} (h : ∀ k : Int, 0 ≤ k → k < n → f k = true → g k = true) : cnt f n ≤ cnt g n := by
  induction n with
  | zero => exact Int.le_refl _
  | succ n ih =>
    have h1 := ih (fun k a b => h k a (by omega))
    have h2 := h n (by omega) (by omega)
    show cnt f n + b2 (f n) ≤ cnt g n + b2 (g n)
    cases c : f n with
    | true => rw [h2 c]; omega
    | false =>
      have := b2_r (g n)
      rw [show b2 false = 0 from rfl]
      omega
theorem cntI_le {f g : Int → Bool} {n : Int} (h : ∀ k : Int, 0 ≤ k → k < n → f k = true → g k = true) : cntI f n ≤ cntI g n := cnt_le (fun k a b => h k a (by omega))
theorem cnt_or {f g h : Int → Bool} {n : Nat} (hh : ∀ k : Int, 0 ≤ k → k < n → f k = true → g k = true ∨ h k = true) : cnt f n ≤ cnt g n + cnt h n := by
  induction n with
  | zero => exact Int.le_refl _
  | succ n ih =>
    have h1 := ih (fun k a b => hh k a (by omega))
    have h2 := hh n (by omega) (by omega)
    have q1 := b2_r (g n)
    have q2 := b2_r (h n)
    show cnt f n + b2 (f n) ≤ (cnt g n + b2 (g n)) + (cnt h n + b2 (h n))
    cases c : f n with
    | true =>
      rw [show b2 true = 1 from rfl]
      rcases h2 c with h3 | h3
      · rw [b2_t h3]; omega
      · rw [b2_t h3]; omega
    | false => rw [show b2 false = 0 from rfl]; omega
theorem cntI_or {f g h : Int → Bool} {n : Int} (hh : ∀ k : Int, 0 ≤ k → k < n → f k = true → g k = true ∨ h k = true) : cntI f n ≤ cntI g n + cntI h n := cnt_or (fun k a b => hh k a (by omega))
theorem cnt_not {f g : Int → Bool} {n : Nat} (h : ∀ k : Int, 0 ≤ k → k < n → g k = !f k) : cnt f n + cnt g n = n := by
  induction n with
  | zero => rfl
  | succ n ih =>
    have h1 := ih (fun k a b => h k a (by omega))
    show (cnt f n + b2 (f n)) + (cnt g n + b2 (g n)) = _
    rw [h n (by omega) (by omega)]
    cases c : f n with
    | true => show (cnt f n + 1) + (cnt g n + 0) = _; omega
    | false => show (cnt f n + 0) + (cnt g n + 1) = _; omega
theorem cntI_not {f g : Int → Bool} {n : Int} (hn : 0 ≤ n) (h : ∀ k : Int, 0 ≤ k → k < n → g k = !f k) : cntI f n + cntI g n = n := by
  have := cnt_not (f := f) (g := g) (n := n.toNat) (fun k a b => h k a (by omega))
  unfold cntI
  omega
theorem cntI_all {f : Int → Bool} {n : Int} (hn : 0 ≤ n) (h : ∀ k : Int, 0 ≤ k → k < n → f k = true) : cntI f n = n := by
  have h1 := cntI_not (f := f) (g := fun k => !f k) hn (fun k _ _ => rfl)
  have h2 := cntI_le (f := fun k => !f k) (g := fun _ => false) (n := n) (fun k a b c => by
    have c : (!f k) = true := c
    rw [h k a b] at c
    cases c)
  have h3 := cntI_r (fun k => !f k) hn
  have h4 : cntI (fun _ => false) n = 0 := by
    unfold cntI
    induction n.toNat with
    | zero => rfl
    | succ m ih => show cnt _ m + 0 = 0; omega
  omega
theorem cntI_full {f : Int → Bool} {n : Int} (hn : 0 ≤ n) (h : cntI f n = n) : ∀ k : Int, 0 ≤ k → k < n → f k = true := by
  intro k a b
  cases c : f k with
  | true => rfl
  | false =>
    have h1 := cntI_not (f := f) (g := fun k => !f k) hn (fun k _ _ => rfl)
    have h2 := cntI_lt (f := fun k => !f k) a b (by show (!f k) = true; rw [c]; rfl)
    have h3 := cntI_r (fun k => !f k) a
    omega
theorem cntI_none {f : Int → Bool} {n : Int} (h : ∀ k : Int, 0 ≤ k → k < n → f k = false) : cntI f n = 0 := by
  have h1 := cntI_le (f := f) (g := fun _ => false) (n := n) (fun k a b c => by rw [h k a b] at c; cases c)
  have h3 : 0 ≤ cntI f n := (cnt_r f n.toNat).1
  have h4 : cntI (fun _ => false) n = 0 := by
    unfold cntI
    induction n.toNat with
    | zero => rfl
    | succ m ih => show cnt _ m + 0 = 0; omega
  omega
end PK1
section PK2
variable {S : SS} {f : Int → Bool}
theorem pkX_hi (X : Int → Int) (f : Int → Bool) (n : Nat) : ∀ j : Int, 64 * (n : Int) ≤ j → pkX X f n j = X j := by
  induction n with
  | zero => intro j _; rfl
  | succ n ih =>
    intro j hj
    have h1 := cntI_r f (show (0 : Int) ≤ (n : Int) by omega)
    rw [pkX]
    split
    · unfold putRw
      rw [if_neg (by omega)]
      exact ih j (by omega)
    · exact ih j (by omega)
theorem pkX_at {X : Int → Int} (hX : ∀ j, 0 ≤ j → j < 1536 → 0 ≤ X j ∧ X j ≤ 3) (f : Int → Bool) (n : Nat) (hn : n ≤ 24) : ∀ q k : Int, 0 ≤ q → q < n → f q = true → 0 ≤ k → k < 64 → pkX X f n (64 * cntI f q + k) = X (64 * q + k) := by
  induction n with
  | zero => intro q k a b; omega
  | succ n ih =>
    intro q k a b hq k0 k1
    rw [pkX]
    by_cases e : q = n
    · subst e
      rw [if_pos hq]
      unfold putRw
      rw [if_pos (by omega), show 64 * cntI f (n : Int) + k - 64 * cntI f (n : Int) = k by omega]
      have hr := pkX_r (f := f) hX n (64 * (n : Int) + k) (by omega) (by omega)
      rw [px_bits k0 hr]
      exact pkX_hi X f n _ (by omega)
    · have h1 := cntI_lt a (show q < (n : Int) by omega) hq
      have h2 := ih (by omega) q k a (by omega) hq k0 k1
      split
      · unfold putRw
        rw [if_neg (by omega)]
        exact h2
      · exact h2
theorem ps_1 : packS S f 1 = P1 S f (S 0 1) := rfl
theorem ps_5 : packS S f 5 = pkX (S 5) f (S 0 0).toNat := rfl
theorem ps_0 : packS S f 0 = updZ (S 0) 0 (cntI f (S 0 0)) := rfl
theorem ps_2 : packS S f 2 = S 2 := rfl
theorem ps_3 : packS S f 3 = S 3 := rfl
theorem ps_4 : packS S f 4 = S 4 := rfl
theorem ps_p {x : Int} (hx : 0 ≤ x ∧ x < S 0 1) : packS S f 1 (6 * x + 0) = cntI f (lowA S (S 1 (6 * x + 0))) := by
  rw [ps_1]
  unfold P1
  rw [if_pos (by omega), if_pos (by omega), show (6 * x + 0) / 6 = x by omega]
theorem ps_m {x : Int} (hx : 0 ≤ x ∧ x < S 0 1) : packS S f 1 (6 * x + 1) = if lowA S (S 1 (6 * x + 0)) ≠ S 1 (6 * x + 0) then wayF S (S 1 (6 * x + 0)) (S 1 (6 * x + 1)) (lowA S (S 1 (6 * x + 0))) else S 1 (6 * x + 1) := by
  rw [ps_1]
  unfold P1
  rw [if_pos (by omega), if_neg (by omega), show (6 * x + 1) / 6 = x by omega]
  by_cases c : lowA S (S 1 (6 * x + 0)) ≠ S 1 (6 * x + 0)
  · rw [if_pos ⟨by omega, c⟩, if_pos c]
  · rw [if_neg (fun h9 => c h9.2), if_neg c]
theorem ps_t {x t : Int} (hx : 0 ≤ x ∧ x < S 0 1) (ht : 2 ≤ t ∧ t < 6) : packS S f 1 (6 * x + t) = S 1 (6 * x + t) := by
  rw [ps_1]
  unfold P1
  rw [if_pos (by omega), if_neg (by omega), if_neg (by omega)]
theorem pix_pk (h : WF S) {q w r c : Int} (hq : 0 ≤ q ∧ q < S 0 0) (hf : f q = true) (hr : 0 ≤ r ∧ r < 8) (hc : 0 ≤ c ∧ c < 8) : pixW (packS S f) (cntI f q) w r c = pixW S q w r c := by
  have h0 := h.1
  unfold pixW
  rw [ps_5]
  refine pkX_at (wf_wX h) f (S 0 0).toNat (by omega) q _ hq.1 (by omega) hf ?_ ?_ <;> (repeat' split) <;> omega
theorem pixAt_pk (h : WF S) {x q r : Int} (hx : 0 ≤ x ∧ x < S 0 1) (hf : f (lowA S (S 1 (6 * x + 0))) = true) : pixAt (packS S f) x q r = pixAt S x q r := by
  have hp := wf_wP h x hx.1 hx.2
  have hl := lowA_r S hp.1.1
  unfold pixAt
  rw [ps_t hx (t := 5) (by decide), ps_t hx (t := 4) (by decide)]
  split
  · rename_i hc
    rw [ps_p hx, pix_pk h ⟨hl.1, by omega⟩ hf hc.1 hc.2, ps_m hx]
    by_cases c : lowA S (S 1 (6 * x + 0)) = S 1 (6 * x + 0)
    · rw [if_neg (fun h9 => h9 c), c]
    · rw [if_pos c]
      have h1 := (wayF_w (S := S) (w := S 1 (6 * x + 1)) hp.2.1).2 (lowA_al c)
      unfold wayF at h1 ⊢
      rcases ff_cases (fun v => sameP S (lowA S (S 1 (6 * x + 0))) v (S 1 (6 * x + 0)) (S 1 (6 * x + 1))) 0 4 with ⟨j, -, -, h3, -, h5⟩ | ⟨-, h5⟩
      · rw [h5]
        exact (sameP_all.1 h3) _ _ hc.1.1 hc.1.2 hc.2.1 hc.2.2
      · exact absurd h5 h1
  · rfl
/-- two states that show the same -/
def SameV (S S2 : SS) : Prop := (S2 0 1 = S 0 1 ∧ S2 0 2 = S 0 2 ∧ S2 0 3 = S 0 3 ∧ S2 0 4 = S 0 4) ∧ (S2 2 = S 2 ∧ S2 3 = S 3 ∧ S2 4 = S 4) ∧ ∀ x, 0 ≤ x → x < S 0 1 → (∀ t, 2 ≤ t → t < 6 → S2 1 (6 * x + t) = S 1 (6 * x + t)) ∧ ∀ q r, pixAt S2 x q r = pixAt S x q r
theorem sv_isW {S2 : SS} (h : SameV S S2) {l x : Int} (hx : 0 ≤ x ∧ x < S 0 1) : isW S2 l x = isW S l x := by
  have h1 := (h.2.2 x hx.1 hx.2).1
  unfold isW isOver
  rw [h1 3 (by decide) (by decide), h1 5 (by decide) (by decide)]
theorem sv_atT {S2 : SS} (h : SameV S S2) (fr u : Int) : firstT S2 fr = firstT S fr ∧ atT S2 fr u = atT S fr u := by
  have e : firstT S2 fr = firstT S fr := by unfold firstT; rw [h.1.1, h.1.2.2.1]
  refine ⟨e, ?_⟩
  unfold atT
  rw [e, h.1.1]
theorem sv_gT {S2 : SS} (h : SameV S S2) (hn : 0 < S 0 1) (q fr : Int) : gT S2 q fr = gT S q fr := by
  funext u
  unfold gT
  rw [(sv_atT h fr u).2]
  exact sv_isW h (atT_r u hn)
theorem sv_shown {S2 : SS} (h : SameV S S2) {q fr x : Int} (hx : 0 ≤ x ∧ x < S 0 1) : shownB S2 q fr x = shownB S q fr x := by
  unfold shownB turnOf
  rw [sv_isW h hx, sv_gT h (by omega), (sv_atT h fr 0).1, h.1.1, h.1.2.1]
theorem sv_col {S2 : SS} (h : SameV S S2) {q r : Int} : colF S2 q (S2 0 4) r = colF S q (S 0 4) r := by
  have e : colI S2 q (S 0 4) r = colI S q (S 0 4) r := by
    unfold colI
    rw [h.1.1]
    refine ff_congr (fun i h1 h2 => ?_)
    rw [sv_shown h ⟨h1, by omega⟩, (h.2.2 i h1 (by omega)).2]
  rw [h.1.2.2.2]
  unfold colF
  rw [e]
  rcases colI_cases S q (S 0 4) r with ⟨e5, -⟩ | ⟨hx, -, -⟩
  · rw [if_pos e5, if_pos e5]
  · rw [if_neg (by omega), if_neg (by omega)]
    have h2 := h.2.2 _ hx.1 hx.2
    unfold palOn
    rw [h2.2, h2.1 2 (by decide) (by decide), h.2.1.1, h.2.1.2.1, h.2.1.2.2]
theorem sv_color {S2 : SS} (h : SameV S S2) (q r : Int) : colorF S2 q r = colorF S q r := by
  unfold colorF
  rw [sv_col h]
theorem sv_pr {S2 : SS} (h : SameV S S2) : prF S2 = prF S := prF_congr (fun q r _ _ _ _ => sv_color h q r)
theorem pk_same (h : WF S) (hf : ∀ x, 0 ≤ x → x < S 0 1 → f (lowA S (S 1 (6 * x + 0))) = true) : SameV S (packS S f) := by
  refine ⟨⟨rfl, rfl, rfl, rfl⟩, ⟨rfl, rfl, rfl⟩, fun x h1 h2 => ⟨fun t a b => ps_t ⟨h1, h2⟩ ⟨a, b⟩, fun q r => pixAt_pk h ⟨h1, h2⟩ (hf x h1 h2)⟩⟩
-- no likes
def NA (S : SS) : Prop := ∀ p q, 0 ≤ p → p < q → q < S 0 0 → wayF S p 0 q = -5
def US (S : SS) : Prop := ∀ q, 0 ≤ q → q < S 0 0 → isUsed S q = true
theorem na_low (h : NA S) {q : Int} (hq : 0 ≤ q ∧ q < S 0 0) : lowA S q = q := by
  unfold lowA
  rw [if_pos (ff_none (fun i h1 h2 => ?_))]
  unfold alikeB
  refine decide_eq_false (fun h9 => h9 ?_)
  rw [way_sym]
  exact h i q h1 (by omega) hq.2
theorem low_na (h : ∀ q, 0 ≤ q → q < S 0 0 → lowA S q = q) : NA S := by
  intro p q h1 h2 h3
  have h4 := lowA_min (S := S) (q := q) (j := p) h1 (by rw [h q (by omega) h3]; exact h2) (by omega)
  unfold alikeB at h4
  have h5 := of_decide_eq_false h4
  rw [way_sym]
  by_cases e : wayF S q 0 p = -5
  · exact e
  · exact absurd e h5
theorem isUsed_iff {q : Int} : isUsed S q = true ↔ ∃ x, 0 ≤ x ∧ x < S 0 1 ∧ S 1 (6 * x + 0) = q := by
  unfold isUsed
  rw [anyN_iff]
  constructor
  · rintro ⟨k, h1, h2, h3⟩
    exact ⟨k, h1, by omega, of_decide_eq_true h3⟩
  · rintro ⟨k, h1, h2, h3⟩
    exact ⟨k, h1, by omega, decide_eq_true h3⟩
theorem stay1_iff {q : Int} : stayF S 1 q = true ↔ ∃ x, 0 ≤ x ∧ x < S 0 1 ∧ lowA S (S 1 (6 * x + 0)) = q := by
  unfold stayF
  rw [if_neg (by decide), anyN_iff]
  constructor
  · rintro ⟨k, h1, h2, h3⟩
    exact ⟨k, h1, by omega, of_decide_eq_true h3⟩
  · rintro ⟨k, h1, h2, h3⟩
    exact ⟨k, h1, by omega, decide_eq_true h3⟩
theorem stay0_iff {q : Int} : stayF S 0 q = true ↔ lowA S q = q := by
  unfold stayF
  rw [if_pos rfl]
  exact decide_eq_true_iff
theorem stay_is_low (h : WF S) {rm q : Int} (hrm : rm = 0 ∨ rm = 1) (hq : stayF S rm q = true) : lowA S q = q := by
  rcases hrm with rfl | rfl
  · exact stay0_iff.1 hq
  · obtain ⟨x, h1, h2, h3⟩ := stay1_iff.1 hq
    rw [← h3]
    exact lowA_low (wf_wP h x h1 h2).1.1
theorem stay_all (h : WF S) {rm : Int} (hrm : rm = 0 ∨ rm = 1) (hn : NA S) (hu : rm = 1 → US S) : S 0 0 - cntI (stayF S rm) (S 0 0) = 0 := by
  have : cntI (stayF S rm) (S 0 0) = S 0 0 := by
    refine cntI_all h.1.1 (fun k h1 h2 => ?_)
    rcases hrm with rfl | rfl
    · exact stay0_iff.2 (na_low hn ⟨h1, h2⟩)
    · obtain ⟨x, q1, q2, q3⟩ := isUsed_iff.1 (hu rfl k h1 h2)
      refine stay1_iff.2 ⟨x, q1, q2, ?_⟩
      rw [q3]
      exact na_low hn ⟨h1, h2⟩
  omega
theorem all_stay (h : WF S) {rm : Int} (hrm : rm = 0 ∨ rm = 1) (hc : S 0 0 - cntI (stayF S rm) (S 0 0) = 0) : NA S ∧ (rm = 1 → US S) := by
  have hf := cntI_full h.1.1 (show cntI (stayF S rm) (S 0 0) = S 0 0 by omega)
  have hl : ∀ q, 0 ≤ q → q < S 0 0 → lowA S q = q := fun q a b => stay_is_low h hrm (hf q a b)
  refine ⟨low_na hl, fun e q a b => ?_⟩
  subst e
  obtain ⟨x, q1, q2, q3⟩ := stay1_iff.1 (hf q a b)
  have hp := wf_wP h x q1 q2
  rw [hl _ hp.1.1 hp.1.2] at q3
  exact isUsed_iff.2 ⟨x, q1, q2, q3⟩
theorem na_idle (h : US S) : cntI (fun q => !isUsed S q) (S 0 0) = 0 := cntI_none (fun k a b => by
  show (!isUsed S k) = false
  rw [h k a b]
  rfl)
/-- what stands behind a packing -/
theorem pk_after (h : WF S) {rm : Int} (hrm : rm = 0 ∨ rm = 1) : NA (packS S (stayF S rm)) ∧ (rm = 1 → US (packS S (stayF S rm))) := by
  have hn : packS S (stayF S rm) 0 0 = cntI (stayF S rm) (S 0 0) := rfl
  refine ⟨fun p q h1 h2 h3 => ?_, fun e q h1 h2 => ?_⟩
  · rw [hn] at h3
    obtain ⟨p0, a1, a2, a3, a4⟩ := cntI_ivt (f := stayF S rm) h.1.1 h1 (show p < cntI (stayF S rm) (S 0 0) by omega)
    obtain ⟨q0, b1, b2_, b3, b4⟩ := cntI_ivt (f := stayF S rm) h.1.1 (show 0 ≤ q by omega) h3
    have hlt : p0 < q0 := by
      by_cases c : p0 < q0
      · exact c
      · have := cntI_mono (stayF S rm) (show q0 ≤ p0 by omega)
        omega
    have hl := stay_is_low h hrm b3
    have h4 := lowA_min (S := S) (q := q0) (j := p0) a1 (by rw [hl]; exact hlt) b1
    unfold alikeB at h4
    have h5 := of_decide_eq_false h4
    have h6 : wayF S p0 0 q0 = -5 := by
      rw [way_sym]
      by_cases e : wayF S q0 0 p0 = -5
      · exact e
      · exact absurd e h5
    rw [← h6, ← a4, ← b4]
    unfold wayF
    refine ff_congr (fun v _ _ => ?_)
    rw [Bool.eq_iff_iff, sameP_all, sameP_all]
    constructor
    · intro hs r c r0 r1 c0 c1
      have := hs r c r0 r1 c0 c1
      rw [pix_pk h ⟨b1, b2_⟩ b3 ⟨r0, r1⟩ ⟨c0, c1⟩, pix_pk h ⟨a1, a2⟩ a3 ⟨r0, r1⟩ ⟨c0, c1⟩] at this
      exact this
    · intro hs r c r0 r1 c0 c1
      rw [pix_pk h ⟨b1, b2_⟩ b3 ⟨r0, r1⟩ ⟨c0, c1⟩, pix_pk h ⟨a1, a2⟩ a3 ⟨r0, r1⟩ ⟨c0, c1⟩]
      exact hs r c r0 r1 c0 c1
  · subst e
    rw [hn] at h2
    obtain ⟨q0, b1, b2_, b3, b4⟩ := cntI_ivt (f := stayF S 1) h.1.1 h1 h2
    obtain ⟨x, q1, q2, q3⟩ := stay1_iff.1 b3
    refine isUsed_iff.2 ⟨x, q1, q2, ?_⟩
    rw [ps_p ⟨q1, q2⟩, q3]
    exact b4
/-- parts that are like an earlier one -/
def likB (S : SS) (q : Int) : Bool := anyN (fun p => decide (0 ≤ wayF S p 0 q)) q.toNat
theorem lik_low {q : Int} (hq : 0 ≤ q) : likB S q = !decide (lowA S q = q) := by
  have hr := lowA_r S hq
  by_cases c : lowA S q = q
  · rw [decide_eq_true c]
    cases h9 : likB S q with
    | false => rfl
    | true =>
      unfold likB at h9
      obtain ⟨k, h1, h2, h3⟩ := anyN_iff.1 h9
      have h3 := of_decide_eq_true h3
      have h4 := lowA_min (S := S) (q := q) (j := k) h1 (by omega) hq
      unfold alikeB at h4
      have h5 := of_decide_eq_false h4
      exact (h5 (fun e => by rw [way_sym] at h3; omega)).elim
  · rw [decide_eq_false c]
    unfold likB
    refine anyN_iff.2 ⟨lowA S q, hr.1, by omega, decide_eq_true ?_⟩
    have h1 := lowA_al c
    unfold alikeB at h1
    have h1 := of_decide_eq_true h1
    rw [way_sym] at h1
    have h2 := wayF_r S (lowA S q) 0 q
    rcases ff_cases (fun v => sameP S q v (lowA S q) 0) 0 4 with ⟨j, h3, -, -, -, h5⟩ | ⟨-, h5⟩
    · unfold wayF
      rw [h5]
      exact h3
    · exact absurd h5 h1
theorem pk_counts (h : WF S) {rm : Int} (hrm : rm = 0 ∨ rm = 1) : (rm = 0 → S 0 0 - cntI (stayF S rm) (S 0 0) = cntI (likB S) (S 0 0)) ∧ cntI (likB S) (S 0 0) ≤ S 0 0 - cntI (stayF S rm) (S 0 0) ∧ S 0 0 - cntI (stayF S rm) (S 0 0) ≤ cntI (likB S) (S 0 0) + cntI (fun q => !isUsed S q) (S 0 0) := by
  have h1 := cntI_not (f := fun q => decide (lowA S q = q)) (g := likB S) h.1.1 (fun k a _ => lik_low a)
  have h2 := cntI_le (f := stayF S rm) (g := fun q => decide (lowA S q = q)) (n := S 0 0) (fun k _ _ c => decide_eq_true (stay_is_low h hrm c))
  have h3 := cntI_or (f := fun q => decide (lowA S q = q)) (g := stayF S rm) (h := fun q => !isUsed S q) (n := S 0 0) (fun k a b c => by
    have c := of_decide_eq_true c
    rcases hrm with rfl | rfl
    · exact Or.inl (stay0_iff.2 c)
    · cases u : isUsed S k with
      | false => exact Or.inr rfl
      | true =>
        obtain ⟨x, q1, q2, q3⟩ := isUsed_iff.1 u
        exact Or.inl (stay1_iff.2 ⟨x, q1, q2, by rw [q3]; exact c⟩))
  refine ⟨fun e => ?_, by omega, by omega⟩
  subst e
  have h4 : cntI (stayF S 0) (S 0 0) = cntI (fun q => decide (lowA S q = q)) (S 0 0) := cntI_congr (fun k _ _ => by
    rw [Bool.eq_iff_iff, stay0_iff]
    exact decide_eq_true_iff.symm)
  omega
end PK2
section PK3
variable {A : AS}
theorem pack_no {rm : Int} (hc : A.1 0 0 - cntI (stayF A.1 rm) (A.1 0 0) = 0) : packF A rm = (-5, A) := by
  unfold packF
  rw [if_pos hc]
theorem act_undo {A : AS} {S2 : SS} (h : AWF A) : ∃ (k : Int) (C : AS), undoF (act A S2) = (k, C) ∧ (0 ≤ k ∧ k ≤ 4) ∧ C.1 = A.1 ∧ C.2.2 = A.2.2 := by
  have hn := h.2.1.1
  refine ⟨remN A.2.1.1 - 1, (A.1, (remN A.2.1.1 - 1, remL A.2.1.1 A.2.1.2 A.1), A.2.2), ?_, ?_, rfl, rfl⟩
  · have h0 : remN A.2.1.1 ≠ 0 := by unfold remN; split <;> omega
    have e : remL A.2.1.1 A.2.1.2 A.1 (remN A.2.1.1 - 1).toNat = A.1 := by
      unfold remL remN
      by_cases c : A.2.1.1 < 5
      · rw [if_pos c, if_pos c, if_pos (by omega)]
      · rw [if_neg c, if_neg c, if_pos (by omega)]
    show (if remN A.2.1.1 = 0 then _ else _) = _
    rw [if_neg h0]
    show (remN A.2.1.1 - 1, (remL A.2.1.1 A.2.1.2 A.1 (remN A.2.1.1 - 1).toNat, (remN A.2.1.1 - 1, remL A.2.1.1 A.2.1.2 A.1), A.2.2)) = _
    rw [e]
  · unfold remN
    split <;> omega
theorem pack_yes (h : GA A) {rm : Int} (hrm : rm = 0 ∨ rm = 1) (hc : ¬ A.1 0 0 - cntI (stayF A.1 rm) (A.1 0 0) = 0) : ∃ B : AS, packF A rm = (A.1 0 0 - cntI (stayF A.1 rm) (A.1 0 0), B) ∧ GA B ∧ B.1 0 0 = cntI (stayF A.1 rm) (A.1 0 0) ∧ prF B.1 = prF A.1 ∧ NA B.1 ∧ (rm = 1 → US B.1) ∧ packF B rm = (-5, B) ∧ ∃ (k : Int) (C : AS), undoF B = (k, C) ∧ (0 ≤ k ∧ k ≤ 4) ∧ GA C ∧ C.1 = A.1 := by
  have hwf := h.1.1
  have e : packF A rm = (A.1 0 0 - cntI (stayF A.1 rm) (A.1 0 0), act A (packS A.1 (stayF A.1 rm))) := by
    unfold packF
    rw [if_neg hc]
  have hB : GA (act A (packS A.1 (stayF A.1 rm))) := by
    have h1 := awf_pack h.1 rm
    rw [e] at h1
    exact ⟨h1, h.2⟩
  have hN := pk_after hwf hrm
  have hv := pk_same hwf (f := stayF A.1 rm) (fun x h1 h2 => stay_low ⟨h1, h2⟩ (wf_wP hwf x h1 h2).1.1)
  refine ⟨_, e, hB, rfl, sv_pr hv, hN.1, hN.2, pack_no (stay_all hB.1.1 hrm hN.1 hN.2), ?_⟩
  obtain ⟨k, C, u1, u2, u3, u4⟩ := act_undo (S2 := packS A.1 (stayF A.1 rm)) h.1
  refine ⟨k, C, u1, u2, ?_, u3⟩
  have h1 := awf_undo hB.1
  rw [u1] at h1
  exact ⟨h1, by rw [u4]; exact h.2⟩
end PK3
