/-! What the calls keep: the ranges. -/
abbrev PR (p : Int) (F : Int → Int) (s : Int) : Prop := (0 ≤ F (6 * s + 0) ∧ F (6 * s + 0) < p) ∧ (0 ≤ F (6 * s + 1) ∧ F (6 * s + 1) ≤ 3) ∧ (0 ≤ F (6 * s + 2) ∧ F (6 * s + 2) ≤ 3) ∧ (0 ≤ F (6 * s + 3) ∧ F (6 * s + 3) ≤ 1) ∧ (-7 ≤ F (6 * s + 4) ∧ F (6 * s + 4) ≤ 31) ∧ (-7 ≤ F (6 * s + 5) ∧ F (6 * s + 5) ≤ 31)
theorem wf_1 {S : SS} {F : Int → Int} (h : WF S) (hF : ∀ s, 0 ≤ s → s < S 0 1 → PR (S 0 0) F s) : WF (up2 S 1 F) := ⟨h.1, h.2.1, h.2.2.1, h.2.2.2.1, h.2.2.2.2.1, hF, h.2.2.2.2.2.2⟩
theorem wf_2 {S : SS} {F : Int → Int} (h : WF S) (hF : ∀ k, 0 ≤ k → k < 16 → 0 ≤ F k ∧ F k ≤ 63) : WF (up2 S 2 F) := ⟨h.1, h.2.1, h.2.2.1, h.2.2.2.1, h.2.2.2.2.1, h.2.2.2.2.2.1, hF, h.2.2.2.2.2.2.2⟩
theorem wf_5 {S : SS} {F : Int → Int} (h : WF S) (hF : ∀ j, 0 ≤ j → j < 1536 → 0 ≤ F j ∧ F j ≤ 3) : WF (up2 S 5 F) := ⟨h.1, h.2.1, h.2.2.1, h.2.2.2.1, h.2.2.2.2.1, h.2.2.2.2.2.1, h.2.2.2.2.2.2.1, h.2.2.2.2.2.2.2.1, hF⟩
theorem wf_34 {S : SS} {F E : Int → Int} (h : WF S) (hF : ∀ l, 0 ≤ l → l < 32 → 0 ≤ F l ∧ F l ≤ E l ∧ E l ≤ 3) : WF (up2 (up2 S 3 F) 4 E) := ⟨h.1, h.2.1, h.2.2.1, h.2.2.2.1, h.2.2.2.2.1, h.2.2.2.2.2.1, h.2.2.2.2.2.2.1, hF, h.2.2.2.2.2.2.2.2⟩
theorem wf_02 {S : SS} {v : Int} (h : WF S) (hv : 1 ≤ v ∧ v ≤ 20) : WF (up2 S 0 (updZ (S 0) 2 v)) := ⟨h.1, h.2.1, hv, h.2.2.2.1, h.2.2.2.2.1, h.2.2.2.2.2⟩
theorem wf_03 {S : SS} {v : Int} (h : WF S) (hv : 0 ≤ v ∧ v < 20) : WF (up2 S 0 (updZ (S 0) 3 v)) := ⟨h.1, h.2.1, h.2.2.1, ⟨hv.1, Int.le_of_lt_add_one hv.2⟩, h.2.2.2.2.1, h.2.2.2.2.2⟩
theorem wf_04 {S : SS} {v : Int} (h : WF S) (hv : 0 ≤ v ∧ v ≤ 1000000) : WF (up2 S 0 (updZ (S 0) 4 v)) := ⟨h.1, h.2.1, h.2.2.1, h.2.2.2.1, hv, h.2.2.2.2.2⟩
theorem wf_wX {S : SS} (h : WF S) : ∀ j, 0 ≤ j → j < 1536 → 0 ≤ S 5 j ∧ S 5 j ≤ 3 := h.2.2.2.2.2.2.2.2
theorem wf_wP {S : SS} (h : WF S) : ∀ s, 0 ≤ s → s < S 0 1 → PR (S 0 0) (S 1) s := h.2.2.2.2.2.1
theorem putRw_r {X : Int → Int} {q n : Int} {f g : Nat → Bool} (h : ∀ j, 0 ≤ j → j < 1536 → 0 ≤ X j ∧ X j ≤ 3) : ∀ j, 0 ≤ j → j < 1536 → 0 ≤ putRw X q n f g j ∧ putRw X q n f g j ≤ 3 := fun j h1 h2 => by
  have q1 := b2_r (f (j - 64 * q).toNat)
  have q2 := b2_r (g (j - 64 * q).toNat)
  have q3 := h j h1 h2
  unfold putRw
  split <;> omega
theorem wf_bl {S : SS} (h : WF S) (h1 : S 0 0 < 24) : WF (addBl S) := by
  have h5 := wf_5 h (putRw_r (q := S 0 0) (n := 64) (f := fun _ => false) (g := fun _ => false) (wf_wX h))
  refine ⟨?_, h.2.1, h.2.2.1, h.2.2.2.1, h.2.2.2.2.1, fun s a b => ?_, h5.2.2.2.2.2.2⟩
  · show 0 ≤ S 0 0 + 1 ∧ S 0 0 + 1 ≤ 24
    have := h.1
    omega
  · have hp := wf_wP h s a b
    exact ⟨⟨hp.1.1, by show S 1 (6 * s + 0) < S 0 0 + 1; omega⟩, hp.2⟩
theorem wf_pix {S : SS} {k v : Int} (h : WF S) (hv : 0 ≤ v ∧ v < 4) : WF (up2 S 5 (updZ (S 5) k v)) := wf_5 h (fun j a b => by
  have := wf_wX h j a b
  unfold updZ
  split <;> omega)
theorem wf_rw {S : SS} {q n : Int} {f g : Nat → Bool} (h : WF S) : WF (up2 S 5 (putRw (S 5) q n f g)) := wf_5 h (putRw_r (wf_wX h))
theorem wf_col {S : SS} {k v : Int} (h : WF S) (hv : 0 ≤ v ∧ v < 64) : WF (up2 S 2 (updZ (S 2) k v)) := wf_2 h (fun j a b => by
  have := h.2.2.2.2.2.2.1 j a b
  unfold updZ
  split <;> omega)
theorem wf_mv {S : SS} {z x y : Int} (h : WF S) (hp : (-7 ≤ x ∧ x ≤ 31) ∧ (-7 ≤ y ∧ y ≤ 31)) : WF (mvS S z x y) := wf_1 h (fun s a b => by
  have := wf_wP h s a b
  unfold PR at this ⊢
  unfold updZ
  refine ⟨?_, ?_, ?_, ?_, ?_, ?_⟩ <;> (repeat' split) <;> omega)
theorem valsF_0 (S : SS) {t : Int} (h : valsF S t ≠ 0) : (t = 0 ∨ t = 1 ∨ t = 2 ∨ t = 3) ∧ (t = 0 → valsF S t = S 0 0) ∧ (t = 1 → valsF S t = 4) ∧ (t = 2 → valsF S t = 4) ∧ (t = 3 → valsF S t = 2) := by
  unfold valsF at h ⊢
  by_cases h0 : t = 0
  · subst h0
    refine ⟨Or.inl rfl, fun _ => rfl, fun e => absurd e (by decide), fun e => absurd e (by decide), fun e => absurd e (by decide)⟩
  · by_cases h1 : t = 1
    · subst h1
      refine ⟨Or.inr (Or.inl rfl), fun e => absurd e (by decide), fun _ => rfl, fun e => absurd e (by decide), fun e => absurd e (by decide)⟩
    · by_cases h2 : t = 2
      · subst h2
        refine ⟨Or.inr (Or.inr (Or.inl rfl)), fun e => absurd e (by decide), fun e => absurd e (by decide), fun _ => rfl, fun e => absurd e (by decide)⟩
      · by_cases h3 : t = 3
        · subst h3
          refine ⟨Or.inr (Or.inr (Or.inr rfl)), fun e => absurd e (by decide), fun e => absurd e (by decide), fun e => absurd e (by decide), fun _ => rfl⟩
        · rw [if_neg h0, if_neg h1, if_neg h2, if_neg h3] at h
          exact absurd rfl h
theorem wf_set {S : SS} {z t v : Int} (h : WF S) (hv : 0 ≤ v ∧ v < valsF S t) : WF (up2 S 1 (updZ (S 1) (6 * z + t) v)) := wf_1 h (fun s a b => by
  obtain ⟨ht, e0, e1, e2, e3⟩ := valsF_0 S (t := t) (by omega)
  have := wf_wP h s a b
  unfold PR at this ⊢
  unfold updZ
  rcases ht with ht | ht | ht | ht
  · have := e0 ht
    refine ⟨?_, ?_, ?_, ?_, ?_, ?_⟩ <;> (repeat' split) <;> omega
  · have := e1 ht
    refine ⟨?_, ?_, ?_, ?_, ?_, ?_⟩ <;> (repeat' split) <;> omega
  · have := e2 ht
    refine ⟨?_, ?_, ?_, ?_, ?_, ?_⟩ <;> (repeat' split) <;> omega
  · have := e3 ht
    refine ⟨?_, ?_, ?_, ?_, ?_, ?_⟩ <;> (repeat' split) <;> omega)
theorem wf_sp {S : SS} {q x y : Int} (h : WF S) (hq : 0 ≤ q ∧ q < S 0 0) (hp : (-7 ≤ x ∧ x ≤ 31) ∧ (-7 ≤ y ∧ y ≤ 31)) (h1 : S 0 1 < 20) : WF (addSp S q x y) := by
  refine ⟨h.1, ?_, h.2.2.1, h.2.2.2.1, h.2.2.2.2.1, fun s a b => ?_, h.2.2.2.2.2.2⟩
  · show 0 ≤ S 0 1 + 1 ∧ S 0 1 + 1 ≤ 20
    have := h.2.1
    omega
  · have b : s < S 0 1 + 1 := b
    show PR (S 0 0) (addSp S q x y 1) s
    rw [show addSp S q x y 1 = updZ (updZ (updZ (updZ (updZ (updZ (S 1) (6 * S 0 1 + 0) q) (6 * S 0 1 + 1) 0) (6 * S 0 1 + 2) 0) (6 * S 0 1 + 3) 1) (6 * S 0 1 + 4) x) (6 * S 0 1 + 5) y from rfl]
    unfold PR
    by_cases e : s = S 0 1
    · subst e
      unfold updZ
      refine ⟨?_, ?_, ?_, ?_, ?_, ?_⟩ <;> (repeat' split) <;> omega
    · have := wf_wP h s a (by omega)
      unfold PR at this
      unfold updZ
      refine ⟨?_, ?_, ?_, ?_, ?_, ?_⟩ <;> (repeat' split) <;> omega
theorem wf_sw {S : SS} {x u v : Int} (h : WF S) (hu : 0 ≤ u ∧ u < 4) (hv : 0 ≤ v ∧ v < 4) : WF (putSw S x u v) := wf_34 h (fun l a b => by
  have := h.2.2.2.2.2.2.2.1 l a b
  show 0 ≤ updZ (S 3) _ _ l ∧ updZ (S 3) _ _ l ≤ updZ (S 4) _ _ l ∧ updZ (S 4) _ _ l ≤ 3
  unfold updZ
  repeat' split
  all_goals omega)
theorem wf_swN {S : SS} {f u v : Int} (h : WF S) (hu : 0 ≤ u ∧ u < 4) (hv : 0 ≤ v ∧ v < 4) (n : Nat) : WF (swN S f u v n) := by
  induction n with
  | zero => exact h
  | succ n ih => exact wf_sw ih hu hv
theorem swN_s {S : SS} {f u v i : Int} (h : f ≤ i) : swN S f u v (i + 1 - f).toNat = putSw (swN S f u v (i - f).toNat) i u v := by
  obtain ⟨n, hn⟩ := Int.eq_ofNat_of_zero_le (show 0 ≤ i - f by omega)
  rw [show (i + 1 - f).toNat = n + 1 by omega, show (i - f).toNat = n by omega, show i = f + n by omega]
  rfl
theorem swN_0 {S : SS} {f u v : Int} : swN S f u v (f - f).toNat = S := by
  rw [show (f - f).toNat = 0 by omega]
  rfl
/-! alike parts -/
def xw (v w : Int) : Int := 2 * ((v / 2 + w / 2) % 2) + (v % 2 + w % 2) % 2
theorem xw_r (v w : Int) : 0 ≤ xw v w ∧ xw v w ≤ 3 := by unfold xw; omega
theorem xw_self {v : Int} (_ : 0 ≤ v ∧ v ≤ 3) : xw v v = 0 := by unfold xw; omega
theorem xw_0 {v : Int} (h : 0 ≤ v ∧ v ≤ 3) : xw 0 v = v := by unfold xw; omega
theorem pixW_xw (S : SS) (p r c : Int) {w u : Int} (hw : 0 ≤ w ∧ w ≤ 3) (hu : 0 ≤ u ∧ u ≤ 3) : pixW S p (xw w u) r c = pixW S p w (if u / 2 % 2 = 1 then 7 - r else r) (if u % 2 = 1 then 7 - c else c) := by
  have h1 : (xw w u / 2 % 2 = 1) ↔ ¬ ((w / 2 % 2 = 1) ↔ (u / 2 % 2 = 1)) := by unfold xw; omega
  have h2 : (xw w u % 2 = 1) ↔ ¬ ((w % 2 = 1) ↔ (u % 2 = 1)) := by unfold xw; omega
  unfold pixW
  refine congrArg (S 5) ?_
  by_cases a1 : w / 2 % 2 = 1 <;> by_cases a2 : u / 2 % 2 = 1 <;> by_cases a3 : w % 2 = 1 <;> by_cases a4 : u % 2 = 1 <;> simp only [h1, h2, a1, a2, a3, a4, iff_true, iff_false, not_true_eq_false, not_false_eq_true, if_true, if_false] <;> omega
theorem sameP_all {S : SS} {q v p w : Int} : sameP S q v p w = true ↔ ∀ r c : Int, 0 ≤ r → r < 8 → 0 ≤ c → c < 8 → pixW S q v r c = pixW S p w r c := by
  unfold sameP
  rw [allN_iff]
  constructor
  · intro h r c h1 h2 h3 h4
    have := of_decide_eq_true (h (8 * r + c) (by omega) (by omega))
    rw [show (8 * r + c) / 8 = r by omega, show (8 * r + c) % 8 = c by omega] at this
    exact this
  · intro h k h1 h2
    exact decide_eq_true (h (k / 8) (k % 8) (by omega) (by omega) (by omega) (by omega))
theorem sameP_x {S : SS} {q v p w u : Int} (hv : 0 ≤ v ∧ v ≤ 3) (hw : 0 ≤ w ∧ w ≤ 3) (hu : 0 ≤ u ∧ u ≤ 3) (h : sameP S q v p w = true) : sameP S q (xw v u) p (xw w u) = true := by
  rw [sameP_all] at h ⊢
  intro r c h1 h2 h3 h4
  rw [pixW_xw S q r c hv hu, pixW_xw S p r c hw hu]
  refine h _ _ ?_ ?_ ?_ ?_ <;> split <;> omega
theorem sameP_sym {S : SS} {q v p w : Int} (h : sameP S q v p w = true) : sameP S p w q v = true := by
  rw [sameP_all] at h ⊢
  exact fun r c h1 h2 h3 h4 => (h r c h1 h2 h3 h4).symm
theorem sameP_tr {S : SS} {q v p w o u : Int} (h : sameP S q v p w = true) (h2 : sameP S p w o u = true) : sameP S q v o u = true := by
  rw [sameP_all] at h h2 ⊢
  exact fun r c q1 q2 q3 q4 => (h r c q1 q2 q3 q4).trans (h2 r c q1 q2 q3 q4)
theorem wayF_iff {S : SS} {p w q : Int} : wayF S p w q ≠ -5 ↔ ∃ v, (0 ≤ v ∧ v ≤ 3) ∧ sameP S q v p w = true := by
  unfold wayF
  rcases ff_cases (fun v => sameP S q v p w) 0 4 with ⟨j, h1, h2, h3, -, h5⟩ | ⟨h4, h⟩
  · rw [h5]
    exact ⟨fun _ => ⟨j, ⟨h1, by omega⟩, h3⟩, fun _ => by omega⟩
  · rw [h]
    refine ⟨fun h9 => absurd rfl h9, fun ⟨v, hv, hs⟩ => ?_⟩
    have := h4 v hv.1 (by omega)
    exact absurd (hs.symm.trans this) (by decide)
theorem wayF_w {S : SS} {p w q : Int} (hw : 0 ≤ w ∧ w ≤ 3) : wayF S p w q ≠ -5 ↔ alikeB S p q = true := by
  unfold alikeB
  rw [decide_eq_true_iff, wayF_iff, wayF_iff]
  constructor
  · rintro ⟨v, hv, h⟩
    exact ⟨_, xw_r v w, by have := sameP_x hv hw hw h; rw [xw_self hw] at this; exact this⟩
  · rintro ⟨v, hv, h⟩
    exact ⟨_, xw_r v w, by have := sameP_x hv (by decide) hw h; rw [xw_0 hw] at this; exact this⟩
theorem alike_iff {S : SS} {p q : Int} : alikeB S p q = true ↔ ∃ v, (0 ≤ v ∧ v ≤ 3) ∧ sameP S q v p 0 = true := by
  unfold alikeB
  rw [decide_eq_true_iff, wayF_iff]
theorem alike_sym {S : SS} {p q : Int} (h : alikeB S p q = true) : alikeB S q p = true := by
  rw [alike_iff] at h ⊢
  obtain ⟨v, hv, h⟩ := h
  refine ⟨_, xw_r 0 v, ?_⟩
  have := sameP_sym (sameP_x hv (by decide) hv h)
  rw [xw_self hv] at this
  exact this
theorem alike_tr {S : SS} {p q o : Int} (h : alikeB S p q = true) (h2 : alikeB S q o = true) : alikeB S p o = true := by
  rw [alike_iff] at h h2 ⊢
  obtain ⟨v, hv, h⟩ := h
  obtain ⟨u, hu, h2⟩ := h2
  refine ⟨_, xw_r u v, ?_⟩
  have := sameP_x hu (by decide) hv h2
  rw [xw_0 hv] at this
  exact sameP_tr this h
theorem lowA_al {S : SS} {q : Int} (h : lowA S q ≠ q) : alikeB S q (lowA S q) = true := by
  unfold lowA at h ⊢
  rcases ff_cases (fun j => alikeB S q j) 0 q.toNat with ⟨j, h1, h2, h3, -, h5⟩ | ⟨-, h4⟩
  · rw [h5, if_neg (by omega)]
    exact h3
  · rw [h4, if_pos rfl] at h
    exact absurd rfl h
theorem lowA_min {S : SS} {q j : Int} (h0 : 0 ≤ j) (h : j < lowA S q) (hq : 0 ≤ q) : alikeB S q j = false := by
  have hr := lowA_r S hq
  unfold lowA at h
  rcases ff_cases (fun j => alikeB S q j) 0 q.toNat with ⟨i, h1, h2, -, h3, h5⟩ | ⟨h4, h5⟩
  · rw [h5, if_neg (by omega)] at h
    exact h3 j h0 h
  · rw [h5, if_pos rfl] at h
    exact h4 j h0 (by omega)
theorem lowA_low {S : SS} {q : Int} (hq : 0 ≤ q) : lowA S (lowA S q) = lowA S q := by
  have hr := lowA_r S hq
  by_cases h : lowA S (lowA S q) = lowA S q
  · exact h
  · have h1 := lowA_al h
    have h2 := lowA_r S hr.1
    have h3 := lowA_min (S := S) (q := q) h2.1 (by omega) hq
    by_cases e : lowA S q = q
    · rw [e] at h1 h3
      rw [h1] at h3
      cases h3
    · rw [alike_tr (lowA_al e) h1] at h3
      cases h3
theorem lowA_way {S : SS} {q w : Int} (hw : 0 ≤ w ∧ w ≤ 3) (h : lowA S q ≠ q) : 0 ≤ wayF S q w (lowA S q) ∧ wayF S q w (lowA S q) ≤ 3 := by
  have h1 := (wayF_w hw).2 (lowA_al h)
  have h2 := wayF_r S q w (lowA S q)
  unfold wayF at h1 h2 ⊢
  rcases ff_cases (fun v => sameP S (lowA S q) v q w) 0 4 with ⟨j, h3, h4, -, -, h5⟩ | ⟨-, h5⟩
  · omega
  · exact absurd h5 h1
theorem stay_low {S : SS} {rm x : Int} (h : 0 ≤ x ∧ x < S 0 1) (hq : 0 ≤ S 1 (6 * x + 0)) : stayF S rm (lowA S (S 1 (6 * x + 0))) = true := by
  unfold stayF
  split
  · exact decide_eq_true (lowA_low hq)
  · rw [anyN_iff]
    exact ⟨x, h.1, by omega, decide_eq_true rfl⟩
theorem pkX_r {X : Int → Int} {f : Int → Bool} (h : ∀ j, 0 ≤ j → j < 1536 → 0 ≤ X j ∧ X j ≤ 3) (n : Nat) : ∀ j, 0 ≤ j → j < 1536 → 0 ≤ pkX X f n j ∧ pkX X f n j ≤ 3 := by
  induction n with
  | zero => exact h
  | succ n ih =>
    unfold pkX
    split
    · exact putRw_r ih
    · exact ih
theorem wf_pack {S : SS} {rm : Int} (h : WF S) : WF (packS S (stayF S rm)) := by
  have hc := cntI_r (stayF S rm) h.1.1
  have h5 := wf_5 h (pkX_r (f := stayF S rm) (wf_wX h) (S 0 0).toNat)
  refine ⟨⟨hc.1, Int.le_trans hc.2 h.1.2⟩, h.2.1, h.2.2.1, h.2.2.2.1, h.2.2.2.2.1, fun s a b => ?_, h5.2.2.2.2.2.2⟩
  have b : s < S 0 1 := b
  have hp := wf_wP h s a b
  unfold PR at hp
  have hl := lowA_r S hp.1.1
  have hst := stay_low (S := S) (rm := rm) ⟨a, b⟩ hp.1.1
  have hlt := cntI_lt (f := stayF S rm) hl.1 (show lowA S (S 1 (6 * s + 0)) < S 0 0 by omega) hst
  have hc2 := cntI_r (stayF S rm) hl.1
  show PR (cntI (stayF S rm) (S 0 0)) (P1 S (stayF S rm) (S 0 1)) s
  have e0 : P1 S (stayF S rm) (S 0 1) (6 * s + 0) = cntI (stayF S rm) (lowA S (S 1 (6 * s + 0))) := by
    unfold P1
    rw [if_pos (by omega), if_pos (by omega), show (6 * s + 0) / 6 = s by omega]
  have e1 : 0 ≤ P1 S (stayF S rm) (S 0 1) (6 * s + 1) ∧ P1 S (stayF S rm) (S 0 1) (6 * s + 1) ≤ 3 := by
    unfold P1
    rw [if_pos (by omega), if_neg (by omega), show (6 * s + 1) / 6 = s by omega]
    split
    · rename_i h9
      exact lowA_way (by omega) h9.2
    · omega
  have e2 : ∀ t, 2 ≤ t → t < 6 → P1 S (stayF S rm) (S 0 1) (6 * s + t) = S 1 (6 * s + t) := fun t t1 t2 => by
    unfold P1
    rw [if_pos (by omega), if_neg (by omega), if_neg (by omega)]
  unfold PR
  rw [e0, e2 2 (by omega) (by omega), e2 3 (by omega) (by omega), e2 4 (by omega) (by omega), e2 5 (by omega) (by omega)]
  exact ⟨⟨hc2.1, hlt⟩, e1, hp.2.2⟩
/-! the whole object -/
theorem remL_wf {n : Int} {L : Nat → SS} {S : SS} (h : WF S) (hL : ∀ i : Nat, (i : Int) < n → WF (L i)) (hn : 0 ≤ n ∧ n ≤ 5) : (0 ≤ remN n ∧ remN n ≤ 5) ∧ ∀ i : Nat, (i : Int) < remN n → WF (remL n L S i) := by
  unfold remN
  refine ⟨by split <;> omega, fun i hi => ?_⟩
  unfold remL
  by_cases c : n < 5
  · rw [if_pos c] at hi ⊢
    split
    · exact h
    · exact hL i (by omega)
  · rw [if_neg c] at hi ⊢
    split
    · exact h
    · exact hL (i + 1) (by omega)
theorem act_wf {A : AS} {S2 : SS} (h : AWF A) (h2 : WF S2) : AWF (act A S2) := ⟨h2, remL_wf h.1 h.2.1.2 h.2.1.1, h.2.2⟩
