/-! Packing: the reference unites and moves as the class does. -/
theorem rr_c1 {S : SS} {F F2 Y : Int → Int} (h : RR (up2 S 1 F) Y) (e : ∀ s t, 0 ≤ s → s < S 0 1 → 0 ≤ t → t < 6 → F (6 * s + t) = F2 (6 * s + t)) : RR (up2 S 1 F2) Y := ⟨h.1, h.2.1, h.2.2.1, fun s t h1 h2 h3 h4 => (h.2.2.2.1 s t h1 h2 h3 h4).trans (e s t h1 h2 h3 h4), h.2.2.2.2⟩
def gn (S : SS) (p q j : Int) : Bool := decide (lowA S j ≠ j ∧ (lowA S j < p ∨ (lowA S j = p ∧ j < q)))
def fin (S : SS) (j : Int) : Bool := decide (lowA S j ≠ j)
def uP (S : SS) (f : Int → Bool) : Int → Int := fun k => if f (S 1 (6 * (k / 6) + 0)) = true then (if k % 6 = 0 then lowA S (S 1 (6 * (k / 6) + 0)) else if k % 6 = 1 then wayF S (S 1 (6 * (k / 6) + 0)) (S 1 (6 * (k / 6) + 1)) (lowA S (S 1 (6 * (k / 6) + 0))) else S 1 k) else S 1 k
theorem uP_at {S : SS} {f : Int → Bool} {s t : Int} (ht : 0 ≤ t ∧ t < 6) : uP S f (6 * s + t) = if f (S 1 (6 * s + 0)) = true then (if t = 0 then lowA S (S 1 (6 * s + 0)) else if t = 1 then wayF S (S 1 (6 * s + 0)) (S 1 (6 * s + 1)) (lowA S (S 1 (6 * s + 0))) else S 1 (6 * s + t)) else S 1 (6 * s + t) := by
  unfold uP
  rw [show (6 * s + t) / 6 = s by omega, show (6 * s + t) % 6 = t by omega]
theorem uP_0 {S : SS} {f : Int → Bool} {s : Int} : uP S f (6 * s + 0) = if f (S 1 (6 * s + 0)) = true then lowA S (S 1 (6 * s + 0)) else S 1 (6 * s + 0) := by
  rw [uP_at (by decide), if_pos rfl]
theorem wfU {S : SS} {f : Int → Bool} (wf : WF S) (hf : ∀ j, 0 ≤ j → j < S 0 0 → f j = true → lowA S j ≠ j) : WF (up2 S 1 (uP S f)) := wf_1 wf (fun s a b => by
  have hp := wf_wP wf s a b
  unfold PR at hp ⊢
  have hl := lowA_r S hp.1.1
  by_cases c : f (S 1 (6 * s + 0)) = true
  · have hw := lowA_way (w := S 1 (6 * s + 1)) (by omega) (hf _ hp.1.1 hp.1.2 c)
    rw [uP_at (by decide), uP_at (by decide), uP_at (by decide), uP_at (by decide), uP_at (by decide), uP_at (by decide), if_pos c, if_pos rfl, if_pos c, if_neg (by decide), if_pos rfl, if_pos c, if_neg (by decide), if_neg (by decide), if_pos c, if_neg (by decide), if_neg (by decide), if_pos c, if_neg (by decide), if_neg (by decide), if_pos c, if_neg (by decide), if_neg (by decide)]
    exact ⟨by omega, hw, hp.2.2⟩
  · rw [uP_at (by decide), uP_at (by decide), uP_at (by decide), uP_at (by decide), uP_at (by decide), uP_at (by decide), if_neg c, if_neg c, if_neg c, if_neg c, if_neg c, if_neg c]
    exact hp)
theorem uP_congr {S : SS} {f g : Int → Bool} {s t : Int} (ht : 0 ≤ t ∧ t < 6) (h : f (S 1 (6 * s + 0)) = g (S 1 (6 * s + 0))) : uP S f (6 * s + t) = uP S g (6 * s + t) := by
  rw [uP_at ht, uP_at ht, h]
theorem rr_uP {S : SS} {Y : Int → Int} {f g : Int → Bool} (wf : WF S) (h : RR (up2 S 1 (uP S f)) Y) (e : ∀ j, 0 ≤ j → j < S 0 0 → f j = g j) : RR (up2 S 1 (uP S g)) Y := rr_c1 h (fun s t h1 h2 h3 h4 => by
  have hp := wf_wP wf s h1 h2
  exact uP_congr ⟨h3, h4⟩ (e _ hp.1.1 hp.1.2))
theorem rr_uP0 {S : SS} {Y : Int → Int} {g : Int → Bool} (wf : WF S) (h : RR S Y) (e : ∀ j, 0 ≤ j → j < S 0 0 → g j = false) : RR (up2 S 1 (uP S g)) Y := by
  rw [← up2_id (S := S) (g := 1)] at h
  refine rr_c1 h (fun s t h1 h2 h3 h4 => ?_)
  have hp := wf_wP wf s h1 h2
  rw [uP_at ⟨h3, h4⟩, if_neg (by rw [e _ hp.1.1 hp.1.2]; decide)]
theorem rr_none {S : SS} {Y : Int → Int} {f : Int → Bool} (wf : WF S) (h : RR (up2 S 1 (uP S f)) Y) (e : ∀ j, 0 ≤ j → j < S 0 0 → f j = false) : RR S Y := by
  have h2 : RR (up2 S 1 (S 1)) Y := rr_c1 h (fun s t h1 h2 h3 h4 => by
    have hp := wf_wP wf s h1 h2
    rw [uP_at ⟨h3, h4⟩, if_neg (by rw [e _ hp.1.1 hp.1.2]; decide)])
  rw [up2_id] at h2
  exact h2
/-- the sprites that show q show p -/
def uniP (S : SS) (p q i : Int) : Int → Int := fun k => if (0 ≤ k ∧ k / 6 < i) ∧ S 1 (6 * (k / 6) + 0) = q then (if k % 6 = 0 then p else if k % 6 = 1 then wayF S q (S 1 (6 * (k / 6) + 1)) p else S 1 k) else S 1 k
theorem uniP_z (S : SS) (p q : Int) : up2 S 1 (uniP S p q 0) = S := by
  have e : uniP S p q 0 = S 1 := funext fun k => if_neg (by omega)
  rw [e, up2_id]
theorem uniP_rest {S : SS} {p q i k : Int} (h : 6 * i ≤ k) : (up2 S 1 (uniP S p q i)) 1 k = S 1 k := by
  rw [up2_s]
  exact if_neg (by omega)
theorem uniP_no {S : SS} {p q i : Int} (hi : 0 ≤ i) (h : S 1 (6 * i + 0) ≠ q) : uniP S p q (i + 1) = uniP S p q i := by
  funext k
  unfold uniP
  by_cases c : (0 ≤ k ∧ k / 6 < i) ∧ S 1 (6 * (k / 6) + 0) = q
  · rw [if_pos c, if_pos ⟨⟨c.1.1, by omega⟩, c.2⟩]
  · rw [if_neg c, if_neg]
    rintro ⟨⟨h1, h2⟩, h3⟩
    by_cases e : k / 6 = i
    · rw [e] at h3; exact h h3
    · exact c ⟨⟨h1, by omega⟩, h3⟩
theorem uniP_yes {S : SS} {p q i : Int} (hi : 0 ≤ i) (h : S 1 (6 * i + 0) = q) : uniP S p q (i + 1) = updZ (updZ (uniP S p q i) (6 * i + 1) (wayF S q (S 1 (6 * i + 1)) p)) (6 * i + 0) p := by
  funext k
  by_cases e : 0 ≤ k ∧ k / 6 = i
  · have hA : uniP S p q (i + 1) k = if k % 6 = 0 then p else if k % 6 = 1 then wayF S q (S 1 (6 * (k / 6) + 1)) p else S 1 k := by
      unfold uniP
      rw [if_pos ⟨⟨e.1, by omega⟩, by rw [e.2]; exact h⟩]
    have hB : uniP S p q i k = S 1 k := if_neg (by omega)
    rw [hA]
    unfold updZ
    by_cases c0 : k % 6 = 0
    · rw [if_pos c0, if_pos (by omega)]
    · rw [if_neg c0, if_neg (show ¬ k = 6 * i + 0 by omega)]
      by_cases c1 : k % 6 = 1
      · rw [if_pos c1, if_pos (show k = 6 * i + 1 by omega), e.2]
      · rw [if_neg c1, if_neg (show ¬ k = 6 * i + 1 by omega), hB]
  · rw [updZ_n (by omega), updZ_n (by omega)]
    unfold uniP
    by_cases c : (0 ≤ k ∧ k / 6 < i) ∧ S 1 (6 * (k / 6) + 0) = q
    · rw [if_pos c, if_pos ⟨⟨c.1.1, by omega⟩, c.2⟩]
    · rw [if_neg c, if_neg]
      rintro ⟨⟨h1, h2⟩, h3⟩
      exact c ⟨⟨h1, by omega⟩, h3⟩
theorem uniP_at {S : SS} {p q i s t : Int} (hs : 0 ≤ s) (ht : 0 ≤ t ∧ t < 6) : uniP S p q i (6 * s + t) = if s < i ∧ S 1 (6 * s + 0) = q then (if t = 0 then p else if t = 1 then wayF S q (S 1 (6 * s + 1)) p else S 1 (6 * s + t)) else S 1 (6 * s + t) := by
  unfold uniP
  rw [show (6 * s + t) / 6 = s by omega, show (6 * s + t) % 6 = t by omega]
  by_cases c : s < i ∧ S 1 (6 * s + 0) = q
  · rw [if_pos c, if_pos ⟨⟨by omega, c.1⟩, c.2⟩]
  · rw [if_neg c, if_neg (fun h => c ⟨h.1.2, h.2⟩)]
theorem wf_uni {S : SS} {p q i : Int} (wf : WF S) (hp : 0 ≤ p ∧ p < S 0 0) (ha : alikeB S q p = true) : WF (up2 S 1 (uniP S p q i)) := wf_1 wf (fun s a b => by
  have hr := wf_wP wf s a b
  unfold PR at hr ⊢
  rw [uniP_at a (by decide), uniP_at a (by decide), uniP_at a (by decide), uniP_at a (by decide), uniP_at a (by decide), uniP_at a (by decide)]
  by_cases c : s < i ∧ S 1 (6 * s + 0) = q
  · have h1 := (wayF_w (S := S) (p := q) (q := p) (w := S 1 (6 * s + 1)) (by omega)).2 ha
    have h2 := wayF_r S q (S 1 (6 * s + 1)) p
    have h3 : 0 ≤ wayF S q (S 1 (6 * s + 1)) p := by
      unfold wayF at h1 ⊢
      rcases ff_cases (fun v => sameP S p v q (S 1 (6 * s + 1))) 0 4 with ⟨j, g1, g2, -, -, g5⟩ | ⟨-, g5⟩
      · omega
      · exact absurd g5 h1
    rw [if_pos c, if_pos rfl, if_pos c, if_neg (by decide), if_pos rfl, if_pos c, if_neg (by decide), if_neg (by decide), if_pos c, if_neg (by decide), if_neg (by decide), if_pos c, if_neg (by decide), if_neg (by decide), if_pos c, if_neg (by decide), if_neg (by decide)]
    exact ⟨hp, ⟨h3, h2.2⟩, hr.2.2⟩
  · rw [if_neg c, if_neg c, if_neg c, if_neg c, if_neg c, if_neg c]
    exact hr)
theorem rr_un {S : SS} {Y : Int → Int} {p q i : Int} (w0 : 0 ≤ S 0 0 ∧ S 0 0 ≤ 24) (w1 : 0 ≤ S 0 1 ∧ S 0 1 ≤ 20) (hi : 0 ≤ i ∧ i < S 0 1) (h : S 1 (6 * i + 0) = q) (rr : RR (up2 S 1 (uniP S p q i)) Y) : RR (up2 S 1 (uniP S p q (i + 1))) (updZ (updZ Y (209 + 6 * i + 1) (wayF S q (S 1 (6 * i + 1)) p)) (209 + 6 * i + 0) p) := by
  have h2 := rr_prop (S := up2 (up2 S 1 (uniP S p q i)) 1 (updZ ((up2 S 1 (uniP S p q i)) 1) (6 * i + 1) (wayF S q (S 1 (6 * i + 1)) p))) (x := i) (t := 0) (v := p) w0 w1 (rr_prop (S := up2 S 1 (uniP S p q i)) (x := i) (t := 1) (v := wayF S q (S 1 (6 * i + 1)) p) w0 w1 rr (by omega) (by decide)) (by omega) (by decide)
  rw [up2_2, up2_s, up2_2, up2_s] at h2
  rw [uniP_yes hi.1 h]
  exact h2
/-- a pair that is alike: its sprites are united -/
theorem un_step {S : SS} {e u s t : Int} (hs : 0 ≤ s ∧ s < S 0 1) (ht : 0 ≤ t ∧ t < 6) (hq : 0 ≤ S 1 (6 * s + 0)) (hu : lowA S u = e) (heu : e < u) : uniP (up2 S 1 (uP S (gn S e u))) e u (S 0 1) (6 * s + t) = uP S (gn S e (u + 1)) (6 * s + t) := by
  have hgu : gn S e u u = false := by
    unfold gn
    rw [decide_eq_false_iff_not]
    omega
  have hgu1 : gn S e (u + 1) u = true := by
    unfold gn
    rw [decide_eq_true_eq]
    omega
  rw [uniP_at hs.1 ht, up2_s, wayF_up1]
  by_cases c : S 1 (6 * s + 0) = u
  · have e0 : uP S (gn S e u) (6 * s + 0) = u := by rw [uP_0, c, hgu, if_neg (by decide)]
    have e1 : uP S (gn S e u) (6 * s + 1) = S 1 (6 * s + 1) := by rw [uP_at (by decide), c, hgu, if_neg (by decide)]
    have e2 : uP S (gn S e u) (6 * s + t) = S 1 (6 * s + t) := by rw [uP_at ht, c, hgu, if_neg (by decide)]
    rw [if_pos ⟨hs.2, e0⟩, e1, e2, uP_at ht, c, hgu1, if_pos rfl, hu]
  · have hg : gn S e (u + 1) (S 1 (6 * s + 0)) = gn S e u (S 1 (6 * s + 0)) := by
      unfold gn
      exact decide_eq_decide.mpr (by omega)
    have e0 : uP S (gn S e u) (6 * s + 0) ≠ u := by
      rw [uP_0]
      by_cases d : gn S e u (S 1 (6 * s + 0)) = true
      · rw [if_pos d]
        intro h9
        have h8 := lowA_low (S := S) hq
        rw [h9, hu] at h8
        omega
      · rw [if_neg d]
        exact c
    rw [if_neg (fun h => e0 h.2), uP_at ht, uP_at ht, hg]
theorem rr_pair {S : SS} {Y : Int → Int} {e u : Int} (wf : WF S) (hu : lowA S u = e) (heu : e < u) (rr : RR (up2 (up2 S 1 (uP S (gn S e u))) 1 (uniP (up2 S 1 (uP S (gn S e u))) e u (S 0 1))) Y) : RR (up2 S 1 (uP S (gn S e (u + 1)))) Y := by
  rw [up2_2] at rr
  refine rr_c1 rr (fun s t h1 h2 h3 h4 => ?_)
  have hp := wf_wP wf s h1 h2
  exact un_step ⟨h1, h2⟩ ⟨h3, h4⟩ hp.1.1 hu heu
theorem low_pair {S : SS} {e u : Int} (he : 0 ≤ e) (heu : e < u) (h1 : gn S e u u = false) (ha : alikeB S u e = true) : lowA S u = e := by
  have hr := lowA_r S (q := u) (by omega)
  have h2 : lowA S u ≤ e := by
    rcases Int.lt_or_le e (lowA S u) with q | q
    · have := lowA_min (S := S) he q (by omega)
      rw [this] at ha
      cases ha
    · exact q
  unfold gn at h1
  rw [decide_eq_false_iff_not] at h1
  omega
theorem gn_same {S : SS} {e u j : Int} (h : j ≠ u ∨ lowA S u ≠ e) : gn S e (u + 1) j = gn S e u j := by
  unfold gn
  refine decide_eq_decide.mpr ?_
  by_cases c : j = u
  · subst c
    omega
  · omega
theorem low_no {S : SS} {e u : Int} (heu : e < u) (h : wayF S u 0 e < 0) : lowA S u ≠ e := by
  intro h9
  have h1 := lowA_al (S := S) (q := u) (by omega)
  rw [h9] at h1
  unfold alikeB at h1
  rw [decide_eq_true_eq] at h1
  have h2 := wayF_r S u 0 e
  unfold wayF at h h1 h2
  rcases ff_cases (fun v => sameP S e v u 0) 0 4 with ⟨j, g1, g2, -, -, g5⟩ | ⟨-, g5⟩
  · omega
  · exact h1 g5
theorem gn_gone {S : SS} {e u : Int} (h : gn S e u u = true) : lowA S u ≠ e := by
  unfold gn at h
  rw [decide_eq_true_eq] at h
  omega
theorem gn_end {S : SS} {e j n : Int} (hj : 0 ≤ j ∧ j < n) : gn S e n j = gn S (e + 1) (e + 2) j := by
  have h := lowA_r S hj.1
  unfold gn
  exact decide_eq_decide.mpr (by omega)
theorem gn_skip {S : SS} {e u j : Int} (he : 0 ≤ e) (hj : 0 ≤ j) (h : gn S e u e = true) : gn S e u j = gn S (e + 1) (e + 2) j := by
  have h1 := lowA_r S hj
  have h2 := lowA_low (S := S) hj
  unfold gn at h ⊢
  rw [decide_eq_true_eq] at h
  have h3 : lowA S j ≠ e := by
    intro h9
    rw [h9] at h2
    omega
  exact decide_eq_decide.mpr (by omega)
theorem gn_0 {S : SS} {j : Int} (hj : 0 ≤ j) : gn S 0 1 j = false := by
  have h := lowA_r S hj
  unfold gn
  rw [decide_eq_false_iff_not]
  omega
theorem gn_fin {S : SS} {j : Int} (hj : 0 ≤ j ∧ j < S 0 0) : gn S (S 0 0) (S 0 0 + 1) j = fin S j := by
  have h := lowA_r S hj.1
  unfold gn fin
  exact decide_eq_decide.mpr (by omega)
theorem fin_ne {S : SS} {j : Int} (h : fin S j = true) : lowA S j ≠ j := by
  unfold fin at h
  rw [decide_eq_true_eq] at h
  exact h
theorem gn_ne {S : SS} {e u j : Int} (h : gn S e u j = true) : lowA S j ≠ j := by
  unfold gn at h
  rw [decide_eq_true_eq] at h
  exact h.1
theorem uP_fin {S : SS} {s : Int} : uP S (fin S) (6 * s + 0) = lowA S (S 1 (6 * s + 0)) := by
  rw [uP_0]
  by_cases c : fin S (S 1 (6 * s + 0)) = true
  · rw [if_pos c]
  · rw [if_neg c]
    unfold fin at c
    rw [decide_eq_true_eq] at c
    omega
theorem by_cnt {S : SS} {v : Int} : cntI (fun x => decide ((up2 S 1 (uP S (fin S))) 1 (6 * x + 0) = v)) (S 0 1) = cntI (fun x => decide (lowA S (S 1 (6 * x + 0)) = v)) (S 0 1) := cntI_congr (fun x _ _ => by rw [up2_s, uP_fin])
theorem st_1 {S : SS} {rm v : Int} (wf : WF S) (h : lowA S v ≠ v) : stayF S rm v = false := by
  unfold stayF
  split
  · exact decide_eq_false h
  · rw [Bool.eq_false_iff]
    intro h9
    obtain ⟨x, h1, h2, h3⟩ := anyN_iff.mp h9
    rw [decide_eq_true_eq] at h3
    have hp := wf_wP wf x h1 (by omega)
    have h4 := lowA_low (S := S) hp.1.1
    rw [h3] at h4
    exact h h4
theorem st_2 {S : SS} {rm v : Int} (hr : rm ≠ 0) (h : cntI (fun x => decide ((up2 S 1 (uP S (fin S))) 1 (6 * x + 0) = v)) (S 0 1) = 0) : stayF S rm v = false := by
  rw [by_cnt] at h
  unfold stayF
  rw [if_neg hr, Bool.eq_false_iff]
  intro h9
  obtain ⟨x, h1, h2, h3⟩ := anyN_iff.mp h9
  have h4 := cntI_lt (f := fun x => decide (lowA S (S 1 (6 * x + 0)) = v)) h1 (show x < S 0 1 by omega) h3
  have h5 := (cntI_r (fun x => decide (lowA S (S 1 (6 * x + 0)) = v)) h1).1
  omega
theorem st_3 {S : SS} {v : Int} (h : lowA S v = v) : stayF S 0 v = true := by
  unfold stayF
  rw [if_pos rfl]
  exact decide_eq_true h
theorem st_4 {S : SS} {rm v : Int} (hr : rm ≠ 0) (h : cntI (fun x => decide ((up2 S 1 (uP S (fin S))) 1 (6 * x + 0) = v)) (S 0 1) ≠ 0) : stayF S rm v = true := by
  rw [by_cnt] at h
  unfold stayF
  rw [if_neg hr]
  cases h9 : anyN (fun x => decide (lowA S (S 1 (6 * x + 0)) = v)) (S 0 1).toNat with
  | true => rfl
  | false =>
    refine absurd (cnt_none (fun k h1 h2 => ?_)) h
    rw [Bool.eq_false_iff]
    intro h8
    rw [Bool.eq_false_iff] at h9
    exact h9 (anyN_iff.mpr ⟨k, h1, by omega, h8⟩)
theorem cnt_full {f : Int → Bool} {n : Int} (h0 : 0 ≤ n) (h : cntI f n = n) : ∀ j, 0 ≤ j → j < n → f j = true := by
  obtain ⟨m, rfl⟩ := Int.eq_ofNat_of_zero_le h0
  have h7 : cnt f m = (m : Int) := h
  clear h h0
  induction m with
  | zero => intro j h1 h2; omega
  | succ m ih =>
    rw [cnt] at h7
    have h1 := (cnt_r f m).2
    have h2 := b2_r (f m)
    intro j h3 h4
    by_cases e : j = m
    · subst e
      exact b2_1.mp (by omega)
    · exact ih (by omega) j h3 (by omega)
theorem all_stay {S : SS} {rm : Int} (wf : WF S) (h : cntI (stayF S rm) (S 0 0) = S 0 0) : ∀ j, 0 ≤ j → j < S 0 0 → fin S j = false := fun j h1 h2 => by
  have h3 := cnt_full wf.1.1 h j h1 h2
  unfold fin
  rw [decide_eq_false_iff_not]
  intro h4
  rw [st_1 wf h4] at h3
  cases h3
/-! the rows move -/
theorem putRw_z {X : Int → Int} {q : Int} {f g : Nat → Bool} : putRw X q (8 * 0) f g = X := funext fun j => if_neg (by omega)
theorem rr_mvrow {T : SS} {X Y : Int → Int} {c v r : Int} (w0 : 0 ≤ T 0 0 ∧ T 0 0 ≤ 24) (w1 : 0 ≤ T 0 1 ∧ T 0 1 ≤ 20) (hX : ∀ j, 0 ≤ j → j < 1536 → 0 ≤ X j ∧ X j ≤ 3) (hc : 0 ≤ c ∧ c ≤ v) (hv : v < T 0 0) (hr : 0 ≤ r ∧ r < 8) (rr : RR (up2 T 5 (putRw X c (8 * r) (bL X v) (bH X v))) Y) : RR (up2 T 5 (putRw X c (8 * (r + 1)) (bL X v) (bH X v))) (updZ Y (5 + 8 * c + r) (Y (5 + 8 * v + r))) := by
  obtain ⟨⟨a0, a1, a2, a3, a4⟩, hx, hcc, hs, hw⟩ := rr
  refine ⟨⟨by rw [updZ_n (by omega)]; exact a0, by rw [updZ_n (by omega)]; exact a1, by rw [updZ_n (by omega)]; exact a2, by rw [updZ_n (by omega)]; exact a3, by rw [updZ_n (by omega)]; exact a4⟩, ?_, ?_, ?_, ?_⟩
  · intro p r2 h1 h2 h3 h4
    have h2 : p < T 0 0 := h2
    show _ = iB (rowB (putRw X c (8 * (r + 1)) (bL X v) (bH X v)) (64 * p + 8 * r2))
    by_cases e : p = c ∧ r2 = r
    · rw [e.1, e.2, updZ_s, hx v r (by omega) (show v < T 0 0 from hv) hr.1 hr.2]
      refine congrArg iB ?_
      show rowB (putRw X c (8 * r) (bL X v) (bH X v)) (64 * v + 8 * r) = _
      funext k
      unfold rowB
      by_cases hk : k < 16
      · have e1 : putRw X c (8 * r) (bL X v) (bH X v) (64 * v + 8 * r + ((k / 2 : Nat) : Int)) = X (64 * v + 8 * r + ((k / 2 : Nat) : Int)) := putRw_out (by omega)
        have e2 : putRw X c (8 * (r + 1)) (bL X v) (bH X v) (64 * c + 8 * r + ((k / 2 : Nat) : Int)) = X (64 * v + 8 * r + ((k / 2 : Nat) : Int)) := by
          unfold putRw
          rw [if_pos (by omega)]
          have e3 := px_bits (X := X) (p := v) (q := 8 * r + ((k / 2 : Nat) : Int)) (by omega) (hX _ (by omega) (by omega))
          rw [show (64 * c + 8 * r + ((k / 2 : Nat) : Int) - 64 * c).toNat = (8 * r + ((k / 2 : Nat) : Int)).toNat by omega, e3]
          exact congrArg X (by omega)
        rw [e1, e2]
      · rw [decide_eq_false hk, Bool.false_and, Bool.false_and]
    · rw [updZ_n (by omega), hx p r2 h1 (show p < T 0 0 from h2) h3 h4]
      refine congrArg iB ?_
      show rowB (putRw X c (8 * r) (bL X v) (bH X v)) (64 * p + 8 * r2) = _
      refine rowB_congr (fun t q1 q2 => ?_)
      unfold putRw
      by_cases d : 64 * c ≤ 64 * p + 8 * r2 + t ∧ 64 * p + 8 * r2 + t < 64 * c + 8 * r
      · rw [if_pos d, if_pos (by omega)]
      · rw [if_neg d, if_neg (by omega)]
  · intro q2 v2 h1 h2 h3 h4
    rw [updZ_n (by omega)]
    exact hcc q2 v2 h1 h2 h3 h4
  · intro s t2 h1 h2 h3 h4
    rw [updZ_n (by omega)]
    exact hs s t2 h1 h2 h3 h4
  · intro x h1 h2
    rw [updZ_n (by omega)]
    exact hw x h1 h2
/-! the sprites' parts get their new numbers -/
def mxP (S : SS) (f : Int → Bool) (i : Int) : Int → Int := fun k => if 0 ≤ k ∧ k / 6 < i then P1 S f (S 0 1) k else uP S (fin S) k
abbrev s3 (S : SS) (F X : Int → Int) : SS := up2 (up2 S 1 F) 5 X
theorem s3_c {S : SS} {F F2 X Y : Int → Int} (h : RR (s3 S F X) Y) (e : ∀ s t, 0 ≤ s → s < S 0 1 → 0 ≤ t → t < 6 → F (6 * s + t) = F2 (6 * s + t)) : RR (s3 S F2 X) Y := ⟨h.1, h.2.1, h.2.2.1, fun s t h1 h2 h3 h4 => (h.2.2.2.1 s t h1 h2 h3 h4).trans (e s t h1 h2 h3 h4), h.2.2.2.2⟩
theorem s3_put {S : SS} {F X Y : Int → Int} {x t v : Int} (w0 : 0 ≤ S 0 0 ∧ S 0 0 ≤ 24) (w1 : 0 ≤ S 0 1 ∧ S 0 1 ≤ 20) (h : RR (s3 S F X) Y) (hx : 0 ≤ x ∧ x < 20) (ht : 0 ≤ t ∧ t < 6) : RR (s3 S (updZ F (6 * x + t) v) X) (updZ Y (209 + 6 * x + t) v) := by
  have h2 := rr_prop (S := s3 S F X) (x := x) (t := t) (v := v) w0 w1 h hx ht
  have e : up2 (s3 S F X) 1 (updZ (s3 S F X 1) (6 * x + t) v) = s3 S (updZ F (6 * x + t) v) X := by
    funext g
    show (if g = 1 then updZ (s3 S F X 1) (6 * x + t) v else s3 S F X g) = _
    by_cases c : g = 1
    · subst c; rfl
    · rw [if_neg c]
      show (if g = 5 then X else if g = 1 then F else S g) = if g = 5 then X else if g = 1 then updZ F (6 * x + t) v else S g
      rw [if_neg c, if_neg c]
  rw [e] at h2
  exact h2
theorem mx_0 {S : SS} {f : Int → Bool} : mxP S f 0 = uP S (fin S) := funext fun k => if_neg (by omega)
theorem mx_at {S : SS} {f : Int → Bool} {i : Int} : mxP S f i (6 * i + 0) = lowA S (S 1 (6 * i + 0)) := by
  unfold mxP
  rw [if_neg (by omega), uP_fin]
theorem mx_s {S : SS} {f : Int → Bool} {i s t : Int} (hi : 0 ≤ i ∧ i < S 0 1) (hs : 0 ≤ s ∧ s < S 0 1) (ht : 0 ≤ t ∧ t < 6) : updZ (mxP S f i) (6 * i + 0) (cntI f (lowA S (S 1 (6 * i + 0)))) (6 * s + t) = mxP S f (i + 1) (6 * s + t) := by
  have hP : P1 S f (S 0 1) (6 * s + t) = if t = 0 then cntI f (lowA S (S 1 (6 * s + 0))) else if t = 1 ∧ lowA S (S 1 (6 * s + 0)) ≠ S 1 (6 * s + 0) then wayF S (S 1 (6 * s + 0)) (S 1 (6 * s + 1)) (lowA S (S 1 (6 * s + 0))) else S 1 (6 * s + t) := by
    unfold P1
    rw [if_pos (by omega), show (6 * s + t) / 6 = s by omega, show (6 * s + t) % 6 = t by omega]
  unfold mxP
  by_cases e : s = i
  · subst e
    rw [if_pos (show 0 ≤ 6 * s + t ∧ (6 * s + t) / 6 < s + 1 by omega), hP]
    by_cases c : t = 0
    · rw [if_pos c, c, updZ_s]
    · rw [if_neg c, updZ_n (by omega), if_neg (show ¬ (0 ≤ 6 * s + t ∧ (6 * s + t) / 6 < s) by omega), uP_at ht, if_neg c]
      by_cases d : fin S (S 1 (6 * s + 0)) = true
      · rw [if_pos d]
        by_cases c1 : t = 1
        · rw [if_pos c1, if_pos ⟨c1, fin_ne d⟩]
        · rw [if_neg c1, if_neg (fun h => c1 h.1)]
      · rw [if_neg d, if_neg]
        rintro ⟨-, h9⟩
        unfold fin at d
        rw [decide_eq_true_eq] at d
        exact d h9
  · rw [updZ_n (by omega)]
    by_cases c : s < i
    · rw [if_pos (show 0 ≤ 6 * s + t ∧ (6 * s + t) / 6 < i by omega), if_pos (show 0 ≤ 6 * s + t ∧ (6 * s + t) / 6 < i + 1 by omega)]
    · rw [if_neg (show ¬ (0 ≤ 6 * s + t ∧ (6 * s + t) / 6 < i) by omega), if_neg (show ¬ (0 ≤ 6 * s + t ∧ (6 * s + t) / 6 < i + 1) by omega)]
theorem s3_step {S : SS} {f : Int → Bool} {X Y : Int → Int} {i : Int} (w0 : 0 ≤ S 0 0 ∧ S 0 0 ≤ 24) (w1 : 0 ≤ S 0 1 ∧ S 0 1 ≤ 20) (hi : 0 ≤ i ∧ i < S 0 1) (h : RR (s3 S (mxP S f i) X) Y) : RR (s3 S (mxP S f (i + 1)) X) (updZ Y (209 + 6 * i + 0) (cntI f (lowA S (S 1 (6 * i + 0))))) :=
  s3_c (s3_put (x := i) (t := 0) w0 w1 h (by omega) (by decide)) (fun s t h1 h2 h3 h4 => mx_s hi ⟨h1, h2⟩ ⟨h3, h4⟩)
theorem s3_fin {S : SS} {f : Int → Bool} {Y : Int → Int} (w0 : 0 ≤ S 0 0 ∧ S 0 0 ≤ 24) (w1 : 0 ≤ S 0 1 ∧ S 0 1 ≤ 20) (h : RR (s3 S (mxP S f (S 0 1)) (pkX (S 5) f (S 0 0).toNat)) Y) : RR (packS S f) (updZ Y 0 (cntI f (S 0 0))) := by
  have hc := cntI_r f w0.1
  have h := s3_c (F2 := P1 S f (S 0 1)) h (fun s t h1 h2 h3 h4 => by unfold mxP; rw [if_pos (by omega)])
  obtain ⟨⟨a0, a1, a2, a3, a4⟩, hx, hcc, hs, hw⟩ := h
  refine ⟨⟨by rw [updZ_s]; rfl, by rw [updZ_n (by decide)]; exact a1, by rw [updZ_n (by decide)]; exact a2, by rw [updZ_n (by decide)]; exact a3, by rw [updZ_n (by decide)]; exact a4⟩, ?_, ?_, ?_, ?_⟩
  · intro p r h1 h2 h3 h4
    have h2 : p < cntI f (S 0 0) := h2
    rw [updZ_n (by omega)]
    exact hx p r h1 (show p < S 0 0 by omega) h3 h4
  · intro q v h1 h2 h3 h4
    rw [updZ_n (by omega)]
    exact hcc q v h1 h2 h3 h4
  · intro s t h1 h2 h3 h4
    have h2 : s < S 0 1 := h2
    rw [updZ_n (by omega)]
    exact hs s t h1 h2 h3 h4
  · intro x h1 h2
    rw [updZ_n (by omega)]
    exact hw x h1 h2
set_option maxHeartbeats 4000000 in
set_option maxRecDepth 100000 in
theorem c_X7_of2 (l : Launch) (G : va_G) (cs : Nat → ClassId) (a : Nat → Nat) (Y : Int → Int) (kq tq nq : Int) (x t v : Int) (hx2 : 0 ≤ x ∧ x < 20) (ht : 0 ≤ t ∧ t < 6) (hY : Y (209 + 6 * x + t) = v) : MRO l yX7_of wsX7_of { frames := 0, cells := 0, slots := 0, locals := 0 } G cs [.ref (a 0), .int (zI x), .int (zI t)] (fun H => va_P G vwCl (moW cs a kq tq nq) H ∧ va_P G vwCl (m7 cs a 1 0 361 (aI Y)) H) (.int (zI v)) := by
  refine m_intro (Pw := (fun H => va_P G vwCl (moW cs a kq tq nq) H ∧ va_P G vwCl (m7 cs a 1 0 361 (aI Y)) H)) (cc := cX7_of) (maxL := 3) (ret := some .int) RX7 (by decide) rfl rfl (Nat.le_of_ble_eq_true rfl) ?_
  intro pP eE sS mM below meth cC hx hb hr hts hown hml hlk hnm hPre hK ls hl
  have hl : lv_has ls 3 [(0, .ref (a 0)), (1, .int (zI x)), (2, .int (zI t))] := hl
  obtain ⟨hMo, hRw⟩ := hPre
  have hi7 : ∀ w ∈ u_ws RX7 TX7 12, w ∈ wsX7_of := by decide +kernel
  refine lv_aload_n hx hb dX7_of_0 rfl (lv_at hl 0 rfl) ?_
  refine va_get (D := G) (ci := 7) (v := .ref ((sh a 1) 0)) (C := RX7) (T := TX7) (N := 12) hx hb hts hi7 hown hK.1 hMo 0 rfl rfl 0 (by decide) (hts (.fieldLink RX7 7 "SpriteLinesModel" "row" "[I") (by decide +kernel)) (fun _ h9 => h9) rfl dX7_of_1 ?_
  refine z_sipush (n := 209) hx hb dX7_of_4 (by decide) ?_
  refine z_bipush (n := 6) hx hb dX7_of_7 (by decide) ?_
  refine lv_iload_n hx hb dX7_of_9 rfl (lv_at hl 1 rfl) ?_
  refine z_imul hx hb dX7_of_10 ?_
  refine z_iadd hx hb dX7_of_11 ?_
  refine lv_iload_n hx hb dX7_of_12 rfl (lv_at hl 2 rfl) ?_
  refine z_iadd hx hb dX7_of_13 ?_
  refine z_iald hx hb hK.1 hRw 0 0 (F := Y) rfl rfl (by omega) (by decide) dX7_of_14 ?_
  refine z_topi (b := v) hY ?_
  exact ro_iret hx hb hr hlk dX7_of_15 rfl

set_option maxHeartbeats 4000000 in
set_option maxRecDepth 100000 in
theorem c_X7_sprites2 (l : Launch) (G : va_G) (cs : Nat → ClassId) (a : Nat → Nat) (Y : Int → Int) (kq tq nq : Int) (v : Int) (hY : Y 1 = v) : MRO l yX7_sprites wsX7_sprites { frames := 0, cells := 0, slots := 0, locals := 0 } G cs [.ref (a 0)] (fun H => va_P G vwCl (moW cs a kq tq nq) H ∧ va_P G vwCl (m7 cs a 1 0 361 (aI Y)) H) (.int (zI v)) := by
  refine m_intro (Pw := (fun H => va_P G vwCl (moW cs a kq tq nq) H ∧ va_P G vwCl (m7 cs a 1 0 361 (aI Y)) H)) (cc := cX7_sprites) (maxL := 1) (ret := some .int) RX7 (by decide) rfl rfl (Nat.le_of_ble_eq_true rfl) ?_
  intro pP eE sS mM below meth cC hx hb hr hts hown hml hlk hnm hPre hK ls hl
  have hl : lv_has ls 1 [(0, .ref (a 0))] := hl
  obtain ⟨hMo, hRw⟩ := hPre
  have hi7 : ∀ w ∈ u_ws RX7 TX7 12, w ∈ wsX7_sprites := by decide +kernel
  refine lv_aload_n hx hb dX7_sprites_0 rfl (lv_at hl 0 rfl) ?_
  refine va_get (D := G) (ci := 7) (v := .ref ((sh a 1) 0)) (C := RX7) (T := TX7) (N := 12) hx hb hts hi7 hown hK.1 hMo 0 rfl rfl 0 (by decide) (hts (.fieldLink RX7 7 "SpriteLinesModel" "row" "[I") (by decide +kernel)) (fun _ h9 => h9) rfl dX7_sprites_1 ?_
  refine z_iconst (n := 1) hx hb dX7_sprites_4 ?_
  refine z_iald hx hb hK.1 hRw 0 0 (F := Y) rfl rfl (by omega) (by decide) dX7_sprites_5 ?_
  refine z_topi (b := v) hY ?_
  exact ro_iret hx hb hr hlk dX7_sprites_6 rfl

set_option maxHeartbeats 4000000 in
set_option maxRecDepth 100000 in
theorem c_X7_unite (l : Launch) (G : va_G) (cs : Nat → ClassId) (a : Nat → Nat) (S : SS) (Y : Int → Int) (kq tq nq : Int) (p q : Int) (ia : Inj a 10) (wf : WF S) (rr : RR S Y) (hp : 0 ≤ p ∧ p < S 0 0) (hq : 0 ≤ q ∧ q < S 0 0) (ha : alikeB S q p = true) : MV l yX7_unite wsX7_unite { frames := 4, cells := 0, slots := 0, locals := 97 } G cs [.ref (a 0), .int (zI p), .int (zI q)] (fun H => va_P G vwCl (moW cs a kq tq nq) H ∧ va_P G vwCl (m7 cs a 1 0 361 (aI Y)) H) (fun H => ∃ Y2, RR (up2 S 1 (uniP S p q (S 0 1))) Y2 ∧ va_P G vwCl (m7 cs a 1 0 361 (aI Y2)) H) (AX a 1 2) 0 0 := by
  refine m_intro (Pw := (fun H => va_P G vwCl (moW cs a kq tq nq) H ∧ va_P G vwCl (m7 cs a 1 0 361 (aI Y)) H)) (cc := cX7_unite) (maxL := 4) (ret := none) RX7 (by decide) rfl rfl (Nat.le_of_ble_eq_true rfl) ?_
  intro pP eE sS mM below meth cC hx hb hr hts hown hml hlk hnm hPre hK ls hl
  have hl : lv_has ls 4 [(0, .ref (a 0)), (1, .int (zI p)), (2, .int (zI q))] := hl
  obtain ⟨hMo, hRw⟩ := hPre
  have hS : va_S (AX a 1 2) sS.heap sS.heap [] := va_S.rf
  have wf0 := wf
  obtain ⟨w0, w1, w2, w3, w4, wP, wC, wS, wX⟩ := wf
  refine z_iconst (n := 0) hx hb dX7_unite_0 ?_
  refine lv_istore_n (lv' := [(3, .int (zI 0)), (0, .ref (a 0)), (1, .int (zI p)), (2, .int (zI q))]) hx hb dX7_unite_1 rfl hl (by decide) rfl (fun ls hl => ?_)
  -- loop 2
  refine z_loopH (nL := 4) (fun ((i, Y2) : Int × (Int → Int)) => [(0, .ref (a 0)), (1, .int (zI p)), (2, .int (zI q)), (3, .int (zI i))]) (fun ((i, Y2) : Int × (Int → Int)) (H : Heap) => ((0 ≤ i ∧ i ≤ S 0 1) ∧ RR (up2 S 1 (uniP S p q i)) Y2) ∧ va_P G vwCl (moW cs a kq tq nq) H ∧ va_P G vwCl (m7 cs a 1 0 361 (aI Y2)) H) (fun ((i, Y2) : Int × (Int → Int)) => (S 0 1 - i).toNat) (0, Y) ⟨⟨by omega, by rw [uniP_z]; exact rr⟩, hMo, hRw⟩ hS (lv_sub hl [1, 2, 3, 0] rfl) (fun x_ H locs hIH hS ih ls hl => ?_)
  obtain ⟨i, Y2⟩ := x_
  obtain ⟨hI, hMo, hRw⟩ := hIH
  have hI : (0 ≤ i ∧ i ≤ S 0 1) ∧ RR (up2 S 1 (uniP S p q i)) Y2 := hI
  have hMo : va_P G vwCl (moW cs a kq tq nq) H := hMo
  have hRw : va_P G vwCl (m7 cs a 1 0 361 (aI Y2)) H := hRw
  have hl : lv_has ls 4 [(0, .ref (a 0)), (1, .int (zI p)), (2, .int (zI q)), (3, .int (zI i))] := hl
  obtain ⟨hI, hRi⟩ := hI
  refine lv_iload_n hx hb dX7_unite_2 rfl (lv_at hl 3 rfl) ?_
  refine lv_aload_n hx hb dX7_unite_3 rfl (lv_at hl 0 rfl) ?_
  refine z_ro (zrV (As := []) (rest := [.int (zI i)]) (Pw := fun H => va_P G vwCl (moW cs a kq tq nq) H ∧ va_P G vwCl (m7 cs a 1 0 361 (aI Y2)) H) ⟨hx, hb, hml, hown, hts⟩ (c_X7_sprites2 l G cs a Y2 kq tq nq (S 0 1) hRi.1.2.1) gX7_unite_X7_sprites rfl qX7_sprites rfl rfl ⟨Nat.le_of_ble_eq_true rfl, Nat.le_of_ble_eq_true rfl⟩ ⟨hMo, hRw⟩ hK (va_recv hK.1 hMo (ci := 7) (q0 := 0) rfl rfl) hl.1 rfl (Nat.le_of_ble_eq_true rfl) dX7_unite_4 ⟨Nat.le_of_ble_eq_true rfl, Nat.le_of_ble_eq_true rfl⟩) ?_
  refine z_icmp_ge (tgt := 51) hx hb dX7_unite_7 (by decide) (by omega) (by omega) (fun c1 => ?_) (fun c1 => ?_)
  · skip
    exact v_ret hx hb hr hlk dX7_unite_51 hS ⟨Y2, by rw [show i = S 0 1 by omega] at hRi; exact hRi, hRw⟩
  · skip
    have hPi := wP i hI.1 (by omega)
    refine lv_aload_n hx hb dX7_unite_10 rfl (lv_at hl 0 rfl) ?_
    refine lv_iload_n hx hb dX7_unite_11 rfl (lv_at hl 3 rfl) ?_
    refine z_iconst (n := 0) hx hb dX7_unite_12 ?_
    refine z_ro (zrV (As := [.int (zI i), .int (zI 0)]) (rest := []) (Pw := fun H => va_P G vwCl (moW cs a kq tq nq) H ∧ va_P G vwCl (m7 cs a 1 0 361 (aI Y2)) H) ⟨hx, hb, hml, hown, hts⟩ (c_X7_of2 l G cs a Y2 kq tq nq i 0 (S 1 (6 * i + 0)) (by omega) (by omega) ((hRi.2.2.2.1 i 0 hI.1 (show i < S 0 1 by omega) (by decide) (by decide)).trans (uniP_rest (by omega)))) gX7_unite_X7_of rfl qX7_of rfl rfl ⟨Nat.le_of_ble_eq_true rfl, Nat.le_of_ble_eq_true rfl⟩ ⟨hMo, hRw⟩ hK (va_recv hK.1 hMo (ci := 7) (q0 := 0) rfl rfl) hl.1 rfl (Nat.le_of_ble_eq_true rfl) dX7_unite_13 ⟨Nat.le_of_ble_eq_true rfl, Nat.le_of_ble_eq_true rfl⟩) ?_
    refine lv_iload_n hx hb dX7_unite_16 rfl (lv_at hl 2 rfl) ?_
    refine z_icmp_ne (tgt := 45) hx hb dX7_unite_17 (by decide) (by omega) (by omega) (fun c3 => ?_) (fun c3 => ?_)
    · skip
      refine z_iinc (k := 3) (lv' := [(3, .int (zI (i + 1))), (0, .ref (a 0)), (1, .int (zI p)), (2, .int (zI q))]) hx hb dX7_unite_45 hl rfl (by decide) rfl (fun ls hl => ?_)
      refine lv_goto (tgt := 2) hx hb dX7_unite_48 (by decide) ?_
      exact ih (i + 1, Y2) H locs ⟨⟨by omega, by rw [uniP_no hI.1 c3]; exact hRi⟩, hMo, hRw⟩ hS (by show (S 0 1 - (i + 1)).toNat < (S 0 1 - i).toNat; omega) ls (lv_sub hl [1, 2, 3, 0] rfl)
    · skip
      refine lv_aload_n hx hb dX7_unite_20 rfl (lv_at hl 0 rfl) ?_
      refine lv_iload_n hx hb dX7_unite_21 rfl (lv_at hl 3 rfl) ?_
      refine z_iconst (n := 1) hx hb dX7_unite_22 ?_
      refine lv_aload_n hx hb dX7_unite_23 rfl (lv_at hl 0 rfl) ?_
      refine lv_iload_n hx hb dX7_unite_24 rfl (lv_at hl 1 rfl) ?_
      refine lv_iload_n hx hb dX7_unite_25 rfl (lv_at hl 2 rfl) ?_
      refine lv_aload_n hx hb dX7_unite_26 rfl (lv_at hl 0 rfl) ?_
      refine lv_iload_n hx hb dX7_unite_27 rfl (lv_at hl 3 rfl) ?_
      refine z_iconst (n := 1) hx hb dX7_unite_28 ?_
      refine z_ro (zrV (As := [.int (zI i), .int (zI 1)]) (rest := [.int (zI q), .int (zI p), .ref (a 0), .int (zI 1), .int (zI i), .ref (a 0)]) (Pw := fun H => va_P G vwCl (moW cs a kq tq nq) H ∧ va_P G vwCl (m7 cs a 1 0 361 (aI Y2)) H) ⟨hx, hb, hml, hown, hts⟩ (c_X7_of2 l G cs a Y2 kq tq nq i 1 (S 1 (6 * i + 1)) (by omega) (by omega) ((hRi.2.2.2.1 i 1 hI.1 (show i < S 0 1 by omega) (by decide) (by decide)).trans (uniP_rest (by omega)))) gX7_unite_X7_of rfl qX7_of rfl rfl ⟨Nat.le_of_ble_eq_true rfl, Nat.le_of_ble_eq_true rfl⟩ ⟨hMo, hRw⟩ hK (va_recv hK.1 hMo (ci := 7) (q0 := 0) rfl rfl) hl.1 rfl (Nat.le_of_ble_eq_true rfl) dX7_unite_29 ⟨Nat.le_of_ble_eq_true rfl, Nat.le_of_ble_eq_true rfl⟩) ?_
      refine z_ro (zrV (As := [.int (zI p), .int (zI q), .int (zI (S 1 (6 * i + 1)))]) (rest := [.int (zI 1), .int (zI i), .ref (a 0)]) (Pw := fun H => va_P G vwCl (moW cs a kq tq nq) H ∧ va_P G vwCl (m7 cs a 1 0 361 (aI Y2)) H) ⟨hx, hb, hml, hown, hts⟩ (c_X7_flipFor l G cs a (up2 S 1 (uniP S p q i)) Y2 kq tq nq p q (S 1 (6 * i + 1)) (wf_uni wf0 hp ha) hRi (show 0 ≤ p ∧ p < S 0 0 by omega) (show 0 ≤ q ∧ q < S 0 0 by omega) (by omega)) gX7_unite_X7_flipFor rfl qX7_flipFor rfl rfl ⟨Nat.le_of_ble_eq_true rfl, Nat.le_of_ble_eq_true rfl⟩ ⟨hMo, hRw⟩ hK (va_recv hK.1 hMo (ci := 7) (q0 := 0) rfl rfl) hl.1 rfl (Nat.le_of_ble_eq_true rfl) dX7_unite_32 ⟨Nat.le_of_ble_eq_true rfl, Nat.le_of_ble_eq_true rfl⟩) ?_
      refine z_topi (b := wayF S q (S 1 (6 * i + 1)) p) (wayF_up1 S _ _ _ _) ?_
      refine z_v (zrV (As := [.int (zI i), .int (zI 1), .int (zI (wayF S q (S 1 (6 * i + 1)) p))]) (rest := []) (Pw := fun H => va_P G vwCl (moW cs a kq tq nq) H ∧ va_P G vwCl (m7 cs a 1 0 361 (aI Y2)) H) ⟨hx, hb, hml, hown, hts⟩ (c_X7_put l G cs a S Y2 kq tq nq i 1 (wayF S q (S 1 (6 * i + 1)) p) ia (by omega) (by omega)) gX7_unite_X7_put rfl qX7_put rfl rfl ⟨Nat.le_of_ble_eq_true rfl, Nat.le_of_ble_eq_true rfl⟩ ⟨hMo, hRw⟩ hK (va_recv hK.1 hMo (ci := 7) (q0 := 0) rfl rfl) hl.1 rfl (Nat.le_of_ble_eq_true rfl) dX7_unite_35 ⟨Nat.le_of_ble_eq_true rfl, Nat.le_of_ble_eq_true rfl⟩) hS (fun q h => ax_mono h (by decide) (by decide)) (fun q h => ax_mono h (by decide) (by decide)) (fun H locs hpost hle hk hS => ?_)
      have hRw' := hpost
      have hMo := keepO (ordMo cs a kq tq nq) hMo hk (fun j hj ⟨i, h1, h2, h3⟩ => absurd (ia j i (by omega) (by omega) h3) (by omega))
      have hRw : va_P G vwCl (m7 cs a 1 0 361 (aI (updZ Y2 (209 + 6 * i + 1) (wayF S q (S 1 (6 * i + 1)) p)))) H := hRw'
      refine lv_aload_n hx hb dX7_unite_38 rfl (lv_at hl 0 rfl) ?_
      refine lv_iload_n hx hb dX7_unite_39 rfl (lv_at hl 3 rfl) ?_
      refine z_iconst (n := 0) hx hb dX7_unite_40 ?_
      refine lv_iload_n hx hb dX7_unite_41 rfl (lv_at hl 1 rfl) ?_
      refine z_v (zrV (As := [.int (zI i), .int (zI 0), .int (zI p)]) (rest := []) (Pw := fun H => va_P G vwCl (moW cs a kq tq nq) H ∧ va_P G vwCl (m7 cs a 1 0 361 (aI (updZ Y2 (209 + 6 * i + 1) (wayF S q (S 1 (6 * i + 1)) p)))) H) ⟨hx, hb, hml, hown, hts⟩ (c_X7_put l G cs a S (updZ Y2 (209 + 6 * i + 1) (wayF S q (S 1 (6 * i + 1)) p)) kq tq nq i 0 p ia (by omega) (by omega)) gX7_unite_X7_put rfl qX7_put rfl rfl ⟨Nat.le_of_ble_eq_true rfl, Nat.le_of_ble_eq_true rfl⟩ ⟨hMo, hRw⟩ hK (va_recv hK.1 hMo (ci := 7) (q0 := 0) rfl rfl) hl.1 rfl (Nat.le_of_ble_eq_true rfl) dX7_unite_42 ⟨Nat.le_of_ble_eq_true rfl, Nat.le_of_ble_eq_true rfl⟩) hS (fun q h => ax_mono h (by decide) (by decide)) (fun q h => ax_mono h (by decide) (by decide)) (fun H locs hpost hle hk hS => ?_)
      have hRw' := hpost
      have hMo := keepO (ordMo cs a kq tq nq) hMo hk (fun j hj ⟨i, h1, h2, h3⟩ => absurd (ia j i (by omega) (by omega) h3) (by omega))
      have hRw : va_P G vwCl (m7 cs a 1 0 361 (aI (updZ (updZ Y2 (209 + 6 * i + 1) (wayF S q (S 1 (6 * i + 1)) p)) (209 + 6 * i + 0) p))) H := hRw'
      refine z_iinc (k := 3) (lv' := [(3, .int (zI (i + 1))), (0, .ref (a 0)), (1, .int (zI p)), (2, .int (zI q))]) hx hb dX7_unite_45 hl rfl (by decide) rfl (fun ls hl => ?_)
      refine lv_goto (tgt := 2) hx hb dX7_unite_48 (by decide) ?_
      exact ih (i + 1, updZ (updZ Y2 (209 + 6 * i + 1) (wayF S q (S 1 (6 * i + 1)) p)) (209 + 6 * i + 0) p) H locs ⟨⟨by omega, rr_un w0 w1 (by omega) c3 hRi⟩, hMo, hRw⟩ hS (by show (S 0 1 - (i + 1)).toNat < (S 0 1 - i).toNat; omega) ls (lv_sub hl [1, 2, 3, 0] rfl)

set_option maxHeartbeats 4000000 in
set_option maxRecDepth 100000 in
theorem c_X7_pack (l : Launch) (G : va_G) (cs : Nat → ClassId) (a : Nat → Nat) (S : SS) (n : Int) (L : Nat → SS) (tl : Int) (X : Int → Int) (k : Nat → Bool) (V : Nat → SS) (rm : Int) (ia : Inj a 10) (hA : AWF (S, (n, L), (tl, X), (k, V))) (hrm : rm = 0 ∨ rm = 1) : MW l yX7_pack wsX7_pack { frames := 5, cells := 0, slots := 0, locals := 120 } G cs [.ref (a 0), .int (zI rm)] (fun H => MI G cs a (S, (n, L), (tl, X), (k, V)) H) (fun vv H => vv = .int (zI (packF (S, (n, L), (tl, X), (k, V)) rm).1) ∧ MI G cs a (packF (S, (n, L), (tl, X), (k, V)) rm).2 H) (AX a 0 10) 0 0 := by
  refine m_intro (Pw := (fun H => MI G cs a (S, (n, L), (tl, X), (k, V)) H)) (cc := cX7_pack) (maxL := 6) (ret := some .int) RX7 (by decide) rfl rfl (Nat.le_of_ble_eq_true rfl) ?_
  intro pP eE sS mM below meth cC hx hb hr hts hown hml hlk hnm hPre hK ls hl
  have hl : lv_has ls 6 [(0, .ref (a 0)), (1, .int (zI rm))] := hl
  have hMI := hPre
  have hS : va_S (AX a 0 10) sS.heap sS.heap [] := va_S.rf
  have hi7 : ∀ w ∈ u_ws RX7 TX7 12, w ∈ wsX7_pack := by decide +kernel
  obtain ⟨Y, Z, Hh, Sl, Kp, Go, Nt, rn, Rd, rr, hHR, hSR, hMo, hRw, hSc, hHs, hSl, hKp, hGo, hNt, hTx, hRd⟩ := hMI
  obtain ⟨wf, ⟨hn, hL9⟩, ⟨htl, hX⟩, hV9⟩ := hA
  have wf : WF S := wf
  have hn : 0 ≤ n ∧ n ≤ 5 := hn
  have htl : 0 ≤ tl ∧ tl ≤ 60 := htl
  have hX : ∀ j, 0 ≤ j → j < 60 → 0 ≤ X j ∧ X j < 65536 := hX
  have rr : RR S Y := rr
  have hHR : HR n L Hh := hHR
  have hSR : SR k V Kp Sl := hSR
  have hL9 : ∀ i : Nat, (i : Int) < n → WF (L i) := hL9
  have hV9 : ∀ s : Nat, s < 2 → k s = true → WF (V s) := hV9
  have hMo : va_P G vwCl (moW cs a n tl rn) sS.heap := hMo
  have hRw : va_P G vwCl (m7 cs a 1 0 361 (aI Y)) sS.heap := hRw
  have hSc : va_P G vwCl (m7 cs a 2 0 361 (aI Z)) sS.heap := hSc
  have hHs : va_P G vwCl (m7 cs a 3 0 1805 (aI Hh)) sS.heap := hHs
  have hSl : va_P G vwCl (m7 cs a 4 0 722 (aI Sl)) sS.heap := hSl
  have hKp : va_P G vwCl (m7 cs a 5 2 2 (aI Kp)) sS.heap := hKp
  have hGo : va_P G vwCl (m7 cs a 6 2 24 (aI Go)) sS.heap := hGo
  have hNt : va_P G vwCl (m7 cs a 7 0 24 (aI Nt)) sS.heap := hNt
  have hTx : va_P G vwCl (m7 cs a 8 3 60 (aI X)) sS.heap := hTx
  have hRd : va_P G vwCl (m7 cs a 9 0 8 (cB Rd)) sS.heap := hRd
  have wf0 := wf
  obtain ⟨w0, w1, w2, w3, w4, wP, wC, wS, wX⟩ := wf
  refine lv_aload_n hx hb dX7_pack_0 rfl (lv_at hl 0 rfl) ?_
  refine z_v (zrV (As := []) (rest := []) (Pw := fun H => va_P G vwCl (moW cs a n tl rn) H ∧ va_P G vwCl (m7 cs a 1 0 361 (aI Y)) H ∧ va_P G vwCl (m7 cs a 2 0 361 (aI Z)) H) ⟨hx, hb, hml, hown, hts⟩ (c_X7_begin l G cs a Y Z n tl rn ia) gX7_pack_X7_begin rfl qX7_begin rfl rfl ⟨Nat.le_of_ble_eq_true rfl, Nat.le_of_ble_eq_true rfl⟩ ⟨hMo, hRw, hSc⟩ hK (va_recv hK.1 hMo (ci := 7) (q0 := 0) rfl rfl) hl.1 rfl (Nat.le_of_ble_eq_true rfl) dX7_pack_1 ⟨Nat.le_of_ble_eq_true rfl, Nat.le_of_ble_eq_true rfl⟩) hS (fun q h => ax_mono h (by decide) (by decide)) (fun q h => ax_mono h (by decide) (by decide)) (fun H locs hpost hle hk hS => ?_)
  have hSc' := hpost
  have hMo := keepO (ordMo cs a n tl rn) hMo hk (fun j hj ⟨i, h1, h2, h3⟩ => absurd (ia j i (by omega) (by omega) h3) (by omega))
  have hRw := keepO (ordM7 cs a 1 0 361 (aI Y)) hRw hk (fun j hj ⟨i, h1, h2, h3⟩ => absurd (ia (1 + j) i (by omega) (by omega) h3) (by omega))
  have hHs := keepO (ordM7 cs a 3 0 1805 (aI Hh)) hHs hk (fun j hj ⟨i, h1, h2, h3⟩ => absurd (ia (3 + j) i (by omega) (by omega) h3) (by omega))
  have hSl := keepO (ordM7 cs a 4 0 722 (aI Sl)) hSl hk (fun j hj ⟨i, h1, h2, h3⟩ => absurd (ia (4 + j) i (by omega) (by omega) h3) (by omega))
  have hKp := keepO (ordM7 cs a 5 2 2 (aI Kp)) hKp hk (fun j hj ⟨i, h1, h2, h3⟩ => absurd (ia (5 + j) i (by omega) (by omega) h3) (by omega))
  have hGo := keepO (ordM7 cs a 6 2 24 (aI Go)) hGo hk (fun j hj ⟨i, h1, h2, h3⟩ => absurd (ia (6 + j) i (by omega) (by omega) h3) (by omega))
  have hNt := keepO (ordM7 cs a 7 0 24 (aI Nt)) hNt hk (fun j hj ⟨i, h1, h2, h3⟩ => absurd (ia (7 + j) i (by omega) (by omega) h3) (by omega))
  have hTx := keepO (ordM7 cs a 8 3 60 (aI X)) hTx hk (fun j hj ⟨i, h1, h2, h3⟩ => absurd (ia (8 + j) i (by omega) (by omega) h3) (by omega))
  have hRd := keepO (ordM7 cs a 9 0 8 (cB Rd)) hRd hk (fun j hj ⟨i, h1, h2, h3⟩ => absurd (ia (9 + j) i (by omega) (by omega) h3) (by omega))
  have hSc : va_P G vwCl (m7 cs a 2 0 361 (aI (cpZ Z Y 361))) H := hSc'
  refine lv_aload_n hx hb dX7_pack_4 rfl (lv_at hl 0 rfl) ?_
  refine va_get (D := G) (ci := 7) (v := .ref ((sh a 1) 0)) (C := RX7) (T := TX7) (N := 12) hx hb hts hi7 hown hK.1 hMo 0 rfl rfl 0 (by decide) (hts (.fieldLink RX7 7 "SpriteLinesModel" "row" "[I") (by decide +kernel)) (fun _ h9 => h9) rfl dX7_pack_5 ?_
  refine z_iconst (n := 0) hx hb dX7_pack_8 ?_
  refine z_iald hx hb hK.1 hRw 0 0 (F := Y) rfl rfl (by omega) (by decide) dX7_pack_9 ?_
  refine z_topi (b := S 0 0) rr.1.1 ?_
  refine lv_istore_n (lv' := [(2, .int (zI (S 0 0))), (0, .ref (a 0)), (1, .int (zI rm))]) hx hb dX7_pack_10 rfl hl (by decide) rfl (fun ls hl => ?_)
  refine z_iconst (n := 0) hx hb dX7_pack_11 ?_
  refine lv_istore_n (lv' := [(3, .int (zI 0)), (2, .int (zI (S 0 0))), (0, .ref (a 0)), (1, .int (zI rm))]) hx hb dX7_pack_12 rfl hl (by decide) rfl (fun ls hl => ?_)
  -- loop 13
  refine z_loopH (nL := 6) (fun ((i, G1) : Int × (Int → Int)) => [(0, .ref (a 0)), (1, .int (zI rm)), (2, .int (zI (S 0 0))), (3, .int (zI i))]) (fun ((i, G1) : Int × (Int → Int)) (H : Heap) => ((0 ≤ i ∧ i ≤ S 0 0) ∧ ∀ j, 0 ≤ j → j < i → G1 j = 0) ∧ va_P G vwCl (moW cs a n tl rn) H ∧ va_P G vwCl (m7 cs a 1 0 361 (aI Y)) H ∧ va_P G vwCl (m7 cs a 2 0 361 (aI (cpZ Z Y 361))) H ∧ va_P G vwCl (m7 cs a 3 0 1805 (aI Hh)) H ∧ va_P G vwCl (m7 cs a 4 0 722 (aI Sl)) H ∧ va_P G vwCl (m7 cs a 5 2 2 (aI Kp)) H ∧ va_P G vwCl (m7 cs a 6 2 24 (aI G1)) H ∧ va_P G vwCl (m7 cs a 7 0 24 (aI Nt)) H ∧ va_P G vwCl (m7 cs a 8 3 60 (aI X)) H ∧ va_P G vwCl (m7 cs a 9 0 8 (cB Rd)) H) (fun ((i, G1) : Int × (Int → Int)) => (S 0 0 - i).toNat) (0, Go) ⟨⟨by omega, fun j h1 h2 => by omega⟩, hMo, hRw, hSc, hHs, hSl, hKp, hGo, hNt, hTx, hRd⟩ hS (lv_sub hl [2, 3, 1, 0] rfl) (fun x_ H locs hIH hS ih ls hl => ?_)
  obtain ⟨i, G1⟩ := x_
  obtain ⟨hI, hMo, hRw, hSc, hHs, hSl, hKp, hGo, hNt, hTx, hRd⟩ := hIH
  have hI : (0 ≤ i ∧ i ≤ S 0 0) ∧ ∀ j, 0 ≤ j → j < i → G1 j = 0 := hI
  have hMo : va_P G vwCl (moW cs a n tl rn) H := hMo
  have hRw : va_P G vwCl (m7 cs a 1 0 361 (aI Y)) H := hRw
  have hSc : va_P G vwCl (m7 cs a 2 0 361 (aI (cpZ Z Y 361))) H := hSc
  have hHs : va_P G vwCl (m7 cs a 3 0 1805 (aI Hh)) H := hHs
  have hSl : va_P G vwCl (m7 cs a 4 0 722 (aI Sl)) H := hSl
  have hKp : va_P G vwCl (m7 cs a 5 2 2 (aI Kp)) H := hKp
  have hGo : va_P G vwCl (m7 cs a 6 2 24 (aI G1)) H := hGo
  have hNt : va_P G vwCl (m7 cs a 7 0 24 (aI Nt)) H := hNt
  have hTx : va_P G vwCl (m7 cs a 8 3 60 (aI X)) H := hTx
  have hRd : va_P G vwCl (m7 cs a 9 0 8 (cB Rd)) H := hRd
  have hl : lv_has ls 6 [(0, .ref (a 0)), (1, .int (zI rm)), (2, .int (zI (S 0 0))), (3, .int (zI i))] := hl
  have ihA := ih
  obtain ⟨hIA, hJA⟩ := hI
  refine lv_iload_n hx hb dX7_pack_13 rfl (lv_at hl 3 rfl) ?_
  refine lv_iload_n hx hb dX7_pack_14 rfl (lv_at hl 2 rfl) ?_
  refine z_icmp_ge (tgt := 31) hx hb dX7_pack_15 (by decide) (by omega) (by omega) (fun c1 => ?_) (fun c1 => ?_)
  · skip
    refine z_iconst (n := 0) hx hb dX7_pack_31 ?_
    refine lv_istore_n (lv' := [(3, .int (zI 0)), (0, .ref (a 0)), (1, .int (zI rm)), (2, .int (zI (S 0 0)))]) hx hb dX7_pack_32 rfl hl (by decide) rfl (fun ls hl => ?_)
    -- loop 33
    refine z_loopH (nL := 6) (fun ((d, G2, Y2) : Int × (Int → Int) × (Int → Int)) => [(0, .ref (a 0)), (1, .int (zI rm)), (2, .int (zI (S 0 0))), (3, .int (zI d))]) (fun ((d, G2, Y2) : Int × (Int → Int) × (Int → Int)) (H : Heap) => (((0 ≤ d ∧ d ≤ S 0 0) ∧ ∀ j, 0 ≤ j → j < S 0 0 → G2 j = b2 (gn S d (d + 1) j)) ∧ RR (up2 S 1 (uP S (gn S d (d + 1)))) Y2) ∧ va_P G vwCl (moW cs a n tl rn) H ∧ va_P G vwCl (m7 cs a 1 0 361 (aI Y2)) H ∧ va_P G vwCl (m7 cs a 2 0 361 (aI (cpZ Z Y 361))) H ∧ va_P G vwCl (m7 cs a 3 0 1805 (aI Hh)) H ∧ va_P G vwCl (m7 cs a 4 0 722 (aI Sl)) H ∧ va_P G vwCl (m7 cs a 5 2 2 (aI Kp)) H ∧ va_P G vwCl (m7 cs a 6 2 24 (aI G2)) H ∧ va_P G vwCl (m7 cs a 7 0 24 (aI Nt)) H ∧ va_P G vwCl (m7 cs a 8 3 60 (aI X)) H ∧ va_P G vwCl (m7 cs a 9 0 8 (cB Rd)) H) (fun ((d, G2, Y2) : Int × (Int → Int) × (Int → Int)) => (S 0 0 - d).toNat) (0, G1, Y) ⟨⟨⟨by omega, fun j h1 h2 => by rw [hJA j h1 (by omega), show (0 : Int) + 1 = 1 from rfl, gn_0 h1]; rfl⟩, rr_uP0 wf0 rr (fun j h1 _ => gn_0 h1)⟩, hMo, hRw, hSc, hHs, hSl, hKp, hGo, hNt, hTx, hRd⟩ hS (lv_sub hl [1, 2, 3, 0] rfl) (fun x_ H locs hIH hS ih ls hl => ?_)
    obtain ⟨d, G2, Y2⟩ := x_
    obtain ⟨hI, hMo, hRw, hSc, hHs, hSl, hKp, hGo, hNt, hTx, hRd⟩ := hIH
    have hI : ((0 ≤ d ∧ d ≤ S 0 0) ∧ ∀ j, 0 ≤ j → j < S 0 0 → G2 j = b2 (gn S d (d + 1) j)) ∧ RR (up2 S 1 (uP S (gn S d (d + 1)))) Y2 := hI
    have hMo : va_P G vwCl (moW cs a n tl rn) H := hMo
    have hRw : va_P G vwCl (m7 cs a 1 0 361 (aI Y2)) H := hRw
    have hSc : va_P G vwCl (m7 cs a 2 0 361 (aI (cpZ Z Y 361))) H := hSc
    have hHs : va_P G vwCl (m7 cs a 3 0 1805 (aI Hh)) H := hHs
    have hSl : va_P G vwCl (m7 cs a 4 0 722 (aI Sl)) H := hSl
    have hKp : va_P G vwCl (m7 cs a 5 2 2 (aI Kp)) H := hKp
    have hGo : va_P G vwCl (m7 cs a 6 2 24 (aI G2)) H := hGo
    have hNt : va_P G vwCl (m7 cs a 7 0 24 (aI Nt)) H := hNt
    have hTx : va_P G vwCl (m7 cs a 8 3 60 (aI X)) H := hTx
    have hRd : va_P G vwCl (m7 cs a 9 0 8 (cB Rd)) H := hRd
    have hl : lv_has ls 6 [(0, .ref (a 0)), (1, .int (zI rm)), (2, .int (zI (S 0 0))), (3, .int (zI d))] := hl
    have ihB := ih
    obtain ⟨⟨hIB, hGB⟩, hRB⟩ := hI
    refine lv_iload_n hx hb dX7_pack_33 rfl (lv_at hl 3 rfl) ?_
    refine lv_iload_n hx hb dX7_pack_34 rfl (lv_at hl 2 rfl) ?_
    refine z_icmp_ge (tgt := 106) hx hb dX7_pack_35 (by decide) (by omega) (by omega) (fun c2 => ?_) (fun c2 => ?_)
    · skip
      refine z_iconst (n := 0) hx hb dX7_pack_106 ?_
      refine lv_istore_n (lv' := [(3, .int (zI 0)), (0, .ref (a 0)), (1, .int (zI rm)), (2, .int (zI (S 0 0)))]) hx hb dX7_pack_107 rfl hl (by decide) rfl (fun ls hl => ?_)
      refine z_iconst (n := 0) hx hb dX7_pack_108 ?_
      refine lv_istore (lv' := [(4, .int (zI 0)), (3, .int (zI 0)), (0, .ref (a 0)), (1, .int (zI rm)), (2, .int (zI (S 0 0)))]) hx hb dX7_pack_109 hl (by decide) rfl (fun ls hl => ?_)
      -- loop 111
      have hRF : RR (up2 S 1 (uP S (fin S))) Y2 := by
        rw [show d = S 0 0 by omega] at hRB
        exact rr_uP wf0 hRB (fun j h1 h2 => gn_fin ⟨h1, h2⟩)
      have wfF : WF (up2 S 1 (uP S (fin S))) := wfU wf0 (fun j _ _ h => fin_ne h)
      refine z_loopH (nL := 6) (fun ((v, G4, N4) : Int × (Int → Int) × (Int → Int)) => [(0, .ref (a 0)), (1, .int (zI rm)), (2, .int (zI (S 0 0))), (3, .int (zI (cntI (stayF S rm) v))), (4, .int (zI v))]) (fun ((v, G4, N4) : Int × (Int → Int) × (Int → Int)) (H : Heap) => ((((0 ≤ v ∧ v ≤ S 0 0) ∧ ∀ j, 0 ≤ j → j < v → G4 j = b2 (!stayF S rm j)) ∧ ∀ j, v ≤ j → j < S 0 0 → G4 j = b2 (fin S j)) ∧ ∀ j, 0 ≤ j → j < v → N4 j = cntI (stayF S rm) j) ∧ va_P G vwCl (moW cs a n tl rn) H ∧ va_P G vwCl (m7 cs a 1 0 361 (aI Y2)) H ∧ va_P G vwCl (m7 cs a 2 0 361 (aI (cpZ Z Y 361))) H ∧ va_P G vwCl (m7 cs a 3 0 1805 (aI Hh)) H ∧ va_P G vwCl (m7 cs a 4 0 722 (aI Sl)) H ∧ va_P G vwCl (m7 cs a 5 2 2 (aI Kp)) H ∧ va_P G vwCl (m7 cs a 6 2 24 (aI G4)) H ∧ va_P G vwCl (m7 cs a 7 0 24 (aI N4)) H ∧ va_P G vwCl (m7 cs a 8 3 60 (aI X)) H ∧ va_P G vwCl (m7 cs a 9 0 8 (cB Rd)) H) (fun ((v, G4, N4) : Int × (Int → Int) × (Int → Int)) => (S 0 0 - v).toNat) (0, G2, Nt) ⟨⟨⟨⟨by omega, fun j h1 h2 => by omega⟩, fun j h1 h2 => by rw [hGB j h1 h2, show d = S 0 0 by omega, gn_fin ⟨h1, h2⟩]⟩, fun j h1 h2 => by omega⟩, hMo, hRw, hSc, hHs, hSl, hKp, hGo, hNt, hTx, hRd⟩ hS (lv_sub hl [2, 3, 4, 1, 0] rfl) (fun x_ H locs hIH hS ih ls hl => ?_)
      obtain ⟨v, G4, N4⟩ := x_
      obtain ⟨hI, hMo, hRw, hSc, hHs, hSl, hKp, hGo, hNt, hTx, hRd⟩ := hIH
      have hI : (((0 ≤ v ∧ v ≤ S 0 0) ∧ ∀ j, 0 ≤ j → j < v → G4 j = b2 (!stayF S rm j)) ∧ ∀ j, v ≤ j → j < S 0 0 → G4 j = b2 (fin S j)) ∧ ∀ j, 0 ≤ j → j < v → N4 j = cntI (stayF S rm) j := hI
      have hMo : va_P G vwCl (moW cs a n tl rn) H := hMo
      have hRw : va_P G vwCl (m7 cs a 1 0 361 (aI Y2)) H := hRw
      have hSc : va_P G vwCl (m7 cs a 2 0 361 (aI (cpZ Z Y 361))) H := hSc
      have hHs : va_P G vwCl (m7 cs a 3 0 1805 (aI Hh)) H := hHs
      have hSl : va_P G vwCl (m7 cs a 4 0 722 (aI Sl)) H := hSl
      have hKp : va_P G vwCl (m7 cs a 5 2 2 (aI Kp)) H := hKp
      have hGo : va_P G vwCl (m7 cs a 6 2 24 (aI G4)) H := hGo
      have hNt : va_P G vwCl (m7 cs a 7 0 24 (aI N4)) H := hNt
      have hTx : va_P G vwCl (m7 cs a 8 3 60 (aI X)) H := hTx
      have hRd : va_P G vwCl (m7 cs a 9 0 8 (cB Rd)) H := hRd
      have hl : lv_has ls 6 [(0, .ref (a 0)), (1, .int (zI rm)), (2, .int (zI (S 0 0))), (3, .int (zI (cntI (stayF S rm) v))), (4, .int (zI v))] := hl
      have ihD := ih
      obtain ⟨⟨⟨hID, hG4⟩, hF4⟩, hN4⟩ := hI
      have hcD := cntI_r (stayF S rm) hID.1
      refine lv_iload hx hb dX7_pack_111 (lv_at hl 4 rfl) ?_
      refine lv_iload_n hx hb dX7_pack_113 rfl (lv_at hl 2 rfl) ?_
      refine z_icmp_ge (tgt := 184) hx hb dX7_pack_114 (by decide) (by omega) (by omega) (fun c3 => ?_) (fun c3 => ?_)
      · skip
        have hvD : v = S 0 0 := by omega
        rw [hvD] at hl hG4 hN4 hcD
        refine lv_iload_n hx hb dX7_pack_184 rfl (lv_at hl 3 rfl) ?_
        refine lv_iload_n hx hb dX7_pack_185 rfl (lv_at hl 2 rfl) ?_
        refine z_icmp_ne (tgt := 192) hx hb dX7_pack_186 (by decide) (by omega) (by omega) (fun ce => ?_) (fun ce => ?_)
        · skip
          refine z_iconst (n := 0) hx hb dX7_pack_192 ?_
          refine lv_istore (lv' := [(4, .int (zI 0)), (0, .ref (a 0)), (1, .int (zI rm)), (2, .int (zI (S 0 0))), (3, .int (zI (cntI (stayF S rm) (S 0 0))))]) hx hb dX7_pack_193 hl (by decide) rfl (fun ls hl => ?_)
          -- loop 195
          have h9E : RR (up2 (up2 S 1 (uP S (fin S))) 5 ((up2 S 1 (uP S (fin S))) 5)) Y2 := by rw [up2_id]; exact hRF
          refine z_loopH (nL := 6) (fun ((z, Y5) : Int × (Int → Int)) => [(0, .ref (a 0)), (2, .int (zI (S 0 0))), (3, .int (zI (cntI (stayF S rm) (S 0 0)))), (4, .int (zI z))]) (fun ((z, Y5) : Int × (Int → Int)) (H : Heap) => ((0 ≤ z ∧ z ≤ S 0 0) ∧ RR (s3 S (uP S (fin S)) (pkX (S 5) (stayF S rm) (z).toNat)) Y5) ∧ va_P G vwCl (moW cs a n tl rn) H ∧ va_P G vwCl (m7 cs a 1 0 361 (aI Y5)) H ∧ va_P G vwCl (m7 cs a 2 0 361 (aI (cpZ Z Y 361))) H ∧ va_P G vwCl (m7 cs a 3 0 1805 (aI Hh)) H ∧ va_P G vwCl (m7 cs a 4 0 722 (aI Sl)) H ∧ va_P G vwCl (m7 cs a 5 2 2 (aI Kp)) H ∧ va_P G vwCl (m7 cs a 6 2 24 (aI G4)) H ∧ va_P G vwCl (m7 cs a 7 0 24 (aI N4)) H ∧ va_P G vwCl (m7 cs a 8 3 60 (aI X)) H ∧ va_P G vwCl (m7 cs a 9 0 8 (cB Rd)) H) (fun ((z, Y5) : Int × (Int → Int)) => (S 0 0 - z).toNat) (0, Y2) ⟨⟨by omega, h9E⟩, hMo, hRw, hSc, hHs, hSl, hKp, hGo, hNt, hTx, hRd⟩ hS (lv_sub hl [1, 3, 4, 0] rfl) (fun x_ H locs hIH hS ih ls hl => ?_)
          obtain ⟨z, Y5⟩ := x_
          obtain ⟨hI, hMo, hRw, hSc, hHs, hSl, hKp, hGo, hNt, hTx, hRd⟩ := hIH
          have hI : (0 ≤ z ∧ z ≤ S 0 0) ∧ RR (s3 S (uP S (fin S)) (pkX (S 5) (stayF S rm) (z).toNat)) Y5 := hI
          have hMo : va_P G vwCl (moW cs a n tl rn) H := hMo
          have hRw : va_P G vwCl (m7 cs a 1 0 361 (aI Y5)) H := hRw
          have hSc : va_P G vwCl (m7 cs a 2 0 361 (aI (cpZ Z Y 361))) H := hSc
          have hHs : va_P G vwCl (m7 cs a 3 0 1805 (aI Hh)) H := hHs
          have hSl : va_P G vwCl (m7 cs a 4 0 722 (aI Sl)) H := hSl
          have hKp : va_P G vwCl (m7 cs a 5 2 2 (aI Kp)) H := hKp
          have hGo : va_P G vwCl (m7 cs a 6 2 24 (aI G4)) H := hGo
          have hNt : va_P G vwCl (m7 cs a 7 0 24 (aI N4)) H := hNt
          have hTx : va_P G vwCl (m7 cs a 8 3 60 (aI X)) H := hTx
          have hRd : va_P G vwCl (m7 cs a 9 0 8 (cB Rd)) H := hRd
          have hl : lv_has ls 6 [(0, .ref (a 0)), (2, .int (zI (S 0 0))), (3, .int (zI (cntI (stayF S rm) (S 0 0)))), (4, .int (zI z))] := hl
          have ihE := ih
          obtain ⟨hIE, hRE⟩ := hI
          have hcE := cntI_r (stayF S rm) hIE.1
          refine lv_iload hx hb dX7_pack_195 (lv_at hl 3 rfl) ?_
          refine lv_iload_n hx hb dX7_pack_197 rfl (lv_at hl 1 rfl) ?_
          refine z_icmp_ge (tgt := 268) hx hb dX7_pack_198 (by decide) (by omega) (by omega) (fun c4 => ?_) (fun c4 => ?_)
          · skip
            refine z_iconst (n := 0) hx hb dX7_pack_268 ?_
            refine lv_istore (lv' := [(4, .int (zI 0)), (0, .ref (a 0)), (2, .int (zI (S 0 0))), (3, .int (zI (cntI (stayF S rm) (S 0 0))))]) hx hb dX7_pack_269 hl (by decide) rfl (fun ls hl => ?_)
            -- loop 271
            refine z_loopH (nL := 6) (fun ((x, Y7) : Int × (Int → Int)) => [(0, .ref (a 0)), (2, .int (zI (S 0 0))), (3, .int (zI (cntI (stayF S rm) (S 0 0)))), (4, .int (zI x))]) (fun ((x, Y7) : Int × (Int → Int)) (H : Heap) => ((0 ≤ x ∧ x ≤ S 0 1) ∧ RR (s3 S (mxP S (stayF S rm) x) (pkX (S 5) (stayF S rm) (S 0 0).toNat)) Y7) ∧ va_P G vwCl (moW cs a n tl rn) H ∧ va_P G vwCl (m7 cs a 1 0 361 (aI Y7)) H ∧ va_P G vwCl (m7 cs a 2 0 361 (aI (cpZ Z Y 361))) H ∧ va_P G vwCl (m7 cs a 3 0 1805 (aI Hh)) H ∧ va_P G vwCl (m7 cs a 4 0 722 (aI Sl)) H ∧ va_P G vwCl (m7 cs a 5 2 2 (aI Kp)) H ∧ va_P G vwCl (m7 cs a 6 2 24 (aI G4)) H ∧ va_P G vwCl (m7 cs a 7 0 24 (aI N4)) H ∧ va_P G vwCl (m7 cs a 8 3 60 (aI X)) H ∧ va_P G vwCl (m7 cs a 9 0 8 (cB Rd)) H) (fun ((x, Y7) : Int × (Int → Int)) => (S 0 1 - x).toNat) (0, Y5) ⟨⟨by omega, by rw [mx_0]; rw [show z = S 0 0 by omega] at hRE; exact hRE⟩, hMo, hRw, hSc, hHs, hSl, hKp, hGo, hNt, hTx, hRd⟩ hS (lv_sub hl [1, 2, 3, 0] rfl) (fun x_ H locs hIH hS ih ls hl => ?_)
            obtain ⟨x, Y7⟩ := x_
            obtain ⟨hI, hMo, hRw, hSc, hHs, hSl, hKp, hGo, hNt, hTx, hRd⟩ := hIH
            have hI : (0 ≤ x ∧ x ≤ S 0 1) ∧ RR (s3 S (mxP S (stayF S rm) x) (pkX (S 5) (stayF S rm) (S 0 0).toNat)) Y7 := hI
            have hMo : va_P G vwCl (moW cs a n tl rn) H := hMo
            have hRw : va_P G vwCl (m7 cs a 1 0 361 (aI Y7)) H := hRw
            have hSc : va_P G vwCl (m7 cs a 2 0 361 (aI (cpZ Z Y 361))) H := hSc
            have hHs : va_P G vwCl (m7 cs a 3 0 1805 (aI Hh)) H := hHs
            have hSl : va_P G vwCl (m7 cs a 4 0 722 (aI Sl)) H := hSl
            have hKp : va_P G vwCl (m7 cs a 5 2 2 (aI Kp)) H := hKp
            have hGo : va_P G vwCl (m7 cs a 6 2 24 (aI G4)) H := hGo
            have hNt : va_P G vwCl (m7 cs a 7 0 24 (aI N4)) H := hNt
            have hTx : va_P G vwCl (m7 cs a 8 3 60 (aI X)) H := hTx
            have hRd : va_P G vwCl (m7 cs a 9 0 8 (cB Rd)) H := hRd
            have hl : lv_has ls 6 [(0, .ref (a 0)), (2, .int (zI (S 0 0))), (3, .int (zI (cntI (stayF S rm) (S 0 0)))), (4, .int (zI x))] := hl
            have ihG := ih
            obtain ⟨hIG, hRG⟩ := hI
            refine lv_iload hx hb dX7_pack_271 (lv_at hl 3 rfl) ?_
            refine lv_aload_n hx hb dX7_pack_273 rfl (lv_at hl 0 rfl) ?_
            refine z_ro (zrV (As := []) (rest := [.int (zI x)]) (Pw := fun H => va_P G vwCl (moW cs a n tl rn) H ∧ va_P G vwCl (m7 cs a 1 0 361 (aI Y7)) H) ⟨hx, hb, hml, hown, hts⟩ (c_X7_sprites2 l G cs a Y7 n tl rn (S 0 1) hRG.1.2.1) gX7_pack_X7_sprites rfl qX7_sprites rfl rfl ⟨Nat.le_of_ble_eq_true rfl, Nat.le_of_ble_eq_true rfl⟩ ⟨hMo, hRw⟩ hK (va_recv hK.1 hMo (ci := 7) (q0 := 0) rfl rfl) hl.1 rfl (Nat.le_of_ble_eq_true rfl) dX7_pack_274 ⟨Nat.le_of_ble_eq_true rfl, Nat.le_of_ble_eq_true rfl⟩) ?_
            refine z_icmp_ge (tgt := 305) hx hb dX7_pack_277 (by decide) (by omega) (by omega) (fun c5 => ?_) (fun c5 => ?_)
            · skip
              rw [show x = S 0 1 by omega] at hRG
              refine lv_aload_n hx hb dX7_pack_305 rfl (lv_at hl 0 rfl) ?_
              refine va_get (D := G) (ci := 7) (v := .ref ((sh a 1) 0)) (C := RX7) (T := TX7) (N := 12) hx hb hts hi7 hown hK.1 hMo 0 rfl rfl 0 (by decide) (hts (.fieldLink RX7 7 "SpriteLinesModel" "row" "[I") (by decide +kernel)) (fun _ h9 => h9) rfl dX7_pack_306 ?_
              refine z_iconst (n := 0) hx hb dX7_pack_309 ?_
              refine lv_iload_n hx hb dX7_pack_310 rfl (lv_at hl 2 rfl) ?_
              refine z_iast hx hb hK.1 hRw (Ord.D (ordM7 cs a 1 0 361 (aI Y7)) inj1) hS 0 0 (F := Y7) rfl rfl (by omega) (by decide) ⟨1, by decide, by decide, rfl⟩ dX7_pack_311 (fun H locs hP1 hle hk hS => ?_)
              have hMo := keepO (ordMo cs a n tl rn) hMo hk (fun j hj h3 => absurd (ia j 1 (by omega) (by omega) h3) (by omega))
              have hSc := keepO (ordM7 cs a 2 0 361 (aI (cpZ Z Y 361))) hSc hk (fun j hj h3 => absurd (ia (2 + j) 1 (by omega) (by omega) h3) (by omega))
              have hHs := keepO (ordM7 cs a 3 0 1805 (aI Hh)) hHs hk (fun j hj h3 => absurd (ia (3 + j) 1 (by omega) (by omega) h3) (by omega))
              have hSl := keepO (ordM7 cs a 4 0 722 (aI Sl)) hSl hk (fun j hj h3 => absurd (ia (4 + j) 1 (by omega) (by omega) h3) (by omega))
              have hKp := keepO (ordM7 cs a 5 2 2 (aI Kp)) hKp hk (fun j hj h3 => absurd (ia (5 + j) 1 (by omega) (by omega) h3) (by omega))
              have hGo := keepO (ordM7 cs a 6 2 24 (aI G4)) hGo hk (fun j hj h3 => absurd (ia (6 + j) 1 (by omega) (by omega) h3) (by omega))
              have hNt := keepO (ordM7 cs a 7 0 24 (aI N4)) hNt hk (fun j hj h3 => absurd (ia (7 + j) 1 (by omega) (by omega) h3) (by omega))
              have hTx := keepO (ordM7 cs a 8 3 60 (aI X)) hTx hk (fun j hj h3 => absurd (ia (8 + j) 1 (by omega) (by omega) h3) (by omega))
              have hRd := keepO (ordM7 cs a 9 0 8 (cB Rd)) hRd hk (fun j hj h3 => absurd (ia (9 + j) 1 (by omega) (by omega) h3) (by omega))
              have hRw : va_P G vwCl (m7 cs a 1 0 361 (aI (updZ Y7 0 (cntI (stayF S rm) (S 0 0))))) H := hP1
              refine lv_aload_n hx hb dX7_pack_312 rfl (lv_at hl 0 rfl) ?_
              refine lv_iload_n hx hb dX7_pack_313 rfl (lv_at hl 1 rfl) ?_
              refine lv_iload_n hx hb dX7_pack_314 rfl (lv_at hl 2 rfl) ?_
              refine z_isub hx hb dX7_pack_315 ?_
              refine z_w (zrV (As := [.int (zI ((S 0 0) - (cntI (stayF S rm) (S 0 0))))]) (rest := []) (Pw := fun H => va_P G vwCl (moW cs a n tl rn) H ∧ va_P G vwCl (m7 cs a 2 0 361 (aI (cpZ Z Y 361))) H ∧ va_P G vwCl (m7 cs a 3 0 1805 (aI Hh)) H) ⟨hx, hb, hml, hown, hts⟩ (c_X7_done l G cs a n tl rn Hh (cpZ Z Y 361) ((S 0 0) - (cntI (stayF S rm) (S 0 0))) ia (by omega)) gX7_pack_X7_done rfl qX7_done rfl rfl ⟨Nat.le_of_ble_eq_true rfl, Nat.le_of_ble_eq_true rfl⟩ ⟨hMo, hSc, hHs⟩ hK (va_recv hK.1 hMo (ci := 7) (q0 := 0) rfl rfl) hl.1 rfl (Nat.le_of_ble_eq_true rfl) dX7_pack_316 ⟨Nat.le_of_ble_eq_true rfl, Nat.le_of_ble_eq_true rfl⟩) hS (fun q h => by rcases h with h | h <;> exact ax_mono h (by decide) (by decide)) (fun q h => by rcases h with h | h <;> exact ax_mono h (by decide) (by decide)) (fun v H locs hpost hle hk hS => ?_)
              obtain ⟨rfl, hMo', hHs'⟩ := hpost
              have hRw := keepO (ordM7 cs a 1 0 361 (aI (updZ Y7 0 (cntI (stayF S rm) (S 0 0))))) hRw hk (fun j hj h0 => by rcases h0 with ⟨i, h1, h2, h3⟩ | ⟨i, h1, h2, h3⟩ <;> exact absurd (ia (1 + j) i (by omega) (by omega) h3) (by omega))
              have hSc := keepO (ordM7 cs a 2 0 361 (aI (cpZ Z Y 361))) hSc hk (fun j hj h0 => by rcases h0 with ⟨i, h1, h2, h3⟩ | ⟨i, h1, h2, h3⟩ <;> exact absurd (ia (2 + j) i (by omega) (by omega) h3) (by omega))
              have hSl := keepO (ordM7 cs a 4 0 722 (aI Sl)) hSl hk (fun j hj h0 => by rcases h0 with ⟨i, h1, h2, h3⟩ | ⟨i, h1, h2, h3⟩ <;> exact absurd (ia (4 + j) i (by omega) (by omega) h3) (by omega))
              have hKp := keepO (ordM7 cs a 5 2 2 (aI Kp)) hKp hk (fun j hj h0 => by rcases h0 with ⟨i, h1, h2, h3⟩ | ⟨i, h1, h2, h3⟩ <;> exact absurd (ia (5 + j) i (by omega) (by omega) h3) (by omega))
              have hGo := keepO (ordM7 cs a 6 2 24 (aI G4)) hGo hk (fun j hj h0 => by rcases h0 with ⟨i, h1, h2, h3⟩ | ⟨i, h1, h2, h3⟩ <;> exact absurd (ia (6 + j) i (by omega) (by omega) h3) (by omega))
              have hNt := keepO (ordM7 cs a 7 0 24 (aI N4)) hNt hk (fun j hj h0 => by rcases h0 with ⟨i, h1, h2, h3⟩ | ⟨i, h1, h2, h3⟩ <;> exact absurd (ia (7 + j) i (by omega) (by omega) h3) (by omega))
              have hTx := keepO (ordM7 cs a 8 3 60 (aI X)) hTx hk (fun j hj h0 => by rcases h0 with ⟨i, h1, h2, h3⟩ | ⟨i, h1, h2, h3⟩ <;> exact absurd (ia (8 + j) i (by omega) (by omega) h3) (by omega))
              have hRd := keepO (ordM7 cs a 9 0 8 (cB Rd)) hRd hk (fun j hj h0 => by rcases h0 with ⟨i, h1, h2, h3⟩ | ⟨i, h1, h2, h3⟩ <;> exact absurd (ia (9 + j) i (by omega) (by omega) h3) (by omega))
              have hMo : va_P G vwCl (moW cs a (remN n) tl rn) H := hMo'
              have hHs : va_P G vwCl (m7 cs a 3 0 1805 (aI (doneH n Hh (cpZ Z Y 361)))) H := hHs'
              exact w_iret hx hb hr hlk dX7_pack_319 hS (by rw [show packF (S, (n, L), (tl, X), (k, V)) rm = _ from by unfold packF; rw [if_neg (show ¬ (S 0 0 - cntI (stayF S rm) (S 0 0) = 0) by omega)]]; exact ⟨rfl, ⟨updZ Y7 0 (cntI (stayF S rm) (S 0 0)), cpZ Z Y 361, doneH n Hh (cpZ Z Y 361), Sl, Kp, G4, N4, rn, Rd, s3_fin (S := S) (f := stayF S rm) w0 w1 hRG, (hr_done (S := S) wf0 hL9 hHR rr hn), hSR, hMo, hRw, hSc, hHs, hSl, hKp, hGo, hNt, hTx, hRd⟩⟩)
            · skip
              have hPx := wP x hIG.1 (by omega)
              have hLx := lowA_r S hPx.1.1
              refine lv_aload_n hx hb dX7_pack_280 rfl (lv_at hl 0 rfl) ?_
              refine lv_iload hx hb dX7_pack_281 (lv_at hl 3 rfl) ?_
              refine z_iconst (n := 0) hx hb dX7_pack_283 ?_
              refine lv_aload_n hx hb dX7_pack_284 rfl (lv_at hl 0 rfl) ?_
              refine va_get (D := G) (ci := 7) (v := .ref ((sh a 7) 0)) (C := RX7) (T := TX7) (N := 12) hx hb hts hi7 hown hK.1 hMo 0 rfl rfl 7 (by decide) (hts (.fieldLink RX7 29 "SpriteLinesModel" "numberThen" "[I") (by decide +kernel)) (fun _ h9 => h9) rfl dX7_pack_285 ?_
              refine lv_aload_n hx hb dX7_pack_288 rfl (lv_at hl 0 rfl) ?_
              refine lv_iload hx hb dX7_pack_289 (lv_at hl 3 rfl) ?_
              refine z_iconst (n := 0) hx hb dX7_pack_291 ?_
              refine z_ro (zrV (As := [.int (zI x), .int (zI 0)]) (rest := [.ref ((sh a 7) 0), .int (zI 0), .int (zI x), .ref (a 0)]) (Pw := fun H => va_P G vwCl (moW cs a n tl rn) H ∧ va_P G vwCl (m7 cs a 1 0 361 (aI Y7)) H) ⟨hx, hb, hml, hown, hts⟩ (c_X7_of2 l G cs a Y7 n tl rn x 0 (lowA S (S 1 (6 * x + 0))) (by omega) (by omega) ((hRG.2.2.2.1 x 0 hIG.1 (show x < S 0 1 by omega) (by decide) (by decide)).trans mx_at)) gX7_pack_X7_of rfl qX7_of rfl rfl ⟨Nat.le_of_ble_eq_true rfl, Nat.le_of_ble_eq_true rfl⟩ ⟨hMo, hRw⟩ hK (va_recv hK.1 hMo (ci := 7) (q0 := 0) rfl rfl) hl.1 rfl (Nat.le_of_ble_eq_true rfl) dX7_pack_292 ⟨Nat.le_of_ble_eq_true rfl, Nat.le_of_ble_eq_true rfl⟩) ?_
              refine z_iald hx hb hK.1 hNt 0 0 (F := N4) rfl rfl (by omega) (by decide) dX7_pack_295 ?_
              refine z_topi (b := cntI (stayF S rm) (lowA S (S 1 (6 * x + 0)))) (hN4 _ (by omega) (by omega)) ?_
              refine z_v (zrV (As := [.int (zI x), .int (zI 0), .int (zI (cntI (stayF S rm) (lowA S (S 1 (6 * x + 0)))))]) (rest := []) (Pw := fun H => va_P G vwCl (moW cs a n tl rn) H ∧ va_P G vwCl (m7 cs a 1 0 361 (aI Y7)) H) ⟨hx, hb, hml, hown, hts⟩ (c_X7_put l G cs a S Y7 n tl rn x 0 (cntI (stayF S rm) (lowA S (S 1 (6 * x + 0)))) ia (by omega) (by omega)) gX7_pack_X7_put rfl qX7_put rfl rfl ⟨Nat.le_of_ble_eq_true rfl, Nat.le_of_ble_eq_true rfl⟩ ⟨hMo, hRw⟩ hK (va_recv hK.1 hMo (ci := 7) (q0 := 0) rfl rfl) hl.1 rfl (Nat.le_of_ble_eq_true rfl) dX7_pack_296 ⟨Nat.le_of_ble_eq_true rfl, Nat.le_of_ble_eq_true rfl⟩) hS (fun q h => ax_mono h (by decide) (by decide)) (fun q h => ax_mono h (by decide) (by decide)) (fun H locs hpost hle hk hS => ?_)
              have hRw' := hpost
              have hMo := keepO (ordMo cs a n tl rn) hMo hk (fun j hj ⟨i, h1, h2, h3⟩ => absurd (ia j i (by omega) (by omega) h3) (by omega))
              have hSc := keepO (ordM7 cs a 2 0 361 (aI (cpZ Z Y 361))) hSc hk (fun j hj ⟨i, h1, h2, h3⟩ => absurd (ia (2 + j) i (by omega) (by omega) h3) (by omega))
              have hHs := keepO (ordM7 cs a 3 0 1805 (aI Hh)) hHs hk (fun j hj ⟨i, h1, h2, h3⟩ => absurd (ia (3 + j) i (by omega) (by omega) h3) (by omega))
              have hSl := keepO (ordM7 cs a 4 0 722 (aI Sl)) hSl hk (fun j hj ⟨i, h1, h2, h3⟩ => absurd (ia (4 + j) i (by omega) (by omega) h3) (by omega))
              have hKp := keepO (ordM7 cs a 5 2 2 (aI Kp)) hKp hk (fun j hj ⟨i, h1, h2, h3⟩ => absurd (ia (5 + j) i (by omega) (by omega) h3) (by omega))
              have hGo := keepO (ordM7 cs a 6 2 24 (aI G4)) hGo hk (fun j hj ⟨i, h1, h2, h3⟩ => absurd (ia (6 + j) i (by omega) (by omega) h3) (by omega))
              have hNt := keepO (ordM7 cs a 7 0 24 (aI N4)) hNt hk (fun j hj ⟨i, h1, h2, h3⟩ => absurd (ia (7 + j) i (by omega) (by omega) h3) (by omega))
              have hTx := keepO (ordM7 cs a 8 3 60 (aI X)) hTx hk (fun j hj ⟨i, h1, h2, h3⟩ => absurd (ia (8 + j) i (by omega) (by omega) h3) (by omega))
              have hRd := keepO (ordM7 cs a 9 0 8 (cB Rd)) hRd hk (fun j hj ⟨i, h1, h2, h3⟩ => absurd (ia (9 + j) i (by omega) (by omega) h3) (by omega))
              have hRw : va_P G vwCl (m7 cs a 1 0 361 (aI (updZ Y7 (209 + 6 * x + 0) (cntI (stayF S rm) (lowA S (S 1 (6 * x + 0))))))) H := hRw'
              refine z_iinc (k := 3) (lv' := [(4, .int (zI (x + 1))), (0, .ref (a 0)), (2, .int (zI (S 0 0))), (3, .int (zI (cntI (stayF S rm) (S 0 0))))]) hx hb dX7_pack_299 hl rfl (by decide) rfl (fun ls hl => ?_)
              refine lv_goto (tgt := 271) hx hb dX7_pack_302 (by decide) ?_
              exact ihG (x + 1, updZ Y7 (209 + 6 * x + 0) (cntI (stayF S rm) (lowA S (S 1 (6 * x + 0))))) H locs ⟨⟨by omega, s3_step w0 w1 (by omega) hRG⟩, hMo, hRw, hSc, hHs, hSl, hKp, hGo, hNt, hTx, hRd⟩ hS (by show (S 0 1 - (x + 1)).toNat < (S 0 1 - x).toNat; omega) ls (lv_sub hl [1, 2, 3, 0] rfl)
          · skip
            refine z_iconst (n := 0) hx hb dX7_pack_201 ?_
            refine lv_istore (lv' := [(5, .int (zI 0)), (0, .ref (a 0)), (2, .int (zI (S 0 0))), (3, .int (zI (cntI (stayF S rm) (S 0 0)))), (4, .int (zI z))]) hx hb dX7_pack_202 hl (by decide) rfl (fun ls hl => ?_)
            -- loop 204
            refine z_loopH (nL := 6) (fun ((r, Y6) : Int × (Int → Int)) => [(0, .ref (a 0)), (2, .int (zI (S 0 0))), (3, .int (zI (cntI (stayF S rm) (S 0 0)))), (4, .int (zI z)), (5, .int (zI r))]) (fun ((r, Y6) : Int × (Int → Int)) (H : Heap) => (((0 ≤ r ∧ r ≤ 8) ∧ RR (s3 S (uP S (fin S)) (putRw (pkX (S 5) (stayF S rm) (z).toNat) (cntI (stayF S rm) z) (8 * r) (bL (pkX (S 5) (stayF S rm) (z).toNat) z) (bH (pkX (S 5) (stayF S rm) (z).toNat) z))) Y6) ∧ (0 < r → stayF S rm z = true)) ∧ va_P G vwCl (moW cs a n tl rn) H ∧ va_P G vwCl (m7 cs a 1 0 361 (aI Y6)) H ∧ va_P G vwCl (m7 cs a 2 0 361 (aI (cpZ Z Y 361))) H ∧ va_P G vwCl (m7 cs a 3 0 1805 (aI Hh)) H ∧ va_P G vwCl (m7 cs a 4 0 722 (aI Sl)) H ∧ va_P G vwCl (m7 cs a 5 2 2 (aI Kp)) H ∧ va_P G vwCl (m7 cs a 6 2 24 (aI G4)) H ∧ va_P G vwCl (m7 cs a 7 0 24 (aI N4)) H ∧ va_P G vwCl (m7 cs a 8 3 60 (aI X)) H ∧ va_P G vwCl (m7 cs a 9 0 8 (cB Rd)) H) (fun ((r, Y6) : Int × (Int → Int)) => (8 - r).toNat) (0, Y5) ⟨⟨⟨by omega, by rw [putRw_z]; exact hRE⟩, fun h => by omega⟩, hMo, hRw, hSc, hHs, hSl, hKp, hGo, hNt, hTx, hRd⟩ hS (lv_sub hl [1, 2, 3, 4, 0] rfl) (fun x_ H locs hIH hS ih ls hl => ?_)
            obtain ⟨r, Y6⟩ := x_
            obtain ⟨hI, hMo, hRw, hSc, hHs, hSl, hKp, hGo, hNt, hTx, hRd⟩ := hIH
            have hI : ((0 ≤ r ∧ r ≤ 8) ∧ RR (s3 S (uP S (fin S)) (putRw (pkX (S 5) (stayF S rm) (z).toNat) (cntI (stayF S rm) z) (8 * r) (bL (pkX (S 5) (stayF S rm) (z).toNat) z) (bH (pkX (S 5) (stayF S rm) (z).toNat) z))) Y6) ∧ (0 < r → stayF S rm z = true) := hI
            have hMo : va_P G vwCl (moW cs a n tl rn) H := hMo
            have hRw : va_P G vwCl (m7 cs a 1 0 361 (aI Y6)) H := hRw
            have hSc : va_P G vwCl (m7 cs a 2 0 361 (aI (cpZ Z Y 361))) H := hSc
            have hHs : va_P G vwCl (m7 cs a 3 0 1805 (aI Hh)) H := hHs
            have hSl : va_P G vwCl (m7 cs a 4 0 722 (aI Sl)) H := hSl
            have hKp : va_P G vwCl (m7 cs a 5 2 2 (aI Kp)) H := hKp
            have hGo : va_P G vwCl (m7 cs a 6 2 24 (aI G4)) H := hGo
            have hNt : va_P G vwCl (m7 cs a 7 0 24 (aI N4)) H := hNt
            have hTx : va_P G vwCl (m7 cs a 8 3 60 (aI X)) H := hTx
            have hRd : va_P G vwCl (m7 cs a 9 0 8 (cB Rd)) H := hRd
            have hl : lv_has ls 6 [(0, .ref (a 0)), (2, .int (zI (S 0 0))), (3, .int (zI (cntI (stayF S rm) (S 0 0)))), (4, .int (zI z)), (5, .int (zI r))] := hl
            have ihF := ih
            obtain ⟨⟨hIF, hR6⟩, hT6⟩ := hI
            refine lv_iload hx hb dX7_pack_204 (lv_at hl 4 rfl) ?_
            refine z_bipush (n := 8) hx hb dX7_pack_206 (by decide) ?_
            refine z_icmp_ge (tgt := 262) hx hb dX7_pack_208 (by decide) (by omega) (by omega) (fun c6 => ?_) (fun c6 => ?_)
            · skip
              refine z_iinc (k := 3) (lv' := [(4, .int (zI (z + 1))), (0, .ref (a 0)), (2, .int (zI (S 0 0))), (3, .int (zI (cntI (stayF S rm) (S 0 0)))), (5, .int (zI r))]) hx hb dX7_pack_262 hl rfl (by decide) rfl (fun ls hl => ?_)
              refine lv_goto (tgt := 195) hx hb dX7_pack_265 (by decide) ?_
              exact ihE (z + 1, Y6) H locs ⟨⟨by omega, by rw [pkX_t (S 5) (f := stayF S rm) hIE.1 (hT6 (by omega))]; rw [show r = 8 by omega, show (8 : Int) * 8 = 64 from rfl] at hR6; exact hR6⟩, hMo, hRw, hSc, hHs, hSl, hKp, hGo, hNt, hTx, hRd⟩ hS (by show (S 0 0 - (z + 1)).toNat < (S 0 0 - z).toNat; omega) ls (lv_sub hl [1, 2, 3, 0] rfl)
            · skip
              refine lv_aload_n hx hb dX7_pack_211 rfl (lv_at hl 0 rfl) ?_
              refine va_get (D := G) (ci := 7) (v := .ref ((sh a 6) 0)) (C := RX7) (T := TX7) (N := 12) hx hb hts hi7 hown hK.1 hMo 0 rfl rfl 6 (by decide) (hts (.fieldLink RX7 26 "SpriteLinesModel" "goes" "[Z") (by decide +kernel)) (fun _ h9 => h9) rfl dX7_pack_212 ?_
              refine lv_iload hx hb dX7_pack_215 (lv_at hl 3 rfl) ?_
              refine z_zald hx hb hK.1 hGo 0 2 (F := G4) rfl rfl (by omega) (by decide) dX7_pack_217 ?_
              refine z_top (v' := .int (zI (b2 (!stayF S rm z)))) (congrArg (fun z => Value.int (zI z)) (hG4 z (by omega) (by omega))) ?_
              refine z_bif_ne (tgt := 262) hx hb dX7_pack_218 (by decide) (fun cs_ => ?_) (fun cs_ => ?_)
              · skip
                have hsz : stayF S rm z = false := by simpa using cs_
                have hr0 : r = 0 := by
                  rcases Int.lt_or_le 0 r with q | q
                  · have := hT6 q; rw [hsz] at this; cases this
                  · omega
                refine z_iinc (k := 3) (lv' := [(4, .int (zI (z + 1))), (0, .ref (a 0)), (2, .int (zI (S 0 0))), (3, .int (zI (cntI (stayF S rm) (S 0 0)))), (5, .int (zI r))]) hx hb dX7_pack_262 hl rfl (by decide) rfl (fun ls hl => ?_)
                refine lv_goto (tgt := 195) hx hb dX7_pack_265 (by decide) ?_
                exact ihE (z + 1, Y6) H locs ⟨⟨by omega, by rw [pkX_f (S 5) (f := stayF S rm) hIE.1 hsz]; rw [hr0, putRw_z] at hR6; exact hR6⟩, hMo, hRw, hSc, hHs, hSl, hKp, hGo, hNt, hTx, hRd⟩ hS (by show (S 0 0 - (z + 1)).toNat < (S 0 0 - z).toNat; omega) ls (lv_sub hl [1, 2, 3, 0] rfl)
              · skip
                have hsz : stayF S rm z = true := by simpa using cs_
                refine lv_aload_n hx hb dX7_pack_221 rfl (lv_at hl 0 rfl) ?_
                refine va_get (D := G) (ci := 7) (v := .ref ((sh a 1) 0)) (C := RX7) (T := TX7) (N := 12) hx hb hts hi7 hown hK.1 hMo 0 rfl rfl 0 (by decide) (hts (.fieldLink RX7 7 "SpriteLinesModel" "row" "[I") (by decide +kernel)) (fun _ h9 => h9) rfl dX7_pack_222 ?_
                refine z_iconst (n := 5) hx hb dX7_pack_225 ?_
                refine z_bipush (n := 8) hx hb dX7_pack_226 (by decide) ?_
                refine lv_aload_n hx hb dX7_pack_228 rfl (lv_at hl 0 rfl) ?_
                refine va_get (D := G) (ci := 7) (v := .ref ((sh a 7) 0)) (C := RX7) (T := TX7) (N := 12) hx hb hts hi7 hown hK.1 hMo 0 rfl rfl 7 (by decide) (hts (.fieldLink RX7 29 "SpriteLinesModel" "numberThen" "[I") (by decide +kernel)) (fun _ h9 => h9) rfl dX7_pack_229 ?_
                refine lv_iload hx hb dX7_pack_232 (lv_at hl 3 rfl) ?_
                refine z_iald hx hb hK.1 hNt 0 0 (F := N4) rfl rfl (by omega) (by decide) dX7_pack_234 ?_
                refine z_topi (b := cntI (stayF S rm) z) (hN4 z (by omega) (by omega)) ?_
                refine z_imul hx hb dX7_pack_235 ?_
                refine z_iadd hx hb dX7_pack_236 ?_
                refine lv_iload hx hb dX7_pack_237 (lv_at hl 4 rfl) ?_
                refine z_iadd hx hb dX7_pack_239 ?_
                refine lv_aload_n hx hb dX7_pack_240 rfl (lv_at hl 0 rfl) ?_
                refine va_get (D := G) (ci := 7) (v := .ref ((sh a 1) 0)) (C := RX7) (T := TX7) (N := 12) hx hb hts hi7 hown hK.1 hMo 0 rfl rfl 0 (by decide) (hts (.fieldLink RX7 7 "SpriteLinesModel" "row" "[I") (by decide +kernel)) (fun _ h9 => h9) rfl dX7_pack_241 ?_
                refine z_iconst (n := 5) hx hb dX7_pack_244 ?_
                refine z_bipush (n := 8) hx hb dX7_pack_245 (by decide) ?_
                refine lv_iload hx hb dX7_pack_247 (lv_at hl 3 rfl) ?_
                refine z_imul hx hb dX7_pack_249 ?_
                refine z_iadd hx hb dX7_pack_250 ?_
                refine lv_iload hx hb dX7_pack_251 (lv_at hl 4 rfl) ?_
                refine z_iadd hx hb dX7_pack_253 ?_
                refine z_iald hx hb hK.1 hRw 0 0 (F := Y6) rfl rfl (by omega) (by decide) dX7_pack_254 ?_
                refine z_iast hx hb hK.1 hRw (Ord.D (ordM7 cs a 1 0 361 (aI Y6)) inj1) hS 0 0 (F := Y6) rfl rfl (by omega) (by decide) ⟨1, by decide, by decide, rfl⟩ dX7_pack_255 (fun H locs hP1 hle hk hS => ?_)
                have hMo := keepO (ordMo cs a n tl rn) hMo hk (fun j hj h3 => absurd (ia j 1 (by omega) (by omega) h3) (by omega))
                have hSc := keepO (ordM7 cs a 2 0 361 (aI (cpZ Z Y 361))) hSc hk (fun j hj h3 => absurd (ia (2 + j) 1 (by omega) (by omega) h3) (by omega))
                have hHs := keepO (ordM7 cs a 3 0 1805 (aI Hh)) hHs hk (fun j hj h3 => absurd (ia (3 + j) 1 (by omega) (by omega) h3) (by omega))
                have hSl := keepO (ordM7 cs a 4 0 722 (aI Sl)) hSl hk (fun j hj h3 => absurd (ia (4 + j) 1 (by omega) (by omega) h3) (by omega))
                have hKp := keepO (ordM7 cs a 5 2 2 (aI Kp)) hKp hk (fun j hj h3 => absurd (ia (5 + j) 1 (by omega) (by omega) h3) (by omega))
                have hGo := keepO (ordM7 cs a 6 2 24 (aI G4)) hGo hk (fun j hj h3 => absurd (ia (6 + j) 1 (by omega) (by omega) h3) (by omega))
                have hNt := keepO (ordM7 cs a 7 0 24 (aI N4)) hNt hk (fun j hj h3 => absurd (ia (7 + j) 1 (by omega) (by omega) h3) (by omega))
                have hTx := keepO (ordM7 cs a 8 3 60 (aI X)) hTx hk (fun j hj h3 => absurd (ia (8 + j) 1 (by omega) (by omega) h3) (by omega))
                have hRd := keepO (ordM7 cs a 9 0 8 (cB Rd)) hRd hk (fun j hj h3 => absurd (ia (9 + j) 1 (by omega) (by omega) h3) (by omega))
                have hRw : va_P G vwCl (m7 cs a 1 0 361 (aI (updZ Y6 ((5 + (8 * (cntI (stayF S rm) z))) + r) (Y6 ((5 + (8 * z)) + r))))) H := hP1
                refine z_iinc (k := 4) (lv' := [(5, .int (zI (r + 1))), (0, .ref (a 0)), (2, .int (zI (S 0 0))), (3, .int (zI (cntI (stayF S rm) (S 0 0)))), (4, .int (zI z))]) hx hb dX7_pack_256 hl rfl (by decide) rfl (fun ls hl => ?_)
                refine lv_goto (tgt := 204) hx hb dX7_pack_259 (by decide) ?_
                exact ihF (r + 1, updZ Y6 ((5 + (8 * (cntI (stayF S rm) z))) + r) (Y6 ((5 + (8 * z)) + r))) H locs ⟨⟨⟨by omega, rr_mvrow (T := up2 S 1 (uP S (fin S))) (X := (pkX (S 5) (stayF S rm) (z).toNat)) (c := cntI (stayF S rm) z) (v := z) (r := r) w0 w1 (pkX_r (wf_wX wf0) _) hcE (show z < S 0 0 by omega) (by omega) hR6⟩, fun _ => hsz⟩, hMo, hRw, hSc, hHs, hSl, hKp, hGo, hNt, hTx, hRd⟩ hS (by show (8 - (r + 1)).toNat < (8 - r).toNat; omega) ls (lv_sub hl [1, 2, 3, 4, 0] rfl)
        · skip
          refine z_bipush (n := -5) hx hb dX7_pack_189 (by decide) ?_
          exact w_iret hx hb hr hlk dX7_pack_191 hS (by rw [show packF (S, (n, L), (tl, X), (k, V)) rm = _ from by unfold packF; rw [if_pos (show S 0 0 - cntI (stayF S rm) (S 0 0) = 0 by omega)]]; exact ⟨rfl, ⟨Y2, cpZ Z Y 361, Hh, Sl, Kp, G4, N4, rn, Rd, rr_none wf0 hRF (all_stay (rm := rm) wf0 ce), hHR, hSR, hMo, hRw, hSc, hHs, hSl, hKp, hGo, hNt, hTx, hRd⟩⟩)
      · skip
        refine lv_aload_n hx hb dX7_pack_117 rfl (lv_at hl 0 rfl) ?_
        refine va_get (D := G) (ci := 7) (v := .ref ((sh a 6) 0)) (C := RX7) (T := TX7) (N := 12) hx hb hts hi7 hown hK.1 hMo 0 rfl rfl 6 (by decide) (hts (.fieldLink RX7 26 "SpriteLinesModel" "goes" "[Z") (by decide +kernel)) (fun _ h9 => h9) rfl dX7_pack_118 ?_
        refine lv_iload hx hb dX7_pack_121 (lv_at hl 4 rfl) ?_
        refine lv_aload_n hx hb dX7_pack_123 rfl (lv_at hl 0 rfl) ?_
        refine va_get (D := G) (ci := 7) (v := .ref ((sh a 6) 0)) (C := RX7) (T := TX7) (N := 12) hx hb hts hi7 hown hK.1 hMo 0 rfl rfl 6 (by decide) (hts (.fieldLink RX7 26 "SpriteLinesModel" "goes" "[Z") (by decide +kernel)) (fun _ h9 => h9) rfl dX7_pack_124 ?_
        refine lv_iload hx hb dX7_pack_127 (lv_at hl 4 rfl) ?_
        refine z_zald hx hb hK.1 hGo 0 2 (F := G4) rfl rfl (by omega) (by decide) dX7_pack_129 ?_
        refine z_top (v' := .int (zI (b2 (fin S v)))) (congrArg (fun z => Value.int (zI z)) (hF4 v (by omega) (by omega))) ?_
        refine z_bif_ne (tgt := 146) hx hb dX7_pack_130 (by decide) (fun cg => ?_) (fun cg => ?_)
        · skip
          refine z_iconst (n := 1) hx hb dX7_pack_146 ?_
          refine lv_goto (tgt := 151) hx hb dX7_pack_147 (by decide) ?_
          have hst0 : stayF S rm v = false := st_1 wf0 (fin_ne cg)
          refine z_zast hx hb hK.1 hGo (Ord.D (ordM7 cs a 6 2 24 (aI G4)) inj1) hS 0 2 (F := G4) rfl rfl (by omega) (by decide) (by omega) ⟨6, by decide, by decide, rfl⟩ dX7_pack_151 (fun H locs hP1 hle hk hS => ?_)
          have hMo := keepO (ordMo cs a n tl rn) hMo hk (fun j hj h3 => absurd (ia j 6 (by omega) (by omega) h3) (by omega))
          have hRw := keepO (ordM7 cs a 1 0 361 (aI Y2)) hRw hk (fun j hj h3 => absurd (ia (1 + j) 6 (by omega) (by omega) h3) (by omega))
          have hSc := keepO (ordM7 cs a 2 0 361 (aI (cpZ Z Y 361))) hSc hk (fun j hj h3 => absurd (ia (2 + j) 6 (by omega) (by omega) h3) (by omega))
          have hHs := keepO (ordM7 cs a 3 0 1805 (aI Hh)) hHs hk (fun j hj h3 => absurd (ia (3 + j) 6 (by omega) (by omega) h3) (by omega))
          have hSl := keepO (ordM7 cs a 4 0 722 (aI Sl)) hSl hk (fun j hj h3 => absurd (ia (4 + j) 6 (by omega) (by omega) h3) (by omega))
          have hKp := keepO (ordM7 cs a 5 2 2 (aI Kp)) hKp hk (fun j hj h3 => absurd (ia (5 + j) 6 (by omega) (by omega) h3) (by omega))
          have hNt := keepO (ordM7 cs a 7 0 24 (aI N4)) hNt hk (fun j hj h3 => absurd (ia (7 + j) 6 (by omega) (by omega) h3) (by omega))
          have hTx := keepO (ordM7 cs a 8 3 60 (aI X)) hTx hk (fun j hj h3 => absurd (ia (8 + j) 6 (by omega) (by omega) h3) (by omega))
          have hRd := keepO (ordM7 cs a 9 0 8 (cB Rd)) hRd hk (fun j hj h3 => absurd (ia (9 + j) 6 (by omega) (by omega) h3) (by omega))
          have hGo : va_P G vwCl (m7 cs a 6 2 24 (aI (updZ G4 v 1))) H := hP1
          refine lv_aload_n hx hb dX7_pack_152 rfl (lv_at hl 0 rfl) ?_
          refine va_get (D := G) (ci := 7) (v := .ref ((sh a 7) 0)) (C := RX7) (T := TX7) (N := 12) hx hb hts hi7 hown hK.1 hMo 0 rfl rfl 7 (by decide) (hts (.fieldLink RX7 29 "SpriteLinesModel" "numberThen" "[I") (by decide +kernel)) (fun _ h9 => h9) rfl dX7_pack_153 ?_
          refine lv_iload hx hb dX7_pack_156 (lv_at hl 4 rfl) ?_
          refine lv_iload_n hx hb dX7_pack_158 rfl (lv_at hl 3 rfl) ?_
          refine z_iast hx hb hK.1 hNt (Ord.D (ordM7 cs a 7 0 24 (aI N4)) inj1) hS 0 0 (F := N4) rfl rfl (by omega) (by decide) ⟨7, by decide, by decide, rfl⟩ dX7_pack_159 (fun H locs hP1 hle hk hS => ?_)
          have hMo := keepO (ordMo cs a n tl rn) hMo hk (fun j hj h3 => absurd (ia j 7 (by omega) (by omega) h3) (by omega))
          have hRw := keepO (ordM7 cs a 1 0 361 (aI Y2)) hRw hk (fun j hj h3 => absurd (ia (1 + j) 7 (by omega) (by omega) h3) (by omega))
          have hSc := keepO (ordM7 cs a 2 0 361 (aI (cpZ Z Y 361))) hSc hk (fun j hj h3 => absurd (ia (2 + j) 7 (by omega) (by omega) h3) (by omega))
          have hHs := keepO (ordM7 cs a 3 0 1805 (aI Hh)) hHs hk (fun j hj h3 => absurd (ia (3 + j) 7 (by omega) (by omega) h3) (by omega))
          have hSl := keepO (ordM7 cs a 4 0 722 (aI Sl)) hSl hk (fun j hj h3 => absurd (ia (4 + j) 7 (by omega) (by omega) h3) (by omega))
          have hKp := keepO (ordM7 cs a 5 2 2 (aI Kp)) hKp hk (fun j hj h3 => absurd (ia (5 + j) 7 (by omega) (by omega) h3) (by omega))
          have hGo := keepO (ordM7 cs a 6 2 24 (aI (updZ G4 v 1))) hGo hk (fun j hj h3 => absurd (ia (6 + j) 7 (by omega) (by omega) h3) (by omega))
          have hTx := keepO (ordM7 cs a 8 3 60 (aI X)) hTx hk (fun j hj h3 => absurd (ia (8 + j) 7 (by omega) (by omega) h3) (by omega))
          have hRd := keepO (ordM7 cs a 9 0 8 (cB Rd)) hRd hk (fun j hj h3 => absurd (ia (9 + j) 7 (by omega) (by omega) h3) (by omega))
          have hNt : va_P G vwCl (m7 cs a 7 0 24 (aI (updZ N4 v (cntI (stayF S rm) v)))) H := hP1
          refine lv_iload_n hx hb dX7_pack_160 rfl (lv_at hl 3 rfl) ?_
          refine lv_aload_n hx hb dX7_pack_161 rfl (lv_at hl 0 rfl) ?_
          refine va_get (D := G) (ci := 7) (v := .ref ((sh a 6) 0)) (C := RX7) (T := TX7) (N := 12) hx hb hts hi7 hown hK.1 hMo 0 rfl rfl 6 (by decide) (hts (.fieldLink RX7 26 "SpriteLinesModel" "goes" "[Z") (by decide +kernel)) (fun _ h9 => h9) rfl dX7_pack_162 ?_
          refine lv_iload hx hb dX7_pack_165 (lv_at hl 4 rfl) ?_
          have hGv : updZ G4 v 1 v = b2 (!stayF S rm v) := by rw [updZ_s, hst0]; rfl
          refine z_zald hx hb hK.1 hGo 0 2 (F := (updZ G4 v 1)) rfl rfl (by omega) (by decide) dX7_pack_167 ?_
          refine z_top (v' := .int (zI (b2 (!stayF S rm v)))) (congrArg (fun z => Value.int (zI z)) hGv) ?_
          refine z_bif_eq (tgt := 175) hx hb dX7_pack_168 (by decide) (fun c9 => ?_) (fun c9 => ?_)
          · skip
            exact absurd c9 (by rw [hst0]; decide)
          · skip
            refine z_iconst (n := 0) hx hb dX7_pack_171 ?_
            refine lv_goto (tgt := 176) hx hb dX7_pack_172 (by decide) ?_
            refine z_iadd hx hb dX7_pack_176 ?_
            refine lv_istore_n (lv' := [(3, .int (zI ((cntI (stayF S rm) v) + 0))), (0, .ref (a 0)), (1, .int (zI rm)), (2, .int (zI (S 0 0))), (4, .int (zI v))]) hx hb dX7_pack_177 rfl hl (by decide) rfl (fun ls hl => ?_)
            refine z_iinc (k := 4) (lv' := [(4, .int (zI (v + 1))), (3, .int (zI ((cntI (stayF S rm) v) + 0))), (0, .ref (a 0)), (1, .int (zI rm)), (2, .int (zI (S 0 0)))]) hx hb dX7_pack_178 hl rfl (by decide) rfl (fun ls hl => ?_)
            refine lv_goto (tgt := 111) hx hb dX7_pack_181 (by decide) ?_
            exact ihD (v + 1, updZ G4 v 1, updZ N4 v (cntI (stayF S rm) v)) H locs ⟨⟨⟨⟨by omega, fun j h1 h2 => by
      by_cases e : j = v
      · rw [e]; exact hGv
      · rw [updZ_n e]; exact hG4 j h1 (by omega)⟩, fun j h1 h2 => by rw [updZ_n (by omega)]; exact hF4 j (by omega) h2⟩, fun j h1 h2 => by
      by_cases e : j = v
      · rw [e, updZ_s]
      · rw [updZ_n e]; exact hN4 j h1 (by omega)⟩, hMo, hRw, hSc, hHs, hSl, hKp, hGo, hNt, hTx, hRd⟩ hS (by show (S 0 0 - (v + 1)).toNat < (S 0 0 - v).toNat; omega) ls (by show lv_has ls 6 [(0, .ref (a 0)), (1, .int (zI rm)), (2, .int (zI (S 0 0))), (3, .int (zI (cntI (stayF S rm) (v + 1)))), (4, .int (zI (v + 1)))]; rw [cntI_z (f := stayF S rm) hID.1 hst0]; exact lv_sub hl [2, 3, 4, 1, 0] rfl)
        · skip
          refine lv_iload_n hx hb dX7_pack_133 rfl (lv_at hl 1 rfl) ?_
          refine z_if_eq (tgt := 150) hx hb dX7_pack_134 (by decide) (by omega) (fun cr => ?_) (fun cr => ?_)
          · skip
            refine z_iconst (n := 0) hx hb dX7_pack_150 ?_
            have hst0 : stayF S rm v = true := (by rw [cr]; exact st_3 (by unfold fin at cg; rw [decide_eq_false_iff_not] at cg; omega))
            refine z_zast hx hb hK.1 hGo (Ord.D (ordM7 cs a 6 2 24 (aI G4)) inj1) hS 0 2 (F := G4) rfl rfl (by omega) (by decide) (by omega) ⟨6, by decide, by decide, rfl⟩ dX7_pack_151 (fun H locs hP1 hle hk hS => ?_)
            have hMo := keepO (ordMo cs a n tl rn) hMo hk (fun j hj h3 => absurd (ia j 6 (by omega) (by omega) h3) (by omega))
            have hRw := keepO (ordM7 cs a 1 0 361 (aI Y2)) hRw hk (fun j hj h3 => absurd (ia (1 + j) 6 (by omega) (by omega) h3) (by omega))
            have hSc := keepO (ordM7 cs a 2 0 361 (aI (cpZ Z Y 361))) hSc hk (fun j hj h3 => absurd (ia (2 + j) 6 (by omega) (by omega) h3) (by omega))
            have hHs := keepO (ordM7 cs a 3 0 1805 (aI Hh)) hHs hk (fun j hj h3 => absurd (ia (3 + j) 6 (by omega) (by omega) h3) (by omega))
            have hSl := keepO (ordM7 cs a 4 0 722 (aI Sl)) hSl hk (fun j hj h3 => absurd (ia (4 + j) 6 (by omega) (by omega) h3) (by omega))
            have hKp := keepO (ordM7 cs a 5 2 2 (aI Kp)) hKp hk (fun j hj h3 => absurd (ia (5 + j) 6 (by omega) (by omega) h3) (by omega))
            have hNt := keepO (ordM7 cs a 7 0 24 (aI N4)) hNt hk (fun j hj h3 => absurd (ia (7 + j) 6 (by omega) (by omega) h3) (by omega))
            have hTx := keepO (ordM7 cs a 8 3 60 (aI X)) hTx hk (fun j hj h3 => absurd (ia (8 + j) 6 (by omega) (by omega) h3) (by omega))
            have hRd := keepO (ordM7 cs a 9 0 8 (cB Rd)) hRd hk (fun j hj h3 => absurd (ia (9 + j) 6 (by omega) (by omega) h3) (by omega))
            have hGo : va_P G vwCl (m7 cs a 6 2 24 (aI (updZ G4 v 0))) H := hP1
            refine lv_aload_n hx hb dX7_pack_152 rfl (lv_at hl 0 rfl) ?_
            refine va_get (D := G) (ci := 7) (v := .ref ((sh a 7) 0)) (C := RX7) (T := TX7) (N := 12) hx hb hts hi7 hown hK.1 hMo 0 rfl rfl 7 (by decide) (hts (.fieldLink RX7 29 "SpriteLinesModel" "numberThen" "[I") (by decide +kernel)) (fun _ h9 => h9) rfl dX7_pack_153 ?_
            refine lv_iload hx hb dX7_pack_156 (lv_at hl 4 rfl) ?_
            refine lv_iload_n hx hb dX7_pack_158 rfl (lv_at hl 3 rfl) ?_
            refine z_iast hx hb hK.1 hNt (Ord.D (ordM7 cs a 7 0 24 (aI N4)) inj1) hS 0 0 (F := N4) rfl rfl (by omega) (by decide) ⟨7, by decide, by decide, rfl⟩ dX7_pack_159 (fun H locs hP1 hle hk hS => ?_)
            have hMo := keepO (ordMo cs a n tl rn) hMo hk (fun j hj h3 => absurd (ia j 7 (by omega) (by omega) h3) (by omega))
            have hRw := keepO (ordM7 cs a 1 0 361 (aI Y2)) hRw hk (fun j hj h3 => absurd (ia (1 + j) 7 (by omega) (by omega) h3) (by omega))
            have hSc := keepO (ordM7 cs a 2 0 361 (aI (cpZ Z Y 361))) hSc hk (fun j hj h3 => absurd (ia (2 + j) 7 (by omega) (by omega) h3) (by omega))
            have hHs := keepO (ordM7 cs a 3 0 1805 (aI Hh)) hHs hk (fun j hj h3 => absurd (ia (3 + j) 7 (by omega) (by omega) h3) (by omega))
            have hSl := keepO (ordM7 cs a 4 0 722 (aI Sl)) hSl hk (fun j hj h3 => absurd (ia (4 + j) 7 (by omega) (by omega) h3) (by omega))
            have hKp := keepO (ordM7 cs a 5 2 2 (aI Kp)) hKp hk (fun j hj h3 => absurd (ia (5 + j) 7 (by omega) (by omega) h3) (by omega))
            have hGo := keepO (ordM7 cs a 6 2 24 (aI (updZ G4 v 0))) hGo hk (fun j hj h3 => absurd (ia (6 + j) 7 (by omega) (by omega) h3) (by omega))
            have hTx := keepO (ordM7 cs a 8 3 60 (aI X)) hTx hk (fun j hj h3 => absurd (ia (8 + j) 7 (by omega) (by omega) h3) (by omega))
            have hRd := keepO (ordM7 cs a 9 0 8 (cB Rd)) hRd hk (fun j hj h3 => absurd (ia (9 + j) 7 (by omega) (by omega) h3) (by omega))
            have hNt : va_P G vwCl (m7 cs a 7 0 24 (aI (updZ N4 v (cntI (stayF S rm) v)))) H := hP1
            refine lv_iload_n hx hb dX7_pack_160 rfl (lv_at hl 3 rfl) ?_
            refine lv_aload_n hx hb dX7_pack_161 rfl (lv_at hl 0 rfl) ?_
            refine va_get (D := G) (ci := 7) (v := .ref ((sh a 6) 0)) (C := RX7) (T := TX7) (N := 12) hx hb hts hi7 hown hK.1 hMo 0 rfl rfl 6 (by decide) (hts (.fieldLink RX7 26 "SpriteLinesModel" "goes" "[Z") (by decide +kernel)) (fun _ h9 => h9) rfl dX7_pack_162 ?_
            refine lv_iload hx hb dX7_pack_165 (lv_at hl 4 rfl) ?_
            have hGv : updZ G4 v 0 v = b2 (!stayF S rm v) := by rw [updZ_s, hst0]; rfl
            refine z_zald hx hb hK.1 hGo 0 2 (F := (updZ G4 v 0)) rfl rfl (by omega) (by decide) dX7_pack_167 ?_
            refine z_top (v' := .int (zI (b2 (!stayF S rm v)))) (congrArg (fun z => Value.int (zI z)) hGv) ?_
            refine z_bif_eq (tgt := 175) hx hb dX7_pack_168 (by decide) (fun c9 => ?_) (fun c9 => ?_)
            · skip
              refine z_iconst (n := 1) hx hb dX7_pack_175 ?_
              refine z_iadd hx hb dX7_pack_176 ?_
              refine lv_istore_n (lv' := [(3, .int (zI ((cntI (stayF S rm) v) + 1))), (0, .ref (a 0)), (1, .int (zI rm)), (2, .int (zI (S 0 0))), (4, .int (zI v))]) hx hb dX7_pack_177 rfl hl (by decide) rfl (fun ls hl => ?_)
              refine z_iinc (k := 4) (lv' := [(4, .int (zI (v + 1))), (3, .int (zI ((cntI (stayF S rm) v) + 1))), (0, .ref (a 0)), (1, .int (zI rm)), (2, .int (zI (S 0 0)))]) hx hb dX7_pack_178 hl rfl (by decide) rfl (fun ls hl => ?_)
              refine lv_goto (tgt := 111) hx hb dX7_pack_181 (by decide) ?_
              exact ihD (v + 1, updZ G4 v 0, updZ N4 v (cntI (stayF S rm) v)) H locs ⟨⟨⟨⟨by omega, fun j h1 h2 => by
      by_cases e : j = v
      · rw [e]; exact hGv
      · rw [updZ_n e]; exact hG4 j h1 (by omega)⟩, fun j h1 h2 => by rw [updZ_n (by omega)]; exact hF4 j (by omega) h2⟩, fun j h1 h2 => by
      by_cases e : j = v
      · rw [e, updZ_s]
      · rw [updZ_n e]; exact hN4 j h1 (by omega)⟩, hMo, hRw, hSc, hHs, hSl, hKp, hGo, hNt, hTx, hRd⟩ hS (by show (S 0 0 - (v + 1)).toNat < (S 0 0 - v).toNat; omega) ls (by show lv_has ls 6 [(0, .ref (a 0)), (1, .int (zI rm)), (2, .int (zI (S 0 0))), (3, .int (zI (cntI (stayF S rm) (v + 1)))), (4, .int (zI (v + 1)))]; rw [cntI_t (f := stayF S rm) hID.1 hst0]; exact lv_sub hl [2, 3, 4, 1, 0] rfl)
            · skip
              exact absurd c9 (by rw [hst0]; decide)
          · skip
            refine lv_aload_n hx hb dX7_pack_137 rfl (lv_at hl 0 rfl) ?_
            refine lv_iload hx hb dX7_pack_138 (lv_at hl 4 rfl) ?_
            refine z_ro (zrV (As := [.int (zI v)]) (rest := [.int (zI v), .ref ((sh a 6) 0)]) (Pw := fun H => va_P G vwCl (moW cs a n tl rn) H ∧ va_P G vwCl (m7 cs a 1 0 361 (aI Y2)) H) ⟨hx, hb, hml, hown, hts⟩ (c_X7_shownBy l G cs a (up2 S 1 (uP S (fin S))) Y2 n tl rn v wfF hRF (by omega)) gX7_pack_X7_shownBy rfl qX7_shownBy rfl rfl ⟨Nat.le_of_ble_eq_true rfl, Nat.le_of_ble_eq_true rfl⟩ ⟨hMo, hRw⟩ hK (va_recv hK.1 hMo (ci := 7) (q0 := 0) rfl rfl) hl.1 rfl (Nat.le_of_ble_eq_true rfl) dX7_pack_140 ⟨Nat.le_of_ble_eq_true rfl, Nat.le_of_ble_eq_true rfl⟩) ?_
            refine z_topi (b := cntI (fun x => decide ((up2 S 1 (uP S (fin S))) 1 (6 * x + 0) = v)) (S 0 1)) rfl ?_
            refine z_if_ne (tgt := 150) hx hb dX7_pack_143 (by decide) (by have := cntI_r (fun x => decide ((up2 S 1 (uP S (fin S))) 1 (6 * x + 0) = v)) w1.1; omega) (fun cb => ?_) (fun cb => ?_)
            · skip
              refine z_iconst (n := 0) hx hb dX7_pack_150 ?_
              have hst0 : stayF S rm v = true := st_4 cr cb
              refine z_zast hx hb hK.1 hGo (Ord.D (ordM7 cs a 6 2 24 (aI G4)) inj1) hS 0 2 (F := G4) rfl rfl (by omega) (by decide) (by omega) ⟨6, by decide, by decide, rfl⟩ dX7_pack_151 (fun H locs hP1 hle hk hS => ?_)
              have hMo := keepO (ordMo cs a n tl rn) hMo hk (fun j hj h3 => absurd (ia j 6 (by omega) (by omega) h3) (by omega))
              have hRw := keepO (ordM7 cs a 1 0 361 (aI Y2)) hRw hk (fun j hj h3 => absurd (ia (1 + j) 6 (by omega) (by omega) h3) (by omega))
              have hSc := keepO (ordM7 cs a 2 0 361 (aI (cpZ Z Y 361))) hSc hk (fun j hj h3 => absurd (ia (2 + j) 6 (by omega) (by omega) h3) (by omega))
              have hHs := keepO (ordM7 cs a 3 0 1805 (aI Hh)) hHs hk (fun j hj h3 => absurd (ia (3 + j) 6 (by omega) (by omega) h3) (by omega))
              have hSl := keepO (ordM7 cs a 4 0 722 (aI Sl)) hSl hk (fun j hj h3 => absurd (ia (4 + j) 6 (by omega) (by omega) h3) (by omega))
              have hKp := keepO (ordM7 cs a 5 2 2 (aI Kp)) hKp hk (fun j hj h3 => absurd (ia (5 + j) 6 (by omega) (by omega) h3) (by omega))
              have hNt := keepO (ordM7 cs a 7 0 24 (aI N4)) hNt hk (fun j hj h3 => absurd (ia (7 + j) 6 (by omega) (by omega) h3) (by omega))
              have hTx := keepO (ordM7 cs a 8 3 60 (aI X)) hTx hk (fun j hj h3 => absurd (ia (8 + j) 6 (by omega) (by omega) h3) (by omega))
              have hRd := keepO (ordM7 cs a 9 0 8 (cB Rd)) hRd hk (fun j hj h3 => absurd (ia (9 + j) 6 (by omega) (by omega) h3) (by omega))
              have hGo : va_P G vwCl (m7 cs a 6 2 24 (aI (updZ G4 v 0))) H := hP1
              refine lv_aload_n hx hb dX7_pack_152 rfl (lv_at hl 0 rfl) ?_
              refine va_get (D := G) (ci := 7) (v := .ref ((sh a 7) 0)) (C := RX7) (T := TX7) (N := 12) hx hb hts hi7 hown hK.1 hMo 0 rfl rfl 7 (by decide) (hts (.fieldLink RX7 29 "SpriteLinesModel" "numberThen" "[I") (by decide +kernel)) (fun _ h9 => h9) rfl dX7_pack_153 ?_
              refine lv_iload hx hb dX7_pack_156 (lv_at hl 4 rfl) ?_
              refine lv_iload_n hx hb dX7_pack_158 rfl (lv_at hl 3 rfl) ?_
              refine z_iast hx hb hK.1 hNt (Ord.D (ordM7 cs a 7 0 24 (aI N4)) inj1) hS 0 0 (F := N4) rfl rfl (by omega) (by decide) ⟨7, by decide, by decide, rfl⟩ dX7_pack_159 (fun H locs hP1 hle hk hS => ?_)
              have hMo := keepO (ordMo cs a n tl rn) hMo hk (fun j hj h3 => absurd (ia j 7 (by omega) (by omega) h3) (by omega))
              have hRw := keepO (ordM7 cs a 1 0 361 (aI Y2)) hRw hk (fun j hj h3 => absurd (ia (1 + j) 7 (by omega) (by omega) h3) (by omega))
              have hSc := keepO (ordM7 cs a 2 0 361 (aI (cpZ Z Y 361))) hSc hk (fun j hj h3 => absurd (ia (2 + j) 7 (by omega) (by omega) h3) (by omega))
              have hHs := keepO (ordM7 cs a 3 0 1805 (aI Hh)) hHs hk (fun j hj h3 => absurd (ia (3 + j) 7 (by omega) (by omega) h3) (by omega))
              have hSl := keepO (ordM7 cs a 4 0 722 (aI Sl)) hSl hk (fun j hj h3 => absurd (ia (4 + j) 7 (by omega) (by omega) h3) (by omega))
              have hKp := keepO (ordM7 cs a 5 2 2 (aI Kp)) hKp hk (fun j hj h3 => absurd (ia (5 + j) 7 (by omega) (by omega) h3) (by omega))
              have hGo := keepO (ordM7 cs a 6 2 24 (aI (updZ G4 v 0))) hGo hk (fun j hj h3 => absurd (ia (6 + j) 7 (by omega) (by omega) h3) (by omega))
              have hTx := keepO (ordM7 cs a 8 3 60 (aI X)) hTx hk (fun j hj h3 => absurd (ia (8 + j) 7 (by omega) (by omega) h3) (by omega))
              have hRd := keepO (ordM7 cs a 9 0 8 (cB Rd)) hRd hk (fun j hj h3 => absurd (ia (9 + j) 7 (by omega) (by omega) h3) (by omega))
              have hNt : va_P G vwCl (m7 cs a 7 0 24 (aI (updZ N4 v (cntI (stayF S rm) v)))) H := hP1
              refine lv_iload_n hx hb dX7_pack_160 rfl (lv_at hl 3 rfl) ?_
              refine lv_aload_n hx hb dX7_pack_161 rfl (lv_at hl 0 rfl) ?_
              refine va_get (D := G) (ci := 7) (v := .ref ((sh a 6) 0)) (C := RX7) (T := TX7) (N := 12) hx hb hts hi7 hown hK.1 hMo 0 rfl rfl 6 (by decide) (hts (.fieldLink RX7 26 "SpriteLinesModel" "goes" "[Z") (by decide +kernel)) (fun _ h9 => h9) rfl dX7_pack_162 ?_
              refine lv_iload hx hb dX7_pack_165 (lv_at hl 4 rfl) ?_
              have hGv : updZ G4 v 0 v = b2 (!stayF S rm v) := by rw [updZ_s, hst0]; rfl
              refine z_zald hx hb hK.1 hGo 0 2 (F := (updZ G4 v 0)) rfl rfl (by omega) (by decide) dX7_pack_167 ?_
              refine z_top (v' := .int (zI (b2 (!stayF S rm v)))) (congrArg (fun z => Value.int (zI z)) hGv) ?_
              refine z_bif_eq (tgt := 175) hx hb dX7_pack_168 (by decide) (fun c9 => ?_) (fun c9 => ?_)
              · skip
                refine z_iconst (n := 1) hx hb dX7_pack_175 ?_
                refine z_iadd hx hb dX7_pack_176 ?_
                refine lv_istore_n (lv' := [(3, .int (zI ((cntI (stayF S rm) v) + 1))), (0, .ref (a 0)), (1, .int (zI rm)), (2, .int (zI (S 0 0))), (4, .int (zI v))]) hx hb dX7_pack_177 rfl hl (by decide) rfl (fun ls hl => ?_)
                refine z_iinc (k := 4) (lv' := [(4, .int (zI (v + 1))), (3, .int (zI ((cntI (stayF S rm) v) + 1))), (0, .ref (a 0)), (1, .int (zI rm)), (2, .int (zI (S 0 0)))]) hx hb dX7_pack_178 hl rfl (by decide) rfl (fun ls hl => ?_)
                refine lv_goto (tgt := 111) hx hb dX7_pack_181 (by decide) ?_
                exact ihD (v + 1, updZ G4 v 0, updZ N4 v (cntI (stayF S rm) v)) H locs ⟨⟨⟨⟨by omega, fun j h1 h2 => by
      by_cases e : j = v
      · rw [e]; exact hGv
      · rw [updZ_n e]; exact hG4 j h1 (by omega)⟩, fun j h1 h2 => by rw [updZ_n (by omega)]; exact hF4 j (by omega) h2⟩, fun j h1 h2 => by
      by_cases e : j = v
      · rw [e, updZ_s]
      · rw [updZ_n e]; exact hN4 j h1 (by omega)⟩, hMo, hRw, hSc, hHs, hSl, hKp, hGo, hNt, hTx, hRd⟩ hS (by show (S 0 0 - (v + 1)).toNat < (S 0 0 - v).toNat; omega) ls (by show lv_has ls 6 [(0, .ref (a 0)), (1, .int (zI rm)), (2, .int (zI (S 0 0))), (3, .int (zI (cntI (stayF S rm) (v + 1)))), (4, .int (zI (v + 1)))]; rw [cntI_t (f := stayF S rm) hID.1 hst0]; exact lv_sub hl [2, 3, 4, 1, 0] rfl)
              · skip
                exact absurd c9 (by rw [hst0]; decide)
            · skip
              refine z_iconst (n := 1) hx hb dX7_pack_146 ?_
              refine lv_goto (tgt := 151) hx hb dX7_pack_147 (by decide) ?_
              have hst0 : stayF S rm v = false := st_2 cr cb
              refine z_zast hx hb hK.1 hGo (Ord.D (ordM7 cs a 6 2 24 (aI G4)) inj1) hS 0 2 (F := G4) rfl rfl (by omega) (by decide) (by omega) ⟨6, by decide, by decide, rfl⟩ dX7_pack_151 (fun H locs hP1 hle hk hS => ?_)
              have hMo := keepO (ordMo cs a n tl rn) hMo hk (fun j hj h3 => absurd (ia j 6 (by omega) (by omega) h3) (by omega))
              have hRw := keepO (ordM7 cs a 1 0 361 (aI Y2)) hRw hk (fun j hj h3 => absurd (ia (1 + j) 6 (by omega) (by omega) h3) (by omega))
              have hSc := keepO (ordM7 cs a 2 0 361 (aI (cpZ Z Y 361))) hSc hk (fun j hj h3 => absurd (ia (2 + j) 6 (by omega) (by omega) h3) (by omega))
              have hHs := keepO (ordM7 cs a 3 0 1805 (aI Hh)) hHs hk (fun j hj h3 => absurd (ia (3 + j) 6 (by omega) (by omega) h3) (by omega))
              have hSl := keepO (ordM7 cs a 4 0 722 (aI Sl)) hSl hk (fun j hj h3 => absurd (ia (4 + j) 6 (by omega) (by omega) h3) (by omega))
              have hKp := keepO (ordM7 cs a 5 2 2 (aI Kp)) hKp hk (fun j hj h3 => absurd (ia (5 + j) 6 (by omega) (by omega) h3) (by omega))
              have hNt := keepO (ordM7 cs a 7 0 24 (aI N4)) hNt hk (fun j hj h3 => absurd (ia (7 + j) 6 (by omega) (by omega) h3) (by omega))
              have hTx := keepO (ordM7 cs a 8 3 60 (aI X)) hTx hk (fun j hj h3 => absurd (ia (8 + j) 6 (by omega) (by omega) h3) (by omega))
              have hRd := keepO (ordM7 cs a 9 0 8 (cB Rd)) hRd hk (fun j hj h3 => absurd (ia (9 + j) 6 (by omega) (by omega) h3) (by omega))
              have hGo : va_P G vwCl (m7 cs a 6 2 24 (aI (updZ G4 v 1))) H := hP1
              refine lv_aload_n hx hb dX7_pack_152 rfl (lv_at hl 0 rfl) ?_
              refine va_get (D := G) (ci := 7) (v := .ref ((sh a 7) 0)) (C := RX7) (T := TX7) (N := 12) hx hb hts hi7 hown hK.1 hMo 0 rfl rfl 7 (by decide) (hts (.fieldLink RX7 29 "SpriteLinesModel" "numberThen" "[I") (by decide +kernel)) (fun _ h9 => h9) rfl dX7_pack_153 ?_
              refine lv_iload hx hb dX7_pack_156 (lv_at hl 4 rfl) ?_
              refine lv_iload_n hx hb dX7_pack_158 rfl (lv_at hl 3 rfl) ?_
              refine z_iast hx hb hK.1 hNt (Ord.D (ordM7 cs a 7 0 24 (aI N4)) inj1) hS 0 0 (F := N4) rfl rfl (by omega) (by decide) ⟨7, by decide, by decide, rfl⟩ dX7_pack_159 (fun H locs hP1 hle hk hS => ?_)
              have hMo := keepO (ordMo cs a n tl rn) hMo hk (fun j hj h3 => absurd (ia j 7 (by omega) (by omega) h3) (by omega))
              have hRw := keepO (ordM7 cs a 1 0 361 (aI Y2)) hRw hk (fun j hj h3 => absurd (ia (1 + j) 7 (by omega) (by omega) h3) (by omega))
              have hSc := keepO (ordM7 cs a 2 0 361 (aI (cpZ Z Y 361))) hSc hk (fun j hj h3 => absurd (ia (2 + j) 7 (by omega) (by omega) h3) (by omega))
              have hHs := keepO (ordM7 cs a 3 0 1805 (aI Hh)) hHs hk (fun j hj h3 => absurd (ia (3 + j) 7 (by omega) (by omega) h3) (by omega))
              have hSl := keepO (ordM7 cs a 4 0 722 (aI Sl)) hSl hk (fun j hj h3 => absurd (ia (4 + j) 7 (by omega) (by omega) h3) (by omega))
              have hKp := keepO (ordM7 cs a 5 2 2 (aI Kp)) hKp hk (fun j hj h3 => absurd (ia (5 + j) 7 (by omega) (by omega) h3) (by omega))
              have hGo := keepO (ordM7 cs a 6 2 24 (aI (updZ G4 v 1))) hGo hk (fun j hj h3 => absurd (ia (6 + j) 7 (by omega) (by omega) h3) (by omega))
              have hTx := keepO (ordM7 cs a 8 3 60 (aI X)) hTx hk (fun j hj h3 => absurd (ia (8 + j) 7 (by omega) (by omega) h3) (by omega))
              have hRd := keepO (ordM7 cs a 9 0 8 (cB Rd)) hRd hk (fun j hj h3 => absurd (ia (9 + j) 7 (by omega) (by omega) h3) (by omega))
              have hNt : va_P G vwCl (m7 cs a 7 0 24 (aI (updZ N4 v (cntI (stayF S rm) v)))) H := hP1
              refine lv_iload_n hx hb dX7_pack_160 rfl (lv_at hl 3 rfl) ?_
              refine lv_aload_n hx hb dX7_pack_161 rfl (lv_at hl 0 rfl) ?_
              refine va_get (D := G) (ci := 7) (v := .ref ((sh a 6) 0)) (C := RX7) (T := TX7) (N := 12) hx hb hts hi7 hown hK.1 hMo 0 rfl rfl 6 (by decide) (hts (.fieldLink RX7 26 "SpriteLinesModel" "goes" "[Z") (by decide +kernel)) (fun _ h9 => h9) rfl dX7_pack_162 ?_
              refine lv_iload hx hb dX7_pack_165 (lv_at hl 4 rfl) ?_
              have hGv : updZ G4 v 1 v = b2 (!stayF S rm v) := by rw [updZ_s, hst0]; rfl
              refine z_zald hx hb hK.1 hGo 0 2 (F := (updZ G4 v 1)) rfl rfl (by omega) (by decide) dX7_pack_167 ?_
              refine z_top (v' := .int (zI (b2 (!stayF S rm v)))) (congrArg (fun z => Value.int (zI z)) hGv) ?_
              refine z_bif_eq (tgt := 175) hx hb dX7_pack_168 (by decide) (fun c9 => ?_) (fun c9 => ?_)
              · skip
                exact absurd c9 (by rw [hst0]; decide)
              · skip
                refine z_iconst (n := 0) hx hb dX7_pack_171 ?_
                refine lv_goto (tgt := 176) hx hb dX7_pack_172 (by decide) ?_
                refine z_iadd hx hb dX7_pack_176 ?_
                refine lv_istore_n (lv' := [(3, .int (zI ((cntI (stayF S rm) v) + 0))), (0, .ref (a 0)), (1, .int (zI rm)), (2, .int (zI (S 0 0))), (4, .int (zI v))]) hx hb dX7_pack_177 rfl hl (by decide) rfl (fun ls hl => ?_)
                refine z_iinc (k := 4) (lv' := [(4, .int (zI (v + 1))), (3, .int (zI ((cntI (stayF S rm) v) + 0))), (0, .ref (a 0)), (1, .int (zI rm)), (2, .int (zI (S 0 0)))]) hx hb dX7_pack_178 hl rfl (by decide) rfl (fun ls hl => ?_)
                refine lv_goto (tgt := 111) hx hb dX7_pack_181 (by decide) ?_
                exact ihD (v + 1, updZ G4 v 1, updZ N4 v (cntI (stayF S rm) v)) H locs ⟨⟨⟨⟨by omega, fun j h1 h2 => by
      by_cases e : j = v
      · rw [e]; exact hGv
      · rw [updZ_n e]; exact hG4 j h1 (by omega)⟩, fun j h1 h2 => by rw [updZ_n (by omega)]; exact hF4 j (by omega) h2⟩, fun j h1 h2 => by
      by_cases e : j = v
      · rw [e, updZ_s]
      · rw [updZ_n e]; exact hN4 j h1 (by omega)⟩, hMo, hRw, hSc, hHs, hSl, hKp, hGo, hNt, hTx, hRd⟩ hS (by show (S 0 0 - (v + 1)).toNat < (S 0 0 - v).toNat; omega) ls (by show lv_has ls 6 [(0, .ref (a 0)), (1, .int (zI rm)), (2, .int (zI (S 0 0))), (3, .int (zI (cntI (stayF S rm) (v + 1)))), (4, .int (zI (v + 1)))]; rw [cntI_z (f := stayF S rm) hID.1 hst0]; exact lv_sub hl [2, 3, 4, 1, 0] rfl)
    · skip
      refine lv_iload_n hx hb dX7_pack_38 rfl (lv_at hl 3 rfl) ?_
      refine z_iconst (n := 1) hx hb dX7_pack_39 ?_
      refine z_iadd hx hb dX7_pack_40 ?_
      refine lv_istore (lv' := [(4, .int (zI (d + 1))), (0, .ref (a 0)), (1, .int (zI rm)), (2, .int (zI (S 0 0))), (3, .int (zI d))]) hx hb dX7_pack_41 hl (by decide) rfl (fun ls hl => ?_)
      -- loop 43
      refine z_loopH (nL := 6) (fun ((u, G3, Y3) : Int × (Int → Int) × (Int → Int)) => [(0, .ref (a 0)), (1, .int (zI rm)), (2, .int (zI (S 0 0))), (3, .int (zI d)), (4, .int (zI u))]) (fun ((u, G3, Y3) : Int × (Int → Int) × (Int → Int)) (H : Heap) => (((d + 1 ≤ u ∧ u ≤ S 0 0) ∧ ∀ j, 0 ≤ j → j < S 0 0 → G3 j = b2 (gn S d u j)) ∧ RR (up2 S 1 (uP S (gn S d u))) Y3) ∧ va_P G vwCl (moW cs a n tl rn) H ∧ va_P G vwCl (m7 cs a 1 0 361 (aI Y3)) H ∧ va_P G vwCl (m7 cs a 2 0 361 (aI (cpZ Z Y 361))) H ∧ va_P G vwCl (m7 cs a 3 0 1805 (aI Hh)) H ∧ va_P G vwCl (m7 cs a 4 0 722 (aI Sl)) H ∧ va_P G vwCl (m7 cs a 5 2 2 (aI Kp)) H ∧ va_P G vwCl (m7 cs a 6 2 24 (aI G3)) H ∧ va_P G vwCl (m7 cs a 7 0 24 (aI Nt)) H ∧ va_P G vwCl (m7 cs a 8 3 60 (aI X)) H ∧ va_P G vwCl (m7 cs a 9 0 8 (cB Rd)) H) (fun ((u, G3, Y3) : Int × (Int → Int) × (Int → Int)) => (S 0 0 - u).toNat) (d + 1, G2, Y2) ⟨⟨⟨by omega, hGB⟩, hRB⟩, hMo, hRw, hSc, hHs, hSl, hKp, hGo, hNt, hTx, hRd⟩ hS (lv_sub hl [1, 2, 3, 4, 0] rfl) (fun x_ H locs hIH hS ih ls hl => ?_)
      obtain ⟨u, G3, Y3⟩ := x_
      obtain ⟨hI, hMo, hRw, hSc, hHs, hSl, hKp, hGo, hNt, hTx, hRd⟩ := hIH
      have hI : ((d + 1 ≤ u ∧ u ≤ S 0 0) ∧ ∀ j, 0 ≤ j → j < S 0 0 → G3 j = b2 (gn S d u j)) ∧ RR (up2 S 1 (uP S (gn S d u))) Y3 := hI
      have hMo : va_P G vwCl (moW cs a n tl rn) H := hMo
      have hRw : va_P G vwCl (m7 cs a 1 0 361 (aI Y3)) H := hRw
      have hSc : va_P G vwCl (m7 cs a 2 0 361 (aI (cpZ Z Y 361))) H := hSc
      have hHs : va_P G vwCl (m7 cs a 3 0 1805 (aI Hh)) H := hHs
      have hSl : va_P G vwCl (m7 cs a 4 0 722 (aI Sl)) H := hSl
      have hKp : va_P G vwCl (m7 cs a 5 2 2 (aI Kp)) H := hKp
      have hGo : va_P G vwCl (m7 cs a 6 2 24 (aI G3)) H := hGo
      have hNt : va_P G vwCl (m7 cs a 7 0 24 (aI Nt)) H := hNt
      have hTx : va_P G vwCl (m7 cs a 8 3 60 (aI X)) H := hTx
      have hRd : va_P G vwCl (m7 cs a 9 0 8 (cB Rd)) H := hRd
      have hl : lv_has ls 6 [(0, .ref (a 0)), (1, .int (zI rm)), (2, .int (zI (S 0 0))), (3, .int (zI d)), (4, .int (zI u))] := hl
      have ihC := ih
      obtain ⟨⟨hIC, hGC⟩, hRC⟩ := hI
      refine lv_iload hx hb dX7_pack_43 (lv_at hl 4 rfl) ?_
      refine lv_iload_n hx hb dX7_pack_45 rfl (lv_at hl 2 rfl) ?_
      refine z_icmp_ge (tgt := 100) hx hb dX7_pack_46 (by decide) (by omega) (by omega) (fun c7 => ?_) (fun c7 => ?_)
      · skip
        refine z_iinc (k := 3) (lv' := [(3, .int (zI (d + 1))), (0, .ref (a 0)), (1, .int (zI rm)), (2, .int (zI (S 0 0))), (4, .int (zI u))]) hx hb dX7_pack_100 hl rfl (by decide) rfl (fun ls hl => ?_)
        refine lv_goto (tgt := 33) hx hb dX7_pack_103 (by decide) ?_
        exact ihB (d + 1, G3, Y3) H locs ⟨⟨⟨by omega, fun j h1 h2 => by rw [hGC j h1 h2, show d + 1 + 1 = d + 2 by omega, ← gn_end (n := u) ⟨h1, by omega⟩]⟩, rr_uP wf0 hRC (fun j h1 h2 => by rw [show d + 1 + 1 = d + 2 by omega]; exact gn_end ⟨h1, by omega⟩)⟩, hMo, hRw, hSc, hHs, hSl, hKp, hGo, hNt, hTx, hRd⟩ hS (by show (S 0 0 - (d + 1)).toNat < (S 0 0 - d).toNat; omega) ls (lv_sub hl [1, 2, 3, 0] rfl)
      · skip
        refine lv_aload_n hx hb dX7_pack_49 rfl (lv_at hl 0 rfl) ?_
        refine va_get (D := G) (ci := 7) (v := .ref ((sh a 6) 0)) (C := RX7) (T := TX7) (N := 12) hx hb hts hi7 hown hK.1 hMo 0 rfl rfl 6 (by decide) (hts (.fieldLink RX7 26 "SpriteLinesModel" "goes" "[Z") (by decide +kernel)) (fun _ h9 => h9) rfl dX7_pack_50 ?_
        refine lv_iload_n hx hb dX7_pack_53 rfl (lv_at hl 3 rfl) ?_
        refine z_zald hx hb hK.1 hGo 0 2 (F := G3) rfl rfl (by omega) (by decide) dX7_pack_54 ?_
        refine z_top (v' := .int (zI (b2 (gn S d u d)))) (congrArg (fun z => Value.int (zI z)) (hGC d (by omega) (by omega))) ?_
        refine z_bif_ne (tgt := 100) hx hb dX7_pack_55 (by decide) (fun c1 => ?_) (fun c1 => ?_)
        · skip
          refine z_iinc (k := 3) (lv' := [(3, .int (zI (d + 1))), (0, .ref (a 0)), (1, .int (zI rm)), (2, .int (zI (S 0 0))), (4, .int (zI u))]) hx hb dX7_pack_100 hl rfl (by decide) rfl (fun ls hl => ?_)
          refine lv_goto (tgt := 33) hx hb dX7_pack_103 (by decide) ?_
          exact ihB (d + 1, G3, Y3) H locs ⟨⟨⟨by omega, fun j h1 h2 => by rw [hGC j h1 h2, show d + 1 + 1 = d + 2 by omega, gn_skip hIB.1 h1 c1]⟩, rr_uP wf0 hRC (fun j h1 h2 => by rw [show d + 1 + 1 = d + 2 by omega]; exact gn_skip hIB.1 h1 c1)⟩, hMo, hRw, hSc, hHs, hSl, hKp, hGo, hNt, hTx, hRd⟩ hS (by show (S 0 0 - (d + 1)).toNat < (S 0 0 - d).toNat; omega) ls (lv_sub hl [1, 2, 3, 0] rfl)
        · skip
          refine lv_aload_n hx hb dX7_pack_58 rfl (lv_at hl 0 rfl) ?_
          refine va_get (D := G) (ci := 7) (v := .ref ((sh a 6) 0)) (C := RX7) (T := TX7) (N := 12) hx hb hts hi7 hown hK.1 hMo 0 rfl rfl 6 (by decide) (hts (.fieldLink RX7 26 "SpriteLinesModel" "goes" "[Z") (by decide +kernel)) (fun _ h9 => h9) rfl dX7_pack_59 ?_
          refine lv_iload hx hb dX7_pack_62 (lv_at hl 4 rfl) ?_
          refine z_zald hx hb hK.1 hGo 0 2 (F := G3) rfl rfl (by omega) (by decide) dX7_pack_64 ?_
          refine z_top (v' := .int (zI (b2 (gn S d u u)))) (congrArg (fun z => Value.int (zI z)) (hGC u (by omega) (by omega))) ?_
          refine z_bif_ne (tgt := 94) hx hb dX7_pack_65 (by decide) (fun c2 => ?_) (fun c2 => ?_)
          · skip
            refine z_iinc (k := 4) (lv' := [(4, .int (zI (u + 1))), (0, .ref (a 0)), (1, .int (zI rm)), (2, .int (zI (S 0 0))), (3, .int (zI d))]) hx hb dX7_pack_94 hl rfl (by decide) rfl (fun ls hl => ?_)
            refine lv_goto (tgt := 43) hx hb dX7_pack_97 (by decide) ?_
            exact ihC (u + 1, G3, Y3) H locs ⟨⟨⟨by omega, fun j h1 h2 => by rw [hGC j h1 h2, gn_same (Or.inr (gn_gone c2))]⟩, rr_uP wf0 hRC (fun j h1 h2 => (gn_same (Or.inr (gn_gone c2))).symm)⟩, hMo, hRw, hSc, hHs, hSl, hKp, hGo, hNt, hTx, hRd⟩ hS (by show (S 0 0 - (u + 1)).toNat < (S 0 0 - u).toNat; omega) ls (lv_sub hl [1, 2, 3, 4, 0] rfl)
          · skip
            refine lv_aload_n hx hb dX7_pack_68 rfl (lv_at hl 0 rfl) ?_
            refine lv_iload_n hx hb dX7_pack_69 rfl (lv_at hl 3 rfl) ?_
            refine lv_iload hx hb dX7_pack_70 (lv_at hl 4 rfl) ?_
            refine z_iconst (n := 0) hx hb dX7_pack_72 ?_
            refine z_ro (zrV (As := [.int (zI d), .int (zI u), .int (zI 0)]) (rest := []) (Pw := fun H => va_P G vwCl (moW cs a n tl rn) H ∧ va_P G vwCl (m7 cs a 1 0 361 (aI Y3)) H) ⟨hx, hb, hml, hown, hts⟩ (c_X7_flipFor l G cs a (up2 S 1 (uP S (gn S d u))) Y3 n tl rn d u 0 (wfU wf0 (fun j _ _ h => gn_ne h)) hRC (show 0 ≤ d ∧ d < S 0 0 by omega) (show 0 ≤ u ∧ u < S 0 0 by omega) (by omega)) gX7_pack_X7_flipFor rfl qX7_flipFor rfl rfl ⟨Nat.le_of_ble_eq_true rfl, Nat.le_of_ble_eq_true rfl⟩ ⟨hMo, hRw⟩ hK (va_recv hK.1 hMo (ci := 7) (q0 := 0) rfl rfl) hl.1 rfl (Nat.le_of_ble_eq_true rfl) dX7_pack_73 ⟨Nat.le_of_ble_eq_true rfl, Nat.le_of_ble_eq_true rfl⟩) ?_
            refine z_topi (b := wayF S u 0 d) (wayF_up1 S _ _ _ _) ?_
            refine z_if_lt (tgt := 94) hx hb dX7_pack_76 (by decide) (by have := wayF_r S u 0 d; omega) (fun c3 => ?_) (fun c3 => ?_)
            · skip
              refine z_iinc (k := 4) (lv' := [(4, .int (zI (u + 1))), (0, .ref (a 0)), (1, .int (zI rm)), (2, .int (zI (S 0 0))), (3, .int (zI d))]) hx hb dX7_pack_94 hl rfl (by decide) rfl (fun ls hl => ?_)
              refine lv_goto (tgt := 43) hx hb dX7_pack_97 (by decide) ?_
              exact ihC (u + 1, G3, Y3) H locs ⟨⟨⟨by omega, fun j h1 h2 => by rw [hGC j h1 h2, gn_same (Or.inr (low_no (by omega) c3))]⟩, rr_uP wf0 hRC (fun j h1 h2 => (gn_same (Or.inr (low_no (by omega) c3))).symm)⟩, hMo, hRw, hSc, hHs, hSl, hKp, hGo, hNt, hTx, hRd⟩ hS (by show (S 0 0 - (u + 1)).toNat < (S 0 0 - u).toNat; omega) ls (lv_sub hl [1, 2, 3, 4, 0] rfl)
            · skip
              have hal : alikeB S u d = true := decide_eq_true (show wayF S u 0 d ≠ -5 by omega)
              have hlu : lowA S u = d := low_pair (by omega) (by omega) c2 hal
              refine lv_aload_n hx hb dX7_pack_79 rfl (lv_at hl 0 rfl) ?_
              refine va_get (D := G) (ci := 7) (v := .ref ((sh a 6) 0)) (C := RX7) (T := TX7) (N := 12) hx hb hts hi7 hown hK.1 hMo 0 rfl rfl 6 (by decide) (hts (.fieldLink RX7 26 "SpriteLinesModel" "goes" "[Z") (by decide +kernel)) (fun _ h9 => h9) rfl dX7_pack_80 ?_
              refine lv_iload hx hb dX7_pack_83 (lv_at hl 4 rfl) ?_
              refine z_iconst (n := 1) hx hb dX7_pack_85 ?_
              refine z_zast hx hb hK.1 hGo (Ord.D (ordM7 cs a 6 2 24 (aI G3)) inj1) hS 0 2 (F := G3) rfl rfl (by omega) (by decide) (by omega) ⟨6, by decide, by decide, rfl⟩ dX7_pack_86 (fun H locs hP1 hle hk hS => ?_)
              have hMo := keepO (ordMo cs a n tl rn) hMo hk (fun j hj h3 => absurd (ia j 6 (by omega) (by omega) h3) (by omega))
              have hRw := keepO (ordM7 cs a 1 0 361 (aI Y3)) hRw hk (fun j hj h3 => absurd (ia (1 + j) 6 (by omega) (by omega) h3) (by omega))
              have hSc := keepO (ordM7 cs a 2 0 361 (aI (cpZ Z Y 361))) hSc hk (fun j hj h3 => absurd (ia (2 + j) 6 (by omega) (by omega) h3) (by omega))
              have hHs := keepO (ordM7 cs a 3 0 1805 (aI Hh)) hHs hk (fun j hj h3 => absurd (ia (3 + j) 6 (by omega) (by omega) h3) (by omega))
              have hSl := keepO (ordM7 cs a 4 0 722 (aI Sl)) hSl hk (fun j hj h3 => absurd (ia (4 + j) 6 (by omega) (by omega) h3) (by omega))
              have hKp := keepO (ordM7 cs a 5 2 2 (aI Kp)) hKp hk (fun j hj h3 => absurd (ia (5 + j) 6 (by omega) (by omega) h3) (by omega))
              have hNt := keepO (ordM7 cs a 7 0 24 (aI Nt)) hNt hk (fun j hj h3 => absurd (ia (7 + j) 6 (by omega) (by omega) h3) (by omega))
              have hTx := keepO (ordM7 cs a 8 3 60 (aI X)) hTx hk (fun j hj h3 => absurd (ia (8 + j) 6 (by omega) (by omega) h3) (by omega))
              have hRd := keepO (ordM7 cs a 9 0 8 (cB Rd)) hRd hk (fun j hj h3 => absurd (ia (9 + j) 6 (by omega) (by omega) h3) (by omega))
              have hGo : va_P G vwCl (m7 cs a 6 2 24 (aI (updZ G3 u 1))) H := hP1
              refine lv_aload_n hx hb dX7_pack_87 rfl (lv_at hl 0 rfl) ?_
              refine lv_iload_n hx hb dX7_pack_88 rfl (lv_at hl 3 rfl) ?_
              refine lv_iload hx hb dX7_pack_89 (lv_at hl 4 rfl) ?_
              refine z_v (zrV (As := [.int (zI d), .int (zI u)]) (rest := []) (Pw := fun H => va_P G vwCl (moW cs a n tl rn) H ∧ va_P G vwCl (m7 cs a 1 0 361 (aI Y3)) H) ⟨hx, hb, hml, hown, hts⟩ (c_X7_unite l G cs a (up2 S 1 (uP S (gn S d u))) Y3 n tl rn d u ia (wfU wf0 (fun j _ _ h => gn_ne h)) hRC (show 0 ≤ d ∧ d < S 0 0 by omega) (show 0 ≤ u ∧ u < S 0 0 by omega) (by unfold alikeB; rw [wayF_up1]; exact hal)) gX7_pack_X7_unite rfl qX7_unite rfl rfl ⟨Nat.le_of_ble_eq_true rfl, Nat.le_of_ble_eq_true rfl⟩ ⟨hMo, hRw⟩ hK (va_recv hK.1 hMo (ci := 7) (q0 := 0) rfl rfl) hl.1 rfl (Nat.le_of_ble_eq_true rfl) dX7_pack_91 ⟨Nat.le_of_ble_eq_true rfl, Nat.le_of_ble_eq_true rfl⟩) hS (fun q h => ax_mono h (by decide) (by decide)) (fun q h => ax_mono h (by decide) (by decide)) (fun H locs hpost hle hk hS => ?_)
              obtain ⟨Y9, hRi, hRw'⟩ := hpost
              have hMo := keepO (ordMo cs a n tl rn) hMo hk (fun j hj ⟨i, h1, h2, h3⟩ => absurd (ia j i (by omega) (by omega) h3) (by omega))
              have hSc := keepO (ordM7 cs a 2 0 361 (aI (cpZ Z Y 361))) hSc hk (fun j hj ⟨i, h1, h2, h3⟩ => absurd (ia (2 + j) i (by omega) (by omega) h3) (by omega))
              have hHs := keepO (ordM7 cs a 3 0 1805 (aI Hh)) hHs hk (fun j hj ⟨i, h1, h2, h3⟩ => absurd (ia (3 + j) i (by omega) (by omega) h3) (by omega))
              have hSl := keepO (ordM7 cs a 4 0 722 (aI Sl)) hSl hk (fun j hj ⟨i, h1, h2, h3⟩ => absurd (ia (4 + j) i (by omega) (by omega) h3) (by omega))
              have hKp := keepO (ordM7 cs a 5 2 2 (aI Kp)) hKp hk (fun j hj ⟨i, h1, h2, h3⟩ => absurd (ia (5 + j) i (by omega) (by omega) h3) (by omega))
              have hGo := keepO (ordM7 cs a 6 2 24 (aI (updZ G3 u 1))) hGo hk (fun j hj ⟨i, h1, h2, h3⟩ => absurd (ia (6 + j) i (by omega) (by omega) h3) (by omega))
              have hNt := keepO (ordM7 cs a 7 0 24 (aI Nt)) hNt hk (fun j hj ⟨i, h1, h2, h3⟩ => absurd (ia (7 + j) i (by omega) (by omega) h3) (by omega))
              have hTx := keepO (ordM7 cs a 8 3 60 (aI X)) hTx hk (fun j hj ⟨i, h1, h2, h3⟩ => absurd (ia (8 + j) i (by omega) (by omega) h3) (by omega))
              have hRd := keepO (ordM7 cs a 9 0 8 (cB Rd)) hRd hk (fun j hj ⟨i, h1, h2, h3⟩ => absurd (ia (9 + j) i (by omega) (by omega) h3) (by omega))
              have hRw : va_P G vwCl (m7 cs a 1 0 361 (aI Y9)) H := hRw'
              refine z_iinc (k := 4) (lv' := [(4, .int (zI (u + 1))), (0, .ref (a 0)), (1, .int (zI rm)), (2, .int (zI (S 0 0))), (3, .int (zI d))]) hx hb dX7_pack_94 hl rfl (by decide) rfl (fun ls hl => ?_)
              refine lv_goto (tgt := 43) hx hb dX7_pack_97 (by decide) ?_
              exact ihC (u + 1, updZ G3 u 1, Y9) H locs ⟨⟨⟨by omega, fun j h1 h2 => by
      by_cases e : j = u
      · rw [e, updZ_s]; exact (b2_t (show gn S d (u + 1) u = true by unfold gn; rw [decide_eq_true_eq]; omega)).symm
      · rw [updZ_n e, hGC j h1 h2, gn_same (Or.inl e)]⟩, rr_pair wf0 hlu (by omega) hRi⟩, hMo, hRw, hSc, hHs, hSl, hKp, hGo, hNt, hTx, hRd⟩ hS (by show (S 0 0 - (u + 1)).toNat < (S 0 0 - u).toNat; omega) ls (lv_sub hl [1, 2, 3, 4, 0] rfl)
  · skip
    refine lv_aload_n hx hb dX7_pack_18 rfl (lv_at hl 0 rfl) ?_
    refine va_get (D := G) (ci := 7) (v := .ref ((sh a 6) 0)) (C := RX7) (T := TX7) (N := 12) hx hb hts hi7 hown hK.1 hMo 0 rfl rfl 6 (by decide) (hts (.fieldLink RX7 26 "SpriteLinesModel" "goes" "[Z") (by decide +kernel)) (fun _ h9 => h9) rfl dX7_pack_19 ?_
    refine lv_iload_n hx hb dX7_pack_22 rfl (lv_at hl 3 rfl) ?_
    refine z_iconst (n := 0) hx hb dX7_pack_23 ?_
    refine z_zast hx hb hK.1 hGo (Ord.D (ordM7 cs a 6 2 24 (aI G1)) inj1) hS 0 2 (F := G1) rfl rfl (by omega) (by decide) (by omega) ⟨6, by decide, by decide, rfl⟩ dX7_pack_24 (fun H locs hP1 hle hk hS => ?_)
    have hMo := keepO (ordMo cs a n tl rn) hMo hk (fun j hj h3 => absurd (ia j 6 (by omega) (by omega) h3) (by omega))
    have hRw := keepO (ordM7 cs a 1 0 361 (aI Y)) hRw hk (fun j hj h3 => absurd (ia (1 + j) 6 (by omega) (by omega) h3) (by omega))
    have hSc := keepO (ordM7 cs a 2 0 361 (aI (cpZ Z Y 361))) hSc hk (fun j hj h3 => absurd (ia (2 + j) 6 (by omega) (by omega) h3) (by omega))
    have hHs := keepO (ordM7 cs a 3 0 1805 (aI Hh)) hHs hk (fun j hj h3 => absurd (ia (3 + j) 6 (by omega) (by omega) h3) (by omega))
    have hSl := keepO (ordM7 cs a 4 0 722 (aI Sl)) hSl hk (fun j hj h3 => absurd (ia (4 + j) 6 (by omega) (by omega) h3) (by omega))
    have hKp := keepO (ordM7 cs a 5 2 2 (aI Kp)) hKp hk (fun j hj h3 => absurd (ia (5 + j) 6 (by omega) (by omega) h3) (by omega))
    have hNt := keepO (ordM7 cs a 7 0 24 (aI Nt)) hNt hk (fun j hj h3 => absurd (ia (7 + j) 6 (by omega) (by omega) h3) (by omega))
    have hTx := keepO (ordM7 cs a 8 3 60 (aI X)) hTx hk (fun j hj h3 => absurd (ia (8 + j) 6 (by omega) (by omega) h3) (by omega))
    have hRd := keepO (ordM7 cs a 9 0 8 (cB Rd)) hRd hk (fun j hj h3 => absurd (ia (9 + j) 6 (by omega) (by omega) h3) (by omega))
    have hGo : va_P G vwCl (m7 cs a 6 2 24 (aI (updZ G1 i 0))) H := hP1
    refine z_iinc (k := 3) (lv' := [(3, .int (zI (i + 1))), (0, .ref (a 0)), (1, .int (zI rm)), (2, .int (zI (S 0 0)))]) hx hb dX7_pack_25 hl rfl (by decide) rfl (fun ls hl => ?_)
    refine lv_goto (tgt := 13) hx hb dX7_pack_28 (by decide) ?_
    exact ihA (i + 1, updZ G1 i 0) H locs ⟨⟨by omega, fun j q1 q2 => by
      by_cases e : j = i
      · subst e; exact updZ_s
      · rw [updZ_n e]; exact hJA j q1 (by omega)⟩, hMo, hRw, hSc, hHs, hSl, hKp, hGo, hNt, hTx, hRd⟩ hS (by show (S 0 0 - (i + 1)).toNat < (S 0 0 - i).toNat; omega) ls (lv_sub hl [1, 2, 3, 0] rfl)
