/-! Facts on the answers that the law compares: places, alike parts, turns, colors, meetings. -/
section PU1
variable {S : SS}
theorem any_s {f : Int → Bool} {k : Int} (h : 0 ≤ k) : anyN f (k + 1).toNat = (anyN f k.toNat || f k) := by
  obtain ⟨n, rfl⟩ := Int.eq_ofNat_of_zero_le h
  rw [show ((n : Int) + 1).toNat = n + 1 by omega, anyN]
  rfl
theorem any_st {f : Int → Bool} {k : Int} (h : 0 ≤ k) (hf : f k = true) : anyN f (k + 1).toNat = true := by rw [any_s h, hf, Bool.or_true]
theorem any_sf {f : Int → Bool} {k : Int} (h : 0 ≤ k) (hf : f k = false) : anyN f (k + 1).toNat = anyN f k.toNat := by rw [any_s h, hf, Bool.or_false]
theorem all_s {f : Int → Bool} {k : Int} (h : 0 ≤ k) : allN f (k + 1).toNat = (allN f k.toNat && f k) := by
  obtain ⟨n, rfl⟩ := Int.eq_ofNat_of_zero_le h
  rw [show ((n : Int) + 1).toNat = n + 1 by omega, allN]
  rfl
theorem all_sf {f : Int → Bool} {k : Int} (h : 0 ≤ k) (hf : f k = false) : b2 (allN f (k + 1).toNat) = 0 := b2_f (by rw [all_s h, hf, Bool.and_false])
theorem all_s0 {f : Int → Bool} {k : Int} (h : 0 ≤ k) (hf : allN f k.toNat = false) : b2 (allN f (k + 1).toNat) = 0 := b2_f (by rw [all_s h, hf, Bool.false_and])
theorem all_st {f : Int → Bool} {k : Int} (h : 0 ≤ k) (h0 : allN f k.toNat = true) (hf : f k = true) : b2 (allN f (k + 1).toNat) = 1 := b2_t (by rw [all_s h, h0, hf]; rfl)
-- what the class answers, inside the ranges
theorem sp_at {s t : Int} (hs : 0 ≤ s ∧ s < S 0 1) (ht : 0 ≤ t ∧ t < 6) : spriteF S s t = S 1 (6 * s + t) := by
  unfold spriteF
  rw [if_neg (fun h9 => h9 hs), if_pos ht]
theorem sp_6 {s : Int} (hs : 0 ≤ s ∧ s < S 0 1) : spriteF S s 6 = cntI (fun q => shownB S q (S 0 4) s) 32 := by
  unfold spriteF
  rw [if_neg (fun h9 => h9 hs), if_neg (by decide), if_pos rfl]
theorem sp_7 {s : Int} (hs : 0 ≤ s ∧ s < S 0 1) : spriteF S s 7 = cntI (isOver S s) 32 := by
  unfold spriteF
  rw [if_neg (fun h9 => h9 hs), if_neg (by decide), if_neg (by decide), if_pos rfl]
theorem sp_8 {s : Int} (hs : 0 ≤ s ∧ s < S 0 1) : spriteF S s 8 = metF S (S 0 4) s := by
  unfold spriteF
  rw [if_neg (fun h9 => h9 hs), if_neg (by decide), if_neg (by decide), if_neg (by decide), if_pos rfl]
theorem sp_9 {s : Int} (hs : 0 ≤ s ∧ s < S 0 1) : spriteF S s 9 = -2 := by
  unfold spriteF
  rw [if_neg (fun h9 => h9 hs), if_neg (by decide), if_neg (by decide), if_neg (by decide), if_neg (by decide)]
theorem sp_no {s t : Int} (hs : ¬ (0 ≤ s ∧ s < S 0 1)) : spriteF S s t = -1 := by
  unfold spriteF
  rw [if_pos hs]
theorem ln_0 {q : Int} (hq : 0 ≤ q ∧ q < 32) : lineF S q 0 = cntI (isW S q) (S 0 1) := by
  unfold lineF
  rw [if_neg (fun h9 => h9 hq), if_pos rfl]
theorem ln_1 {q : Int} (hq : 0 ≤ q ∧ q < 32) : lineF S q 1 = nSh S q (S 0 4) := by
  unfold lineF
  rw [if_neg (fun h9 => h9 hq), if_neg (by decide), if_pos rfl]
theorem ln_2 {q : Int} (hq : 0 ≤ q ∧ q < 32) : lineF S q 2 = cntI (fun r => decide (colF S q (S 0 4) r ≠ 0)) 32 := by
  unfold lineF
  rw [if_neg (fun h9 => h9 hq), if_neg (by decide), if_neg (by decide), if_pos rfl]
theorem ln_3 {q : Int} (hq : 0 ≤ q ∧ q < 32) : lineF S q 3 = if hasSw S q then S 3 q else -5 := by
  unfold lineF
  rw [if_neg (fun h9 => h9 hq), if_neg (by decide), if_neg (by decide), if_neg (by decide), if_pos rfl]
theorem ln_4 {q : Int} (hq : 0 ≤ q ∧ q < 32) : lineF S q 4 = if hasSw S q then S 4 q else -5 := by
  unfold lineF
  rw [if_neg (fun h9 => h9 hq), if_neg (by decide), if_neg (by decide), if_neg (by decide), if_neg (by decide), if_pos rfl]
theorem ln_5 {q : Int} (hq : 0 ≤ q ∧ q < 32) : lineF S q 5 = -2 := by
  unfold lineF
  rw [if_neg (fun h9 => h9 hq), if_neg (by decide), if_neg (by decide), if_neg (by decide), if_neg (by decide), if_neg (by decide)]
theorem ln_no {q t : Int} (hq : ¬ (0 ≤ q ∧ q < 32)) : lineF S q t = -1 := by
  unfold lineF
  rw [if_pos hq]
theorem shn_at {q k : Int} (hq : 0 ≤ q ∧ q < 32) (hk : 0 ≤ k) : shownF S q k = shAt S q (S 0 4) k := by
  unfold shownF
  rw [if_neg (fun h9 => h9 hq), if_neg (by omega)]
theorem shn_neg {q k : Int} (hq : 0 ≤ q ∧ q < 32) (hk : k < 0) : shownF S q k = -2 := by
  unfold shownF
  rw [if_neg (fun h9 => h9 hq), if_pos hk]
theorem px_at {q r t : Int} (hq : 0 ≤ q ∧ q < S 0 0) (hr : 0 ≤ r ∧ r < 8) (ht : 0 ≤ t ∧ t < 8) : pixelF S q r t = pixW S q 0 r t := by
  unfold pixelF
  rw [if_neg (fun h9 => h9 hq), if_neg (fun h9 => h9 ⟨hr, ht⟩)]
theorem pixW_0 {q r t : Int} : pixW S q 0 r t = S 5 (64 * q + (8 * r + t)) := by
  unfold pixW
  rw [if_neg (by decide), if_neg (by decide)]
theorem px_fl {q w r t x y : Int} (hq : 0 ≤ q ∧ q < S 0 0) (hr : 0 ≤ r ∧ r < 8) (ht : 0 ≤ t ∧ t < 8) (hx : x = if w / 2 % 2 = 1 then 7 - r else r) (hy : y = if w % 2 = 1 then 7 - t else t) : pixelF S q x y = pixW S q w r t := by
  have h1 : 0 ≤ x ∧ x < 8 := by rw [hx]; split <;> omega
  have h2 : 0 ≤ y ∧ y < 8 := by rw [hy]; split <;> omega
  rw [px_at hq h1 h2, pixW_0, hx, hy]
  rfl
theorem pixF_r (h : WF S) {q r t : Int} (hq : 0 ≤ q ∧ q < S 0 0) (hr : 0 ≤ r ∧ r < 8) (ht : 0 ≤ t ∧ t < 8) : 0 ≤ pixelF S q r t ∧ pixelF S q r t ≤ 3 := by
  have h0 := h.1
  rw [px_at hq hr ht]
  exact pixW_r (wf_wX h) (by omega) hr ht
theorem al_at {q t : Int} (hq : 0 ≤ q ∧ q < S 0 0) (ht : 0 ≤ t ∧ t < S 0 0) : alikeF S q t = wayF S q 0 t := by
  unfold alikeF
  rw [if_neg (fun h9 => h9 ⟨hq, ht⟩)]
theorem cl_at {q r : Int} (hq : 0 ≤ q ∧ q < 32) (hr : 0 ≤ r ∧ r < 32) : colorF S q r = colF S q (S 0 4) r := by
  unfold colorF
  rw [if_neg (fun h9 => h9 ⟨hq, hr⟩)]
theorem cl_no {q r : Int} (h : ¬ ((0 ≤ q ∧ q < 32) ∧ (0 ≤ r ∧ r < 32))) : colorF S q r = -1 := by
  unfold colorF
  rw [if_pos h]
-- alike parts
theorem way_hit {p q v : Int} (hv : 0 ≤ v ∧ v < 4) (h0 : ∀ j, 0 ≤ j → j < v → sameP S q j p 0 = false) (h : sameP S q v p 0 = true) : wayF S p 0 q = v := ff_hit v h0 hv.1 (by omega) h
theorem way_none {p q : Int} (h0 : ∀ j, 0 ≤ j → j < 4 → sameP S q j p 0 = false) : wayF S p 0 q = -5 := ff_none (fun i h1 h2 => h0 i h1 (by omega))
theorem same_back {p q v : Int} (hv : 0 ≤ v ∧ v ≤ 3) (h : sameP S q v p 0 = true) : sameP S p v q 0 = true := by
  have := sameP_sym (sameP_x hv (by decide) hv h)
  rw [xw_self hv, xw_0 hv] at this
  exact this
theorem way_sym {p q : Int} : wayF S p 0 q = wayF S q 0 p := by
  unfold wayF
  refine ff_congr (fun i h1 h2 => ?_)
  have hv : 0 ≤ i ∧ i ≤ 3 := by omega
  rw [Bool.eq_iff_iff]
  exact ⟨same_back hv, same_back hv⟩
-- the order of turns
variable {q fr : Int}
theorem turn_inj {x y : Int} (hx : 0 ≤ x ∧ x < S 0 1) (hy : 0 ≤ y ∧ y < S 0 1) (h0 : 0 ≤ turnOf S q x fr) (h : turnOf S q x fr = turnOf S q y fr) : x = y := by
  obtain ⟨u, hu, eu, gu, -, tu⟩ := turn_ge hx h0
  obtain ⟨v, hv, ev, gv, -, tv⟩ := turn_ge hy (show 0 ≤ turnOf S q y fr by omega)
  have := cntI_inj hu.1 hv.1 gu gv (by omega)
  rw [← eu, ← ev, this]
theorem shAt_turn {x k : Int} (hx : 0 ≤ x ∧ x < S 0 1) (hk : 0 ≤ k) : shAt S q fr k = x ↔ turnOf S q x fr = k := by
  unfold shAt
  constructor
  · intro h
    rcases ff_cases (fun x => decide (turnOf S q x fr = k)) 0 (S 0 1).toNat with ⟨j, h1, h2, h3, -, h5⟩ | ⟨-, h5⟩
    · rw [h5] at h
      rw [← h]
      exact of_decide_eq_true h3
    · rw [h5] at h
      omega
  · intro h
    refine ff_hit x (fun i h1 h2 => decide_eq_false (fun h9 => ?_)) hx.1 (by omega) (decide_eq_true h)
    have := turn_inj (q := q) (fr := fr) (x := i) (y := x) ⟨h1, by omega⟩ hx (by omega) (by omega)
    omega
theorem shown_iff {x : Int} (hx : 0 ≤ x ∧ x < S 0 1) : shownB S q fr x = true ↔ ∃ k, 0 ≤ k ∧ k < nSh S q fr ∧ shAt S q fr k = x := by
  unfold shownB
  rw [decide_eq_true_iff]
  constructor
  · intro h
    exact ⟨_, h, turn_lt hx h, (shAt_turn hx h).2 rfl⟩
  · rintro ⟨k, h0, -, h⟩
    rw [(shAt_turn hx h0).1 h]
    exact h0
theorem shown_no {x : Int} (hx : 0 ≤ x ∧ x < S 0 1) (h : ∀ k, 0 ≤ k → k < nSh S q fr → shAt S q fr k ≠ x) : shownB S q fr x = false := by
  cases h9 : shownB S q fr x with
  | false => rfl
  | true =>
    obtain ⟨k, h0, h1, h2⟩ := (shown_iff hx).1 h9
    exact absurd h2 (h k h0 h1)
theorem shAt_rr (k : Int) : -5 ≤ shAt S q fr k ∧ (shAt S q fr k < S 0 1 ∨ shAt S q fr k = -5) := by
  unfold shAt
  rcases ff_cases (fun x => decide (turnOf S q x fr = k)) 0 (S 0 1).toNat with ⟨j, h1, h2, -, -, h5⟩ | ⟨-, h5⟩
  · rw [h5]; omega
  · rw [h5]; omega
/-- the sprites shown so far, behind i turns -/
def nT (S : SS) (q fr i : Int) : Int := if cntI (gT S q fr) i < S 0 2 then cntI (gT S q fr) i else S 0 2
theorem nT_0 (h : 1 ≤ S 0 2) : nT S q fr 0 = 0 := by
  unfold nT
  rw [cntI_0, if_pos (by omega)]
theorem nT_end : nT S q fr (S 0 1) = nSh S q fr := rfl
theorem nT_f {i : Int} (hi : 0 ≤ i) (hg : gT S q fr i = false) : nT S q fr (i + 1) = nT S q fr i := by
  unfold nT
  rw [cntI_f hi hg]
theorem nT_t {i : Int} (hi : 0 ≤ i) (hg : gT S q fr i = true) : nT S q fr (i + 1) = if nT S q fr i < S 0 2 then nT S q fr i + 1 else nT S q fr i := by
  unfold nT
  rw [cntI_t hi hg]
  repeat' split
  all_goals omega
theorem nT_full {i : Int} (hi : 0 ≤ i) (hg : gT S q fr i = true) (h : S 0 2 ≤ nT S q fr i) : nT S q fr (i + 1) = nT S q fr i := by rw [nT_t hi hg, if_neg (by omega)]
theorem nT_more {i : Int} (hi : 0 ≤ i) (hg : gT S q fr i = true) (h : nT S q fr i < S 0 2) : nT S q fr (i + 1) = nT S q fr i + 1 := by rw [nT_t hi hg, if_pos h]
theorem nT_r {i : Int} (hi : 0 ≤ i) (h : 1 ≤ S 0 2) : 0 ≤ nT S q fr i ∧ nT S q fr i ≤ i ∧ nT S q fr i ≤ S 0 2 := by
  have := cntI_r (gT S q fr) hi
  unfold nT
  split <;> omega
theorem nT_eq {i : Int} (h : nT S q fr i < S 0 2) : nT S q fr i = cntI (gT S q fr) i := by
  unfold nT at h ⊢
  by_cases c : cntI (gT S q fr) i < S 0 2
  · rw [if_pos c]
  · rw [if_neg c] at h
    omega
theorem shAt_nT {i : Int} (hi : 0 ≤ i ∧ i < S 0 1) (hg : gT S q fr i = true) (h : nT S q fr i < S 0 2) : shAt S q fr (nT S q fr i) = atT S fr i := by
  have h0 := cntI_r (gT S q fr) hi.1
  have e := nT_eq h
  have h2 : cntI (gT S q fr) i < S 0 2 := by omega
  have ha := atT_r (S := S) (fr := fr) i (by omega)
  rw [e]
  exact (shAt_turn ha h0.1).2 (turn_at hi hg h2)
theorem shown_nT {i : Int} (hi : 0 ≤ i ∧ i < S 0 1) (hg : gT S q fr i = true) (h : nT S q fr i < S 0 2) : shownB S q fr (atT S fr i) = true := by
  have ha := atT_r (S := S) (fr := fr) i (by omega)
  have h0 := cntI_r (gT S q fr) hi.1
  have e := nT_eq h
  have h1 := cntI_lt hi.1 hi.2 hg
  refine (shown_iff ha).2 ⟨nT S q fr i, by omega, ?_, shAt_nT hi hg h⟩
  unfold nSh
  split <;> omega
theorem shIn_0 {x : Int} (hq : 0 ≤ q ∧ q < 32) (hx : 0 ≤ x ∧ x < S 0 1) (h : shownB S q (S 0 4) x = true) : shownInF S q x = 0 := by
  unfold shownInF
  rw [if_neg (fun h9 => h9 ⟨hq, hx⟩)]
  refine ff_hit 0 (fun i h1 h2 => by omega) (by decide) (by decide) ?_
  rw [show S 0 4 + 0 = S 0 4 by omega]
  exact h
end PU1
