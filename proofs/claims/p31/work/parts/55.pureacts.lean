/-! What the law's acts make of the object. -/
section AK1
variable {A : AS}
/-- an act that keeps the parts' number, the sprites' number, the frame and the colors -/
theorem addPart_ok (h : GA A) (h1 : A.1 0 0 < 24) : ∃ C : AS, addPartF A = (A.1 0 0, C) ∧ GA C ∧ C.1 0 0 = A.1 0 0 + 1 ∧ C.1 0 1 = A.1 0 1 ∧ C.1 0 4 = A.1 0 4 ∧ C.1 2 = A.1 2 := by
  have e : addPartF A = (A.1 0 0, act A (addBl A.1)) := by
    unfold addPartF
    rw [if_neg (by omega)]
  have h2 := awf_addPart h.1
  rw [e] at h2
  exact ⟨_, e, ⟨h2, h.2⟩, rfl, rfl, rfl, rfl⟩
theorem setPixel_ok (h : GA A) {q r t v : Int} (hq : 0 ≤ q ∧ q < A.1 0 0) (hr : 0 ≤ r ∧ r < 8) (ht : 0 ≤ t ∧ t < 8) (hv : 0 ≤ v ∧ v < 4) : ∃ C : AS, setPixelF A q r t v = (pixelF A.1 q r t, C) ∧ GA C ∧ C.1 0 = A.1 0 ∧ C.1 2 = A.1 2 ∧ pixelF C.1 q r t = v := by
  have e : setPixelF A q r t v = (pixelF A.1 q r t, act A (up2 A.1 5 (updZ (A.1 5) (64 * q + (8 * r + t)) v))) := by
    unfold setPixelF
    rw [if_neg (fun h9 => h9 hq), if_neg (fun h9 => h9 ⟨hr, ht, hv⟩), px_at hq hr ht]
  have h2 := awf_setPixel h.1 q r t v
  rw [e] at h2
  have key : ∀ S2 : SS, S2 0 0 = A.1 0 0 → S2 5 = updZ (A.1 5) (64 * q + (8 * r + t)) v → pixelF S2 q r t = v := fun S2 e0 e5 => by
    rw [px_at (by rw [e0]; exact hq) hr ht, pixW_0, e5]
    exact updZ_s
  exact ⟨_, e, ⟨h2, h.2⟩, rfl, rfl, key _ rfl rfl⟩
theorem addSprite_ok (h : GA A) {q x y : Int} (hq : 0 ≤ q ∧ q < A.1 0 0) (hx : -7 ≤ x ∧ x ≤ 31) (hy : -7 ≤ y ∧ y ≤ 31) (h1 : A.1 0 1 < 20) : ∃ C : AS, addSpriteF A q x y = (A.1 0 1, C) ∧ GA C ∧ C.1 0 0 = A.1 0 0 ∧ C.1 0 1 = A.1 0 1 + 1 ∧ C.1 0 4 = A.1 0 4 ∧ C.1 2 = A.1 2 := by
  have e : addSpriteF A q x y = (A.1 0 1, act A (addSp A.1 q x y)) := by
    unfold addSpriteF
    rw [if_neg (fun h9 => h9 hq), if_neg (fun h9 => h9 ⟨hx, hy⟩), if_neg (by omega)]
  have h2 := awf_addSprite h.1 q x y
  rw [e] at h2
  exact ⟨_, e, ⟨h2, h.2⟩, rfl, rfl, rfl, rfl⟩
theorem vals_lt {S : SS} {t v : Int} (ht : 0 ≤ t ∧ t < 4) (h0 : t = 0 → v < S 0 0) (h3 : t = 3 → v < 2) (h4 : t ≠ 0 → v < 4) : v < valsF S t := by
  unfold valsF
  repeat' split
  all_goals (first | omega | exact h0 (by assumption) | exact h3 (by assumption))
theorem set_ok (h : GA A) {z t v : Int} (hz : 0 ≤ z ∧ z < A.1 0 1) (hv : 0 ≤ v ∧ v < valsF A.1 t) : ∃ C : AS, setF A z t v = (A.1 1 (6 * z + t), C) ∧ GA C ∧ C.1 0 = A.1 0 ∧ C.1 2 = A.1 2 ∧ C.1 1 (6 * z + t) = v := by
  have e : setF A z t v = (A.1 1 (6 * z + t), act A (up2 A.1 1 (updZ (A.1 1) (6 * z + t) v))) := by
    unfold setF
    rw [if_neg (fun h9 => h9 hz), if_neg (fun h9 => h9 hv)]
  have h2 := awf_set h.1 z t v
  rw [e] at h2
  exact ⟨_, e, ⟨h2, h.2⟩, rfl, rfl, updZ_s⟩
theorem set_4 {z : Int} (hz : 0 ≤ z ∧ z < A.1 0 1) : setF A z 4 0 = (-2, A) := by
  unfold setF
  rw [if_neg (fun h9 => h9 hz), if_pos (show ¬ (0 ≤ (0 : Int) ∧ (0 : Int) < valsF A.1 4) from fun h9 => absurd h9.2 (by show ¬ (0 : Int) < 0; decide))]
theorem move_ok (h : GA A) {z x y : Int} (hz : 0 ≤ z ∧ z < A.1 0 1) (hx : -7 ≤ x ∧ x ≤ 31) (hy : -7 ≤ y ∧ y ≤ 31) : ∃ C : AS, moveF A z x y = (cntI (isOver C.1 z) 32, C) ∧ GA C ∧ C.1 0 = A.1 0 ∧ C.1 2 = A.1 2 ∧ C.1 1 (6 * z + 4) = x ∧ C.1 1 (6 * z + 5) = y := by
  have e : moveF A z x y = (cntI (isOver (mvS A.1 z x y) z) 32, act A (mvS A.1 z x y)) := by
    unfold moveF
    rw [if_neg (fun h9 => h9 hz), if_neg (fun h9 => h9 ⟨hx, hy⟩)]
  have h2 := awf_move h.1 z x y
  rw [e] at h2
  refine ⟨act A (mvS A.1 z x y), e, ⟨h2, h.2⟩, rfl, rfl, ?_, updZ_s⟩
  show updZ (updZ (A.1 1) (6 * z + 4) x) (6 * z + 5) y (6 * z + 4) = x
  rw [updZ_n (by omega), updZ_s]
theorem swN_0f (S : SS) (f u v : Int) (n : Nat) : swN S f u v n 0 = S 0 ∧ swN S f u v n 2 = S 2 := by
  induction n with
  | zero => exact ⟨rfl, rfl⟩
  | succ n ih => exact ⟨ih.1, ih.2⟩
theorem putSw_ln {S : SS} {x u v : Int} (hx : 0 ≤ x ∧ x < 32) : lineF (putSw S x u v) x 3 = if u = v then -5 else if u < v then u else v := by
  rw [ln_3 hx]
  have e3 : putSw S x u v 3 x = if v < u then v else u := updZ_s
  have e4 : putSw S x u v 4 x = if u < v then v else u := updZ_s
  unfold hasSw
  rw [e3, e4]
  by_cases c : u = v
  · rw [if_pos c, decide_eq_false (fun h9 => h9 (by rw [if_neg (by omega), if_neg (by omega)]))]
    rfl
  · rw [if_neg c, decide_eq_true (by repeat' split
                                     all_goals omega)]
    show (if v < u then v else u) = _
    repeat' split
    all_goals omega
theorem swap_ok (h : GA A) {f t u v : Int} (hf : 0 ≤ f ∧ f < 32) (ht : f ≤ t ∧ t < 32) (hu : 0 ≤ u ∧ u < 4) (hv : 0 ≤ v ∧ v < 4) : ∃ C : AS, swapF A f t u v = (cntI (hasSw C.1) 32, C) ∧ GA C ∧ C.1 0 = A.1 0 ∧ C.1 2 = A.1 2 ∧ lineF C.1 t 3 = (if u = v then -5 else if u < v then u else v) := by
  have e : swapF A f t u v = (cntI (hasSw (swN A.1 f u v (t + 1 - f).toNat)) 32, act A (swN A.1 f u v (t + 1 - f).toNat)) := by
    unfold swapF
    rw [if_neg (fun h9 => h9 ⟨hf, ⟨by omega, ht.2⟩, hu, hv⟩), if_neg (by omega)]
  have h2 := awf_swap h.1 f t u v
  rw [e] at h2
  refine ⟨act A (swN A.1 f u v (t + 1 - f).toNat), e, ⟨h2, h.2⟩, (swN_0f _ _ _ _ _).1, (swN_0f _ _ _ _ _).2, ?_⟩
  show lineF (swN A.1 f u v (t + 1 - f).toNat) t 3 = _
  rw [swN_s ht.1]
  exact putSw_ln ⟨by omega, ht.2⟩
theorem setLimit_ok (h : GA A) {v : Int} (hv : 1 ≤ v ∧ v ≤ 20) : ∃ C : AS, setLimitF A v = (A.1 0 2, C) ∧ GA C ∧ C.1 0 0 = A.1 0 0 ∧ C.1 0 1 = A.1 0 1 ∧ C.1 0 4 = A.1 0 4 ∧ C.1 2 = A.1 2 := by
  have e : setLimitF A v = (A.1 0 2, act A (up2 A.1 0 (updZ (A.1 0) 2 v))) := by
    unfold setLimitF
    rw [if_neg (fun h9 => h9 hv)]
  have h2 := awf_setLimit h.1 v
  rw [e] at h2
  exact ⟨_, e, ⟨h2, h.2⟩, rfl, rfl, rfl, rfl⟩
theorem setStride_ok (h : GA A) {v : Int} (hv : 0 ≤ v ∧ v < 20) : ∃ C : AS, setStrideF A v = (A.1 0 3, C) ∧ GA C ∧ C.1 0 0 = A.1 0 0 ∧ C.1 0 1 = A.1 0 1 ∧ C.1 0 4 = A.1 0 4 ∧ C.1 2 = A.1 2 := by
  have e : setStrideF A v = (A.1 0 3, act A (up2 A.1 0 (updZ (A.1 0) 3 v))) := by
    unfold setStrideF
    rw [if_neg (fun h9 => h9 hv)]
  have h2 := awf_setStride h.1 v
  rw [e] at h2
  exact ⟨_, e, ⟨h2, h.2⟩, rfl, rfl, rfl, rfl⟩
theorem next_ok (h : GA A) {v : Int} (hv : 1 ≤ v ∧ v ≤ 100000) (h4 : A.1 0 4 + v ≤ 1000000) : ∃ C : AS, nextF A v = (A.1 0 4 + v, C) ∧ GA C ∧ C.1 0 0 = A.1 0 0 ∧ C.1 0 1 = A.1 0 1 ∧ C.1 0 4 = A.1 0 4 + v ∧ C.1 2 = A.1 2 := by
  have e : nextF A v = (A.1 0 4 + v, act A (up2 A.1 0 (updZ (A.1 0) 4 (A.1 0 4 + v)))) := by
    unfold nextF
    rw [if_neg (fun h9 => h9 hv), if_neg (by omega)]
  have h2 := awf_next h.1 v
  rw [e] at h2
  exact ⟨_, e, ⟨h2, h.2⟩, rfl, rfl, rfl, rfl⟩
theorem setColor_ok (h : GA A) {q z v : Int} (hq : 0 ≤ q ∧ q < 4) (hz : 1 ≤ z ∧ z < 4) (hv : 0 ≤ v ∧ v < 64) : ∃ C : AS, setColorF A q z v = (A.1 2 (4 * q + z), C) ∧ GA C ∧ C.1 0 = A.1 0 ∧ C.1 2 = updZ (A.1 2) (4 * q + z) v := by
  have e : setColorF A q z v = (A.1 2 (4 * q + z), act A (up2 A.1 2 (updZ (A.1 2) (4 * q + z) v))) := by
    unfold setColorF
    rw [if_neg (fun h9 => h9 hq), if_neg (fun h9 => h9 ⟨hz, hv⟩)]
  have h2 := awf_setColor h.1 q z v
  rw [e] at h2
  exact ⟨_, e, ⟨h2, h.2⟩, rfl, rfl⟩
theorem pal_upd {S S2 : SS} {P : Int → Int} {k v : Int} (h : PalR S P) (e : S2 2 = updZ (S 2) k v) : PalR S2 (updZ P k v) := by
  intro j h1 h2 h3
  rw [e]
  by_cases c : j = k
  · rw [c, updZ_s, updZ_s]
  · rw [updZ_n c, updZ_n c]
    exact h j h1 h2 h3
theorem pal_same {S S2 : SS} {P : Int → Int} (h : PalR S P) (e : S2 2 = S 2) : PalR S2 P := fun j h1 h2 h3 => by rw [e]; exact h j h1 h2 h3
end AK1
