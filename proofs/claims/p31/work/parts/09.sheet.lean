/-! Facts of a sheet's planes. -/
def putRw (X : Int → Int) (q n : Int) (f g : Nat → Bool) : Int → Int := fun j => if 64 * q ≤ j ∧ j < 64 * q + n then b2 (f (j - 64 * q).toNat) + 2 * b2 (g (j - 64 * q).toNat) else X j
theorem b2_bits (x y : Bool) : decide ((b2 x + 2 * b2 y) % 2 = 1) = x ∧ decide ((b2 x + 2 * b2 y) / 2 % 2 = 1) = y := by cases x <;> cases y <;> decide
theorem putRw_in {X : Int → Int} {q n : Int} {f g : Nat → Bool} {k : Nat} (h : (k : Int) < n) : putRw X q n f g (64 * q + k) = b2 (f k) + 2 * b2 (g k) := by
  unfold putRw
  rw [if_pos (by omega), show (64 * q + (k : Int) - 64 * q).toNat = k by omega]
theorem putRw_out {X : Int → Int} {q n j : Int} {f g : Nat → Bool} (h : ¬ (64 * q ≤ j ∧ j < 64 * q + n)) : putRw X q n f g j = X j := if_neg h
theorem bL_put {X : Int → Int} {q n : Int} {f g : Nat → Bool} {k : Nat} (h : (k : Int) < n) : bL (putRw X q n f g) q k = f k := by
  unfold bL
  rw [putRw_in h]
  exact (b2_bits _ _).1
theorem bH_put {X : Int → Int} {q n : Int} {f g : Nat → Bool} {k : Nat} (h : (k : Int) < n) : bH (putRw X q n f g) q k = g k := by
  unfold bH
  rw [putRw_in h]
  exact (b2_bits _ _).2
theorem putL_eq {X : Int → Int} {q : Int} {f h : Nat → Bool} (hq : 0 ≤ q) : vp_updL (pL X) q.toNat (lB f) = pL (putRw X q 64 f h) := by
  funext p
  unfold vp_updL pL
  by_cases e : p = q.toNat
  · rw [if_pos e, show (p : Int) = q by omega]
    exact lB_congr (fun k hk => (bL_put (by omega)).symm)
  · rw [if_neg e]
    refine lB_congr (fun k hk => ?_)
    unfold bL
    rw [putRw_out (by omega)]
theorem putH_eq {X : Int → Int} {q : Int} {f h : Nat → Bool} (hq : 0 ≤ q) : vp_updL (pH X) q.toNat (lB h) = pH (putRw X q 64 f h) := by
  funext p
  unfold vp_updL pH
  by_cases e : p = q.toNat
  · rw [if_pos e, show (p : Int) = q by omega]
    exact lB_congr (fun k hk => (bH_put (by omega)).symm)
  · rw [if_neg e]
    refine lB_congr (fun k hk => ?_)
    unfold bH
    rw [putRw_out (by omega)]
theorem pH_keep {X : Int → Int} {q : Int} {f : Nat → Bool} : pH (putRw X q 64 f (bH X q)) = pH X := by
  funext p
  unfold pH
  refine lB_congr (fun k hk => ?_)
  by_cases e : (p : Int) = q
  · rw [e, bH_put (by omega)]
  · show decide (putRw X q 64 f (bH X q) (64 * p + k) / 2 % 2 = 1) = _
    rw [putRw_out (by omega)]
    rfl
theorem pL_keep {X : Int → Int} {q : Int} {g : Nat → Bool} : pL (putRw X q 64 (bL X q) g) = pL X := by
  funext p
  unfold pL
  refine lB_congr (fun k hk => ?_)
  by_cases e : (p : Int) = q
  · rw [e, bL_put (by omega)]
  · show decide (putRw X q 64 (bL X q) g (64 * p + k) % 2 = 1) = _
    rw [putRw_out (by omega)]
    rfl
theorem putRw_2 {X : Int → Int} {q : Int} {f g h : Nat → Bool} : putRw (putRw X q 64 f h) q 64 (bL (putRw X q 64 f h) q) g = putRw X q 64 f g := by
  funext j
  by_cases e : 64 * q ≤ j ∧ j < 64 * q + 64
  · obtain ⟨k, hk⟩ : ∃ k : Nat, j = 64 * q + k := ⟨(j - 64 * q).toNat, by omega⟩
    subst hk
    rw [putRw_in (by omega), putRw_in (by omega), bL_put (by omega)]
  · rw [putRw_out e, putRw_out e, putRw_out e]
theorem stW_setL {cs : Nat → ClassId} {b : Nat → Nat} {S : SS} {q : Int} {f : Nat → Bool} (hq : 0 ≤ q) : (stW cs b S).set 2 (b 2, .inl (cs 1, 24, .inr (.inl (vp_updL (pL (S 5)) q.toNat (lB f))))) = stW cs b (up2 S 5 (putRw (S 5) q 64 f (bH (S 5) q))) := by
  have e : ∀ g, g ≠ 5 → up2 S 5 (putRw (S 5) q 64 f (bH (S 5) q)) g = S g := fun g h => up2_n h
  show _ = stW cs b (up2 S 5 (putRw (S 5) q 64 f (bH (S 5) q)))
  unfold stW
  rw [up2_s, e 0 (by decide), e 1 (by decide), e 2 (by decide), e 3 (by decide), e 4 (by decide), pH_keep, ← putL_eq hq]
  rfl
theorem stW_setH {cs : Nat → ClassId} {b : Nat → Nat} {S : SS} {q : Int} {g : Nat → Bool} (hq : 0 ≤ q) : (stW cs b S).set 3 (b 3, .inl (cs 1, 24, .inr (.inl (vp_updL (pH (S 5)) q.toNat (lB g))))) = stW cs b (up2 S 5 (putRw (S 5) q 64 (bL (S 5) q) g)) := by
  have e : ∀ h, h ≠ 5 → up2 S 5 (putRw (S 5) q 64 (bL (S 5) q) g) h = S h := fun g h => up2_n h
  show _ = stW cs b (up2 S 5 (putRw (S 5) q 64 (bL (S 5) q) g))
  unfold stW
  rw [up2_s, e 0 (by decide), e 1 (by decide), e 2 (by decide), e 3 (by decide), e 4 (by decide), pL_keep, ← putH_eq hq]
  rfl
theorem up2_2 {S : SS} {f : Nat} {F F' : Int → Int} : up2 (up2 S f F) f F' = up2 S f F' := by
  funext g
  unfold up2
  by_cases e : g = f
  · rw [if_pos e, if_pos e]
  · rw [if_neg e, if_neg e, if_neg e]
theorem putPl_eq {S : SS} {q : Int} {f g : Nat → Bool} : up2 (up2 S 5 (putRw (S 5) q 64 f (bH (S 5) q))) 5 (putRw (up2 S 5 (putRw (S 5) q 64 f (bH (S 5) q)) 5) q 64 (bL (up2 S 5 (putRw (S 5) q 64 f (bH (S 5) q)) 5) q) g) = up2 S 5 (putRw (S 5) q 64 f g) := by
  rw [up2_2, up2_s, putRw_2]
theorem putPx_eq {X : Int → Int} {q t v : Int} (ht : 0 ≤ t ∧ t < 64) (hv : 0 ≤ v ∧ v ≤ 3) (hX : ∀ j, 64 * q ≤ j → j < 64 * q + 64 → 0 ≤ X j ∧ X j ≤ 3) : putRw X q 64 (fun k => if k = t.toNat then decide (v % 2 = 1) else bL X q k) (fun k => if k = t.toNat then decide (v / 2 % 2 = 1) else bH X q k) = updZ X (64 * q + t) v := by
  funext j
  by_cases e : 64 * q ≤ j ∧ j < 64 * q + 64
  · obtain ⟨k, hk⟩ : ∃ k : Nat, j = 64 * q + k := ⟨(j - 64 * q).toNat, by omega⟩
    subst hk
    rw [putRw_in (by omega)]
    by_cases h : k = t.toNat
    · rw [if_pos h, if_pos h, show (64 * q + (k : Int)) = 64 * q + t by omega, updZ_s]
      rcases Int4 hv with rfl | rfl | rfl | rfl <;> decide
    · rw [if_neg h, if_neg h, updZ_n (by omega)]
      have := px_bits (X := X) (p := q) (q := k) (by omega) (hX _ (by omega) (by omega))
      rwa [show (k : Int).toNat = k by omega] at this
  · rw [putRw_out e, updZ_n (by omega)]
theorem putbit {f : Nat → Bool} {t k : Nat} {x : Bool} : (f k && !(decide (t ≤ k) && decide (k - t = 0)) || (decide (t ≤ k) && (decide (k - t = 0) && x))) = if k = t then x else f k := by
  by_cases h : k = t
  · subst h
    simp
  · by_cases h2 : t ≤ k
    · have h3 : k - t ≠ 0 := by omega
      simp [h, h3]
    · simp [h, h2]
theorem i2l_b (u : Int) : (zI (u % 2)).toInt64 = lB (fun k => decide (k = 0) && decide (u % 2 = 1)) := by
  rcases (show u % 2 = 0 ∨ u % 2 = 1 by omega) with e | e <;> rw [e] <;> decide +kernel
theorem zI_shr1 {w : Int} (h : 0 ≤ w ∧ w ≤ 3) : zI w >>> (zI 1 &&& 31) = zI (w / 2) := by rcases Int4 h with rfl | rfl | rfl | rfl <;> decide
/-- rows from n on -/
theorem lB_from {n : Int} (h : 0 ≤ n ∧ n < 8) : (-1 : Int64) <<< ((zI (8 * n)).toInt64 &&& 63) = lB (fun k => decide ((8 * n).toNat ≤ k)) := by
  rw [lB_m1, lB_shl _ (by omega)]
  exact lB_congr (fun k _ => by simp)
theorem putRows_eq {X : Int → Int} {q n : Int} {lo hi : Nat → Bool} (hn : 0 ≤ n ∧ n ≤ 8) (hX : ∀ j, 64 * q ≤ j → j < 64 * q + 64 → 0 ≤ X j ∧ X j ≤ 3) (hz : ∀ k : Nat, 8 * n ≤ k → lo k = false ∧ hi k = false) : putRw X q 64 (fun k => (bL X q k && decide ((8 * n).toNat ≤ k)) || lo k) (fun k => (bH X q k && decide ((8 * n).toNat ≤ k)) || hi k) = putRw X q (8 * n) lo hi := by
  funext j
  by_cases e : 64 * q ≤ j ∧ j < 64 * q + 64
  · obtain ⟨k, hk⟩ : ∃ k : Nat, j = 64 * q + k := ⟨(j - 64 * q).toNat, by omega⟩
    subst hk
    rw [putRw_in (by omega)]
    by_cases h : (k : Int) < 8 * n
    · rw [putRw_in h]
      have h2 : ¬ (8 * n).toNat ≤ k := by omega
      simp [h2]
    · rw [putRw_out (by omega), (hz k (by omega)).1, (hz k (by omega)).2]
      have h2 : (8 * n).toNat ≤ k := by omega
      have := px_bits (X := X) (p := q) (q := k) (by omega) (hX _ (by omega) (by omega))
      rw [show (k : Int).toNat = k by omega] at this
      simpa [h2] using this
  · rw [putRw_out e, putRw_out (by omega)]
def mirB (w : Int) (f : Nat → Bool) : Nat → Bool := fun k => f (mirK w k)
theorem mir_pix {S : SS} {p w : Int} {k : Nat} : pixW S p w ((k : Int) / 8) ((k : Int) % 8) = S 5 (64 * p + (mirK w k : Nat)) ∨ 64 ≤ k := by
  by_cases hk : 64 ≤ k
  · exact Or.inr hk
  refine Or.inl ?_
  unfold pixW mirK
  refine congrArg (S 5) ?_
  by_cases h1 : w / 2 % 2 = 1 <;> by_cases h2 : w % 2 = 1 <;> simp [h1, h2] <;> omega
def sameP (S : SS) (q v p w : Int) : Bool := allN (fun k => decide (pixW S q v (k / 8) (k % 8) = pixW S p w (k / 8) (k % 8))) 64
def wayF (S : SS) (p w q : Int) : Int := ff (fun v => sameP S q v p w) 0 4
theorem two_bits {x y : Int} (hx : 0 ≤ x ∧ x ≤ 3) (hy : 0 ≤ y ∧ y ≤ 3) : x = y ↔ decide (x % 2 = 1) = decide (y % 2 = 1) ∧ decide (x / 2 % 2 = 1) = decide (y / 2 % 2 = 1) := by
  rcases Int4 hx with rfl | rfl | rfl | rfl <;> rcases Int4 hy with rfl | rfl | rfl | rfl <;> decide
theorem sameP_iff {S : SS} {q v p w : Int} (hX : ∀ j, 0 ≤ j → j < 1536 → 0 ≤ S 5 j ∧ S 5 j ≤ 3) (hq : 0 ≤ q ∧ q < 24) (hp : 0 ≤ p ∧ p < 24) : sameP S q v p w = true ↔ lB (mirB v (bL (S 5) q)) = lB (mirB w (bL (S 5) p)) ∧ lB (mirB v (bH (S 5) q)) = lB (mirB w (bH (S 5) p)) := by
  unfold sameP
  rw [allN_iff, lB_iff, lB_iff]
  have key : ∀ k : Nat, k < 64 → (pixW S q v ((k : Int) / 8) ((k : Int) % 8) = pixW S p w ((k : Int) / 8) ((k : Int) % 8) ↔ mirB v (bL (S 5) q) k = mirB w (bL (S 5) p) k ∧ mirB v (bH (S 5) q) k = mirB w (bH (S 5) p) k) := by
    intro k hk
    have h1 := mirK_lt (w := v) hk
    have h2 := mirK_lt (w := w) hk
    rw [(mir_pix (S := S) (p := q) (w := v)).resolve_right (by omega), (mir_pix (S := S) (p := p) (w := w)).resolve_right (by omega)]
    exact two_bits (hX _ (by omega) (by omega)) (hX _ (by omega) (by omega))
  constructor
  · intro h
    refine ⟨fun k hk => ?_, fun k hk => ?_⟩
    · have := h (k : Int) (by omega) (by omega)
      exact ((key k hk).mp (by simpa using this)).1
    · have := h (k : Int) (by omega) (by omega)
      exact ((key k hk).mp (by simpa using this)).2
  · rintro ⟨h1, h2⟩ k q1 q2
    obtain ⟨n, rfl⟩ := Int.eq_ofNat_of_zero_le q1
    rw [decide_eq_true_eq]
    exact (key n (by omega)).mpr ⟨h1 n (by omega), h2 n (by omega)⟩
theorem lg_cmp_0 {x y : Int64} : lg_cmp x y = 0 ↔ x = y := by
  unfold lg_cmp
  by_cases h : x > y
  · rw [if_pos h]
    refine ⟨fun q => absurd q (by decide), fun q => ?_⟩
    subst q
    exact absurd h (by simp [Int64.lt_iff_toInt_lt])
  · rw [if_neg h]
    by_cases e : x = y
    · simp [e]
    · rw [if_neg e]
      exact ⟨fun q => absurd q (by decide), fun q => absurd q e⟩
def alikeB (S : SS) (q j : Int) : Bool := decide (wayF S q 0 j ≠ -5)
def lowA (S : SS) (q : Int) : Int := if ff (fun j => alikeB S q j) 0 q.toNat = -5 then q else ff (fun j => alikeB S q j) 0 q.toNat
def nzP (S : SS) (q : Int) : Int → Bool := fun k => decide (S 5 (64 * q + k) ≠ 0)
def shareF (S : SS) (q : Int) : UInt32 := FP.fdiv (FP.i2f (zI (cnt (nzP S q) 64))) 1115684864
def addBl (S : SS) : SS := up2 (up2 S 5 (putRw (S 5) (S 0 0) 64 (fun _ => false) (fun _ => false))) 0 (updZ (S 0) 0 (S 0 0 + 1))
theorem lB_255 : (255 : Int64) = lB (fun k => decide (k < 8)) := by decide +kernel
theorem fir_bit {f : Nat → Bool} {t k : Nat} (h : t + 8 ≤ 64) : ((decide (k + t < 64) && f (k + t)) && decide (k < 8)) = (decide (k < 8) && f (k + t)) := by
  by_cases e : k < 8
  · have e2 : k + t < 64 := by omega
    simp [e, e2]
  · simp [e]
theorem putRw_all {X : Int → Int} {q n : Int} {lo hi : Nat → Bool} (hn : 0 ≤ n ∧ n ≤ 8) (hX : ∀ j, 64 * q ≤ j → j < 64 * q + 64 → 0 ≤ X j ∧ X j ≤ 3) (hz : ∀ k : Nat, 8 * n ≤ k → lo k = false ∧ hi k = false) : putRw X q 64 (fun k => (bL X q k && decide ((8 * n).toNat ≤ k)) || lo k) (fun k => (bH X q k && decide ((8 * n).toNat ≤ k)) || hi k) = putRw X q (8 * n) lo hi := putRows_eq hn hX hz
theorem putRw_all0 {X : Int → Int} {q n : Int} {lo hi : Nat → Bool} (hn : n = 8) : putRw X q 64 (fun k => (bL X q k && false) || lo k) (fun k => (bH X q k && false) || hi k) = putRw X q (8 * n) lo hi := by
  subst hn
  have e1 : (fun k => (bL X q k && false) || lo k) = lo := funext fun k => by simp
  have e2 : (fun k => (bH X q k && false) || hi k) = hi := funext fun k => by simp
  rw [e1, e2]
  rfl
theorem wayF_r (S : SS) (p w q : Int) : -5 ≤ wayF S p w q ∧ wayF S p w q ≤ 3 := by
  unfold wayF
  rcases ff_cases (fun v => sameP S q v p w) 0 4 with ⟨j, h1, h2, -, -, h5⟩ | ⟨-, h⟩
  · rw [h5]; omega
  · rw [h]; omega
