/-! How many bits are set: numbers by their digits. -/
def dg (w : Nat) (d : Nat → Nat) : Nat → Nat
  | 0 => 0
  | n + 1 => dg w d n + d n * 2 ^ (w * n)
theorem dg_lt {w : Nat} {d : Nat → Nat} (h : ∀ j, d j < 2 ^ w) (n : Nat) : dg w d n < 2 ^ (w * n) := by
  induction n with
  | zero => exact Nat.one_pos
  | succ n ih =>
    rw [dg, Nat.mul_succ, Nat.pow_add]
    have h1 : d n * 2 ^ (w * n) ≤ (2 ^ w - 1) * 2 ^ (w * n) := Nat.mul_le_mul_right _ (by have := h n; omega)
    have h2 : (2 ^ w - 1) * 2 ^ (w * n) = 2 ^ w * 2 ^ (w * n) - 2 ^ (w * n) := by rw [Nat.sub_mul, Nat.one_mul]
    have h3 : 2 ^ (w * n) ≤ 2 ^ w * 2 ^ (w * n) := Nat.le_mul_of_pos_left _ (Nat.two_pow_pos w)
    have h4 : 2 ^ w * 2 ^ (w * n) = 2 ^ (w * n) * 2 ^ w := Nat.mul_comm _ _
    omega
theorem dg_bit {w : Nat} {d : Nat → Nat} (hw : 0 < w) (h : ∀ j, d j < 2 ^ w) (n k : Nat) : (dg w d n).testBit k = (decide (k < w * n) && (d (k / w)).testBit (k % w)) := by
  induction n with
  | zero => simp [dg]
  | succ n ih =>
    rw [dg, Nat.add_comm, Nat.mul_comm (d n), Nat.testBit_two_pow_mul_add _ (dg_lt h n), ih]
    by_cases hk : k < w * n
    · rw [if_pos hk]
      have : k < w * (n + 1) := by rw [Nat.mul_succ]; omega
      simp [hk, this]
    · rw [if_neg hk]
      by_cases h2 : k < w * (n + 1)
      · have e1 : k / w = n := by
          rw [Nat.div_eq_iff hw]
          rw [Nat.mul_succ, Nat.mul_comm] at h2
          rw [Nat.mul_comm] at hk
          omega
        have e2 : k % w = k - w * n := by
          have := Nat.div_add_mod k w
          rw [e1] at this
          omega
        simp [h2, e1, e2]
      · have h3 : (d n).testBit (k - w * n) = false := by
          refine Nat.testBit_lt_two_pow (Nat.lt_of_lt_of_le (h n) (Nat.pow_le_pow_right (by omega) ?_))
          rw [Nat.mul_succ] at h2
          omega
        simp [h2, h3]
theorem dg_congr {w : Nat} {d e : Nat → Nat} {n : Nat} (h : ∀ j, j < n → d j = e j) : dg w d n = dg w e n := by
  induction n with
  | zero => rfl
  | succ n ih => rw [dg, dg, ih (fun j hj => h j (by omega)), h n (by omega)]
theorem dg_and {w : Nat} {d e : Nat → Nat} (hw : 0 < w) (hd : ∀ j, d j < 2 ^ w) (he : ∀ j, e j < 2 ^ w) (n : Nat) : dg w d n &&& dg w e n = dg w (fun j => d j &&& e j) n := by
  apply Nat.eq_of_testBit_eq
  intro k
  rw [Nat.testBit_and, dg_bit hw hd, dg_bit hw he, dg_bit hw (fun j => Nat.lt_of_le_of_lt Nat.and_le_left (hd j)), Nat.testBit_and]
  by_cases hk : k < w * n <;> simp [hk]
theorem dg_add (w : Nat) (d e : Nat → Nat) (n : Nat) : dg w d n + dg w e n = dg w (fun j => d j + e j) n := by
  induction n with
  | zero => rfl
  | succ n ih => rw [dg, dg, dg, Nat.add_mul, ← ih]; omega
theorem dg_sub {w : Nat} {d e : Nat → Nat} (h : ∀ j, e j ≤ d j) (n : Nat) : dg w d n - dg w e n = dg w (fun j => d j - e j) n := by
  have := dg_add w e (fun j => d j - e j) n
  rw [dg_congr (w := w) (d := fun j => e j + (d j - e j)) (e := d) (n := n) (fun j _ => by have := h j; omega)] at this
  omega
theorem dg_2 (w : Nat) (d : Nat → Nat) (n : Nat) : dg w d (2 * n) = dg (2 * w) (fun j => d (2 * j) + d (2 * j + 1) * 2 ^ w) n := by
  induction n with
  | zero => rfl
  | succ n ih =>
    have e1 : w * (2 * n) = 2 * w * n := by rw [← Nat.mul_assoc, Nat.mul_comm w 2]
    have e2 : w * (2 * n + 1) = w + 2 * w * n := by rw [Nat.mul_succ, e1, Nat.add_comm]
    rw [show 2 * (n + 1) = (2 * n + 1) + 1 by omega, dg, dg, ih, dg, e1, e2, Nat.add_mul, Nat.pow_add, Nat.mul_assoc (d (2 * n + 1)) (2 ^ w) (2 ^ (2 * w * n))]
    omega
theorem dg_succ (w : Nat) (d : Nat → Nat) (n : Nat) : dg w d (n + 1) = d 0 + 2 ^ w * dg w (fun j => d (j + 1)) n := by
  induction n with
  | zero => simp [dg]
  | succ n ih =>
    rw [dg, ih, dg, Nat.mul_succ w n, Nat.pow_add, Nat.mul_add (2 ^ w)]
    have : d (n + 1) * (2 ^ (w * n) * 2 ^ w) = 2 ^ w * (d (n + 1) * 2 ^ (w * n)) := by rw [← Nat.mul_assoc, Nat.mul_comm]
    omega
theorem dg_sh {w : Nat} {d : Nat → Nat} {n : Nat} (h0 : d 0 < 2 ^ w) (hz : d n = 0) : dg w d n / 2 ^ w = dg w (fun j => d (j + 1)) n := by
  cases n with
  | zero => simp [dg]
  | succ n =>
    rw [dg_succ, Nat.add_mul_div_left _ _ (Nat.two_pow_pos w), Nat.div_eq_of_lt h0, Nat.zero_add, dg]
    simp [hz]
theorem bs_dg (f : Nat → Bool) (n : Nat) : bs f n = dg 1 (fun j => if f j then 1 else 0) n := by
  induction n with
  | zero => rfl
  | succ n ih =>
    rw [bs, dg, ih, Nat.one_mul]
    by_cases h : f n = true
    · rw [if_pos h, if_pos h, Nat.one_mul]
    · rw [if_neg h, if_neg h, Nat.zero_mul]
theorem and1 {x : Nat} (h : x ≤ 1) : x &&& 1 = x := by
  rcases (show x = 0 ∨ x = 1 by omega) with rfl | rfl <;> rfl
theorem and3 {x : Nat} (h : x ≤ 3) : x &&& 3 = x := by
  rcases (show x = 0 ∨ x = 1 ∨ x = 2 ∨ x = 3 by omega) with rfl | rfl | rfl | rfl <;> rfl
theorem and15 {x : Nat} (h : x ≤ 15) : x &&& 15 = x := by
  have : x &&& 15 = x % 2 ^ 4 := Nat.and_two_pow_sub_one_eq_mod x 4
  omega
/-- the first three steps: sums of eight bits -/
theorem pop3 (b : Nat → Nat) (N m1 m2 m4 : Nat) (hb : ∀ j, b j ≤ 1) (hz : ∀ j, 8 * N ≤ j → b j = 0) (h1 : m1 = dg 1 (fun j => (j + 1) % 2) (8 * N)) (h2 : m2 = dg 2 (fun j => if j % 2 = 0 then 3 else 0) (4 * N)) (h4 : m4 = dg 4 (fun j => if j % 2 = 0 then 15 else 0) (2 * N)) :
    ∃ i1 i2, dg 1 b (8 * N) - ((dg 1 b (8 * N) / 2 ^ 1) &&& m1) = i1 ∧ ((dg 1 b (8 * N) / 2 ^ 1) &&& m1) ≤ dg 1 b (8 * N) ∧ i1 < 2 ^ (8 * N) ∧ (i1 &&& m2) + ((i1 / 2 ^ 2) &&& m2) = i2 ∧ i2 < 2 ^ (8 * N) ∧ (i2 + i2 / 2 ^ 4) &&& m4 = dg 8 (fun j => b (8 * j) + b (8 * j + 1) + b (8 * j + 2) + b (8 * j + 3) + b (8 * j + 4) + b (8 * j + 5) + b (8 * j + 6) + b (8 * j + 7)) N := by
  subst h1 h2 h4
  have b2' : ∀ j, b j < 2 ^ 1 := fun j => by have := hb j; omega
  have e1 : (dg 1 b (8 * N) / 2 ^ 1) &&& dg 1 (fun j => (j + 1) % 2) (8 * N) = dg 2 (fun j => b (2 * j + 1)) (4 * N) := by
    rw [dg_sh (b2' 0) (hz _ (by omega)), dg_and (by omega) (fun j => b2' (j + 1)) (fun j => by omega), show 8 * N = 2 * (4 * N) by omega, dg_2]
    refine dg_congr (fun j _ => ?_)
    rw [show (2 * j + 1) % 2 = 1 by omega, show (2 * j + 1 + 1) % 2 = 0 by omega, and1 (hb _), Nat.and_zero]
    omega
  have e0 : dg 1 b (8 * N) = dg 2 (fun j => b (2 * j) + b (2 * j + 1) * 2) (4 * N) := by
    rw [show 8 * N = 2 * (4 * N) by omega, dg_2]
  have e2 : dg 1 b (8 * N) - ((dg 1 b (8 * N) / 2 ^ 1) &&& dg 1 (fun j => (j + 1) % 2) (8 * N)) = dg 2 (fun j => b (2 * j) + b (2 * j + 1)) (4 * N) := by
    rw [e1, e0, dg_sub (fun j => by omega)]
    exact dg_congr (fun j _ => by omega)
  have c2 : ∀ j, (b (2 * j) + b (2 * j + 1)) < 2 ^ 2 := fun j => by have := hb (2 * j); have := hb (2 * j + 1); omega
  have m2 : ∀ j : Nat, (if j % 2 = 0 then 3 else 0) < 2 ^ 2 := fun j => by split <;> decide
  have e3 : dg 2 (fun j => b (2 * j) + b (2 * j + 1)) (4 * N) &&& dg 2 (fun j => if j % 2 = 0 then 3 else 0) (4 * N) = dg 4 (fun j => b (4 * j) + b (4 * j + 1)) (2 * N) := by
    rw [dg_and (by omega) c2 m2, show 4 * N = 2 * (2 * N) by omega, dg_2]
    refine dg_congr (fun j _ => ?_)
    rw [if_pos (by omega), if_neg (by omega), Nat.and_zero, and3 (by have := c2 (2 * j); omega), show 2 * (2 * j) = 4 * j by omega]
    omega
  have e4 : (dg 2 (fun j => b (2 * j) + b (2 * j + 1)) (4 * N) / 2 ^ 2) &&& dg 2 (fun j => if j % 2 = 0 then 3 else 0) (4 * N) = dg 4 (fun j => b (4 * j + 2) + b (4 * j + 3)) (2 * N) := by
    rw [dg_sh (c2 0) (by rw [hz _ (by omega), hz _ (by omega)]), dg_and (by omega) (fun j => c2 (j + 1)) m2, show 4 * N = 2 * (2 * N) by omega, dg_2]
    refine dg_congr (fun j _ => ?_)
    rw [if_pos (by omega), if_neg (by omega), Nat.and_zero, and3 (by have := c2 (2 * j + 1); omega), show 2 * (2 * j + 1) = 4 * j + 2 by omega, show 4 * j + 2 + 1 = 4 * j + 3 by omega]
    omega
  refine ⟨_, _, rfl, by rw [e1, e0]; have := dg_add 2 (fun j => b (2 * j + 1)) (fun j => b (2 * j) + b (2 * j + 1)) (4 * N); rw [dg_congr (w := 2) (d := fun j => b (2 * j + 1) + (b (2 * j) + b (2 * j + 1))) (e := fun j => b (2 * j) + b (2 * j + 1) * 2) (n := 4 * N) (fun j _ => by omega)] at this; omega, Nat.lt_of_le_of_lt (Nat.sub_le _ _) (by have := dg_lt b2' (8 * N); rwa [Nat.one_mul] at this), rfl, ?_⟩
  rw [e2, e3, e4, dg_add]
  have f4 : ∀ j, b (4 * j) + b (4 * j + 1) + (b (4 * j + 2) + b (4 * j + 3)) ≤ 4 := fun j => by have := hb (4 * j); have := hb (4 * j + 1); have := hb (4 * j + 2); have := hb (4 * j + 3); omega
  refine ⟨by have := dg_lt (w := 4) (d := fun j => b (4 * j) + b (4 * j + 1) + (b (4 * j + 2) + b (4 * j + 3))) (fun j => by have := f4 j; omega) (2 * N); rwa [show 4 * (2 * N) = 8 * N by omega] at this, ?_⟩
  rw [dg_sh (by have := f4 0; omega) (by rw [hz _ (by omega), hz _ (by omega), hz _ (by omega), hz _ (by omega)]), dg_add, dg_and (by omega) (fun j => by have := f4 j; have := f4 (j + 1); omega) (fun j => by split <;> decide), show 2 * N = 2 * N from rfl, dg_2]
  refine dg_congr (fun j _ => ?_)
  rw [if_pos (by omega), if_neg (by omega), Nat.and_zero, and15 (by have := f4 (2 * j); have := f4 (2 * j + 1); omega), show 4 * (2 * j) = 8 * j by omega, show 4 * (2 * j + 1) = 8 * j + 4 by omega, show 8 * j + 4 + 1 = 8 * j + 5 by omega, show 8 * j + 4 + 2 = 8 * j + 6 by omega, show 8 * j + 4 + 3 = 8 * j + 7 by omega]
  omega
theorem dg_shm {w : Nat} {d : Nat → Nat} {n : Nat} (h0 : ∀ j, d j < 2 ^ w) (hz : ∀ j, n ≤ j → d j = 0) (t : Nat) : dg w d n / 2 ^ (w * t) = dg w (fun j => d (j + t)) n := by
  induction t with
  | zero => simp
  | succ t ih =>
    rw [Nat.mul_succ, Nat.pow_add, ← Nat.div_div_eq_div_mul, ih, dg_sh (d := fun j => d (j + t)) (h0 _) (hz _ (by omega))]
    exact dg_congr (fun j _ => by rw [show j + 1 + t = j + (t + 1) by omega])
theorem dg_low {w : Nat} {d : Nat → Nat} {n m : Nat} (hm : 2 ^ w % m = 0) : dg w d (n + 1) % m = d 0 % m := by
  rw [dg_succ, ← Nat.mod_add_mod]
  obtain ⟨c, hc⟩ := Nat.dvd_of_mod_eq_zero hm
  rw [hc, Nat.mul_assoc, Nat.mod_add_mod, Nat.add_mul_mod_self_left]
/-- the last steps of Long.bitCount -/
theorem pop6 (g : Nat → Nat) (hg : ∀ j, g j ≤ 8) (hz : ∀ j, 8 ≤ j → g j = 0) : ∃ i4 i5 i6, dg 8 g 8 + dg 8 g 8 / 2 ^ 8 = i4 ∧ i4 < 2 ^ 64 ∧ i4 + i4 / 2 ^ 16 = i5 ∧ i5 < 2 ^ 64 ∧ i5 + i5 / 2 ^ 32 = i6 ∧ i6 % 128 = g 0 + g 1 + g 2 + g 3 + g 4 + g 5 + g 6 + g 7 := by
  have a1 := dg_shm (w := 8) (d := g) (n := 8) (fun j => by have := hg j; omega) hz 1
  have a4 : dg 8 g 8 + dg 8 g 8 / 2 ^ 8 = dg 8 (fun j => g j + g (j + 1)) 8 := by
    rw [show dg 8 g 8 / 2 ^ 8 = _ from a1, dg_add]
  have b4 : ∀ j, g j + g (j + 1) ≤ 16 := fun j => by have := hg j; have := hg (j + 1); omega
  have a2 := dg_shm (w := 8) (d := fun j => g j + g (j + 1)) (n := 8) (fun j => by have := b4 j; omega) (fun j hj => by rw [hz j hj, hz _ (by omega)]) 2
  have a5 : dg 8 (fun j => g j + g (j + 1)) 8 + dg 8 (fun j => g j + g (j + 1)) 8 / 2 ^ 16 = dg 8 (fun j => g j + g (j + 1) + (g (j + 2) + g (j + 2 + 1))) 8 := by
    rw [show dg 8 (fun j => g j + g (j + 1)) 8 / 2 ^ 16 = _ from a2, dg_add]
  have b5 : ∀ j, g j + g (j + 1) + (g (j + 2) + g (j + 2 + 1)) ≤ 32 := fun j => by have := b4 j; have := b4 (j + 2); omega
  have a3 := dg_shm (w := 8) (d := fun j => g j + g (j + 1) + (g (j + 2) + g (j + 2 + 1))) (n := 8) (fun j => by have := b5 j; omega) (fun j hj => by rw [hz j hj, hz _ (by omega), hz _ (by omega), hz _ (by omega)]) 4
  refine ⟨_, _, _, rfl, by rw [a4]; exact dg_lt (w := 8) (fun j => by have := b4 j; omega) 8, rfl, by rw [a4, a5]; exact dg_lt (w := 8) (fun j => by have := b5 j; omega) 8, rfl, ?_⟩
  rw [a4, a5, show dg 8 (fun j => g j + g (j + 1) + (g (j + 2) + g (j + 2 + 1))) 8 / 2 ^ 32 = _ from a3, dg_add, dg_low (by decide)]
  have := b5 0
  have := b5 4
  simp only [Nat.zero_add, Nat.reduceAdd] at *
  rw [Nat.mod_eq_of_lt (by omega)]
  omega
theorem pop5 (g : Nat → Nat) (hg : ∀ j, g j ≤ 8) (hz : ∀ j, 4 ≤ j → g j = 0) : ∃ i4 i5, dg 8 g 4 + dg 8 g 4 / 2 ^ 8 = i4 ∧ i4 < 2 ^ 32 ∧ i4 + i4 / 2 ^ 16 = i5 ∧ i5 % 64 = g 0 + g 1 + g 2 + g 3 := by
  have a1 := dg_shm (w := 8) (d := g) (n := 4) (fun j => by have := hg j; omega) hz 1
  have a4 : dg 8 g 4 + dg 8 g 4 / 2 ^ 8 = dg 8 (fun j => g j + g (j + 1)) 4 := by
    rw [show dg 8 g 4 / 2 ^ 8 = _ from a1, dg_add]
  have b4 : ∀ j, g j + g (j + 1) ≤ 16 := fun j => by have := hg j; have := hg (j + 1); omega
  have a2 := dg_shm (w := 8) (d := fun j => g j + g (j + 1)) (n := 4) (fun j => by have := b4 j; omega) (fun j hj => by rw [hz j hj, hz _ (by omega)]) 2
  have a5 : dg 8 (fun j => g j + g (j + 1)) 4 + dg 8 (fun j => g j + g (j + 1)) 4 / 2 ^ 16 = dg 8 (fun j => g j + g (j + 1) + (g (j + 2) + g (j + 2 + 1))) 4 := by
    rw [show dg 8 (fun j => g j + g (j + 1)) 4 / 2 ^ 16 = _ from a2, dg_add]
  refine ⟨_, _, rfl, by rw [a4]; exact dg_lt (w := 8) (fun j => by have := b4 j; omega) 4, rfl, ?_⟩
  rw [a4, a5, dg_low (by decide)]
  have := b4 0
  have := b4 2
  simp only [Nat.zero_add, Nat.reduceAdd] at *
  rw [Nat.mod_eq_of_lt (by omega)]
  omega
theorem lB_lN (f : Nat → Bool) : lB f = lN (bs f 64) := rfl
theorem iB_nI (f : Nat → Bool) : iB f = nI (bs f 32) := rfl
theorem lN_and (a b : Nat) : lN a &&& lN b = lN (a &&& b) := L_ext (fun k hk => by
  show (BitVec.ofNat 64 a &&& BitVec.ofNat 64 b).getLsbD k = (BitVec.ofNat 64 (a &&& b)).getLsbD k
  rw [BitVec.getLsbD_and, BitVec.getLsbD_ofNat, BitVec.getLsbD_ofNat, BitVec.getLsbD_ofNat, Nat.testBit_and]
  simp [hk])
theorem nI_and (a b : Nat) : nI a &&& nI b = nI (a &&& b) := I_ext (fun k hk => by
  show (BitVec.ofNat 32 a &&& BitVec.ofNat 32 b).getLsbD k = (BitVec.ofNat 32 (a &&& b)).getLsbD k
  rw [BitVec.getLsbD_and, BitVec.getLsbD_ofNat, BitVec.getLsbD_ofNat, BitVec.getLsbD_ofNat, Nat.testBit_and]
  simp [hk])
theorem lN_shr {N : Nat} (h : N < 2 ^ 64) {t : Int} {n : Nat} (hn : t = n) (ht : n < 64) : ((lN N).toUInt64 >>> ((zI t).toInt64.toUInt64 &&& Int64.toUInt64 63)).toInt64 = lN (N / 2 ^ n) := by
  subst hn
  have e := (sh64 ⟨n, ht⟩).1
  refine L_ext (fun k hk => ?_)
  show ((BitVec.ofNat 64 N) >>> (((zI (n : Int)).toInt64.toUInt64 &&& Int64.toUInt64 63).toBitVec % 64#64)).getLsbD k = (BitVec.ofNat 64 (N / 2 ^ n)).getLsbD k
  rw [BitVec.ushiftRight_eq', e, BitVec.getLsbD_ushiftRight, BitVec.getLsbD_ofNat, BitVec.getLsbD_ofNat, Nat.testBit_div_two_pow]
  by_cases q : n + k < 64
  · simp [q, hk, Nat.add_comm]
  · rw [Nat.testBit_lt_two_pow (Nat.lt_of_lt_of_le h (Nat.pow_le_pow_right (by omega) (show 64 ≤ k + n by omega)))]
    simp [q]
theorem nI_shr {N : Nat} (h : N < 2 ^ 32) {t : Int} {n : Nat} (hn : t = n) (ht : n < 32) : ((nI N).toUInt32 >>> ((zI t).toUInt32 &&& Int32.toUInt32 31)).toInt32 = nI (N / 2 ^ n) := by
  subst hn
  have e := (sh32 ⟨n, ht⟩).1
  refine I_ext (fun k hk => ?_)
  show ((BitVec.ofNat 32 N) >>> (((zI (n : Int)).toUInt32 &&& Int32.toUInt32 31).toBitVec % 32#32)).getLsbD k = (BitVec.ofNat 32 (N / 2 ^ n)).getLsbD k
  rw [BitVec.ushiftRight_eq', e, BitVec.getLsbD_ushiftRight, BitVec.getLsbD_ofNat, BitVec.getLsbD_ofNat, Nat.testBit_div_two_pow]
  by_cases q : n + k < 32
  · simp [q, hk, Nat.add_comm]
  · rw [Nat.testBit_lt_two_pow (Nat.lt_of_lt_of_le h (Nat.pow_le_pow_right (by omega) (show 32 ≤ k + n by omega)))]
    simp [q]
theorem nI_sub' {a b : Nat} (h : b ≤ a) : nI a - nI b = nI (a - b) := by
  have : nI (a - b) + nI b = nI a := by rw [nI_add, Nat.sub_add_cancel h]
  rw [← this]
  simp
/-- the digits of a row of bits, 0 behind it -/
def bd (f : Nat → Bool) (n j : Nat) : Nat := if j < n then (if f j then 1 else 0) else 0
theorem bd_1 (f : Nat → Bool) (n j : Nat) : bd f n j ≤ 1 := by
  unfold bd
  split
  · split <;> omega
  · omega
theorem bd_z (f : Nat → Bool) (n j : Nat) (h : n ≤ j) : bd f n j = 0 := if_neg (by omega)
theorem bd_dg (f : Nat → Bool) (n : Nat) : dg 1 (bd f n) n = bs f n := by
  rw [bs_dg]
  exact dg_congr (fun j hj => if_pos hj)
theorem bd_in {f : Nat → Bool} {n j : Nat} (h : j < n) : (bd f n j : Int) = b2 (f j) := by
  unfold bd b2
  rw [if_pos h]
  split <;> rfl
theorem pop_L (f : Nat → Bool) : ∃ i1 i2 i3 i4 i5 i6, ((bs f 64 / 2 ^ 1) &&& 6148914691236517205) ≤ bs f 64 ∧ bs f 64 - ((bs f 64 / 2 ^ 1) &&& 6148914691236517205) = i1 ∧ i1 < 2 ^ 64 ∧ (i1 &&& 3689348814741910323) + ((i1 / 2 ^ 2) &&& 3689348814741910323) = i2 ∧ i2 < 2 ^ 64 ∧ (i2 + i2 / 2 ^ 4) &&& 1085102592571150095 = i3 ∧ i3 < 2 ^ 64 ∧ i3 + i3 / 2 ^ 8 = i4 ∧ i4 < 2 ^ 64 ∧ i4 + i4 / 2 ^ 16 = i5 ∧ i5 < 2 ^ 64 ∧ i5 + i5 / 2 ^ 32 = i6 ∧ ((i6 % 128 : Nat) : Int) = cnt (fun k => f k.toNat) 64 := by
  obtain ⟨i1, i2, e1, e0, l1, e2, l2, e3⟩ := pop3 (bd f 64) 8 6148914691236517205 3689348814741910323 1085102592571150095 (bd_1 f 64) (bd_z f 64) (by decide +kernel) (by decide +kernel) (by decide +kernel)
  rw [show 8 * 8 = 64 from rfl, bd_dg] at e1 e0
  have hg : ∀ j, bd f 64 (8 * j) + bd f 64 (8 * j + 1) + bd f 64 (8 * j + 2) + bd f 64 (8 * j + 3) + bd f 64 (8 * j + 4) + bd f 64 (8 * j + 5) + bd f 64 (8 * j + 6) + bd f 64 (8 * j + 7) ≤ 8 := fun j => by
    have := bd_1 f 64 (8 * j); have := bd_1 f 64 (8 * j + 1); have := bd_1 f 64 (8 * j + 2); have := bd_1 f 64 (8 * j + 3); have := bd_1 f 64 (8 * j + 4); have := bd_1 f 64 (8 * j + 5); have := bd_1 f 64 (8 * j + 6); have := bd_1 f 64 (8 * j + 7)
    omega
  obtain ⟨i4, i5, i6, e4, l4, e5, l5, e6, e7⟩ := pop6 _ hg (fun j hj => by rw [bd_z _ _ _ (by omega), bd_z _ _ _ (by omega), bd_z _ _ _ (by omega), bd_z _ _ _ (by omega), bd_z _ _ _ (by omega), bd_z _ _ _ (by omega), bd_z _ _ _ (by omega), bd_z _ _ _ (by omega)])
  refine ⟨i1, i2, _, i4, i5, i6, e0, e1, l1, e2, l2, e3, dg_lt (w := 8) (fun j => by have := hg j; omega) 8, e4, l4, e5, l5, e6, ?_⟩
  rw [e7]
  have hc : ∀ n : Nat, n ≤ 64 → cnt (fun k => f k.toNat) n = ((List.range n).map (fun j => (bd f 64 j : Int))).sum := by
    intro n
    induction n with
    | zero => intro _; rfl
    | succ n ih =>
      intro hn
      rw [cnt, ih (by omega), List.range_succ, List.map_append, List.sum_append]
      simp [bd_in (f := f) (show n < 64 by omega)]
  rw [hc 64 (by omega)]
  simp only [show List.range 64 = [0, 1, 2, 3, 4, 5, 6, 7, 8, 9, 10, 11, 12, 13, 14, 15, 16, 17, 18, 19, 20, 21, 22, 23, 24, 25, 26, 27, 28, 29, 30, 31, 32, 33, 34, 35, 36, 37, 38, 39, 40, 41, 42, 43, 44, 45, 46, 47, 48, 49, 50, 51, 52, 53, 54, 55, 56, 57, 58, 59, 60, 61, 62, 63] from rfl, List.map_cons, List.map_nil, List.sum_cons, List.sum_nil, Nat.mul_zero, Nat.zero_add, Nat.reduceMul, Nat.reduceAdd]
  omega
theorem pop_I (f : Nat → Bool) : ∃ i1 i2 i3 i4 i5, ((bs f 32 / 2 ^ 1) &&& 1431655765) ≤ bs f 32 ∧ bs f 32 - ((bs f 32 / 2 ^ 1) &&& 1431655765) = i1 ∧ i1 < 2 ^ 32 ∧ (i1 &&& 858993459) + ((i1 / 2 ^ 2) &&& 858993459) = i2 ∧ i2 < 2 ^ 32 ∧ (i2 + i2 / 2 ^ 4) &&& 252645135 = i3 ∧ i3 < 2 ^ 32 ∧ i3 + i3 / 2 ^ 8 = i4 ∧ i4 < 2 ^ 32 ∧ i4 + i4 / 2 ^ 16 = i5 ∧ ((i5 % 64 : Nat) : Int) = cnt (fun k => f k.toNat) 32 := by
  obtain ⟨i1, i2, e1, e0, l1, e2, l2, e3⟩ := pop3 (bd f 32) 4 1431655765 858993459 252645135 (bd_1 f 32) (bd_z f 32) (by decide +kernel) (by decide +kernel) (by decide +kernel)
  rw [show 8 * 4 = 32 from rfl, bd_dg] at e1 e0
  have hg : ∀ j, bd f 32 (8 * j) + bd f 32 (8 * j + 1) + bd f 32 (8 * j + 2) + bd f 32 (8 * j + 3) + bd f 32 (8 * j + 4) + bd f 32 (8 * j + 5) + bd f 32 (8 * j + 6) + bd f 32 (8 * j + 7) ≤ 8 := fun j => by
    have := bd_1 f 32 (8 * j); have := bd_1 f 32 (8 * j + 1); have := bd_1 f 32 (8 * j + 2); have := bd_1 f 32 (8 * j + 3); have := bd_1 f 32 (8 * j + 4); have := bd_1 f 32 (8 * j + 5); have := bd_1 f 32 (8 * j + 6); have := bd_1 f 32 (8 * j + 7)
    omega
  obtain ⟨i4, i5, e4, l4, e5, e7⟩ := pop5 _ hg (fun j hj => by rw [bd_z _ _ _ (by omega), bd_z _ _ _ (by omega), bd_z _ _ _ (by omega), bd_z _ _ _ (by omega), bd_z _ _ _ (by omega), bd_z _ _ _ (by omega), bd_z _ _ _ (by omega), bd_z _ _ _ (by omega)])
  refine ⟨i1, i2, _, i4, i5, e0, e1, l1, e2, l2, e3, dg_lt (w := 8) (fun j => by have := hg j; omega) 4, e4, l4, e5, ?_⟩
  rw [e7]
  have hc : ∀ n : Nat, n ≤ 32 → cnt (fun k => f k.toNat) n = ((List.range n).map (fun j => (bd f 32 j : Int))).sum := by
    intro n
    induction n with
    | zero => intro _; rfl
    | succ n ih =>
      intro hn
      rw [cnt, ih (by omega), List.range_succ, List.map_append, List.sum_append]
      simp [bd_in (f := f) (show n < 32 by omega)]
  rw [hc 32 (by omega)]
  simp only [show List.range 32 = [0, 1, 2, 3, 4, 5, 6, 7, 8, 9, 10, 11, 12, 13, 14, 15, 16, 17, 18, 19, 20, 21, 22, 23, 24, 25, 26, 27, 28, 29, 30, 31] from rfl, List.map_cons, List.map_nil, List.sum_cons, List.sum_nil, Nat.mul_zero, Nat.zero_add, Nat.reduceMul, Nat.reduceAdd]
  omega
