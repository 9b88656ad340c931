/-! Numbers as rows of bits. -/
section BT
def bs (f : Nat → Bool) : Nat → Nat
  | 0 => 0
  | n + 1 => bs f n + (if f n then 2 ^ n else 0)
theorem bs_lt (f : Nat → Bool) (n : Nat) : bs f n < 2 ^ n := by
  induction n with
  | zero => exact Nat.one_pos
  | succ n ih =>
    rw [bs, Nat.pow_succ]
    split <;> omega
theorem bs_bit (f : Nat → Bool) (n k : Nat) : (bs f n).testBit k = (decide (k < n) && f k) := by
  induction n with
  | zero => simp [bs]
  | succ n ih =>
    rw [bs]
    by_cases hf : f n = true
    · rw [if_pos hf, Nat.add_comm]
      rcases Nat.lt_trichotomy k n with h | h | h
      · rw [Nat.testBit_two_pow_add_gt h, ih]
        simp [h, Nat.lt_succ_of_lt h]
      · subst h
        rw [Nat.testBit_two_pow_add_eq, ih]
        simp [hf]
      · rw [Nat.testBit_lt_two_pow (Nat.lt_of_lt_of_le (show 2 ^ n + bs f n < 2 ^ (n + 1) by have := bs_lt f n; rw [Nat.pow_succ]; omega) (Nat.pow_le_pow_right (by omega) h))]
        simp [show ¬ k < n + 1 by omega]
    · rw [if_neg hf, Nat.add_zero, ih]
      rcases Nat.lt_trichotomy k n with h | h | h
      · simp [h, Nat.lt_succ_of_lt h]
      · subst h
        simp [hf]
      · simp [show ¬ k < n by omega, show ¬ k < n + 1 by omega]
theorem bs_congr {f g : Nat → Bool} {n : Nat} (h : ∀ k, k < n → f k = g k) : bs f n = bs g n := by
  apply Nat.eq_of_testBit_eq
  intro k
  rw [bs_bit, bs_bit]
  by_cases hk : k < n
  · rw [h k hk]
  · simp [hk]
def lB (f : Nat → Bool) : Int64 := Int64.ofBitVec (BitVec.ofNat 64 (bs f 64))
def iB (f : Nat → Bool) : Int32 := Int32.ofBitVec (BitVec.ofNat 32 (bs f 32))
theorem lB_bit (f : Nat → Bool) (k : Nat) : (lB f).toBitVec.getLsbD k = (decide (k < 64) && f k) := by
  show (BitVec.ofNat 64 (bs f 64)).getLsbD k = _
  rw [BitVec.getLsbD_ofNat, bs_bit]
  by_cases h : k < 64 <;> simp [h]
theorem iB_bit (f : Nat → Bool) (k : Nat) : (iB f).toBitVec.getLsbD k = (decide (k < 32) && f k) := by
  show (BitVec.ofNat 32 (bs f 32)).getLsbD k = _
  rw [BitVec.getLsbD_ofNat, bs_bit]
  by_cases h : k < 32 <;> simp [h]
theorem L_ext {x y : Int64} (h : ∀ k, k < 64 → x.toBitVec.getLsbD k = y.toBitVec.getLsbD k) : x = y := Int64.toBitVec.inj (BitVec.eq_of_getLsbD_eq h)
theorem I_ext {x y : Int32} (h : ∀ k, k < 32 → x.toBitVec.getLsbD k = y.toBitVec.getLsbD k) : x = y := Int32.toBitVec.inj (BitVec.eq_of_getLsbD_eq h)
theorem lB_congr {f g : Nat → Bool} (h : ∀ k, k < 64 → f k = g k) : lB f = lB g := by unfold lB; rw [bs_congr h]
theorem iB_congr {f g : Nat → Bool} (h : ∀ k, k < 32 → f k = g k) : iB f = iB g := by unfold iB; rw [bs_congr h]
theorem lB_iff {f g : Nat → Bool} : lB f = lB g ↔ ∀ k, k < 64 → f k = g k := by
  refine ⟨fun h k hk => ?_, lB_congr⟩
  have h2 : (lB f).toBitVec.getLsbD k = (lB g).toBitVec.getLsbD k := by rw [h]
  rw [lB_bit, lB_bit] at h2
  simpa [hk] using h2
theorem lB_of (x : Int64) : x = lB (fun k => x.toBitVec.getLsbD k) := L_ext (fun k hk => by rw [lB_bit]; simp [hk])
theorem iB_of (x : Int32) : x = iB (fun k => x.toBitVec.getLsbD k) := I_ext (fun k hk => by rw [iB_bit]; simp [hk])
theorem lB_and (f g : Nat → Bool) : lB f &&& lB g = lB (fun k => f k && g k) := L_ext (fun k hk => by
  rw [show (lB f &&& lB g).toBitVec = (lB f).toBitVec &&& (lB g).toBitVec from rfl, BitVec.getLsbD_and, lB_bit, lB_bit, lB_bit]; simp [hk])
theorem lB_or (f g : Nat → Bool) : lB f ||| lB g = lB (fun k => f k || g k) := L_ext (fun k hk => by
  rw [show (lB f ||| lB g).toBitVec = (lB f).toBitVec ||| (lB g).toBitVec from rfl, BitVec.getLsbD_or, lB_bit, lB_bit, lB_bit]; simp [hk])
theorem lB_xor (f g : Nat → Bool) : lB f ^^^ lB g = lB (fun k => f k ^^ g k) := L_ext (fun k hk => by
  rw [show (lB f ^^^ lB g).toBitVec = (lB f).toBitVec ^^^ (lB g).toBitVec from rfl, BitVec.getLsbD_xor, lB_bit, lB_bit, lB_bit]; simp [hk])
theorem iB_and (f g : Nat → Bool) : iB f &&& iB g = iB (fun k => f k && g k) := I_ext (fun k hk => by
  rw [show (iB f &&& iB g).toBitVec = (iB f).toBitVec &&& (iB g).toBitVec from rfl, BitVec.getLsbD_and, iB_bit, iB_bit, iB_bit]; simp [hk])
theorem iB_or (f g : Nat → Bool) : iB f ||| iB g = iB (fun k => f k || g k) := I_ext (fun k hk => by
  rw [show (iB f ||| iB g).toBitVec = (iB f).toBitVec ||| (iB g).toBitVec from rfl, BitVec.getLsbD_or, iB_bit, iB_bit, iB_bit]; simp [hk])
theorem iB_xor (f g : Nat → Bool) : iB f ^^^ iB g = iB (fun k => f k ^^ g k) := I_ext (fun k hk => by
  rw [show (iB f ^^^ iB g).toBitVec = (iB f).toBitVec ^^^ (iB g).toBitVec from rfl, BitVec.getLsbD_xor, iB_bit, iB_bit, iB_bit]; simp [hk])
theorem lB_m1 : (-1 : Int64) = lB (fun _ => true) := by decide +kernel
theorem iB_m1 : (-1 : Int32) = iB (fun _ => true) := by decide +kernel
theorem lB_0 : (0 : Int64) = lB (fun _ => false) := by decide +kernel
theorem iB_0 : zI 0 = iB (fun _ => false) := by decide +kernel
theorem lB_not (f : Nat → Bool) : lB f ^^^ (-1) = lB (fun k => !f k) := by
  rw [lB_m1, lB_xor]
  exact lB_congr (fun k _ => by simp)
/-- shifts by 0 to 63 -/
theorem sh64 : ∀ t : Fin 64, (((zI (t.val : Int)).toInt64.toUInt64 &&& Int64.toUInt64 63).toBitVec % 64#64).toNat = t.val ∧ (((zI (t.val : Int)).toInt64 &&& 63).toBitVec.smod 64#64).toNat = t.val := by decide +kernel
theorem sh32 : ∀ t : Fin 32, (((zI (t.val : Int)).toUInt32 &&& Int32.toUInt32 31).toBitVec % 32#32).toNat = t.val ∧ (((zI (t.val : Int)) &&& 31).toBitVec.smod 32#32).toNat = t.val := by decide +kernel
theorem lB_ushr (f : Nat → Bool) {t : Int} (ht : 0 ≤ t ∧ t < 64) : ((lB f).toUInt64 >>> ((zI t).toInt64.toUInt64 &&& Int64.toUInt64 63)).toInt64 = lB (fun k => decide (k + t.toNat < 64) && f (k + t.toNat)) := by
  obtain ⟨n, rfl⟩ := Int.eq_ofNat_of_zero_le ht.1
  have h := (sh64 ⟨n, by omega⟩).1
  refine L_ext (fun k hk => ?_)
  show (((lB f).toBitVec) >>> (((zI (n : Int)).toInt64.toUInt64 &&& Int64.toUInt64 63).toBitVec % 64#64)).getLsbD k = _
  rw [BitVec.ushiftRight_eq', h, BitVec.getLsbD_ushiftRight, lB_bit, lB_bit]
  simp [hk, Nat.add_comm]
theorem lB_shl (f : Nat → Bool) {t : Int} (ht : 0 ≤ t ∧ t < 64) : (lB f) <<< ((zI t).toInt64 &&& 63) = lB (fun k => decide (t.toNat ≤ k) && f (k - t.toNat)) := by
  obtain ⟨n, rfl⟩ := Int.eq_ofNat_of_zero_le ht.1
  have h := (sh64 ⟨n, by omega⟩).2
  refine L_ext (fun k hk => ?_)
  show (((lB f).toBitVec) <<< (((zI (n : Int)).toInt64 &&& 63).toBitVec.smod 64#64)).getLsbD k = _
  rw [BitVec.shiftLeft_eq', h, BitVec.getLsbD_shiftLeft, lB_bit, lB_bit]
  by_cases hn : n ≤ k
  · simp [hk, hn, show ¬ k < n by omega, show k - n < 64 by omega]
  · simp [hk, hn, show k < n by omega]
theorem iB_shl (f : Nat → Bool) {t : Int} (ht : 0 ≤ t ∧ t < 32) : (iB f) <<< (zI t &&& 31) = iB (fun k => decide (t.toNat ≤ k) && f (k - t.toNat)) := by
  obtain ⟨n, rfl⟩ := Int.eq_ofNat_of_zero_le ht.1
  have h := (sh32 ⟨n, by omega⟩).2
  refine I_ext (fun k hk => ?_)
  show (((iB f).toBitVec) <<< (((zI (n : Int)) &&& 31).toBitVec.smod 32#32)).getLsbD k = _
  rw [BitVec.shiftLeft_eq', h, BitVec.getLsbD_shiftLeft, iB_bit, iB_bit]
  by_cases hn : n ≤ k
  · simp [hk, hn, show ¬ k < n by omega, show k - n < 32 by omega]
  · simp [hk, hn, show k < n by omega]
theorem iB_msb (f : Nat → Bool) : (iB f).toBitVec.msb = f 31 := by
  rw [BitVec.msb_eq_getLsbD_last, iB_bit]
  simp
theorem iB_shr (f : Nat → Bool) {t : Int} (ht : 0 ≤ t ∧ t < 32) : (iB f) >>> (zI t &&& 31) = iB (fun k => if k + t.toNat < 32 then f (k + t.toNat) else f 31) := by
  obtain ⟨n, rfl⟩ := Int.eq_ofNat_of_zero_le ht.1
  have h := (sh32 ⟨n, by omega⟩).2
  refine I_ext (fun k hk => ?_)
  show (((iB f).toBitVec).sshiftRight ((((zI (n : Int)) &&& 31).toBitVec.smod 32#32).toNat)).getLsbD k = _
  rw [h, BitVec.getLsbD_sshiftRight, iB_bit, iB_bit, iB_msb]
  by_cases hn : n + k < 32
  · simp [hk, hn, show k + n < 32 by omega, Nat.add_comm]
  · simp [hk, hn, show ¬ k + n < 32 by omega]
theorem lB_i (f : Nat → Bool) : (lB f).toInt32 = iB f := I_ext (fun k hk => by
  show ((lB f).toBitVec.signExtend 32).getLsbD k = _
  rw [BitVec.getLsbD_signExtend, lB_bit, iB_bit]
  simp [hk, show k < 64 by omega])
theorem iB_b2 (x : Bool) : iB (fun k => decide (k = 0) && x) = zI (b2 x) := by cases x <;> decide +kernel
theorem zI_1b : (1 : Int32) = iB (fun k => decide (k = 0)) := by decide +kernel
theorem lI_1b : (1 : Int64) = lB (fun k => decide (k = 0)) := by decide +kernel
end BT
