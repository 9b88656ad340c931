/-! Sums of floats that are not negative are no NaN. -/
theorem f_fmt : FP.Core.b32.tails = 8388608 ∧ FP.Core.b32.exps = 256 ∧ FP.Core.b32.qmin = -149 ∧ FP.Core.b32.qmax = 104 ∧ FP.Core.b32.p = 24 := by decide
theorem d_fmt : FP.Core.b64.tails = 4503599627370496 ∧ FP.Core.b64.exps = 2048 ∧ FP.Core.b64.qmin = -1074 ∧ FP.Core.b64.qmax = 971 ∧ FP.Core.b64.p = 53 := by decide
def nnD : FP.Core.Datum → Prop
  | .nan => False
  | .inf s => s = false
  | .fin s _ _ => s = false
theorem f_dec {n : Nat} (h : n ≤ 2139095040) : nnD (FP.Core.decode FP.Core.b32 n) := by
  obtain ⟨h1, h2, h3, h4, h5⟩ := f_fmt
  have hs : FP.Core.fieldS FP.Core.b32 n = false := by
    unfold FP.Core.fieldS
    rw [h1, h2]
    have : n / 8388608 / 256 = 0 := by omega
    rw [this]
    rfl
  unfold FP.Core.decode
  split
  · rename_i he
    unfold FP.Core.fieldE at he
    rw [h1, h2] at he
    split
    · exact hs
    · rename_i ht
      unfold FP.Core.fieldT at ht
      rw [h1] at ht
      omega
  · split
    · exact hs
    · exact hs
theorem f_bound {c : Nat} {q : Int} (hc : c < 16777216) (hq : -149 ≤ q) : nnD (FP.Core.bound FP.Core.b32 false c q) ∧ FP.Core.encode FP.Core.b32 (FP.Core.bound FP.Core.b32 false c q) ≤ 2139095040 := by
  obtain ⟨h1, h2, h3, h4, h5⟩ := f_fmt
  unfold FP.Core.bound
  rw [h4]
  split
  · refine ⟨rfl, ?_⟩
    unfold FP.Core.encode FP.Core.assemble
    simp only [h1, h2, h3]
    split <;> simp <;> omega
  · refine ⟨rfl, ?_⟩
    unfold FP.Core.encode FP.Core.assemble
    simp only [h1, h2]
    decide
theorem f_rr (N : Nat) (e : Int) : nnD (FP.Core.roundRatio FP.Core.b32 false N 1 e) ∧ FP.Core.encode FP.Core.b32 (FP.Core.roundRatio FP.Core.b32 false N 1 e) ≤ 2139095040 := by
  obtain ⟨h1, h2, h3, h4, h5⟩ := f_fmt
  unfold FP.Core.roundRatio
  split
  · refine ⟨rfl, ?_⟩
    unfold FP.Core.encode FP.Core.assemble
    simp only [h1, h2]
    decide
  · have hq : -149 ≤ FP.Core.quantum FP.Core.b32 N 1 e := by
      unfold FP.Core.quantum
      rw [h3]
      omega
    unfold FP.Core.roundAt FP.Core.settle
    rw [h5, h1]
    split
    · rename_i hc
      exact f_bound (by simpa using hc) hq
    · exact f_bound (by decide) (by omega)
theorem f_round {d : FP.Core.Datum} (h : nnD d) : nnD (FP.Core.round FP.Core.b32 d) ∧ FP.Core.encode FP.Core.b32 (FP.Core.round FP.Core.b32 d) ≤ 2139095040 := by
  cases d with
  | nan => exact h.elim
  | inf s =>
    have hs : s = false := h
    subst hs
    exact ⟨rfl, by decide⟩
  | fin s c q =>
    have hs : s = false := h
    subst hs
    exact f_rr c q
theorem f_sum {d d' : FP.Core.Datum} (h : nnD d) (h' : nnD d') : nnD (FP.Core.exactSum d d') := by
  cases d with
  | nan => exact h.elim
  | inf s =>
    have hs : s = false := h
    subst hs
    cases d' with
    | nan => exact h'.elim
    | inf t =>
      have ht : t = false := h'
      subst ht
      exact rfl
    | fin t c q => exact rfl
  | fin s c q =>
    have hs : s = false := h
    subst hs
    cases d' with
    | nan => exact h'.elim
    | inf t => exact h'
    | fin t c' q' =>
      have ht : t = false := h'
      subst ht
      show FP.Core.sumSign false false ((FP.Core.inUnits c q (min q q') : Int) + (FP.Core.inUnits c' q' (min q q') : Int)) = false
      unfold FP.Core.sumSign
      split
      · rfl
      · rw [decide_eq_false_iff_not]
        omega
theorem toNat_le32 {n : Nat} (h : n ≤ 2139095040) : (UInt32.ofNat n).toNat ≤ 2139095040 := by
  rw [UInt32.toNat_ofNat']
  exact Nat.le_trans (Nat.mod_le _ _) h
theorem toNat_le64 {n : Nat} (h : n ≤ 9218868437227405312) : (UInt64.ofNat n).toNat ≤ 9218868437227405312 := by
  rw [UInt64.toNat_ofNat']
  exact Nat.le_trans (Nat.mod_le _ _) h
theorem fadd_nn {x y : UInt32} (hx : x.toNat ≤ 2139095040) (hy : y.toNat ≤ 2139095040) : (FP.fadd x y).toNat ≤ 2139095040 := by
  have h := (f_round (f_sum (f_dec hx) (f_dec hy))).2
  exact toNat_le32 h
theorem nn_n32 {x : UInt32} (h : x.toNat ≤ 2139095040) : vf_n32 x := by
  unfold vf_n32
  rw [UInt32.le_iff_toNat_le, UInt32.toNat_and]
  exact Nat.le_trans Nat.and_le_left h
theorem sh_nn' : ∀ n : Fin 65, (FP.fdiv (FP.i2f (zI (n.val : Int))) 1115684864).toNat ≤ 2139095040 := by decide +kernel
theorem shareF_nn (S : SS) (q : Int) : (shareF S q).toNat ≤ 2139095040 := by
  have h := cnt_r (nzP S q) 64
  obtain ⟨k, hk⟩ := Int.eq_ofNat_of_zero_le h.1
  unfold shareF
  rw [hk]
  exact sh_nn' ⟨k, by omega⟩
theorem wgtN_nn (S : SS) (q fr : Int) (n : Nat) : (wgtN S q fr n).toNat ≤ 2139095040 := by
  induction n with
  | zero => exact Nat.zero_le _
  | succ n ih =>
    rw [wgtN]
    split
    · exact fadd_nn ih (shareF_nn _ _)
    · exact ih
theorem d_bound {c : Nat} {q : Int} (hc : c < 9007199254740992) (hq : -1074 ≤ q) : FP.Core.encode FP.Core.b64 (FP.Core.bound FP.Core.b64 false c q) ≤ 9218868437227405312 := by
  obtain ⟨h1, h2, h3, h4, h5⟩ := d_fmt
  unfold FP.Core.bound
  rw [h4]
  split
  · unfold FP.Core.encode FP.Core.assemble
    simp only [h1, h2, h3]
    split <;> simp <;> omega
  · unfold FP.Core.encode FP.Core.assemble
    simp only [h1, h2]
    decide
theorem d_round {d : FP.Core.Datum} (h : nnD d) : FP.Core.encode FP.Core.b64 (FP.Core.round FP.Core.b64 d) ≤ 9218868437227405312 := by
  obtain ⟨h1, h2, h3, h4, h5⟩ := d_fmt
  cases d with
  | nan => exact h.elim
  | inf s =>
    have hs : s = false := h
    subst hs
    decide
  | fin s c q =>
    have hs : s = false := h
    subst hs
    show FP.Core.encode FP.Core.b64 (FP.Core.roundRatio FP.Core.b64 false c 1 q) ≤ _
    unfold FP.Core.roundRatio
    split
    · unfold FP.Core.encode FP.Core.assemble
      simp only [h1, h2]
      decide
    · have hq : -1074 ≤ FP.Core.quantum FP.Core.b64 c 1 q := by
        unfold FP.Core.quantum
        rw [h3]
        omega
      unfold FP.Core.roundAt FP.Core.settle
      rw [h5, h1]
      split
      · rename_i hc
        exact d_bound (by simpa using hc) hq
      · exact d_bound (by decide) (by omega)
theorem f2d_nn {x : UInt32} (h : x.toNat ≤ 2139095040) : vf_n64 (FP.f2d x) := by
  have hd := d_round (f_dec h)
  unfold vf_n64
  rw [UInt64.le_iff_toNat_le, UInt64.toNat_and]
  refine Nat.le_trans Nat.and_le_left ?_
  have hn : FP.Core.fIsNaN x = false := by
    unfold FP.Core.fIsNaN FP.Core.isNaN
    rw [decide_eq_false_iff_not]
    intro e
    have := f_dec h
    rw [e] at this
    exact this
  unfold FP.f2d
  rw [hn]
  exact toNat_le64 hd
