/-! What a reading of the text gives does not hang on the last reading. -/
def RT (P P' : PS) : Prop := ((P.1 0 = P'.1 0 ∧ P.1 1 = P'.1 1 ∧ P.1 2 = P'.1 2 ∧ P.1 4 = P'.1 4 ∧ P.1 5 = P'.1 5) ∧ ((P.1 4 = 1 ∨ P.1 5 = 1) → P.1 3 = P'.1 3)) ∧ P.2 = P'.2
theorem puts_rt {P P' : PS} (h : RT P P') (v n : Int) : (putsF P v n).1 = (putsF P' v n).1 ∧ RT (putsF P v n).2 (putsF P' v n).2 := by
  have e1 := h.1.1.2.1
  have e2 := h.1.1.2.2.1
  have ep := h.2
  unfold putsF
  by_cases c : P.1 2 + n > 8
  · rw [if_pos c, if_pos (show P'.1 2 + n > 8 by omega)]
    exact ⟨rfl, h⟩
  · rw [if_neg c, if_neg (show ¬ P'.1 2 + n > 8 by omega), e1, e2, ep]
    exact ⟨rfl, ⟨⟨h.1.1.1, e1, rfl, h.1.1.2.2.2.1, h.1.1.2.2.2.2⟩, h.1.2⟩, rfl⟩
theorem pix_rt {P P' : PS} (h : RT P P') (v : Int) : (pixF P v).1 = (pixF P' v).1 ∧ RT (pixF P v).2 (pixF P' v).2 := puts_rt (P := (updZ (updZ P.1 3 v) 4 1, P.2)) (P' := (updZ (updZ P'.1 3 v) 4 1, P'.2)) ⟨⟨⟨h.1.1.1, h.1.1.2.1, h.1.1.2.2.1, rfl, h.1.1.2.2.2.2⟩, fun _ => rfl⟩, h.2⟩ v 1
theorem end_rt {P P' : PS} (h : RT P P') : (endF P).1 = (endF P').1 ∧ RT (endF P).2 (endF P').2 := by
  unfold endF
  have e1 := h.1.1.2.1
  have e2 := h.1.1.2.2.1
  by_cases c : P.1 2 < 8 ∨ 7 ≤ P.1 1
  · rw [if_pos c, if_pos (by omega)]
    exact ⟨rfl, h⟩
  · rw [if_neg c, if_neg (by omega)]
    exact ⟨rfl, ⟨⟨h.1.1.1, by show P.1 1 + 1 = P'.1 1 + 1; rw [e1], rfl, h.1.1.2.2.2.1, h.1.1.2.2.2.2⟩, h.1.2⟩, h.2⟩
theorem times_rt {P P' : PS} (h : RT P P') (h3 : P.1 3 = P'.1 3) (c_ : Int) : (timesF P c_).1 = (timesF P' c_).1 ∧ RT (timesF P c_).2 (timesF P' c_).2 := by
  unfold timesF
  rw [← h3]
  have hR : RT (updZ P.1 5 0, P.2) (updZ P'.1 5 0, P'.2) := ⟨⟨⟨h.1.1.1, h.1.1.2.1, h.1.1.2.2.1, h.1.1.2.2.2.1, rfl⟩, fun _ => h3⟩, h.2⟩
  by_cases c : c_ < 50 ∨ 56 < c_
  · rw [if_pos c, if_pos c]
    exact ⟨rfl, hR⟩
  · rw [if_neg c, if_neg c]
    exact puts_rt hR _ _
theorem takes_rt {P P' : PS} (h : RT P P') (c_ : Int) : (takesF P c_).1 = (takesF P' c_).1 ∧ RT (takesF P c_).2 (takesF P' c_).2 := by
  have e5 := h.1.1.2.2.2.2
  have e4 := h.1.1.2.2.2.1
  by_cases c5 : P.1 5 = 1
  · have := times_rt h (h.1.2 (Or.inr c5)) c_
    unfold takesF
    rw [if_pos c5, if_pos (e5 ▸ c5)]
    exact this
  · have h4 : RT (updZ P.1 4 0, P.2) (updZ P'.1 4 0, P'.2) := ⟨⟨⟨h.1.1.1, h.1.1.2.1, h.1.1.2.2.1, rfl, e5⟩, fun q => h.1.2 (Or.inr (by rcases q with q | q; exact absurd (show (0 : Int) = 1 from q) (by decide); exact q))⟩, h.2⟩
    unfold takesF
    have c5' : ¬ P'.1 5 = 1 := e5 ▸ c5
    rw [if_neg c5, if_neg c5']
    by_cases cx : c_ = 120
    · rw [if_pos cx, if_pos cx]
      refine ⟨by rw [e4], ⟨⟨h.1.1.1, h.1.1.2.1, h.1.1.2.2.1, rfl, e4⟩, fun q => h.1.2 (Or.inl ?_)⟩, h.2⟩
      rcases q with q | q
      · exact absurd (show (0 : Int) = 1 from q) (by decide)
      · exact q
    · rw [if_neg cx, if_neg cx]
      by_cases cs_ : c_ = 47
      · rw [if_pos cs_, if_pos cs_]
        exact end_rt h4
      · rw [if_neg cs_, if_neg cs_]
        by_cases cd : c_ = 46
        · rw [if_pos cd, if_pos cd]
          exact pix_rt h4 0
        · rw [if_neg cd, if_neg cd]
          by_cases cv : 49 ≤ c_ ∧ c_ ≤ 51
          · rw [if_pos cv, if_pos cv]
            exact pix_rt h4 _
          · rw [if_neg cv, if_neg cv]
            exact ⟨rfl, h4⟩
theorem rdS_rt (T T' X : Int → Int) (h : T 0 = T' 0) (n : Nat) : RT (rdS T X n) (rdS T' X n) := by
  induction n with
  | zero => exact ⟨⟨⟨h, rfl, rfl, rfl, rfl⟩, fun q => by rcases q with q | q <;> exact absurd (show (0 : Int) = 1 from q) (by decide)⟩, rfl⟩
  | succ n ih => exact (takes_rt ih _).2
theorem fault_rt (T T' X : Int → Int) (h : T 0 = T' 0) : faultF T X = faultF T' X := by
  unfold faultF
  rw [← h, (rdS_rt T T' X h (T 0).toNat).1.1.2.2.1, (rdS_rt T T' X h (T 0).toNat).1.1.2.2.2.2, ff_congr (fun k _ _ => congrArg (fun z => !z) (takes_rt (rdS_rt T T' X h k.toNat) (X k)).1)]
def HZ (P : PS) : Prop := ∀ k : Nat, 8 * P.1 1 + P.1 2 ≤ (k : Int) → P.2.1 k = false ∧ P.2.2 k = false
theorem puts_hz {P : PS} (h : HZ P) {v n : Int} (hn : 0 ≤ n) : HZ (putsF P v n).2 := by
  unfold putsF
  split
  · exact h
  · intro k hk
    have hk : 8 * P.1 1 + (P.1 2 + n) ≤ (k : Int) := hk
    have h9 := h k (by omega)
    show pb P.2.1 (8 * P.1 1 + P.1 2) n _ k = false ∧ pb P.2.2 (8 * P.1 1 + P.1 2) n _ k = false
    unfold pb
    rw [h9.1, h9.2, decide_eq_false (by omega)]
    exact ⟨rfl, rfl⟩
theorem takes_hz {P : PS} (hT : TF P.1) (h : HZ P) {c_ : Int} : HZ (takesF P c_).2 := by
  have h4 : HZ (updZ P.1 4 0, P.2) := h
  unfold takesF
  split
  · unfold timesF
    split
    · exact h
    · exact puts_hz (P := (updZ P.1 5 0, P.2)) h (by omega)
  · split
    · exact h
    · split
      · unfold endF
        split
        · exact h
        · rename_i h9
          have h9 : ¬ (P.1 2 < 8 ∨ 7 ≤ P.1 1) := h9
          intro k hk
          have hk : 8 * (P.1 1 + 1) + 0 ≤ (k : Int) := hk
          have := hT.2.2.1
          exact h k (by omega)
      · split
        · exact puts_hz (P := (updZ (updZ (updZ P.1 4 0) 3 0) 4 1, P.2)) h (by decide)
        · split
          · exact puts_hz (P := (updZ (updZ (updZ P.1 4 0) 3 (c_ - 48)) 4 1, P.2)) h (by decide)
          · exact h
theorem rdS_hz {T X : Int → Int} (h : TF T) (n : Nat) : HZ (rdS T X n) := by
  induction n with
  | zero => exact fun k _ => ⟨rfl, rfl⟩
  | succ n ih => exact takes_hz (rdS_tf h n) ih
theorem fault_full {T X : Int → Int} (h : TF T) (hf : faultF T X = -5) : (rdS T X (T 0).toNat).1 2 = 8 := by
  have h0 := h.1
  have h2 := (rdS_tf (X := X) h (T 0).toNat).2.2.1
  unfold faultF at hf
  split at hf
  · split at hf
    · omega
    · omega
  · rename_i h9
    exact absurd hf h9
theorem tlT_TF {t : Int} (h : 0 ≤ t ∧ t ≤ 60) : TF (tlT t) := ⟨h, ⟨by show (0 : Int) ≤ 0; omega, by show (0 : Int) ≤ 7; omega⟩, ⟨by show (0 : Int) ≤ 0; omega, by show (0 : Int) ≤ 8; omega⟩, ⟨by show (0 : Int) ≤ 0; omega, by show (0 : Int) ≤ 3; omega⟩, ⟨by show (0 : Int) ≤ 0; omega, by show (0 : Int) ≤ 1; omega⟩, ⟨by show (0 : Int) ≤ 0; omega, by show (0 : Int) ≤ 1; omega⟩⟩
/-- what a faultless reading gives, by the text alone -/
theorem read_eq {T X : Int → Int} {t : Int} (hT : TF T) (h0 : T 0 = t) (hf : faultF T X = -5) : (rdS T X (T 0).toNat).1 1 = (rdS (tlT t) X t.toNat).1 1 ∧ (rdS T X (T 0).toNat).2 = (rdS (tlT t) X t.toNat).2 ∧ ∀ k : Nat, 8 * ((rdS T X (T 0).toNat).1 1 + 1) ≤ (k : Int) → (rdS T X (T 0).toNat).2.1 k = false ∧ (rdS T X (T 0).toNat).2.2 k = false := by
  have h := rdS_rt T (tlT t) X h0 (T 0).toNat
  have e : (T 0).toNat = t.toNat := by rw [h0]
  refine ⟨h.1.1.2.1.trans (by rw [e]), h.2.trans (by rw [e]), fun k hk => rdS_hz hT _ k ?_⟩
  rw [fault_full hT hf]
  omega
