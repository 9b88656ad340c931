/-! What the calls answer, out of the numbers of a State. -/
def hasSw (S : SS) (x : Int) : Bool := decide (S 3 x ≠ S 4 x)
def palOn (S : SS) (x q : Int) : Int := if q = S 3 x then S 4 x else if q = S 4 x then S 3 x else q
def isOn (S : SS) (x : Int) : Bool := decide (S 1 (6 * x + 3) = 1)
def isUsed (S : SS) (q : Int) : Bool := anyN (fun x => decide (S 1 (6 * x + 0) = q)) (S 0 1).toNat
theorem cnt_range {y : Int} {n : Nat} : cnt (fun l => decide (0 ≤ l - y ∧ l - y ≤ 7)) n = (if (n : Int) ≤ y then 0 else if (n : Int) ≤ y + 8 then (n : Int) - (if y < 0 then 0 else y) else (y + 8) - (if y < 0 then 0 else y)) ∨ y < -8 := by
  by_cases hy : y < -8
  · exact Or.inr hy
  refine Or.inl ?_
  induction n with
  | zero =>
    rw [cnt]
    split <;> (try split) <;> (try split) <;> omega
  | succ n ih =>
    rw [cnt, ih]
    by_cases h : 0 ≤ (n : Int) - y ∧ (n : Int) - y ≤ 7
    · rw [b2_t (by simp only [decide_eq_true_eq]; exact h)]
      split <;> (try split) <;> (try split) <;> (try split) <;> (try split) <;> (try split) <;> omega
    · rw [b2_f (by simp only [decide_eq_false_iff_not]; exact h)]
      split <;> (try split) <;> (try split) <;> (try split) <;> (try split) <;> (try split) <;> omega
theorem cover_cnt {S : SS} {x : Int} (h : -7 ≤ S 1 (6 * x + 5) ∧ S 1 (6 * x + 5) ≤ 31) : cntI (isOver S x) 32 = (if (32 : Int) < S 1 (6 * x + 5) + 8 then (32 : Int) else S 1 (6 * x + 5) + 8) - (if S 1 (6 * x + 5) < 0 then (0 : Int) else S 1 (6 * x + 5)) := by
  rcases @cnt_range (S 1 (6 * x + 5)) 32 with q | q
  · show cnt (isOver S x) 32 = _
    rw [show isOver S x = (fun l => decide (0 ≤ l - S 1 (6 * x + 5) ∧ l - S 1 (6 * x + 5) ≤ 7)) from rfl, q]
    split <;> (try split) <;> (try split) <;> (try split) <;> omega
  · omega
