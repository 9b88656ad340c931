def colP (i j : Int) : Int → Int := fun k => if (0 ≤ k ∧ k % 4 ≠ 0) ∧ (k / 4 < i ∨ (k / 4 = i ∧ k % 4 < j)) then 16 * (k / 4) + k % 4 else 0
theorem colP_0 : colP 0 1 = fun _ => 0 := by
  funext k
  unfold colP
  rw [if_neg (by omega)]
theorem colP_n {i : Int} : colP (i + 1) 1 = colP i 4 := by
  funext k
  unfold colP
  by_cases h : (0 ≤ k ∧ k % 4 ≠ 0) ∧ (k / 4 < i ∨ (k / 4 = i ∧ k % 4 < 4))
  · rw [if_pos h, if_pos (by omega)]
  · rw [if_neg h, if_neg (by omega)]
theorem colP_s {i j : Int} (hi : 0 ≤ i) (hj : 1 ≤ j ∧ j < 4) : updZ (colP i j) (4 * i + j) (16 * i + j) = colP i (j + 1) := by
  funext k
  by_cases e : k = 4 * i + j
  · subst e
    rw [updZ_s]
    unfold colP
    rw [if_pos (by omega)]
    omega
  · rw [updZ_n e]
    unfold colP
    by_cases h : (0 ≤ k ∧ k % 4 ≠ 0) ∧ (k / 4 < i ∨ (k / 4 = i ∧ k % 4 < j))
    · rw [if_pos h, if_pos (by omega)]
    · rw [if_neg h, if_neg (by omega)]
/-- a State as it is born -/
def S0 : SS
  | 0 => fun k => if k = 2 then 4 else 0
  | 2 => colP 4 1
  | _ => fun _ => 0
theorem pL_0 : pL (S0 5) = fun _ => 0 := funext fun _ => lB_0.symm
theorem pH_0 : pH (S0 5) = fun _ => 0 := funext fun _ => lB_0.symm
theorem cB_0 : cB (fun _ _ => false) = aI (fun _ => 0) := funext fun _ => iB_0.symm
theorem tf_z : TF (fun _ => 0) := by
  refine ⟨?_, ?_, ?_, ?_, ?_, ?_⟩ <;> decide
def A0_ : AS := (S0, (0, fun _ => S0), (0, fun _ => 0), (fun _ => false, fun _ => S0))
theorem S0_wf : WF S0 := by
  refine ⟨by decide, by decide, by decide, by decide, by decide, fun s h1 h2 => ?_, fun k h1 h2 => ?_, fun l h1 h2 => ⟨Int.le_refl _, Int.le_refl _, by show (0 : Int) ≤ 3; decide⟩, fun j h1 h2 => ⟨Int.le_refl _, by show (0 : Int) ≤ 3; decide⟩⟩
  · have h2 : s < 0 := h2
    omega
  · show 0 ≤ colP 4 1 k ∧ colP 4 1 k ≤ 63
    unfold colP
    split <;> omega
theorem A0_wf : AWF A0_ := ⟨S0_wf, ⟨by decide, fun i _ => S0_wf⟩, ⟨by decide, fun j _ _ => by show (0 : Int) ≤ 0 ∧ (0 : Int) < 65536; decide⟩, fun s _ _ => S0_wf⟩
theorem blX0 : ∀ j, j < 3 → defaultValue (tyX0 j) = vp_V [.null, .int (zI 0), .int (zI 0)] j := by
  intro j hj
  match j, hj with
  | 0, _ => rfl
  | 1, _ => rfl
  | 2, _ => rfl
  | k + 3, h => exact absurd h (by omega)
theorem blX1 : ∀ j, j < 4 → defaultValue (tyX1 j) = vp_V [.null, .null, .null, .null] j := by
  intro j hj
  match j, hj with
  | 0, _ => rfl
  | 1, _ => rfl
  | 2, _ => rfl
  | 3, _ => rfl
  | k + 4, h => exact absurd h (by omega)
theorem blX2 : ∀ j, j < 9 → defaultValue (tyX2 j) = vp_V [.null, .int (zI 0), .long 0, .long 0, .int (zI 0), .int (zI 0), .int (zI 0), .int (zI 0), .int (zI 0)] j := by
  intro j hj
  match j, hj with
  | 0, _ => rfl
  | 1, _ => rfl
  | 2, _ => rfl
  | 3, _ => rfl
  | 4, _ => rfl
  | 5, _ => rfl
  | 6, _ => rfl
  | 7, _ => rfl
  | 8, _ => rfl
  | k + 9, h => exact absurd h (by omega)
theorem blX3 : ∀ j, j < 3 → defaultValue (tyX3 j) = vp_V [.int (zI 0), .null, .null] j := by
  intro j hj
  match j, hj with
  | 0, _ => rfl
  | 1, _ => rfl
  | 2, _ => rfl
  | k + 3, h => exact absurd h (by omega)
theorem blX4 : ∀ j, j < 9 → defaultValue (tyX4 j) = vp_V [.int (zI 0), .int (zI 0), .int (zI 0), .int (zI 0), .null, .null, .null, .null, .null] j := by
  intro j hj
  match j, hj with
  | 0, _ => rfl
  | 1, _ => rfl
  | 2, _ => rfl
  | 3, _ => rfl
  | 4, _ => rfl
  | 5, _ => rfl
  | 6, _ => rfl
  | 7, _ => rfl
  | 8, _ => rfl
  | k + 9, h => exact absurd h (by omega)
theorem blX5 : ∀ j, j < 4 → defaultValue (tyX5 j) = vp_V [.null, .null, .null, .null] j := by
  intro j hj
  match j, hj with
  | 0, _ => rfl
  | 1, _ => rfl
  | 2, _ => rfl
  | 3, _ => rfl
  | k + 4, h => exact absurd h (by omega)
theorem blX6 : ∀ j, j < 6 → defaultValue (tyX6 j) = vp_V [.null, .null, .null, .null, .null, .null] j := by
  intro j hj
  match j, hj with
  | 0, _ => rfl
  | 1, _ => rfl
  | 2, _ => rfl
  | 3, _ => rfl
  | 4, _ => rfl
  | 5, _ => rfl
  | k + 6, h => exact absurd h (by omega)
theorem st_base {cs : Nat → ClassId} {b b2 : Nat → Nat} {S : SS} (h : ∀ j, j < 8 → b j = b2 j) : stW cs b S = stW cs b2 S := by
  unfold stW
  rw [h 0 (by decide), h 1 (by decide), h 2 (by decide), h 3 (by decide), h 4 (by decide), h 5 (by decide), h 6 (by decide), h 7 (by decide)]
theorem st_move {G : va_G} {cs : Nat → ClassId} {b b2 : Nat → Nat} {S : SS} {H : Heap} (e : ∀ j, j < 8 → b j = b2 j) (h : va_P G vwCl (stW cs b2 S) H) : va_P G vwCl (stW cs b S) H := by
  rw [st_base (cs := cs) (S := S) e]
  exact h
theorem ring_row {G : va_G} {cs : Nat → ClassId} {a : Nat → Nat} {H : Heap} {f : Nat → Option Nat} (h : va_P G vwCl [((sh a 1) 0, .inl (cs 4, 5, .inr (.inr (.inr (.inr f)))))] H) (hf : ∀ k, k < 5 → f k = hRow a k := by intro k hk; match k, hk with | 0, _ => rfl | 1, _ => rfl | 2, _ => rfl | 3, _ => rfl | 4, _ => rfl) : va_P G vwCl [(a 1, .inl (cs 4, 5, .inr (.inr (.inr (.inr (hRow a))))))] H := by
  refine one_P ?_
  have h1 := h 0 _ rfl
  show H[a 1]? = some (vp_cell _ _)
  have h2 : H[a 1]? = some (vp_cell (cs 4) (5, .inr (.inr (.inr (.inr f))))) := h1
  rw [h2, vp_cell_q, vp_cell_q]
  exact congrArg some (arrV_congr (fun k hk => by rw [hf k hk]))
