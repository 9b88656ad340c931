/-! What the cells hold, as numbers. -/
abbrev SS : Type := Nat → Int → Int
def up2 (S : SS) (f : Nat) (F : Int → Int) : SS := fun g => if g = f then F else S g
theorem up2_s {S : SS} {f : Nat} {F : Int → Int} : up2 S f F f = F := if_pos rfl
theorem up2_n {S : SS} {f g : Nat} {F : Int → Int} (h : g ≠ f) : up2 S f F g = S g := if_neg h
/-- the low and the high bits of the pixels of a part -/
def bL (X : Int → Int) (p : Int) : Nat → Bool := fun k => decide (X (64 * p + k) % 2 = 1)
def bH (X : Int → Int) (p : Int) : Nat → Bool := fun k => decide (X (64 * p + k) / 2 % 2 = 1)
def pL (X : Int → Int) : Nat → Int64 := fun p => lB (bL X p)
def pH (X : Int → Int) : Nat → Int64 := fun p => lB (bH X p)
/-- a State at b 0, its Sheet at b 1, and their arrays -/
abbrev stW (cs : Nat → ClassId) (b : Nat → Nat) (S : SS) : va_W := [
  (b 0, .inr (4, [.int (zI (S 0 4)), .int (zI (S 0 2)), .int (zI (S 0 3)), .int (zI (S 0 1)), .ref (b 1), .ref (b 4), .ref (b 5), .ref (b 6), .ref (b 7)])),
  (b 1, .inr (3, [.int (zI (S 0 0)), .ref (b 2), .ref (b 3)])),
  (b 2, .inl (cs 1, 24, .inr (.inl (pL (S 5))))),
  (b 3, .inl (cs 1, 24, .inr (.inl (pH (S 5))))),
  (b 4, .inl (cs 0, 120, .inl (aI (S 1)))),
  (b 5, .inl (cs 0, 16, .inl (aI (S 2)))),
  (b 6, .inl (cs 0, 32, .inl (aI (S 3)))),
  (b 7, .inl (cs 0, 32, .inl (aI (S 4))))]
/-- the View at v 0, its rows; b 0 is the State -/
abbrev viW (cs : Nat → ClassId) (v : Nat → Nat) (b : Nat) (f1 f2 f3 : Nat → Int32) : va_W := [
  (v 0, .inr (5, [.ref b, .ref (v 1), .ref (v 2), .ref (v 3)])),
  (v 1, .inl (cs 0, 20, .inl f1)), (v 2, .inl (cs 0, 20, .inl f2)), (v 3, .inl (cs 0, 20, .inl f3))]
abbrev pkW (cs : Nat → ClassId) (v : Nat → Nat) (b : Nat) (g1 g2 g3 : Nat → Int32) : va_W := [
  (v 0, .inr (1, [.ref b, .ref (v 1), .ref (v 2), .ref (v 3)])),
  (v 1, .inl (cs 0, 24, .inl g1)), (v 2, .inl (cs 2, 24, .inl g2)), (v 3, .inl (cs 0, 24, .inl g3))]
/-- the text: T 0 its length, 1 the row, 2 the width, 3 the last pixel, 4, 5 the flags; lo, hi the planes; X its characters -/
abbrev txW (cs : Nat → ClassId) (v : Nat → Nat) (T : Int → Int) (lo hi : Nat → Bool) (X : Int → Int) : va_W := [
  (v 0, .inr (2, [.ref (v 1), .int (zI (T 0)), .long (lB lo), .long (lB hi), .int (zI (T 1)), .int (zI (T 2)), .int (zI (T 3)), .int (zI (T 4)), .int (zI (T 5))])),
  (v 1, .inl (cs 3, 60, .inl (aI X)))]
/-- the history: its ring's states stand at v 2, v 10 .. -/
def hRow (v : Nat → Nat) : Nat → Option Nat := fun i => some (v (2 + 8 * i))
abbrev hiW (cs : Nat → ClassId) (v : Nat → Nat) (o n : Int) : va_W := [
  (v 0, .inr (0, [.ref (v 1), .int (zI o), .int (zI n)])),
  (v 1, .inl (cs 4, 5, .inr (.inr (.inr (.inr (hRow v))))))]
/-- the snapshots: their states stand at w 0, w 8 -/
def nRow (w : Nat → Nat) (k : Nat → Bool) : Nat → Option Nat := fun i => if k i then some (w (8 * i)) else none
abbrev snW (cs : Nat → ClassId) (v : Nat → Nat) (w : Nat → Nat) (k : Nat → Bool) : va_W := [
  (v 0, .inl (cs 4, 2, .inr (.inr (.inr (.inr (nRow w k))))))]
abbrev xoW (a : Nat → Nat) : va_W := [
  (a 0, .inr (6, [.ref ((sh a 1) 0), .ref ((sh a 9) 0), .ref ((sh a 13) 0), .ref ((sh a 17) 0), .ref ((sh a 19) 0), .ref ((sh a 61) 0)]))]
section GR
theorem Ord.nil {b : Nat → Nat} {n : Nat} : Ord b n [] := fun k q h => by simp at h
theorem Ord.of {b : Nat → Nat} {n : Nat} {ws : va_W} (h : ws.map Prod.fst = (List.range n).map b) : Ord b n ws := by
  intro k q hk
  have h1 : (ws.map Prod.fst)[k]? = some q.1 := by rw [List.getElem?_map, hk]; rfl
  rw [h, List.getElem?_map] at h1
  cases hr : (List.range n)[k]? with
  | none => rw [hr] at h1; cases h1
  | some j =>
    rw [hr] at h1
    obtain ⟨hj, he⟩ := List.getElem?_eq_some_iff.mp hr
    rw [List.getElem_range] at he
    rw [List.length_range] at hj
    subst he
    exact ⟨hj, (Option.some.inj h1).symm⟩
theorem ordSt (cs : Nat → ClassId) (b : Nat → Nat) (S : SS) : Ord b 8 (stW cs b S) := Ord.of rfl
theorem ordVi (cs : Nat → ClassId) (v : Nat → Nat) (b : Nat) (f1 f2 f3 : Nat → Int32) : Ord v 4 (viW cs v b f1 f2 f3) := Ord.of rfl
theorem ordPk (cs : Nat → ClassId) (v : Nat → Nat) (b : Nat) (f1 f2 f3 : Nat → Int32) : Ord v 4 (pkW cs v b f1 f2 f3) := Ord.of rfl
theorem ordTx (cs : Nat → ClassId) (v : Nat → Nat) (T : Int → Int) (lo hi : Nat → Bool) (X : Int → Int) : Ord v 2 (txW cs v T lo hi X) := Ord.of rfl
theorem ordHi (cs : Nat → ClassId) (v : Nat → Nat) (o n : Int) : Ord v 2 (hiW cs v o n) := Ord.of rfl
theorem ordSn (cs : Nat → ClassId) (v : Nat → Nat) (w : Nat → Nat) (k : Nat → Bool) : Ord v 1 (snW cs v w k) := Ord.of rfl
theorem ordXo (a : Nat → Nat) : Ord a 1 (xoW a) := Ord.of rfl
end GR
/-- ranges of what a State holds -/
def WF (S : SS) : Prop := (0 ≤ S 0 0 ∧ S 0 0 ≤ 24) ∧ (0 ≤ S 0 1 ∧ S 0 1 ≤ 20) ∧ (1 ≤ S 0 2 ∧ S 0 2 ≤ 20) ∧ (0 ≤ S 0 3 ∧ S 0 3 ≤ 19) ∧ (0 ≤ S 0 4 ∧ S 0 4 ≤ 1000000) ∧
  (∀ s, 0 ≤ s → s < S 0 1 → (0 ≤ S 1 (6 * s + 0) ∧ S 1 (6 * s + 0) < S 0 0) ∧ (0 ≤ S 1 (6 * s + 1) ∧ S 1 (6 * s + 1) ≤ 3) ∧ (0 ≤ S 1 (6 * s + 2) ∧ S 1 (6 * s + 2) ≤ 3) ∧ (0 ≤ S 1 (6 * s + 3) ∧ S 1 (6 * s + 3) ≤ 1) ∧ (-7 ≤ S 1 (6 * s + 4) ∧ S 1 (6 * s + 4) ≤ 31) ∧ (-7 ≤ S 1 (6 * s + 5) ∧ S 1 (6 * s + 5) ≤ 31)) ∧
  (∀ k, 0 ≤ k → k < 16 → 0 ≤ S 2 k ∧ S 2 k ≤ 63) ∧ (∀ l, 0 ≤ l → l < 32 → 0 ≤ S 3 l ∧ S 3 l ≤ S 4 l ∧ S 4 l ≤ 3) ∧ (∀ j, 0 ≤ j → j < 1536 → 0 ≤ S 5 j ∧ S 5 j ≤ 3)
/-- the pixel of a part that is mirrored in the way w -/
def pixW (S : SS) (p w r c : Int) : Int := S 5 (64 * p + (8 * (if w / 2 % 2 = 1 then 7 - r else r) + (if w % 2 = 1 then 7 - c else c)))
def isOver (S : SS) (x l : Int) : Bool := decide (0 ≤ l - S 1 (6 * x + 5) ∧ l - S 1 (6 * x + 5) ≤ 7)
def isW (S : SS) (l x : Int) : Bool := decide (S 1 (6 * x + 3) = 1) && isOver S x l
/-- how many of 0 .. n - 1 are so -/
def cnt (f : Int → Bool) : Nat → Int
  | 0 => 0
  | n + 1 => cnt f n + b2 (f n)
def cntI (f : Int → Bool) (n : Int) : Int := cnt f n.toNat
theorem cntI_0 (f : Int → Bool) : cntI f 0 = 0 := rfl
theorem cntI_s (f : Int → Bool) {n : Int} (h : 0 ≤ n) : cntI f (n + 1) = cntI f n + b2 (f n) := by
  obtain ⟨k, rfl⟩ := Int.eq_ofNat_of_zero_le h
  rfl
theorem cntI_t {f : Int → Bool} {n : Int} (h : 0 ≤ n) (hf : f n = true) : cntI f (n + 1) = cntI f n + 1 := by rw [cntI_s f h, b2_t hf]
theorem cntI_f {f : Int → Bool} {n : Int} (h : 0 ≤ n) (hf : f n = false) : cntI f (n + 1) = cntI f n := by rw [cntI_s f h, b2_f hf]; omega
theorem cnt_r (f : Int → Bool) (n : Nat) : 0 ≤ cnt f n ∧ cnt f n ≤ n := by
  induction n with
  | zero => exact ⟨Int.le_refl _, Int.le_refl _⟩
  | succ n ih =>
    have := b2_r (f n)
    rw [cnt]
    omega
theorem cntI_r (f : Int → Bool) {n : Int} (h : 0 ≤ n) : 0 ≤ cntI f n ∧ cntI f n ≤ n := by
  have := cnt_r f n.toNat
  unfold cntI
  omega
theorem cnt_congr {f g : Int → Bool} {n : Nat} (h : ∀ k : Int, 0 ≤ k → k < n → f k = g k) : cnt f n = cnt g n := by
  induction n with
  | zero => rfl
  | succ n ih => rw [cnt, cnt, ih (fun k h1 h2 => h k h1 (by omega)), h n (by omega) (by omega)]
theorem cntI_congr {f g : Int → Bool} {n : Int} (h : ∀ k : Int, 0 ≤ k → k < n → f k = g k) : cntI f n = cntI g n := cnt_congr (fun k h1 h2 => h k h1 (by omega))
/-- the first of k .. k + n - 1 that is so, or -5 -/
def ff (f : Int → Bool) (k : Int) : Nat → Int
  | 0 => -5
  | n + 1 => if f k then k else ff f (k + 1) n
theorem ff_hit {f : Int → Bool} {k : Int} {n : Nat} (j : Int) (h : ∀ i, k ≤ i → i < j → f i = false) (hk : k ≤ j) (hn : j < k + n) (hj : f j = true) : ff f k n = j := by
  induction n generalizing k with
  | zero => omega
  | succ n ih =>
    rw [ff]
    by_cases e : k = j
    · subst e; rw [if_pos hj]
    · rw [if_neg (by rw [h k (by omega) (by omega)]; decide)]
      exact ih (fun i h1 h2 => h i (by omega) h2) (by omega) (by omega)
theorem ff_none {f : Int → Bool} {k : Int} {n : Nat} (h : ∀ i, k ≤ i → i < k + n → f i = false) : ff f k n = -5 := by
  induction n generalizing k with
  | zero => rfl
  | succ n ih =>
    rw [ff, if_neg (by rw [h k (by omega) (by omega)]; decide)]
    exact ih (fun i h1 h2 => h i (by omega) (by omega))
theorem ff_congr {f g : Int → Bool} {k : Int} {n : Nat} (h : ∀ i, k ≤ i → i < k + n → f i = g i) : ff f k n = ff g k n := by
  induction n generalizing k with
  | zero => rfl
  | succ n ih => rw [ff, ff, h k (by omega) (by omega), ih (fun i h1 h2 => h i (by omega) (by omega))]
theorem ff_cases (f : Int → Bool) (k : Int) (n : Nat) : (∃ j, k ≤ j ∧ j < k + n ∧ f j = true ∧ (∀ i, k ≤ i → i < j → f i = false) ∧ ff f k n = j) ∨ ((∀ i, k ≤ i → i < k + n → f i = false) ∧ ff f k n = -5) := by
  induction n generalizing k with
  | zero => exact Or.inr ⟨fun i h1 h2 => by omega, rfl⟩
  | succ n ih =>
    by_cases e : f k = true
    · exact Or.inl ⟨k, by omega, by omega, e, fun i h1 h2 => by omega, by rw [ff, if_pos e]⟩
    · have e' : f k = false := by simpa using e
      rcases ih (k + 1) with ⟨j, h1, h2, h3, h4, h5⟩ | ⟨h1, h2⟩
      · refine Or.inl ⟨j, by omega, by omega, h3, fun i q1 q2 => ?_, by rw [ff, if_neg e, h5]⟩
        by_cases q : i = k
        · rw [q]; exact e'
        · exact h4 i (by omega) q2
      · refine Or.inr ⟨fun i q1 q2 => ?_, by rw [ff, if_neg e, h2]⟩
        by_cases q : i = k
        · rw [q]; exact e'
        · exact h1 i (by omega) (by omega)
/-- all of 0 .. n - 1 are so -/
def allN (f : Int → Bool) : Nat → Bool
  | 0 => true
  | n + 1 => allN f n && f n
theorem allN_iff {f : Int → Bool} {n : Nat} : allN f n = true ↔ ∀ k : Int, 0 ≤ k → k < n → f k = true := by
  induction n with
  | zero => exact ⟨fun _ k h1 h2 => by omega, fun _ => rfl⟩
  | succ n ih =>
    rw [allN, Bool.and_eq_true, ih]
    constructor
    · rintro ⟨h1, h2⟩ k q1 q2
      by_cases e : k = n
      · rw [e]; exact h2
      · exact h1 k q1 (by omega)
    · exact fun h => ⟨fun k q1 q2 => h k q1 (by omega), h n (by omega) (by omega)⟩
def anyN (f : Int → Bool) : Nat → Bool
  | 0 => false
  | n + 1 => anyN f n || f n
theorem anyN_iff {f : Int → Bool} {n : Nat} : anyN f n = true ↔ ∃ k : Int, 0 ≤ k ∧ k < n ∧ f k = true := by
  induction n with
  | zero => exact ⟨fun h => by simp [anyN] at h, fun ⟨k, h1, h2, _⟩ => by omega⟩
  | succ n ih =>
    rw [anyN, Bool.or_eq_true, ih]
    constructor
    · rintro (⟨k, q1, q2, q3⟩ | h)
      · exact ⟨k, q1, by omega, q3⟩
      · exact ⟨n, by omega, by omega, h⟩
    · rintro ⟨k, q1, q2, q3⟩
      by_cases e : k = n
      · subst e; exact Or.inr q3
      · exact Or.inl ⟨k, q1, by omega, q3⟩
