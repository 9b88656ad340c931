/-! Sprites that meet. -/
def cB (g : Int → Nat → Bool) : Nat → Int32 := fun k => iB (g k)
def updB (g : Int → Nat → Bool) (i : Int) (f : Nat → Bool) : Int → Nat → Bool := fun k => if k = i then f else g k
theorem updB_s {g : Int → Nat → Bool} {i : Int} {f : Nat → Bool} : updB g i f i = f := if_pos rfl
theorem updB_n {g : Int → Nat → Bool} {i k : Int} {f : Nat → Bool} (h : k ≠ i) : updB g i f k = g k := if_neg h
theorem cB_upd {g : Int → Nat → Bool} {i : Int} {f : Nat → Bool} (h : 0 ≤ i) : upd (cB g) i.toNat (iB f) = cB (updB g i f) := by
  funext k
  unfold upd cB updB
  by_cases e : k = i.toNat
  · rw [if_pos e, if_pos (by omega)]
  · rw [if_neg e, if_neg (by omega)]
section ZB9
variable {p : Program} {l : Launch} {e : Env} {R : Room} {s : State} {m : MethodId} {args : Array Value} {below : List Frame} {meth : Method} {c : Code} {H : Heap} {locs : List Loc} {cells slots : Nat} {Q : State → Prop} {cc : ByteArray} {pc : Nat} {ls : Array Slot} {rest : List Value} {A : Nat → Prop} {H0 : Heap} {G : va_G} {cl : List vw_C} {ws : va_W} {a : Nat} {tys : List (ClassId × FieldType)}
theorem z_ialdB (hx : p.tables.exec = Jvm.exec) (hb : c.code = cc) (hK : va_K G cl tys s) (hP : va_P G cl ws H) (q0 t0 : Nat) {cA : ClassId} {n : Nat} {F : Int → Nat → Bool} (ha : ws[q0]? = some (a, .inl (cA, n, .inl (cB F)))) (ht : tys[t0]? = some (cA, .int)) {i : Int} (hi : 0 ≤ i ∧ i < n) (hn : n < 2147483648) (hdg : decode cc pc = .ok (.iaload, 1))
    (kk : W p l e R s m args below meth c H locs cells slots Q (F0 m (pc + 1) ls (.int (iB (F i)) :: rest))) : W p l e R s m args below meth c H locs cells slots Q (F0 m pc ls (.int (zI i) :: .ref a :: rest)) :=
  va_iald hx hb hK hP q0 t0 ha ht (zI_in hi hn) hdg (by
    rw [zI_clamp (by omega)]
    unfold cB
    rw [show ((i.toNat : Nat) : Int) = i by omega]
    exact kk)
theorem z_iastB (hx : p.tables.exec = Jvm.exec) (hb : c.code = cc) (hK : va_K G cl tys s) (hP : va_P G cl ws H) (hD : va_D (fun _ => True) ws) (hS : va_S A H0 H locs) (q0 t0 : Nat) {cA : ClassId} {n : Nat} {F : Int → Nat → Bool} {x : Nat → Bool} (ha : ws[q0]? = some (a, .inl (cA, n, .inl (cB F)))) (ht : tys[t0]? = some (cA, .int)) {i : Int} (hi : 0 ≤ i ∧ i < n) (hn : n < 2147483648) (hA : A a) (hdg : decode cc pc = .ok (.iastore, 1))
    (kk : ∀ (H1 : Heap) (locs1 : List Loc), va_P G cl (ws.set q0 (a, .inl (cA, n, .inl (cB (updB F i x))))) H1 → H.size ≤ H1.size → (∀ q : Nat, q < H.size → ¬ q = a → H1[q]? = H[q]?) → va_S A H0 H1 locs1 → W p l e R s m args below meth c H1 locs1 cells slots Q (F0 m (pc + 1) ls rest)) : W p l e R s m args below meth c H locs cells slots Q (F0 m pc ls (.int (iB x) :: .int (zI i) :: .ref a :: rest)) :=
  z_iastR hx hb hK hP hD hS q0 t0 ha ht hi hn hA hdg (fun H1 locs1 h1 h2 h3 h4 => kk H1 locs1 (by rw [← cB_upd hi.1]; exact h1) h2 h3 h4)
end ZB9
theorem iB_z {f : Nat → Bool} : iB f = 0 ↔ anyN (fun c => f c.toNat) 32 = false := by
  constructor
  · intro h
    rw [Bool.eq_false_iff]
    intro h2
    obtain ⟨k, h3, h4, h5⟩ := anyN_iff.mp h2
    have h6 := congrArg (fun x => x.toBitVec.getLsbD k.toNat) h
    have h7 : (iB f).toBitVec.getLsbD k.toNat = (0 : Int32).toBitVec.getLsbD k.toNat := h6
    rw [iB_bit, h5] at h7
    simp [show k.toNat < 32 by omega] at h7
  · intro h
    have : iB f = iB (fun _ => false) := iB_congr (fun k hk => by
      cases q : f k with
      | false => rfl
      | true =>
        have : anyN (fun c => f c.toNat) 32 = true := anyN_iff.mpr ⟨k, by omega, by omega, q⟩
        rw [h] at this
        cases this)
    rw [this, ← iB_0]
    rfl
theorem fir_pix {S : SS} (hX : ∀ j, 0 ≤ j → j < 1536 → 0 ≤ S 5 j ∧ S 5 j ≤ 3) {p w r : Int} {j : Nat} (hp : 0 ≤ p ∧ p < 24) (hr : 0 ≤ r ∧ r < 8) (hj : j < 8) : (bL (S 5) p (mirK w (j + (8 * r).toNat)) || bH (S 5) p (mirK w (j + (8 * r).toNat))) = decide (pixW S p w r (j : Int) ≠ 0) := by
  have h1 : j + (8 * r).toNat < 64 := by omega
  have h2 := mirK_lt (w := w) h1
  have h3 := (mir_pix (S := S) (p := p) (w := w) (k := j + (8 * r).toNat)).resolve_right (by omega)
  rw [show ((j + (8 * r).toNat : Nat) : Int) / 8 = r by omega, show ((j + (8 * r).toNat : Nat) : Int) % 8 = j by omega] at h3
  rw [h3]
  exact nz_bits (X := S 5) (p := p) (k := (mirK w (j + (8 * r).toNat) : Nat)) (by omega) (hX _ (by omega) (by omega))
theorem col_pos {S : SS} (hX : ∀ j, 0 ≤ j → j < 1536 → 0 ≤ S 5 j ∧ S 5 j ≤ 3) {x q : Int} {k : Nat} (hp : 0 ≤ S 1 (6 * x + 0) ∧ S 1 (6 * x + 0) < 24) (hr : 0 ≤ q - S 1 (6 * x + 5) ∧ q - S 1 (6 * x + 5) < 8) (hc : 0 ≤ S 1 (6 * x + 4)) (hk : k < 32) :
    (decide ((S 1 (6 * x + 4)).toNat ≤ k) && (decide (k - (S 1 (6 * x + 4)).toNat < 8) && (bL (S 5) (S 1 (6 * x + 0)) (mirK (S 1 (6 * x + 1)) (k - (S 1 (6 * x + 4)).toNat + (8 * (q - S 1 (6 * x + 5))).toNat)) || bH (S 5) (S 1 (6 * x + 0)) (mirK (S 1 (6 * x + 1)) (k - (S 1 (6 * x + 4)).toNat + (8 * (q - S 1 (6 * x + 5))).toNat))))) = (decide (k < 32) && decide (pixAt S x q k ≠ 0)) := by
  unfold pixAt
  by_cases h : 0 ≤ (k : Int) - S 1 (6 * x + 4) ∧ (k : Int) - S 1 (6 * x + 4) < 8
  · rw [if_pos ⟨hr, h⟩, fir_pix hX hp hr (by omega), show ((k - (S 1 (6 * x + 4)).toNat : Nat) : Int) = (k : Int) - S 1 (6 * x + 4) by omega]
    simp [hk, show (S 1 (6 * x + 4)).toNat ≤ k by omega, show k - (S 1 (6 * x + 4)).toNat < 8 by omega]
  · rw [if_neg (fun h9 => h h9.2)]
    by_cases h1 : (S 1 (6 * x + 4)).toNat ≤ k
    · simp [show ¬ k - (S 1 (6 * x + 4)).toNat < 8 by omega]
    · simp [h1]
theorem col_neg {S : SS} (hX : ∀ j, 0 ≤ j → j < 1536 → 0 ≤ S 5 j ∧ S 5 j ≤ 3) {x q : Int} {k : Nat} (hp : 0 ≤ S 1 (6 * x + 0) ∧ S 1 (6 * x + 0) < 24) (hr : 0 ≤ q - S 1 (6 * x + 5) ∧ q - S 1 (6 * x + 5) < 8) (hc : -7 ≤ S 1 (6 * x + 4) ∧ S 1 (6 * x + 4) < 0) (hk : k < 32) {F : Nat → Bool} (hF : ∀ j, F j = (decide (j < 8) && (bL (S 5) (S 1 (6 * x + 0)) (mirK (S 1 (6 * x + 1)) (j + (8 * (q - S 1 (6 * x + 5))).toNat)) || bH (S 5) (S 1 (6 * x + 0)) (mirK (S 1 (6 * x + 1)) (j + (8 * (q - S 1 (6 * x + 5))).toNat))))) :
    (if k + (-S 1 (6 * x + 4)).toNat < 32 then F (k + (-S 1 (6 * x + 4)).toNat) else F 31) = (decide (k < 32) && decide (pixAt S x q k ≠ 0)) := by
  unfold pixAt
  by_cases h : (k : Int) - S 1 (6 * x + 4) < 8
  · rw [if_pos (show _ ∧ _ from ⟨hr, by omega, h⟩), if_pos (by omega), hF, fir_pix hX hp hr (by omega), show ((k + (-S 1 (6 * x + 4)).toNat : Nat) : Int) = (k : Int) - S 1 (6 * x + 4) by omega]
    simp [hk, show k + (-S 1 (6 * x + 4)).toNat < 8 by omega]
  · rw [if_neg (show ¬ (_ ∧ _) from fun h9 => h h9.2.2)]
    have e : ∀ j, 8 ≤ j → F j = false := fun j hj => by rw [hF]; simp [show ¬ j < 8 by omega]
    split
    · rw [e _ (by omega)]; simp
    · rw [e _ (by omega)]; simp
/-- pairs done: those below i, and i with those below j -/
def dP (i j x k : Int) : Bool := decide (x ≠ k ∧ ((x < i ∧ k < i) ∨ (x = i ∧ k < j) ∨ (k = i ∧ x < j)))
def ovB (Fl : Int → Nat → Bool) (x k : Int) : Bool := anyN (fun c => Fl x c.toNat && Fl k c.toNat) 32
theorem ovB_sym {Fl : Int → Nat → Bool} {x k : Int} : ovB Fl x k = ovB Fl k x := by
  unfold ovB
  exact congrArg (fun f => anyN f 32) (funext fun c => Bool.and_comm _ _)
def RP (Pt Fl P : Int → Nat → Bool) (i j : Int) : Prop := ∀ x : Int, 0 ≤ x → x < 20 → ∀ k : Nat, k < 32 → P x k = (Pt x k || (dP i j x k && ovB Fl x k))
theorem RP_0 {Pt Fl : Int → Nat → Bool} : RP Pt Fl Pt 0 0 := fun x h1 h2 k hk => by
  have : dP 0 0 x k = false := by unfold dP; rw [decide_eq_false_iff_not]; omega
  rw [this]
  simp
theorem RP_next {Pt Fl P : Int → Nat → Bool} {i : Int} (h : RP Pt Fl P i i) : RP Pt Fl P (i + 1) 0 := fun x h1 h2 k hk => by
  rw [h x h1 h2 k hk]
  have : dP i i x k = dP (i + 1) 0 x k := by
    unfold dP
    rw [Bool.eq_iff_iff, decide_eq_true_eq, decide_eq_true_eq]
    omega
  rw [this]
theorem RP_no {Pt Fl P : Int → Nat → Bool} {i j : Int} (h : RP Pt Fl P i j) (hj : j < i) (ho : ovB Fl i j = false) : RP Pt Fl P i (j + 1) := fun x h1 h2 k hk => by
  rw [h x h1 h2 k hk]
  by_cases e : (x = i ∧ (k : Int) = j) ∨ (x = j ∧ (k : Int) = i)
  · rcases e with ⟨e1, e2⟩ | ⟨e1, e2⟩
    · rw [e1, e2, ho]; simp
    · rw [e1, e2, ovB_sym, ho]; simp
  · have : dP i j x k = dP i (j + 1) x k := by
      unfold dP
      rw [Bool.eq_iff_iff, decide_eq_true_eq, decide_eq_true_eq]
      omega
    rw [this]
theorem RP_yes {Pt Fl P : Int → Nat → Bool} {i j : Int} (h : RP Pt Fl P i j) (h0 : 0 ≤ j) (hj : j < i) (hi : i < 20) (ho : ovB Fl i j = true) : RP Pt Fl (updB (updB P i (fun c => P i c || decide (c = j.toNat))) j (fun c => (updB P i (fun c => P i c || decide (c = j.toNat))) j c || decide (c = i.toNat))) i (j + 1) := fun x h1 h2 k hk => by
  have hPx := h x h1 h2 k hk
  by_cases ex : x = j
  · subst ex
    rw [updB_s, updB_n (by omega), hPx]
    by_cases ek : (k : Int) = i
    · rw [show k = i.toNat by omega]
      have : dP i (x + 1) x (i.toNat : Nat) = true := by unfold dP; rw [decide_eq_true_eq]; omega
      rw [this, show ((i.toNat : Nat) : Int) = i by omega, ovB_sym, ho]
      simp
    · have : dP i x x k = dP i (x + 1) x k := by
        unfold dP
        rw [Bool.eq_iff_iff, decide_eq_true_eq, decide_eq_true_eq]
        omega
      rw [this]
      simp [show ¬ k = i.toNat by omega]
  · rw [updB_n ex]
    by_cases ei : x = i
    · subst ei
      rw [updB_s, hPx]
      by_cases ek : (k : Int) = j
      · rw [show k = j.toNat by omega]
        have : dP x (j + 1) x (j.toNat : Nat) = true := by unfold dP; rw [decide_eq_true_eq]; omega
        rw [this, show ((j.toNat : Nat) : Int) = j by omega, ho]
        simp
      · have : dP x j x k = dP x (j + 1) x k := by
          unfold dP
          rw [Bool.eq_iff_iff, decide_eq_true_eq, decide_eq_true_eq]
          omega
        rw [this]
        simp [show ¬ k = j.toNat by omega]
    · rw [updB_n ei, hPx]
      have : dP i j x k = dP i (j + 1) x k := by
        unfold dP
        rw [Bool.eq_iff_iff, decide_eq_true_eq, decide_eq_true_eq]
        omega
      rw [this]
theorem orbit {f : Nat → Bool} {t k : Nat} : (f k || (decide (t ≤ k) && decide (k - t = 0))) = (f k || decide (k = t)) := by
  refine congrArg (fun z => f k || z) ?_
  rw [Bool.eq_iff_iff]
  simp only [Bool.and_eq_true, decide_eq_true_eq]
  omega
def filB (S : SS) (q fr : Int) (x : Int) (c : Nat) : Bool := (decide (x < S 0 1) && shownB S q fr x) && decide (pixAt S x q c ≠ 0)
def partB (S : SS) (fr : Int) (q : Nat) (x : Int) (k : Nat) : Bool := decide (x ≠ k ∧ x < S 0 1 ∧ (k : Int) < S 0 1) && anyN (fun l_ => lineMeet S fr x k l_) q
theorem ov_line {S : SS} {q fr x k : Int} {Fl : Int → Nat → Bool} (h1 : ∀ c : Nat, c < 32 → Fl x c = filB S q fr x c) (h2 : ∀ c : Nat, c < 32 → Fl k c = filB S q fr k c) : ovB Fl x k = (decide (x < S 0 1 ∧ k < S 0 1) && lineMeet S fr x k q) := by
  unfold ovB lineMeet
  rw [Bool.eq_iff_iff, anyN_iff]
  simp only [Bool.and_eq_true, decide_eq_true_eq]
  rw [anyN_iff]
  constructor
  · rintro ⟨c, q1, q2, q3, q4⟩
    rw [h1 _ (by omega)] at q3
    rw [h2 _ (by omega)] at q4
    unfold filB at q3 q4
    simp only [Bool.and_eq_true, decide_eq_true_eq] at q3 q4
    rw [show ((c.toNat : Nat) : Int) = c by omega] at q3 q4
    exact ⟨⟨q3.1.1, q4.1.1⟩, ⟨q3.1.2, q4.1.2⟩, c, q1, q2, by simp only [Bool.and_eq_true, decide_eq_true_eq]; exact ⟨q3.2, q4.2⟩⟩
  · rintro ⟨⟨a1, a2⟩, ⟨a3, a4⟩, c, q1, q2, q3⟩
    simp only [Bool.and_eq_true, decide_eq_true_eq] at q3
    refine ⟨c, q1, q2, ?_, ?_⟩
    · rw [h1 _ (by omega)]
      unfold filB
      simp only [Bool.and_eq_true, decide_eq_true_eq]
      rw [show ((c.toNat : Nat) : Int) = c by omega]
      exact ⟨⟨a1, a3⟩, q3.1⟩
    · rw [h2 _ (by omega)]
      unfold filB
      simp only [Bool.and_eq_true, decide_eq_true_eq]
      rw [show ((c.toNat : Nat) : Int) = c by omega]
      exact ⟨⟨a2, a4⟩, q3.2⟩
theorem part_step {S : SS} {q : Nat} {fr : Int} {P P2 Fl : Int → Nat → Bool} (hn : S 0 1 ≤ 20) (hP : ∀ x : Int, 0 ≤ x → x < 20 → ∀ k : Nat, k < 32 → P x k = partB S fr q x k) (hF : ∀ x : Int, 0 ≤ x → x < 20 → ∀ c : Nat, c < 32 → Fl x c = filB S q fr x c) (hR : RP P Fl P2 20 0) : ∀ x : Int, 0 ≤ x → x < 20 → ∀ k : Nat, k < 32 → P2 x k = partB S fr (q + 1) x k := by
  intro x h1 h2 k hk
  rw [hR x h1 h2 k hk, hP x h1 h2 k hk]
  unfold partB
  rw [anyN]
  by_cases h20 : (k : Int) < 20
  · rw [ov_line (hF x h1 h2) (hF k (by omega) h20)]
    by_cases e : x ≠ k ∧ x < S 0 1 ∧ (k : Int) < S 0 1
    · have e1 : dP 20 0 x k = true := by unfold dP; rw [decide_eq_true_eq]; omega
      simp [e1, e]
    · by_cases e2 : x < S 0 1 ∧ (k : Int) < S 0 1
      · have e1 : dP 20 0 x k = false := by unfold dP; rw [decide_eq_false_iff_not]; omega
        simp [e1, e]
      · simp [e, e2]
  · have e1 : dP 20 0 x k = false := by unfold dP; rw [decide_eq_false_iff_not]; omega
    have e : ¬ (x ≠ k ∧ x < S 0 1 ∧ (k : Int) < S 0 1) := by omega
    simp [e1, e]
theorem cnt_cut {g : Int → Bool} {n : Int} {m : Nat} (hn : 0 ≤ n ∧ n ≤ m) : cnt (fun k => decide (k < n) && g k) m = cntI g n := by
  obtain ⟨a, rfl⟩ := Int.eq_ofNat_of_zero_le hn.1
  rw [show m = a + (m - a) by omega, cnt_add]
  have h1 : cnt (fun k => decide (k < (a : Int)) && g k) a = cnt g a := cnt_congr (fun k h1 h2 => by simp [h2])
  have h2 : ∀ d : Nat, cnt (fun k => decide ((a : Int) + k < (a : Int)) && g ((a : Int) + k)) d = 0 := by
    intro d
    induction d with
    | zero => rfl
    | succ d ih => rw [cnt, ih, b2_f (by simp; omega)]; rfl
  rw [h1, h2, Int.add_zero]
  rfl
theorem sumN_congr {f g : Int → Int} {n : Nat} (h : ∀ k : Int, 0 ≤ k → k < n → f k = g k) : sumN f n = sumN g n := by
  induction n with
  | zero => rfl
  | succ n ih => rw [sumN, sumN, ih (fun k h1 h2 => h k h1 (by omega)), h n (by omega) (by omega)]
theorem sumN_add (f g : Int → Int) (n : Nat) : sumN (fun k => f k + g k) n = sumN f n + sumN g n := by
  induction n with
  | zero => rfl
  | succ n ih => rw [sumN, sumN, sumN, ih]; omega
theorem sumN_0 {f : Int → Int} {n : Nat} (h : ∀ k : Int, 0 ≤ k → k < n → f k = 0) : sumN f n = 0 := by
  induction n with
  | zero => rfl
  | succ n ih => rw [sumN, ih (fun k h1 h2 => h k h1 (by omega)), h n (by omega) (by omega)]; rfl
theorem sumN_swap (g : Int → Int → Int) (n m : Nat) : sumN (fun x => sumN (fun k => g x k) m) n = sumN (fun k => sumN (fun x => g x k) n) m := by
  induction n with
  | zero => exact (sumN_0 (fun k _ _ => rfl)).symm
  | succ n ih => 
    rw [sumN, ih, ← sumN_add]
    exact sumN_congr (fun k _ _ => rfl)
theorem cnt_sum (f : Int → Bool) (n : Nat) : cnt f n = sumN (fun k => b2 (f k)) n := by
  induction n with
  | zero => rfl
  | succ n ih => rw [cnt, sumN, ih]
theorem meet_sym {S : SS} {fr x y : Int} : meetB S fr x y = meetB S fr y x := by
  unfold meetB
  refine congrArg (fun f => anyN f 32) (funext fun q => ?_)
  unfold lineMeet
  rw [Bool.and_comm (shownB S q fr x)]
  refine congrArg (fun z => (shownB S q fr y && shownB S q fr x) && z) ?_
  exact congrArg (fun f => anyN f 32) (funext fun c => Bool.and_comm _ _)
/-- pairs of sprites that meet -/
def pairsF (S : SS) (fr : Int) : Int := sumN (fun x => cntI (fun y => decide (x < y) && meetB S fr x y) (S 0 1)) (S 0 1).toNat
def metF (S : SS) (fr x : Int) : Int := cntI (fun y => decide (y ≠ x) && meetB S fr x y) (S 0 1)
theorem pairs_2 (S : SS) (fr : Int) : sumN (fun x => metF S fr x) (S 0 1).toNat = 2 * pairsF S fr := by
  have h1 : ∀ x : Int, metF S fr x = cntI (fun y => decide (x < y) && meetB S fr x y) (S 0 1) + sumN (fun y => b2 (decide (y < x) && meetB S fr x y)) (S 0 1).toNat := by
    intro x
    unfold metF cntI
    rw [cnt_sum, cnt_sum, ← sumN_add]
    refine sumN_congr (fun y _ _ => ?_)
    rcases Int.lt_trichotomy x y with h | h | h
    · simp [h, show y ≠ x by omega, show ¬ y < x by omega, b2]
    · simp [h, b2]
    · simp [h, show y ≠ x by omega, show ¬ x < y by omega, b2]
  rw [sumN_congr (fun x _ _ => h1 x), sumN_add, sumN_swap]
  have h2 : sumN (fun k => sumN (fun x => b2 (decide (k < x) && meetB S fr x k)) (S 0 1).toNat) (S 0 1).toNat = pairsF S fr := by
    unfold pairsF
    refine sumN_congr (fun k _ _ => ?_)
    unfold cntI
    rw [cnt_sum]
    exact sumN_congr (fun y _ _ => by rw [meet_sym])
  rw [h2]
  unfold pairsF
  omega
theorem sumN_cut {f : Int → Int} {n : Int} {m : Nat} (hn : 0 ≤ n ∧ n ≤ m) (h : ∀ k : Int, n ≤ k → k < m → f k = 0) : sumN f m = sumN f n.toNat := by
  obtain ⟨a, rfl⟩ := Int.eq_ofNat_of_zero_le hn.1
  rw [Int.toNat_natCast]
  have key : ∀ d : Nat, a + d ≤ m → sumN f (a + d) = sumN f a := by
    intro d
    induction d with
    | zero => intro _; rfl
    | succ d ih =>
      intro hd
      rw [← Nat.add_assoc, sumN, ih (by omega), h _ (by omega) (by omega), Int.add_zero]
  have := key (m - a) (by omega)
  rwa [show a + (m - a) = m by omega] at this
