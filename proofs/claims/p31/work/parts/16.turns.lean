/-! The order of turns, what a line shows, colors, meetings. -/
theorem rot_add {f u n : Int} (hf : 0 ≤ f ∧ f < n) (hu : 0 ≤ u ∧ u < n) : (f + u) % n = if f + u < n then f + u else f + u - n := by
  split
  · exact Int.emod_eq_of_lt (by omega) (by omega)
  · rw [← Int.sub_emod_right, Int.emod_eq_of_lt (by omega) (by omega)]
theorem rot_sub {f x n : Int} (hf : 0 ≤ f ∧ f < n) (hx : 0 ≤ x ∧ x < n) : (x - f) % n = if f ≤ x then x - f else x - f + n := by
  split
  · exact Int.emod_eq_of_lt (by omega) (by omega)
  · rw [← Int.add_emod_right, Int.emod_eq_of_lt (by omega) (by omega)]
def firstT (S : SS) (fr : Int) : Int := fr * S 0 3 % S 0 1
def atT (S : SS) (fr u : Int) : Int := (firstT S fr + u) % S 0 1
def gT (S : SS) (q fr u : Int) : Bool := isW S q (atT S fr u)
def turnOf (S : SS) (q x fr : Int) : Int := if isW S q x = true ∧ cntI (gT S q fr) ((x - firstT S fr) % S 0 1) < S 0 2 then cntI (gT S q fr) ((x - firstT S fr) % S 0 1) else -5
def shownB (S : SS) (q fr x : Int) : Bool := decide (0 ≤ turnOf S q x fr)
def nSh (S : SS) (q fr : Int) : Int := if cntI (gT S q fr) (S 0 1) < S 0 2 then cntI (gT S q fr) (S 0 1) else S 0 2
def shAt (S : SS) (q fr k : Int) : Int := ff (fun x => decide (turnOf S q x fr = k)) 0 (S 0 1).toNat
def InT (S : SS) (q fr : Int) (F : Int → Int) : Prop := ∀ u, 0 ≤ u → u < S 0 1 → gT S q fr u = true → cntI (gT S q fr) u < S 0 2 → F (cntI (gT S q fr) u) = atT S fr u
theorem cnt_mono (f : Int → Bool) {a b : Nat} (h : a ≤ b) : cnt f a ≤ cnt f b := by
  induction b with
  | zero => rw [show a = 0 by omega]; exact Int.le_refl _
  | succ b ih =>
    by_cases e : a = b + 1
    · rw [e]; exact Int.le_refl _
    · have := ih (by omega)
      have := b2_r (f b)
      rw [cnt]
      omega
theorem cntI_mono (f : Int → Bool) {a b : Int} (h : a ≤ b) : cntI f a ≤ cntI f b := cnt_mono f (by omega)
theorem cntI_lt {f : Int → Bool} {u v : Int} (hu : 0 ≤ u) (h : u < v) (hf : f u = true) : cntI f u < cntI f v := by
  have h1 := cntI_t hu hf
  have h2 := cntI_mono f (show u + 1 ≤ v by omega)
  omega
theorem cntI_inj {f : Int → Bool} {u v : Int} (hu : 0 ≤ u) (hv : 0 ≤ v) (fu : f u = true) (fv : f v = true) (h : cntI f u = cntI f v) : u = v := by
  rcases Int.lt_trichotomy u v with q | q | q
  · have := cntI_lt hu q fu; omega
  · exact q
  · have := cntI_lt hv q fv; omega
theorem cnt_ivt {f : Int → Bool} {n : Nat} {k : Int} (h0 : 0 ≤ k) (h : k < cnt f n) : ∃ u : Int, 0 ≤ u ∧ u < n ∧ f u = true ∧ cntI f u = k := by
  induction n with
  | zero => rw [cnt] at h; omega
  | succ n ih =>
    by_cases e : k < cnt f n
    · obtain ⟨u, h1, h2, h3, h4⟩ := ih e
      exact ⟨u, h1, by omega, h3, h4⟩
    · rw [cnt] at h
      have hf : f n = true := by
        cases q : f n with
        | true => rfl
        | false => rw [b2_f q] at h; omega
      have := b2_r (f n)
      exact ⟨n, by omega, by omega, hf, by show cnt f (n : Int).toNat = k; rw [Int.toNat_natCast]; omega⟩
theorem cntI_ivt {f : Int → Bool} {n k : Int} (hn : 0 ≤ n) (h0 : 0 ≤ k) (h : k < cntI f n) : ∃ u : Int, 0 ≤ u ∧ u < n ∧ f u = true ∧ cntI f u = k := by
  obtain ⟨u, h1, h2, h3, h4⟩ := cnt_ivt h0 h
  exact ⟨u, h1, by omega, h3, h4⟩
theorem cnt_add (f : Int → Bool) (a b : Nat) : cnt f (a + b) = cnt f a + cnt (fun k => f (a + k)) b := by
  induction b with
  | zero => simp [cnt]
  | succ b ih =>
    rw [← Nat.add_assoc, cnt, ih, cnt]
    have : ((a + b : Nat) : Int) = (a : Int) + (b : Int) := by omega
    rw [this]
    omega
section TU
variable {S : SS} {q fr : Int}
theorem firstT_r (hn : 0 < S 0 1) : 0 ≤ firstT S fr ∧ firstT S fr < S 0 1 := ⟨Int.emod_nonneg _ (by omega), Int.emod_lt_of_pos _ hn⟩
theorem atT_r (u : Int) (hn : 0 < S 0 1) : 0 ≤ atT S fr u ∧ atT S fr u < S 0 1 := ⟨Int.emod_nonneg _ (by omega), Int.emod_lt_of_pos _ hn⟩
theorem atT_back {u : Int} (hu : 0 ≤ u ∧ u < S 0 1) : (atT S fr u - firstT S fr) % S 0 1 = u := by
  have hf := firstT_r (S := S) (fr := fr) (by omega)
  have ha := atT_r (S := S) (fr := fr) u (by omega)
  rw [rot_sub hf ha]
  unfold atT
  rw [rot_add hf hu]
  split <;> split <;> omega
theorem atT_of {x : Int} (hx : 0 ≤ x ∧ x < S 0 1) : (0 ≤ (x - firstT S fr) % S 0 1 ∧ (x - firstT S fr) % S 0 1 < S 0 1) ∧ atT S fr ((x - firstT S fr) % S 0 1) = x := by
  have hf := firstT_r (S := S) (fr := fr) (by omega)
  have hr : 0 ≤ (x - firstT S fr) % S 0 1 ∧ (x - firstT S fr) % S 0 1 < S 0 1 := ⟨Int.emod_nonneg _ (by omega), Int.emod_lt_of_pos _ (by omega)⟩
  refine ⟨hr, ?_⟩
  unfold atT
  rw [rot_add hf hr, rot_sub hf hx]
  split <;> split <;> omega
theorem turn_at {u : Int} (hu : 0 ≤ u ∧ u < S 0 1) (hg : gT S q fr u = true) (h : cntI (gT S q fr) u < S 0 2) : turnOf S q (atT S fr u) fr = cntI (gT S q fr) u := by
  unfold turnOf
  rw [atT_back hu, if_pos ⟨hg, h⟩]
theorem turn_ge {x : Int} (hx : 0 ≤ x ∧ x < S 0 1) (h : 0 ≤ turnOf S q x fr) : ∃ u, (0 ≤ u ∧ u < S 0 1) ∧ atT S fr u = x ∧ gT S q fr u = true ∧ cntI (gT S q fr) u < S 0 2 ∧ turnOf S q x fr = cntI (gT S q fr) u := by
  obtain ⟨h1, h2⟩ := atT_of (S := S) (fr := fr) hx
  unfold turnOf at h ⊢
  by_cases c : isW S q x = true ∧ cntI (gT S q fr) ((x - firstT S fr) % S 0 1) < S 0 2
  · rw [if_pos c]
    exact ⟨_, h1, h2, by unfold gT; rw [h2]; exact c.1, c.2, rfl⟩
  · rw [if_neg c] at h; omega
theorem turn_r (S : SS) (q x fr : Int) : turnOf S q x fr = -5 ∨ (0 ≤ turnOf S q x fr ∨ S 0 1 ≤ 0) := by
  unfold turnOf
  split
  · by_cases hn : 0 < S 0 1
    · exact Or.inr (Or.inl (cntI_r _ (Int.emod_nonneg _ (by omega))).1)
    · exact Or.inr (Or.inr (by omega))
  · exact Or.inl rfl
theorem turn_lt {x : Int} (hx : 0 ≤ x ∧ x < S 0 1) (h : 0 ≤ turnOf S q x fr) : turnOf S q x fr < nSh S q fr := by
  obtain ⟨u, hu, -, hg, hl, e⟩ := turn_ge hx h
  have h1 := cntI_lt (f := gT S q fr) hu.1 hu.2 hg
  unfold nSh
  split <;> omega
theorem shown_isW {x : Int} (h : shownB S q fr x = true) : isW S q x = true := by
  unfold shownB turnOf at h
  rw [decide_eq_true_eq] at h
  by_cases c : isW S q x = true ∧ cntI (gT S q fr) ((x - firstT S fr) % S 0 1) < S 0 2
  · exact c.1
  · rw [if_neg c] at h; omega
theorem nSh_r (hn : 0 ≤ S 0 1) (hl : 0 ≤ S 0 2) : 0 ≤ nSh S q fr ∧ nSh S q fr ≤ S 0 1 ∧ nSh S q fr ≤ S 0 2 := by
  have := cntI_r (gT S q fr) hn
  unfold nSh
  split <;> omega
/-- the k-th shown sprite -/
theorem inT_k {F : Int → Int} (hT : InT S q fr F) (hn : 0 ≤ S 0 1) {k : Int} (hk : 0 ≤ k ∧ k < nSh S q fr) : ∃ u, (0 ≤ u ∧ u < S 0 1) ∧ gT S q fr u = true ∧ cntI (gT S q fr) u = k ∧ k < S 0 2 ∧ F k = atT S fr u := by
  have hc : k < cntI (gT S q fr) (S 0 1) ∧ k < S 0 2 := by
    have h2 := hk.2
    unfold nSh at h2
    split at h2 <;> omega
  obtain ⟨u, h1, h2, h3, h4⟩ := cntI_ivt hn hk.1 hc.1
  exact ⟨u, ⟨h1, h2⟩, h3, h4, hc.2, by rw [← h4]; exact hT u h1 h2 h3 (by omega)⟩
theorem inT_r {F : Int → Int} (hT : InT S q fr F) (hn : 0 ≤ S 0 1) {k : Int} (hk : 0 ≤ k ∧ k < nSh S q fr) : 0 ≤ F k ∧ F k < S 0 1 := by
  obtain ⟨u, h1, -, -, -, h5⟩ := inT_k hT hn hk
  rw [h5]
  exact atT_r u (by omega)
theorem shAt_in {F : Int → Int} (hT : InT S q fr F) (hn : 0 ≤ S 0 1) {k : Int} (hk : 0 ≤ k ∧ k < nSh S q fr) : F k = shAt S q fr k := by
  obtain ⟨u, hu, hg, hc, hl, hF⟩ := inT_k hT hn hk
  have ha := atT_r (S := S) (fr := fr) u (by omega)
  have ht := turn_at hu hg (by omega)
  rw [hF]
  refine (ff_hit (atT S fr u) (fun i h1 h2 => ?_) ha.1 (by omega) (by rw [decide_eq_true_eq]; omega)).symm
  rw [decide_eq_false_iff_not]
  intro e
  obtain ⟨v, hv, hva, hgv, hlv, hev⟩ := turn_ge (S := S) (q := q) (fr := fr) (x := i) ⟨h1, by omega⟩ (by omega)
  have := cntI_inj hv.1 hu.1 hgv hg (by omega)
  rw [this] at hva
  omega
theorem shAt_out (hn : 0 ≤ S 0 1) {k : Int} (h0 : 0 ≤ k) (hk : nSh S q fr ≤ k) : shAt S q fr k = -5 := by
  refine ff_none (fun i h1 h2 => ?_)
  rw [decide_eq_false_iff_not]
  intro e
  have := turn_lt (S := S) (q := q) (fr := fr) (x := i) ⟨h1, by omega⟩ (by omega)
  omega
/-- the bits of what a line shows -/
theorem set_bits {F : Int → Int} (hT : InT S q fr F) (hn : 0 ≤ S 0 1) (k : Nat) : anyN (fun j => decide (F j = (k : Int))) (nSh S q fr).toNat = (decide ((k : Int) < S 0 1) && shownB S q fr k) := by
  rw [Bool.eq_iff_iff, anyN_iff, Bool.and_eq_true, decide_eq_true_eq]
  constructor
  · rintro ⟨j, h1, h2, h3⟩
    rw [decide_eq_true_eq] at h3
    obtain ⟨u, hu, hg, hc, hl, hF⟩ := inT_k hT hn (k := j) ⟨h1, by omega⟩
    have ha := atT_r (S := S) (fr := fr) u (by omega)
    have ht := turn_at hu hg (by omega)
    rw [← hF, h3] at ha ht
    exact ⟨ha.2, by unfold shownB; rw [decide_eq_true_eq]; omega⟩
  · rintro ⟨h1, h2⟩
    unfold shownB at h2
    rw [decide_eq_true_eq] at h2
    obtain ⟨u, hu, hva, hg, hl, he⟩ := turn_ge (S := S) (q := q) (fr := fr) (x := k) ⟨by omega, h1⟩ h2
    have hlt := turn_lt (S := S) (q := q) (fr := fr) (x := k) ⟨by omega, h1⟩ h2
    have h0 := (cntI_r (gT S q fr) hu.1).1
    exact ⟨cntI (gT S q fr) u, h0, by omega, by rw [decide_eq_true_eq, hT u hu.1 hu.2 hg hl]; exact hva⟩
theorem nSh_wanted (hn : 0 ≤ S 0 1) : cntI (gT S q fr) (S 0 1) = cntI (isW S q) (S 0 1) := by
  by_cases h0 : S 0 1 = 0
  · rw [h0]; rfl
  have hf := firstT_r (S := S) (fr := fr) (by omega)
  unfold cntI
  obtain ⟨a, ha⟩ := Int.eq_ofNat_of_zero_le hf.1
  obtain ⟨n, hnn⟩ := Int.eq_ofNat_of_zero_le hn
  rw [hnn, Int.toNat_natCast]
  rw [show n = (n - a) + a by omega, cnt_add, show (n - a) + a = a + (n - a) by omega, cnt_add, Int.add_comm]
  refine congr (congrArg HAdd.hAdd (cnt_congr (fun k h1 h2 => ?_))) (cnt_congr (fun k h1 h2 => ?_))
  · show isW S q ((firstT S fr + (((n - a : Nat) : Int) + k)) % S 0 1) = _
    rw [rot_add hf (by omega), if_neg (by omega)]
    exact congrArg (isW S q) (by omega)
  · show isW S q ((firstT S fr + k) % S 0 1) = _
    rw [rot_add hf (by omega), if_pos (by omega)]
    exact congrArg (isW S q) (by omega)
end TU
def pixAt (S : SS) (x q r : Int) : Int := if (0 ≤ q - S 1 (6 * x + 5) ∧ q - S 1 (6 * x + 5) < 8) ∧ (0 ≤ r - S 1 (6 * x + 4) ∧ r - S 1 (6 * x + 4) < 8) then pixW S (S 1 (6 * x + 0)) (S 1 (6 * x + 1)) (q - S 1 (6 * x + 5)) (r - S 1 (6 * x + 4)) else 0
def colI (S : SS) (q fr r : Int) : Int := ff (fun x => shownB S q fr x && decide (pixAt S x q r ≠ 0)) 0 (S 0 1).toNat
def colF (S : SS) (q fr r : Int) : Int := if colI S q fr r = -5 then 0 else S 2 (4 * palOn S q (S 1 (6 * colI S q fr r + 2)) + pixAt S (colI S q fr r) q r)
/-- the sum of the shares that a line shows, of the first n sprites -/
def wgtN (S : SS) (q fr : Int) : Nat → UInt32
  | 0 => 0
  | n + 1 => if shownB S q fr n then FP.fadd (wgtN S q fr n) (shareF S (S 1 (6 * (n : Int) + 0))) else wgtN S q fr n
def wgtF (S : SS) (q fr : Int) : UInt32 := wgtN S q fr (S 0 1).toNat
def sumN (f : Int → Int) : Nat → Int
  | 0 => 0
  | n + 1 => sumN f n + f n
def lineMeet (S : SS) (fr x y q : Int) : Bool := (shownB S q fr x && shownB S q fr y) && anyN (fun r => decide (pixAt S x q r ≠ 0) && decide (pixAt S y q r ≠ 0)) 32
def meetB (S : SS) (fr x y : Int) : Bool := anyN (fun q => lineMeet S fr x y q) 32
theorem noPl {r c : Int} : (decide (r < 0 ∨ 8 ≤ r ∨ c < 0 ∨ 8 ≤ c)) = !(decide ((0 ≤ r ∧ r < 8) ∧ (0 ≤ c ∧ c < 8))) := by
  rw [Bool.eq_iff_iff]
  simp only [decide_eq_true_eq, Bool.not_eq_true', decide_eq_false_iff_not]
  omega
theorem pixW_r {S : SS} (hX : ∀ j, 0 ≤ j → j < 1536 → 0 ≤ S 5 j ∧ S 5 j ≤ 3) {p w r c : Int} (hp : 0 ≤ p ∧ p < 24) (hr : 0 ≤ r ∧ r < 8) (hc : 0 ≤ c ∧ c < 8) : 0 ≤ pixW S p w r c ∧ pixW S p w r c ≤ 3 := by
  unfold pixW
  split <;> split <;> exact hX _ (by omega) (by omega)
theorem pixAt_r {S : SS} (wf : WF S) {x q r : Int} (hx : 0 ≤ x ∧ x < S 0 1) : 0 ≤ pixAt S x q r ∧ pixAt S x q r ≤ 3 := by
  obtain ⟨w0, w1, w2, w3, w4, wP, wC, wS, wX⟩ := wf
  have h := wP x hx.1 hx.2
  unfold pixAt
  split
  · exact pixW_r wX (by omega) (by omega) (by omega)
  · omega
