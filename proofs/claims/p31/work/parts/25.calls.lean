/-! The calls as functions of what an object holds: the State's numbers; the history; the text; the snapshots. -/
abbrev AS : Type := SS × (Int × (Nat → SS)) × (Int × (Int → Int)) × ((Nat → Bool) × (Nat → SS))
def remL (n : Int) (L : Nat → SS) (S : SS) : Nat → SS := fun i => if n < 5 then (if (i : Int) = n then S else L i) else (if i = 4 then S else L (i + 1))
def act (A : AS) (S2 : SS) : AS := (S2, (remN A.2.1.1, remL A.2.1.1 A.2.1.2 A.1), A.2.2)
def addPartF (A : AS) : Int × AS := if 24 ≤ A.1 0 0 then (-3, A) else (A.1 0 0, act A (addBl A.1))
def setPixelF (A : AS) (q r t v : Int) : Int × AS := if ¬ (0 ≤ q ∧ q < A.1 0 0) then (-1, A) else if ¬ ((0 ≤ r ∧ r < 8) ∧ (0 ≤ t ∧ t < 8) ∧ (0 ≤ v ∧ v < 4)) then (-2, A) else (pixW A.1 q 0 r t, act A (up2 A.1 5 (updZ (A.1 5) (64 * q + (8 * r + t)) v)))
def typeF (A : AS) (z : Int) : Int × AS := if 60 ≤ A.2.2.1.1 then (-3, A) else (A.2.2.1.1 + 1, (A.1, A.2.1, (A.2.2.1.1 + 1, updZ A.2.2.1.2 A.2.2.1.1 z), A.2.2.2))
def clearF (A : AS) : Int × AS := (A.2.2.1.1, (A.1, A.2.1, (0, A.2.2.1.2), A.2.2.2))
def tlT (t : Int) : Int → Int := fun k => if k = 0 then t else 0
def drawF (A : AS) (q : Int) : Int × AS := if ¬ (0 ≤ q ∧ q < A.1 0 0) then (-1, A) else if faultF (tlT A.2.2.1.1) A.2.2.1.2 ≠ -5 then (-100 - faultF (tlT A.2.2.1.1) A.2.2.1.2, A) else ((rdS (tlT A.2.2.1.1) A.2.2.1.2 A.2.2.1.1.toNat).1 1 + 1, act A (up2 A.1 5 (putRw (A.1 5) q (8 * ((rdS (tlT A.2.2.1.1) A.2.2.1.2 A.2.2.1.1.toNat).1 1 + 1)) (rdS (tlT A.2.2.1.1) A.2.2.1.2 A.2.2.1.1.toNat).2.1 (rdS (tlT A.2.2.1.1) A.2.2.1.2 A.2.2.1.1.toNat).2.2)))
def packF (A : AS) (rm : Int) : Int × AS := if A.1 0 0 - cntI (stayF A.1 rm) (A.1 0 0) = 0 then (-5, A) else (A.1 0 0 - cntI (stayF A.1 rm) (A.1 0 0), act A (packS A.1 (stayF A.1 rm)))
def setColorF (A : AS) (q z v : Int) : Int × AS := if ¬ (0 ≤ q ∧ q < 4) then (-1, A) else if ¬ ((1 ≤ z ∧ z < 4) ∧ (0 ≤ v ∧ v < 64)) then (-2, A) else (A.1 2 (4 * q + z), act A (up2 A.1 2 (updZ (A.1 2) (4 * q + z) v)))
def plOK (x y : Int) : Prop := (-7 ≤ x ∧ x ≤ 31) ∧ (-7 ≤ y ∧ y ≤ 31)
def addSp (S : SS) (q x y : Int) : SS := up2 (up2 S 0 (updZ (S 0) 1 (S 0 1 + 1))) 1 (updZ (updZ (updZ (updZ (updZ (updZ (S 1) (6 * S 0 1 + 0) q) (6 * S 0 1 + 1) 0) (6 * S 0 1 + 2) 0) (6 * S 0 1 + 3) 1) (6 * S 0 1 + 4) x) (6 * S 0 1 + 5) y)
def addSpriteF (A : AS) (q x y : Int) : Int × AS := if ¬ (0 ≤ q ∧ q < A.1 0 0) then (-1, A) else if ¬ ((-7 ≤ x ∧ x ≤ 31) ∧ (-7 ≤ y ∧ y ≤ 31)) then (-2, A) else if 20 ≤ A.1 0 1 then (-3, A) else (A.1 0 1, act A (addSp A.1 q x y))
def mvS (S : SS) (z x y : Int) : SS := up2 S 1 (updZ (updZ (S 1) (6 * z + 4) x) (6 * z + 5) y)
def moveF (A : AS) (z x y : Int) : Int × AS := if ¬ (0 ≤ z ∧ z < A.1 0 1) then (-1, A) else if ¬ ((-7 ≤ x ∧ x ≤ 31) ∧ (-7 ≤ y ∧ y ≤ 31)) then (-2, A) else (cntI (isOver (mvS A.1 z x y) z) 32, act A (mvS A.1 z x y))
def valsF (S : SS) (t : Int) : Int := if t = 0 then S 0 0 else if t = 1 then 4 else if t = 2 then 4 else if t = 3 then 2 else 0
def setF (A : AS) (z t v : Int) : Int × AS := if ¬ (0 ≤ z ∧ z < A.1 0 1) then (-1, A) else if ¬ (0 ≤ v ∧ v < valsF A.1 t) then (-2, A) else (A.1 1 (6 * z + t), act A (up2 A.1 1 (updZ (A.1 1) (6 * z + t) v)))
def swN (S : SS) (f u v : Int) : Nat → SS
  | 0 => S
  | n + 1 => putSw (swN S f u v n) (f + n) u v
def swapF (A : AS) (f t u v : Int) : Int × AS := if ¬ ((0 ≤ f ∧ f < 32) ∧ (0 ≤ t ∧ t < 32) ∧ (0 ≤ u ∧ u < 4) ∧ (0 ≤ v ∧ v < 4)) then (-1, A) else if t < f then (-2, A) else (cntI (hasSw (swN A.1 f u v (t + 1 - f).toNat)) 32, act A (swN A.1 f u v (t + 1 - f).toNat))
def setLimitF (A : AS) (v : Int) : Int × AS := if ¬ (1 ≤ v ∧ v ≤ 20) then (-2, A) else (A.1 0 2, act A (up2 A.1 0 (updZ (A.1 0) 2 v)))
def setStrideF (A : AS) (v : Int) : Int × AS := if ¬ (0 ≤ v ∧ v < 20) then (-2, A) else (A.1 0 3, act A (up2 A.1 0 (updZ (A.1 0) 3 v)))
def nextF (A : AS) (v : Int) : Int × AS := if ¬ (1 ≤ v ∧ v ≤ 100000) then (-2, A) else if 1000000 < A.1 0 4 + v then (-4, A) else (A.1 0 4 + v, act A (up2 A.1 0 (updZ (A.1 0) 4 (A.1 0 4 + v))))
def undoF (A : AS) : Int × AS := if A.2.1.1 = 0 then (-5, A) else (A.2.1.1 - 1, (A.2.1.2 (A.2.1.1 - 1).toNat, (A.2.1.1 - 1, A.2.1.2), A.2.2))
def updK (k : Nat → Bool) (s : Nat) : Nat → Bool := fun i => if i = s then true else k i
def keepF (A : AS) (z : Int) : Int × AS := if ¬ (0 ≤ z ∧ z < 2) then (-1, A) else (A.1 0 4, (A.1, A.2.1, A.2.2.1, (updK A.2.2.2.1 z.toNat, updT A.2.2.2.2 z.toNat A.1)))
def restoreF (A : AS) (z : Int) : Int × AS := if ¬ (0 ≤ z ∧ z < 2) then (-1, A) else if A.2.2.2.1 z.toNat = false then (-5, A) else (A.2.2.2.2 z.toNat 0 4, act A (A.2.2.2.2 z.toNat))
def pixelF (S : SS) (q r t : Int) : Int := if ¬ (0 ≤ q ∧ q < S 0 0) then -1 else if ¬ ((0 ≤ r ∧ r < 8) ∧ (0 ≤ t ∧ t < 8)) then -2 else pixW S q 0 r t
def shareG (S : SS) (q : Int) : UInt32 := if ¬ (0 ≤ q ∧ q < S 0 0) then 0 else shareF S q
def alikeF (S : SS) (q t : Int) : Int := if ¬ ((0 ≤ q ∧ q < S 0 0) ∧ (0 ≤ t ∧ t < S 0 0)) then -1 else wayF S q 0 t
def colorF (S : SS) (q r : Int) : Int := if ¬ ((0 ≤ q ∧ q < 32) ∧ (0 ≤ r ∧ r < 32)) then -1 else colF S q (S 0 4) r
def spriteF (S : SS) (z t : Int) : Int := if ¬ (0 ≤ z ∧ z < S 0 1) then -1 else if 0 ≤ t ∧ t < 6 then S 1 (6 * z + t) else if t = 6 then cntI (fun q => shownB S q (S 0 4) z) 32 else if t = 7 then cntI (isOver S z) 32 else if t = 8 then metF S (S 0 4) z else -2
def lineF (S : SS) (q t : Int) : Int := if ¬ (0 ≤ q ∧ q < 32) then -1 else if t = 0 then cntI (isW S q) (S 0 1) else if t = 1 then nSh S q (S 0 4) else if t = 2 then cntI (fun r => decide (colF S q (S 0 4) r ≠ 0)) 32 else if t = 3 then (if hasSw S q then S 3 q else -5) else if t = 4 then (if hasSw S q then S 4 q else -5) else -2
def weightG (S : SS) (q : Int) : UInt32 := if ¬ (0 ≤ q ∧ q < 32) then 0 else wgtF S q (S 0 4)
def shownF (S : SS) (q t : Int) : Int := if ¬ (0 ≤ q ∧ q < 32) then -1 else if t < 0 then -2 else shAt S q (S 0 4) t
def meetF (S : SS) (z t : Int) : Int := if ¬ ((0 ≤ z ∧ z < S 0 1) ∧ (0 ≤ t ∧ t < S 0 1)) then -1 else if z = t then -2 else b2 (meetB S (S 0 4) z t)
def shownInF (S : SS) (q z : Int) : Int := if ¬ ((0 ≤ q ∧ q < 32) ∧ (0 ≤ z ∧ z < S 0 1)) then -1 else ff (fun i => shownB S q (S 0 4 + i) z) 0 21
def countF (A : AS) (t : Int) : Int :=
  if t = 0 then A.1 0 0 else if t = 1 then A.1 0 1 else if t = 2 then cntI (isOn A.1) (A.1 0 1)
  else if t = 3 then cntI (fun q => decide (A.1 0 2 < cntI (isW A.1 q) (A.1 0 1))) 32
  else if t = 4 then maxI (fun q => cntI (isW A.1 q) (A.1 0 1)) 32 else if t = 5 then cntI (hasSw A.1) 32
  else if t = 6 then pairsF A.1 (A.1 0 4) else if t = 7 then cntI (fun q => !isUsed A.1 q) (A.1 0 0)
  else if t = 8 then A.1 0 4 else if t = 9 then A.1 0 2 else if t = 10 then A.1 0 3
  else if t = 11 then sumN (fun q => (FP.f2i (wgtF A.1 q (A.1 0 4))).toInt) 32 else if t = 12 then A.2.1.1 else if t = 13 then A.2.2.1.1 else -2
def AWF (A : AS) : Prop := WF A.1 ∧ ((0 ≤ A.2.1.1 ∧ A.2.1.1 ≤ 5) ∧ ∀ i : Nat, (i : Int) < A.2.1.1 → WF (A.2.1.2 i)) ∧ ((0 ≤ A.2.2.1.1 ∧ A.2.2.1.1 ≤ 60) ∧ ∀ j, 0 ≤ j → j < 60 → 0 ≤ A.2.2.1.2 j ∧ A.2.2.1.2 j < 65536) ∧ ∀ s : Nat, s < 2 → A.2.2.2.1 s = true → WF (A.2.2.2.2 s)
/-- the ring holds the history -/
def RingR (o n : Int) (R L : Nat → SS) : Prop := (0 ≤ o ∧ o < 5) ∧ ∀ i : Nat, (i : Int) < n → R ((o + i) % 5).toNat = L i
theorem ring_rem {o n : Int} {R L : Nat → SS} {S : SS} (h : RingR o n R L) (hn : 0 ≤ n ∧ n ≤ 5) : RingR (remO o n) (remN n) (updT R ((o + n) % 5).toNat S) (remL n L S) := by
  obtain ⟨ho, h⟩ := h
  unfold remO remN
  by_cases c : n < 5
  · rw [if_pos c, if_pos c]
    refine ⟨ho, fun i hi => ?_⟩
    unfold remL
    rw [if_pos c]
    by_cases e : (i : Int) = n
    · rw [if_pos e, e, updT_s]
    · rw [if_neg e, updT_n (by omega)]
      exact h i (by omega)
  · rw [if_neg c, if_neg c]
    refine ⟨by omega, fun i hi => ?_⟩
    unfold remL
    rw [if_neg c]
    by_cases e : i = 4
    · rw [if_pos e, show (((o + 1) % 5 + (i : Int)) % 5).toNat = ((o + n) % 5).toNat by omega, updT_s]
    · rw [if_neg e, updT_n (by omega), show (((o + 1) % 5 + (i : Int)) % 5).toNat = ((o + ((i + 1 : Nat) : Int)) % 5).toNat by omega]
      exact h (i + 1) (by omega)
/-- the snapshots stand apart -/
def SnD (a w : Nat → Nat) (k : Nat → Bool) : Prop := (∀ i s j, i < 62 → s < 2 → j < 8 → k s = true → a i ≠ w (8 * s + j)) ∧ ∀ s j s2 j2, s < 2 → j < 8 → s2 < 2 → j2 < 8 → k s = true → k s2 = true → w (8 * s + j) = w (8 * s2 + j2) → s = s2 ∧ j = j2
def XI (G : va_G) (cs : Nat → ClassId) (a w : Nat → Nat) (A : AS) (H : Heap) : Prop := ∃ (F : Int → Int) (Fl Pt : Int → Nat → Bool) (U Q N T : Int → Int) (lo hi_ : Nat → Bool) (o : Int) (R : Nat → SS), (TF T ∧ T 0 = A.2.2.1.1) ∧ RingR o A.2.1.1 R A.2.1.2 ∧ va_P G vwCl (xoW a) H ∧ va_P G vwCl (stW cs (sh a 1) A.1) H ∧ va_P G vwCl (viW cs (sh a 9) ((sh a 1) 0) (aI F) (cB Fl) (cB Pt)) H ∧ va_P G vwCl (pkW cs (sh a 13) ((sh a 1) 0) (aI U) (aI Q) (aI N)) H ∧ va_P G vwCl (txW cs (sh a 17) T lo hi_ A.2.2.1.2) H ∧ va_P G vwCl (hiW cs (sh a 19) o A.2.1.1) H ∧ (∀ i, i < 5 → va_P G vwCl (stW cs (sh a (21 + 8 * i)) (R i)) H) ∧ va_P G vwCl (snW cs (sh a 61) w A.2.2.2.1) H ∧ (∀ i, i < 2 → A.2.2.2.1 i = true → va_P G vwCl (stW cs (sh w (8 * i)) (A.2.2.2.2 i)) H)
theorem XI.xo {G : va_G} {cs : Nat → ClassId} {a w : Nat → Nat} {A : AS} {H : Heap} (h : XI G cs a w A H) : va_P G vwCl (xoW a) H := by
  obtain ⟨_, _, _, _, _, _, _, _, _, _, _, _, _, h, _⟩ := h
  exact h
