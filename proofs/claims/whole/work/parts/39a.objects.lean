/-! What the calls keep of the whole object; the objects as calls change other cells. -/
section AW
variable {A : AS}
theorem awf_addPart (h : AWF A) : AWF (addPartF A).2 := by
  unfold addPartF
  split
  · exact h
  · exact act_wf h (wf_bl h.1 (by omega))
theorem awf_setPixel (h : AWF A) (q r t v : Int) : AWF (setPixelF A q r t v).2 := by
  unfold setPixelF
  split
  · exact h
  · split
    · exact h
    · exact act_wf h (wf_pix h.1 (by omega))
theorem awf_type (h : AWF A) {z : Int} (hz : 0 ≤ z ∧ z < 65536) : AWF (typeF A z).2 := by
  have h3 := h.2.2.1
  unfold typeF
  split
  · exact h
  · refine ⟨h.1, h.2.1, ⟨?_, fun j h1 h2 => ?_⟩, h.2.2.2⟩
    · show 0 ≤ A.2.2.1.1 + 1 ∧ A.2.2.1.1 + 1 ≤ 60
      omega
    · show 0 ≤ updZ A.2.2.1.2 A.2.2.1.1 z j ∧ updZ A.2.2.1.2 A.2.2.1.1 z j < 65536
      unfold updZ
      split
      · exact hz
      · exact h3.2 j h1 h2
theorem awf_clear (h : AWF A) : AWF (clearF A).2 := ⟨h.1, h.2.1, ⟨by show (0 : Int) ≤ 0 ∧ (0 : Int) ≤ 60; decide, h.2.2.1.2⟩, h.2.2.2⟩
theorem awf_draw (h : AWF A) (q : Int) : AWF (drawF A q).2 := by
  unfold drawF
  split
  · exact h
  · split
    · exact h
    · exact act_wf h (wf_rw h.1)
theorem awf_pack (h : AWF A) (rm : Int) : AWF (packF A rm).2 := by
  unfold packF
  split
  · exact h
  · exact act_wf h (wf_pack h.1)
theorem awf_setColor (h : AWF A) (q z v : Int) : AWF (setColorF A q z v).2 := by
  unfold setColorF
  split
  · exact h
  · split
    · exact h
    · exact act_wf h (wf_col h.1 (by omega))
theorem awf_addSprite (h : AWF A) (q x y : Int) : AWF (addSpriteF A q x y).2 := by
  unfold addSpriteF
  split
  · exact h
  · split
    · exact h
    · split
      · exact h
      · exact act_wf h (wf_sp h.1 (by omega) (by omega) (by omega))
theorem awf_move (h : AWF A) (z x y : Int) : AWF (moveF A z x y).2 := by
  unfold moveF
  split
  · exact h
  · split
    · exact h
    · exact act_wf h (wf_mv h.1 (by omega))
theorem awf_set (h : AWF A) (z t v : Int) : AWF (setF A z t v).2 := by
  unfold setF
  split
  · exact h
  · split
    · exact h
    · exact act_wf h (wf_set h.1 (by omega))
theorem awf_swap (h : AWF A) (f t u v : Int) : AWF (swapF A f t u v).2 := by
  unfold swapF
  split
  · exact h
  · split
    · exact h
    · exact act_wf h (wf_swN h.1 (by omega) (by omega) _)
theorem awf_setLimit (h : AWF A) (v : Int) : AWF (setLimitF A v).2 := by
  unfold setLimitF
  split
  · exact h
  · exact act_wf h (wf_02 h.1 (by omega))
theorem awf_setStride (h : AWF A) (v : Int) : AWF (setStrideF A v).2 := by
  unfold setStrideF
  split
  · exact h
  · exact act_wf h (wf_03 h.1 (by omega))
theorem awf_next (h : AWF A) (v : Int) : AWF (nextF A v).2 := by
  have h4 := h.1.2.2.2.2.1
  unfold nextF
  split
  · exact h
  · split
    · exact h
    · exact act_wf h (wf_04 h.1 (by omega))
theorem awf_undo (h : AWF A) : AWF (undoF A).2 := by
  have h2 := h.2.1.1
  unfold undoF
  split
  · exact h
  · refine ⟨h.2.1.2 _ (by omega), ⟨?_, fun i hi => h.2.1.2 i ?_⟩, h.2.2⟩
    · show 0 ≤ A.2.1.1 - 1 ∧ A.2.1.1 - 1 ≤ 5
      omega
    · have hi : (i : Int) < A.2.1.1 - 1 := hi
      omega
theorem awf_keep (h : AWF A) (z : Int) : AWF (keepF A z).2 := by
  unfold keepF
  split
  · exact h
  · refine ⟨h.1, h.2.1, h.2.2.1, fun s hs hk => ?_⟩
    show WF (updT A.2.2.2.2 z.toNat A.1 s)
    by_cases e : s = z.toNat
    · subst e
      rw [updT_s]
      exact h.1
    · rw [updT_n e]
      have hk : updK A.2.2.2.1 z.toNat s = true := hk
      rw [updK_n e] at hk
      exact h.2.2.2 s hs hk
theorem awf_restore (h : AWF A) (z : Int) : AWF (restoreF A z).2 := by
  unfold restoreF
  split
  · exact h
  · split
    · exact h
    · rename_i h1 h2
      exact act_wf h (h.2.2.2 z.toNat (by omega) (by cases h9 : A.2.2.2.1 z.toNat with | true => rfl | false => exact absurd h9 h2))
theorem kp_addPart : (addPartF A).2.2.2.2 = A.2.2.2 := by unfold addPartF; split <;> rfl
theorem kp_setPixel (q r t v : Int) : (setPixelF A q r t v).2.2.2.2 = A.2.2.2 := by unfold setPixelF; split; rfl; split <;> rfl
theorem kp_type (z : Int) : (typeF A z).2.2.2.2 = A.2.2.2 := by unfold typeF; split <;> rfl
theorem kp_clear : (clearF A).2.2.2.2 = A.2.2.2 := rfl
theorem kp_draw (q : Int) : (drawF A q).2.2.2.2 = A.2.2.2 := by unfold drawF; split; rfl; split <;> rfl
theorem kp_pack (q : Int) : (packF A q).2.2.2.2 = A.2.2.2 := by unfold packF; split <;> rfl
theorem kp_setColor (q z v : Int) : (setColorF A q z v).2.2.2.2 = A.2.2.2 := by unfold setColorF; split; rfl; split <;> rfl
theorem kp_addSprite (q x y : Int) : (addSpriteF A q x y).2.2.2.2 = A.2.2.2 := by unfold addSpriteF; split; rfl; split; rfl; split <;> rfl
theorem kp_move (q x y : Int) : (moveF A q x y).2.2.2.2 = A.2.2.2 := by unfold moveF; split; rfl; split <;> rfl
theorem kp_set (q x y : Int) : (setF A q x y).2.2.2.2 = A.2.2.2 := by unfold setF; split; rfl; split <;> rfl
theorem kp_swap (f t u v : Int) : (swapF A f t u v).2.2.2.2 = A.2.2.2 := by unfold swapF; split; rfl; split <;> rfl
theorem kp_setLimit (v : Int) : (setLimitF A v).2.2.2.2 = A.2.2.2 := by unfold setLimitF; split <;> rfl
theorem kp_setStride (v : Int) : (setStrideF A v).2.2.2.2 = A.2.2.2 := by unfold setStrideF; split <;> rfl
theorem kp_next (v : Int) : (nextF A v).2.2.2.2 = A.2.2.2 := by unfold nextF; split; rfl; split <;> rfl
theorem kp_undo : (undoF A).2.2.2.2 = A.2.2.2 := by unfold undoF; split <;> rfl
theorem kp_restore (z : Int) : (restoreF A z).2.2.2.2 = A.2.2.2 := by unfold restoreF; split; rfl; split <;> rfl
end AW
section OB
variable {G : va_G} {cs : Nat → ClassId} {a w : Nat → Nat} {A : AS} {H H1 : Heap} {A1 : Nat → Prop}
theorem XI.keep (h : XI G cs a w A H) (hk : ∀ q, q < H.size → ¬ A1 q → H1[q]? = H[q]?) (ha : ∀ i, i < 62 → ¬ A1 (a i)) (hw : ∀ s j, s < 2 → j < 8 → A.2.2.2.1 s = true → ¬ A1 (w (8 * s + j))) : XI G cs a w A H1 := by
  obtain ⟨F, Fl, Pt, U, Q, N, T, lo, hi_, o, R, hT, hR, hXo, hPs, hPv, hKp, hTx, hHi, hRg, hSn, hSw⟩ := h
  exact ⟨F, Fl, Pt, U, Q, N, T, lo, hi_, o, R, hT, hR, keepO (ordXo a) hXo hk (fun j hj => ha j (by omega)), keepO (ordSt _ _ _) hPs hk (fun j hj => ha (1 + j) (by omega)), keepO (ordVi _ _ _ _ _ _) hPv hk (fun j hj => ha (9 + j) (by omega)), keepO (ordPk _ _ _ _ _ _) hKp hk (fun j hj => ha (13 + j) (by omega)), keepO (ordTx _ _ _ _ _ _) hTx hk (fun j hj => ha (17 + j) (by omega)), keepO (ordHi _ _ _ _) hHi hk (fun j hj => ha (19 + j) (by omega)), fun i hi => keepO (ordSt _ _ _) (hRg i hi) hk (fun j hj => ha (21 + 8 * i + j) (by omega)), keepO (ordSn _ _ _ _) hSn hk (fun j hj => ha (61 + j) (by omega)), fun i hi hk9 => keepO (ordSt _ _ _) (hSw i hi hk9) hk (fun j hj => hw i j hi hj hk9)⟩
theorem MI.keep (h : MI G cs a A H) (hk : ∀ q, q < H.size → ¬ A1 q → H1[q]? = H[q]?) (ha : ∀ i, i < 10 → ¬ A1 (a i)) : MI G cs a A H1 := by
  obtain ⟨Y, Z, Hh, Sl, Kp, Go, Nt, rn, Rd, rr, hHR, hSR, hMo, hRw, hSc, hHs, hSl, hKp, hGo, hNt, hTx, hRd⟩ := h
  exact ⟨Y, Z, Hh, Sl, Kp, Go, Nt, rn, Rd, rr, hHR, hSR, keepO (ordMo _ _ _ _ _) hMo hk (fun j hj => ha j (by omega)), keepO (ordM7 _ _ _ _ _ _) hRw hk (fun j hj => ha (1 + j) (by omega)), keepO (ordM7 _ _ _ _ _ _) hSc hk (fun j hj => ha (2 + j) (by omega)), keepO (ordM7 _ _ _ _ _ _) hHs hk (fun j hj => ha (3 + j) (by omega)), keepO (ordM7 _ _ _ _ _ _) hSl hk (fun j hj => ha (4 + j) (by omega)), keepO (ordM7 _ _ _ _ _ _) hKp hk (fun j hj => ha (5 + j) (by omega)), keepO (ordM7 _ _ _ _ _ _) hGo hk (fun j hj => ha (6 + j) (by omega)), keepO (ordM7 _ _ _ _ _ _) hNt hk (fun j hj => ha (7 + j) (by omega)), keepO (ordM7 _ _ _ _ _ _) hTx hk (fun j hj => ha (8 + j) (by omega)), keepO (ordM7 _ _ _ _ _ _) hRd hk (fun j hj => ha (9 + j) (by omega))⟩
theorem ord_lt {b : Nat → Nat} {n : Nat} {ws : va_W} (hl : ws.map Prod.fst = (List.range n).map b) (h : va_P G vwCl ws H) : ∀ j, j < n → b j < H.size := by
  intro j hj
  have hlen : ws.length = n := by have := congrArg List.length hl; simpa using this
  have hj2 : j < ws.length := by omega
  have h1 := h j _ (List.getElem?_eq_getElem hj2)
  have h2 := va_at.lt h1
  have h3 : (ws.map Prod.fst)[j]? = ((List.range n).map b)[j]? := by rw [hl]
  rw [List.getElem?_map, List.getElem?_map, List.getElem?_eq_getElem hj2, List.getElem?_range hj] at h3
  have h4 : (ws[j]).1 = b j := Option.some.inj h3
  rw [← h4]
  exact h2
theorem XI.lt (h : XI G cs a w A H) : (∀ i, i < 62 → a i < H.size) ∧ ∀ s j, s < 2 → j < 8 → A.2.2.2.1 s = true → w (8 * s + j) < H.size := by
  obtain ⟨F, Fl, Pt, U, Q, N, T, lo, hi_, o, R, hT, hR, hXo, hPs, hPv, hKp, hTx, hHi, hRg, hSn, hSw⟩ := h
  have l1 := ord_lt (b := a) (n := 1) rfl hXo
  have l2 := ord_lt (b := sh a 1) (n := 8) rfl hPs
  have l3 := ord_lt (b := sh a 9) (n := 4) rfl hPv
  have l4 := ord_lt (b := sh a 13) (n := 4) rfl hKp
  have l5 := ord_lt (b := sh a 17) (n := 2) rfl hTx
  have l6 := ord_lt (b := sh a 19) (n := 2) rfl hHi
  have l7 := fun i hi => ord_lt (b := sh a (21 + 8 * i)) (n := 8) rfl (hRg i hi)
  have l8 := ord_lt (b := sh a 61) (n := 1) rfl hSn
  have l9 := fun i hi hk => ord_lt (b := sh w (8 * i)) (n := 8) rfl (hSw i hi hk)
  refine ⟨fun i hi => ?_, fun s j hs hj hk => l9 s hs hk j hj⟩
  by_cases c0 : i < 1
  · exact l1 i c0
  · by_cases c1 : i < 9
    · have := l2 (i - 1) (by omega)
      unfold sh at this
      rwa [show 1 + (i - 1) = i by omega] at this
    · by_cases c2 : i < 13
      · have := l3 (i - 9) (by omega)
        unfold sh at this
        rwa [show 9 + (i - 9) = i by omega] at this
      · by_cases c3 : i < 17
        · have := l4 (i - 13) (by omega)
          unfold sh at this
          rwa [show 13 + (i - 13) = i by omega] at this
        · by_cases c4 : i < 19
          · have := l5 (i - 17) (by omega)
            unfold sh at this
            rwa [show 17 + (i - 17) = i by omega] at this
          · by_cases c5 : i < 21
            · have := l6 (i - 19) (by omega)
              unfold sh at this
              rwa [show 19 + (i - 19) = i by omega] at this
            · by_cases c6 : i < 61
              · have := l7 ((i - 21) / 8) (by omega) ((i - 21) % 8) (by omega)
                unfold sh at this
                rwa [show 21 + 8 * ((i - 21) / 8) + (i - 21) % 8 = i by omega] at this
              · have := l8 (i - 61) (by omega)
                unfold sh at this
                rwa [show 61 + (i - 61) = i by omega] at this
theorem MI.lt (h : MI G cs a A H) : ∀ i, i < 10 → a i < H.size := by
  obtain ⟨Y, Z, Hh, Sl, Kp, Go, Nt, rn, Rd, rr, hHR, hSR, hMo, hRw, hSc, hHs, hSl, hKp, hGo, hNt, hTx, hRd⟩ := h
  intro i hi
  match i, hi with
  | 0, _ => exact ord_lt (b := a) (n := 1) rfl hMo 0 (by decide)
  | 1, _ => exact ord_lt (b := sh a 1) (n := 1) rfl hRw 0 (by decide)
  | 2, _ => exact ord_lt (b := sh a 2) (n := 1) rfl hSc 0 (by decide)
  | 3, _ => exact ord_lt (b := sh a 3) (n := 1) rfl hHs 0 (by decide)
  | 4, _ => exact ord_lt (b := sh a 4) (n := 1) rfl hSl 0 (by decide)
  | 5, _ => exact ord_lt (b := sh a 5) (n := 1) rfl hKp 0 (by decide)
  | 6, _ => exact ord_lt (b := sh a 6) (n := 1) rfl hGo 0 (by decide)
  | 7, _ => exact ord_lt (b := sh a 7) (n := 1) rfl hNt 0 (by decide)
  | 8, _ => exact ord_lt (b := sh a 8) (n := 1) rfl hTx 0 (by decide)
  | 9, _ => exact ord_lt (b := sh a 9) (n := 1) rfl hRd 0 (by decide)
  | k + 10, h => exact absurd h (by omega)
theorem MI.mo (h : MI G cs a A H) : ∃ rn, va_P G vwCl (moW cs a A.2.1.1 A.2.2.1.1 rn) H := by
  obtain ⟨Y, Z, Hh, Sl, Kp, Go, Nt, rn, Rd, rr, hHR, hSR, hMo, -⟩ := h
  exact ⟨rn, hMo⟩
end OB
/-! the law's loop, between the calls -/
/-- the cells of the two objects stand apart, all of them new -/
def LF (a m : Nat → Nat) (N : Nat) : Prop := Inj a 62 ∧ Inj m 10 ∧ (∀ i j, i < 62 → j < 10 → a i ≠ m j) ∧ (∀ i, i < 62 → N ≤ a i) ∧ ∀ i, i < 10 → N ≤ m i
def LI (G : va_G) (cs : Nat → ClassId) (a m : Nat → Nat) (N : Nat) (A : AS) (w : Nat → Nat) (H : Heap) : Prop := AWF A ∧ XI G cs a w A H ∧ MI G cs m A H ∧ SnD a w A.2.2.2.1 ∧ ∀ s j, s < 2 → j < 8 → A.2.2.2.1 s = true → N ≤ w (8 * s + j) ∧ ∀ i, i < 10 → w (8 * s + j) ≠ m i
section LL
variable {G : va_G} {cs : Nat → ClassId} {a m w : Nat → Nat} {A : AS} {H H1 : Heap} {N : Nat}
theorem lf_a (hF : LF a m N) : ∀ q, AX a 0 62 q → N ≤ q := fun q ⟨i, _, h2, h3⟩ => by rw [h3]; exact hF.2.2.2.1 i h2
theorem lf_m (hF : LF a m N) : ∀ q, AX m 0 10 q → N ≤ q := fun q ⟨i, _, h2, h3⟩ => by rw [h3]; exact hF.2.2.2.2 i h2
/-- the reference, while the class writes its own cells -/
theorem li_m (hF : LF a m N) (h : MI G cs m A H) (hk : ∀ q, q < H.size → ¬ AX a 0 62 q → H1[q]? = H[q]?) : MI G cs m A H1 := h.keep hk (fun i hi ⟨j, _, h2, h3⟩ => hF.2.2.1 j i h2 hi h3.symm)
/-- the class, while the reference writes its own cells -/
theorem li_x (hF : LF a m N) (h : XI G cs a w A H) (hw : ∀ s j, s < 2 → j < 8 → A.2.2.2.1 s = true → N ≤ w (8 * s + j) ∧ ∀ i, i < 10 → w (8 * s + j) ≠ m i) (hk : ∀ q, q < H.size → ¬ AX m 0 10 q → H1[q]? = H[q]?) : XI G cs a w A H1 :=
  h.keep hk (fun i hi ⟨j, _, h2, h3⟩ => hF.2.2.1 i j hi h2 h3) (fun s j hs hj hk9 ⟨i, _, h2, h3⟩ => (hw s j hs hj hk9).2 i h2 h3)
end LL
theorem shareG_nn (S : SS) (q : Int) : (shareG S q).toNat ≤ 2139095040 := by
  unfold shareG
  split
  · decide
  · exact shareF_nn S q
theorem weightG_nn (S : SS) (q : Int) : (weightG S q).toNat ≤ 2139095040 := by
  unfold weightG
  split
  · decide
  · exact wgtN_nn _ _ _ _
theorem zI_and31 (x : Int) : zI x &&& zI 31 = zI (x % 32) := by
  refine Int32.toBitVec.inj (BitVec.eq_of_toNat_eq ?_)
  show ((zI x).toBitVec &&& (zI 31).toBitVec).toNat = _
  rw [BitVec.toNat_and, show (zI 31).toBitVec.toNat = 2 ^ 5 - 1 by decide +kernel, Nat.and_two_pow_sub_one_eq_mod]
  show (BitVec.ofInt 32 x).toNat % 2 ^ 5 = (BitVec.ofInt 32 (x % 32)).toNat
  rw [BitVec.toNat_ofInt, BitVec.toNat_ofInt]
  omega
theorem i2c_z (x : Int) : ((zI x).toUInt32 % 65536).toInt32 = zI (x % 65536) := by
  refine Int32.toBitVec.inj (BitVec.eq_of_toNat_eq ?_)
  show ((zI x).toBitVec % 65536#32).toNat = (BitVec.ofInt 32 (x % 65536)).toNat
  rw [BitVec.toNat_umod]
  show (BitVec.ofInt 32 x).toNat % 65536 = _
  rw [BitVec.toNat_ofInt, BitVec.toNat_ofInt]
  omega
/-- an int of the script -/
def sx (xs : Nat → Int32) (j : Int) : Int := (xs j.toNat).toInt
theorem sx_r (xs : Nat → Int32) (j : Int) : -2147483648 ≤ sx xs j ∧ sx xs j < 2147483648 := zI_rng _
section SC
variable {p : Program} {l : Launch} {e : Env} {R : Room} {s : State} {m : MethodId} {args : Array Value} {below : List Frame} {meth : Method} {c : Code} {H : Heap} {locs : List Loc} {cells slots : Nat} {Q : State → Prop} {cc : ByteArray} {pc : Nat} {ls : Array Slot} {rest : List Value} {A : Nat → Prop} {H0 : Heap}
theorem z_sld (hx : p.tables.exec = Jvm.exec) (hb : c.code = cc) {b L : Nat} {xs : Nat → Int32} (hX : va_X b L xs s H0) (hbl : b < H0.size) (hbA : ¬ A b) (hS : va_S A H0 H locs) {j : Int} (hj : 0 ≤ j ∧ j < L) (hL : L ≤ 2560) (hdg : decode cc pc = .ok (.iaload, 1))
    (kk : W p l e R s m args below meth c H locs cells slots Q (F0 m (pc + 1) ls (.int (zI (sx xs j)) :: rest))) : W p l e R s m args below meth c H locs cells slots Q (F0 m pc ls (.int (zI j) :: .ref b :: rest)) := by
  refine va_sld hx hb hX hbl hbA hS (zI_in hj (by omega)) hdg ?_
  rw [zI_clamp (by omega), zI_of (xs j.toNat)]
  exact kk
end SC
