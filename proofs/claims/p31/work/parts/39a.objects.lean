/-! What the calls keep of the whole object; the object as other cells change. -/
theorem updK_id {k : Nat → Bool} {z : Nat} (h : k z = true) : updK k z = k := by
  funext i
  unfold updK
  by_cases e : i = z
  · rw [if_pos e, e, h]
  · rw [if_neg e]
theorem updK_s {k : Nat → Bool} {z : Nat} : updK k z z = true := if_pos rfl
theorem updK_n {k : Nat → Bool} {z i : Nat} (h : i ≠ z) : updK k z i = k i := if_neg h
section AW
variable {A : AS}
theorem awf_addPart (h : AWF A) : AWF (addPartF A).2 := by
  unfold addPartF
  split
  · exact h
  · exact act_wf h (wf_bl h.1 (by omega))
theorem awf_setPixel (h : AWF A) (q r t v : Int) : AWF (setPixelF A q r t v).2 := by
  unfold setPixelF
  split
  · exact h
  · split
    · exact h
    · exact act_wf h (wf_pix h.1 (by omega))
theorem awf_type (h : AWF A) {z : Int} (hz : 0 ≤ z ∧ z < 65536) : AWF (typeF A z).2 := by
  have h3 := h.2.2.1
  unfold typeF
  split
  · exact h
  · refine ⟨h.1, h.2.1, ⟨?_, fun j h1 h2 => ?_⟩, h.2.2.2⟩
    · show 0 ≤ A.2.2.1.1 + 1 ∧ A.2.2.1.1 + 1 ≤ 60
      omega
    · show 0 ≤ updZ A.2.2.1.2 A.2.2.1.1 z j ∧ updZ A.2.2.1.2 A.2.2.1.1 z j < 65536
      unfold updZ
      split
      · exact hz
      · exact h3.2 j h1 h2
theorem awf_clear (h : AWF A) : AWF (clearF A).2 := ⟨h.1, h.2.1, ⟨by show (0 : Int) ≤ 0 ∧ (0 : Int) ≤ 60; decide, h.2.2.1.2⟩, h.2.2.2⟩
theorem awf_draw (h : AWF A) (q : Int) : AWF (drawF A q).2 := by
  unfold drawF
  split
  · exact h
  · split
    · exact h
    · exact act_wf h (wf_rw h.1)
theorem awf_pack (h : AWF A) (rm : Int) : AWF (packF A rm).2 := by
  unfold packF
  split
  · exact h
  · exact act_wf h (wf_pack h.1)
theorem awf_setColor (h : AWF A) (q z v : Int) : AWF (setColorF A q z v).2 := by
  unfold setColorF
  split
  · exact h
  · split
    · exact h
    · exact act_wf h (wf_col h.1 (by omega))
theorem awf_addSprite (h : AWF A) (q x y : Int) : AWF (addSpriteF A q x y).2 := by
  unfold addSpriteF
  split
  · exact h
  · split
    · exact h
    · split
      · exact h
      · exact act_wf h (wf_sp h.1 (by omega) (by omega) (by omega))
theorem awf_move (h : AWF A) (z x y : Int) : AWF (moveF A z x y).2 := by
  unfold moveF
  split
  · exact h
  · split
    · exact h
    · exact act_wf h (wf_mv h.1 (by omega))
theorem awf_set (h : AWF A) (z t v : Int) : AWF (setF A z t v).2 := by
  unfold setF
  split
  · exact h
  · split
    · exact h
    · exact act_wf h (wf_set h.1 (by omega))
theorem awf_swap (h : AWF A) (f t u v : Int) : AWF (swapF A f t u v).2 := by
  unfold swapF
  split
  · exact h
  · split
    · exact h
    · exact act_wf h (wf_swN h.1 (by omega) (by omega) _)
theorem awf_setLimit (h : AWF A) (v : Int) : AWF (setLimitF A v).2 := by
  unfold setLimitF
  split
  · exact h
  · exact act_wf h (wf_02 h.1 (by omega))
theorem awf_setStride (h : AWF A) (v : Int) : AWF (setStrideF A v).2 := by
  unfold setStrideF
  split
  · exact h
  · exact act_wf h (wf_03 h.1 (by omega))
theorem awf_next (h : AWF A) (v : Int) : AWF (nextF A v).2 := by
  have h4 := h.1.2.2.2.2.1
  unfold nextF
  split
  · exact h
  · split
    · exact h
    · exact act_wf h (wf_04 h.1 (by omega))
theorem awf_undo (h : AWF A) : AWF (undoF A).2 := by
  have h2 := h.2.1.1
  unfold undoF
  split
  · exact h
  · refine ⟨h.2.1.2 _ (by omega), ⟨?_, fun i hi => h.2.1.2 i ?_⟩, h.2.2⟩
    · show 0 ≤ A.2.1.1 - 1 ∧ A.2.1.1 - 1 ≤ 5
      omega
    · have hi : (i : Int) < A.2.1.1 - 1 := hi
      omega
theorem awf_keep (h : AWF A) (z : Int) : AWF (keepF A z).2 := by
  unfold keepF
  split
  · exact h
  · refine ⟨h.1, h.2.1, h.2.2.1, fun s hs hk => ?_⟩
    show WF (updT A.2.2.2.2 z.toNat A.1 s)
    by_cases e : s = z.toNat
    · subst e
      rw [updT_s]
      exact h.1
    · rw [updT_n e]
      have hk : updK A.2.2.2.1 z.toNat s = true := hk
      rw [updK_n e] at hk
      exact h.2.2.2 s hs hk
theorem awf_restore (h : AWF A) (z : Int) : AWF (restoreF A z).2 := by
  unfold restoreF
  split
  · exact h
  · split
    · exact h
    · rename_i h1 h2
      exact act_wf h (h.2.2.2 z.toNat (by omega) (by cases h9 : A.2.2.2.1 z.toNat with | true => rfl | false => exact absurd h9 h2))
theorem kp_addPart : (addPartF A).2.2.2.2 = A.2.2.2 := by unfold addPartF; split <;> rfl
theorem kp_setPixel (q r t v : Int) : (setPixelF A q r t v).2.2.2.2 = A.2.2.2 := by unfold setPixelF; split; rfl; split <;> rfl
theorem kp_type (z : Int) : (typeF A z).2.2.2.2 = A.2.2.2 := by unfold typeF; split <;> rfl
theorem kp_clear : (clearF A).2.2.2.2 = A.2.2.2 := rfl
theorem kp_draw (q : Int) : (drawF A q).2.2.2.2 = A.2.2.2 := by unfold drawF; split; rfl; split <;> rfl
theorem kp_pack (q : Int) : (packF A q).2.2.2.2 = A.2.2.2 := by unfold packF; split <;> rfl
theorem kp_setColor (q z v : Int) : (setColorF A q z v).2.2.2.2 = A.2.2.2 := by unfold setColorF; split; rfl; split <;> rfl
theorem kp_addSprite (q x y : Int) : (addSpriteF A q x y).2.2.2.2 = A.2.2.2 := by unfold addSpriteF; split; rfl; split; rfl; split <;> rfl
theorem kp_move (q x y : Int) : (moveF A q x y).2.2.2.2 = A.2.2.2 := by unfold moveF; split; rfl; split <;> rfl
theorem kp_set (q x y : Int) : (setF A q x y).2.2.2.2 = A.2.2.2 := by unfold setF; split; rfl; split <;> rfl
theorem kp_swap (f t u v : Int) : (swapF A f t u v).2.2.2.2 = A.2.2.2 := by unfold swapF; split; rfl; split <;> rfl
theorem kp_setLimit (v : Int) : (setLimitF A v).2.2.2.2 = A.2.2.2 := by unfold setLimitF; split <;> rfl
theorem kp_setStride (v : Int) : (setStrideF A v).2.2.2.2 = A.2.2.2 := by unfold setStrideF; split <;> rfl
theorem kp_next (v : Int) : (nextF A v).2.2.2.2 = A.2.2.2 := by unfold nextF; split; rfl; split <;> rfl
theorem kp_undo : (undoF A).2.2.2.2 = A.2.2.2 := by unfold undoF; split <;> rfl
theorem kp_restore (z : Int) : (restoreF A z).2.2.2.2 = A.2.2.2 := by unfold restoreF; split; rfl; split <;> rfl
end AW
section OB
variable {G : va_G} {cs : Nat → ClassId} {a w : Nat → Nat} {A : AS} {H H1 : Heap} {A1 : Nat → Prop}
theorem XI.keep (h : XI G cs a w A H) (hk : ∀ q, q < H.size → ¬ A1 q → H1[q]? = H[q]?) (ha : ∀ i, i < 62 → ¬ A1 (a i)) (hw : ∀ s j, s < 2 → j < 8 → A.2.2.2.1 s = true → ¬ A1 (w (8 * s + j))) : XI G cs a w A H1 := by
  obtain ⟨F, Fl, Pt, U, Q, N, T, lo, hi_, o, R, hT, hR, hXo, hPs, hPv, hKp, hTx, hHi, hRg, hSn, hSw⟩ := h
  exact ⟨F, Fl, Pt, U, Q, N, T, lo, hi_, o, R, hT, hR, keepO (ordXo a) hXo hk (fun j hj => ha j (by omega)), keepO (ordSt _ _ _) hPs hk (fun j hj => ha (1 + j) (by omega)), keepO (ordVi _ _ _ _ _ _) hPv hk (fun j hj => ha (9 + j) (by omega)), keepO (ordPk _ _ _ _ _ _) hKp hk (fun j hj => ha (13 + j) (by omega)), keepO (ordTx _ _ _ _ _ _) hTx hk (fun j hj => ha (17 + j) (by omega)), keepO (ordHi _ _ _ _) hHi hk (fun j hj => ha (19 + j) (by omega)), fun i hi => keepO (ordSt _ _ _) (hRg i hi) hk (fun j hj => ha (21 + 8 * i + j) (by omega)), keepO (ordSn _ _ _ _) hSn hk (fun j hj => ha (61 + j) (by omega)), fun i hi hk9 => keepO (ordSt _ _ _) (hSw i hi hk9) hk (fun j hj => hw i j hi hj hk9)⟩
theorem ord_lt {b : Nat → Nat} {n : Nat} {ws : va_W} (hl : ws.map Prod.fst = (List.range n).map b) (h : va_P G vwCl ws H) : ∀ j, j < n → b j < H.size := by
  intro j hj
  have hlen : ws.length = n := by have := congrArg List.length hl; simpa using this
  have hj2 : j < ws.length := by omega
  have h1 := h j _ (List.getElem?_eq_getElem hj2)
  have h2 := va_at.lt h1
  have h3 : (ws.map Prod.fst)[j]? = ((List.range n).map b)[j]? := by rw [hl]
  rw [List.getElem?_map, List.getElem?_map, List.getElem?_eq_getElem hj2, List.getElem?_range hj] at h3
  have h4 : (ws[j]).1 = b j := Option.some.inj h3
  rw [← h4]
  exact h2
theorem XI.lt (h : XI G cs a w A H) : (∀ i, i < 62 → a i < H.size) ∧ ∀ s j, s < 2 → j < 8 → A.2.2.2.1 s = true → w (8 * s + j) < H.size := by
  obtain ⟨F, Fl, Pt, U, Q, N, T, lo, hi_, o, R, hT, hR, hXo, hPs, hPv, hKp, hTx, hHi, hRg, hSn, hSw⟩ := h
  have l1 := ord_lt (b := a) (n := 1) rfl hXo
  have l2 := ord_lt (b := sh a 1) (n := 8) rfl hPs
  have l3 := ord_lt (b := sh a 9) (n := 4) rfl hPv
  have l4 := ord_lt (b := sh a 13) (n := 4) rfl hKp
  have l5 := ord_lt (b := sh a 17) (n := 2) rfl hTx
  have l6 := ord_lt (b := sh a 19) (n := 2) rfl hHi
  have l7 := fun i hi => ord_lt (b := sh a (21 + 8 * i)) (n := 8) rfl (hRg i hi)
  have l8 := ord_lt (b := sh a 61) (n := 1) rfl hSn
  have l9 := fun i hi hk => ord_lt (b := sh w (8 * i)) (n := 8) rfl (hSw i hi hk)
  refine ⟨fun i hi => ?_, fun s j hs hj hk => l9 s hs hk j hj⟩
  by_cases c0 : i < 1
  · exact l1 i c0
  · by_cases c1 : i < 9
    · have := l2 (i - 1) (by omega)
      unfold sh at this
      rwa [show 1 + (i - 1) = i by omega] at this
    · by_cases c2 : i < 13
      · have := l3 (i - 9) (by omega)
        unfold sh at this
        rwa [show 9 + (i - 9) = i by omega] at this
      · by_cases c3 : i < 17
        · have := l4 (i - 13) (by omega)
          unfold sh at this
          rwa [show 13 + (i - 13) = i by omega] at this
        · by_cases c4 : i < 19
          · have := l5 (i - 17) (by omega)
            unfold sh at this
            rwa [show 17 + (i - 17) = i by omega] at this
          · by_cases c5 : i < 21
            · have := l6 (i - 19) (by omega)
              unfold sh at this
              rwa [show 19 + (i - 19) = i by omega] at this
            · by_cases c6 : i < 61
              · have := l7 ((i - 21) / 8) (by omega) ((i - 21) % 8) (by omega)
                unfold sh at this
                rwa [show 21 + 8 * ((i - 21) / 8) + (i - 21) % 8 = i by omega] at this
              · have := l8 (i - 61) (by omega)
                unfold sh at this
                rwa [show 61 + (i - 61) = i by omega] at this
end OB
section OC
theorem i2c_z (x : Int) : ((zI x).toUInt32 % 65536).toInt32 = zI (x % 65536) := by
  refine Int32.toBitVec.inj (BitVec.eq_of_toNat_eq ?_)
  show ((zI x).toBitVec % 65536#32).toNat = (BitVec.ofInt 32 (x % 65536)).toNat
  rw [BitVec.toNat_umod]
  show (BitVec.ofInt 32 x).toNat % 65536 = _
  rw [BitVec.toNat_ofInt, BitVec.toNat_ofInt]
  omega
theorem nar_char {x : Int} (h : 0 ≤ x ∧ x < 65536) : narrow .char (.int (zI x)) = .int (zI x) := by
  obtain ⟨n, rfl⟩ := Int.eq_ofNat_of_zero_le h.1
  have hn : n < 2 ^ 16 := by omega
  show Value.int ((zI (n : Int)).toUInt32.toUInt16.toUInt32.toInt32) = _
  refine congrArg Value.int (I_ext (fun k hk => ?_))
  show (((zI (n : Int)).toBitVec.setWidth 16).setWidth 32).getLsbD k = (zI (n : Int)).toBitVec.getLsbD k
  rw [BitVec.getLsbD_setWidth, BitVec.getLsbD_setWidth]
  by_cases c : k < 16
  · simp [c, hk]
  · have e : (zI (n : Int)).toBitVec.getLsbD k = false := by
      rw [← zI_nat]
      show (BitVec.ofNat 32 n).getLsbD k = false
      rw [BitVec.getLsbD_ofNat, Nat.testBit_lt_two_pow (Nat.lt_of_lt_of_le hn (Nat.pow_le_pow_right (by decide) (by omega)))]
      simp
    rw [e]
    simp
end OC
def sx (xs : Nat → Int32) (j : Int) : Int := (xs j.toNat).toInt
theorem sx_r (xs : Nat → Int32) (j : Int) : -2147483648 ≤ sx xs j ∧ sx xs j < 2147483648 := zI_rng _
section SC
variable {p : Program} {l : Launch} {e : Env} {R : Room} {s : State} {m : MethodId} {args : Array Value} {below : List Frame} {meth : Method} {c : Code} {H : Heap} {locs : List Loc} {cells slots : Nat} {Q : State → Prop} {cc : ByteArray} {pc : Nat} {ls : Array Slot} {rest : List Value} {A : Nat → Prop} {H0 : Heap}
theorem z_sld (hx : p.tables.exec = Jvm.exec) (hb : c.code = cc) {b L : Nat} {xs : Nat → Int32} (hX : va_X b L xs s H0) (hbl : b < H0.size) (hbA : ¬ A b) (hS : va_S A H0 H locs) {j : Int} (hj : 0 ≤ j ∧ j < L) (hL : L ≤ 2560) (hdg : decode cc pc = .ok (.iaload, 1))
    (kk : W p l e R s m args below meth c H locs cells slots Q (F0 m (pc + 1) ls (.int (zI (sx xs j)) :: rest))) : W p l e R s m args below meth c H locs cells slots Q (F0 m pc ls (.int (zI j) :: .ref b :: rest)) := by
  refine va_sld hx hb hX hbl hbA hS (zI_in hj (by omega)) hdg ?_
  rw [zI_clamp (by omega), zI_of (xs j.toNat)]
  exact kk
end SC
