/-! The snapshot that is kept. -/
def WN (b : Nat → Nat) (k : Nat → Bool) (w w2 : Nat → Nat) (k2 : Nat → Bool) : Prop := ∀ s j, s < 2 → j < 8 → k2 s = true → (k s = true ∧ w2 (8 * s + j) = w (8 * s + j)) ∨ b 0 ≤ w2 (8 * s + j)
def newW (w b : Nat → Nat) (z : Nat) : Nat → Nat := fun j => if 8 * z ≤ j ∧ j < 8 * z + 8 then b (j - 8 * z) else w j
theorem ax_ge {b : Nat → Nat} (hsq : Seq b) {k lo hi q : Nat} (h : AX (sh b k) lo hi q) : b 0 ≤ q := by
  obtain ⟨i, -, -, rfl⟩ := h
  have := seq_at hsq (k + i)
  show b 0 ≤ b (k + i)
  omega
theorem updK_id {k : Nat → Bool} {z : Nat} (h : k z = true) : updK k z = k := by
  funext i
  unfold updK
  by_cases e : i = z
  · rw [if_pos e, e, h]
  · rw [if_neg e]
theorem updK_s {k : Nat → Bool} {z : Nat} : updK k z z = true := if_pos rfl
theorem updK_n {k : Nat → Bool} {z i : Nat} (h : i ≠ z) : updK k z i = k i := if_neg h
theorem newW_in {w b : Nat → Nat} {z j : Nat} (h : j < 8) : newW w b z (8 * z + j) = b j := by
  unfold newW
  rw [if_pos (by omega), show 8 * z + j - 8 * z = j by omega]
theorem newW_out {w b : Nat → Nat} {z i j : Nat} (h : j < 8) (hi : i ≠ z) : newW w b z (8 * i + j) = w (8 * i + j) := by
  unfold newW
  rw [if_neg (by omega)]
theorem sn_row {w b : Nat → Nat} {k : Nat → Bool} {z : Nat} : (fun i => if i = z then some ((sh b 0) 0) else nRow w k i) = nRow (newW w b z) (updK k z) := by
  funext i
  unfold nRow
  by_cases e : i = z
  · subst e
    rw [if_pos rfl, if_pos updK_s]
    exact congrArg some (newW_in (w := w) (b := b) (z := i) (j := 0) (by decide)).symm
  · rw [if_neg e, updK_n e, show newW w b z (8 * i) = w (8 * i) from newW_out (j := 0) (by decide) e]
theorem snd_new {a w b : Nat → Nat} {k : Nat → Bool} {z : Nat} (hsd : SnD a w k) (hsq : Seq b) (hab : ∀ i, i < 62 → a i < b 0) (hwb : ∀ s j, s < 2 → j < 8 → k s = true → w (8 * s + j) < b 0) : SnD a (newW w b z) (updK k z) := by
  refine ⟨fun i s j hi hs hj hk => ?_, fun s j s2 j2 hs hj hs2 hj2 hk hk2 he => ?_⟩
  · by_cases e : s = z
    · subst e
      rw [newW_in hj, seq_at hsq j]
      have := hab i hi
      omega
    · rw [newW_out hj e]
      rw [updK_n e] at hk
      exact hsd.1 i s j hi hs hj hk
  · by_cases e : s = z
    · subst e
      rw [newW_in hj, seq_at hsq j] at he
      by_cases e2 : s2 = s
      · subst e2
        rw [newW_in hj2, seq_at hsq j2] at he
        exact ⟨rfl, by omega⟩
      · rw [newW_out hj2 e2] at he
        rw [updK_n e2] at hk2
        have := hwb s2 j2 hs2 hj2 hk2
        omega
    · rw [newW_out hj e] at he
      rw [updK_n e] at hk
      by_cases e2 : s2 = z
      · subst e2
        rw [newW_in hj2, seq_at hsq j2] at he
        have := hwb s j hs hj hk
        omega
      · rw [newW_out hj2 e2] at he
        rw [updK_n e2] at hk2
        exact hsd.2 s j s2 j2 hs hj hs2 hj2 hk hk2 he
theorem wn_new {w b : Nat → Nat} {k : Nat → Bool} {z : Nat} (hsq : Seq b) : WN b k w (newW w b z) (updK k z) := fun s j hs hj hk => by
  by_cases e : s = z
  · subst e
    rw [newW_in hj, seq_at hsq j]
    exact Or.inr (by omega)
  · rw [newW_out hj e]
    rw [updK_n e] at hk
    exact Or.inl ⟨hk, rfl⟩
theorem wn_id {w b : Nat → Nat} {k : Nat → Bool} : WN b k w w k := fun _ _ _ _ hk => Or.inl ⟨hk, rfl⟩
set_option maxHeartbeats 4000000 in
set_option maxRecDepth 100000 in
theorem c_X6_keep (l : Launch) (G : va_G) (cs : Nat → ClassId) (a w : Nat → Nat) (S : SS) (n : Int) (L : Nat → SS) (tl : Int) (X : Int → Int) (k : Nat → Bool) (V : Nat → SS) (b : Nat → Nat) (z : Int) (ia : Inj a 62) (hsd : SnD a w k) (hA : AWF (S, (n, L), (tl, X), (k, V))) (r_z : -2147483648 ≤ z ∧ z < 2147483648) (hsq : Seq b) (hab : ∀ i, i < 62 → a i < b 0) (hwb : ∀ s j, s < 2 → j < 8 → k s = true → w (8 * s + j) < b 0) : MW l yX6_keep wsX6_keep { frames := 3, cells := 8, slots := 260, locals := 102 } G cs [.ref (a 0), .int (zI z)] (fun H => XI G cs a w (S, (n, L), (tl, X), (k, V)) H ∧ H.size = b 0) (fun vv H => vv = .int (zI (keepF (S, (n, L), (tl, X), (k, V)) z).1) ∧ ∃ w2 : Nat → Nat, SnD a w2 (keepF (S, (n, L), (tl, X), (k, V)) z).2.2.2.2.1 ∧ XI G cs a w2 (keepF (S, (n, L), (tl, X), (k, V)) z).2 H ∧ WN b k w w2 (keepF (S, (n, L), (tl, X), (k, V)) z).2.2.2.2.1) (fun q => AX a 61 62 q ∨ (∃ s j, s < 2 ∧ j < 8 ∧ k s = true ∧ q = w (8 * s + j)) ∨ b 0 ≤ q) 8 260 := by
  refine m_intro (Pw := (fun H => XI G cs a w (S, (n, L), (tl, X), (k, V)) H ∧ H.size = b 0)) (cc := cX6_keep) (maxL := 2) (ret := some .int) RX6 (by decide) rfl rfl (Nat.le_of_ble_eq_true rfl) ?_
  intro pP eE sS mM below meth cC hx hb hr hts hown hml hlk hnm hPre hK ls hl
  have hl : lv_has ls 2 [(0, .ref (a 0)), (1, .int (zI z))] := hl
  obtain ⟨hXI, hz⟩ := hPre
  have hS : va_S (fun q => AX a 61 62 q ∨ (∃ s j, s < 2 ∧ j < 8 ∧ k s = true ∧ q = w (8 * s + j)) ∨ b 0 ≤ q) sS.heap sS.heap [] := va_S.rf
  have hi4 : ∀ w ∈ u_ws RX4 TX4 9, w ∈ wsX6_keep := by decide +kernel
  have hi6 : ∀ w ∈ u_ws RX6 TX6 6, w ∈ wsX6_keep := by decide +kernel
  obtain ⟨F, Fl, Pt, U, Q, N, T, lo, hi_, o, R, ⟨hTF, hT0⟩, ⟨ho, hRing⟩, hXo, hPs, hPv, hKp, hTx, hHi, hRg, hSn, hSw⟩ := hXI
  obtain ⟨wf, ⟨hn, hL9⟩, ⟨htl, hX⟩, hV9⟩ := hA
  have hT0 : T 0 = tl := hT0
  have hRing : ∀ i : Nat, (i : Int) < n → R ((o + i) % 5).toNat = L i := hRing
  have wf : WF S := wf
  have hn : 0 ≤ n ∧ n ≤ 5 := hn
  have htl : 0 ≤ tl ∧ tl ≤ 60 := htl
  have hX : ∀ j, 0 ≤ j → j < 60 → 0 ≤ X j ∧ X j < 65536 := hX
  have hXo : va_P G vwCl (xoW a) sS.heap := hXo
  have hPs : va_P G vwCl (stW cs (sh a 1) S) sS.heap := hPs
  have hPv : va_P G vwCl (viW cs (sh a 9) ((sh a 1) 0) (aI F) (cB Fl) (cB Pt)) sS.heap := hPv
  have hKp : va_P G vwCl (pkW cs (sh a 13) ((sh a 1) 0) (aI U) (aI Q) (aI N)) sS.heap := hKp
  have hTx : va_P G vwCl (txW cs (sh a 17) T lo hi_ X) sS.heap := hTx
  have hHi : va_P G vwCl (hiW cs (sh a 19) o n) sS.heap := hHi
  have hRg : ∀ i, i < 5 → va_P G vwCl (stW cs (sh a (21 + 8 * i)) (R i)) sS.heap := hRg
  have hSn : va_P G vwCl (snW cs (sh a 61) w k) sS.heap := hSn
  have hSw : ∀ i, i < 2 → k i = true → va_P G vwCl (stW cs (sh w (8 * i)) (V i)) sS.heap := hSw
  have wf0 := wf
  obtain ⟨w0, w1, w2, w3, w4, wP, wC, wS, wX⟩ := wf
  have ia1 := inj_sh (k := 1) (w := 8) ia (by decide)
  refine lv_iload_n hx hb dX6_keep_0 rfl (lv_at hl 1 rfl) ?_
  refine z_ro (zrS (As := [.int (zI z)]) (rest := []) (Pw := fun _ => True) ⟨hx, hb, hml, hown, hts⟩ (c_X6_isNoSlot l G cs z (by omega)) gX6_keep_X6_isNoSlot rfl qX6_isNoSlot rfl rfl ⟨Nat.le_of_ble_eq_true rfl, Nat.le_of_ble_eq_true rfl⟩ trivial hK hl.1 rfl (Nat.le_of_ble_eq_true rfl) dX6_keep_1 ⟨Nat.le_of_ble_eq_true rfl, Nat.le_of_ble_eq_true rfl⟩) ?_
  refine z_bif_eq (tgt := 9) hx hb dX6_keep_4 (by decide) (fun c1 => ?_) (fun c1 => ?_)
  · skip
    simp only [decide_eq_false_iff_not] at c1
    refine lv_aload_n hx hb dX6_keep_9 rfl (lv_at hl 0 rfl) ?_
    refine va_get (D := G) (ci := 6) (v := .ref ((sh a 61) 0)) (C := RX6) (T := TX6) (N := 6) hx hb hts hi6 hown hK.1 hXo 0 rfl rfl 5 (by decide) (hts (.fieldLink RX6 46 "SpriteLines" "snapshots" "[LSpriteLines$State;") (by decide +kernel)) (fun _ h9 => h9) rfl dX6_keep_10 ?_
    refine lv_iload_n hx hb dX6_keep_13 rfl (lv_at hl 1 rfl) ?_
    refine va_aldq hx hb hK.1 hSn 0 4 (f := nRow w k) rfl rfl (zI_in (by omega) (by decide)) dX6_keep_14 ?_
    rw [zI_clamp (by omega)]
    by_cases hks : k z.toNat = true
    · skip
      refine z_top (v' := .ref ((sh w (8 * z.toNat)) 0)) (by unfold nRow; rw [if_pos hks]; rfl) ?_
      refine lv_ifnonnull (tgt := 31) hx hb dX6_keep_15 (by decide) ?_
      refine lv_aload_n hx hb dX6_keep_31 rfl (lv_at hl 0 rfl) ?_
      refine va_get (D := G) (ci := 6) (v := .ref ((sh a 61) 0)) (C := RX6) (T := TX6) (N := 6) hx hb hts hi6 hown hK.1 hXo 0 rfl rfl 5 (by decide) (hts (.fieldLink RX6 46 "SpriteLines" "snapshots" "[LSpriteLines$State;") (by decide +kernel)) (fun _ h9 => h9) rfl dX6_keep_32 ?_
      refine lv_iload_n hx hb dX6_keep_35 rfl (lv_at hl 1 rfl) ?_
      refine va_aldq hx hb hK.1 hSn 0 4 (f := nRow w k) rfl rfl (zI_in (by omega) (by decide)) dX6_keep_36 ?_
      rw [zI_clamp (by omega)]
      refine z_top (v' := .ref ((sh w (8 * z.toNat)) 0)) (by unfold nRow; rw [if_pos hks]; rfl) ?_
      refine lv_aload_n hx hb dX6_keep_37 rfl (lv_at hl 0 rfl) ?_
      refine va_get (D := G) (ci := 6) (v := .ref ((sh a 1) 0)) (C := RX6) (T := TX6) (N := 6) hx hb hts hi6 hown hK.1 hXo 0 rfl rfl 0 (by decide) (hts (.fieldLink RX6 10 "SpriteLines" "now" "LSpriteLines$State;") (by decide +kernel)) (fun _ h9 => h9) rfl dX6_keep_38 ?_
      have hT := hSw z.toNat (by omega) hks
      refine z_v (zrV (As := [.ref ((sh a 1) 0)]) (rest := []) (Pw := fun H => va_P G vwCl (stW cs (sh w (8 * z.toNat)) (V z.toNat)) H ∧ va_P G vwCl (stW cs (sh a 1) S) H) ⟨hx, hb, hml, hown, hts⟩ (c_X4_copyFrom l G cs (sh w (8 * z.toNat)) (V z.toNat) (sh a 1) S (fun i j hi hj h => (hsd.2 z.toNat i z.toNat j (by omega) hi (by omega) hj hks hks h).2) (fun i j hi hj h3 => hsd.1 (1 + j) z.toNat i (by omega) (by omega) hi hks h3.symm)) gX6_keep_X4_copyFrom rfl qX4_copyFrom rfl rfl ⟨Nat.le_of_ble_eq_true rfl, Nat.le_of_ble_eq_true rfl⟩ ⟨hT, hPs⟩ hK (va_recv hK.1 hT (ci := 4) (q0 := 0) rfl rfl) hl.1 rfl (Nat.le_of_ble_eq_true rfl) dX6_keep_41 ⟨Nat.le_of_ble_eq_true rfl, Nat.le_of_ble_eq_true rfl⟩) hS (fun q h => by obtain ⟨i, h1, h2, h3⟩ := h; exact Or.inr (Or.inl ⟨z.toNat, i, by omega, h2, hks, h3⟩)) (fun q h => by obtain ⟨i, h1, h2, h3⟩ := h; exact Or.inr (Or.inl ⟨z.toNat, i, by omega, h2, hks, h3⟩)) (fun H locs hpost hle hk hS => ?_)
      have hT' := hpost
      have hXo := keepO (ordXo a) hXo hk (fun j hj ⟨i', h1, h2, h3⟩ => hsd.1 (j) z.toNat i' (by omega) (by omega) h2 hks h3)
      have hPs := keepO (ordSt cs (sh a 1) S) hPs hk (fun j hj ⟨i', h1, h2, h3⟩ => hsd.1 (1 + j) z.toNat i' (by omega) (by omega) h2 hks h3)
      have hPv := keepO (ordVi cs (sh a 9) ((sh a 1) 0) (aI F) (cB Fl) (cB Pt)) hPv hk (fun j hj ⟨i', h1, h2, h3⟩ => hsd.1 (9 + j) z.toNat i' (by omega) (by omega) h2 hks h3)
      have hKp := keepO (ordPk cs (sh a 13) ((sh a 1) 0) (aI U) (aI Q) (aI N)) hKp hk (fun j hj ⟨i', h1, h2, h3⟩ => hsd.1 (13 + j) z.toNat i' (by omega) (by omega) h2 hks h3)
      have hTx := keepO (ordTx cs (sh a 17) T lo hi_ X) hTx hk (fun j hj ⟨i', h1, h2, h3⟩ => hsd.1 (17 + j) z.toNat i' (by omega) (by omega) h2 hks h3)
      have hHi := keepO (ordHi cs (sh a 19) o n) hHi hk (fun j hj ⟨i', h1, h2, h3⟩ => hsd.1 (19 + j) z.toNat i' (by omega) (by omega) h2 hks h3)
      have hRg : ∀ i, i < 5 → va_P G vwCl (stW cs (sh a (21 + 8 * i)) (R i)) H := fun i hi => keepO (ordSt _ _ _) (hRg i hi) hk (fun j hj ⟨i', h1, h2, h3⟩ => hsd.1 (21 + 8 * i + j) z.toNat i' (by omega) (by omega) h2 hks h3)
      have hSn := keepO (ordSn cs (sh a 61) w k) hSn hk (fun j hj ⟨i', h1, h2, h3⟩ => hsd.1 (61 + j) z.toNat i' (by omega) (by omega) h2 hks h3)
      have hSw : ∀ i, i < 2 → k i = true → i ≠ z.toNat → va_P G vwCl (stW cs (sh w (8 * i)) (V i)) H := fun i hi hk9 hne => keepO (ordSt _ _ _) (hSw i hi hk9) hk (fun j hj ⟨i', h1, h2, h3⟩ => hne (hsd.2 i j z.toNat i' hi hj (by omega) h2 hk9 hks h3).1)
      have hT : va_P G vwCl (stW cs (sh w (8 * z.toNat)) S) H := hT'
      refine lv_aload_n hx hb dX6_keep_44 rfl (lv_at hl 0 rfl) ?_
      refine va_get (D := G) (ci := 6) (v := .ref ((sh a 1) 0)) (C := RX6) (T := TX6) (N := 6) hx hb hts hi6 hown hK.1 hXo 0 rfl rfl 0 (by decide) (hts (.fieldLink RX6 10 "SpriteLines" "now" "LSpriteLines$State;") (by decide +kernel)) (fun _ h9 => h9) rfl dX6_keep_45 ?_
      refine va_get (D := G) (ci := 4) (v := .int (zI (S 0 4))) (C := RX4) (T := TX4) (N := 9) hx hb hts hi4 hown hK.1 hPs 0 rfl rfl 0 (by decide) (hts (.fieldLink RX6 163 "SpriteLines$State" "frame" "I") (by decide +kernel)) (fun _ h9 => h9) rfl dX6_keep_48 ?_
      refine W.widen (k := 8) (n := 260) (by decide) (by decide) ?_
      exact w_iret hx hb hr hlk dX6_keep_51 hS (by
      rw [show keepF (S, (n, L), (tl, X), (k, V)) z = _ from by unfold keepF; rw [if_neg (show ¬ (¬ (0 ≤ z ∧ z < 2)) by omega)], updK_id hks]
      exact ⟨rfl, w, hsd, ⟨F, Fl, Pt, U, Q, N, T, lo, hi_, o, R, ⟨hTF, hT0⟩, ⟨ho, hRing⟩, hXo, hPs, hPv, hKp, hTx, hHi, hRg, hSn, fun i hi hk9 => by
        show va_P G vwCl (stW cs (sh w (8 * i)) (updT V z.toNat S i)) H
        by_cases e : i = z.toNat
        · subst e; rw [updT_s]; exact hT
        · rw [updT_n e]; exact hSw i hi hk9 e⟩, wn_id⟩)
    · skip
      refine z_top (v' := .null) (by unfold nRow; rw [if_neg hks]; rfl) ?_
      refine lv_ifnonnullN hx hb dX6_keep_15 ?_
      refine lv_aload_n hx hb dX6_keep_18 rfl (lv_at hl 0 rfl) ?_
      refine va_get (D := G) (ci := 6) (v := .ref ((sh a 61) 0)) (C := RX6) (T := TX6) (N := 6) hx hb hts hi6 hown hK.1 hXo 0 rfl rfl 5 (by decide) (hts (.fieldLink RX6 46 "SpriteLines" "snapshots" "[LSpriteLines$State;") (by decide +kernel)) (fun _ h9 => h9) rfl dX6_keep_19 ?_
      refine lv_iload_n hx hb dX6_keep_22 rfl (lv_at hl 1 rfl) ?_
      refine z_new (C := RX4) (T := TX4) (N := 9) (ci := 4) hx hb hts hi4 tyX4 tyX4_ok hown (hts (.classLink RX6 7 RX4) (by decide +kernel)) (hts (.instantiable RX4 9) (by decide +kernel)) (hts (.initialized RX4) (by decide +kernel)) hK.1 hS rfl (fs := [.int (zI 0), .int (zI 0), .int (zI 0), .int (zI 0), .null, .null, .null, .null, .null]) blX4 (Nat.le_of_ble_eq_true rfl) (Nat.le_of_ble_eq_true rfl) (q := (sh b 0) 0) hz dX6_keep_23 (fun H hP1 hz9 hk hS => ?_)
      have hXo := keepO (ordXo a) hXo hk (fun _ _ h => h)
      have hPs := keepO (ordSt cs (sh a 1) S) hPs hk (fun _ _ h => h)
      have hPv := keepO (ordVi cs (sh a 9) ((sh a 1) 0) (aI F) (cB Fl) (cB Pt)) hPv hk (fun _ _ h => h)
      have hKp := keepO (ordPk cs (sh a 13) ((sh a 1) 0) (aI U) (aI Q) (aI N)) hKp hk (fun _ _ h => h)
      have hTx := keepO (ordTx cs (sh a 17) T lo hi_ X) hTx hk (fun _ _ h => h)
      have hHi := keepO (ordHi cs (sh a 19) o n) hHi hk (fun _ _ h => h)
      have hRg : ∀ i, i < 5 → va_P G vwCl (stW cs (sh a (21 + 8 * i)) (R i)) H := fun i hi => keepO (ordSt _ _ _) (hRg i hi) hk (fun _ _ h => h)
      have hSn := keepO (ordSn cs (sh a 61) w k) hSn hk (fun _ _ h => h)
      have hSw : ∀ i, i < 2 → k i = true → va_P G vwCl (stW cs (sh w (8 * i)) (V i)) H := fun i hi hk9 => keepO (ordSt _ _ _) (hSw i hi hk9) hk (fun _ _ h => h)
      have hOb : va_P G vwCl ([((sh b 0) 0, .inr (4, [.int (zI 0), .int (zI 0), .int (zI 0), .int (zI 0), .null, .null, .null, .null, .null]))]) H := hP1
      have hz : H.size = b 1 := hz9.trans (hsq 0).symm
      refine lv_dup hx hb dX6_keep_26 rfl ?_
      refine z_v (zrI (C := RX4) (As := []) (rest := [.ref ((sh b 0) 0), .int (zI z), .ref ((sh a 61) 0)]) (Pw := fun H => va_P G vwCl ([((sh b 0) 0, .inr (4, [.int (zI 0), .int (zI 0), .int (zI 0), .int (zI 0), .null, .null, .null, .null, .null]))]) H ∧ H.size = b 1) ⟨hx, hb, hml, hown, hts⟩ (c_X4_init l G cs (sh b 0) (seq_sh hsq 0)) gX6_keep_X4_init rfl (hts (.initialized RX4) (by decide +kernel)) (hts (.methodLink RX6 9 yX4_init) (by decide +kernel)) (hts (.instanceMethod yX4_init) (by decide +kernel)) rfl qX4_init rfl rfl ⟨Nat.le_of_ble_eq_true rfl, Nat.le_of_ble_eq_true rfl⟩ ⟨hOb, hz⟩ hK hl.1 rfl (Nat.le_of_ble_eq_true rfl) dX6_keep_27 ⟨Nat.le_of_ble_eq_true rfl, Nat.le_of_ble_eq_true rfl⟩) hS (fun q h => Or.inr (Or.inr (ax_ge hsq h))) (fun q h => Or.inr (Or.inr (ax_ge hsq h))) (fun H locs hpost hle hk hS => ?_)
      obtain ⟨hNew', hz'⟩ := hpost
      have hXo := keepO (ordXo a) hXo hk (fun j hj h => absurd (ax_ge hsq h) (by have := hab (j) (by omega); show ¬ b 0 ≤ a (j); omega))
      have hPs := keepO (ordSt cs (sh a 1) S) hPs hk (fun j hj h => absurd (ax_ge hsq h) (by have := hab (1 + j) (by omega); show ¬ b 0 ≤ a (1 + j); omega))
      have hPv := keepO (ordVi cs (sh a 9) ((sh a 1) 0) (aI F) (cB Fl) (cB Pt)) hPv hk (fun j hj h => absurd (ax_ge hsq h) (by have := hab (9 + j) (by omega); show ¬ b 0 ≤ a (9 + j); omega))
      have hKp := keepO (ordPk cs (sh a 13) ((sh a 1) 0) (aI U) (aI Q) (aI N)) hKp hk (fun j hj h => absurd (ax_ge hsq h) (by have := hab (13 + j) (by omega); show ¬ b 0 ≤ a (13 + j); omega))
      have hTx := keepO (ordTx cs (sh a 17) T lo hi_ X) hTx hk (fun j hj h => absurd (ax_ge hsq h) (by have := hab (17 + j) (by omega); show ¬ b 0 ≤ a (17 + j); omega))
      have hHi := keepO (ordHi cs (sh a 19) o n) hHi hk (fun j hj h => absurd (ax_ge hsq h) (by have := hab (19 + j) (by omega); show ¬ b 0 ≤ a (19 + j); omega))
      have hRg : ∀ i, i < 5 → va_P G vwCl (stW cs (sh a (21 + 8 * i)) (R i)) H := fun i hi => keepO (ordSt _ _ _) (hRg i hi) hk (fun j hj h => absurd (ax_ge hsq h) (by have := hab (21 + 8 * i + j) (by omega); show ¬ b 0 ≤ a (21 + 8 * i + j); omega))
      have hSn := keepO (ordSn cs (sh a 61) w k) hSn hk (fun j hj h => absurd (ax_ge hsq h) (by have := hab (61 + j) (by omega); show ¬ b 0 ≤ a (61 + j); omega))
      have hSw : ∀ i, i < 2 → k i = true → va_P G vwCl (stW cs (sh w (8 * i)) (V i)) H := fun i hi hk9 => keepO (ordSt _ _ _) (hSw i hi hk9) hk (fun j hj h => absurd (ax_ge hsq h) (by have := hwb i j hi hj hk9; show ¬ b 0 ≤ w (8 * i + j); omega))
      have hNew : va_P G vwCl (stW cs (sh b 0) S0) H := hNew'
      have hz : H.size = b 8 := hz'
      refine z_aastE hx hb hK.1 hSn (Ord.D (ordSn cs (sh a 61) w k) inj1) hS 0 4 0 4 rfl rfl hNew rfl rfl (by omega) (by decide) (Or.inl ⟨61, by decide, by decide, rfl⟩) dX6_keep_30 (fun H locs hP1 hle hk hS => ?_)
      have hz : H.size = b 8 := hle.trans hz
      have hXo := keepO (ordXo a) hXo hk (fun j hj h3 => absurd (ia j 61 (by omega) (by omega) h3) (by omega))
      have hPs := keepO (ordSt cs (sh a 1) S) hPs hk (fun j hj h3 => absurd (ia (1 + j) 61 (by omega) (by omega) h3) (by omega))
      have hPv := keepO (ordVi cs (sh a 9) ((sh a 1) 0) (aI F) (cB Fl) (cB Pt)) hPv hk (fun j hj h3 => absurd (ia (9 + j) 61 (by omega) (by omega) h3) (by omega))
      have hKp := keepO (ordPk cs (sh a 13) ((sh a 1) 0) (aI U) (aI Q) (aI N)) hKp hk (fun j hj h3 => absurd (ia (13 + j) 61 (by omega) (by omega) h3) (by omega))
      have hTx := keepO (ordTx cs (sh a 17) T lo hi_ X) hTx hk (fun j hj h3 => absurd (ia (17 + j) 61 (by omega) (by omega) h3) (by omega))
      have hHi := keepO (ordHi cs (sh a 19) o n) hHi hk (fun j hj h3 => absurd (ia (19 + j) 61 (by omega) (by omega) h3) (by omega))
      have hRg : ∀ i, i < 5 → va_P G vwCl (stW cs (sh a (21 + 8 * i)) (R i)) H := fun i hi => keepO (ordSt _ _ _) (hRg i hi) hk (fun j hj h3 => absurd (ia (21 + 8 * i + j) 61 (by omega) (by omega) h3) (by omega))
      have hSw : ∀ i, i < 2 → k i = true → va_P G vwCl (stW cs (sh w (8 * i)) (V i)) H := fun i hi hk9 => keepO (ordSt _ _ _) (hSw i hi hk9) hk (fun j hj h3 => absurd h3.symm (hsd.1 61 i j (by omega) hi hj hk9))
      have hNew := keepO (ordSt cs (sh b 0) S0) hNew hk (fun j hj h3 => absurd h3 (by have h8 := hab 61 (by decide); have h9 := seq_at hsq (0 + j); show ¬ b (0 + j) = a 61; omega))
      have hSn : va_P G vwCl (snW cs (sh a 61) (newW w b z.toNat) (updK k z.toNat)) H := (by
      show va_P G vwCl [((sh a 61) 0, .inl (cs 4, 2, .inr (.inr (.inr (.inr (nRow (newW w b z.toNat) (updK k z.toNat)))))))] H
      rw [← sn_row]; exact hP1)
      refine lv_aload_n hx hb dX6_keep_31 rfl (lv_at hl 0 rfl) ?_
      refine va_get (D := G) (ci := 6) (v := .ref ((sh a 61) 0)) (C := RX6) (T := TX6) (N := 6) hx hb hts hi6 hown hK.1 hXo 0 rfl rfl 5 (by decide) (hts (.fieldLink RX6 46 "SpriteLines" "snapshots" "[LSpriteLines$State;") (by decide +kernel)) (fun _ h9 => h9) rfl dX6_keep_32 ?_
      refine lv_iload_n hx hb dX6_keep_35 rfl (lv_at hl 1 rfl) ?_
      refine va_aldq hx hb hK.1 hSn 0 4 (f := nRow (newW w b z.toNat) (updK k z.toNat)) rfl rfl (zI_in (by omega) (by decide)) dX6_keep_36 ?_
      rw [zI_clamp (by omega)]
      refine z_top (v' := .ref ((sh b 0) 0)) (by unfold nRow; rw [if_pos updK_s]; exact congrArg Value.ref (newW_in (w := w) (b := b) (z := z.toNat) (j := 0) (by decide))) ?_
      refine lv_aload_n hx hb dX6_keep_37 rfl (lv_at hl 0 rfl) ?_
      refine va_get (D := G) (ci := 6) (v := .ref ((sh a 1) 0)) (C := RX6) (T := TX6) (N := 6) hx hb hts hi6 hown hK.1 hXo 0 rfl rfl 0 (by decide) (hts (.fieldLink RX6 10 "SpriteLines" "now" "LSpriteLines$State;") (by decide +kernel)) (fun _ h9 => h9) rfl dX6_keep_38 ?_
      refine z_v (zrV (As := [.ref ((sh a 1) 0)]) (rest := []) (Pw := fun H => va_P G vwCl (stW cs (sh b 0) S0) H ∧ va_P G vwCl (stW cs (sh a 1) S) H) ⟨hx, hb, hml, hown, hts⟩ (c_X4_copyFrom l G cs (sh b 0) S0 (sh a 1) S (seq_inj (seq_sh hsq 0) 8) (fun i j hi hj h3 => by have h8 := hab (1 + j) (by omega); have h9 := seq_at hsq (0 + i); have h7 : b (0 + i) = a (1 + j) := h3; omega)) gX6_keep_X4_copyFrom rfl qX4_copyFrom rfl rfl ⟨Nat.le_of_ble_eq_true rfl, Nat.le_of_ble_eq_true rfl⟩ ⟨hNew, hPs⟩ hK (va_recv hK.1 hNew (ci := 4) (q0 := 0) rfl rfl) hl.1 rfl (Nat.le_of_ble_eq_true rfl) dX6_keep_41 ⟨Nat.le_of_ble_eq_true rfl, Nat.le_of_ble_eq_true rfl⟩) hS (fun q h => Or.inr (Or.inr (ax_ge hsq h))) (fun q h => Or.inr (Or.inr (ax_ge hsq h))) (fun H locs hpost hle hk hS => ?_)
      have hNew' := hpost
      have hXo := keepO (ordXo a) hXo hk (fun j hj h => absurd (ax_ge hsq h) (by have := hab (j) (by omega); show ¬ b 0 ≤ a (j); omega))
      have hPs := keepO (ordSt cs (sh a 1) S) hPs hk (fun j hj h => absurd (ax_ge hsq h) (by have := hab (1 + j) (by omega); show ¬ b 0 ≤ a (1 + j); omega))
      have hPv := keepO (ordVi cs (sh a 9) ((sh a 1) 0) (aI F) (cB Fl) (cB Pt)) hPv hk (fun j hj h => absurd (ax_ge hsq h) (by have := hab (9 + j) (by omega); show ¬ b 0 ≤ a (9 + j); omega))
      have hKp := keepO (ordPk cs (sh a 13) ((sh a 1) 0) (aI U) (aI Q) (aI N)) hKp hk (fun j hj h => absurd (ax_ge hsq h) (by have := hab (13 + j) (by omega); show ¬ b 0 ≤ a (13 + j); omega))
      have hTx := keepO (ordTx cs (sh a 17) T lo hi_ X) hTx hk (fun j hj h => absurd (ax_ge hsq h) (by have := hab (17 + j) (by omega); show ¬ b 0 ≤ a (17 + j); omega))
      have hHi := keepO (ordHi cs (sh a 19) o n) hHi hk (fun j hj h => absurd (ax_ge hsq h) (by have := hab (19 + j) (by omega); show ¬ b 0 ≤ a (19 + j); omega))
      have hRg : ∀ i, i < 5 → va_P G vwCl (stW cs (sh a (21 + 8 * i)) (R i)) H := fun i hi => keepO (ordSt _ _ _) (hRg i hi) hk (fun j hj h => absurd (ax_ge hsq h) (by have := hab (21 + 8 * i + j) (by omega); show ¬ b 0 ≤ a (21 + 8 * i + j); omega))
      have hSn := keepO (ordSn cs (sh a 61) (newW w b z.toNat) (updK k z.toNat)) hSn hk (fun j hj h => absurd (ax_ge hsq h) (by have := hab (61 + j) (by omega); show ¬ b 0 ≤ a (61 + j); omega))
      have hSw : ∀ i, i < 2 → k i = true → va_P G vwCl (stW cs (sh w (8 * i)) (V i)) H := fun i hi hk9 => keepO (ordSt _ _ _) (hSw i hi hk9) hk (fun j hj h => absurd (ax_ge hsq h) (by have := hwb i j hi hj hk9; show ¬ b 0 ≤ w (8 * i + j); omega))
      have hNew : va_P G vwCl (stW cs (sh b 0) S) H := hNew'
      refine lv_aload_n hx hb dX6_keep_44 rfl (lv_at hl 0 rfl) ?_
      refine va_get (D := G) (ci := 6) (v := .ref ((sh a 1) 0)) (C := RX6) (T := TX6) (N := 6) hx hb hts hi6 hown hK.1 hXo 0 rfl rfl 0 (by decide) (hts (.fieldLink RX6 10 "SpriteLines" "now" "LSpriteLines$State;") (by decide +kernel)) (fun _ h9 => h9) rfl dX6_keep_45 ?_
      refine va_get (D := G) (ci := 4) (v := .int (zI (S 0 4))) (C := RX4) (T := TX4) (N := 9) hx hb hts hi4 hown hK.1 hPs 0 rfl rfl 0 (by decide) (hts (.fieldLink RX6 163 "SpriteLines$State" "frame" "I") (by decide +kernel)) (fun _ h9 => h9) rfl dX6_keep_48 ?_
      refine W.widen (k := 8) (n := 260) (by decide) (by decide) ?_
      exact w_iret hx hb hr hlk dX6_keep_51 hS (by
      rw [show keepF (S, (n, L), (tl, X), (k, V)) z = _ from by unfold keepF; rw [if_neg (show ¬ (¬ (0 ≤ z ∧ z < 2)) by omega)]]
      exact ⟨rfl, newW w b z.toNat, snd_new hsd hsq hab hwb, ⟨F, Fl, Pt, U, Q, N, T, lo, hi_, o, R, ⟨hTF, hT0⟩, ⟨ho, hRing⟩, hXo, hPs, hPv, hKp, hTx, hHi, hRg, hSn, fun i hi hk9 => by
        show va_P G vwCl (stW cs (sh (newW w b z.toNat) (8 * i)) (updT V z.toNat S i)) H
        by_cases e : i = z.toNat
        · subst e; rw [updT_s]; exact st_move (b2 := sh b 0) (fun j hj => (newW_in (w := w) (b := b) (z := z.toNat) hj).trans (congrArg b (Nat.zero_add j).symm)) hNew
        · rw [updT_n e]; have hk9 : updK k z.toNat i = true := hk9; rw [updK_n e] at hk9; exact st_move (b2 := sh w (8 * i)) (fun j hj => newW_out hj e) (hSw i hi hk9)⟩, wn_new hsq⟩)
  · skip
    simp only [decide_eq_true_eq] at c1
    refine z_iconst (n := -1) hx hb dX6_keep_7 ?_
    refine W.widen (k := 8) (n := 260) (by decide) (by decide) ?_
    exact w_iret hx hb hr hlk dX6_keep_8 hS (by rw [show keepF (S, (n, L), (tl, X), (k, V)) z = _ from by unfold keepF; rw [if_pos (show ¬ (0 ≤ z ∧ z < 2) by omega)]]; exact ⟨rfl, w, hsd, ⟨F, Fl, Pt, U, Q, N, T, lo, hi_, o, R, ⟨hTF, hT0⟩, ⟨ho, hRing⟩, hXo, hPs, hPv, hKp, hTx, hHi, hRg, hSn, hSw⟩, wn_id⟩)
