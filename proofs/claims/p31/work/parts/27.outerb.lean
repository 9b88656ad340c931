theorem fault_r {T X : Int → Int} (h : TF T) : -5 ≤ faultF T X ∧ faultF T X ≤ 60 := by
  have h0 := h.1
  unfold faultF
  rcases ff_cases (fun k => !(takesF (rdS T X k.toNat) (X k)).1) 0 (T 0).toNat with ⟨j, h1, h2, -, -, h5⟩ | ⟨-, h5⟩
  · rw [h5, if_neg (by omega)]
    omega
  · rw [h5, if_pos rfl]
    split <;> omega
theorem vals_r {S : SS} {t : Int} (h : WF S) : 0 ≤ valsF S t ∧ valsF S t ≤ 24 := by
  have := h.1
  unfold valsF
  repeat' split
  all_goals omega
theorem part_at {S : SS} {fr x t : Int} (h : x ≠ t) (hx : 0 ≤ x ∧ x < S 0 1) (ht : 0 ≤ t ∧ t < S 0 1) : partB S fr 32 x t.toNat = meetB S fr x t := by
  unfold partB
  rw [show ((t.toNat : Nat) : Int) = t by omega, decide_eq_true ⟨h, hx.2, ht.2⟩]
  rfl
set_option maxHeartbeats 4000000 in
set_option maxRecDepth 100000 in
theorem c_X6_draw (l : Launch) (G : va_G) (cs : Nat → ClassId) (a w : Nat → Nat) (S : SS) (n : Int) (L : Nat → SS) (tl : Int) (X : Int → Int) (k : Nat → Bool) (V : Nat → SS) (q : Int) (ia : Inj a 62) (hsd : SnD a w k) (hA : AWF (S, (n, L), (tl, X), (k, V))) (r_q : -2147483648 ≤ q ∧ q < 2147483648) : MW l yX6_draw wsX6_draw { frames := 4, cells := 0, slots := 0, locals := 123 } G cs [.ref (a 0), .int (zI q)] (fun H => XI G cs a w (S, (n, L), (tl, X), (k, V)) H) (fun vv H => vv = .int (zI (drawF (S, (n, L), (tl, X), (k, V)) q).1) ∧ XI G cs a w (drawF (S, (n, L), (tl, X), (k, V)) q).2 H) (AX a 0 62) 0 0 := by
  refine m_intro (Pw := (fun H => XI G cs a w (S, (n, L), (tl, X), (k, V)) H)) (cc := cX6_draw) (maxL := 4) (ret := some .int) RX6 (by decide) rfl rfl (Nat.le_of_ble_eq_true rfl) ?_
  intro pP eE sS mM below meth cC hx hb hr hts hown hml hlk hnm hPre hK ls hl
  have hl : lv_has ls 4 [(0, .ref (a 0)), (1, .int (zI q))] := hl
  have hXI := hPre
  have hS : va_S (AX a 0 62) sS.heap sS.heap [] := va_S.rf
  have hi2 : ∀ w ∈ u_ws RX2 TX2 9, w ∈ wsX6_draw := by decide +kernel
  have hi4 : ∀ w ∈ u_ws RX4 TX4 9, w ∈ wsX6_draw := by decide +kernel
  have hi6 : ∀ w ∈ u_ws RX6 TX6 6, w ∈ wsX6_draw := by decide +kernel
  obtain ⟨F, Fl, Pt, U, Q, N, T, lo, hi_, o, R, ⟨hTF, hT0⟩, ⟨ho, hRing⟩, hXo, hPs, hPv, hKp, hTx, hHi, hRg, hSn, hSw⟩ := hXI
  obtain ⟨wf, ⟨hn, hL9⟩, ⟨htl, hX⟩, hV9⟩ := hA
  have hT0 : T 0 = tl := hT0
  have hRing : ∀ i : Nat, (i : Int) < n → R ((o + i) % 5).toNat = L i := hRing
  have wf : WF S := wf
  have hn : 0 ≤ n ∧ n ≤ 5 := hn
  have htl : 0 ≤ tl ∧ tl ≤ 60 := htl
  have hX : ∀ j, 0 ≤ j → j < 60 → 0 ≤ X j ∧ X j < 65536 := hX
  have hXo : va_P G vwCl (xoW a) sS.heap := hXo
  have hPs : va_P G vwCl (stW cs (sh a 1) S) sS.heap := hPs
  have hPv : va_P G vwCl (viW cs (sh a 9) ((sh a 1) 0) (aI F) (cB Fl) (cB Pt)) sS.heap := hPv
  have hKp : va_P G vwCl (pkW cs (sh a 13) ((sh a 1) 0) (aI U) (aI Q) (aI N)) sS.heap := hKp
  have hTx : va_P G vwCl (txW cs (sh a 17) T lo hi_ X) sS.heap := hTx
  have hHi : va_P G vwCl (hiW cs (sh a 19) o n) sS.heap := hHi
  have hRg : ∀ i, i < 5 → va_P G vwCl (stW cs (sh a (21 + 8 * i)) (R i)) sS.heap := hRg
  have hSn : va_P G vwCl (snW cs (sh a 61) w k) sS.heap := hSn
  have hSw : ∀ i, i < 2 → k i = true → va_P G vwCl (stW cs (sh w (8 * i)) (V i)) sS.heap := hSw
  have wf0 := wf
  obtain ⟨w0, w1, w2, w3, w4, wP, wC, wS, wX⟩ := wf
  have ia1 := inj_sh (k := 1) (w := 8) ia (by decide)
  refine lv_aload_n hx hb dX6_draw_0 rfl (lv_at hl 0 rfl) ?_
  refine lv_iload_n hx hb dX6_draw_1 rfl (lv_at hl 1 rfl) ?_
  refine z_ro (zrV (As := [.int (zI q)]) (rest := []) (Pw := fun H => va_P G vwCl (xoW a) H ∧ va_P G vwCl (stW cs (sh a 1) S) H) ⟨hx, hb, hml, hown, hts⟩ (c_X6_isNoPart l G cs a S q wf0 (by omega)) gX6_draw_X6_isNoPart rfl qX6_isNoPart rfl rfl ⟨Nat.le_of_ble_eq_true rfl, Nat.le_of_ble_eq_true rfl⟩ ⟨hXo, hPs⟩ hK (va_recv hK.1 hXo (ci := 6) (q0 := 0) rfl rfl) hl.1 rfl (Nat.le_of_ble_eq_true rfl) dX6_draw_2 ⟨Nat.le_of_ble_eq_true rfl, Nat.le_of_ble_eq_true rfl⟩) ?_
  refine z_bif_eq (tgt := 10) hx hb dX6_draw_5 (by decide) (fun c1 => ?_) (fun c1 => ?_)
  · skip
    simp only [decide_eq_false_iff_not] at c1
    refine lv_aload_n hx hb dX6_draw_10 rfl (lv_at hl 0 rfl) ?_
    refine va_get (D := G) (ci := 6) (v := .ref ((sh a 17) 0)) (C := RX6) (T := TX6) (N := 6) hx hb hts hi6 hown hK.1 hXo 0 rfl rfl 3 (by decide) (hts (.fieldLink RX6 35 "SpriteLines" "text" "LSpriteLines$PixelText;") (by decide +kernel)) (fun _ h9 => h9) rfl dX6_draw_11 ?_
    have hfe : faultF T X = faultF (tlT tl) X := fault_rt T (tlT tl) X hT0
    have hfr := fault_r (X := X) (tlT_TF htl)
    refine z_w (zrV (As := []) (rest := []) ⟨hx, hb, hml, hown, hts⟩ (c_X2_read l G cs a T lo hi_ X ia hTF hX) gX6_draw_X2_read rfl qX2_read rfl rfl ⟨Nat.le_of_ble_eq_true rfl, Nat.le_of_ble_eq_true rfl⟩ hTx hK (va_recv hK.1 hTx (ci := 2) (q0 := 0) rfl rfl) hl.1 rfl (Nat.le_of_ble_eq_true rfl) dX6_draw_14 ⟨Nat.le_of_ble_eq_true rfl, Nat.le_of_ble_eq_true rfl⟩) hS (fun q h => ax_mono h (by decide) (by decide)) (fun q h => ax_mono h (by decide) (by decide)) (fun v H locs hpost hle hk hS => ?_)
    obtain ⟨P, rfl, hP1_, hP2_, hP3_, hTx'⟩ := hpost
    have hXo := keepO (ordXo a) hXo hk (fun j hj ⟨i, h1, h2, h3⟩ => absurd (ia j i (by omega) (by omega) h3) (by omega))
    have hPs := keepO (ordSt cs (sh a 1) S) hPs hk (fun j hj ⟨i, h1, h2, h3⟩ => absurd (ia (1 + j) i (by omega) (by omega) h3) (by omega))
    have hPv := keepO (ordVi cs (sh a 9) ((sh a 1) 0) (aI F) (cB Fl) (cB Pt)) hPv hk (fun j hj ⟨i, h1, h2, h3⟩ => absurd (ia (9 + j) i (by omega) (by omega) h3) (by omega))
    have hKp := keepO (ordPk cs (sh a 13) ((sh a 1) 0) (aI U) (aI Q) (aI N)) hKp hk (fun j hj ⟨i, h1, h2, h3⟩ => absurd (ia (13 + j) i (by omega) (by omega) h3) (by omega))
    have hHi := keepO (ordHi cs (sh a 19) o n) hHi hk (fun j hj ⟨i, h1, h2, h3⟩ => absurd (ia (19 + j) i (by omega) (by omega) h3) (by omega))
    have hRg : ∀ i, i < 5 → va_P G vwCl (stW cs (sh a (21 + 8 * i)) (R i)) H := fun i hi => keepO (ordSt _ _ _) (hRg i hi) hk (fun j hj ⟨i', h1, h2, h3⟩ => absurd (ia (21 + 8 * i + j) i' (by omega) (by omega) h3) (by omega))
    have hSn := keepO (ordSn cs (sh a 61) w k) hSn hk (fun j hj ⟨i, h1, h2, h3⟩ => absurd (ia (61 + j) i (by omega) (by omega) h3) (by omega))
    have hSw : ∀ i, i < 2 → k i = true → va_P G vwCl (stW cs (sh w (8 * i)) (V i)) H := fun i hi hk9 => keepO (ordSt _ _ _) (hSw i hi hk9) hk (fun j hj ⟨i', h1, h2, h3⟩ => absurd h3.symm (hsd.1 i' i j (by omega) hi hj hk9))
    have hTx : va_P G vwCl (txW cs (sh a 17) P.1 P.2.1 P.2.2 X) H := hTx'
    refine z_topi (b := faultF (tlT tl) X) hfe ?_
    refine lv_istore_n (lv' := [(2, .int (zI (faultF (tlT tl) X))), (0, .ref (a 0)), (1, .int (zI q))]) hx hb dX6_draw_17 rfl hl (by decide) rfl (fun ls hl => ?_)
    refine lv_iload_n hx hb dX6_draw_18 rfl (lv_at hl 0 rfl) ?_
    refine z_bipush (n := -5) hx hb dX6_draw_19 (by decide) ?_
    refine z_icmp_eq (tgt := 29) hx hb dX6_draw_21 (by decide) (by omega) (by omega) (fun c2 => ?_) (fun c2 => ?_)
    · skip
      refine lv_aload_n hx hb dX6_draw_29 rfl (lv_at hl 1 rfl) ?_
      refine va_get (D := G) (ci := 6) (v := .ref ((sh a 19) 0)) (C := RX6) (T := TX6) (N := 6) hx hb hts hi6 hown hK.1 hXo 0 rfl rfl 4 (by decide) (hts (.fieldLink RX6 42 "SpriteLines" "history" "LSpriteLines$History;") (by decide +kernel)) (fun _ h9 => h9) rfl dX6_draw_30 ?_
      refine lv_aload_n hx hb dX6_draw_33 rfl (lv_at hl 1 rfl) ?_
      refine va_get (D := G) (ci := 6) (v := .ref ((sh a 1) 0)) (C := RX6) (T := TX6) (N := 6) hx hb hts hi6 hown hK.1 hXo 0 rfl rfl 0 (by decide) (hts (.fieldLink RX6 10 "SpriteLines" "now" "LSpriteLines$State;") (by decide +kernel)) (fun _ h9 => h9) rfl dX6_draw_34 ?_
      refine z_v (zrV (As := [.ref ((sh a 1) 0)]) (rest := []) (Pw := fun H => va_P G vwCl (stW cs (sh a 1) S) H ∧ va_P G vwCl (hiW cs (sh a 19) o n) H ∧ ∀ i, i < 5 → va_P G vwCl (stW cs (sh a (21 + 8 * i)) (R i)) H) ⟨hx, hb, hml, hown, hts⟩ (c_X0_remember l G cs a S o n R ia (by omega) (by omega)) gX6_draw_X0_remember rfl qX0_remember rfl rfl ⟨Nat.le_of_ble_eq_true rfl, Nat.le_of_ble_eq_true rfl⟩ ⟨hPs, hHi, hRg⟩ hK (va_recv hK.1 hHi (ci := 0) (q0 := 0) rfl rfl) hl.1 rfl (Nat.le_of_ble_eq_true rfl) dX6_draw_37 ⟨Nat.le_of_ble_eq_true rfl, Nat.le_of_ble_eq_true rfl⟩) hS (fun q h => ax_mono h (by decide) (by decide)) (fun q h => ax_mono h (by decide) (by decide)) (fun H locs hpost hle hk hS => ?_)
      obtain ⟨hHi', hRg'⟩ := hpost
      have hXo := keepO (ordXo a) hXo hk (fun j hj ⟨i, h1, h2, h3⟩ => absurd (ia j i (by omega) (by omega) h3) (by omega))
      have hPs := keepO (ordSt cs (sh a 1) S) hPs hk (fun j hj ⟨i, h1, h2, h3⟩ => absurd (ia (1 + j) i (by omega) (by omega) h3) (by omega))
      have hPv := keepO (ordVi cs (sh a 9) ((sh a 1) 0) (aI F) (cB Fl) (cB Pt)) hPv hk (fun j hj ⟨i, h1, h2, h3⟩ => absurd (ia (9 + j) i (by omega) (by omega) h3) (by omega))
      have hKp := keepO (ordPk cs (sh a 13) ((sh a 1) 0) (aI U) (aI Q) (aI N)) hKp hk (fun j hj ⟨i, h1, h2, h3⟩ => absurd (ia (13 + j) i (by omega) (by omega) h3) (by omega))
      have hTx := keepO (ordTx cs (sh a 17) P.1 P.2.1 P.2.2 X) hTx hk (fun j hj ⟨i, h1, h2, h3⟩ => absurd (ia (17 + j) i (by omega) (by omega) h3) (by omega))
      have hSn := keepO (ordSn cs (sh a 61) w k) hSn hk (fun j hj ⟨i, h1, h2, h3⟩ => absurd (ia (61 + j) i (by omega) (by omega) h3) (by omega))
      have hSw : ∀ i, i < 2 → k i = true → va_P G vwCl (stW cs (sh w (8 * i)) (V i)) H := fun i hi hk9 => keepO (ordSt _ _ _) (hSw i hi hk9) hk (fun j hj ⟨i', h1, h2, h3⟩ => absurd h3.symm (hsd.1 i' i j (by omega) hi hj hk9))
      have hHi : va_P G vwCl (hiW cs (sh a 19) (remO o n) (remN n)) H := hHi'
      have hRg : ∀ i, i < 5 → va_P G vwCl (stW cs (sh a (21 + 8 * i)) ((updT R ((o + n) % 5).toNat S) i)) H := hRg'
      refine lv_aload_n hx hb dX6_draw_40 rfl (lv_at hl 1 rfl) ?_
      refine va_get (D := G) (ci := 6) (v := .ref ((sh a 17) 0)) (C := RX6) (T := TX6) (N := 6) hx hb hts hi6 hown hK.1 hXo 0 rfl rfl 3 (by decide) (hts (.fieldLink RX6 35 "SpriteLines" "text" "LSpriteLines$PixelText;") (by decide +kernel)) (fun _ h9 => h9) rfl dX6_draw_41 ?_
      refine va_get (D := G) (ci := 2) (v := .int (zI (P.1 1))) (C := RX2) (T := TX2) (N := 9) hx hb hts hi2 hown hK.1 hTx 0 rfl rfl 4 (by decide) (hts (.fieldLink RX6 93 "SpriteLines$PixelText" "row" "I") (by decide +kernel)) (fun _ h9 => h9) rfl dX6_draw_44 ?_
      refine z_iconst (n := 1) hx hb dX6_draw_47 ?_
      refine z_iadd hx hb dX6_draw_48 ?_
      refine lv_istore_n (lv' := [(3, .int (zI ((P.1 1) + 1))), (2, .int (zI (faultF (tlT tl) X))), (0, .ref (a 0)), (1, .int (zI q))]) hx hb dX6_draw_49 rfl hl (by decide) rfl (fun ls hl => ?_)
      refine lv_aload_n hx hb dX6_draw_50 rfl (lv_at hl 2 rfl) ?_
      refine va_get (D := G) (ci := 6) (v := .ref ((sh a 1) 0)) (C := RX6) (T := TX6) (N := 6) hx hb hts hi6 hown hK.1 hXo 0 rfl rfl 0 (by decide) (hts (.fieldLink RX6 10 "SpriteLines" "now" "LSpriteLines$State;") (by decide +kernel)) (fun _ h9 => h9) rfl dX6_draw_51 ?_
      refine va_get (D := G) (ci := 4) (v := .ref ((sh a 1) 1)) (C := RX4) (T := TX4) (N := 9) hx hb hts hi4 hown hK.1 hPs 0 rfl rfl 4 (by decide) (hts (.fieldLink RX6 50 "SpriteLines$State" "sheet" "LSpriteLines$Sheet;") (by decide +kernel)) (fun _ h9 => h9) rfl dX6_draw_54 ?_
      refine lv_iload_n hx hb dX6_draw_57 rfl (lv_at hl 3 rfl) ?_
      refine lv_iload_n hx hb dX6_draw_58 rfl (lv_at hl 0 rfl) ?_
      refine lv_aload_n hx hb dX6_draw_59 rfl (lv_at hl 2 rfl) ?_
      refine va_get (D := G) (ci := 6) (v := .ref ((sh a 17) 0)) (C := RX6) (T := TX6) (N := 6) hx hb hts hi6 hown hK.1 hXo 0 rfl rfl 3 (by decide) (hts (.fieldLink RX6 35 "SpriteLines" "text" "LSpriteLines$PixelText;") (by decide +kernel)) (fun _ h9 => h9) rfl dX6_draw_60 ?_
      refine va_get (D := G) (ci := 2) (v := .long (lB P.2.1)) (C := RX2) (T := TX2) (N := 9) hx hb hts hi2 hown hK.1 hTx 0 rfl rfl 2 (by decide) (hts (.fieldLink RX6 96 "SpriteLines$PixelText" "low" "J") (by decide +kernel)) (fun _ h9 => h9) rfl dX6_draw_63 ?_
      refine lv_aload_n hx hb dX6_draw_66 rfl (lv_at hl 2 rfl) ?_
      refine va_get (D := G) (ci := 6) (v := .ref ((sh a 17) 0)) (C := RX6) (T := TX6) (N := 6) hx hb hts hi6 hown hK.1 hXo 0 rfl rfl 3 (by decide) (hts (.fieldLink RX6 35 "SpriteLines" "text" "LSpriteLines$PixelText;") (by decide +kernel)) (fun _ h9 => h9) rfl dX6_draw_67 ?_
      refine va_get (D := G) (ci := 2) (v := .long (lB P.2.2)) (C := RX2) (T := TX2) (N := 9) hx hb hts hi2 hown hK.1 hTx 0 rfl rfl 3 (by decide) (hts (.fieldLink RX6 100 "SpriteLines$PixelText" "high" "J") (by decide +kernel)) (fun _ h9 => h9) rfl dX6_draw_70 ?_
      have hPE := hP3_ (hfe.trans (by omega))
      have hre := read_eq hTF hT0 (hfe.trans (by omega))
      have e1 : P.1 1 = (rdS (tlT tl) X tl.toNat).1 1 := by rw [hPE]; exact hre.1
      have e2 : P.2 = (rdS (tlT tl) X tl.toNat).2 := by rw [hPE]; exact hre.2.1
      have t1 := hP1_.2.1
      refine z_v (zrV (As := [.int (zI q), .int (zI ((P.1 1) + 1)), .long (lB P.2.1), .long (lB P.2.2)]) (rest := []) ⟨hx, hb, hml, hown, hts⟩ (c_X3_putRows l G cs (sh a 1) S q ((P.1 1) + 1) P.2.1 P.2.2 ia1 wf0 (by omega) (by omega) (fun k hk => by rw [hPE] at hk ⊢; exact hre.2.2 k hk)) gX6_draw_X3_putRows rfl qX3_putRows rfl rfl ⟨Nat.le_of_ble_eq_true rfl, Nat.le_of_ble_eq_true rfl⟩ hPs hK (va_recv hK.1 hPs (ci := 3) (q0 := 1) rfl rfl) hl.1 rfl (Nat.le_of_ble_eq_true rfl) dX6_draw_73 ⟨Nat.le_of_ble_eq_true rfl, Nat.le_of_ble_eq_true rfl⟩) hS (fun q h => ax_mono (ax_sh h) (by decide) (by decide)) (fun q h => ax_mono (ax_sh h) (by decide) (by decide)) (fun H locs hpost hle hk hS => ?_)
      have hPs' := hpost
      have hXo := keepO (ordXo a) hXo hk (fun j hj ⟨i, h1, h2, h3⟩ => absurd (ia j (1 + i) (by omega) (by omega) h3) (by omega))
      have hPv := keepO (ordVi cs (sh a 9) ((sh a 1) 0) (aI F) (cB Fl) (cB Pt)) hPv hk (fun j hj ⟨i, h1, h2, h3⟩ => absurd (ia (9 + j) (1 + i) (by omega) (by omega) h3) (by omega))
      have hKp := keepO (ordPk cs (sh a 13) ((sh a 1) 0) (aI U) (aI Q) (aI N)) hKp hk (fun j hj ⟨i, h1, h2, h3⟩ => absurd (ia (13 + j) (1 + i) (by omega) (by omega) h3) (by omega))
      have hTx := keepO (ordTx cs (sh a 17) P.1 P.2.1 P.2.2 X) hTx hk (fun j hj ⟨i, h1, h2, h3⟩ => absurd (ia (17 + j) (1 + i) (by omega) (by omega) h3) (by omega))
      have hHi := keepO (ordHi cs (sh a 19) (remO o n) (remN n)) hHi hk (fun j hj ⟨i, h1, h2, h3⟩ => absurd (ia (19 + j) (1 + i) (by omega) (by omega) h3) (by omega))
      have hRg : ∀ i, i < 5 → va_P G vwCl (stW cs (sh a (21 + 8 * i)) ((updT R ((o + n) % 5).toNat S) i)) H := fun i hi => keepO (ordSt _ _ _) (hRg i hi) hk (fun j hj ⟨i', h1, h2, h3⟩ => absurd (ia (21 + 8 * i + j) (1 + i') (by omega) (by omega) h3) (by omega))
      have hSn := keepO (ordSn cs (sh a 61) w k) hSn hk (fun j hj ⟨i, h1, h2, h3⟩ => absurd (ia (61 + j) (1 + i) (by omega) (by omega) h3) (by omega))
      have hSw : ∀ i, i < 2 → k i = true → va_P G vwCl (stW cs (sh w (8 * i)) (V i)) H := fun i hi hk9 => keepO (ordSt _ _ _) (hSw i hi hk9) hk (fun j hj ⟨i', h1, h2, h3⟩ => absurd h3.symm (hsd.1 (1 + i') i j (by omega) hi hj hk9))
      have hPs : va_P G vwCl (stW cs (sh a 1) (up2 S 5 (putRw (S 5) q (8 * ((P.1 1) + 1)) P.2.1 P.2.2))) H := hPs'
      have hPs : va_P G vwCl (stW cs (sh a 1) (up2 S 5 (putRw (S 5) q (8 * ((rdS (tlT tl) X tl.toNat).1 1 + 1)) (rdS (tlT tl) X tl.toNat).2.1 (rdS (tlT tl) X tl.toNat).2.2))) H := (by rw [e1, e2] at hPs; exact hPs)
      refine lv_iload_n hx hb dX6_draw_76 rfl (lv_at hl 0 rfl) ?_
      refine z_topi (b := (rdS (tlT tl) X tl.toNat).1 1 + 1) (by rw [e1]) ?_
      exact w_iret hx hb hr hlk dX6_draw_77 hS (by rw [show drawF (S, (n, L), (tl, X), (k, V)) q = _ from by unfold drawF; rw [if_neg (show ¬ (¬ (0 ≤ q ∧ q < S 0 0)) by omega), if_neg (show ¬ faultF (tlT tl) X ≠ -5 from fun h9 => h9 c2)]]; exact ⟨rfl, ⟨F, Fl, Pt, U, Q, N, P.1, P.2.1, P.2.2, remO o n, updT R ((o + n) % 5).toNat S, ⟨hP1_, hP2_.trans hT0⟩, (ring_rem ⟨ho, hRing⟩ hn), hXo, hPs, hPv, hKp, hTx, hHi, hRg, hSn, hSw⟩⟩)
    · skip
      refine z_bipush (n := -100) hx hb dX6_draw_24 (by decide) ?_
      refine lv_iload_n hx hb dX6_draw_26 rfl (lv_at hl 0 rfl) ?_
      refine z_isub hx hb dX6_draw_27 ?_
      exact w_iret hx hb hr hlk dX6_draw_28 hS (by rw [show drawF (S, (n, L), (tl, X), (k, V)) q = _ from by unfold drawF; rw [if_neg (show ¬ (¬ (0 ≤ q ∧ q < S 0 0)) by omega), if_pos (show faultF (tlT tl) X ≠ -5 from c2)]]; exact ⟨rfl, ⟨F, Fl, Pt, U, Q, N, P.1, P.2.1, P.2.2, o, R, ⟨hP1_, hP2_.trans hT0⟩, ⟨ho, hRing⟩, hXo, hPs, hPv, hKp, hTx, hHi, hRg, hSn, hSw⟩⟩)
  · skip
    simp only [decide_eq_true_eq] at c1
    refine z_iconst (n := -1) hx hb dX6_draw_8 ?_
    exact w_iret hx hb hr hlk dX6_draw_9 hS (by rw [show drawF (S, (n, L), (tl, X), (k, V)) q = _ from by unfold drawF; rw [if_pos (show ¬ (0 ≤ q ∧ q < S 0 0) by omega)]]; exact ⟨rfl, ⟨F, Fl, Pt, U, Q, N, T, lo, hi_, o, R, ⟨hTF, hT0⟩, ⟨ho, hRing⟩, hXo, hPs, hPv, hKp, hTx, hHi, hRg, hSn, hSw⟩⟩)

set_option maxHeartbeats 4000000 in
set_option maxRecDepth 100000 in
theorem c_X6_pack (l : Launch) (G : va_G) (cs : Nat → ClassId) (a w : Nat → Nat) (S : SS) (n : Int) (L : Nat → SS) (tl : Int) (X : Int → Int) (k : Nat → Bool) (V : Nat → SS) (rm : Int) (ia : Inj a 62) (hsd : SnD a w k) (hA : AWF (S, (n, L), (tl, X), (k, V))) (hrm : rm = 0 ∨ rm = 1) : MW l yX6_pack wsX6_pack { frames := 5, cells := 0, slots := 0, locals := 123 } G cs [.ref (a 0), .int (zI rm)] (fun H => XI G cs a w (S, (n, L), (tl, X), (k, V)) H) (fun vv H => vv = .int (zI (packF (S, (n, L), (tl, X), (k, V)) rm).1) ∧ XI G cs a w (packF (S, (n, L), (tl, X), (k, V)) rm).2 H) (AX a 0 62) 0 0 := by
  refine m_intro (Pw := (fun H => XI G cs a w (S, (n, L), (tl, X), (k, V)) H)) (cc := cX6_pack) (maxL := 3) (ret := some .int) RX6 (by decide) rfl rfl (Nat.le_of_ble_eq_true rfl) ?_
  intro pP eE sS mM below meth cC hx hb hr hts hown hml hlk hnm hPre hK ls hl
  have hl : lv_has ls 3 [(0, .ref (a 0)), (1, .int (zI rm))] := hl
  have hXI := hPre
  have hS : va_S (AX a 0 62) sS.heap sS.heap [] := va_S.rf
  have hi6 : ∀ w ∈ u_ws RX6 TX6 6, w ∈ wsX6_pack := by decide +kernel
  obtain ⟨F, Fl, Pt, U, Q, N, T, lo, hi_, o, R, ⟨hTF, hT0⟩, ⟨ho, hRing⟩, hXo, hPs, hPv, hKp, hTx, hHi, hRg, hSn, hSw⟩ := hXI
  obtain ⟨wf, ⟨hn, hL9⟩, ⟨htl, hX⟩, hV9⟩ := hA
  have hT0 : T 0 = tl := hT0
  have hRing : ∀ i : Nat, (i : Int) < n → R ((o + i) % 5).toNat = L i := hRing
  have wf : WF S := wf
  have hn : 0 ≤ n ∧ n ≤ 5 := hn
  have htl : 0 ≤ tl ∧ tl ≤ 60 := htl
  have hX : ∀ j, 0 ≤ j → j < 60 → 0 ≤ X j ∧ X j < 65536 := hX
  have hXo : va_P G vwCl (xoW a) sS.heap := hXo
  have hPs : va_P G vwCl (stW cs (sh a 1) S) sS.heap := hPs
  have hPv : va_P G vwCl (viW cs (sh a 9) ((sh a 1) 0) (aI F) (cB Fl) (cB Pt)) sS.heap := hPv
  have hKp : va_P G vwCl (pkW cs (sh a 13) ((sh a 1) 0) (aI U) (aI Q) (aI N)) sS.heap := hKp
  have hTx : va_P G vwCl (txW cs (sh a 17) T lo hi_ X) sS.heap := hTx
  have hHi : va_P G vwCl (hiW cs (sh a 19) o n) sS.heap := hHi
  have hRg : ∀ i, i < 5 → va_P G vwCl (stW cs (sh a (21 + 8 * i)) (R i)) sS.heap := hRg
  have hSn : va_P G vwCl (snW cs (sh a 61) w k) sS.heap := hSn
  have hSw : ∀ i, i < 2 → k i = true → va_P G vwCl (stW cs (sh w (8 * i)) (V i)) sS.heap := hSw
  have wf0 := wf
  obtain ⟨w0, w1, w2, w3, w4, wP, wC, wS, wX⟩ := wf
  have ia1 := inj_sh (k := 1) (w := 8) ia (by decide)
  refine lv_aload_n hx hb dX6_pack_0 rfl (lv_at hl 0 rfl) ?_
  refine va_get (D := G) (ci := 6) (v := .ref ((sh a 13) 0)) (C := RX6) (T := TX6) (N := 6) hx hb hts hi6 hown hK.1 hXo 0 rfl rfl 2 (by decide) (hts (.fieldLink RX6 28 "SpriteLines" "packing" "LSpriteLines$Packing;") (by decide +kernel)) (fun _ h9 => h9) rfl dX6_pack_1 ?_
  refine lv_iload_n hx hb dX6_pack_4 rfl (lv_at hl 1 rfl) ?_
  refine z_w (zrV (As := [.int (zI rm)]) (rest := []) (Pw := fun H => va_P G vwCl (stW cs (sh a 1) S) H ∧ va_P G vwCl (pkW cs (sh a 13) ((sh a 1) 0) (aI U) (aI Q) (aI N)) H) ⟨hx, hb, hml, hown, hts⟩ (c_X1_plan l G cs a S U Q N rm ia wf0 hrm) gX6_pack_X1_plan rfl qX1_plan rfl rfl ⟨Nat.le_of_ble_eq_true rfl, Nat.le_of_ble_eq_true rfl⟩ ⟨hPs, hKp⟩ hK (va_recv hK.1 hKp (ci := 1) (q0 := 0) rfl rfl) hl.1 rfl (Nat.le_of_ble_eq_true rfl) dX6_pack_5 ⟨Nat.le_of_ble_eq_true rfl, Nat.le_of_ble_eq_true rfl⟩) hS (fun q h => ax_mono h (by decide) (by decide)) (fun q h => ax_mono h (by decide) (by decide)) (fun v H locs hpost hle hk hS => ?_)
  obtain ⟨U2, Q2, N2, rfl, hU2, hQ2, hN2, hKp'⟩ := hpost
  have hXo := keepO (ordXo a) hXo hk (fun j hj ⟨i, h1, h2, h3⟩ => absurd (ia j i (by omega) (by omega) h3) (by omega))
  have hPs := keepO (ordSt cs (sh a 1) S) hPs hk (fun j hj ⟨i, h1, h2, h3⟩ => absurd (ia (1 + j) i (by omega) (by omega) h3) (by omega))
  have hPv := keepO (ordVi cs (sh a 9) ((sh a 1) 0) (aI F) (cB Fl) (cB Pt)) hPv hk (fun j hj ⟨i, h1, h2, h3⟩ => absurd (ia (9 + j) i (by omega) (by omega) h3) (by omega))
  have hTx := keepO (ordTx cs (sh a 17) T lo hi_ X) hTx hk (fun j hj ⟨i, h1, h2, h3⟩ => absurd (ia (17 + j) i (by omega) (by omega) h3) (by omega))
  have hHi := keepO (ordHi cs (sh a 19) o n) hHi hk (fun j hj ⟨i, h1, h2, h3⟩ => absurd (ia (19 + j) i (by omega) (by omega) h3) (by omega))
  have hRg : ∀ i, i < 5 → va_P G vwCl (stW cs (sh a (21 + 8 * i)) (R i)) H := fun i hi => keepO (ordSt _ _ _) (hRg i hi) hk (fun j hj ⟨i', h1, h2, h3⟩ => absurd (ia (21 + 8 * i + j) i' (by omega) (by omega) h3) (by omega))
  have hSn := keepO (ordSn cs (sh a 61) w k) hSn hk (fun j hj ⟨i, h1, h2, h3⟩ => absurd (ia (61 + j) i (by omega) (by omega) h3) (by omega))
  have hSw : ∀ i, i < 2 → k i = true → va_P G vwCl (stW cs (sh w (8 * i)) (V i)) H := fun i hi hk9 => keepO (ordSt _ _ _) (hSw i hi hk9) hk (fun j hj ⟨i', h1, h2, h3⟩ => absurd h3.symm (hsd.1 i' i j (by omega) hi hj hk9))
  have hKp : va_P G vwCl (pkW cs (sh a 13) ((sh a 1) 0) (aI U2) (aI Q2) (aI N2)) H := hKp'
  refine lv_istore_n (lv' := [(2, .int (zI (S 0 0 - cntI (stayF S rm) (S 0 0)))), (0, .ref (a 0)), (1, .int (zI rm))]) hx hb dX6_pack_8 rfl hl (by decide) rfl (fun ls hl => ?_)
  refine lv_iload_n hx hb dX6_pack_9 rfl (lv_at hl 0 rfl) ?_
  have hcr := cntI_r (stayF S rm) w0.1
  refine z_if_ne (tgt := 16) hx hb dX6_pack_10 (by decide) (by omega) (fun c2 => ?_) (fun c2 => ?_)
  · skip
    refine lv_aload_n hx hb dX6_pack_16 rfl (lv_at hl 1 rfl) ?_
    refine va_get (D := G) (ci := 6) (v := .ref ((sh a 19) 0)) (C := RX6) (T := TX6) (N := 6) hx hb hts hi6 hown hK.1 hXo 0 rfl rfl 4 (by decide) (hts (.fieldLink RX6 42 "SpriteLines" "history" "LSpriteLines$History;") (by decide +kernel)) (fun _ h9 => h9) rfl dX6_pack_17 ?_
    refine lv_aload_n hx hb dX6_pack_20 rfl (lv_at hl 1 rfl) ?_
    refine va_get (D := G) (ci := 6) (v := .ref ((sh a 1) 0)) (C := RX6) (T := TX6) (N := 6) hx hb hts hi6 hown hK.1 hXo 0 rfl rfl 0 (by decide) (hts (.fieldLink RX6 10 "SpriteLines" "now" "LSpriteLines$State;") (by decide +kernel)) (fun _ h9 => h9) rfl dX6_pack_21 ?_
    refine z_v (zrV (As := [.ref ((sh a 1) 0)]) (rest := []) (Pw := fun H => va_P G vwCl (stW cs (sh a 1) S) H ∧ va_P G vwCl (hiW cs (sh a 19) o n) H ∧ ∀ i, i < 5 → va_P G vwCl (stW cs (sh a (21 + 8 * i)) (R i)) H) ⟨hx, hb, hml, hown, hts⟩ (c_X0_remember l G cs a S o n R ia (by omega) (by omega)) gX6_pack_X0_remember rfl qX0_remember rfl rfl ⟨Nat.le_of_ble_eq_true rfl, Nat.le_of_ble_eq_true rfl⟩ ⟨hPs, hHi, hRg⟩ hK (va_recv hK.1 hHi (ci := 0) (q0 := 0) rfl rfl) hl.1 rfl (Nat.le_of_ble_eq_true rfl) dX6_pack_24 ⟨Nat.le_of_ble_eq_true rfl, Nat.le_of_ble_eq_true rfl⟩) hS (fun q h => ax_mono h (by decide) (by decide)) (fun q h => ax_mono h (by decide) (by decide)) (fun H locs hpost hle hk hS => ?_)
    obtain ⟨hHi', hRg'⟩ := hpost
    have hXo := keepO (ordXo a) hXo hk (fun j hj ⟨i, h1, h2, h3⟩ => absurd (ia j i (by omega) (by omega) h3) (by omega))
    have hPs := keepO (ordSt cs (sh a 1) S) hPs hk (fun j hj ⟨i, h1, h2, h3⟩ => absurd (ia (1 + j) i (by omega) (by omega) h3) (by omega))
    have hPv := keepO (ordVi cs (sh a 9) ((sh a 1) 0) (aI F) (cB Fl) (cB Pt)) hPv hk (fun j hj ⟨i, h1, h2, h3⟩ => absurd (ia (9 + j) i (by omega) (by omega) h3) (by omega))
    have hKp := keepO (ordPk cs (sh a 13) ((sh a 1) 0) (aI U2) (aI Q2) (aI N2)) hKp hk (fun j hj ⟨i, h1, h2, h3⟩ => absurd (ia (13 + j) i (by omega) (by omega) h3) (by omega))
    have hTx := keepO (ordTx cs (sh a 17) T lo hi_ X) hTx hk (fun j hj ⟨i, h1, h2, h3⟩ => absurd (ia (17 + j) i (by omega) (by omega) h3) (by omega))
    have hSn := keepO (ordSn cs (sh a 61) w k) hSn hk (fun j hj ⟨i, h1, h2, h3⟩ => absurd (ia (61 + j) i (by omega) (by omega) h3) (by omega))
    have hSw : ∀ i, i < 2 → k i = true → va_P G vwCl (stW cs (sh w (8 * i)) (V i)) H := fun i hi hk9 => keepO (ordSt _ _ _) (hSw i hi hk9) hk (fun j hj ⟨i', h1, h2, h3⟩ => absurd h3.symm (hsd.1 i' i j (by omega) hi hj hk9))
    have hHi : va_P G vwCl (hiW cs (sh a 19) (remO o n) (remN n)) H := hHi'
    have hRg : ∀ i, i < 5 → va_P G vwCl (stW cs (sh a (21 + 8 * i)) ((updT R ((o + n) % 5).toNat S) i)) H := hRg'
    refine lv_aload_n hx hb dX6_pack_27 rfl (lv_at hl 1 rfl) ?_
    refine va_get (D := G) (ci := 6) (v := .ref ((sh a 13) 0)) (C := RX6) (T := TX6) (N := 6) hx hb hts hi6 hown hK.1 hXo 0 rfl rfl 2 (by decide) (hts (.fieldLink RX6 28 "SpriteLines" "packing" "LSpriteLines$Packing;") (by decide +kernel)) (fun _ h9 => h9) rfl dX6_pack_28 ?_
    refine z_v (zrV (As := []) (rest := []) (Pw := fun H => va_P G vwCl (stW cs (sh a 1) S) H ∧ va_P G vwCl (pkW cs (sh a 13) ((sh a 1) 0) (aI U2) (aI Q2) (aI N2)) H) ⟨hx, hb, hml, hown, hts⟩ (c_X1_carryOut l G cs a S U2 Q2 N2 (stayF S rm) ia wf0 hU2 hQ2 hN2) gX6_pack_X1_carryOut rfl qX1_carryOut rfl rfl ⟨Nat.le_of_ble_eq_true rfl, Nat.le_of_ble_eq_true rfl⟩ ⟨hPs, hKp⟩ hK (va_recv hK.1 hKp (ci := 1) (q0 := 0) rfl rfl) hl.1 rfl (Nat.le_of_ble_eq_true rfl) dX6_pack_31 ⟨Nat.le_of_ble_eq_true rfl, Nat.le_of_ble_eq_true rfl⟩) hS (fun q h => ax_mono h (by decide) (by decide)) (fun q h => ax_mono h (by decide) (by decide)) (fun H locs hpost hle hk hS => ?_)
    have hPs' := hpost
    have hXo := keepO (ordXo a) hXo hk (fun j hj ⟨i, h1, h2, h3⟩ => absurd (ia j i (by omega) (by omega) h3) (by omega))
    have hPv := keepO (ordVi cs (sh a 9) ((sh a 1) 0) (aI F) (cB Fl) (cB Pt)) hPv hk (fun j hj ⟨i, h1, h2, h3⟩ => absurd (ia (9 + j) i (by omega) (by omega) h3) (by omega))
    have hKp := keepO (ordPk cs (sh a 13) ((sh a 1) 0) (aI U2) (aI Q2) (aI N2)) hKp hk (fun j hj ⟨i, h1, h2, h3⟩ => absurd (ia (13 + j) i (by omega) (by omega) h3) (by omega))
    have hTx := keepO (ordTx cs (sh a 17) T lo hi_ X) hTx hk (fun j hj ⟨i, h1, h2, h3⟩ => absurd (ia (17 + j) i (by omega) (by omega) h3) (by omega))
    have hHi := keepO (ordHi cs (sh a 19) (remO o n) (remN n)) hHi hk (fun j hj ⟨i, h1, h2, h3⟩ => absurd (ia (19 + j) i (by omega) (by omega) h3) (by omega))
    have hRg : ∀ i, i < 5 → va_P G vwCl (stW cs (sh a (21 + 8 * i)) ((updT R ((o + n) % 5).toNat S) i)) H := fun i hi => keepO (ordSt _ _ _) (hRg i hi) hk (fun j hj ⟨i', h1, h2, h3⟩ => absurd (ia (21 + 8 * i + j) i' (by omega) (by omega) h3) (by omega))
    have hSn := keepO (ordSn cs (sh a 61) w k) hSn hk (fun j hj ⟨i, h1, h2, h3⟩ => absurd (ia (61 + j) i (by omega) (by omega) h3) (by omega))
    have hSw : ∀ i, i < 2 → k i = true → va_P G vwCl (stW cs (sh w (8 * i)) (V i)) H := fun i hi hk9 => keepO (ordSt _ _ _) (hSw i hi hk9) hk (fun j hj ⟨i', h1, h2, h3⟩ => absurd h3.symm (hsd.1 i' i j (by omega) hi hj hk9))
    have hPs : va_P G vwCl (stW cs (sh a 1) (packS S (stayF S rm))) H := hPs'
    refine lv_iload_n hx hb dX6_pack_34 rfl (lv_at hl 0 rfl) ?_
    exact w_iret hx hb hr hlk dX6_pack_35 hS (by rw [show packF (S, (n, L), (tl, X), (k, V)) rm = _ from by unfold packF; rw [if_neg (show ¬ (S 0 0 - cntI (stayF S rm) (S 0 0) = 0) by omega)]]; exact ⟨rfl, ⟨F, Fl, Pt, U2, Q2, N2, T, lo, hi_, remO o n, updT R ((o + n) % 5).toNat S, ⟨hTF, hT0⟩, (ring_rem ⟨ho, hRing⟩ hn), hXo, hPs, hPv, hKp, hTx, hHi, hRg, hSn, hSw⟩⟩)
  · skip
    refine z_bipush (n := -5) hx hb dX6_pack_13 (by decide) ?_
    exact w_iret hx hb hr hlk dX6_pack_15 hS (by rw [show packF (S, (n, L), (tl, X), (k, V)) rm = _ from by unfold packF; rw [if_pos (show S 0 0 - cntI (stayF S rm) (S 0 0) = 0 by omega)]]; exact ⟨rfl, ⟨F, Fl, Pt, U2, Q2, N2, T, lo, hi_, o, R, ⟨hTF, hT0⟩, ⟨ho, hRing⟩, hXo, hPs, hPv, hKp, hTx, hHi, hRg, hSn, hSw⟩⟩)

set_option maxHeartbeats 4000000 in
set_option maxRecDepth 100000 in
theorem c_X6_setColor (l : Launch) (G : va_G) (cs : Nat → ClassId) (a w : Nat → Nat) (S : SS) (n : Int) (L : Nat → SS) (tl : Int) (X : Int → Int) (k : Nat → Bool) (V : Nat → SS) (q z v : Int) (ia : Inj a 62) (hsd : SnD a w k) (hA : AWF (S, (n, L), (tl, X), (k, V))) (r_q : -2147483648 ≤ q ∧ q < 2147483648) (r_z : -2147483648 ≤ z ∧ z < 2147483648) (r_v : -2147483648 ≤ v ∧ v < 2147483648) : MW l yX6_setColor wsX6_setColor { frames := 4, cells := 0, slots := 0, locals := 123 } G cs [.ref (a 0), .int (zI q), .int (zI z), .int (zI v)] (fun H => XI G cs a w (S, (n, L), (tl, X), (k, V)) H) (fun vv H => vv = .int (zI (setColorF (S, (n, L), (tl, X), (k, V)) q z v).1) ∧ XI G cs a w (setColorF (S, (n, L), (tl, X), (k, V)) q z v).2 H) (AX a 0 62) 0 0 := by
  refine m_intro (Pw := (fun H => XI G cs a w (S, (n, L), (tl, X), (k, V)) H)) (cc := cX6_setColor) (maxL := 5) (ret := some .int) RX6 (by decide) rfl rfl (Nat.le_of_ble_eq_true rfl) ?_
  intro pP eE sS mM below meth cC hx hb hr hts hown hml hlk hnm hPre hK ls hl
  have hl : lv_has ls 5 [(0, .ref (a 0)), (1, .int (zI q)), (2, .int (zI z)), (3, .int (zI v))] := hl
  have hXI := hPre
  have hS : va_S (AX a 0 62) sS.heap sS.heap [] := va_S.rf
  have hi6 : ∀ w ∈ u_ws RX6 TX6 6, w ∈ wsX6_setColor := by decide +kernel
  obtain ⟨F, Fl, Pt, U, Q, N, T, lo, hi_, o, R, ⟨hTF, hT0⟩, ⟨ho, hRing⟩, hXo, hPs, hPv, hKp, hTx, hHi, hRg, hSn, hSw⟩ := hXI
  obtain ⟨wf, ⟨hn, hL9⟩, ⟨htl, hX⟩, hV9⟩ := hA
  have hT0 : T 0 = tl := hT0
  have hRing : ∀ i : Nat, (i : Int) < n → R ((o + i) % 5).toNat = L i := hRing
  have wf : WF S := wf
  have hn : 0 ≤ n ∧ n ≤ 5 := hn
  have htl : 0 ≤ tl ∧ tl ≤ 60 := htl
  have hX : ∀ j, 0 ≤ j → j < 60 → 0 ≤ X j ∧ X j < 65536 := hX
  have hXo : va_P G vwCl (xoW a) sS.heap := hXo
  have hPs : va_P G vwCl (stW cs (sh a 1) S) sS.heap := hPs
  have hPv : va_P G vwCl (viW cs (sh a 9) ((sh a 1) 0) (aI F) (cB Fl) (cB Pt)) sS.heap := hPv
  have hKp : va_P G vwCl (pkW cs (sh a 13) ((sh a 1) 0) (aI U) (aI Q) (aI N)) sS.heap := hKp
  have hTx : va_P G vwCl (txW cs (sh a 17) T lo hi_ X) sS.heap := hTx
  have hHi : va_P G vwCl (hiW cs (sh a 19) o n) sS.heap := hHi
  have hRg : ∀ i, i < 5 → va_P G vwCl (stW cs (sh a (21 + 8 * i)) (R i)) sS.heap := hRg
  have hSn : va_P G vwCl (snW cs (sh a 61) w k) sS.heap := hSn
  have hSw : ∀ i, i < 2 → k i = true → va_P G vwCl (stW cs (sh w (8 * i)) (V i)) sS.heap := hSw
  have wf0 := wf
  obtain ⟨w0, w1, w2, w3, w4, wP, wC, wS, wX⟩ := wf
  have ia1 := inj_sh (k := 1) (w := 8) ia (by decide)
  refine lv_iload_n hx hb dX6_setColor_0 rfl (lv_at hl 1 rfl) ?_
  refine z_ro (zrS (As := [.int (zI q)]) (rest := []) (Pw := fun _ => True) ⟨hx, hb, hml, hown, hts⟩ (c_X6_isNoPalette l G cs q (by omega)) gX6_setColor_X6_isNoPalette rfl qX6_isNoPalette rfl rfl ⟨Nat.le_of_ble_eq_true rfl, Nat.le_of_ble_eq_true rfl⟩ trivial hK hl.1 rfl (Nat.le_of_ble_eq_true rfl) dX6_setColor_1 ⟨Nat.le_of_ble_eq_true rfl, Nat.le_of_ble_eq_true rfl⟩) ?_
  refine z_bif_eq (tgt := 9) hx hb dX6_setColor_4 (by decide) (fun c1 => ?_) (fun c1 => ?_)
  · skip
    simp only [decide_eq_false_iff_not] at c1
    refine lv_iload_n hx hb dX6_setColor_9 rfl (lv_at hl 2 rfl) ?_
    refine z_iconst (n := 1) hx hb dX6_setColor_10 ?_
    refine z_icmp_lt (tgt := 29) hx hb dX6_setColor_11 (by decide) (by omega) (by omega) (fun c1 => ?_) (fun c1 => ?_)
    · skip
      refine z_bipush (n := -2) hx hb dX6_setColor_29 (by decide) ?_
      exact w_iret hx hb hr hlk dX6_setColor_31 hS (by rw [show setColorF (S, (n, L), (tl, X), (k, V)) q z v = _ from by unfold setColorF; rw [if_neg (show ¬ (¬ (0 ≤ q ∧ q < 4)) by omega), if_pos (show ¬ ((1 ≤ z ∧ z < 4) ∧ (0 ≤ v ∧ v < 64)) by omega)]]; exact ⟨rfl, ⟨F, Fl, Pt, U, Q, N, T, lo, hi_, o, R, ⟨hTF, hT0⟩, ⟨ho, hRing⟩, hXo, hPs, hPv, hKp, hTx, hHi, hRg, hSn, hSw⟩⟩)
    · skip
      refine lv_iload_n hx hb dX6_setColor_14 rfl (lv_at hl 2 rfl) ?_
      refine z_iconst (n := 4) hx hb dX6_setColor_15 ?_
      refine z_icmp_ge (tgt := 29) hx hb dX6_setColor_16 (by decide) (by omega) (by omega) (fun c2 => ?_) (fun c2 => ?_)
      · skip
        refine z_bipush (n := -2) hx hb dX6_setColor_29 (by decide) ?_
        exact w_iret hx hb hr hlk dX6_setColor_31 hS (by rw [show setColorF (S, (n, L), (tl, X), (k, V)) q z v = _ from by unfold setColorF; rw [if_neg (show ¬ (¬ (0 ≤ q ∧ q < 4)) by omega), if_pos (show ¬ ((1 ≤ z ∧ z < 4) ∧ (0 ≤ v ∧ v < 64)) by omega)]]; exact ⟨rfl, ⟨F, Fl, Pt, U, Q, N, T, lo, hi_, o, R, ⟨hTF, hT0⟩, ⟨ho, hRing⟩, hXo, hPs, hPv, hKp, hTx, hHi, hRg, hSn, hSw⟩⟩)
      · skip
        refine lv_iload_n hx hb dX6_setColor_19 rfl (lv_at hl 3 rfl) ?_
        refine z_if_lt (tgt := 29) hx hb dX6_setColor_20 (by decide) (by omega) (fun c3 => ?_) (fun c3 => ?_)
        · skip
          refine z_bipush (n := -2) hx hb dX6_setColor_29 (by decide) ?_
          exact w_iret hx hb hr hlk dX6_setColor_31 hS (by rw [show setColorF (S, (n, L), (tl, X), (k, V)) q z v = _ from by unfold setColorF; rw [if_neg (show ¬ (¬ (0 ≤ q ∧ q < 4)) by omega), if_pos (show ¬ ((1 ≤ z ∧ z < 4) ∧ (0 ≤ v ∧ v < 64)) by omega)]]; exact ⟨rfl, ⟨F, Fl, Pt, U, Q, N, T, lo, hi_, o, R, ⟨hTF, hT0⟩, ⟨ho, hRing⟩, hXo, hPs, hPv, hKp, hTx, hHi, hRg, hSn, hSw⟩⟩)
        · skip
          refine lv_iload_n hx hb dX6_setColor_23 rfl (lv_at hl 3 rfl) ?_
          refine z_bipush (n := 64) hx hb dX6_setColor_24 (by decide) ?_
          refine z_icmp_lt (tgt := 32) hx hb dX6_setColor_26 (by decide) (by omega) (by omega) (fun c4 => ?_) (fun c4 => ?_)
          · skip
            refine lv_aload_n hx hb dX6_setColor_32 rfl (lv_at hl 0 rfl) ?_
            refine va_get (D := G) (ci := 6) (v := .ref ((sh a 19) 0)) (C := RX6) (T := TX6) (N := 6) hx hb hts hi6 hown hK.1 hXo 0 rfl rfl 4 (by decide) (hts (.fieldLink RX6 42 "SpriteLines" "history" "LSpriteLines$History;") (by decide +kernel)) (fun _ h9 => h9) rfl dX6_setColor_33 ?_
            refine lv_aload_n hx hb dX6_setColor_36 rfl (lv_at hl 0 rfl) ?_
            refine va_get (D := G) (ci := 6) (v := .ref ((sh a 1) 0)) (C := RX6) (T := TX6) (N := 6) hx hb hts hi6 hown hK.1 hXo 0 rfl rfl 0 (by decide) (hts (.fieldLink RX6 10 "SpriteLines" "now" "LSpriteLines$State;") (by decide +kernel)) (fun _ h9 => h9) rfl dX6_setColor_37 ?_
            refine z_v (zrV (As := [.ref ((sh a 1) 0)]) (rest := []) (Pw := fun H => va_P G vwCl (stW cs (sh a 1) S) H ∧ va_P G vwCl (hiW cs (sh a 19) o n) H ∧ ∀ i, i < 5 → va_P G vwCl (stW cs (sh a (21 + 8 * i)) (R i)) H) ⟨hx, hb, hml, hown, hts⟩ (c_X0_remember l G cs a S o n R ia (by omega) (by omega)) gX6_setColor_X0_remember rfl qX0_remember rfl rfl ⟨Nat.le_of_ble_eq_true rfl, Nat.le_of_ble_eq_true rfl⟩ ⟨hPs, hHi, hRg⟩ hK (va_recv hK.1 hHi (ci := 0) (q0 := 0) rfl rfl) hl.1 rfl (Nat.le_of_ble_eq_true rfl) dX6_setColor_40 ⟨Nat.le_of_ble_eq_true rfl, Nat.le_of_ble_eq_true rfl⟩) hS (fun q h => ax_mono h (by decide) (by decide)) (fun q h => ax_mono h (by decide) (by decide)) (fun H locs hpost hle hk hS => ?_)
            obtain ⟨hHi', hRg'⟩ := hpost
            have hXo := keepO (ordXo a) hXo hk (fun j hj ⟨i, h1, h2, h3⟩ => absurd (ia j i (by omega) (by omega) h3) (by omega))
            have hPs := keepO (ordSt cs (sh a 1) S) hPs hk (fun j hj ⟨i, h1, h2, h3⟩ => absurd (ia (1 + j) i (by omega) (by omega) h3) (by omega))
            have hPv := keepO (ordVi cs (sh a 9) ((sh a 1) 0) (aI F) (cB Fl) (cB Pt)) hPv hk (fun j hj ⟨i, h1, h2, h3⟩ => absurd (ia (9 + j) i (by omega) (by omega) h3) (by omega))
            have hKp := keepO (ordPk cs (sh a 13) ((sh a 1) 0) (aI U) (aI Q) (aI N)) hKp hk (fun j hj ⟨i, h1, h2, h3⟩ => absurd (ia (13 + j) i (by omega) (by omega) h3) (by omega))
            have hTx := keepO (ordTx cs (sh a 17) T lo hi_ X) hTx hk (fun j hj ⟨i, h1, h2, h3⟩ => absurd (ia (17 + j) i (by omega) (by omega) h3) (by omega))
            have hSn := keepO (ordSn cs (sh a 61) w k) hSn hk (fun j hj ⟨i, h1, h2, h3⟩ => absurd (ia (61 + j) i (by omega) (by omega) h3) (by omega))
            have hSw : ∀ i, i < 2 → k i = true → va_P G vwCl (stW cs (sh w (8 * i)) (V i)) H := fun i hi hk9 => keepO (ordSt _ _ _) (hSw i hi hk9) hk (fun j hj ⟨i', h1, h2, h3⟩ => absurd h3.symm (hsd.1 i' i j (by omega) hi hj hk9))
            have hHi : va_P G vwCl (hiW cs (sh a 19) (remO o n) (remN n)) H := hHi'
            have hRg : ∀ i, i < 5 → va_P G vwCl (stW cs (sh a (21 + 8 * i)) ((updT R ((o + n) % 5).toNat S) i)) H := hRg'
            refine lv_aload_n hx hb dX6_setColor_43 rfl (lv_at hl 0 rfl) ?_
            refine va_get (D := G) (ci := 6) (v := .ref ((sh a 1) 0)) (C := RX6) (T := TX6) (N := 6) hx hb hts hi6 hown hK.1 hXo 0 rfl rfl 0 (by decide) (hts (.fieldLink RX6 10 "SpriteLines" "now" "LSpriteLines$State;") (by decide +kernel)) (fun _ h9 => h9) rfl dX6_setColor_44 ?_
            refine lv_iload_n hx hb dX6_setColor_47 rfl (lv_at hl 1 rfl) ?_
            refine lv_iload_n hx hb dX6_setColor_48 rfl (lv_at hl 2 rfl) ?_
            refine z_ro (zrV (As := [.int (zI q), .int (zI z)]) (rest := []) ⟨hx, hb, hml, hown, hts⟩ (c_X4_colorOf l G cs (sh a 1) S q z (by omega) (by omega)) gX6_setColor_X4_colorOf rfl qX4_colorOf rfl rfl ⟨Nat.le_of_ble_eq_true rfl, Nat.le_of_ble_eq_true rfl⟩ hPs hK (va_recv hK.1 hPs (ci := 4) (q0 := 0) rfl rfl) hl.1 rfl (Nat.le_of_ble_eq_true rfl) dX6_setColor_49 ⟨Nat.le_of_ble_eq_true rfl, Nat.le_of_ble_eq_true rfl⟩) ?_
            refine lv_istore (lv' := [(4, .int (zI (S 2 (4 * q + z)))), (0, .ref (a 0)), (1, .int (zI q)), (2, .int (zI z)), (3, .int (zI v))]) hx hb dX6_setColor_52 hl (by decide) rfl (fun ls hl => ?_)
            refine lv_aload_n hx hb dX6_setColor_54 rfl (lv_at hl 1 rfl) ?_
            refine va_get (D := G) (ci := 6) (v := .ref ((sh a 1) 0)) (C := RX6) (T := TX6) (N := 6) hx hb hts hi6 hown hK.1 hXo 0 rfl rfl 0 (by decide) (hts (.fieldLink RX6 10 "SpriteLines" "now" "LSpriteLines$State;") (by decide +kernel)) (fun _ h9 => h9) rfl dX6_setColor_55 ?_
            refine lv_iload_n hx hb dX6_setColor_58 rfl (lv_at hl 2 rfl) ?_
            refine lv_iload_n hx hb dX6_setColor_59 rfl (lv_at hl 3 rfl) ?_
            refine lv_iload_n hx hb dX6_setColor_60 rfl (lv_at hl 4 rfl) ?_
            refine z_v (zrV (As := [.int (zI q), .int (zI z), .int (zI v)]) (rest := []) ⟨hx, hb, hml, hown, hts⟩ (c_X4_putColor l G cs (sh a 1) S q z v ia1 (by omega) (by omega)) gX6_setColor_X4_putColor rfl qX4_putColor rfl rfl ⟨Nat.le_of_ble_eq_true rfl, Nat.le_of_ble_eq_true rfl⟩ hPs hK (va_recv hK.1 hPs (ci := 4) (q0 := 0) rfl rfl) hl.1 rfl (Nat.le_of_ble_eq_true rfl) dX6_setColor_61 ⟨Nat.le_of_ble_eq_true rfl, Nat.le_of_ble_eq_true rfl⟩) hS (fun q h => ax_mono (ax_sh h) (by decide) (by decide)) (fun q h => ax_mono (ax_sh h) (by decide) (by decide)) (fun H locs hpost hle hk hS => ?_)
            have hPs' := hpost
            have hXo := keepO (ordXo a) hXo hk (fun j hj ⟨i, h1, h2, h3⟩ => absurd (ia j (1 + i) (by omega) (by omega) h3) (by omega))
            have hPv := keepO (ordVi cs (sh a 9) ((sh a 1) 0) (aI F) (cB Fl) (cB Pt)) hPv hk (fun j hj ⟨i, h1, h2, h3⟩ => absurd (ia (9 + j) (1 + i) (by omega) (by omega) h3) (by omega))
            have hKp := keepO (ordPk cs (sh a 13) ((sh a 1) 0) (aI U) (aI Q) (aI N)) hKp hk (fun j hj ⟨i, h1, h2, h3⟩ => absurd (ia (13 + j) (1 + i) (by omega) (by omega) h3) (by omega))
            have hTx := keepO (ordTx cs (sh a 17) T lo hi_ X) hTx hk (fun j hj ⟨i, h1, h2, h3⟩ => absurd (ia (17 + j) (1 + i) (by omega) (by omega) h3) (by omega))
            have hHi := keepO (ordHi cs (sh a 19) (remO o n) (remN n)) hHi hk (fun j hj ⟨i, h1, h2, h3⟩ => absurd (ia (19 + j) (1 + i) (by omega) (by omega) h3) (by omega))
            have hRg : ∀ i, i < 5 → va_P G vwCl (stW cs (sh a (21 + 8 * i)) ((updT R ((o + n) % 5).toNat S) i)) H := fun i hi => keepO (ordSt _ _ _) (hRg i hi) hk (fun j hj ⟨i', h1, h2, h3⟩ => absurd (ia (21 + 8 * i + j) (1 + i') (by omega) (by omega) h3) (by omega))
            have hSn := keepO (ordSn cs (sh a 61) w k) hSn hk (fun j hj ⟨i, h1, h2, h3⟩ => absurd (ia (61 + j) (1 + i) (by omega) (by omega) h3) (by omega))
            have hSw : ∀ i, i < 2 → k i = true → va_P G vwCl (stW cs (sh w (8 * i)) (V i)) H := fun i hi hk9 => keepO (ordSt _ _ _) (hSw i hi hk9) hk (fun j hj ⟨i', h1, h2, h3⟩ => absurd h3.symm (hsd.1 (1 + i') i j (by omega) hi hj hk9))
            have hPs : va_P G vwCl (stW cs (sh a 1) (up2 S 2 (updZ (S 2) (4 * q + z) v))) H := hPs'
            refine lv_iload hx hb dX6_setColor_64 (lv_at hl 0 rfl) ?_
            exact w_iret hx hb hr hlk dX6_setColor_66 hS (by rw [show setColorF (S, (n, L), (tl, X), (k, V)) q z v = _ from by unfold setColorF; rw [if_neg (show ¬ (¬ (0 ≤ q ∧ q < 4)) by omega), if_neg (show ¬ (¬ ((1 ≤ z ∧ z < 4) ∧ (0 ≤ v ∧ v < 64))) by omega)]]; exact ⟨rfl, ⟨F, Fl, Pt, U, Q, N, T, lo, hi_, remO o n, updT R ((o + n) % 5).toNat S, ⟨hTF, hT0⟩, (ring_rem ⟨ho, hRing⟩ hn), hXo, hPs, hPv, hKp, hTx, hHi, hRg, hSn, hSw⟩⟩)
          · skip
            refine z_bipush (n := -2) hx hb dX6_setColor_29 (by decide) ?_
            exact w_iret hx hb hr hlk dX6_setColor_31 hS (by rw [show setColorF (S, (n, L), (tl, X), (k, V)) q z v = _ from by unfold setColorF; rw [if_neg (show ¬ (¬ (0 ≤ q ∧ q < 4)) by omega), if_pos (show ¬ ((1 ≤ z ∧ z < 4) ∧ (0 ≤ v ∧ v < 64)) by omega)]]; exact ⟨rfl, ⟨F, Fl, Pt, U, Q, N, T, lo, hi_, o, R, ⟨hTF, hT0⟩, ⟨ho, hRing⟩, hXo, hPs, hPv, hKp, hTx, hHi, hRg, hSn, hSw⟩⟩)
  · skip
    simp only [decide_eq_true_eq] at c1
    refine z_iconst (n := -1) hx hb dX6_setColor_7 ?_
    exact w_iret hx hb hr hlk dX6_setColor_8 hS (by rw [show setColorF (S, (n, L), (tl, X), (k, V)) q z v = _ from by unfold setColorF; rw [if_pos (show ¬ (0 ≤ q ∧ q < 4) by omega)]]; exact ⟨rfl, ⟨F, Fl, Pt, U, Q, N, T, lo, hi_, o, R, ⟨hTF, hT0⟩, ⟨ho, hRing⟩, hXo, hPs, hPv, hKp, hTx, hHi, hRg, hSn, hSw⟩⟩)

set_option maxHeartbeats 4000000 in
set_option maxRecDepth 100000 in
theorem c_X6_addSprite (l : Launch) (G : va_G) (cs : Nat → ClassId) (a w : Nat → Nat) (S : SS) (n : Int) (L : Nat → SS) (tl : Int) (X : Int → Int) (k : Nat → Bool) (V : Nat → SS) (q x y : Int) (ia : Inj a 62) (hsd : SnD a w k) (hA : AWF (S, (n, L), (tl, X), (k, V))) (r_q : -2147483648 ≤ q ∧ q < 2147483648) (r_x : -2147483648 ≤ x ∧ x < 2147483648) (r_y : -2147483648 ≤ y ∧ y < 2147483648) : MW l yX6_addSprite wsX6_addSprite { frames := 4, cells := 0, slots := 0, locals := 123 } G cs [.ref (a 0), .int (zI q), .int (zI x), .int (zI y)] (fun H => XI G cs a w (S, (n, L), (tl, X), (k, V)) H) (fun vv H => vv = .int (zI (addSpriteF (S, (n, L), (tl, X), (k, V)) q x y).1) ∧ XI G cs a w (addSpriteF (S, (n, L), (tl, X), (k, V)) q x y).2 H) (AX a 0 62) 0 0 := by
  refine m_intro (Pw := (fun H => XI G cs a w (S, (n, L), (tl, X), (k, V)) H)) (cc := cX6_addSprite) (maxL := 5) (ret := some .int) RX6 (by decide) rfl rfl (Nat.le_of_ble_eq_true rfl) ?_
  intro pP eE sS mM below meth cC hx hb hr hts hown hml hlk hnm hPre hK ls hl
  have hl : lv_has ls 5 [(0, .ref (a 0)), (1, .int (zI q)), (2, .int (zI x)), (3, .int (zI y))] := hl
  have hXI := hPre
  have hS : va_S (AX a 0 62) sS.heap sS.heap [] := va_S.rf
  have hi4 : ∀ w ∈ u_ws RX4 TX4 9, w ∈ wsX6_addSprite := by decide +kernel
  have hi6 : ∀ w ∈ u_ws RX6 TX6 6, w ∈ wsX6_addSprite := by decide +kernel
  obtain ⟨F, Fl, Pt, U, Q, N, T, lo, hi_, o, R, ⟨hTF, hT0⟩, ⟨ho, hRing⟩, hXo, hPs, hPv, hKp, hTx, hHi, hRg, hSn, hSw⟩ := hXI
  obtain ⟨wf, ⟨hn, hL9⟩, ⟨htl, hX⟩, hV9⟩ := hA
  have hT0 : T 0 = tl := hT0
  have hRing : ∀ i : Nat, (i : Int) < n → R ((o + i) % 5).toNat = L i := hRing
  have wf : WF S := wf
  have hn : 0 ≤ n ∧ n ≤ 5 := hn
  have htl : 0 ≤ tl ∧ tl ≤ 60 := htl
  have hX : ∀ j, 0 ≤ j → j < 60 → 0 ≤ X j ∧ X j < 65536 := hX
  have hXo : va_P G vwCl (xoW a) sS.heap := hXo
  have hPs : va_P G vwCl (stW cs (sh a 1) S) sS.heap := hPs
  have hPv : va_P G vwCl (viW cs (sh a 9) ((sh a 1) 0) (aI F) (cB Fl) (cB Pt)) sS.heap := hPv
  have hKp : va_P G vwCl (pkW cs (sh a 13) ((sh a 1) 0) (aI U) (aI Q) (aI N)) sS.heap := hKp
  have hTx : va_P G vwCl (txW cs (sh a 17) T lo hi_ X) sS.heap := hTx
  have hHi : va_P G vwCl (hiW cs (sh a 19) o n) sS.heap := hHi
  have hRg : ∀ i, i < 5 → va_P G vwCl (stW cs (sh a (21 + 8 * i)) (R i)) sS.heap := hRg
  have hSn : va_P G vwCl (snW cs (sh a 61) w k) sS.heap := hSn
  have hSw : ∀ i, i < 2 → k i = true → va_P G vwCl (stW cs (sh w (8 * i)) (V i)) sS.heap := hSw
  have wf0 := wf
  obtain ⟨w0, w1, w2, w3, w4, wP, wC, wS, wX⟩ := wf
  have ia1 := inj_sh (k := 1) (w := 8) ia (by decide)
  refine lv_aload_n hx hb dX6_addSprite_0 rfl (lv_at hl 0 rfl) ?_
  refine lv_iload_n hx hb dX6_addSprite_1 rfl (lv_at hl 1 rfl) ?_
  refine z_ro (zrV (As := [.int (zI q)]) (rest := []) (Pw := fun H => va_P G vwCl (xoW a) H ∧ va_P G vwCl (stW cs (sh a 1) S) H) ⟨hx, hb, hml, hown, hts⟩ (c_X6_isNoPart l G cs a S q wf0 (by omega)) gX6_addSprite_X6_isNoPart rfl qX6_isNoPart rfl rfl ⟨Nat.le_of_ble_eq_true rfl, Nat.le_of_ble_eq_true rfl⟩ ⟨hXo, hPs⟩ hK (va_recv hK.1 hXo (ci := 6) (q0 := 0) rfl rfl) hl.1 rfl (Nat.le_of_ble_eq_true rfl) dX6_addSprite_2 ⟨Nat.le_of_ble_eq_true rfl, Nat.le_of_ble_eq_true rfl⟩) ?_
  refine z_bif_eq (tgt := 10) hx hb dX6_addSprite_5 (by decide) (fun c1 => ?_) (fun c1 => ?_)
  · skip
    simp only [decide_eq_false_iff_not] at c1
    refine lv_iload_n hx hb dX6_addSprite_10 rfl (lv_at hl 2 rfl) ?_
    refine lv_iload_n hx hb dX6_addSprite_11 rfl (lv_at hl 3 rfl) ?_
    refine z_ro (zrS (As := [.int (zI x), .int (zI y)]) (rest := []) (Pw := fun _ => True) ⟨hx, hb, hml, hown, hts⟩ (c_X6_isNoPlaceOnScreen l G cs x y (by omega) (by omega)) gX6_addSprite_X6_isNoPlaceOnScreen rfl qX6_isNoPlaceOnScreen rfl rfl ⟨Nat.le_of_ble_eq_true rfl, Nat.le_of_ble_eq_true rfl⟩ trivial hK hl.1 rfl (Nat.le_of_ble_eq_true rfl) dX6_addSprite_12 ⟨Nat.le_of_ble_eq_true rfl, Nat.le_of_ble_eq_true rfl⟩) ?_
    refine z_bif_eq (tgt := 21) hx hb dX6_addSprite_15 (by decide) (fun c3 => ?_) (fun c3 => ?_)
    · skip
      simp only [decide_eq_false_iff_not] at c3
      refine lv_aload_n hx hb dX6_addSprite_21 rfl (lv_at hl 0 rfl) ?_
      refine va_get (D := G) (ci := 6) (v := .ref ((sh a 1) 0)) (C := RX6) (T := TX6) (N := 6) hx hb hts hi6 hown hK.1 hXo 0 rfl rfl 0 (by decide) (hts (.fieldLink RX6 10 "SpriteLines" "now" "LSpriteLines$State;") (by decide +kernel)) (fun _ h9 => h9) rfl dX6_addSprite_22 ?_
      refine va_get (D := G) (ci := 4) (v := .int (zI (S 0 1))) (C := RX4) (T := TX4) (N := 9) hx hb hts hi4 hown hK.1 hPs 0 rfl rfl 3 (by decide) (hts (.fieldLink RX6 128 "SpriteLines$State" "sprites" "I") (by decide +kernel)) (fun _ h9 => h9) rfl dX6_addSprite_25 ?_
      refine lv_istore (lv' := [(4, .int (zI (S 0 1))), (0, .ref (a 0)), (1, .int (zI q)), (2, .int (zI x)), (3, .int (zI y))]) hx hb dX6_addSprite_28 hl (by decide) rfl (fun ls hl => ?_)
      refine lv_iload hx hb dX6_addSprite_30 (lv_at hl 0 rfl) ?_
      refine z_bipush (n := 20) hx hb dX6_addSprite_32 (by decide) ?_
      refine z_icmp_lt (tgt := 40) hx hb dX6_addSprite_34 (by decide) (by omega) (by omega) (fun c1 => ?_) (fun c1 => ?_)
      · skip
        refine lv_aload_n hx hb dX6_addSprite_40 rfl (lv_at hl 1 rfl) ?_
        refine va_get (D := G) (ci := 6) (v := .ref ((sh a 19) 0)) (C := RX6) (T := TX6) (N := 6) hx hb hts hi6 hown hK.1 hXo 0 rfl rfl 4 (by decide) (hts (.fieldLink RX6 42 "SpriteLines" "history" "LSpriteLines$History;") (by decide +kernel)) (fun _ h9 => h9) rfl dX6_addSprite_41 ?_
        refine lv_aload_n hx hb dX6_addSprite_44 rfl (lv_at hl 1 rfl) ?_
        refine va_get (D := G) (ci := 6) (v := .ref ((sh a 1) 0)) (C := RX6) (T := TX6) (N := 6) hx hb hts hi6 hown hK.1 hXo 0 rfl rfl 0 (by decide) (hts (.fieldLink RX6 10 "SpriteLines" "now" "LSpriteLines$State;") (by decide +kernel)) (fun _ h9 => h9) rfl dX6_addSprite_45 ?_
        refine z_v (zrV (As := [.ref ((sh a 1) 0)]) (rest := []) (Pw := fun H => va_P G vwCl (stW cs (sh a 1) S) H ∧ va_P G vwCl (hiW cs (sh a 19) o n) H ∧ ∀ i, i < 5 → va_P G vwCl (stW cs (sh a (21 + 8 * i)) (R i)) H) ⟨hx, hb, hml, hown, hts⟩ (c_X0_remember l G cs a S o n R ia (by omega) (by omega)) gX6_addSprite_X0_remember rfl qX0_remember rfl rfl ⟨Nat.le_of_ble_eq_true rfl, Nat.le_of_ble_eq_true rfl⟩ ⟨hPs, hHi, hRg⟩ hK (va_recv hK.1 hHi (ci := 0) (q0 := 0) rfl rfl) hl.1 rfl (Nat.le_of_ble_eq_true rfl) dX6_addSprite_48 ⟨Nat.le_of_ble_eq_true rfl, Nat.le_of_ble_eq_true rfl⟩) hS (fun q h => ax_mono h (by decide) (by decide)) (fun q h => ax_mono h (by decide) (by decide)) (fun H locs hpost hle hk hS => ?_)
        obtain ⟨hHi', hRg'⟩ := hpost
        have hXo := keepO (ordXo a) hXo hk (fun j hj ⟨i, h1, h2, h3⟩ => absurd (ia j i (by omega) (by omega) h3) (by omega))
        have hPs := keepO (ordSt cs (sh a 1) S) hPs hk (fun j hj ⟨i, h1, h2, h3⟩ => absurd (ia (1 + j) i (by omega) (by omega) h3) (by omega))
        have hPv := keepO (ordVi cs (sh a 9) ((sh a 1) 0) (aI F) (cB Fl) (cB Pt)) hPv hk (fun j hj ⟨i, h1, h2, h3⟩ => absurd (ia (9 + j) i (by omega) (by omega) h3) (by omega))
        have hKp := keepO (ordPk cs (sh a 13) ((sh a 1) 0) (aI U) (aI Q) (aI N)) hKp hk (fun j hj ⟨i, h1, h2, h3⟩ => absurd (ia (13 + j) i (by omega) (by omega) h3) (by omega))
        have hTx := keepO (ordTx cs (sh a 17) T lo hi_ X) hTx hk (fun j hj ⟨i, h1, h2, h3⟩ => absurd (ia (17 + j) i (by omega) (by omega) h3) (by omega))
        have hSn := keepO (ordSn cs (sh a 61) w k) hSn hk (fun j hj ⟨i, h1, h2, h3⟩ => absurd (ia (61 + j) i (by omega) (by omega) h3) (by omega))
        have hSw : ∀ i, i < 2 → k i = true → va_P G vwCl (stW cs (sh w (8 * i)) (V i)) H := fun i hi hk9 => keepO (ordSt _ _ _) (hSw i hi hk9) hk (fun j hj ⟨i', h1, h2, h3⟩ => absurd h3.symm (hsd.1 i' i j (by omega) hi hj hk9))
        have hHi : va_P G vwCl (hiW cs (sh a 19) (remO o n) (remN n)) H := hHi'
        have hRg : ∀ i, i < 5 → va_P G vwCl (stW cs (sh a (21 + 8 * i)) ((updT R ((o + n) % 5).toNat S) i)) H := hRg'
        refine lv_aload_n hx hb dX6_addSprite_51 rfl (lv_at hl 1 rfl) ?_
        refine va_get (D := G) (ci := 6) (v := .ref ((sh a 1) 0)) (C := RX6) (T := TX6) (N := 6) hx hb hts hi6 hown hK.1 hXo 0 rfl rfl 0 (by decide) (hts (.fieldLink RX6 10 "SpriteLines" "now" "LSpriteLines$State;") (by decide +kernel)) (fun _ h9 => h9) rfl dX6_addSprite_52 ?_
        refine lv_iload hx hb dX6_addSprite_55 (lv_at hl 0 rfl) ?_
        refine z_iconst (n := 1) hx hb dX6_addSprite_57 ?_
        refine z_iadd hx hb dX6_addSprite_58 ?_
        refine z_put (G := G) (ci := 4) (v := .int (zI ((S 0 1) + 1))) (ty := .int) (C := RX4) (T := TX4) (N := 9) hx hb hts hi4 tyX4 tyX4_ok nmX4 hown hK.1 hPs (Ord.D (ordSt cs (sh a 1) S) (inj_sh (w := 8) ia (by decide))) hS 0 rfl rfl 3 (by decide) (hts (.fieldLink RX6 128 "SpriteLines$State" "sprites" "I") (by decide +kernel)) (fun _ h9 => h9) rfl (by decide +kernel) rfl rfl (Nat.le_of_ble_eq_true rfl) ⟨1, by decide, by decide, rfl⟩ dX6_addSprite_59 (fun H locs hP1 hle hk hS => ?_)
        have hXo := keepO (ordXo a) hXo hk (fun j hj h3 => absurd (ia j 1 (by omega) (by omega) h3) (by omega))
        have hPv := keepO (ordVi cs (sh a 9) ((sh a 1) 0) (aI F) (cB Fl) (cB Pt)) hPv hk (fun j hj h3 => absurd (ia (9 + j) 1 (by omega) (by omega) h3) (by omega))
        have hKp := keepO (ordPk cs (sh a 13) ((sh a 1) 0) (aI U) (aI Q) (aI N)) hKp hk (fun j hj h3 => absurd (ia (13 + j) 1 (by omega) (by omega) h3) (by omega))
        have hTx := keepO (ordTx cs (sh a 17) T lo hi_ X) hTx hk (fun j hj h3 => absurd (ia (17 + j) 1 (by omega) (by omega) h3) (by omega))
        have hHi := keepO (ordHi cs (sh a 19) (remO o n) (remN n)) hHi hk (fun j hj h3 => absurd (ia (19 + j) 1 (by omega) (by omega) h3) (by omega))
        have hRg : ∀ i, i < 5 → va_P G vwCl (stW cs (sh a (21 + 8 * i)) ((updT R ((o + n) % 5).toNat S) i)) H := fun i hi => keepO (ordSt _ _ _) (hRg i hi) hk (fun j hj h3 => absurd (ia (21 + 8 * i + j) 1 (by omega) (by omega) h3) (by omega))
        have hSn := keepO (ordSn cs (sh a 61) w k) hSn hk (fun j hj h3 => absurd (ia (61 + j) 1 (by omega) (by omega) h3) (by omega))
        have hSw : ∀ i, i < 2 → k i = true → va_P G vwCl (stW cs (sh w (8 * i)) (V i)) H := fun i hi hk9 => keepO (ordSt _ _ _) (hSw i hi hk9) hk (fun j hj h3 => absurd h3.symm (hsd.1 1 i j (by omega) hi hj hk9))
        have hPs : va_P G vwCl (stW cs (sh a 1) (up2 S 0 (updZ (S 0) 1 ((S 0 1) + 1)))) H := hP1
        refine lv_aload_n hx hb dX6_addSprite_62 rfl (lv_at hl 1 rfl) ?_
        refine va_get (D := G) (ci := 6) (v := .ref ((sh a 1) 0)) (C := RX6) (T := TX6) (N := 6) hx hb hts hi6 hown hK.1 hXo 0 rfl rfl 0 (by decide) (hts (.fieldLink RX6 10 "SpriteLines" "now" "LSpriteLines$State;") (by decide +kernel)) (fun _ h9 => h9) rfl dX6_addSprite_63 ?_
        refine lv_iload hx hb dX6_addSprite_66 (lv_at hl 0 rfl) ?_
        refine z_iconst (n := 0) hx hb dX6_addSprite_68 ?_
        refine lv_iload_n hx hb dX6_addSprite_69 rfl (lv_at hl 2 rfl) ?_
        refine z_v (zrV (As := [.int (zI (S 0 1)), .int (zI 0), .int (zI q)]) (rest := []) ⟨hx, hb, hml, hown, hts⟩ (c_X4_putProperty l G cs (sh a 1) (up2 S 0 (updZ (S 0) 1 ((S 0 1) + 1))) (S 0 1) 0 q ia1 (by omega) (by omega)) gX6_addSprite_X4_putProperty rfl qX4_putProperty rfl rfl ⟨Nat.le_of_ble_eq_true rfl, Nat.le_of_ble_eq_true rfl⟩ hPs hK (va_recv hK.1 hPs (ci := 4) (q0 := 0) rfl rfl) hl.1 rfl (Nat.le_of_ble_eq_true rfl) dX6_addSprite_70 ⟨Nat.le_of_ble_eq_true rfl, Nat.le_of_ble_eq_true rfl⟩) hS (fun q h => ax_mono (ax_sh h) (by decide) (by decide)) (fun q h => ax_mono (ax_sh h) (by decide) (by decide)) (fun H locs hpost hle hk hS => ?_)
        have hPs' := hpost
        have hXo := keepO (ordXo a) hXo hk (fun j hj ⟨i, h1, h2, h3⟩ => absurd (ia j (1 + i) (by omega) (by omega) h3) (by omega))
        have hPv := keepO (ordVi cs (sh a 9) ((sh a 1) 0) (aI F) (cB Fl) (cB Pt)) hPv hk (fun j hj ⟨i, h1, h2, h3⟩ => absurd (ia (9 + j) (1 + i) (by omega) (by omega) h3) (by omega))
        have hKp := keepO (ordPk cs (sh a 13) ((sh a 1) 0) (aI U) (aI Q) (aI N)) hKp hk (fun j hj ⟨i, h1, h2, h3⟩ => absurd (ia (13 + j) (1 + i) (by omega) (by omega) h3) (by omega))
        have hTx := keepO (ordTx cs (sh a 17) T lo hi_ X) hTx hk (fun j hj ⟨i, h1, h2, h3⟩ => absurd (ia (17 + j) (1 + i) (by omega) (by omega) h3) (by omega))
        have hHi := keepO (ordHi cs (sh a 19) (remO o n) (remN n)) hHi hk (fun j hj ⟨i, h1, h2, h3⟩ => absurd (ia (19 + j) (1 + i) (by omega) (by omega) h3) (by omega))
        have hRg : ∀ i, i < 5 → va_P G vwCl (stW cs (sh a (21 + 8 * i)) ((updT R ((o + n) % 5).toNat S) i)) H := fun i hi => keepO (ordSt _ _ _) (hRg i hi) hk (fun j hj ⟨i', h1, h2, h3⟩ => absurd (ia (21 + 8 * i + j) (1 + i') (by omega) (by omega) h3) (by omega))
        have hSn := keepO (ordSn cs (sh a 61) w k) hSn hk (fun j hj ⟨i, h1, h2, h3⟩ => absurd (ia (61 + j) (1 + i) (by omega) (by omega) h3) (by omega))
        have hSw : ∀ i, i < 2 → k i = true → va_P G vwCl (stW cs (sh w (8 * i)) (V i)) H := fun i hi hk9 => keepO (ordSt _ _ _) (hSw i hi hk9) hk (fun j hj ⟨i', h1, h2, h3⟩ => absurd h3.symm (hsd.1 (1 + i') i j (by omega) hi hj hk9))
        have hPs : va_P G vwCl (stW cs (sh a 1) (up2 (up2 S 0 (updZ (S 0) 1 ((S 0 1) + 1))) 1 (updZ ((up2 S 0 (updZ (S 0) 1 ((S 0 1) + 1))) 1) (6 * (S 0 1) + 0) q))) H := hPs'
        have hPs : va_P G vwCl (stW cs (sh a 1) (up2 (up2 S 0 (updZ (S 0) 1 (S 0 1 + 1))) 1 (updZ (S 1) (6 * S 0 1 + 0) q))) H := hPs
        refine lv_aload_n hx hb dX6_addSprite_73 rfl (lv_at hl 1 rfl) ?_
        refine va_get (D := G) (ci := 6) (v := .ref ((sh a 1) 0)) (C := RX6) (T := TX6) (N := 6) hx hb hts hi6 hown hK.1 hXo 0 rfl rfl 0 (by decide) (hts (.fieldLink RX6 10 "SpriteLines" "now" "LSpriteLines$State;") (by decide +kernel)) (fun _ h9 => h9) rfl dX6_addSprite_74 ?_
        refine lv_iload hx hb dX6_addSprite_77 (lv_at hl 0 rfl) ?_
        refine z_iconst (n := 1) hx hb dX6_addSprite_79 ?_
        refine z_iconst (n := 0) hx hb dX6_addSprite_80 ?_
        refine z_v (zrV (As := [.int (zI (S 0 1)), .int (zI 1), .int (zI 0)]) (rest := []) ⟨hx, hb, hml, hown, hts⟩ (c_X4_putProperty l G cs (sh a 1) (up2 (up2 S 0 (updZ (S 0) 1 (S 0 1 + 1))) 1 (updZ (S 1) (6 * S 0 1 + 0) q)) (S 0 1) 1 0 ia1 (by omega) (by omega)) gX6_addSprite_X4_putProperty rfl qX4_putProperty rfl rfl ⟨Nat.le_of_ble_eq_true rfl, Nat.le_of_ble_eq_true rfl⟩ hPs hK (va_recv hK.1 hPs (ci := 4) (q0 := 0) rfl rfl) hl.1 rfl (Nat.le_of_ble_eq_true rfl) dX6_addSprite_81 ⟨Nat.le_of_ble_eq_true rfl, Nat.le_of_ble_eq_true rfl⟩) hS (fun q h => ax_mono (ax_sh h) (by decide) (by decide)) (fun q h => ax_mono (ax_sh h) (by decide) (by decide)) (fun H locs hpost hle hk hS => ?_)
        have hPs' := hpost
        have hXo := keepO (ordXo a) hXo hk (fun j hj ⟨i, h1, h2, h3⟩ => absurd (ia j (1 + i) (by omega) (by omega) h3) (by omega))
        have hPv := keepO (ordVi cs (sh a 9) ((sh a 1) 0) (aI F) (cB Fl) (cB Pt)) hPv hk (fun j hj ⟨i, h1, h2, h3⟩ => absurd (ia (9 + j) (1 + i) (by omega) (by omega) h3) (by omega))
        have hKp := keepO (ordPk cs (sh a 13) ((sh a 1) 0) (aI U) (aI Q) (aI N)) hKp hk (fun j hj ⟨i, h1, h2, h3⟩ => absurd (ia (13 + j) (1 + i) (by omega) (by omega) h3) (by omega))
        have hTx := keepO (ordTx cs (sh a 17) T lo hi_ X) hTx hk (fun j hj ⟨i, h1, h2, h3⟩ => absurd (ia (17 + j) (1 + i) (by omega) (by omega) h3) (by omega))
        have hHi := keepO (ordHi cs (sh a 19) (remO o n) (remN n)) hHi hk (fun j hj ⟨i, h1, h2, h3⟩ => absurd (ia (19 + j) (1 + i) (by omega) (by omega) h3) (by omega))
        have hRg : ∀ i, i < 5 → va_P G vwCl (stW cs (sh a (21 + 8 * i)) ((updT R ((o + n) % 5).toNat S) i)) H := fun i hi => keepO (ordSt _ _ _) (hRg i hi) hk (fun j hj ⟨i', h1, h2, h3⟩ => absurd (ia (21 + 8 * i + j) (1 + i') (by omega) (by omega) h3) (by omega))
        have hSn := keepO (ordSn cs (sh a 61) w k) hSn hk (fun j hj ⟨i, h1, h2, h3⟩ => absurd (ia (61 + j) (1 + i) (by omega) (by omega) h3) (by omega))
        have hSw : ∀ i, i < 2 → k i = true → va_P G vwCl (stW cs (sh w (8 * i)) (V i)) H := fun i hi hk9 => keepO (ordSt _ _ _) (hSw i hi hk9) hk (fun j hj ⟨i', h1, h2, h3⟩ => absurd h3.symm (hsd.1 (1 + i') i j (by omega) hi hj hk9))
        have hPs : va_P G vwCl (stW cs (sh a 1) (up2 (up2 (up2 S 0 (updZ (S 0) 1 (S 0 1 + 1))) 1 (updZ (S 1) (6 * S 0 1 + 0) q)) 1 (updZ ((up2 (up2 S 0 (updZ (S 0) 1 (S 0 1 + 1))) 1 (updZ (S 1) (6 * S 0 1 + 0) q)) 1) (6 * (S 0 1) + 1) 0))) H := hPs'
        have hPs : va_P G vwCl (stW cs (sh a 1) (up2 (up2 S 0 (updZ (S 0) 1 (S 0 1 + 1))) 1 (updZ (updZ (S 1) (6 * S 0 1 + 0) q) (6 * S 0 1 + 1) 0))) H := (by rw [up2_2] at hPs; exact hPs)
        refine lv_aload_n hx hb dX6_addSprite_84 rfl (lv_at hl 1 rfl) ?_
        refine va_get (D := G) (ci := 6) (v := .ref ((sh a 1) 0)) (C := RX6) (T := TX6) (N := 6) hx hb hts hi6 hown hK.1 hXo 0 rfl rfl 0 (by decide) (hts (.fieldLink RX6 10 "SpriteLines" "now" "LSpriteLines$State;") (by decide +kernel)) (fun _ h9 => h9) rfl dX6_addSprite_85 ?_
        refine lv_iload hx hb dX6_addSprite_88 (lv_at hl 0 rfl) ?_
        refine z_iconst (n := 2) hx hb dX6_addSprite_90 ?_
        refine z_iconst (n := 0) hx hb dX6_addSprite_91 ?_
        refine z_v (zrV (As := [.int (zI (S 0 1)), .int (zI 2), .int (zI 0)]) (rest := []) ⟨hx, hb, hml, hown, hts⟩ (c_X4_putProperty l G cs (sh a 1) (up2 (up2 S 0 (updZ (S 0) 1 (S 0 1 + 1))) 1 (updZ (updZ (S 1) (6 * S 0 1 + 0) q) (6 * S 0 1 + 1) 0)) (S 0 1) 2 0 ia1 (by omega) (by omega)) gX6_addSprite_X4_putProperty rfl qX4_putProperty rfl rfl ⟨Nat.le_of_ble_eq_true rfl, Nat.le_of_ble_eq_true rfl⟩ hPs hK (va_recv hK.1 hPs (ci := 4) (q0 := 0) rfl rfl) hl.1 rfl (Nat.le_of_ble_eq_true rfl) dX6_addSprite_92 ⟨Nat.le_of_ble_eq_true rfl, Nat.le_of_ble_eq_true rfl⟩) hS (fun q h => ax_mono (ax_sh h) (by decide) (by decide)) (fun q h => ax_mono (ax_sh h) (by decide) (by decide)) (fun H locs hpost hle hk hS => ?_)
        have hPs' := hpost
        have hXo := keepO (ordXo a) hXo hk (fun j hj ⟨i, h1, h2, h3⟩ => absurd (ia j (1 + i) (by omega) (by omega) h3) (by omega))
        have hPv := keepO (ordVi cs (sh a 9) ((sh a 1) 0) (aI F) (cB Fl) (cB Pt)) hPv hk (fun j hj ⟨i, h1, h2, h3⟩ => absurd (ia (9 + j) (1 + i) (by omega) (by omega) h3) (by omega))
        have hKp := keepO (ordPk cs (sh a 13) ((sh a 1) 0) (aI U) (aI Q) (aI N)) hKp hk (fun j hj ⟨i, h1, h2, h3⟩ => absurd (ia (13 + j) (1 + i) (by omega) (by omega) h3) (by omega))
        have hTx := keepO (ordTx cs (sh a 17) T lo hi_ X) hTx hk (fun j hj ⟨i, h1, h2, h3⟩ => absurd (ia (17 + j) (1 + i) (by omega) (by omega) h3) (by omega))
        have hHi := keepO (ordHi cs (sh a 19) (remO o n) (remN n)) hHi hk (fun j hj ⟨i, h1, h2, h3⟩ => absurd (ia (19 + j) (1 + i) (by omega) (by omega) h3) (by omega))
        have hRg : ∀ i, i < 5 → va_P G vwCl (stW cs (sh a (21 + 8 * i)) ((updT R ((o + n) % 5).toNat S) i)) H := fun i hi => keepO (ordSt _ _ _) (hRg i hi) hk (fun j hj ⟨i', h1, h2, h3⟩ => absurd (ia (21 + 8 * i + j) (1 + i') (by omega) (by omega) h3) (by omega))
        have hSn := keepO (ordSn cs (sh a 61) w k) hSn hk (fun j hj ⟨i, h1, h2, h3⟩ => absurd (ia (61 + j) (1 + i) (by omega) (by omega) h3) (by omega))
        have hSw : ∀ i, i < 2 → k i = true → va_P G vwCl (stW cs (sh w (8 * i)) (V i)) H := fun i hi hk9 => keepO (ordSt _ _ _) (hSw i hi hk9) hk (fun j hj ⟨i', h1, h2, h3⟩ => absurd h3.symm (hsd.1 (1 + i') i j (by omega) hi hj hk9))
        have hPs : va_P G vwCl (stW cs (sh a 1) (up2 (up2 (up2 S 0 (updZ (S 0) 1 (S 0 1 + 1))) 1 (updZ (updZ (S 1) (6 * S 0 1 + 0) q) (6 * S 0 1 + 1) 0)) 1 (updZ ((up2 (up2 S 0 (updZ (S 0) 1 (S 0 1 + 1))) 1 (updZ (updZ (S 1) (6 * S 0 1 + 0) q) (6 * S 0 1 + 1) 0)) 1) (6 * (S 0 1) + 2) 0))) H := hPs'
        have hPs : va_P G vwCl (stW cs (sh a 1) (up2 (up2 S 0 (updZ (S 0) 1 (S 0 1 + 1))) 1 (updZ (updZ (updZ (S 1) (6 * S 0 1 + 0) q) (6 * S 0 1 + 1) 0) (6 * S 0 1 + 2) 0))) H := (by rw [up2_2] at hPs; exact hPs)
        refine lv_aload_n hx hb dX6_addSprite_95 rfl (lv_at hl 1 rfl) ?_
        refine va_get (D := G) (ci := 6) (v := .ref ((sh a 1) 0)) (C := RX6) (T := TX6) (N := 6) hx hb hts hi6 hown hK.1 hXo 0 rfl rfl 0 (by decide) (hts (.fieldLink RX6 10 "SpriteLines" "now" "LSpriteLines$State;") (by decide +kernel)) (fun _ h9 => h9) rfl dX6_addSprite_96 ?_
        refine lv_iload hx hb dX6_addSprite_99 (lv_at hl 0 rfl) ?_
        refine z_iconst (n := 3) hx hb dX6_addSprite_101 ?_
        refine z_iconst (n := 1) hx hb dX6_addSprite_102 ?_
        refine z_v (zrV (As := [.int (zI (S 0 1)), .int (zI 3), .int (zI 1)]) (rest := []) ⟨hx, hb, hml, hown, hts⟩ (c_X4_putProperty l G cs (sh a 1) (up2 (up2 S 0 (updZ (S 0) 1 (S 0 1 + 1))) 1 (updZ (updZ (updZ (S 1) (6 * S 0 1 + 0) q) (6 * S 0 1 + 1) 0) (6 * S 0 1 + 2) 0)) (S 0 1) 3 1 ia1 (by omega) (by omega)) gX6_addSprite_X4_putProperty rfl qX4_putProperty rfl rfl ⟨Nat.le_of_ble_eq_true rfl, Nat.le_of_ble_eq_true rfl⟩ hPs hK (va_recv hK.1 hPs (ci := 4) (q0 := 0) rfl rfl) hl.1 rfl (Nat.le_of_ble_eq_true rfl) dX6_addSprite_103 ⟨Nat.le_of_ble_eq_true rfl, Nat.le_of_ble_eq_true rfl⟩) hS (fun q h => ax_mono (ax_sh h) (by decide) (by decide)) (fun q h => ax_mono (ax_sh h) (by decide) (by decide)) (fun H locs hpost hle hk hS => ?_)
        have hPs' := hpost
        have hXo := keepO (ordXo a) hXo hk (fun j hj ⟨i, h1, h2, h3⟩ => absurd (ia j (1 + i) (by omega) (by omega) h3) (by omega))
        have hPv := keepO (ordVi cs (sh a 9) ((sh a 1) 0) (aI F) (cB Fl) (cB Pt)) hPv hk (fun j hj ⟨i, h1, h2, h3⟩ => absurd (ia (9 + j) (1 + i) (by omega) (by omega) h3) (by omega))
        have hKp := keepO (ordPk cs (sh a 13) ((sh a 1) 0) (aI U) (aI Q) (aI N)) hKp hk (fun j hj ⟨i, h1, h2, h3⟩ => absurd (ia (13 + j) (1 + i) (by omega) (by omega) h3) (by omega))
        have hTx := keepO (ordTx cs (sh a 17) T lo hi_ X) hTx hk (fun j hj ⟨i, h1, h2, h3⟩ => absurd (ia (17 + j) (1 + i) (by omega) (by omega) h3) (by omega))
        have hHi := keepO (ordHi cs (sh a 19) (remO o n) (remN n)) hHi hk (fun j hj ⟨i, h1, h2, h3⟩ => absurd (ia (19 + j) (1 + i) (by omega) (by omega) h3) (by omega))
        have hRg : ∀ i, i < 5 → va_P G vwCl (stW cs (sh a (21 + 8 * i)) ((updT R ((o + n) % 5).toNat S) i)) H := fun i hi => keepO (ordSt _ _ _) (hRg i hi) hk (fun j hj ⟨i', h1, h2, h3⟩ => absurd (ia (21 + 8 * i + j) (1 + i') (by omega) (by omega) h3) (by omega))
        have hSn := keepO (ordSn cs (sh a 61) w k) hSn hk (fun j hj ⟨i, h1, h2, h3⟩ => absurd (ia (61 + j) (1 + i) (by omega) (by omega) h3) (by omega))
        have hSw : ∀ i, i < 2 → k i = true → va_P G vwCl (stW cs (sh w (8 * i)) (V i)) H := fun i hi hk9 => keepO (ordSt _ _ _) (hSw i hi hk9) hk (fun j hj ⟨i', h1, h2, h3⟩ => absurd h3.symm (hsd.1 (1 + i') i j (by omega) hi hj hk9))
        have hPs : va_P G vwCl (stW cs (sh a 1) (up2 (up2 (up2 S 0 (updZ (S 0) 1 (S 0 1 + 1))) 1 (updZ (updZ (updZ (S 1) (6 * S 0 1 + 0) q) (6 * S 0 1 + 1) 0) (6 * S 0 1 + 2) 0)) 1 (updZ ((up2 (up2 S 0 (updZ (S 0) 1 (S 0 1 + 1))) 1 (updZ (updZ (updZ (S 1) (6 * S 0 1 + 0) q) (6 * S 0 1 + 1) 0) (6 * S 0 1 + 2) 0)) 1) (6 * (S 0 1) + 3) 1))) H := hPs'
        have hPs : va_P G vwCl (stW cs (sh a 1) (up2 (up2 S 0 (updZ (S 0) 1 (S 0 1 + 1))) 1 (updZ (updZ (updZ (updZ (S 1) (6 * S 0 1 + 0) q) (6 * S 0 1 + 1) 0) (6 * S 0 1 + 2) 0) (6 * S 0 1 + 3) 1))) H := (by rw [up2_2] at hPs; exact hPs)
        refine lv_aload_n hx hb dX6_addSprite_106 rfl (lv_at hl 1 rfl) ?_
        refine va_get (D := G) (ci := 6) (v := .ref ((sh a 1) 0)) (C := RX6) (T := TX6) (N := 6) hx hb hts hi6 hown hK.1 hXo 0 rfl rfl 0 (by decide) (hts (.fieldLink RX6 10 "SpriteLines" "now" "LSpriteLines$State;") (by decide +kernel)) (fun _ h9 => h9) rfl dX6_addSprite_107 ?_
        refine lv_iload hx hb dX6_addSprite_110 (lv_at hl 0 rfl) ?_
        refine z_iconst (n := 4) hx hb dX6_addSprite_112 ?_
        refine lv_iload_n hx hb dX6_addSprite_113 rfl (lv_at hl 3 rfl) ?_
        refine z_v (zrV (As := [.int (zI (S 0 1)), .int (zI 4), .int (zI x)]) (rest := []) ⟨hx, hb, hml, hown, hts⟩ (c_X4_putProperty l G cs (sh a 1) (up2 (up2 S 0 (updZ (S 0) 1 (S 0 1 + 1))) 1 (updZ (updZ (updZ (updZ (S 1) (6 * S 0 1 + 0) q) (6 * S 0 1 + 1) 0) (6 * S 0 1 + 2) 0) (6 * S 0 1 + 3) 1)) (S 0 1) 4 x ia1 (by omega) (by omega)) gX6_addSprite_X4_putProperty rfl qX4_putProperty rfl rfl ⟨Nat.le_of_ble_eq_true rfl, Nat.le_of_ble_eq_true rfl⟩ hPs hK (va_recv hK.1 hPs (ci := 4) (q0 := 0) rfl rfl) hl.1 rfl (Nat.le_of_ble_eq_true rfl) dX6_addSprite_114 ⟨Nat.le_of_ble_eq_true rfl, Nat.le_of_ble_eq_true rfl⟩) hS (fun q h => ax_mono (ax_sh h) (by decide) (by decide)) (fun q h => ax_mono (ax_sh h) (by decide) (by decide)) (fun H locs hpost hle hk hS => ?_)
        have hPs' := hpost
        have hXo := keepO (ordXo a) hXo hk (fun j hj ⟨i, h1, h2, h3⟩ => absurd (ia j (1 + i) (by omega) (by omega) h3) (by omega))
        have hPv := keepO (ordVi cs (sh a 9) ((sh a 1) 0) (aI F) (cB Fl) (cB Pt)) hPv hk (fun j hj ⟨i, h1, h2, h3⟩ => absurd (ia (9 + j) (1 + i) (by omega) (by omega) h3) (by omega))
        have hKp := keepO (ordPk cs (sh a 13) ((sh a 1) 0) (aI U) (aI Q) (aI N)) hKp hk (fun j hj ⟨i, h1, h2, h3⟩ => absurd (ia (13 + j) (1 + i) (by omega) (by omega) h3) (by omega))
        have hTx := keepO (ordTx cs (sh a 17) T lo hi_ X) hTx hk (fun j hj ⟨i, h1, h2, h3⟩ => absurd (ia (17 + j) (1 + i) (by omega) (by omega) h3) (by omega))
        have hHi := keepO (ordHi cs (sh a 19) (remO o n) (remN n)) hHi hk (fun j hj ⟨i, h1, h2, h3⟩ => absurd (ia (19 + j) (1 + i) (by omega) (by omega) h3) (by omega))
        have hRg : ∀ i, i < 5 → va_P G vwCl (stW cs (sh a (21 + 8 * i)) ((updT R ((o + n) % 5).toNat S) i)) H := fun i hi => keepO (ordSt _ _ _) (hRg i hi) hk (fun j hj ⟨i', h1, h2, h3⟩ => absurd (ia (21 + 8 * i + j) (1 + i') (by omega) (by omega) h3) (by omega))
        have hSn := keepO (ordSn cs (sh a 61) w k) hSn hk (fun j hj ⟨i, h1, h2, h3⟩ => absurd (ia (61 + j) (1 + i) (by omega) (by omega) h3) (by omega))
        have hSw : ∀ i, i < 2 → k i = true → va_P G vwCl (stW cs (sh w (8 * i)) (V i)) H := fun i hi hk9 => keepO (ordSt _ _ _) (hSw i hi hk9) hk (fun j hj ⟨i', h1, h2, h3⟩ => absurd h3.symm (hsd.1 (1 + i') i j (by omega) hi hj hk9))
        have hPs : va_P G vwCl (stW cs (sh a 1) (up2 (up2 (up2 S 0 (updZ (S 0) 1 (S 0 1 + 1))) 1 (updZ (updZ (updZ (updZ (S 1) (6 * S 0 1 + 0) q) (6 * S 0 1 + 1) 0) (6 * S 0 1 + 2) 0) (6 * S 0 1 + 3) 1)) 1 (updZ ((up2 (up2 S 0 (updZ (S 0) 1 (S 0 1 + 1))) 1 (updZ (updZ (updZ (updZ (S 1) (6 * S 0 1 + 0) q) (6 * S 0 1 + 1) 0) (6 * S 0 1 + 2) 0) (6 * S 0 1 + 3) 1)) 1) (6 * (S 0 1) + 4) x))) H := hPs'
        have hPs : va_P G vwCl (stW cs (sh a 1) (up2 (up2 S 0 (updZ (S 0) 1 (S 0 1 + 1))) 1 (updZ (updZ (updZ (updZ (updZ (S 1) (6 * S 0 1 + 0) q) (6 * S 0 1 + 1) 0) (6 * S 0 1 + 2) 0) (6 * S 0 1 + 3) 1) (6 * S 0 1 + 4) x))) H := (by rw [up2_2] at hPs; exact hPs)
        refine lv_aload_n hx hb dX6_addSprite_117 rfl (lv_at hl 1 rfl) ?_
        refine va_get (D := G) (ci := 6) (v := .ref ((sh a 1) 0)) (C := RX6) (T := TX6) (N := 6) hx hb hts hi6 hown hK.1 hXo 0 rfl rfl 0 (by decide) (hts (.fieldLink RX6 10 "SpriteLines" "now" "LSpriteLines$State;") (by decide +kernel)) (fun _ h9 => h9) rfl dX6_addSprite_118 ?_
        refine lv_iload hx hb dX6_addSprite_121 (lv_at hl 0 rfl) ?_
        refine z_iconst (n := 5) hx hb dX6_addSprite_123 ?_
        refine lv_iload_n hx hb dX6_addSprite_124 rfl (lv_at hl 4 rfl) ?_
        refine z_v (zrV (As := [.int (zI (S 0 1)), .int (zI 5), .int (zI y)]) (rest := []) ⟨hx, hb, hml, hown, hts⟩ (c_X4_putProperty l G cs (sh a 1) (up2 (up2 S 0 (updZ (S 0) 1 (S 0 1 + 1))) 1 (updZ (updZ (updZ (updZ (updZ (S 1) (6 * S 0 1 + 0) q) (6 * S 0 1 + 1) 0) (6 * S 0 1 + 2) 0) (6 * S 0 1 + 3) 1) (6 * S 0 1 + 4) x)) (S 0 1) 5 y ia1 (by omega) (by omega)) gX6_addSprite_X4_putProperty rfl qX4_putProperty rfl rfl ⟨Nat.le_of_ble_eq_true rfl, Nat.le_of_ble_eq_true rfl⟩ hPs hK (va_recv hK.1 hPs (ci := 4) (q0 := 0) rfl rfl) hl.1 rfl (Nat.le_of_ble_eq_true rfl) dX6_addSprite_125 ⟨Nat.le_of_ble_eq_true rfl, Nat.le_of_ble_eq_true rfl⟩) hS (fun q h => ax_mono (ax_sh h) (by decide) (by decide)) (fun q h => ax_mono (ax_sh h) (by decide) (by decide)) (fun H locs hpost hle hk hS => ?_)
        have hPs' := hpost
        have hXo := keepO (ordXo a) hXo hk (fun j hj ⟨i, h1, h2, h3⟩ => absurd (ia j (1 + i) (by omega) (by omega) h3) (by omega))
        have hPv := keepO (ordVi cs (sh a 9) ((sh a 1) 0) (aI F) (cB Fl) (cB Pt)) hPv hk (fun j hj ⟨i, h1, h2, h3⟩ => absurd (ia (9 + j) (1 + i) (by omega) (by omega) h3) (by omega))
        have hKp := keepO (ordPk cs (sh a 13) ((sh a 1) 0) (aI U) (aI Q) (aI N)) hKp hk (fun j hj ⟨i, h1, h2, h3⟩ => absurd (ia (13 + j) (1 + i) (by omega) (by omega) h3) (by omega))
        have hTx := keepO (ordTx cs (sh a 17) T lo hi_ X) hTx hk (fun j hj ⟨i, h1, h2, h3⟩ => absurd (ia (17 + j) (1 + i) (by omega) (by omega) h3) (by omega))
        have hHi := keepO (ordHi cs (sh a 19) (remO o n) (remN n)) hHi hk (fun j hj ⟨i, h1, h2, h3⟩ => absurd (ia (19 + j) (1 + i) (by omega) (by omega) h3) (by omega))
        have hRg : ∀ i, i < 5 → va_P G vwCl (stW cs (sh a (21 + 8 * i)) ((updT R ((o + n) % 5).toNat S) i)) H := fun i hi => keepO (ordSt _ _ _) (hRg i hi) hk (fun j hj ⟨i', h1, h2, h3⟩ => absurd (ia (21 + 8 * i + j) (1 + i') (by omega) (by omega) h3) (by omega))
        have hSn := keepO (ordSn cs (sh a 61) w k) hSn hk (fun j hj ⟨i, h1, h2, h3⟩ => absurd (ia (61 + j) (1 + i) (by omega) (by omega) h3) (by omega))
        have hSw : ∀ i, i < 2 → k i = true → va_P G vwCl (stW cs (sh w (8 * i)) (V i)) H := fun i hi hk9 => keepO (ordSt _ _ _) (hSw i hi hk9) hk (fun j hj ⟨i', h1, h2, h3⟩ => absurd h3.symm (hsd.1 (1 + i') i j (by omega) hi hj hk9))
        have hPs : va_P G vwCl (stW cs (sh a 1) (up2 (up2 (up2 S 0 (updZ (S 0) 1 (S 0 1 + 1))) 1 (updZ (updZ (updZ (updZ (updZ (S 1) (6 * S 0 1 + 0) q) (6 * S 0 1 + 1) 0) (6 * S 0 1 + 2) 0) (6 * S 0 1 + 3) 1) (6 * S 0 1 + 4) x)) 1 (updZ ((up2 (up2 S 0 (updZ (S 0) 1 (S 0 1 + 1))) 1 (updZ (updZ (updZ (updZ (updZ (S 1) (6 * S 0 1 + 0) q) (6 * S 0 1 + 1) 0) (6 * S 0 1 + 2) 0) (6 * S 0 1 + 3) 1) (6 * S 0 1 + 4) x)) 1) (6 * (S 0 1) + 5) y))) H := hPs'
        have hPs : va_P G vwCl (stW cs (sh a 1) (addSp S q x y)) H := (by rw [up2_2] at hPs; exact hPs)
        refine lv_iload hx hb dX6_addSprite_128 (lv_at hl 0 rfl) ?_
        exact w_iret hx hb hr hlk dX6_addSprite_130 hS (by rw [show addSpriteF (S, (n, L), (tl, X), (k, V)) q x y = _ from by unfold addSpriteF; rw [if_neg (show ¬ (¬ (0 ≤ q ∧ q < S 0 0)) by omega), if_neg (show ¬ (¬ ((-7 ≤ x ∧ x ≤ 31) ∧ (-7 ≤ y ∧ y ≤ 31))) by omega), if_neg (show ¬ (20 ≤ S 0 1) by omega)]]; exact ⟨rfl, ⟨F, Fl, Pt, U, Q, N, T, lo, hi_, remO o n, updT R ((o + n) % 5).toNat S, ⟨hTF, hT0⟩, (ring_rem ⟨ho, hRing⟩ hn), hXo, hPs, hPv, hKp, hTx, hHi, hRg, hSn, hSw⟩⟩)
      · skip
        refine z_bipush (n := -3) hx hb dX6_addSprite_37 (by decide) ?_
        exact w_iret hx hb hr hlk dX6_addSprite_39 hS (by rw [show addSpriteF (S, (n, L), (tl, X), (k, V)) q x y = _ from by unfold addSpriteF; rw [if_neg (show ¬ (¬ (0 ≤ q ∧ q < S 0 0)) by omega), if_neg (show ¬ (¬ ((-7 ≤ x ∧ x ≤ 31) ∧ (-7 ≤ y ∧ y ≤ 31))) by omega), if_pos (show 20 ≤ S 0 1 by omega)]]; exact ⟨rfl, ⟨F, Fl, Pt, U, Q, N, T, lo, hi_, o, R, ⟨hTF, hT0⟩, ⟨ho, hRing⟩, hXo, hPs, hPv, hKp, hTx, hHi, hRg, hSn, hSw⟩⟩)
    · skip
      simp only [decide_eq_true_eq] at c3
      refine z_bipush (n := -2) hx hb dX6_addSprite_18 (by decide) ?_
      exact w_iret hx hb hr hlk dX6_addSprite_20 hS (by rw [show addSpriteF (S, (n, L), (tl, X), (k, V)) q x y = _ from by unfold addSpriteF; rw [if_neg (show ¬ (¬ (0 ≤ q ∧ q < S 0 0)) by omega), if_pos (show ¬ ((-7 ≤ x ∧ x ≤ 31) ∧ (-7 ≤ y ∧ y ≤ 31)) by omega)]]; exact ⟨rfl, ⟨F, Fl, Pt, U, Q, N, T, lo, hi_, o, R, ⟨hTF, hT0⟩, ⟨ho, hRing⟩, hXo, hPs, hPv, hKp, hTx, hHi, hRg, hSn, hSw⟩⟩)
  · skip
    simp only [decide_eq_true_eq] at c1
    refine z_iconst (n := -1) hx hb dX6_addSprite_8 ?_
    exact w_iret hx hb hr hlk dX6_addSprite_9 hS (by rw [show addSpriteF (S, (n, L), (tl, X), (k, V)) q x y = _ from by unfold addSpriteF; rw [if_pos (show ¬ (0 ≤ q ∧ q < S 0 0) by omega)]]; exact ⟨rfl, ⟨F, Fl, Pt, U, Q, N, T, lo, hi_, o, R, ⟨hTF, hT0⟩, ⟨ho, hRing⟩, hXo, hPs, hPv, hKp, hTx, hHi, hRg, hSn, hSw⟩⟩)

set_option maxHeartbeats 4000000 in
set_option maxRecDepth 100000 in
theorem c_X6_move (l : Launch) (G : va_G) (cs : Nat → ClassId) (a w : Nat → Nat) (S : SS) (n : Int) (L : Nat → SS) (tl : Int) (X : Int → Int) (k : Nat → Bool) (V : Nat → SS) (z x y : Int) (ia : Inj a 62) (hsd : SnD a w k) (hA : AWF (S, (n, L), (tl, X), (k, V))) (r_z : -2147483648 ≤ z ∧ z < 2147483648) (r_x : -2147483648 ≤ x ∧ x < 2147483648) (r_y : -2147483648 ≤ y ∧ y < 2147483648) : MW l yX6_move wsX6_move { frames := 4, cells := 0, slots := 0, locals := 123 } G cs [.ref (a 0), .int (zI z), .int (zI x), .int (zI y)] (fun H => XI G cs a w (S, (n, L), (tl, X), (k, V)) H) (fun vv H => vv = .int (zI (moveF (S, (n, L), (tl, X), (k, V)) z x y).1) ∧ XI G cs a w (moveF (S, (n, L), (tl, X), (k, V)) z x y).2 H) (AX a 0 62) 0 0 := by
  refine m_intro (Pw := (fun H => XI G cs a w (S, (n, L), (tl, X), (k, V)) H)) (cc := cX6_move) (maxL := 4) (ret := some .int) RX6 (by decide) rfl rfl (Nat.le_of_ble_eq_true rfl) ?_
  intro pP eE sS mM below meth cC hx hb hr hts hown hml hlk hnm hPre hK ls hl
  have hl : lv_has ls 4 [(0, .ref (a 0)), (1, .int (zI z)), (2, .int (zI x)), (3, .int (zI y))] := hl
  have hXI := hPre
  have hS : va_S (AX a 0 62) sS.heap sS.heap [] := va_S.rf
  have hi6 : ∀ w ∈ u_ws RX6 TX6 6, w ∈ wsX6_move := by decide +kernel
  obtain ⟨F, Fl, Pt, U, Q, N, T, lo, hi_, o, R, ⟨hTF, hT0⟩, ⟨ho, hRing⟩, hXo, hPs, hPv, hKp, hTx, hHi, hRg, hSn, hSw⟩ := hXI
  obtain ⟨wf, ⟨hn, hL9⟩, ⟨htl, hX⟩, hV9⟩ := hA
  have hT0 : T 0 = tl := hT0
  have hRing : ∀ i : Nat, (i : Int) < n → R ((o + i) % 5).toNat = L i := hRing
  have wf : WF S := wf
  have hn : 0 ≤ n ∧ n ≤ 5 := hn
  have htl : 0 ≤ tl ∧ tl ≤ 60 := htl
  have hX : ∀ j, 0 ≤ j → j < 60 → 0 ≤ X j ∧ X j < 65536 := hX
  have hXo : va_P G vwCl (xoW a) sS.heap := hXo
  have hPs : va_P G vwCl (stW cs (sh a 1) S) sS.heap := hPs
  have hPv : va_P G vwCl (viW cs (sh a 9) ((sh a 1) 0) (aI F) (cB Fl) (cB Pt)) sS.heap := hPv
  have hKp : va_P G vwCl (pkW cs (sh a 13) ((sh a 1) 0) (aI U) (aI Q) (aI N)) sS.heap := hKp
  have hTx : va_P G vwCl (txW cs (sh a 17) T lo hi_ X) sS.heap := hTx
  have hHi : va_P G vwCl (hiW cs (sh a 19) o n) sS.heap := hHi
  have hRg : ∀ i, i < 5 → va_P G vwCl (stW cs (sh a (21 + 8 * i)) (R i)) sS.heap := hRg
  have hSn : va_P G vwCl (snW cs (sh a 61) w k) sS.heap := hSn
  have hSw : ∀ i, i < 2 → k i = true → va_P G vwCl (stW cs (sh w (8 * i)) (V i)) sS.heap := hSw
  have wf0 := wf
  obtain ⟨w0, w1, w2, w3, w4, wP, wC, wS, wX⟩ := wf
  have ia1 := inj_sh (k := 1) (w := 8) ia (by decide)
  refine lv_aload_n hx hb dX6_move_0 rfl (lv_at hl 0 rfl) ?_
  refine lv_iload_n hx hb dX6_move_1 rfl (lv_at hl 1 rfl) ?_
  refine z_ro (zrV (As := [.int (zI z)]) (rest := []) (Pw := fun H => va_P G vwCl (xoW a) H ∧ va_P G vwCl (stW cs (sh a 1) S) H) ⟨hx, hb, hml, hown, hts⟩ (c_X6_isNoSprite l G cs a S z wf0 (by omega)) gX6_move_X6_isNoSprite rfl qX6_isNoSprite rfl rfl ⟨Nat.le_of_ble_eq_true rfl, Nat.le_of_ble_eq_true rfl⟩ ⟨hXo, hPs⟩ hK (va_recv hK.1 hXo (ci := 6) (q0 := 0) rfl rfl) hl.1 rfl (Nat.le_of_ble_eq_true rfl) dX6_move_2 ⟨Nat.le_of_ble_eq_true rfl, Nat.le_of_ble_eq_true rfl⟩) ?_
  refine z_bif_eq (tgt := 10) hx hb dX6_move_5 (by decide) (fun c1 => ?_) (fun c1 => ?_)
  · skip
    simp only [decide_eq_false_iff_not] at c1
    refine lv_iload_n hx hb dX6_move_10 rfl (lv_at hl 2 rfl) ?_
    refine lv_iload_n hx hb dX6_move_11 rfl (lv_at hl 3 rfl) ?_
    refine z_ro (zrS (As := [.int (zI x), .int (zI y)]) (rest := []) (Pw := fun _ => True) ⟨hx, hb, hml, hown, hts⟩ (c_X6_isNoPlaceOnScreen l G cs x y (by omega) (by omega)) gX6_move_X6_isNoPlaceOnScreen rfl qX6_isNoPlaceOnScreen rfl rfl ⟨Nat.le_of_ble_eq_true rfl, Nat.le_of_ble_eq_true rfl⟩ trivial hK hl.1 rfl (Nat.le_of_ble_eq_true rfl) dX6_move_12 ⟨Nat.le_of_ble_eq_true rfl, Nat.le_of_ble_eq_true rfl⟩) ?_
    refine z_bif_eq (tgt := 21) hx hb dX6_move_15 (by decide) (fun c3 => ?_) (fun c3 => ?_)
    · skip
      simp only [decide_eq_false_iff_not] at c3
      refine lv_aload_n hx hb dX6_move_21 rfl (lv_at hl 0 rfl) ?_
      refine va_get (D := G) (ci := 6) (v := .ref ((sh a 19) 0)) (C := RX6) (T := TX6) (N := 6) hx hb hts hi6 hown hK.1 hXo 0 rfl rfl 4 (by decide) (hts (.fieldLink RX6 42 "SpriteLines" "history" "LSpriteLines$History;") (by decide +kernel)) (fun _ h9 => h9) rfl dX6_move_22 ?_
      refine lv_aload_n hx hb dX6_move_25 rfl (lv_at hl 0 rfl) ?_
      refine va_get (D := G) (ci := 6) (v := .ref ((sh a 1) 0)) (C := RX6) (T := TX6) (N := 6) hx hb hts hi6 hown hK.1 hXo 0 rfl rfl 0 (by decide) (hts (.fieldLink RX6 10 "SpriteLines" "now" "LSpriteLines$State;") (by decide +kernel)) (fun _ h9 => h9) rfl dX6_move_26 ?_
      refine z_v (zrV (As := [.ref ((sh a 1) 0)]) (rest := []) (Pw := fun H => va_P G vwCl (stW cs (sh a 1) S) H ∧ va_P G vwCl (hiW cs (sh a 19) o n) H ∧ ∀ i, i < 5 → va_P G vwCl (stW cs (sh a (21 + 8 * i)) (R i)) H) ⟨hx, hb, hml, hown, hts⟩ (c_X0_remember l G cs a S o n R ia (by omega) (by omega)) gX6_move_X0_remember rfl qX0_remember rfl rfl ⟨Nat.le_of_ble_eq_true rfl, Nat.le_of_ble_eq_true rfl⟩ ⟨hPs, hHi, hRg⟩ hK (va_recv hK.1 hHi (ci := 0) (q0 := 0) rfl rfl) hl.1 rfl (Nat.le_of_ble_eq_true rfl) dX6_move_29 ⟨Nat.le_of_ble_eq_true rfl, Nat.le_of_ble_eq_true rfl⟩) hS (fun q h => ax_mono h (by decide) (by decide)) (fun q h => ax_mono h (by decide) (by decide)) (fun H locs hpost hle hk hS => ?_)
      obtain ⟨hHi', hRg'⟩ := hpost
      have hXo := keepO (ordXo a) hXo hk (fun j hj ⟨i, h1, h2, h3⟩ => absurd (ia j i (by omega) (by omega) h3) (by omega))
      have hPs := keepO (ordSt cs (sh a 1) S) hPs hk (fun j hj ⟨i, h1, h2, h3⟩ => absurd (ia (1 + j) i (by omega) (by omega) h3) (by omega))
      have hPv := keepO (ordVi cs (sh a 9) ((sh a 1) 0) (aI F) (cB Fl) (cB Pt)) hPv hk (fun j hj ⟨i, h1, h2, h3⟩ => absurd (ia (9 + j) i (by omega) (by omega) h3) (by omega))
      have hKp := keepO (ordPk cs (sh a 13) ((sh a 1) 0) (aI U) (aI Q) (aI N)) hKp hk (fun j hj ⟨i, h1, h2, h3⟩ => absurd (ia (13 + j) i (by omega) (by omega) h3) (by omega))
      have hTx := keepO (ordTx cs (sh a 17) T lo hi_ X) hTx hk (fun j hj ⟨i, h1, h2, h3⟩ => absurd (ia (17 + j) i (by omega) (by omega) h3) (by omega))
      have hSn := keepO (ordSn cs (sh a 61) w k) hSn hk (fun j hj ⟨i, h1, h2, h3⟩ => absurd (ia (61 + j) i (by omega) (by omega) h3) (by omega))
      have hSw : ∀ i, i < 2 → k i = true → va_P G vwCl (stW cs (sh w (8 * i)) (V i)) H := fun i hi hk9 => keepO (ordSt _ _ _) (hSw i hi hk9) hk (fun j hj ⟨i', h1, h2, h3⟩ => absurd h3.symm (hsd.1 i' i j (by omega) hi hj hk9))
      have hHi : va_P G vwCl (hiW cs (sh a 19) (remO o n) (remN n)) H := hHi'
      have hRg : ∀ i, i < 5 → va_P G vwCl (stW cs (sh a (21 + 8 * i)) ((updT R ((o + n) % 5).toNat S) i)) H := hRg'
      refine lv_aload_n hx hb dX6_move_32 rfl (lv_at hl 0 rfl) ?_
      refine va_get (D := G) (ci := 6) (v := .ref ((sh a 1) 0)) (C := RX6) (T := TX6) (N := 6) hx hb hts hi6 hown hK.1 hXo 0 rfl rfl 0 (by decide) (hts (.fieldLink RX6 10 "SpriteLines" "now" "LSpriteLines$State;") (by decide +kernel)) (fun _ h9 => h9) rfl dX6_move_33 ?_
      refine lv_iload_n hx hb dX6_move_36 rfl (lv_at hl 1 rfl) ?_
      refine z_iconst (n := 4) hx hb dX6_move_37 ?_
      refine lv_iload_n hx hb dX6_move_38 rfl (lv_at hl 2 rfl) ?_
      refine z_v (zrV (As := [.int (zI z), .int (zI 4), .int (zI x)]) (rest := []) ⟨hx, hb, hml, hown, hts⟩ (c_X4_putProperty l G cs (sh a 1) S z 4 x ia1 (by omega) (by omega)) gX6_move_X4_putProperty rfl qX4_putProperty rfl rfl ⟨Nat.le_of_ble_eq_true rfl, Nat.le_of_ble_eq_true rfl⟩ hPs hK (va_recv hK.1 hPs (ci := 4) (q0 := 0) rfl rfl) hl.1 rfl (Nat.le_of_ble_eq_true rfl) dX6_move_39 ⟨Nat.le_of_ble_eq_true rfl, Nat.le_of_ble_eq_true rfl⟩) hS (fun q h => ax_mono (ax_sh h) (by decide) (by decide)) (fun q h => ax_mono (ax_sh h) (by decide) (by decide)) (fun H locs hpost hle hk hS => ?_)
      have hPs' := hpost
      have hXo := keepO (ordXo a) hXo hk (fun j hj ⟨i, h1, h2, h3⟩ => absurd (ia j (1 + i) (by omega) (by omega) h3) (by omega))
      have hPv := keepO (ordVi cs (sh a 9) ((sh a 1) 0) (aI F) (cB Fl) (cB Pt)) hPv hk (fun j hj ⟨i, h1, h2, h3⟩ => absurd (ia (9 + j) (1 + i) (by omega) (by omega) h3) (by omega))
      have hKp := keepO (ordPk cs (sh a 13) ((sh a 1) 0) (aI U) (aI Q) (aI N)) hKp hk (fun j hj ⟨i, h1, h2, h3⟩ => absurd (ia (13 + j) (1 + i) (by omega) (by omega) h3) (by omega))
      have hTx := keepO (ordTx cs (sh a 17) T lo hi_ X) hTx hk (fun j hj ⟨i, h1, h2, h3⟩ => absurd (ia (17 + j) (1 + i) (by omega) (by omega) h3) (by omega))
      have hHi := keepO (ordHi cs (sh a 19) (remO o n) (remN n)) hHi hk (fun j hj ⟨i, h1, h2, h3⟩ => absurd (ia (19 + j) (1 + i) (by omega) (by omega) h3) (by omega))
      have hRg : ∀ i, i < 5 → va_P G vwCl (stW cs (sh a (21 + 8 * i)) ((updT R ((o + n) % 5).toNat S) i)) H := fun i hi => keepO (ordSt _ _ _) (hRg i hi) hk (fun j hj ⟨i', h1, h2, h3⟩ => absurd (ia (21 + 8 * i + j) (1 + i') (by omega) (by omega) h3) (by omega))
      have hSn := keepO (ordSn cs (sh a 61) w k) hSn hk (fun j hj ⟨i, h1, h2, h3⟩ => absurd (ia (61 + j) (1 + i) (by omega) (by omega) h3) (by omega))
      have hSw : ∀ i, i < 2 → k i = true → va_P G vwCl (stW cs (sh w (8 * i)) (V i)) H := fun i hi hk9 => keepO (ordSt _ _ _) (hSw i hi hk9) hk (fun j hj ⟨i', h1, h2, h3⟩ => absurd h3.symm (hsd.1 (1 + i') i j (by omega) hi hj hk9))
      have hPs : va_P G vwCl (stW cs (sh a 1) (up2 S 1 (updZ (S 1) (6 * z + 4) x))) H := hPs'
      refine lv_aload_n hx hb dX6_move_42 rfl (lv_at hl 0 rfl) ?_
      refine va_get (D := G) (ci := 6) (v := .ref ((sh a 1) 0)) (C := RX6) (T := TX6) (N := 6) hx hb hts hi6 hown hK.1 hXo 0 rfl rfl 0 (by decide) (hts (.fieldLink RX6 10 "SpriteLines" "now" "LSpriteLines$State;") (by decide +kernel)) (fun _ h9 => h9) rfl dX6_move_43 ?_
      refine lv_iload_n hx hb dX6_move_46 rfl (lv_at hl 1 rfl) ?_
      refine z_iconst (n := 5) hx hb dX6_move_47 ?_
      refine lv_iload_n hx hb dX6_move_48 rfl (lv_at hl 3 rfl) ?_
      refine z_v (zrV (As := [.int (zI z), .int (zI 5), .int (zI y)]) (rest := []) ⟨hx, hb, hml, hown, hts⟩ (c_X4_putProperty l G cs (sh a 1) (up2 S 1 (updZ (S 1) (6 * z + 4) x)) z 5 y ia1 (by omega) (by omega)) gX6_move_X4_putProperty rfl qX4_putProperty rfl rfl ⟨Nat.le_of_ble_eq_true rfl, Nat.le_of_ble_eq_true rfl⟩ hPs hK (va_recv hK.1 hPs (ci := 4) (q0 := 0) rfl rfl) hl.1 rfl (Nat.le_of_ble_eq_true rfl) dX6_move_49 ⟨Nat.le_of_ble_eq_true rfl, Nat.le_of_ble_eq_true rfl⟩) hS (fun q h => ax_mono (ax_sh h) (by decide) (by decide)) (fun q h => ax_mono (ax_sh h) (by decide) (by decide)) (fun H locs hpost hle hk hS => ?_)
      have hPs' := hpost
      have hXo := keepO (ordXo a) hXo hk (fun j hj ⟨i, h1, h2, h3⟩ => absurd (ia j (1 + i) (by omega) (by omega) h3) (by omega))
      have hPv := keepO (ordVi cs (sh a 9) ((sh a 1) 0) (aI F) (cB Fl) (cB Pt)) hPv hk (fun j hj ⟨i, h1, h2, h3⟩ => absurd (ia (9 + j) (1 + i) (by omega) (by omega) h3) (by omega))
      have hKp := keepO (ordPk cs (sh a 13) ((sh a 1) 0) (aI U) (aI Q) (aI N)) hKp hk (fun j hj ⟨i, h1, h2, h3⟩ => absurd (ia (13 + j) (1 + i) (by omega) (by omega) h3) (by omega))
      have hTx := keepO (ordTx cs (sh a 17) T lo hi_ X) hTx hk (fun j hj ⟨i, h1, h2, h3⟩ => absurd (ia (17 + j) (1 + i) (by omega) (by omega) h3) (by omega))
      have hHi := keepO (ordHi cs (sh a 19) (remO o n) (remN n)) hHi hk (fun j hj ⟨i, h1, h2, h3⟩ => absurd (ia (19 + j) (1 + i) (by omega) (by omega) h3) (by omega))
      have hRg : ∀ i, i < 5 → va_P G vwCl (stW cs (sh a (21 + 8 * i)) ((updT R ((o + n) % 5).toNat S) i)) H := fun i hi => keepO (ordSt _ _ _) (hRg i hi) hk (fun j hj ⟨i', h1, h2, h3⟩ => absurd (ia (21 + 8 * i + j) (1 + i') (by omega) (by omega) h3) (by omega))
      have hSn := keepO (ordSn cs (sh a 61) w k) hSn hk (fun j hj ⟨i, h1, h2, h3⟩ => absurd (ia (61 + j) (1 + i) (by omega) (by omega) h3) (by omega))
      have hSw : ∀ i, i < 2 → k i = true → va_P G vwCl (stW cs (sh w (8 * i)) (V i)) H := fun i hi hk9 => keepO (ordSt _ _ _) (hSw i hi hk9) hk (fun j hj ⟨i', h1, h2, h3⟩ => absurd h3.symm (hsd.1 (1 + i') i j (by omega) hi hj hk9))
      have hPs : va_P G vwCl (stW cs (sh a 1) (up2 (up2 S 1 (updZ (S 1) (6 * z + 4) x)) 1 (updZ ((up2 S 1 (updZ (S 1) (6 * z + 4) x)) 1) (6 * z + 5) y))) H := hPs'
      have hPs : va_P G vwCl (stW cs (sh a 1) (mvS S z x y)) H := (by rw [up2_2] at hPs; exact hPs)
      refine lv_aload_n hx hb dX6_move_52 rfl (lv_at hl 0 rfl) ?_
      refine va_get (D := G) (ci := 6) (v := .ref ((sh a 1) 0)) (C := RX6) (T := TX6) (N := 6) hx hb hts hi6 hown hK.1 hXo 0 rfl rfl 0 (by decide) (hts (.fieldLink RX6 10 "SpriteLines" "now" "LSpriteLines$State;") (by decide +kernel)) (fun _ h9 => h9) rfl dX6_move_53 ?_
      refine lv_iload_n hx hb dX6_move_56 rfl (lv_at hl 1 rfl) ?_
      refine z_ro (zrV (As := [.int (zI z)]) (rest := []) ⟨hx, hb, hml, hown, hts⟩ (c_X4_linesCovered l G cs (sh a 1) (mvS S z x y) z (wf_mv wf0 (by omega)) (show 0 ≤ z ∧ z < S 0 1 by omega)) gX6_move_X4_linesCovered rfl qX4_linesCovered rfl rfl ⟨Nat.le_of_ble_eq_true rfl, Nat.le_of_ble_eq_true rfl⟩ hPs hK (va_recv hK.1 hPs (ci := 4) (q0 := 0) rfl rfl) hl.1 rfl (Nat.le_of_ble_eq_true rfl) dX6_move_57 ⟨Nat.le_of_ble_eq_true rfl, Nat.le_of_ble_eq_true rfl⟩) ?_
      exact w_iret hx hb hr hlk dX6_move_60 hS (by rw [show moveF (S, (n, L), (tl, X), (k, V)) z x y = _ from by unfold moveF; rw [if_neg (show ¬ (¬ (0 ≤ z ∧ z < S 0 1)) by omega), if_neg (show ¬ (¬ ((-7 ≤ x ∧ x ≤ 31) ∧ (-7 ≤ y ∧ y ≤ 31))) by omega)]]; exact ⟨rfl, ⟨F, Fl, Pt, U, Q, N, T, lo, hi_, remO o n, updT R ((o + n) % 5).toNat S, ⟨hTF, hT0⟩, (ring_rem ⟨ho, hRing⟩ hn), hXo, hPs, hPv, hKp, hTx, hHi, hRg, hSn, hSw⟩⟩)
    · skip
      simp only [decide_eq_true_eq] at c3
      refine z_bipush (n := -2) hx hb dX6_move_18 (by decide) ?_
      exact w_iret hx hb hr hlk dX6_move_20 hS (by rw [show moveF (S, (n, L), (tl, X), (k, V)) z x y = _ from by unfold moveF; rw [if_neg (show ¬ (¬ (0 ≤ z ∧ z < S 0 1)) by omega), if_pos (show ¬ ((-7 ≤ x ∧ x ≤ 31) ∧ (-7 ≤ y ∧ y ≤ 31)) by omega)]]; exact ⟨rfl, ⟨F, Fl, Pt, U, Q, N, T, lo, hi_, o, R, ⟨hTF, hT0⟩, ⟨ho, hRing⟩, hXo, hPs, hPv, hKp, hTx, hHi, hRg, hSn, hSw⟩⟩)
  · skip
    simp only [decide_eq_true_eq] at c1
    refine z_iconst (n := -1) hx hb dX6_move_8 ?_
    exact w_iret hx hb hr hlk dX6_move_9 hS (by rw [show moveF (S, (n, L), (tl, X), (k, V)) z x y = _ from by unfold moveF; rw [if_pos (show ¬ (0 ≤ z ∧ z < S 0 1) by omega)]]; exact ⟨rfl, ⟨F, Fl, Pt, U, Q, N, T, lo, hi_, o, R, ⟨hTF, hT0⟩, ⟨ho, hRing⟩, hXo, hPs, hPv, hKp, hTx, hHi, hRg, hSn, hSw⟩⟩)

set_option maxHeartbeats 4000000 in
set_option maxRecDepth 100000 in
theorem c_X6_set (l : Launch) (G : va_G) (cs : Nat → ClassId) (a w : Nat → Nat) (S : SS) (n : Int) (L : Nat → SS) (tl : Int) (X : Int → Int) (k : Nat → Bool) (V : Nat → SS) (z t v : Int) (ia : Inj a 62) (hsd : SnD a w k) (hA : AWF (S, (n, L), (tl, X), (k, V))) (r_z : -2147483648 ≤ z ∧ z < 2147483648) (r_t : -2147483648 ≤ t ∧ t < 2147483648) (r_v : -2147483648 ≤ v ∧ v < 2147483648) : MW l yX6_set wsX6_set { frames := 4, cells := 0, slots := 0, locals := 123 } G cs [.ref (a 0), .int (zI z), .int (zI t), .int (zI v)] (fun H => XI G cs a w (S, (n, L), (tl, X), (k, V)) H) (fun vv H => vv = .int (zI (setF (S, (n, L), (tl, X), (k, V)) z t v).1) ∧ XI G cs a w (setF (S, (n, L), (tl, X), (k, V)) z t v).2 H) (AX a 0 62) 0 0 := by
  refine m_intro (Pw := (fun H => XI G cs a w (S, (n, L), (tl, X), (k, V)) H)) (cc := cX6_set) (maxL := 5) (ret := some .int) RX6 (by decide) rfl rfl (Nat.le_of_ble_eq_true rfl) ?_
  intro pP eE sS mM below meth cC hx hb hr hts hown hml hlk hnm hPre hK ls hl
  have hl : lv_has ls 5 [(0, .ref (a 0)), (1, .int (zI z)), (2, .int (zI t)), (3, .int (zI v))] := hl
  have hXI := hPre
  have hS : va_S (AX a 0 62) sS.heap sS.heap [] := va_S.rf
  have hi6 : ∀ w ∈ u_ws RX6 TX6 6, w ∈ wsX6_set := by decide +kernel
  obtain ⟨F, Fl, Pt, U, Q, N, T, lo, hi_, o, R, ⟨hTF, hT0⟩, ⟨ho, hRing⟩, hXo, hPs, hPv, hKp, hTx, hHi, hRg, hSn, hSw⟩ := hXI
  obtain ⟨wf, ⟨hn, hL9⟩, ⟨htl, hX⟩, hV9⟩ := hA
  have hT0 : T 0 = tl := hT0
  have hRing : ∀ i : Nat, (i : Int) < n → R ((o + i) % 5).toNat = L i := hRing
  have wf : WF S := wf
  have hn : 0 ≤ n ∧ n ≤ 5 := hn
  have htl : 0 ≤ tl ∧ tl ≤ 60 := htl
  have hX : ∀ j, 0 ≤ j → j < 60 → 0 ≤ X j ∧ X j < 65536 := hX
  have hXo : va_P G vwCl (xoW a) sS.heap := hXo
  have hPs : va_P G vwCl (stW cs (sh a 1) S) sS.heap := hPs
  have hPv : va_P G vwCl (viW cs (sh a 9) ((sh a 1) 0) (aI F) (cB Fl) (cB Pt)) sS.heap := hPv
  have hKp : va_P G vwCl (pkW cs (sh a 13) ((sh a 1) 0) (aI U) (aI Q) (aI N)) sS.heap := hKp
  have hTx : va_P G vwCl (txW cs (sh a 17) T lo hi_ X) sS.heap := hTx
  have hHi : va_P G vwCl (hiW cs (sh a 19) o n) sS.heap := hHi
  have hRg : ∀ i, i < 5 → va_P G vwCl (stW cs (sh a (21 + 8 * i)) (R i)) sS.heap := hRg
  have hSn : va_P G vwCl (snW cs (sh a 61) w k) sS.heap := hSn
  have hSw : ∀ i, i < 2 → k i = true → va_P G vwCl (stW cs (sh w (8 * i)) (V i)) sS.heap := hSw
  have wf0 := wf
  obtain ⟨w0, w1, w2, w3, w4, wP, wC, wS, wX⟩ := wf
  have ia1 := inj_sh (k := 1) (w := 8) ia (by decide)
  refine lv_aload_n hx hb dX6_set_0 rfl (lv_at hl 0 rfl) ?_
  refine lv_iload_n hx hb dX6_set_1 rfl (lv_at hl 1 rfl) ?_
  refine z_ro (zrV (As := [.int (zI z)]) (rest := []) (Pw := fun H => va_P G vwCl (xoW a) H ∧ va_P G vwCl (stW cs (sh a 1) S) H) ⟨hx, hb, hml, hown, hts⟩ (c_X6_isNoSprite l G cs a S z wf0 (by omega)) gX6_set_X6_isNoSprite rfl qX6_isNoSprite rfl rfl ⟨Nat.le_of_ble_eq_true rfl, Nat.le_of_ble_eq_true rfl⟩ ⟨hXo, hPs⟩ hK (va_recv hK.1 hXo (ci := 6) (q0 := 0) rfl rfl) hl.1 rfl (Nat.le_of_ble_eq_true rfl) dX6_set_2 ⟨Nat.le_of_ble_eq_true rfl, Nat.le_of_ble_eq_true rfl⟩) ?_
  refine z_bif_eq (tgt := 10) hx hb dX6_set_5 (by decide) (fun c1 => ?_) (fun c1 => ?_)
  · skip
    simp only [decide_eq_false_iff_not] at c1
    refine lv_iload_n hx hb dX6_set_10 rfl (lv_at hl 3 rfl) ?_
    refine z_if_lt (tgt := 23) hx hb dX6_set_11 (by decide) (by omega) (fun c1 => ?_) (fun c1 => ?_)
    · skip
      refine z_bipush (n := -2) hx hb dX6_set_23 (by decide) ?_
      exact w_iret hx hb hr hlk dX6_set_25 hS (by rw [show setF (S, (n, L), (tl, X), (k, V)) z t v = _ from by unfold setF; rw [if_neg (show ¬ (¬ (0 ≤ z ∧ z < S 0 1)) by omega), if_pos (show ¬ (0 ≤ v ∧ v < valsF S t) by omega)]]; exact ⟨rfl, ⟨F, Fl, Pt, U, Q, N, T, lo, hi_, o, R, ⟨hTF, hT0⟩, ⟨ho, hRing⟩, hXo, hPs, hPv, hKp, hTx, hHi, hRg, hSn, hSw⟩⟩)
    · skip
      refine lv_iload_n hx hb dX6_set_14 rfl (lv_at hl 3 rfl) ?_
      refine lv_aload_n hx hb dX6_set_15 rfl (lv_at hl 0 rfl) ?_
      refine lv_iload_n hx hb dX6_set_16 rfl (lv_at hl 2 rfl) ?_
      have hvr := vals_r (t := t) wf0
      refine z_ro (zrV (As := [.int (zI t)]) (rest := [.int (zI v)]) (Pw := fun H => va_P G vwCl (xoW a) H ∧ va_P G vwCl (stW cs (sh a 1) S) H) ⟨hx, hb, hml, hown, hts⟩ (c_X6_valuesOf l G cs a S t (by omega)) gX6_set_X6_valuesOf rfl qX6_valuesOf rfl rfl ⟨Nat.le_of_ble_eq_true rfl, Nat.le_of_ble_eq_true rfl⟩ ⟨hXo, hPs⟩ hK (va_recv hK.1 hXo (ci := 6) (q0 := 0) rfl rfl) hl.1 rfl (Nat.le_of_ble_eq_true rfl) dX6_set_17 ⟨Nat.le_of_ble_eq_true rfl, Nat.le_of_ble_eq_true rfl⟩) ?_
      refine z_icmp_lt (tgt := 26) hx hb dX6_set_20 (by decide) (by omega) (by omega) (fun c2 => ?_) (fun c2 => ?_)
      · skip
        refine lv_aload_n hx hb dX6_set_26 rfl (lv_at hl 0 rfl) ?_
        refine va_get (D := G) (ci := 6) (v := .ref ((sh a 19) 0)) (C := RX6) (T := TX6) (N := 6) hx hb hts hi6 hown hK.1 hXo 0 rfl rfl 4 (by decide) (hts (.fieldLink RX6 42 "SpriteLines" "history" "LSpriteLines$History;") (by decide +kernel)) (fun _ h9 => h9) rfl dX6_set_27 ?_
        refine lv_aload_n hx hb dX6_set_30 rfl (lv_at hl 0 rfl) ?_
        refine va_get (D := G) (ci := 6) (v := .ref ((sh a 1) 0)) (C := RX6) (T := TX6) (N := 6) hx hb hts hi6 hown hK.1 hXo 0 rfl rfl 0 (by decide) (hts (.fieldLink RX6 10 "SpriteLines" "now" "LSpriteLines$State;") (by decide +kernel)) (fun _ h9 => h9) rfl dX6_set_31 ?_
        refine z_v (zrV (As := [.ref ((sh a 1) 0)]) (rest := []) (Pw := fun H => va_P G vwCl (stW cs (sh a 1) S) H ∧ va_P G vwCl (hiW cs (sh a 19) o n) H ∧ ∀ i, i < 5 → va_P G vwCl (stW cs (sh a (21 + 8 * i)) (R i)) H) ⟨hx, hb, hml, hown, hts⟩ (c_X0_remember l G cs a S o n R ia (by omega) (by omega)) gX6_set_X0_remember rfl qX0_remember rfl rfl ⟨Nat.le_of_ble_eq_true rfl, Nat.le_of_ble_eq_true rfl⟩ ⟨hPs, hHi, hRg⟩ hK (va_recv hK.1 hHi (ci := 0) (q0 := 0) rfl rfl) hl.1 rfl (Nat.le_of_ble_eq_true rfl) dX6_set_34 ⟨Nat.le_of_ble_eq_true rfl, Nat.le_of_ble_eq_true rfl⟩) hS (fun q h => ax_mono h (by decide) (by decide)) (fun q h => ax_mono h (by decide) (by decide)) (fun H locs hpost hle hk hS => ?_)
        obtain ⟨hHi', hRg'⟩ := hpost
        have hXo := keepO (ordXo a) hXo hk (fun j hj ⟨i, h1, h2, h3⟩ => absurd (ia j i (by omega) (by omega) h3) (by omega))
        have hPs := keepO (ordSt cs (sh a 1) S) hPs hk (fun j hj ⟨i, h1, h2, h3⟩ => absurd (ia (1 + j) i (by omega) (by omega) h3) (by omega))
        have hPv := keepO (ordVi cs (sh a 9) ((sh a 1) 0) (aI F) (cB Fl) (cB Pt)) hPv hk (fun j hj ⟨i, h1, h2, h3⟩ => absurd (ia (9 + j) i (by omega) (by omega) h3) (by omega))
        have hKp := keepO (ordPk cs (sh a 13) ((sh a 1) 0) (aI U) (aI Q) (aI N)) hKp hk (fun j hj ⟨i, h1, h2, h3⟩ => absurd (ia (13 + j) i (by omega) (by omega) h3) (by omega))
        have hTx := keepO (ordTx cs (sh a 17) T lo hi_ X) hTx hk (fun j hj ⟨i, h1, h2, h3⟩ => absurd (ia (17 + j) i (by omega) (by omega) h3) (by omega))
        have hSn := keepO (ordSn cs (sh a 61) w k) hSn hk (fun j hj ⟨i, h1, h2, h3⟩ => absurd (ia (61 + j) i (by omega) (by omega) h3) (by omega))
        have hSw : ∀ i, i < 2 → k i = true → va_P G vwCl (stW cs (sh w (8 * i)) (V i)) H := fun i hi hk9 => keepO (ordSt _ _ _) (hSw i hi hk9) hk (fun j hj ⟨i', h1, h2, h3⟩ => absurd h3.symm (hsd.1 i' i j (by omega) hi hj hk9))
        have hHi : va_P G vwCl (hiW cs (sh a 19) (remO o n) (remN n)) H := hHi'
        have hRg : ∀ i, i < 5 → va_P G vwCl (stW cs (sh a (21 + 8 * i)) ((updT R ((o + n) % 5).toNat S) i)) H := hRg'
        refine lv_aload_n hx hb dX6_set_37 rfl (lv_at hl 0 rfl) ?_
        refine va_get (D := G) (ci := 6) (v := .ref ((sh a 1) 0)) (C := RX6) (T := TX6) (N := 6) hx hb hts hi6 hown hK.1 hXo 0 rfl rfl 0 (by decide) (hts (.fieldLink RX6 10 "SpriteLines" "now" "LSpriteLines$State;") (by decide +kernel)) (fun _ h9 => h9) rfl dX6_set_38 ?_
        refine lv_iload_n hx hb dX6_set_41 rfl (lv_at hl 1 rfl) ?_
        refine lv_iload_n hx hb dX6_set_42 rfl (lv_at hl 2 rfl) ?_
        have hvt := (valsF_0 S (t := t) (by omega)).1
        refine z_ro (zrV (As := [.int (zI z), .int (zI t)]) (rest := []) ⟨hx, hb, hml, hown, hts⟩ (c_X4_property l G cs (sh a 1) S z t (by omega) (by omega)) gX6_set_X4_property rfl qX4_property rfl rfl ⟨Nat.le_of_ble_eq_true rfl, Nat.le_of_ble_eq_true rfl⟩ hPs hK (va_recv hK.1 hPs (ci := 4) (q0 := 0) rfl rfl) hl.1 rfl (Nat.le_of_ble_eq_true rfl) dX6_set_43 ⟨Nat.le_of_ble_eq_true rfl, Nat.le_of_ble_eq_true rfl⟩) ?_
        refine lv_istore (lv' := [(4, .int (zI (S 1 (6 * z + t)))), (0, .ref (a 0)), (1, .int (zI z)), (2, .int (zI t)), (3, .int (zI v))]) hx hb dX6_set_46 hl (by decide) rfl (fun ls hl => ?_)
        refine lv_aload_n hx hb dX6_set_48 rfl (lv_at hl 1 rfl) ?_
        refine va_get (D := G) (ci := 6) (v := .ref ((sh a 1) 0)) (C := RX6) (T := TX6) (N := 6) hx hb hts hi6 hown hK.1 hXo 0 rfl rfl 0 (by decide) (hts (.fieldLink RX6 10 "SpriteLines" "now" "LSpriteLines$State;") (by decide +kernel)) (fun _ h9 => h9) rfl dX6_set_49 ?_
        refine lv_iload_n hx hb dX6_set_52 rfl (lv_at hl 2 rfl) ?_
        refine lv_iload_n hx hb dX6_set_53 rfl (lv_at hl 3 rfl) ?_
        refine lv_iload_n hx hb dX6_set_54 rfl (lv_at hl 4 rfl) ?_
        refine z_v (zrV (As := [.int (zI z), .int (zI t), .int (zI v)]) (rest := []) ⟨hx, hb, hml, hown, hts⟩ (c_X4_putProperty l G cs (sh a 1) S z t v ia1 (by omega) (by omega)) gX6_set_X4_putProperty rfl qX4_putProperty rfl rfl ⟨Nat.le_of_ble_eq_true rfl, Nat.le_of_ble_eq_true rfl⟩ hPs hK (va_recv hK.1 hPs (ci := 4) (q0 := 0) rfl rfl) hl.1 rfl (Nat.le_of_ble_eq_true rfl) dX6_set_55 ⟨Nat.le_of_ble_eq_true rfl, Nat.le_of_ble_eq_true rfl⟩) hS (fun q h => ax_mono (ax_sh h) (by decide) (by decide)) (fun q h => ax_mono (ax_sh h) (by decide) (by decide)) (fun H locs hpost hle hk hS => ?_)
        have hPs' := hpost
        have hXo := keepO (ordXo a) hXo hk (fun j hj ⟨i, h1, h2, h3⟩ => absurd (ia j (1 + i) (by omega) (by omega) h3) (by omega))
        have hPv := keepO (ordVi cs (sh a 9) ((sh a 1) 0) (aI F) (cB Fl) (cB Pt)) hPv hk (fun j hj ⟨i, h1, h2, h3⟩ => absurd (ia (9 + j) (1 + i) (by omega) (by omega) h3) (by omega))
        have hKp := keepO (ordPk cs (sh a 13) ((sh a 1) 0) (aI U) (aI Q) (aI N)) hKp hk (fun j hj ⟨i, h1, h2, h3⟩ => absurd (ia (13 + j) (1 + i) (by omega) (by omega) h3) (by omega))
        have hTx := keepO (ordTx cs (sh a 17) T lo hi_ X) hTx hk (fun j hj ⟨i, h1, h2, h3⟩ => absurd (ia (17 + j) (1 + i) (by omega) (by omega) h3) (by omega))
        have hHi := keepO (ordHi cs (sh a 19) (remO o n) (remN n)) hHi hk (fun j hj ⟨i, h1, h2, h3⟩ => absurd (ia (19 + j) (1 + i) (by omega) (by omega) h3) (by omega))
        have hRg : ∀ i, i < 5 → va_P G vwCl (stW cs (sh a (21 + 8 * i)) ((updT R ((o + n) % 5).toNat S) i)) H := fun i hi => keepO (ordSt _ _ _) (hRg i hi) hk (fun j hj ⟨i', h1, h2, h3⟩ => absurd (ia (21 + 8 * i + j) (1 + i') (by omega) (by omega) h3) (by omega))
        have hSn := keepO (ordSn cs (sh a 61) w k) hSn hk (fun j hj ⟨i, h1, h2, h3⟩ => absurd (ia (61 + j) (1 + i) (by omega) (by omega) h3) (by omega))
        have hSw : ∀ i, i < 2 → k i = true → va_P G vwCl (stW cs (sh w (8 * i)) (V i)) H := fun i hi hk9 => keepO (ordSt _ _ _) (hSw i hi hk9) hk (fun j hj ⟨i', h1, h2, h3⟩ => absurd h3.symm (hsd.1 (1 + i') i j (by omega) hi hj hk9))
        have hPs : va_P G vwCl (stW cs (sh a 1) (up2 S 1 (updZ (S 1) (6 * z + t) v))) H := hPs'
        refine lv_iload hx hb dX6_set_58 (lv_at hl 0 rfl) ?_
        exact w_iret hx hb hr hlk dX6_set_60 hS (by rw [show setF (S, (n, L), (tl, X), (k, V)) z t v = _ from by unfold setF; rw [if_neg (show ¬ (¬ (0 ≤ z ∧ z < S 0 1)) by omega), if_neg (show ¬ (¬ (0 ≤ v ∧ v < valsF S t)) by omega)]]; exact ⟨rfl, ⟨F, Fl, Pt, U, Q, N, T, lo, hi_, remO o n, updT R ((o + n) % 5).toNat S, ⟨hTF, hT0⟩, (ring_rem ⟨ho, hRing⟩ hn), hXo, hPs, hPv, hKp, hTx, hHi, hRg, hSn, hSw⟩⟩)
      · skip
        refine z_bipush (n := -2) hx hb dX6_set_23 (by decide) ?_
        exact w_iret hx hb hr hlk dX6_set_25 hS (by rw [show setF (S, (n, L), (tl, X), (k, V)) z t v = _ from by unfold setF; rw [if_neg (show ¬ (¬ (0 ≤ z ∧ z < S 0 1)) by omega), if_pos (show ¬ (0 ≤ v ∧ v < valsF S t) by omega)]]; exact ⟨rfl, ⟨F, Fl, Pt, U, Q, N, T, lo, hi_, o, R, ⟨hTF, hT0⟩, ⟨ho, hRing⟩, hXo, hPs, hPv, hKp, hTx, hHi, hRg, hSn, hSw⟩⟩)
  · skip
    simp only [decide_eq_true_eq] at c1
    refine z_iconst (n := -1) hx hb dX6_set_8 ?_
    exact w_iret hx hb hr hlk dX6_set_9 hS (by rw [show setF (S, (n, L), (tl, X), (k, V)) z t v = _ from by unfold setF; rw [if_pos (show ¬ (0 ≤ z ∧ z < S 0 1) by omega)]]; exact ⟨rfl, ⟨F, Fl, Pt, U, Q, N, T, lo, hi_, o, R, ⟨hTF, hT0⟩, ⟨ho, hRing⟩, hXo, hPs, hPv, hKp, hTx, hHi, hRg, hSn, hSw⟩⟩)

set_option maxHeartbeats 4000000 in
set_option maxRecDepth 100000 in
theorem c_X6_swap (l : Launch) (G : va_G) (cs : Nat → ClassId) (a w : Nat → Nat) (S : SS) (n : Int) (L : Nat → SS) (tl : Int) (X : Int → Int) (k : Nat → Bool) (V : Nat → SS) (f t u d : Int) (ia : Inj a 62) (hsd : SnD a w k) (hA : AWF (S, (n, L), (tl, X), (k, V))) (r_f : -2147483648 ≤ f ∧ f < 2147483648) (r_t : -2147483648 ≤ t ∧ t < 2147483648) (r_u : -2147483648 ≤ u ∧ u < 2147483648) (r_d : -2147483648 ≤ d ∧ d < 2147483648) : MW l yX6_swap wsX6_swap { frames := 4, cells := 0, slots := 0, locals := 123 } G cs [.ref (a 0), .int (zI f), .int (zI t), .int (zI u), .int (zI d)] (fun H => XI G cs a w (S, (n, L), (tl, X), (k, V)) H) (fun vv H => vv = .int (zI (swapF (S, (n, L), (tl, X), (k, V)) f t u d).1) ∧ XI G cs a w (swapF (S, (n, L), (tl, X), (k, V)) f t u d).2 H) (AX a 0 62) 0 0 := by
  refine m_intro (Pw := (fun H => XI G cs a w (S, (n, L), (tl, X), (k, V)) H)) (cc := cX6_swap) (maxL := 6) (ret := some .int) RX6 (by decide) rfl rfl (Nat.le_of_ble_eq_true rfl) ?_
  intro pP eE sS mM below meth cC hx hb hr hts hown hml hlk hnm hPre hK ls hl
  have hl : lv_has ls 6 [(0, .ref (a 0)), (1, .int (zI f)), (2, .int (zI t)), (3, .int (zI u)), (4, .int (zI d))] := hl
  have hXI := hPre
  have hS : va_S (AX a 0 62) sS.heap sS.heap [] := va_S.rf
  have hi6 : ∀ w ∈ u_ws RX6 TX6 6, w ∈ wsX6_swap := by decide +kernel
  obtain ⟨F, Fl, Pt, U, Q, N, T, lo, hi_, o, R, ⟨hTF, hT0⟩, ⟨ho, hRing⟩, hXo, hPs, hPv, hKp, hTx, hHi, hRg, hSn, hSw⟩ := hXI
  obtain ⟨wf, ⟨hn, hL9⟩, ⟨htl, hX⟩, hV9⟩ := hA
  have hT0 : T 0 = tl := hT0
  have hRing : ∀ i : Nat, (i : Int) < n → R ((o + i) % 5).toNat = L i := hRing
  have wf : WF S := wf
  have hn : 0 ≤ n ∧ n ≤ 5 := hn
  have htl : 0 ≤ tl ∧ tl ≤ 60 := htl
  have hX : ∀ j, 0 ≤ j → j < 60 → 0 ≤ X j ∧ X j < 65536 := hX
  have hXo : va_P G vwCl (xoW a) sS.heap := hXo
  have hPs : va_P G vwCl (stW cs (sh a 1) S) sS.heap := hPs
  have hPv : va_P G vwCl (viW cs (sh a 9) ((sh a 1) 0) (aI F) (cB Fl) (cB Pt)) sS.heap := hPv
  have hKp : va_P G vwCl (pkW cs (sh a 13) ((sh a 1) 0) (aI U) (aI Q) (aI N)) sS.heap := hKp
  have hTx : va_P G vwCl (txW cs (sh a 17) T lo hi_ X) sS.heap := hTx
  have hHi : va_P G vwCl (hiW cs (sh a 19) o n) sS.heap := hHi
  have hRg : ∀ i, i < 5 → va_P G vwCl (stW cs (sh a (21 + 8 * i)) (R i)) sS.heap := hRg
  have hSn : va_P G vwCl (snW cs (sh a 61) w k) sS.heap := hSn
  have hSw : ∀ i, i < 2 → k i = true → va_P G vwCl (stW cs (sh w (8 * i)) (V i)) sS.heap := hSw
  have wf0 := wf
  obtain ⟨w0, w1, w2, w3, w4, wP, wC, wS, wX⟩ := wf
  have ia1 := inj_sh (k := 1) (w := 8) ia (by decide)
  refine lv_iload_n hx hb dX6_swap_0 rfl (lv_at hl 1 rfl) ?_
  refine z_ro (zrS (As := [.int (zI f)]) (rest := []) (Pw := fun _ => True) ⟨hx, hb, hml, hown, hts⟩ (c_X6_isNoLine l G cs f (by omega)) gX6_swap_X6_isNoLine rfl qX6_isNoLine rfl rfl ⟨Nat.le_of_ble_eq_true rfl, Nat.le_of_ble_eq_true rfl⟩ trivial hK hl.1 rfl (Nat.le_of_ble_eq_true rfl) dX6_swap_1 ⟨Nat.le_of_ble_eq_true rfl, Nat.le_of_ble_eq_true rfl⟩) ?_
  refine z_bif_ne (tgt := 29) hx hb dX6_swap_4 (by decide) (fun c1 => ?_) (fun c1 => ?_)
  · skip
    simp only [decide_eq_true_eq] at c1
    refine z_iconst (n := -1) hx hb dX6_swap_29 ?_
    exact w_iret hx hb hr hlk dX6_swap_30 hS (by rw [show swapF (S, (n, L), (tl, X), (k, V)) f t u d = _ from by unfold swapF; rw [if_pos (show ¬ ((0 ≤ f ∧ f < 32) ∧ (0 ≤ t ∧ t < 32) ∧ (0 ≤ u ∧ u < 4) ∧ (0 ≤ d ∧ d < 4)) by omega)]]; exact ⟨rfl, ⟨F, Fl, Pt, U, Q, N, T, lo, hi_, o, R, ⟨hTF, hT0⟩, ⟨ho, hRing⟩, hXo, hPs, hPv, hKp, hTx, hHi, hRg, hSn, hSw⟩⟩)
  · skip
    simp only [decide_eq_false_iff_not] at c1
    refine lv_iload_n hx hb dX6_swap_7 rfl (lv_at hl 2 rfl) ?_
    refine z_ro (zrS (As := [.int (zI t)]) (rest := []) (Pw := fun _ => True) ⟨hx, hb, hml, hown, hts⟩ (c_X6_isNoLine l G cs t (by omega)) gX6_swap_X6_isNoLine rfl qX6_isNoLine rfl rfl ⟨Nat.le_of_ble_eq_true rfl, Nat.le_of_ble_eq_true rfl⟩ trivial hK hl.1 rfl (Nat.le_of_ble_eq_true rfl) dX6_swap_8 ⟨Nat.le_of_ble_eq_true rfl, Nat.le_of_ble_eq_true rfl⟩) ?_
    refine z_bif_ne (tgt := 29) hx hb dX6_swap_11 (by decide) (fun c3 => ?_) (fun c3 => ?_)
    · skip
      simp only [decide_eq_true_eq] at c3
      refine z_iconst (n := -1) hx hb dX6_swap_29 ?_
      exact w_iret hx hb hr hlk dX6_swap_30 hS (by rw [show swapF (S, (n, L), (tl, X), (k, V)) f t u d = _ from by unfold swapF; rw [if_pos (show ¬ ((0 ≤ f ∧ f < 32) ∧ (0 ≤ t ∧ t < 32) ∧ (0 ≤ u ∧ u < 4) ∧ (0 ≤ d ∧ d < 4)) by omega)]]; exact ⟨rfl, ⟨F, Fl, Pt, U, Q, N, T, lo, hi_, o, R, ⟨hTF, hT0⟩, ⟨ho, hRing⟩, hXo, hPs, hPv, hKp, hTx, hHi, hRg, hSn, hSw⟩⟩)
    · skip
      simp only [decide_eq_false_iff_not] at c3
      refine lv_iload_n hx hb dX6_swap_14 rfl (lv_at hl 3 rfl) ?_
      refine z_ro (zrS (As := [.int (zI u)]) (rest := []) (Pw := fun _ => True) ⟨hx, hb, hml, hown, hts⟩ (c_X6_isNoPalette l G cs u (by omega)) gX6_swap_X6_isNoPalette rfl qX6_isNoPalette rfl rfl ⟨Nat.le_of_ble_eq_true rfl, Nat.le_of_ble_eq_true rfl⟩ trivial hK hl.1 rfl (Nat.le_of_ble_eq_true rfl) dX6_swap_15 ⟨Nat.le_of_ble_eq_true rfl, Nat.le_of_ble_eq_true rfl⟩) ?_
      refine z_bif_ne (tgt := 29) hx hb dX6_swap_18 (by decide) (fun c4 => ?_) (fun c4 => ?_)
      · skip
        simp only [decide_eq_true_eq] at c4
        refine z_iconst (n := -1) hx hb dX6_swap_29 ?_
        exact w_iret hx hb hr hlk dX6_swap_30 hS (by rw [show swapF (S, (n, L), (tl, X), (k, V)) f t u d = _ from by unfold swapF; rw [if_pos (show ¬ ((0 ≤ f ∧ f < 32) ∧ (0 ≤ t ∧ t < 32) ∧ (0 ≤ u ∧ u < 4) ∧ (0 ≤ d ∧ d < 4)) by omega)]]; exact ⟨rfl, ⟨F, Fl, Pt, U, Q, N, T, lo, hi_, o, R, ⟨hTF, hT0⟩, ⟨ho, hRing⟩, hXo, hPs, hPv, hKp, hTx, hHi, hRg, hSn, hSw⟩⟩)
      · skip
        simp only [decide_eq_false_iff_not] at c4
        refine lv_iload hx hb dX6_swap_21 (lv_at hl 4 rfl) ?_
        refine z_ro (zrS (As := [.int (zI d)]) (rest := []) (Pw := fun _ => True) ⟨hx, hb, hml, hown, hts⟩ (c_X6_isNoPalette l G cs d (by omega)) gX6_swap_X6_isNoPalette rfl qX6_isNoPalette rfl rfl ⟨Nat.le_of_ble_eq_true rfl, Nat.le_of_ble_eq_true rfl⟩ trivial hK hl.1 rfl (Nat.le_of_ble_eq_true rfl) dX6_swap_23 ⟨Nat.le_of_ble_eq_true rfl, Nat.le_of_ble_eq_true rfl⟩) ?_
        refine z_bif_eq (tgt := 31) hx hb dX6_swap_26 (by decide) (fun c5 => ?_) (fun c5 => ?_)
        · skip
          simp only [decide_eq_false_iff_not] at c5
          refine lv_iload_n hx hb dX6_swap_31 rfl (lv_at hl 2 rfl) ?_
          refine lv_iload_n hx hb dX6_swap_32 rfl (lv_at hl 1 rfl) ?_
          refine z_icmp_ge (tgt := 39) hx hb dX6_swap_33 (by decide) (by omega) (by omega) (fun c1 => ?_) (fun c1 => ?_)
          · skip
            refine lv_aload_n hx hb dX6_swap_39 rfl (lv_at hl 0 rfl) ?_
            refine va_get (D := G) (ci := 6) (v := .ref ((sh a 19) 0)) (C := RX6) (T := TX6) (N := 6) hx hb hts hi6 hown hK.1 hXo 0 rfl rfl 4 (by decide) (hts (.fieldLink RX6 42 "SpriteLines" "history" "LSpriteLines$History;") (by decide +kernel)) (fun _ h9 => h9) rfl dX6_swap_40 ?_
            refine lv_aload_n hx hb dX6_swap_43 rfl (lv_at hl 0 rfl) ?_
            refine va_get (D := G) (ci := 6) (v := .ref ((sh a 1) 0)) (C := RX6) (T := TX6) (N := 6) hx hb hts hi6 hown hK.1 hXo 0 rfl rfl 0 (by decide) (hts (.fieldLink RX6 10 "SpriteLines" "now" "LSpriteLines$State;") (by decide +kernel)) (fun _ h9 => h9) rfl dX6_swap_44 ?_
            refine z_v (zrV (As := [.ref ((sh a 1) 0)]) (rest := []) (Pw := fun H => va_P G vwCl (stW cs (sh a 1) S) H ∧ va_P G vwCl (hiW cs (sh a 19) o n) H ∧ ∀ i, i < 5 → va_P G vwCl (stW cs (sh a (21 + 8 * i)) (R i)) H) ⟨hx, hb, hml, hown, hts⟩ (c_X0_remember l G cs a S o n R ia (by omega) (by omega)) gX6_swap_X0_remember rfl qX0_remember rfl rfl ⟨Nat.le_of_ble_eq_true rfl, Nat.le_of_ble_eq_true rfl⟩ ⟨hPs, hHi, hRg⟩ hK (va_recv hK.1 hHi (ci := 0) (q0 := 0) rfl rfl) hl.1 rfl (Nat.le_of_ble_eq_true rfl) dX6_swap_47 ⟨Nat.le_of_ble_eq_true rfl, Nat.le_of_ble_eq_true rfl⟩) hS (fun q h => ax_mono h (by decide) (by decide)) (fun q h => ax_mono h (by decide) (by decide)) (fun H locs hpost hle hk hS => ?_)
            obtain ⟨hHi', hRg'⟩ := hpost
            have hXo := keepO (ordXo a) hXo hk (fun j hj ⟨i, h1, h2, h3⟩ => absurd (ia j i (by omega) (by omega) h3) (by omega))
            have hPs := keepO (ordSt cs (sh a 1) S) hPs hk (fun j hj ⟨i, h1, h2, h3⟩ => absurd (ia (1 + j) i (by omega) (by omega) h3) (by omega))
            have hPv := keepO (ordVi cs (sh a 9) ((sh a 1) 0) (aI F) (cB Fl) (cB Pt)) hPv hk (fun j hj ⟨i, h1, h2, h3⟩ => absurd (ia (9 + j) i (by omega) (by omega) h3) (by omega))
            have hKp := keepO (ordPk cs (sh a 13) ((sh a 1) 0) (aI U) (aI Q) (aI N)) hKp hk (fun j hj ⟨i, h1, h2, h3⟩ => absurd (ia (13 + j) i (by omega) (by omega) h3) (by omega))
            have hTx := keepO (ordTx cs (sh a 17) T lo hi_ X) hTx hk (fun j hj ⟨i, h1, h2, h3⟩ => absurd (ia (17 + j) i (by omega) (by omega) h3) (by omega))
            have hSn := keepO (ordSn cs (sh a 61) w k) hSn hk (fun j hj ⟨i, h1, h2, h3⟩ => absurd (ia (61 + j) i (by omega) (by omega) h3) (by omega))
            have hSw : ∀ i, i < 2 → k i = true → va_P G vwCl (stW cs (sh w (8 * i)) (V i)) H := fun i hi hk9 => keepO (ordSt _ _ _) (hSw i hi hk9) hk (fun j hj ⟨i', h1, h2, h3⟩ => absurd h3.symm (hsd.1 i' i j (by omega) hi hj hk9))
            have hHi : va_P G vwCl (hiW cs (sh a 19) (remO o n) (remN n)) H := hHi'
            have hRg : ∀ i, i < 5 → va_P G vwCl (stW cs (sh a (21 + 8 * i)) ((updT R ((o + n) % 5).toNat S) i)) H := hRg'
            refine lv_iload_n hx hb dX6_swap_50 rfl (lv_at hl 1 rfl) ?_
            refine lv_istore (lv' := [(5, .int (zI f)), (0, .ref (a 0)), (1, .int (zI f)), (2, .int (zI t)), (3, .int (zI u)), (4, .int (zI d))]) hx hb dX6_swap_51 hl (by decide) rfl (fun ls hl => ?_)
            -- loop 53
            refine z_loopH (nL := 6) (fun (i : Int) => [(0, .ref (a 0)), (1, .int (zI f)), (2, .int (zI t)), (3, .int (zI u)), (4, .int (zI d)), (5, .int (zI i))]) (fun (i : Int) (H : Heap) => (f ≤ i ∧ i ≤ t + 1) ∧ va_P G vwCl (xoW a) H ∧ va_P G vwCl (stW cs (sh a 1) (swN S f u d (i - f).toNat)) H ∧ va_P G vwCl (viW cs (sh a 9) ((sh a 1) 0) (aI F) (cB Fl) (cB Pt)) H ∧ va_P G vwCl (pkW cs (sh a 13) ((sh a 1) 0) (aI U) (aI Q) (aI N)) H ∧ va_P G vwCl (txW cs (sh a 17) T lo hi_ X) H ∧ va_P G vwCl (hiW cs (sh a 19) (remO o n) (remN n)) H ∧ (∀ i, i < 5 → va_P G vwCl (stW cs (sh a (21 + 8 * i)) ((updT R ((o + n) % 5).toNat S) i)) H) ∧ va_P G vwCl (snW cs (sh a 61) w k) H ∧ (∀ i, i < 2 → k i = true → va_P G vwCl (stW cs (sh w (8 * i)) (V i)) H)) (fun (i : Int) => (t + 1 - i).toNat) f ⟨(by omega), hXo, (by rw [swN_0]; exact hPs), hPv, hKp, hTx, hHi, hRg, hSn, hSw⟩ hS (lv_sub hl [1, 2, 3, 4, 5, 0] rfl) (fun i H locs hIH hS ih ls hl => ?_)
            obtain ⟨hI, hXo, hPs, hPv, hKp, hTx, hHi, hRg, hSn, hSw⟩ := hIH
            have hl : lv_has ls 6 [(0, .ref (a 0)), (1, .int (zI f)), (2, .int (zI t)), (3, .int (zI u)), (4, .int (zI d)), (5, .int (zI i))] := hl
            refine lv_iload hx hb dX6_swap_53 (lv_at hl 5 rfl) ?_
            refine lv_iload_n hx hb dX6_swap_55 rfl (lv_at hl 2 rfl) ?_
            refine z_icmp_gt (tgt := 77) hx hb dX6_swap_56 (by decide) (by omega) (by omega) (fun c2 => ?_) (fun c2 => ?_)
            · skip
              rw [show i = t + 1 by omega] at hPs
              refine lv_aload_n hx hb dX6_swap_77 rfl (lv_at hl 0 rfl) ?_
              refine va_get (D := G) (ci := 6) (v := .ref ((sh a 1) 0)) (C := RX6) (T := TX6) (N := 6) hx hb hts hi6 hown hK.1 hXo 0 rfl rfl 0 (by decide) (hts (.fieldLink RX6 10 "SpriteLines" "now" "LSpriteLines$State;") (by decide +kernel)) (fun _ h9 => h9) rfl dX6_swap_78 ?_
              refine z_ro (zrV (As := []) (rest := []) ⟨hx, hb, hml, hown, hts⟩ (c_X4_linesWithSwap l G cs (sh a 1) (swN S f u d (t + 1 - f).toNat) (wf_swN wf0 (by omega) (by omega) _)) gX6_swap_X4_linesWithSwap rfl qX4_linesWithSwap rfl rfl ⟨Nat.le_of_ble_eq_true rfl, Nat.le_of_ble_eq_true rfl⟩ hPs hK (va_recv hK.1 hPs (ci := 4) (q0 := 0) rfl rfl) hl.1 rfl (Nat.le_of_ble_eq_true rfl) dX6_swap_81 ⟨Nat.le_of_ble_eq_true rfl, Nat.le_of_ble_eq_true rfl⟩) ?_
              exact w_iret hx hb hr hlk dX6_swap_84 hS (by rw [show swapF (S, (n, L), (tl, X), (k, V)) f t u d = _ from by unfold swapF; rw [if_neg (show ¬ (¬ ((0 ≤ f ∧ f < 32) ∧ (0 ≤ t ∧ t < 32) ∧ (0 ≤ u ∧ u < 4) ∧ (0 ≤ d ∧ d < 4))) by omega), if_neg (show ¬ (t < f) by omega)]]; exact ⟨rfl, ⟨F, Fl, Pt, U, Q, N, T, lo, hi_, remO o n, updT R ((o + n) % 5).toNat S, ⟨hTF, hT0⟩, (ring_rem ⟨ho, hRing⟩ hn), hXo, hPs, hPv, hKp, hTx, hHi, hRg, hSn, hSw⟩⟩)
            · skip
              refine lv_aload_n hx hb dX6_swap_59 rfl (lv_at hl 0 rfl) ?_
              refine va_get (D := G) (ci := 6) (v := .ref ((sh a 1) 0)) (C := RX6) (T := TX6) (N := 6) hx hb hts hi6 hown hK.1 hXo 0 rfl rfl 0 (by decide) (hts (.fieldLink RX6 10 "SpriteLines" "now" "LSpriteLines$State;") (by decide +kernel)) (fun _ h9 => h9) rfl dX6_swap_60 ?_
              refine lv_iload hx hb dX6_swap_63 (lv_at hl 5 rfl) ?_
              refine lv_iload_n hx hb dX6_swap_65 rfl (lv_at hl 3 rfl) ?_
              refine lv_iload hx hb dX6_swap_66 (lv_at hl 4 rfl) ?_
              refine z_v (zrV (As := [.int (zI i), .int (zI u), .int (zI d)]) (rest := []) ⟨hx, hb, hml, hown, hts⟩ (c_X4_putSwap l G cs (sh a 1) (swN S f u d (i - f).toNat) i u d ia1 (by omega) (by omega) (by omega)) gX6_swap_X4_putSwap rfl qX4_putSwap rfl rfl ⟨Nat.le_of_ble_eq_true rfl, Nat.le_of_ble_eq_true rfl⟩ hPs hK (va_recv hK.1 hPs (ci := 4) (q0 := 0) rfl rfl) hl.1 rfl (Nat.le_of_ble_eq_true rfl) dX6_swap_68 ⟨Nat.le_of_ble_eq_true rfl, Nat.le_of_ble_eq_true rfl⟩) hS (fun q h => ax_mono (ax_sh h) (by decide) (by decide)) (fun q h => ax_mono (ax_sh h) (by decide) (by decide)) (fun H locs hpost hle hk hS => ?_)
              have hPs' := hpost
              have hXo := keepO (ordXo a) hXo hk (fun j hj ⟨i, h1, h2, h3⟩ => absurd (ia j (1 + i) (by omega) (by omega) h3) (by omega))
              have hPv := keepO (ordVi cs (sh a 9) ((sh a 1) 0) (aI F) (cB Fl) (cB Pt)) hPv hk (fun j hj ⟨i, h1, h2, h3⟩ => absurd (ia (9 + j) (1 + i) (by omega) (by omega) h3) (by omega))
              have hKp := keepO (ordPk cs (sh a 13) ((sh a 1) 0) (aI U) (aI Q) (aI N)) hKp hk (fun j hj ⟨i, h1, h2, h3⟩ => absurd (ia (13 + j) (1 + i) (by omega) (by omega) h3) (by omega))
              have hTx := keepO (ordTx cs (sh a 17) T lo hi_ X) hTx hk (fun j hj ⟨i, h1, h2, h3⟩ => absurd (ia (17 + j) (1 + i) (by omega) (by omega) h3) (by omega))
              have hHi := keepO (ordHi cs (sh a 19) (remO o n) (remN n)) hHi hk (fun j hj ⟨i, h1, h2, h3⟩ => absurd (ia (19 + j) (1 + i) (by omega) (by omega) h3) (by omega))
              have hRg : ∀ i, i < 5 → va_P G vwCl (stW cs (sh a (21 + 8 * i)) ((updT R ((o + n) % 5).toNat S) i)) H := fun i hi => keepO (ordSt _ _ _) (hRg i hi) hk (fun j hj ⟨i', h1, h2, h3⟩ => absurd (ia (21 + 8 * i + j) (1 + i') (by omega) (by omega) h3) (by omega))
              have hSn := keepO (ordSn cs (sh a 61) w k) hSn hk (fun j hj ⟨i, h1, h2, h3⟩ => absurd (ia (61 + j) (1 + i) (by omega) (by omega) h3) (by omega))
              have hSw : ∀ i, i < 2 → k i = true → va_P G vwCl (stW cs (sh w (8 * i)) (V i)) H := fun i hi hk9 => keepO (ordSt _ _ _) (hSw i hi hk9) hk (fun j hj ⟨i', h1, h2, h3⟩ => absurd h3.symm (hsd.1 (1 + i') i j (by omega) hi hj hk9))
              have hPs : va_P G vwCl (stW cs (sh a 1) (putSw (swN S f u d (i - f).toNat) i u d)) H := hPs'
              refine z_iinc (k := 5) (lv' := [(5, .int (zI (i + 1))), (0, .ref (a 0)), (1, .int (zI f)), (2, .int (zI t)), (3, .int (zI u)), (4, .int (zI d))]) hx hb dX6_swap_71 hl rfl (by decide) rfl (fun ls hl => ?_)
              refine lv_goto (tgt := 53) hx hb dX6_swap_74 (by decide) ?_
              exact ih (i + 1) H locs ⟨(by omega), hXo, (by rw [swN_s hI.1]; exact hPs), hPv, hKp, hTx, hHi, hRg, hSn, hSw⟩ hS (by omega) ls (lv_sub hl [1, 2, 3, 4, 5, 0] rfl)
          · skip
            refine z_bipush (n := -2) hx hb dX6_swap_36 (by decide) ?_
            exact w_iret hx hb hr hlk dX6_swap_38 hS (by rw [show swapF (S, (n, L), (tl, X), (k, V)) f t u d = _ from by unfold swapF; rw [if_neg (show ¬ (¬ ((0 ≤ f ∧ f < 32) ∧ (0 ≤ t ∧ t < 32) ∧ (0 ≤ u ∧ u < 4) ∧ (0 ≤ d ∧ d < 4))) by omega), if_pos (show t < f by omega)]]; exact ⟨rfl, ⟨F, Fl, Pt, U, Q, N, T, lo, hi_, o, R, ⟨hTF, hT0⟩, ⟨ho, hRing⟩, hXo, hPs, hPv, hKp, hTx, hHi, hRg, hSn, hSw⟩⟩)
        · skip
          simp only [decide_eq_true_eq] at c5
          refine z_iconst (n := -1) hx hb dX6_swap_29 ?_
          exact w_iret hx hb hr hlk dX6_swap_30 hS (by rw [show swapF (S, (n, L), (tl, X), (k, V)) f t u d = _ from by unfold swapF; rw [if_pos (show ¬ ((0 ≤ f ∧ f < 32) ∧ (0 ≤ t ∧ t < 32) ∧ (0 ≤ u ∧ u < 4) ∧ (0 ≤ d ∧ d < 4)) by omega)]]; exact ⟨rfl, ⟨F, Fl, Pt, U, Q, N, T, lo, hi_, o, R, ⟨hTF, hT0⟩, ⟨ho, hRing⟩, hXo, hPs, hPv, hKp, hTx, hHi, hRg, hSn, hSw⟩⟩)

set_option maxHeartbeats 4000000 in
set_option maxRecDepth 100000 in
theorem c_X6_setLimit (l : Launch) (G : va_G) (cs : Nat → ClassId) (a w : Nat → Nat) (S : SS) (n : Int) (L : Nat → SS) (tl : Int) (X : Int → Int) (k : Nat → Bool) (V : Nat → SS) (v : Int) (ia : Inj a 62) (hsd : SnD a w k) (hA : AWF (S, (n, L), (tl, X), (k, V))) (r_v : -2147483648 ≤ v ∧ v < 2147483648) : MW l yX6_setLimit wsX6_setLimit { frames := 4, cells := 0, slots := 0, locals := 123 } G cs [.ref (a 0), .int (zI v)] (fun H => XI G cs a w (S, (n, L), (tl, X), (k, V)) H) (fun vv H => vv = .int (zI (setLimitF (S, (n, L), (tl, X), (k, V)) v).1) ∧ XI G cs a w (setLimitF (S, (n, L), (tl, X), (k, V)) v).2 H) (AX a 0 62) 0 0 := by
  refine m_intro (Pw := (fun H => XI G cs a w (S, (n, L), (tl, X), (k, V)) H)) (cc := cX6_setLimit) (maxL := 3) (ret := some .int) RX6 (by decide) rfl rfl (Nat.le_of_ble_eq_true rfl) ?_
  intro pP eE sS mM below meth cC hx hb hr hts hown hml hlk hnm hPre hK ls hl
  have hl : lv_has ls 3 [(0, .ref (a 0)), (1, .int (zI v))] := hl
  have hXI := hPre
  have hS : va_S (AX a 0 62) sS.heap sS.heap [] := va_S.rf
  have hi4 : ∀ w ∈ u_ws RX4 TX4 9, w ∈ wsX6_setLimit := by decide +kernel
  have hi6 : ∀ w ∈ u_ws RX6 TX6 6, w ∈ wsX6_setLimit := by decide +kernel
  obtain ⟨F, Fl, Pt, U, Q, N, T, lo, hi_, o, R, ⟨hTF, hT0⟩, ⟨ho, hRing⟩, hXo, hPs, hPv, hKp, hTx, hHi, hRg, hSn, hSw⟩ := hXI
  obtain ⟨wf, ⟨hn, hL9⟩, ⟨htl, hX⟩, hV9⟩ := hA
  have hT0 : T 0 = tl := hT0
  have hRing : ∀ i : Nat, (i : Int) < n → R ((o + i) % 5).toNat = L i := hRing
  have wf : WF S := wf
  have hn : 0 ≤ n ∧ n ≤ 5 := hn
  have htl : 0 ≤ tl ∧ tl ≤ 60 := htl
  have hX : ∀ j, 0 ≤ j → j < 60 → 0 ≤ X j ∧ X j < 65536 := hX
  have hXo : va_P G vwCl (xoW a) sS.heap := hXo
  have hPs : va_P G vwCl (stW cs (sh a 1) S) sS.heap := hPs
  have hPv : va_P G vwCl (viW cs (sh a 9) ((sh a 1) 0) (aI F) (cB Fl) (cB Pt)) sS.heap := hPv
  have hKp : va_P G vwCl (pkW cs (sh a 13) ((sh a 1) 0) (aI U) (aI Q) (aI N)) sS.heap := hKp
  have hTx : va_P G vwCl (txW cs (sh a 17) T lo hi_ X) sS.heap := hTx
  have hHi : va_P G vwCl (hiW cs (sh a 19) o n) sS.heap := hHi
  have hRg : ∀ i, i < 5 → va_P G vwCl (stW cs (sh a (21 + 8 * i)) (R i)) sS.heap := hRg
  have hSn : va_P G vwCl (snW cs (sh a 61) w k) sS.heap := hSn
  have hSw : ∀ i, i < 2 → k i = true → va_P G vwCl (stW cs (sh w (8 * i)) (V i)) sS.heap := hSw
  have wf0 := wf
  obtain ⟨w0, w1, w2, w3, w4, wP, wC, wS, wX⟩ := wf
  have ia1 := inj_sh (k := 1) (w := 8) ia (by decide)
  refine lv_iload_n hx hb dX6_setLimit_0 rfl (lv_at hl 1 rfl) ?_
  refine z_iconst (n := 1) hx hb dX6_setLimit_1 ?_
  refine z_icmp_lt (tgt := 11) hx hb dX6_setLimit_2 (by decide) (by omega) (by omega) (fun c1 => ?_) (fun c1 => ?_)
  · skip
    refine z_bipush (n := -2) hx hb dX6_setLimit_11 (by decide) ?_
    exact w_iret hx hb hr hlk dX6_setLimit_13 hS (by rw [show setLimitF (S, (n, L), (tl, X), (k, V)) v = _ from by unfold setLimitF; rw [if_pos (show ¬ (1 ≤ v ∧ v ≤ 20) by omega)]]; exact ⟨rfl, ⟨F, Fl, Pt, U, Q, N, T, lo, hi_, o, R, ⟨hTF, hT0⟩, ⟨ho, hRing⟩, hXo, hPs, hPv, hKp, hTx, hHi, hRg, hSn, hSw⟩⟩)
  · skip
    refine lv_iload_n hx hb dX6_setLimit_5 rfl (lv_at hl 1 rfl) ?_
    refine z_bipush (n := 20) hx hb dX6_setLimit_6 (by decide) ?_
    refine z_icmp_le (tgt := 14) hx hb dX6_setLimit_8 (by decide) (by omega) (by omega) (fun c2 => ?_) (fun c2 => ?_)
    · skip
      refine lv_aload_n hx hb dX6_setLimit_14 rfl (lv_at hl 0 rfl) ?_
      refine va_get (D := G) (ci := 6) (v := .ref ((sh a 19) 0)) (C := RX6) (T := TX6) (N := 6) hx hb hts hi6 hown hK.1 hXo 0 rfl rfl 4 (by decide) (hts (.fieldLink RX6 42 "SpriteLines" "history" "LSpriteLines$History;") (by decide +kernel)) (fun _ h9 => h9) rfl dX6_setLimit_15 ?_
      refine lv_aload_n hx hb dX6_setLimit_18 rfl (lv_at hl 0 rfl) ?_
      refine va_get (D := G) (ci := 6) (v := .ref ((sh a 1) 0)) (C := RX6) (T := TX6) (N := 6) hx hb hts hi6 hown hK.1 hXo 0 rfl rfl 0 (by decide) (hts (.fieldLink RX6 10 "SpriteLines" "now" "LSpriteLines$State;") (by decide +kernel)) (fun _ h9 => h9) rfl dX6_setLimit_19 ?_
      refine z_v (zrV (As := [.ref ((sh a 1) 0)]) (rest := []) (Pw := fun H => va_P G vwCl (stW cs (sh a 1) S) H ∧ va_P G vwCl (hiW cs (sh a 19) o n) H ∧ ∀ i, i < 5 → va_P G vwCl (stW cs (sh a (21 + 8 * i)) (R i)) H) ⟨hx, hb, hml, hown, hts⟩ (c_X0_remember l G cs a S o n R ia (by omega) (by omega)) gX6_setLimit_X0_remember rfl qX0_remember rfl rfl ⟨Nat.le_of_ble_eq_true rfl, Nat.le_of_ble_eq_true rfl⟩ ⟨hPs, hHi, hRg⟩ hK (va_recv hK.1 hHi (ci := 0) (q0 := 0) rfl rfl) hl.1 rfl (Nat.le_of_ble_eq_true rfl) dX6_setLimit_22 ⟨Nat.le_of_ble_eq_true rfl, Nat.le_of_ble_eq_true rfl⟩) hS (fun q h => ax_mono h (by decide) (by decide)) (fun q h => ax_mono h (by decide) (by decide)) (fun H locs hpost hle hk hS => ?_)
      obtain ⟨hHi', hRg'⟩ := hpost
      have hXo := keepO (ordXo a) hXo hk (fun j hj ⟨i, h1, h2, h3⟩ => absurd (ia j i (by omega) (by omega) h3) (by omega))
      have hPs := keepO (ordSt cs (sh a 1) S) hPs hk (fun j hj ⟨i, h1, h2, h3⟩ => absurd (ia (1 + j) i (by omega) (by omega) h3) (by omega))
      have hPv := keepO (ordVi cs (sh a 9) ((sh a 1) 0) (aI F) (cB Fl) (cB Pt)) hPv hk (fun j hj ⟨i, h1, h2, h3⟩ => absurd (ia (9 + j) i (by omega) (by omega) h3) (by omega))
      have hKp := keepO (ordPk cs (sh a 13) ((sh a 1) 0) (aI U) (aI Q) (aI N)) hKp hk (fun j hj ⟨i, h1, h2, h3⟩ => absurd (ia (13 + j) i (by omega) (by omega) h3) (by omega))
      have hTx := keepO (ordTx cs (sh a 17) T lo hi_ X) hTx hk (fun j hj ⟨i, h1, h2, h3⟩ => absurd (ia (17 + j) i (by omega) (by omega) h3) (by omega))
      have hSn := keepO (ordSn cs (sh a 61) w k) hSn hk (fun j hj ⟨i, h1, h2, h3⟩ => absurd (ia (61 + j) i (by omega) (by omega) h3) (by omega))
      have hSw : ∀ i, i < 2 → k i = true → va_P G vwCl (stW cs (sh w (8 * i)) (V i)) H := fun i hi hk9 => keepO (ordSt _ _ _) (hSw i hi hk9) hk (fun j hj ⟨i', h1, h2, h3⟩ => absurd h3.symm (hsd.1 i' i j (by omega) hi hj hk9))
      have hHi : va_P G vwCl (hiW cs (sh a 19) (remO o n) (remN n)) H := hHi'
      have hRg : ∀ i, i < 5 → va_P G vwCl (stW cs (sh a (21 + 8 * i)) ((updT R ((o + n) % 5).toNat S) i)) H := hRg'
      refine lv_aload_n hx hb dX6_setLimit_25 rfl (lv_at hl 0 rfl) ?_
      refine va_get (D := G) (ci := 6) (v := .ref ((sh a 1) 0)) (C := RX6) (T := TX6) (N := 6) hx hb hts hi6 hown hK.1 hXo 0 rfl rfl 0 (by decide) (hts (.fieldLink RX6 10 "SpriteLines" "now" "LSpriteLines$State;") (by decide +kernel)) (fun _ h9 => h9) rfl dX6_setLimit_26 ?_
      refine va_get (D := G) (ci := 4) (v := .int (zI (S 0 2))) (C := RX4) (T := TX4) (N := 9) hx hb hts hi4 hown hK.1 hPs 0 rfl rfl 1 (by decide) (hts (.fieldLink RX6 156 "SpriteLines$State" "limit" "I") (by decide +kernel)) (fun _ h9 => h9) rfl dX6_setLimit_29 ?_
      refine lv_istore_n (lv' := [(2, .int (zI (S 0 2))), (0, .ref (a 0)), (1, .int (zI v))]) hx hb dX6_setLimit_32 rfl hl (by decide) rfl (fun ls hl => ?_)
      refine lv_aload_n hx hb dX6_setLimit_33 rfl (lv_at hl 1 rfl) ?_
      refine va_get (D := G) (ci := 6) (v := .ref ((sh a 1) 0)) (C := RX6) (T := TX6) (N := 6) hx hb hts hi6 hown hK.1 hXo 0 rfl rfl 0 (by decide) (hts (.fieldLink RX6 10 "SpriteLines" "now" "LSpriteLines$State;") (by decide +kernel)) (fun _ h9 => h9) rfl dX6_setLimit_34 ?_
      refine lv_iload_n hx hb dX6_setLimit_37 rfl (lv_at hl 2 rfl) ?_
      refine z_put (G := G) (ci := 4) (v := .int (zI v)) (ty := .int) (C := RX4) (T := TX4) (N := 9) hx hb hts hi4 tyX4 tyX4_ok nmX4 hown hK.1 hPs (Ord.D (ordSt cs (sh a 1) S) (inj_sh (w := 8) ia (by decide))) hS 0 rfl rfl 1 (by decide) (hts (.fieldLink RX6 156 "SpriteLines$State" "limit" "I") (by decide +kernel)) (fun _ h9 => h9) rfl (by decide +kernel) rfl rfl (Nat.le_of_ble_eq_true rfl) ⟨1, by decide, by decide, rfl⟩ dX6_setLimit_38 (fun H locs hP1 hle hk hS => ?_)
      have hXo := keepO (ordXo a) hXo hk (fun j hj h3 => absurd (ia j 1 (by omega) (by omega) h3) (by omega))
      have hPv := keepO (ordVi cs (sh a 9) ((sh a 1) 0) (aI F) (cB Fl) (cB Pt)) hPv hk (fun j hj h3 => absurd (ia (9 + j) 1 (by omega) (by omega) h3) (by omega))
      have hKp := keepO (ordPk cs (sh a 13) ((sh a 1) 0) (aI U) (aI Q) (aI N)) hKp hk (fun j hj h3 => absurd (ia (13 + j) 1 (by omega) (by omega) h3) (by omega))
      have hTx := keepO (ordTx cs (sh a 17) T lo hi_ X) hTx hk (fun j hj h3 => absurd (ia (17 + j) 1 (by omega) (by omega) h3) (by omega))
      have hHi := keepO (ordHi cs (sh a 19) (remO o n) (remN n)) hHi hk (fun j hj h3 => absurd (ia (19 + j) 1 (by omega) (by omega) h3) (by omega))
      have hRg : ∀ i, i < 5 → va_P G vwCl (stW cs (sh a (21 + 8 * i)) ((updT R ((o + n) % 5).toNat S) i)) H := fun i hi => keepO (ordSt _ _ _) (hRg i hi) hk (fun j hj h3 => absurd (ia (21 + 8 * i + j) 1 (by omega) (by omega) h3) (by omega))
      have hSn := keepO (ordSn cs (sh a 61) w k) hSn hk (fun j hj h3 => absurd (ia (61 + j) 1 (by omega) (by omega) h3) (by omega))
      have hSw : ∀ i, i < 2 → k i = true → va_P G vwCl (stW cs (sh w (8 * i)) (V i)) H := fun i hi hk9 => keepO (ordSt _ _ _) (hSw i hi hk9) hk (fun j hj h3 => absurd h3.symm (hsd.1 1 i j (by omega) hi hj hk9))
      have hPs : va_P G vwCl (stW cs (sh a 1) (up2 S 0 (updZ (S 0) 2 v))) H := hP1
      refine lv_iload_n hx hb dX6_setLimit_41 rfl (lv_at hl 0 rfl) ?_
      exact w_iret hx hb hr hlk dX6_setLimit_42 hS (by rw [show setLimitF (S, (n, L), (tl, X), (k, V)) v = _ from by unfold setLimitF; rw [if_neg (show ¬ (¬ (1 ≤ v ∧ v ≤ 20)) by omega)]]; exact ⟨rfl, ⟨F, Fl, Pt, U, Q, N, T, lo, hi_, remO o n, updT R ((o + n) % 5).toNat S, ⟨hTF, hT0⟩, (ring_rem ⟨ho, hRing⟩ hn), hXo, hPs, hPv, hKp, hTx, hHi, hRg, hSn, hSw⟩⟩)
    · skip
      refine z_bipush (n := -2) hx hb dX6_setLimit_11 (by decide) ?_
      exact w_iret hx hb hr hlk dX6_setLimit_13 hS (by rw [show setLimitF (S, (n, L), (tl, X), (k, V)) v = _ from by unfold setLimitF; rw [if_pos (show ¬ (1 ≤ v ∧ v ≤ 20) by omega)]]; exact ⟨rfl, ⟨F, Fl, Pt, U, Q, N, T, lo, hi_, o, R, ⟨hTF, hT0⟩, ⟨ho, hRing⟩, hXo, hPs, hPv, hKp, hTx, hHi, hRg, hSn, hSw⟩⟩)

set_option maxHeartbeats 4000000 in
set_option maxRecDepth 100000 in
theorem c_X6_setStride (l : Launch) (G : va_G) (cs : Nat → ClassId) (a w : Nat → Nat) (S : SS) (n : Int) (L : Nat → SS) (tl : Int) (X : Int → Int) (k : Nat → Bool) (V : Nat → SS) (v : Int) (ia : Inj a 62) (hsd : SnD a w k) (hA : AWF (S, (n, L), (tl, X), (k, V))) (r_v : -2147483648 ≤ v ∧ v < 2147483648) : MW l yX6_setStride wsX6_setStride { frames := 4, cells := 0, slots := 0, locals := 123 } G cs [.ref (a 0), .int (zI v)] (fun H => XI G cs a w (S, (n, L), (tl, X), (k, V)) H) (fun vv H => vv = .int (zI (setStrideF (S, (n, L), (tl, X), (k, V)) v).1) ∧ XI G cs a w (setStrideF (S, (n, L), (tl, X), (k, V)) v).2 H) (AX a 0 62) 0 0 := by
  refine m_intro (Pw := (fun H => XI G cs a w (S, (n, L), (tl, X), (k, V)) H)) (cc := cX6_setStride) (maxL := 3) (ret := some .int) RX6 (by decide) rfl rfl (Nat.le_of_ble_eq_true rfl) ?_
  intro pP eE sS mM below meth cC hx hb hr hts hown hml hlk hnm hPre hK ls hl
  have hl : lv_has ls 3 [(0, .ref (a 0)), (1, .int (zI v))] := hl
  have hXI := hPre
  have hS : va_S (AX a 0 62) sS.heap sS.heap [] := va_S.rf
  have hi4 : ∀ w ∈ u_ws RX4 TX4 9, w ∈ wsX6_setStride := by decide +kernel
  have hi6 : ∀ w ∈ u_ws RX6 TX6 6, w ∈ wsX6_setStride := by decide +kernel
  obtain ⟨F, Fl, Pt, U, Q, N, T, lo, hi_, o, R, ⟨hTF, hT0⟩, ⟨ho, hRing⟩, hXo, hPs, hPv, hKp, hTx, hHi, hRg, hSn, hSw⟩ := hXI
  obtain ⟨wf, ⟨hn, hL9⟩, ⟨htl, hX⟩, hV9⟩ := hA
  have hT0 : T 0 = tl := hT0
  have hRing : ∀ i : Nat, (i : Int) < n → R ((o + i) % 5).toNat = L i := hRing
  have wf : WF S := wf
  have hn : 0 ≤ n ∧ n ≤ 5 := hn
  have htl : 0 ≤ tl ∧ tl ≤ 60 := htl
  have hX : ∀ j, 0 ≤ j → j < 60 → 0 ≤ X j ∧ X j < 65536 := hX
  have hXo : va_P G vwCl (xoW a) sS.heap := hXo
  have hPs : va_P G vwCl (stW cs (sh a 1) S) sS.heap := hPs
  have hPv : va_P G vwCl (viW cs (sh a 9) ((sh a 1) 0) (aI F) (cB Fl) (cB Pt)) sS.heap := hPv
  have hKp : va_P G vwCl (pkW cs (sh a 13) ((sh a 1) 0) (aI U) (aI Q) (aI N)) sS.heap := hKp
  have hTx : va_P G vwCl (txW cs (sh a 17) T lo hi_ X) sS.heap := hTx
  have hHi : va_P G vwCl (hiW cs (sh a 19) o n) sS.heap := hHi
  have hRg : ∀ i, i < 5 → va_P G vwCl (stW cs (sh a (21 + 8 * i)) (R i)) sS.heap := hRg
  have hSn : va_P G vwCl (snW cs (sh a 61) w k) sS.heap := hSn
  have hSw : ∀ i, i < 2 → k i = true → va_P G vwCl (stW cs (sh w (8 * i)) (V i)) sS.heap := hSw
  have wf0 := wf
  obtain ⟨w0, w1, w2, w3, w4, wP, wC, wS, wX⟩ := wf
  have ia1 := inj_sh (k := 1) (w := 8) ia (by decide)
  refine lv_iload_n hx hb dX6_setStride_0 rfl (lv_at hl 1 rfl) ?_
  refine z_if_lt (tgt := 10) hx hb dX6_setStride_1 (by decide) (by omega) (fun c1 => ?_) (fun c1 => ?_)
  · skip
    refine z_bipush (n := -2) hx hb dX6_setStride_10 (by decide) ?_
    exact w_iret hx hb hr hlk dX6_setStride_12 hS (by rw [show setStrideF (S, (n, L), (tl, X), (k, V)) v = _ from by unfold setStrideF; rw [if_pos (show ¬ (0 ≤ v ∧ v < 20) by omega)]]; exact ⟨rfl, ⟨F, Fl, Pt, U, Q, N, T, lo, hi_, o, R, ⟨hTF, hT0⟩, ⟨ho, hRing⟩, hXo, hPs, hPv, hKp, hTx, hHi, hRg, hSn, hSw⟩⟩)
  · skip
    refine lv_iload_n hx hb dX6_setStride_4 rfl (lv_at hl 1 rfl) ?_
    refine z_bipush (n := 20) hx hb dX6_setStride_5 (by decide) ?_
    refine z_icmp_lt (tgt := 13) hx hb dX6_setStride_7 (by decide) (by omega) (by omega) (fun c2 => ?_) (fun c2 => ?_)
    · skip
      refine lv_aload_n hx hb dX6_setStride_13 rfl (lv_at hl 0 rfl) ?_
      refine va_get (D := G) (ci := 6) (v := .ref ((sh a 19) 0)) (C := RX6) (T := TX6) (N := 6) hx hb hts hi6 hown hK.1 hXo 0 rfl rfl 4 (by decide) (hts (.fieldLink RX6 42 "SpriteLines" "history" "LSpriteLines$History;") (by decide +kernel)) (fun _ h9 => h9) rfl dX6_setStride_14 ?_
      refine lv_aload_n hx hb dX6_setStride_17 rfl (lv_at hl 0 rfl) ?_
      refine va_get (D := G) (ci := 6) (v := .ref ((sh a 1) 0)) (C := RX6) (T := TX6) (N := 6) hx hb hts hi6 hown hK.1 hXo 0 rfl rfl 0 (by decide) (hts (.fieldLink RX6 10 "SpriteLines" "now" "LSpriteLines$State;") (by decide +kernel)) (fun _ h9 => h9) rfl dX6_setStride_18 ?_
      refine z_v (zrV (As := [.ref ((sh a 1) 0)]) (rest := []) (Pw := fun H => va_P G vwCl (stW cs (sh a 1) S) H ∧ va_P G vwCl (hiW cs (sh a 19) o n) H ∧ ∀ i, i < 5 → va_P G vwCl (stW cs (sh a (21 + 8 * i)) (R i)) H) ⟨hx, hb, hml, hown, hts⟩ (c_X0_remember l G cs a S o n R ia (by omega) (by omega)) gX6_setStride_X0_remember rfl qX0_remember rfl rfl ⟨Nat.le_of_ble_eq_true rfl, Nat.le_of_ble_eq_true rfl⟩ ⟨hPs, hHi, hRg⟩ hK (va_recv hK.1 hHi (ci := 0) (q0 := 0) rfl rfl) hl.1 rfl (Nat.le_of_ble_eq_true rfl) dX6_setStride_21 ⟨Nat.le_of_ble_eq_true rfl, Nat.le_of_ble_eq_true rfl⟩) hS (fun q h => ax_mono h (by decide) (by decide)) (fun q h => ax_mono h (by decide) (by decide)) (fun H locs hpost hle hk hS => ?_)
      obtain ⟨hHi', hRg'⟩ := hpost
      have hXo := keepO (ordXo a) hXo hk (fun j hj ⟨i, h1, h2, h3⟩ => absurd (ia j i (by omega) (by omega) h3) (by omega))
      have hPs := keepO (ordSt cs (sh a 1) S) hPs hk (fun j hj ⟨i, h1, h2, h3⟩ => absurd (ia (1 + j) i (by omega) (by omega) h3) (by omega))
      have hPv := keepO (ordVi cs (sh a 9) ((sh a 1) 0) (aI F) (cB Fl) (cB Pt)) hPv hk (fun j hj ⟨i, h1, h2, h3⟩ => absurd (ia (9 + j) i (by omega) (by omega) h3) (by omega))
      have hKp := keepO (ordPk cs (sh a 13) ((sh a 1) 0) (aI U) (aI Q) (aI N)) hKp hk (fun j hj ⟨i, h1, h2, h3⟩ => absurd (ia (13 + j) i (by omega) (by omega) h3) (by omega))
      have hTx := keepO (ordTx cs (sh a 17) T lo hi_ X) hTx hk (fun j hj ⟨i, h1, h2, h3⟩ => absurd (ia (17 + j) i (by omega) (by omega) h3) (by omega))
      have hSn := keepO (ordSn cs (sh a 61) w k) hSn hk (fun j hj ⟨i, h1, h2, h3⟩ => absurd (ia (61 + j) i (by omega) (by omega) h3) (by omega))
      have hSw : ∀ i, i < 2 → k i = true → va_P G vwCl (stW cs (sh w (8 * i)) (V i)) H := fun i hi hk9 => keepO (ordSt _ _ _) (hSw i hi hk9) hk (fun j hj ⟨i', h1, h2, h3⟩ => absurd h3.symm (hsd.1 i' i j (by omega) hi hj hk9))
      have hHi : va_P G vwCl (hiW cs (sh a 19) (remO o n) (remN n)) H := hHi'
      have hRg : ∀ i, i < 5 → va_P G vwCl (stW cs (sh a (21 + 8 * i)) ((updT R ((o + n) % 5).toNat S) i)) H := hRg'
      refine lv_aload_n hx hb dX6_setStride_24 rfl (lv_at hl 0 rfl) ?_
      refine va_get (D := G) (ci := 6) (v := .ref ((sh a 1) 0)) (C := RX6) (T := TX6) (N := 6) hx hb hts hi6 hown hK.1 hXo 0 rfl rfl 0 (by decide) (hts (.fieldLink RX6 10 "SpriteLines" "now" "LSpriteLines$State;") (by decide +kernel)) (fun _ h9 => h9) rfl dX6_setStride_25 ?_
      refine va_get (D := G) (ci := 4) (v := .int (zI (S 0 3))) (C := RX4) (T := TX4) (N := 9) hx hb hts hi4 hown hK.1 hPs 0 rfl rfl 2 (by decide) (hts (.fieldLink RX6 159 "SpriteLines$State" "stride" "I") (by decide +kernel)) (fun _ h9 => h9) rfl dX6_setStride_28 ?_
      refine lv_istore_n (lv' := [(2, .int (zI (S 0 3))), (0, .ref (a 0)), (1, .int (zI v))]) hx hb dX6_setStride_31 rfl hl (by decide) rfl (fun ls hl => ?_)
      refine lv_aload_n hx hb dX6_setStride_32 rfl (lv_at hl 1 rfl) ?_
      refine va_get (D := G) (ci := 6) (v := .ref ((sh a 1) 0)) (C := RX6) (T := TX6) (N := 6) hx hb hts hi6 hown hK.1 hXo 0 rfl rfl 0 (by decide) (hts (.fieldLink RX6 10 "SpriteLines" "now" "LSpriteLines$State;") (by decide +kernel)) (fun _ h9 => h9) rfl dX6_setStride_33 ?_
      refine lv_iload_n hx hb dX6_setStride_36 rfl (lv_at hl 2 rfl) ?_
      refine z_put (G := G) (ci := 4) (v := .int (zI v)) (ty := .int) (C := RX4) (T := TX4) (N := 9) hx hb hts hi4 tyX4 tyX4_ok nmX4 hown hK.1 hPs (Ord.D (ordSt cs (sh a 1) S) (inj_sh (w := 8) ia (by decide))) hS 0 rfl rfl 2 (by decide) (hts (.fieldLink RX6 159 "SpriteLines$State" "stride" "I") (by decide +kernel)) (fun _ h9 => h9) rfl (by decide +kernel) rfl rfl (Nat.le_of_ble_eq_true rfl) ⟨1, by decide, by decide, rfl⟩ dX6_setStride_37 (fun H locs hP1 hle hk hS => ?_)
      have hXo := keepO (ordXo a) hXo hk (fun j hj h3 => absurd (ia j 1 (by omega) (by omega) h3) (by omega))
      have hPv := keepO (ordVi cs (sh a 9) ((sh a 1) 0) (aI F) (cB Fl) (cB Pt)) hPv hk (fun j hj h3 => absurd (ia (9 + j) 1 (by omega) (by omega) h3) (by omega))
      have hKp := keepO (ordPk cs (sh a 13) ((sh a 1) 0) (aI U) (aI Q) (aI N)) hKp hk (fun j hj h3 => absurd (ia (13 + j) 1 (by omega) (by omega) h3) (by omega))
      have hTx := keepO (ordTx cs (sh a 17) T lo hi_ X) hTx hk (fun j hj h3 => absurd (ia (17 + j) 1 (by omega) (by omega) h3) (by omega))
      have hHi := keepO (ordHi cs (sh a 19) (remO o n) (remN n)) hHi hk (fun j hj h3 => absurd (ia (19 + j) 1 (by omega) (by omega) h3) (by omega))
      have hRg : ∀ i, i < 5 → va_P G vwCl (stW cs (sh a (21 + 8 * i)) ((updT R ((o + n) % 5).toNat S) i)) H := fun i hi => keepO (ordSt _ _ _) (hRg i hi) hk (fun j hj h3 => absurd (ia (21 + 8 * i + j) 1 (by omega) (by omega) h3) (by omega))
      have hSn := keepO (ordSn cs (sh a 61) w k) hSn hk (fun j hj h3 => absurd (ia (61 + j) 1 (by omega) (by omega) h3) (by omega))
      have hSw : ∀ i, i < 2 → k i = true → va_P G vwCl (stW cs (sh w (8 * i)) (V i)) H := fun i hi hk9 => keepO (ordSt _ _ _) (hSw i hi hk9) hk (fun j hj h3 => absurd h3.symm (hsd.1 1 i j (by omega) hi hj hk9))
      have hPs : va_P G vwCl (stW cs (sh a 1) (up2 S 0 (updZ (S 0) 3 v))) H := hP1
      refine lv_iload_n hx hb dX6_setStride_40 rfl (lv_at hl 0 rfl) ?_
      exact w_iret hx hb hr hlk dX6_setStride_41 hS (by rw [show setStrideF (S, (n, L), (tl, X), (k, V)) v = _ from by unfold setStrideF; rw [if_neg (show ¬ (¬ (0 ≤ v ∧ v < 20)) by omega)]]; exact ⟨rfl, ⟨F, Fl, Pt, U, Q, N, T, lo, hi_, remO o n, updT R ((o + n) % 5).toNat S, ⟨hTF, hT0⟩, (ring_rem ⟨ho, hRing⟩ hn), hXo, hPs, hPv, hKp, hTx, hHi, hRg, hSn, hSw⟩⟩)
    · skip
      refine z_bipush (n := -2) hx hb dX6_setStride_10 (by decide) ?_
      exact w_iret hx hb hr hlk dX6_setStride_12 hS (by rw [show setStrideF (S, (n, L), (tl, X), (k, V)) v = _ from by unfold setStrideF; rw [if_pos (show ¬ (0 ≤ v ∧ v < 20) by omega)]]; exact ⟨rfl, ⟨F, Fl, Pt, U, Q, N, T, lo, hi_, o, R, ⟨hTF, hT0⟩, ⟨ho, hRing⟩, hXo, hPs, hPv, hKp, hTx, hHi, hRg, hSn, hSw⟩⟩)

set_option maxHeartbeats 4000000 in
set_option maxRecDepth 100000 in
theorem c_X6_next (l : Launch) (G : va_G) (cs : Nat → ClassId) (a w : Nat → Nat) (S : SS) (n : Int) (L : Nat → SS) (tl : Int) (X : Int → Int) (k : Nat → Bool) (V : Nat → SS) (v : Int) (ia : Inj a 62) (hsd : SnD a w k) (hA : AWF (S, (n, L), (tl, X), (k, V))) (r_v : -2147483648 ≤ v ∧ v < 2147483648) : MW l yX6_next wsX6_next { frames := 4, cells := 0, slots := 0, locals := 123 } G cs [.ref (a 0), .int (zI v)] (fun H => XI G cs a w (S, (n, L), (tl, X), (k, V)) H) (fun vv H => vv = .int (zI (nextF (S, (n, L), (tl, X), (k, V)) v).1) ∧ XI G cs a w (nextF (S, (n, L), (tl, X), (k, V)) v).2 H) (AX a 0 62) 0 0 := by
  refine m_intro (Pw := (fun H => XI G cs a w (S, (n, L), (tl, X), (k, V)) H)) (cc := cX6_next) (maxL := 2) (ret := some .int) RX6 (by decide) rfl rfl (Nat.le_of_ble_eq_true rfl) ?_
  intro pP eE sS mM below meth cC hx hb hr hts hown hml hlk hnm hPre hK ls hl
  have hl : lv_has ls 2 [(0, .ref (a 0)), (1, .int (zI v))] := hl
  have hXI := hPre
  have hS : va_S (AX a 0 62) sS.heap sS.heap [] := va_S.rf
  have hi4 : ∀ w ∈ u_ws RX4 TX4 9, w ∈ wsX6_next := by decide +kernel
  have hi6 : ∀ w ∈ u_ws RX6 TX6 6, w ∈ wsX6_next := by decide +kernel
  obtain ⟨F, Fl, Pt, U, Q, N, T, lo, hi_, o, R, ⟨hTF, hT0⟩, ⟨ho, hRing⟩, hXo, hPs, hPv, hKp, hTx, hHi, hRg, hSn, hSw⟩ := hXI
  obtain ⟨wf, ⟨hn, hL9⟩, ⟨htl, hX⟩, hV9⟩ := hA
  have hT0 : T 0 = tl := hT0
  have hRing : ∀ i : Nat, (i : Int) < n → R ((o + i) % 5).toNat = L i := hRing
  have wf : WF S := wf
  have hn : 0 ≤ n ∧ n ≤ 5 := hn
  have htl : 0 ≤ tl ∧ tl ≤ 60 := htl
  have hX : ∀ j, 0 ≤ j → j < 60 → 0 ≤ X j ∧ X j < 65536 := hX
  have hXo : va_P G vwCl (xoW a) sS.heap := hXo
  have hPs : va_P G vwCl (stW cs (sh a 1) S) sS.heap := hPs
  have hPv : va_P G vwCl (viW cs (sh a 9) ((sh a 1) 0) (aI F) (cB Fl) (cB Pt)) sS.heap := hPv
  have hKp : va_P G vwCl (pkW cs (sh a 13) ((sh a 1) 0) (aI U) (aI Q) (aI N)) sS.heap := hKp
  have hTx : va_P G vwCl (txW cs (sh a 17) T lo hi_ X) sS.heap := hTx
  have hHi : va_P G vwCl (hiW cs (sh a 19) o n) sS.heap := hHi
  have hRg : ∀ i, i < 5 → va_P G vwCl (stW cs (sh a (21 + 8 * i)) (R i)) sS.heap := hRg
  have hSn : va_P G vwCl (snW cs (sh a 61) w k) sS.heap := hSn
  have hSw : ∀ i, i < 2 → k i = true → va_P G vwCl (stW cs (sh w (8 * i)) (V i)) sS.heap := hSw
  have wf0 := wf
  obtain ⟨w0, w1, w2, w3, w4, wP, wC, wS, wX⟩ := wf
  have ia1 := inj_sh (k := 1) (w := 8) ia (by decide)
  refine lv_iload_n hx hb dX6_next_0 rfl (lv_at hl 1 rfl) ?_
  refine z_iconst (n := 1) hx hb dX6_next_1 ?_
  refine z_icmp_lt (tgt := 11) hx hb dX6_next_2 (by decide) (by omega) (by omega) (fun c1 => ?_) (fun c1 => ?_)
  · skip
    refine z_bipush (n := -2) hx hb dX6_next_11 (by decide) ?_
    exact w_iret hx hb hr hlk dX6_next_13 hS (by rw [show nextF (S, (n, L), (tl, X), (k, V)) v = _ from by unfold nextF; rw [if_pos (show ¬ (1 ≤ v ∧ v ≤ 100000) by omega)]]; exact ⟨rfl, ⟨F, Fl, Pt, U, Q, N, T, lo, hi_, o, R, ⟨hTF, hT0⟩, ⟨ho, hRing⟩, hXo, hPs, hPv, hKp, hTx, hHi, hRg, hSn, hSw⟩⟩)
  · skip
    refine lv_iload_n hx hb dX6_next_5 rfl (lv_at hl 1 rfl) ?_
    refine lv_ldc (v := (100000)) hx hb hown (hts (.constant RX6 162 (100000)) (by decide +kernel)) dX6_next_6 ?_
    refine z_top (v' := .int (zI (100000))) rfl ?_
    refine z_icmp_le (tgt := 14) hx hb dX6_next_8 (by decide) (by omega) (by omega) (fun c2 => ?_) (fun c2 => ?_)
    · skip
      refine lv_aload_n hx hb dX6_next_14 rfl (lv_at hl 0 rfl) ?_
      refine va_get (D := G) (ci := 6) (v := .ref ((sh a 1) 0)) (C := RX6) (T := TX6) (N := 6) hx hb hts hi6 hown hK.1 hXo 0 rfl rfl 0 (by decide) (hts (.fieldLink RX6 10 "SpriteLines" "now" "LSpriteLines$State;") (by decide +kernel)) (fun _ h9 => h9) rfl dX6_next_15 ?_
      refine va_get (D := G) (ci := 4) (v := .int (zI (S 0 4))) (C := RX4) (T := TX4) (N := 9) hx hb hts hi4 hown hK.1 hPs 0 rfl rfl 0 (by decide) (hts (.fieldLink RX6 163 "SpriteLines$State" "frame" "I") (by decide +kernel)) (fun _ h9 => h9) rfl dX6_next_18 ?_
      refine lv_ldc (v := (1000000)) hx hb hown (hts (.constant RX6 166 (1000000)) (by decide +kernel)) dX6_next_21 ?_
      refine z_top (v' := .int (zI (1000000))) rfl ?_
      refine lv_iload_n hx hb dX6_next_23 rfl (lv_at hl 1 rfl) ?_
      refine z_isub hx hb dX6_next_24 ?_
      refine z_icmp_le (tgt := 31) hx hb dX6_next_25 (by decide) (by omega) (by omega) (fun c3 => ?_) (fun c3 => ?_)
      · skip
        refine lv_aload_n hx hb dX6_next_31 rfl (lv_at hl 0 rfl) ?_
        refine va_get (D := G) (ci := 6) (v := .ref ((sh a 19) 0)) (C := RX6) (T := TX6) (N := 6) hx hb hts hi6 hown hK.1 hXo 0 rfl rfl 4 (by decide) (hts (.fieldLink RX6 42 "SpriteLines" "history" "LSpriteLines$History;") (by decide +kernel)) (fun _ h9 => h9) rfl dX6_next_32 ?_
        refine lv_aload_n hx hb dX6_next_35 rfl (lv_at hl 0 rfl) ?_
        refine va_get (D := G) (ci := 6) (v := .ref ((sh a 1) 0)) (C := RX6) (T := TX6) (N := 6) hx hb hts hi6 hown hK.1 hXo 0 rfl rfl 0 (by decide) (hts (.fieldLink RX6 10 "SpriteLines" "now" "LSpriteLines$State;") (by decide +kernel)) (fun _ h9 => h9) rfl dX6_next_36 ?_
        refine z_v (zrV (As := [.ref ((sh a 1) 0)]) (rest := []) (Pw := fun H => va_P G vwCl (stW cs (sh a 1) S) H ∧ va_P G vwCl (hiW cs (sh a 19) o n) H ∧ ∀ i, i < 5 → va_P G vwCl (stW cs (sh a (21 + 8 * i)) (R i)) H) ⟨hx, hb, hml, hown, hts⟩ (c_X0_remember l G cs a S o n R ia (by omega) (by omega)) gX6_next_X0_remember rfl qX0_remember rfl rfl ⟨Nat.le_of_ble_eq_true rfl, Nat.le_of_ble_eq_true rfl⟩ ⟨hPs, hHi, hRg⟩ hK (va_recv hK.1 hHi (ci := 0) (q0 := 0) rfl rfl) hl.1 rfl (Nat.le_of_ble_eq_true rfl) dX6_next_39 ⟨Nat.le_of_ble_eq_true rfl, Nat.le_of_ble_eq_true rfl⟩) hS (fun q h => ax_mono h (by decide) (by decide)) (fun q h => ax_mono h (by decide) (by decide)) (fun H locs hpost hle hk hS => ?_)
        obtain ⟨hHi', hRg'⟩ := hpost
        have hXo := keepO (ordXo a) hXo hk (fun j hj ⟨i, h1, h2, h3⟩ => absurd (ia j i (by omega) (by omega) h3) (by omega))
        have hPs := keepO (ordSt cs (sh a 1) S) hPs hk (fun j hj ⟨i, h1, h2, h3⟩ => absurd (ia (1 + j) i (by omega) (by omega) h3) (by omega))
        have hPv := keepO (ordVi cs (sh a 9) ((sh a 1) 0) (aI F) (cB Fl) (cB Pt)) hPv hk (fun j hj ⟨i, h1, h2, h3⟩ => absurd (ia (9 + j) i (by omega) (by omega) h3) (by omega))
        have hKp := keepO (ordPk cs (sh a 13) ((sh a 1) 0) (aI U) (aI Q) (aI N)) hKp hk (fun j hj ⟨i, h1, h2, h3⟩ => absurd (ia (13 + j) i (by omega) (by omega) h3) (by omega))
        have hTx := keepO (ordTx cs (sh a 17) T lo hi_ X) hTx hk (fun j hj ⟨i, h1, h2, h3⟩ => absurd (ia (17 + j) i (by omega) (by omega) h3) (by omega))
        have hSn := keepO (ordSn cs (sh a 61) w k) hSn hk (fun j hj ⟨i, h1, h2, h3⟩ => absurd (ia (61 + j) i (by omega) (by omega) h3) (by omega))
        have hSw : ∀ i, i < 2 → k i = true → va_P G vwCl (stW cs (sh w (8 * i)) (V i)) H := fun i hi hk9 => keepO (ordSt _ _ _) (hSw i hi hk9) hk (fun j hj ⟨i', h1, h2, h3⟩ => absurd h3.symm (hsd.1 i' i j (by omega) hi hj hk9))
        have hHi : va_P G vwCl (hiW cs (sh a 19) (remO o n) (remN n)) H := hHi'
        have hRg : ∀ i, i < 5 → va_P G vwCl (stW cs (sh a (21 + 8 * i)) ((updT R ((o + n) % 5).toNat S) i)) H := hRg'
        refine lv_aload_n hx hb dX6_next_42 rfl (lv_at hl 0 rfl) ?_
        refine va_get (D := G) (ci := 6) (v := .ref ((sh a 1) 0)) (C := RX6) (T := TX6) (N := 6) hx hb hts hi6 hown hK.1 hXo 0 rfl rfl 0 (by decide) (hts (.fieldLink RX6 10 "SpriteLines" "now" "LSpriteLines$State;") (by decide +kernel)) (fun _ h9 => h9) rfl dX6_next_43 ?_
        refine lv_aload_n hx hb dX6_next_46 rfl (lv_at hl 0 rfl) ?_
        refine va_get (D := G) (ci := 6) (v := .ref ((sh a 1) 0)) (C := RX6) (T := TX6) (N := 6) hx hb hts hi6 hown hK.1 hXo 0 rfl rfl 0 (by decide) (hts (.fieldLink RX6 10 "SpriteLines" "now" "LSpriteLines$State;") (by decide +kernel)) (fun _ h9 => h9) rfl dX6_next_47 ?_
        refine va_get (D := G) (ci := 4) (v := .int (zI (S 0 4))) (C := RX4) (T := TX4) (N := 9) hx hb hts hi4 hown hK.1 hPs 0 rfl rfl 0 (by decide) (hts (.fieldLink RX6 163 "SpriteLines$State" "frame" "I") (by decide +kernel)) (fun _ h9 => h9) rfl dX6_next_50 ?_
        refine lv_iload_n hx hb dX6_next_53 rfl (lv_at hl 1 rfl) ?_
        refine z_iadd hx hb dX6_next_54 ?_
        refine z_put (G := G) (ci := 4) (v := .int (zI ((S 0 4) + v))) (ty := .int) (C := RX4) (T := TX4) (N := 9) hx hb hts hi4 tyX4 tyX4_ok nmX4 hown hK.1 hPs (Ord.D (ordSt cs (sh a 1) S) (inj_sh (w := 8) ia (by decide))) hS 0 rfl rfl 0 (by decide) (hts (.fieldLink RX6 163 "SpriteLines$State" "frame" "I") (by decide +kernel)) (fun _ h9 => h9) rfl (by decide +kernel) rfl rfl (Nat.le_of_ble_eq_true rfl) ⟨1, by decide, by decide, rfl⟩ dX6_next_55 (fun H locs hP1 hle hk hS => ?_)
        have hXo := keepO (ordXo a) hXo hk (fun j hj h3 => absurd (ia j 1 (by omega) (by omega) h3) (by omega))
        have hPv := keepO (ordVi cs (sh a 9) ((sh a 1) 0) (aI F) (cB Fl) (cB Pt)) hPv hk (fun j hj h3 => absurd (ia (9 + j) 1 (by omega) (by omega) h3) (by omega))
        have hKp := keepO (ordPk cs (sh a 13) ((sh a 1) 0) (aI U) (aI Q) (aI N)) hKp hk (fun j hj h3 => absurd (ia (13 + j) 1 (by omega) (by omega) h3) (by omega))
        have hTx := keepO (ordTx cs (sh a 17) T lo hi_ X) hTx hk (fun j hj h3 => absurd (ia (17 + j) 1 (by omega) (by omega) h3) (by omega))
        have hHi := keepO (ordHi cs (sh a 19) (remO o n) (remN n)) hHi hk (fun j hj h3 => absurd (ia (19 + j) 1 (by omega) (by omega) h3) (by omega))
        have hRg : ∀ i, i < 5 → va_P G vwCl (stW cs (sh a (21 + 8 * i)) ((updT R ((o + n) % 5).toNat S) i)) H := fun i hi => keepO (ordSt _ _ _) (hRg i hi) hk (fun j hj h3 => absurd (ia (21 + 8 * i + j) 1 (by omega) (by omega) h3) (by omega))
        have hSn := keepO (ordSn cs (sh a 61) w k) hSn hk (fun j hj h3 => absurd (ia (61 + j) 1 (by omega) (by omega) h3) (by omega))
        have hSw : ∀ i, i < 2 → k i = true → va_P G vwCl (stW cs (sh w (8 * i)) (V i)) H := fun i hi hk9 => keepO (ordSt _ _ _) (hSw i hi hk9) hk (fun j hj h3 => absurd h3.symm (hsd.1 1 i j (by omega) hi hj hk9))
        have hPs : va_P G vwCl (stW cs (sh a 1) (up2 S 0 (updZ (S 0) 4 ((S 0 4) + v)))) H := hP1
        refine lv_aload_n hx hb dX6_next_58 rfl (lv_at hl 0 rfl) ?_
        refine va_get (D := G) (ci := 6) (v := .ref ((sh a 1) 0)) (C := RX6) (T := TX6) (N := 6) hx hb hts hi6 hown hK.1 hXo 0 rfl rfl 0 (by decide) (hts (.fieldLink RX6 10 "SpriteLines" "now" "LSpriteLines$State;") (by decide +kernel)) (fun _ h9 => h9) rfl dX6_next_59 ?_
        refine va_get (D := G) (ci := 4) (v := .int (zI ((up2 S 0 (updZ (S 0) 4 ((S 0 4) + v))) 0 4))) (C := RX4) (T := TX4) (N := 9) hx hb hts hi4 hown hK.1 hPs 0 rfl rfl 0 (by decide) (hts (.fieldLink RX6 163 "SpriteLines$State" "frame" "I") (by decide +kernel)) (fun _ h9 => h9) rfl dX6_next_62 ?_
        refine z_topi (b := S 0 4 + v) rfl ?_
        exact w_iret hx hb hr hlk dX6_next_65 hS (by rw [show nextF (S, (n, L), (tl, X), (k, V)) v = _ from by unfold nextF; rw [if_neg (show ¬ (¬ (1 ≤ v ∧ v ≤ 100000)) by omega), if_neg (show ¬ (1000000 < S 0 4 + v) by omega)]]; exact ⟨rfl, ⟨F, Fl, Pt, U, Q, N, T, lo, hi_, remO o n, updT R ((o + n) % 5).toNat S, ⟨hTF, hT0⟩, (ring_rem ⟨ho, hRing⟩ hn), hXo, hPs, hPv, hKp, hTx, hHi, hRg, hSn, hSw⟩⟩)
      · skip
        refine z_bipush (n := -4) hx hb dX6_next_28 (by decide) ?_
        exact w_iret hx hb hr hlk dX6_next_30 hS (by rw [show nextF (S, (n, L), (tl, X), (k, V)) v = _ from by unfold nextF; rw [if_neg (show ¬ (¬ (1 ≤ v ∧ v ≤ 100000)) by omega), if_pos (show 1000000 < S 0 4 + v by omega)]]; exact ⟨rfl, ⟨F, Fl, Pt, U, Q, N, T, lo, hi_, o, R, ⟨hTF, hT0⟩, ⟨ho, hRing⟩, hXo, hPs, hPv, hKp, hTx, hHi, hRg, hSn, hSw⟩⟩)
    · skip
      refine z_bipush (n := -2) hx hb dX6_next_11 (by decide) ?_
      exact w_iret hx hb hr hlk dX6_next_13 hS (by rw [show nextF (S, (n, L), (tl, X), (k, V)) v = _ from by unfold nextF; rw [if_pos (show ¬ (1 ≤ v ∧ v ≤ 100000) by omega)]]; exact ⟨rfl, ⟨F, Fl, Pt, U, Q, N, T, lo, hi_, o, R, ⟨hTF, hT0⟩, ⟨ho, hRing⟩, hXo, hPs, hPv, hKp, hTx, hHi, hRg, hSn, hSw⟩⟩)

set_option maxHeartbeats 4000000 in
set_option maxRecDepth 100000 in
theorem c_X6_undo (l : Launch) (G : va_G) (cs : Nat → ClassId) (a w : Nat → Nat) (S : SS) (n : Int) (L : Nat → SS) (tl : Int) (X : Int → Int) (k : Nat → Bool) (V : Nat → SS)  (ia : Inj a 62) (hsd : SnD a w k) (hA : AWF (S, (n, L), (tl, X), (k, V))) : MW l yX6_undo wsX6_undo { frames := 4, cells := 0, slots := 0, locals := 123 } G cs [.ref (a 0)] (fun H => XI G cs a w (S, (n, L), (tl, X), (k, V)) H) (fun vv H => vv = .int (zI (undoF (S, (n, L), (tl, X), (k, V))).1) ∧ XI G cs a w (undoF (S, (n, L), (tl, X), (k, V))).2 H) (AX a 0 62) 0 0 := by
  refine m_intro (Pw := (fun H => XI G cs a w (S, (n, L), (tl, X), (k, V)) H)) (cc := cX6_undo) (maxL := 1) (ret := some .int) RX6 (by decide) rfl rfl (Nat.le_of_ble_eq_true rfl) ?_
  intro pP eE sS mM below meth cC hx hb hr hts hown hml hlk hnm hPre hK ls hl
  have hl : lv_has ls 1 [(0, .ref (a 0))] := hl
  have hXI := hPre
  have hS : va_S (AX a 0 62) sS.heap sS.heap [] := va_S.rf
  have hi0 : ∀ w ∈ u_ws RX0 TX0 3, w ∈ wsX6_undo := by decide +kernel
  have hi6 : ∀ w ∈ u_ws RX6 TX6 6, w ∈ wsX6_undo := by decide +kernel
  obtain ⟨F, Fl, Pt, U, Q, N, T, lo, hi_, o, R, ⟨hTF, hT0⟩, ⟨ho, hRing⟩, hXo, hPs, hPv, hKp, hTx, hHi, hRg, hSn, hSw⟩ := hXI
  obtain ⟨wf, ⟨hn, hL9⟩, ⟨htl, hX⟩, hV9⟩ := hA
  have hT0 : T 0 = tl := hT0
  have hRing : ∀ i : Nat, (i : Int) < n → R ((o + i) % 5).toNat = L i := hRing
  have wf : WF S := wf
  have hn : 0 ≤ n ∧ n ≤ 5 := hn
  have htl : 0 ≤ tl ∧ tl ≤ 60 := htl
  have hX : ∀ j, 0 ≤ j → j < 60 → 0 ≤ X j ∧ X j < 65536 := hX
  have hXo : va_P G vwCl (xoW a) sS.heap := hXo
  have hPs : va_P G vwCl (stW cs (sh a 1) S) sS.heap := hPs
  have hPv : va_P G vwCl (viW cs (sh a 9) ((sh a 1) 0) (aI F) (cB Fl) (cB Pt)) sS.heap := hPv
  have hKp : va_P G vwCl (pkW cs (sh a 13) ((sh a 1) 0) (aI U) (aI Q) (aI N)) sS.heap := hKp
  have hTx : va_P G vwCl (txW cs (sh a 17) T lo hi_ X) sS.heap := hTx
  have hHi : va_P G vwCl (hiW cs (sh a 19) o n) sS.heap := hHi
  have hRg : ∀ i, i < 5 → va_P G vwCl (stW cs (sh a (21 + 8 * i)) (R i)) sS.heap := hRg
  have hSn : va_P G vwCl (snW cs (sh a 61) w k) sS.heap := hSn
  have hSw : ∀ i, i < 2 → k i = true → va_P G vwCl (stW cs (sh w (8 * i)) (V i)) sS.heap := hSw
  have wf0 := wf
  obtain ⟨w0, w1, w2, w3, w4, wP, wC, wS, wX⟩ := wf
  have ia1 := inj_sh (k := 1) (w := 8) ia (by decide)
  refine lv_aload_n hx hb dX6_undo_0 rfl (lv_at hl 0 rfl) ?_
  refine va_get (D := G) (ci := 6) (v := .ref ((sh a 19) 0)) (C := RX6) (T := TX6) (N := 6) hx hb hts hi6 hown hK.1 hXo 0 rfl rfl 4 (by decide) (hts (.fieldLink RX6 42 "SpriteLines" "history" "LSpriteLines$History;") (by decide +kernel)) (fun _ h9 => h9) rfl dX6_undo_1 ?_
  refine va_get (D := G) (ci := 0) (v := .int (zI n)) (C := RX0) (T := TX0) (N := 3) hx hb hts hi0 hown hK.1 hHi 0 rfl rfl 2 (by decide) (hts (.fieldLink RX6 167 "SpriteLines$History" "size" "I") (by decide +kernel)) (fun _ h9 => h9) rfl dX6_undo_4 ?_
  refine z_if_ne (tgt := 13) hx hb dX6_undo_7 (by decide) (by omega) (fun c1 => ?_) (fun c1 => ?_)
  · skip
    refine lv_aload_n hx hb dX6_undo_13 rfl (lv_at hl 0 rfl) ?_
    refine va_get (D := G) (ci := 6) (v := .ref ((sh a 19) 0)) (C := RX6) (T := TX6) (N := 6) hx hb hts hi6 hown hK.1 hXo 0 rfl rfl 4 (by decide) (hts (.fieldLink RX6 42 "SpriteLines" "history" "LSpriteLines$History;") (by decide +kernel)) (fun _ h9 => h9) rfl dX6_undo_14 ?_
    refine lv_aload_n hx hb dX6_undo_17 rfl (lv_at hl 0 rfl) ?_
    refine va_get (D := G) (ci := 6) (v := .ref ((sh a 1) 0)) (C := RX6) (T := TX6) (N := 6) hx hb hts hi6 hown hK.1 hXo 0 rfl rfl 0 (by decide) (hts (.fieldLink RX6 10 "SpriteLines" "now" "LSpriteLines$State;") (by decide +kernel)) (fun _ h9 => h9) rfl dX6_undo_18 ?_
    refine z_v (zrV (As := [.ref ((sh a 1) 0)]) (rest := []) (Pw := fun H => va_P G vwCl (stW cs (sh a 1) S) H ∧ va_P G vwCl (hiW cs (sh a 19) o n) H ∧ ∀ i, i < 5 → va_P G vwCl (stW cs (sh a (21 + 8 * i)) (R i)) H) ⟨hx, hb, hml, hown, hts⟩ (c_X0_takeBack l G cs a S o n R ia (by omega) (by omega)) gX6_undo_X0_takeBack rfl qX0_takeBack rfl rfl ⟨Nat.le_of_ble_eq_true rfl, Nat.le_of_ble_eq_true rfl⟩ ⟨hPs, hHi, hRg⟩ hK (va_recv hK.1 hHi (ci := 0) (q0 := 0) rfl rfl) hl.1 rfl (Nat.le_of_ble_eq_true rfl) dX6_undo_21 ⟨Nat.le_of_ble_eq_true rfl, Nat.le_of_ble_eq_true rfl⟩) hS (fun q h => by rcases h with h | h <;> exact ax_mono h (by decide) (by decide)) (fun q h => by rcases h with h | h <;> exact ax_mono h (by decide) (by decide)) (fun H locs hpost hle hk hS => ?_)
    obtain ⟨hHi', hPs', hRg'⟩ := hpost
    have hXo := keepO (ordXo a) hXo hk (fun j hj h0 => by rcases h0 with ⟨i, h1, h2, h3⟩ | ⟨i, h1, h2, h3⟩ <;> exact absurd (ia j i (by omega) (by omega) h3) (by omega))
    have hPv := keepO (ordVi cs (sh a 9) ((sh a 1) 0) (aI F) (cB Fl) (cB Pt)) hPv hk (fun j hj h0 => by rcases h0 with ⟨i, h1, h2, h3⟩ | ⟨i, h1, h2, h3⟩ <;> exact absurd (ia (9 + j) i (by omega) (by omega) h3) (by omega))
    have hKp := keepO (ordPk cs (sh a 13) ((sh a 1) 0) (aI U) (aI Q) (aI N)) hKp hk (fun j hj h0 => by rcases h0 with ⟨i, h1, h2, h3⟩ | ⟨i, h1, h2, h3⟩ <;> exact absurd (ia (13 + j) i (by omega) (by omega) h3) (by omega))
    have hTx := keepO (ordTx cs (sh a 17) T lo hi_ X) hTx hk (fun j hj h0 => by rcases h0 with ⟨i, h1, h2, h3⟩ | ⟨i, h1, h2, h3⟩ <;> exact absurd (ia (17 + j) i (by omega) (by omega) h3) (by omega))
    have hSn := keepO (ordSn cs (sh a 61) w k) hSn hk (fun j hj h0 => by rcases h0 with ⟨i, h1, h2, h3⟩ | ⟨i, h1, h2, h3⟩ <;> exact absurd (ia (61 + j) i (by omega) (by omega) h3) (by omega))
    have hSw : ∀ i, i < 2 → k i = true → va_P G vwCl (stW cs (sh w (8 * i)) (V i)) H := fun i hi hk9 => keepO (ordSt _ _ _) (hSw i hi hk9) hk (fun j hj h0 => by rcases h0 with ⟨i', h1, h2, h3⟩ | ⟨i', h1, h2, h3⟩ <;> exact absurd h3.symm (hsd.1 i' i j (by omega) hi hj hk9))
    have hHi : va_P G vwCl (hiW cs (sh a 19) o (n - 1)) H := hHi'
    have hPs : va_P G vwCl (stW cs (sh a 1) (R ((o + (n - 1)) % 5).toNat)) H := hPs'
    have hRg : ∀ i, i < 5 → va_P G vwCl (stW cs (sh a (21 + 8 * i)) (R i)) H := hRg'
    have hPs : va_P G vwCl (stW cs (sh a 1) (L (n - 1).toNat)) H := (by rw [← hRing (n - 1).toNat (by omega), show (((n - 1).toNat : Nat) : Int) = n - 1 by omega]; exact hPs)
    refine lv_aload_n hx hb dX6_undo_24 rfl (lv_at hl 0 rfl) ?_
    refine va_get (D := G) (ci := 6) (v := .ref ((sh a 19) 0)) (C := RX6) (T := TX6) (N := 6) hx hb hts hi6 hown hK.1 hXo 0 rfl rfl 4 (by decide) (hts (.fieldLink RX6 42 "SpriteLines" "history" "LSpriteLines$History;") (by decide +kernel)) (fun _ h9 => h9) rfl dX6_undo_25 ?_
    refine va_get (D := G) (ci := 0) (v := .int (zI (n - 1))) (C := RX0) (T := TX0) (N := 3) hx hb hts hi0 hown hK.1 hHi 0 rfl rfl 2 (by decide) (hts (.fieldLink RX6 167 "SpriteLines$History" "size" "I") (by decide +kernel)) (fun _ h9 => h9) rfl dX6_undo_28 ?_
    exact w_iret hx hb hr hlk dX6_undo_31 hS (by rw [show undoF (S, (n, L), (tl, X), (k, V)) = _ from by unfold undoF; rw [if_neg (show ¬ (n = 0) by omega)]]; exact ⟨rfl, ⟨F, Fl, Pt, U, Q, N, T, lo, hi_, o, R, ⟨hTF, hT0⟩, ⟨ho, fun i (hi : (i : Int) < n - 1) => hRing i (by omega)⟩, hXo, hPs, hPv, hKp, hTx, hHi, hRg, hSn, hSw⟩⟩)
  · skip
    refine z_bipush (n := -5) hx hb dX6_undo_10 (by decide) ?_
    exact w_iret hx hb hr hlk dX6_undo_12 hS (by rw [show undoF (S, (n, L), (tl, X), (k, V)) = _ from by unfold undoF; rw [if_pos (show n = 0 by omega)]]; exact ⟨rfl, ⟨F, Fl, Pt, U, Q, N, T, lo, hi_, o, R, ⟨hTF, hT0⟩, ⟨ho, hRing⟩, hXo, hPs, hPv, hKp, hTx, hHi, hRg, hSn, hSw⟩⟩)

set_option maxHeartbeats 4000000 in
set_option maxRecDepth 100000 in
theorem c_X6_restore (l : Launch) (G : va_G) (cs : Nat → ClassId) (a w : Nat → Nat) (S : SS) (n : Int) (L : Nat → SS) (tl : Int) (X : Int → Int) (k : Nat → Bool) (V : Nat → SS) (z : Int) (ia : Inj a 62) (hsd : SnD a w k) (hA : AWF (S, (n, L), (tl, X), (k, V))) (r_z : -2147483648 ≤ z ∧ z < 2147483648) : MW l yX6_restore wsX6_restore { frames := 4, cells := 0, slots := 0, locals := 123 } G cs [.ref (a 0), .int (zI z)] (fun H => XI G cs a w (S, (n, L), (tl, X), (k, V)) H) (fun vv H => vv = .int (zI (restoreF (S, (n, L), (tl, X), (k, V)) z).1) ∧ XI G cs a w (restoreF (S, (n, L), (tl, X), (k, V)) z).2 H) (AX a 0 62) 0 0 := by
  refine m_intro (Pw := (fun H => XI G cs a w (S, (n, L), (tl, X), (k, V)) H)) (cc := cX6_restore) (maxL := 3) (ret := some .int) RX6 (by decide) rfl rfl (Nat.le_of_ble_eq_true rfl) ?_
  intro pP eE sS mM below meth cC hx hb hr hts hown hml hlk hnm hPre hK ls hl
  have hl : lv_has ls 3 [(0, .ref (a 0)), (1, .int (zI z))] := hl
  have hXI := hPre
  have hS : va_S (AX a 0 62) sS.heap sS.heap [] := va_S.rf
  have hi4 : ∀ w ∈ u_ws RX4 TX4 9, w ∈ wsX6_restore := by decide +kernel
  have hi6 : ∀ w ∈ u_ws RX6 TX6 6, w ∈ wsX6_restore := by decide +kernel
  obtain ⟨F, Fl, Pt, U, Q, N, T, lo, hi_, o, R, ⟨hTF, hT0⟩, ⟨ho, hRing⟩, hXo, hPs, hPv, hKp, hTx, hHi, hRg, hSn, hSw⟩ := hXI
  obtain ⟨wf, ⟨hn, hL9⟩, ⟨htl, hX⟩, hV9⟩ := hA
  have hT0 : T 0 = tl := hT0
  have hRing : ∀ i : Nat, (i : Int) < n → R ((o + i) % 5).toNat = L i := hRing
  have wf : WF S := wf
  have hn : 0 ≤ n ∧ n ≤ 5 := hn
  have htl : 0 ≤ tl ∧ tl ≤ 60 := htl
  have hX : ∀ j, 0 ≤ j → j < 60 → 0 ≤ X j ∧ X j < 65536 := hX
  have hXo : va_P G vwCl (xoW a) sS.heap := hXo
  have hPs : va_P G vwCl (stW cs (sh a 1) S) sS.heap := hPs
  have hPv : va_P G vwCl (viW cs (sh a 9) ((sh a 1) 0) (aI F) (cB Fl) (cB Pt)) sS.heap := hPv
  have hKp : va_P G vwCl (pkW cs (sh a 13) ((sh a 1) 0) (aI U) (aI Q) (aI N)) sS.heap := hKp
  have hTx : va_P G vwCl (txW cs (sh a 17) T lo hi_ X) sS.heap := hTx
  have hHi : va_P G vwCl (hiW cs (sh a 19) o n) sS.heap := hHi
  have hRg : ∀ i, i < 5 → va_P G vwCl (stW cs (sh a (21 + 8 * i)) (R i)) sS.heap := hRg
  have hSn : va_P G vwCl (snW cs (sh a 61) w k) sS.heap := hSn
  have hSw : ∀ i, i < 2 → k i = true → va_P G vwCl (stW cs (sh w (8 * i)) (V i)) sS.heap := hSw
  have wf0 := wf
  obtain ⟨w0, w1, w2, w3, w4, wP, wC, wS, wX⟩ := wf
  have ia1 := inj_sh (k := 1) (w := 8) ia (by decide)
  refine lv_iload_n hx hb dX6_restore_0 rfl (lv_at hl 1 rfl) ?_
  refine z_ro (zrS (As := [.int (zI z)]) (rest := []) (Pw := fun _ => True) ⟨hx, hb, hml, hown, hts⟩ (c_X6_isNoSlot l G cs z (by omega)) gX6_restore_X6_isNoSlot rfl qX6_isNoSlot rfl rfl ⟨Nat.le_of_ble_eq_true rfl, Nat.le_of_ble_eq_true rfl⟩ trivial hK hl.1 rfl (Nat.le_of_ble_eq_true rfl) dX6_restore_1 ⟨Nat.le_of_ble_eq_true rfl, Nat.le_of_ble_eq_true rfl⟩) ?_
  refine z_bif_eq (tgt := 9) hx hb dX6_restore_4 (by decide) (fun c1 => ?_) (fun c1 => ?_)
  · skip
    simp only [decide_eq_false_iff_not] at c1
    refine lv_aload_n hx hb dX6_restore_9 rfl (lv_at hl 0 rfl) ?_
    refine va_get (D := G) (ci := 6) (v := .ref ((sh a 61) 0)) (C := RX6) (T := TX6) (N := 6) hx hb hts hi6 hown hK.1 hXo 0 rfl rfl 5 (by decide) (hts (.fieldLink RX6 46 "SpriteLines" "snapshots" "[LSpriteLines$State;") (by decide +kernel)) (fun _ h9 => h9) rfl dX6_restore_10 ?_
    refine lv_iload_n hx hb dX6_restore_13 rfl (lv_at hl 1 rfl) ?_
    refine va_aldq hx hb hK.1 hSn 0 4 (f := nRow w k) rfl rfl (zI_in (by omega) (by decide)) dX6_restore_14 ?_
    rw [zI_clamp (by omega)]
    by_cases hks : k z.toNat = true
    · skip
      refine z_top (v' := .ref ((sh w (8 * z.toNat)) 0)) (by unfold nRow; rw [if_pos hks]; rfl) ?_
      refine lv_astore_n (lv' := [(2, .ref ((sh w (8 * z.toNat)) 0)), (0, .ref (a 0)), (1, .int (zI z))]) hx hb dX6_restore_15 rfl hl (by decide) rfl (fun ls hl => ?_)
      refine lv_aload_n hx hb dX6_restore_16 rfl (lv_at hl 0 rfl) ?_
      refine lv_ifnonnull (tgt := 23) hx hb dX6_restore_17 (by decide) ?_
      refine lv_aload_n hx hb dX6_restore_23 rfl (lv_at hl 1 rfl) ?_
      refine va_get (D := G) (ci := 6) (v := .ref ((sh a 19) 0)) (C := RX6) (T := TX6) (N := 6) hx hb hts hi6 hown hK.1 hXo 0 rfl rfl 4 (by decide) (hts (.fieldLink RX6 42 "SpriteLines" "history" "LSpriteLines$History;") (by decide +kernel)) (fun _ h9 => h9) rfl dX6_restore_24 ?_
      refine lv_aload_n hx hb dX6_restore_27 rfl (lv_at hl 1 rfl) ?_
      refine va_get (D := G) (ci := 6) (v := .ref ((sh a 1) 0)) (C := RX6) (T := TX6) (N := 6) hx hb hts hi6 hown hK.1 hXo 0 rfl rfl 0 (by decide) (hts (.fieldLink RX6 10 "SpriteLines" "now" "LSpriteLines$State;") (by decide +kernel)) (fun _ h9 => h9) rfl dX6_restore_28 ?_
      refine z_v (zrV (As := [.ref ((sh a 1) 0)]) (rest := []) (Pw := fun H => va_P G vwCl (stW cs (sh a 1) S) H ∧ va_P G vwCl (hiW cs (sh a 19) o n) H ∧ ∀ i, i < 5 → va_P G vwCl (stW cs (sh a (21 + 8 * i)) (R i)) H) ⟨hx, hb, hml, hown, hts⟩ (c_X0_remember l G cs a S o n R ia (by omega) (by omega)) gX6_restore_X0_remember rfl qX0_remember rfl rfl ⟨Nat.le_of_ble_eq_true rfl, Nat.le_of_ble_eq_true rfl⟩ ⟨hPs, hHi, hRg⟩ hK (va_recv hK.1 hHi (ci := 0) (q0 := 0) rfl rfl) hl.1 rfl (Nat.le_of_ble_eq_true rfl) dX6_restore_31 ⟨Nat.le_of_ble_eq_true rfl, Nat.le_of_ble_eq_true rfl⟩) hS (fun q h => ax_mono h (by decide) (by decide)) (fun q h => ax_mono h (by decide) (by decide)) (fun H locs hpost hle hk hS => ?_)
      obtain ⟨hHi', hRg'⟩ := hpost
      have hXo := keepO (ordXo a) hXo hk (fun j hj ⟨i, h1, h2, h3⟩ => absurd (ia j i (by omega) (by omega) h3) (by omega))
      have hPs := keepO (ordSt cs (sh a 1) S) hPs hk (fun j hj ⟨i, h1, h2, h3⟩ => absurd (ia (1 + j) i (by omega) (by omega) h3) (by omega))
      have hPv := keepO (ordVi cs (sh a 9) ((sh a 1) 0) (aI F) (cB Fl) (cB Pt)) hPv hk (fun j hj ⟨i, h1, h2, h3⟩ => absurd (ia (9 + j) i (by omega) (by omega) h3) (by omega))
      have hKp := keepO (ordPk cs (sh a 13) ((sh a 1) 0) (aI U) (aI Q) (aI N)) hKp hk (fun j hj ⟨i, h1, h2, h3⟩ => absurd (ia (13 + j) i (by omega) (by omega) h3) (by omega))
      have hTx := keepO (ordTx cs (sh a 17) T lo hi_ X) hTx hk (fun j hj ⟨i, h1, h2, h3⟩ => absurd (ia (17 + j) i (by omega) (by omega) h3) (by omega))
      have hSn := keepO (ordSn cs (sh a 61) w k) hSn hk (fun j hj ⟨i, h1, h2, h3⟩ => absurd (ia (61 + j) i (by omega) (by omega) h3) (by omega))
      have hSw : ∀ i, i < 2 → k i = true → va_P G vwCl (stW cs (sh w (8 * i)) (V i)) H := fun i hi hk9 => keepO (ordSt _ _ _) (hSw i hi hk9) hk (fun j hj ⟨i', h1, h2, h3⟩ => absurd h3.symm (hsd.1 i' i j (by omega) hi hj hk9))
      have hHi : va_P G vwCl (hiW cs (sh a 19) (remO o n) (remN n)) H := hHi'
      have hRg : ∀ i, i < 5 → va_P G vwCl (stW cs (sh a (21 + 8 * i)) ((updT R ((o + n) % 5).toNat S) i)) H := hRg'
      refine lv_aload_n hx hb dX6_restore_34 rfl (lv_at hl 1 rfl) ?_
      refine va_get (D := G) (ci := 6) (v := .ref ((sh a 1) 0)) (C := RX6) (T := TX6) (N := 6) hx hb hts hi6 hown hK.1 hXo 0 rfl rfl 0 (by decide) (hts (.fieldLink RX6 10 "SpriteLines" "now" "LSpriteLines$State;") (by decide +kernel)) (fun _ h9 => h9) rfl dX6_restore_35 ?_
      refine lv_aload_n hx hb dX6_restore_38 rfl (lv_at hl 0 rfl) ?_
      have hT := hSw z.toNat (by omega) hks
      refine z_v (zrV (As := [.ref ((sh w (8 * z.toNat)) 0)]) (rest := []) (Pw := fun H => va_P G vwCl (stW cs (sh a 1) S) H ∧ va_P G vwCl (stW cs (sh w (8 * z.toNat)) (V z.toNat)) H) ⟨hx, hb, hml, hown, hts⟩ (c_X4_copyFrom l G cs (sh a 1) S (sh w (8 * z.toNat)) (V z.toNat) ia1 (fun i j hi hj h3 => absurd h3 (hsd.1 (1 + i) z.toNat j (by omega) (by omega) hj hks))) gX6_restore_X4_copyFrom rfl qX4_copyFrom rfl rfl ⟨Nat.le_of_ble_eq_true rfl, Nat.le_of_ble_eq_true rfl⟩ ⟨hPs, hT⟩ hK (va_recv hK.1 hPs (ci := 4) (q0 := 0) rfl rfl) hl.1 rfl (Nat.le_of_ble_eq_true rfl) dX6_restore_39 ⟨Nat.le_of_ble_eq_true rfl, Nat.le_of_ble_eq_true rfl⟩) hS (fun q h => ax_mono (ax_sh h) (by decide) (by decide)) (fun q h => ax_mono (ax_sh h) (by decide) (by decide)) (fun H locs hpost hle hk hS => ?_)
      have hPs' := hpost
      have hXo := keepO (ordXo a) hXo hk (fun j hj ⟨i, h1, h2, h3⟩ => absurd (ia j (1 + i) (by omega) (by omega) h3) (by omega))
      have hPv := keepO (ordVi cs (sh a 9) ((sh a 1) 0) (aI F) (cB Fl) (cB Pt)) hPv hk (fun j hj ⟨i, h1, h2, h3⟩ => absurd (ia (9 + j) (1 + i) (by omega) (by omega) h3) (by omega))
      have hKp := keepO (ordPk cs (sh a 13) ((sh a 1) 0) (aI U) (aI Q) (aI N)) hKp hk (fun j hj ⟨i, h1, h2, h3⟩ => absurd (ia (13 + j) (1 + i) (by omega) (by omega) h3) (by omega))
      have hTx := keepO (ordTx cs (sh a 17) T lo hi_ X) hTx hk (fun j hj ⟨i, h1, h2, h3⟩ => absurd (ia (17 + j) (1 + i) (by omega) (by omega) h3) (by omega))
      have hHi := keepO (ordHi cs (sh a 19) (remO o n) (remN n)) hHi hk (fun j hj ⟨i, h1, h2, h3⟩ => absurd (ia (19 + j) (1 + i) (by omega) (by omega) h3) (by omega))
      have hRg : ∀ i, i < 5 → va_P G vwCl (stW cs (sh a (21 + 8 * i)) ((updT R ((o + n) % 5).toNat S) i)) H := fun i hi => keepO (ordSt _ _ _) (hRg i hi) hk (fun j hj ⟨i', h1, h2, h3⟩ => absurd (ia (21 + 8 * i + j) (1 + i') (by omega) (by omega) h3) (by omega))
      have hSn := keepO (ordSn cs (sh a 61) w k) hSn hk (fun j hj ⟨i, h1, h2, h3⟩ => absurd (ia (61 + j) (1 + i) (by omega) (by omega) h3) (by omega))
      have hSw : ∀ i, i < 2 → k i = true → va_P G vwCl (stW cs (sh w (8 * i)) (V i)) H := fun i hi hk9 => keepO (ordSt _ _ _) (hSw i hi hk9) hk (fun j hj ⟨i', h1, h2, h3⟩ => absurd h3.symm (hsd.1 (1 + i') i j (by omega) hi hj hk9))
      have hT := keepO (ordSt cs (sh w (8 * z.toNat)) (V z.toNat)) hT hk (fun j hj ⟨i', h1, h2, h3⟩ => absurd h3.symm (hsd.1 (1 + i') z.toNat j (by omega) (by omega) hj hks))
      have hPs : va_P G vwCl (stW cs (sh a 1) (V z.toNat)) H := hPs'
      refine lv_aload_n hx hb dX6_restore_42 rfl (lv_at hl 1 rfl) ?_
      refine va_get (D := G) (ci := 6) (v := .ref ((sh a 1) 0)) (C := RX6) (T := TX6) (N := 6) hx hb hts hi6 hown hK.1 hXo 0 rfl rfl 0 (by decide) (hts (.fieldLink RX6 10 "SpriteLines" "now" "LSpriteLines$State;") (by decide +kernel)) (fun _ h9 => h9) rfl dX6_restore_43 ?_
      refine va_get (D := G) (ci := 4) (v := .int (zI ((V z.toNat) 0 4))) (C := RX4) (T := TX4) (N := 9) hx hb hts hi4 hown hK.1 hPs 0 rfl rfl 0 (by decide) (hts (.fieldLink RX6 163 "SpriteLines$State" "frame" "I") (by decide +kernel)) (fun _ h9 => h9) rfl dX6_restore_46 ?_
      exact w_iret hx hb hr hlk dX6_restore_49 hS (by rw [show restoreF (S, (n, L), (tl, X), (k, V)) z = _ from by unfold restoreF; rw [if_neg (show ¬ (¬ (0 ≤ z ∧ z < 2)) by omega), if_neg (show ¬ (k z.toNat = false) by rw [hks]; decide)]]; exact ⟨rfl, ⟨F, Fl, Pt, U, Q, N, T, lo, hi_, remO o n, updT R ((o + n) % 5).toNat S, ⟨hTF, hT0⟩, (ring_rem ⟨ho, hRing⟩ hn), hXo, hPs, hPv, hKp, hTx, hHi, hRg, hSn, hSw⟩⟩)
    · skip
      refine z_top (v' := .null) (by unfold nRow; rw [if_neg hks]; rfl) ?_
      refine lv_astore_nN (lv' := [(2, .null), (0, .ref (a 0)), (1, .int (zI z))]) hx hb dX6_restore_15 rfl hl (by decide) rfl (fun ls hl => ?_)
      refine lv_aload_nN hx hb dX6_restore_16 rfl (lv_at hl 0 rfl) ?_
      refine lv_ifnonnullN hx hb dX6_restore_17 ?_
      refine z_bipush (n := -5) hx hb dX6_restore_20 (by decide) ?_
      exact w_iret hx hb hr hlk dX6_restore_22 hS (by rw [show restoreF (S, (n, L), (tl, X), (k, V)) z = _ from by unfold restoreF; rw [if_neg (show ¬ (¬ (0 ≤ z ∧ z < 2)) by omega), if_pos (Bool.eq_false_iff.mpr hks)]]; exact ⟨rfl, ⟨F, Fl, Pt, U, Q, N, T, lo, hi_, o, R, ⟨hTF, hT0⟩, ⟨ho, hRing⟩, hXo, hPs, hPv, hKp, hTx, hHi, hRg, hSn, hSw⟩⟩)
  · skip
    simp only [decide_eq_true_eq] at c1
    refine z_iconst (n := -1) hx hb dX6_restore_7 ?_
    exact w_iret hx hb hr hlk dX6_restore_8 hS (by rw [show restoreF (S, (n, L), (tl, X), (k, V)) z = _ from by unfold restoreF; rw [if_pos (show ¬ (0 ≤ z ∧ z < 2) by omega)]]; exact ⟨rfl, ⟨F, Fl, Pt, U, Q, N, T, lo, hi_, o, R, ⟨hTF, hT0⟩, ⟨ho, hRing⟩, hXo, hPs, hPv, hKp, hTx, hHi, hRg, hSn, hSw⟩⟩)

set_option maxHeartbeats 4000000 in
set_option maxRecDepth 100000 in
theorem c_X6_pixel (l : Launch) (G : va_G) (cs : Nat → ClassId) (a w : Nat → Nat) (S : SS) (n : Int) (L : Nat → SS) (tl : Int) (X : Int → Int) (k : Nat → Bool) (V : Nat → SS) (q r t : Int) (ia : Inj a 62) (hsd : SnD a w k) (hA : AWF (S, (n, L), (tl, X), (k, V))) (r_q : -2147483648 ≤ q ∧ q < 2147483648) (r_r : -2147483648 ≤ r ∧ r < 2147483648) (r_t : -2147483648 ≤ t ∧ t < 2147483648) : MW l yX6_pixel wsX6_pixel { frames := 2, cells := 0, slots := 0, locals := 46 } G cs [.ref (a 0), .int (zI q), .int (zI r), .int (zI t)] (fun H => XI G cs a w (S, (n, L), (tl, X), (k, V)) H) (fun vv H => vv = .int (zI (pixelF S q r t)) ∧ XI G cs a w (S, (n, L), (tl, X), (k, V)) H) (AX a 0 62) 0 0 := by
  refine m_intro (Pw := (fun H => XI G cs a w (S, (n, L), (tl, X), (k, V)) H)) (cc := cX6_pixel) (maxL := 4) (ret := some .int) RX6 (by decide) rfl rfl (Nat.le_of_ble_eq_true rfl) ?_
  intro pP eE sS mM below meth cC hx hb hr hts hown hml hlk hnm hPre hK ls hl
  have hl : lv_has ls 4 [(0, .ref (a 0)), (1, .int (zI q)), (2, .int (zI r)), (3, .int (zI t))] := hl
  have hXI := hPre
  have hS : va_S (AX a 0 62) sS.heap sS.heap [] := va_S.rf
  have hi4 : ∀ w ∈ u_ws RX4 TX4 9, w ∈ wsX6_pixel := by decide +kernel
  have hi6 : ∀ w ∈ u_ws RX6 TX6 6, w ∈ wsX6_pixel := by decide +kernel
  obtain ⟨F, Fl, Pt, U, Q, N, T, lo, hi_, o, R, ⟨hTF, hT0⟩, ⟨ho, hRing⟩, hXo, hPs, hPv, hKp, hTx, hHi, hRg, hSn, hSw⟩ := hXI
  obtain ⟨wf, ⟨hn, hL9⟩, ⟨htl, hX⟩, hV9⟩ := hA
  have hT0 : T 0 = tl := hT0
  have hRing : ∀ i : Nat, (i : Int) < n → R ((o + i) % 5).toNat = L i := hRing
  have wf : WF S := wf
  have hn : 0 ≤ n ∧ n ≤ 5 := hn
  have htl : 0 ≤ tl ∧ tl ≤ 60 := htl
  have hX : ∀ j, 0 ≤ j → j < 60 → 0 ≤ X j ∧ X j < 65536 := hX
  have hXo : va_P G vwCl (xoW a) sS.heap := hXo
  have hPs : va_P G vwCl (stW cs (sh a 1) S) sS.heap := hPs
  have hPv : va_P G vwCl (viW cs (sh a 9) ((sh a 1) 0) (aI F) (cB Fl) (cB Pt)) sS.heap := hPv
  have hKp : va_P G vwCl (pkW cs (sh a 13) ((sh a 1) 0) (aI U) (aI Q) (aI N)) sS.heap := hKp
  have hTx : va_P G vwCl (txW cs (sh a 17) T lo hi_ X) sS.heap := hTx
  have hHi : va_P G vwCl (hiW cs (sh a 19) o n) sS.heap := hHi
  have hRg : ∀ i, i < 5 → va_P G vwCl (stW cs (sh a (21 + 8 * i)) (R i)) sS.heap := hRg
  have hSn : va_P G vwCl (snW cs (sh a 61) w k) sS.heap := hSn
  have hSw : ∀ i, i < 2 → k i = true → va_P G vwCl (stW cs (sh w (8 * i)) (V i)) sS.heap := hSw
  have wf0 := wf
  obtain ⟨w0, w1, w2, w3, w4, wP, wC, wS, wX⟩ := wf
  have ia1 := inj_sh (k := 1) (w := 8) ia (by decide)
  refine lv_aload_n hx hb dX6_pixel_0 rfl (lv_at hl 0 rfl) ?_
  refine lv_iload_n hx hb dX6_pixel_1 rfl (lv_at hl 1 rfl) ?_
  refine z_ro (zrV (As := [.int (zI q)]) (rest := []) (Pw := fun H => va_P G vwCl (xoW a) H ∧ va_P G vwCl (stW cs (sh a 1) S) H) ⟨hx, hb, hml, hown, hts⟩ (c_X6_isNoPart l G cs a S q wf0 (by omega)) gX6_pixel_X6_isNoPart rfl qX6_isNoPart rfl rfl ⟨Nat.le_of_ble_eq_true rfl, Nat.le_of_ble_eq_true rfl⟩ ⟨hXo, hPs⟩ hK (va_recv hK.1 hXo (ci := 6) (q0 := 0) rfl rfl) hl.1 rfl (Nat.le_of_ble_eq_true rfl) dX6_pixel_2 ⟨Nat.le_of_ble_eq_true rfl, Nat.le_of_ble_eq_true rfl⟩) ?_
  refine z_bif_eq (tgt := 10) hx hb dX6_pixel_5 (by decide) (fun c1 => ?_) (fun c1 => ?_)
  · skip
    simp only [decide_eq_false_iff_not] at c1
    refine lv_iload_n hx hb dX6_pixel_10 rfl (lv_at hl 2 rfl) ?_
    refine lv_iload_n hx hb dX6_pixel_11 rfl (lv_at hl 3 rfl) ?_
    refine z_ro (zrS (As := [.int (zI r), .int (zI t)]) (rest := []) (Pw := fun _ => True) ⟨hx, hb, hml, hown, hts⟩ (c_X6_isNoPlaceInPart l G cs r t (by omega) (by omega)) gX6_pixel_X6_isNoPlaceInPart rfl qX6_isNoPlaceInPart rfl rfl ⟨Nat.le_of_ble_eq_true rfl, Nat.le_of_ble_eq_true rfl⟩ trivial hK hl.1 rfl (Nat.le_of_ble_eq_true rfl) dX6_pixel_12 ⟨Nat.le_of_ble_eq_true rfl, Nat.le_of_ble_eq_true rfl⟩) ?_
    refine z_bif_eq (tgt := 21) hx hb dX6_pixel_15 (by decide) (fun c2 => ?_) (fun c2 => ?_)
    · skip
      simp only [decide_eq_false_iff_not] at c2
      refine lv_aload_n hx hb dX6_pixel_21 rfl (lv_at hl 0 rfl) ?_
      refine va_get (D := G) (ci := 6) (v := .ref ((sh a 1) 0)) (C := RX6) (T := TX6) (N := 6) hx hb hts hi6 hown hK.1 hXo 0 rfl rfl 0 (by decide) (hts (.fieldLink RX6 10 "SpriteLines" "now" "LSpriteLines$State;") (by decide +kernel)) (fun _ h9 => h9) rfl dX6_pixel_22 ?_
      refine va_get (D := G) (ci := 4) (v := .ref ((sh a 1) 1)) (C := RX4) (T := TX4) (N := 9) hx hb hts hi4 hown hK.1 hPs 0 rfl rfl 4 (by decide) (hts (.fieldLink RX6 50 "SpriteLines$State" "sheet" "LSpriteLines$Sheet;") (by decide +kernel)) (fun _ h9 => h9) rfl dX6_pixel_25 ?_
      refine lv_iload_n hx hb dX6_pixel_28 rfl (lv_at hl 1 rfl) ?_
      refine z_iconst (n := 0) hx hb dX6_pixel_29 ?_
      refine lv_iload_n hx hb dX6_pixel_30 rfl (lv_at hl 2 rfl) ?_
      refine lv_iload_n hx hb dX6_pixel_31 rfl (lv_at hl 3 rfl) ?_
      refine z_ro (zrV (As := [.int (zI q), .int (zI 0), .int (zI r), .int (zI t)]) (rest := []) ⟨hx, hb, hml, hown, hts⟩ (c_X3_pixelAt l G cs (sh a 1) S q 0 r t wf0 (by omega) (by omega) (by omega) (by omega)) gX6_pixel_X3_pixelAt rfl qX3_pixelAt rfl rfl ⟨Nat.le_of_ble_eq_true rfl, Nat.le_of_ble_eq_true rfl⟩ hPs hK (va_recv hK.1 hPs (ci := 3) (q0 := 1) rfl rfl) hl.1 rfl (Nat.le_of_ble_eq_true rfl) dX6_pixel_32 ⟨Nat.le_of_ble_eq_true rfl, Nat.le_of_ble_eq_true rfl⟩) ?_
      exact w_iret hx hb hr hlk dX6_pixel_35 hS ⟨by unfold pixelF; rw [if_neg (show ¬ (¬ (0 ≤ q ∧ q < S 0 0)) by omega), if_neg (show ¬ (¬ ((0 ≤ r ∧ r < 8) ∧ (0 ≤ t ∧ t < 8))) by omega)], ⟨F, Fl, Pt, U, Q, N, T, lo, hi_, o, R, ⟨hTF, hT0⟩, ⟨ho, hRing⟩, hXo, hPs, hPv, hKp, hTx, hHi, hRg, hSn, hSw⟩⟩
    · skip
      simp only [decide_eq_true_eq] at c2
      refine z_bipush (n := -2) hx hb dX6_pixel_18 (by decide) ?_
      exact w_iret hx hb hr hlk dX6_pixel_20 hS ⟨by unfold pixelF; rw [if_neg (show ¬ (¬ (0 ≤ q ∧ q < S 0 0)) by omega), if_pos (show ¬ ((0 ≤ r ∧ r < 8) ∧ (0 ≤ t ∧ t < 8)) by omega)], ⟨F, Fl, Pt, U, Q, N, T, lo, hi_, o, R, ⟨hTF, hT0⟩, ⟨ho, hRing⟩, hXo, hPs, hPv, hKp, hTx, hHi, hRg, hSn, hSw⟩⟩
  · skip
    simp only [decide_eq_true_eq] at c1
    refine z_iconst (n := -1) hx hb dX6_pixel_8 ?_
    exact w_iret hx hb hr hlk dX6_pixel_9 hS ⟨by unfold pixelF; rw [if_pos (show ¬ (0 ≤ q ∧ q < S 0 0) by omega)], ⟨F, Fl, Pt, U, Q, N, T, lo, hi_, o, R, ⟨hTF, hT0⟩, ⟨ho, hRing⟩, hXo, hPs, hPv, hKp, hTx, hHi, hRg, hSn, hSw⟩⟩

set_option maxHeartbeats 4000000 in
set_option maxRecDepth 100000 in
theorem c_X6_alike (l : Launch) (G : va_G) (cs : Nat → ClassId) (a w : Nat → Nat) (S : SS) (n : Int) (L : Nat → SS) (tl : Int) (X : Int → Int) (k : Nat → Bool) (V : Nat → SS) (q t : Int) (ia : Inj a 62) (hsd : SnD a w k) (hA : AWF (S, (n, L), (tl, X), (k, V))) (r_q : -2147483648 ≤ q ∧ q < 2147483648) (r_t : -2147483648 ≤ t ∧ t < 2147483648) : MW l yX6_alike wsX6_alike { frames := 3, cells := 0, slots := 0, locals := 76 } G cs [.ref (a 0), .int (zI q), .int (zI t)] (fun H => XI G cs a w (S, (n, L), (tl, X), (k, V)) H) (fun vv H => vv = .int (zI (alikeF S q t)) ∧ XI G cs a w (S, (n, L), (tl, X), (k, V)) H) (AX a 0 62) 0 0 := by
  refine m_intro (Pw := (fun H => XI G cs a w (S, (n, L), (tl, X), (k, V)) H)) (cc := cX6_alike) (maxL := 3) (ret := some .int) RX6 (by decide) rfl rfl (Nat.le_of_ble_eq_true rfl) ?_
  intro pP eE sS mM below meth cC hx hb hr hts hown hml hlk hnm hPre hK ls hl
  have hl : lv_has ls 3 [(0, .ref (a 0)), (1, .int (zI q)), (2, .int (zI t))] := hl
  have hXI := hPre
  have hS : va_S (AX a 0 62) sS.heap sS.heap [] := va_S.rf
  have hi4 : ∀ w ∈ u_ws RX4 TX4 9, w ∈ wsX6_alike := by decide +kernel
  have hi6 : ∀ w ∈ u_ws RX6 TX6 6, w ∈ wsX6_alike := by decide +kernel
  obtain ⟨F, Fl, Pt, U, Q, N, T, lo, hi_, o, R, ⟨hTF, hT0⟩, ⟨ho, hRing⟩, hXo, hPs, hPv, hKp, hTx, hHi, hRg, hSn, hSw⟩ := hXI
  obtain ⟨wf, ⟨hn, hL9⟩, ⟨htl, hX⟩, hV9⟩ := hA
  have hT0 : T 0 = tl := hT0
  have hRing : ∀ i : Nat, (i : Int) < n → R ((o + i) % 5).toNat = L i := hRing
  have wf : WF S := wf
  have hn : 0 ≤ n ∧ n ≤ 5 := hn
  have htl : 0 ≤ tl ∧ tl ≤ 60 := htl
  have hX : ∀ j, 0 ≤ j → j < 60 → 0 ≤ X j ∧ X j < 65536 := hX
  have hXo : va_P G vwCl (xoW a) sS.heap := hXo
  have hPs : va_P G vwCl (stW cs (sh a 1) S) sS.heap := hPs
  have hPv : va_P G vwCl (viW cs (sh a 9) ((sh a 1) 0) (aI F) (cB Fl) (cB Pt)) sS.heap := hPv
  have hKp : va_P G vwCl (pkW cs (sh a 13) ((sh a 1) 0) (aI U) (aI Q) (aI N)) sS.heap := hKp
  have hTx : va_P G vwCl (txW cs (sh a 17) T lo hi_ X) sS.heap := hTx
  have hHi : va_P G vwCl (hiW cs (sh a 19) o n) sS.heap := hHi
  have hRg : ∀ i, i < 5 → va_P G vwCl (stW cs (sh a (21 + 8 * i)) (R i)) sS.heap := hRg
  have hSn : va_P G vwCl (snW cs (sh a 61) w k) sS.heap := hSn
  have hSw : ∀ i, i < 2 → k i = true → va_P G vwCl (stW cs (sh w (8 * i)) (V i)) sS.heap := hSw
  have wf0 := wf
  obtain ⟨w0, w1, w2, w3, w4, wP, wC, wS, wX⟩ := wf
  have ia1 := inj_sh (k := 1) (w := 8) ia (by decide)
  refine lv_aload_n hx hb dX6_alike_0 rfl (lv_at hl 0 rfl) ?_
  refine lv_iload_n hx hb dX6_alike_1 rfl (lv_at hl 1 rfl) ?_
  refine z_ro (zrV (As := [.int (zI q)]) (rest := []) (Pw := fun H => va_P G vwCl (xoW a) H ∧ va_P G vwCl (stW cs (sh a 1) S) H) ⟨hx, hb, hml, hown, hts⟩ (c_X6_isNoPart l G cs a S q wf0 (by omega)) gX6_alike_X6_isNoPart rfl qX6_isNoPart rfl rfl ⟨Nat.le_of_ble_eq_true rfl, Nat.le_of_ble_eq_true rfl⟩ ⟨hXo, hPs⟩ hK (va_recv hK.1 hXo (ci := 6) (q0 := 0) rfl rfl) hl.1 rfl (Nat.le_of_ble_eq_true rfl) dX6_alike_2 ⟨Nat.le_of_ble_eq_true rfl, Nat.le_of_ble_eq_true rfl⟩) ?_
  refine z_bif_ne (tgt := 16) hx hb dX6_alike_5 (by decide) (fun c1 => ?_) (fun c1 => ?_)
  · skip
    simp only [decide_eq_true_eq] at c1
    refine z_iconst (n := -1) hx hb dX6_alike_16 ?_
    exact w_iret hx hb hr hlk dX6_alike_17 hS ⟨by unfold alikeF; rw [if_pos (show ¬ ((0 ≤ q ∧ q < S 0 0) ∧ (0 ≤ t ∧ t < S 0 0)) by omega)], ⟨F, Fl, Pt, U, Q, N, T, lo, hi_, o, R, ⟨hTF, hT0⟩, ⟨ho, hRing⟩, hXo, hPs, hPv, hKp, hTx, hHi, hRg, hSn, hSw⟩⟩
  · skip
    simp only [decide_eq_false_iff_not] at c1
    refine lv_aload_n hx hb dX6_alike_8 rfl (lv_at hl 0 rfl) ?_
    refine lv_iload_n hx hb dX6_alike_9 rfl (lv_at hl 2 rfl) ?_
    refine z_ro (zrV (As := [.int (zI t)]) (rest := []) (Pw := fun H => va_P G vwCl (xoW a) H ∧ va_P G vwCl (stW cs (sh a 1) S) H) ⟨hx, hb, hml, hown, hts⟩ (c_X6_isNoPart l G cs a S t wf0 (by omega)) gX6_alike_X6_isNoPart rfl qX6_isNoPart rfl rfl ⟨Nat.le_of_ble_eq_true rfl, Nat.le_of_ble_eq_true rfl⟩ ⟨hXo, hPs⟩ hK (va_recv hK.1 hXo (ci := 6) (q0 := 0) rfl rfl) hl.1 rfl (Nat.le_of_ble_eq_true rfl) dX6_alike_10 ⟨Nat.le_of_ble_eq_true rfl, Nat.le_of_ble_eq_true rfl⟩) ?_
    refine z_bif_eq (tgt := 18) hx hb dX6_alike_13 (by decide) (fun c2 => ?_) (fun c2 => ?_)
    · skip
      simp only [decide_eq_false_iff_not] at c2
      refine lv_aload_n hx hb dX6_alike_18 rfl (lv_at hl 0 rfl) ?_
      refine va_get (D := G) (ci := 6) (v := .ref ((sh a 1) 0)) (C := RX6) (T := TX6) (N := 6) hx hb hts hi6 hown hK.1 hXo 0 rfl rfl 0 (by decide) (hts (.fieldLink RX6 10 "SpriteLines" "now" "LSpriteLines$State;") (by decide +kernel)) (fun _ h9 => h9) rfl dX6_alike_19 ?_
      refine va_get (D := G) (ci := 4) (v := .ref ((sh a 1) 1)) (C := RX4) (T := TX4) (N := 9) hx hb hts hi4 hown hK.1 hPs 0 rfl rfl 4 (by decide) (hts (.fieldLink RX6 50 "SpriteLines$State" "sheet" "LSpriteLines$Sheet;") (by decide +kernel)) (fun _ h9 => h9) rfl dX6_alike_22 ?_
      refine lv_iload_n hx hb dX6_alike_25 rfl (lv_at hl 1 rfl) ?_
      refine z_iconst (n := 0) hx hb dX6_alike_26 ?_
      refine lv_iload_n hx hb dX6_alike_27 rfl (lv_at hl 2 rfl) ?_
      refine z_ro (zrV (As := [.int (zI q), .int (zI 0), .int (zI t)]) (rest := []) ⟨hx, hb, hml, hown, hts⟩ (c_X3_wayToMatch l G cs (sh a 1) S q 0 t wX (by omega) (by omega) (by omega)) gX6_alike_X3_wayToMatch rfl qX3_wayToMatch rfl rfl ⟨Nat.le_of_ble_eq_true rfl, Nat.le_of_ble_eq_true rfl⟩ hPs hK (va_recv hK.1 hPs (ci := 3) (q0 := 1) rfl rfl) hl.1 rfl (Nat.le_of_ble_eq_true rfl) dX6_alike_28 ⟨Nat.le_of_ble_eq_true rfl, Nat.le_of_ble_eq_true rfl⟩) ?_
      exact w_iret hx hb hr hlk dX6_alike_31 hS ⟨by unfold alikeF; rw [if_neg (show ¬ (¬ ((0 ≤ q ∧ q < S 0 0) ∧ (0 ≤ t ∧ t < S 0 0))) by omega)], ⟨F, Fl, Pt, U, Q, N, T, lo, hi_, o, R, ⟨hTF, hT0⟩, ⟨ho, hRing⟩, hXo, hPs, hPv, hKp, hTx, hHi, hRg, hSn, hSw⟩⟩
    · skip
      simp only [decide_eq_true_eq] at c2
      refine z_iconst (n := -1) hx hb dX6_alike_16 ?_
      exact w_iret hx hb hr hlk dX6_alike_17 hS ⟨by unfold alikeF; rw [if_pos (show ¬ ((0 ≤ q ∧ q < S 0 0) ∧ (0 ≤ t ∧ t < S 0 0)) by omega)], ⟨F, Fl, Pt, U, Q, N, T, lo, hi_, o, R, ⟨hTF, hT0⟩, ⟨ho, hRing⟩, hXo, hPs, hPv, hKp, hTx, hHi, hRg, hSn, hSw⟩⟩

set_option maxHeartbeats 4000000 in
set_option maxRecDepth 100000 in
theorem c_X6_color (l : Launch) (G : va_G) (cs : Nat → ClassId) (a w : Nat → Nat) (S : SS) (n : Int) (L : Nat → SS) (tl : Int) (X : Int → Int) (k : Nat → Bool) (V : Nat → SS) (q r : Int) (ia : Inj a 62) (hsd : SnD a w k) (hA : AWF (S, (n, L), (tl, X), (k, V))) (r_q : -2147483648 ≤ q ∧ q < 2147483648) (r_r : -2147483648 ≤ r ∧ r < 2147483648) : MW l yX6_color wsX6_color { frames := 4, cells := 0, slots := 0, locals := 99 } G cs [.ref (a 0), .int (zI q), .int (zI r)] (fun H => XI G cs a w (S, (n, L), (tl, X), (k, V)) H) (fun vv H => vv = .int (zI (colorF S q r)) ∧ XI G cs a w (S, (n, L), (tl, X), (k, V)) H) (AX a 0 62) 0 0 := by
  refine m_intro (Pw := (fun H => XI G cs a w (S, (n, L), (tl, X), (k, V)) H)) (cc := cX6_color) (maxL := 3) (ret := some .int) RX6 (by decide) rfl rfl (Nat.le_of_ble_eq_true rfl) ?_
  intro pP eE sS mM below meth cC hx hb hr hts hown hml hlk hnm hPre hK ls hl
  have hl : lv_has ls 3 [(0, .ref (a 0)), (1, .int (zI q)), (2, .int (zI r))] := hl
  have hXI := hPre
  have hS : va_S (AX a 0 62) sS.heap sS.heap [] := va_S.rf
  have hi4 : ∀ w ∈ u_ws RX4 TX4 9, w ∈ wsX6_color := by decide +kernel
  have hi6 : ∀ w ∈ u_ws RX6 TX6 6, w ∈ wsX6_color := by decide +kernel
  obtain ⟨F, Fl, Pt, U, Q, N, T, lo, hi_, o, R, ⟨hTF, hT0⟩, ⟨ho, hRing⟩, hXo, hPs, hPv, hKp, hTx, hHi, hRg, hSn, hSw⟩ := hXI
  obtain ⟨wf, ⟨hn, hL9⟩, ⟨htl, hX⟩, hV9⟩ := hA
  have hT0 : T 0 = tl := hT0
  have hRing : ∀ i : Nat, (i : Int) < n → R ((o + i) % 5).toNat = L i := hRing
  have wf : WF S := wf
  have hn : 0 ≤ n ∧ n ≤ 5 := hn
  have htl : 0 ≤ tl ∧ tl ≤ 60 := htl
  have hX : ∀ j, 0 ≤ j → j < 60 → 0 ≤ X j ∧ X j < 65536 := hX
  have hXo : va_P G vwCl (xoW a) sS.heap := hXo
  have hPs : va_P G vwCl (stW cs (sh a 1) S) sS.heap := hPs
  have hPv : va_P G vwCl (viW cs (sh a 9) ((sh a 1) 0) (aI F) (cB Fl) (cB Pt)) sS.heap := hPv
  have hKp : va_P G vwCl (pkW cs (sh a 13) ((sh a 1) 0) (aI U) (aI Q) (aI N)) sS.heap := hKp
  have hTx : va_P G vwCl (txW cs (sh a 17) T lo hi_ X) sS.heap := hTx
  have hHi : va_P G vwCl (hiW cs (sh a 19) o n) sS.heap := hHi
  have hRg : ∀ i, i < 5 → va_P G vwCl (stW cs (sh a (21 + 8 * i)) (R i)) sS.heap := hRg
  have hSn : va_P G vwCl (snW cs (sh a 61) w k) sS.heap := hSn
  have hSw : ∀ i, i < 2 → k i = true → va_P G vwCl (stW cs (sh w (8 * i)) (V i)) sS.heap := hSw
  have wf0 := wf
  obtain ⟨w0, w1, w2, w3, w4, wP, wC, wS, wX⟩ := wf
  have ia1 := inj_sh (k := 1) (w := 8) ia (by decide)
  refine lv_iload_n hx hb dX6_color_0 rfl (lv_at hl 1 rfl) ?_
  refine z_ro (zrS (As := [.int (zI q)]) (rest := []) (Pw := fun _ => True) ⟨hx, hb, hml, hown, hts⟩ (c_X6_isNoLine l G cs q (by omega)) gX6_color_X6_isNoLine rfl qX6_isNoLine rfl rfl ⟨Nat.le_of_ble_eq_true rfl, Nat.le_of_ble_eq_true rfl⟩ trivial hK hl.1 rfl (Nat.le_of_ble_eq_true rfl) dX6_color_1 ⟨Nat.le_of_ble_eq_true rfl, Nat.le_of_ble_eq_true rfl⟩) ?_
  refine z_bif_ne (tgt := 17) hx hb dX6_color_4 (by decide) (fun c1 => ?_) (fun c1 => ?_)
  · skip
    simp only [decide_eq_true_eq] at c1
    refine z_iconst (n := -1) hx hb dX6_color_17 ?_
    exact w_iret hx hb hr hlk dX6_color_18 hS ⟨by unfold colorF; rw [if_pos (show ¬ ((0 ≤ q ∧ q < 32) ∧ (0 ≤ r ∧ r < 32)) by omega)], ⟨F, Fl, Pt, U, Q, N, T, lo, hi_, o, R, ⟨hTF, hT0⟩, ⟨ho, hRing⟩, hXo, hPs, hPv, hKp, hTx, hHi, hRg, hSn, hSw⟩⟩
  · skip
    simp only [decide_eq_false_iff_not] at c1
    refine lv_iload_n hx hb dX6_color_7 rfl (lv_at hl 2 rfl) ?_
    refine z_if_lt (tgt := 17) hx hb dX6_color_8 (by decide) (by omega) (fun c1 => ?_) (fun c1 => ?_)
    · skip
      refine z_iconst (n := -1) hx hb dX6_color_17 ?_
      exact w_iret hx hb hr hlk dX6_color_18 hS ⟨by unfold colorF; rw [if_pos (show ¬ ((0 ≤ q ∧ q < 32) ∧ (0 ≤ r ∧ r < 32)) by omega)], ⟨F, Fl, Pt, U, Q, N, T, lo, hi_, o, R, ⟨hTF, hT0⟩, ⟨ho, hRing⟩, hXo, hPs, hPv, hKp, hTx, hHi, hRg, hSn, hSw⟩⟩
    · skip
      refine lv_iload_n hx hb dX6_color_11 rfl (lv_at hl 2 rfl) ?_
      refine z_bipush (n := 32) hx hb dX6_color_12 (by decide) ?_
      refine z_icmp_lt (tgt := 19) hx hb dX6_color_14 (by decide) (by omega) (by omega) (fun c2 => ?_) (fun c2 => ?_)
      · skip
        refine lv_aload_n hx hb dX6_color_19 rfl (lv_at hl 0 rfl) ?_
        refine va_get (D := G) (ci := 6) (v := .ref ((sh a 9) 0)) (C := RX6) (T := TX6) (N := 6) hx hb hts hi6 hown hK.1 hXo 0 rfl rfl 1 (by decide) (hts (.fieldLink RX6 21 "SpriteLines" "view" "LSpriteLines$View;") (by decide +kernel)) (fun _ h9 => h9) rfl dX6_color_20 ?_
        refine lv_iload_n hx hb dX6_color_23 rfl (lv_at hl 1 rfl) ?_
        refine lv_iload_n hx hb dX6_color_24 rfl (lv_at hl 2 rfl) ?_
        refine lv_aload_n hx hb dX6_color_25 rfl (lv_at hl 0 rfl) ?_
        refine va_get (D := G) (ci := 6) (v := .ref ((sh a 9) 0)) (C := RX6) (T := TX6) (N := 6) hx hb hts hi6 hown hK.1 hXo 0 rfl rfl 1 (by decide) (hts (.fieldLink RX6 21 "SpriteLines" "view" "LSpriteLines$View;") (by decide +kernel)) (fun _ h9 => h9) rfl dX6_color_26 ?_
        refine lv_iload_n hx hb dX6_color_29 rfl (lv_at hl 1 rfl) ?_
        refine lv_aload_n hx hb dX6_color_30 rfl (lv_at hl 0 rfl) ?_
        refine va_get (D := G) (ci := 6) (v := .ref ((sh a 1) 0)) (C := RX6) (T := TX6) (N := 6) hx hb hts hi6 hown hK.1 hXo 0 rfl rfl 0 (by decide) (hts (.fieldLink RX6 10 "SpriteLines" "now" "LSpriteLines$State;") (by decide +kernel)) (fun _ h9 => h9) rfl dX6_color_31 ?_
        refine va_get (D := G) (ci := 4) (v := .int (zI (S 0 4))) (C := RX4) (T := TX4) (N := 9) hx hb hts hi4 hown hK.1 hPs 0 rfl rfl 0 (by decide) (hts (.fieldLink RX6 163 "SpriteLines$State" "frame" "I") (by decide +kernel)) (fun _ h9 => h9) rfl dX6_color_34 ?_
        refine z_w (zrV (As := [.int (zI q), .int (zI (S 0 4))]) (rest := [.int (zI r), .int (zI q), .ref ((sh a 9) 0)]) (Pw := fun H => va_P G vwCl (stW cs (sh a 1) S) H ∧ va_P G vwCl (viW cs (sh a 9) ((sh a 1) 0) (aI F) (cB Fl) (cB Pt)) H) ⟨hx, hb, hml, hown, hts⟩ (c_X5_shownSet l G cs a S F (cB Fl) (cB Pt) q (S 0 4) ia wf0 (by omega) (by omega)) gX6_color_X5_shownSet rfl qX5_shownSet rfl rfl ⟨Nat.le_of_ble_eq_true rfl, Nat.le_of_ble_eq_true rfl⟩ ⟨hPs, hPv⟩ hK (va_recv hK.1 hPv (ci := 5) (q0 := 0) rfl rfl) hl.1 rfl (Nat.le_of_ble_eq_true rfl) dX6_color_37 ⟨Nat.le_of_ble_eq_true rfl, Nat.le_of_ble_eq_true rfl⟩) hS (fun q h => ax_mono h (by decide) (by decide)) (fun q h => ax_mono h (by decide) (by decide)) (fun v H locs hpost hle hk hS => ?_)
        obtain ⟨F, rfl, hPv'⟩ := hpost
        have hXo := keepO (ordXo a) hXo hk (fun j hj ⟨i, h1, h2, h3⟩ => absurd (ia j i (by omega) (by omega) h3) (by omega))
        have hPs := keepO (ordSt cs (sh a 1) S) hPs hk (fun j hj ⟨i, h1, h2, h3⟩ => absurd (ia (1 + j) i (by omega) (by omega) h3) (by omega))
        have hKp := keepO (ordPk cs (sh a 13) ((sh a 1) 0) (aI U) (aI Q) (aI N)) hKp hk (fun j hj ⟨i, h1, h2, h3⟩ => absurd (ia (13 + j) i (by omega) (by omega) h3) (by omega))
        have hTx := keepO (ordTx cs (sh a 17) T lo hi_ X) hTx hk (fun j hj ⟨i, h1, h2, h3⟩ => absurd (ia (17 + j) i (by omega) (by omega) h3) (by omega))
        have hHi := keepO (ordHi cs (sh a 19) o n) hHi hk (fun j hj ⟨i, h1, h2, h3⟩ => absurd (ia (19 + j) i (by omega) (by omega) h3) (by omega))
        have hRg : ∀ i, i < 5 → va_P G vwCl (stW cs (sh a (21 + 8 * i)) (R i)) H := fun i hi => keepO (ordSt _ _ _) (hRg i hi) hk (fun j hj ⟨i', h1, h2, h3⟩ => absurd (ia (21 + 8 * i + j) i' (by omega) (by omega) h3) (by omega))
        have hSn := keepO (ordSn cs (sh a 61) w k) hSn hk (fun j hj ⟨i, h1, h2, h3⟩ => absurd (ia (61 + j) i (by omega) (by omega) h3) (by omega))
        have hSw : ∀ i, i < 2 → k i = true → va_P G vwCl (stW cs (sh w (8 * i)) (V i)) H := fun i hi hk9 => keepO (ordSt _ _ _) (hSw i hi hk9) hk (fun j hj ⟨i', h1, h2, h3⟩ => absurd h3.symm (hsd.1 i' i j (by omega) hi hj hk9))
        have hPv : va_P G vwCl (viW cs (sh a 9) ((sh a 1) 0) (aI F) (cB Fl) (cB Pt)) H := hPv'
        refine z_ro (zrV (As := [.int (zI q), .int (zI r), .int (iB (fun k => decide ((k : Int) < S 0 1) && shownB S q (S 0 4) k))]) (rest := []) (Pw := fun H => va_P G vwCl (stW cs (sh a 1) S) H ∧ va_P G vwCl (viW cs (sh a 9) ((sh a 1) 0) (aI F) (cB Fl) (cB Pt)) H) ⟨hx, hb, hml, hown, hts⟩ (c_X5_colorAt l G cs a S F (cB Fl) (cB Pt) q r (S 0 4) (fun k => decide ((k : Int) < S 0 1) && shownB S q (S 0 4) k) wf0 (by omega) (by omega) (fun z h1 h2 => bits_sh h1 h2)) gX6_color_X5_colorAt rfl qX5_colorAt rfl rfl ⟨Nat.le_of_ble_eq_true rfl, Nat.le_of_ble_eq_true rfl⟩ ⟨hPs, hPv⟩ hK (va_recv hK.1 hPv (ci := 5) (q0 := 0) rfl rfl) hl.1 rfl (Nat.le_of_ble_eq_true rfl) dX6_color_40 ⟨Nat.le_of_ble_eq_true rfl, Nat.le_of_ble_eq_true rfl⟩) ?_
        exact w_iret hx hb hr hlk dX6_color_43 hS ⟨by unfold colorF; rw [if_neg (show ¬ (¬ ((0 ≤ q ∧ q < 32) ∧ (0 ≤ r ∧ r < 32))) by omega)], ⟨F, Fl, Pt, U, Q, N, T, lo, hi_, o, R, ⟨hTF, hT0⟩, ⟨ho, hRing⟩, hXo, hPs, hPv, hKp, hTx, hHi, hRg, hSn, hSw⟩⟩
      · skip
        refine z_iconst (n := -1) hx hb dX6_color_17 ?_
        exact w_iret hx hb hr hlk dX6_color_18 hS ⟨by unfold colorF; rw [if_pos (show ¬ ((0 ≤ q ∧ q < 32) ∧ (0 ≤ r ∧ r < 32)) by omega)], ⟨F, Fl, Pt, U, Q, N, T, lo, hi_, o, R, ⟨hTF, hT0⟩, ⟨ho, hRing⟩, hXo, hPs, hPv, hKp, hTx, hHi, hRg, hSn, hSw⟩⟩

set_option maxHeartbeats 4000000 in
set_option maxRecDepth 100000 in
theorem c_X6_sprite (l : Launch) (G : va_G) (cs : Nat → ClassId) (a w : Nat → Nat) (S : SS) (n : Int) (L : Nat → SS) (tl : Int) (X : Int → Int) (k : Nat → Bool) (V : Nat → SS) (z t : Int) (ia : Inj a 62) (hsd : SnD a w k) (hA : AWF (S, (n, L), (tl, X), (k, V))) (r_z : -2147483648 ≤ z ∧ z < 2147483648) (r_t : -2147483648 ≤ t ∧ t < 2147483648) : MW l yX6_sprite wsX6_sprite { frames := 6, cells := 0, slots := 0, locals := 143 } G cs [.ref (a 0), .int (zI z), .int (zI t)] (fun H => XI G cs a w (S, (n, L), (tl, X), (k, V)) H) (fun vv H => vv = .int (zI (spriteF S z t)) ∧ XI G cs a w (S, (n, L), (tl, X), (k, V)) H) (AX a 0 62) 0 0 := by
  refine m_intro (Pw := (fun H => XI G cs a w (S, (n, L), (tl, X), (k, V)) H)) (cc := cX6_sprite) (maxL := 3) (ret := some .int) RX6 (by decide) rfl rfl (Nat.le_of_ble_eq_true rfl) ?_
  intro pP eE sS mM below meth cC hx hb hr hts hown hml hlk hnm hPre hK ls hl
  have hl : lv_has ls 3 [(0, .ref (a 0)), (1, .int (zI z)), (2, .int (zI t))] := hl
  have hXI := hPre
  have hS : va_S (AX a 0 62) sS.heap sS.heap [] := va_S.rf
  have hi6 : ∀ w ∈ u_ws RX6 TX6 6, w ∈ wsX6_sprite := by decide +kernel
  obtain ⟨F, Fl, Pt, U, Q, N, T, lo, hi_, o, R, ⟨hTF, hT0⟩, ⟨ho, hRing⟩, hXo, hPs, hPv, hKp, hTx, hHi, hRg, hSn, hSw⟩ := hXI
  obtain ⟨wf, ⟨hn, hL9⟩, ⟨htl, hX⟩, hV9⟩ := hA
  have hT0 : T 0 = tl := hT0
  have hRing : ∀ i : Nat, (i : Int) < n → R ((o + i) % 5).toNat = L i := hRing
  have wf : WF S := wf
  have hn : 0 ≤ n ∧ n ≤ 5 := hn
  have htl : 0 ≤ tl ∧ tl ≤ 60 := htl
  have hX : ∀ j, 0 ≤ j → j < 60 → 0 ≤ X j ∧ X j < 65536 := hX
  have hXo : va_P G vwCl (xoW a) sS.heap := hXo
  have hPs : va_P G vwCl (stW cs (sh a 1) S) sS.heap := hPs
  have hPv : va_P G vwCl (viW cs (sh a 9) ((sh a 1) 0) (aI F) (cB Fl) (cB Pt)) sS.heap := hPv
  have hKp : va_P G vwCl (pkW cs (sh a 13) ((sh a 1) 0) (aI U) (aI Q) (aI N)) sS.heap := hKp
  have hTx : va_P G vwCl (txW cs (sh a 17) T lo hi_ X) sS.heap := hTx
  have hHi : va_P G vwCl (hiW cs (sh a 19) o n) sS.heap := hHi
  have hRg : ∀ i, i < 5 → va_P G vwCl (stW cs (sh a (21 + 8 * i)) (R i)) sS.heap := hRg
  have hSn : va_P G vwCl (snW cs (sh a 61) w k) sS.heap := hSn
  have hSw : ∀ i, i < 2 → k i = true → va_P G vwCl (stW cs (sh w (8 * i)) (V i)) sS.heap := hSw
  have wf0 := wf
  obtain ⟨w0, w1, w2, w3, w4, wP, wC, wS, wX⟩ := wf
  have ia1 := inj_sh (k := 1) (w := 8) ia (by decide)
  refine lv_aload_n hx hb dX6_sprite_0 rfl (lv_at hl 0 rfl) ?_
  refine lv_iload_n hx hb dX6_sprite_1 rfl (lv_at hl 1 rfl) ?_
  refine z_ro (zrV (As := [.int (zI z)]) (rest := []) (Pw := fun H => va_P G vwCl (xoW a) H ∧ va_P G vwCl (stW cs (sh a 1) S) H) ⟨hx, hb, hml, hown, hts⟩ (c_X6_isNoSprite l G cs a S z wf0 (by omega)) gX6_sprite_X6_isNoSprite rfl qX6_isNoSprite rfl rfl ⟨Nat.le_of_ble_eq_true rfl, Nat.le_of_ble_eq_true rfl⟩ ⟨hXo, hPs⟩ hK (va_recv hK.1 hXo (ci := 6) (q0 := 0) rfl rfl) hl.1 rfl (Nat.le_of_ble_eq_true rfl) dX6_sprite_2 ⟨Nat.le_of_ble_eq_true rfl, Nat.le_of_ble_eq_true rfl⟩) ?_
  refine z_bif_eq (tgt := 10) hx hb dX6_sprite_5 (by decide) (fun c1 => ?_) (fun c1 => ?_)
  · skip
    simp only [decide_eq_false_iff_not] at c1
    refine lv_iload_n hx hb dX6_sprite_10 rfl (lv_at hl 2 rfl) ?_
    refine z_if_lt (tgt := 30) hx hb dX6_sprite_11 (by decide) (by omega) (fun c1 => ?_) (fun c1 => ?_)
    · skip
      refine lv_iload_n hx hb dX6_sprite_30 rfl (lv_at hl 2 rfl) ?_
      by_cases t2 : t = 6
      · refine z_tableIn (j := 6) (off := 25) (tgt := 56) hx hb dX6_sprite_31 t2 (by decide) (by decide) (by decide) rfl (by decide) ?_
        refine lv_aload_n hx hb dX6_sprite_56 rfl (lv_at hl 0 rfl) ?_
        refine va_get (D := G) (ci := 6) (v := .ref ((sh a 9) 0)) (C := RX6) (T := TX6) (N := 6) hx hb hts hi6 hown hK.1 hXo 0 rfl rfl 1 (by decide) (hts (.fieldLink RX6 21 "SpriteLines" "view" "LSpriteLines$View;") (by decide +kernel)) (fun _ h9 => h9) rfl dX6_sprite_57 ?_
        refine lv_iload_n hx hb dX6_sprite_60 rfl (lv_at hl 1 rfl) ?_
        refine z_w (zrV (As := [.int (zI z)]) (rest := []) (Pw := fun H => va_P G vwCl (stW cs (sh a 1) S) H ∧ va_P G vwCl (viW cs (sh a 9) ((sh a 1) 0) (aI F) (cB Fl) (cB Pt)) H) ⟨hx, hb, hml, hown, hts⟩ (c_X5_linesShowing l G cs a S F (cB Fl) (cB Pt) z ia wf0 (by omega)) gX6_sprite_X5_linesShowing rfl qX5_linesShowing rfl rfl ⟨Nat.le_of_ble_eq_true rfl, Nat.le_of_ble_eq_true rfl⟩ ⟨hPs, hPv⟩ hK (va_recv hK.1 hPv (ci := 5) (q0 := 0) rfl rfl) hl.1 rfl (Nat.le_of_ble_eq_true rfl) dX6_sprite_61 ⟨Nat.le_of_ble_eq_true rfl, Nat.le_of_ble_eq_true rfl⟩) hS (fun q h => ax_mono h (by decide) (by decide)) (fun q h => ax_mono h (by decide) (by decide)) (fun v H locs hpost hle hk hS => ?_)
        obtain ⟨F, rfl, hPv'⟩ := hpost
        have hXo := keepO (ordXo a) hXo hk (fun j hj ⟨i, h1, h2, h3⟩ => absurd (ia j i (by omega) (by omega) h3) (by omega))
        have hPs := keepO (ordSt cs (sh a 1) S) hPs hk (fun j hj ⟨i, h1, h2, h3⟩ => absurd (ia (1 + j) i (by omega) (by omega) h3) (by omega))
        have hKp := keepO (ordPk cs (sh a 13) ((sh a 1) 0) (aI U) (aI Q) (aI N)) hKp hk (fun j hj ⟨i, h1, h2, h3⟩ => absurd (ia (13 + j) i (by omega) (by omega) h3) (by omega))
        have hTx := keepO (ordTx cs (sh a 17) T lo hi_ X) hTx hk (fun j hj ⟨i, h1, h2, h3⟩ => absurd (ia (17 + j) i (by omega) (by omega) h3) (by omega))
        have hHi := keepO (ordHi cs (sh a 19) o n) hHi hk (fun j hj ⟨i, h1, h2, h3⟩ => absurd (ia (19 + j) i (by omega) (by omega) h3) (by omega))
        have hRg : ∀ i, i < 5 → va_P G vwCl (stW cs (sh a (21 + 8 * i)) (R i)) H := fun i hi => keepO (ordSt _ _ _) (hRg i hi) hk (fun j hj ⟨i', h1, h2, h3⟩ => absurd (ia (21 + 8 * i + j) i' (by omega) (by omega) h3) (by omega))
        have hSn := keepO (ordSn cs (sh a 61) w k) hSn hk (fun j hj ⟨i, h1, h2, h3⟩ => absurd (ia (61 + j) i (by omega) (by omega) h3) (by omega))
        have hSw : ∀ i, i < 2 → k i = true → va_P G vwCl (stW cs (sh w (8 * i)) (V i)) H := fun i hi hk9 => keepO (ordSt _ _ _) (hSw i hi hk9) hk (fun j hj ⟨i', h1, h2, h3⟩ => absurd h3.symm (hsd.1 i' i j (by omega) hi hj hk9))
        have hPv : va_P G vwCl (viW cs (sh a 9) ((sh a 1) 0) (aI F) (cB Fl) (cB Pt)) H := hPv'
        exact w_iret hx hb hr hlk dX6_sprite_64 hS ⟨by unfold spriteF; rw [if_neg (show ¬ (¬ (0 ≤ z ∧ z < S 0 1)) by omega), if_neg (show ¬ (0 ≤ t ∧ t < 6) by omega), if_pos (show t = 6 by omega)], ⟨F, Fl, Pt, U, Q, N, T, lo, hi_, o, R, ⟨hTF, hT0⟩, ⟨ho, hRing⟩, hXo, hPs, hPv, hKp, hTx, hHi, hRg, hSn, hSw⟩⟩
      by_cases t3 : t = 7
      · refine z_tableIn (j := 7) (off := 34) (tgt := 65) hx hb dX6_sprite_31 t3 (by decide) (by decide) (by decide) rfl (by decide) ?_
        refine lv_aload_n hx hb dX6_sprite_65 rfl (lv_at hl 0 rfl) ?_
        refine va_get (D := G) (ci := 6) (v := .ref ((sh a 1) 0)) (C := RX6) (T := TX6) (N := 6) hx hb hts hi6 hown hK.1 hXo 0 rfl rfl 0 (by decide) (hts (.fieldLink RX6 10 "SpriteLines" "now" "LSpriteLines$State;") (by decide +kernel)) (fun _ h9 => h9) rfl dX6_sprite_66 ?_
        refine lv_iload_n hx hb dX6_sprite_69 rfl (lv_at hl 1 rfl) ?_
        refine z_ro (zrV (As := [.int (zI z)]) (rest := []) ⟨hx, hb, hml, hown, hts⟩ (c_X4_linesCovered l G cs (sh a 1) S z wf0 (by omega)) gX6_sprite_X4_linesCovered rfl qX4_linesCovered rfl rfl ⟨Nat.le_of_ble_eq_true rfl, Nat.le_of_ble_eq_true rfl⟩ hPs hK (va_recv hK.1 hPs (ci := 4) (q0 := 0) rfl rfl) hl.1 rfl (Nat.le_of_ble_eq_true rfl) dX6_sprite_70 ⟨Nat.le_of_ble_eq_true rfl, Nat.le_of_ble_eq_true rfl⟩) ?_
        exact w_iret hx hb hr hlk dX6_sprite_73 hS ⟨by unfold spriteF; rw [if_neg (show ¬ (¬ (0 ≤ z ∧ z < S 0 1)) by omega), if_neg (show ¬ (0 ≤ t ∧ t < 6) by omega), if_neg (show ¬ t = 6 by omega), if_pos (show t = 7 by omega)], ⟨F, Fl, Pt, U, Q, N, T, lo, hi_, o, R, ⟨hTF, hT0⟩, ⟨ho, hRing⟩, hXo, hPs, hPv, hKp, hTx, hHi, hRg, hSn, hSw⟩⟩
      by_cases t4 : t = 8
      · refine z_tableIn (j := 8) (off := 43) (tgt := 74) hx hb dX6_sprite_31 t4 (by decide) (by decide) (by decide) rfl (by decide) ?_
        refine lv_aload_n hx hb dX6_sprite_74 rfl (lv_at hl 0 rfl) ?_
        refine va_get (D := G) (ci := 6) (v := .ref ((sh a 9) 0)) (C := RX6) (T := TX6) (N := 6) hx hb hts hi6 hown hK.1 hXo 0 rfl rfl 1 (by decide) (hts (.fieldLink RX6 21 "SpriteLines" "view" "LSpriteLines$View;") (by decide +kernel)) (fun _ h9 => h9) rfl dX6_sprite_75 ?_
        refine lv_iload_n hx hb dX6_sprite_78 rfl (lv_at hl 1 rfl) ?_
        refine z_w (zrV (As := [.int (zI z)]) (rest := []) (Pw := fun H => va_P G vwCl (stW cs (sh a 1) S) H ∧ va_P G vwCl (viW cs (sh a 9) ((sh a 1) 0) (aI F) (cB Fl) (cB Pt)) H) ⟨hx, hb, hml, hown, hts⟩ (c_X5_partnersOf l G cs a S F Fl Pt z ia wf0 (by omega)) gX6_sprite_X5_partnersOf rfl qX5_partnersOf rfl rfl ⟨Nat.le_of_ble_eq_true rfl, Nat.le_of_ble_eq_true rfl⟩ ⟨hPs, hPv⟩ hK (va_recv hK.1 hPv (ci := 5) (q0 := 0) rfl rfl) hl.1 rfl (Nat.le_of_ble_eq_true rfl) dX6_sprite_79 ⟨Nat.le_of_ble_eq_true rfl, Nat.le_of_ble_eq_true rfl⟩) hS (fun q h => ax_mono h (by decide) (by decide)) (fun q h => ax_mono h (by decide) (by decide)) (fun v H locs hpost hle hk hS => ?_)
        obtain ⟨g, F, Fl2, P, rfl, hR, hPv'⟩ := hpost
        have hXo := keepO (ordXo a) hXo hk (fun j hj ⟨i, h1, h2, h3⟩ => absurd (ia j i (by omega) (by omega) h3) (by omega))
        have hPs := keepO (ordSt cs (sh a 1) S) hPs hk (fun j hj ⟨i, h1, h2, h3⟩ => absurd (ia (1 + j) i (by omega) (by omega) h3) (by omega))
        have hKp := keepO (ordPk cs (sh a 13) ((sh a 1) 0) (aI U) (aI Q) (aI N)) hKp hk (fun j hj ⟨i, h1, h2, h3⟩ => absurd (ia (13 + j) i (by omega) (by omega) h3) (by omega))
        have hTx := keepO (ordTx cs (sh a 17) T lo hi_ X) hTx hk (fun j hj ⟨i, h1, h2, h3⟩ => absurd (ia (17 + j) i (by omega) (by omega) h3) (by omega))
        have hHi := keepO (ordHi cs (sh a 19) o n) hHi hk (fun j hj ⟨i, h1, h2, h3⟩ => absurd (ia (19 + j) i (by omega) (by omega) h3) (by omega))
        have hRg : ∀ i, i < 5 → va_P G vwCl (stW cs (sh a (21 + 8 * i)) (R i)) H := fun i hi => keepO (ordSt _ _ _) (hRg i hi) hk (fun j hj ⟨i', h1, h2, h3⟩ => absurd (ia (21 + 8 * i + j) i' (by omega) (by omega) h3) (by omega))
        have hSn := keepO (ordSn cs (sh a 61) w k) hSn hk (fun j hj ⟨i, h1, h2, h3⟩ => absurd (ia (61 + j) i (by omega) (by omega) h3) (by omega))
        have hSw : ∀ i, i < 2 → k i = true → va_P G vwCl (stW cs (sh w (8 * i)) (V i)) H := fun i hi hk9 => keepO (ordSt _ _ _) (hSw i hi hk9) hk (fun j hj ⟨i', h1, h2, h3⟩ => absurd h3.symm (hsd.1 i' i j (by omega) hi hj hk9))
        have hPv : va_P G vwCl (viW cs (sh a 9) ((sh a 1) 0) (aI F) (cB Fl2) (cB P)) H := hPv'
        refine z_ro (zrSJ (As := [.int (iB g)]) (rest := []) (Pw := fun _ => True) ⟨hx, hb, hml, hown, hts⟩ (c_J6_bitCount_0f7a4 l G cs g) gX6_sprite_J6_bitCount_0f7a4 rfl qJ6_bitCount_0f7a4 rfl rfl ⟨Nat.le_of_ble_eq_true rfl, Nat.le_of_ble_eq_true rfl⟩ trivial hK hl.1 rfl (Nat.le_of_ble_eq_true rfl) dX6_sprite_82 ⟨Nat.le_of_ble_eq_true rfl, Nat.le_of_ble_eq_true rfl⟩) ?_
        refine z_topi (b := metF S (S 0 4) z) ((part_cnt w1 hR).trans (if_pos (by omega))) ?_
        exact w_iret hx hb hr hlk dX6_sprite_85 hS ⟨by unfold spriteF; rw [if_neg (show ¬ (¬ (0 ≤ z ∧ z < S 0 1)) by omega), if_neg (show ¬ (0 ≤ t ∧ t < 6) by omega), if_neg (show ¬ t = 6 by omega), if_neg (show ¬ t = 7 by omega), if_pos (show t = 8 by omega)], ⟨F, Fl2, P, U, Q, N, T, lo, hi_, o, R, ⟨hTF, hT0⟩, ⟨ho, hRing⟩, hXo, hPs, hPv, hKp, hTx, hHi, hRg, hSn, hSw⟩⟩
      refine z_tableOut (tgt := 86) hx hb dX6_sprite_31 (by omega) (by omega) (by decide) ?_
      refine z_bipush (n := -2) hx hb dX6_sprite_86 (by decide) ?_
      exact w_iret hx hb hr hlk dX6_sprite_88 hS ⟨by unfold spriteF; rw [if_neg (show ¬ (¬ (0 ≤ z ∧ z < S 0 1)) by omega), if_neg (show ¬ (0 ≤ t ∧ t < 6) by omega), if_neg (show ¬ t = 6 by omega), if_neg (show ¬ t = 7 by omega), if_neg (show ¬ t = 8 by omega)], ⟨F, Fl, Pt, U, Q, N, T, lo, hi_, o, R, ⟨hTF, hT0⟩, ⟨ho, hRing⟩, hXo, hPs, hPv, hKp, hTx, hHi, hRg, hSn, hSw⟩⟩
    · skip
      refine lv_iload_n hx hb dX6_sprite_14 rfl (lv_at hl 2 rfl) ?_
      refine z_bipush (n := 6) hx hb dX6_sprite_15 (by decide) ?_
      refine z_icmp_ge (tgt := 30) hx hb dX6_sprite_17 (by decide) (by omega) (by omega) (fun c5 => ?_) (fun c5 => ?_)
      · skip
        refine lv_iload_n hx hb dX6_sprite_30 rfl (lv_at hl 2 rfl) ?_
        by_cases t6 : t = 6
        · refine z_tableIn (j := 6) (off := 25) (tgt := 56) hx hb dX6_sprite_31 t6 (by decide) (by decide) (by decide) rfl (by decide) ?_
          refine lv_aload_n hx hb dX6_sprite_56 rfl (lv_at hl 0 rfl) ?_
          refine va_get (D := G) (ci := 6) (v := .ref ((sh a 9) 0)) (C := RX6) (T := TX6) (N := 6) hx hb hts hi6 hown hK.1 hXo 0 rfl rfl 1 (by decide) (hts (.fieldLink RX6 21 "SpriteLines" "view" "LSpriteLines$View;") (by decide +kernel)) (fun _ h9 => h9) rfl dX6_sprite_57 ?_
          refine lv_iload_n hx hb dX6_sprite_60 rfl (lv_at hl 1 rfl) ?_
          refine z_w (zrV (As := [.int (zI z)]) (rest := []) (Pw := fun H => va_P G vwCl (stW cs (sh a 1) S) H ∧ va_P G vwCl (viW cs (sh a 9) ((sh a 1) 0) (aI F) (cB Fl) (cB Pt)) H) ⟨hx, hb, hml, hown, hts⟩ (c_X5_linesShowing l G cs a S F (cB Fl) (cB Pt) z ia wf0 (by omega)) gX6_sprite_X5_linesShowing rfl qX5_linesShowing rfl rfl ⟨Nat.le_of_ble_eq_true rfl, Nat.le_of_ble_eq_true rfl⟩ ⟨hPs, hPv⟩ hK (va_recv hK.1 hPv (ci := 5) (q0 := 0) rfl rfl) hl.1 rfl (Nat.le_of_ble_eq_true rfl) dX6_sprite_61 ⟨Nat.le_of_ble_eq_true rfl, Nat.le_of_ble_eq_true rfl⟩) hS (fun q h => ax_mono h (by decide) (by decide)) (fun q h => ax_mono h (by decide) (by decide)) (fun v H locs hpost hle hk hS => ?_)
          obtain ⟨F, rfl, hPv'⟩ := hpost
          have hXo := keepO (ordXo a) hXo hk (fun j hj ⟨i, h1, h2, h3⟩ => absurd (ia j i (by omega) (by omega) h3) (by omega))
          have hPs := keepO (ordSt cs (sh a 1) S) hPs hk (fun j hj ⟨i, h1, h2, h3⟩ => absurd (ia (1 + j) i (by omega) (by omega) h3) (by omega))
          have hKp := keepO (ordPk cs (sh a 13) ((sh a 1) 0) (aI U) (aI Q) (aI N)) hKp hk (fun j hj ⟨i, h1, h2, h3⟩ => absurd (ia (13 + j) i (by omega) (by omega) h3) (by omega))
          have hTx := keepO (ordTx cs (sh a 17) T lo hi_ X) hTx hk (fun j hj ⟨i, h1, h2, h3⟩ => absurd (ia (17 + j) i (by omega) (by omega) h3) (by omega))
          have hHi := keepO (ordHi cs (sh a 19) o n) hHi hk (fun j hj ⟨i, h1, h2, h3⟩ => absurd (ia (19 + j) i (by omega) (by omega) h3) (by omega))
          have hRg : ∀ i, i < 5 → va_P G vwCl (stW cs (sh a (21 + 8 * i)) (R i)) H := fun i hi => keepO (ordSt _ _ _) (hRg i hi) hk (fun j hj ⟨i', h1, h2, h3⟩ => absurd (ia (21 + 8 * i + j) i' (by omega) (by omega) h3) (by omega))
          have hSn := keepO (ordSn cs (sh a 61) w k) hSn hk (fun j hj ⟨i, h1, h2, h3⟩ => absurd (ia (61 + j) i (by omega) (by omega) h3) (by omega))
          have hSw : ∀ i, i < 2 → k i = true → va_P G vwCl (stW cs (sh w (8 * i)) (V i)) H := fun i hi hk9 => keepO (ordSt _ _ _) (hSw i hi hk9) hk (fun j hj ⟨i', h1, h2, h3⟩ => absurd h3.symm (hsd.1 i' i j (by omega) hi hj hk9))
          have hPv : va_P G vwCl (viW cs (sh a 9) ((sh a 1) 0) (aI F) (cB Fl) (cB Pt)) H := hPv'
          exact w_iret hx hb hr hlk dX6_sprite_64 hS ⟨by unfold spriteF; rw [if_neg (show ¬ (¬ (0 ≤ z ∧ z < S 0 1)) by omega), if_neg (show ¬ (0 ≤ t ∧ t < 6) by omega), if_pos (show t = 6 by omega)], ⟨F, Fl, Pt, U, Q, N, T, lo, hi_, o, R, ⟨hTF, hT0⟩, ⟨ho, hRing⟩, hXo, hPs, hPv, hKp, hTx, hHi, hRg, hSn, hSw⟩⟩
        by_cases t7 : t = 7
        · refine z_tableIn (j := 7) (off := 34) (tgt := 65) hx hb dX6_sprite_31 t7 (by decide) (by decide) (by decide) rfl (by decide) ?_
          refine lv_aload_n hx hb dX6_sprite_65 rfl (lv_at hl 0 rfl) ?_
          refine va_get (D := G) (ci := 6) (v := .ref ((sh a 1) 0)) (C := RX6) (T := TX6) (N := 6) hx hb hts hi6 hown hK.1 hXo 0 rfl rfl 0 (by decide) (hts (.fieldLink RX6 10 "SpriteLines" "now" "LSpriteLines$State;") (by decide +kernel)) (fun _ h9 => h9) rfl dX6_sprite_66 ?_
          refine lv_iload_n hx hb dX6_sprite_69 rfl (lv_at hl 1 rfl) ?_
          refine z_ro (zrV (As := [.int (zI z)]) (rest := []) ⟨hx, hb, hml, hown, hts⟩ (c_X4_linesCovered l G cs (sh a 1) S z wf0 (by omega)) gX6_sprite_X4_linesCovered rfl qX4_linesCovered rfl rfl ⟨Nat.le_of_ble_eq_true rfl, Nat.le_of_ble_eq_true rfl⟩ hPs hK (va_recv hK.1 hPs (ci := 4) (q0 := 0) rfl rfl) hl.1 rfl (Nat.le_of_ble_eq_true rfl) dX6_sprite_70 ⟨Nat.le_of_ble_eq_true rfl, Nat.le_of_ble_eq_true rfl⟩) ?_
          exact w_iret hx hb hr hlk dX6_sprite_73 hS ⟨by unfold spriteF; rw [if_neg (show ¬ (¬ (0 ≤ z ∧ z < S 0 1)) by omega), if_neg (show ¬ (0 ≤ t ∧ t < 6) by omega), if_neg (show ¬ t = 6 by omega), if_pos (show t = 7 by omega)], ⟨F, Fl, Pt, U, Q, N, T, lo, hi_, o, R, ⟨hTF, hT0⟩, ⟨ho, hRing⟩, hXo, hPs, hPv, hKp, hTx, hHi, hRg, hSn, hSw⟩⟩
        by_cases t8 : t = 8
        · refine z_tableIn (j := 8) (off := 43) (tgt := 74) hx hb dX6_sprite_31 t8 (by decide) (by decide) (by decide) rfl (by decide) ?_
          refine lv_aload_n hx hb dX6_sprite_74 rfl (lv_at hl 0 rfl) ?_
          refine va_get (D := G) (ci := 6) (v := .ref ((sh a 9) 0)) (C := RX6) (T := TX6) (N := 6) hx hb hts hi6 hown hK.1 hXo 0 rfl rfl 1 (by decide) (hts (.fieldLink RX6 21 "SpriteLines" "view" "LSpriteLines$View;") (by decide +kernel)) (fun _ h9 => h9) rfl dX6_sprite_75 ?_
          refine lv_iload_n hx hb dX6_sprite_78 rfl (lv_at hl 1 rfl) ?_
          refine z_w (zrV (As := [.int (zI z)]) (rest := []) (Pw := fun H => va_P G vwCl (stW cs (sh a 1) S) H ∧ va_P G vwCl (viW cs (sh a 9) ((sh a 1) 0) (aI F) (cB Fl) (cB Pt)) H) ⟨hx, hb, hml, hown, hts⟩ (c_X5_partnersOf l G cs a S F Fl Pt z ia wf0 (by omega)) gX6_sprite_X5_partnersOf rfl qX5_partnersOf rfl rfl ⟨Nat.le_of_ble_eq_true rfl, Nat.le_of_ble_eq_true rfl⟩ ⟨hPs, hPv⟩ hK (va_recv hK.1 hPv (ci := 5) (q0 := 0) rfl rfl) hl.1 rfl (Nat.le_of_ble_eq_true rfl) dX6_sprite_79 ⟨Nat.le_of_ble_eq_true rfl, Nat.le_of_ble_eq_true rfl⟩) hS (fun q h => ax_mono h (by decide) (by decide)) (fun q h => ax_mono h (by decide) (by decide)) (fun v H locs hpost hle hk hS => ?_)
          obtain ⟨g, F, Fl2, P, rfl, hR, hPv'⟩ := hpost
          have hXo := keepO (ordXo a) hXo hk (fun j hj ⟨i, h1, h2, h3⟩ => absurd (ia j i (by omega) (by omega) h3) (by omega))
          have hPs := keepO (ordSt cs (sh a 1) S) hPs hk (fun j hj ⟨i, h1, h2, h3⟩ => absurd (ia (1 + j) i (by omega) (by omega) h3) (by omega))
          have hKp := keepO (ordPk cs (sh a 13) ((sh a 1) 0) (aI U) (aI Q) (aI N)) hKp hk (fun j hj ⟨i, h1, h2, h3⟩ => absurd (ia (13 + j) i (by omega) (by omega) h3) (by omega))
          have hTx := keepO (ordTx cs (sh a 17) T lo hi_ X) hTx hk (fun j hj ⟨i, h1, h2, h3⟩ => absurd (ia (17 + j) i (by omega) (by omega) h3) (by omega))
          have hHi := keepO (ordHi cs (sh a 19) o n) hHi hk (fun j hj ⟨i, h1, h2, h3⟩ => absurd (ia (19 + j) i (by omega) (by omega) h3) (by omega))
          have hRg : ∀ i, i < 5 → va_P G vwCl (stW cs (sh a (21 + 8 * i)) (R i)) H := fun i hi => keepO (ordSt _ _ _) (hRg i hi) hk (fun j hj ⟨i', h1, h2, h3⟩ => absurd (ia (21 + 8 * i + j) i' (by omega) (by omega) h3) (by omega))
          have hSn := keepO (ordSn cs (sh a 61) w k) hSn hk (fun j hj ⟨i, h1, h2, h3⟩ => absurd (ia (61 + j) i (by omega) (by omega) h3) (by omega))
          have hSw : ∀ i, i < 2 → k i = true → va_P G vwCl (stW cs (sh w (8 * i)) (V i)) H := fun i hi hk9 => keepO (ordSt _ _ _) (hSw i hi hk9) hk (fun j hj ⟨i', h1, h2, h3⟩ => absurd h3.symm (hsd.1 i' i j (by omega) hi hj hk9))
          have hPv : va_P G vwCl (viW cs (sh a 9) ((sh a 1) 0) (aI F) (cB Fl2) (cB P)) H := hPv'
          refine z_ro (zrSJ (As := [.int (iB g)]) (rest := []) (Pw := fun _ => True) ⟨hx, hb, hml, hown, hts⟩ (c_J6_bitCount_0f7a4 l G cs g) gX6_sprite_J6_bitCount_0f7a4 rfl qJ6_bitCount_0f7a4 rfl rfl ⟨Nat.le_of_ble_eq_true rfl, Nat.le_of_ble_eq_true rfl⟩ trivial hK hl.1 rfl (Nat.le_of_ble_eq_true rfl) dX6_sprite_82 ⟨Nat.le_of_ble_eq_true rfl, Nat.le_of_ble_eq_true rfl⟩) ?_
          refine z_topi (b := metF S (S 0 4) z) ((part_cnt w1 hR).trans (if_pos (by omega))) ?_
          exact w_iret hx hb hr hlk dX6_sprite_85 hS ⟨by unfold spriteF; rw [if_neg (show ¬ (¬ (0 ≤ z ∧ z < S 0 1)) by omega), if_neg (show ¬ (0 ≤ t ∧ t < 6) by omega), if_neg (show ¬ t = 6 by omega), if_neg (show ¬ t = 7 by omega), if_pos (show t = 8 by omega)], ⟨F, Fl2, P, U, Q, N, T, lo, hi_, o, R, ⟨hTF, hT0⟩, ⟨ho, hRing⟩, hXo, hPs, hPv, hKp, hTx, hHi, hRg, hSn, hSw⟩⟩
        refine z_tableOut (tgt := 86) hx hb dX6_sprite_31 (by omega) (by omega) (by decide) ?_
        refine z_bipush (n := -2) hx hb dX6_sprite_86 (by decide) ?_
        exact w_iret hx hb hr hlk dX6_sprite_88 hS ⟨by unfold spriteF; rw [if_neg (show ¬ (¬ (0 ≤ z ∧ z < S 0 1)) by omega), if_neg (show ¬ (0 ≤ t ∧ t < 6) by omega), if_neg (show ¬ t = 6 by omega), if_neg (show ¬ t = 7 by omega), if_neg (show ¬ t = 8 by omega)], ⟨F, Fl, Pt, U, Q, N, T, lo, hi_, o, R, ⟨hTF, hT0⟩, ⟨ho, hRing⟩, hXo, hPs, hPv, hKp, hTx, hHi, hRg, hSn, hSw⟩⟩
      · skip
        refine lv_aload_n hx hb dX6_sprite_20 rfl (lv_at hl 0 rfl) ?_
        refine va_get (D := G) (ci := 6) (v := .ref ((sh a 1) 0)) (C := RX6) (T := TX6) (N := 6) hx hb hts hi6 hown hK.1 hXo 0 rfl rfl 0 (by decide) (hts (.fieldLink RX6 10 "SpriteLines" "now" "LSpriteLines$State;") (by decide +kernel)) (fun _ h9 => h9) rfl dX6_sprite_21 ?_
        refine lv_iload_n hx hb dX6_sprite_24 rfl (lv_at hl 1 rfl) ?_
        refine lv_iload_n hx hb dX6_sprite_25 rfl (lv_at hl 2 rfl) ?_
        refine z_ro (zrV (As := [.int (zI z), .int (zI t)]) (rest := []) ⟨hx, hb, hml, hown, hts⟩ (c_X4_property l G cs (sh a 1) S z t (by omega) (by omega)) gX6_sprite_X4_property rfl qX4_property rfl rfl ⟨Nat.le_of_ble_eq_true rfl, Nat.le_of_ble_eq_true rfl⟩ hPs hK (va_recv hK.1 hPs (ci := 4) (q0 := 0) rfl rfl) hl.1 rfl (Nat.le_of_ble_eq_true rfl) dX6_sprite_26 ⟨Nat.le_of_ble_eq_true rfl, Nat.le_of_ble_eq_true rfl⟩) ?_
        exact w_iret hx hb hr hlk dX6_sprite_29 hS ⟨by unfold spriteF; rw [if_neg (show ¬ (¬ (0 ≤ z ∧ z < S 0 1)) by omega), if_pos (show 0 ≤ t ∧ t < 6 by omega)], ⟨F, Fl, Pt, U, Q, N, T, lo, hi_, o, R, ⟨hTF, hT0⟩, ⟨ho, hRing⟩, hXo, hPs, hPv, hKp, hTx, hHi, hRg, hSn, hSw⟩⟩
  · skip
    simp only [decide_eq_true_eq] at c1
    refine z_iconst (n := -1) hx hb dX6_sprite_8 ?_
    exact w_iret hx hb hr hlk dX6_sprite_9 hS ⟨by unfold spriteF; rw [if_pos (show ¬ (0 ≤ z ∧ z < S 0 1) by omega)], ⟨F, Fl, Pt, U, Q, N, T, lo, hi_, o, R, ⟨hTF, hT0⟩, ⟨ho, hRing⟩, hXo, hPs, hPv, hKp, hTx, hHi, hRg, hSn, hSw⟩⟩

set_option maxHeartbeats 4000000 in
set_option maxRecDepth 100000 in
theorem c_X6_line (l : Launch) (G : va_G) (cs : Nat → ClassId) (a w : Nat → Nat) (S : SS) (n : Int) (L : Nat → SS) (tl : Int) (X : Int → Int) (k : Nat → Bool) (V : Nat → SS) (q t : Int) (ia : Inj a 62) (hsd : SnD a w k) (hA : AWF (S, (n, L), (tl, X), (k, V))) (r_q : -2147483648 ≤ q ∧ q < 2147483648) (r_t : -2147483648 ≤ t ∧ t < 2147483648) : MW l yX6_line wsX6_line { frames := 5, cells := 0, slots := 0, locals := 123 } G cs [.ref (a 0), .int (zI q), .int (zI t)] (fun H => XI G cs a w (S, (n, L), (tl, X), (k, V)) H) (fun vv H => vv = .int (zI (lineF S q t)) ∧ XI G cs a w (S, (n, L), (tl, X), (k, V)) H) (AX a 0 62) 0 0 := by
  refine m_intro (Pw := (fun H => XI G cs a w (S, (n, L), (tl, X), (k, V)) H)) (cc := cX6_line) (maxL := 3) (ret := some .int) RX6 (by decide) rfl rfl (Nat.le_of_ble_eq_true rfl) ?_
  intro pP eE sS mM below meth cC hx hb hr hts hown hml hlk hnm hPre hK ls hl
  have hl : lv_has ls 3 [(0, .ref (a 0)), (1, .int (zI q)), (2, .int (zI t))] := hl
  have hXI := hPre
  have hS : va_S (AX a 0 62) sS.heap sS.heap [] := va_S.rf
  have hi4 : ∀ w ∈ u_ws RX4 TX4 9, w ∈ wsX6_line := by decide +kernel
  have hi6 : ∀ w ∈ u_ws RX6 TX6 6, w ∈ wsX6_line := by decide +kernel
  obtain ⟨F, Fl, Pt, U, Q, N, T, lo, hi_, o, R, ⟨hTF, hT0⟩, ⟨ho, hRing⟩, hXo, hPs, hPv, hKp, hTx, hHi, hRg, hSn, hSw⟩ := hXI
  obtain ⟨wf, ⟨hn, hL9⟩, ⟨htl, hX⟩, hV9⟩ := hA
  have hT0 : T 0 = tl := hT0
  have hRing : ∀ i : Nat, (i : Int) < n → R ((o + i) % 5).toNat = L i := hRing
  have wf : WF S := wf
  have hn : 0 ≤ n ∧ n ≤ 5 := hn
  have htl : 0 ≤ tl ∧ tl ≤ 60 := htl
  have hX : ∀ j, 0 ≤ j → j < 60 → 0 ≤ X j ∧ X j < 65536 := hX
  have hXo : va_P G vwCl (xoW a) sS.heap := hXo
  have hPs : va_P G vwCl (stW cs (sh a 1) S) sS.heap := hPs
  have hPv : va_P G vwCl (viW cs (sh a 9) ((sh a 1) 0) (aI F) (cB Fl) (cB Pt)) sS.heap := hPv
  have hKp : va_P G vwCl (pkW cs (sh a 13) ((sh a 1) 0) (aI U) (aI Q) (aI N)) sS.heap := hKp
  have hTx : va_P G vwCl (txW cs (sh a 17) T lo hi_ X) sS.heap := hTx
  have hHi : va_P G vwCl (hiW cs (sh a 19) o n) sS.heap := hHi
  have hRg : ∀ i, i < 5 → va_P G vwCl (stW cs (sh a (21 + 8 * i)) (R i)) sS.heap := hRg
  have hSn : va_P G vwCl (snW cs (sh a 61) w k) sS.heap := hSn
  have hSw : ∀ i, i < 2 → k i = true → va_P G vwCl (stW cs (sh w (8 * i)) (V i)) sS.heap := hSw
  have wf0 := wf
  obtain ⟨w0, w1, w2, w3, w4, wP, wC, wS, wX⟩ := wf
  have ia1 := inj_sh (k := 1) (w := 8) ia (by decide)
  refine lv_iload_n hx hb dX6_line_0 rfl (lv_at hl 1 rfl) ?_
  refine z_ro (zrS (As := [.int (zI q)]) (rest := []) (Pw := fun _ => True) ⟨hx, hb, hml, hown, hts⟩ (c_X6_isNoLine l G cs q (by omega)) gX6_line_X6_isNoLine rfl qX6_isNoLine rfl rfl ⟨Nat.le_of_ble_eq_true rfl, Nat.le_of_ble_eq_true rfl⟩ trivial hK hl.1 rfl (Nat.le_of_ble_eq_true rfl) dX6_line_1 ⟨Nat.le_of_ble_eq_true rfl, Nat.le_of_ble_eq_true rfl⟩) ?_
  refine z_bif_eq (tgt := 9) hx hb dX6_line_4 (by decide) (fun c1 => ?_) (fun c1 => ?_)
  · skip
    simp only [decide_eq_false_iff_not] at c1
    refine lv_iload_n hx hb dX6_line_9 rfl (lv_at hl 2 rfl) ?_
    by_cases t1 : t = 0
    · refine z_tableIn (j := 0) (off := 34) (tgt := 44) hx hb dX6_line_10 t1 (by decide) (by decide) (by decide) rfl (by decide) ?_
      refine lv_aload_n hx hb dX6_line_44 rfl (lv_at hl 0 rfl) ?_
      refine va_get (D := G) (ci := 6) (v := .ref ((sh a 9) 0)) (C := RX6) (T := TX6) (N := 6) hx hb hts hi6 hown hK.1 hXo 0 rfl rfl 1 (by decide) (hts (.fieldLink RX6 21 "SpriteLines" "view" "LSpriteLines$View;") (by decide +kernel)) (fun _ h9 => h9) rfl dX6_line_45 ?_
      refine lv_iload_n hx hb dX6_line_48 rfl (lv_at hl 1 rfl) ?_
      refine z_ro (zrV (As := [.int (zI q)]) (rest := []) (Pw := fun H => va_P G vwCl (stW cs (sh a 1) S) H ∧ va_P G vwCl (viW cs (sh a 9) ((sh a 1) 0) (aI F) (cB Fl) (cB Pt)) H) ⟨hx, hb, hml, hown, hts⟩ (c_X5_countCovering l G cs a S F (cB Fl) (cB Pt) q wf0 (by omega)) gX6_line_X5_countCovering rfl qX5_countCovering rfl rfl ⟨Nat.le_of_ble_eq_true rfl, Nat.le_of_ble_eq_true rfl⟩ ⟨hPs, hPv⟩ hK (va_recv hK.1 hPv (ci := 5) (q0 := 0) rfl rfl) hl.1 rfl (Nat.le_of_ble_eq_true rfl) dX6_line_49 ⟨Nat.le_of_ble_eq_true rfl, Nat.le_of_ble_eq_true rfl⟩) ?_
      exact w_iret hx hb hr hlk dX6_line_52 hS ⟨by unfold lineF; rw [if_neg (show ¬ (¬ (0 ≤ q ∧ q < 32)) by omega), if_pos (show t = 0 by omega)], ⟨F, Fl, Pt, U, Q, N, T, lo, hi_, o, R, ⟨hTF, hT0⟩, ⟨ho, hRing⟩, hXo, hPs, hPv, hKp, hTx, hHi, hRg, hSn, hSw⟩⟩
    by_cases t2 : t = 1
    · refine z_tableIn (j := 1) (off := 43) (tgt := 53) hx hb dX6_line_10 t2 (by decide) (by decide) (by decide) rfl (by decide) ?_
      refine lv_aload_n hx hb dX6_line_53 rfl (lv_at hl 0 rfl) ?_
      refine va_get (D := G) (ci := 6) (v := .ref ((sh a 9) 0)) (C := RX6) (T := TX6) (N := 6) hx hb hts hi6 hown hK.1 hXo 0 rfl rfl 1 (by decide) (hts (.fieldLink RX6 21 "SpriteLines" "view" "LSpriteLines$View;") (by decide +kernel)) (fun _ h9 => h9) rfl dX6_line_54 ?_
      refine lv_iload_n hx hb dX6_line_57 rfl (lv_at hl 1 rfl) ?_
      refine lv_aload_n hx hb dX6_line_58 rfl (lv_at hl 0 rfl) ?_
      refine va_get (D := G) (ci := 6) (v := .ref ((sh a 1) 0)) (C := RX6) (T := TX6) (N := 6) hx hb hts hi6 hown hK.1 hXo 0 rfl rfl 0 (by decide) (hts (.fieldLink RX6 10 "SpriteLines" "now" "LSpriteLines$State;") (by decide +kernel)) (fun _ h9 => h9) rfl dX6_line_59 ?_
      refine va_get (D := G) (ci := 4) (v := .int (zI (S 0 4))) (C := RX4) (T := TX4) (N := 9) hx hb hts hi4 hown hK.1 hPs 0 rfl rfl 0 (by decide) (hts (.fieldLink RX6 163 "SpriteLines$State" "frame" "I") (by decide +kernel)) (fun _ h9 => h9) rfl dX6_line_62 ?_
      refine z_w (zrV (As := [.int (zI q), .int (zI (S 0 4))]) (rest := []) (Pw := fun H => va_P G vwCl (stW cs (sh a 1) S) H ∧ va_P G vwCl (viW cs (sh a 9) ((sh a 1) 0) (aI F) (cB Fl) (cB Pt)) H) ⟨hx, hb, hml, hown, hts⟩ (c_X5_findShown l G cs a S F (cB Fl) (cB Pt) q (S 0 4) ia wf0 (by omega) (by omega)) gX6_line_X5_findShown rfl qX5_findShown rfl rfl ⟨Nat.le_of_ble_eq_true rfl, Nat.le_of_ble_eq_true rfl⟩ ⟨hPs, hPv⟩ hK (va_recv hK.1 hPv (ci := 5) (q0 := 0) rfl rfl) hl.1 rfl (Nat.le_of_ble_eq_true rfl) dX6_line_65 ⟨Nat.le_of_ble_eq_true rfl, Nat.le_of_ble_eq_true rfl⟩) hS (fun q h => ax_mono h (by decide) (by decide)) (fun q h => ax_mono h (by decide) (by decide)) (fun v H locs hpost hle hk hS => ?_)
      obtain ⟨F, rfl, hT, hPv'⟩ := hpost
      have hXo := keepO (ordXo a) hXo hk (fun j hj ⟨i, h1, h2, h3⟩ => absurd (ia j i (by omega) (by omega) h3) (by omega))
      have hPs := keepO (ordSt cs (sh a 1) S) hPs hk (fun j hj ⟨i, h1, h2, h3⟩ => absurd (ia (1 + j) i (by omega) (by omega) h3) (by omega))
      have hKp := keepO (ordPk cs (sh a 13) ((sh a 1) 0) (aI U) (aI Q) (aI N)) hKp hk (fun j hj ⟨i, h1, h2, h3⟩ => absurd (ia (13 + j) i (by omega) (by omega) h3) (by omega))
      have hTx := keepO (ordTx cs (sh a 17) T lo hi_ X) hTx hk (fun j hj ⟨i, h1, h2, h3⟩ => absurd (ia (17 + j) i (by omega) (by omega) h3) (by omega))
      have hHi := keepO (ordHi cs (sh a 19) o n) hHi hk (fun j hj ⟨i, h1, h2, h3⟩ => absurd (ia (19 + j) i (by omega) (by omega) h3) (by omega))
      have hRg : ∀ i, i < 5 → va_P G vwCl (stW cs (sh a (21 + 8 * i)) (R i)) H := fun i hi => keepO (ordSt _ _ _) (hRg i hi) hk (fun j hj ⟨i', h1, h2, h3⟩ => absurd (ia (21 + 8 * i + j) i' (by omega) (by omega) h3) (by omega))
      have hSn := keepO (ordSn cs (sh a 61) w k) hSn hk (fun j hj ⟨i, h1, h2, h3⟩ => absurd (ia (61 + j) i (by omega) (by omega) h3) (by omega))
      have hSw : ∀ i, i < 2 → k i = true → va_P G vwCl (stW cs (sh w (8 * i)) (V i)) H := fun i hi hk9 => keepO (ordSt _ _ _) (hSw i hi hk9) hk (fun j hj ⟨i', h1, h2, h3⟩ => absurd h3.symm (hsd.1 i' i j (by omega) hi hj hk9))
      have hPv : va_P G vwCl (viW cs (sh a 9) ((sh a 1) 0) (aI F) (cB Fl) (cB Pt)) H := hPv'
      exact w_iret hx hb hr hlk dX6_line_68 hS ⟨by unfold lineF; rw [if_neg (show ¬ (¬ (0 ≤ q ∧ q < 32)) by omega), if_neg (show ¬ t = 0 by omega), if_pos (show t = 1 by omega)], ⟨F, Fl, Pt, U, Q, N, T, lo, hi_, o, R, ⟨hTF, hT0⟩, ⟨ho, hRing⟩, hXo, hPs, hPv, hKp, hTx, hHi, hRg, hSn, hSw⟩⟩
    by_cases t3 : t = 2
    · refine z_tableIn (j := 2) (off := 59) (tgt := 69) hx hb dX6_line_10 t3 (by decide) (by decide) (by decide) rfl (by decide) ?_
      refine lv_aload_n hx hb dX6_line_69 rfl (lv_at hl 0 rfl) ?_
      refine va_get (D := G) (ci := 6) (v := .ref ((sh a 9) 0)) (C := RX6) (T := TX6) (N := 6) hx hb hts hi6 hown hK.1 hXo 0 rfl rfl 1 (by decide) (hts (.fieldLink RX6 21 "SpriteLines" "view" "LSpriteLines$View;") (by decide +kernel)) (fun _ h9 => h9) rfl dX6_line_70 ?_
      refine lv_iload_n hx hb dX6_line_73 rfl (lv_at hl 1 rfl) ?_
      refine z_w (zrV (As := [.int (zI q)]) (rest := []) (Pw := fun H => va_P G vwCl (stW cs (sh a 1) S) H ∧ va_P G vwCl (viW cs (sh a 9) ((sh a 1) 0) (aI F) (cB Fl) (cB Pt)) H) ⟨hx, hb, hml, hown, hts⟩ (c_X5_countColored l G cs a S F (cB Fl) (cB Pt) q ia wf0 (by omega)) gX6_line_X5_countColored rfl qX5_countColored rfl rfl ⟨Nat.le_of_ble_eq_true rfl, Nat.le_of_ble_eq_true rfl⟩ ⟨hPs, hPv⟩ hK (va_recv hK.1 hPv (ci := 5) (q0 := 0) rfl rfl) hl.1 rfl (Nat.le_of_ble_eq_true rfl) dX6_line_74 ⟨Nat.le_of_ble_eq_true rfl, Nat.le_of_ble_eq_true rfl⟩) hS (fun q h => ax_mono h (by decide) (by decide)) (fun q h => ax_mono h (by decide) (by decide)) (fun v H locs hpost hle hk hS => ?_)
      obtain ⟨F, rfl, hPv'⟩ := hpost
      have hXo := keepO (ordXo a) hXo hk (fun j hj ⟨i, h1, h2, h3⟩ => absurd (ia j i (by omega) (by omega) h3) (by omega))
      have hPs := keepO (ordSt cs (sh a 1) S) hPs hk (fun j hj ⟨i, h1, h2, h3⟩ => absurd (ia (1 + j) i (by omega) (by omega) h3) (by omega))
      have hKp := keepO (ordPk cs (sh a 13) ((sh a 1) 0) (aI U) (aI Q) (aI N)) hKp hk (fun j hj ⟨i, h1, h2, h3⟩ => absurd (ia (13 + j) i (by omega) (by omega) h3) (by omega))
      have hTx := keepO (ordTx cs (sh a 17) T lo hi_ X) hTx hk (fun j hj ⟨i, h1, h2, h3⟩ => absurd (ia (17 + j) i (by omega) (by omega) h3) (by omega))
      have hHi := keepO (ordHi cs (sh a 19) o n) hHi hk (fun j hj ⟨i, h1, h2, h3⟩ => absurd (ia (19 + j) i (by omega) (by omega) h3) (by omega))
      have hRg : ∀ i, i < 5 → va_P G vwCl (stW cs (sh a (21 + 8 * i)) (R i)) H := fun i hi => keepO (ordSt _ _ _) (hRg i hi) hk (fun j hj ⟨i', h1, h2, h3⟩ => absurd (ia (21 + 8 * i + j) i' (by omega) (by omega) h3) (by omega))
      have hSn := keepO (ordSn cs (sh a 61) w k) hSn hk (fun j hj ⟨i, h1, h2, h3⟩ => absurd (ia (61 + j) i (by omega) (by omega) h3) (by omega))
      have hSw : ∀ i, i < 2 → k i = true → va_P G vwCl (stW cs (sh w (8 * i)) (V i)) H := fun i hi hk9 => keepO (ordSt _ _ _) (hSw i hi hk9) hk (fun j hj ⟨i', h1, h2, h3⟩ => absurd h3.symm (hsd.1 i' i j (by omega) hi hj hk9))
      have hPv : va_P G vwCl (viW cs (sh a 9) ((sh a 1) 0) (aI F) (cB Fl) (cB Pt)) H := hPv'
      exact w_iret hx hb hr hlk dX6_line_77 hS ⟨by unfold lineF; rw [if_neg (show ¬ (¬ (0 ≤ q ∧ q < 32)) by omega), if_neg (show ¬ t = 0 by omega), if_neg (show ¬ t = 1 by omega), if_pos (show t = 2 by omega)], ⟨F, Fl, Pt, U, Q, N, T, lo, hi_, o, R, ⟨hTF, hT0⟩, ⟨ho, hRing⟩, hXo, hPs, hPv, hKp, hTx, hHi, hRg, hSn, hSw⟩⟩
    by_cases t4 : t = 3
    · refine z_tableIn (j := 3) (off := 68) (tgt := 78) hx hb dX6_line_10 t4 (by decide) (by decide) (by decide) rfl (by decide) ?_
      refine lv_aload_n hx hb dX6_line_78 rfl (lv_at hl 0 rfl) ?_
      refine va_get (D := G) (ci := 6) (v := .ref ((sh a 1) 0)) (C := RX6) (T := TX6) (N := 6) hx hb hts hi6 hown hK.1 hXo 0 rfl rfl 0 (by decide) (hts (.fieldLink RX6 10 "SpriteLines" "now" "LSpriteLines$State;") (by decide +kernel)) (fun _ h9 => h9) rfl dX6_line_79 ?_
      refine lv_iload_n hx hb dX6_line_82 rfl (lv_at hl 1 rfl) ?_
      refine z_ro (zrV (As := [.int (zI q)]) (rest := []) ⟨hx, hb, hml, hown, hts⟩ (c_X4_hasSwap l G cs (sh a 1) S q wf0 (by omega)) gX6_line_X4_hasSwap rfl qX4_hasSwap rfl rfl ⟨Nat.le_of_ble_eq_true rfl, Nat.le_of_ble_eq_true rfl⟩ hPs hK (va_recv hK.1 hPs (ci := 4) (q0 := 0) rfl rfl) hl.1 rfl (Nat.le_of_ble_eq_true rfl) dX6_line_83 ⟨Nat.le_of_ble_eq_true rfl, Nat.le_of_ble_eq_true rfl⟩) ?_
      refine z_bif_eq (tgt := 100) hx hb dX6_line_86 (by decide) (fun c7 => ?_) (fun c7 => ?_)
      · skip
        refine z_bipush (n := -5) hx hb dX6_line_100 (by decide) ?_
        exact w_iret hx hb hr hlk dX6_line_102 hS ⟨by unfold lineF; rw [if_neg (show ¬ (¬ (0 ≤ q ∧ q < 32)) by omega), if_neg (show ¬ t = 0 by omega), if_neg (show ¬ t = 1 by omega), if_neg (show ¬ t = 2 by omega), if_pos (show t = 3 by omega), if_neg (by rw [c7]; decide)], ⟨F, Fl, Pt, U, Q, N, T, lo, hi_, o, R, ⟨hTF, hT0⟩, ⟨ho, hRing⟩, hXo, hPs, hPv, hKp, hTx, hHi, hRg, hSn, hSw⟩⟩
      · skip
        refine lv_aload_n hx hb dX6_line_89 rfl (lv_at hl 0 rfl) ?_
        refine va_get (D := G) (ci := 6) (v := .ref ((sh a 1) 0)) (C := RX6) (T := TX6) (N := 6) hx hb hts hi6 hown hK.1 hXo 0 rfl rfl 0 (by decide) (hts (.fieldLink RX6 10 "SpriteLines" "now" "LSpriteLines$State;") (by decide +kernel)) (fun _ h9 => h9) rfl dX6_line_90 ?_
        refine lv_iload_n hx hb dX6_line_93 rfl (lv_at hl 1 rfl) ?_
        refine z_ro (zrV (As := [.int (zI q)]) (rest := []) ⟨hx, hb, hml, hown, hts⟩ (c_X4_lowerOfSwap l G cs (sh a 1) S q (by omega)) gX6_line_X4_lowerOfSwap rfl qX4_lowerOfSwap rfl rfl ⟨Nat.le_of_ble_eq_true rfl, Nat.le_of_ble_eq_true rfl⟩ hPs hK (va_recv hK.1 hPs (ci := 4) (q0 := 0) rfl rfl) hl.1 rfl (Nat.le_of_ble_eq_true rfl) dX6_line_94 ⟨Nat.le_of_ble_eq_true rfl, Nat.le_of_ble_eq_true rfl⟩) ?_
        refine lv_goto (tgt := 102) hx hb dX6_line_97 (by decide) ?_
        exact w_iret hx hb hr hlk dX6_line_102 hS ⟨by unfold lineF; rw [if_neg (show ¬ (¬ (0 ≤ q ∧ q < 32)) by omega), if_neg (show ¬ t = 0 by omega), if_neg (show ¬ t = 1 by omega), if_neg (show ¬ t = 2 by omega), if_pos (show t = 3 by omega), if_pos c7], ⟨F, Fl, Pt, U, Q, N, T, lo, hi_, o, R, ⟨hTF, hT0⟩, ⟨ho, hRing⟩, hXo, hPs, hPv, hKp, hTx, hHi, hRg, hSn, hSw⟩⟩
    by_cases t5 : t = 4
    · refine z_tableIn (j := 4) (off := 93) (tgt := 103) hx hb dX6_line_10 t5 (by decide) (by decide) (by decide) rfl (by decide) ?_
      refine lv_aload_n hx hb dX6_line_103 rfl (lv_at hl 0 rfl) ?_
      refine va_get (D := G) (ci := 6) (v := .ref ((sh a 1) 0)) (C := RX6) (T := TX6) (N := 6) hx hb hts hi6 hown hK.1 hXo 0 rfl rfl 0 (by decide) (hts (.fieldLink RX6 10 "SpriteLines" "now" "LSpriteLines$State;") (by decide +kernel)) (fun _ h9 => h9) rfl dX6_line_104 ?_
      refine lv_iload_n hx hb dX6_line_107 rfl (lv_at hl 1 rfl) ?_
      refine z_ro (zrV (As := [.int (zI q)]) (rest := []) ⟨hx, hb, hml, hown, hts⟩ (c_X4_hasSwap l G cs (sh a 1) S q wf0 (by omega)) gX6_line_X4_hasSwap rfl qX4_hasSwap rfl rfl ⟨Nat.le_of_ble_eq_true rfl, Nat.le_of_ble_eq_true rfl⟩ hPs hK (va_recv hK.1 hPs (ci := 4) (q0 := 0) rfl rfl) hl.1 rfl (Nat.le_of_ble_eq_true rfl) dX6_line_108 ⟨Nat.le_of_ble_eq_true rfl, Nat.le_of_ble_eq_true rfl⟩) ?_
      refine z_bif_eq (tgt := 125) hx hb dX6_line_111 (by decide) (fun c7 => ?_) (fun c7 => ?_)
      · skip
        refine z_bipush (n := -5) hx hb dX6_line_125 (by decide) ?_
        exact w_iret hx hb hr hlk dX6_line_127 hS ⟨by unfold lineF; rw [if_neg (show ¬ (¬ (0 ≤ q ∧ q < 32)) by omega), if_neg (show ¬ t = 0 by omega), if_neg (show ¬ t = 1 by omega), if_neg (show ¬ t = 2 by omega), if_neg (show ¬ t = 3 by omega), if_pos (show t = 4 by omega), if_neg (by rw [c7]; decide)], ⟨F, Fl, Pt, U, Q, N, T, lo, hi_, o, R, ⟨hTF, hT0⟩, ⟨ho, hRing⟩, hXo, hPs, hPv, hKp, hTx, hHi, hRg, hSn, hSw⟩⟩
      · skip
        refine lv_aload_n hx hb dX6_line_114 rfl (lv_at hl 0 rfl) ?_
        refine va_get (D := G) (ci := 6) (v := .ref ((sh a 1) 0)) (C := RX6) (T := TX6) (N := 6) hx hb hts hi6 hown hK.1 hXo 0 rfl rfl 0 (by decide) (hts (.fieldLink RX6 10 "SpriteLines" "now" "LSpriteLines$State;") (by decide +kernel)) (fun _ h9 => h9) rfl dX6_line_115 ?_
        refine lv_iload_n hx hb dX6_line_118 rfl (lv_at hl 1 rfl) ?_
        refine z_ro (zrV (As := [.int (zI q)]) (rest := []) ⟨hx, hb, hml, hown, hts⟩ (c_X4_upperOfSwap l G cs (sh a 1) S q (by omega)) gX6_line_X4_upperOfSwap rfl qX4_upperOfSwap rfl rfl ⟨Nat.le_of_ble_eq_true rfl, Nat.le_of_ble_eq_true rfl⟩ hPs hK (va_recv hK.1 hPs (ci := 4) (q0 := 0) rfl rfl) hl.1 rfl (Nat.le_of_ble_eq_true rfl) dX6_line_119 ⟨Nat.le_of_ble_eq_true rfl, Nat.le_of_ble_eq_true rfl⟩) ?_
        refine lv_goto (tgt := 127) hx hb dX6_line_122 (by decide) ?_
        exact w_iret hx hb hr hlk dX6_line_127 hS ⟨by unfold lineF; rw [if_neg (show ¬ (¬ (0 ≤ q ∧ q < 32)) by omega), if_neg (show ¬ t = 0 by omega), if_neg (show ¬ t = 1 by omega), if_neg (show ¬ t = 2 by omega), if_neg (show ¬ t = 3 by omega), if_pos (show t = 4 by omega), if_pos c7], ⟨F, Fl, Pt, U, Q, N, T, lo, hi_, o, R, ⟨hTF, hT0⟩, ⟨ho, hRing⟩, hXo, hPs, hPv, hKp, hTx, hHi, hRg, hSn, hSw⟩⟩
    refine z_tableOut (tgt := 128) hx hb dX6_line_10 (by omega) (by omega) (by decide) ?_
    refine z_bipush (n := -2) hx hb dX6_line_128 (by decide) ?_
    exact w_iret hx hb hr hlk dX6_line_130 hS ⟨by unfold lineF; rw [if_neg (show ¬ (¬ (0 ≤ q ∧ q < 32)) by omega), if_neg (show ¬ t = 0 by omega), if_neg (show ¬ t = 1 by omega), if_neg (show ¬ t = 2 by omega), if_neg (show ¬ t = 3 by omega), if_neg (show ¬ t = 4 by omega)], ⟨F, Fl, Pt, U, Q, N, T, lo, hi_, o, R, ⟨hTF, hT0⟩, ⟨ho, hRing⟩, hXo, hPs, hPv, hKp, hTx, hHi, hRg, hSn, hSw⟩⟩
  · skip
    simp only [decide_eq_true_eq] at c1
    refine z_iconst (n := -1) hx hb dX6_line_7 ?_
    exact w_iret hx hb hr hlk dX6_line_8 hS ⟨by unfold lineF; rw [if_pos (show ¬ (0 ≤ q ∧ q < 32) by omega)], ⟨F, Fl, Pt, U, Q, N, T, lo, hi_, o, R, ⟨hTF, hT0⟩, ⟨ho, hRing⟩, hXo, hPs, hPv, hKp, hTx, hHi, hRg, hSn, hSw⟩⟩

set_option maxHeartbeats 4000000 in
set_option maxRecDepth 100000 in
theorem c_X6_shown (l : Launch) (G : va_G) (cs : Nat → ClassId) (a w : Nat → Nat) (S : SS) (n : Int) (L : Nat → SS) (tl : Int) (X : Int → Int) (k : Nat → Bool) (V : Nat → SS) (q t : Int) (ia : Inj a 62) (hsd : SnD a w k) (hA : AWF (S, (n, L), (tl, X), (k, V))) (r_q : -2147483648 ≤ q ∧ q < 2147483648) (r_t : -2147483648 ≤ t ∧ t < 2147483648) : MW l yX6_shown wsX6_shown { frames := 4, cells := 0, slots := 0, locals := 97 } G cs [.ref (a 0), .int (zI q), .int (zI t)] (fun H => XI G cs a w (S, (n, L), (tl, X), (k, V)) H) (fun vv H => vv = .int (zI (shownF S q t)) ∧ XI G cs a w (S, (n, L), (tl, X), (k, V)) H) (AX a 0 62) 0 0 := by
  refine m_intro (Pw := (fun H => XI G cs a w (S, (n, L), (tl, X), (k, V)) H)) (cc := cX6_shown) (maxL := 3) (ret := some .int) RX6 (by decide) rfl rfl (Nat.le_of_ble_eq_true rfl) ?_
  intro pP eE sS mM below meth cC hx hb hr hts hown hml hlk hnm hPre hK ls hl
  have hl : lv_has ls 3 [(0, .ref (a 0)), (1, .int (zI q)), (2, .int (zI t))] := hl
  have hXI := hPre
  have hS : va_S (AX a 0 62) sS.heap sS.heap [] := va_S.rf
  have hi6 : ∀ w ∈ u_ws RX6 TX6 6, w ∈ wsX6_shown := by decide +kernel
  obtain ⟨F, Fl, Pt, U, Q, N, T, lo, hi_, o, R, ⟨hTF, hT0⟩, ⟨ho, hRing⟩, hXo, hPs, hPv, hKp, hTx, hHi, hRg, hSn, hSw⟩ := hXI
  obtain ⟨wf, ⟨hn, hL9⟩, ⟨htl, hX⟩, hV9⟩ := hA
  have hT0 : T 0 = tl := hT0
  have hRing : ∀ i : Nat, (i : Int) < n → R ((o + i) % 5).toNat = L i := hRing
  have wf : WF S := wf
  have hn : 0 ≤ n ∧ n ≤ 5 := hn
  have htl : 0 ≤ tl ∧ tl ≤ 60 := htl
  have hX : ∀ j, 0 ≤ j → j < 60 → 0 ≤ X j ∧ X j < 65536 := hX
  have hXo : va_P G vwCl (xoW a) sS.heap := hXo
  have hPs : va_P G vwCl (stW cs (sh a 1) S) sS.heap := hPs
  have hPv : va_P G vwCl (viW cs (sh a 9) ((sh a 1) 0) (aI F) (cB Fl) (cB Pt)) sS.heap := hPv
  have hKp : va_P G vwCl (pkW cs (sh a 13) ((sh a 1) 0) (aI U) (aI Q) (aI N)) sS.heap := hKp
  have hTx : va_P G vwCl (txW cs (sh a 17) T lo hi_ X) sS.heap := hTx
  have hHi : va_P G vwCl (hiW cs (sh a 19) o n) sS.heap := hHi
  have hRg : ∀ i, i < 5 → va_P G vwCl (stW cs (sh a (21 + 8 * i)) (R i)) sS.heap := hRg
  have hSn : va_P G vwCl (snW cs (sh a 61) w k) sS.heap := hSn
  have hSw : ∀ i, i < 2 → k i = true → va_P G vwCl (stW cs (sh w (8 * i)) (V i)) sS.heap := hSw
  have wf0 := wf
  obtain ⟨w0, w1, w2, w3, w4, wP, wC, wS, wX⟩ := wf
  have ia1 := inj_sh (k := 1) (w := 8) ia (by decide)
  refine lv_iload_n hx hb dX6_shown_0 rfl (lv_at hl 1 rfl) ?_
  refine z_ro (zrS (As := [.int (zI q)]) (rest := []) (Pw := fun _ => True) ⟨hx, hb, hml, hown, hts⟩ (c_X6_isNoLine l G cs q (by omega)) gX6_shown_X6_isNoLine rfl qX6_isNoLine rfl rfl ⟨Nat.le_of_ble_eq_true rfl, Nat.le_of_ble_eq_true rfl⟩ trivial hK hl.1 rfl (Nat.le_of_ble_eq_true rfl) dX6_shown_1 ⟨Nat.le_of_ble_eq_true rfl, Nat.le_of_ble_eq_true rfl⟩) ?_
  refine z_bif_eq (tgt := 9) hx hb dX6_shown_4 (by decide) (fun c1 => ?_) (fun c1 => ?_)
  · skip
    simp only [decide_eq_false_iff_not] at c1
    refine lv_iload_n hx hb dX6_shown_9 rfl (lv_at hl 2 rfl) ?_
    refine z_if_ge (tgt := 16) hx hb dX6_shown_10 (by decide) (by omega) (fun c1 => ?_) (fun c1 => ?_)
    · skip
      refine lv_aload_n hx hb dX6_shown_16 rfl (lv_at hl 0 rfl) ?_
      refine va_get (D := G) (ci := 6) (v := .ref ((sh a 9) 0)) (C := RX6) (T := TX6) (N := 6) hx hb hts hi6 hown hK.1 hXo 0 rfl rfl 1 (by decide) (hts (.fieldLink RX6 21 "SpriteLines" "view" "LSpriteLines$View;") (by decide +kernel)) (fun _ h9 => h9) rfl dX6_shown_17 ?_
      refine lv_iload_n hx hb dX6_shown_20 rfl (lv_at hl 1 rfl) ?_
      refine lv_iload_n hx hb dX6_shown_21 rfl (lv_at hl 2 rfl) ?_
      refine z_w (zrV (As := [.int (zI q), .int (zI t)]) (rest := []) (Pw := fun H => va_P G vwCl (stW cs (sh a 1) S) H ∧ va_P G vwCl (viW cs (sh a 9) ((sh a 1) 0) (aI F) (cB Fl) (cB Pt)) H) ⟨hx, hb, hml, hown, hts⟩ (c_X5_shownAt l G cs a S F (cB Fl) (cB Pt) q t ia wf0 (by omega) (by omega)) gX6_shown_X5_shownAt rfl qX5_shownAt rfl rfl ⟨Nat.le_of_ble_eq_true rfl, Nat.le_of_ble_eq_true rfl⟩ ⟨hPs, hPv⟩ hK (va_recv hK.1 hPv (ci := 5) (q0 := 0) rfl rfl) hl.1 rfl (Nat.le_of_ble_eq_true rfl) dX6_shown_22 ⟨Nat.le_of_ble_eq_true rfl, Nat.le_of_ble_eq_true rfl⟩) hS (fun q h => ax_mono h (by decide) (by decide)) (fun q h => ax_mono h (by decide) (by decide)) (fun v H locs hpost hle hk hS => ?_)
      obtain ⟨F, rfl, hPv'⟩ := hpost
      have hXo := keepO (ordXo a) hXo hk (fun j hj ⟨i, h1, h2, h3⟩ => absurd (ia j i (by omega) (by omega) h3) (by omega))
      have hPs := keepO (ordSt cs (sh a 1) S) hPs hk (fun j hj ⟨i, h1, h2, h3⟩ => absurd (ia (1 + j) i (by omega) (by omega) h3) (by omega))
      have hKp := keepO (ordPk cs (sh a 13) ((sh a 1) 0) (aI U) (aI Q) (aI N)) hKp hk (fun j hj ⟨i, h1, h2, h3⟩ => absurd (ia (13 + j) i (by omega) (by omega) h3) (by omega))
      have hTx := keepO (ordTx cs (sh a 17) T lo hi_ X) hTx hk (fun j hj ⟨i, h1, h2, h3⟩ => absurd (ia (17 + j) i (by omega) (by omega) h3) (by omega))
      have hHi := keepO (ordHi cs (sh a 19) o n) hHi hk (fun j hj ⟨i, h1, h2, h3⟩ => absurd (ia (19 + j) i (by omega) (by omega) h3) (by omega))
      have hRg : ∀ i, i < 5 → va_P G vwCl (stW cs (sh a (21 + 8 * i)) (R i)) H := fun i hi => keepO (ordSt _ _ _) (hRg i hi) hk (fun j hj ⟨i', h1, h2, h3⟩ => absurd (ia (21 + 8 * i + j) i' (by omega) (by omega) h3) (by omega))
      have hSn := keepO (ordSn cs (sh a 61) w k) hSn hk (fun j hj ⟨i, h1, h2, h3⟩ => absurd (ia (61 + j) i (by omega) (by omega) h3) (by omega))
      have hSw : ∀ i, i < 2 → k i = true → va_P G vwCl (stW cs (sh w (8 * i)) (V i)) H := fun i hi hk9 => keepO (ordSt _ _ _) (hSw i hi hk9) hk (fun j hj ⟨i', h1, h2, h3⟩ => absurd h3.symm (hsd.1 i' i j (by omega) hi hj hk9))
      have hPv : va_P G vwCl (viW cs (sh a 9) ((sh a 1) 0) (aI F) (cB Fl) (cB Pt)) H := hPv'
      exact w_iret hx hb hr hlk dX6_shown_25 hS ⟨by unfold shownF; rw [if_neg (show ¬ (¬ (0 ≤ q ∧ q < 32)) by omega), if_neg (show ¬ (t < 0) by omega)], ⟨F, Fl, Pt, U, Q, N, T, lo, hi_, o, R, ⟨hTF, hT0⟩, ⟨ho, hRing⟩, hXo, hPs, hPv, hKp, hTx, hHi, hRg, hSn, hSw⟩⟩
    · skip
      refine z_bipush (n := -2) hx hb dX6_shown_13 (by decide) ?_
      exact w_iret hx hb hr hlk dX6_shown_15 hS ⟨by unfold shownF; rw [if_neg (show ¬ (¬ (0 ≤ q ∧ q < 32)) by omega), if_pos (show t < 0 by omega)], ⟨F, Fl, Pt, U, Q, N, T, lo, hi_, o, R, ⟨hTF, hT0⟩, ⟨ho, hRing⟩, hXo, hPs, hPv, hKp, hTx, hHi, hRg, hSn, hSw⟩⟩
  · skip
    simp only [decide_eq_true_eq] at c1
    refine z_iconst (n := -1) hx hb dX6_shown_7 ?_
    exact w_iret hx hb hr hlk dX6_shown_8 hS ⟨by unfold shownF; rw [if_pos (show ¬ (0 ≤ q ∧ q < 32) by omega)], ⟨F, Fl, Pt, U, Q, N, T, lo, hi_, o, R, ⟨hTF, hT0⟩, ⟨ho, hRing⟩, hXo, hPs, hPv, hKp, hTx, hHi, hRg, hSn, hSw⟩⟩

set_option maxHeartbeats 4000000 in
set_option maxRecDepth 100000 in
theorem c_X6_meet (l : Launch) (G : va_G) (cs : Nat → ClassId) (a w : Nat → Nat) (S : SS) (n : Int) (L : Nat → SS) (tl : Int) (X : Int → Int) (k : Nat → Bool) (V : Nat → SS) (z t : Int) (ia : Inj a 62) (hsd : SnD a w k) (hA : AWF (S, (n, L), (tl, X), (k, V))) (r_z : -2147483648 ≤ z ∧ z < 2147483648) (r_t : -2147483648 ≤ t ∧ t < 2147483648) : MW l yX6_meet wsX6_meet { frames := 6, cells := 0, slots := 0, locals := 143 } G cs [.ref (a 0), .int (zI z), .int (zI t)] (fun H => XI G cs a w (S, (n, L), (tl, X), (k, V)) H) (fun vv H => vv = .int (zI (meetF S z t)) ∧ XI G cs a w (S, (n, L), (tl, X), (k, V)) H) (AX a 0 62) 0 0 := by
  refine m_intro (Pw := (fun H => XI G cs a w (S, (n, L), (tl, X), (k, V)) H)) (cc := cX6_meet) (maxL := 3) (ret := some .int) RX6 (by decide) rfl rfl (Nat.le_of_ble_eq_true rfl) ?_
  intro pP eE sS mM below meth cC hx hb hr hts hown hml hlk hnm hPre hK ls hl
  have hl : lv_has ls 3 [(0, .ref (a 0)), (1, .int (zI z)), (2, .int (zI t))] := hl
  have hXI := hPre
  have hS : va_S (AX a 0 62) sS.heap sS.heap [] := va_S.rf
  have hi6 : ∀ w ∈ u_ws RX6 TX6 6, w ∈ wsX6_meet := by decide +kernel
  obtain ⟨F, Fl, Pt, U, Q, N, T, lo, hi_, o, R, ⟨hTF, hT0⟩, ⟨ho, hRing⟩, hXo, hPs, hPv, hKp, hTx, hHi, hRg, hSn, hSw⟩ := hXI
  obtain ⟨wf, ⟨hn, hL9⟩, ⟨htl, hX⟩, hV9⟩ := hA
  have hT0 : T 0 = tl := hT0
  have hRing : ∀ i : Nat, (i : Int) < n → R ((o + i) % 5).toNat = L i := hRing
  have wf : WF S := wf
  have hn : 0 ≤ n ∧ n ≤ 5 := hn
  have htl : 0 ≤ tl ∧ tl ≤ 60 := htl
  have hX : ∀ j, 0 ≤ j → j < 60 → 0 ≤ X j ∧ X j < 65536 := hX
  have hXo : va_P G vwCl (xoW a) sS.heap := hXo
  have hPs : va_P G vwCl (stW cs (sh a 1) S) sS.heap := hPs
  have hPv : va_P G vwCl (viW cs (sh a 9) ((sh a 1) 0) (aI F) (cB Fl) (cB Pt)) sS.heap := hPv
  have hKp : va_P G vwCl (pkW cs (sh a 13) ((sh a 1) 0) (aI U) (aI Q) (aI N)) sS.heap := hKp
  have hTx : va_P G vwCl (txW cs (sh a 17) T lo hi_ X) sS.heap := hTx
  have hHi : va_P G vwCl (hiW cs (sh a 19) o n) sS.heap := hHi
  have hRg : ∀ i, i < 5 → va_P G vwCl (stW cs (sh a (21 + 8 * i)) (R i)) sS.heap := hRg
  have hSn : va_P G vwCl (snW cs (sh a 61) w k) sS.heap := hSn
  have hSw : ∀ i, i < 2 → k i = true → va_P G vwCl (stW cs (sh w (8 * i)) (V i)) sS.heap := hSw
  have wf0 := wf
  obtain ⟨w0, w1, w2, w3, w4, wP, wC, wS, wX⟩ := wf
  have ia1 := inj_sh (k := 1) (w := 8) ia (by decide)
  refine lv_aload_n hx hb dX6_meet_0 rfl (lv_at hl 0 rfl) ?_
  refine lv_iload_n hx hb dX6_meet_1 rfl (lv_at hl 1 rfl) ?_
  refine z_ro (zrV (As := [.int (zI z)]) (rest := []) (Pw := fun H => va_P G vwCl (xoW a) H ∧ va_P G vwCl (stW cs (sh a 1) S) H) ⟨hx, hb, hml, hown, hts⟩ (c_X6_isNoSprite l G cs a S z wf0 (by omega)) gX6_meet_X6_isNoSprite rfl qX6_isNoSprite rfl rfl ⟨Nat.le_of_ble_eq_true rfl, Nat.le_of_ble_eq_true rfl⟩ ⟨hXo, hPs⟩ hK (va_recv hK.1 hXo (ci := 6) (q0 := 0) rfl rfl) hl.1 rfl (Nat.le_of_ble_eq_true rfl) dX6_meet_2 ⟨Nat.le_of_ble_eq_true rfl, Nat.le_of_ble_eq_true rfl⟩) ?_
  refine z_bif_ne (tgt := 16) hx hb dX6_meet_5 (by decide) (fun c1 => ?_) (fun c1 => ?_)
  · skip
    simp only [decide_eq_true_eq] at c1
    refine z_iconst (n := -1) hx hb dX6_meet_16 ?_
    exact w_iret hx hb hr hlk dX6_meet_17 hS ⟨by unfold meetF; rw [if_pos (show ¬ ((0 ≤ z ∧ z < S 0 1) ∧ (0 ≤ t ∧ t < S 0 1)) by omega)], ⟨F, Fl, Pt, U, Q, N, T, lo, hi_, o, R, ⟨hTF, hT0⟩, ⟨ho, hRing⟩, hXo, hPs, hPv, hKp, hTx, hHi, hRg, hSn, hSw⟩⟩
  · skip
    simp only [decide_eq_false_iff_not] at c1
    refine lv_aload_n hx hb dX6_meet_8 rfl (lv_at hl 0 rfl) ?_
    refine lv_iload_n hx hb dX6_meet_9 rfl (lv_at hl 2 rfl) ?_
    refine z_ro (zrV (As := [.int (zI t)]) (rest := []) (Pw := fun H => va_P G vwCl (xoW a) H ∧ va_P G vwCl (stW cs (sh a 1) S) H) ⟨hx, hb, hml, hown, hts⟩ (c_X6_isNoSprite l G cs a S t wf0 (by omega)) gX6_meet_X6_isNoSprite rfl qX6_isNoSprite rfl rfl ⟨Nat.le_of_ble_eq_true rfl, Nat.le_of_ble_eq_true rfl⟩ ⟨hXo, hPs⟩ hK (va_recv hK.1 hXo (ci := 6) (q0 := 0) rfl rfl) hl.1 rfl (Nat.le_of_ble_eq_true rfl) dX6_meet_10 ⟨Nat.le_of_ble_eq_true rfl, Nat.le_of_ble_eq_true rfl⟩) ?_
    refine z_bif_eq (tgt := 18) hx hb dX6_meet_13 (by decide) (fun c2 => ?_) (fun c2 => ?_)
    · skip
      simp only [decide_eq_false_iff_not] at c2
      refine lv_iload_n hx hb dX6_meet_18 rfl (lv_at hl 1 rfl) ?_
      refine lv_iload_n hx hb dX6_meet_19 rfl (lv_at hl 2 rfl) ?_
      refine z_icmp_ne (tgt := 26) hx hb dX6_meet_20 (by decide) (by omega) (by omega) (fun c1 => ?_) (fun c1 => ?_)
      · skip
        refine lv_aload_n hx hb dX6_meet_26 rfl (lv_at hl 0 rfl) ?_
        refine va_get (D := G) (ci := 6) (v := .ref ((sh a 9) 0)) (C := RX6) (T := TX6) (N := 6) hx hb hts hi6 hown hK.1 hXo 0 rfl rfl 1 (by decide) (hts (.fieldLink RX6 21 "SpriteLines" "view" "LSpriteLines$View;") (by decide +kernel)) (fun _ h9 => h9) rfl dX6_meet_27 ?_
        refine lv_iload_n hx hb dX6_meet_30 rfl (lv_at hl 1 rfl) ?_
        refine z_w (zrV (As := [.int (zI z)]) (rest := []) (Pw := fun H => va_P G vwCl (stW cs (sh a 1) S) H ∧ va_P G vwCl (viW cs (sh a 9) ((sh a 1) 0) (aI F) (cB Fl) (cB Pt)) H) ⟨hx, hb, hml, hown, hts⟩ (c_X5_partnersOf l G cs a S F Fl Pt z ia wf0 (by omega)) gX6_meet_X5_partnersOf rfl qX5_partnersOf rfl rfl ⟨Nat.le_of_ble_eq_true rfl, Nat.le_of_ble_eq_true rfl⟩ ⟨hPs, hPv⟩ hK (va_recv hK.1 hPv (ci := 5) (q0 := 0) rfl rfl) hl.1 rfl (Nat.le_of_ble_eq_true rfl) dX6_meet_31 ⟨Nat.le_of_ble_eq_true rfl, Nat.le_of_ble_eq_true rfl⟩) hS (fun q h => ax_mono h (by decide) (by decide)) (fun q h => ax_mono h (by decide) (by decide)) (fun v H locs hpost hle hk hS => ?_)
        obtain ⟨g, F, Fl2, P, rfl, hR, hPv'⟩ := hpost
        have hXo := keepO (ordXo a) hXo hk (fun j hj ⟨i, h1, h2, h3⟩ => absurd (ia j i (by omega) (by omega) h3) (by omega))
        have hPs := keepO (ordSt cs (sh a 1) S) hPs hk (fun j hj ⟨i, h1, h2, h3⟩ => absurd (ia (1 + j) i (by omega) (by omega) h3) (by omega))
        have hKp := keepO (ordPk cs (sh a 13) ((sh a 1) 0) (aI U) (aI Q) (aI N)) hKp hk (fun j hj ⟨i, h1, h2, h3⟩ => absurd (ia (13 + j) i (by omega) (by omega) h3) (by omega))
        have hTx := keepO (ordTx cs (sh a 17) T lo hi_ X) hTx hk (fun j hj ⟨i, h1, h2, h3⟩ => absurd (ia (17 + j) i (by omega) (by omega) h3) (by omega))
        have hHi := keepO (ordHi cs (sh a 19) o n) hHi hk (fun j hj ⟨i, h1, h2, h3⟩ => absurd (ia (19 + j) i (by omega) (by omega) h3) (by omega))
        have hRg : ∀ i, i < 5 → va_P G vwCl (stW cs (sh a (21 + 8 * i)) (R i)) H := fun i hi => keepO (ordSt _ _ _) (hRg i hi) hk (fun j hj ⟨i', h1, h2, h3⟩ => absurd (ia (21 + 8 * i + j) i' (by omega) (by omega) h3) (by omega))
        have hSn := keepO (ordSn cs (sh a 61) w k) hSn hk (fun j hj ⟨i, h1, h2, h3⟩ => absurd (ia (61 + j) i (by omega) (by omega) h3) (by omega))
        have hSw : ∀ i, i < 2 → k i = true → va_P G vwCl (stW cs (sh w (8 * i)) (V i)) H := fun i hi hk9 => keepO (ordSt _ _ _) (hSw i hi hk9) hk (fun j hj ⟨i', h1, h2, h3⟩ => absurd h3.symm (hsd.1 i' i j (by omega) hi hj hk9))
        have hPv : va_P G vwCl (viW cs (sh a 9) ((sh a 1) 0) (aI F) (cB Fl2) (cB P)) H := hPv'
        refine lv_iload_n hx hb dX6_meet_34 rfl (lv_at hl 2 rfl) ?_
        refine z_ro (zrS (As := [.int (iB g), .int (zI t)]) (rest := []) (Pw := fun _ => True) ⟨hx, hb, hml, hown, hts⟩ (c_X6_contains l G cs g t (by omega)) gX6_meet_X6_contains rfl qX6_contains rfl rfl ⟨Nat.le_of_ble_eq_true rfl, Nat.le_of_ble_eq_true rfl⟩ trivial hK hl.1 rfl (Nat.le_of_ble_eq_true rfl) dX6_meet_35 ⟨Nat.le_of_ble_eq_true rfl, Nat.le_of_ble_eq_true rfl⟩) ?_
        refine z_top (v' := .int (zI (b2 (meetB S (S 0 4) z t)))) (congrArg (fun q => Value.int (zI (b2 q))) ((hR t.toNat (by omega)).trans (part_at (by omega) (by omega) (by omega)))) ?_
        refine z_bif_eq (tgt := 45) hx hb dX6_meet_38 (by decide) (fun c7 => ?_) (fun c7 => ?_)
        · skip
          refine z_iconst (n := 0) hx hb dX6_meet_45 ?_
          exact w_iret hx hb hr hlk dX6_meet_46 hS ⟨by unfold meetF; rw [if_neg (show ¬ (¬ ((0 ≤ z ∧ z < S 0 1) ∧ (0 ≤ t ∧ t < S 0 1))) by omega), if_neg (show ¬ (z = t) by omega), c7]; rfl, ⟨F, Fl2, P, U, Q, N, T, lo, hi_, o, R, ⟨hTF, hT0⟩, ⟨ho, hRing⟩, hXo, hPs, hPv, hKp, hTx, hHi, hRg, hSn, hSw⟩⟩
        · skip
          refine z_iconst (n := 1) hx hb dX6_meet_41 ?_
          refine lv_goto (tgt := 46) hx hb dX6_meet_42 (by decide) ?_
          exact w_iret hx hb hr hlk dX6_meet_46 hS ⟨by unfold meetF; rw [if_neg (show ¬ (¬ ((0 ≤ z ∧ z < S 0 1) ∧ (0 ≤ t ∧ t < S 0 1))) by omega), if_neg (show ¬ (z = t) by omega), c7]; rfl, ⟨F, Fl2, P, U, Q, N, T, lo, hi_, o, R, ⟨hTF, hT0⟩, ⟨ho, hRing⟩, hXo, hPs, hPv, hKp, hTx, hHi, hRg, hSn, hSw⟩⟩
      · skip
        refine z_bipush (n := -2) hx hb dX6_meet_23 (by decide) ?_
        exact w_iret hx hb hr hlk dX6_meet_25 hS ⟨by unfold meetF; rw [if_neg (show ¬ (¬ ((0 ≤ z ∧ z < S 0 1) ∧ (0 ≤ t ∧ t < S 0 1))) by omega), if_pos (show z = t by omega)], ⟨F, Fl, Pt, U, Q, N, T, lo, hi_, o, R, ⟨hTF, hT0⟩, ⟨ho, hRing⟩, hXo, hPs, hPv, hKp, hTx, hHi, hRg, hSn, hSw⟩⟩
    · skip
      simp only [decide_eq_true_eq] at c2
      refine z_iconst (n := -1) hx hb dX6_meet_16 ?_
      exact w_iret hx hb hr hlk dX6_meet_17 hS ⟨by unfold meetF; rw [if_pos (show ¬ ((0 ≤ z ∧ z < S 0 1) ∧ (0 ≤ t ∧ t < S 0 1)) by omega)], ⟨F, Fl, Pt, U, Q, N, T, lo, hi_, o, R, ⟨hTF, hT0⟩, ⟨ho, hRing⟩, hXo, hPs, hPv, hKp, hTx, hHi, hRg, hSn, hSw⟩⟩

set_option maxHeartbeats 4000000 in
set_option maxRecDepth 100000 in
theorem c_X6_shownIn (l : Launch) (G : va_G) (cs : Nat → ClassId) (a w : Nat → Nat) (S : SS) (n : Int) (L : Nat → SS) (tl : Int) (X : Int → Int) (k : Nat → Bool) (V : Nat → SS) (q z : Int) (ia : Inj a 62) (hsd : SnD a w k) (hA : AWF (S, (n, L), (tl, X), (k, V))) (r_q : -2147483648 ≤ q ∧ q < 2147483648) (r_z : -2147483648 ≤ z ∧ z < 2147483648) : MW l yX6_shownIn wsX6_shownIn { frames := 4, cells := 0, slots := 0, locals := 99 } G cs [.ref (a 0), .int (zI q), .int (zI z)] (fun H => XI G cs a w (S, (n, L), (tl, X), (k, V)) H) (fun vv H => vv = .int (zI (shownInF S q z)) ∧ XI G cs a w (S, (n, L), (tl, X), (k, V)) H) (AX a 0 62) 0 0 := by
  refine m_intro (Pw := (fun H => XI G cs a w (S, (n, L), (tl, X), (k, V)) H)) (cc := cX6_shownIn) (maxL := 4) (ret := some .int) RX6 (by decide) rfl rfl (Nat.le_of_ble_eq_true rfl) ?_
  intro pP eE sS mM below meth cC hx hb hr hts hown hml hlk hnm hPre hK ls hl
  have hl : lv_has ls 4 [(0, .ref (a 0)), (1, .int (zI q)), (2, .int (zI z))] := hl
  have hXI := hPre
  have hS : va_S (AX a 0 62) sS.heap sS.heap [] := va_S.rf
  have hi4 : ∀ w ∈ u_ws RX4 TX4 9, w ∈ wsX6_shownIn := by decide +kernel
  have hi6 : ∀ w ∈ u_ws RX6 TX6 6, w ∈ wsX6_shownIn := by decide +kernel
  obtain ⟨F, Fl, Pt, U, Q, N, T, lo, hi_, o, R, ⟨hTF, hT0⟩, ⟨ho, hRing⟩, hXo, hPs, hPv, hKp, hTx, hHi, hRg, hSn, hSw⟩ := hXI
  obtain ⟨wf, ⟨hn, hL9⟩, ⟨htl, hX⟩, hV9⟩ := hA
  have hT0 : T 0 = tl := hT0
  have hRing : ∀ i : Nat, (i : Int) < n → R ((o + i) % 5).toNat = L i := hRing
  have wf : WF S := wf
  have hn : 0 ≤ n ∧ n ≤ 5 := hn
  have htl : 0 ≤ tl ∧ tl ≤ 60 := htl
  have hX : ∀ j, 0 ≤ j → j < 60 → 0 ≤ X j ∧ X j < 65536 := hX
  have hXo : va_P G vwCl (xoW a) sS.heap := hXo
  have hPs : va_P G vwCl (stW cs (sh a 1) S) sS.heap := hPs
  have hPv : va_P G vwCl (viW cs (sh a 9) ((sh a 1) 0) (aI F) (cB Fl) (cB Pt)) sS.heap := hPv
  have hKp : va_P G vwCl (pkW cs (sh a 13) ((sh a 1) 0) (aI U) (aI Q) (aI N)) sS.heap := hKp
  have hTx : va_P G vwCl (txW cs (sh a 17) T lo hi_ X) sS.heap := hTx
  have hHi : va_P G vwCl (hiW cs (sh a 19) o n) sS.heap := hHi
  have hRg : ∀ i, i < 5 → va_P G vwCl (stW cs (sh a (21 + 8 * i)) (R i)) sS.heap := hRg
  have hSn : va_P G vwCl (snW cs (sh a 61) w k) sS.heap := hSn
  have hSw : ∀ i, i < 2 → k i = true → va_P G vwCl (stW cs (sh w (8 * i)) (V i)) sS.heap := hSw
  have wf0 := wf
  obtain ⟨w0, w1, w2, w3, w4, wP, wC, wS, wX⟩ := wf
  have ia1 := inj_sh (k := 1) (w := 8) ia (by decide)
  refine lv_iload_n hx hb dX6_shownIn_0 rfl (lv_at hl 1 rfl) ?_
  refine z_ro (zrS (As := [.int (zI q)]) (rest := []) (Pw := fun _ => True) ⟨hx, hb, hml, hown, hts⟩ (c_X6_isNoLine l G cs q (by omega)) gX6_shownIn_X6_isNoLine rfl qX6_isNoLine rfl rfl ⟨Nat.le_of_ble_eq_true rfl, Nat.le_of_ble_eq_true rfl⟩ trivial hK hl.1 rfl (Nat.le_of_ble_eq_true rfl) dX6_shownIn_1 ⟨Nat.le_of_ble_eq_true rfl, Nat.le_of_ble_eq_true rfl⟩) ?_
  refine z_bif_ne (tgt := 15) hx hb dX6_shownIn_4 (by decide) (fun c1 => ?_) (fun c1 => ?_)
  · skip
    simp only [decide_eq_true_eq] at c1
    refine z_iconst (n := -1) hx hb dX6_shownIn_15 ?_
    exact w_iret hx hb hr hlk dX6_shownIn_16 hS ⟨by unfold shownInF; rw [if_pos (show ¬ ((0 ≤ q ∧ q < 32) ∧ (0 ≤ z ∧ z < S 0 1)) by omega)], ⟨F, Fl, Pt, U, Q, N, T, lo, hi_, o, R, ⟨hTF, hT0⟩, ⟨ho, hRing⟩, hXo, hPs, hPv, hKp, hTx, hHi, hRg, hSn, hSw⟩⟩
  · skip
    simp only [decide_eq_false_iff_not] at c1
    refine lv_aload_n hx hb dX6_shownIn_7 rfl (lv_at hl 0 rfl) ?_
    refine lv_iload_n hx hb dX6_shownIn_8 rfl (lv_at hl 2 rfl) ?_
    refine z_ro (zrV (As := [.int (zI z)]) (rest := []) (Pw := fun H => va_P G vwCl (xoW a) H ∧ va_P G vwCl (stW cs (sh a 1) S) H) ⟨hx, hb, hml, hown, hts⟩ (c_X6_isNoSprite l G cs a S z wf0 (by omega)) gX6_shownIn_X6_isNoSprite rfl qX6_isNoSprite rfl rfl ⟨Nat.le_of_ble_eq_true rfl, Nat.le_of_ble_eq_true rfl⟩ ⟨hXo, hPs⟩ hK (va_recv hK.1 hXo (ci := 6) (q0 := 0) rfl rfl) hl.1 rfl (Nat.le_of_ble_eq_true rfl) dX6_shownIn_9 ⟨Nat.le_of_ble_eq_true rfl, Nat.le_of_ble_eq_true rfl⟩) ?_
    refine z_bif_eq (tgt := 17) hx hb dX6_shownIn_12 (by decide) (fun c2 => ?_) (fun c2 => ?_)
    · skip
      simp only [decide_eq_false_iff_not] at c2
      refine z_iconst (n := 0) hx hb dX6_shownIn_17 ?_
      refine lv_istore_n (lv' := [(3, .int (zI 0)), (0, .ref (a 0)), (1, .int (zI q)), (2, .int (zI z))]) hx hb dX6_shownIn_18 rfl hl (by decide) rfl (fun ls hl => ?_)
      -- loop 19
      refine z_loopH (nL := 4) (fun ((i, F1) : Int × (Int → Int)) => [(0, .ref (a 0)), (1, .int (zI q)), (2, .int (zI z)), (3, .int (zI i))]) (fun ((i, F1) : Int × (Int → Int)) (H : Heap) => ((0 ≤ i ∧ i ≤ 21) ∧ ∀ j, 0 ≤ j → j < i → shownB S q (S 0 4 + j) z = false) ∧ va_P G vwCl (xoW a) H ∧ va_P G vwCl (stW cs (sh a 1) S) H ∧ va_P G vwCl (viW cs (sh a 9) ((sh a 1) 0) (aI F1) (cB Fl) (cB Pt)) H ∧ va_P G vwCl (pkW cs (sh a 13) ((sh a 1) 0) (aI U) (aI Q) (aI N)) H ∧ va_P G vwCl (txW cs (sh a 17) T lo hi_ X) H ∧ va_P G vwCl (hiW cs (sh a 19) o n) H ∧ (∀ i, i < 5 → va_P G vwCl (stW cs (sh a (21 + 8 * i)) (R i)) H) ∧ va_P G vwCl (snW cs (sh a 61) w k) H ∧ (∀ i, i < 2 → k i = true → va_P G vwCl (stW cs (sh w (8 * i)) (V i)) H)) (fun ((i, F1) : Int × (Int → Int)) => (21 - i).toNat) (0, F) ⟨⟨by omega, fun j h1 h2 => by omega⟩, hXo, hPs, hPv, hKp, hTx, hHi, hRg, hSn, hSw⟩ hS (lv_sub hl [1, 2, 3, 0] rfl) (fun x_ H locs hIH hS ih ls hl => ?_)
      obtain ⟨i, F1⟩ := x_
      obtain ⟨hI, hXo, hPs, hPv, hKp, hTx, hHi, hRg, hSn, hSw⟩ := hIH
      have hI : (0 ≤ i ∧ i ≤ 21) ∧ ∀ j, 0 ≤ j → j < i → shownB S q (S 0 4 + j) z = false := hI
      have hXo : va_P G vwCl (xoW a) H := hXo
      have hPs : va_P G vwCl (stW cs (sh a 1) S) H := hPs
      have hPv : va_P G vwCl (viW cs (sh a 9) ((sh a 1) 0) (aI F1) (cB Fl) (cB Pt)) H := hPv
      have hKp : va_P G vwCl (pkW cs (sh a 13) ((sh a 1) 0) (aI U) (aI Q) (aI N)) H := hKp
      have hTx : va_P G vwCl (txW cs (sh a 17) T lo hi_ X) H := hTx
      have hHi : va_P G vwCl (hiW cs (sh a 19) o n) H := hHi
      have hRg : ∀ i, i < 5 → va_P G vwCl (stW cs (sh a (21 + 8 * i)) (R i)) H := hRg
      have hSn : va_P G vwCl (snW cs (sh a 61) w k) H := hSn
      have hSw : ∀ i, i < 2 → k i = true → va_P G vwCl (stW cs (sh w (8 * i)) (V i)) H := hSw
      have hl : lv_has ls 4 [(0, .ref (a 0)), (1, .int (zI q)), (2, .int (zI z)), (3, .int (zI i))] := hl
      obtain ⟨hI, hJ⟩ := hI
      refine lv_iload_n hx hb dX6_shownIn_19 rfl (lv_at hl 3 rfl) ?_
      refine z_bipush (n := 20) hx hb dX6_shownIn_20 (by decide) ?_
      refine z_icmp_gt (tgt := 57) hx hb dX6_shownIn_22 (by decide) (by omega) (by omega) (fun c1 => ?_) (fun c1 => ?_)
      · skip
        refine z_bipush (n := -5) hx hb dX6_shownIn_57 (by decide) ?_
        exact w_iret hx hb hr hlk dX6_shownIn_59 hS ⟨by unfold shownInF; rw [if_neg (show ¬ (¬ ((0 ≤ q ∧ q < 32) ∧ (0 ≤ z ∧ z < S 0 1))) by omega), show ff (fun i => shownB S q (S 0 4 + i) z) 0 21 = -5 from ff_none (fun j h1 h2 => hJ j h1 (by omega))], ⟨F1, Fl, Pt, U, Q, N, T, lo, hi_, o, R, ⟨hTF, hT0⟩, ⟨ho, hRing⟩, hXo, hPs, hPv, hKp, hTx, hHi, hRg, hSn, hSw⟩⟩
      · skip
        refine lv_aload_n hx hb dX6_shownIn_25 rfl (lv_at hl 0 rfl) ?_
        refine va_get (D := G) (ci := 6) (v := .ref ((sh a 9) 0)) (C := RX6) (T := TX6) (N := 6) hx hb hts hi6 hown hK.1 hXo 0 rfl rfl 1 (by decide) (hts (.fieldLink RX6 21 "SpriteLines" "view" "LSpriteLines$View;") (by decide +kernel)) (fun _ h9 => h9) rfl dX6_shownIn_26 ?_
        refine lv_iload_n hx hb dX6_shownIn_29 rfl (lv_at hl 1 rfl) ?_
        refine lv_aload_n hx hb dX6_shownIn_30 rfl (lv_at hl 0 rfl) ?_
        refine va_get (D := G) (ci := 6) (v := .ref ((sh a 1) 0)) (C := RX6) (T := TX6) (N := 6) hx hb hts hi6 hown hK.1 hXo 0 rfl rfl 0 (by decide) (hts (.fieldLink RX6 10 "SpriteLines" "now" "LSpriteLines$State;") (by decide +kernel)) (fun _ h9 => h9) rfl dX6_shownIn_31 ?_
        refine va_get (D := G) (ci := 4) (v := .int (zI (S 0 4))) (C := RX4) (T := TX4) (N := 9) hx hb hts hi4 hown hK.1 hPs 0 rfl rfl 0 (by decide) (hts (.fieldLink RX6 163 "SpriteLines$State" "frame" "I") (by decide +kernel)) (fun _ h9 => h9) rfl dX6_shownIn_34 ?_
        refine lv_iload_n hx hb dX6_shownIn_37 rfl (lv_at hl 3 rfl) ?_
        refine z_iadd hx hb dX6_shownIn_38 ?_
        refine z_w (zrV (As := [.int (zI q), .int (zI ((S 0 4) + i))]) (rest := []) (Pw := fun H => va_P G vwCl (stW cs (sh a 1) S) H ∧ va_P G vwCl (viW cs (sh a 9) ((sh a 1) 0) (aI F1) (cB Fl) (cB Pt)) H) ⟨hx, hb, hml, hown, hts⟩ (c_X5_shownSet l G cs a S F1 (cB Fl) (cB Pt) q ((S 0 4) + i) ia wf0 (by omega) (by omega)) gX6_shownIn_X5_shownSet rfl qX5_shownSet rfl rfl ⟨Nat.le_of_ble_eq_true rfl, Nat.le_of_ble_eq_true rfl⟩ ⟨hPs, hPv⟩ hK (va_recv hK.1 hPv (ci := 5) (q0 := 0) rfl rfl) hl.1 rfl (Nat.le_of_ble_eq_true rfl) dX6_shownIn_39 ⟨Nat.le_of_ble_eq_true rfl, Nat.le_of_ble_eq_true rfl⟩) hS (fun q h => ax_mono h (by decide) (by decide)) (fun q h => ax_mono h (by decide) (by decide)) (fun v H locs hpost hle hk hS => ?_)
        obtain ⟨F, rfl, hPv'⟩ := hpost
        have hXo := keepO (ordXo a) hXo hk (fun j hj ⟨i, h1, h2, h3⟩ => absurd (ia j i (by omega) (by omega) h3) (by omega))
        have hPs := keepO (ordSt cs (sh a 1) S) hPs hk (fun j hj ⟨i, h1, h2, h3⟩ => absurd (ia (1 + j) i (by omega) (by omega) h3) (by omega))
        have hKp := keepO (ordPk cs (sh a 13) ((sh a 1) 0) (aI U) (aI Q) (aI N)) hKp hk (fun j hj ⟨i, h1, h2, h3⟩ => absurd (ia (13 + j) i (by omega) (by omega) h3) (by omega))
        have hTx := keepO (ordTx cs (sh a 17) T lo hi_ X) hTx hk (fun j hj ⟨i, h1, h2, h3⟩ => absurd (ia (17 + j) i (by omega) (by omega) h3) (by omega))
        have hHi := keepO (ordHi cs (sh a 19) o n) hHi hk (fun j hj ⟨i, h1, h2, h3⟩ => absurd (ia (19 + j) i (by omega) (by omega) h3) (by omega))
        have hRg : ∀ i, i < 5 → va_P G vwCl (stW cs (sh a (21 + 8 * i)) (R i)) H := fun i hi => keepO (ordSt _ _ _) (hRg i hi) hk (fun j hj ⟨i', h1, h2, h3⟩ => absurd (ia (21 + 8 * i + j) i' (by omega) (by omega) h3) (by omega))
        have hSn := keepO (ordSn cs (sh a 61) w k) hSn hk (fun j hj ⟨i, h1, h2, h3⟩ => absurd (ia (61 + j) i (by omega) (by omega) h3) (by omega))
        have hSw : ∀ i, i < 2 → k i = true → va_P G vwCl (stW cs (sh w (8 * i)) (V i)) H := fun i hi hk9 => keepO (ordSt _ _ _) (hSw i hi hk9) hk (fun j hj ⟨i', h1, h2, h3⟩ => absurd h3.symm (hsd.1 i' i j (by omega) hi hj hk9))
        have hPv : va_P G vwCl (viW cs (sh a 9) ((sh a 1) 0) (aI F) (cB Fl) (cB Pt)) H := hPv'
        refine lv_iload_n hx hb dX6_shownIn_42 rfl (lv_at hl 2 rfl) ?_
        refine z_ro (zrS (As := [.int (iB (fun k => decide ((k : Int) < S 0 1) && shownB S q ((S 0 4) + i) k)), .int (zI z)]) (rest := []) (Pw := fun _ => True) ⟨hx, hb, hml, hown, hts⟩ (c_X6_contains l G cs (fun k => decide ((k : Int) < S 0 1) && shownB S q ((S 0 4) + i) k) z (by omega)) gX6_shownIn_X6_contains rfl qX6_contains rfl rfl ⟨Nat.le_of_ble_eq_true rfl, Nat.le_of_ble_eq_true rfl⟩ trivial hK hl.1 rfl (Nat.le_of_ble_eq_true rfl) dX6_shownIn_43 ⟨Nat.le_of_ble_eq_true rfl, Nat.le_of_ble_eq_true rfl⟩) ?_
        refine z_top (v' := .int (zI (b2 (shownB S q (S 0 4 + i) z)))) (congrArg (fun q => Value.int (zI (b2 q))) (bits_sh (by omega) (by omega))) ?_
        refine z_bif_eq (tgt := 51) hx hb dX6_shownIn_46 (by decide) (fun c7 => ?_) (fun c7 => ?_)
        · skip
          refine z_iinc (k := 3) (lv' := [(3, .int (zI (i + 1))), (0, .ref (a 0)), (1, .int (zI q)), (2, .int (zI z))]) hx hb dX6_shownIn_51 hl rfl (by decide) rfl (fun ls hl => ?_)
          refine lv_goto (tgt := 19) hx hb dX6_shownIn_54 (by decide) ?_
          exact ih (i + 1, F) H locs ⟨⟨by omega, fun j q1 q2 => by
      by_cases e : j = i
      · subst e; exact c7
      · exact hJ j q1 (by omega)⟩, hXo, hPs, hPv, hKp, hTx, hHi, hRg, hSn, hSw⟩ hS (by show (21 - (i + 1)).toNat < (21 - i).toNat; omega) ls (lv_sub hl [1, 2, 3, 0] rfl)
        · skip
          refine lv_iload_n hx hb dX6_shownIn_49 rfl (lv_at hl 3 rfl) ?_
          exact w_iret hx hb hr hlk dX6_shownIn_50 hS ⟨by unfold shownInF; rw [if_neg (show ¬ (¬ ((0 ≤ q ∧ q < 32) ∧ (0 ≤ z ∧ z < S 0 1))) by omega), show ff (fun i => shownB S q (S 0 4 + i) z) 0 21 = i from ff_hit i (fun j h1 h2 => hJ j h1 h2) hI.1 (by omega) c7], ⟨F, Fl, Pt, U, Q, N, T, lo, hi_, o, R, ⟨hTF, hT0⟩, ⟨ho, hRing⟩, hXo, hPs, hPv, hKp, hTx, hHi, hRg, hSn, hSw⟩⟩
    · skip
      simp only [decide_eq_true_eq] at c2
      refine z_iconst (n := -1) hx hb dX6_shownIn_15 ?_
      exact w_iret hx hb hr hlk dX6_shownIn_16 hS ⟨by unfold shownInF; rw [if_pos (show ¬ ((0 ≤ q ∧ q < 32) ∧ (0 ≤ z ∧ z < S 0 1)) by omega)], ⟨F, Fl, Pt, U, Q, N, T, lo, hi_, o, R, ⟨hTF, hT0⟩, ⟨ho, hRing⟩, hXo, hPs, hPv, hKp, hTx, hHi, hRg, hSn, hSw⟩⟩

set_option maxHeartbeats 4000000 in
set_option maxRecDepth 100000 in
theorem c_X6_count (l : Launch) (G : va_G) (cs : Nat → ClassId) (a w : Nat → Nat) (S : SS) (n : Int) (L : Nat → SS) (tl : Int) (X : Int → Int) (k : Nat → Bool) (V : Nat → SS) (t : Int) (ia : Inj a 62) (hsd : SnD a w k) (hA : AWF (S, (n, L), (tl, X), (k, V))) (r_t : -2147483648 ≤ t ∧ t < 2147483648) : MW l yX6_count wsX6_count { frames := 6, cells := 0, slots := 0, locals := 145 } G cs [.ref (a 0), .int (zI t)] (fun H => XI G cs a w (S, (n, L), (tl, X), (k, V)) H) (fun vv H => vv = .int (zI (countF (S, (n, L), (tl, X), (k, V)) t)) ∧ XI G cs a w (S, (n, L), (tl, X), (k, V)) H) (AX a 0 62) 0 0 := by
  refine m_intro (Pw := (fun H => XI G cs a w (S, (n, L), (tl, X), (k, V)) H)) (cc := cX6_count) (maxL := 2) (ret := some .int) RX6 (by decide) rfl rfl (Nat.le_of_ble_eq_true rfl) ?_
  intro pP eE sS mM below meth cC hx hb hr hts hown hml hlk hnm hPre hK ls hl
  have hl : lv_has ls 2 [(0, .ref (a 0)), (1, .int (zI t))] := hl
  have hXI := hPre
  have hS : va_S (AX a 0 62) sS.heap sS.heap [] := va_S.rf
  have hi0 : ∀ w ∈ u_ws RX0 TX0 3, w ∈ wsX6_count := by decide +kernel
  have hi2 : ∀ w ∈ u_ws RX2 TX2 9, w ∈ wsX6_count := by decide +kernel
  have hi3 : ∀ w ∈ u_ws RX3 TX3 3, w ∈ wsX6_count := by decide +kernel
  have hi4 : ∀ w ∈ u_ws RX4 TX4 9, w ∈ wsX6_count := by decide +kernel
  have hi6 : ∀ w ∈ u_ws RX6 TX6 6, w ∈ wsX6_count := by decide +kernel
  obtain ⟨F, Fl, Pt, U, Q, N, T, lo, hi_, o, R, ⟨hTF, hT0⟩, ⟨ho, hRing⟩, hXo, hPs, hPv, hKp, hTx, hHi, hRg, hSn, hSw⟩ := hXI
  obtain ⟨wf, ⟨hn, hL9⟩, ⟨htl, hX⟩, hV9⟩ := hA
  have hT0 : T 0 = tl := hT0
  have hRing : ∀ i : Nat, (i : Int) < n → R ((o + i) % 5).toNat = L i := hRing
  have wf : WF S := wf
  have hn : 0 ≤ n ∧ n ≤ 5 := hn
  have htl : 0 ≤ tl ∧ tl ≤ 60 := htl
  have hX : ∀ j, 0 ≤ j → j < 60 → 0 ≤ X j ∧ X j < 65536 := hX
  have hXo : va_P G vwCl (xoW a) sS.heap := hXo
  have hPs : va_P G vwCl (stW cs (sh a 1) S) sS.heap := hPs
  have hPv : va_P G vwCl (viW cs (sh a 9) ((sh a 1) 0) (aI F) (cB Fl) (cB Pt)) sS.heap := hPv
  have hKp : va_P G vwCl (pkW cs (sh a 13) ((sh a 1) 0) (aI U) (aI Q) (aI N)) sS.heap := hKp
  have hTx : va_P G vwCl (txW cs (sh a 17) T lo hi_ X) sS.heap := hTx
  have hHi : va_P G vwCl (hiW cs (sh a 19) o n) sS.heap := hHi
  have hRg : ∀ i, i < 5 → va_P G vwCl (stW cs (sh a (21 + 8 * i)) (R i)) sS.heap := hRg
  have hSn : va_P G vwCl (snW cs (sh a 61) w k) sS.heap := hSn
  have hSw : ∀ i, i < 2 → k i = true → va_P G vwCl (stW cs (sh w (8 * i)) (V i)) sS.heap := hSw
  have wf0 := wf
  obtain ⟨w0, w1, w2, w3, w4, wP, wC, wS, wX⟩ := wf
  have ia1 := inj_sh (k := 1) (w := 8) ia (by decide)
  refine lv_iload_n hx hb dX6_count_0 rfl (lv_at hl 1 rfl) ?_
  by_cases t1 : t = 0
  · refine z_tableIn (j := 0) (off := 71) (tgt := 72) hx hb dX6_count_1 t1 (by decide) (by decide) (by decide) rfl (by decide) ?_
    refine lv_aload_n hx hb dX6_count_72 rfl (lv_at hl 0 rfl) ?_
    refine va_get (D := G) (ci := 6) (v := .ref ((sh a 1) 0)) (C := RX6) (T := TX6) (N := 6) hx hb hts hi6 hown hK.1 hXo 0 rfl rfl 0 (by decide) (hts (.fieldLink RX6 10 "SpriteLines" "now" "LSpriteLines$State;") (by decide +kernel)) (fun _ h9 => h9) rfl dX6_count_73 ?_
    refine va_get (D := G) (ci := 4) (v := .ref ((sh a 1) 1)) (C := RX4) (T := TX4) (N := 9) hx hb hts hi4 hown hK.1 hPs 0 rfl rfl 4 (by decide) (hts (.fieldLink RX6 50 "SpriteLines$State" "sheet" "LSpriteLines$Sheet;") (by decide +kernel)) (fun _ h9 => h9) rfl dX6_count_76 ?_
    refine va_get (D := G) (ci := 3) (v := .int (zI (S 0 0))) (C := RX3) (T := TX3) (N := 3) hx hb hts hi3 hown hK.1 hPs 1 rfl rfl 0 (by decide) (hts (.fieldLink RX6 54 "SpriteLines$Sheet" "parts" "I") (by decide +kernel)) (fun _ h9 => h9) rfl dX6_count_79 ?_
    exact w_iret hx hb hr hlk dX6_count_82 hS ⟨by unfold countF; rw [if_pos (show t = 0 by omega)], ⟨F, Fl, Pt, U, Q, N, T, lo, hi_, o, R, ⟨hTF, hT0⟩, ⟨ho, hRing⟩, hXo, hPs, hPv, hKp, hTx, hHi, hRg, hSn, hSw⟩⟩
  by_cases t2 : t = 1
  · refine z_tableIn (j := 1) (off := 82) (tgt := 83) hx hb dX6_count_1 t2 (by decide) (by decide) (by decide) rfl (by decide) ?_
    refine lv_aload_n hx hb dX6_count_83 rfl (lv_at hl 0 rfl) ?_
    refine va_get (D := G) (ci := 6) (v := .ref ((sh a 1) 0)) (C := RX6) (T := TX6) (N := 6) hx hb hts hi6 hown hK.1 hXo 0 rfl rfl 0 (by decide) (hts (.fieldLink RX6 10 "SpriteLines" "now" "LSpriteLines$State;") (by decide +kernel)) (fun _ h9 => h9) rfl dX6_count_84 ?_
    refine va_get (D := G) (ci := 4) (v := .int (zI (S 0 1))) (C := RX4) (T := TX4) (N := 9) hx hb hts hi4 hown hK.1 hPs 0 rfl rfl 3 (by decide) (hts (.fieldLink RX6 128 "SpriteLines$State" "sprites" "I") (by decide +kernel)) (fun _ h9 => h9) rfl dX6_count_87 ?_
    exact w_iret hx hb hr hlk dX6_count_90 hS ⟨by unfold countF; rw [if_neg (show ¬ t = 0 by omega), if_pos (show t = 1 by omega)], ⟨F, Fl, Pt, U, Q, N, T, lo, hi_, o, R, ⟨hTF, hT0⟩, ⟨ho, hRing⟩, hXo, hPs, hPv, hKp, hTx, hHi, hRg, hSn, hSw⟩⟩
  by_cases t3 : t = 2
  · refine z_tableIn (j := 2) (off := 90) (tgt := 91) hx hb dX6_count_1 t3 (by decide) (by decide) (by decide) rfl (by decide) ?_
    refine lv_aload_n hx hb dX6_count_91 rfl (lv_at hl 0 rfl) ?_
    refine va_get (D := G) (ci := 6) (v := .ref ((sh a 1) 0)) (C := RX6) (T := TX6) (N := 6) hx hb hts hi6 hown hK.1 hXo 0 rfl rfl 0 (by decide) (hts (.fieldLink RX6 10 "SpriteLines" "now" "LSpriteLines$State;") (by decide +kernel)) (fun _ h9 => h9) rfl dX6_count_92 ?_
    refine z_ro (zrV (As := []) (rest := []) ⟨hx, hb, hml, hown, hts⟩ (c_X4_spritesOn l G cs (sh a 1) S wf0) gX6_count_X4_spritesOn rfl qX4_spritesOn rfl rfl ⟨Nat.le_of_ble_eq_true rfl, Nat.le_of_ble_eq_true rfl⟩ hPs hK (va_recv hK.1 hPs (ci := 4) (q0 := 0) rfl rfl) hl.1 rfl (Nat.le_of_ble_eq_true rfl) dX6_count_95 ⟨Nat.le_of_ble_eq_true rfl, Nat.le_of_ble_eq_true rfl⟩) ?_
    exact w_iret hx hb hr hlk dX6_count_98 hS ⟨by unfold countF; rw [if_neg (show ¬ t = 0 by omega), if_neg (show ¬ t = 1 by omega), if_pos (show t = 2 by omega)], ⟨F, Fl, Pt, U, Q, N, T, lo, hi_, o, R, ⟨hTF, hT0⟩, ⟨ho, hRing⟩, hXo, hPs, hPv, hKp, hTx, hHi, hRg, hSn, hSw⟩⟩
  by_cases t4 : t = 3
  · refine z_tableIn (j := 3) (off := 98) (tgt := 99) hx hb dX6_count_1 t4 (by decide) (by decide) (by decide) rfl (by decide) ?_
    refine lv_aload_n hx hb dX6_count_99 rfl (lv_at hl 0 rfl) ?_
    refine va_get (D := G) (ci := 6) (v := .ref ((sh a 9) 0)) (C := RX6) (T := TX6) (N := 6) hx hb hts hi6 hown hK.1 hXo 0 rfl rfl 1 (by decide) (hts (.fieldLink RX6 21 "SpriteLines" "view" "LSpriteLines$View;") (by decide +kernel)) (fun _ h9 => h9) rfl dX6_count_100 ?_
    refine z_ro (zrV (As := []) (rest := []) (Pw := fun H => va_P G vwCl (stW cs (sh a 1) S) H ∧ va_P G vwCl (viW cs (sh a 9) ((sh a 1) 0) (aI F) (cB Fl) (cB Pt)) H) ⟨hx, hb, hml, hown, hts⟩ (c_X5_countOverfullLines l G cs a S F (cB Fl) (cB Pt) wf0) gX6_count_X5_countOverfullLines rfl qX5_countOverfullLines rfl rfl ⟨Nat.le_of_ble_eq_true rfl, Nat.le_of_ble_eq_true rfl⟩ ⟨hPs, hPv⟩ hK (va_recv hK.1 hPv (ci := 5) (q0 := 0) rfl rfl) hl.1 rfl (Nat.le_of_ble_eq_true rfl) dX6_count_103 ⟨Nat.le_of_ble_eq_true rfl, Nat.le_of_ble_eq_true rfl⟩) ?_
    exact w_iret hx hb hr hlk dX6_count_106 hS ⟨by unfold countF; rw [if_neg (show ¬ t = 0 by omega), if_neg (show ¬ t = 1 by omega), if_neg (show ¬ t = 2 by omega), if_pos (show t = 3 by omega)], ⟨F, Fl, Pt, U, Q, N, T, lo, hi_, o, R, ⟨hTF, hT0⟩, ⟨ho, hRing⟩, hXo, hPs, hPv, hKp, hTx, hHi, hRg, hSn, hSw⟩⟩
  by_cases t5 : t = 4
  · refine z_tableIn (j := 4) (off := 106) (tgt := 107) hx hb dX6_count_1 t5 (by decide) (by decide) (by decide) rfl (by decide) ?_
    refine lv_aload_n hx hb dX6_count_107 rfl (lv_at hl 0 rfl) ?_
    refine va_get (D := G) (ci := 6) (v := .ref ((sh a 9) 0)) (C := RX6) (T := TX6) (N := 6) hx hb hts hi6 hown hK.1 hXo 0 rfl rfl 1 (by decide) (hts (.fieldLink RX6 21 "SpriteLines" "view" "LSpriteLines$View;") (by decide +kernel)) (fun _ h9 => h9) rfl dX6_count_108 ?_
    refine z_ro (zrV (As := []) (rest := []) (Pw := fun H => va_P G vwCl (stW cs (sh a 1) S) H ∧ va_P G vwCl (viW cs (sh a 9) ((sh a 1) 0) (aI F) (cB Fl) (cB Pt)) H) ⟨hx, hb, hml, hown, hts⟩ (c_X5_mostCovering l G cs a S F (cB Fl) (cB Pt) wf0) gX6_count_X5_mostCovering rfl qX5_mostCovering rfl rfl ⟨Nat.le_of_ble_eq_true rfl, Nat.le_of_ble_eq_true rfl⟩ ⟨hPs, hPv⟩ hK (va_recv hK.1 hPv (ci := 5) (q0 := 0) rfl rfl) hl.1 rfl (Nat.le_of_ble_eq_true rfl) dX6_count_111 ⟨Nat.le_of_ble_eq_true rfl, Nat.le_of_ble_eq_true rfl⟩) ?_
    exact w_iret hx hb hr hlk dX6_count_114 hS ⟨by unfold countF; rw [if_neg (show ¬ t = 0 by omega), if_neg (show ¬ t = 1 by omega), if_neg (show ¬ t = 2 by omega), if_neg (show ¬ t = 3 by omega), if_pos (show t = 4 by omega)], ⟨F, Fl, Pt, U, Q, N, T, lo, hi_, o, R, ⟨hTF, hT0⟩, ⟨ho, hRing⟩, hXo, hPs, hPv, hKp, hTx, hHi, hRg, hSn, hSw⟩⟩
  by_cases t6 : t = 5
  · refine z_tableIn (j := 5) (off := 114) (tgt := 115) hx hb dX6_count_1 t6 (by decide) (by decide) (by decide) rfl (by decide) ?_
    refine lv_aload_n hx hb dX6_count_115 rfl (lv_at hl 0 rfl) ?_
    refine va_get (D := G) (ci := 6) (v := .ref ((sh a 1) 0)) (C := RX6) (T := TX6) (N := 6) hx hb hts hi6 hown hK.1 hXo 0 rfl rfl 0 (by decide) (hts (.fieldLink RX6 10 "SpriteLines" "now" "LSpriteLines$State;") (by decide +kernel)) (fun _ h9 => h9) rfl dX6_count_116 ?_
    refine z_ro (zrV (As := []) (rest := []) ⟨hx, hb, hml, hown, hts⟩ (c_X4_linesWithSwap l G cs (sh a 1) S wf0) gX6_count_X4_linesWithSwap rfl qX4_linesWithSwap rfl rfl ⟨Nat.le_of_ble_eq_true rfl, Nat.le_of_ble_eq_true rfl⟩ hPs hK (va_recv hK.1 hPs (ci := 4) (q0 := 0) rfl rfl) hl.1 rfl (Nat.le_of_ble_eq_true rfl) dX6_count_119 ⟨Nat.le_of_ble_eq_true rfl, Nat.le_of_ble_eq_true rfl⟩) ?_
    exact w_iret hx hb hr hlk dX6_count_122 hS ⟨by unfold countF; rw [if_neg (show ¬ t = 0 by omega), if_neg (show ¬ t = 1 by omega), if_neg (show ¬ t = 2 by omega), if_neg (show ¬ t = 3 by omega), if_neg (show ¬ t = 4 by omega), if_pos (show t = 5 by omega)], ⟨F, Fl, Pt, U, Q, N, T, lo, hi_, o, R, ⟨hTF, hT0⟩, ⟨ho, hRing⟩, hXo, hPs, hPv, hKp, hTx, hHi, hRg, hSn, hSw⟩⟩
  by_cases t7 : t = 6
  · refine z_tableIn (j := 6) (off := 122) (tgt := 123) hx hb dX6_count_1 t7 (by decide) (by decide) (by decide) rfl (by decide) ?_
    refine lv_aload_n hx hb dX6_count_123 rfl (lv_at hl 0 rfl) ?_
    refine va_get (D := G) (ci := 6) (v := .ref ((sh a 9) 0)) (C := RX6) (T := TX6) (N := 6) hx hb hts hi6 hown hK.1 hXo 0 rfl rfl 1 (by decide) (hts (.fieldLink RX6 21 "SpriteLines" "view" "LSpriteLines$View;") (by decide +kernel)) (fun _ h9 => h9) rfl dX6_count_124 ?_
    refine z_w (zrV (As := []) (rest := []) (Pw := fun H => va_P G vwCl (stW cs (sh a 1) S) H ∧ va_P G vwCl (viW cs (sh a 9) ((sh a 1) 0) (aI F) (cB Fl) (cB Pt)) H) ⟨hx, hb, hml, hown, hts⟩ (c_X5_countMeetingPairs l G cs a S F Fl Pt ia wf0) gX6_count_X5_countMeetingPairs rfl qX5_countMeetingPairs rfl rfl ⟨Nat.le_of_ble_eq_true rfl, Nat.le_of_ble_eq_true rfl⟩ ⟨hPs, hPv⟩ hK (va_recv hK.1 hPv (ci := 5) (q0 := 0) rfl rfl) hl.1 rfl (Nat.le_of_ble_eq_true rfl) dX6_count_127 ⟨Nat.le_of_ble_eq_true rfl, Nat.le_of_ble_eq_true rfl⟩) hS (fun q h => ax_mono h (by decide) (by decide)) (fun q h => ax_mono h (by decide) (by decide)) (fun v H locs hpost hle hk hS => ?_)
    obtain ⟨F, Fl2, P, rfl, hPv'⟩ := hpost
    have hXo := keepO (ordXo a) hXo hk (fun j hj ⟨i, h1, h2, h3⟩ => absurd (ia j i (by omega) (by omega) h3) (by omega))
    have hPs := keepO (ordSt cs (sh a 1) S) hPs hk (fun j hj ⟨i, h1, h2, h3⟩ => absurd (ia (1 + j) i (by omega) (by omega) h3) (by omega))
    have hKp := keepO (ordPk cs (sh a 13) ((sh a 1) 0) (aI U) (aI Q) (aI N)) hKp hk (fun j hj ⟨i, h1, h2, h3⟩ => absurd (ia (13 + j) i (by omega) (by omega) h3) (by omega))
    have hTx := keepO (ordTx cs (sh a 17) T lo hi_ X) hTx hk (fun j hj ⟨i, h1, h2, h3⟩ => absurd (ia (17 + j) i (by omega) (by omega) h3) (by omega))
    have hHi := keepO (ordHi cs (sh a 19) o n) hHi hk (fun j hj ⟨i, h1, h2, h3⟩ => absurd (ia (19 + j) i (by omega) (by omega) h3) (by omega))
    have hRg : ∀ i, i < 5 → va_P G vwCl (stW cs (sh a (21 + 8 * i)) (R i)) H := fun i hi => keepO (ordSt _ _ _) (hRg i hi) hk (fun j hj ⟨i', h1, h2, h3⟩ => absurd (ia (21 + 8 * i + j) i' (by omega) (by omega) h3) (by omega))
    have hSn := keepO (ordSn cs (sh a 61) w k) hSn hk (fun j hj ⟨i, h1, h2, h3⟩ => absurd (ia (61 + j) i (by omega) (by omega) h3) (by omega))
    have hSw : ∀ i, i < 2 → k i = true → va_P G vwCl (stW cs (sh w (8 * i)) (V i)) H := fun i hi hk9 => keepO (ordSt _ _ _) (hSw i hi hk9) hk (fun j hj ⟨i', h1, h2, h3⟩ => absurd h3.symm (hsd.1 i' i j (by omega) hi hj hk9))
    have hPv : va_P G vwCl (viW cs (sh a 9) ((sh a 1) 0) (aI F) (cB Fl2) (cB P)) H := hPv'
    exact w_iret hx hb hr hlk dX6_count_130 hS ⟨by unfold countF; rw [if_neg (show ¬ t = 0 by omega), if_neg (show ¬ t = 1 by omega), if_neg (show ¬ t = 2 by omega), if_neg (show ¬ t = 3 by omega), if_neg (show ¬ t = 4 by omega), if_neg (show ¬ t = 5 by omega), if_pos (show t = 6 by omega)], ⟨F, Fl2, P, U, Q, N, T, lo, hi_, o, R, ⟨hTF, hT0⟩, ⟨ho, hRing⟩, hXo, hPs, hPv, hKp, hTx, hHi, hRg, hSn, hSw⟩⟩
  by_cases t8 : t = 7
  · refine z_tableIn (j := 7) (off := 130) (tgt := 131) hx hb dX6_count_1 t8 (by decide) (by decide) (by decide) rfl (by decide) ?_
    refine lv_aload_n hx hb dX6_count_131 rfl (lv_at hl 0 rfl) ?_
    refine va_get (D := G) (ci := 6) (v := .ref ((sh a 1) 0)) (C := RX6) (T := TX6) (N := 6) hx hb hts hi6 hown hK.1 hXo 0 rfl rfl 0 (by decide) (hts (.fieldLink RX6 10 "SpriteLines" "now" "LSpriteLines$State;") (by decide +kernel)) (fun _ h9 => h9) rfl dX6_count_132 ?_
    refine z_ro (zrV (As := []) (rest := []) ⟨hx, hb, hml, hown, hts⟩ (c_X4_partsNotUsed l G cs (sh a 1) S wf0) gX6_count_X4_partsNotUsed rfl qX4_partsNotUsed rfl rfl ⟨Nat.le_of_ble_eq_true rfl, Nat.le_of_ble_eq_true rfl⟩ hPs hK (va_recv hK.1 hPs (ci := 4) (q0 := 0) rfl rfl) hl.1 rfl (Nat.le_of_ble_eq_true rfl) dX6_count_135 ⟨Nat.le_of_ble_eq_true rfl, Nat.le_of_ble_eq_true rfl⟩) ?_
    exact w_iret hx hb hr hlk dX6_count_138 hS ⟨by unfold countF; rw [if_neg (show ¬ t = 0 by omega), if_neg (show ¬ t = 1 by omega), if_neg (show ¬ t = 2 by omega), if_neg (show ¬ t = 3 by omega), if_neg (show ¬ t = 4 by omega), if_neg (show ¬ t = 5 by omega), if_neg (show ¬ t = 6 by omega), if_pos (show t = 7 by omega)], ⟨F, Fl, Pt, U, Q, N, T, lo, hi_, o, R, ⟨hTF, hT0⟩, ⟨ho, hRing⟩, hXo, hPs, hPv, hKp, hTx, hHi, hRg, hSn, hSw⟩⟩
  by_cases t9 : t = 8
  · refine z_tableIn (j := 8) (off := 138) (tgt := 139) hx hb dX6_count_1 t9 (by decide) (by decide) (by decide) rfl (by decide) ?_
    refine lv_aload_n hx hb dX6_count_139 rfl (lv_at hl 0 rfl) ?_
    refine va_get (D := G) (ci := 6) (v := .ref ((sh a 1) 0)) (C := RX6) (T := TX6) (N := 6) hx hb hts hi6 hown hK.1 hXo 0 rfl rfl 0 (by decide) (hts (.fieldLink RX6 10 "SpriteLines" "now" "LSpriteLines$State;") (by decide +kernel)) (fun _ h9 => h9) rfl dX6_count_140 ?_
    refine va_get (D := G) (ci := 4) (v := .int (zI (S 0 4))) (C := RX4) (T := TX4) (N := 9) hx hb hts hi4 hown hK.1 hPs 0 rfl rfl 0 (by decide) (hts (.fieldLink RX6 163 "SpriteLines$State" "frame" "I") (by decide +kernel)) (fun _ h9 => h9) rfl dX6_count_143 ?_
    exact w_iret hx hb hr hlk dX6_count_146 hS ⟨by unfold countF; rw [if_neg (show ¬ t = 0 by omega), if_neg (show ¬ t = 1 by omega), if_neg (show ¬ t = 2 by omega), if_neg (show ¬ t = 3 by omega), if_neg (show ¬ t = 4 by omega), if_neg (show ¬ t = 5 by omega), if_neg (show ¬ t = 6 by omega), if_neg (show ¬ t = 7 by omega), if_pos (show t = 8 by omega)], ⟨F, Fl, Pt, U, Q, N, T, lo, hi_, o, R, ⟨hTF, hT0⟩, ⟨ho, hRing⟩, hXo, hPs, hPv, hKp, hTx, hHi, hRg, hSn, hSw⟩⟩
  by_cases t10 : t = 9
  · refine z_tableIn (j := 9) (off := 146) (tgt := 147) hx hb dX6_count_1 t10 (by decide) (by decide) (by decide) rfl (by decide) ?_
    refine lv_aload_n hx hb dX6_count_147 rfl (lv_at hl 0 rfl) ?_
    refine va_get (D := G) (ci := 6) (v := .ref ((sh a 1) 0)) (C := RX6) (T := TX6) (N := 6) hx hb hts hi6 hown hK.1 hXo 0 rfl rfl 0 (by decide) (hts (.fieldLink RX6 10 "SpriteLines" "now" "LSpriteLines$State;") (by decide +kernel)) (fun _ h9 => h9) rfl dX6_count_148 ?_
    refine va_get (D := G) (ci := 4) (v := .int (zI (S 0 2))) (C := RX4) (T := TX4) (N := 9) hx hb hts hi4 hown hK.1 hPs 0 rfl rfl 1 (by decide) (hts (.fieldLink RX6 156 "SpriteLines$State" "limit" "I") (by decide +kernel)) (fun _ h9 => h9) rfl dX6_count_151 ?_
    exact w_iret hx hb hr hlk dX6_count_154 hS ⟨by unfold countF; rw [if_neg (show ¬ t = 0 by omega), if_neg (show ¬ t = 1 by omega), if_neg (show ¬ t = 2 by omega), if_neg (show ¬ t = 3 by omega), if_neg (show ¬ t = 4 by omega), if_neg (show ¬ t = 5 by omega), if_neg (show ¬ t = 6 by omega), if_neg (show ¬ t = 7 by omega), if_neg (show ¬ t = 8 by omega), if_pos (show t = 9 by omega)], ⟨F, Fl, Pt, U, Q, N, T, lo, hi_, o, R, ⟨hTF, hT0⟩, ⟨ho, hRing⟩, hXo, hPs, hPv, hKp, hTx, hHi, hRg, hSn, hSw⟩⟩
  by_cases t11 : t = 10
  · refine z_tableIn (j := 10) (off := 154) (tgt := 155) hx hb dX6_count_1 t11 (by decide) (by decide) (by decide) rfl (by decide) ?_
    refine lv_aload_n hx hb dX6_count_155 rfl (lv_at hl 0 rfl) ?_
    refine va_get (D := G) (ci := 6) (v := .ref ((sh a 1) 0)) (C := RX6) (T := TX6) (N := 6) hx hb hts hi6 hown hK.1 hXo 0 rfl rfl 0 (by decide) (hts (.fieldLink RX6 10 "SpriteLines" "now" "LSpriteLines$State;") (by decide +kernel)) (fun _ h9 => h9) rfl dX6_count_156 ?_
    refine va_get (D := G) (ci := 4) (v := .int (zI (S 0 3))) (C := RX4) (T := TX4) (N := 9) hx hb hts hi4 hown hK.1 hPs 0 rfl rfl 2 (by decide) (hts (.fieldLink RX6 159 "SpriteLines$State" "stride" "I") (by decide +kernel)) (fun _ h9 => h9) rfl dX6_count_159 ?_
    exact w_iret hx hb hr hlk dX6_count_162 hS ⟨by unfold countF; rw [if_neg (show ¬ t = 0 by omega), if_neg (show ¬ t = 1 by omega), if_neg (show ¬ t = 2 by omega), if_neg (show ¬ t = 3 by omega), if_neg (show ¬ t = 4 by omega), if_neg (show ¬ t = 5 by omega), if_neg (show ¬ t = 6 by omega), if_neg (show ¬ t = 7 by omega), if_neg (show ¬ t = 8 by omega), if_neg (show ¬ t = 9 by omega), if_pos (show t = 10 by omega)], ⟨F, Fl, Pt, U, Q, N, T, lo, hi_, o, R, ⟨hTF, hT0⟩, ⟨ho, hRing⟩, hXo, hPs, hPv, hKp, hTx, hHi, hRg, hSn, hSw⟩⟩
  by_cases t12 : t = 11
  · refine z_tableIn (j := 11) (off := 162) (tgt := 163) hx hb dX6_count_1 t12 (by decide) (by decide) (by decide) rfl (by decide) ?_
    refine lv_aload_n hx hb dX6_count_163 rfl (lv_at hl 0 rfl) ?_
    refine va_get (D := G) (ci := 6) (v := .ref ((sh a 9) 0)) (C := RX6) (T := TX6) (N := 6) hx hb hts hi6 hown hK.1 hXo 0 rfl rfl 1 (by decide) (hts (.fieldLink RX6 21 "SpriteLines" "view" "LSpriteLines$View;") (by decide +kernel)) (fun _ h9 => h9) rfl dX6_count_164 ?_
    refine z_w (zrV (As := []) (rest := []) (Pw := fun H => va_P G vwCl (stW cs (sh a 1) S) H ∧ va_P G vwCl (viW cs (sh a 9) ((sh a 1) 0) (aI F) (cB Fl) (cB Pt)) H) ⟨hx, hb, hml, hown, hts⟩ (c_X5_sumOfWholeWeights l G cs a S F (cB Fl) (cB Pt) ia wf0) gX6_count_X5_sumOfWholeWeights rfl qX5_sumOfWholeWeights rfl rfl ⟨Nat.le_of_ble_eq_true rfl, Nat.le_of_ble_eq_true rfl⟩ ⟨hPs, hPv⟩ hK (va_recv hK.1 hPv (ci := 5) (q0 := 0) rfl rfl) hl.1 rfl (Nat.le_of_ble_eq_true rfl) dX6_count_167 ⟨Nat.le_of_ble_eq_true rfl, Nat.le_of_ble_eq_true rfl⟩) hS (fun q h => ax_mono h (by decide) (by decide)) (fun q h => ax_mono h (by decide) (by decide)) (fun v H locs hpost hle hk hS => ?_)
    obtain ⟨F, rfl, hPv'⟩ := hpost
    have hXo := keepO (ordXo a) hXo hk (fun j hj ⟨i, h1, h2, h3⟩ => absurd (ia j i (by omega) (by omega) h3) (by omega))
    have hPs := keepO (ordSt cs (sh a 1) S) hPs hk (fun j hj ⟨i, h1, h2, h3⟩ => absurd (ia (1 + j) i (by omega) (by omega) h3) (by omega))
    have hKp := keepO (ordPk cs (sh a 13) ((sh a 1) 0) (aI U) (aI Q) (aI N)) hKp hk (fun j hj ⟨i, h1, h2, h3⟩ => absurd (ia (13 + j) i (by omega) (by omega) h3) (by omega))
    have hTx := keepO (ordTx cs (sh a 17) T lo hi_ X) hTx hk (fun j hj ⟨i, h1, h2, h3⟩ => absurd (ia (17 + j) i (by omega) (by omega) h3) (by omega))
    have hHi := keepO (ordHi cs (sh a 19) o n) hHi hk (fun j hj ⟨i, h1, h2, h3⟩ => absurd (ia (19 + j) i (by omega) (by omega) h3) (by omega))
    have hRg : ∀ i, i < 5 → va_P G vwCl (stW cs (sh a (21 + 8 * i)) (R i)) H := fun i hi => keepO (ordSt _ _ _) (hRg i hi) hk (fun j hj ⟨i', h1, h2, h3⟩ => absurd (ia (21 + 8 * i + j) i' (by omega) (by omega) h3) (by omega))
    have hSn := keepO (ordSn cs (sh a 61) w k) hSn hk (fun j hj ⟨i, h1, h2, h3⟩ => absurd (ia (61 + j) i (by omega) (by omega) h3) (by omega))
    have hSw : ∀ i, i < 2 → k i = true → va_P G vwCl (stW cs (sh w (8 * i)) (V i)) H := fun i hi hk9 => keepO (ordSt _ _ _) (hSw i hi hk9) hk (fun j hj ⟨i', h1, h2, h3⟩ => absurd h3.symm (hsd.1 i' i j (by omega) hi hj hk9))
    have hPv : va_P G vwCl (viW cs (sh a 9) ((sh a 1) 0) (aI F) (cB Fl) (cB Pt)) H := hPv'
    exact w_iret hx hb hr hlk dX6_count_170 hS ⟨by unfold countF; rw [if_neg (show ¬ t = 0 by omega), if_neg (show ¬ t = 1 by omega), if_neg (show ¬ t = 2 by omega), if_neg (show ¬ t = 3 by omega), if_neg (show ¬ t = 4 by omega), if_neg (show ¬ t = 5 by omega), if_neg (show ¬ t = 6 by omega), if_neg (show ¬ t = 7 by omega), if_neg (show ¬ t = 8 by omega), if_neg (show ¬ t = 9 by omega), if_neg (show ¬ t = 10 by omega), if_pos (show t = 11 by omega)], ⟨F, Fl, Pt, U, Q, N, T, lo, hi_, o, R, ⟨hTF, hT0⟩, ⟨ho, hRing⟩, hXo, hPs, hPv, hKp, hTx, hHi, hRg, hSn, hSw⟩⟩
  by_cases t13 : t = 12
  · refine z_tableIn (j := 12) (off := 170) (tgt := 171) hx hb dX6_count_1 t13 (by decide) (by decide) (by decide) rfl (by decide) ?_
    refine lv_aload_n hx hb dX6_count_171 rfl (lv_at hl 0 rfl) ?_
    refine va_get (D := G) (ci := 6) (v := .ref ((sh a 19) 0)) (C := RX6) (T := TX6) (N := 6) hx hb hts hi6 hown hK.1 hXo 0 rfl rfl 4 (by decide) (hts (.fieldLink RX6 42 "SpriteLines" "history" "LSpriteLines$History;") (by decide +kernel)) (fun _ h9 => h9) rfl dX6_count_172 ?_
    refine va_get (D := G) (ci := 0) (v := .int (zI n)) (C := RX0) (T := TX0) (N := 3) hx hb hts hi0 hown hK.1 hHi 0 rfl rfl 2 (by decide) (hts (.fieldLink RX6 167 "SpriteLines$History" "size" "I") (by decide +kernel)) (fun _ h9 => h9) rfl dX6_count_175 ?_
    exact w_iret hx hb hr hlk dX6_count_178 hS ⟨by unfold countF; rw [if_neg (show ¬ t = 0 by omega), if_neg (show ¬ t = 1 by omega), if_neg (show ¬ t = 2 by omega), if_neg (show ¬ t = 3 by omega), if_neg (show ¬ t = 4 by omega), if_neg (show ¬ t = 5 by omega), if_neg (show ¬ t = 6 by omega), if_neg (show ¬ t = 7 by omega), if_neg (show ¬ t = 8 by omega), if_neg (show ¬ t = 9 by omega), if_neg (show ¬ t = 10 by omega), if_neg (show ¬ t = 11 by omega), if_pos (show t = 12 by omega)], ⟨F, Fl, Pt, U, Q, N, T, lo, hi_, o, R, ⟨hTF, hT0⟩, ⟨ho, hRing⟩, hXo, hPs, hPv, hKp, hTx, hHi, hRg, hSn, hSw⟩⟩
  by_cases t14 : t = 13
  · refine z_tableIn (j := 13) (off := 178) (tgt := 179) hx hb dX6_count_1 t14 (by decide) (by decide) (by decide) rfl (by decide) ?_
    refine lv_aload_n hx hb dX6_count_179 rfl (lv_at hl 0 rfl) ?_
    refine va_get (D := G) (ci := 6) (v := .ref ((sh a 17) 0)) (C := RX6) (T := TX6) (N := 6) hx hb hts hi6 hown hK.1 hXo 0 rfl rfl 3 (by decide) (hts (.fieldLink RX6 35 "SpriteLines" "text" "LSpriteLines$PixelText;") (by decide +kernel)) (fun _ h9 => h9) rfl dX6_count_180 ?_
    refine va_get (D := G) (ci := 2) (v := .int (zI (T 0))) (C := RX2) (T := TX2) (N := 9) hx hb hts hi2 hown hK.1 hTx 0 rfl rfl 1 (by decide) (hts (.fieldLink RX6 82 "SpriteLines$PixelText" "length" "I") (by decide +kernel)) (fun _ h9 => h9) rfl dX6_count_183 ?_
    exact w_iret hx hb hr hlk dX6_count_186 hS ⟨by unfold countF; rw [if_neg (show ¬ t = 0 by omega), if_neg (show ¬ t = 1 by omega), if_neg (show ¬ t = 2 by omega), if_neg (show ¬ t = 3 by omega), if_neg (show ¬ t = 4 by omega), if_neg (show ¬ t = 5 by omega), if_neg (show ¬ t = 6 by omega), if_neg (show ¬ t = 7 by omega), if_neg (show ¬ t = 8 by omega), if_neg (show ¬ t = 9 by omega), if_neg (show ¬ t = 10 by omega), if_neg (show ¬ t = 11 by omega), if_neg (show ¬ t = 12 by omega), if_pos (show t = 13 by omega)]; exact congrArg (fun z => Value.int (zI z)) hT0, ⟨F, Fl, Pt, U, Q, N, T, lo, hi_, o, R, ⟨hTF, hT0⟩, ⟨ho, hRing⟩, hXo, hPs, hPv, hKp, hTx, hHi, hRg, hSn, hSw⟩⟩
  refine z_tableOut (tgt := 187) hx hb dX6_count_1 (by omega) (by omega) (by decide) ?_
  refine z_bipush (n := -2) hx hb dX6_count_187 (by decide) ?_
  exact w_iret hx hb hr hlk dX6_count_189 hS ⟨by unfold countF; rw [if_neg (show ¬ t = 0 by omega), if_neg (show ¬ t = 1 by omega), if_neg (show ¬ t = 2 by omega), if_neg (show ¬ t = 3 by omega), if_neg (show ¬ t = 4 by omega), if_neg (show ¬ t = 5 by omega), if_neg (show ¬ t = 6 by omega), if_neg (show ¬ t = 7 by omega), if_neg (show ¬ t = 8 by omega), if_neg (show ¬ t = 9 by omega), if_neg (show ¬ t = 10 by omega), if_neg (show ¬ t = 11 by omega), if_neg (show ¬ t = 12 by omega), if_neg (show ¬ t = 13 by omega)], ⟨F, Fl, Pt, U, Q, N, T, lo, hi_, o, R, ⟨hTF, hT0⟩, ⟨ho, hRing⟩, hXo, hPs, hPv, hKp, hTx, hHi, hRg, hSn, hSw⟩⟩
