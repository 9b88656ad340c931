section LW
variable {p : Program} {l : Launch} {e : Env} {s : State} {mM : MethodId} {below : List Frame} {meth : Method} {c : Code} {H : Heap} {locs : List Loc} {cells slots : Nat} {Q : State → Prop} {ls : Array Slot} {G : va_G} {cs : Nat → ClassId} {a m w : Nat → Nat} {A : AS} {b L : Nat} {xs : Nat → Int32} {i : Int}
set_option maxHeartbeats 4000000 in
set_option maxRecDepth 100000 in
theorem law_c14 (hC : LC p s mM c b L xs) (hK : kK G cs s) (hF : LF a m s.heap.size) (hLI : LI G cs a m s.heap.size A w H) (hS : va_S (fun q => s.heap.size ≤ q) s.heap H locs) (hl : lv_has ls 8 (lvL b a m i)) (hi : 0 ≤ i ∧ i + 5 ≤ L) (hc : cells + 8 ≤ 600000 ∧ slots + 260 ≤ 7302250) (K : KT p l e s mM below meth c G cs a m b i (cells + 8) (slots + 260) Q) : W p l e room_1 s mM #[Value.ref b] below meth c H locs cells slots Q (F0 mM 620 ls []) := by
  obtain ⟨hx, hb, hml, hown, hts, hX, hbl, hL⟩ := hC
  obtain ⟨S, ⟨n, L9⟩, ⟨tl, X⟩, ⟨k, V⟩⟩ := A
  obtain ⟨hA, hXI, hMI, hsd, hW⟩ := hLI
  have hsd : SnD a w k := hsd
  have hW : ∀ s9 j9, s9 < 2 → j9 < 8 → k s9 = true → s.heap.size ≤ w (8 * s9 + j9) ∧ ∀ i9, i9 < 10 → w (8 * s9 + j9) ≠ m i9 := hW
  have hbA : ¬ (fun q : Nat => s.heap.size ≤ q) b := Nat.not_le.mpr hbl
  have hl : lv_has ls 8 [(0, .ref b), (1, .ref (a 0)), (2, .ref (m 0)), (3, .int (zI i))] := hl
  refine lv_aload_n hx hb dL_law_620 rfl (lv_at hl 1 rfl) ?_
  refine z_w (zrV (As := []) (rest := []) ⟨hx, hb, hml, hown, hts⟩ (c_X6_undo l G cs a w S n L9 tl X k V  hF.1 hsd hA ) gL_law_X6_undo rfl qX6_undo rfl rfl ⟨Nat.le_of_ble_eq_true rfl, Nat.le_of_ble_eq_true rfl⟩ hXI hK (va_recv hK.1 hXI.xo (ci := 6) (q0 := 0) rfl rfl) hl.1 rfl (Nat.le_of_ble_eq_true rfl) dL_law_621 (show cells + 0 ≤ 600000 ∧ slots + 0 ≤ 7302250 by omega)) hS (lf_a hF) (lf_a hF) (fun v H1 locs1 hpost hle hk hS1 => ?_)
  obtain ⟨rfl, hXI1⟩ := hpost
  have hMI1 := li_m hF hMI hk
  have hS := hS1
  clear hS1
  refine lv_aload_n hx hb dL_law_624 rfl (lv_at hl 2 rfl) ?_
  obtain ⟨rn9, hMo9⟩ := hMIo hMI1
  refine z_w (zrV (As := []) (rest := [.int (zI ((undoF (S, (n, L9), (tl, X), (k, V))).1))]) ⟨hx, hb, hml, hown, hts⟩ (c_X7_undo l G cs m S n L9 tl X k V  hF.2.1 hA ) gL_law_X7_undo rfl qX7_undo rfl rfl ⟨Nat.le_of_ble_eq_true rfl, Nat.le_of_ble_eq_true rfl⟩ hMI1 hK (va_recv hK.1 hMo9 (ci := 7) (q0 := 0) rfl rfl) hl.1 rfl (Nat.le_of_ble_eq_true rfl) dL_law_625 (show cells + 0 + 0 ≤ 600000 ∧ slots + 0 + 0 ≤ 7302250 by omega)) hS (lf_m hF) (lf_m hF) (fun v H2 locs2 hpost hle hk hS2 => ?_)
  obtain ⟨rfl, hMI2⟩ := hpost
  have hS := hS2
  clear hS2
  have hkp := congrArg Prod.fst (kp_undo (A := (S, (n, L9), (tl, X), (k, V))))
  have hW2 : ∀ s9 j9, s9 < 2 → j9 < 8 → (undoF (S, (n, L9), (tl, X), (k, V))).2.2.2.2.1 s9 = true → s.heap.size ≤ w (8 * s9 + j9) ∧ ∀ i9, i9 < 10 → w (8 * s9 + j9) ≠ m i9 := by rw [hkp]; exact hW
  have hsd2 : SnD a w (undoF (S, (n, L9), (tl, X), (k, V))).2.2.2.2.1 := by rw [hkp]; exact hsd
  have hXI2 := li_x hF hXI1 hW2 hk
  refine lv_icmp_eq (tgt := 1082) hx hb dL_law_628 (by decide) (fun _ => ?_) (fun h9 => absurd rfl h9)
  refine W.widen (k := cells + 8) (n := slots + 260) (by omega) (by omega) ?_
  exact K (undoF (S, (n, L9), (tl, X), (k, V))).2 w _ _ ⟨awf_undo hA, hXI2, hMI2, hsd2, hW2⟩ hS _ hl

set_option maxHeartbeats 4000000 in
set_option maxRecDepth 100000 in
theorem law_c15 (hC : LC p s mM c b L xs) (hK : kK G cs s) (hF : LF a m s.heap.size) (hLI : LI G cs a m s.heap.size A w H) (hS : va_S (fun q => s.heap.size ≤ q) s.heap H locs) (hl : lv_has ls 8 (lvL b a m i)) (hi : 0 ≤ i ∧ i + 5 ≤ L) (hc : cells + 8 ≤ 600000 ∧ slots + 260 ≤ 7302250) (K : KT p l e s mM below meth c G cs a m b i (cells + 8) (slots + 260) Q) : W p l e room_1 s mM #[Value.ref b] below meth c H locs cells slots Q (F0 mM 633 ls []) := by
  obtain ⟨hx, hb, hml, hown, hts, hX, hbl, hL⟩ := hC
  obtain ⟨S, ⟨n, L9⟩, ⟨tl, X⟩, ⟨k, V⟩⟩ := A
  obtain ⟨hA, hXI, hMI, hsd, hW⟩ := hLI
  have hsd : SnD a w k := hsd
  have hW : ∀ s9 j9, s9 < 2 → j9 < 8 → k s9 = true → s.heap.size ≤ w (8 * s9 + j9) ∧ ∀ i9, i9 < 10 → w (8 * s9 + j9) ≠ m i9 := hW
  have hbA : ¬ (fun q : Nat => s.heap.size ≤ q) b := Nat.not_le.mpr hbl
  have hl : lv_has ls 8 [(0, .ref b), (1, .ref (a 0)), (2, .ref (m 0)), (3, .int (zI i))] := hl
  refine lv_aload_n hx hb dL_law_633 rfl (lv_at hl 1 rfl) ?_
  refine lv_aload_n hx hb dL_law_634 rfl (lv_at hl 0 rfl) ?_
  refine lv_iload_n hx hb dL_law_635 rfl (lv_at hl 3 rfl) ?_
  refine z_iconst (n := 1) hx hb dL_law_636 ?_
  refine z_iadd hx hb dL_law_637 ?_
  refine z_sld hx hb hX hbl hbA hS (by omega) hL dL_law_638 ?_
  obtain ⟨hal, hwl⟩ := hXI.lt
  refine z_w (zrV (As := [.int (zI (sx xs (i + 1)))]) (rest := []) (Pw := fun U => XI G cs a w (S, (n, L9), (tl, X), (k, V)) U ∧ U.size = (fun j => H.size + j) 0) ⟨hx, hb, hml, hown, hts⟩ (c_X6_keep l G cs a w S n L9 tl X k V (fun j => H.size + j) (sx xs (i + 1)) hF.1 hsd hA (sx_r _ _) (fun _ => rfl) hal hwl) gL_law_X6_keep rfl qX6_keep rfl rfl ⟨Nat.le_of_ble_eq_true rfl, Nat.le_of_ble_eq_true rfl⟩ ⟨hXI, rfl⟩ hK (va_recv hK.1 hXI.xo (ci := 6) (q0 := 0) rfl rfl) hl.1 rfl (Nat.le_of_ble_eq_true rfl) dL_law_639 (show cells + 8 ≤ 600000 ∧ slots + 260 ≤ 7302250 by omega)) hS (fun q h => by
      rcases h with h | ⟨s9, j9, h1, h2, h3, h4⟩ | h
      · exact lf_a hF q (ax_mono h (by decide) (by decide))
      · rw [h4]; exact (hW s9 j9 h1 h2 h3).1
      · exact Nat.le_trans hS.1 h) (fun q h => by
      rcases h with h | ⟨s9, j9, h1, h2, h3, h4⟩ | h
      · exact lf_a hF q (ax_mono h (by decide) (by decide))
      · rw [h4]; exact (hW s9 j9 h1 h2 h3).1
      · exact Nat.le_trans hS.1 h) (fun v H1 locs1 hpost hle hk hS1 => ?_)
  obtain ⟨rfl, w2, hsd2, hXI1, hWN⟩ := hpost
  have hml2 := hMI.lt
  have hMI1 : MI G cs m (S, (n, L9), (tl, X), (k, V)) H1 := hMI.keep hk (fun i9 hi h9 => by
      rcases h9 with ⟨j9, _, h2, h3⟩ | ⟨s9, j9, h1, h2, h3, h4⟩ | h
      · exact hF.2.2.1 j9 i9 h2 hi h3.symm
      · exact (hW s9 j9 h1 h2 h3).2 i9 hi h4.symm
      · exact absurd (hml2 i9 hi) (by have : H.size + 0 ≤ m i9 := h; omega))
  have hW2 : ∀ s9 j9, s9 < 2 → j9 < 8 → (keepF (S, (n, L9), (tl, X), (k, V)) (sx xs (i + 1))).2.2.2.2.1 s9 = true → s.heap.size ≤ w2 (8 * s9 + j9) ∧ ∀ i9, i9 < 10 → w2 (8 * s9 + j9) ≠ m i9 := fun s9 j9 hs hj hk9 => by
      rcases hWN s9 j9 hs hj hk9 with ⟨h1, h2⟩ | h1
      · rw [h2]; exact hW s9 j9 hs hj h1
      · have h1 : H.size + 0 ≤ w2 (8 * s9 + j9) := h1
        have h7 := hS.1
        exact ⟨by omega, fun i9 hi h9 => by have := hml2 i9 hi; omega⟩
  have hS := hS1
  clear hS1
  refine lv_aload_n hx hb dL_law_642 rfl (lv_at hl 2 rfl) ?_
  refine lv_aload_n hx hb dL_law_643 rfl (lv_at hl 0 rfl) ?_
  refine lv_iload_n hx hb dL_law_644 rfl (lv_at hl 3 rfl) ?_
  refine z_iconst (n := 1) hx hb dL_law_645 ?_
  refine z_iadd hx hb dL_law_646 ?_
  refine z_sld hx hb hX hbl hbA hS (by omega) hL dL_law_647 ?_
  obtain ⟨rn9, hMo9⟩ := hMIo hMI1
  refine z_w (zrV (As := [.int (zI (sx xs (i + 1)))]) (rest := [.int (zI ((keepF (S, (n, L9), (tl, X), (k, V)) (sx xs (i + 1))).1))]) ⟨hx, hb, hml, hown, hts⟩ (c_X7_keep l G cs m S n L9 tl X k V (sx xs (i + 1)) hF.2.1 hA (sx_r _ _)) gL_law_X7_keep rfl qX7_keep rfl rfl ⟨Nat.le_of_ble_eq_true rfl, Nat.le_of_ble_eq_true rfl⟩ hMI1 hK (va_recv hK.1 hMo9 (ci := 7) (q0 := 0) rfl rfl) hl.1 rfl (Nat.le_of_ble_eq_true rfl) dL_law_648 (show cells + 8 + 0 ≤ 600000 ∧ slots + 260 + 0 ≤ 7302250 by omega)) hS (lf_m hF) (lf_m hF) (fun v H2 locs2 hpost hle hk hS2 => ?_)
  obtain ⟨rfl, hMI2⟩ := hpost
  have hS := hS2
  clear hS2
  have hXI2 := li_x hF hXI1 hW2 hk
  refine lv_icmp_eq (tgt := 1082) hx hb dL_law_651 (by decide) (fun _ => ?_) (fun h9 => absurd rfl h9)
  refine W.widen (k := cells + 8) (n := slots + 260) (by omega) (by omega) ?_
  exact K (keepF (S, (n, L9), (tl, X), (k, V)) (sx xs (i + 1))).2 w2 _ _ ⟨awf_keep hA _, hXI2, hMI2, hsd2, hW2⟩ hS _ hl

set_option maxHeartbeats 4000000 in
set_option maxRecDepth 100000 in
theorem law_c16 (hC : LC p s mM c b L xs) (hK : kK G cs s) (hF : LF a m s.heap.size) (hLI : LI G cs a m s.heap.size A w H) (hS : va_S (fun q => s.heap.size ≤ q) s.heap H locs) (hl : lv_has ls 8 (lvL b a m i)) (hi : 0 ≤ i ∧ i + 5 ≤ L) (hc : cells + 8 ≤ 600000 ∧ slots + 260 ≤ 7302250) (K : KT p l e s mM below meth c G cs a m b i (cells + 8) (slots + 260) Q) : W p l e room_1 s mM #[Value.ref b] below meth c H locs cells slots Q (F0 mM 656 ls []) := by
  obtain ⟨hx, hb, hml, hown, hts, hX, hbl, hL⟩ := hC
  obtain ⟨S, ⟨n, L9⟩, ⟨tl, X⟩, ⟨k, V⟩⟩ := A
  obtain ⟨hA, hXI, hMI, hsd, hW⟩ := hLI
  have hsd : SnD a w k := hsd
  have hW : ∀ s9 j9, s9 < 2 → j9 < 8 → k s9 = true → s.heap.size ≤ w (8 * s9 + j9) ∧ ∀ i9, i9 < 10 → w (8 * s9 + j9) ≠ m i9 := hW
  have hbA : ¬ (fun q : Nat => s.heap.size ≤ q) b := Nat.not_le.mpr hbl
  have hl : lv_has ls 8 [(0, .ref b), (1, .ref (a 0)), (2, .ref (m 0)), (3, .int (zI i))] := hl
  refine lv_aload_n hx hb dL_law_656 rfl (lv_at hl 1 rfl) ?_
  refine lv_aload_n hx hb dL_law_657 rfl (lv_at hl 0 rfl) ?_
  refine lv_iload_n hx hb dL_law_658 rfl (lv_at hl 3 rfl) ?_
  refine z_iconst (n := 1) hx hb dL_law_659 ?_
  refine z_iadd hx hb dL_law_660 ?_
  refine z_sld hx hb hX hbl hbA hS (by omega) hL dL_law_661 ?_
  refine z_w (zrV (As := [.int (zI (sx xs (i + 1)))]) (rest := []) ⟨hx, hb, hml, hown, hts⟩ (c_X6_restore l G cs a w S n L9 tl X k V (sx xs (i + 1)) hF.1 hsd hA (sx_r _ _)) gL_law_X6_restore rfl qX6_restore rfl rfl ⟨Nat.le_of_ble_eq_true rfl, Nat.le_of_ble_eq_true rfl⟩ hXI hK (va_recv hK.1 hXI.xo (ci := 6) (q0 := 0) rfl rfl) hl.1 rfl (Nat.le_of_ble_eq_true rfl) dL_law_662 (show cells + 0 ≤ 600000 ∧ slots + 0 ≤ 7302250 by omega)) hS (lf_a hF) (lf_a hF) (fun v H1 locs1 hpost hle hk hS1 => ?_)
  obtain ⟨rfl, hXI1⟩ := hpost
  have hMI1 := li_m hF hMI hk
  have hS := hS1
  clear hS1
  refine lv_aload_n hx hb dL_law_665 rfl (lv_at hl 2 rfl) ?_
  refine lv_aload_n hx hb dL_law_666 rfl (lv_at hl 0 rfl) ?_
  refine lv_iload_n hx hb dL_law_667 rfl (lv_at hl 3 rfl) ?_
  refine z_iconst (n := 1) hx hb dL_law_668 ?_
  refine z_iadd hx hb dL_law_669 ?_
  refine z_sld hx hb hX hbl hbA hS (by omega) hL dL_law_670 ?_
  obtain ⟨rn9, hMo9⟩ := hMIo hMI1
  refine z_w (zrV (As := [.int (zI (sx xs (i + 1)))]) (rest := [.int (zI ((restoreF (S, (n, L9), (tl, X), (k, V)) (sx xs (i + 1))).1))]) ⟨hx, hb, hml, hown, hts⟩ (c_X7_restore l G cs m S n L9 tl X k V (sx xs (i + 1)) hF.2.1 hA (sx_r _ _)) gL_law_X7_restore rfl qX7_restore rfl rfl ⟨Nat.le_of_ble_eq_true rfl, Nat.le_of_ble_eq_true rfl⟩ hMI1 hK (va_recv hK.1 hMo9 (ci := 7) (q0 := 0) rfl rfl) hl.1 rfl (Nat.le_of_ble_eq_true rfl) dL_law_671 (show cells + 0 + 0 ≤ 600000 ∧ slots + 0 + 0 ≤ 7302250 by omega)) hS (lf_m hF) (lf_m hF) (fun v H2 locs2 hpost hle hk hS2 => ?_)
  obtain ⟨rfl, hMI2⟩ := hpost
  have hS := hS2
  clear hS2
  have hkp := congrArg Prod.fst (kp_restore (A := (S, (n, L9), (tl, X), (k, V))) (sx xs (i + 1)))
  have hW2 : ∀ s9 j9, s9 < 2 → j9 < 8 → (restoreF (S, (n, L9), (tl, X), (k, V)) (sx xs (i + 1))).2.2.2.2.1 s9 = true → s.heap.size ≤ w (8 * s9 + j9) ∧ ∀ i9, i9 < 10 → w (8 * s9 + j9) ≠ m i9 := by rw [hkp]; exact hW
  have hsd2 : SnD a w (restoreF (S, (n, L9), (tl, X), (k, V)) (sx xs (i + 1))).2.2.2.2.1 := by rw [hkp]; exact hsd
  have hXI2 := li_x hF hXI1 hW2 hk
  refine lv_icmp_eq (tgt := 1082) hx hb dL_law_674 (by decide) (fun _ => ?_) (fun h9 => absurd rfl h9)
  refine W.widen (k := cells + 8) (n := slots + 260) (by omega) (by omega) ?_
  exact K (restoreF (S, (n, L9), (tl, X), (k, V)) (sx xs (i + 1))).2 w _ _ ⟨awf_restore hA _, hXI2, hMI2, hsd2, hW2⟩ hS _ hl

set_option maxHeartbeats 4000000 in
set_option maxRecDepth 100000 in
theorem law_c17 (hC : LC p s mM c b L xs) (hK : kK G cs s) (hF : LF a m s.heap.size) (hLI : LI G cs a m s.heap.size A w H) (hS : va_S (fun q => s.heap.size ≤ q) s.heap H locs) (hl : lv_has ls 8 (lvL b a m i)) (hi : 0 ≤ i ∧ i + 5 ≤ L) (hc : cells + 8 ≤ 600000 ∧ slots + 260 ≤ 7302250) (K : KT p l e s mM below meth c G cs a m b i (cells + 8) (slots + 260) Q) : W p l e room_1 s mM #[Value.ref b] below meth c H locs cells slots Q (F0 mM 679 ls []) := by
  obtain ⟨hx, hb, hml, hown, hts, hX, hbl, hL⟩ := hC
  obtain ⟨S, ⟨n, L9⟩, ⟨tl, X⟩, ⟨k, V⟩⟩ := A
  obtain ⟨hA, hXI, hMI, hsd, hW⟩ := hLI
  have hsd : SnD a w k := hsd
  have hW : ∀ s9 j9, s9 < 2 → j9 < 8 → k s9 = true → s.heap.size ≤ w (8 * s9 + j9) ∧ ∀ i9, i9 < 10 → w (8 * s9 + j9) ≠ m i9 := hW
  have hbA : ¬ (fun q : Nat => s.heap.size ≤ q) b := Nat.not_le.mpr hbl
  have hl : lv_has ls 8 [(0, .ref b), (1, .ref (a 0)), (2, .ref (m 0)), (3, .int (zI i))] := hl
  refine lv_aload_n hx hb dL_law_679 rfl (lv_at hl 1 rfl) ?_
  refine lv_aload_n hx hb dL_law_680 rfl (lv_at hl 0 rfl) ?_
  refine lv_iload_n hx hb dL_law_681 rfl (lv_at hl 3 rfl) ?_
  refine z_iconst (n := 1) hx hb dL_law_682 ?_
  refine z_iadd hx hb dL_law_683 ?_
  refine z_sld hx hb hX hbl hbA hS (by omega) hL dL_law_684 ?_
  refine lv_aload_n hx hb dL_law_685 rfl (lv_at hl 0 rfl) ?_
  refine lv_iload_n hx hb dL_law_686 rfl (lv_at hl 3 rfl) ?_
  refine z_iconst (n := 2) hx hb dL_law_687 ?_
  refine z_iadd hx hb dL_law_688 ?_
  refine z_sld hx hb hX hbl hbA hS (by omega) hL dL_law_689 ?_
  refine lv_aload_n hx hb dL_law_690 rfl (lv_at hl 0 rfl) ?_
  refine lv_iload_n hx hb dL_law_691 rfl (lv_at hl 3 rfl) ?_
  refine z_iconst (n := 3) hx hb dL_law_692 ?_
  refine z_iadd hx hb dL_law_693 ?_
  refine z_sld hx hb hX hbl hbA hS (by omega) hL dL_law_694 ?_
  refine z_w (zrV (As := [.int (zI (sx xs (i + 1))), .int (zI (sx xs (i + 2))), .int (zI (sx xs (i + 3)))]) (rest := []) ⟨hx, hb, hml, hown, hts⟩ (c_X6_pixel l G cs a w S n L9 tl X k V (sx xs (i + 1)) (sx xs (i + 2)) (sx xs (i + 3)) hF.1 hsd hA (sx_r _ _) (sx_r _ _) (sx_r _ _)) gL_law_X6_pixel rfl qX6_pixel rfl rfl ⟨Nat.le_of_ble_eq_true rfl, Nat.le_of_ble_eq_true rfl⟩ hXI hK (va_recv hK.1 hXI.xo (ci := 6) (q0 := 0) rfl rfl) hl.1 rfl (Nat.le_of_ble_eq_true rfl) dL_law_695 (show cells + 0 ≤ 600000 ∧ slots + 0 ≤ 7302250 by omega)) hS (lf_a hF) (lf_a hF) (fun v H1 locs1 hpost hle hk hS1 => ?_)
  obtain ⟨rfl, hXI1⟩ := hpost
  have hMI1 := li_m hF hMI hk
  have hS := hS1
  clear hS1
  refine lv_aload_n hx hb dL_law_698 rfl (lv_at hl 2 rfl) ?_
  refine lv_aload_n hx hb dL_law_699 rfl (lv_at hl 0 rfl) ?_
  refine lv_iload_n hx hb dL_law_700 rfl (lv_at hl 3 rfl) ?_
  refine z_iconst (n := 1) hx hb dL_law_701 ?_
  refine z_iadd hx hb dL_law_702 ?_
  refine z_sld hx hb hX hbl hbA hS (by omega) hL dL_law_703 ?_
  refine lv_aload_n hx hb dL_law_704 rfl (lv_at hl 0 rfl) ?_
  refine lv_iload_n hx hb dL_law_705 rfl (lv_at hl 3 rfl) ?_
  refine z_iconst (n := 2) hx hb dL_law_706 ?_
  refine z_iadd hx hb dL_law_707 ?_
  refine z_sld hx hb hX hbl hbA hS (by omega) hL dL_law_708 ?_
  refine lv_aload_n hx hb dL_law_709 rfl (lv_at hl 0 rfl) ?_
  refine lv_iload_n hx hb dL_law_710 rfl (lv_at hl 3 rfl) ?_
  refine z_iconst (n := 3) hx hb dL_law_711 ?_
  refine z_iadd hx hb dL_law_712 ?_
  refine z_sld hx hb hX hbl hbA hS (by omega) hL dL_law_713 ?_
  obtain ⟨Y9, Z9, Hh9, Sl9, Kp9, Go9, Nt9, rn9, Rd9, rr9, hHR9, hSR9, hMo9, hRw9, -⟩ := id hMI1
  refine z_ro (zrV (As := [.int (zI (sx xs (i + 1))), .int (zI (sx xs (i + 2))), .int (zI (sx xs (i + 3)))]) (rest := [.int (zI (pixelF S (sx xs (i + 1)) (sx xs (i + 2)) (sx xs (i + 3))))]) (Pw := fun H => va_P G vwCl (moW cs m n tl rn9) H ∧ va_P G vwCl (m7 cs m 1 0 361 (aI Y9)) H) ⟨hx, hb, hml, hown, hts⟩ (c_X7_pixel l G cs m S Y9 n tl rn9 (sx xs (i + 1)) (sx xs (i + 2)) (sx xs (i + 3)) hA.1 rr9 (sx_r _ _) (sx_r _ _) (sx_r _ _)) gL_law_X7_pixel rfl qX7_pixel rfl rfl ⟨Nat.le_of_ble_eq_true rfl, Nat.le_of_ble_eq_true rfl⟩ ⟨hMo9, hRw9⟩ hK (va_recv hK.1 hMo9 (ci := 7) (q0 := 0) rfl rfl) hl.1 rfl (Nat.le_of_ble_eq_true rfl) dL_law_714 (show cells + 0 + 0 ≤ 600000 ∧ slots + 0 + 0 ≤ 7302250 by omega)) ?_
  refine lv_icmp_eq (tgt := 1082) hx hb dL_law_717 (by decide) (fun _ => ?_) (fun h9 => absurd rfl h9)
  refine W.widen (k := cells + 8) (n := slots + 260) (by omega) (by omega) ?_
  exact K (S, (n, L9), (tl, X), (k, V)) w _ _ ⟨hA, hXI1, hMI1, hsd, hW⟩ hS _ hl

set_option maxHeartbeats 4000000 in
set_option maxRecDepth 100000 in
theorem law_c18 (hC : LC p s mM c b L xs) (hK : kK G cs s) (hF : LF a m s.heap.size) (hLI : LI G cs a m s.heap.size A w H) (hS : va_S (fun q => s.heap.size ≤ q) s.heap H locs) (hl : lv_has ls 8 (lvL b a m i)) (hi : 0 ≤ i ∧ i + 5 ≤ L) (hc : cells + 8 ≤ 600000 ∧ slots + 260 ≤ 7302250) (K : KT p l e s mM below meth c G cs a m b i (cells + 8) (slots + 260) Q) : W p l e room_1 s mM #[Value.ref b] below meth c H locs cells slots Q (F0 mM 722 ls []) := by
  obtain ⟨hx, hb, hml, hown, hts, hX, hbl, hL⟩ := hC
  obtain ⟨S, ⟨n, L9⟩, ⟨tl, X⟩, ⟨k, V⟩⟩ := A
  obtain ⟨hA, hXI, hMI, hsd, hW⟩ := hLI
  have hsd : SnD a w k := hsd
  have hW : ∀ s9 j9, s9 < 2 → j9 < 8 → k s9 = true → s.heap.size ≤ w (8 * s9 + j9) ∧ ∀ i9, i9 < 10 → w (8 * s9 + j9) ≠ m i9 := hW
  have hbA : ¬ (fun q : Nat => s.heap.size ≤ q) b := Nat.not_le.mpr hbl
  have hl : lv_has ls 8 [(0, .ref b), (1, .ref (a 0)), (2, .ref (m 0)), (3, .int (zI i))] := hl
  refine lv_aload_n hx hb dL_law_722 rfl (lv_at hl 1 rfl) ?_
  refine lv_aload_n hx hb dL_law_723 rfl (lv_at hl 0 rfl) ?_
  refine lv_iload_n hx hb dL_law_724 rfl (lv_at hl 3 rfl) ?_
  refine z_iconst (n := 1) hx hb dL_law_725 ?_
  refine z_iadd hx hb dL_law_726 ?_
  refine z_sld hx hb hX hbl hbA hS (by omega) hL dL_law_727 ?_
  refine z_w (zrV (As := [.int (zI (sx xs (i + 1)))]) (rest := []) ⟨hx, hb, hml, hown, hts⟩ (c_X6_share l G cs a w S n L9 tl X k V (sx xs (i + 1)) hF.1 hsd hA (sx_r _ _)) gL_law_X6_share rfl qX6_share rfl rfl ⟨Nat.le_of_ble_eq_true rfl, Nat.le_of_ble_eq_true rfl⟩ hXI hK (va_recv hK.1 hXI.xo (ci := 6) (q0 := 0) rfl rfl) hl.1 rfl (Nat.le_of_ble_eq_true rfl) dL_law_728 (show cells + 0 ≤ 600000 ∧ slots + 0 ≤ 7302250 by omega)) hS (lf_a hF) (lf_a hF) (fun v H1 locs1 hpost hle hk hS1 => ?_)
  obtain ⟨rfl, hXI1⟩ := hpost
  have hMI1 := li_m hF hMI hk
  have hS := hS1
  clear hS1
  refine lv_f2d hx hb dL_law_731 (f2d_nn (shareG_nn _ _)) ?_
  refine lv_dstore (lv' := [(4, .double (FP.f2d (shareG S (sx xs (i + 1))))), (0, .ref b), (1, .ref (a 0)), (2, .ref (m 0)), (3, .int (zI i))]) hx hb dL_law_732 hl (by decide) rfl (fun ls hl => ?_)
  refine lv_aload_n hx hb dL_law_734 rfl (lv_at hl 3 rfl) ?_
  refine lv_aload_n hx hb dL_law_735 rfl (lv_at hl 1 rfl) ?_
  refine lv_iload_n hx hb dL_law_736 rfl (lv_at hl 4 rfl) ?_
  refine z_iconst (n := 1) hx hb dL_law_737 ?_
  refine z_iadd hx hb dL_law_738 ?_
  refine z_sld hx hb hX hbl hbA hS (by omega) hL dL_law_739 ?_
  obtain ⟨Y9, Z9, Hh9, Sl9, Kp9, Go9, Nt9, rn9, Rd9, rr9, hHR9, hSR9, hMo9, hRw9, -⟩ := id hMI1
  refine z_ro (zrV (As := [.int (zI (sx xs (i + 1)))]) (rest := []) (Pw := fun H => va_P G vwCl (moW cs m n tl rn9) H ∧ va_P G vwCl (m7 cs m 1 0 361 (aI Y9)) H) ⟨hx, hb, hml, hown, hts⟩ (c_X7_share l G cs m S Y9 n tl rn9 (sx xs (i + 1)) hA.1 rr9 (sx_r _ _)) gL_law_X7_share rfl qX7_share rfl rfl ⟨Nat.le_of_ble_eq_true rfl, Nat.le_of_ble_eq_true rfl⟩ ⟨hMo9, hRw9⟩ hK (va_recv hK.1 hMo9 (ci := 7) (q0 := 0) rfl rfl) hl.1 rfl (Nat.le_of_ble_eq_true rfl) dL_law_740 (show cells + 0 + 0 ≤ 600000 ∧ slots + 0 + 0 ≤ 7302250 by omega)) ?_
  refine lv_f2d hx hb dL_law_743 (f2d_nn (shareG_nn _ _)) ?_
  refine lv_dstore (lv' := [(6, .double (FP.f2d (shareG S (sx xs (i + 1))))), (4, .double (FP.f2d (shareG S (sx xs (i + 1))))), (0, .ref b), (1, .ref (a 0)), (2, .ref (m 0)), (3, .int (zI i))]) hx hb dL_law_744 hl (by decide) rfl (fun ls hl => ?_)
  refine lv_dload hx hb dL_law_746 (lv_at hl 1 rfl) ?_
  refine lv_dload hx hb dL_law_748 (lv_at hl 0 rfl) ?_
  refine lv_dcmp hx hb dL_law_750 ?_
  refine lv_if_eq (tgt := 772) hx hb dL_law_751 (by decide) (fun _ => ?_) (fun c7 => ?_)
  · skip
    refine lv_goto (tgt := 1082) hx hb dL_law_772 (by decide) ?_
    refine W.widen (k := cells + 8) (n := slots + 260) (by omega) (by omega) ?_
    exact K (S, (n, L9), (tl, X), (k, V)) w _ _ ⟨hA, hXI1, hMI1, hsd, hW⟩ hS _ (lv_sub hl [2, 3, 4, 5] rfl)
  · skip
    refine lv_dload hx hb dL_law_754 (lv_at hl 1 rfl) ?_
    refine lv_dload hx hb dL_law_756 (lv_at hl 1 rfl) ?_
    refine lv_dcmp hx hb dL_law_758 ?_
    refine lv_if_eq (tgt := 770) hx hb dL_law_759 (by decide) (fun h9 => absurd h9 c7) (fun _ => ?_)
    refine lv_dload hx hb dL_law_762 (lv_at hl 0 rfl) ?_
    refine lv_dload hx hb dL_law_764 (lv_at hl 0 rfl) ?_
    refine lv_dcmp hx hb dL_law_766 ?_
    refine lv_if_ne (tgt := 772) hx hb dL_law_767 (by decide) (fun _ => ?_) (fun h9 => absurd h9 c7)
    refine lv_goto (tgt := 1082) hx hb dL_law_772 (by decide) ?_
    refine W.widen (k := cells + 8) (n := slots + 260) (by omega) (by omega) ?_
    exact K (S, (n, L9), (tl, X), (k, V)) w _ _ ⟨hA, hXI1, hMI1, hsd, hW⟩ hS _ (lv_sub hl [2, 3, 4, 5] rfl)

set_option maxHeartbeats 4000000 in
set_option maxRecDepth 100000 in
theorem law_c19 (hC : LC p s mM c b L xs) (hK : kK G cs s) (hF : LF a m s.heap.size) (hLI : LI G cs a m s.heap.size A w H) (hS : va_S (fun q => s.heap.size ≤ q) s.heap H locs) (hl : lv_has ls 8 (lvL b a m i)) (hi : 0 ≤ i ∧ i + 5 ≤ L) (hc : cells + 8 ≤ 600000 ∧ slots + 260 ≤ 7302250) (K : KT p l e s mM below meth c G cs a m b i (cells + 8) (slots + 260) Q) : W p l e room_1 s mM #[Value.ref b] below meth c H locs cells slots Q (F0 mM 775 ls []) := by
  obtain ⟨hx, hb, hml, hown, hts, hX, hbl, hL⟩ := hC
  obtain ⟨S, ⟨n, L9⟩, ⟨tl, X⟩, ⟨k, V⟩⟩ := A
  obtain ⟨hA, hXI, hMI, hsd, hW⟩ := hLI
  have hsd : SnD a w k := hsd
  have hW : ∀ s9 j9, s9 < 2 → j9 < 8 → k s9 = true → s.heap.size ≤ w (8 * s9 + j9) ∧ ∀ i9, i9 < 10 → w (8 * s9 + j9) ≠ m i9 := hW
  have hbA : ¬ (fun q : Nat => s.heap.size ≤ q) b := Nat.not_le.mpr hbl
  have hl : lv_has ls 8 [(0, .ref b), (1, .ref (a 0)), (2, .ref (m 0)), (3, .int (zI i))] := hl
  refine lv_aload_n hx hb dL_law_775 rfl (lv_at hl 1 rfl) ?_
  refine lv_aload_n hx hb dL_law_776 rfl (lv_at hl 0 rfl) ?_
  refine lv_iload_n hx hb dL_law_777 rfl (lv_at hl 3 rfl) ?_
  refine z_iconst (n := 1) hx hb dL_law_778 ?_
  refine z_iadd hx hb dL_law_779 ?_
  refine z_sld hx hb hX hbl hbA hS (by omega) hL dL_law_780 ?_
  refine lv_aload_n hx hb dL_law_781 rfl (lv_at hl 0 rfl) ?_
  refine lv_iload_n hx hb dL_law_782 rfl (lv_at hl 3 rfl) ?_
  refine z_iconst (n := 2) hx hb dL_law_783 ?_
  refine z_iadd hx hb dL_law_784 ?_
  refine z_sld hx hb hX hbl hbA hS (by omega) hL dL_law_785 ?_
  refine z_w (zrV (As := [.int (zI (sx xs (i + 1))), .int (zI (sx xs (i + 2)))]) (rest := []) ⟨hx, hb, hml, hown, hts⟩ (c_X6_alike l G cs a w S n L9 tl X k V (sx xs (i + 1)) (sx xs (i + 2)) hF.1 hsd hA (sx_r _ _) (sx_r _ _)) gL_law_X6_alike rfl qX6_alike rfl rfl ⟨Nat.le_of_ble_eq_true rfl, Nat.le_of_ble_eq_true rfl⟩ hXI hK (va_recv hK.1 hXI.xo (ci := 6) (q0 := 0) rfl rfl) hl.1 rfl (Nat.le_of_ble_eq_true rfl) dL_law_786 (show cells + 0 ≤ 600000 ∧ slots + 0 ≤ 7302250 by omega)) hS (lf_a hF) (lf_a hF) (fun v H1 locs1 hpost hle hk hS1 => ?_)
  obtain ⟨rfl, hXI1⟩ := hpost
  have hMI1 := li_m hF hMI hk
  have hS := hS1
  clear hS1
  refine lv_aload_n hx hb dL_law_789 rfl (lv_at hl 2 rfl) ?_
  refine lv_aload_n hx hb dL_law_790 rfl (lv_at hl 0 rfl) ?_
  refine lv_iload_n hx hb dL_law_791 rfl (lv_at hl 3 rfl) ?_
  refine z_iconst (n := 1) hx hb dL_law_792 ?_
  refine z_iadd hx hb dL_law_793 ?_
  refine z_sld hx hb hX hbl hbA hS (by omega) hL dL_law_794 ?_
  refine lv_aload_n hx hb dL_law_795 rfl (lv_at hl 0 rfl) ?_
  refine lv_iload_n hx hb dL_law_796 rfl (lv_at hl 3 rfl) ?_
  refine z_iconst (n := 2) hx hb dL_law_797 ?_
  refine z_iadd hx hb dL_law_798 ?_
  refine z_sld hx hb hX hbl hbA hS (by omega) hL dL_law_799 ?_
  obtain ⟨Y9, Z9, Hh9, Sl9, Kp9, Go9, Nt9, rn9, Rd9, rr9, hHR9, hSR9, hMo9, hRw9, -⟩ := id hMI1
  refine z_ro (zrV (As := [.int (zI (sx xs (i + 1))), .int (zI (sx xs (i + 2)))]) (rest := [.int (zI (alikeF S (sx xs (i + 1)) (sx xs (i + 2))))]) (Pw := fun H => va_P G vwCl (moW cs m n tl rn9) H ∧ va_P G vwCl (m7 cs m 1 0 361 (aI Y9)) H) ⟨hx, hb, hml, hown, hts⟩ (c_X7_alike l G cs m S Y9 n tl rn9 (sx xs (i + 1)) (sx xs (i + 2)) hA.1 rr9 (sx_r _ _) (sx_r _ _)) gL_law_X7_alike rfl qX7_alike rfl rfl ⟨Nat.le_of_ble_eq_true rfl, Nat.le_of_ble_eq_true rfl⟩ ⟨hMo9, hRw9⟩ hK (va_recv hK.1 hMo9 (ci := 7) (q0 := 0) rfl rfl) hl.1 rfl (Nat.le_of_ble_eq_true rfl) dL_law_800 (show cells + 0 + 0 ≤ 600000 ∧ slots + 0 + 0 ≤ 7302250 by omega)) ?_
  refine lv_icmp_eq (tgt := 1082) hx hb dL_law_803 (by decide) (fun _ => ?_) (fun h9 => absurd rfl h9)
  refine W.widen (k := cells + 8) (n := slots + 260) (by omega) (by omega) ?_
  exact K (S, (n, L9), (tl, X), (k, V)) w _ _ ⟨hA, hXI1, hMI1, hsd, hW⟩ hS _ hl

set_option maxHeartbeats 4000000 in
set_option maxRecDepth 100000 in
theorem law_c20 (hC : LC p s mM c b L xs) (hK : kK G cs s) (hF : LF a m s.heap.size) (hLI : LI G cs a m s.heap.size A w H) (hS : va_S (fun q => s.heap.size ≤ q) s.heap H locs) (hl : lv_has ls 8 (lvL b a m i)) (hi : 0 ≤ i ∧ i + 5 ≤ L) (hc : cells + 8 ≤ 600000 ∧ slots + 260 ≤ 7302250) (K : KT p l e s mM below meth c G cs a m b i (cells + 8) (slots + 260) Q) : W p l e room_1 s mM #[Value.ref b] below meth c H locs cells slots Q (F0 mM 808 ls []) := by
  obtain ⟨hx, hb, hml, hown, hts, hX, hbl, hL⟩ := hC
  obtain ⟨S, ⟨n, L9⟩, ⟨tl, X⟩, ⟨k, V⟩⟩ := A
  obtain ⟨hA, hXI, hMI, hsd, hW⟩ := hLI
  have hsd : SnD a w k := hsd
  have hW : ∀ s9 j9, s9 < 2 → j9 < 8 → k s9 = true → s.heap.size ≤ w (8 * s9 + j9) ∧ ∀ i9, i9 < 10 → w (8 * s9 + j9) ≠ m i9 := hW
  have hbA : ¬ (fun q : Nat => s.heap.size ≤ q) b := Nat.not_le.mpr hbl
  have hl : lv_has ls 8 [(0, .ref b), (1, .ref (a 0)), (2, .ref (m 0)), (3, .int (zI i))] := hl
  refine lv_aload_n hx hb dL_law_808 rfl (lv_at hl 1 rfl) ?_
  refine lv_aload_n hx hb dL_law_809 rfl (lv_at hl 0 rfl) ?_
  refine lv_iload_n hx hb dL_law_810 rfl (lv_at hl 3 rfl) ?_
  refine z_iconst (n := 1) hx hb dL_law_811 ?_
  refine z_iadd hx hb dL_law_812 ?_
  refine z_sld hx hb hX hbl hbA hS (by omega) hL dL_law_813 ?_
  refine lv_aload_n hx hb dL_law_814 rfl (lv_at hl 0 rfl) ?_
  refine lv_iload_n hx hb dL_law_815 rfl (lv_at hl 3 rfl) ?_
  refine z_iconst (n := 2) hx hb dL_law_816 ?_
  refine z_iadd hx hb dL_law_817 ?_
  refine z_sld hx hb hX hbl hbA hS (by omega) hL dL_law_818 ?_
  refine z_w (zrV (As := [.int (zI (sx xs (i + 1))), .int (zI (sx xs (i + 2)))]) (rest := []) ⟨hx, hb, hml, hown, hts⟩ (c_X6_color l G cs a w S n L9 tl X k V (sx xs (i + 1)) (sx xs (i + 2)) hF.1 hsd hA (sx_r _ _) (sx_r _ _)) gL_law_X6_color rfl qX6_color rfl rfl ⟨Nat.le_of_ble_eq_true rfl, Nat.le_of_ble_eq_true rfl⟩ hXI hK (va_recv hK.1 hXI.xo (ci := 6) (q0 := 0) rfl rfl) hl.1 rfl (Nat.le_of_ble_eq_true rfl) dL_law_819 (show cells + 0 ≤ 600000 ∧ slots + 0 ≤ 7302250 by omega)) hS (lf_a hF) (lf_a hF) (fun v H1 locs1 hpost hle hk hS1 => ?_)
  obtain ⟨rfl, hXI1⟩ := hpost
  have hMI1 := li_m hF hMI hk
  have hS := hS1
  clear hS1
  refine lv_aload_n hx hb dL_law_822 rfl (lv_at hl 2 rfl) ?_
  refine lv_aload_n hx hb dL_law_823 rfl (lv_at hl 0 rfl) ?_
  refine lv_iload_n hx hb dL_law_824 rfl (lv_at hl 3 rfl) ?_
  refine z_iconst (n := 1) hx hb dL_law_825 ?_
  refine z_iadd hx hb dL_law_826 ?_
  refine z_sld hx hb hX hbl hbA hS (by omega) hL dL_law_827 ?_
  refine lv_aload_n hx hb dL_law_828 rfl (lv_at hl 0 rfl) ?_
  refine lv_iload_n hx hb dL_law_829 rfl (lv_at hl 3 rfl) ?_
  refine z_iconst (n := 2) hx hb dL_law_830 ?_
  refine z_iadd hx hb dL_law_831 ?_
  refine z_sld hx hb hX hbl hbA hS (by omega) hL dL_law_832 ?_
  obtain ⟨Y9, Z9, Hh9, Sl9, Kp9, Go9, Nt9, rn9, Rd9, rr9, hHR9, hSR9, hMo9, hRw9, -⟩ := id hMI1
  refine z_ro (zrV (As := [.int (zI (sx xs (i + 1))), .int (zI (sx xs (i + 2)))]) (rest := [.int (zI (colorF S (sx xs (i + 1)) (sx xs (i + 2))))]) (Pw := fun H => va_P G vwCl (moW cs m n tl rn9) H ∧ va_P G vwCl (m7 cs m 1 0 361 (aI Y9)) H) ⟨hx, hb, hml, hown, hts⟩ (c_X7_color l G cs m S Y9 n tl rn9 (sx xs (i + 1)) (sx xs (i + 2)) hA.1 rr9 (sx_r _ _) (sx_r _ _)) gL_law_X7_color rfl qX7_color rfl rfl ⟨Nat.le_of_ble_eq_true rfl, Nat.le_of_ble_eq_true rfl⟩ ⟨hMo9, hRw9⟩ hK (va_recv hK.1 hMo9 (ci := 7) (q0 := 0) rfl rfl) hl.1 rfl (Nat.le_of_ble_eq_true rfl) dL_law_833 (show cells + 0 + 0 ≤ 600000 ∧ slots + 0 + 0 ≤ 7302250 by omega)) ?_
  refine lv_icmp_eq (tgt := 1082) hx hb dL_law_836 (by decide) (fun _ => ?_) (fun h9 => absurd rfl h9)
  refine W.widen (k := cells + 8) (n := slots + 260) (by omega) (by omega) ?_
  exact K (S, (n, L9), (tl, X), (k, V)) w _ _ ⟨hA, hXI1, hMI1, hsd, hW⟩ hS _ hl

set_option maxHeartbeats 4000000 in
set_option maxRecDepth 100000 in
theorem law_c21 (hC : LC p s mM c b L xs) (hK : kK G cs s) (hF : LF a m s.heap.size) (hLI : LI G cs a m s.heap.size A w H) (hS : va_S (fun q => s.heap.size ≤ q) s.heap H locs) (hl : lv_has ls 8 (lvL b a m i)) (hi : 0 ≤ i ∧ i + 5 ≤ L) (hc : cells + 8 ≤ 600000 ∧ slots + 260 ≤ 7302250) (K : KT p l e s mM below meth c G cs a m b i (cells + 8) (slots + 260) Q) : W p l e room_1 s mM #[Value.ref b] below meth c H locs cells slots Q (F0 mM 841 ls []) := by
  obtain ⟨hx, hb, hml, hown, hts, hX, hbl, hL⟩ := hC
  obtain ⟨S, ⟨n, L9⟩, ⟨tl, X⟩, ⟨k, V⟩⟩ := A
  obtain ⟨hA, hXI, hMI, hsd, hW⟩ := hLI
  have hsd : SnD a w k := hsd
  have hW : ∀ s9 j9, s9 < 2 → j9 < 8 → k s9 = true → s.heap.size ≤ w (8 * s9 + j9) ∧ ∀ i9, i9 < 10 → w (8 * s9 + j9) ≠ m i9 := hW
  have hbA : ¬ (fun q : Nat => s.heap.size ≤ q) b := Nat.not_le.mpr hbl
  have hl : lv_has ls 8 [(0, .ref b), (1, .ref (a 0)), (2, .ref (m 0)), (3, .int (zI i))] := hl
  refine lv_aload_n hx hb dL_law_841 rfl (lv_at hl 1 rfl) ?_
  refine lv_aload_n hx hb dL_law_842 rfl (lv_at hl 0 rfl) ?_
  refine lv_iload_n hx hb dL_law_843 rfl (lv_at hl 3 rfl) ?_
  refine z_iconst (n := 1) hx hb dL_law_844 ?_
  refine z_iadd hx hb dL_law_845 ?_
  refine z_sld hx hb hX hbl hbA hS (by omega) hL dL_law_846 ?_
  refine lv_aload_n hx hb dL_law_847 rfl (lv_at hl 0 rfl) ?_
  refine lv_iload_n hx hb dL_law_848 rfl (lv_at hl 3 rfl) ?_
  refine z_iconst (n := 2) hx hb dL_law_849 ?_
  refine z_iadd hx hb dL_law_850 ?_
  refine z_sld hx hb hX hbl hbA hS (by omega) hL dL_law_851 ?_
  refine z_w (zrV (As := [.int (zI (sx xs (i + 1))), .int (zI (sx xs (i + 2)))]) (rest := []) ⟨hx, hb, hml, hown, hts⟩ (c_X6_sprite l G cs a w S n L9 tl X k V (sx xs (i + 1)) (sx xs (i + 2)) hF.1 hsd hA (sx_r _ _) (sx_r _ _)) gL_law_X6_sprite rfl qX6_sprite rfl rfl ⟨Nat.le_of_ble_eq_true rfl, Nat.le_of_ble_eq_true rfl⟩ hXI hK (va_recv hK.1 hXI.xo (ci := 6) (q0 := 0) rfl rfl) hl.1 rfl (Nat.le_of_ble_eq_true rfl) dL_law_852 (show cells + 0 ≤ 600000 ∧ slots + 0 ≤ 7302250 by omega)) hS (lf_a hF) (lf_a hF) (fun v H1 locs1 hpost hle hk hS1 => ?_)
  obtain ⟨rfl, hXI1⟩ := hpost
  have hMI1 := li_m hF hMI hk
  have hS := hS1
  clear hS1
  refine lv_aload_n hx hb dL_law_855 rfl (lv_at hl 2 rfl) ?_
  refine lv_aload_n hx hb dL_law_856 rfl (lv_at hl 0 rfl) ?_
  refine lv_iload_n hx hb dL_law_857 rfl (lv_at hl 3 rfl) ?_
  refine z_iconst (n := 1) hx hb dL_law_858 ?_
  refine z_iadd hx hb dL_law_859 ?_
  refine z_sld hx hb hX hbl hbA hS (by omega) hL dL_law_860 ?_
  refine lv_aload_n hx hb dL_law_861 rfl (lv_at hl 0 rfl) ?_
  refine lv_iload_n hx hb dL_law_862 rfl (lv_at hl 3 rfl) ?_
  refine z_iconst (n := 2) hx hb dL_law_863 ?_
  refine z_iadd hx hb dL_law_864 ?_
  refine z_sld hx hb hX hbl hbA hS (by omega) hL dL_law_865 ?_
  obtain ⟨Y9, Z9, Hh9, Sl9, Kp9, Go9, Nt9, rn9, Rd9, rr9, hHR9, hSR9, hMo9, hRw9, -⟩ := id hMI1
  refine z_ro (zrV (As := [.int (zI (sx xs (i + 1))), .int (zI (sx xs (i + 2)))]) (rest := [.int (zI (spriteF S (sx xs (i + 1)) (sx xs (i + 2))))]) (Pw := fun H => va_P G vwCl (moW cs m n tl rn9) H ∧ va_P G vwCl (m7 cs m 1 0 361 (aI Y9)) H) ⟨hx, hb, hml, hown, hts⟩ (c_X7_sprite l G cs m S Y9 n tl rn9 (sx xs (i + 1)) (sx xs (i + 2)) hA.1 rr9 (sx_r _ _) (sx_r _ _)) gL_law_X7_sprite rfl qX7_sprite rfl rfl ⟨Nat.le_of_ble_eq_true rfl, Nat.le_of_ble_eq_true rfl⟩ ⟨hMo9, hRw9⟩ hK (va_recv hK.1 hMo9 (ci := 7) (q0 := 0) rfl rfl) hl.1 rfl (Nat.le_of_ble_eq_true rfl) dL_law_866 (show cells + 0 + 0 ≤ 600000 ∧ slots + 0 + 0 ≤ 7302250 by omega)) ?_
  refine lv_icmp_eq (tgt := 1082) hx hb dL_law_869 (by decide) (fun _ => ?_) (fun h9 => absurd rfl h9)
  refine W.widen (k := cells + 8) (n := slots + 260) (by omega) (by omega) ?_
  exact K (S, (n, L9), (tl, X), (k, V)) w _ _ ⟨hA, hXI1, hMI1, hsd, hW⟩ hS _ hl

set_option maxHeartbeats 4000000 in
set_option maxRecDepth 100000 in
theorem law_c22 (hC : LC p s mM c b L xs) (hK : kK G cs s) (hF : LF a m s.heap.size) (hLI : LI G cs a m s.heap.size A w H) (hS : va_S (fun q => s.heap.size ≤ q) s.heap H locs) (hl : lv_has ls 8 (lvL b a m i)) (hi : 0 ≤ i ∧ i + 5 ≤ L) (hc : cells + 8 ≤ 600000 ∧ slots + 260 ≤ 7302250) (K : KT p l e s mM below meth c G cs a m b i (cells + 8) (slots + 260) Q) : W p l e room_1 s mM #[Value.ref b] below meth c H locs cells slots Q (F0 mM 874 ls []) := by
  obtain ⟨hx, hb, hml, hown, hts, hX, hbl, hL⟩ := hC
  obtain ⟨S, ⟨n, L9⟩, ⟨tl, X⟩, ⟨k, V⟩⟩ := A
  obtain ⟨hA, hXI, hMI, hsd, hW⟩ := hLI
  have hsd : SnD a w k := hsd
  have hW : ∀ s9 j9, s9 < 2 → j9 < 8 → k s9 = true → s.heap.size ≤ w (8 * s9 + j9) ∧ ∀ i9, i9 < 10 → w (8 * s9 + j9) ≠ m i9 := hW
  have hbA : ¬ (fun q : Nat => s.heap.size ≤ q) b := Nat.not_le.mpr hbl
  have hl : lv_has ls 8 [(0, .ref b), (1, .ref (a 0)), (2, .ref (m 0)), (3, .int (zI i))] := hl
  refine lv_aload_n hx hb dL_law_874 rfl (lv_at hl 1 rfl) ?_
  refine lv_aload_n hx hb dL_law_875 rfl (lv_at hl 0 rfl) ?_
  refine lv_iload_n hx hb dL_law_876 rfl (lv_at hl 3 rfl) ?_
  refine z_iconst (n := 1) hx hb dL_law_877 ?_
  refine z_iadd hx hb dL_law_878 ?_
  refine z_sld hx hb hX hbl hbA hS (by omega) hL dL_law_879 ?_
  refine lv_aload_n hx hb dL_law_880 rfl (lv_at hl 0 rfl) ?_
  refine lv_iload_n hx hb dL_law_881 rfl (lv_at hl 3 rfl) ?_
  refine z_iconst (n := 2) hx hb dL_law_882 ?_
  refine z_iadd hx hb dL_law_883 ?_
  refine z_sld hx hb hX hbl hbA hS (by omega) hL dL_law_884 ?_
  refine z_w (zrV (As := [.int (zI (sx xs (i + 1))), .int (zI (sx xs (i + 2)))]) (rest := []) ⟨hx, hb, hml, hown, hts⟩ (c_X6_line l G cs a w S n L9 tl X k V (sx xs (i + 1)) (sx xs (i + 2)) hF.1 hsd hA (sx_r _ _) (sx_r _ _)) gL_law_X6_line rfl qX6_line rfl rfl ⟨Nat.le_of_ble_eq_true rfl, Nat.le_of_ble_eq_true rfl⟩ hXI hK (va_recv hK.1 hXI.xo (ci := 6) (q0 := 0) rfl rfl) hl.1 rfl (Nat.le_of_ble_eq_true rfl) dL_law_885 (show cells + 0 ≤ 600000 ∧ slots + 0 ≤ 7302250 by omega)) hS (lf_a hF) (lf_a hF) (fun v H1 locs1 hpost hle hk hS1 => ?_)
  obtain ⟨rfl, hXI1⟩ := hpost
  have hMI1 := li_m hF hMI hk
  have hS := hS1
  clear hS1
  refine lv_aload_n hx hb dL_law_888 rfl (lv_at hl 2 rfl) ?_
  refine lv_aload_n hx hb dL_law_889 rfl (lv_at hl 0 rfl) ?_
  refine lv_iload_n hx hb dL_law_890 rfl (lv_at hl 3 rfl) ?_
  refine z_iconst (n := 1) hx hb dL_law_891 ?_
  refine z_iadd hx hb dL_law_892 ?_
  refine z_sld hx hb hX hbl hbA hS (by omega) hL dL_law_893 ?_
  refine lv_aload_n hx hb dL_law_894 rfl (lv_at hl 0 rfl) ?_
  refine lv_iload_n hx hb dL_law_895 rfl (lv_at hl 3 rfl) ?_
  refine z_iconst (n := 2) hx hb dL_law_896 ?_
  refine z_iadd hx hb dL_law_897 ?_
  refine z_sld hx hb hX hbl hbA hS (by omega) hL dL_law_898 ?_
  obtain ⟨Y9, Z9, Hh9, Sl9, Kp9, Go9, Nt9, rn9, Rd9, rr9, hHR9, hSR9, hMo9, hRw9, -⟩ := id hMI1
  refine z_ro (zrV (As := [.int (zI (sx xs (i + 1))), .int (zI (sx xs (i + 2)))]) (rest := [.int (zI (lineF S (sx xs (i + 1)) (sx xs (i + 2))))]) (Pw := fun H => va_P G vwCl (moW cs m n tl rn9) H ∧ va_P G vwCl (m7 cs m 1 0 361 (aI Y9)) H) ⟨hx, hb, hml, hown, hts⟩ (c_X7_line l G cs m S Y9 n tl rn9 (sx xs (i + 1)) (sx xs (i + 2)) hA.1 rr9 (sx_r _ _) (sx_r _ _)) gL_law_X7_line rfl qX7_line rfl rfl ⟨Nat.le_of_ble_eq_true rfl, Nat.le_of_ble_eq_true rfl⟩ ⟨hMo9, hRw9⟩ hK (va_recv hK.1 hMo9 (ci := 7) (q0 := 0) rfl rfl) hl.1 rfl (Nat.le_of_ble_eq_true rfl) dL_law_899 (show cells + 0 + 0 ≤ 600000 ∧ slots + 0 + 0 ≤ 7302250 by omega)) ?_
  refine lv_icmp_eq (tgt := 1082) hx hb dL_law_902 (by decide) (fun _ => ?_) (fun h9 => absurd rfl h9)
  refine W.widen (k := cells + 8) (n := slots + 260) (by omega) (by omega) ?_
  exact K (S, (n, L9), (tl, X), (k, V)) w _ _ ⟨hA, hXI1, hMI1, hsd, hW⟩ hS _ hl

set_option maxHeartbeats 4000000 in
set_option maxRecDepth 100000 in
theorem law_c23 (hC : LC p s mM c b L xs) (hK : kK G cs s) (hF : LF a m s.heap.size) (hLI : LI G cs a m s.heap.size A w H) (hS : va_S (fun q => s.heap.size ≤ q) s.heap H locs) (hl : lv_has ls 8 (lvL b a m i)) (hi : 0 ≤ i ∧ i + 5 ≤ L) (hc : cells + 8 ≤ 600000 ∧ slots + 260 ≤ 7302250) (K : KT p l e s mM below meth c G cs a m b i (cells + 8) (slots + 260) Q) : W p l e room_1 s mM #[Value.ref b] below meth c H locs cells slots Q (F0 mM 907 ls []) := by
  obtain ⟨hx, hb, hml, hown, hts, hX, hbl, hL⟩ := hC
  obtain ⟨S, ⟨n, L9⟩, ⟨tl, X⟩, ⟨k, V⟩⟩ := A
  obtain ⟨hA, hXI, hMI, hsd, hW⟩ := hLI
  have hsd : SnD a w k := hsd
  have hW : ∀ s9 j9, s9 < 2 → j9 < 8 → k s9 = true → s.heap.size ≤ w (8 * s9 + j9) ∧ ∀ i9, i9 < 10 → w (8 * s9 + j9) ≠ m i9 := hW
  have hbA : ¬ (fun q : Nat => s.heap.size ≤ q) b := Nat.not_le.mpr hbl
  have hl : lv_has ls 8 [(0, .ref b), (1, .ref (a 0)), (2, .ref (m 0)), (3, .int (zI i))] := hl
  refine lv_aload_n hx hb dL_law_907 rfl (lv_at hl 1 rfl) ?_
  refine lv_aload_n hx hb dL_law_908 rfl (lv_at hl 0 rfl) ?_
  refine lv_iload_n hx hb dL_law_909 rfl (lv_at hl 3 rfl) ?_
  refine z_iconst (n := 1) hx hb dL_law_910 ?_
  refine z_iadd hx hb dL_law_911 ?_
  refine z_sld hx hb hX hbl hbA hS (by omega) hL dL_law_912 ?_
  refine z_w (zrV (As := [.int (zI (sx xs (i + 1)))]) (rest := []) ⟨hx, hb, hml, hown, hts⟩ (c_X6_weight l G cs a w S n L9 tl X k V (sx xs (i + 1)) hF.1 hsd hA (sx_r _ _)) gL_law_X6_weight rfl qX6_weight rfl rfl ⟨Nat.le_of_ble_eq_true rfl, Nat.le_of_ble_eq_true rfl⟩ hXI hK (va_recv hK.1 hXI.xo (ci := 6) (q0 := 0) rfl rfl) hl.1 rfl (Nat.le_of_ble_eq_true rfl) dL_law_913 (show cells + 0 ≤ 600000 ∧ slots + 0 ≤ 7302250 by omega)) hS (lf_a hF) (lf_a hF) (fun v H1 locs1 hpost hle hk hS1 => ?_)
  obtain ⟨rfl, hXI1⟩ := hpost
  have hMI1 := li_m hF hMI hk
  have hS := hS1
  clear hS1
  refine lv_f2d hx hb dL_law_916 (f2d_nn (weightG_nn _ _)) ?_
  refine lv_dstore (lv' := [(4, .double (FP.f2d (weightG S (sx xs (i + 1))))), (0, .ref b), (1, .ref (a 0)), (2, .ref (m 0)), (3, .int (zI i))]) hx hb dL_law_917 hl (by decide) rfl (fun ls hl => ?_)
  refine lv_aload_n hx hb dL_law_919 rfl (lv_at hl 3 rfl) ?_
  refine lv_aload_n hx hb dL_law_920 rfl (lv_at hl 1 rfl) ?_
  refine lv_iload_n hx hb dL_law_921 rfl (lv_at hl 4 rfl) ?_
  refine z_iconst (n := 1) hx hb dL_law_922 ?_
  refine z_iadd hx hb dL_law_923 ?_
  refine z_sld hx hb hX hbl hbA hS (by omega) hL dL_law_924 ?_
  obtain ⟨Y9, Z9, Hh9, Sl9, Kp9, Go9, Nt9, rn9, Rd9, rr9, hHR9, hSR9, hMo9, hRw9, -⟩ := id hMI1
  refine z_ro (zrV (As := [.int (zI (sx xs (i + 1)))]) (rest := []) (Pw := fun H => va_P G vwCl (moW cs m n tl rn9) H ∧ va_P G vwCl (m7 cs m 1 0 361 (aI Y9)) H) ⟨hx, hb, hml, hown, hts⟩ (c_X7_weight l G cs m S Y9 n tl rn9 (sx xs (i + 1)) hA.1 rr9 (sx_r _ _)) gL_law_X7_weight rfl qX7_weight rfl rfl ⟨Nat.le_of_ble_eq_true rfl, Nat.le_of_ble_eq_true rfl⟩ ⟨hMo9, hRw9⟩ hK (va_recv hK.1 hMo9 (ci := 7) (q0 := 0) rfl rfl) hl.1 rfl (Nat.le_of_ble_eq_true rfl) dL_law_925 (show cells + 0 + 0 ≤ 600000 ∧ slots + 0 + 0 ≤ 7302250 by omega)) ?_
  refine lv_f2d hx hb dL_law_928 (f2d_nn (weightG_nn _ _)) ?_
  refine lv_dstore (lv' := [(6, .double (FP.f2d (weightG S (sx xs (i + 1))))), (4, .double (FP.f2d (weightG S (sx xs (i + 1))))), (0, .ref b), (1, .ref (a 0)), (2, .ref (m 0)), (3, .int (zI i))]) hx hb dL_law_929 hl (by decide) rfl (fun ls hl => ?_)
  refine lv_dload hx hb dL_law_931 (lv_at hl 1 rfl) ?_
  refine lv_dload hx hb dL_law_933 (lv_at hl 0 rfl) ?_
  refine lv_dcmp hx hb dL_law_935 ?_
  refine lv_if_eq (tgt := 957) hx hb dL_law_936 (by decide) (fun _ => ?_) (fun c7 => ?_)
  · skip
    refine lv_goto (tgt := 1082) hx hb dL_law_957 (by decide) ?_
    refine W.widen (k := cells + 8) (n := slots + 260) (by omega) (by omega) ?_
    exact K (S, (n, L9), (tl, X), (k, V)) w _ _ ⟨hA, hXI1, hMI1, hsd, hW⟩ hS _ (lv_sub hl [2, 3, 4, 5] rfl)
  · skip
    refine lv_dload hx hb dL_law_939 (lv_at hl 1 rfl) ?_
    refine lv_dload hx hb dL_law_941 (lv_at hl 1 rfl) ?_
    refine lv_dcmp hx hb dL_law_943 ?_
    refine lv_if_eq (tgt := 955) hx hb dL_law_944 (by decide) (fun h9 => absurd h9 c7) (fun _ => ?_)
    refine lv_dload hx hb dL_law_947 (lv_at hl 0 rfl) ?_
    refine lv_dload hx hb dL_law_949 (lv_at hl 0 rfl) ?_
    refine lv_dcmp hx hb dL_law_951 ?_
    refine lv_if_ne (tgt := 957) hx hb dL_law_952 (by decide) (fun _ => ?_) (fun h9 => absurd h9 c7)
    refine lv_goto (tgt := 1082) hx hb dL_law_957 (by decide) ?_
    refine W.widen (k := cells + 8) (n := slots + 260) (by omega) (by omega) ?_
    exact K (S, (n, L9), (tl, X), (k, V)) w _ _ ⟨hA, hXI1, hMI1, hsd, hW⟩ hS _ (lv_sub hl [2, 3, 4, 5] rfl)

set_option maxHeartbeats 4000000 in
set_option maxRecDepth 100000 in
theorem law_c24 (hC : LC p s mM c b L xs) (hK : kK G cs s) (hF : LF a m s.heap.size) (hLI : LI G cs a m s.heap.size A w H) (hS : va_S (fun q => s.heap.size ≤ q) s.heap H locs) (hl : lv_has ls 8 (lvL b a m i)) (hi : 0 ≤ i ∧ i + 5 ≤ L) (hc : cells + 8 ≤ 600000 ∧ slots + 260 ≤ 7302250) (K : KT p l e s mM below meth c G cs a m b i (cells + 8) (slots + 260) Q) : W p l e room_1 s mM #[Value.ref b] below meth c H locs cells slots Q (F0 mM 960 ls []) := by
  obtain ⟨hx, hb, hml, hown, hts, hX, hbl, hL⟩ := hC
  obtain ⟨S, ⟨n, L9⟩, ⟨tl, X⟩, ⟨k, V⟩⟩ := A
  obtain ⟨hA, hXI, hMI, hsd, hW⟩ := hLI
  have hsd : SnD a w k := hsd
  have hW : ∀ s9 j9, s9 < 2 → j9 < 8 → k s9 = true → s.heap.size ≤ w (8 * s9 + j9) ∧ ∀ i9, i9 < 10 → w (8 * s9 + j9) ≠ m i9 := hW
  have hbA : ¬ (fun q : Nat => s.heap.size ≤ q) b := Nat.not_le.mpr hbl
  have hl : lv_has ls 8 [(0, .ref b), (1, .ref (a 0)), (2, .ref (m 0)), (3, .int (zI i))] := hl
  refine lv_aload_n hx hb dL_law_960 rfl (lv_at hl 1 rfl) ?_
  refine lv_aload_n hx hb dL_law_961 rfl (lv_at hl 0 rfl) ?_
  refine lv_iload_n hx hb dL_law_962 rfl (lv_at hl 3 rfl) ?_
  refine z_iconst (n := 1) hx hb dL_law_963 ?_
  refine z_iadd hx hb dL_law_964 ?_
  refine z_sld hx hb hX hbl hbA hS (by omega) hL dL_law_965 ?_
  refine lv_aload_n hx hb dL_law_966 rfl (lv_at hl 0 rfl) ?_
  refine lv_iload_n hx hb dL_law_967 rfl (lv_at hl 3 rfl) ?_
  refine z_iconst (n := 2) hx hb dL_law_968 ?_
  refine z_iadd hx hb dL_law_969 ?_
  refine z_sld hx hb hX hbl hbA hS (by omega) hL dL_law_970 ?_
  refine z_w (zrV (As := [.int (zI (sx xs (i + 1))), .int (zI (sx xs (i + 2)))]) (rest := []) ⟨hx, hb, hml, hown, hts⟩ (c_X6_shown l G cs a w S n L9 tl X k V (sx xs (i + 1)) (sx xs (i + 2)) hF.1 hsd hA (sx_r _ _) (sx_r _ _)) gL_law_X6_shown rfl qX6_shown rfl rfl ⟨Nat.le_of_ble_eq_true rfl, Nat.le_of_ble_eq_true rfl⟩ hXI hK (va_recv hK.1 hXI.xo (ci := 6) (q0 := 0) rfl rfl) hl.1 rfl (Nat.le_of_ble_eq_true rfl) dL_law_971 (show cells + 0 ≤ 600000 ∧ slots + 0 ≤ 7302250 by omega)) hS (lf_a hF) (lf_a hF) (fun v H1 locs1 hpost hle hk hS1 => ?_)
  obtain ⟨rfl, hXI1⟩ := hpost
  have hMI1 := li_m hF hMI hk
  have hS := hS1
  clear hS1
  refine lv_aload_n hx hb dL_law_974 rfl (lv_at hl 2 rfl) ?_
  refine lv_aload_n hx hb dL_law_975 rfl (lv_at hl 0 rfl) ?_
  refine lv_iload_n hx hb dL_law_976 rfl (lv_at hl 3 rfl) ?_
  refine z_iconst (n := 1) hx hb dL_law_977 ?_
  refine z_iadd hx hb dL_law_978 ?_
  refine z_sld hx hb hX hbl hbA hS (by omega) hL dL_law_979 ?_
  refine lv_aload_n hx hb dL_law_980 rfl (lv_at hl 0 rfl) ?_
  refine lv_iload_n hx hb dL_law_981 rfl (lv_at hl 3 rfl) ?_
  refine z_iconst (n := 2) hx hb dL_law_982 ?_
  refine z_iadd hx hb dL_law_983 ?_
  refine z_sld hx hb hX hbl hbA hS (by omega) hL dL_law_984 ?_
  obtain ⟨Y9, Z9, Hh9, Sl9, Kp9, Go9, Nt9, rn9, Rd9, rr9, hHR9, hSR9, hMo9, hRw9, -⟩ := id hMI1
  refine z_ro (zrV (As := [.int (zI (sx xs (i + 1))), .int (zI (sx xs (i + 2)))]) (rest := [.int (zI (shownF S (sx xs (i + 1)) (sx xs (i + 2))))]) (Pw := fun H => va_P G vwCl (moW cs m n tl rn9) H ∧ va_P G vwCl (m7 cs m 1 0 361 (aI Y9)) H) ⟨hx, hb, hml, hown, hts⟩ (c_X7_shown l G cs m S Y9 n tl rn9 (sx xs (i + 1)) (sx xs (i + 2)) hA.1 rr9 (sx_r _ _) (sx_r _ _)) gL_law_X7_shown rfl qX7_shown rfl rfl ⟨Nat.le_of_ble_eq_true rfl, Nat.le_of_ble_eq_true rfl⟩ ⟨hMo9, hRw9⟩ hK (va_recv hK.1 hMo9 (ci := 7) (q0 := 0) rfl rfl) hl.1 rfl (Nat.le_of_ble_eq_true rfl) dL_law_985 (show cells + 0 + 0 ≤ 600000 ∧ slots + 0 + 0 ≤ 7302250 by omega)) ?_
  refine lv_icmp_eq (tgt := 1082) hx hb dL_law_988 (by decide) (fun _ => ?_) (fun h9 => absurd rfl h9)
  refine W.widen (k := cells + 8) (n := slots + 260) (by omega) (by omega) ?_
  exact K (S, (n, L9), (tl, X), (k, V)) w _ _ ⟨hA, hXI1, hMI1, hsd, hW⟩ hS _ hl

set_option maxHeartbeats 4000000 in
set_option maxRecDepth 100000 in
theorem law_c25 (hC : LC p s mM c b L xs) (hK : kK G cs s) (hF : LF a m s.heap.size) (hLI : LI G cs a m s.heap.size A w H) (hS : va_S (fun q => s.heap.size ≤ q) s.heap H locs) (hl : lv_has ls 8 (lvL b a m i)) (hi : 0 ≤ i ∧ i + 5 ≤ L) (hc : cells + 8 ≤ 600000 ∧ slots + 260 ≤ 7302250) (K : KT p l e s mM below meth c G cs a m b i (cells + 8) (slots + 260) Q) : W p l e room_1 s mM #[Value.ref b] below meth c H locs cells slots Q (F0 mM 993 ls []) := by
  obtain ⟨hx, hb, hml, hown, hts, hX, hbl, hL⟩ := hC
  obtain ⟨S, ⟨n, L9⟩, ⟨tl, X⟩, ⟨k, V⟩⟩ := A
  obtain ⟨hA, hXI, hMI, hsd, hW⟩ := hLI
  have hsd : SnD a w k := hsd
  have hW : ∀ s9 j9, s9 < 2 → j9 < 8 → k s9 = true → s.heap.size ≤ w (8 * s9 + j9) ∧ ∀ i9, i9 < 10 → w (8 * s9 + j9) ≠ m i9 := hW
  have hbA : ¬ (fun q : Nat => s.heap.size ≤ q) b := Nat.not_le.mpr hbl
  have hl : lv_has ls 8 [(0, .ref b), (1, .ref (a 0)), (2, .ref (m 0)), (3, .int (zI i))] := hl
  refine lv_aload_n hx hb dL_law_993 rfl (lv_at hl 1 rfl) ?_
  refine lv_aload_n hx hb dL_law_994 rfl (lv_at hl 0 rfl) ?_
  refine lv_iload_n hx hb dL_law_995 rfl (lv_at hl 3 rfl) ?_
  refine z_iconst (n := 1) hx hb dL_law_996 ?_
  refine z_iadd hx hb dL_law_997 ?_
  refine z_sld hx hb hX hbl hbA hS (by omega) hL dL_law_998 ?_
  refine lv_aload_n hx hb dL_law_999 rfl (lv_at hl 0 rfl) ?_
  refine lv_iload_n hx hb dL_law_1000 rfl (lv_at hl 3 rfl) ?_
  refine z_iconst (n := 2) hx hb dL_law_1001 ?_
  refine z_iadd hx hb dL_law_1002 ?_
  refine z_sld hx hb hX hbl hbA hS (by omega) hL dL_law_1003 ?_
  refine z_w (zrV (As := [.int (zI (sx xs (i + 1))), .int (zI (sx xs (i + 2)))]) (rest := []) ⟨hx, hb, hml, hown, hts⟩ (c_X6_meet l G cs a w S n L9 tl X k V (sx xs (i + 1)) (sx xs (i + 2)) hF.1 hsd hA (sx_r _ _) (sx_r _ _)) gL_law_X6_meet rfl qX6_meet rfl rfl ⟨Nat.le_of_ble_eq_true rfl, Nat.le_of_ble_eq_true rfl⟩ hXI hK (va_recv hK.1 hXI.xo (ci := 6) (q0 := 0) rfl rfl) hl.1 rfl (Nat.le_of_ble_eq_true rfl) dL_law_1004 (show cells + 0 ≤ 600000 ∧ slots + 0 ≤ 7302250 by omega)) hS (lf_a hF) (lf_a hF) (fun v H1 locs1 hpost hle hk hS1 => ?_)
  obtain ⟨rfl, hXI1⟩ := hpost
  have hMI1 := li_m hF hMI hk
  have hS := hS1
  clear hS1
  refine lv_aload_n hx hb dL_law_1007 rfl (lv_at hl 2 rfl) ?_
  refine lv_aload_n hx hb dL_law_1008 rfl (lv_at hl 0 rfl) ?_
  refine lv_iload_n hx hb dL_law_1009 rfl (lv_at hl 3 rfl) ?_
  refine z_iconst (n := 1) hx hb dL_law_1010 ?_
  refine z_iadd hx hb dL_law_1011 ?_
  refine z_sld hx hb hX hbl hbA hS (by omega) hL dL_law_1012 ?_
  refine lv_aload_n hx hb dL_law_1013 rfl (lv_at hl 0 rfl) ?_
  refine lv_iload_n hx hb dL_law_1014 rfl (lv_at hl 3 rfl) ?_
  refine z_iconst (n := 2) hx hb dL_law_1015 ?_
  refine z_iadd hx hb dL_law_1016 ?_
  refine z_sld hx hb hX hbl hbA hS (by omega) hL dL_law_1017 ?_
  obtain ⟨Y9, Z9, Hh9, Sl9, Kp9, Go9, Nt9, rn9, Rd9, rr9, hHR9, hSR9, hMo9, hRw9, -⟩ := id hMI1
  refine z_ro (zrV (As := [.int (zI (sx xs (i + 1))), .int (zI (sx xs (i + 2)))]) (rest := [.int (zI (meetF S (sx xs (i + 1)) (sx xs (i + 2))))]) (Pw := fun H => va_P G vwCl (moW cs m n tl rn9) H ∧ va_P G vwCl (m7 cs m 1 0 361 (aI Y9)) H) ⟨hx, hb, hml, hown, hts⟩ (c_X7_meet l G cs m S Y9 n tl rn9 (sx xs (i + 1)) (sx xs (i + 2)) hA.1 rr9 (sx_r _ _) (sx_r _ _)) gL_law_X7_meet rfl qX7_meet rfl rfl ⟨Nat.le_of_ble_eq_true rfl, Nat.le_of_ble_eq_true rfl⟩ ⟨hMo9, hRw9⟩ hK (va_recv hK.1 hMo9 (ci := 7) (q0 := 0) rfl rfl) hl.1 rfl (Nat.le_of_ble_eq_true rfl) dL_law_1018 (show cells + 0 + 0 ≤ 600000 ∧ slots + 0 + 0 ≤ 7302250 by omega)) ?_
  refine lv_icmp_eq (tgt := 1082) hx hb dL_law_1021 (by decide) (fun _ => ?_) (fun h9 => absurd rfl h9)
  refine W.widen (k := cells + 8) (n := slots + 260) (by omega) (by omega) ?_
  exact K (S, (n, L9), (tl, X), (k, V)) w _ _ ⟨hA, hXI1, hMI1, hsd, hW⟩ hS _ hl

set_option maxHeartbeats 4000000 in
set_option maxRecDepth 100000 in
theorem law_c26 (hC : LC p s mM c b L xs) (hK : kK G cs s) (hF : LF a m s.heap.size) (hLI : LI G cs a m s.heap.size A w H) (hS : va_S (fun q => s.heap.size ≤ q) s.heap H locs) (hl : lv_has ls 8 (lvL b a m i)) (hi : 0 ≤ i ∧ i + 5 ≤ L) (hc : cells + 8 ≤ 600000 ∧ slots + 260 ≤ 7302250) (K : KT p l e s mM below meth c G cs a m b i (cells + 8) (slots + 260) Q) : W p l e room_1 s mM #[Value.ref b] below meth c H locs cells slots Q (F0 mM 1026 ls []) := by
  obtain ⟨hx, hb, hml, hown, hts, hX, hbl, hL⟩ := hC
  obtain ⟨S, ⟨n, L9⟩, ⟨tl, X⟩, ⟨k, V⟩⟩ := A
  obtain ⟨hA, hXI, hMI, hsd, hW⟩ := hLI
  have hsd : SnD a w k := hsd
  have hW : ∀ s9 j9, s9 < 2 → j9 < 8 → k s9 = true → s.heap.size ≤ w (8 * s9 + j9) ∧ ∀ i9, i9 < 10 → w (8 * s9 + j9) ≠ m i9 := hW
  have hbA : ¬ (fun q : Nat => s.heap.size ≤ q) b := Nat.not_le.mpr hbl
  have hl : lv_has ls 8 [(0, .ref b), (1, .ref (a 0)), (2, .ref (m 0)), (3, .int (zI i))] := hl
  refine lv_aload_n hx hb dL_law_1026 rfl (lv_at hl 1 rfl) ?_
  refine lv_aload_n hx hb dL_law_1027 rfl (lv_at hl 0 rfl) ?_
  refine lv_iload_n hx hb dL_law_1028 rfl (lv_at hl 3 rfl) ?_
  refine z_iconst (n := 1) hx hb dL_law_1029 ?_
  refine z_iadd hx hb dL_law_1030 ?_
  refine z_sld hx hb hX hbl hbA hS (by omega) hL dL_law_1031 ?_
  refine lv_aload_n hx hb dL_law_1032 rfl (lv_at hl 0 rfl) ?_
  refine lv_iload_n hx hb dL_law_1033 rfl (lv_at hl 3 rfl) ?_
  refine z_iconst (n := 2) hx hb dL_law_1034 ?_
  refine z_iadd hx hb dL_law_1035 ?_
  refine z_sld hx hb hX hbl hbA hS (by omega) hL dL_law_1036 ?_
  refine z_w (zrV (As := [.int (zI (sx xs (i + 1))), .int (zI (sx xs (i + 2)))]) (rest := []) ⟨hx, hb, hml, hown, hts⟩ (c_X6_shownIn l G cs a w S n L9 tl X k V (sx xs (i + 1)) (sx xs (i + 2)) hF.1 hsd hA (sx_r _ _) (sx_r _ _)) gL_law_X6_shownIn rfl qX6_shownIn rfl rfl ⟨Nat.le_of_ble_eq_true rfl, Nat.le_of_ble_eq_true rfl⟩ hXI hK (va_recv hK.1 hXI.xo (ci := 6) (q0 := 0) rfl rfl) hl.1 rfl (Nat.le_of_ble_eq_true rfl) dL_law_1037 (show cells + 0 ≤ 600000 ∧ slots + 0 ≤ 7302250 by omega)) hS (lf_a hF) (lf_a hF) (fun v H1 locs1 hpost hle hk hS1 => ?_)
  obtain ⟨rfl, hXI1⟩ := hpost
  have hMI1 := li_m hF hMI hk
  have hS := hS1
  clear hS1
  refine lv_aload_n hx hb dL_law_1040 rfl (lv_at hl 2 rfl) ?_
  refine lv_aload_n hx hb dL_law_1041 rfl (lv_at hl 0 rfl) ?_
  refine lv_iload_n hx hb dL_law_1042 rfl (lv_at hl 3 rfl) ?_
  refine z_iconst (n := 1) hx hb dL_law_1043 ?_
  refine z_iadd hx hb dL_law_1044 ?_
  refine z_sld hx hb hX hbl hbA hS (by omega) hL dL_law_1045 ?_
  refine lv_aload_n hx hb dL_law_1046 rfl (lv_at hl 0 rfl) ?_
  refine lv_iload_n hx hb dL_law_1047 rfl (lv_at hl 3 rfl) ?_
  refine z_iconst (n := 2) hx hb dL_law_1048 ?_
  refine z_iadd hx hb dL_law_1049 ?_
  refine z_sld hx hb hX hbl hbA hS (by omega) hL dL_law_1050 ?_
  obtain ⟨Y9, Z9, Hh9, Sl9, Kp9, Go9, Nt9, rn9, Rd9, rr9, hHR9, hSR9, hMo9, hRw9, -⟩ := id hMI1
  refine z_ro (zrV (As := [.int (zI (sx xs (i + 1))), .int (zI (sx xs (i + 2)))]) (rest := [.int (zI (shownInF S (sx xs (i + 1)) (sx xs (i + 2))))]) (Pw := fun H => va_P G vwCl (moW cs m n tl rn9) H ∧ va_P G vwCl (m7 cs m 1 0 361 (aI Y9)) H) ⟨hx, hb, hml, hown, hts⟩ (c_X7_shownIn l G cs m S Y9 n tl rn9 (sx xs (i + 1)) (sx xs (i + 2)) hA.1 rr9 (sx_r _ _) (sx_r _ _)) gL_law_X7_shownIn rfl qX7_shownIn rfl rfl ⟨Nat.le_of_ble_eq_true rfl, Nat.le_of_ble_eq_true rfl⟩ ⟨hMo9, hRw9⟩ hK (va_recv hK.1 hMo9 (ci := 7) (q0 := 0) rfl rfl) hl.1 rfl (Nat.le_of_ble_eq_true rfl) dL_law_1051 (show cells + 0 + 0 ≤ 600000 ∧ slots + 0 + 0 ≤ 7302250 by omega)) ?_
  refine lv_icmp_eq (tgt := 1082) hx hb dL_law_1054 (by decide) (fun _ => ?_) (fun h9 => absurd rfl h9)
  refine W.widen (k := cells + 8) (n := slots + 260) (by omega) (by omega) ?_
  exact K (S, (n, L9), (tl, X), (k, V)) w _ _ ⟨hA, hXI1, hMI1, hsd, hW⟩ hS _ hl

set_option maxHeartbeats 4000000 in
set_option maxRecDepth 100000 in
theorem law_c27 (hC : LC p s mM c b L xs) (hK : kK G cs s) (hF : LF a m s.heap.size) (hLI : LI G cs a m s.heap.size A w H) (hS : va_S (fun q => s.heap.size ≤ q) s.heap H locs) (hl : lv_has ls 8 (lvL b a m i)) (hi : 0 ≤ i ∧ i + 5 ≤ L) (hc : cells + 8 ≤ 600000 ∧ slots + 260 ≤ 7302250) (K : KT p l e s mM below meth c G cs a m b i (cells + 8) (slots + 260) Q) : W p l e room_1 s mM #[Value.ref b] below meth c H locs cells slots Q (F0 mM 1059 ls []) := by
  obtain ⟨hx, hb, hml, hown, hts, hX, hbl, hL⟩ := hC
  obtain ⟨S, ⟨n, L9⟩, ⟨tl, X⟩, ⟨k, V⟩⟩ := A
  obtain ⟨hA, hXI, hMI, hsd, hW⟩ := hLI
  have hsd : SnD a w k := hsd
  have hW : ∀ s9 j9, s9 < 2 → j9 < 8 → k s9 = true → s.heap.size ≤ w (8 * s9 + j9) ∧ ∀ i9, i9 < 10 → w (8 * s9 + j9) ≠ m i9 := hW
  have hbA : ¬ (fun q : Nat => s.heap.size ≤ q) b := Nat.not_le.mpr hbl
  have hl : lv_has ls 8 [(0, .ref b), (1, .ref (a 0)), (2, .ref (m 0)), (3, .int (zI i))] := hl
  refine lv_aload_n hx hb dL_law_1059 rfl (lv_at hl 1 rfl) ?_
  refine lv_aload_n hx hb dL_law_1060 rfl (lv_at hl 0 rfl) ?_
  refine lv_iload_n hx hb dL_law_1061 rfl (lv_at hl 3 rfl) ?_
  refine z_iconst (n := 1) hx hb dL_law_1062 ?_
  refine z_iadd hx hb dL_law_1063 ?_
  refine z_sld hx hb hX hbl hbA hS (by omega) hL dL_law_1064 ?_
  refine z_w (zrV (As := [.int (zI (sx xs (i + 1)))]) (rest := []) ⟨hx, hb, hml, hown, hts⟩ (c_X6_count l G cs a w S n L9 tl X k V (sx xs (i + 1)) hF.1 hsd hA (sx_r _ _)) gL_law_X6_count rfl qX6_count rfl rfl ⟨Nat.le_of_ble_eq_true rfl, Nat.le_of_ble_eq_true rfl⟩ hXI hK (va_recv hK.1 hXI.xo (ci := 6) (q0 := 0) rfl rfl) hl.1 rfl (Nat.le_of_ble_eq_true rfl) dL_law_1065 (show cells + 0 ≤ 600000 ∧ slots + 0 ≤ 7302250 by omega)) hS (lf_a hF) (lf_a hF) (fun v H1 locs1 hpost hle hk hS1 => ?_)
  obtain ⟨rfl, hXI1⟩ := hpost
  have hMI1 := li_m hF hMI hk
  have hS := hS1
  clear hS1
  refine lv_aload_n hx hb dL_law_1068 rfl (lv_at hl 2 rfl) ?_
  refine lv_aload_n hx hb dL_law_1069 rfl (lv_at hl 0 rfl) ?_
  refine lv_iload_n hx hb dL_law_1070 rfl (lv_at hl 3 rfl) ?_
  refine z_iconst (n := 1) hx hb dL_law_1071 ?_
  refine z_iadd hx hb dL_law_1072 ?_
  refine z_sld hx hb hX hbl hbA hS (by omega) hL dL_law_1073 ?_
  obtain ⟨Y9, Z9, Hh9, Sl9, Kp9, Go9, Nt9, rn9, Rd9, rr9, hHR9, hSR9, hMo9, hRw9, -⟩ := id hMI1
  refine z_ro (zrV (As := [.int (zI (sx xs (i + 1)))]) (rest := [.int (zI (countF (S, (n, L9), (tl, X), (k, V)) (sx xs (i + 1))))]) (Pw := fun H => va_P G vwCl (moW cs m n tl rn9) H ∧ va_P G vwCl (m7 cs m 1 0 361 (aI Y9)) H) ⟨hx, hb, hml, hown, hts⟩ (c_X7_count l G cs m S Y9 n tl rn9 L9 X k V (sx xs (i + 1)) hA.1 rr9 (sx_r _ _)) gL_law_X7_count rfl qX7_count rfl rfl ⟨Nat.le_of_ble_eq_true rfl, Nat.le_of_ble_eq_true rfl⟩ ⟨hMo9, hRw9⟩ hK (va_recv hK.1 hMo9 (ci := 7) (q0 := 0) rfl rfl) hl.1 rfl (Nat.le_of_ble_eq_true rfl) dL_law_1074 (show cells + 0 + 0 ≤ 600000 ∧ slots + 0 + 0 ≤ 7302250 by omega)) ?_
  refine lv_icmp_eq (tgt := 1082) hx hb dL_law_1077 (by decide) (fun _ => ?_) (fun h9 => absurd rfl h9)
  refine W.widen (k := cells + 8) (n := slots + 260) (by omega) (by omega) ?_
  exact K (S, (n, L9), (tl, X), (k, V)) w _ _ ⟨hA, hXI1, hMI1, hsd, hW⟩ hS _ hl
end LW
