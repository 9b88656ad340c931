set_option maxHeartbeats 4000000 in
set_option maxRecDepth 100000 in
theorem c_X3_init (l : Launch) (G : va_G) (cs : Nat → ClassId) (a : Nat → Nat) (hsq : Seq a) : MV l yX3_init wsX3_init { frames := 1, cells := 2, slots := 48, locals := 12 } G cs [.ref (a 0)] (fun H => va_P G vwCl ([(a 0, .inr (3, [.int (zI 0), .null, .null]))]) H ∧ H.size = a 1) (fun H => va_P G vwCl [((sh a 1) 0, .inl (cs 1, 24, .inr (.inl (fun _ => 0))))] H ∧ va_P G vwCl [((sh a 2) 0, .inl (cs 1, 24, .inr (.inl (fun _ => 0))))] H ∧ va_P G vwCl [(a 0, .inr (3, [.int (zI 0), .ref ((sh a 1) 0), .ref ((sh a 2) 0)]))] H ∧ H.size = a 3) (AX a 0 3) 2 48 := by
  refine m_intro (Pw := (fun H => va_P G vwCl ([(a 0, .inr (3, [.int (zI 0), .null, .null]))]) H ∧ H.size = a 1)) (cc := cX3_init) (maxL := 1) (ret := none) RX3 (by decide) rfl rfl (Nat.le_of_ble_eq_true rfl) ?_
  intro pP eE sS mM below meth cC hx hb hr hts hown hml hlk hnm hPre hK ls hl
  have hl : lv_has ls 1 [(0, .ref (a 0))] := hl
  obtain ⟨hOb, hz⟩ := hPre
  have hS : va_S (AX a 0 3) sS.heap sS.heap [] := va_S.rf
  have hi3 : ∀ w ∈ u_ws RX3 TX3 3, w ∈ wsX3_init := by decide +kernel
  have ia := seq_inj hsq 62
  refine lv_aload_n hx hb dX3_init_0 rfl (lv_at hl 0 rfl) ?_
  refine W.objInit hx hb hown (hts (.methodLink RX3 3 objectInit) (by decide +kernel)) (hts (.instanceMethod objectInit) (by decide +kernel)) (hts (.code objectInit ⟨#[0xb1]⟩ 1 none) (by decide +kernel)) rfl (by rw [hml]; exact hl.1) rfl dX3_init_1 (Nat.le_of_ble_eq_true rfl) (Nat.le_of_ble_eq_true rfl) ?_
  refine W.eq (g2 := F0 mM 4 ls []) rfl ?_
  refine lv_aload_n hx hb dX3_init_4 rfl (lv_at hl 0 rfl) ?_
  refine z_bipush (n := 24) hx hb dX3_init_5 (by decide) ?_
  refine z_newa (atype := .long) (ty := .long) (n := 24) (N := 24) hx hb (hts (.arrayClass .long) (by decide +kernel)) rfl hK.1 hS 1 rfl (a0 := (24, .inr (.inl (fun _ => 0)))) rfl (by decide) rfl (by decide) (Nat.le_of_ble_eq_true rfl) (Nat.le_of_ble_eq_true rfl) (q := (sh a 1) 0) hz dX3_init_7 (fun H hP1 hz9 hk hS => ?_)
  have hOb := keepO (Ord.of (b := a) (n := 1) rfl) hOb hk (fun _ _ h => h)
  have hLo : va_P G vwCl ([((sh a 1) 0, .inl (cs 1, 24, .inr (.inl (fun _ => 0))))]) H := hP1
  have hz : H.size = a 2 := hz9.trans (hsq 1).symm
  refine z_putF (G := G) (ci := 3) (v := .ref ((sh a 1) 0)) (ty := tyX3 1) (C := RX3) (T := TX3) (N := 3) hx hb hts hi3 tyX3 tyX3_ok nmX3 hown hK.1 hOb (Ord.D (Ord.of (b := a) (n := 1) rfl) inj1) hS 0 rfl rfl 1 (by decide) (hts (.fieldLink RX3 9 "SpriteLines$Sheet" "low" "[J") (by decide +kernel)) (fun _ h9 => h9) rfl (hnm.trans rfl) rfl (by decide +kernel) rfl rfl (Nat.le_of_ble_eq_true rfl) ⟨0, by decide, by decide, rfl⟩ dX3_init_9 (fun H locs hP1 hle hk hS => ?_)
  have hz : H.size = a 2 := hle.trans hz
  have hLo := keepO (Ord.of (b := (sh a 1)) (n := 1) rfl) hLo hk (fun j hj h3 => absurd (ia (1 + j) 0 (by omega) (by omega) h3) (by omega))
  have hOb : va_P G vwCl ([(a 0, .inr (3, [.int (zI 0), .ref ((sh a 1) 0), .null]))]) H := hP1
  refine lv_aload_n hx hb dX3_init_12 rfl (lv_at hl 0 rfl) ?_
  refine z_bipush (n := 24) hx hb dX3_init_13 (by decide) ?_
  refine z_newa (atype := .long) (ty := .long) (n := 24) (N := 24) hx hb (hts (.arrayClass .long) (by decide +kernel)) rfl hK.1 hS 1 rfl (a0 := (24, .inr (.inl (fun _ => 0)))) rfl (by decide) rfl (by decide) (Nat.le_of_ble_eq_true rfl) (Nat.le_of_ble_eq_true rfl) (q := (sh a 2) 0) hz dX3_init_15 (fun H hP1 hz9 hk hS => ?_)
  have hOb := keepO (Ord.of (b := a) (n := 1) rfl) hOb hk (fun _ _ h => h)
  have hLo := keepO (Ord.of (b := (sh a 1)) (n := 1) rfl) hLo hk (fun _ _ h => h)
  have hHi : va_P G vwCl ([((sh a 2) 0, .inl (cs 1, 24, .inr (.inl (fun _ => 0))))]) H := hP1
  have hz : H.size = a 3 := hz9.trans (hsq 2).symm
  refine z_putF (G := G) (ci := 3) (v := .ref ((sh a 2) 0)) (ty := tyX3 2) (C := RX3) (T := TX3) (N := 3) hx hb hts hi3 tyX3 tyX3_ok nmX3 hown hK.1 hOb (Ord.D (Ord.of (b := a) (n := 1) rfl) inj1) hS 0 rfl rfl 2 (by decide) (hts (.fieldLink RX3 15 "SpriteLines$Sheet" "high" "[J") (by decide +kernel)) (fun _ h9 => h9) rfl (hnm.trans rfl) rfl (by decide +kernel) rfl rfl (Nat.le_of_ble_eq_true rfl) ⟨0, by decide, by decide, rfl⟩ dX3_init_17 (fun H locs hP1 hle hk hS => ?_)
  have hz : H.size = a 3 := hle.trans hz
  have hLo := keepO (Ord.of (b := (sh a 1)) (n := 1) rfl) hLo hk (fun j hj h3 => absurd (ia (1 + j) 0 (by omega) (by omega) h3) (by omega))
  have hHi := keepO (Ord.of (b := (sh a 2)) (n := 1) rfl) hHi hk (fun j hj h3 => absurd (ia (2 + j) 0 (by omega) (by omega) h3) (by omega))
  have hOb : va_P G vwCl ([(a 0, .inr (3, [.int (zI 0), .ref ((sh a 1) 0), .ref ((sh a 2) 0)]))]) H := hP1
  exact v_ret hx hb hr hlk dX3_init_20 hS ⟨hLo, hHi, hOb, hz⟩

set_option maxHeartbeats 4000000 in
set_option maxRecDepth 100000 in
theorem c_X4_init (l : Launch) (G : va_G) (cs : Nat → ClassId) (a : Nat → Nat) (hsq : Seq a) : MV l yX4_init wsX4_init { frames := 2, cells := 7, slots := 251, locals := 32 } G cs [.ref (a 0)] (fun H => va_P G vwCl ([(a 0, .inr (4, [.int (zI 0), .int (zI 0), .int (zI 0), .int (zI 0), .null, .null, .null, .null, .null]))]) H ∧ H.size = a 1) (fun H => va_P G vwCl (stW cs a S0) H ∧ H.size = a 8) (AX a 0 8) 7 251 := by
  refine m_intro (Pw := (fun H => va_P G vwCl ([(a 0, .inr (4, [.int (zI 0), .int (zI 0), .int (zI 0), .int (zI 0), .null, .null, .null, .null, .null]))]) H ∧ H.size = a 1)) (cc := cX4_init) (maxL := 3) (ret := none) RX4 (by decide) rfl rfl (Nat.le_of_ble_eq_true rfl) ?_
  intro pP eE sS mM below meth cC hx hb hr hts hown hml hlk hnm hPre hK ls hl
  have hl : lv_has ls 3 [(0, .ref (a 0))] := hl
  obtain ⟨hOb, hz⟩ := hPre
  have hS : va_S (AX a 0 8) sS.heap sS.heap [] := va_S.rf
  have hi3 : ∀ w ∈ u_ws RX3 TX3 3, w ∈ wsX4_init := by decide +kernel
  have hi4 : ∀ w ∈ u_ws RX4 TX4 9, w ∈ wsX4_init := by decide +kernel
  have ia := seq_inj hsq 62
  refine lv_aload_n hx hb dX4_init_0 rfl (lv_at hl 0 rfl) ?_
  refine W.objInit hx hb hown (hts (.methodLink RX4 3 objectInit) (by decide +kernel)) (hts (.instanceMethod objectInit) (by decide +kernel)) (hts (.code objectInit ⟨#[0xb1]⟩ 1 none) (by decide +kernel)) rfl (by rw [hml]; exact hl.1) rfl dX4_init_1 (Nat.le_of_ble_eq_true rfl) (Nat.le_of_ble_eq_true rfl) ?_
  refine W.eq (g2 := F0 mM 4 ls []) rfl ?_
  refine lv_aload_n hx hb dX4_init_4 rfl (lv_at hl 0 rfl) ?_
  refine z_iconst (n := 4) hx hb dX4_init_5 ?_
  refine z_putE (G := G) (ci := 4) (v := .int (zI 4)) (ty := tyX4 1) (C := RX4) (T := TX4) (N := 9) hx hb hts hi4 tyX4 tyX4_ok nmX4 hown hK.1 hOb (Ord.D (Ord.of (b := a) (n := 1) rfl) inj1) hS 0 rfl rfl 1 (by decide) (hts (.fieldLink RX4 9 "SpriteLines$State" "limit" "I") (by decide +kernel)) (fun _ h9 => h9) rfl (by decide +kernel) rfl rfl (Nat.le_of_ble_eq_true rfl) ⟨0, by decide, by decide, rfl⟩ dX4_init_6 (fun H locs hP1 hle hk hS => ?_)
  have hz : H.size = a 1 := hle.trans hz
  have hOb : va_P G vwCl ([(a 0, .inr (4, [.int (zI 0), .int (zI 4), .int (zI 0), .int (zI 0), .null, .null, .null, .null, .null]))]) H := hP1
  refine lv_aload_n hx hb dX4_init_9 rfl (lv_at hl 0 rfl) ?_
  refine z_new (C := RX3) (T := TX3) (N := 3) (ci := 3) hx hb hts hi3 tyX3 tyX3_ok hown (hts (.classLink RX4 15 RX3) (by decide +kernel)) (hts (.instantiable RX3 3) (by decide +kernel)) (hts (.initialized RX3) (by decide +kernel)) hK.1 hS rfl (fs := [.int (zI 0), .null, .null]) blX3 (Nat.le_of_ble_eq_true rfl) (Nat.le_of_ble_eq_true rfl) (q := (sh a 1) 0) hz dX4_init_10 (fun H hP1 hz9 hk hS => ?_)
  have hOb := keepO (Ord.of (b := a) (n := 1) rfl) hOb hk (fun _ _ h => h)
  have hN1 : va_P G vwCl ([((sh a 1) 0, .inr (3, [.int (zI 0), .null, .null]))]) H := hP1
  have hz : H.size = a 2 := hz9.trans (hsq 1).symm
  refine lv_dup hx hb dX4_init_13 rfl ?_
  refine z_v (zrIN (C := RX3) (As := []) (rest := [.ref ((sh a 1) 0), .ref (a 0)]) (Pw := fun H => va_P G vwCl ([((sh a 1) 0, .inr (3, [.int (zI 0), .null, .null]))]) H ∧ H.size = a 2) ⟨hx, hb, hml, hown, hts⟩ (c_X3_init l G cs (sh a 1) (seq_sh hsq 1)) gX4_init_X3_init_n17 rfl (hts (.initialized RX3) (by decide +kernel)) hK.2.2.2.1 (hts (.instanceMethod yX3_init) (by decide +kernel)) rfl qX3_init rfl rfl ⟨Nat.le_of_ble_eq_true rfl, Nat.le_of_ble_eq_true rfl⟩ ⟨hN1, hz⟩ hK hl.1 rfl (Nat.le_of_ble_eq_true rfl) dX4_init_14 ⟨Nat.le_of_ble_eq_true rfl, Nat.le_of_ble_eq_true rfl⟩) hS (fun q h => ax_mono (ax_sh h) (by decide) (by decide)) (fun q h => ax_mono (ax_sh h) (by decide) (by decide)) (fun H locs hpost hle hk hS => ?_)
  obtain ⟨hLo', hHi', hN1', hz'⟩ := hpost
  have hOb := keepO (Ord.of (b := a) (n := 1) rfl) hOb hk (fun j hj ⟨i, h1, h2, h3⟩ => absurd (ia j (1 + i) (by omega) (by omega) h3) (by omega))
  have hLo : va_P G vwCl ([((sh a 2) 0, .inl (cs 1, 24, .inr (.inl (fun _ => 0))))]) H := hLo'
  have hHi : va_P G vwCl ([((sh a 3) 0, .inl (cs 1, 24, .inr (.inl (fun _ => 0))))]) H := hHi'
  have hN1 : va_P G vwCl ([((sh a 1) 0, .inr (3, [.int (zI 0), .ref ((sh a 2) 0), .ref ((sh a 3) 0)]))]) H := hN1'
  have hz : H.size = a 4 := hz'
  refine z_putF (G := G) (ci := 4) (v := .ref ((sh a 1) 0)) (ty := tyX4 4) (C := RX4) (T := TX4) (N := 9) hx hb hts hi4 tyX4 tyX4_ok nmX4 hown hK.1 hOb (Ord.D (Ord.of (b := a) (n := 1) rfl) inj1) hS 0 rfl rfl 4 (by decide) (hts (.fieldLink RX4 18 "SpriteLines$State" "sheet" "LSpriteLines$Sheet;") (by decide +kernel)) (fun _ h9 => h9) rfl (hnm.trans rfl) rfl (by decide +kernel) rfl rfl (Nat.le_of_ble_eq_true rfl) ⟨0, by decide, by decide, rfl⟩ dX4_init_17 (fun H locs hP1 hle hk hS => ?_)
  have hz : H.size = a 4 := hle.trans hz
  have hN1 := keepO (Ord.of (b := (sh a 1)) (n := 1) rfl) hN1 hk (fun j hj h3 => absurd (ia (1 + j) 0 (by omega) (by omega) h3) (by omega))
  have hLo := keepO (Ord.of (b := (sh a 2)) (n := 1) rfl) hLo hk (fun j hj h3 => absurd (ia (2 + j) 0 (by omega) (by omega) h3) (by omega))
  have hHi := keepO (Ord.of (b := (sh a 3)) (n := 1) rfl) hHi hk (fun j hj h3 => absurd (ia (3 + j) 0 (by omega) (by omega) h3) (by omega))
  have hOb : va_P G vwCl ([(a 0, .inr (4, [.int (zI 0), .int (zI 4), .int (zI 0), .int (zI 0), .ref ((sh a 1) 0), .null, .null, .null, .null]))]) H := hP1
  refine lv_aload_n hx hb dX4_init_20 rfl (lv_at hl 0 rfl) ?_
  refine z_bipush (n := 120) hx hb dX4_init_21 (by decide) ?_
  refine z_newa (atype := .int) (ty := .int) (n := 120) (N := 120) hx hb (hts (.arrayClass .int) (by decide +kernel)) rfl hK.1 hS 0 rfl (a0 := (120, .inl (aI (fun _ => 0)))) rfl (by decide) rfl (by decide) (Nat.le_of_ble_eq_true rfl) (Nat.le_of_ble_eq_true rfl) (q := (sh a 4) 0) hz dX4_init_23 (fun H hP1 hz9 hk hS => ?_)
  have hOb := keepO (Ord.of (b := a) (n := 1) rfl) hOb hk (fun _ _ h => h)
  have hN1 := keepO (Ord.of (b := (sh a 1)) (n := 1) rfl) hN1 hk (fun _ _ h => h)
  have hLo := keepO (Ord.of (b := (sh a 2)) (n := 1) rfl) hLo hk (fun _ _ h => h)
  have hHi := keepO (Ord.of (b := (sh a 3)) (n := 1) rfl) hHi hk (fun _ _ h => h)
  have hN4 : va_P G vwCl ([((sh a 4) 0, .inl (cs 0, 120, .inl (aI (fun _ => 0))))]) H := hP1
  have hz : H.size = a 5 := hz9.trans (hsq 4).symm
  refine z_putF (G := G) (ci := 4) (v := .ref ((sh a 4) 0)) (ty := tyX4 5) (C := RX4) (T := TX4) (N := 9) hx hb hts hi4 tyX4 tyX4_ok nmX4 hown hK.1 hOb (Ord.D (Ord.of (b := a) (n := 1) rfl) inj1) hS 0 rfl rfl 5 (by decide) (hts (.fieldLink RX4 22 "SpriteLines$State" "properties" "[I") (by decide +kernel)) (fun _ h9 => h9) rfl (hnm.trans rfl) rfl (by decide +kernel) rfl rfl (Nat.le_of_ble_eq_true rfl) ⟨0, by decide, by decide, rfl⟩ dX4_init_25 (fun H locs hP1 hle hk hS => ?_)
  have hz : H.size = a 5 := hle.trans hz
  have hN1 := keepO (Ord.of (b := (sh a 1)) (n := 1) rfl) hN1 hk (fun j hj h3 => absurd (ia (1 + j) 0 (by omega) (by omega) h3) (by omega))
  have hLo := keepO (Ord.of (b := (sh a 2)) (n := 1) rfl) hLo hk (fun j hj h3 => absurd (ia (2 + j) 0 (by omega) (by omega) h3) (by omega))
  have hHi := keepO (Ord.of (b := (sh a 3)) (n := 1) rfl) hHi hk (fun j hj h3 => absurd (ia (3 + j) 0 (by omega) (by omega) h3) (by omega))
  have hN4 := keepO (Ord.of (b := (sh a 4)) (n := 1) rfl) hN4 hk (fun j hj h3 => absurd (ia (4 + j) 0 (by omega) (by omega) h3) (by omega))
  have hOb : va_P G vwCl ([(a 0, .inr (4, [.int (zI 0), .int (zI 4), .int (zI 0), .int (zI 0), .ref ((sh a 1) 0), .ref ((sh a 4) 0), .null, .null, .null]))]) H := hP1
  refine lv_aload_n hx hb dX4_init_28 rfl (lv_at hl 0 rfl) ?_
  refine z_bipush (n := 16) hx hb dX4_init_29 (by decide) ?_
  refine z_newa (atype := .int) (ty := .int) (n := 16) (N := 16) hx hb (hts (.arrayClass .int) (by decide +kernel)) rfl hK.1 hS 0 rfl (a0 := (16, .inl (aI (fun _ => 0)))) rfl (by decide) rfl (by decide) (Nat.le_of_ble_eq_true rfl) (Nat.le_of_ble_eq_true rfl) (q := (sh a 5) 0) hz dX4_init_31 (fun H hP1 hz9 hk hS => ?_)
  have hOb := keepO (Ord.of (b := a) (n := 1) rfl) hOb hk (fun _ _ h => h)
  have hN1 := keepO (Ord.of (b := (sh a 1)) (n := 1) rfl) hN1 hk (fun _ _ h => h)
  have hLo := keepO (Ord.of (b := (sh a 2)) (n := 1) rfl) hLo hk (fun _ _ h => h)
  have hHi := keepO (Ord.of (b := (sh a 3)) (n := 1) rfl) hHi hk (fun _ _ h => h)
  have hN4 := keepO (Ord.of (b := (sh a 4)) (n := 1) rfl) hN4 hk (fun _ _ h => h)
  have hN5 : va_P G vwCl ([((sh a 5) 0, .inl (cs 0, 16, .inl (aI (fun _ => 0))))]) H := hP1
  have hz : H.size = a 6 := hz9.trans (hsq 5).symm
  refine z_putF (G := G) (ci := 4) (v := .ref ((sh a 5) 0)) (ty := tyX4 6) (C := RX4) (T := TX4) (N := 9) hx hb hts hi4 tyX4 tyX4_ok nmX4 hown hK.1 hOb (Ord.D (Ord.of (b := a) (n := 1) rfl) inj1) hS 0 rfl rfl 6 (by decide) (hts (.fieldLink RX4 26 "SpriteLines$State" "colors" "[I") (by decide +kernel)) (fun _ h9 => h9) rfl (hnm.trans rfl) rfl (by decide +kernel) rfl rfl (Nat.le_of_ble_eq_true rfl) ⟨0, by decide, by decide, rfl⟩ dX4_init_33 (fun H locs hP1 hle hk hS => ?_)
  have hz : H.size = a 6 := hle.trans hz
  have hN1 := keepO (Ord.of (b := (sh a 1)) (n := 1) rfl) hN1 hk (fun j hj h3 => absurd (ia (1 + j) 0 (by omega) (by omega) h3) (by omega))
  have hLo := keepO (Ord.of (b := (sh a 2)) (n := 1) rfl) hLo hk (fun j hj h3 => absurd (ia (2 + j) 0 (by omega) (by omega) h3) (by omega))
  have hHi := keepO (Ord.of (b := (sh a 3)) (n := 1) rfl) hHi hk (fun j hj h3 => absurd (ia (3 + j) 0 (by omega) (by omega) h3) (by omega))
  have hN4 := keepO (Ord.of (b := (sh a 4)) (n := 1) rfl) hN4 hk (fun j hj h3 => absurd (ia (4 + j) 0 (by omega) (by omega) h3) (by omega))
  have hN5 := keepO (Ord.of (b := (sh a 5)) (n := 1) rfl) hN5 hk (fun j hj h3 => absurd (ia (5 + j) 0 (by omega) (by omega) h3) (by omega))
  have hOb : va_P G vwCl ([(a 0, .inr (4, [.int (zI 0), .int (zI 4), .int (zI 0), .int (zI 0), .ref ((sh a 1) 0), .ref ((sh a 4) 0), .ref ((sh a 5) 0), .null, .null]))]) H := hP1
  refine lv_aload_n hx hb dX4_init_36 rfl (lv_at hl 0 rfl) ?_
  refine z_bipush (n := 32) hx hb dX4_init_37 (by decide) ?_
  refine z_newa (atype := .int) (ty := .int) (n := 32) (N := 32) hx hb (hts (.arrayClass .int) (by decide +kernel)) rfl hK.1 hS 0 rfl (a0 := (32, .inl (aI (fun _ => 0)))) rfl (by decide) rfl (by decide) (Nat.le_of_ble_eq_true rfl) (Nat.le_of_ble_eq_true rfl) (q := (sh a 6) 0) hz dX4_init_39 (fun H hP1 hz9 hk hS => ?_)
  have hOb := keepO (Ord.of (b := a) (n := 1) rfl) hOb hk (fun _ _ h => h)
  have hN1 := keepO (Ord.of (b := (sh a 1)) (n := 1) rfl) hN1 hk (fun _ _ h => h)
  have hLo := keepO (Ord.of (b := (sh a 2)) (n := 1) rfl) hLo hk (fun _ _ h => h)
  have hHi := keepO (Ord.of (b := (sh a 3)) (n := 1) rfl) hHi hk (fun _ _ h => h)
  have hN4 := keepO (Ord.of (b := (sh a 4)) (n := 1) rfl) hN4 hk (fun _ _ h => h)
  have hN5 := keepO (Ord.of (b := (sh a 5)) (n := 1) rfl) hN5 hk (fun _ _ h => h)
  have hN6 : va_P G vwCl ([((sh a 6) 0, .inl (cs 0, 32, .inl (aI (fun _ => 0))))]) H := hP1
  have hz : H.size = a 7 := hz9.trans (hsq 6).symm
  refine z_putF (G := G) (ci := 4) (v := .ref ((sh a 6) 0)) (ty := tyX4 7) (C := RX4) (T := TX4) (N := 9) hx hb hts hi4 tyX4 tyX4_ok nmX4 hown hK.1 hOb (Ord.D (Ord.of (b := a) (n := 1) rfl) inj1) hS 0 rfl rfl 7 (by decide) (hts (.fieldLink RX4 29 "SpriteLines$State" "lowerOfSwaps" "[I") (by decide +kernel)) (fun _ h9 => h9) rfl (hnm.trans rfl) rfl (by decide +kernel) rfl rfl (Nat.le_of_ble_eq_true rfl) ⟨0, by decide, by decide, rfl⟩ dX4_init_41 (fun H locs hP1 hle hk hS => ?_)
  have hz : H.size = a 7 := hle.trans hz
  have hN1 := keepO (Ord.of (b := (sh a 1)) (n := 1) rfl) hN1 hk (fun j hj h3 => absurd (ia (1 + j) 0 (by omega) (by omega) h3) (by omega))
  have hLo := keepO (Ord.of (b := (sh a 2)) (n := 1) rfl) hLo hk (fun j hj h3 => absurd (ia (2 + j) 0 (by omega) (by omega) h3) (by omega))
  have hHi := keepO (Ord.of (b := (sh a 3)) (n := 1) rfl) hHi hk (fun j hj h3 => absurd (ia (3 + j) 0 (by omega) (by omega) h3) (by omega))
  have hN4 := keepO (Ord.of (b := (sh a 4)) (n := 1) rfl) hN4 hk (fun j hj h3 => absurd (ia (4 + j) 0 (by omega) (by omega) h3) (by omega))
  have hN5 := keepO (Ord.of (b := (sh a 5)) (n := 1) rfl) hN5 hk (fun j hj h3 => absurd (ia (5 + j) 0 (by omega) (by omega) h3) (by omega))
  have hN6 := keepO (Ord.of (b := (sh a 6)) (n := 1) rfl) hN6 hk (fun j hj h3 => absurd (ia (6 + j) 0 (by omega) (by omega) h3) (by omega))
  have hOb : va_P G vwCl ([(a 0, .inr (4, [.int (zI 0), .int (zI 4), .int (zI 0), .int (zI 0), .ref ((sh a 1) 0), .ref ((sh a 4) 0), .ref ((sh a 5) 0), .ref ((sh a 6) 0), .null]))]) H := hP1
  refine lv_aload_n hx hb dX4_init_44 rfl (lv_at hl 0 rfl) ?_
  refine z_bipush (n := 32) hx hb dX4_init_45 (by decide) ?_
  refine z_newa (atype := .int) (ty := .int) (n := 32) (N := 32) hx hb (hts (.arrayClass .int) (by decide +kernel)) rfl hK.1 hS 0 rfl (a0 := (32, .inl (aI (fun _ => 0)))) rfl (by decide) rfl (by decide) (Nat.le_of_ble_eq_true rfl) (Nat.le_of_ble_eq_true rfl) (q := (sh a 7) 0) hz dX4_init_47 (fun H hP1 hz9 hk hS => ?_)
  have hOb := keepO (Ord.of (b := a) (n := 1) rfl) hOb hk (fun _ _ h => h)
  have hN1 := keepO (Ord.of (b := (sh a 1)) (n := 1) rfl) hN1 hk (fun _ _ h => h)
  have hLo := keepO (Ord.of (b := (sh a 2)) (n := 1) rfl) hLo hk (fun _ _ h => h)
  have hHi := keepO (Ord.of (b := (sh a 3)) (n := 1) rfl) hHi hk (fun _ _ h => h)
  have hN4 := keepO (Ord.of (b := (sh a 4)) (n := 1) rfl) hN4 hk (fun _ _ h => h)
  have hN5 := keepO (Ord.of (b := (sh a 5)) (n := 1) rfl) hN5 hk (fun _ _ h => h)
  have hN6 := keepO (Ord.of (b := (sh a 6)) (n := 1) rfl) hN6 hk (fun _ _ h => h)
  have hN7 : va_P G vwCl ([((sh a 7) 0, .inl (cs 0, 32, .inl (aI (fun _ => 0))))]) H := hP1
  have hz : H.size = a 8 := hz9.trans (hsq 7).symm
  refine z_putF (G := G) (ci := 4) (v := .ref ((sh a 7) 0)) (ty := tyX4 8) (C := RX4) (T := TX4) (N := 9) hx hb hts hi4 tyX4 tyX4_ok nmX4 hown hK.1 hOb (Ord.D (Ord.of (b := a) (n := 1) rfl) inj1) hS 0 rfl rfl 8 (by decide) (hts (.fieldLink RX4 32 "SpriteLines$State" "upperOfSwaps" "[I") (by decide +kernel)) (fun _ h9 => h9) rfl (hnm.trans rfl) rfl (by decide +kernel) rfl rfl (Nat.le_of_ble_eq_true rfl) ⟨0, by decide, by decide, rfl⟩ dX4_init_49 (fun H locs hP1 hle hk hS => ?_)
  have hz : H.size = a 8 := hle.trans hz
  have hN1 := keepO (Ord.of (b := (sh a 1)) (n := 1) rfl) hN1 hk (fun j hj h3 => absurd (ia (1 + j) 0 (by omega) (by omega) h3) (by omega))
  have hLo := keepO (Ord.of (b := (sh a 2)) (n := 1) rfl) hLo hk (fun j hj h3 => absurd (ia (2 + j) 0 (by omega) (by omega) h3) (by omega))
  have hHi := keepO (Ord.of (b := (sh a 3)) (n := 1) rfl) hHi hk (fun j hj h3 => absurd (ia (3 + j) 0 (by omega) (by omega) h3) (by omega))
  have hN4 := keepO (Ord.of (b := (sh a 4)) (n := 1) rfl) hN4 hk (fun j hj h3 => absurd (ia (4 + j) 0 (by omega) (by omega) h3) (by omega))
  have hN5 := keepO (Ord.of (b := (sh a 5)) (n := 1) rfl) hN5 hk (fun j hj h3 => absurd (ia (5 + j) 0 (by omega) (by omega) h3) (by omega))
  have hN6 := keepO (Ord.of (b := (sh a 6)) (n := 1) rfl) hN6 hk (fun j hj h3 => absurd (ia (6 + j) 0 (by omega) (by omega) h3) (by omega))
  have hN7 := keepO (Ord.of (b := (sh a 7)) (n := 1) rfl) hN7 hk (fun j hj h3 => absurd (ia (7 + j) 0 (by omega) (by omega) h3) (by omega))
  have hOb : va_P G vwCl ([(a 0, .inr (4, [.int (zI 0), .int (zI 4), .int (zI 0), .int (zI 0), .ref ((sh a 1) 0), .ref ((sh a 4) 0), .ref ((sh a 5) 0), .ref ((sh a 6) 0), .ref ((sh a 7) 0)]))]) H := hP1
  refine z_iconst (n := 0) hx hb dX4_init_52 ?_
  refine lv_istore_n (lv' := [(1, .int (zI 0)), (0, .ref (a 0))]) hx hb dX4_init_53 rfl hl (by decide) rfl (fun ls hl => ?_)
  -- loop 54
  refine z_loopH (nL := 3) (fun (i : Int) => [(0, .ref (a 0)), (1, .int (zI i))]) (fun (i : Int) (H : Heap) => (0 ≤ i ∧ i ≤ 4) ∧ va_P G vwCl ([(a 0, .inr (4, [.int (zI 0), .int (zI 4), .int (zI 0), .int (zI 0), .ref ((sh a 1) 0), .ref ((sh a 4) 0), .ref ((sh a 5) 0), .ref ((sh a 6) 0), .ref ((sh a 7) 0)]))]) H ∧ H.size = a 8 ∧ va_P G vwCl ([((sh a 1) 0, .inr (3, [.int (zI 0), .ref ((sh a 2) 0), .ref ((sh a 3) 0)]))]) H ∧ va_P G vwCl ([((sh a 2) 0, .inl (cs 1, 24, .inr (.inl (fun _ => 0))))]) H ∧ va_P G vwCl ([((sh a 3) 0, .inl (cs 1, 24, .inr (.inl (fun _ => 0))))]) H ∧ va_P G vwCl ([((sh a 4) 0, .inl (cs 0, 120, .inl (aI (fun _ => 0))))]) H ∧ va_P G vwCl ([((sh a 5) 0, .inl (cs 0, 16, .inl (aI (colP i 1))))]) H ∧ va_P G vwCl ([((sh a 6) 0, .inl (cs 0, 32, .inl (aI (fun _ => 0))))]) H ∧ va_P G vwCl ([((sh a 7) 0, .inl (cs 0, 32, .inl (aI (fun _ => 0))))]) H) (fun (i : Int) => (4 - i).toNat) 0 ⟨(by omega), hOb, hz, hN1, hLo, hHi, hN4, (by rw [colP_0]; exact hN5), hN6, hN7⟩ hS (lv_sub hl [1, 0] rfl) (fun i H locs hIH hS ih ls hl => ?_)
  obtain ⟨hI, hOb, hz, hN1, hLo, hHi, hN4, hN5, hN6, hN7⟩ := hIH
  have hl : lv_has ls 3 [(0, .ref (a 0)), (1, .int (zI i))] := hl
  have ihO := ih
  refine lv_iload_n hx hb dX4_init_54 rfl (lv_at hl 1 rfl) ?_
  refine z_iconst (n := 4) hx hb dX4_init_55 ?_
  refine z_icmp_ge (tgt := 94) hx hb dX4_init_56 (by decide) (by omega) (by omega) (fun c1 => ?_) (fun c1 => ?_)
  · skip
    rw [show i = 4 by omega] at hN5
    have hLo : va_P G vwCl [((sh a 2) 0, .inl (cs 1, 24, .inr (.inl (pL (S0 5)))))] H := by rw [pL_0]; exact hLo
    have hHi : va_P G vwCl [((sh a 3) 0, .inl (cs 1, 24, .inr (.inl (pH (S0 5)))))] H := by rw [pH_0]; exact hHi
    exact v_ret hx hb hr hlk dX4_init_94 hS ⟨hOb.app (hN1.app (hLo.app (hHi.app (hN4.app (hN5.app (hN6.app hN7)))))), hz⟩
  · skip
    refine z_iconst (n := 1) hx hb dX4_init_59 ?_
    refine lv_istore_n (lv' := [(2, .int (zI 1)), (0, .ref (a 0)), (1, .int (zI i))]) hx hb dX4_init_60 rfl hl (by decide) rfl (fun ls hl => ?_)
    -- loop 61
    refine z_loopH (nL := 3) (fun (j : Int) => [(0, .ref (a 0)), (1, .int (zI i)), (2, .int (zI j))]) (fun (j : Int) (H : Heap) => (1 ≤ j ∧ j ≤ 4) ∧ va_P G vwCl ([(a 0, .inr (4, [.int (zI 0), .int (zI 4), .int (zI 0), .int (zI 0), .ref ((sh a 1) 0), .ref ((sh a 4) 0), .ref ((sh a 5) 0), .ref ((sh a 6) 0), .ref ((sh a 7) 0)]))]) H ∧ H.size = a 8 ∧ va_P G vwCl ([((sh a 1) 0, .inr (3, [.int (zI 0), .ref ((sh a 2) 0), .ref ((sh a 3) 0)]))]) H ∧ va_P G vwCl ([((sh a 2) 0, .inl (cs 1, 24, .inr (.inl (fun _ => 0))))]) H ∧ va_P G vwCl ([((sh a 3) 0, .inl (cs 1, 24, .inr (.inl (fun _ => 0))))]) H ∧ va_P G vwCl ([((sh a 4) 0, .inl (cs 0, 120, .inl (aI (fun _ => 0))))]) H ∧ va_P G vwCl ([((sh a 5) 0, .inl (cs 0, 16, .inl (aI (colP i j))))]) H ∧ va_P G vwCl ([((sh a 6) 0, .inl (cs 0, 32, .inl (aI (fun _ => 0))))]) H ∧ va_P G vwCl ([((sh a 7) 0, .inl (cs 0, 32, .inl (aI (fun _ => 0))))]) H) (fun (j : Int) => (4 - j).toNat) 1 ⟨(by omega), hOb, hz, hN1, hLo, hHi, hN4, hN5, hN6, hN7⟩ hS (lv_sub hl [1, 2, 0] rfl) (fun j H locs hIH hS ih ls hl => ?_)
    obtain ⟨hI, hOb, hz, hN1, hLo, hHi, hN4, hN5, hN6, hN7⟩ := hIH
    have hl : lv_has ls 3 [(0, .ref (a 0)), (1, .int (zI i)), (2, .int (zI j))] := hl
    have hJ := hI
    refine lv_iload_n hx hb dX4_init_61 rfl (lv_at hl 2 rfl) ?_
    refine z_iconst (n := 4) hx hb dX4_init_62 ?_
    refine z_icmp_ge (tgt := 88) hx hb dX4_init_63 (by decide) (by omega) (by omega) (fun c2 => ?_) (fun c2 => ?_)
    · skip
      refine z_iinc (k := 1) (lv' := [(1, .int (zI (i + 1))), (0, .ref (a 0)), (2, .int (zI j))]) hx hb dX4_init_88 hl rfl (by decide) rfl (fun ls hl => ?_)
      refine lv_goto (tgt := 54) hx hb dX4_init_91 (by decide) ?_
      exact ihO (i + 1) H locs ⟨(by omega), hOb, hz, hN1, hLo, hHi, hN4, (by rw [show j = 4 by omega] at hN5; rw [colP_n]; exact hN5), hN6, hN7⟩ hS (by omega) ls (lv_sub hl [1, 0] rfl)
    · skip
      refine lv_aload_n hx hb dX4_init_66 rfl (lv_at hl 0 rfl) ?_
      refine va_get (D := G) (ci := 4) (v := .ref ((sh a 5) 0)) (C := RX4) (T := TX4) (N := 9) hx hb hts hi4 hown hK.1 hOb 0 rfl rfl 6 (by decide) (hts (.fieldLink RX4 26 "SpriteLines$State" "colors" "[I") (by decide +kernel)) (fun _ h9 => h9) rfl dX4_init_67 ?_
      refine z_iconst (n := 4) hx hb dX4_init_70 ?_
      refine lv_iload_n hx hb dX4_init_71 rfl (lv_at hl 1 rfl) ?_
      refine z_imul hx hb dX4_init_72 ?_
      refine lv_iload_n hx hb dX4_init_73 rfl (lv_at hl 2 rfl) ?_
      refine z_iadd hx hb dX4_init_74 ?_
      refine z_bipush (n := 16) hx hb dX4_init_75 (by decide) ?_
      refine lv_iload_n hx hb dX4_init_77 rfl (lv_at hl 1 rfl) ?_
      refine z_imul hx hb dX4_init_78 ?_
      refine lv_iload_n hx hb dX4_init_79 rfl (lv_at hl 2 rfl) ?_
      refine z_iadd hx hb dX4_init_80 ?_
      refine z_iastE hx hb hK.1 hN5 (Ord.D (Ord.of (b := (sh a 5)) (n := 1) rfl) inj1) hS 0 0 (F := (colP i j)) rfl rfl (by omega) (by decide) ⟨5, by decide, by decide, rfl⟩ dX4_init_81 (fun H locs hP1 hle hk hS => ?_)
      have hOb := keepO (Ord.of (b := a) (n := 1) rfl) hOb hk (fun j hj h3 => absurd (ia j 5 (by omega) (by omega) h3) (by omega))
      have hz : H.size = a 8 := hle.trans hz
      have hN1 := keepO (Ord.of (b := (sh a 1)) (n := 1) rfl) hN1 hk (fun j hj h3 => absurd (ia (1 + j) 5 (by omega) (by omega) h3) (by omega))
      have hLo := keepO (Ord.of (b := (sh a 2)) (n := 1) rfl) hLo hk (fun j hj h3 => absurd (ia (2 + j) 5 (by omega) (by omega) h3) (by omega))
      have hHi := keepO (Ord.of (b := (sh a 3)) (n := 1) rfl) hHi hk (fun j hj h3 => absurd (ia (3 + j) 5 (by omega) (by omega) h3) (by omega))
      have hN4 := keepO (Ord.of (b := (sh a 4)) (n := 1) rfl) hN4 hk (fun j hj h3 => absurd (ia (4 + j) 5 (by omega) (by omega) h3) (by omega))
      have hN6 := keepO (Ord.of (b := (sh a 6)) (n := 1) rfl) hN6 hk (fun j hj h3 => absurd (ia (6 + j) 5 (by omega) (by omega) h3) (by omega))
      have hN7 := keepO (Ord.of (b := (sh a 7)) (n := 1) rfl) hN7 hk (fun j hj h3 => absurd (ia (7 + j) 5 (by omega) (by omega) h3) (by omega))
      have hN5 : va_P G vwCl ([((sh a 5) 0, .inl (cs 0, 16, .inl (aI (updZ (colP i j) ((4 * i) + j) ((16 * i) + j)))))]) H := hP1
      refine z_iinc (k := 2) (lv' := [(2, .int (zI (j + 1))), (0, .ref (a 0)), (1, .int (zI i))]) hx hb dX4_init_82 hl rfl (by decide) rfl (fun ls hl => ?_)
      refine lv_goto (tgt := 61) hx hb dX4_init_85 (by decide) ?_
      exact ih (j + 1) H locs ⟨(by omega), hOb, hz, hN1, hLo, hHi, hN4, (by rw [← colP_s (by omega) (by omega)]; exact hN5), hN6, hN7⟩ hS (by omega) ls (lv_sub hl [1, 2, 0] rfl)

set_option maxHeartbeats 4000000 in
set_option maxRecDepth 100000 in
theorem c_X5_init (l : Launch) (G : va_G) (cs : Nat → ClassId) (a : Nat → Nat) (t : Nat) (hsq : Seq a) : MV l yX5_init wsX5_init { frames := 1, cells := 3, slots := 60, locals := 12 } G cs [.ref (a 0), .ref t] (fun H => va_P G vwCl ([(a 0, .inr (5, [.null, .null, .null, .null]))]) H ∧ H.size = a 1) (fun H => va_P G vwCl (viW cs a t (aI (fun _ => 0)) (cB (fun _ _ => false)) (cB (fun _ _ => false))) H ∧ H.size = a 4) (AX a 0 4) 3 60 := by
  refine m_intro (Pw := (fun H => va_P G vwCl ([(a 0, .inr (5, [.null, .null, .null, .null]))]) H ∧ H.size = a 1)) (cc := cX5_init) (maxL := 2) (ret := none) RX5 (by decide) rfl rfl (Nat.le_of_ble_eq_true rfl) ?_
  intro pP eE sS mM below meth cC hx hb hr hts hown hml hlk hnm hPre hK ls hl
  have hl : lv_has ls 2 [(0, .ref (a 0)), (1, .ref t)] := hl
  obtain ⟨hOb, hz⟩ := hPre
  have hS : va_S (AX a 0 4) sS.heap sS.heap [] := va_S.rf
  have hi5 : ∀ w ∈ u_ws RX5 TX5 4, w ∈ wsX5_init := by decide +kernel
  have ia := seq_inj hsq 62
  refine lv_aload_n hx hb dX5_init_0 rfl (lv_at hl 0 rfl) ?_
  refine W.objInit hx hb hown (hts (.methodLink RX5 3 objectInit) (by decide +kernel)) (hts (.instanceMethod objectInit) (by decide +kernel)) (hts (.code objectInit ⟨#[0xb1]⟩ 1 none) (by decide +kernel)) rfl (by rw [hml]; exact hl.1) rfl dX5_init_1 (Nat.le_of_ble_eq_true rfl) (Nat.le_of_ble_eq_true rfl) ?_
  refine W.eq (g2 := F0 mM 4 ls []) rfl ?_
  refine lv_aload_n hx hb dX5_init_4 rfl (lv_at hl 0 rfl) ?_
  refine z_bipush (n := 20) hx hb dX5_init_5 (by decide) ?_
  refine z_newa (atype := .int) (ty := .int) (n := 20) (N := 20) hx hb (hts (.arrayClass .int) (by decide +kernel)) rfl hK.1 hS 0 rfl (a0 := (20, .inl (aI (fun _ => 0)))) rfl (by decide) rfl (by decide) (Nat.le_of_ble_eq_true rfl) (Nat.le_of_ble_eq_true rfl) (q := (sh a 1) 0) hz dX5_init_7 (fun H hP1 hz9 hk hS => ?_)
  have hOb := keepO (Ord.of (b := a) (n := 1) rfl) hOb hk (fun _ _ h => h)
  have hN1 : va_P G vwCl ([((sh a 1) 0, .inl (cs 0, 20, .inl (aI (fun _ => 0))))]) H := hP1
  have hz : H.size = a 2 := hz9.trans (hsq 1).symm
  refine z_putF (G := G) (ci := 5) (v := .ref ((sh a 1) 0)) (ty := tyX5 1) (C := RX5) (T := TX5) (N := 4) hx hb hts hi5 tyX5 tyX5_ok nmX5 hown hK.1 hOb (Ord.D (Ord.of (b := a) (n := 1) rfl) inj1) hS 0 rfl rfl 1 (by decide) (hts (.fieldLink RX5 9 "SpriteLines$View" "inTurn" "[I") (by decide +kernel)) (fun _ h9 => h9) rfl (hnm.trans rfl) rfl (by decide +kernel) rfl rfl (Nat.le_of_ble_eq_true rfl) ⟨0, by decide, by decide, rfl⟩ dX5_init_9 (fun H locs hP1 hle hk hS => ?_)
  have hz : H.size = a 2 := hle.trans hz
  have hN1 := keepO (Ord.of (b := (sh a 1)) (n := 1) rfl) hN1 hk (fun j hj h3 => absurd (ia (1 + j) 0 (by omega) (by omega) h3) (by omega))
  have hOb : va_P G vwCl ([(a 0, .inr (5, [.null, .ref ((sh a 1) 0), .null, .null]))]) H := hP1
  refine lv_aload_n hx hb dX5_init_12 rfl (lv_at hl 0 rfl) ?_
  refine z_bipush (n := 20) hx hb dX5_init_13 (by decide) ?_
  refine z_newa (atype := .int) (ty := .int) (n := 20) (N := 20) hx hb (hts (.arrayClass .int) (by decide +kernel)) rfl hK.1 hS 0 rfl (a0 := (20, .inl (aI (fun _ => 0)))) rfl (by decide) rfl (by decide) (Nat.le_of_ble_eq_true rfl) (Nat.le_of_ble_eq_true rfl) (q := (sh a 2) 0) hz dX5_init_15 (fun H hP1 hz9 hk hS => ?_)
  have hOb := keepO (Ord.of (b := a) (n := 1) rfl) hOb hk (fun _ _ h => h)
  have hN1 := keepO (Ord.of (b := (sh a 1)) (n := 1) rfl) hN1 hk (fun _ _ h => h)
  have hN2 : va_P G vwCl ([((sh a 2) 0, .inl (cs 0, 20, .inl (aI (fun _ => 0))))]) H := hP1
  have hz : H.size = a 3 := hz9.trans (hsq 2).symm
  refine z_putF (G := G) (ci := 5) (v := .ref ((sh a 2) 0)) (ty := tyX5 2) (C := RX5) (T := TX5) (N := 4) hx hb hts hi5 tyX5 tyX5_ok nmX5 hown hK.1 hOb (Ord.D (Ord.of (b := a) (n := 1) rfl) inj1) hS 0 rfl rfl 2 (by decide) (hts (.fieldLink RX5 15 "SpriteLines$View" "filled" "[I") (by decide +kernel)) (fun _ h9 => h9) rfl (hnm.trans rfl) rfl (by decide +kernel) rfl rfl (Nat.le_of_ble_eq_true rfl) ⟨0, by decide, by decide, rfl⟩ dX5_init_17 (fun H locs hP1 hle hk hS => ?_)
  have hz : H.size = a 3 := hle.trans hz
  have hN1 := keepO (Ord.of (b := (sh a 1)) (n := 1) rfl) hN1 hk (fun j hj h3 => absurd (ia (1 + j) 0 (by omega) (by omega) h3) (by omega))
  have hN2 := keepO (Ord.of (b := (sh a 2)) (n := 1) rfl) hN2 hk (fun j hj h3 => absurd (ia (2 + j) 0 (by omega) (by omega) h3) (by omega))
  have hOb : va_P G vwCl ([(a 0, .inr (5, [.null, .ref ((sh a 1) 0), .ref ((sh a 2) 0), .null]))]) H := hP1
  refine lv_aload_n hx hb dX5_init_20 rfl (lv_at hl 0 rfl) ?_
  refine z_bipush (n := 20) hx hb dX5_init_21 (by decide) ?_
  refine z_newa (atype := .int) (ty := .int) (n := 20) (N := 20) hx hb (hts (.arrayClass .int) (by decide +kernel)) rfl hK.1 hS 0 rfl (a0 := (20, .inl (aI (fun _ => 0)))) rfl (by decide) rfl (by decide) (Nat.le_of_ble_eq_true rfl) (Nat.le_of_ble_eq_true rfl) (q := (sh a 3) 0) hz dX5_init_23 (fun H hP1 hz9 hk hS => ?_)
  have hOb := keepO (Ord.of (b := a) (n := 1) rfl) hOb hk (fun _ _ h => h)
  have hN1 := keepO (Ord.of (b := (sh a 1)) (n := 1) rfl) hN1 hk (fun _ _ h => h)
  have hN2 := keepO (Ord.of (b := (sh a 2)) (n := 1) rfl) hN2 hk (fun _ _ h => h)
  have hN3 : va_P G vwCl ([((sh a 3) 0, .inl (cs 0, 20, .inl (aI (fun _ => 0))))]) H := hP1
  have hz : H.size = a 4 := hz9.trans (hsq 3).symm
  refine z_putF (G := G) (ci := 5) (v := .ref ((sh a 3) 0)) (ty := tyX5 3) (C := RX5) (T := TX5) (N := 4) hx hb hts hi5 tyX5 tyX5_ok nmX5 hown hK.1 hOb (Ord.D (Ord.of (b := a) (n := 1) rfl) inj1) hS 0 rfl rfl 3 (by decide) (hts (.fieldLink RX5 18 "SpriteLines$View" "partners" "[I") (by decide +kernel)) (fun _ h9 => h9) rfl (hnm.trans rfl) rfl (by decide +kernel) rfl rfl (Nat.le_of_ble_eq_true rfl) ⟨0, by decide, by decide, rfl⟩ dX5_init_25 (fun H locs hP1 hle hk hS => ?_)
  have hz : H.size = a 4 := hle.trans hz
  have hN1 := keepO (Ord.of (b := (sh a 1)) (n := 1) rfl) hN1 hk (fun j hj h3 => absurd (ia (1 + j) 0 (by omega) (by omega) h3) (by omega))
  have hN2 := keepO (Ord.of (b := (sh a 2)) (n := 1) rfl) hN2 hk (fun j hj h3 => absurd (ia (2 + j) 0 (by omega) (by omega) h3) (by omega))
  have hN3 := keepO (Ord.of (b := (sh a 3)) (n := 1) rfl) hN3 hk (fun j hj h3 => absurd (ia (3 + j) 0 (by omega) (by omega) h3) (by omega))
  have hOb : va_P G vwCl ([(a 0, .inr (5, [.null, .ref ((sh a 1) 0), .ref ((sh a 2) 0), .ref ((sh a 3) 0)]))]) H := hP1
  refine lv_aload_n hx hb dX5_init_28 rfl (lv_at hl 0 rfl) ?_
  refine lv_aload_n hx hb dX5_init_29 rfl (lv_at hl 1 rfl) ?_
  refine z_putF (G := G) (ci := 5) (v := .ref t) (ty := tyX5 0) (C := RX5) (T := TX5) (N := 4) hx hb hts hi5 tyX5 tyX5_ok nmX5 hown hK.1 hOb (Ord.D (Ord.of (b := a) (n := 1) rfl) inj1) hS 0 rfl rfl 0 (by decide) (hts (.fieldLink RX5 21 "SpriteLines$View" "state" "LSpriteLines$State;") (by decide +kernel)) (fun _ h9 => h9) rfl (hnm.trans rfl) rfl (by decide +kernel) rfl rfl (Nat.le_of_ble_eq_true rfl) ⟨0, by decide, by decide, rfl⟩ dX5_init_30 (fun H locs hP1 hle hk hS => ?_)
  have hz : H.size = a 4 := hle.trans hz
  have hN1 := keepO (Ord.of (b := (sh a 1)) (n := 1) rfl) hN1 hk (fun j hj h3 => absurd (ia (1 + j) 0 (by omega) (by omega) h3) (by omega))
  have hN2 := keepO (Ord.of (b := (sh a 2)) (n := 1) rfl) hN2 hk (fun j hj h3 => absurd (ia (2 + j) 0 (by omega) (by omega) h3) (by omega))
  have hN3 := keepO (Ord.of (b := (sh a 3)) (n := 1) rfl) hN3 hk (fun j hj h3 => absurd (ia (3 + j) 0 (by omega) (by omega) h3) (by omega))
  have hOb : va_P G vwCl ([(a 0, .inr (5, [.ref t, .ref ((sh a 1) 0), .ref ((sh a 2) 0), .ref ((sh a 3) 0)]))]) H := hP1
  exact v_ret hx hb hr hlk dX5_init_33 hS ⟨by rw [cB_0]; exact hOb.app (hN1.app (hN2.app hN3)), hz⟩

set_option maxHeartbeats 4000000 in
set_option maxRecDepth 100000 in
theorem c_X1_init (l : Launch) (G : va_G) (cs : Nat → ClassId) (a : Nat → Nat) (t : Nat) (hsq : Seq a) : MV l yX1_init wsX1_init { frames := 1, cells := 3, slots := 72, locals := 12 } G cs [.ref (a 0), .ref t] (fun H => va_P G vwCl ([(a 0, .inr (1, [.null, .null, .null, .null]))]) H ∧ H.size = a 1) (fun H => va_P G vwCl (pkW cs a t (aI (fun _ => 0)) (aI (fun _ => 0)) (aI (fun _ => 0))) H ∧ H.size = a 4) (AX a 0 4) 3 72 := by
  refine m_intro (Pw := (fun H => va_P G vwCl ([(a 0, .inr (1, [.null, .null, .null, .null]))]) H ∧ H.size = a 1)) (cc := cX1_init) (maxL := 2) (ret := none) RX1 (by decide) rfl rfl (Nat.le_of_ble_eq_true rfl) ?_
  intro pP eE sS mM below meth cC hx hb hr hts hown hml hlk hnm hPre hK ls hl
  have hl : lv_has ls 2 [(0, .ref (a 0)), (1, .ref t)] := hl
  obtain ⟨hOb, hz⟩ := hPre
  have hS : va_S (AX a 0 4) sS.heap sS.heap [] := va_S.rf
  have hi1 : ∀ w ∈ u_ws RX1 TX1 4, w ∈ wsX1_init := by decide +kernel
  have ia := seq_inj hsq 62
  refine lv_aload_n hx hb dX1_init_0 rfl (lv_at hl 0 rfl) ?_
  refine W.objInit hx hb hown (hts (.methodLink RX1 3 objectInit) (by decide +kernel)) (hts (.instanceMethod objectInit) (by decide +kernel)) (hts (.code objectInit ⟨#[0xb1]⟩ 1 none) (by decide +kernel)) rfl (by rw [hml]; exact hl.1) rfl dX1_init_1 (Nat.le_of_ble_eq_true rfl) (Nat.le_of_ble_eq_true rfl) ?_
  refine W.eq (g2 := F0 mM 4 ls []) rfl ?_
  refine lv_aload_n hx hb dX1_init_4 rfl (lv_at hl 0 rfl) ?_
  refine z_bipush (n := 24) hx hb dX1_init_5 (by decide) ?_
  refine z_newa (atype := .int) (ty := .int) (n := 24) (N := 24) hx hb (hts (.arrayClass .int) (by decide +kernel)) rfl hK.1 hS 0 rfl (a0 := (24, .inl (aI (fun _ => 0)))) rfl (by decide) rfl (by decide) (Nat.le_of_ble_eq_true rfl) (Nat.le_of_ble_eq_true rfl) (q := (sh a 1) 0) hz dX1_init_7 (fun H hP1 hz9 hk hS => ?_)
  have hOb := keepO (Ord.of (b := a) (n := 1) rfl) hOb hk (fun _ _ h => h)
  have hN1 : va_P G vwCl ([((sh a 1) 0, .inl (cs 0, 24, .inl (aI (fun _ => 0))))]) H := hP1
  have hz : H.size = a 2 := hz9.trans (hsq 1).symm
  refine z_putF (G := G) (ci := 1) (v := .ref ((sh a 1) 0)) (ty := tyX1 1) (C := RX1) (T := TX1) (N := 4) hx hb hts hi1 tyX1 tyX1_ok nmX1 hown hK.1 hOb (Ord.D (Ord.of (b := a) (n := 1) rfl) inj1) hS 0 rfl rfl 1 (by decide) (hts (.fieldLink RX1 9 "SpriteLines$Packing" "united" "[I") (by decide +kernel)) (fun _ h9 => h9) rfl (hnm.trans rfl) rfl (by decide +kernel) rfl rfl (Nat.le_of_ble_eq_true rfl) ⟨0, by decide, by decide, rfl⟩ dX1_init_9 (fun H locs hP1 hle hk hS => ?_)
  have hz : H.size = a 2 := hle.trans hz
  have hN1 := keepO (Ord.of (b := (sh a 1)) (n := 1) rfl) hN1 hk (fun j hj h3 => absurd (ia (1 + j) 0 (by omega) (by omega) h3) (by omega))
  have hOb : va_P G vwCl ([(a 0, .inr (1, [.null, .ref ((sh a 1) 0), .null, .null]))]) H := hP1
  refine lv_aload_n hx hb dX1_init_12 rfl (lv_at hl 0 rfl) ?_
  refine z_bipush (n := 24) hx hb dX1_init_13 (by decide) ?_
  refine z_newa (atype := .boolean) (ty := .boolean) (n := 24) (N := 24) hx hb (hts (.arrayClass .boolean) (by decide +kernel)) rfl hK.1 hS 2 rfl (a0 := (24, .inl (aI (fun _ => 0)))) rfl (by decide) rfl (by decide) (Nat.le_of_ble_eq_true rfl) (Nat.le_of_ble_eq_true rfl) (q := (sh a 2) 0) hz dX1_init_15 (fun H hP1 hz9 hk hS => ?_)
  have hOb := keepO (Ord.of (b := a) (n := 1) rfl) hOb hk (fun _ _ h => h)
  have hN1 := keepO (Ord.of (b := (sh a 1)) (n := 1) rfl) hN1 hk (fun _ _ h => h)
  have hN2 : va_P G vwCl ([((sh a 2) 0, .inl (cs 2, 24, .inl (aI (fun _ => 0))))]) H := hP1
  have hz : H.size = a 3 := hz9.trans (hsq 2).symm
  refine z_putF (G := G) (ci := 1) (v := .ref ((sh a 2) 0)) (ty := tyX1 2) (C := RX1) (T := TX1) (N := 4) hx hb hts hi1 tyX1 tyX1_ok nmX1 hown hK.1 hOb (Ord.D (Ord.of (b := a) (n := 1) rfl) inj1) hS 0 rfl rfl 2 (by decide) (hts (.fieldLink RX1 15 "SpriteLines$Packing" "stays" "[Z") (by decide +kernel)) (fun _ h9 => h9) rfl (hnm.trans rfl) rfl (by decide +kernel) rfl rfl (Nat.le_of_ble_eq_true rfl) ⟨0, by decide, by decide, rfl⟩ dX1_init_17 (fun H locs hP1 hle hk hS => ?_)
  have hz : H.size = a 3 := hle.trans hz
  have hN1 := keepO (Ord.of (b := (sh a 1)) (n := 1) rfl) hN1 hk (fun j hj h3 => absurd (ia (1 + j) 0 (by omega) (by omega) h3) (by omega))
  have hN2 := keepO (Ord.of (b := (sh a 2)) (n := 1) rfl) hN2 hk (fun j hj h3 => absurd (ia (2 + j) 0 (by omega) (by omega) h3) (by omega))
  have hOb : va_P G vwCl ([(a 0, .inr (1, [.null, .ref ((sh a 1) 0), .ref ((sh a 2) 0), .null]))]) H := hP1
  refine lv_aload_n hx hb dX1_init_20 rfl (lv_at hl 0 rfl) ?_
  refine z_bipush (n := 24) hx hb dX1_init_21 (by decide) ?_
  refine z_newa (atype := .int) (ty := .int) (n := 24) (N := 24) hx hb (hts (.arrayClass .int) (by decide +kernel)) rfl hK.1 hS 0 rfl (a0 := (24, .inl (aI (fun _ => 0)))) rfl (by decide) rfl (by decide) (Nat.le_of_ble_eq_true rfl) (Nat.le_of_ble_eq_true rfl) (q := (sh a 3) 0) hz dX1_init_23 (fun H hP1 hz9 hk hS => ?_)
  have hOb := keepO (Ord.of (b := a) (n := 1) rfl) hOb hk (fun _ _ h => h)
  have hN1 := keepO (Ord.of (b := (sh a 1)) (n := 1) rfl) hN1 hk (fun _ _ h => h)
  have hN2 := keepO (Ord.of (b := (sh a 2)) (n := 1) rfl) hN2 hk (fun _ _ h => h)
  have hN3 : va_P G vwCl ([((sh a 3) 0, .inl (cs 0, 24, .inl (aI (fun _ => 0))))]) H := hP1
  have hz : H.size = a 4 := hz9.trans (hsq 3).symm
  refine z_putF (G := G) (ci := 1) (v := .ref ((sh a 3) 0)) (ty := tyX1 3) (C := RX1) (T := TX1) (N := 4) hx hb hts hi1 tyX1 tyX1_ok nmX1 hown hK.1 hOb (Ord.D (Ord.of (b := a) (n := 1) rfl) inj1) hS 0 rfl rfl 3 (by decide) (hts (.fieldLink RX1 19 "SpriteLines$Packing" "newNumbers" "[I") (by decide +kernel)) (fun _ h9 => h9) rfl (hnm.trans rfl) rfl (by decide +kernel) rfl rfl (Nat.le_of_ble_eq_true rfl) ⟨0, by decide, by decide, rfl⟩ dX1_init_25 (fun H locs hP1 hle hk hS => ?_)
  have hz : H.size = a 4 := hle.trans hz
  have hN1 := keepO (Ord.of (b := (sh a 1)) (n := 1) rfl) hN1 hk (fun j hj h3 => absurd (ia (1 + j) 0 (by omega) (by omega) h3) (by omega))
  have hN2 := keepO (Ord.of (b := (sh a 2)) (n := 1) rfl) hN2 hk (fun j hj h3 => absurd (ia (2 + j) 0 (by omega) (by omega) h3) (by omega))
  have hN3 := keepO (Ord.of (b := (sh a 3)) (n := 1) rfl) hN3 hk (fun j hj h3 => absurd (ia (3 + j) 0 (by omega) (by omega) h3) (by omega))
  have hOb : va_P G vwCl ([(a 0, .inr (1, [.null, .ref ((sh a 1) 0), .ref ((sh a 2) 0), .ref ((sh a 3) 0)]))]) H := hP1
  refine lv_aload_n hx hb dX1_init_28 rfl (lv_at hl 0 rfl) ?_
  refine lv_aload_n hx hb dX1_init_29 rfl (lv_at hl 1 rfl) ?_
  refine z_putF (G := G) (ci := 1) (v := .ref t) (ty := tyX1 0) (C := RX1) (T := TX1) (N := 4) hx hb hts hi1 tyX1 tyX1_ok nmX1 hown hK.1 hOb (Ord.D (Ord.of (b := a) (n := 1) rfl) inj1) hS 0 rfl rfl 0 (by decide) (hts (.fieldLink RX1 22 "SpriteLines$Packing" "state" "LSpriteLines$State;") (by decide +kernel)) (fun _ h9 => h9) rfl (hnm.trans rfl) rfl (by decide +kernel) rfl rfl (Nat.le_of_ble_eq_true rfl) ⟨0, by decide, by decide, rfl⟩ dX1_init_30 (fun H locs hP1 hle hk hS => ?_)
  have hz : H.size = a 4 := hle.trans hz
  have hN1 := keepO (Ord.of (b := (sh a 1)) (n := 1) rfl) hN1 hk (fun j hj h3 => absurd (ia (1 + j) 0 (by omega) (by omega) h3) (by omega))
  have hN2 := keepO (Ord.of (b := (sh a 2)) (n := 1) rfl) hN2 hk (fun j hj h3 => absurd (ia (2 + j) 0 (by omega) (by omega) h3) (by omega))
  have hN3 := keepO (Ord.of (b := (sh a 3)) (n := 1) rfl) hN3 hk (fun j hj h3 => absurd (ia (3 + j) 0 (by omega) (by omega) h3) (by omega))
  have hOb : va_P G vwCl ([(a 0, .inr (1, [.ref t, .ref ((sh a 1) 0), .ref ((sh a 2) 0), .ref ((sh a 3) 0)]))]) H := hP1
  exact v_ret hx hb hr hlk dX1_init_33 hS ⟨hOb.app (hN1.app (hN2.app hN3)), hz⟩

set_option maxHeartbeats 4000000 in
set_option maxRecDepth 100000 in
theorem c_X2_init (l : Launch) (G : va_G) (cs : Nat → ClassId) (a : Nat → Nat) (hsq : Seq a) : MV l yX2_init wsX2_init { frames := 1, cells := 1, slots := 60, locals := 12 } G cs [.ref (a 0)] (fun H => va_P G vwCl ([(a 0, .inr (2, [.null, .int (zI 0), .long 0, .long 0, .int (zI 0), .int (zI 0), .int (zI 0), .int (zI 0), .int (zI 0)]))]) H ∧ H.size = a 1) (fun H => va_P G vwCl (txW cs a (fun _ => 0) (fun _ => false) (fun _ => false) (fun _ => 0)) H ∧ H.size = a 2) (AX a 0 2) 1 60 := by
  refine m_intro (Pw := (fun H => va_P G vwCl ([(a 0, .inr (2, [.null, .int (zI 0), .long 0, .long 0, .int (zI 0), .int (zI 0), .int (zI 0), .int (zI 0), .int (zI 0)]))]) H ∧ H.size = a 1)) (cc := cX2_init) (maxL := 1) (ret := none) RX2 (by decide) rfl rfl (Nat.le_of_ble_eq_true rfl) ?_
  intro pP eE sS mM below meth cC hx hb hr hts hown hml hlk hnm hPre hK ls hl
  have hl : lv_has ls 1 [(0, .ref (a 0))] := hl
  obtain ⟨hOb, hz⟩ := hPre
  have hS : va_S (AX a 0 2) sS.heap sS.heap [] := va_S.rf
  have hi2 : ∀ w ∈ u_ws RX2 TX2 9, w ∈ wsX2_init := by decide +kernel
  have ia := seq_inj hsq 62
  refine lv_aload_n hx hb dX2_init_0 rfl (lv_at hl 0 rfl) ?_
  refine W.objInit hx hb hown (hts (.methodLink RX2 3 objectInit) (by decide +kernel)) (hts (.instanceMethod objectInit) (by decide +kernel)) (hts (.code objectInit ⟨#[0xb1]⟩ 1 none) (by decide +kernel)) rfl (by rw [hml]; exact hl.1) rfl dX2_init_1 (Nat.le_of_ble_eq_true rfl) (Nat.le_of_ble_eq_true rfl) ?_
  refine W.eq (g2 := F0 mM 4 ls []) rfl ?_
  refine lv_aload_n hx hb dX2_init_4 rfl (lv_at hl 0 rfl) ?_
  refine z_bipush (n := 60) hx hb dX2_init_5 (by decide) ?_
  refine z_newa (atype := .char) (ty := .char) (n := 60) (N := 60) hx hb (hts (.arrayClass .char) (by decide +kernel)) rfl hK.1 hS 3 rfl (a0 := (60, .inl (aI (fun _ => 0)))) rfl (by decide) rfl (by decide) (Nat.le_of_ble_eq_true rfl) (Nat.le_of_ble_eq_true rfl) (q := (sh a 1) 0) hz dX2_init_7 (fun H hP1 hz9 hk hS => ?_)
  have hOb := keepO (Ord.of (b := a) (n := 1) rfl) hOb hk (fun _ _ h => h)
  have hN1 : va_P G vwCl ([((sh a 1) 0, .inl (cs 3, 60, .inl (aI (fun _ => 0))))]) H := hP1
  have hz : H.size = a 2 := hz9.trans (hsq 1).symm
  refine z_putF (G := G) (ci := 2) (v := .ref ((sh a 1) 0)) (ty := tyX2 0) (C := RX2) (T := TX2) (N := 9) hx hb hts hi2 tyX2 tyX2_ok nmX2 hown hK.1 hOb (Ord.D (Ord.of (b := a) (n := 1) rfl) inj1) hS 0 rfl rfl 0 (by decide) (hts (.fieldLink RX2 9 "SpriteLines$PixelText" "characters" "[C") (by decide +kernel)) (fun _ h9 => h9) rfl (hnm.trans rfl) rfl (by decide +kernel) rfl rfl (Nat.le_of_ble_eq_true rfl) ⟨0, by decide, by decide, rfl⟩ dX2_init_9 (fun H locs hP1 hle hk hS => ?_)
  have hz : H.size = a 2 := hle.trans hz
  have hN1 := keepO (Ord.of (b := (sh a 1)) (n := 1) rfl) hN1 hk (fun j hj h3 => absurd (ia (1 + j) 0 (by omega) (by omega) h3) (by omega))
  have hOb : va_P G vwCl ([(a 0, .inr (2, [.ref ((sh a 1) 0), .int (zI 0), .long 0, .long 0, .int (zI 0), .int (zI 0), .int (zI 0), .int (zI 0), .int (zI 0)]))]) H := hP1
  exact v_ret hx hb hr hlk dX2_init_12 hS ⟨by have h := hOb.app hN1; rw [lB_0] at h; exact h, hz⟩

set_option maxHeartbeats 4000000 in
set_option maxRecDepth 100000 in
theorem c_X0_init (l : Launch) (G : va_G) (cs : Nat → ClassId) (a : Nat → Nat) (hsq : Seq a) : MV l yX0_init wsX0_init { frames := 3, cells := 41, slots := 1305, locals := 54 } G cs [.ref (a 0)] (fun H => va_P G vwCl ([(a 0, .inr (0, [.null, .int (zI 0), .int (zI 0)]))]) H ∧ H.size = a 1) (fun H => va_P G vwCl (hiW cs a 0 0) H ∧ (∀ i, i < 5 → va_P G vwCl (stW cs (sh a (2 + 8 * i)) S0) H) ∧ H.size = a 42) (AX a 0 42) 41 1305 := by
  refine m_intro (Pw := (fun H => va_P G vwCl ([(a 0, .inr (0, [.null, .int (zI 0), .int (zI 0)]))]) H ∧ H.size = a 1)) (cc := cX0_init) (maxL := 2) (ret := none) RX0 (by decide) rfl rfl (Nat.le_of_ble_eq_true rfl) ?_
  intro pP eE sS mM below meth cC hx hb hr hts hown hml hlk hnm hPre hK ls hl
  have hl : lv_has ls 2 [(0, .ref (a 0))] := hl
  obtain ⟨hOb, hz⟩ := hPre
  have hS : va_S (AX a 0 42) sS.heap sS.heap [] := va_S.rf
  have hi0 : ∀ w ∈ u_ws RX0 TX0 3, w ∈ wsX0_init := by decide +kernel
  have hi4 : ∀ w ∈ u_ws RX4 TX4 9, w ∈ wsX0_init := by decide +kernel
  have ia := seq_inj hsq 62
  refine lv_aload_n hx hb dX0_init_0 rfl (lv_at hl 0 rfl) ?_
  refine W.objInit hx hb hown (hts (.methodLink RX0 3 objectInit) (by decide +kernel)) (hts (.instanceMethod objectInit) (by decide +kernel)) (hts (.code objectInit ⟨#[0xb1]⟩ 1 none) (by decide +kernel)) rfl (by rw [hml]; exact hl.1) rfl dX0_init_1 (Nat.le_of_ble_eq_true rfl) (Nat.le_of_ble_eq_true rfl) ?_
  refine W.eq (g2 := F0 mM 4 ls []) rfl ?_
  refine lv_aload_n hx hb dX0_init_4 rfl (lv_at hl 0 rfl) ?_
  refine z_iconst (n := 5) hx hb dX0_init_5 ?_
  refine z_newq (n := 5) (N := 5) hx hb hown (hts (.classLink RX0 9 RX4) (by decide +kernel)) hK.2.2.2.2.2 hK.1 hS 4 rfl (by decide) rfl (by decide) (Nat.le_of_ble_eq_true rfl) (Nat.le_of_ble_eq_true rfl) (q := (sh a 1) 0) hz dX0_init_6 (fun H hP1 hz9 hk hS => ?_)
  have hOb := keepO (Ord.of (b := a) (n := 1) rfl) hOb hk (fun _ _ h => h)
  have hN1 : va_P G vwCl ([((sh a 1) 0, .inl (cs 4, 5, .inr (.inr (.inr (.inr (fun _ => none))))))]) H := hP1
  have hz : H.size = a 2 := hz9.trans (hsq 1).symm
  refine z_putF (G := G) (ci := 0) (v := .ref ((sh a 1) 0)) (ty := tyX0 0) (C := RX0) (T := TX0) (N := 3) hx hb hts hi0 tyX0 tyX0_ok nmX0 hown hK.1 hOb (Ord.D (Ord.of (b := a) (n := 1) rfl) inj1) hS 0 rfl rfl 0 (by decide) (hts (.fieldLink RX0 11 "SpriteLines$History" "states" "[LSpriteLines$State;") (by decide +kernel)) (fun _ h9 => h9) rfl (hnm.trans rfl) rfl (by decide +kernel) rfl rfl (Nat.le_of_ble_eq_true rfl) ⟨0, by decide, by decide, rfl⟩ dX0_init_9 (fun H locs hP1 hle hk hS => ?_)
  have hz : H.size = a 2 := hle.trans hz
  have hN1 := keepO (Ord.of (b := (sh a 1)) (n := 1) rfl) hN1 hk (fun j hj h3 => absurd (ia (1 + j) 0 (by omega) (by omega) h3) (by omega))
  have hOb : va_P G vwCl ([(a 0, .inr (0, [.ref ((sh a 1) 0), .int (zI 0), .int (zI 0)]))]) H := hP1
  refine z_iconst (n := 0) hx hb dX0_init_12 ?_
  refine lv_istore_n (lv' := [(1, .int (zI 0)), (0, .ref (a 0))]) hx hb dX0_init_13 rfl hl (by decide) rfl (fun ls hl => ?_)
  refine lv_iload_n hx hb dX0_init_14 rfl (lv_at hl 0 rfl) ?_
  refine z_iconst (n := 5) hx hb dX0_init_15 ?_
  refine z_icmp_ge (tgt := 38) hx hb dX0_init_16 (by decide) (by omega) (by omega) (fun c1 => ?_) (fun c1 => ?_)
  · skip
    exfalso; omega
  · skip
    refine lv_aload_n hx hb dX0_init_19 rfl (lv_at hl 1 rfl) ?_
    refine va_get (D := G) (ci := 0) (v := .ref ((sh a 1) 0)) (C := RX0) (T := TX0) (N := 3) hx hb hts hi0 hown hK.1 hOb 0 rfl rfl 0 (by decide) (hts (.fieldLink RX0 11 "SpriteLines$History" "states" "[LSpriteLines$State;") (by decide +kernel)) (fun _ h9 => h9) rfl dX0_init_20 ?_
    refine lv_iload_n hx hb dX0_init_23 rfl (lv_at hl 0 rfl) ?_
    refine z_new (C := RX4) (T := TX4) (N := 9) (ci := 4) hx hb hts hi4 tyX4 tyX4_ok hown (hts (.classLink RX0 9 RX4) (by decide +kernel)) (hts (.instantiable RX4 9) (by decide +kernel)) (hts (.initialized RX4) (by decide +kernel)) hK.1 hS rfl (fs := [.int (zI 0), .int (zI 0), .int (zI 0), .int (zI 0), .null, .null, .null, .null, .null]) blX4 (Nat.le_of_ble_eq_true rfl) (Nat.le_of_ble_eq_true rfl) (q := (sh a 2) 0) hz dX0_init_24 (fun H hP1 hz9 hk hS => ?_)
    have hOb := keepO (Ord.of (b := a) (n := 1) rfl) hOb hk (fun _ _ h => h)
    have hN1 := keepO (Ord.of (b := (sh a 1)) (n := 1) rfl) hN1 hk (fun _ _ h => h)
    have hN2 : va_P G vwCl ([((sh a 2) 0, .inr (4, [.int (zI 0), .int (zI 0), .int (zI 0), .int (zI 0), .null, .null, .null, .null, .null]))]) H := hP1
    have hz : H.size = a 3 := hz9.trans (hsq 2).symm
    refine lv_dup hx hb dX0_init_27 rfl ?_
    refine z_v (zrI (C := RX4) (As := []) (rest := [.ref ((sh a 2) 0), .int (zI 0), .ref ((sh a 1) 0)]) (Pw := fun H => va_P G vwCl ([((sh a 2) 0, .inr (4, [.int (zI 0), .int (zI 0), .int (zI 0), .int (zI 0), .null, .null, .null, .null, .null]))]) H ∧ H.size = a 3) ⟨hx, hb, hml, hown, hts⟩ (c_X4_init l G cs (sh a 2) (seq_sh hsq 2)) gX0_init_X4_init rfl (hts (.initialized RX4) (by decide +kernel)) (hts (.methodLink RX0 17 yX4_init) (by decide +kernel)) (hts (.instanceMethod yX4_init) (by decide +kernel)) rfl qX4_init rfl rfl ⟨Nat.le_of_ble_eq_true rfl, Nat.le_of_ble_eq_true rfl⟩ ⟨hN2, hz⟩ hK hl.1 rfl (Nat.le_of_ble_eq_true rfl) dX0_init_28 ⟨Nat.le_of_ble_eq_true rfl, Nat.le_of_ble_eq_true rfl⟩) hS (fun q h => ax_mono (ax_sh h) (by decide) (by decide)) (fun q h => ax_mono (ax_sh h) (by decide) (by decide)) (fun H locs hpost hle hk hS => ?_)
    obtain ⟨hR0', hz'⟩ := hpost
    have hOb := keepO (Ord.of (b := a) (n := 1) rfl) hOb hk (fun j hj ⟨i, h1, h2, h3⟩ => absurd (ia j (2 + i) (by omega) (by omega) h3) (by omega))
    have hN1 := keepO (Ord.of (b := (sh a 1)) (n := 1) rfl) hN1 hk (fun j hj ⟨i, h1, h2, h3⟩ => absurd (ia (1 + j) (2 + i) (by omega) (by omega) h3) (by omega))
    have hR0 : va_P G vwCl (stW cs (sh a 2) S0) H := hR0'
    have hz : H.size = a 10 := hz'
    refine z_aastE hx hb hK.1 hN1 (Ord.D (Ord.of (b := (sh a 1)) (n := 1) rfl) inj1) hS 0 4 0 4 rfl rfl hR0 rfl rfl (by omega) (by decide) ⟨1, by decide, by decide, rfl⟩ dX0_init_31 (fun H locs hP1 hle hk hS => ?_)
    have hOb := keepO (Ord.of (b := a) (n := 1) rfl) hOb hk (fun j hj h3 => absurd (ia j 1 (by omega) (by omega) h3) (by omega))
    have hz : H.size = a 10 := hle.trans hz
    have hR0 := keepO (ordSt cs (sh a 2) S0) hR0 hk (fun j hj h3 => absurd (ia (2 + j) 1 (by omega) (by omega) h3) (by omega))
    have hN1 : va_P G vwCl ([((sh a 1) 0, .inl (cs 4, 5, .inr (.inr (.inr (.inr (fun k => if k = (0 : Int).toNat then some ((sh a 2) 0) else (fun _ => none) k))))))]) H := hP1
    refine z_iinc (k := 0) (lv' := [(1, .int (zI 1)), (0, .ref (a 0))]) hx hb dX0_init_32 hl rfl (by decide) rfl (fun ls hl => ?_)
    refine lv_goto (tgt := 14) hx hb dX0_init_35 (by decide) ?_
    refine lv_iload_n hx hb dX0_init_14 rfl (lv_at hl 0 rfl) ?_
    refine z_iconst (n := 5) hx hb dX0_init_15 ?_
    refine z_icmp_ge (tgt := 38) hx hb dX0_init_16 (by decide) (by omega) (by omega) (fun c2 => ?_) (fun c2 => ?_)
    · skip
      exfalso; omega
    · skip
      refine lv_aload_n hx hb dX0_init_19 rfl (lv_at hl 1 rfl) ?_
      refine va_get (D := G) (ci := 0) (v := .ref ((sh a 1) 0)) (C := RX0) (T := TX0) (N := 3) hx hb hts hi0 hown hK.1 hOb 0 rfl rfl 0 (by decide) (hts (.fieldLink RX0 11 "SpriteLines$History" "states" "[LSpriteLines$State;") (by decide +kernel)) (fun _ h9 => h9) rfl dX0_init_20 ?_
      refine lv_iload_n hx hb dX0_init_23 rfl (lv_at hl 0 rfl) ?_
      refine z_new (C := RX4) (T := TX4) (N := 9) (ci := 4) hx hb hts hi4 tyX4 tyX4_ok hown (hts (.classLink RX0 9 RX4) (by decide +kernel)) (hts (.instantiable RX4 9) (by decide +kernel)) (hts (.initialized RX4) (by decide +kernel)) hK.1 hS rfl (fs := [.int (zI 0), .int (zI 0), .int (zI 0), .int (zI 0), .null, .null, .null, .null, .null]) blX4 (Nat.le_of_ble_eq_true rfl) (Nat.le_of_ble_eq_true rfl) (q := (sh a 10) 0) hz dX0_init_24 (fun H hP1 hz9 hk hS => ?_)
      have hOb := keepO (Ord.of (b := a) (n := 1) rfl) hOb hk (fun _ _ h => h)
      have hN1 := keepO (Ord.of (b := (sh a 1)) (n := 1) rfl) hN1 hk (fun _ _ h => h)
      have hR0 := keepO (ordSt cs (sh a 2) S0) hR0 hk (fun _ _ h => h)
      have hN10 : va_P G vwCl ([((sh a 10) 0, .inr (4, [.int (zI 0), .int (zI 0), .int (zI 0), .int (zI 0), .null, .null, .null, .null, .null]))]) H := hP1
      have hz : H.size = a 11 := hz9.trans (hsq 10).symm
      refine lv_dup hx hb dX0_init_27 rfl ?_
      refine z_v (zrI (C := RX4) (As := []) (rest := [.ref ((sh a 10) 0), .int (zI 1), .ref ((sh a 1) 0)]) (Pw := fun H => va_P G vwCl ([((sh a 10) 0, .inr (4, [.int (zI 0), .int (zI 0), .int (zI 0), .int (zI 0), .null, .null, .null, .null, .null]))]) H ∧ H.size = a 11) ⟨hx, hb, hml, hown, hts⟩ (c_X4_init l G cs (sh a 10) (seq_sh hsq 10)) gX0_init_X4_init rfl (hts (.initialized RX4) (by decide +kernel)) (hts (.methodLink RX0 17 yX4_init) (by decide +kernel)) (hts (.instanceMethod yX4_init) (by decide +kernel)) rfl qX4_init rfl rfl ⟨Nat.le_of_ble_eq_true rfl, Nat.le_of_ble_eq_true rfl⟩ ⟨hN10, hz⟩ hK hl.1 rfl (Nat.le_of_ble_eq_true rfl) dX0_init_28 ⟨Nat.le_of_ble_eq_true rfl, Nat.le_of_ble_eq_true rfl⟩) hS (fun q h => ax_mono (ax_sh h) (by decide) (by decide)) (fun q h => ax_mono (ax_sh h) (by decide) (by decide)) (fun H locs hpost hle hk hS => ?_)
      obtain ⟨hR1', hz'⟩ := hpost
      have hOb := keepO (Ord.of (b := a) (n := 1) rfl) hOb hk (fun j hj ⟨i, h1, h2, h3⟩ => absurd (ia j (10 + i) (by omega) (by omega) h3) (by omega))
      have hN1 := keepO (Ord.of (b := (sh a 1)) (n := 1) rfl) hN1 hk (fun j hj ⟨i, h1, h2, h3⟩ => absurd (ia (1 + j) (10 + i) (by omega) (by omega) h3) (by omega))
      have hR0 := keepO (ordSt cs (sh a 2) S0) hR0 hk (fun j hj ⟨i, h1, h2, h3⟩ => absurd (ia (2 + j) (10 + i) (by omega) (by omega) h3) (by omega))
      have hR1 : va_P G vwCl (stW cs (sh a 10) S0) H := hR1'
      have hz : H.size = a 18 := hz'
      refine z_aastE hx hb hK.1 hN1 (Ord.D (Ord.of (b := (sh a 1)) (n := 1) rfl) inj1) hS 0 4 0 4 rfl rfl hR1 rfl rfl (by omega) (by decide) ⟨1, by decide, by decide, rfl⟩ dX0_init_31 (fun H locs hP1 hle hk hS => ?_)
      have hOb := keepO (Ord.of (b := a) (n := 1) rfl) hOb hk (fun j hj h3 => absurd (ia j 1 (by omega) (by omega) h3) (by omega))
      have hz : H.size = a 18 := hle.trans hz
      have hR0 := keepO (ordSt cs (sh a 2) S0) hR0 hk (fun j hj h3 => absurd (ia (2 + j) 1 (by omega) (by omega) h3) (by omega))
      have hR1 := keepO (ordSt cs (sh a 10) S0) hR1 hk (fun j hj h3 => absurd (ia (10 + j) 1 (by omega) (by omega) h3) (by omega))
      have hN1 : va_P G vwCl ([((sh a 1) 0, .inl (cs 4, 5, .inr (.inr (.inr (.inr (fun k => if k = (1 : Int).toNat then some ((sh a 10) 0) else (fun k => if k = (0 : Int).toNat then some ((sh a 2) 0) else (fun _ => none) k) k))))))]) H := hP1
      refine z_iinc (k := 0) (lv' := [(1, .int (zI 2)), (0, .ref (a 0))]) hx hb dX0_init_32 hl rfl (by decide) rfl (fun ls hl => ?_)
      refine lv_goto (tgt := 14) hx hb dX0_init_35 (by decide) ?_
      refine lv_iload_n hx hb dX0_init_14 rfl (lv_at hl 0 rfl) ?_
      refine z_iconst (n := 5) hx hb dX0_init_15 ?_
      refine z_icmp_ge (tgt := 38) hx hb dX0_init_16 (by decide) (by omega) (by omega) (fun c3 => ?_) (fun c3 => ?_)
      · skip
        exfalso; omega
      · skip
        refine lv_aload_n hx hb dX0_init_19 rfl (lv_at hl 1 rfl) ?_
        refine va_get (D := G) (ci := 0) (v := .ref ((sh a 1) 0)) (C := RX0) (T := TX0) (N := 3) hx hb hts hi0 hown hK.1 hOb 0 rfl rfl 0 (by decide) (hts (.fieldLink RX0 11 "SpriteLines$History" "states" "[LSpriteLines$State;") (by decide +kernel)) (fun _ h9 => h9) rfl dX0_init_20 ?_
        refine lv_iload_n hx hb dX0_init_23 rfl (lv_at hl 0 rfl) ?_
        refine z_new (C := RX4) (T := TX4) (N := 9) (ci := 4) hx hb hts hi4 tyX4 tyX4_ok hown (hts (.classLink RX0 9 RX4) (by decide +kernel)) (hts (.instantiable RX4 9) (by decide +kernel)) (hts (.initialized RX4) (by decide +kernel)) hK.1 hS rfl (fs := [.int (zI 0), .int (zI 0), .int (zI 0), .int (zI 0), .null, .null, .null, .null, .null]) blX4 (Nat.le_of_ble_eq_true rfl) (Nat.le_of_ble_eq_true rfl) (q := (sh a 18) 0) hz dX0_init_24 (fun H hP1 hz9 hk hS => ?_)
        have hOb := keepO (Ord.of (b := a) (n := 1) rfl) hOb hk (fun _ _ h => h)
        have hN1 := keepO (Ord.of (b := (sh a 1)) (n := 1) rfl) hN1 hk (fun _ _ h => h)
        have hR0 := keepO (ordSt cs (sh a 2) S0) hR0 hk (fun _ _ h => h)
        have hR1 := keepO (ordSt cs (sh a 10) S0) hR1 hk (fun _ _ h => h)
        have hN18 : va_P G vwCl ([((sh a 18) 0, .inr (4, [.int (zI 0), .int (zI 0), .int (zI 0), .int (zI 0), .null, .null, .null, .null, .null]))]) H := hP1
        have hz : H.size = a 19 := hz9.trans (hsq 18).symm
        refine lv_dup hx hb dX0_init_27 rfl ?_
        refine z_v (zrI (C := RX4) (As := []) (rest := [.ref ((sh a 18) 0), .int (zI 2), .ref ((sh a 1) 0)]) (Pw := fun H => va_P G vwCl ([((sh a 18) 0, .inr (4, [.int (zI 0), .int (zI 0), .int (zI 0), .int (zI 0), .null, .null, .null, .null, .null]))]) H ∧ H.size = a 19) ⟨hx, hb, hml, hown, hts⟩ (c_X4_init l G cs (sh a 18) (seq_sh hsq 18)) gX0_init_X4_init rfl (hts (.initialized RX4) (by decide +kernel)) (hts (.methodLink RX0 17 yX4_init) (by decide +kernel)) (hts (.instanceMethod yX4_init) (by decide +kernel)) rfl qX4_init rfl rfl ⟨Nat.le_of_ble_eq_true rfl, Nat.le_of_ble_eq_true rfl⟩ ⟨hN18, hz⟩ hK hl.1 rfl (Nat.le_of_ble_eq_true rfl) dX0_init_28 ⟨Nat.le_of_ble_eq_true rfl, Nat.le_of_ble_eq_true rfl⟩) hS (fun q h => ax_mono (ax_sh h) (by decide) (by decide)) (fun q h => ax_mono (ax_sh h) (by decide) (by decide)) (fun H locs hpost hle hk hS => ?_)
        obtain ⟨hR2', hz'⟩ := hpost
        have hOb := keepO (Ord.of (b := a) (n := 1) rfl) hOb hk (fun j hj ⟨i, h1, h2, h3⟩ => absurd (ia j (18 + i) (by omega) (by omega) h3) (by omega))
        have hN1 := keepO (Ord.of (b := (sh a 1)) (n := 1) rfl) hN1 hk (fun j hj ⟨i, h1, h2, h3⟩ => absurd (ia (1 + j) (18 + i) (by omega) (by omega) h3) (by omega))
        have hR0 := keepO (ordSt cs (sh a 2) S0) hR0 hk (fun j hj ⟨i, h1, h2, h3⟩ => absurd (ia (2 + j) (18 + i) (by omega) (by omega) h3) (by omega))
        have hR1 := keepO (ordSt cs (sh a 10) S0) hR1 hk (fun j hj ⟨i, h1, h2, h3⟩ => absurd (ia (10 + j) (18 + i) (by omega) (by omega) h3) (by omega))
        have hR2 : va_P G vwCl (stW cs (sh a 18) S0) H := hR2'
        have hz : H.size = a 26 := hz'
        refine z_aastE hx hb hK.1 hN1 (Ord.D (Ord.of (b := (sh a 1)) (n := 1) rfl) inj1) hS 0 4 0 4 rfl rfl hR2 rfl rfl (by omega) (by decide) ⟨1, by decide, by decide, rfl⟩ dX0_init_31 (fun H locs hP1 hle hk hS => ?_)
        have hOb := keepO (Ord.of (b := a) (n := 1) rfl) hOb hk (fun j hj h3 => absurd (ia j 1 (by omega) (by omega) h3) (by omega))
        have hz : H.size = a 26 := hle.trans hz
        have hR0 := keepO (ordSt cs (sh a 2) S0) hR0 hk (fun j hj h3 => absurd (ia (2 + j) 1 (by omega) (by omega) h3) (by omega))
        have hR1 := keepO (ordSt cs (sh a 10) S0) hR1 hk (fun j hj h3 => absurd (ia (10 + j) 1 (by omega) (by omega) h3) (by omega))
        have hR2 := keepO (ordSt cs (sh a 18) S0) hR2 hk (fun j hj h3 => absurd (ia (18 + j) 1 (by omega) (by omega) h3) (by omega))
        have hN1 : va_P G vwCl ([((sh a 1) 0, .inl (cs 4, 5, .inr (.inr (.inr (.inr (fun k => if k = (2 : Int).toNat then some ((sh a 18) 0) else (fun k => if k = (1 : Int).toNat then some ((sh a 10) 0) else (fun k => if k = (0 : Int).toNat then some ((sh a 2) 0) else (fun _ => none) k) k) k))))))]) H := hP1
        refine z_iinc (k := 0) (lv' := [(1, .int (zI 3)), (0, .ref (a 0))]) hx hb dX0_init_32 hl rfl (by decide) rfl (fun ls hl => ?_)
        refine lv_goto (tgt := 14) hx hb dX0_init_35 (by decide) ?_
        refine lv_iload_n hx hb dX0_init_14 rfl (lv_at hl 0 rfl) ?_
        refine z_iconst (n := 5) hx hb dX0_init_15 ?_
        refine z_icmp_ge (tgt := 38) hx hb dX0_init_16 (by decide) (by omega) (by omega) (fun c4 => ?_) (fun c4 => ?_)
        · skip
          exfalso; omega
        · skip
          refine lv_aload_n hx hb dX0_init_19 rfl (lv_at hl 1 rfl) ?_
          refine va_get (D := G) (ci := 0) (v := .ref ((sh a 1) 0)) (C := RX0) (T := TX0) (N := 3) hx hb hts hi0 hown hK.1 hOb 0 rfl rfl 0 (by decide) (hts (.fieldLink RX0 11 "SpriteLines$History" "states" "[LSpriteLines$State;") (by decide +kernel)) (fun _ h9 => h9) rfl dX0_init_20 ?_
          refine lv_iload_n hx hb dX0_init_23 rfl (lv_at hl 0 rfl) ?_
          refine z_new (C := RX4) (T := TX4) (N := 9) (ci := 4) hx hb hts hi4 tyX4 tyX4_ok hown (hts (.classLink RX0 9 RX4) (by decide +kernel)) (hts (.instantiable RX4 9) (by decide +kernel)) (hts (.initialized RX4) (by decide +kernel)) hK.1 hS rfl (fs := [.int (zI 0), .int (zI 0), .int (zI 0), .int (zI 0), .null, .null, .null, .null, .null]) blX4 (Nat.le_of_ble_eq_true rfl) (Nat.le_of_ble_eq_true rfl) (q := (sh a 26) 0) hz dX0_init_24 (fun H hP1 hz9 hk hS => ?_)
          have hOb := keepO (Ord.of (b := a) (n := 1) rfl) hOb hk (fun _ _ h => h)
          have hN1 := keepO (Ord.of (b := (sh a 1)) (n := 1) rfl) hN1 hk (fun _ _ h => h)
          have hR0 := keepO (ordSt cs (sh a 2) S0) hR0 hk (fun _ _ h => h)
          have hR1 := keepO (ordSt cs (sh a 10) S0) hR1 hk (fun _ _ h => h)
          have hR2 := keepO (ordSt cs (sh a 18) S0) hR2 hk (fun _ _ h => h)
          have hN26 : va_P G vwCl ([((sh a 26) 0, .inr (4, [.int (zI 0), .int (zI 0), .int (zI 0), .int (zI 0), .null, .null, .null, .null, .null]))]) H := hP1
          have hz : H.size = a 27 := hz9.trans (hsq 26).symm
          refine lv_dup hx hb dX0_init_27 rfl ?_
          refine z_v (zrI (C := RX4) (As := []) (rest := [.ref ((sh a 26) 0), .int (zI 3), .ref ((sh a 1) 0)]) (Pw := fun H => va_P G vwCl ([((sh a 26) 0, .inr (4, [.int (zI 0), .int (zI 0), .int (zI 0), .int (zI 0), .null, .null, .null, .null, .null]))]) H ∧ H.size = a 27) ⟨hx, hb, hml, hown, hts⟩ (c_X4_init l G cs (sh a 26) (seq_sh hsq 26)) gX0_init_X4_init rfl (hts (.initialized RX4) (by decide +kernel)) (hts (.methodLink RX0 17 yX4_init) (by decide +kernel)) (hts (.instanceMethod yX4_init) (by decide +kernel)) rfl qX4_init rfl rfl ⟨Nat.le_of_ble_eq_true rfl, Nat.le_of_ble_eq_true rfl⟩ ⟨hN26, hz⟩ hK hl.1 rfl (Nat.le_of_ble_eq_true rfl) dX0_init_28 ⟨Nat.le_of_ble_eq_true rfl, Nat.le_of_ble_eq_true rfl⟩) hS (fun q h => ax_mono (ax_sh h) (by decide) (by decide)) (fun q h => ax_mono (ax_sh h) (by decide) (by decide)) (fun H locs hpost hle hk hS => ?_)
          obtain ⟨hR3', hz'⟩ := hpost
          have hOb := keepO (Ord.of (b := a) (n := 1) rfl) hOb hk (fun j hj ⟨i, h1, h2, h3⟩ => absurd (ia j (26 + i) (by omega) (by omega) h3) (by omega))
          have hN1 := keepO (Ord.of (b := (sh a 1)) (n := 1) rfl) hN1 hk (fun j hj ⟨i, h1, h2, h3⟩ => absurd (ia (1 + j) (26 + i) (by omega) (by omega) h3) (by omega))
          have hR0 := keepO (ordSt cs (sh a 2) S0) hR0 hk (fun j hj ⟨i, h1, h2, h3⟩ => absurd (ia (2 + j) (26 + i) (by omega) (by omega) h3) (by omega))
          have hR1 := keepO (ordSt cs (sh a 10) S0) hR1 hk (fun j hj ⟨i, h1, h2, h3⟩ => absurd (ia (10 + j) (26 + i) (by omega) (by omega) h3) (by omega))
          have hR2 := keepO (ordSt cs (sh a 18) S0) hR2 hk (fun j hj ⟨i, h1, h2, h3⟩ => absurd (ia (18 + j) (26 + i) (by omega) (by omega) h3) (by omega))
          have hR3 : va_P G vwCl (stW cs (sh a 26) S0) H := hR3'
          have hz : H.size = a 34 := hz'
          refine z_aastE hx hb hK.1 hN1 (Ord.D (Ord.of (b := (sh a 1)) (n := 1) rfl) inj1) hS 0 4 0 4 rfl rfl hR3 rfl rfl (by omega) (by decide) ⟨1, by decide, by decide, rfl⟩ dX0_init_31 (fun H locs hP1 hle hk hS => ?_)
          have hOb := keepO (Ord.of (b := a) (n := 1) rfl) hOb hk (fun j hj h3 => absurd (ia j 1 (by omega) (by omega) h3) (by omega))
          have hz : H.size = a 34 := hle.trans hz
          have hR0 := keepO (ordSt cs (sh a 2) S0) hR0 hk (fun j hj h3 => absurd (ia (2 + j) 1 (by omega) (by omega) h3) (by omega))
          have hR1 := keepO (ordSt cs (sh a 10) S0) hR1 hk (fun j hj h3 => absurd (ia (10 + j) 1 (by omega) (by omega) h3) (by omega))
          have hR2 := keepO (ordSt cs (sh a 18) S0) hR2 hk (fun j hj h3 => absurd (ia (18 + j) 1 (by omega) (by omega) h3) (by omega))
          have hR3 := keepO (ordSt cs (sh a 26) S0) hR3 hk (fun j hj h3 => absurd (ia (26 + j) 1 (by omega) (by omega) h3) (by omega))
          have hN1 : va_P G vwCl ([((sh a 1) 0, .inl (cs 4, 5, .inr (.inr (.inr (.inr (fun k => if k = (3 : Int).toNat then some ((sh a 26) 0) else (fun k => if k = (2 : Int).toNat then some ((sh a 18) 0) else (fun k => if k = (1 : Int).toNat then some ((sh a 10) 0) else (fun k => if k = (0 : Int).toNat then some ((sh a 2) 0) else (fun _ => none) k) k) k) k))))))]) H := hP1
          refine z_iinc (k := 0) (lv' := [(1, .int (zI 4)), (0, .ref (a 0))]) hx hb dX0_init_32 hl rfl (by decide) rfl (fun ls hl => ?_)
          refine lv_goto (tgt := 14) hx hb dX0_init_35 (by decide) ?_
          refine lv_iload_n hx hb dX0_init_14 rfl (lv_at hl 0 rfl) ?_
          refine z_iconst (n := 5) hx hb dX0_init_15 ?_
          refine z_icmp_ge (tgt := 38) hx hb dX0_init_16 (by decide) (by omega) (by omega) (fun c5 => ?_) (fun c5 => ?_)
          · skip
            exfalso; omega
          · skip
            refine lv_aload_n hx hb dX0_init_19 rfl (lv_at hl 1 rfl) ?_
            refine va_get (D := G) (ci := 0) (v := .ref ((sh a 1) 0)) (C := RX0) (T := TX0) (N := 3) hx hb hts hi0 hown hK.1 hOb 0 rfl rfl 0 (by decide) (hts (.fieldLink RX0 11 "SpriteLines$History" "states" "[LSpriteLines$State;") (by decide +kernel)) (fun _ h9 => h9) rfl dX0_init_20 ?_
            refine lv_iload_n hx hb dX0_init_23 rfl (lv_at hl 0 rfl) ?_
            refine z_new (C := RX4) (T := TX4) (N := 9) (ci := 4) hx hb hts hi4 tyX4 tyX4_ok hown (hts (.classLink RX0 9 RX4) (by decide +kernel)) (hts (.instantiable RX4 9) (by decide +kernel)) (hts (.initialized RX4) (by decide +kernel)) hK.1 hS rfl (fs := [.int (zI 0), .int (zI 0), .int (zI 0), .int (zI 0), .null, .null, .null, .null, .null]) blX4 (Nat.le_of_ble_eq_true rfl) (Nat.le_of_ble_eq_true rfl) (q := (sh a 34) 0) hz dX0_init_24 (fun H hP1 hz9 hk hS => ?_)
            have hOb := keepO (Ord.of (b := a) (n := 1) rfl) hOb hk (fun _ _ h => h)
            have hN1 := keepO (Ord.of (b := (sh a 1)) (n := 1) rfl) hN1 hk (fun _ _ h => h)
            have hR0 := keepO (ordSt cs (sh a 2) S0) hR0 hk (fun _ _ h => h)
            have hR1 := keepO (ordSt cs (sh a 10) S0) hR1 hk (fun _ _ h => h)
            have hR2 := keepO (ordSt cs (sh a 18) S0) hR2 hk (fun _ _ h => h)
            have hR3 := keepO (ordSt cs (sh a 26) S0) hR3 hk (fun _ _ h => h)
            have hN34 : va_P G vwCl ([((sh a 34) 0, .inr (4, [.int (zI 0), .int (zI 0), .int (zI 0), .int (zI 0), .null, .null, .null, .null, .null]))]) H := hP1
            have hz : H.size = a 35 := hz9.trans (hsq 34).symm
            refine lv_dup hx hb dX0_init_27 rfl ?_
            refine z_v (zrI (C := RX4) (As := []) (rest := [.ref ((sh a 34) 0), .int (zI 4), .ref ((sh a 1) 0)]) (Pw := fun H => va_P G vwCl ([((sh a 34) 0, .inr (4, [.int (zI 0), .int (zI 0), .int (zI 0), .int (zI 0), .null, .null, .null, .null, .null]))]) H ∧ H.size = a 35) ⟨hx, hb, hml, hown, hts⟩ (c_X4_init l G cs (sh a 34) (seq_sh hsq 34)) gX0_init_X4_init rfl (hts (.initialized RX4) (by decide +kernel)) (hts (.methodLink RX0 17 yX4_init) (by decide +kernel)) (hts (.instanceMethod yX4_init) (by decide +kernel)) rfl qX4_init rfl rfl ⟨Nat.le_of_ble_eq_true rfl, Nat.le_of_ble_eq_true rfl⟩ ⟨hN34, hz⟩ hK hl.1 rfl (Nat.le_of_ble_eq_true rfl) dX0_init_28 ⟨Nat.le_of_ble_eq_true rfl, Nat.le_of_ble_eq_true rfl⟩) hS (fun q h => ax_mono (ax_sh h) (by decide) (by decide)) (fun q h => ax_mono (ax_sh h) (by decide) (by decide)) (fun H locs hpost hle hk hS => ?_)
            obtain ⟨hR4', hz'⟩ := hpost
            have hOb := keepO (Ord.of (b := a) (n := 1) rfl) hOb hk (fun j hj ⟨i, h1, h2, h3⟩ => absurd (ia j (34 + i) (by omega) (by omega) h3) (by omega))
            have hN1 := keepO (Ord.of (b := (sh a 1)) (n := 1) rfl) hN1 hk (fun j hj ⟨i, h1, h2, h3⟩ => absurd (ia (1 + j) (34 + i) (by omega) (by omega) h3) (by omega))
            have hR0 := keepO (ordSt cs (sh a 2) S0) hR0 hk (fun j hj ⟨i, h1, h2, h3⟩ => absurd (ia (2 + j) (34 + i) (by omega) (by omega) h3) (by omega))
            have hR1 := keepO (ordSt cs (sh a 10) S0) hR1 hk (fun j hj ⟨i, h1, h2, h3⟩ => absurd (ia (10 + j) (34 + i) (by omega) (by omega) h3) (by omega))
            have hR2 := keepO (ordSt cs (sh a 18) S0) hR2 hk (fun j hj ⟨i, h1, h2, h3⟩ => absurd (ia (18 + j) (34 + i) (by omega) (by omega) h3) (by omega))
            have hR3 := keepO (ordSt cs (sh a 26) S0) hR3 hk (fun j hj ⟨i, h1, h2, h3⟩ => absurd (ia (26 + j) (34 + i) (by omega) (by omega) h3) (by omega))
            have hR4 : va_P G vwCl (stW cs (sh a 34) S0) H := hR4'
            have hz : H.size = a 42 := hz'
            refine z_aastE hx hb hK.1 hN1 (Ord.D (Ord.of (b := (sh a 1)) (n := 1) rfl) inj1) hS 0 4 0 4 rfl rfl hR4 rfl rfl (by omega) (by decide) ⟨1, by decide, by decide, rfl⟩ dX0_init_31 (fun H locs hP1 hle hk hS => ?_)
            have hOb := keepO (Ord.of (b := a) (n := 1) rfl) hOb hk (fun j hj h3 => absurd (ia j 1 (by omega) (by omega) h3) (by omega))
            have hz : H.size = a 42 := hle.trans hz
            have hR0 := keepO (ordSt cs (sh a 2) S0) hR0 hk (fun j hj h3 => absurd (ia (2 + j) 1 (by omega) (by omega) h3) (by omega))
            have hR1 := keepO (ordSt cs (sh a 10) S0) hR1 hk (fun j hj h3 => absurd (ia (10 + j) 1 (by omega) (by omega) h3) (by omega))
            have hR2 := keepO (ordSt cs (sh a 18) S0) hR2 hk (fun j hj h3 => absurd (ia (18 + j) 1 (by omega) (by omega) h3) (by omega))
            have hR3 := keepO (ordSt cs (sh a 26) S0) hR3 hk (fun j hj h3 => absurd (ia (26 + j) 1 (by omega) (by omega) h3) (by omega))
            have hR4 := keepO (ordSt cs (sh a 34) S0) hR4 hk (fun j hj h3 => absurd (ia (34 + j) 1 (by omega) (by omega) h3) (by omega))
            have hN1 : va_P G vwCl ([((sh a 1) 0, .inl (cs 4, 5, .inr (.inr (.inr (.inr (fun k => if k = (4 : Int).toNat then some ((sh a 34) 0) else (fun k => if k = (3 : Int).toNat then some ((sh a 26) 0) else (fun k => if k = (2 : Int).toNat then some ((sh a 18) 0) else (fun k => if k = (1 : Int).toNat then some ((sh a 10) 0) else (fun k => if k = (0 : Int).toNat then some ((sh a 2) 0) else (fun _ => none) k) k) k) k) k))))))]) H := hP1
            refine z_iinc (k := 0) (lv' := [(1, .int (zI 5)), (0, .ref (a 0))]) hx hb dX0_init_32 hl rfl (by decide) rfl (fun ls hl => ?_)
            refine lv_goto (tgt := 14) hx hb dX0_init_35 (by decide) ?_
            refine lv_iload_n hx hb dX0_init_14 rfl (lv_at hl 0 rfl) ?_
            refine z_iconst (n := 5) hx hb dX0_init_15 ?_
            refine z_icmp_ge (tgt := 38) hx hb dX0_init_16 (by decide) (by omega) (by omega) (fun c6 => ?_) (fun c6 => ?_)
            · skip
              exact v_ret hx hb hr hlk dX0_init_38 hS ⟨hOb.app (ring_row hN1), fun i hi => by
      match i, hi with
      | 0, _ => exact hR0
      | 1, _ => exact hR1
      | 2, _ => exact hR2
      | 3, _ => exact hR3
      | 4, _ => exact hR4, hz⟩
            · skip
              exfalso; omega

set_option maxHeartbeats 4000000 in
set_option maxRecDepth 100000 in
theorem c_X6_init (l : Launch) (G : va_G) (cs : Nat → ClassId) (a : Nat → Nat) (hsq : Seq a) : MV l yX6_init wsX6_init { frames := 4, cells := 61, slots := 1779, locals := 75 } G cs [.ref (a 0)] (fun H => va_P G vwCl ([(a 0, .inr (6, [.null, .null, .null, .null, .null, .null]))]) H ∧ H.size = a 1) (fun H => XI G cs a a A0_ H ∧ H.size = a 62) (AX a 0 62) 61 1779 := by
  refine m_intro (Pw := (fun H => va_P G vwCl ([(a 0, .inr (6, [.null, .null, .null, .null, .null, .null]))]) H ∧ H.size = a 1)) (cc := cX6_init) (maxL := 1) (ret := none) RX6 (by decide) rfl rfl (Nat.le_of_ble_eq_true rfl) ?_
  intro pP eE sS mM below meth cC hx hb hr hts hown hml hlk hnm hPre hK ls hl
  have hl : lv_has ls 1 [(0, .ref (a 0))] := hl
  obtain ⟨hOb, hz⟩ := hPre
  have hS : va_S (AX a 0 62) sS.heap sS.heap [] := va_S.rf
  have hi0 : ∀ w ∈ u_ws RX0 TX0 3, w ∈ wsX6_init := by decide +kernel
  have hi1 : ∀ w ∈ u_ws RX1 TX1 4, w ∈ wsX6_init := by decide +kernel
  have hi2 : ∀ w ∈ u_ws RX2 TX2 9, w ∈ wsX6_init := by decide +kernel
  have hi4 : ∀ w ∈ u_ws RX4 TX4 9, w ∈ wsX6_init := by decide +kernel
  have hi5 : ∀ w ∈ u_ws RX5 TX5 4, w ∈ wsX6_init := by decide +kernel
  have hi6 : ∀ w ∈ u_ws RX6 TX6 6, w ∈ wsX6_init := by decide +kernel
  have ia := seq_inj hsq 62
  refine lv_aload_n hx hb dX6_init_0 rfl (lv_at hl 0 rfl) ?_
  refine W.objInit hx hb hown (hts (.methodLink RX6 1 objectInit) (by decide +kernel)) (hts (.instanceMethod objectInit) (by decide +kernel)) (hts (.code objectInit ⟨#[0xb1]⟩ 1 none) (by decide +kernel)) rfl (by rw [hml]; exact hl.1) rfl dX6_init_1 (Nat.le_of_ble_eq_true rfl) (Nat.le_of_ble_eq_true rfl) ?_
  refine W.eq (g2 := F0 mM 4 ls []) rfl ?_
  refine lv_aload_n hx hb dX6_init_4 rfl (lv_at hl 0 rfl) ?_
  refine z_new (C := RX4) (T := TX4) (N := 9) (ci := 4) hx hb hts hi4 tyX4 tyX4_ok hown (hts (.classLink RX6 7 RX4) (by decide +kernel)) (hts (.instantiable RX4 9) (by decide +kernel)) (hts (.initialized RX4) (by decide +kernel)) hK.1 hS rfl (fs := [.int (zI 0), .int (zI 0), .int (zI 0), .int (zI 0), .null, .null, .null, .null, .null]) blX4 (Nat.le_of_ble_eq_true rfl) (Nat.le_of_ble_eq_true rfl) (q := (sh a 1) 0) hz dX6_init_5 (fun H hP1 hz9 hk hS => ?_)
  have hOb := keepO (Ord.of (b := a) (n := 1) rfl) hOb hk (fun _ _ h => h)
  have hN1 : va_P G vwCl ([((sh a 1) 0, .inr (4, [.int (zI 0), .int (zI 0), .int (zI 0), .int (zI 0), .null, .null, .null, .null, .null]))]) H := hP1
  have hz : H.size = a 2 := hz9.trans (hsq 1).symm
  refine lv_dup hx hb dX6_init_8 rfl ?_
  refine z_v (zrI (C := RX4) (As := []) (rest := [.ref ((sh a 1) 0), .ref (a 0)]) (Pw := fun H => va_P G vwCl ([((sh a 1) 0, .inr (4, [.int (zI 0), .int (zI 0), .int (zI 0), .int (zI 0), .null, .null, .null, .null, .null]))]) H ∧ H.size = a 2) ⟨hx, hb, hml, hown, hts⟩ (c_X4_init l G cs (sh a 1) (seq_sh hsq 1)) gX6_init_X4_init rfl (hts (.initialized RX4) (by decide +kernel)) (hts (.methodLink RX6 9 yX4_init) (by decide +kernel)) (hts (.instanceMethod yX4_init) (by decide +kernel)) rfl qX4_init rfl rfl ⟨Nat.le_of_ble_eq_true rfl, Nat.le_of_ble_eq_true rfl⟩ ⟨hN1, hz⟩ hK hl.1 rfl (Nat.le_of_ble_eq_true rfl) dX6_init_9 ⟨Nat.le_of_ble_eq_true rfl, Nat.le_of_ble_eq_true rfl⟩) hS (fun q h => ax_mono (ax_sh h) (by decide) (by decide)) (fun q h => ax_mono (ax_sh h) (by decide) (by decide)) (fun H locs hpost hle hk hS => ?_)
  obtain ⟨hSt', hz'⟩ := hpost
  have hOb := keepO (Ord.of (b := a) (n := 1) rfl) hOb hk (fun j hj ⟨i, h1, h2, h3⟩ => absurd (ia j (1 + i) (by omega) (by omega) h3) (by omega))
  have hSt : va_P G vwCl (stW cs (sh a 1) S0) H := hSt'
  have hz : H.size = a 9 := hz'
  refine z_putF (G := G) (ci := 6) (v := .ref ((sh a 1) 0)) (ty := tyX6 0) (C := RX6) (T := TX6) (N := 6) hx hb hts hi6 tyX6 tyX6_ok nmX6 hown hK.1 hOb (Ord.D (Ord.of (b := a) (n := 1) rfl) inj1) hS 0 rfl rfl 0 (by decide) (hts (.fieldLink RX6 10 "SpriteLines" "now" "LSpriteLines$State;") (by decide +kernel)) (fun _ h9 => h9) rfl (hnm.trans rfl) rfl (by decide +kernel) rfl rfl (Nat.le_of_ble_eq_true rfl) ⟨0, by decide, by decide, rfl⟩ dX6_init_12 (fun H locs hP1 hle hk hS => ?_)
  have hz : H.size = a 9 := hle.trans hz
  have hSt := keepO (ordSt cs (sh a 1) S0) hSt hk (fun j hj h3 => absurd (ia (1 + j) 0 (by omega) (by omega) h3) (by omega))
  have hOb : va_P G vwCl ([(a 0, .inr (6, [.ref ((sh a 1) 0), .null, .null, .null, .null, .null]))]) H := hP1
  refine lv_aload_n hx hb dX6_init_15 rfl (lv_at hl 0 rfl) ?_
  refine z_new (C := RX5) (T := TX5) (N := 4) (ci := 5) hx hb hts hi5 tyX5 tyX5_ok hown (hts (.classLink RX6 16 RX5) (by decide +kernel)) (hts (.instantiable RX5 4) (by decide +kernel)) (hts (.initialized RX5) (by decide +kernel)) hK.1 hS rfl (fs := [.null, .null, .null, .null]) blX5 (Nat.le_of_ble_eq_true rfl) (Nat.le_of_ble_eq_true rfl) (q := (sh a 9) 0) hz dX6_init_16 (fun H hP1 hz9 hk hS => ?_)
  have hOb := keepO (Ord.of (b := a) (n := 1) rfl) hOb hk (fun _ _ h => h)
  have hSt := keepO (ordSt cs (sh a 1) S0) hSt hk (fun _ _ h => h)
  have hN9 : va_P G vwCl ([((sh a 9) 0, .inr (5, [.null, .null, .null, .null]))]) H := hP1
  have hz : H.size = a 10 := hz9.trans (hsq 9).symm
  refine lv_dup hx hb dX6_init_19 rfl ?_
  refine lv_aload_n hx hb dX6_init_20 rfl (lv_at hl 0 rfl) ?_
  refine va_get (D := G) (ci := 6) (v := .ref ((sh a 1) 0)) (C := RX6) (T := TX6) (N := 6) hx hb hts hi6 hown hK.1 hOb 0 rfl rfl 0 (by decide) (hts (.fieldLink RX6 10 "SpriteLines" "now" "LSpriteLines$State;") (by decide +kernel)) (fun _ h9 => h9) rfl dX6_init_21 ?_
  refine z_v (zrI (C := RX5) (As := [.ref ((sh a 1) 0)]) (rest := [.ref ((sh a 9) 0), .ref (a 0)]) (Pw := fun H => va_P G vwCl ([((sh a 9) 0, .inr (5, [.null, .null, .null, .null]))]) H ∧ H.size = a 10) ⟨hx, hb, hml, hown, hts⟩ (c_X5_init l G cs (sh a 9) ((sh a 1) 0) (seq_sh hsq 9)) gX6_init_X5_init rfl (hts (.initialized RX5) (by decide +kernel)) (hts (.methodLink RX6 18 yX5_init) (by decide +kernel)) (hts (.instanceMethod yX5_init) (by decide +kernel)) rfl qX5_init rfl rfl ⟨Nat.le_of_ble_eq_true rfl, Nat.le_of_ble_eq_true rfl⟩ ⟨hN9, hz⟩ hK hl.1 rfl (Nat.le_of_ble_eq_true rfl) dX6_init_24 ⟨Nat.le_of_ble_eq_true rfl, Nat.le_of_ble_eq_true rfl⟩) hS (fun q h => ax_mono (ax_sh h) (by decide) (by decide)) (fun q h => ax_mono (ax_sh h) (by decide) (by decide)) (fun H locs hpost hle hk hS => ?_)
  obtain ⟨hPv', hz'⟩ := hpost
  have hOb := keepO (Ord.of (b := a) (n := 1) rfl) hOb hk (fun j hj ⟨i, h1, h2, h3⟩ => absurd (ia j (9 + i) (by omega) (by omega) h3) (by omega))
  have hSt := keepO (ordSt cs (sh a 1) S0) hSt hk (fun j hj ⟨i, h1, h2, h3⟩ => absurd (ia (1 + j) (9 + i) (by omega) (by omega) h3) (by omega))
  have hPv : va_P G vwCl (viW cs (sh a 9) ((sh a 1) 0) (aI (fun _ => 0)) (cB (fun _ _ => false)) (cB (fun _ _ => false))) H := hPv'
  have hz : H.size = a 13 := hz'
  refine z_putF (G := G) (ci := 6) (v := .ref ((sh a 9) 0)) (ty := tyX6 1) (C := RX6) (T := TX6) (N := 6) hx hb hts hi6 tyX6 tyX6_ok nmX6 hown hK.1 hOb (Ord.D (Ord.of (b := a) (n := 1) rfl) inj1) hS 0 rfl rfl 1 (by decide) (hts (.fieldLink RX6 21 "SpriteLines" "view" "LSpriteLines$View;") (by decide +kernel)) (fun _ h9 => h9) rfl (hnm.trans rfl) rfl (by decide +kernel) rfl rfl (Nat.le_of_ble_eq_true rfl) ⟨0, by decide, by decide, rfl⟩ dX6_init_27 (fun H locs hP1 hle hk hS => ?_)
  have hz : H.size = a 13 := hle.trans hz
  have hSt := keepO (ordSt cs (sh a 1) S0) hSt hk (fun j hj h3 => absurd (ia (1 + j) 0 (by omega) (by omega) h3) (by omega))
  have hPv := keepO (ordVi cs (sh a 9) ((sh a 1) 0) (aI (fun _ => 0)) (cB (fun _ _ => false)) (cB (fun _ _ => false))) hPv hk (fun j hj h3 => absurd (ia (9 + j) 0 (by omega) (by omega) h3) (by omega))
  have hOb : va_P G vwCl ([(a 0, .inr (6, [.ref ((sh a 1) 0), .ref ((sh a 9) 0), .null, .null, .null, .null]))]) H := hP1
  refine lv_aload_n hx hb dX6_init_30 rfl (lv_at hl 0 rfl) ?_
  refine z_new (C := RX1) (T := TX1) (N := 4) (ci := 1) hx hb hts hi1 tyX1 tyX1_ok hown (hts (.classLink RX6 25 RX1) (by decide +kernel)) (hts (.instantiable RX1 4) (by decide +kernel)) (hts (.initialized RX1) (by decide +kernel)) hK.1 hS rfl (fs := [.null, .null, .null, .null]) blX1 (Nat.le_of_ble_eq_true rfl) (Nat.le_of_ble_eq_true rfl) (q := (sh a 13) 0) hz dX6_init_31 (fun H hP1 hz9 hk hS => ?_)
  have hOb := keepO (Ord.of (b := a) (n := 1) rfl) hOb hk (fun _ _ h => h)
  have hSt := keepO (ordSt cs (sh a 1) S0) hSt hk (fun _ _ h => h)
  have hPv := keepO (ordVi cs (sh a 9) ((sh a 1) 0) (aI (fun _ => 0)) (cB (fun _ _ => false)) (cB (fun _ _ => false))) hPv hk (fun _ _ h => h)
  have hN13 : va_P G vwCl ([((sh a 13) 0, .inr (1, [.null, .null, .null, .null]))]) H := hP1
  have hz : H.size = a 14 := hz9.trans (hsq 13).symm
  refine lv_dup hx hb dX6_init_34 rfl ?_
  refine lv_aload_n hx hb dX6_init_35 rfl (lv_at hl 0 rfl) ?_
  refine va_get (D := G) (ci := 6) (v := .ref ((sh a 1) 0)) (C := RX6) (T := TX6) (N := 6) hx hb hts hi6 hown hK.1 hOb 0 rfl rfl 0 (by decide) (hts (.fieldLink RX6 10 "SpriteLines" "now" "LSpriteLines$State;") (by decide +kernel)) (fun _ h9 => h9) rfl dX6_init_36 ?_
  refine z_v (zrI (C := RX1) (As := [.ref ((sh a 1) 0)]) (rest := [.ref ((sh a 13) 0), .ref (a 0)]) (Pw := fun H => va_P G vwCl ([((sh a 13) 0, .inr (1, [.null, .null, .null, .null]))]) H ∧ H.size = a 14) ⟨hx, hb, hml, hown, hts⟩ (c_X1_init l G cs (sh a 13) ((sh a 1) 0) (seq_sh hsq 13)) gX6_init_X1_init rfl (hts (.initialized RX1) (by decide +kernel)) (hts (.methodLink RX6 27 yX1_init) (by decide +kernel)) (hts (.instanceMethod yX1_init) (by decide +kernel)) rfl qX1_init rfl rfl ⟨Nat.le_of_ble_eq_true rfl, Nat.le_of_ble_eq_true rfl⟩ ⟨hN13, hz⟩ hK hl.1 rfl (Nat.le_of_ble_eq_true rfl) dX6_init_39 ⟨Nat.le_of_ble_eq_true rfl, Nat.le_of_ble_eq_true rfl⟩) hS (fun q h => ax_mono (ax_sh h) (by decide) (by decide)) (fun q h => ax_mono (ax_sh h) (by decide) (by decide)) (fun H locs hpost hle hk hS => ?_)
  obtain ⟨hKp', hz'⟩ := hpost
  have hOb := keepO (Ord.of (b := a) (n := 1) rfl) hOb hk (fun j hj ⟨i, h1, h2, h3⟩ => absurd (ia j (13 + i) (by omega) (by omega) h3) (by omega))
  have hSt := keepO (ordSt cs (sh a 1) S0) hSt hk (fun j hj ⟨i, h1, h2, h3⟩ => absurd (ia (1 + j) (13 + i) (by omega) (by omega) h3) (by omega))
  have hPv := keepO (ordVi cs (sh a 9) ((sh a 1) 0) (aI (fun _ => 0)) (cB (fun _ _ => false)) (cB (fun _ _ => false))) hPv hk (fun j hj ⟨i, h1, h2, h3⟩ => absurd (ia (9 + j) (13 + i) (by omega) (by omega) h3) (by omega))
  have hKp : va_P G vwCl (pkW cs (sh a 13) ((sh a 1) 0) (aI (fun _ => 0)) (aI (fun _ => 0)) (aI (fun _ => 0))) H := hKp'
  have hz : H.size = a 17 := hz'
  refine z_putF (G := G) (ci := 6) (v := .ref ((sh a 13) 0)) (ty := tyX6 2) (C := RX6) (T := TX6) (N := 6) hx hb hts hi6 tyX6 tyX6_ok nmX6 hown hK.1 hOb (Ord.D (Ord.of (b := a) (n := 1) rfl) inj1) hS 0 rfl rfl 2 (by decide) (hts (.fieldLink RX6 28 "SpriteLines" "packing" "LSpriteLines$Packing;") (by decide +kernel)) (fun _ h9 => h9) rfl (hnm.trans rfl) rfl (by decide +kernel) rfl rfl (Nat.le_of_ble_eq_true rfl) ⟨0, by decide, by decide, rfl⟩ dX6_init_42 (fun H locs hP1 hle hk hS => ?_)
  have hz : H.size = a 17 := hle.trans hz
  have hSt := keepO (ordSt cs (sh a 1) S0) hSt hk (fun j hj h3 => absurd (ia (1 + j) 0 (by omega) (by omega) h3) (by omega))
  have hPv := keepO (ordVi cs (sh a 9) ((sh a 1) 0) (aI (fun _ => 0)) (cB (fun _ _ => false)) (cB (fun _ _ => false))) hPv hk (fun j hj h3 => absurd (ia (9 + j) 0 (by omega) (by omega) h3) (by omega))
  have hKp := keepO (ordPk cs (sh a 13) ((sh a 1) 0) (aI (fun _ => 0)) (aI (fun _ => 0)) (aI (fun _ => 0))) hKp hk (fun j hj h3 => absurd (ia (13 + j) 0 (by omega) (by omega) h3) (by omega))
  have hOb : va_P G vwCl ([(a 0, .inr (6, [.ref ((sh a 1) 0), .ref ((sh a 9) 0), .ref ((sh a 13) 0), .null, .null, .null]))]) H := hP1
  refine lv_aload_n hx hb dX6_init_45 rfl (lv_at hl 0 rfl) ?_
  refine z_new (C := RX2) (T := TX2) (N := 9) (ci := 2) hx hb hts hi2 tyX2 tyX2_ok hown (hts (.classLink RX6 32 RX2) (by decide +kernel)) (hts (.instantiable RX2 9) (by decide +kernel)) (hts (.initialized RX2) (by decide +kernel)) hK.1 hS rfl (fs := [.null, .int (zI 0), .long 0, .long 0, .int (zI 0), .int (zI 0), .int (zI 0), .int (zI 0), .int (zI 0)]) blX2 (Nat.le_of_ble_eq_true rfl) (Nat.le_of_ble_eq_true rfl) (q := (sh a 17) 0) hz dX6_init_46 (fun H hP1 hz9 hk hS => ?_)
  have hOb := keepO (Ord.of (b := a) (n := 1) rfl) hOb hk (fun _ _ h => h)
  have hSt := keepO (ordSt cs (sh a 1) S0) hSt hk (fun _ _ h => h)
  have hPv := keepO (ordVi cs (sh a 9) ((sh a 1) 0) (aI (fun _ => 0)) (cB (fun _ _ => false)) (cB (fun _ _ => false))) hPv hk (fun _ _ h => h)
  have hKp := keepO (ordPk cs (sh a 13) ((sh a 1) 0) (aI (fun _ => 0)) (aI (fun _ => 0)) (aI (fun _ => 0))) hKp hk (fun _ _ h => h)
  have hN17 : va_P G vwCl ([((sh a 17) 0, .inr (2, [.null, .int (zI 0), .long 0, .long 0, .int (zI 0), .int (zI 0), .int (zI 0), .int (zI 0), .int (zI 0)]))]) H := hP1
  have hz : H.size = a 18 := hz9.trans (hsq 17).symm
  refine lv_dup hx hb dX6_init_49 rfl ?_
  refine z_v (zrIN (C := RX2) (As := []) (rest := [.ref ((sh a 17) 0), .ref (a 0)]) (Pw := fun H => va_P G vwCl ([((sh a 17) 0, .inr (2, [.null, .int (zI 0), .long 0, .long 0, .int (zI 0), .int (zI 0), .int (zI 0), .int (zI 0), .int (zI 0)]))]) H ∧ H.size = a 18) ⟨hx, hb, hml, hown, hts⟩ (c_X2_init l G cs (sh a 17) (seq_sh hsq 17)) gX6_init_X2_init_n34 rfl (hts (.initialized RX2) (by decide +kernel)) hK.2.2.2.2.1 (hts (.instanceMethod yX2_init) (by decide +kernel)) rfl qX2_init rfl rfl ⟨Nat.le_of_ble_eq_true rfl, Nat.le_of_ble_eq_true rfl⟩ ⟨hN17, hz⟩ hK hl.1 rfl (Nat.le_of_ble_eq_true rfl) dX6_init_50 ⟨Nat.le_of_ble_eq_true rfl, Nat.le_of_ble_eq_true rfl⟩) hS (fun q h => ax_mono (ax_sh h) (by decide) (by decide)) (fun q h => ax_mono (ax_sh h) (by decide) (by decide)) (fun H locs hpost hle hk hS => ?_)
  obtain ⟨hTx', hz'⟩ := hpost
  have hOb := keepO (Ord.of (b := a) (n := 1) rfl) hOb hk (fun j hj ⟨i, h1, h2, h3⟩ => absurd (ia j (17 + i) (by omega) (by omega) h3) (by omega))
  have hSt := keepO (ordSt cs (sh a 1) S0) hSt hk (fun j hj ⟨i, h1, h2, h3⟩ => absurd (ia (1 + j) (17 + i) (by omega) (by omega) h3) (by omega))
  have hPv := keepO (ordVi cs (sh a 9) ((sh a 1) 0) (aI (fun _ => 0)) (cB (fun _ _ => false)) (cB (fun _ _ => false))) hPv hk (fun j hj ⟨i, h1, h2, h3⟩ => absurd (ia (9 + j) (17 + i) (by omega) (by omega) h3) (by omega))
  have hKp := keepO (ordPk cs (sh a 13) ((sh a 1) 0) (aI (fun _ => 0)) (aI (fun _ => 0)) (aI (fun _ => 0))) hKp hk (fun j hj ⟨i, h1, h2, h3⟩ => absurd (ia (13 + j) (17 + i) (by omega) (by omega) h3) (by omega))
  have hTx : va_P G vwCl (txW cs (sh a 17) (fun _ => 0) (fun _ => false) (fun _ => false) (fun _ => 0)) H := hTx'
  have hz : H.size = a 19 := hz'
  refine z_putF (G := G) (ci := 6) (v := .ref ((sh a 17) 0)) (ty := tyX6 3) (C := RX6) (T := TX6) (N := 6) hx hb hts hi6 tyX6 tyX6_ok nmX6 hown hK.1 hOb (Ord.D (Ord.of (b := a) (n := 1) rfl) inj1) hS 0 rfl rfl 3 (by decide) (hts (.fieldLink RX6 35 "SpriteLines" "text" "LSpriteLines$PixelText;") (by decide +kernel)) (fun _ h9 => h9) rfl (hnm.trans rfl) rfl (by decide +kernel) rfl rfl (Nat.le_of_ble_eq_true rfl) ⟨0, by decide, by decide, rfl⟩ dX6_init_53 (fun H locs hP1 hle hk hS => ?_)
  have hz : H.size = a 19 := hle.trans hz
  have hSt := keepO (ordSt cs (sh a 1) S0) hSt hk (fun j hj h3 => absurd (ia (1 + j) 0 (by omega) (by omega) h3) (by omega))
  have hPv := keepO (ordVi cs (sh a 9) ((sh a 1) 0) (aI (fun _ => 0)) (cB (fun _ _ => false)) (cB (fun _ _ => false))) hPv hk (fun j hj h3 => absurd (ia (9 + j) 0 (by omega) (by omega) h3) (by omega))
  have hKp := keepO (ordPk cs (sh a 13) ((sh a 1) 0) (aI (fun _ => 0)) (aI (fun _ => 0)) (aI (fun _ => 0))) hKp hk (fun j hj h3 => absurd (ia (13 + j) 0 (by omega) (by omega) h3) (by omega))
  have hTx := keepO (ordTx cs (sh a 17) (fun _ => 0) (fun _ => false) (fun _ => false) (fun _ => 0)) hTx hk (fun j hj h3 => absurd (ia (17 + j) 0 (by omega) (by omega) h3) (by omega))
  have hOb : va_P G vwCl ([(a 0, .inr (6, [.ref ((sh a 1) 0), .ref ((sh a 9) 0), .ref ((sh a 13) 0), .ref ((sh a 17) 0), .null, .null]))]) H := hP1
  refine lv_aload_n hx hb dX6_init_56 rfl (lv_at hl 0 rfl) ?_
  refine z_new (C := RX0) (T := TX0) (N := 3) (ci := 0) hx hb hts hi0 tyX0 tyX0_ok hown (hts (.classLink RX6 39 RX0) (by decide +kernel)) (hts (.instantiable RX0 3) (by decide +kernel)) (hts (.initialized RX0) (by decide +kernel)) hK.1 hS rfl (fs := [.null, .int (zI 0), .int (zI 0)]) blX0 (Nat.le_of_ble_eq_true rfl) (Nat.le_of_ble_eq_true rfl) (q := (sh a 19) 0) hz dX6_init_57 (fun H hP1 hz9 hk hS => ?_)
  have hOb := keepO (Ord.of (b := a) (n := 1) rfl) hOb hk (fun _ _ h => h)
  have hSt := keepO (ordSt cs (sh a 1) S0) hSt hk (fun _ _ h => h)
  have hPv := keepO (ordVi cs (sh a 9) ((sh a 1) 0) (aI (fun _ => 0)) (cB (fun _ _ => false)) (cB (fun _ _ => false))) hPv hk (fun _ _ h => h)
  have hKp := keepO (ordPk cs (sh a 13) ((sh a 1) 0) (aI (fun _ => 0)) (aI (fun _ => 0)) (aI (fun _ => 0))) hKp hk (fun _ _ h => h)
  have hTx := keepO (ordTx cs (sh a 17) (fun _ => 0) (fun _ => false) (fun _ => false) (fun _ => 0)) hTx hk (fun _ _ h => h)
  have hN19 : va_P G vwCl ([((sh a 19) 0, .inr (0, [.null, .int (zI 0), .int (zI 0)]))]) H := hP1
  have hz : H.size = a 20 := hz9.trans (hsq 19).symm
  refine lv_dup hx hb dX6_init_60 rfl ?_
  refine z_v (zrI (C := RX0) (As := []) (rest := [.ref ((sh a 19) 0), .ref (a 0)]) (Pw := fun H => va_P G vwCl ([((sh a 19) 0, .inr (0, [.null, .int (zI 0), .int (zI 0)]))]) H ∧ H.size = a 20) ⟨hx, hb, hml, hown, hts⟩ (c_X0_init l G cs (sh a 19) (seq_sh hsq 19)) gX6_init_X0_init rfl (hts (.initialized RX0) (by decide +kernel)) (hts (.methodLink RX6 41 yX0_init) (by decide +kernel)) (hts (.instanceMethod yX0_init) (by decide +kernel)) rfl qX0_init rfl rfl ⟨Nat.le_of_ble_eq_true rfl, Nat.le_of_ble_eq_true rfl⟩ ⟨hN19, hz⟩ hK hl.1 rfl (Nat.le_of_ble_eq_true rfl) dX6_init_61 ⟨Nat.le_of_ble_eq_true rfl, Nat.le_of_ble_eq_true rfl⟩) hS (fun q h => ax_mono (ax_sh h) (by decide) (by decide)) (fun q h => ax_mono (ax_sh h) (by decide) (by decide)) (fun H locs hpost hle hk hS => ?_)
  obtain ⟨hHi', hRi', hz'⟩ := hpost
  have hOb := keepO (Ord.of (b := a) (n := 1) rfl) hOb hk (fun j hj ⟨i, h1, h2, h3⟩ => absurd (ia j (19 + i) (by omega) (by omega) h3) (by omega))
  have hSt := keepO (ordSt cs (sh a 1) S0) hSt hk (fun j hj ⟨i, h1, h2, h3⟩ => absurd (ia (1 + j) (19 + i) (by omega) (by omega) h3) (by omega))
  have hPv := keepO (ordVi cs (sh a 9) ((sh a 1) 0) (aI (fun _ => 0)) (cB (fun _ _ => false)) (cB (fun _ _ => false))) hPv hk (fun j hj ⟨i, h1, h2, h3⟩ => absurd (ia (9 + j) (19 + i) (by omega) (by omega) h3) (by omega))
  have hKp := keepO (ordPk cs (sh a 13) ((sh a 1) 0) (aI (fun _ => 0)) (aI (fun _ => 0)) (aI (fun _ => 0))) hKp hk (fun j hj ⟨i, h1, h2, h3⟩ => absurd (ia (13 + j) (19 + i) (by omega) (by omega) h3) (by omega))
  have hTx := keepO (ordTx cs (sh a 17) (fun _ => 0) (fun _ => false) (fun _ => false) (fun _ => 0)) hTx hk (fun j hj ⟨i, h1, h2, h3⟩ => absurd (ia (17 + j) (19 + i) (by omega) (by omega) h3) (by omega))
  have hHi : va_P G vwCl (hiW cs (sh a 19) 0 0) H := hHi'
  have hRi : ∀ i, i < 5 → va_P G vwCl (stW cs (sh (sh a 19) (2 + 8 * i)) S0) H := hRi'
  have hz : H.size = a 61 := hz'
  refine z_putF (G := G) (ci := 6) (v := .ref ((sh a 19) 0)) (ty := tyX6 4) (C := RX6) (T := TX6) (N := 6) hx hb hts hi6 tyX6 tyX6_ok nmX6 hown hK.1 hOb (Ord.D (Ord.of (b := a) (n := 1) rfl) inj1) hS 0 rfl rfl 4 (by decide) (hts (.fieldLink RX6 42 "SpriteLines" "history" "LSpriteLines$History;") (by decide +kernel)) (fun _ h9 => h9) rfl (hnm.trans rfl) rfl (by decide +kernel) rfl rfl (Nat.le_of_ble_eq_true rfl) ⟨0, by decide, by decide, rfl⟩ dX6_init_64 (fun H locs hP1 hle hk hS => ?_)
  have hz : H.size = a 61 := hle.trans hz
  have hSt := keepO (ordSt cs (sh a 1) S0) hSt hk (fun j hj h3 => absurd (ia (1 + j) 0 (by omega) (by omega) h3) (by omega))
  have hPv := keepO (ordVi cs (sh a 9) ((sh a 1) 0) (aI (fun _ => 0)) (cB (fun _ _ => false)) (cB (fun _ _ => false))) hPv hk (fun j hj h3 => absurd (ia (9 + j) 0 (by omega) (by omega) h3) (by omega))
  have hKp := keepO (ordPk cs (sh a 13) ((sh a 1) 0) (aI (fun _ => 0)) (aI (fun _ => 0)) (aI (fun _ => 0))) hKp hk (fun j hj h3 => absurd (ia (13 + j) 0 (by omega) (by omega) h3) (by omega))
  have hTx := keepO (ordTx cs (sh a 17) (fun _ => 0) (fun _ => false) (fun _ => false) (fun _ => 0)) hTx hk (fun j hj h3 => absurd (ia (17 + j) 0 (by omega) (by omega) h3) (by omega))
  have hHi := keepO (ordHi cs (sh a 19) 0 0) hHi hk (fun j hj h3 => absurd (ia (19 + j) 0 (by omega) (by omega) h3) (by omega))
  have hRi : ∀ i, i < 5 → va_P G vwCl (stW cs (sh (sh a 19) (2 + 8 * i)) S0) H := fun i hi => keepO (ordSt _ _ _) (hRi i hi) hk (fun j hj h3 => absurd (ia (19 + (2 + 8 * i + j)) 0 (by omega) (by omega) h3) (by omega))
  have hOb : va_P G vwCl ([(a 0, .inr (6, [.ref ((sh a 1) 0), .ref ((sh a 9) 0), .ref ((sh a 13) 0), .ref ((sh a 17) 0), .ref ((sh a 19) 0), .null]))]) H := hP1
  refine lv_aload_n hx hb dX6_init_67 rfl (lv_at hl 0 rfl) ?_
  refine z_iconst (n := 2) hx hb dX6_init_68 ?_
  refine z_newq (n := 2) (N := 2) hx hb hown (hts (.classLink RX6 7 RX4) (by decide +kernel)) hK.2.2.2.2.2 hK.1 hS 4 rfl (by decide) rfl (by decide) (Nat.le_of_ble_eq_true rfl) (Nat.le_of_ble_eq_true rfl) (q := (sh a 61) 0) hz dX6_init_69 (fun H hP1 hz9 hk hS => ?_)
  have hOb := keepO (Ord.of (b := a) (n := 1) rfl) hOb hk (fun _ _ h => h)
  have hSt := keepO (ordSt cs (sh a 1) S0) hSt hk (fun _ _ h => h)
  have hPv := keepO (ordVi cs (sh a 9) ((sh a 1) 0) (aI (fun _ => 0)) (cB (fun _ _ => false)) (cB (fun _ _ => false))) hPv hk (fun _ _ h => h)
  have hKp := keepO (ordPk cs (sh a 13) ((sh a 1) 0) (aI (fun _ => 0)) (aI (fun _ => 0)) (aI (fun _ => 0))) hKp hk (fun _ _ h => h)
  have hTx := keepO (ordTx cs (sh a 17) (fun _ => 0) (fun _ => false) (fun _ => false) (fun _ => 0)) hTx hk (fun _ _ h => h)
  have hHi := keepO (ordHi cs (sh a 19) 0 0) hHi hk (fun _ _ h => h)
  have hRi : ∀ i, i < 5 → va_P G vwCl (stW cs (sh (sh a 19) (2 + 8 * i)) S0) H := fun i hi => keepO (ordSt _ _ _) (hRi i hi) hk (fun _ _ h => h)
  have hN61 : va_P G vwCl ([((sh a 61) 0, .inl (cs 4, 2, .inr (.inr (.inr (.inr (fun _ => none))))))]) H := hP1
  have hz : H.size = a 62 := hz9.trans (hsq 61).symm
  refine z_putF (G := G) (ci := 6) (v := .ref ((sh a 61) 0)) (ty := tyX6 5) (C := RX6) (T := TX6) (N := 6) hx hb hts hi6 tyX6 tyX6_ok nmX6 hown hK.1 hOb (Ord.D (Ord.of (b := a) (n := 1) rfl) inj1) hS 0 rfl rfl 5 (by decide) (hts (.fieldLink RX6 46 "SpriteLines" "snapshots" "[LSpriteLines$State;") (by decide +kernel)) (fun _ h9 => h9) rfl (hnm.trans rfl) rfl (by decide +kernel) rfl rfl (Nat.le_of_ble_eq_true rfl) ⟨0, by decide, by decide, rfl⟩ dX6_init_72 (fun H locs hP1 hle hk hS => ?_)
  have hz : H.size = a 62 := hle.trans hz
  have hSt := keepO (ordSt cs (sh a 1) S0) hSt hk (fun j hj h3 => absurd (ia (1 + j) 0 (by omega) (by omega) h3) (by omega))
  have hPv := keepO (ordVi cs (sh a 9) ((sh a 1) 0) (aI (fun _ => 0)) (cB (fun _ _ => false)) (cB (fun _ _ => false))) hPv hk (fun j hj h3 => absurd (ia (9 + j) 0 (by omega) (by omega) h3) (by omega))
  have hKp := keepO (ordPk cs (sh a 13) ((sh a 1) 0) (aI (fun _ => 0)) (aI (fun _ => 0)) (aI (fun _ => 0))) hKp hk (fun j hj h3 => absurd (ia (13 + j) 0 (by omega) (by omega) h3) (by omega))
  have hTx := keepO (ordTx cs (sh a 17) (fun _ => 0) (fun _ => false) (fun _ => false) (fun _ => 0)) hTx hk (fun j hj h3 => absurd (ia (17 + j) 0 (by omega) (by omega) h3) (by omega))
  have hHi := keepO (ordHi cs (sh a 19) 0 0) hHi hk (fun j hj h3 => absurd (ia (19 + j) 0 (by omega) (by omega) h3) (by omega))
  have hRi : ∀ i, i < 5 → va_P G vwCl (stW cs (sh (sh a 19) (2 + 8 * i)) S0) H := fun i hi => keepO (ordSt _ _ _) (hRi i hi) hk (fun j hj h3 => absurd (ia (19 + (2 + 8 * i + j)) 0 (by omega) (by omega) h3) (by omega))
  have hN61 := keepO (Ord.of (b := (sh a 61)) (n := 1) rfl) hN61 hk (fun j hj h3 => absurd (ia (61 + j) 0 (by omega) (by omega) h3) (by omega))
  have hOb : va_P G vwCl ([(a 0, .inr (6, [.ref ((sh a 1) 0), .ref ((sh a 9) 0), .ref ((sh a 13) 0), .ref ((sh a 17) 0), .ref ((sh a 19) 0), .ref ((sh a 61) 0)]))]) H := hP1
  exact v_ret hx hb hr hlk dX6_init_75 hS ⟨⟨fun _ => 0, fun _ _ => false, fun _ _ => false, fun _ => 0, fun _ => 0, fun _ => 0, fun _ => 0, fun _ => false, fun _ => false, 0, fun _ => S0, ⟨tf_z, rfl⟩, ⟨by decide, fun i hi => absurd hi (by show ¬ (i : Int) < 0; omega)⟩, hOb, hSt, hPv, hKp, hTx, hHi, (fun i hi => st_move (b2 := sh (sh a 19) (2 + 8 * i)) (fun j hj => congrArg a (by omega)) (hRi i hi)), hN61, fun i _ hk9 => absurd (show false = true from hk9) (by decide)⟩, hz⟩
