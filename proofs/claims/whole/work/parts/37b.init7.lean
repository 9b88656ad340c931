/-! The reference, as it is born. -/
def colZ (i j : Int) : Int → Int := fun k => if k = 2 then 4 else if (197 ≤ k ∧ k < 209) ∧ ((k - 197) / 3 < i ∨ ((k - 197) / 3 = i ∧ (k - 197) % 3 + 1 < j)) then 16 * ((k - 197) / 3) + ((k - 197) % 3 + 1) else 0
theorem colZ_0 : updZ (fun _ => 0) 2 4 = colZ 0 1 := by
  funext k
  unfold updZ colZ
  by_cases e : k = 2
  · rw [if_pos e, if_pos e]
  · rw [if_neg e, if_neg e, if_neg (by omega)]
theorem colZ_n {i : Int} : colZ (i + 1) 1 = colZ i 4 := by
  funext k
  unfold colZ
  by_cases e : k = 2
  · rw [if_pos e, if_pos e]
  · rw [if_neg e, if_neg e]
    by_cases c : (197 ≤ k ∧ k < 209) ∧ ((k - 197) / 3 < i ∨ ((k - 197) / 3 = i ∧ (k - 197) % 3 + 1 < 4))
    · rw [if_pos c, if_pos (by omega)]
    · rw [if_neg c, if_neg (by omega)]
theorem colZ_s {i j : Int} (hi : 0 ≤ i ∧ i < 4) (hj : 1 ≤ j ∧ j < 4) : updZ (colZ i j) (197 + 3 * i + j - 1) (16 * i + j) = colZ i (j + 1) := by
  funext k
  by_cases e : k = 197 + 3 * i + j - 1
  · subst e
    rw [updZ_s]
    unfold colZ
    rw [if_neg (by omega), if_pos (by omega)]
    omega
  · rw [updZ_n e]
    unfold colZ
    by_cases e2 : k = 2
    · rw [if_pos e2, if_pos e2]
    · rw [if_neg e2, if_neg e2]
      by_cases c : (197 ≤ k ∧ k < 209) ∧ ((k - 197) / 3 < i ∨ ((k - 197) / 3 = i ∧ (k - 197) % 3 + 1 < j))
      · rw [if_pos c, if_pos (by omega)]
      · rw [if_neg c, if_neg (by omega)]
theorem rr_born : RR S0 (colZ 4 1) := by
  refine ⟨⟨by decide, by decide, by decide, by decide, by decide⟩, ?_, ?_, ?_, ?_⟩
  · intro p r h1 h2
    have h2 : p < 0 := h2
    omega
  · intro q v h1 h2 h3 h4
    show colZ 4 1 (197 + 3 * q + v - 1) = colP 4 1 (4 * q + v)
    unfold colZ colP
    rw [if_neg (by omega), if_pos (by omega), if_pos (by omega)]
    omega
  · intro s t h1 h2
    have h2 : s < 0 := h2
    omega
  · intro x h1 h2
    show colZ 4 1 (329 + x) = if (0 : Int) = 0 then 0 else _
    rw [if_pos rfl]
    unfold colZ
    rw [if_neg (by omega), if_neg (by omega)]
set_option maxHeartbeats 4000000 in
set_option maxRecDepth 100000 in
theorem c_X7_init (l : Launch) (G : va_G) (cs : Nat → ClassId) (a : Nat → Nat) (hsq : Seq a) : MV l yX7_init wsX7_init { frames := 1, cells := 9, slots := 3367, locals := 12 } G cs [.ref (a 0)] (fun H => va_P G vwCl ([(a 0, .inr (7, [.null, .null, .null, .int (zI 0), .null, .null, .null, .null, .int (zI 0), .null, .int (zI 0), .null]))]) H ∧ H.size = a 1) (fun H => MI G cs a A0_ H ∧ H.size = a 10) (AX a 0 10) 9 3367 := by
  refine m_intro (Pw := (fun H => va_P G vwCl ([(a 0, .inr (7, [.null, .null, .null, .int (zI 0), .null, .null, .null, .null, .int (zI 0), .null, .int (zI 0), .null]))]) H ∧ H.size = a 1)) (cc := cX7_init) (maxL := 3) (ret := none) RX7 (by decide) rfl rfl (Nat.le_of_ble_eq_true rfl) ?_
  intro pP eE sS mM below meth cC hx hb hr hts hown hml hlk hnm hPre hK ls hl
  have hl : lv_has ls 3 [(0, .ref (a 0))] := hl
  obtain ⟨hOb, hz⟩ := hPre
  have hS : va_S (AX a 0 10) sS.heap sS.heap [] := va_S.rf
  have hi7 : ∀ w ∈ u_ws RX7 TX7 12, w ∈ wsX7_init := by decide +kernel
  have ia := seq_inj hsq 62
  refine lv_aload_n hx hb dX7_init_0 rfl (lv_at hl 0 rfl) ?_
  refine W.objInit hx hb hown (hts (.methodLink RX7 1 objectInit) (by decide +kernel)) (hts (.instanceMethod objectInit) (by decide +kernel)) (hts (.code objectInit ⟨#[0xb1]⟩ 1 none) (by decide +kernel)) rfl (by rw [hml]; exact hl.1) rfl dX7_init_1 (Nat.le_of_ble_eq_true rfl) (Nat.le_of_ble_eq_true rfl) ?_
  refine W.eq (g2 := F0 mM 4 ls []) rfl ?_
  refine lv_aload_n hx hb dX7_init_4 rfl (lv_at hl 0 rfl) ?_
  refine z_sipush (n := 361) hx hb dX7_init_5 (by decide) ?_
  refine z_newa (atype := .int) (ty := .int) (n := 361) (N := 361) hx hb (hts (.arrayClass .int) (by decide +kernel)) rfl hK.1 hS 0 rfl (a0 := (361, .inl (aI (fun _ => 0)))) rfl (by decide) rfl (by decide) (Nat.le_of_ble_eq_true rfl) (Nat.le_of_ble_eq_true rfl) (q := (sh a 1) 0) hz dX7_init_8 (fun H hP1 hz9 hk hS => ?_)
  have hOb := keepO (Ord.of (b := a) (n := 1) rfl) hOb hk (fun _ _ h => h)
  have hN1 : va_P G vwCl ([((sh a 1) 0, .inl (cs 0, 361, .inl (aI (fun _ => 0))))]) H := hP1
  have hz : H.size = a 2 := hz9.trans (hsq 1).symm
  refine z_putF (G := G) (ci := 7) (v := .ref ((sh a 1) 0)) (ty := tyX7 0) (C := RX7) (T := TX7) (N := 12) hx hb hts hi7 tyX7 tyX7_ok nmX7 hown hK.1 hOb (Ord.D (Ord.of (b := a) (n := 1) rfl) inj1) hS 0 rfl rfl 0 (by decide) (hts (.fieldLink RX7 7 "SpriteLinesModel" "row" "[I") (by decide +kernel)) (fun _ h9 => h9) rfl (hnm.trans rfl) rfl (by decide +kernel) rfl rfl (Nat.le_of_ble_eq_true rfl) ⟨0, by decide, by decide, rfl⟩ dX7_init_10 (fun H locs hP1 hle hk hS => ?_)
  have hz : H.size = a 2 := hle.trans hz
  have hN1 := keepO (Ord.of (b := (sh a 1)) (n := 1) rfl) hN1 hk (fun j hj h3 => absurd (ia (1 + j) 0 (by omega) (by omega) h3) (by omega))
  have hOb : va_P G vwCl ([(a 0, .inr (7, [.ref ((sh a 1) 0), .null, .null, .int (zI 0), .null, .null, .null, .null, .int (zI 0), .null, .int (zI 0), .null]))]) H := hP1
  refine lv_aload_n hx hb dX7_init_13 rfl (lv_at hl 0 rfl) ?_
  refine z_sipush (n := 361) hx hb dX7_init_14 (by decide) ?_
  refine z_newa (atype := .int) (ty := .int) (n := 361) (N := 361) hx hb (hts (.arrayClass .int) (by decide +kernel)) rfl hK.1 hS 0 rfl (a0 := (361, .inl (aI (fun _ => 0)))) rfl (by decide) rfl (by decide) (Nat.le_of_ble_eq_true rfl) (Nat.le_of_ble_eq_true rfl) (q := (sh a 2) 0) hz dX7_init_17 (fun H hP1 hz9 hk hS => ?_)
  have hOb := keepO (Ord.of (b := a) (n := 1) rfl) hOb hk (fun _ _ h => h)
  have hN1 := keepO (Ord.of (b := (sh a 1)) (n := 1) rfl) hN1 hk (fun _ _ h => h)
  have hN2 : va_P G vwCl ([((sh a 2) 0, .inl (cs 0, 361, .inl (aI (fun _ => 0))))]) H := hP1
  have hz : H.size = a 3 := hz9.trans (hsq 2).symm
  refine z_putF (G := G) (ci := 7) (v := .ref ((sh a 2) 0)) (ty := tyX7 1) (C := RX7) (T := TX7) (N := 12) hx hb hts hi7 tyX7 tyX7_ok nmX7 hown hK.1 hOb (Ord.D (Ord.of (b := a) (n := 1) rfl) inj1) hS 0 rfl rfl 1 (by decide) (hts (.fieldLink RX7 13 "SpriteLinesModel" "scratch" "[I") (by decide +kernel)) (fun _ h9 => h9) rfl (hnm.trans rfl) rfl (by decide +kernel) rfl rfl (Nat.le_of_ble_eq_true rfl) ⟨0, by decide, by decide, rfl⟩ dX7_init_19 (fun H locs hP1 hle hk hS => ?_)
  have hz : H.size = a 3 := hle.trans hz
  have hN1 := keepO (Ord.of (b := (sh a 1)) (n := 1) rfl) hN1 hk (fun j hj h3 => absurd (ia (1 + j) 0 (by omega) (by omega) h3) (by omega))
  have hN2 := keepO (Ord.of (b := (sh a 2)) (n := 1) rfl) hN2 hk (fun j hj h3 => absurd (ia (2 + j) 0 (by omega) (by omega) h3) (by omega))
  have hOb : va_P G vwCl ([(a 0, .inr (7, [.ref ((sh a 1) 0), .ref ((sh a 2) 0), .null, .int (zI 0), .null, .null, .null, .null, .int (zI 0), .null, .int (zI 0), .null]))]) H := hP1
  refine lv_aload_n hx hb dX7_init_22 rfl (lv_at hl 0 rfl) ?_
  refine z_sipush (n := 1805) hx hb dX7_init_23 (by decide) ?_
  refine z_newa (atype := .int) (ty := .int) (n := 1805) (N := 1805) hx hb (hts (.arrayClass .int) (by decide +kernel)) rfl hK.1 hS 0 rfl (a0 := (1805, .inl (aI (fun _ => 0)))) rfl (by decide) rfl (by decide) (Nat.le_of_ble_eq_true rfl) (Nat.le_of_ble_eq_true rfl) (q := (sh a 3) 0) hz dX7_init_26 (fun H hP1 hz9 hk hS => ?_)
  have hOb := keepO (Ord.of (b := a) (n := 1) rfl) hOb hk (fun _ _ h => h)
  have hN1 := keepO (Ord.of (b := (sh a 1)) (n := 1) rfl) hN1 hk (fun _ _ h => h)
  have hN2 := keepO (Ord.of (b := (sh a 2)) (n := 1) rfl) hN2 hk (fun _ _ h => h)
  have hN3 : va_P G vwCl ([((sh a 3) 0, .inl (cs 0, 1805, .inl (aI (fun _ => 0))))]) H := hP1
  have hz : H.size = a 4 := hz9.trans (hsq 3).symm
  refine z_putF (G := G) (ci := 7) (v := .ref ((sh a 3) 0)) (ty := tyX7 2) (C := RX7) (T := TX7) (N := 12) hx hb hts hi7 tyX7 tyX7_ok nmX7 hown hK.1 hOb (Ord.D (Ord.of (b := a) (n := 1) rfl) inj1) hS 0 rfl rfl 2 (by decide) (hts (.fieldLink RX7 16 "SpriteLinesModel" "history" "[I") (by decide +kernel)) (fun _ h9 => h9) rfl (hnm.trans rfl) rfl (by decide +kernel) rfl rfl (Nat.le_of_ble_eq_true rfl) ⟨0, by decide, by decide, rfl⟩ dX7_init_28 (fun H locs hP1 hle hk hS => ?_)
  have hz : H.size = a 4 := hle.trans hz
  have hN1 := keepO (Ord.of (b := (sh a 1)) (n := 1) rfl) hN1 hk (fun j hj h3 => absurd (ia (1 + j) 0 (by omega) (by omega) h3) (by omega))
  have hN2 := keepO (Ord.of (b := (sh a 2)) (n := 1) rfl) hN2 hk (fun j hj h3 => absurd (ia (2 + j) 0 (by omega) (by omega) h3) (by omega))
  have hN3 := keepO (Ord.of (b := (sh a 3)) (n := 1) rfl) hN3 hk (fun j hj h3 => absurd (ia (3 + j) 0 (by omega) (by omega) h3) (by omega))
  have hOb : va_P G vwCl ([(a 0, .inr (7, [.ref ((sh a 1) 0), .ref ((sh a 2) 0), .ref ((sh a 3) 0), .int (zI 0), .null, .null, .null, .null, .int (zI 0), .null, .int (zI 0), .null]))]) H := hP1
  refine lv_aload_n hx hb dX7_init_31 rfl (lv_at hl 0 rfl) ?_
  refine z_sipush (n := 722) hx hb dX7_init_32 (by decide) ?_
  refine z_newa (atype := .int) (ty := .int) (n := 722) (N := 722) hx hb (hts (.arrayClass .int) (by decide +kernel)) rfl hK.1 hS 0 rfl (a0 := (722, .inl (aI (fun _ => 0)))) rfl (by decide) rfl (by decide) (Nat.le_of_ble_eq_true rfl) (Nat.le_of_ble_eq_true rfl) (q := (sh a 4) 0) hz dX7_init_35 (fun H hP1 hz9 hk hS => ?_)
  have hOb := keepO (Ord.of (b := a) (n := 1) rfl) hOb hk (fun _ _ h => h)
  have hN1 := keepO (Ord.of (b := (sh a 1)) (n := 1) rfl) hN1 hk (fun _ _ h => h)
  have hN2 := keepO (Ord.of (b := (sh a 2)) (n := 1) rfl) hN2 hk (fun _ _ h => h)
  have hN3 := keepO (Ord.of (b := (sh a 3)) (n := 1) rfl) hN3 hk (fun _ _ h => h)
  have hN4 : va_P G vwCl ([((sh a 4) 0, .inl (cs 0, 722, .inl (aI (fun _ => 0))))]) H := hP1
  have hz : H.size = a 5 := hz9.trans (hsq 4).symm
  refine z_putF (G := G) (ci := 7) (v := .ref ((sh a 4) 0)) (ty := tyX7 4) (C := RX7) (T := TX7) (N := 12) hx hb hts hi7 tyX7 tyX7_ok nmX7 hown hK.1 hOb (Ord.D (Ord.of (b := a) (n := 1) rfl) inj1) hS 0 rfl rfl 4 (by decide) (hts (.fieldLink RX7 19 "SpriteLinesModel" "slots" "[I") (by decide +kernel)) (fun _ h9 => h9) rfl (hnm.trans rfl) rfl (by decide +kernel) rfl rfl (Nat.le_of_ble_eq_true rfl) ⟨0, by decide, by decide, rfl⟩ dX7_init_37 (fun H locs hP1 hle hk hS => ?_)
  have hz : H.size = a 5 := hle.trans hz
  have hN1 := keepO (Ord.of (b := (sh a 1)) (n := 1) rfl) hN1 hk (fun j hj h3 => absurd (ia (1 + j) 0 (by omega) (by omega) h3) (by omega))
  have hN2 := keepO (Ord.of (b := (sh a 2)) (n := 1) rfl) hN2 hk (fun j hj h3 => absurd (ia (2 + j) 0 (by omega) (by omega) h3) (by omega))
  have hN3 := keepO (Ord.of (b := (sh a 3)) (n := 1) rfl) hN3 hk (fun j hj h3 => absurd (ia (3 + j) 0 (by omega) (by omega) h3) (by omega))
  have hN4 := keepO (Ord.of (b := (sh a 4)) (n := 1) rfl) hN4 hk (fun j hj h3 => absurd (ia (4 + j) 0 (by omega) (by omega) h3) (by omega))
  have hOb : va_P G vwCl ([(a 0, .inr (7, [.ref ((sh a 1) 0), .ref ((sh a 2) 0), .ref ((sh a 3) 0), .int (zI 0), .ref ((sh a 4) 0), .null, .null, .null, .int (zI 0), .null, .int (zI 0), .null]))]) H := hP1
  refine lv_aload_n hx hb dX7_init_40 rfl (lv_at hl 0 rfl) ?_
  refine z_iconst (n := 2) hx hb dX7_init_41 ?_
  refine z_newa (atype := .boolean) (ty := .boolean) (n := 2) (N := 2) hx hb (hts (.arrayClass .boolean) (by decide +kernel)) rfl hK.1 hS 2 rfl (a0 := (2, .inl (aI (fun _ => 0)))) rfl (by decide) rfl (by decide) (Nat.le_of_ble_eq_true rfl) (Nat.le_of_ble_eq_true rfl) (q := (sh a 5) 0) hz dX7_init_42 (fun H hP1 hz9 hk hS => ?_)
  have hOb := keepO (Ord.of (b := a) (n := 1) rfl) hOb hk (fun _ _ h => h)
  have hN1 := keepO (Ord.of (b := (sh a 1)) (n := 1) rfl) hN1 hk (fun _ _ h => h)
  have hN2 := keepO (Ord.of (b := (sh a 2)) (n := 1) rfl) hN2 hk (fun _ _ h => h)
  have hN3 := keepO (Ord.of (b := (sh a 3)) (n := 1) rfl) hN3 hk (fun _ _ h => h)
  have hN4 := keepO (Ord.of (b := (sh a 4)) (n := 1) rfl) hN4 hk (fun _ _ h => h)
  have hN5 : va_P G vwCl ([((sh a 5) 0, .inl (cs 2, 2, .inl (aI (fun _ => 0))))]) H := hP1
  have hz : H.size = a 6 := hz9.trans (hsq 5).symm
  refine z_putF (G := G) (ci := 7) (v := .ref ((sh a 5) 0)) (ty := tyX7 5) (C := RX7) (T := TX7) (N := 12) hx hb hts hi7 tyX7 tyX7_ok nmX7 hown hK.1 hOb (Ord.D (Ord.of (b := a) (n := 1) rfl) inj1) hS 0 rfl rfl 5 (by decide) (hts (.fieldLink RX7 22 "SpriteLinesModel" "isKept" "[Z") (by decide +kernel)) (fun _ h9 => h9) rfl (hnm.trans rfl) rfl (by decide +kernel) rfl rfl (Nat.le_of_ble_eq_true rfl) ⟨0, by decide, by decide, rfl⟩ dX7_init_44 (fun H locs hP1 hle hk hS => ?_)
  have hz : H.size = a 6 := hle.trans hz
  have hN1 := keepO (Ord.of (b := (sh a 1)) (n := 1) rfl) hN1 hk (fun j hj h3 => absurd (ia (1 + j) 0 (by omega) (by omega) h3) (by omega))
  have hN2 := keepO (Ord.of (b := (sh a 2)) (n := 1) rfl) hN2 hk (fun j hj h3 => absurd (ia (2 + j) 0 (by omega) (by omega) h3) (by omega))
  have hN3 := keepO (Ord.of (b := (sh a 3)) (n := 1) rfl) hN3 hk (fun j hj h3 => absurd (ia (3 + j) 0 (by omega) (by omega) h3) (by omega))
  have hN4 := keepO (Ord.of (b := (sh a 4)) (n := 1) rfl) hN4 hk (fun j hj h3 => absurd (ia (4 + j) 0 (by omega) (by omega) h3) (by omega))
  have hN5 := keepO (Ord.of (b := (sh a 5)) (n := 1) rfl) hN5 hk (fun j hj h3 => absurd (ia (5 + j) 0 (by omega) (by omega) h3) (by omega))
  have hOb : va_P G vwCl ([(a 0, .inr (7, [.ref ((sh a 1) 0), .ref ((sh a 2) 0), .ref ((sh a 3) 0), .int (zI 0), .ref ((sh a 4) 0), .ref ((sh a 5) 0), .null, .null, .int (zI 0), .null, .int (zI 0), .null]))]) H := hP1
  refine lv_aload_n hx hb dX7_init_47 rfl (lv_at hl 0 rfl) ?_
  refine z_bipush (n := 24) hx hb dX7_init_48 (by decide) ?_
  refine z_newa (atype := .boolean) (ty := .boolean) (n := 24) (N := 24) hx hb (hts (.arrayClass .boolean) (by decide +kernel)) rfl hK.1 hS 2 rfl (a0 := (24, .inl (aI (fun _ => 0)))) rfl (by decide) rfl (by decide) (Nat.le_of_ble_eq_true rfl) (Nat.le_of_ble_eq_true rfl) (q := (sh a 6) 0) hz dX7_init_50 (fun H hP1 hz9 hk hS => ?_)
  have hOb := keepO (Ord.of (b := a) (n := 1) rfl) hOb hk (fun _ _ h => h)
  have hN1 := keepO (Ord.of (b := (sh a 1)) (n := 1) rfl) hN1 hk (fun _ _ h => h)
  have hN2 := keepO (Ord.of (b := (sh a 2)) (n := 1) rfl) hN2 hk (fun _ _ h => h)
  have hN3 := keepO (Ord.of (b := (sh a 3)) (n := 1) rfl) hN3 hk (fun _ _ h => h)
  have hN4 := keepO (Ord.of (b := (sh a 4)) (n := 1) rfl) hN4 hk (fun _ _ h => h)
  have hN5 := keepO (Ord.of (b := (sh a 5)) (n := 1) rfl) hN5 hk (fun _ _ h => h)
  have hN6 : va_P G vwCl ([((sh a 6) 0, .inl (cs 2, 24, .inl (aI (fun _ => 0))))]) H := hP1
  have hz : H.size = a 7 := hz9.trans (hsq 6).symm
  refine z_putF (G := G) (ci := 7) (v := .ref ((sh a 6) 0)) (ty := tyX7 6) (C := RX7) (T := TX7) (N := 12) hx hb hts hi7 tyX7 tyX7_ok nmX7 hown hK.1 hOb (Ord.D (Ord.of (b := a) (n := 1) rfl) inj1) hS 0 rfl rfl 6 (by decide) (hts (.fieldLink RX7 26 "SpriteLinesModel" "goes" "[Z") (by decide +kernel)) (fun _ h9 => h9) rfl (hnm.trans rfl) rfl (by decide +kernel) rfl rfl (Nat.le_of_ble_eq_true rfl) ⟨0, by decide, by decide, rfl⟩ dX7_init_52 (fun H locs hP1 hle hk hS => ?_)
  have hz : H.size = a 7 := hle.trans hz
  have hN1 := keepO (Ord.of (b := (sh a 1)) (n := 1) rfl) hN1 hk (fun j hj h3 => absurd (ia (1 + j) 0 (by omega) (by omega) h3) (by omega))
  have hN2 := keepO (Ord.of (b := (sh a 2)) (n := 1) rfl) hN2 hk (fun j hj h3 => absurd (ia (2 + j) 0 (by omega) (by omega) h3) (by omega))
  have hN3 := keepO (Ord.of (b := (sh a 3)) (n := 1) rfl) hN3 hk (fun j hj h3 => absurd (ia (3 + j) 0 (by omega) (by omega) h3) (by omega))
  have hN4 := keepO (Ord.of (b := (sh a 4)) (n := 1) rfl) hN4 hk (fun j hj h3 => absurd (ia (4 + j) 0 (by omega) (by omega) h3) (by omega))
  have hN5 := keepO (Ord.of (b := (sh a 5)) (n := 1) rfl) hN5 hk (fun j hj h3 => absurd (ia (5 + j) 0 (by omega) (by omega) h3) (by omega))
  have hN6 := keepO (Ord.of (b := (sh a 6)) (n := 1) rfl) hN6 hk (fun j hj h3 => absurd (ia (6 + j) 0 (by omega) (by omega) h3) (by omega))
  have hOb : va_P G vwCl ([(a 0, .inr (7, [.ref ((sh a 1) 0), .ref ((sh a 2) 0), .ref ((sh a 3) 0), .int (zI 0), .ref ((sh a 4) 0), .ref ((sh a 5) 0), .ref ((sh a 6) 0), .null, .int (zI 0), .null, .int (zI 0), .null]))]) H := hP1
  refine lv_aload_n hx hb dX7_init_55 rfl (lv_at hl 0 rfl) ?_
  refine z_bipush (n := 24) hx hb dX7_init_56 (by decide) ?_
  refine z_newa (atype := .int) (ty := .int) (n := 24) (N := 24) hx hb (hts (.arrayClass .int) (by decide +kernel)) rfl hK.1 hS 0 rfl (a0 := (24, .inl (aI (fun _ => 0)))) rfl (by decide) rfl (by decide) (Nat.le_of_ble_eq_true rfl) (Nat.le_of_ble_eq_true rfl) (q := (sh a 7) 0) hz dX7_init_58 (fun H hP1 hz9 hk hS => ?_)
  have hOb := keepO (Ord.of (b := a) (n := 1) rfl) hOb hk (fun _ _ h => h)
  have hN1 := keepO (Ord.of (b := (sh a 1)) (n := 1) rfl) hN1 hk (fun _ _ h => h)
  have hN2 := keepO (Ord.of (b := (sh a 2)) (n := 1) rfl) hN2 hk (fun _ _ h => h)
  have hN3 := keepO (Ord.of (b := (sh a 3)) (n := 1) rfl) hN3 hk (fun _ _ h => h)
  have hN4 := keepO (Ord.of (b := (sh a 4)) (n := 1) rfl) hN4 hk (fun _ _ h => h)
  have hN5 := keepO (Ord.of (b := (sh a 5)) (n := 1) rfl) hN5 hk (fun _ _ h => h)
  have hN6 := keepO (Ord.of (b := (sh a 6)) (n := 1) rfl) hN6 hk (fun _ _ h => h)
  have hN7 : va_P G vwCl ([((sh a 7) 0, .inl (cs 0, 24, .inl (aI (fun _ => 0))))]) H := hP1
  have hz : H.size = a 8 := hz9.trans (hsq 7).symm
  refine z_putF (G := G) (ci := 7) (v := .ref ((sh a 7) 0)) (ty := tyX7 7) (C := RX7) (T := TX7) (N := 12) hx hb hts hi7 tyX7 tyX7_ok nmX7 hown hK.1 hOb (Ord.D (Ord.of (b := a) (n := 1) rfl) inj1) hS 0 rfl rfl 7 (by decide) (hts (.fieldLink RX7 29 "SpriteLinesModel" "numberThen" "[I") (by decide +kernel)) (fun _ h9 => h9) rfl (hnm.trans rfl) rfl (by decide +kernel) rfl rfl (Nat.le_of_ble_eq_true rfl) ⟨0, by decide, by decide, rfl⟩ dX7_init_60 (fun H locs hP1 hle hk hS => ?_)
  have hz : H.size = a 8 := hle.trans hz
  have hN1 := keepO (Ord.of (b := (sh a 1)) (n := 1) rfl) hN1 hk (fun j hj h3 => absurd (ia (1 + j) 0 (by omega) (by omega) h3) (by omega))
  have hN2 := keepO (Ord.of (b := (sh a 2)) (n := 1) rfl) hN2 hk (fun j hj h3 => absurd (ia (2 + j) 0 (by omega) (by omega) h3) (by omega))
  have hN3 := keepO (Ord.of (b := (sh a 3)) (n := 1) rfl) hN3 hk (fun j hj h3 => absurd (ia (3 + j) 0 (by omega) (by omega) h3) (by omega))
  have hN4 := keepO (Ord.of (b := (sh a 4)) (n := 1) rfl) hN4 hk (fun j hj h3 => absurd (ia (4 + j) 0 (by omega) (by omega) h3) (by omega))
  have hN5 := keepO (Ord.of (b := (sh a 5)) (n := 1) rfl) hN5 hk (fun j hj h3 => absurd (ia (5 + j) 0 (by omega) (by omega) h3) (by omega))
  have hN6 := keepO (Ord.of (b := (sh a 6)) (n := 1) rfl) hN6 hk (fun j hj h3 => absurd (ia (6 + j) 0 (by omega) (by omega) h3) (by omega))
  have hN7 := keepO (Ord.of (b := (sh a 7)) (n := 1) rfl) hN7 hk (fun j hj h3 => absurd (ia (7 + j) 0 (by omega) (by omega) h3) (by omega))
  have hOb : va_P G vwCl ([(a 0, .inr (7, [.ref ((sh a 1) 0), .ref ((sh a 2) 0), .ref ((sh a 3) 0), .int (zI 0), .ref ((sh a 4) 0), .ref ((sh a 5) 0), .ref ((sh a 6) 0), .ref ((sh a 7) 0), .int (zI 0), .null, .int (zI 0), .null]))]) H := hP1
  refine lv_aload_n hx hb dX7_init_63 rfl (lv_at hl 0 rfl) ?_
  refine z_bipush (n := 60) hx hb dX7_init_64 (by decide) ?_
  refine z_newa (atype := .char) (ty := .char) (n := 60) (N := 60) hx hb (hts (.arrayClass .char) (by decide +kernel)) rfl hK.1 hS 3 rfl (a0 := (60, .inl (aI (fun _ => 0)))) rfl (by decide) rfl (by decide) (Nat.le_of_ble_eq_true rfl) (Nat.le_of_ble_eq_true rfl) (q := (sh a 8) 0) hz dX7_init_66 (fun H hP1 hz9 hk hS => ?_)
  have hOb := keepO (Ord.of (b := a) (n := 1) rfl) hOb hk (fun _ _ h => h)
  have hN1 := keepO (Ord.of (b := (sh a 1)) (n := 1) rfl) hN1 hk (fun _ _ h => h)
  have hN2 := keepO (Ord.of (b := (sh a 2)) (n := 1) rfl) hN2 hk (fun _ _ h => h)
  have hN3 := keepO (Ord.of (b := (sh a 3)) (n := 1) rfl) hN3 hk (fun _ _ h => h)
  have hN4 := keepO (Ord.of (b := (sh a 4)) (n := 1) rfl) hN4 hk (fun _ _ h => h)
  have hN5 := keepO (Ord.of (b := (sh a 5)) (n := 1) rfl) hN5 hk (fun _ _ h => h)
  have hN6 := keepO (Ord.of (b := (sh a 6)) (n := 1) rfl) hN6 hk (fun _ _ h => h)
  have hN7 := keepO (Ord.of (b := (sh a 7)) (n := 1) rfl) hN7 hk (fun _ _ h => h)
  have hN8 : va_P G vwCl ([((sh a 8) 0, .inl (cs 3, 60, .inl (aI (fun _ => 0))))]) H := hP1
  have hz : H.size = a 9 := hz9.trans (hsq 8).symm
  refine z_putF (G := G) (ci := 7) (v := .ref ((sh a 8) 0)) (ty := tyX7 9) (C := RX7) (T := TX7) (N := 12) hx hb hts hi7 tyX7 tyX7_ok nmX7 hown hK.1 hOb (Ord.D (Ord.of (b := a) (n := 1) rfl) inj1) hS 0 rfl rfl 9 (by decide) (hts (.fieldLink RX7 32 "SpriteLinesModel" "text" "[C") (by decide +kernel)) (fun _ h9 => h9) rfl (hnm.trans rfl) rfl (by decide +kernel) rfl rfl (Nat.le_of_ble_eq_true rfl) ⟨0, by decide, by decide, rfl⟩ dX7_init_68 (fun H locs hP1 hle hk hS => ?_)
  have hz : H.size = a 9 := hle.trans hz
  have hN1 := keepO (Ord.of (b := (sh a 1)) (n := 1) rfl) hN1 hk (fun j hj h3 => absurd (ia (1 + j) 0 (by omega) (by omega) h3) (by omega))
  have hN2 := keepO (Ord.of (b := (sh a 2)) (n := 1) rfl) hN2 hk (fun j hj h3 => absurd (ia (2 + j) 0 (by omega) (by omega) h3) (by omega))
  have hN3 := keepO (Ord.of (b := (sh a 3)) (n := 1) rfl) hN3 hk (fun j hj h3 => absurd (ia (3 + j) 0 (by omega) (by omega) h3) (by omega))
  have hN4 := keepO (Ord.of (b := (sh a 4)) (n := 1) rfl) hN4 hk (fun j hj h3 => absurd (ia (4 + j) 0 (by omega) (by omega) h3) (by omega))
  have hN5 := keepO (Ord.of (b := (sh a 5)) (n := 1) rfl) hN5 hk (fun j hj h3 => absurd (ia (5 + j) 0 (by omega) (by omega) h3) (by omega))
  have hN6 := keepO (Ord.of (b := (sh a 6)) (n := 1) rfl) hN6 hk (fun j hj h3 => absurd (ia (6 + j) 0 (by omega) (by omega) h3) (by omega))
  have hN7 := keepO (Ord.of (b := (sh a 7)) (n := 1) rfl) hN7 hk (fun j hj h3 => absurd (ia (7 + j) 0 (by omega) (by omega) h3) (by omega))
  have hN8 := keepO (Ord.of (b := (sh a 8)) (n := 1) rfl) hN8 hk (fun j hj h3 => absurd (ia (8 + j) 0 (by omega) (by omega) h3) (by omega))
  have hOb : va_P G vwCl ([(a 0, .inr (7, [.ref ((sh a 1) 0), .ref ((sh a 2) 0), .ref ((sh a 3) 0), .int (zI 0), .ref ((sh a 4) 0), .ref ((sh a 5) 0), .ref ((sh a 6) 0), .ref ((sh a 7) 0), .int (zI 0), .ref ((sh a 8) 0), .int (zI 0), .null]))]) H := hP1
  refine lv_aload_n hx hb dX7_init_71 rfl (lv_at hl 0 rfl) ?_
  refine z_bipush (n := 8) hx hb dX7_init_72 (by decide) ?_
  refine z_newa (atype := .int) (ty := .int) (n := 8) (N := 8) hx hb (hts (.arrayClass .int) (by decide +kernel)) rfl hK.1 hS 0 rfl (a0 := (8, .inl (aI (fun _ => 0)))) rfl (by decide) rfl (by decide) (Nat.le_of_ble_eq_true rfl) (Nat.le_of_ble_eq_true rfl) (q := (sh a 9) 0) hz dX7_init_74 (fun H hP1 hz9 hk hS => ?_)
  have hOb := keepO (Ord.of (b := a) (n := 1) rfl) hOb hk (fun _ _ h => h)
  have hN1 := keepO (Ord.of (b := (sh a 1)) (n := 1) rfl) hN1 hk (fun _ _ h => h)
  have hN2 := keepO (Ord.of (b := (sh a 2)) (n := 1) rfl) hN2 hk (fun _ _ h => h)
  have hN3 := keepO (Ord.of (b := (sh a 3)) (n := 1) rfl) hN3 hk (fun _ _ h => h)
  have hN4 := keepO (Ord.of (b := (sh a 4)) (n := 1) rfl) hN4 hk (fun _ _ h => h)
  have hN5 := keepO (Ord.of (b := (sh a 5)) (n := 1) rfl) hN5 hk (fun _ _ h => h)
  have hN6 := keepO (Ord.of (b := (sh a 6)) (n := 1) rfl) hN6 hk (fun _ _ h => h)
  have hN7 := keepO (Ord.of (b := (sh a 7)) (n := 1) rfl) hN7 hk (fun _ _ h => h)
  have hN8 := keepO (Ord.of (b := (sh a 8)) (n := 1) rfl) hN8 hk (fun _ _ h => h)
  have hN9 : va_P G vwCl ([((sh a 9) 0, .inl (cs 0, 8, .inl (aI (fun _ => 0))))]) H := hP1
  have hz : H.size = a 10 := hz9.trans (hsq 9).symm
  refine z_putF (G := G) (ci := 7) (v := .ref ((sh a 9) 0)) (ty := tyX7 11) (C := RX7) (T := TX7) (N := 12) hx hb hts hi7 tyX7 tyX7_ok nmX7 hown hK.1 hOb (Ord.D (Ord.of (b := a) (n := 1) rfl) inj1) hS 0 rfl rfl 11 (by decide) (hts (.fieldLink RX7 36 "SpriteLinesModel" "read" "[I") (by decide +kernel)) (fun _ h9 => h9) rfl (hnm.trans rfl) rfl (by decide +kernel) rfl rfl (Nat.le_of_ble_eq_true rfl) ⟨0, by decide, by decide, rfl⟩ dX7_init_76 (fun H locs hP1 hle hk hS => ?_)
  have hz : H.size = a 10 := hle.trans hz
  have hN1 := keepO (Ord.of (b := (sh a 1)) (n := 1) rfl) hN1 hk (fun j hj h3 => absurd (ia (1 + j) 0 (by omega) (by omega) h3) (by omega))
  have hN2 := keepO (Ord.of (b := (sh a 2)) (n := 1) rfl) hN2 hk (fun j hj h3 => absurd (ia (2 + j) 0 (by omega) (by omega) h3) (by omega))
  have hN3 := keepO (Ord.of (b := (sh a 3)) (n := 1) rfl) hN3 hk (fun j hj h3 => absurd (ia (3 + j) 0 (by omega) (by omega) h3) (by omega))
  have hN4 := keepO (Ord.of (b := (sh a 4)) (n := 1) rfl) hN4 hk (fun j hj h3 => absurd (ia (4 + j) 0 (by omega) (by omega) h3) (by omega))
  have hN5 := keepO (Ord.of (b := (sh a 5)) (n := 1) rfl) hN5 hk (fun j hj h3 => absurd (ia (5 + j) 0 (by omega) (by omega) h3) (by omega))
  have hN6 := keepO (Ord.of (b := (sh a 6)) (n := 1) rfl) hN6 hk (fun j hj h3 => absurd (ia (6 + j) 0 (by omega) (by omega) h3) (by omega))
  have hN7 := keepO (Ord.of (b := (sh a 7)) (n := 1) rfl) hN7 hk (fun j hj h3 => absurd (ia (7 + j) 0 (by omega) (by omega) h3) (by omega))
  have hN8 := keepO (Ord.of (b := (sh a 8)) (n := 1) rfl) hN8 hk (fun j hj h3 => absurd (ia (8 + j) 0 (by omega) (by omega) h3) (by omega))
  have hN9 := keepO (Ord.of (b := (sh a 9)) (n := 1) rfl) hN9 hk (fun j hj h3 => absurd (ia (9 + j) 0 (by omega) (by omega) h3) (by omega))
  have hOb : va_P G vwCl ([(a 0, .inr (7, [.ref ((sh a 1) 0), .ref ((sh a 2) 0), .ref ((sh a 3) 0), .int (zI 0), .ref ((sh a 4) 0), .ref ((sh a 5) 0), .ref ((sh a 6) 0), .ref ((sh a 7) 0), .int (zI 0), .ref ((sh a 8) 0), .int (zI 0), .ref ((sh a 9) 0)]))]) H := hP1
  refine lv_aload_n hx hb dX7_init_79 rfl (lv_at hl 0 rfl) ?_
  refine va_get (D := G) (ci := 7) (v := .ref ((sh a 1) 0)) (C := RX7) (T := TX7) (N := 12) hx hb hts hi7 hown hK.1 hOb 0 rfl rfl 0 (by decide) (hts (.fieldLink RX7 7 "SpriteLinesModel" "row" "[I") (by decide +kernel)) (fun _ h9 => h9) rfl dX7_init_80 ?_
  refine z_iconst (n := 2) hx hb dX7_init_83 ?_
  refine z_iconst (n := 4) hx hb dX7_init_84 ?_
  refine z_iastE hx hb hK.1 hN1 (Ord.D (Ord.of (b := (sh a 1)) (n := 1) rfl) inj1) hS 0 0 (F := (fun _ => 0)) rfl rfl (by omega) (by decide) ⟨1, by decide, by decide, rfl⟩ dX7_init_85 (fun H locs hP1 hle hk hS => ?_)
  have hOb := keepO (Ord.of (b := a) (n := 1) rfl) hOb hk (fun j hj h3 => absurd (ia j 1 (by omega) (by omega) h3) (by omega))
  have hz : H.size = a 10 := hle.trans hz
  have hN2 := keepO (Ord.of (b := (sh a 2)) (n := 1) rfl) hN2 hk (fun j hj h3 => absurd (ia (2 + j) 1 (by omega) (by omega) h3) (by omega))
  have hN3 := keepO (Ord.of (b := (sh a 3)) (n := 1) rfl) hN3 hk (fun j hj h3 => absurd (ia (3 + j) 1 (by omega) (by omega) h3) (by omega))
  have hN4 := keepO (Ord.of (b := (sh a 4)) (n := 1) rfl) hN4 hk (fun j hj h3 => absurd (ia (4 + j) 1 (by omega) (by omega) h3) (by omega))
  have hN5 := keepO (Ord.of (b := (sh a 5)) (n := 1) rfl) hN5 hk (fun j hj h3 => absurd (ia (5 + j) 1 (by omega) (by omega) h3) (by omega))
  have hN6 := keepO (Ord.of (b := (sh a 6)) (n := 1) rfl) hN6 hk (fun j hj h3 => absurd (ia (6 + j) 1 (by omega) (by omega) h3) (by omega))
  have hN7 := keepO (Ord.of (b := (sh a 7)) (n := 1) rfl) hN7 hk (fun j hj h3 => absurd (ia (7 + j) 1 (by omega) (by omega) h3) (by omega))
  have hN8 := keepO (Ord.of (b := (sh a 8)) (n := 1) rfl) hN8 hk (fun j hj h3 => absurd (ia (8 + j) 1 (by omega) (by omega) h3) (by omega))
  have hN9 := keepO (Ord.of (b := (sh a 9)) (n := 1) rfl) hN9 hk (fun j hj h3 => absurd (ia (9 + j) 1 (by omega) (by omega) h3) (by omega))
  have hN1 : va_P G vwCl ([((sh a 1) 0, .inl (cs 0, 361, .inl (aI (updZ (fun _ => 0) 2 4))))]) H := hP1
  refine z_iconst (n := 0) hx hb dX7_init_86 ?_
  refine lv_istore_n (lv' := [(1, .int (zI 0)), (0, .ref (a 0))]) hx hb dX7_init_87 rfl hl (by decide) rfl (fun ls hl => ?_)
  -- loop 88
  refine z_loopH (nL := 3) (fun (i : Int) => [(0, .ref (a 0)), (1, .int (zI i))]) (fun (i : Int) (H : Heap) => (0 ≤ i ∧ i ≤ 4) ∧ va_P G vwCl ([(a 0, .inr (7, [.ref ((sh a 1) 0), .ref ((sh a 2) 0), .ref ((sh a 3) 0), .int (zI 0), .ref ((sh a 4) 0), .ref ((sh a 5) 0), .ref ((sh a 6) 0), .ref ((sh a 7) 0), .int (zI 0), .ref ((sh a 8) 0), .int (zI 0), .ref ((sh a 9) 0)]))]) H ∧ H.size = a 10 ∧ va_P G vwCl ([((sh a 1) 0, .inl (cs 0, 361, .inl (aI (colZ i 1))))]) H ∧ va_P G vwCl ([((sh a 2) 0, .inl (cs 0, 361, .inl (aI (fun _ => 0))))]) H ∧ va_P G vwCl ([((sh a 3) 0, .inl (cs 0, 1805, .inl (aI (fun _ => 0))))]) H ∧ va_P G vwCl ([((sh a 4) 0, .inl (cs 0, 722, .inl (aI (fun _ => 0))))]) H ∧ va_P G vwCl ([((sh a 5) 0, .inl (cs 2, 2, .inl (aI (fun _ => 0))))]) H ∧ va_P G vwCl ([((sh a 6) 0, .inl (cs 2, 24, .inl (aI (fun _ => 0))))]) H ∧ va_P G vwCl ([((sh a 7) 0, .inl (cs 0, 24, .inl (aI (fun _ => 0))))]) H ∧ va_P G vwCl ([((sh a 8) 0, .inl (cs 3, 60, .inl (aI (fun _ => 0))))]) H ∧ va_P G vwCl ([((sh a 9) 0, .inl (cs 0, 8, .inl (aI (fun _ => 0))))]) H) (fun (i : Int) => (4 - i).toNat) 0 ⟨(by omega), hOb, hz, (by rw [← colZ_0]; exact hN1), hN2, hN3, hN4, hN5, hN6, hN7, hN8, hN9⟩ hS (lv_sub hl [1, 0] rfl) (fun i H locs hIH hS ih ls hl => ?_)
  obtain ⟨hI, hOb, hz, hN1, hN2, hN3, hN4, hN5, hN6, hN7, hN8, hN9⟩ := hIH
  have hl : lv_has ls 3 [(0, .ref (a 0)), (1, .int (zI i))] := hl
  have ihO := ih
  refine lv_iload_n hx hb dX7_init_88 rfl (lv_at hl 1 rfl) ?_
  refine z_iconst (n := 4) hx hb dX7_init_89 ?_
  refine z_icmp_ge (tgt := 134) hx hb dX7_init_90 (by decide) (by omega) (by omega) (fun c1 => ?_) (fun c1 => ?_)
  · skip
    rw [show i = 4 by omega] at hN1
    exact v_ret hx hb hr hlk dX7_init_134 hS ⟨⟨colZ 4 1, fun _ => 0, fun _ => 0, fun _ => 0, fun _ => 0, fun _ => 0, fun _ => 0, 0, fun _ _ => false, rr_born, (fun i hi => absurd hi (by show ¬ (i : Int) < 0; omega)), (fun i hi => ⟨rfl, fun h => absurd (show false = true from h) (by decide)⟩), hOb, hN1, hN2, hN3, hN4, hN5, hN6, hN7, hN8, by rw [cB_0]; exact hN9⟩, hz⟩
  · skip
    refine z_iconst (n := 1) hx hb dX7_init_93 ?_
    refine lv_istore_n (lv' := [(2, .int (zI 1)), (0, .ref (a 0)), (1, .int (zI i))]) hx hb dX7_init_94 rfl hl (by decide) rfl (fun ls hl => ?_)
    -- loop 95
    have hI9 := hI
    refine z_loopH (nL := 3) (fun (j : Int) => [(0, .ref (a 0)), (1, .int (zI i)), (2, .int (zI j))]) (fun (j : Int) (H : Heap) => (1 ≤ j ∧ j ≤ 4) ∧ va_P G vwCl ([(a 0, .inr (7, [.ref ((sh a 1) 0), .ref ((sh a 2) 0), .ref ((sh a 3) 0), .int (zI 0), .ref ((sh a 4) 0), .ref ((sh a 5) 0), .ref ((sh a 6) 0), .ref ((sh a 7) 0), .int (zI 0), .ref ((sh a 8) 0), .int (zI 0), .ref ((sh a 9) 0)]))]) H ∧ H.size = a 10 ∧ va_P G vwCl ([((sh a 1) 0, .inl (cs 0, 361, .inl (aI (colZ i j))))]) H ∧ va_P G vwCl ([((sh a 2) 0, .inl (cs 0, 361, .inl (aI (fun _ => 0))))]) H ∧ va_P G vwCl ([((sh a 3) 0, .inl (cs 0, 1805, .inl (aI (fun _ => 0))))]) H ∧ va_P G vwCl ([((sh a 4) 0, .inl (cs 0, 722, .inl (aI (fun _ => 0))))]) H ∧ va_P G vwCl ([((sh a 5) 0, .inl (cs 2, 2, .inl (aI (fun _ => 0))))]) H ∧ va_P G vwCl ([((sh a 6) 0, .inl (cs 2, 24, .inl (aI (fun _ => 0))))]) H ∧ va_P G vwCl ([((sh a 7) 0, .inl (cs 0, 24, .inl (aI (fun _ => 0))))]) H ∧ va_P G vwCl ([((sh a 8) 0, .inl (cs 3, 60, .inl (aI (fun _ => 0))))]) H ∧ va_P G vwCl ([((sh a 9) 0, .inl (cs 0, 8, .inl (aI (fun _ => 0))))]) H) (fun (j : Int) => (4 - j).toNat) 1 ⟨(by omega), hOb, hz, hN1, hN2, hN3, hN4, hN5, hN6, hN7, hN8, hN9⟩ hS (lv_sub hl [1, 2, 0] rfl) (fun j H locs hIH hS ih ls hl => ?_)
    obtain ⟨hI, hOb, hz, hN1, hN2, hN3, hN4, hN5, hN6, hN7, hN8, hN9⟩ := hIH
    have hl : lv_has ls 3 [(0, .ref (a 0)), (1, .int (zI i)), (2, .int (zI j))] := hl
    have hJ := hI
    refine lv_iload_n hx hb dX7_init_95 rfl (lv_at hl 2 rfl) ?_
    refine z_iconst (n := 4) hx hb dX7_init_96 ?_
    refine z_icmp_ge (tgt := 128) hx hb dX7_init_97 (by decide) (by omega) (by omega) (fun c2 => ?_) (fun c2 => ?_)
    · skip
      refine z_iinc (k := 1) (lv' := [(1, .int (zI (i + 1))), (0, .ref (a 0)), (2, .int (zI j))]) hx hb dX7_init_128 hl rfl (by decide) rfl (fun ls hl => ?_)
      refine lv_goto (tgt := 88) hx hb dX7_init_131 (by decide) ?_
      exact ihO (i + 1) H locs ⟨(by omega), hOb, hz, (by rw [show j = 4 by omega] at hN1; rw [colZ_n]; exact hN1), hN2, hN3, hN4, hN5, hN6, hN7, hN8, hN9⟩ hS (by omega) ls (lv_sub hl [1, 0] rfl)
    · skip
      refine lv_aload_n hx hb dX7_init_100 rfl (lv_at hl 0 rfl) ?_
      refine va_get (D := G) (ci := 7) (v := .ref ((sh a 1) 0)) (C := RX7) (T := TX7) (N := 12) hx hb hts hi7 hown hK.1 hOb 0 rfl rfl 0 (by decide) (hts (.fieldLink RX7 7 "SpriteLinesModel" "row" "[I") (by decide +kernel)) (fun _ h9 => h9) rfl dX7_init_101 ?_
      refine z_sipush (n := 197) hx hb dX7_init_104 (by decide) ?_
      refine z_iconst (n := 3) hx hb dX7_init_107 ?_
      refine lv_iload_n hx hb dX7_init_108 rfl (lv_at hl 1 rfl) ?_
      refine z_imul hx hb dX7_init_109 ?_
      refine z_iadd hx hb dX7_init_110 ?_
      refine lv_iload_n hx hb dX7_init_111 rfl (lv_at hl 2 rfl) ?_
      refine z_iadd hx hb dX7_init_112 ?_
      refine z_iconst (n := 1) hx hb dX7_init_113 ?_
      refine z_isub hx hb dX7_init_114 ?_
      refine z_bipush (n := 16) hx hb dX7_init_115 (by decide) ?_
      refine lv_iload_n hx hb dX7_init_117 rfl (lv_at hl 1 rfl) ?_
      refine z_imul hx hb dX7_init_118 ?_
      refine lv_iload_n hx hb dX7_init_119 rfl (lv_at hl 2 rfl) ?_
      refine z_iadd hx hb dX7_init_120 ?_
      refine z_iastE hx hb hK.1 hN1 (Ord.D (Ord.of (b := (sh a 1)) (n := 1) rfl) inj1) hS 0 0 (F := (colZ i j)) rfl rfl (by omega) (by decide) ⟨1, by decide, by decide, rfl⟩ dX7_init_121 (fun H locs hP1 hle hk hS => ?_)
      have hOb := keepO (Ord.of (b := a) (n := 1) rfl) hOb hk (fun j hj h3 => absurd (ia j 1 (by omega) (by omega) h3) (by omega))
      have hz : H.size = a 10 := hle.trans hz
      have hN2 := keepO (Ord.of (b := (sh a 2)) (n := 1) rfl) hN2 hk (fun j hj h3 => absurd (ia (2 + j) 1 (by omega) (by omega) h3) (by omega))
      have hN3 := keepO (Ord.of (b := (sh a 3)) (n := 1) rfl) hN3 hk (fun j hj h3 => absurd (ia (3 + j) 1 (by omega) (by omega) h3) (by omega))
      have hN4 := keepO (Ord.of (b := (sh a 4)) (n := 1) rfl) hN4 hk (fun j hj h3 => absurd (ia (4 + j) 1 (by omega) (by omega) h3) (by omega))
      have hN5 := keepO (Ord.of (b := (sh a 5)) (n := 1) rfl) hN5 hk (fun j hj h3 => absurd (ia (5 + j) 1 (by omega) (by omega) h3) (by omega))
      have hN6 := keepO (Ord.of (b := (sh a 6)) (n := 1) rfl) hN6 hk (fun j hj h3 => absurd (ia (6 + j) 1 (by omega) (by omega) h3) (by omega))
      have hN7 := keepO (Ord.of (b := (sh a 7)) (n := 1) rfl) hN7 hk (fun j hj h3 => absurd (ia (7 + j) 1 (by omega) (by omega) h3) (by omega))
      have hN8 := keepO (Ord.of (b := (sh a 8)) (n := 1) rfl) hN8 hk (fun j hj h3 => absurd (ia (8 + j) 1 (by omega) (by omega) h3) (by omega))
      have hN9 := keepO (Ord.of (b := (sh a 9)) (n := 1) rfl) hN9 hk (fun j hj h3 => absurd (ia (9 + j) 1 (by omega) (by omega) h3) (by omega))
      have hN1 : va_P G vwCl ([((sh a 1) 0, .inl (cs 0, 361, .inl (aI (updZ (colZ i j) (((197 + (3 * i)) + j) - 1) ((16 * i) + j)))))]) H := hP1
      refine z_iinc (k := 2) (lv' := [(2, .int (zI (j + 1))), (0, .ref (a 0)), (1, .int (zI i))]) hx hb dX7_init_122 hl rfl (by decide) rfl (fun ls hl => ?_)
      refine lv_goto (tgt := 95) hx hb dX7_init_125 (by decide) ?_
      exact ih (j + 1) H locs ⟨(by omega), hOb, hz, (by rw [← colZ_s (by omega) (by omega)]; exact hN1), hN2, hN3, hN4, hN5, hN6, hN7, hN8, hN9⟩ hS (by omega) ls (lv_sub hl [1, 2, 0] rfl)
