def updT (T : Nat → SS) (i : Nat) (S : SS) : Nat → SS := fun k => if k = i then S else T k
theorem updT_s {T : Nat → SS} {i : Nat} {S : SS} : updT T i S i = S := if_pos rfl
theorem updT_n {T : Nat → SS} {i k : Nat} {S : SS} (h : k ≠ i) : updT T i S k = T k := if_neg h
def remN (n : Int) : Int := if n < 5 then n + 1 else n
def remO (o n : Int) : Int := if n < 5 then o else (o + 1) % 5
set_option maxHeartbeats 4000000 in
set_option maxRecDepth 100000 in
theorem c_X0_stateAt (l : Launch) (G : va_G) (cs : Nat → ClassId) (a : Nat → Nat) (o n : Int) (k : Int) (ho : 0 ≤ o ∧ o < 5) (hk0 : 0 ≤ k ∧ k ≤ 5) : MRO l yX0_stateAt wsX0_stateAt { frames := 1, cells := 0, slots := 0, locals := 40 } G cs [.ref ((sh a 19) 0), .int (zI k)] (fun H => va_P G vwCl (hiW cs (sh a 19) o n) H) (.ref ((sh a (21 + 8 * ((o + k) % 5).toNat)) 0)) := by
  refine m_intro (Pw := (fun H => va_P G vwCl (hiW cs (sh a 19) o n) H)) (cc := cX0_stateAt) (maxL := 2) (ret := some (.object "SpriteLines$State")) RX0 (by decide) rfl rfl (Nat.le_of_ble_eq_true rfl) ?_
  intro pP eE sS mM below meth cC hx hb hr hts hown hml hlk hnm hPre hK ls hl
  have hl : lv_has ls 2 [(0, .ref ((sh a 19) 0)), (1, .int (zI k))] := hl
  have hHi := hPre
  have hi0 : ∀ w ∈ u_ws RX0 TX0 3, w ∈ wsX0_stateAt := by decide +kernel
  refine lv_aload_n hx hb dX0_stateAt_0 rfl (lv_at hl 0 rfl) ?_
  refine va_get (D := G) (ci := 0) (v := .ref ((sh a 19) 1)) (C := RX0) (T := TX0) (N := 3) hx hb hts hi0 hown hK.1 hHi 0 rfl rfl 0 (by decide) (hts (.fieldLink RX0 11 "SpriteLines$History" "states" "[LSpriteLines$State;") (by decide +kernel)) (fun _ h9 => h9) rfl dX0_stateAt_1 ?_
  refine lv_aload_n hx hb dX0_stateAt_4 rfl (lv_at hl 0 rfl) ?_
  refine va_get (D := G) (ci := 0) (v := .int (zI o)) (C := RX0) (T := TX0) (N := 3) hx hb hts hi0 hown hK.1 hHi 0 rfl rfl 1 (by decide) (hts (.fieldLink RX0 30 "SpriteLines$History" "oldest" "I") (by decide +kernel)) (fun _ h9 => h9) rfl dX0_stateAt_5 ?_
  refine lv_iload_n hx hb dX0_stateAt_8 rfl (lv_at hl 1 rfl) ?_
  refine z_iadd hx hb dX0_stateAt_9 ?_
  refine z_iconst (n := 5) hx hb dX0_stateAt_10 ?_
  refine z_ro (zrSJ (As := [.int (zI (o + k)), .int (zI 5)]) (rest := [.ref ((sh a 19) 1)]) (Pw := fun _ => True) ⟨hx, hb, hml, hown, hts⟩ (c_J9_floorMod_7cf53 l G cs (o + k) (by omega)) gX0_stateAt_J9_floorMod_7cf53 rfl qJ9_floorMod_7cf53 rfl rfl ⟨Nat.le_of_ble_eq_true rfl, Nat.le_of_ble_eq_true rfl⟩ trivial hK hl.1 rfl (Nat.le_of_ble_eq_true rfl) dX0_stateAt_11 ⟨Nat.le_of_ble_eq_true rfl, Nat.le_of_ble_eq_true rfl⟩) ?_
  refine va_aldq hx hb hK.1 hHi 1 4 (f := hRow (sh a 19)) rfl rfl (zI_in (by omega) (by decide)) dX0_stateAt_14 ?_
  rw [zI_clamp (by omega)]
  exact ro_aret hx hb hr (Or.inl ⟨_, rfl⟩) hlk dX0_stateAt_15 (congrArg Value.ref (congrArg a (by omega)))

set_option maxHeartbeats 4000000 in
set_option maxRecDepth 100000 in
theorem c_X0_remember (l : Launch) (G : va_G) (cs : Nat → ClassId) (a : Nat → Nat) (S : SS) (o n : Int) (T : Nat → SS) (ia : Inj a 62) (ho : 0 ≤ o ∧ o < 5) (hn : 0 ≤ n ∧ n ≤ 5) : MV l yX0_remember wsX0_remember { frames := 3, cells := 0, slots := 0, locals := 102 } G cs [.ref ((sh a 19) 0), .ref ((sh a 1) 0)] (fun H => va_P G vwCl (stW cs (sh a 1) S) H ∧ va_P G vwCl (hiW cs (sh a 19) o n) H ∧ ∀ i, i < 5 → va_P G vwCl (stW cs (sh a (21 + 8 * i)) (T i)) H) (fun H => va_P G vwCl (hiW cs (sh a 19) (remO o n) (remN n)) H ∧ (∀ i, i < 5 → va_P G vwCl (stW cs (sh a (21 + 8 * i)) ((updT T ((o + n) % 5).toNat S) i)) H)) (AX a 19 61) 0 0 := by
  refine m_intro (Pw := (fun H => va_P G vwCl (stW cs (sh a 1) S) H ∧ va_P G vwCl (hiW cs (sh a 19) o n) H ∧ ∀ i, i < 5 → va_P G vwCl (stW cs (sh a (21 + 8 * i)) (T i)) H)) (cc := cX0_remember) (maxL := 2) (ret := none) RX0 (by decide) rfl rfl (Nat.le_of_ble_eq_true rfl) ?_
  intro pP eE sS mM below meth cC hx hb hr hts hown hml hlk hnm hPre hK ls hl
  have hl : lv_has ls 2 [(0, .ref ((sh a 19) 0)), (1, .ref ((sh a 1) 0))] := hl
  obtain ⟨hPs, hHi, hRg⟩ := hPre
  have hS : va_S (AX a 19 61) sS.heap sS.heap [] := va_S.rf
  have hi0 : ∀ w ∈ u_ws RX0 TX0 3, w ∈ wsX0_remember := by decide +kernel
  refine lv_aload_n hx hb dX0_remember_0 rfl (lv_at hl 0 rfl) ?_
  refine lv_aload_n hx hb dX0_remember_1 rfl (lv_at hl 0 rfl) ?_
  refine va_get (D := G) (ci := 0) (v := .int (zI n)) (C := RX0) (T := TX0) (N := 3) hx hb hts hi0 hown hK.1 hHi 0 rfl rfl 2 (by decide) (hts (.fieldLink RX0 18 "SpriteLines$History" "size" "I") (by decide +kernel)) (fun _ h9 => h9) rfl dX0_remember_2 ?_
  refine z_ro (zrV (As := [.int (zI n)]) (rest := []) ⟨hx, hb, hml, hown, hts⟩ (c_X0_stateAt l G cs a o n n (by omega) (by omega)) gX0_remember_X0_stateAt rfl qX0_stateAt rfl rfl ⟨Nat.le_of_ble_eq_true rfl, Nat.le_of_ble_eq_true rfl⟩ hHi hK (va_recv hK.1 hHi (ci := 0) (q0 := 0) rfl rfl) hl.1 rfl (Nat.le_of_ble_eq_true rfl) dX0_remember_5 ⟨Nat.le_of_ble_eq_true rfl, Nat.le_of_ble_eq_true rfl⟩) ?_
  refine z_top (v' := .ref ((sh a (21 + 8 * ((o + n) % 5).toNat)) 0)) rfl ?_
  refine lv_aload_n hx hb dX0_remember_8 rfl (lv_at hl 1 rfl) ?_
  have hT := hRg (((o + n) % 5).toNat) (by omega)
  refine z_v (zrV (As := [.ref ((sh a 1) 0)]) (rest := []) (Pw := fun H => va_P G vwCl (stW cs (sh a (21 + 8 * ((o + n) % 5).toNat)) (T ((o + n) % 5).toNat)) H ∧ va_P G vwCl (stW cs (sh a 1) S) H) ⟨hx, hb, hml, hown, hts⟩ (c_X4_copyFrom l G cs (sh a (21 + 8 * ((o + n) % 5).toNat)) (T ((o + n) % 5).toNat) (sh a 1) S (inj_sh (w := 8) ia (by omega)) (fun i j hi hj h3 => absurd (ia (21 + 8 * ((o + n) % 5).toNat + i) (1 + j) (by omega) (by omega) h3) (by omega))) gX0_remember_X4_copyFrom rfl qX4_copyFrom rfl rfl ⟨Nat.le_of_ble_eq_true rfl, Nat.le_of_ble_eq_true rfl⟩ ⟨hT, hPs⟩ hK (va_recv hK.1 hT (ci := 4) (q0 := 0) rfl rfl) hl.1 rfl (Nat.le_of_ble_eq_true rfl) dX0_remember_9 ⟨Nat.le_of_ble_eq_true rfl, Nat.le_of_ble_eq_true rfl⟩) hS (fun q h => ax_mono (ax_sh h) (by omega) (by omega)) (fun q h => ax_mono (ax_sh h) (by omega) (by omega)) (fun H locs hpost hle hk hS => ?_)
  have hT' := hpost
  have hPs := keepO (ordSt cs (sh a 1) S) hPs hk (fun j hj ⟨i, h1, h2, h3⟩ => absurd (ia (1 + j) ((21 + 8 * ((o + n) % 5).toNat) + i) (by omega) (by omega) h3) (by omega))
  have hHi := keepO (ordHi cs (sh a 19) o n) hHi hk (fun j hj ⟨i, h1, h2, h3⟩ => absurd (ia (19 + j) ((21 + 8 * ((o + n) % 5).toNat) + i) (by omega) (by omega) h3) (by omega))
  have hRg : ∀ i, i < 5 → va_P G vwCl (stW cs (sh a (21 + 8 * i)) ((updT T (((o + n) % 5).toNat) S) i)) H := fun i hi => by
      by_cases e : i = ((o + n) % 5).toNat
      · subst e; rw [updT_s]; exact hT'
      · rw [updT_n e]; exact keepO (ordSt _ _ _) (hRg i hi) hk (fun j hj ⟨i', h1, h2, h3⟩ => absurd (ia (21 + 8 * i + j) (21 + 8 * ((o + n) % 5).toNat + i') (by omega) (by omega) h3) (by omega))
  have hT : va_P G vwCl (stW cs (sh a (21 + 8 * ((o + n) % 5).toNat)) S) H := hT'
  
  refine lv_aload_n hx hb dX0_remember_12 rfl (lv_at hl 0 rfl) ?_
  refine va_get (D := G) (ci := 0) (v := .int (zI n)) (C := RX0) (T := TX0) (N := 3) hx hb hts hi0 hown hK.1 hHi 0 rfl rfl 2 (by decide) (hts (.fieldLink RX0 18 "SpriteLines$History" "size" "I") (by decide +kernel)) (fun _ h9 => h9) rfl dX0_remember_13 ?_
  refine z_iconst (n := 5) hx hb dX0_remember_16 ?_
  refine z_icmp_ge (tgt := 33) hx hb dX0_remember_17 (by decide) (by omega) (by omega) (fun c1 => ?_) (fun c1 => ?_)
  · skip
    refine lv_aload_n hx hb dX0_remember_33 rfl (lv_at hl 0 rfl) ?_
    refine lv_aload_n hx hb dX0_remember_34 rfl (lv_at hl 0 rfl) ?_
    refine va_get (D := G) (ci := 0) (v := .int (zI o)) (C := RX0) (T := TX0) (N := 3) hx hb hts hi0 hown hK.1 hHi 0 rfl rfl 1 (by decide) (hts (.fieldLink RX0 30 "SpriteLines$History" "oldest" "I") (by decide +kernel)) (fun _ h9 => h9) rfl dX0_remember_35 ?_
    refine z_iconst (n := 1) hx hb dX0_remember_38 ?_
    refine z_iadd hx hb dX0_remember_39 ?_
    refine z_iconst (n := 5) hx hb dX0_remember_40 ?_
    refine z_irem hx hb dX0_remember_41 (by omega) (by omega) ?_
    refine z_put (G := G) (ci := 0) (v := .int (zI ((o + 1) % 5))) (ty := .int) (C := RX0) (T := TX0) (N := 3) hx hb hts hi0 tyX0 tyX0_ok nmX0 hown hK.1 hHi (Ord.D (ordHi cs (sh a 19) o n) (inj_sh (w := 2) ia (by decide))) hS 0 rfl rfl 1 (by decide) (hts (.fieldLink RX0 30 "SpriteLines$History" "oldest" "I") (by decide +kernel)) (fun _ h9 => h9) rfl (by decide +kernel) rfl rfl (Nat.le_of_ble_eq_true rfl) ⟨19, by decide, by decide, rfl⟩ dX0_remember_42 (fun H locs hP1 hle hk hS => ?_)
    have hPs := keepO (ordSt cs (sh a 1) S) hPs hk (fun j hj h3 => absurd (ia (1 + j) 19 (by omega) (by omega) h3) (by omega))
    have hRg : ∀ i, i < 5 → va_P G vwCl (stW cs (sh a (21 + 8 * i)) ((updT T (((o + n) % 5).toNat) S) i)) H := fun i hi => keepO (ordSt _ _ _) (hRg i hi) hk (fun j hj h3 => absurd (ia (21 + 8 * i + j) 19 (by omega) (by omega) h3) (by omega))
    have hHi : va_P G vwCl (hiW cs (sh a 19) ((o + 1) % 5) n) H := hP1
    exact v_ret hx hb hr hlk dX0_remember_45 hS ⟨by unfold remO remN; rw [if_neg (by omega), if_neg (by omega)]; exact hHi, hRg⟩
  · skip
    refine lv_aload_n hx hb dX0_remember_20 rfl (lv_at hl 0 rfl) ?_
    refine lv_dup hx hb dX0_remember_21 rfl ?_
    refine va_get (D := G) (ci := 0) (v := .int (zI n)) (C := RX0) (T := TX0) (N := 3) hx hb hts hi0 hown hK.1 hHi 0 rfl rfl 2 (by decide) (hts (.fieldLink RX0 18 "SpriteLines$History" "size" "I") (by decide +kernel)) (fun _ h9 => h9) rfl dX0_remember_22 ?_
    refine z_iconst (n := 1) hx hb dX0_remember_25 ?_
    refine z_iadd hx hb dX0_remember_26 ?_
    refine z_put (G := G) (ci := 0) (v := .int (zI (n + 1))) (ty := .int) (C := RX0) (T := TX0) (N := 3) hx hb hts hi0 tyX0 tyX0_ok nmX0 hown hK.1 hHi (Ord.D (ordHi cs (sh a 19) o n) (inj_sh (w := 2) ia (by decide))) hS 0 rfl rfl 2 (by decide) (hts (.fieldLink RX0 18 "SpriteLines$History" "size" "I") (by decide +kernel)) (fun _ h9 => h9) rfl (by decide +kernel) rfl rfl (Nat.le_of_ble_eq_true rfl) ⟨19, by decide, by decide, rfl⟩ dX0_remember_27 (fun H locs hP1 hle hk hS => ?_)
    have hPs := keepO (ordSt cs (sh a 1) S) hPs hk (fun j hj h3 => absurd (ia (1 + j) 19 (by omega) (by omega) h3) (by omega))
    have hRg : ∀ i, i < 5 → va_P G vwCl (stW cs (sh a (21 + 8 * i)) ((updT T (((o + n) % 5).toNat) S) i)) H := fun i hi => keepO (ordSt _ _ _) (hRg i hi) hk (fun j hj h3 => absurd (ia (21 + 8 * i + j) 19 (by omega) (by omega) h3) (by omega))
    have hHi : va_P G vwCl (hiW cs (sh a 19) o (n + 1)) H := hP1
    refine lv_goto (tgt := 45) hx hb dX0_remember_30 (by decide) ?_
    exact v_ret hx hb hr hlk dX0_remember_45 hS ⟨by unfold remO remN; rw [if_pos (by omega), if_pos (by omega)]; exact hHi, hRg⟩

set_option maxHeartbeats 4000000 in
set_option maxRecDepth 100000 in
theorem c_X0_takeBack (l : Launch) (G : va_G) (cs : Nat → ClassId) (a : Nat → Nat) (S : SS) (o n : Int) (T : Nat → SS) (ia : Inj a 62) (ho : 0 ≤ o ∧ o < 5) (hn : 1 ≤ n ∧ n ≤ 5) : MV l yX0_takeBack wsX0_takeBack { frames := 3, cells := 0, slots := 0, locals := 102 } G cs [.ref ((sh a 19) 0), .ref ((sh a 1) 0)] (fun H => va_P G vwCl (stW cs (sh a 1) S) H ∧ va_P G vwCl (hiW cs (sh a 19) o n) H ∧ ∀ i, i < 5 → va_P G vwCl (stW cs (sh a (21 + 8 * i)) (T i)) H) (fun H => va_P G vwCl (hiW cs (sh a 19) o (n - 1)) H ∧ va_P G vwCl (stW cs (sh a 1) (T ((o + (n - 1)) % 5).toNat)) H ∧ (∀ i, i < 5 → va_P G vwCl (stW cs (sh a (21 + 8 * i)) (T i)) H)) (fun q => AX a 1 9 q ∨ AX a 19 21 q) 0 0 := by
  refine m_intro (Pw := (fun H => va_P G vwCl (stW cs (sh a 1) S) H ∧ va_P G vwCl (hiW cs (sh a 19) o n) H ∧ ∀ i, i < 5 → va_P G vwCl (stW cs (sh a (21 + 8 * i)) (T i)) H)) (cc := cX0_takeBack) (maxL := 2) (ret := none) RX0 (by decide) rfl rfl (Nat.le_of_ble_eq_true rfl) ?_
  intro pP eE sS mM below meth cC hx hb hr hts hown hml hlk hnm hPre hK ls hl
  have hl : lv_has ls 2 [(0, .ref ((sh a 19) 0)), (1, .ref ((sh a 1) 0))] := hl
  obtain ⟨hPs, hHi, hRg⟩ := hPre
  have hS : va_S (fun q => AX a 1 9 q ∨ AX a 19 21 q) sS.heap sS.heap [] := va_S.rf
  have hi0 : ∀ w ∈ u_ws RX0 TX0 3, w ∈ wsX0_takeBack := by decide +kernel
  refine lv_aload_n hx hb dX0_takeBack_0 rfl (lv_at hl 0 rfl) ?_
  refine va_get (D := G) (ci := 0) (v := .int (zI n)) (C := RX0) (T := TX0) (N := 3) hx hb hts hi0 hown hK.1 hHi 0 rfl rfl 2 (by decide) (hts (.fieldLink RX0 18 "SpriteLines$History" "size" "I") (by decide +kernel)) (fun _ h9 => h9) rfl dX0_takeBack_1 ?_
  refine z_if_le (tgt := 29) hx hb dX0_takeBack_4 (by decide) (by omega) (fun c1 => ?_) (fun c1 => ?_)
  · skip
    exfalso; omega
  · skip
    refine lv_aload_n hx hb dX0_takeBack_7 rfl (lv_at hl 0 rfl) ?_
    refine lv_dup hx hb dX0_takeBack_8 rfl ?_
    refine va_get (D := G) (ci := 0) (v := .int (zI n)) (C := RX0) (T := TX0) (N := 3) hx hb hts hi0 hown hK.1 hHi 0 rfl rfl 2 (by decide) (hts (.fieldLink RX0 18 "SpriteLines$History" "size" "I") (by decide +kernel)) (fun _ h9 => h9) rfl dX0_takeBack_9 ?_
    refine z_iconst (n := 1) hx hb dX0_takeBack_12 ?_
    refine z_isub hx hb dX0_takeBack_13 ?_
    refine z_put (G := G) (ci := 0) (v := .int (zI (n - 1))) (ty := .int) (C := RX0) (T := TX0) (N := 3) hx hb hts hi0 tyX0 tyX0_ok nmX0 hown hK.1 hHi (Ord.D (ordHi cs (sh a 19) o n) (inj_sh (w := 2) ia (by decide))) hS 0 rfl rfl 2 (by decide) (hts (.fieldLink RX0 18 "SpriteLines$History" "size" "I") (by decide +kernel)) (fun _ h9 => h9) rfl (by decide +kernel) rfl rfl (Nat.le_of_ble_eq_true rfl) (Or.inr (⟨19, by decide, by decide, rfl⟩)) dX0_takeBack_14 (fun H locs hP1 hle hk hS => ?_)
    have hPs := keepO (ordSt cs (sh a 1) S) hPs hk (fun j hj h3 => absurd (ia (1 + j) 19 (by omega) (by omega) h3) (by omega))
    have hRg : ∀ i, i < 5 → va_P G vwCl (stW cs (sh a (21 + 8 * i)) (T i)) H := fun i hi => keepO (ordSt _ _ _) (hRg i hi) hk (fun j hj h3 => absurd (ia (21 + 8 * i + j) 19 (by omega) (by omega) h3) (by omega))
    have hHi : va_P G vwCl (hiW cs (sh a 19) o (n - 1)) H := hP1
    refine lv_aload_n hx hb dX0_takeBack_17 rfl (lv_at hl 1 rfl) ?_
    refine lv_aload_n hx hb dX0_takeBack_18 rfl (lv_at hl 0 rfl) ?_
    refine lv_aload_n hx hb dX0_takeBack_19 rfl (lv_at hl 0 rfl) ?_
    refine va_get (D := G) (ci := 0) (v := .int (zI (n - 1))) (C := RX0) (T := TX0) (N := 3) hx hb hts hi0 hown hK.1 hHi 0 rfl rfl 2 (by decide) (hts (.fieldLink RX0 18 "SpriteLines$History" "size" "I") (by decide +kernel)) (fun _ h9 => h9) rfl dX0_takeBack_20 ?_
    refine z_ro (zrV (As := [.int (zI (n - 1))]) (rest := [.ref ((sh a 1) 0)]) ⟨hx, hb, hml, hown, hts⟩ (c_X0_stateAt l G cs a o (n - 1) (n - 1) (by omega) (by omega)) gX0_takeBack_X0_stateAt rfl qX0_stateAt rfl rfl ⟨Nat.le_of_ble_eq_true rfl, Nat.le_of_ble_eq_true rfl⟩ hHi hK (va_recv hK.1 hHi (ci := 0) (q0 := 0) rfl rfl) hl.1 rfl (Nat.le_of_ble_eq_true rfl) dX0_takeBack_23 ⟨Nat.le_of_ble_eq_true rfl, Nat.le_of_ble_eq_true rfl⟩) ?_
    refine z_top (v' := .ref ((sh a (21 + 8 * ((o + (n - 1)) % 5).toNat)) 0)) rfl ?_
    have hT := hRg (((o + (n - 1)) % 5).toNat) (by omega)
    refine z_v (zrV (As := [.ref ((sh a (21 + 8 * ((o + (n - 1)) % 5).toNat)) 0)]) (rest := []) (Pw := fun H => va_P G vwCl (stW cs (sh a 1) S) H ∧ va_P G vwCl (stW cs (sh a (21 + 8 * ((o + (n - 1)) % 5).toNat)) (T ((o + (n - 1)) % 5).toNat)) H) ⟨hx, hb, hml, hown, hts⟩ (c_X4_copyFrom l G cs (sh a 1) S (sh a (21 + 8 * ((o + (n - 1)) % 5).toNat)) (T ((o + (n - 1)) % 5).toNat) (inj_sh (w := 8) ia (by omega)) (fun i j hi hj h3 => absurd (ia (1 + i) (21 + 8 * ((o + (n - 1)) % 5).toNat + j) (by omega) (by omega) h3) (by omega))) gX0_takeBack_X4_copyFrom rfl qX4_copyFrom rfl rfl ⟨Nat.le_of_ble_eq_true rfl, Nat.le_of_ble_eq_true rfl⟩ ⟨hPs, hT⟩ hK (va_recv hK.1 hPs (ci := 4) (q0 := 0) rfl rfl) hl.1 rfl (Nat.le_of_ble_eq_true rfl) dX0_takeBack_26 ⟨Nat.le_of_ble_eq_true rfl, Nat.le_of_ble_eq_true rfl⟩) hS (fun q h => (Or.inl (ax_mono (ax_sh h) (by omega) (by omega)))) (fun q h => (Or.inl (ax_mono (ax_sh h) (by omega) (by omega)))) (fun H locs hpost hle hk hS => ?_)
    have hPs' := hpost
    have hHi := keepO (ordHi cs (sh a 19) o (n - 1)) hHi hk (fun j hj ⟨i, h1, h2, h3⟩ => absurd (ia (19 + j) (1 + i) (by omega) (by omega) h3) (by omega))
    have hRg : ∀ i, i < 5 → va_P G vwCl (stW cs (sh a (21 + 8 * i)) (T i)) H := fun i hi => keepO (ordSt _ _ _) (hRg i hi) hk (fun j hj ⟨i', h1, h2, h3⟩ => absurd (ia (21 + 8 * i + j) (1 + i') (by omega) (by omega) h3) (by omega))
    have hT := keepO (ordSt cs (sh a (21 + 8 * ((o + (n - 1)) % 5).toNat)) (T ((o + (n - 1)) % 5).toNat)) hT hk (fun j hj ⟨i, h1, h2, h3⟩ => absurd (ia ((21 + 8 * ((o + (n - 1)) % 5).toNat) + j) (1 + i) (by omega) (by omega) h3) (by omega))
    have hPs : va_P G vwCl (stW cs (sh a 1) (T ((o + (n - 1)) % 5).toNat)) H := hPs'
    exact v_ret hx hb hr hlk dX0_takeBack_29 hS ⟨hHi, hPs, hRg⟩
