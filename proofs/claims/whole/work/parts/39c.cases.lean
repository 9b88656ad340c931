/-- what the law's frame gives -/
def LC (p : Program) (s : State) (mM : MethodId) (c : Code) (b L : Nat) (xs : Nat → Int32) : Prop := p.tables.exec = Jvm.exec ∧ c.code = code ∧ c.maxLocals = 8 ∧ s.vm.findClass RL = some mM.cls ∧ (∀ w ∈ wsL_law, w.before #[Value.ref b] s = true) ∧ va_X b L xs s s.heap ∧ b < s.heap.size ∧ L ≤ 2560
/-- the law's locals between the calls -/
abbrev lvL (b : Nat) (a m : Nat → Nat) (i : Int) : List (Nat × Value) := [(0, .ref b), (1, .ref (a 0)), (2, .ref (m 0)), (3, .int (zI i))]
/-- how the law goes on behind a case -/
def KT (p : Program) (l : Launch) (e : Env) (s : State) (mM : MethodId) (below : List Frame) (meth : Method) (c : Code) (G : va_G) (cs : Nat → ClassId) (a m : Nat → Nat) (b : Nat) (i : Int) (cells slots : Nat) (Q : State → Prop) : Prop :=
  ∀ (A2 : AS) (w2 : Nat → Nat) (H2 : Heap) (locs2 : List Loc), LI G cs a m s.heap.size A2 w2 H2 → va_S (fun q => s.heap.size ≤ q) s.heap H2 locs2 → ∀ ls2 : Array Slot, lv_has ls2 8 (lvL b a m i) → W p l e room_1 s mM #[Value.ref b] below meth c H2 locs2 cells slots Q (F0 mM 1082 ls2 [])
theorem hMIo {G : va_G} {cs : Nat → ClassId} {m : Nat → Nat} {S : SS} {n : Int} {L9 : Nat → SS} {tl : Int} {X : Int → Int} {k : Nat → Bool} {V : Nat → SS} {H : Heap} (h : MI G cs m (S, (n, L9), (tl, X), (k, V)) H) : ∃ rn, va_P G vwCl (moW cs m n tl rn) H := h.mo
section LW
variable {p : Program} {l : Launch} {e : Env} {s : State} {mM : MethodId} {below : List Frame} {meth : Method} {c : Code} {H : Heap} {locs : List Loc} {cells slots : Nat} {Q : State → Prop} {ls : Array Slot} {G : va_G} {cs : Nat → ClassId} {a m w : Nat → Nat} {A : AS} {b L : Nat} {xs : Nat → Int32} {i : Int}
set_option maxHeartbeats 4000000 in
set_option maxRecDepth 100000 in
theorem law_c0 (hC : LC p s mM c b L xs) (hK : kK G cs s) (hF : LF a m s.heap.size) (hLI : LI G cs a m s.heap.size A w H) (hS : va_S (fun q => s.heap.size ≤ q) s.heap H locs) (hl : lv_has ls 8 (lvL b a m i)) (hi : 0 ≤ i ∧ i + 5 ≤ L) (hc : cells + 8 ≤ 600000 ∧ slots + 260 ≤ 7302250) (K : KT p l e s mM below meth c G cs a m b i (cells + 8) (slots + 260) Q) : W p l e room_1 s mM #[Value.ref b] below meth c H locs cells slots Q (F0 mM 160 ls []) := by
  obtain ⟨hx, hb, hml, hown, hts, hX, hbl, hL⟩ := hC
  obtain ⟨S, ⟨n, L9⟩, ⟨tl, X⟩, ⟨k, V⟩⟩ := A
  obtain ⟨hA, hXI, hMI, hsd, hW⟩ := hLI
  have hsd : SnD a w k := hsd
  have hW : ∀ s9 j9, s9 < 2 → j9 < 8 → k s9 = true → s.heap.size ≤ w (8 * s9 + j9) ∧ ∀ i9, i9 < 10 → w (8 * s9 + j9) ≠ m i9 := hW
  have hbA : ¬ (fun q : Nat => s.heap.size ≤ q) b := Nat.not_le.mpr hbl
  have hl : lv_has ls 8 [(0, .ref b), (1, .ref (a 0)), (2, .ref (m 0)), (3, .int (zI i))] := hl
  refine lv_aload_n hx hb dL_law_160 rfl (lv_at hl 1 rfl) ?_
  refine z_w (zrV (As := []) (rest := []) ⟨hx, hb, hml, hown, hts⟩ (c_X6_addPart l G cs a w S n L9 tl X k V  hF.1 hsd hA ) gL_law_X6_addPart rfl qX6_addPart rfl rfl ⟨Nat.le_of_ble_eq_true rfl, Nat.le_of_ble_eq_true rfl⟩ hXI hK (va_recv hK.1 hXI.xo (ci := 6) (q0 := 0) rfl rfl) hl.1 rfl (Nat.le_of_ble_eq_true rfl) dL_law_161 (show cells + 0 ≤ 600000 ∧ slots + 0 ≤ 7302250 by omega)) hS (lf_a hF) (lf_a hF) (fun v H1 locs1 hpost hle hk hS1 => ?_)
  obtain ⟨rfl, hXI1⟩ := hpost
  have hMI1 := li_m hF hMI hk
  have hS := hS1
  clear hS1
  refine lv_aload_n hx hb dL_law_164 rfl (lv_at hl 2 rfl) ?_
  obtain ⟨rn9, hMo9⟩ := hMIo hMI1
  refine z_w (zrV (As := []) (rest := [.int (zI ((addPartF (S, (n, L9), (tl, X), (k, V))).1))]) ⟨hx, hb, hml, hown, hts⟩ (c_X7_addPart l G cs m S n L9 tl X k V  hF.2.1 hA ) gL_law_X7_addPart rfl qX7_addPart rfl rfl ⟨Nat.le_of_ble_eq_true rfl, Nat.le_of_ble_eq_true rfl⟩ hMI1 hK (va_recv hK.1 hMo9 (ci := 7) (q0 := 0) rfl rfl) hl.1 rfl (Nat.le_of_ble_eq_true rfl) dL_law_165 (show cells + 0 + 0 ≤ 600000 ∧ slots + 0 + 0 ≤ 7302250 by omega)) hS (lf_m hF) (lf_m hF) (fun v H2 locs2 hpost hle hk hS2 => ?_)
  obtain ⟨rfl, hMI2⟩ := hpost
  have hS := hS2
  clear hS2
  have hkp := congrArg Prod.fst (kp_addPart (A := (S, (n, L9), (tl, X), (k, V))))
  have hW2 : ∀ s9 j9, s9 < 2 → j9 < 8 → (addPartF (S, (n, L9), (tl, X), (k, V))).2.2.2.2.1 s9 = true → s.heap.size ≤ w (8 * s9 + j9) ∧ ∀ i9, i9 < 10 → w (8 * s9 + j9) ≠ m i9 := by rw [hkp]; exact hW
  have hsd2 : SnD a w (addPartF (S, (n, L9), (tl, X), (k, V))).2.2.2.2.1 := by rw [hkp]; exact hsd
  have hXI2 := li_x hF hXI1 hW2 hk
  refine lv_icmp_eq (tgt := 1082) hx hb dL_law_168 (by decide) (fun _ => ?_) (fun h9 => absurd rfl h9)
  refine W.widen (k := cells + 8) (n := slots + 260) (by omega) (by omega) ?_
  exact K (addPartF (S, (n, L9), (tl, X), (k, V))).2 w _ _ ⟨awf_addPart hA, hXI2, hMI2, hsd2, hW2⟩ hS _ hl

set_option maxHeartbeats 4000000 in
set_option maxRecDepth 100000 in
theorem law_c1 (hC : LC p s mM c b L xs) (hK : kK G cs s) (hF : LF a m s.heap.size) (hLI : LI G cs a m s.heap.size A w H) (hS : va_S (fun q => s.heap.size ≤ q) s.heap H locs) (hl : lv_has ls 8 (lvL b a m i)) (hi : 0 ≤ i ∧ i + 5 ≤ L) (hc : cells + 8 ≤ 600000 ∧ slots + 260 ≤ 7302250) (K : KT p l e s mM below meth c G cs a m b i (cells + 8) (slots + 260) Q) : W p l e room_1 s mM #[Value.ref b] below meth c H locs cells slots Q (F0 mM 173 ls []) := by
  obtain ⟨hx, hb, hml, hown, hts, hX, hbl, hL⟩ := hC
  obtain ⟨S, ⟨n, L9⟩, ⟨tl, X⟩, ⟨k, V⟩⟩ := A
  obtain ⟨hA, hXI, hMI, hsd, hW⟩ := hLI
  have hsd : SnD a w k := hsd
  have hW : ∀ s9 j9, s9 < 2 → j9 < 8 → k s9 = true → s.heap.size ≤ w (8 * s9 + j9) ∧ ∀ i9, i9 < 10 → w (8 * s9 + j9) ≠ m i9 := hW
  have hbA : ¬ (fun q : Nat => s.heap.size ≤ q) b := Nat.not_le.mpr hbl
  have hl : lv_has ls 8 [(0, .ref b), (1, .ref (a 0)), (2, .ref (m 0)), (3, .int (zI i))] := hl
  refine lv_aload_n hx hb dL_law_173 rfl (lv_at hl 1 rfl) ?_
  refine lv_aload_n hx hb dL_law_174 rfl (lv_at hl 0 rfl) ?_
  refine lv_iload_n hx hb dL_law_175 rfl (lv_at hl 3 rfl) ?_
  refine z_iconst (n := 1) hx hb dL_law_176 ?_
  refine z_iadd hx hb dL_law_177 ?_
  refine z_sld hx hb hX hbl hbA hS (by omega) hL dL_law_178 ?_
  refine lv_aload_n hx hb dL_law_179 rfl (lv_at hl 0 rfl) ?_
  refine lv_iload_n hx hb dL_law_180 rfl (lv_at hl 3 rfl) ?_
  refine z_iconst (n := 2) hx hb dL_law_181 ?_
  refine z_iadd hx hb dL_law_182 ?_
  refine z_sld hx hb hX hbl hbA hS (by omega) hL dL_law_183 ?_
  refine lv_aload_n hx hb dL_law_184 rfl (lv_at hl 0 rfl) ?_
  refine lv_iload_n hx hb dL_law_185 rfl (lv_at hl 3 rfl) ?_
  refine z_iconst (n := 3) hx hb dL_law_186 ?_
  refine z_iadd hx hb dL_law_187 ?_
  refine z_sld hx hb hX hbl hbA hS (by omega) hL dL_law_188 ?_
  refine lv_aload_n hx hb dL_law_189 rfl (lv_at hl 0 rfl) ?_
  refine lv_iload_n hx hb dL_law_190 rfl (lv_at hl 3 rfl) ?_
  refine z_iconst (n := 4) hx hb dL_law_191 ?_
  refine z_iadd hx hb dL_law_192 ?_
  refine z_sld hx hb hX hbl hbA hS (by omega) hL dL_law_193 ?_
  refine z_w (zrV (As := [.int (zI (sx xs (i + 1))), .int (zI (sx xs (i + 2))), .int (zI (sx xs (i + 3))), .int (zI (sx xs (i + 4)))]) (rest := []) ⟨hx, hb, hml, hown, hts⟩ (c_X6_setPixel l G cs a w S n L9 tl X k V (sx xs (i + 1)) (sx xs (i + 2)) (sx xs (i + 3)) (sx xs (i + 4)) hF.1 hsd hA (sx_r _ _) (sx_r _ _) (sx_r _ _) (sx_r _ _)) gL_law_X6_setPixel rfl qX6_setPixel rfl rfl ⟨Nat.le_of_ble_eq_true rfl, Nat.le_of_ble_eq_true rfl⟩ hXI hK (va_recv hK.1 hXI.xo (ci := 6) (q0 := 0) rfl rfl) hl.1 rfl (Nat.le_of_ble_eq_true rfl) dL_law_194 (show cells + 0 ≤ 600000 ∧ slots + 0 ≤ 7302250 by omega)) hS (lf_a hF) (lf_a hF) (fun v H1 locs1 hpost hle hk hS1 => ?_)
  obtain ⟨rfl, hXI1⟩ := hpost
  have hMI1 := li_m hF hMI hk
  have hS := hS1
  clear hS1
  refine lv_aload_n hx hb dL_law_197 rfl (lv_at hl 2 rfl) ?_
  refine lv_aload_n hx hb dL_law_198 rfl (lv_at hl 0 rfl) ?_
  refine lv_iload_n hx hb dL_law_199 rfl (lv_at hl 3 rfl) ?_
  refine z_iconst (n := 1) hx hb dL_law_200 ?_
  refine z_iadd hx hb dL_law_201 ?_
  refine z_sld hx hb hX hbl hbA hS (by omega) hL dL_law_202 ?_
  refine lv_aload_n hx hb dL_law_203 rfl (lv_at hl 0 rfl) ?_
  refine lv_iload_n hx hb dL_law_204 rfl (lv_at hl 3 rfl) ?_
  refine z_iconst (n := 2) hx hb dL_law_205 ?_
  refine z_iadd hx hb dL_law_206 ?_
  refine z_sld hx hb hX hbl hbA hS (by omega) hL dL_law_207 ?_
  refine lv_aload_n hx hb dL_law_208 rfl (lv_at hl 0 rfl) ?_
  refine lv_iload_n hx hb dL_law_209 rfl (lv_at hl 3 rfl) ?_
  refine z_iconst (n := 3) hx hb dL_law_210 ?_
  refine z_iadd hx hb dL_law_211 ?_
  refine z_sld hx hb hX hbl hbA hS (by omega) hL dL_law_212 ?_
  refine lv_aload_n hx hb dL_law_213 rfl (lv_at hl 0 rfl) ?_
  refine lv_iload_n hx hb dL_law_214 rfl (lv_at hl 3 rfl) ?_
  refine z_iconst (n := 4) hx hb dL_law_215 ?_
  refine z_iadd hx hb dL_law_216 ?_
  refine z_sld hx hb hX hbl hbA hS (by omega) hL dL_law_217 ?_
  obtain ⟨rn9, hMo9⟩ := hMIo hMI1
  refine z_w (zrV (As := [.int (zI (sx xs (i + 1))), .int (zI (sx xs (i + 2))), .int (zI (sx xs (i + 3))), .int (zI (sx xs (i + 4)))]) (rest := [.int (zI ((setPixelF (S, (n, L9), (tl, X), (k, V)) (sx xs (i + 1)) (sx xs (i + 2)) (sx xs (i + 3)) (sx xs (i + 4))).1))]) ⟨hx, hb, hml, hown, hts⟩ (c_X7_setPixel l G cs m S n L9 tl X k V (sx xs (i + 1)) (sx xs (i + 2)) (sx xs (i + 3)) (sx xs (i + 4)) hF.2.1 hA (sx_r _ _) (sx_r _ _) (sx_r _ _) (sx_r _ _)) gL_law_X7_setPixel rfl qX7_setPixel rfl rfl ⟨Nat.le_of_ble_eq_true rfl, Nat.le_of_ble_eq_true rfl⟩ hMI1 hK (va_recv hK.1 hMo9 (ci := 7) (q0 := 0) rfl rfl) hl.1 rfl (Nat.le_of_ble_eq_true rfl) dL_law_218 (show cells + 0 + 0 ≤ 600000 ∧ slots + 0 + 0 ≤ 7302250 by omega)) hS (lf_m hF) (lf_m hF) (fun v H2 locs2 hpost hle hk hS2 => ?_)
  obtain ⟨rfl, hMI2⟩ := hpost
  have hS := hS2
  clear hS2
  have hkp := congrArg Prod.fst (kp_setPixel (A := (S, (n, L9), (tl, X), (k, V))) (sx xs (i + 1)) (sx xs (i + 2)) (sx xs (i + 3)) (sx xs (i + 4)))
  have hW2 : ∀ s9 j9, s9 < 2 → j9 < 8 → (setPixelF (S, (n, L9), (tl, X), (k, V)) (sx xs (i + 1)) (sx xs (i + 2)) (sx xs (i + 3)) (sx xs (i + 4))).2.2.2.2.1 s9 = true → s.heap.size ≤ w (8 * s9 + j9) ∧ ∀ i9, i9 < 10 → w (8 * s9 + j9) ≠ m i9 := by rw [hkp]; exact hW
  have hsd2 : SnD a w (setPixelF (S, (n, L9), (tl, X), (k, V)) (sx xs (i + 1)) (sx xs (i + 2)) (sx xs (i + 3)) (sx xs (i + 4))).2.2.2.2.1 := by rw [hkp]; exact hsd
  have hXI2 := li_x hF hXI1 hW2 hk
  refine lv_icmp_eq (tgt := 1082) hx hb dL_law_221 (by decide) (fun _ => ?_) (fun h9 => absurd rfl h9)
  refine W.widen (k := cells + 8) (n := slots + 260) (by omega) (by omega) ?_
  exact K (setPixelF (S, (n, L9), (tl, X), (k, V)) (sx xs (i + 1)) (sx xs (i + 2)) (sx xs (i + 3)) (sx xs (i + 4))).2 w _ _ ⟨awf_setPixel hA _ _ _ _, hXI2, hMI2, hsd2, hW2⟩ hS _ hl

set_option maxHeartbeats 4000000 in
set_option maxRecDepth 100000 in
theorem law_c2 (hC : LC p s mM c b L xs) (hK : kK G cs s) (hF : LF a m s.heap.size) (hLI : LI G cs a m s.heap.size A w H) (hS : va_S (fun q => s.heap.size ≤ q) s.heap H locs) (hl : lv_has ls 8 (lvL b a m i)) (hi : 0 ≤ i ∧ i + 5 ≤ L) (hc : cells + 8 ≤ 600000 ∧ slots + 260 ≤ 7302250) (K : KT p l e s mM below meth c G cs a m b i (cells + 8) (slots + 260) Q) : W p l e room_1 s mM #[Value.ref b] below meth c H locs cells slots Q (F0 mM 226 ls []) := by
  obtain ⟨hx, hb, hml, hown, hts, hX, hbl, hL⟩ := hC
  obtain ⟨S, ⟨n, L9⟩, ⟨tl, X⟩, ⟨k, V⟩⟩ := A
  obtain ⟨hA, hXI, hMI, hsd, hW⟩ := hLI
  have hsd : SnD a w k := hsd
  have hW : ∀ s9 j9, s9 < 2 → j9 < 8 → k s9 = true → s.heap.size ≤ w (8 * s9 + j9) ∧ ∀ i9, i9 < 10 → w (8 * s9 + j9) ≠ m i9 := hW
  have hbA : ¬ (fun q : Nat => s.heap.size ≤ q) b := Nat.not_le.mpr hbl
  have hl : lv_has ls 8 [(0, .ref b), (1, .ref (a 0)), (2, .ref (m 0)), (3, .int (zI i))] := hl
  refine lv_aload_n hx hb dL_law_226 rfl (lv_at hl 1 rfl) ?_
  refine lv_aload_n hx hb dL_law_227 rfl (lv_at hl 0 rfl) ?_
  refine lv_iload_n hx hb dL_law_228 rfl (lv_at hl 3 rfl) ?_
  refine z_iconst (n := 1) hx hb dL_law_229 ?_
  refine z_iadd hx hb dL_law_230 ?_
  refine z_sld hx hb hX hbl hbA hS (by omega) hL dL_law_231 ?_
  refine lv_i2c (v := zI (sx xs (i + 1) % 65536)) hx hb dL_law_232 (i2c_z _) ?_
  refine z_w (zrV (As := [.int (zI (sx xs (i + 1) % 65536))]) (rest := []) ⟨hx, hb, hml, hown, hts⟩ (c_X6_type l G cs a w S n L9 tl X k V (sx xs (i + 1) % 65536) hF.1 hsd hA (nar_char (by omega))) gL_law_X6_type rfl qX6_type rfl rfl ⟨Nat.le_of_ble_eq_true rfl, Nat.le_of_ble_eq_true rfl⟩ hXI hK (va_recv hK.1 hXI.xo (ci := 6) (q0 := 0) rfl rfl) hl.1 rfl (Nat.le_of_ble_eq_true rfl) dL_law_233 (show cells + 0 ≤ 600000 ∧ slots + 0 ≤ 7302250 by omega)) hS (lf_a hF) (lf_a hF) (fun v H1 locs1 hpost hle hk hS1 => ?_)
  obtain ⟨rfl, hXI1⟩ := hpost
  have hMI1 := li_m hF hMI hk
  have hS := hS1
  clear hS1
  refine lv_aload_n hx hb dL_law_236 rfl (lv_at hl 2 rfl) ?_
  refine lv_aload_n hx hb dL_law_237 rfl (lv_at hl 0 rfl) ?_
  refine lv_iload_n hx hb dL_law_238 rfl (lv_at hl 3 rfl) ?_
  refine z_iconst (n := 1) hx hb dL_law_239 ?_
  refine z_iadd hx hb dL_law_240 ?_
  refine z_sld hx hb hX hbl hbA hS (by omega) hL dL_law_241 ?_
  refine lv_i2c (v := zI (sx xs (i + 1) % 65536)) hx hb dL_law_242 (i2c_z _) ?_
  obtain ⟨rn9, hMo9⟩ := hMIo hMI1
  refine z_w (zrV (As := [.int (zI (sx xs (i + 1) % 65536))]) (rest := [.int (zI ((typeF (S, (n, L9), (tl, X), (k, V)) (sx xs (i + 1) % 65536)).1))]) ⟨hx, hb, hml, hown, hts⟩ (c_X7_type l G cs m S n L9 tl X k V (sx xs (i + 1) % 65536) hF.2.1 hA (nar_char (by omega))) gL_law_X7_type rfl qX7_type rfl rfl ⟨Nat.le_of_ble_eq_true rfl, Nat.le_of_ble_eq_true rfl⟩ hMI1 hK (va_recv hK.1 hMo9 (ci := 7) (q0 := 0) rfl rfl) hl.1 rfl (Nat.le_of_ble_eq_true rfl) dL_law_243 (show cells + 0 + 0 ≤ 600000 ∧ slots + 0 + 0 ≤ 7302250 by omega)) hS (lf_m hF) (lf_m hF) (fun v H2 locs2 hpost hle hk hS2 => ?_)
  obtain ⟨rfl, hMI2⟩ := hpost
  have hS := hS2
  clear hS2
  have hkp := congrArg Prod.fst (kp_type (A := (S, (n, L9), (tl, X), (k, V))) (sx xs (i + 1) % 65536))
  have hW2 : ∀ s9 j9, s9 < 2 → j9 < 8 → (typeF (S, (n, L9), (tl, X), (k, V)) (sx xs (i + 1) % 65536)).2.2.2.2.1 s9 = true → s.heap.size ≤ w (8 * s9 + j9) ∧ ∀ i9, i9 < 10 → w (8 * s9 + j9) ≠ m i9 := by rw [hkp]; exact hW
  have hsd2 : SnD a w (typeF (S, (n, L9), (tl, X), (k, V)) (sx xs (i + 1) % 65536)).2.2.2.2.1 := by rw [hkp]; exact hsd
  have hXI2 := li_x hF hXI1 hW2 hk
  refine lv_icmp_eq (tgt := 1082) hx hb dL_law_246 (by decide) (fun _ => ?_) (fun h9 => absurd rfl h9)
  refine W.widen (k := cells + 8) (n := slots + 260) (by omega) (by omega) ?_
  exact K (typeF (S, (n, L9), (tl, X), (k, V)) (sx xs (i + 1) % 65536)).2 w _ _ ⟨awf_type hA (by omega), hXI2, hMI2, hsd2, hW2⟩ hS _ hl

set_option maxHeartbeats 4000000 in
set_option maxRecDepth 100000 in
theorem law_c3 (hC : LC p s mM c b L xs) (hK : kK G cs s) (hF : LF a m s.heap.size) (hLI : LI G cs a m s.heap.size A w H) (hS : va_S (fun q => s.heap.size ≤ q) s.heap H locs) (hl : lv_has ls 8 (lvL b a m i)) (hi : 0 ≤ i ∧ i + 5 ≤ L) (hc : cells + 8 ≤ 600000 ∧ slots + 260 ≤ 7302250) (K : KT p l e s mM below meth c G cs a m b i (cells + 8) (slots + 260) Q) : W p l e room_1 s mM #[Value.ref b] below meth c H locs cells slots Q (F0 mM 251 ls []) := by
  obtain ⟨hx, hb, hml, hown, hts, hX, hbl, hL⟩ := hC
  obtain ⟨S, ⟨n, L9⟩, ⟨tl, X⟩, ⟨k, V⟩⟩ := A
  obtain ⟨hA, hXI, hMI, hsd, hW⟩ := hLI
  have hsd : SnD a w k := hsd
  have hW : ∀ s9 j9, s9 < 2 → j9 < 8 → k s9 = true → s.heap.size ≤ w (8 * s9 + j9) ∧ ∀ i9, i9 < 10 → w (8 * s9 + j9) ≠ m i9 := hW
  have hbA : ¬ (fun q : Nat => s.heap.size ≤ q) b := Nat.not_le.mpr hbl
  have hl : lv_has ls 8 [(0, .ref b), (1, .ref (a 0)), (2, .ref (m 0)), (3, .int (zI i))] := hl
  refine lv_aload_n hx hb dL_law_251 rfl (lv_at hl 1 rfl) ?_
  refine z_w (zrV (As := []) (rest := []) ⟨hx, hb, hml, hown, hts⟩ (c_X6_clearText l G cs a w S n L9 tl X k V  hF.1 hsd hA ) gL_law_X6_clearText rfl qX6_clearText rfl rfl ⟨Nat.le_of_ble_eq_true rfl, Nat.le_of_ble_eq_true rfl⟩ hXI hK (va_recv hK.1 hXI.xo (ci := 6) (q0 := 0) rfl rfl) hl.1 rfl (Nat.le_of_ble_eq_true rfl) dL_law_252 (show cells + 0 ≤ 600000 ∧ slots + 0 ≤ 7302250 by omega)) hS (lf_a hF) (lf_a hF) (fun v H1 locs1 hpost hle hk hS1 => ?_)
  obtain ⟨rfl, hXI1⟩ := hpost
  have hMI1 := li_m hF hMI hk
  have hS := hS1
  clear hS1
  refine lv_aload_n hx hb dL_law_255 rfl (lv_at hl 2 rfl) ?_
  obtain ⟨rn9, hMo9⟩ := hMIo hMI1
  refine z_w (zrV (As := []) (rest := [.int (zI ((clearF (S, (n, L9), (tl, X), (k, V))).1))]) ⟨hx, hb, hml, hown, hts⟩ (c_X7_clearText l G cs m S n L9 tl X k V  hF.2.1 hA ) gL_law_X7_clearText rfl qX7_clearText rfl rfl ⟨Nat.le_of_ble_eq_true rfl, Nat.le_of_ble_eq_true rfl⟩ hMI1 hK (va_recv hK.1 hMo9 (ci := 7) (q0 := 0) rfl rfl) hl.1 rfl (Nat.le_of_ble_eq_true rfl) dL_law_256 (show cells + 0 + 0 ≤ 600000 ∧ slots + 0 + 0 ≤ 7302250 by omega)) hS (lf_m hF) (lf_m hF) (fun v H2 locs2 hpost hle hk hS2 => ?_)
  obtain ⟨rfl, hMI2⟩ := hpost
  have hS := hS2
  clear hS2
  have hkp := congrArg Prod.fst (kp_clear (A := (S, (n, L9), (tl, X), (k, V))))
  have hW2 : ∀ s9 j9, s9 < 2 → j9 < 8 → (clearF (S, (n, L9), (tl, X), (k, V))).2.2.2.2.1 s9 = true → s.heap.size ≤ w (8 * s9 + j9) ∧ ∀ i9, i9 < 10 → w (8 * s9 + j9) ≠ m i9 := by rw [hkp]; exact hW
  have hsd2 : SnD a w (clearF (S, (n, L9), (tl, X), (k, V))).2.2.2.2.1 := by rw [hkp]; exact hsd
  have hXI2 := li_x hF hXI1 hW2 hk
  refine lv_icmp_eq (tgt := 1082) hx hb dL_law_259 (by decide) (fun _ => ?_) (fun h9 => absurd rfl h9)
  refine W.widen (k := cells + 8) (n := slots + 260) (by omega) (by omega) ?_
  exact K (clearF (S, (n, L9), (tl, X), (k, V))).2 w _ _ ⟨awf_clear hA, hXI2, hMI2, hsd2, hW2⟩ hS _ hl

set_option maxHeartbeats 4000000 in
set_option maxRecDepth 100000 in
theorem law_c4 (hC : LC p s mM c b L xs) (hK : kK G cs s) (hF : LF a m s.heap.size) (hLI : LI G cs a m s.heap.size A w H) (hS : va_S (fun q => s.heap.size ≤ q) s.heap H locs) (hl : lv_has ls 8 (lvL b a m i)) (hi : 0 ≤ i ∧ i + 5 ≤ L) (hc : cells + 8 ≤ 600000 ∧ slots + 260 ≤ 7302250) (K : KT p l e s mM below meth c G cs a m b i (cells + 8) (slots + 260) Q) : W p l e room_1 s mM #[Value.ref b] below meth c H locs cells slots Q (F0 mM 264 ls []) := by
  obtain ⟨hx, hb, hml, hown, hts, hX, hbl, hL⟩ := hC
  obtain ⟨S, ⟨n, L9⟩, ⟨tl, X⟩, ⟨k, V⟩⟩ := A
  obtain ⟨hA, hXI, hMI, hsd, hW⟩ := hLI
  have hsd : SnD a w k := hsd
  have hW : ∀ s9 j9, s9 < 2 → j9 < 8 → k s9 = true → s.heap.size ≤ w (8 * s9 + j9) ∧ ∀ i9, i9 < 10 → w (8 * s9 + j9) ≠ m i9 := hW
  have hbA : ¬ (fun q : Nat => s.heap.size ≤ q) b := Nat.not_le.mpr hbl
  have hl : lv_has ls 8 [(0, .ref b), (1, .ref (a 0)), (2, .ref (m 0)), (3, .int (zI i))] := hl
  refine lv_aload_n hx hb dL_law_264 rfl (lv_at hl 1 rfl) ?_
  refine lv_aload_n hx hb dL_law_265 rfl (lv_at hl 0 rfl) ?_
  refine lv_iload_n hx hb dL_law_266 rfl (lv_at hl 3 rfl) ?_
  refine z_iconst (n := 1) hx hb dL_law_267 ?_
  refine z_iadd hx hb dL_law_268 ?_
  refine z_sld hx hb hX hbl hbA hS (by omega) hL dL_law_269 ?_
  refine z_w (zrV (As := [.int (zI (sx xs (i + 1)))]) (rest := []) ⟨hx, hb, hml, hown, hts⟩ (c_X6_draw l G cs a w S n L9 tl X k V (sx xs (i + 1)) hF.1 hsd hA (sx_r _ _)) gL_law_X6_draw rfl qX6_draw rfl rfl ⟨Nat.le_of_ble_eq_true rfl, Nat.le_of_ble_eq_true rfl⟩ hXI hK (va_recv hK.1 hXI.xo (ci := 6) (q0 := 0) rfl rfl) hl.1 rfl (Nat.le_of_ble_eq_true rfl) dL_law_270 (show cells + 0 ≤ 600000 ∧ slots + 0 ≤ 7302250 by omega)) hS (lf_a hF) (lf_a hF) (fun v H1 locs1 hpost hle hk hS1 => ?_)
  obtain ⟨rfl, hXI1⟩ := hpost
  have hMI1 := li_m hF hMI hk
  have hS := hS1
  clear hS1
  refine lv_aload_n hx hb dL_law_273 rfl (lv_at hl 2 rfl) ?_
  refine lv_aload_n hx hb dL_law_274 rfl (lv_at hl 0 rfl) ?_
  refine lv_iload_n hx hb dL_law_275 rfl (lv_at hl 3 rfl) ?_
  refine z_iconst (n := 1) hx hb dL_law_276 ?_
  refine z_iadd hx hb dL_law_277 ?_
  refine z_sld hx hb hX hbl hbA hS (by omega) hL dL_law_278 ?_
  obtain ⟨rn9, hMo9⟩ := hMIo hMI1
  refine z_w (zrV (As := [.int (zI (sx xs (i + 1)))]) (rest := [.int (zI ((drawF (S, (n, L9), (tl, X), (k, V)) (sx xs (i + 1))).1))]) ⟨hx, hb, hml, hown, hts⟩ (c_X7_draw l G cs m S n L9 tl X k V (sx xs (i + 1)) hF.2.1 hA (sx_r _ _)) gL_law_X7_draw rfl qX7_draw rfl rfl ⟨Nat.le_of_ble_eq_true rfl, Nat.le_of_ble_eq_true rfl⟩ hMI1 hK (va_recv hK.1 hMo9 (ci := 7) (q0 := 0) rfl rfl) hl.1 rfl (Nat.le_of_ble_eq_true rfl) dL_law_279 (show cells + 0 + 0 ≤ 600000 ∧ slots + 0 + 0 ≤ 7302250 by omega)) hS (lf_m hF) (lf_m hF) (fun v H2 locs2 hpost hle hk hS2 => ?_)
  obtain ⟨rfl, hMI2⟩ := hpost
  have hS := hS2
  clear hS2
  have hkp := congrArg Prod.fst (kp_draw (A := (S, (n, L9), (tl, X), (k, V))) (sx xs (i + 1)))
  have hW2 : ∀ s9 j9, s9 < 2 → j9 < 8 → (drawF (S, (n, L9), (tl, X), (k, V)) (sx xs (i + 1))).2.2.2.2.1 s9 = true → s.heap.size ≤ w (8 * s9 + j9) ∧ ∀ i9, i9 < 10 → w (8 * s9 + j9) ≠ m i9 := by rw [hkp]; exact hW
  have hsd2 : SnD a w (drawF (S, (n, L9), (tl, X), (k, V)) (sx xs (i + 1))).2.2.2.2.1 := by rw [hkp]; exact hsd
  have hXI2 := li_x hF hXI1 hW2 hk
  refine lv_icmp_eq (tgt := 1082) hx hb dL_law_282 (by decide) (fun _ => ?_) (fun h9 => absurd rfl h9)
  refine W.widen (k := cells + 8) (n := slots + 260) (by omega) (by omega) ?_
  exact K (drawF (S, (n, L9), (tl, X), (k, V)) (sx xs (i + 1))).2 w _ _ ⟨awf_draw hA _, hXI2, hMI2, hsd2, hW2⟩ hS _ hl

set_option maxHeartbeats 4000000 in
set_option maxRecDepth 100000 in
theorem law_c5 (hC : LC p s mM c b L xs) (hK : kK G cs s) (hF : LF a m s.heap.size) (hLI : LI G cs a m s.heap.size A w H) (hS : va_S (fun q => s.heap.size ≤ q) s.heap H locs) (hl : lv_has ls 8 (lvL b a m i)) (hi : 0 ≤ i ∧ i + 5 ≤ L) (hc : cells + 8 ≤ 600000 ∧ slots + 260 ≤ 7302250) (K : KT p l e s mM below meth c G cs a m b i (cells + 8) (slots + 260) Q) : W p l e room_1 s mM #[Value.ref b] below meth c H locs cells slots Q (F0 mM 287 ls []) := by
  obtain ⟨hx, hb, hml, hown, hts, hX, hbl, hL⟩ := hC
  obtain ⟨S, ⟨n, L9⟩, ⟨tl, X⟩, ⟨k, V⟩⟩ := A
  obtain ⟨hA, hXI, hMI, hsd, hW⟩ := hLI
  have hsd : SnD a w k := hsd
  have hW : ∀ s9 j9, s9 < 2 → j9 < 8 → k s9 = true → s.heap.size ≤ w (8 * s9 + j9) ∧ ∀ i9, i9 < 10 → w (8 * s9 + j9) ≠ m i9 := hW
  have hbA : ¬ (fun q : Nat => s.heap.size ≤ q) b := Nat.not_le.mpr hbl
  have hl : lv_has ls 8 [(0, .ref b), (1, .ref (a 0)), (2, .ref (m 0)), (3, .int (zI i))] := hl
  refine lv_aload_n hx hb dL_law_287 rfl (lv_at hl 1 rfl) ?_
  refine lv_aload_n hx hb dL_law_288 rfl (lv_at hl 0 rfl) ?_
  refine lv_iload_n hx hb dL_law_289 rfl (lv_at hl 3 rfl) ?_
  refine z_iconst (n := 1) hx hb dL_law_290 ?_
  refine z_iadd hx hb dL_law_291 ?_
  refine z_sld hx hb hX hbl hbA hS (by omega) hL dL_law_292 ?_
  refine z_if_eq (tgt := 300) hx hb dL_law_293 (by decide) (sx_r _ _) (fun c1 => ?_) (fun c1 => ?_)
  · skip
    refine z_iconst (n := 0) hx hb dL_law_300 ?_
    refine z_w (zrV (As := [.int (zI 0)]) (rest := []) ⟨hx, hb, hml, hown, hts⟩ (c_X6_pack l G cs a w S n L9 tl X k V 0 hF.1 hsd hA (by omega)) gL_law_X6_pack rfl qX6_pack rfl rfl ⟨Nat.le_of_ble_eq_true rfl, Nat.le_of_ble_eq_true rfl⟩ hXI hK (va_recv hK.1 hXI.xo (ci := 6) (q0 := 0) rfl rfl) hl.1 rfl (Nat.le_of_ble_eq_true rfl) dL_law_301 (show cells + 0 ≤ 600000 ∧ slots + 0 ≤ 7302250 by omega)) hS (lf_a hF) (lf_a hF) (fun v H1 locs1 hpost hle hk hS1 => ?_)
    obtain ⟨rfl, hXI1⟩ := hpost
    have hMI1 := li_m hF hMI hk
    have hS := hS1
    clear hS1
    refine lv_aload_n hx hb dL_law_304 rfl (lv_at hl 2 rfl) ?_
    refine lv_aload_n hx hb dL_law_305 rfl (lv_at hl 0 rfl) ?_
    refine lv_iload_n hx hb dL_law_306 rfl (lv_at hl 3 rfl) ?_
    refine z_iconst (n := 1) hx hb dL_law_307 ?_
    refine z_iadd hx hb dL_law_308 ?_
    refine z_sld hx hb hX hbl hbA hS (by omega) hL dL_law_309 ?_
    refine z_if_eq (tgt := 317) hx hb dL_law_310 (by decide) (sx_r _ _) (fun _ => ?_) (fun h9 => absurd c1 h9)
    refine z_iconst (n := 0) hx hb dL_law_317 ?_
    obtain ⟨rn9, hMo9⟩ := hMIo hMI1
    refine z_w (zrV (As := [.int (zI 0)]) (rest := [.int (zI ((packF (S, (n, L9), (tl, X), (k, V)) 0).1))]) ⟨hx, hb, hml, hown, hts⟩ (c_X7_pack l G cs m S n L9 tl X k V 0 hF.2.1 hA (by omega)) gL_law_X7_pack rfl qX7_pack rfl rfl ⟨Nat.le_of_ble_eq_true rfl, Nat.le_of_ble_eq_true rfl⟩ hMI1 hK (va_recv hK.1 hMo9 (ci := 7) (q0 := 0) rfl rfl) hl.1 rfl (Nat.le_of_ble_eq_true rfl) dL_law_318 (show cells + 0 + 0 ≤ 600000 ∧ slots + 0 + 0 ≤ 7302250 by omega)) hS (lf_m hF) (lf_m hF) (fun v H2 locs2 hpost hle hk hS2 => ?_)
    obtain ⟨rfl, hMI2⟩ := hpost
    have hS := hS2
    clear hS2
    have hkp := congrArg Prod.fst (kp_pack (A := (S, (n, L9), (tl, X), (k, V))) 0)
    have hW2 : ∀ s9 j9, s9 < 2 → j9 < 8 → (packF (S, (n, L9), (tl, X), (k, V)) 0).2.2.2.2.1 s9 = true → s.heap.size ≤ w (8 * s9 + j9) ∧ ∀ i9, i9 < 10 → w (8 * s9 + j9) ≠ m i9 := by rw [hkp]; exact hW
    have hsd2 : SnD a w (packF (S, (n, L9), (tl, X), (k, V)) 0).2.2.2.2.1 := by rw [hkp]; exact hsd
    have hXI2 := li_x hF hXI1 hW2 hk
    refine lv_icmp_eq (tgt := 1082) hx hb dL_law_321 (by decide) (fun _ => ?_) (fun h9 => absurd rfl h9)
    refine W.widen (k := cells + 8) (n := slots + 260) (by omega) (by omega) ?_
    exact K (packF (S, (n, L9), (tl, X), (k, V)) 0).2 w _ _ ⟨awf_pack hA _, hXI2, hMI2, hsd2, hW2⟩ hS _ hl
  · skip
    refine z_iconst (n := 1) hx hb dL_law_296 ?_
    refine lv_goto (tgt := 301) hx hb dL_law_297 (by decide) ?_
    refine z_w (zrV (As := [.int (zI 1)]) (rest := []) ⟨hx, hb, hml, hown, hts⟩ (c_X6_pack l G cs a w S n L9 tl X k V 1 hF.1 hsd hA (by omega)) gL_law_X6_pack rfl qX6_pack rfl rfl ⟨Nat.le_of_ble_eq_true rfl, Nat.le_of_ble_eq_true rfl⟩ hXI hK (va_recv hK.1 hXI.xo (ci := 6) (q0 := 0) rfl rfl) hl.1 rfl (Nat.le_of_ble_eq_true rfl) dL_law_301 (show cells + 0 ≤ 600000 ∧ slots + 0 ≤ 7302250 by omega)) hS (lf_a hF) (lf_a hF) (fun v H1 locs1 hpost hle hk hS1 => ?_)
    obtain ⟨rfl, hXI1⟩ := hpost
    have hMI1 := li_m hF hMI hk
    have hS := hS1
    clear hS1
    refine lv_aload_n hx hb dL_law_304 rfl (lv_at hl 2 rfl) ?_
    refine lv_aload_n hx hb dL_law_305 rfl (lv_at hl 0 rfl) ?_
    refine lv_iload_n hx hb dL_law_306 rfl (lv_at hl 3 rfl) ?_
    refine z_iconst (n := 1) hx hb dL_law_307 ?_
    refine z_iadd hx hb dL_law_308 ?_
    refine z_sld hx hb hX hbl hbA hS (by omega) hL dL_law_309 ?_
    refine z_if_eq (tgt := 317) hx hb dL_law_310 (by decide) (sx_r _ _) (fun h9 => absurd h9 c1) (fun _ => ?_)
    refine z_iconst (n := 1) hx hb dL_law_313 ?_
    refine lv_goto (tgt := 318) hx hb dL_law_314 (by decide) ?_
    obtain ⟨rn9, hMo9⟩ := hMIo hMI1
    refine z_w (zrV (As := [.int (zI 1)]) (rest := [.int (zI ((packF (S, (n, L9), (tl, X), (k, V)) 1).1))]) ⟨hx, hb, hml, hown, hts⟩ (c_X7_pack l G cs m S n L9 tl X k V 1 hF.2.1 hA (by omega)) gL_law_X7_pack rfl qX7_pack rfl rfl ⟨Nat.le_of_ble_eq_true rfl, Nat.le_of_ble_eq_true rfl⟩ hMI1 hK (va_recv hK.1 hMo9 (ci := 7) (q0 := 0) rfl rfl) hl.1 rfl (Nat.le_of_ble_eq_true rfl) dL_law_318 (show cells + 0 + 0 ≤ 600000 ∧ slots + 0 + 0 ≤ 7302250 by omega)) hS (lf_m hF) (lf_m hF) (fun v H2 locs2 hpost hle hk hS2 => ?_)
    obtain ⟨rfl, hMI2⟩ := hpost
    have hS := hS2
    clear hS2
    have hkp := congrArg Prod.fst (kp_pack (A := (S, (n, L9), (tl, X), (k, V))) 1)
    have hW2 : ∀ s9 j9, s9 < 2 → j9 < 8 → (packF (S, (n, L9), (tl, X), (k, V)) 1).2.2.2.2.1 s9 = true → s.heap.size ≤ w (8 * s9 + j9) ∧ ∀ i9, i9 < 10 → w (8 * s9 + j9) ≠ m i9 := by rw [hkp]; exact hW
    have hsd2 : SnD a w (packF (S, (n, L9), (tl, X), (k, V)) 1).2.2.2.2.1 := by rw [hkp]; exact hsd
    have hXI2 := li_x hF hXI1 hW2 hk
    refine lv_icmp_eq (tgt := 1082) hx hb dL_law_321 (by decide) (fun _ => ?_) (fun h9 => absurd rfl h9)
    refine W.widen (k := cells + 8) (n := slots + 260) (by omega) (by omega) ?_
    exact K (packF (S, (n, L9), (tl, X), (k, V)) 1).2 w _ _ ⟨awf_pack hA _, hXI2, hMI2, hsd2, hW2⟩ hS _ hl

set_option maxHeartbeats 4000000 in
set_option maxRecDepth 100000 in
theorem law_c6 (hC : LC p s mM c b L xs) (hK : kK G cs s) (hF : LF a m s.heap.size) (hLI : LI G cs a m s.heap.size A w H) (hS : va_S (fun q => s.heap.size ≤ q) s.heap H locs) (hl : lv_has ls 8 (lvL b a m i)) (hi : 0 ≤ i ∧ i + 5 ≤ L) (hc : cells + 8 ≤ 600000 ∧ slots + 260 ≤ 7302250) (K : KT p l e s mM below meth c G cs a m b i (cells + 8) (slots + 260) Q) : W p l e room_1 s mM #[Value.ref b] below meth c H locs cells slots Q (F0 mM 326 ls []) := by
  obtain ⟨hx, hb, hml, hown, hts, hX, hbl, hL⟩ := hC
  obtain ⟨S, ⟨n, L9⟩, ⟨tl, X⟩, ⟨k, V⟩⟩ := A
  obtain ⟨hA, hXI, hMI, hsd, hW⟩ := hLI
  have hsd : SnD a w k := hsd
  have hW : ∀ s9 j9, s9 < 2 → j9 < 8 → k s9 = true → s.heap.size ≤ w (8 * s9 + j9) ∧ ∀ i9, i9 < 10 → w (8 * s9 + j9) ≠ m i9 := hW
  have hbA : ¬ (fun q : Nat => s.heap.size ≤ q) b := Nat.not_le.mpr hbl
  have hl : lv_has ls 8 [(0, .ref b), (1, .ref (a 0)), (2, .ref (m 0)), (3, .int (zI i))] := hl
  refine lv_aload_n hx hb dL_law_326 rfl (lv_at hl 1 rfl) ?_
  refine lv_aload_n hx hb dL_law_327 rfl (lv_at hl 0 rfl) ?_
  refine lv_iload_n hx hb dL_law_328 rfl (lv_at hl 3 rfl) ?_
  refine z_iconst (n := 1) hx hb dL_law_329 ?_
  refine z_iadd hx hb dL_law_330 ?_
  refine z_sld hx hb hX hbl hbA hS (by omega) hL dL_law_331 ?_
  refine lv_aload_n hx hb dL_law_332 rfl (lv_at hl 0 rfl) ?_
  refine lv_iload_n hx hb dL_law_333 rfl (lv_at hl 3 rfl) ?_
  refine z_iconst (n := 2) hx hb dL_law_334 ?_
  refine z_iadd hx hb dL_law_335 ?_
  refine z_sld hx hb hX hbl hbA hS (by omega) hL dL_law_336 ?_
  refine lv_aload_n hx hb dL_law_337 rfl (lv_at hl 0 rfl) ?_
  refine lv_iload_n hx hb dL_law_338 rfl (lv_at hl 3 rfl) ?_
  refine z_iconst (n := 3) hx hb dL_law_339 ?_
  refine z_iadd hx hb dL_law_340 ?_
  refine z_sld hx hb hX hbl hbA hS (by omega) hL dL_law_341 ?_
  refine z_w (zrV (As := [.int (zI (sx xs (i + 1))), .int (zI (sx xs (i + 2))), .int (zI (sx xs (i + 3)))]) (rest := []) ⟨hx, hb, hml, hown, hts⟩ (c_X6_setColor l G cs a w S n L9 tl X k V (sx xs (i + 1)) (sx xs (i + 2)) (sx xs (i + 3)) hF.1 hsd hA (sx_r _ _) (sx_r _ _) (sx_r _ _)) gL_law_X6_setColor rfl qX6_setColor rfl rfl ⟨Nat.le_of_ble_eq_true rfl, Nat.le_of_ble_eq_true rfl⟩ hXI hK (va_recv hK.1 hXI.xo (ci := 6) (q0 := 0) rfl rfl) hl.1 rfl (Nat.le_of_ble_eq_true rfl) dL_law_342 (show cells + 0 ≤ 600000 ∧ slots + 0 ≤ 7302250 by omega)) hS (lf_a hF) (lf_a hF) (fun v H1 locs1 hpost hle hk hS1 => ?_)
  obtain ⟨rfl, hXI1⟩ := hpost
  have hMI1 := li_m hF hMI hk
  have hS := hS1
  clear hS1
  refine lv_aload_n hx hb dL_law_345 rfl (lv_at hl 2 rfl) ?_
  refine lv_aload_n hx hb dL_law_346 rfl (lv_at hl 0 rfl) ?_
  refine lv_iload_n hx hb dL_law_347 rfl (lv_at hl 3 rfl) ?_
  refine z_iconst (n := 1) hx hb dL_law_348 ?_
  refine z_iadd hx hb dL_law_349 ?_
  refine z_sld hx hb hX hbl hbA hS (by omega) hL dL_law_350 ?_
  refine lv_aload_n hx hb dL_law_351 rfl (lv_at hl 0 rfl) ?_
  refine lv_iload_n hx hb dL_law_352 rfl (lv_at hl 3 rfl) ?_
  refine z_iconst (n := 2) hx hb dL_law_353 ?_
  refine z_iadd hx hb dL_law_354 ?_
  refine z_sld hx hb hX hbl hbA hS (by omega) hL dL_law_355 ?_
  refine lv_aload_n hx hb dL_law_356 rfl (lv_at hl 0 rfl) ?_
  refine lv_iload_n hx hb dL_law_357 rfl (lv_at hl 3 rfl) ?_
  refine z_iconst (n := 3) hx hb dL_law_358 ?_
  refine z_iadd hx hb dL_law_359 ?_
  refine z_sld hx hb hX hbl hbA hS (by omega) hL dL_law_360 ?_
  obtain ⟨rn9, hMo9⟩ := hMIo hMI1
  refine z_w (zrV (As := [.int (zI (sx xs (i + 1))), .int (zI (sx xs (i + 2))), .int (zI (sx xs (i + 3)))]) (rest := [.int (zI ((setColorF (S, (n, L9), (tl, X), (k, V)) (sx xs (i + 1)) (sx xs (i + 2)) (sx xs (i + 3))).1))]) ⟨hx, hb, hml, hown, hts⟩ (c_X7_setColor l G cs m S n L9 tl X k V (sx xs (i + 1)) (sx xs (i + 2)) (sx xs (i + 3)) hF.2.1 hA (sx_r _ _) (sx_r _ _) (sx_r _ _)) gL_law_X7_setColor rfl qX7_setColor rfl rfl ⟨Nat.le_of_ble_eq_true rfl, Nat.le_of_ble_eq_true rfl⟩ hMI1 hK (va_recv hK.1 hMo9 (ci := 7) (q0 := 0) rfl rfl) hl.1 rfl (Nat.le_of_ble_eq_true rfl) dL_law_361 (show cells + 0 + 0 ≤ 600000 ∧ slots + 0 + 0 ≤ 7302250 by omega)) hS (lf_m hF) (lf_m hF) (fun v H2 locs2 hpost hle hk hS2 => ?_)
  obtain ⟨rfl, hMI2⟩ := hpost
  have hS := hS2
  clear hS2
  have hkp := congrArg Prod.fst (kp_setColor (A := (S, (n, L9), (tl, X), (k, V))) (sx xs (i + 1)) (sx xs (i + 2)) (sx xs (i + 3)))
  have hW2 : ∀ s9 j9, s9 < 2 → j9 < 8 → (setColorF (S, (n, L9), (tl, X), (k, V)) (sx xs (i + 1)) (sx xs (i + 2)) (sx xs (i + 3))).2.2.2.2.1 s9 = true → s.heap.size ≤ w (8 * s9 + j9) ∧ ∀ i9, i9 < 10 → w (8 * s9 + j9) ≠ m i9 := by rw [hkp]; exact hW
  have hsd2 : SnD a w (setColorF (S, (n, L9), (tl, X), (k, V)) (sx xs (i + 1)) (sx xs (i + 2)) (sx xs (i + 3))).2.2.2.2.1 := by rw [hkp]; exact hsd
  have hXI2 := li_x hF hXI1 hW2 hk
  refine lv_icmp_eq (tgt := 1082) hx hb dL_law_364 (by decide) (fun _ => ?_) (fun h9 => absurd rfl h9)
  refine W.widen (k := cells + 8) (n := slots + 260) (by omega) (by omega) ?_
  exact K (setColorF (S, (n, L9), (tl, X), (k, V)) (sx xs (i + 1)) (sx xs (i + 2)) (sx xs (i + 3))).2 w _ _ ⟨awf_setColor hA _ _ _, hXI2, hMI2, hsd2, hW2⟩ hS _ hl

set_option maxHeartbeats 4000000 in
set_option maxRecDepth 100000 in
theorem law_c7 (hC : LC p s mM c b L xs) (hK : kK G cs s) (hF : LF a m s.heap.size) (hLI : LI G cs a m s.heap.size A w H) (hS : va_S (fun q => s.heap.size ≤ q) s.heap H locs) (hl : lv_has ls 8 (lvL b a m i)) (hi : 0 ≤ i ∧ i + 5 ≤ L) (hc : cells + 8 ≤ 600000 ∧ slots + 260 ≤ 7302250) (K : KT p l e s mM below meth c G cs a m b i (cells + 8) (slots + 260) Q) : W p l e room_1 s mM #[Value.ref b] below meth c H locs cells slots Q (F0 mM 369 ls []) := by
  obtain ⟨hx, hb, hml, hown, hts, hX, hbl, hL⟩ := hC
  obtain ⟨S, ⟨n, L9⟩, ⟨tl, X⟩, ⟨k, V⟩⟩ := A
  obtain ⟨hA, hXI, hMI, hsd, hW⟩ := hLI
  have hsd : SnD a w k := hsd
  have hW : ∀ s9 j9, s9 < 2 → j9 < 8 → k s9 = true → s.heap.size ≤ w (8 * s9 + j9) ∧ ∀ i9, i9 < 10 → w (8 * s9 + j9) ≠ m i9 := hW
  have hbA : ¬ (fun q : Nat => s.heap.size ≤ q) b := Nat.not_le.mpr hbl
  have hl : lv_has ls 8 [(0, .ref b), (1, .ref (a 0)), (2, .ref (m 0)), (3, .int (zI i))] := hl
  refine lv_aload_n hx hb dL_law_369 rfl (lv_at hl 1 rfl) ?_
  refine lv_aload_n hx hb dL_law_370 rfl (lv_at hl 0 rfl) ?_
  refine lv_iload_n hx hb dL_law_371 rfl (lv_at hl 3 rfl) ?_
  refine z_iconst (n := 1) hx hb dL_law_372 ?_
  refine z_iadd hx hb dL_law_373 ?_
  refine z_sld hx hb hX hbl hbA hS (by omega) hL dL_law_374 ?_
  refine lv_aload_n hx hb dL_law_375 rfl (lv_at hl 0 rfl) ?_
  refine lv_iload_n hx hb dL_law_376 rfl (lv_at hl 3 rfl) ?_
  refine z_iconst (n := 2) hx hb dL_law_377 ?_
  refine z_iadd hx hb dL_law_378 ?_
  refine z_sld hx hb hX hbl hbA hS (by omega) hL dL_law_379 ?_
  refine lv_aload_n hx hb dL_law_380 rfl (lv_at hl 0 rfl) ?_
  refine lv_iload_n hx hb dL_law_381 rfl (lv_at hl 3 rfl) ?_
  refine z_iconst (n := 3) hx hb dL_law_382 ?_
  refine z_iadd hx hb dL_law_383 ?_
  refine z_sld hx hb hX hbl hbA hS (by omega) hL dL_law_384 ?_
  refine z_w (zrV (As := [.int (zI (sx xs (i + 1))), .int (zI (sx xs (i + 2))), .int (zI (sx xs (i + 3)))]) (rest := []) ⟨hx, hb, hml, hown, hts⟩ (c_X6_addSprite l G cs a w S n L9 tl X k V (sx xs (i + 1)) (sx xs (i + 2)) (sx xs (i + 3)) hF.1 hsd hA (sx_r _ _) (sx_r _ _) (sx_r _ _)) gL_law_X6_addSprite rfl qX6_addSprite rfl rfl ⟨Nat.le_of_ble_eq_true rfl, Nat.le_of_ble_eq_true rfl⟩ hXI hK (va_recv hK.1 hXI.xo (ci := 6) (q0 := 0) rfl rfl) hl.1 rfl (Nat.le_of_ble_eq_true rfl) dL_law_385 (show cells + 0 ≤ 600000 ∧ slots + 0 ≤ 7302250 by omega)) hS (lf_a hF) (lf_a hF) (fun v H1 locs1 hpost hle hk hS1 => ?_)
  obtain ⟨rfl, hXI1⟩ := hpost
  have hMI1 := li_m hF hMI hk
  have hS := hS1
  clear hS1
  refine lv_aload_n hx hb dL_law_388 rfl (lv_at hl 2 rfl) ?_
  refine lv_aload_n hx hb dL_law_389 rfl (lv_at hl 0 rfl) ?_
  refine lv_iload_n hx hb dL_law_390 rfl (lv_at hl 3 rfl) ?_
  refine z_iconst (n := 1) hx hb dL_law_391 ?_
  refine z_iadd hx hb dL_law_392 ?_
  refine z_sld hx hb hX hbl hbA hS (by omega) hL dL_law_393 ?_
  refine lv_aload_n hx hb dL_law_394 rfl (lv_at hl 0 rfl) ?_
  refine lv_iload_n hx hb dL_law_395 rfl (lv_at hl 3 rfl) ?_
  refine z_iconst (n := 2) hx hb dL_law_396 ?_
  refine z_iadd hx hb dL_law_397 ?_
  refine z_sld hx hb hX hbl hbA hS (by omega) hL dL_law_398 ?_
  refine lv_aload_n hx hb dL_law_399 rfl (lv_at hl 0 rfl) ?_
  refine lv_iload_n hx hb dL_law_400 rfl (lv_at hl 3 rfl) ?_
  refine z_iconst (n := 3) hx hb dL_law_401 ?_
  refine z_iadd hx hb dL_law_402 ?_
  refine z_sld hx hb hX hbl hbA hS (by omega) hL dL_law_403 ?_
  obtain ⟨rn9, hMo9⟩ := hMIo hMI1
  refine z_w (zrV (As := [.int (zI (sx xs (i + 1))), .int (zI (sx xs (i + 2))), .int (zI (sx xs (i + 3)))]) (rest := [.int (zI ((addSpriteF (S, (n, L9), (tl, X), (k, V)) (sx xs (i + 1)) (sx xs (i + 2)) (sx xs (i + 3))).1))]) ⟨hx, hb, hml, hown, hts⟩ (c_X7_addSprite l G cs m S n L9 tl X k V (sx xs (i + 1)) (sx xs (i + 2)) (sx xs (i + 3)) hF.2.1 hA (sx_r _ _) (sx_r _ _) (sx_r _ _)) gL_law_X7_addSprite rfl qX7_addSprite rfl rfl ⟨Nat.le_of_ble_eq_true rfl, Nat.le_of_ble_eq_true rfl⟩ hMI1 hK (va_recv hK.1 hMo9 (ci := 7) (q0 := 0) rfl rfl) hl.1 rfl (Nat.le_of_ble_eq_true rfl) dL_law_404 (show cells + 0 + 0 ≤ 600000 ∧ slots + 0 + 0 ≤ 7302250 by omega)) hS (lf_m hF) (lf_m hF) (fun v H2 locs2 hpost hle hk hS2 => ?_)
  obtain ⟨rfl, hMI2⟩ := hpost
  have hS := hS2
  clear hS2
  have hkp := congrArg Prod.fst (kp_addSprite (A := (S, (n, L9), (tl, X), (k, V))) (sx xs (i + 1)) (sx xs (i + 2)) (sx xs (i + 3)))
  have hW2 : ∀ s9 j9, s9 < 2 → j9 < 8 → (addSpriteF (S, (n, L9), (tl, X), (k, V)) (sx xs (i + 1)) (sx xs (i + 2)) (sx xs (i + 3))).2.2.2.2.1 s9 = true → s.heap.size ≤ w (8 * s9 + j9) ∧ ∀ i9, i9 < 10 → w (8 * s9 + j9) ≠ m i9 := by rw [hkp]; exact hW
  have hsd2 : SnD a w (addSpriteF (S, (n, L9), (tl, X), (k, V)) (sx xs (i + 1)) (sx xs (i + 2)) (sx xs (i + 3))).2.2.2.2.1 := by rw [hkp]; exact hsd
  have hXI2 := li_x hF hXI1 hW2 hk
  refine lv_icmp_eq (tgt := 1082) hx hb dL_law_407 (by decide) (fun _ => ?_) (fun h9 => absurd rfl h9)
  refine W.widen (k := cells + 8) (n := slots + 260) (by omega) (by omega) ?_
  exact K (addSpriteF (S, (n, L9), (tl, X), (k, V)) (sx xs (i + 1)) (sx xs (i + 2)) (sx xs (i + 3))).2 w _ _ ⟨awf_addSprite hA _ _ _, hXI2, hMI2, hsd2, hW2⟩ hS _ hl

set_option maxHeartbeats 4000000 in
set_option maxRecDepth 100000 in
theorem law_c8 (hC : LC p s mM c b L xs) (hK : kK G cs s) (hF : LF a m s.heap.size) (hLI : LI G cs a m s.heap.size A w H) (hS : va_S (fun q => s.heap.size ≤ q) s.heap H locs) (hl : lv_has ls 8 (lvL b a m i)) (hi : 0 ≤ i ∧ i + 5 ≤ L) (hc : cells + 8 ≤ 600000 ∧ slots + 260 ≤ 7302250) (K : KT p l e s mM below meth c G cs a m b i (cells + 8) (slots + 260) Q) : W p l e room_1 s mM #[Value.ref b] below meth c H locs cells slots Q (F0 mM 412 ls []) := by
  obtain ⟨hx, hb, hml, hown, hts, hX, hbl, hL⟩ := hC
  obtain ⟨S, ⟨n, L9⟩, ⟨tl, X⟩, ⟨k, V⟩⟩ := A
  obtain ⟨hA, hXI, hMI, hsd, hW⟩ := hLI
  have hsd : SnD a w k := hsd
  have hW : ∀ s9 j9, s9 < 2 → j9 < 8 → k s9 = true → s.heap.size ≤ w (8 * s9 + j9) ∧ ∀ i9, i9 < 10 → w (8 * s9 + j9) ≠ m i9 := hW
  have hbA : ¬ (fun q : Nat => s.heap.size ≤ q) b := Nat.not_le.mpr hbl
  have hl : lv_has ls 8 [(0, .ref b), (1, .ref (a 0)), (2, .ref (m 0)), (3, .int (zI i))] := hl
  refine lv_aload_n hx hb dL_law_412 rfl (lv_at hl 1 rfl) ?_
  refine lv_aload_n hx hb dL_law_413 rfl (lv_at hl 0 rfl) ?_
  refine lv_iload_n hx hb dL_law_414 rfl (lv_at hl 3 rfl) ?_
  refine z_iconst (n := 1) hx hb dL_law_415 ?_
  refine z_iadd hx hb dL_law_416 ?_
  refine z_sld hx hb hX hbl hbA hS (by omega) hL dL_law_417 ?_
  refine lv_aload_n hx hb dL_law_418 rfl (lv_at hl 0 rfl) ?_
  refine lv_iload_n hx hb dL_law_419 rfl (lv_at hl 3 rfl) ?_
  refine z_iconst (n := 2) hx hb dL_law_420 ?_
  refine z_iadd hx hb dL_law_421 ?_
  refine z_sld hx hb hX hbl hbA hS (by omega) hL dL_law_422 ?_
  refine lv_aload_n hx hb dL_law_423 rfl (lv_at hl 0 rfl) ?_
  refine lv_iload_n hx hb dL_law_424 rfl (lv_at hl 3 rfl) ?_
  refine z_iconst (n := 3) hx hb dL_law_425 ?_
  refine z_iadd hx hb dL_law_426 ?_
  refine z_sld hx hb hX hbl hbA hS (by omega) hL dL_law_427 ?_
  refine z_w (zrV (As := [.int (zI (sx xs (i + 1))), .int (zI (sx xs (i + 2))), .int (zI (sx xs (i + 3)))]) (rest := []) ⟨hx, hb, hml, hown, hts⟩ (c_X6_move l G cs a w S n L9 tl X k V (sx xs (i + 1)) (sx xs (i + 2)) (sx xs (i + 3)) hF.1 hsd hA (sx_r _ _) (sx_r _ _) (sx_r _ _)) gL_law_X6_move rfl qX6_move rfl rfl ⟨Nat.le_of_ble_eq_true rfl, Nat.le_of_ble_eq_true rfl⟩ hXI hK (va_recv hK.1 hXI.xo (ci := 6) (q0 := 0) rfl rfl) hl.1 rfl (Nat.le_of_ble_eq_true rfl) dL_law_428 (show cells + 0 ≤ 600000 ∧ slots + 0 ≤ 7302250 by omega)) hS (lf_a hF) (lf_a hF) (fun v H1 locs1 hpost hle hk hS1 => ?_)
  obtain ⟨rfl, hXI1⟩ := hpost
  have hMI1 := li_m hF hMI hk
  have hS := hS1
  clear hS1
  refine lv_aload_n hx hb dL_law_431 rfl (lv_at hl 2 rfl) ?_
  refine lv_aload_n hx hb dL_law_432 rfl (lv_at hl 0 rfl) ?_
  refine lv_iload_n hx hb dL_law_433 rfl (lv_at hl 3 rfl) ?_
  refine z_iconst (n := 1) hx hb dL_law_434 ?_
  refine z_iadd hx hb dL_law_435 ?_
  refine z_sld hx hb hX hbl hbA hS (by omega) hL dL_law_436 ?_
  refine lv_aload_n hx hb dL_law_437 rfl (lv_at hl 0 rfl) ?_
  refine lv_iload_n hx hb dL_law_438 rfl (lv_at hl 3 rfl) ?_
  refine z_iconst (n := 2) hx hb dL_law_439 ?_
  refine z_iadd hx hb dL_law_440 ?_
  refine z_sld hx hb hX hbl hbA hS (by omega) hL dL_law_441 ?_
  refine lv_aload_n hx hb dL_law_442 rfl (lv_at hl 0 rfl) ?_
  refine lv_iload_n hx hb dL_law_443 rfl (lv_at hl 3 rfl) ?_
  refine z_iconst (n := 3) hx hb dL_law_444 ?_
  refine z_iadd hx hb dL_law_445 ?_
  refine z_sld hx hb hX hbl hbA hS (by omega) hL dL_law_446 ?_
  obtain ⟨rn9, hMo9⟩ := hMIo hMI1
  refine z_w (zrV (As := [.int (zI (sx xs (i + 1))), .int (zI (sx xs (i + 2))), .int (zI (sx xs (i + 3)))]) (rest := [.int (zI ((moveF (S, (n, L9), (tl, X), (k, V)) (sx xs (i + 1)) (sx xs (i + 2)) (sx xs (i + 3))).1))]) ⟨hx, hb, hml, hown, hts⟩ (c_X7_move l G cs m S n L9 tl X k V (sx xs (i + 1)) (sx xs (i + 2)) (sx xs (i + 3)) hF.2.1 hA (sx_r _ _) (sx_r _ _) (sx_r _ _)) gL_law_X7_move rfl qX7_move rfl rfl ⟨Nat.le_of_ble_eq_true rfl, Nat.le_of_ble_eq_true rfl⟩ hMI1 hK (va_recv hK.1 hMo9 (ci := 7) (q0 := 0) rfl rfl) hl.1 rfl (Nat.le_of_ble_eq_true rfl) dL_law_447 (show cells + 0 + 0 ≤ 600000 ∧ slots + 0 + 0 ≤ 7302250 by omega)) hS (lf_m hF) (lf_m hF) (fun v H2 locs2 hpost hle hk hS2 => ?_)
  obtain ⟨rfl, hMI2⟩ := hpost
  have hS := hS2
  clear hS2
  have hkp := congrArg Prod.fst (kp_move (A := (S, (n, L9), (tl, X), (k, V))) (sx xs (i + 1)) (sx xs (i + 2)) (sx xs (i + 3)))
  have hW2 : ∀ s9 j9, s9 < 2 → j9 < 8 → (moveF (S, (n, L9), (tl, X), (k, V)) (sx xs (i + 1)) (sx xs (i + 2)) (sx xs (i + 3))).2.2.2.2.1 s9 = true → s.heap.size ≤ w (8 * s9 + j9) ∧ ∀ i9, i9 < 10 → w (8 * s9 + j9) ≠ m i9 := by rw [hkp]; exact hW
  have hsd2 : SnD a w (moveF (S, (n, L9), (tl, X), (k, V)) (sx xs (i + 1)) (sx xs (i + 2)) (sx xs (i + 3))).2.2.2.2.1 := by rw [hkp]; exact hsd
  have hXI2 := li_x hF hXI1 hW2 hk
  refine lv_icmp_eq (tgt := 1082) hx hb dL_law_450 (by decide) (fun _ => ?_) (fun h9 => absurd rfl h9)
  refine W.widen (k := cells + 8) (n := slots + 260) (by omega) (by omega) ?_
  exact K (moveF (S, (n, L9), (tl, X), (k, V)) (sx xs (i + 1)) (sx xs (i + 2)) (sx xs (i + 3))).2 w _ _ ⟨awf_move hA _ _ _, hXI2, hMI2, hsd2, hW2⟩ hS _ hl

set_option maxHeartbeats 4000000 in
set_option maxRecDepth 100000 in
theorem law_c9 (hC : LC p s mM c b L xs) (hK : kK G cs s) (hF : LF a m s.heap.size) (hLI : LI G cs a m s.heap.size A w H) (hS : va_S (fun q => s.heap.size ≤ q) s.heap H locs) (hl : lv_has ls 8 (lvL b a m i)) (hi : 0 ≤ i ∧ i + 5 ≤ L) (hc : cells + 8 ≤ 600000 ∧ slots + 260 ≤ 7302250) (K : KT p l e s mM below meth c G cs a m b i (cells + 8) (slots + 260) Q) : W p l e room_1 s mM #[Value.ref b] below meth c H locs cells slots Q (F0 mM 455 ls []) := by
  obtain ⟨hx, hb, hml, hown, hts, hX, hbl, hL⟩ := hC
  obtain ⟨S, ⟨n, L9⟩, ⟨tl, X⟩, ⟨k, V⟩⟩ := A
  obtain ⟨hA, hXI, hMI, hsd, hW⟩ := hLI
  have hsd : SnD a w k := hsd
  have hW : ∀ s9 j9, s9 < 2 → j9 < 8 → k s9 = true → s.heap.size ≤ w (8 * s9 + j9) ∧ ∀ i9, i9 < 10 → w (8 * s9 + j9) ≠ m i9 := hW
  have hbA : ¬ (fun q : Nat => s.heap.size ≤ q) b := Nat.not_le.mpr hbl
  have hl : lv_has ls 8 [(0, .ref b), (1, .ref (a 0)), (2, .ref (m 0)), (3, .int (zI i))] := hl
  refine lv_aload_n hx hb dL_law_455 rfl (lv_at hl 1 rfl) ?_
  refine lv_aload_n hx hb dL_law_456 rfl (lv_at hl 0 rfl) ?_
  refine lv_iload_n hx hb dL_law_457 rfl (lv_at hl 3 rfl) ?_
  refine z_iconst (n := 1) hx hb dL_law_458 ?_
  refine z_iadd hx hb dL_law_459 ?_
  refine z_sld hx hb hX hbl hbA hS (by omega) hL dL_law_460 ?_
  refine lv_aload_n hx hb dL_law_461 rfl (lv_at hl 0 rfl) ?_
  refine lv_iload_n hx hb dL_law_462 rfl (lv_at hl 3 rfl) ?_
  refine z_iconst (n := 2) hx hb dL_law_463 ?_
  refine z_iadd hx hb dL_law_464 ?_
  refine z_sld hx hb hX hbl hbA hS (by omega) hL dL_law_465 ?_
  refine lv_aload_n hx hb dL_law_466 rfl (lv_at hl 0 rfl) ?_
  refine lv_iload_n hx hb dL_law_467 rfl (lv_at hl 3 rfl) ?_
  refine z_iconst (n := 3) hx hb dL_law_468 ?_
  refine z_iadd hx hb dL_law_469 ?_
  refine z_sld hx hb hX hbl hbA hS (by omega) hL dL_law_470 ?_
  refine z_w (zrV (As := [.int (zI (sx xs (i + 1))), .int (zI (sx xs (i + 2))), .int (zI (sx xs (i + 3)))]) (rest := []) ⟨hx, hb, hml, hown, hts⟩ (c_X6_set l G cs a w S n L9 tl X k V (sx xs (i + 1)) (sx xs (i + 2)) (sx xs (i + 3)) hF.1 hsd hA (sx_r _ _) (sx_r _ _) (sx_r _ _)) gL_law_X6_set rfl qX6_set rfl rfl ⟨Nat.le_of_ble_eq_true rfl, Nat.le_of_ble_eq_true rfl⟩ hXI hK (va_recv hK.1 hXI.xo (ci := 6) (q0 := 0) rfl rfl) hl.1 rfl (Nat.le_of_ble_eq_true rfl) dL_law_471 (show cells + 0 ≤ 600000 ∧ slots + 0 ≤ 7302250 by omega)) hS (lf_a hF) (lf_a hF) (fun v H1 locs1 hpost hle hk hS1 => ?_)
  obtain ⟨rfl, hXI1⟩ := hpost
  have hMI1 := li_m hF hMI hk
  have hS := hS1
  clear hS1
  refine lv_aload_n hx hb dL_law_474 rfl (lv_at hl 2 rfl) ?_
  refine lv_aload_n hx hb dL_law_475 rfl (lv_at hl 0 rfl) ?_
  refine lv_iload_n hx hb dL_law_476 rfl (lv_at hl 3 rfl) ?_
  refine z_iconst (n := 1) hx hb dL_law_477 ?_
  refine z_iadd hx hb dL_law_478 ?_
  refine z_sld hx hb hX hbl hbA hS (by omega) hL dL_law_479 ?_
  refine lv_aload_n hx hb dL_law_480 rfl (lv_at hl 0 rfl) ?_
  refine lv_iload_n hx hb dL_law_481 rfl (lv_at hl 3 rfl) ?_
  refine z_iconst (n := 2) hx hb dL_law_482 ?_
  refine z_iadd hx hb dL_law_483 ?_
  refine z_sld hx hb hX hbl hbA hS (by omega) hL dL_law_484 ?_
  refine lv_aload_n hx hb dL_law_485 rfl (lv_at hl 0 rfl) ?_
  refine lv_iload_n hx hb dL_law_486 rfl (lv_at hl 3 rfl) ?_
  refine z_iconst (n := 3) hx hb dL_law_487 ?_
  refine z_iadd hx hb dL_law_488 ?_
  refine z_sld hx hb hX hbl hbA hS (by omega) hL dL_law_489 ?_
  obtain ⟨rn9, hMo9⟩ := hMIo hMI1
  refine z_w (zrV (As := [.int (zI (sx xs (i + 1))), .int (zI (sx xs (i + 2))), .int (zI (sx xs (i + 3)))]) (rest := [.int (zI ((setF (S, (n, L9), (tl, X), (k, V)) (sx xs (i + 1)) (sx xs (i + 2)) (sx xs (i + 3))).1))]) ⟨hx, hb, hml, hown, hts⟩ (c_X7_set l G cs m S n L9 tl X k V (sx xs (i + 1)) (sx xs (i + 2)) (sx xs (i + 3)) hF.2.1 hA (sx_r _ _) (sx_r _ _) (sx_r _ _)) gL_law_X7_set rfl qX7_set rfl rfl ⟨Nat.le_of_ble_eq_true rfl, Nat.le_of_ble_eq_true rfl⟩ hMI1 hK (va_recv hK.1 hMo9 (ci := 7) (q0 := 0) rfl rfl) hl.1 rfl (Nat.le_of_ble_eq_true rfl) dL_law_490 (show cells + 0 + 0 ≤ 600000 ∧ slots + 0 + 0 ≤ 7302250 by omega)) hS (lf_m hF) (lf_m hF) (fun v H2 locs2 hpost hle hk hS2 => ?_)
  obtain ⟨rfl, hMI2⟩ := hpost
  have hS := hS2
  clear hS2
  have hkp := congrArg Prod.fst (kp_set (A := (S, (n, L9), (tl, X), (k, V))) (sx xs (i + 1)) (sx xs (i + 2)) (sx xs (i + 3)))
  have hW2 : ∀ s9 j9, s9 < 2 → j9 < 8 → (setF (S, (n, L9), (tl, X), (k, V)) (sx xs (i + 1)) (sx xs (i + 2)) (sx xs (i + 3))).2.2.2.2.1 s9 = true → s.heap.size ≤ w (8 * s9 + j9) ∧ ∀ i9, i9 < 10 → w (8 * s9 + j9) ≠ m i9 := by rw [hkp]; exact hW
  have hsd2 : SnD a w (setF (S, (n, L9), (tl, X), (k, V)) (sx xs (i + 1)) (sx xs (i + 2)) (sx xs (i + 3))).2.2.2.2.1 := by rw [hkp]; exact hsd
  have hXI2 := li_x hF hXI1 hW2 hk
  refine lv_icmp_eq (tgt := 1082) hx hb dL_law_493 (by decide) (fun _ => ?_) (fun h9 => absurd rfl h9)
  refine W.widen (k := cells + 8) (n := slots + 260) (by omega) (by omega) ?_
  exact K (setF (S, (n, L9), (tl, X), (k, V)) (sx xs (i + 1)) (sx xs (i + 2)) (sx xs (i + 3))).2 w _ _ ⟨awf_set hA _ _ _, hXI2, hMI2, hsd2, hW2⟩ hS _ hl

set_option maxHeartbeats 4000000 in
set_option maxRecDepth 100000 in
theorem law_c10 (hC : LC p s mM c b L xs) (hK : kK G cs s) (hF : LF a m s.heap.size) (hLI : LI G cs a m s.heap.size A w H) (hS : va_S (fun q => s.heap.size ≤ q) s.heap H locs) (hl : lv_has ls 8 (lvL b a m i)) (hi : 0 ≤ i ∧ i + 5 ≤ L) (hc : cells + 8 ≤ 600000 ∧ slots + 260 ≤ 7302250) (K : KT p l e s mM below meth c G cs a m b i (cells + 8) (slots + 260) Q) : W p l e room_1 s mM #[Value.ref b] below meth c H locs cells slots Q (F0 mM 498 ls []) := by
  obtain ⟨hx, hb, hml, hown, hts, hX, hbl, hL⟩ := hC
  obtain ⟨S, ⟨n, L9⟩, ⟨tl, X⟩, ⟨k, V⟩⟩ := A
  obtain ⟨hA, hXI, hMI, hsd, hW⟩ := hLI
  have hsd : SnD a w k := hsd
  have hW : ∀ s9 j9, s9 < 2 → j9 < 8 → k s9 = true → s.heap.size ≤ w (8 * s9 + j9) ∧ ∀ i9, i9 < 10 → w (8 * s9 + j9) ≠ m i9 := hW
  have hbA : ¬ (fun q : Nat => s.heap.size ≤ q) b := Nat.not_le.mpr hbl
  have hl : lv_has ls 8 [(0, .ref b), (1, .ref (a 0)), (2, .ref (m 0)), (3, .int (zI i))] := hl
  refine lv_aload_n hx hb dL_law_498 rfl (lv_at hl 1 rfl) ?_
  refine lv_aload_n hx hb dL_law_499 rfl (lv_at hl 0 rfl) ?_
  refine lv_iload_n hx hb dL_law_500 rfl (lv_at hl 3 rfl) ?_
  refine z_iconst (n := 1) hx hb dL_law_501 ?_
  refine z_iadd hx hb dL_law_502 ?_
  refine z_sld hx hb hX hbl hbA hS (by omega) hL dL_law_503 ?_
  refine lv_aload_n hx hb dL_law_504 rfl (lv_at hl 0 rfl) ?_
  refine lv_iload_n hx hb dL_law_505 rfl (lv_at hl 3 rfl) ?_
  refine z_iconst (n := 2) hx hb dL_law_506 ?_
  refine z_iadd hx hb dL_law_507 ?_
  refine z_sld hx hb hX hbl hbA hS (by omega) hL dL_law_508 ?_
  refine lv_aload_n hx hb dL_law_509 rfl (lv_at hl 0 rfl) ?_
  refine lv_iload_n hx hb dL_law_510 rfl (lv_at hl 3 rfl) ?_
  refine z_iconst (n := 3) hx hb dL_law_511 ?_
  refine z_iadd hx hb dL_law_512 ?_
  refine z_sld hx hb hX hbl hbA hS (by omega) hL dL_law_513 ?_
  refine lv_aload_n hx hb dL_law_514 rfl (lv_at hl 0 rfl) ?_
  refine lv_iload_n hx hb dL_law_515 rfl (lv_at hl 3 rfl) ?_
  refine z_iconst (n := 4) hx hb dL_law_516 ?_
  refine z_iadd hx hb dL_law_517 ?_
  refine z_sld hx hb hX hbl hbA hS (by omega) hL dL_law_518 ?_
  refine z_w (zrV (As := [.int (zI (sx xs (i + 1))), .int (zI (sx xs (i + 2))), .int (zI (sx xs (i + 3))), .int (zI (sx xs (i + 4)))]) (rest := []) ⟨hx, hb, hml, hown, hts⟩ (c_X6_swap l G cs a w S n L9 tl X k V (sx xs (i + 1)) (sx xs (i + 2)) (sx xs (i + 3)) (sx xs (i + 4)) hF.1 hsd hA (sx_r _ _) (sx_r _ _) (sx_r _ _) (sx_r _ _)) gL_law_X6_swap rfl qX6_swap rfl rfl ⟨Nat.le_of_ble_eq_true rfl, Nat.le_of_ble_eq_true rfl⟩ hXI hK (va_recv hK.1 hXI.xo (ci := 6) (q0 := 0) rfl rfl) hl.1 rfl (Nat.le_of_ble_eq_true rfl) dL_law_519 (show cells + 0 ≤ 600000 ∧ slots + 0 ≤ 7302250 by omega)) hS (lf_a hF) (lf_a hF) (fun v H1 locs1 hpost hle hk hS1 => ?_)
  obtain ⟨rfl, hXI1⟩ := hpost
  have hMI1 := li_m hF hMI hk
  have hS := hS1
  clear hS1
  refine lv_aload_n hx hb dL_law_522 rfl (lv_at hl 2 rfl) ?_
  refine lv_aload_n hx hb dL_law_523 rfl (lv_at hl 0 rfl) ?_
  refine lv_iload_n hx hb dL_law_524 rfl (lv_at hl 3 rfl) ?_
  refine z_iconst (n := 1) hx hb dL_law_525 ?_
  refine z_iadd hx hb dL_law_526 ?_
  refine z_sld hx hb hX hbl hbA hS (by omega) hL dL_law_527 ?_
  refine lv_aload_n hx hb dL_law_528 rfl (lv_at hl 0 rfl) ?_
  refine lv_iload_n hx hb dL_law_529 rfl (lv_at hl 3 rfl) ?_
  refine z_iconst (n := 2) hx hb dL_law_530 ?_
  refine z_iadd hx hb dL_law_531 ?_
  refine z_sld hx hb hX hbl hbA hS (by omega) hL dL_law_532 ?_
  refine lv_aload_n hx hb dL_law_533 rfl (lv_at hl 0 rfl) ?_
  refine lv_iload_n hx hb dL_law_534 rfl (lv_at hl 3 rfl) ?_
  refine z_iconst (n := 3) hx hb dL_law_535 ?_
  refine z_iadd hx hb dL_law_536 ?_
  refine z_sld hx hb hX hbl hbA hS (by omega) hL dL_law_537 ?_
  refine lv_aload_n hx hb dL_law_538 rfl (lv_at hl 0 rfl) ?_
  refine lv_iload_n hx hb dL_law_539 rfl (lv_at hl 3 rfl) ?_
  refine z_iconst (n := 4) hx hb dL_law_540 ?_
  refine z_iadd hx hb dL_law_541 ?_
  refine z_sld hx hb hX hbl hbA hS (by omega) hL dL_law_542 ?_
  obtain ⟨rn9, hMo9⟩ := hMIo hMI1
  refine z_w (zrV (As := [.int (zI (sx xs (i + 1))), .int (zI (sx xs (i + 2))), .int (zI (sx xs (i + 3))), .int (zI (sx xs (i + 4)))]) (rest := [.int (zI ((swapF (S, (n, L9), (tl, X), (k, V)) (sx xs (i + 1)) (sx xs (i + 2)) (sx xs (i + 3)) (sx xs (i + 4))).1))]) ⟨hx, hb, hml, hown, hts⟩ (c_X7_swap l G cs m S n L9 tl X k V (sx xs (i + 1)) (sx xs (i + 2)) (sx xs (i + 3)) (sx xs (i + 4)) hF.2.1 hA (sx_r _ _) (sx_r _ _) (sx_r _ _) (sx_r _ _)) gL_law_X7_swap rfl qX7_swap rfl rfl ⟨Nat.le_of_ble_eq_true rfl, Nat.le_of_ble_eq_true rfl⟩ hMI1 hK (va_recv hK.1 hMo9 (ci := 7) (q0 := 0) rfl rfl) hl.1 rfl (Nat.le_of_ble_eq_true rfl) dL_law_543 (show cells + 0 + 0 ≤ 600000 ∧ slots + 0 + 0 ≤ 7302250 by omega)) hS (lf_m hF) (lf_m hF) (fun v H2 locs2 hpost hle hk hS2 => ?_)
  obtain ⟨rfl, hMI2⟩ := hpost
  have hS := hS2
  clear hS2
  have hkp := congrArg Prod.fst (kp_swap (A := (S, (n, L9), (tl, X), (k, V))) (sx xs (i + 1)) (sx xs (i + 2)) (sx xs (i + 3)) (sx xs (i + 4)))
  have hW2 : ∀ s9 j9, s9 < 2 → j9 < 8 → (swapF (S, (n, L9), (tl, X), (k, V)) (sx xs (i + 1)) (sx xs (i + 2)) (sx xs (i + 3)) (sx xs (i + 4))).2.2.2.2.1 s9 = true → s.heap.size ≤ w (8 * s9 + j9) ∧ ∀ i9, i9 < 10 → w (8 * s9 + j9) ≠ m i9 := by rw [hkp]; exact hW
  have hsd2 : SnD a w (swapF (S, (n, L9), (tl, X), (k, V)) (sx xs (i + 1)) (sx xs (i + 2)) (sx xs (i + 3)) (sx xs (i + 4))).2.2.2.2.1 := by rw [hkp]; exact hsd
  have hXI2 := li_x hF hXI1 hW2 hk
  refine lv_icmp_eq (tgt := 1082) hx hb dL_law_546 (by decide) (fun _ => ?_) (fun h9 => absurd rfl h9)
  refine W.widen (k := cells + 8) (n := slots + 260) (by omega) (by omega) ?_
  exact K (swapF (S, (n, L9), (tl, X), (k, V)) (sx xs (i + 1)) (sx xs (i + 2)) (sx xs (i + 3)) (sx xs (i + 4))).2 w _ _ ⟨awf_swap hA _ _ _ _, hXI2, hMI2, hsd2, hW2⟩ hS _ hl

set_option maxHeartbeats 4000000 in
set_option maxRecDepth 100000 in
theorem law_c11 (hC : LC p s mM c b L xs) (hK : kK G cs s) (hF : LF a m s.heap.size) (hLI : LI G cs a m s.heap.size A w H) (hS : va_S (fun q => s.heap.size ≤ q) s.heap H locs) (hl : lv_has ls 8 (lvL b a m i)) (hi : 0 ≤ i ∧ i + 5 ≤ L) (hc : cells + 8 ≤ 600000 ∧ slots + 260 ≤ 7302250) (K : KT p l e s mM below meth c G cs a m b i (cells + 8) (slots + 260) Q) : W p l e room_1 s mM #[Value.ref b] below meth c H locs cells slots Q (F0 mM 551 ls []) := by
  obtain ⟨hx, hb, hml, hown, hts, hX, hbl, hL⟩ := hC
  obtain ⟨S, ⟨n, L9⟩, ⟨tl, X⟩, ⟨k, V⟩⟩ := A
  obtain ⟨hA, hXI, hMI, hsd, hW⟩ := hLI
  have hsd : SnD a w k := hsd
  have hW : ∀ s9 j9, s9 < 2 → j9 < 8 → k s9 = true → s.heap.size ≤ w (8 * s9 + j9) ∧ ∀ i9, i9 < 10 → w (8 * s9 + j9) ≠ m i9 := hW
  have hbA : ¬ (fun q : Nat => s.heap.size ≤ q) b := Nat.not_le.mpr hbl
  have hl : lv_has ls 8 [(0, .ref b), (1, .ref (a 0)), (2, .ref (m 0)), (3, .int (zI i))] := hl
  refine lv_aload_n hx hb dL_law_551 rfl (lv_at hl 1 rfl) ?_
  refine lv_aload_n hx hb dL_law_552 rfl (lv_at hl 0 rfl) ?_
  refine lv_iload_n hx hb dL_law_553 rfl (lv_at hl 3 rfl) ?_
  refine z_iconst (n := 1) hx hb dL_law_554 ?_
  refine z_iadd hx hb dL_law_555 ?_
  refine z_sld hx hb hX hbl hbA hS (by omega) hL dL_law_556 ?_
  refine z_w (zrV (As := [.int (zI (sx xs (i + 1)))]) (rest := []) ⟨hx, hb, hml, hown, hts⟩ (c_X6_setLimit l G cs a w S n L9 tl X k V (sx xs (i + 1)) hF.1 hsd hA (sx_r _ _)) gL_law_X6_setLimit rfl qX6_setLimit rfl rfl ⟨Nat.le_of_ble_eq_true rfl, Nat.le_of_ble_eq_true rfl⟩ hXI hK (va_recv hK.1 hXI.xo (ci := 6) (q0 := 0) rfl rfl) hl.1 rfl (Nat.le_of_ble_eq_true rfl) dL_law_557 (show cells + 0 ≤ 600000 ∧ slots + 0 ≤ 7302250 by omega)) hS (lf_a hF) (lf_a hF) (fun v H1 locs1 hpost hle hk hS1 => ?_)
  obtain ⟨rfl, hXI1⟩ := hpost
  have hMI1 := li_m hF hMI hk
  have hS := hS1
  clear hS1
  refine lv_aload_n hx hb dL_law_560 rfl (lv_at hl 2 rfl) ?_
  refine lv_aload_n hx hb dL_law_561 rfl (lv_at hl 0 rfl) ?_
  refine lv_iload_n hx hb dL_law_562 rfl (lv_at hl 3 rfl) ?_
  refine z_iconst (n := 1) hx hb dL_law_563 ?_
  refine z_iadd hx hb dL_law_564 ?_
  refine z_sld hx hb hX hbl hbA hS (by omega) hL dL_law_565 ?_
  obtain ⟨rn9, hMo9⟩ := hMIo hMI1
  refine z_w (zrV (As := [.int (zI (sx xs (i + 1)))]) (rest := [.int (zI ((setLimitF (S, (n, L9), (tl, X), (k, V)) (sx xs (i + 1))).1))]) ⟨hx, hb, hml, hown, hts⟩ (c_X7_setLimit l G cs m S n L9 tl X k V (sx xs (i + 1)) hF.2.1 hA (sx_r _ _)) gL_law_X7_setLimit rfl qX7_setLimit rfl rfl ⟨Nat.le_of_ble_eq_true rfl, Nat.le_of_ble_eq_true rfl⟩ hMI1 hK (va_recv hK.1 hMo9 (ci := 7) (q0 := 0) rfl rfl) hl.1 rfl (Nat.le_of_ble_eq_true rfl) dL_law_566 (show cells + 0 + 0 ≤ 600000 ∧ slots + 0 + 0 ≤ 7302250 by omega)) hS (lf_m hF) (lf_m hF) (fun v H2 locs2 hpost hle hk hS2 => ?_)
  obtain ⟨rfl, hMI2⟩ := hpost
  have hS := hS2
  clear hS2
  have hkp := congrArg Prod.fst (kp_setLimit (A := (S, (n, L9), (tl, X), (k, V))) (sx xs (i + 1)))
  have hW2 : ∀ s9 j9, s9 < 2 → j9 < 8 → (setLimitF (S, (n, L9), (tl, X), (k, V)) (sx xs (i + 1))).2.2.2.2.1 s9 = true → s.heap.size ≤ w (8 * s9 + j9) ∧ ∀ i9, i9 < 10 → w (8 * s9 + j9) ≠ m i9 := by rw [hkp]; exact hW
  have hsd2 : SnD a w (setLimitF (S, (n, L9), (tl, X), (k, V)) (sx xs (i + 1))).2.2.2.2.1 := by rw [hkp]; exact hsd
  have hXI2 := li_x hF hXI1 hW2 hk
  refine lv_icmp_eq (tgt := 1082) hx hb dL_law_569 (by decide) (fun _ => ?_) (fun h9 => absurd rfl h9)
  refine W.widen (k := cells + 8) (n := slots + 260) (by omega) (by omega) ?_
  exact K (setLimitF (S, (n, L9), (tl, X), (k, V)) (sx xs (i + 1))).2 w _ _ ⟨awf_setLimit hA _, hXI2, hMI2, hsd2, hW2⟩ hS _ hl

set_option maxHeartbeats 4000000 in
set_option maxRecDepth 100000 in
theorem law_c12 (hC : LC p s mM c b L xs) (hK : kK G cs s) (hF : LF a m s.heap.size) (hLI : LI G cs a m s.heap.size A w H) (hS : va_S (fun q => s.heap.size ≤ q) s.heap H locs) (hl : lv_has ls 8 (lvL b a m i)) (hi : 0 ≤ i ∧ i + 5 ≤ L) (hc : cells + 8 ≤ 600000 ∧ slots + 260 ≤ 7302250) (K : KT p l e s mM below meth c G cs a m b i (cells + 8) (slots + 260) Q) : W p l e room_1 s mM #[Value.ref b] below meth c H locs cells slots Q (F0 mM 574 ls []) := by
  obtain ⟨hx, hb, hml, hown, hts, hX, hbl, hL⟩ := hC
  obtain ⟨S, ⟨n, L9⟩, ⟨tl, X⟩, ⟨k, V⟩⟩ := A
  obtain ⟨hA, hXI, hMI, hsd, hW⟩ := hLI
  have hsd : SnD a w k := hsd
  have hW : ∀ s9 j9, s9 < 2 → j9 < 8 → k s9 = true → s.heap.size ≤ w (8 * s9 + j9) ∧ ∀ i9, i9 < 10 → w (8 * s9 + j9) ≠ m i9 := hW
  have hbA : ¬ (fun q : Nat => s.heap.size ≤ q) b := Nat.not_le.mpr hbl
  have hl : lv_has ls 8 [(0, .ref b), (1, .ref (a 0)), (2, .ref (m 0)), (3, .int (zI i))] := hl
  refine lv_aload_n hx hb dL_law_574 rfl (lv_at hl 1 rfl) ?_
  refine lv_aload_n hx hb dL_law_575 rfl (lv_at hl 0 rfl) ?_
  refine lv_iload_n hx hb dL_law_576 rfl (lv_at hl 3 rfl) ?_
  refine z_iconst (n := 1) hx hb dL_law_577 ?_
  refine z_iadd hx hb dL_law_578 ?_
  refine z_sld hx hb hX hbl hbA hS (by omega) hL dL_law_579 ?_
  refine z_w (zrV (As := [.int (zI (sx xs (i + 1)))]) (rest := []) ⟨hx, hb, hml, hown, hts⟩ (c_X6_setStride l G cs a w S n L9 tl X k V (sx xs (i + 1)) hF.1 hsd hA (sx_r _ _)) gL_law_X6_setStride rfl qX6_setStride rfl rfl ⟨Nat.le_of_ble_eq_true rfl, Nat.le_of_ble_eq_true rfl⟩ hXI hK (va_recv hK.1 hXI.xo (ci := 6) (q0 := 0) rfl rfl) hl.1 rfl (Nat.le_of_ble_eq_true rfl) dL_law_580 (show cells + 0 ≤ 600000 ∧ slots + 0 ≤ 7302250 by omega)) hS (lf_a hF) (lf_a hF) (fun v H1 locs1 hpost hle hk hS1 => ?_)
  obtain ⟨rfl, hXI1⟩ := hpost
  have hMI1 := li_m hF hMI hk
  have hS := hS1
  clear hS1
  refine lv_aload_n hx hb dL_law_583 rfl (lv_at hl 2 rfl) ?_
  refine lv_aload_n hx hb dL_law_584 rfl (lv_at hl 0 rfl) ?_
  refine lv_iload_n hx hb dL_law_585 rfl (lv_at hl 3 rfl) ?_
  refine z_iconst (n := 1) hx hb dL_law_586 ?_
  refine z_iadd hx hb dL_law_587 ?_
  refine z_sld hx hb hX hbl hbA hS (by omega) hL dL_law_588 ?_
  obtain ⟨rn9, hMo9⟩ := hMIo hMI1
  refine z_w (zrV (As := [.int (zI (sx xs (i + 1)))]) (rest := [.int (zI ((setStrideF (S, (n, L9), (tl, X), (k, V)) (sx xs (i + 1))).1))]) ⟨hx, hb, hml, hown, hts⟩ (c_X7_setStride l G cs m S n L9 tl X k V (sx xs (i + 1)) hF.2.1 hA (sx_r _ _)) gL_law_X7_setStride rfl qX7_setStride rfl rfl ⟨Nat.le_of_ble_eq_true rfl, Nat.le_of_ble_eq_true rfl⟩ hMI1 hK (va_recv hK.1 hMo9 (ci := 7) (q0 := 0) rfl rfl) hl.1 rfl (Nat.le_of_ble_eq_true rfl) dL_law_589 (show cells + 0 + 0 ≤ 600000 ∧ slots + 0 + 0 ≤ 7302250 by omega)) hS (lf_m hF) (lf_m hF) (fun v H2 locs2 hpost hle hk hS2 => ?_)
  obtain ⟨rfl, hMI2⟩ := hpost
  have hS := hS2
  clear hS2
  have hkp := congrArg Prod.fst (kp_setStride (A := (S, (n, L9), (tl, X), (k, V))) (sx xs (i + 1)))
  have hW2 : ∀ s9 j9, s9 < 2 → j9 < 8 → (setStrideF (S, (n, L9), (tl, X), (k, V)) (sx xs (i + 1))).2.2.2.2.1 s9 = true → s.heap.size ≤ w (8 * s9 + j9) ∧ ∀ i9, i9 < 10 → w (8 * s9 + j9) ≠ m i9 := by rw [hkp]; exact hW
  have hsd2 : SnD a w (setStrideF (S, (n, L9), (tl, X), (k, V)) (sx xs (i + 1))).2.2.2.2.1 := by rw [hkp]; exact hsd
  have hXI2 := li_x hF hXI1 hW2 hk
  refine lv_icmp_eq (tgt := 1082) hx hb dL_law_592 (by decide) (fun _ => ?_) (fun h9 => absurd rfl h9)
  refine W.widen (k := cells + 8) (n := slots + 260) (by omega) (by omega) ?_
  exact K (setStrideF (S, (n, L9), (tl, X), (k, V)) (sx xs (i + 1))).2 w _ _ ⟨awf_setStride hA _, hXI2, hMI2, hsd2, hW2⟩ hS _ hl

set_option maxHeartbeats 4000000 in
set_option maxRecDepth 100000 in
theorem law_c13 (hC : LC p s mM c b L xs) (hK : kK G cs s) (hF : LF a m s.heap.size) (hLI : LI G cs a m s.heap.size A w H) (hS : va_S (fun q => s.heap.size ≤ q) s.heap H locs) (hl : lv_has ls 8 (lvL b a m i)) (hi : 0 ≤ i ∧ i + 5 ≤ L) (hc : cells + 8 ≤ 600000 ∧ slots + 260 ≤ 7302250) (K : KT p l e s mM below meth c G cs a m b i (cells + 8) (slots + 260) Q) : W p l e room_1 s mM #[Value.ref b] below meth c H locs cells slots Q (F0 mM 597 ls []) := by
  obtain ⟨hx, hb, hml, hown, hts, hX, hbl, hL⟩ := hC
  obtain ⟨S, ⟨n, L9⟩, ⟨tl, X⟩, ⟨k, V⟩⟩ := A
  obtain ⟨hA, hXI, hMI, hsd, hW⟩ := hLI
  have hsd : SnD a w k := hsd
  have hW : ∀ s9 j9, s9 < 2 → j9 < 8 → k s9 = true → s.heap.size ≤ w (8 * s9 + j9) ∧ ∀ i9, i9 < 10 → w (8 * s9 + j9) ≠ m i9 := hW
  have hbA : ¬ (fun q : Nat => s.heap.size ≤ q) b := Nat.not_le.mpr hbl
  have hl : lv_has ls 8 [(0, .ref b), (1, .ref (a 0)), (2, .ref (m 0)), (3, .int (zI i))] := hl
  refine lv_aload_n hx hb dL_law_597 rfl (lv_at hl 1 rfl) ?_
  refine lv_aload_n hx hb dL_law_598 rfl (lv_at hl 0 rfl) ?_
  refine lv_iload_n hx hb dL_law_599 rfl (lv_at hl 3 rfl) ?_
  refine z_iconst (n := 1) hx hb dL_law_600 ?_
  refine z_iadd hx hb dL_law_601 ?_
  refine z_sld hx hb hX hbl hbA hS (by omega) hL dL_law_602 ?_
  refine z_w (zrV (As := [.int (zI (sx xs (i + 1)))]) (rest := []) ⟨hx, hb, hml, hown, hts⟩ (c_X6_next l G cs a w S n L9 tl X k V (sx xs (i + 1)) hF.1 hsd hA (sx_r _ _)) gL_law_X6_next rfl qX6_next rfl rfl ⟨Nat.le_of_ble_eq_true rfl, Nat.le_of_ble_eq_true rfl⟩ hXI hK (va_recv hK.1 hXI.xo (ci := 6) (q0 := 0) rfl rfl) hl.1 rfl (Nat.le_of_ble_eq_true rfl) dL_law_603 (show cells + 0 ≤ 600000 ∧ slots + 0 ≤ 7302250 by omega)) hS (lf_a hF) (lf_a hF) (fun v H1 locs1 hpost hle hk hS1 => ?_)
  obtain ⟨rfl, hXI1⟩ := hpost
  have hMI1 := li_m hF hMI hk
  have hS := hS1
  clear hS1
  refine lv_aload_n hx hb dL_law_606 rfl (lv_at hl 2 rfl) ?_
  refine lv_aload_n hx hb dL_law_607 rfl (lv_at hl 0 rfl) ?_
  refine lv_iload_n hx hb dL_law_608 rfl (lv_at hl 3 rfl) ?_
  refine z_iconst (n := 1) hx hb dL_law_609 ?_
  refine z_iadd hx hb dL_law_610 ?_
  refine z_sld hx hb hX hbl hbA hS (by omega) hL dL_law_611 ?_
  obtain ⟨rn9, hMo9⟩ := hMIo hMI1
  refine z_w (zrV (As := [.int (zI (sx xs (i + 1)))]) (rest := [.int (zI ((nextF (S, (n, L9), (tl, X), (k, V)) (sx xs (i + 1))).1))]) ⟨hx, hb, hml, hown, hts⟩ (c_X7_next l G cs m S n L9 tl X k V (sx xs (i + 1)) hF.2.1 hA (sx_r _ _)) gL_law_X7_next rfl qX7_next rfl rfl ⟨Nat.le_of_ble_eq_true rfl, Nat.le_of_ble_eq_true rfl⟩ hMI1 hK (va_recv hK.1 hMo9 (ci := 7) (q0 := 0) rfl rfl) hl.1 rfl (Nat.le_of_ble_eq_true rfl) dL_law_612 (show cells + 0 + 0 ≤ 600000 ∧ slots + 0 + 0 ≤ 7302250 by omega)) hS (lf_m hF) (lf_m hF) (fun v H2 locs2 hpost hle hk hS2 => ?_)
  obtain ⟨rfl, hMI2⟩ := hpost
  have hS := hS2
  clear hS2
  have hkp := congrArg Prod.fst (kp_next (A := (S, (n, L9), (tl, X), (k, V))) (sx xs (i + 1)))
  have hW2 : ∀ s9 j9, s9 < 2 → j9 < 8 → (nextF (S, (n, L9), (tl, X), (k, V)) (sx xs (i + 1))).2.2.2.2.1 s9 = true → s.heap.size ≤ w (8 * s9 + j9) ∧ ∀ i9, i9 < 10 → w (8 * s9 + j9) ≠ m i9 := by rw [hkp]; exact hW
  have hsd2 : SnD a w (nextF (S, (n, L9), (tl, X), (k, V)) (sx xs (i + 1))).2.2.2.2.1 := by rw [hkp]; exact hsd
  have hXI2 := li_x hF hXI1 hW2 hk
  refine lv_icmp_eq (tgt := 1082) hx hb dL_law_615 (by decide) (fun _ => ?_) (fun h9 => absurd rfl h9)
  refine W.widen (k := cells + 8) (n := slots + 260) (by omega) (by omega) ?_
  exact K (nextF (S, (n, L9), (tl, X), (k, V)) (sx xs (i + 1))).2 w _ _ ⟨awf_next hA _, hXI2, hMI2, hsd2, hW2⟩ hS _ hl
end LW
