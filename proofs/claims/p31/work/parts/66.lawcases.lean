theorem rm1 {c0 k0 s0 n0 : Nat} (h : c0 + k0 ≤ 600000 ∧ s0 + n0 ≤ 7302249) : c0 + k0 ≤ room_1.cells ∧ s0 + n0 ≤ room_1.slots := h
/-- what the law's frame gives -/
def LC (p : Program) (s : State) (mM : MethodId) (c : Code) (b L : Nat) (xs : Nat → Int32) : Prop := p.tables.exec = Jvm.exec ∧ c.code = code ∧ c.maxLocals = 16 ∧ s.vm.findClass RL = some mM.cls ∧ (∀ w ∈ wsL_law, w.before #[Value.ref b] s = true) ∧ va_X b L xs s s.heap ∧ b < s.heap.size ∧ L ≤ 260
/-- the places of the object and of the palettes -/
def LPl (a u : Nat → Nat) (z : Nat) : Prop := Inj a 62 ∧ (∀ i, i < 62 → a i ≠ u 0) ∧ (∀ i, i < 62 → z ≤ a i) ∧ z ≤ u 0
abbrev paW (cs : Nat → ClassId) (u : Nat → Nat) (P : Int → Int) : va_W := [(u 0, .inl (cs 0, 20, .inl (aI P)))]
/-- what holds of the object between the rounds -/
def LI (A : AS) (P : Int → Int) (f : Int) : Prop := GA A ∧ (1 ≤ A.1 0 0 ∧ A.1 0 0 ≤ 5) ∧ (1 ≤ A.1 0 1 ∧ A.1 0 1 ≤ 7) ∧ A.1 0 4 ≤ f ∧ PalR A.1 P
theorem li_same {A B : AS} {P : Int → Int} {f f2 : Int} (h : LI A P f) (hB : GA B) (e0 : B.1 0 0 = A.1 0 0) (e1 : B.1 0 1 = A.1 0 1) (e4 : B.1 0 4 = A.1 0 4) (e2 : B.1 2 = A.1 2) (hf : f ≤ f2) : LI B P f2 := ⟨hB, by rw [e0]; exact h.2.1, by rw [e1]; exact h.2.2.1, by rw [e4]; exact Int.le_trans h.2.2.2.1 hf, pal_same h.2.2.2.2 e2⟩
/-- how the law goes on behind its act -/
def KT (p : Program) (l : Launch) (e : Env) (s : State) (mM : MethodId) (below : List Frame) (meth : Method) (c : Code) (G : va_G) (cs : Nat → ClassId) (a u : Nat → Nat) (b : Nat) (i h : Int) (cells slots : Nat) (Q : State → Prop) : Prop :=
  ∀ (A2 : AS) (P2 : Int → Int) (H2 : Heap) (locs2 : List Loc) (ls2 : Array Slot), LI A2 P2 (50 * (i + 1)) → XI G cs a a A2 H2 → va_P G vwCl (paW cs u P2) H2 → va_S (fun q => s.heap.size ≤ q) s.heap H2 locs2 → lv_has ls2 16 [(0, .ref b), (1, .ref (a 0)), (2, .ref (u 0)), (3, .int (zI i)), (5, .int (zI h)), (11, .int (zI 1))] → W p l e room_1 s mM #[Value.ref b] below meth c H2 locs2 cells slots Q (F0 mM 964 ls2 [])
/-- how it goes on behind a round -/
def KR (p : Program) (l : Launch) (e : Env) (s : State) (mM : MethodId) (below : List Frame) (meth : Method) (c : Code) (G : va_G) (cs : Nat → ClassId) (a u : Nat → Nat) (b : Nat) (i : Int) (A : AS) (P : Int → Int) (cells slots : Nat) (Q : State → Prop) : Prop :=
  ∀ (H2 : Heap) (locs2 : List Loc) (ls2 : Array Slot), XI G cs a a A H2 → va_P G vwCl (paW cs u P) H2 → va_S (fun q => s.heap.size ≤ q) s.heap H2 locs2 → lv_has ls2 16 [(0, .ref b), (1, .ref (a 0)), (2, .ref (u 0)), (3, .int (zI i))] → W p l e room_1 s mM #[Value.ref b] below meth c H2 locs2 cells slots Q (F0 mM 1015 ls2 [])
section LW
variable {p : Program} {l : Launch} {e : Env} {s : State} {mM : MethodId} {below : List Frame} {meth : Method} {c : Code} {H : Heap} {locs : List Loc} {cells slots : Nat} {Q : State → Prop} {ls : Array Slot} {G : va_G} {cs : Nat → ClassId} {a u : Nat → Nat} {A : AS} {P : Int → Int} {b L : Nat} {xs : Nat → Int32} {i g h x y : Int}
set_option maxHeartbeats 4000000 in
set_option maxRecDepth 100000 in
theorem law_s0 (hC : LC p s mM c b L xs) (hK : kK G cs s) (hF : LPl a u s.heap.size) (hXI : XI G cs a a A H) (hPa : va_P G vwCl (paW cs u P) H) (hS : va_S (fun q => s.heap.size ≤ q) s.heap H locs) (hl : lv_has ls 16 [(11, .int (zI 1)), (10, .int (zI y)), (9, .int (zI x)), (8, .int (zI (A.1 0 1))), (7, .int (zI (A.1 0 0))), (5, .int (zI h)), (4, .int (zI g)), (3, .int (zI i)), (2, .ref (u 0)), (1, .ref (a 0)), (0, .ref b)]) (hLI : LI A P (50 * i)) (hi : 0 ≤ i ∧ i < 30) (hpx : 0 ≤ x ∧ x < A.1 0 0) (hqy : 0 ≤ y ∧ y < A.1 0 1) (hc : cells + 1 ≤ 600000 ∧ slots + 64 ≤ 7302249) (K : KT p l e s mM below meth c G cs a u b i h (cells + 1) (slots + 64) Q) : W p l e room_1 s mM #[Value.ref b] below meth c H locs cells slots Q (F0 mM 142 ls []) := by
  obtain ⟨hx, hb, hml, hown, hts, hX, hbl, hL⟩ := hC
  obtain ⟨ia, hau, hza, hzu⟩ := hF
  have hsA : ∀ q, AX a 0 62 q → s.heap.size ≤ q := fun q h9 => by obtain ⟨i9, _, h2, h3⟩ := h9; rw [h3]; exact hza i9 h2
  have hLI0 := hLI
  obtain ⟨hA, h00, h01, h04, hPal⟩ := hLI
  have hwf := hA.1.1
  obtain ⟨w0, w1, w2, w3, w4, wP, wC, wS, wX⟩ := id hwf
  refine lv_iload hx hb dL_law_142 (lv_at hl 4 rfl) ?_
  refine z_iconst (n := 4) hx hb dL_law_144 ?_
  refine z_icmp_gt (tgt := 157) hx hb dL_law_145 (by decide) (by omega) (by omega) (fun c101 => ?_) (fun c101 => ?_)
  · skip
    refine z_iconst (n := 1) hx hb dL_law_157 ?_
    refine lv_goto (tgt := 162) hx hb dL_law_158 (by decide) ?_
    refine lv_istore (lv' := [(11, .int (zI 1)), (10, .int (zI y)), (9, .int (zI x)), (8, .int (zI (A.1 0 1))), (7, .int (zI (A.1 0 0))), (5, .int (zI h)), (4, .int (zI g)), (3, .int (zI i)), (2, .ref (u 0)), (1, .ref (a 0)), (0, .ref b)]) hx hb dL_law_162 hl (by decide) rfl (fun ls hl => ?_)
    refine lv_goto (tgt := 964) hx hb dL_law_164 (by decide) ?_
    refine W.widen (k := cells + 1) (n := slots + 64) (by omega) (by omega) ?_
    exact K A P H locs ls (li_same hLI0 hA rfl rfl rfl rfl (by omega)) hXI hPa hS (lv_sub hl [10, 9, 8, 7, 5, 0] rfl)
  · skip
    refine lv_aload_n hx hb dL_law_148 rfl (lv_at hl 9 rfl) ?_
    obtain ⟨C, eC, hC, hC0, hC1, hC4, hC2⟩ := addPart_ok hA (by omega)
    refine z_w (zrV (As := []) (rest := []) ⟨hx, hb, hml, hown, hts⟩ (k_addPart l G cs a A  ia hA ) gL_law_X6_addPart rfl qX6_addPart rfl rfl ⟨Nat.le_of_ble_eq_true rfl, Nat.le_of_ble_eq_true rfl⟩ hXI hK (va_recv hK.1 hXI.xo (ci := 6) (q0 := 0) rfl rfl) hl.1 rfl (Nat.le_of_ble_eq_true rfl) dL_law_149 (rm1 (by omega))) hS (fun q h9 => hsA q h9) (fun q h9 => hsA q h9) (fun v H locs hpost hle hk hS => ?_)
    obtain ⟨hv, hXI⟩ := hpost
    have hE : addPartF A = (A.1 0 0, C) := eC
    have hv : v = .int (zI (A.1 0 0)) := by rw [hE] at hv; exact hv
    have hXI : XI G cs a a C H := by rw [hE] at hXI; exact hXI
    subst hv
    clear hE
    have hPa := keepO (Ord.of (b := u) (n := 1) rfl) hPa hk (fun j hj h9 => by obtain ⟨i9, h1, h2, h3⟩ := h9; exact hau i9 h2 (by rw [show j = 0 by omega] at h3; exact h3.symm))
    refine lv_iload hx hb dL_law_152 (lv_at hl 4 rfl) ?_
    refine z_icmp_ne (tgt := 161) hx hb dL_law_154 (by decide) (by omega) (by omega) (fun c102 => ?_) (fun c102 => ?_)
    · skip
      exfalso; omega
    · skip
      refine z_iconst (n := 1) hx hb dL_law_157 ?_
      refine lv_goto (tgt := 162) hx hb dL_law_158 (by decide) ?_
      refine lv_istore (lv' := [(11, .int (zI 1)), (10, .int (zI y)), (9, .int (zI x)), (8, .int (zI (A.1 0 1))), (7, .int (zI (A.1 0 0))), (5, .int (zI h)), (4, .int (zI g)), (3, .int (zI i)), (2, .ref (u 0)), (1, .ref (a 0)), (0, .ref b)]) hx hb dL_law_162 hl (by decide) rfl (fun ls hl => ?_)
      refine lv_goto (tgt := 964) hx hb dL_law_164 (by decide) ?_
      refine W.widen (k := cells + 1) (n := slots + 64) (by omega) (by omega) ?_
      exact K C P H locs ls ⟨hC, by omega, by omega, by omega, pal_same hPal hC2⟩ hXI hPa hS (lv_sub hl [10, 9, 8, 7, 5, 0] rfl)

set_option maxHeartbeats 4000000 in
set_option maxRecDepth 100000 in
theorem law_s1 (hC : LC p s mM c b L xs) (hK : kK G cs s) (hF : LPl a u s.heap.size) (hXI : XI G cs a a A H) (hPa : va_P G vwCl (paW cs u P) H) (hS : va_S (fun q => s.heap.size ≤ q) s.heap H locs) (hl : lv_has ls 16 [(11, .int (zI 1)), (10, .int (zI y)), (9, .int (zI x)), (8, .int (zI (A.1 0 1))), (7, .int (zI (A.1 0 0))), (5, .int (zI h)), (4, .int (zI g)), (3, .int (zI i)), (2, .ref (u 0)), (1, .ref (a 0)), (0, .ref b)]) (hLI : LI A P (50 * i)) (hi : 0 ≤ i ∧ i < 30) (hpx : 0 ≤ x ∧ x < A.1 0 0) (hqy : 0 ≤ y ∧ y < A.1 0 1) (hc : cells + 1 ≤ 600000 ∧ slots + 64 ≤ 7302249) (K : KT p l e s mM below meth c G cs a u b i h (cells + 1) (slots + 64) Q) : W p l e room_1 s mM #[Value.ref b] below meth c H locs cells slots Q (F0 mM 173 ls []) := by
  obtain ⟨hx, hb, hml, hown, hts, hX, hbl, hL⟩ := hC
  obtain ⟨ia, hau, hza, hzu⟩ := hF
  have hsA : ∀ q, AX a 0 62 q → s.heap.size ≤ q := fun q h9 => by obtain ⟨i9, _, h2, h3⟩ := h9; rw [h3]; exact hza i9 h2
  have hLI0 := hLI
  obtain ⟨hA, h00, h01, h04, hPal⟩ := hLI
  have hwf := hA.1.1
  obtain ⟨w0, w1, w2, w3, w4, wP, wC, wS, wX⟩ := id hwf
  refine lv_aload_n hx hb dL_law_173 rfl (lv_at hl 9 rfl) ?_
  refine lv_iload hx hb dL_law_174 (lv_at hl 2 rfl) ?_
  refine lv_iload hx hb dL_law_176 (lv_at hl 5 rfl) ?_
  refine z_bipush (n := 8) hx hb dL_law_178 (by decide) ?_
  refine z_ro (zrSJ (As := [.int (zI h), .int (zI 8)]) (rest := [.int (zI x), .ref (a 0)]) (Pw := fun _ => True) ⟨hx, hb, hml, hown, hts⟩ (c_L_low l G cs h 8 (by omega)) gL_law_L_low rfl qL_low rfl rfl ⟨Nat.le_of_ble_eq_true rfl, Nat.le_of_ble_eq_true rfl⟩ trivial hK hl.1 rfl (Nat.le_of_ble_eq_true rfl) dL_law_180 (rm1 (by omega))) ?_
  refine lv_iload hx hb dL_law_183 (lv_at hl 5 rfl) ?_
  refine z_iconst (n := 3) hx hb dL_law_185 ?_
  refine lv_ishr hx hb dL_law_186 ?_
  refine z_top (v' := .int (zI (shF h 3))) (shF_i _ _) ?_
  refine z_bipush (n := 8) hx hb dL_law_187 (by decide) ?_
  refine z_ro (zrSJ (As := [.int (zI (shF h 3)), .int (zI 8)]) (rest := [.int (zI (lowF h 8)), .int (zI x), .ref (a 0)]) (Pw := fun _ => True) ⟨hx, hb, hml, hown, hts⟩ (c_L_low l G cs (shF h 3) 8 (by omega)) gL_law_L_low rfl qL_low rfl rfl ⟨Nat.le_of_ble_eq_true rfl, Nat.le_of_ble_eq_true rfl⟩ trivial hK hl.1 rfl (Nat.le_of_ble_eq_true rfl) dL_law_189 (rm1 (by omega))) ?_
  have hr1 := lowF_r h (show (0 : Int) < 8 by decide)
  have hr2 := lowF_r (shF h 3) (show (0 : Int) < 8 by decide)
  have hr3 := lowF_r (shF h 6) (show (0 : Int) < 4 by decide)
  have hpr := pixF_r hwf hpx hr1 hr2
  refine z_w (zrV (As := [.int (zI x), .int (zI (lowF h 8)), .int (zI (lowF (shF h 3) 8))]) (rest := []) ⟨hx, hb, hml, hown, hts⟩ (k_pixel l G cs a A x (lowF h 8) (lowF (shF h 3) 8) ia hA (by omega) (by omega) (by omega)) gL_law_X6_pixel rfl qX6_pixel rfl rfl ⟨Nat.le_of_ble_eq_true rfl, Nat.le_of_ble_eq_true rfl⟩ hXI hK (va_recv hK.1 hXI.xo (ci := 6) (q0 := 0) rfl rfl) hl.1 rfl (Nat.le_of_ble_eq_true rfl) dL_law_192 (rm1 (by omega))) hS (fun q h9 => hsA q h9) (fun q h9 => hsA q h9) (fun v H locs hpost hle hk hS => ?_)
  obtain ⟨rfl, hXI⟩ := hpost
  have hPa := keepO (Ord.of (b := u) (n := 1) rfl) hPa hk (fun j hj h9 => by obtain ⟨i9, h1, h2, h3⟩ := h9; exact hau i9 h2 (by rw [show j = 0 by omega] at h3; exact h3.symm))
  refine lv_istore (lv' := [(12, .int (zI (pixelF A.1 x (lowF h 8) (lowF (shF h 3) 8)))), (11, .int (zI 1)), (10, .int (zI y)), (9, .int (zI x)), (8, .int (zI (A.1 0 1))), (7, .int (zI (A.1 0 0))), (5, .int (zI h)), (4, .int (zI g)), (3, .int (zI i)), (2, .ref (u 0)), (1, .ref (a 0)), (0, .ref b)]) hx hb dL_law_195 hl (by decide) rfl (fun ls hl => ?_)
  refine lv_aload_n hx hb dL_law_197 rfl (lv_at hl 10 rfl) ?_
  refine lv_iload hx hb dL_law_198 (lv_at hl 3 rfl) ?_
  refine lv_iload hx hb dL_law_200 (lv_at hl 6 rfl) ?_
  refine z_bipush (n := 8) hx hb dL_law_202 (by decide) ?_
  refine z_ro (zrSJ (As := [.int (zI h), .int (zI 8)]) (rest := [.int (zI x), .ref (a 0)]) (Pw := fun _ => True) ⟨hx, hb, hml, hown, hts⟩ (c_L_low l G cs h 8 (by omega)) gL_law_L_low rfl qL_low rfl rfl ⟨Nat.le_of_ble_eq_true rfl, Nat.le_of_ble_eq_true rfl⟩ trivial hK hl.1 rfl (Nat.le_of_ble_eq_true rfl) dL_law_204 (rm1 (by omega))) ?_
  refine lv_iload hx hb dL_law_207 (lv_at hl 6 rfl) ?_
  refine z_iconst (n := 3) hx hb dL_law_209 ?_
  refine lv_ishr hx hb dL_law_210 ?_
  refine z_top (v' := .int (zI (shF h 3))) (shF_i _ _) ?_
  refine z_bipush (n := 8) hx hb dL_law_211 (by decide) ?_
  refine z_ro (zrSJ (As := [.int (zI (shF h 3)), .int (zI 8)]) (rest := [.int (zI (lowF h 8)), .int (zI x), .ref (a 0)]) (Pw := fun _ => True) ⟨hx, hb, hml, hown, hts⟩ (c_L_low l G cs (shF h 3) 8 (by omega)) gL_law_L_low rfl qL_low rfl rfl ⟨Nat.le_of_ble_eq_true rfl, Nat.le_of_ble_eq_true rfl⟩ trivial hK hl.1 rfl (Nat.le_of_ble_eq_true rfl) dL_law_213 (rm1 (by omega))) ?_
  refine lv_iload hx hb dL_law_216 (lv_at hl 6 rfl) ?_
  refine z_bipush (n := 6) hx hb dL_law_218 (by decide) ?_
  refine lv_ishr hx hb dL_law_220 ?_
  refine z_top (v' := .int (zI (shF h 6))) (shF_i _ _) ?_
  refine z_iconst (n := 4) hx hb dL_law_221 ?_
  refine z_ro (zrSJ (As := [.int (zI (shF h 6)), .int (zI 4)]) (rest := [.int (zI (lowF (shF h 3) 8)), .int (zI (lowF h 8)), .int (zI x), .ref (a 0)]) (Pw := fun _ => True) ⟨hx, hb, hml, hown, hts⟩ (c_L_low l G cs (shF h 6) 4 (by omega)) gL_law_L_low rfl qL_low rfl rfl ⟨Nat.le_of_ble_eq_true rfl, Nat.le_of_ble_eq_true rfl⟩ trivial hK hl.1 rfl (Nat.le_of_ble_eq_true rfl) dL_law_222 (rm1 (by omega))) ?_
  obtain ⟨C, eC, hC, hC0, hC2, hCp⟩ := setPixel_ok hA hpx hr1 hr2 hr3
  refine z_w (zrV (As := [.int (zI x), .int (zI (lowF h 8)), .int (zI (lowF (shF h 3) 8)), .int (zI (lowF (shF h 6) 4))]) (rest := []) ⟨hx, hb, hml, hown, hts⟩ (k_setPixel l G cs a A x (lowF h 8) (lowF (shF h 3) 8) (lowF (shF h 6) 4) ia hA (by omega) (by omega) (by omega) (by omega)) gL_law_X6_setPixel rfl qX6_setPixel rfl rfl ⟨Nat.le_of_ble_eq_true rfl, Nat.le_of_ble_eq_true rfl⟩ hXI hK (va_recv hK.1 hXI.xo (ci := 6) (q0 := 0) rfl rfl) hl.1 rfl (Nat.le_of_ble_eq_true rfl) dL_law_225 (rm1 (by omega))) hS (fun q h9 => hsA q h9) (fun q h9 => hsA q h9) (fun v H locs hpost hle hk hS => ?_)
  obtain ⟨hv, hXI⟩ := hpost
  have hE : setPixelF A x (lowF h 8) (lowF (shF h 3) 8) (lowF (shF h 6) 4) = (pixelF A.1 x (lowF h 8) (lowF (shF h 3) 8), C) := eC
  have hv : v = .int (zI (pixelF A.1 x (lowF h 8) (lowF (shF h 3) 8))) := by rw [hE] at hv; exact hv
  have hXI : XI G cs a a C H := by rw [hE] at hXI; exact hXI
  subst hv
  clear hE
  have hPa := keepO (Ord.of (b := u) (n := 1) rfl) hPa hk (fun j hj h9 => by obtain ⟨i9, h1, h2, h3⟩ := h9; exact hau i9 h2 (by rw [show j = 0 by omega] at h3; exact h3.symm))
  refine lv_iload hx hb dL_law_228 (lv_at hl 0 rfl) ?_
  refine z_icmp_ne (tgt := 271) hx hb dL_law_230 (by decide) (by omega) (by omega) (fun c101 => ?_) (fun c101 => ?_)
  · skip
    exfalso; omega
  · skip
    refine lv_aload_n hx hb dL_law_233 rfl (lv_at hl 10 rfl) ?_
    refine lv_iload hx hb dL_law_234 (lv_at hl 3 rfl) ?_
    refine lv_iload hx hb dL_law_236 (lv_at hl 6 rfl) ?_
    refine z_bipush (n := 8) hx hb dL_law_238 (by decide) ?_
    refine z_ro (zrSJ (As := [.int (zI h), .int (zI 8)]) (rest := [.int (zI x), .ref (a 0)]) (Pw := fun _ => True) ⟨hx, hb, hml, hown, hts⟩ (c_L_low l G cs h 8 (by omega)) gL_law_L_low rfl qL_low rfl rfl ⟨Nat.le_of_ble_eq_true rfl, Nat.le_of_ble_eq_true rfl⟩ trivial hK hl.1 rfl (Nat.le_of_ble_eq_true rfl) dL_law_240 (rm1 (by omega))) ?_
    refine lv_iload hx hb dL_law_243 (lv_at hl 6 rfl) ?_
    refine z_iconst (n := 3) hx hb dL_law_245 ?_
    refine lv_ishr hx hb dL_law_246 ?_
    refine z_top (v' := .int (zI (shF h 3))) (shF_i _ _) ?_
    refine z_bipush (n := 8) hx hb dL_law_247 (by decide) ?_
    refine z_ro (zrSJ (As := [.int (zI (shF h 3)), .int (zI 8)]) (rest := [.int (zI (lowF h 8)), .int (zI x), .ref (a 0)]) (Pw := fun _ => True) ⟨hx, hb, hml, hown, hts⟩ (c_L_low l G cs (shF h 3) 8 (by omega)) gL_law_L_low rfl qL_low rfl rfl ⟨Nat.le_of_ble_eq_true rfl, Nat.le_of_ble_eq_true rfl⟩ trivial hK hl.1 rfl (Nat.le_of_ble_eq_true rfl) dL_law_249 (rm1 (by omega))) ?_
    refine z_w (zrV (As := [.int (zI x), .int (zI (lowF h 8)), .int (zI (lowF (shF h 3) 8))]) (rest := []) ⟨hx, hb, hml, hown, hts⟩ (k_pixel l G cs a C x (lowF h 8) (lowF (shF h 3) 8) ia hC (by omega) (by omega) (by omega)) gL_law_X6_pixel rfl qX6_pixel rfl rfl ⟨Nat.le_of_ble_eq_true rfl, Nat.le_of_ble_eq_true rfl⟩ hXI hK (va_recv hK.1 hXI.xo (ci := 6) (q0 := 0) rfl rfl) hl.1 rfl (Nat.le_of_ble_eq_true rfl) dL_law_252 (rm1 (by omega))) hS (fun q h9 => hsA q h9) (fun q h9 => hsA q h9) (fun v H locs hpost hle hk hS => ?_)
    obtain ⟨rfl, hXI⟩ := hpost
    have hPa := keepO (Ord.of (b := u) (n := 1) rfl) hPa hk (fun j hj h9 => by obtain ⟨i9, h1, h2, h3⟩ := h9; exact hau i9 h2 (by rw [show j = 0 by omega] at h3; exact h3.symm))
    refine z_topi (b := lowF (shF h 6) 4) hCp ?_
    refine lv_iload hx hb dL_law_255 (lv_at hl 6 rfl) ?_
    refine z_bipush (n := 6) hx hb dL_law_257 (by decide) ?_
    refine lv_ishr hx hb dL_law_259 ?_
    refine z_top (v' := .int (zI (shF h 6))) (shF_i _ _) ?_
    refine z_iconst (n := 4) hx hb dL_law_260 ?_
    refine z_ro (zrSJ (As := [.int (zI (shF h 6)), .int (zI 4)]) (rest := [.int (zI (lowF (shF h 6) 4))]) (Pw := fun _ => True) ⟨hx, hb, hml, hown, hts⟩ (c_L_low l G cs (shF h 6) 4 (by omega)) gL_law_L_low rfl qL_low rfl rfl ⟨Nat.le_of_ble_eq_true rfl, Nat.le_of_ble_eq_true rfl⟩ trivial hK hl.1 rfl (Nat.le_of_ble_eq_true rfl) dL_law_261 (rm1 (by omega))) ?_
    refine z_icmp_ne (tgt := 271) hx hb dL_law_264 (by decide) (by omega) (by omega) (fun c102 => ?_) (fun c102 => ?_)
    · skip
      exfalso; omega
    · skip
      refine z_iconst (n := 1) hx hb dL_law_267 ?_
      refine lv_goto (tgt := 272) hx hb dL_law_268 (by decide) ?_
      refine lv_istore (lv' := [(11, .int (zI 1)), (12, .int (zI (pixelF A.1 x (lowF h 8) (lowF (shF h 3) 8)))), (10, .int (zI y)), (9, .int (zI x)), (8, .int (zI (A.1 0 1))), (7, .int (zI (A.1 0 0))), (5, .int (zI h)), (4, .int (zI g)), (3, .int (zI i)), (2, .ref (u 0)), (1, .ref (a 0)), (0, .ref b)]) hx hb dL_law_272 hl (by decide) rfl (fun ls hl => ?_)
      refine lv_goto (tgt := 964) hx hb dL_law_274 (by decide) ?_
      refine W.widen (k := cells + 1) (n := slots + 64) (by omega) (by omega) ?_
      exact K C P H locs ls (li_same hLI0 hC (by rw [hC0]) (by rw [hC0]) (by rw [hC0]) hC2 (by omega)) hXI hPa hS (lv_sub hl [11, 10, 9, 8, 6, 0] rfl)

set_option maxHeartbeats 4000000 in
set_option maxRecDepth 100000 in
theorem law_s5 (hC : LC p s mM c b L xs) (hK : kK G cs s) (hF : LPl a u s.heap.size) (hXI : XI G cs a a A H) (hPa : va_P G vwCl (paW cs u P) H) (hS : va_S (fun q => s.heap.size ≤ q) s.heap H locs) (hl : lv_has ls 16 [(11, .int (zI 1)), (10, .int (zI y)), (9, .int (zI x)), (8, .int (zI (A.1 0 1))), (7, .int (zI (A.1 0 0))), (5, .int (zI h)), (4, .int (zI g)), (3, .int (zI i)), (2, .ref (u 0)), (1, .ref (a 0)), (0, .ref b)]) (hLI : LI A P (50 * i)) (hi : 0 ≤ i ∧ i < 30) (hpx : 0 ≤ x ∧ x < A.1 0 0) (hqy : 0 ≤ y ∧ y < A.1 0 1) (hc : cells + 1 ≤ 600000 ∧ slots + 64 ≤ 7302249) (K : KT p l e s mM below meth c G cs a u b i h (cells + 1) (slots + 64) Q) : W p l e room_1 s mM #[Value.ref b] below meth c H locs cells slots Q (F0 mM 304 ls []) := by
  obtain ⟨hx, hb, hml, hown, hts, hX, hbl, hL⟩ := hC
  obtain ⟨ia, hau, hza, hzu⟩ := hF
  have hsA : ∀ q, AX a 0 62 q → s.heap.size ≤ q := fun q h9 => by obtain ⟨i9, _, h2, h3⟩ := h9; rw [h3]; exact hza i9 h2
  have hLI0 := hLI
  obtain ⟨hA, h00, h01, h04, hPal⟩ := hLI
  have hwf := hA.1.1
  obtain ⟨w0, w1, w2, w3, w4, wP, wC, wS, wX⟩ := id hwf
  refine lv_iload hx hb dL_law_304 (lv_at hl 3 rfl) ?_
  refine z_bipush (n := 6) hx hb dL_law_306 (by decide) ?_
  refine z_icmp_gt (tgt := 345) hx hb dL_law_308 (by decide) (by omega) (by omega) (fun c101 => ?_) (fun c101 => ?_)
  · skip
    refine z_iconst (n := 1) hx hb dL_law_345 ?_
    refine lv_goto (tgt := 350) hx hb dL_law_346 (by decide) ?_
    refine lv_istore (lv' := [(11, .int (zI 1)), (10, .int (zI y)), (9, .int (zI x)), (8, .int (zI (A.1 0 1))), (7, .int (zI (A.1 0 0))), (5, .int (zI h)), (4, .int (zI g)), (3, .int (zI i)), (2, .ref (u 0)), (1, .ref (a 0)), (0, .ref b)]) hx hb dL_law_350 hl (by decide) rfl (fun ls hl => ?_)
    refine lv_goto (tgt := 964) hx hb dL_law_352 (by decide) ?_
    refine W.widen (k := cells + 1) (n := slots + 64) (by omega) (by omega) ?_
    exact K A P H locs ls (li_same hLI0 hA rfl rfl rfl rfl (by omega)) hXI hPa hS (lv_sub hl [10, 9, 8, 7, 5, 0] rfl)
  · skip
    refine lv_aload_n hx hb dL_law_311 rfl (lv_at hl 9 rfl) ?_
    refine lv_iload hx hb dL_law_312 (lv_at hl 2 rfl) ?_
    refine lv_iload hx hb dL_law_314 (lv_at hl 5 rfl) ?_
    refine z_bipush (n := 39) hx hb dL_law_316 (by decide) ?_
    refine z_ro (zrSJ (As := [.int (zI h), .int (zI 39)]) (rest := [.int (zI x), .ref (a 0)]) (Pw := fun _ => True) ⟨hx, hb, hml, hown, hts⟩ (c_L_low l G cs h 39 (by omega)) gL_law_L_low rfl qL_low rfl rfl ⟨Nat.le_of_ble_eq_true rfl, Nat.le_of_ble_eq_true rfl⟩ trivial hK hl.1 rfl (Nat.le_of_ble_eq_true rfl) dL_law_318 (rm1 (by omega))) ?_
    refine z_bipush (n := 7) hx hb dL_law_321 (by decide) ?_
    refine z_isub hx hb dL_law_323 ?_
    refine lv_iload hx hb dL_law_324 (lv_at hl 5 rfl) ?_
    refine z_bipush (n := 6) hx hb dL_law_326 (by decide) ?_
    refine lv_ishr hx hb dL_law_328 ?_
    refine z_top (v' := .int (zI (shF h 6))) (shF_i _ _) ?_
    refine z_bipush (n := 39) hx hb dL_law_329 (by decide) ?_
    refine z_ro (zrSJ (As := [.int (zI (shF h 6)), .int (zI 39)]) (rest := [.int (zI ((lowF h 39) - 7)), .int (zI x), .ref (a 0)]) (Pw := fun _ => True) ⟨hx, hb, hml, hown, hts⟩ (c_L_low l G cs (shF h 6) 39 (by omega)) gL_law_L_low rfl qL_low rfl rfl ⟨Nat.le_of_ble_eq_true rfl, Nat.le_of_ble_eq_true rfl⟩ trivial hK hl.1 rfl (Nat.le_of_ble_eq_true rfl) dL_law_331 (rm1 (by omega))) ?_
    refine z_bipush (n := 7) hx hb dL_law_334 (by decide) ?_
    refine z_isub hx hb dL_law_336 ?_
    have hr1 := lowF_r h (show (0 : Int) < 39 by decide)
    have hr2 := lowF_r (shF h 6) (show (0 : Int) < 39 by decide)
    obtain ⟨C, eC, hC, hC0, hC1, hC4, hC2⟩ := addSprite_ok hA hpx (x := lowF h 39 - 7) (y := lowF (shF h 6) 39 - 7) (by omega) (by omega) (by omega)
    refine z_w (zrV (As := [.int (zI x), .int (zI ((lowF h 39) - 7)), .int (zI ((lowF (shF h 6) 39) - 7))]) (rest := []) ⟨hx, hb, hml, hown, hts⟩ (k_addSprite l G cs a A x ((lowF h 39) - 7) ((lowF (shF h 6) 39) - 7) ia hA (by omega) (by omega) (by omega)) gL_law_X6_addSprite rfl qX6_addSprite rfl rfl ⟨Nat.le_of_ble_eq_true rfl, Nat.le_of_ble_eq_true rfl⟩ hXI hK (va_recv hK.1 hXI.xo (ci := 6) (q0 := 0) rfl rfl) hl.1 rfl (Nat.le_of_ble_eq_true rfl) dL_law_337 (rm1 (by omega))) hS (fun q h9 => hsA q h9) (fun q h9 => hsA q h9) (fun v H locs hpost hle hk hS => ?_)
    obtain ⟨hv, hXI⟩ := hpost
    have hE : addSpriteF A x ((lowF h 39) - 7) ((lowF (shF h 6) 39) - 7) = (A.1 0 1, C) := eC
    have hv : v = .int (zI (A.1 0 1)) := by rw [hE] at hv; exact hv
    have hXI : XI G cs a a C H := by rw [hE] at hXI; exact hXI
    subst hv
    clear hE
    have hPa := keepO (Ord.of (b := u) (n := 1) rfl) hPa hk (fun j hj h9 => by obtain ⟨i9, h1, h2, h3⟩ := h9; exact hau i9 h2 (by rw [show j = 0 by omega] at h3; exact h3.symm))
    refine lv_iload hx hb dL_law_340 (lv_at hl 3 rfl) ?_
    refine z_icmp_ne (tgt := 349) hx hb dL_law_342 (by decide) (by omega) (by omega) (fun c102 => ?_) (fun c102 => ?_)
    · skip
      exfalso; omega
    · skip
      refine z_iconst (n := 1) hx hb dL_law_345 ?_
      refine lv_goto (tgt := 350) hx hb dL_law_346 (by decide) ?_
      refine lv_istore (lv' := [(11, .int (zI 1)), (10, .int (zI y)), (9, .int (zI x)), (8, .int (zI (A.1 0 1))), (7, .int (zI (A.1 0 0))), (5, .int (zI h)), (4, .int (zI g)), (3, .int (zI i)), (2, .ref (u 0)), (1, .ref (a 0)), (0, .ref b)]) hx hb dL_law_350 hl (by decide) rfl (fun ls hl => ?_)
      refine lv_goto (tgt := 964) hx hb dL_law_352 (by decide) ?_
      refine W.widen (k := cells + 1) (n := slots + 64) (by omega) (by omega) ?_
      exact K C P H locs ls ⟨hC, by omega, by omega, by omega, pal_same hPal hC2⟩ hXI hPa hS (lv_sub hl [10, 9, 8, 7, 5, 0] rfl)

set_option maxHeartbeats 4000000 in
set_option maxRecDepth 100000 in
theorem law_s6 (hC : LC p s mM c b L xs) (hK : kK G cs s) (hF : LPl a u s.heap.size) (hXI : XI G cs a a A H) (hPa : va_P G vwCl (paW cs u P) H) (hS : va_S (fun q => s.heap.size ≤ q) s.heap H locs) (hl : lv_has ls 16 [(11, .int (zI 1)), (10, .int (zI y)), (9, .int (zI x)), (8, .int (zI (A.1 0 1))), (7, .int (zI (A.1 0 0))), (5, .int (zI h)), (4, .int (zI g)), (3, .int (zI i)), (2, .ref (u 0)), (1, .ref (a 0)), (0, .ref b)]) (hLI : LI A P (50 * i)) (hi : 0 ≤ i ∧ i < 30) (hpx : 0 ≤ x ∧ x < A.1 0 0) (hqy : 0 ≤ y ∧ y < A.1 0 1) (hc : cells + 1 ≤ 600000 ∧ slots + 64 ≤ 7302249) (K : KT p l e s mM below meth c G cs a u b i h (cells + 1) (slots + 64) Q) : W p l e room_1 s mM #[Value.ref b] below meth c H locs cells slots Q (F0 mM 362 ls []) := by
  obtain ⟨hx, hb, hml, hown, hts, hX, hbl, hL⟩ := hC
  obtain ⟨ia, hau, hza, hzu⟩ := hF
  have hsA : ∀ q, AX a 0 62 q → s.heap.size ≤ q := fun q h9 => by obtain ⟨i9, _, h2, h3⟩ := h9; rw [h3]; exact hza i9 h2
  have hLI0 := hLI
  obtain ⟨hA, h00, h01, h04, hPal⟩ := hLI
  have hwf := hA.1.1
  obtain ⟨w0, w1, w2, w3, w4, wP, wC, wS, wX⟩ := id hwf
  refine lv_iload hx hb dL_law_362 (lv_at hl 6 rfl) ?_
  refine z_iconst (n := 4) hx hb dL_law_364 ?_
  refine z_ro (zrSJ (As := [.int (zI g), .int (zI 4)]) (rest := []) (Pw := fun _ => True) ⟨hx, hb, hml, hown, hts⟩ (c_L_low l G cs g 4 (by omega)) gL_law_L_low rfl qL_low rfl rfl ⟨Nat.le_of_ble_eq_true rfl, Nat.le_of_ble_eq_true rfl⟩ trivial hK hl.1 rfl (Nat.le_of_ble_eq_true rfl) dL_law_365 (rm1 (by omega))) ?_
  refine lv_istore (lv' := [(12, .int (zI (lowF g 4))), (11, .int (zI 1)), (10, .int (zI y)), (9, .int (zI x)), (8, .int (zI (A.1 0 1))), (7, .int (zI (A.1 0 0))), (5, .int (zI h)), (4, .int (zI g)), (3, .int (zI i)), (2, .ref (u 0)), (1, .ref (a 0)), (0, .ref b)]) hx hb dL_law_368 hl (by decide) rfl (fun ls hl => ?_)
  have ht9 := lowF_r g (show (0 : Int) < 4 by decide)
  generalize lowF g 4 = t9 at hl ht9
  refine lv_iload hx hb dL_law_370 (lv_at hl 0 rfl) ?_
  refine z_if_ne (tgt := 387) hx hb dL_law_372 (by decide) (by omega) (fun c101 => ?_) (fun c101 => ?_)
  · skip
    refine lv_iload hx hb dL_law_387 (lv_at hl 0 rfl) ?_
    refine z_iconst (n := 3) hx hb dL_law_389 ?_
    refine z_icmp_ne (tgt := 410) hx hb dL_law_390 (by decide) (by omega) (by omega) (fun c102 => ?_) (fun c102 => ?_)
    · skip
      refine lv_iload hx hb dL_law_410 (lv_at hl 6 rfl) ?_
      refine z_iconst (n := 5) hx hb dL_law_412 ?_
      refine lv_ishr hx hb dL_law_413 ?_
      refine z_top (v' := .int (zI (shF h 5))) (shF_i _ _) ?_
      refine z_iconst (n := 4) hx hb dL_law_414 ?_
      refine z_ro (zrSJ (As := [.int (zI (shF h 5)), .int (zI 4)]) (rest := []) (Pw := fun _ => True) ⟨hx, hb, hml, hown, hts⟩ (c_L_low l G cs (shF h 5) 4 (by omega)) gL_law_L_low rfl qL_low rfl rfl ⟨Nat.le_of_ble_eq_true rfl, Nat.le_of_ble_eq_true rfl⟩ trivial hK hl.1 rfl (Nat.le_of_ble_eq_true rfl) dL_law_415 (rm1 (by omega))) ?_
      refine lv_istore (lv' := [(13, .int (zI (lowF (shF h 5) 4))), (12, .int (zI t9)), (11, .int (zI 1)), (10, .int (zI y)), (9, .int (zI x)), (8, .int (zI (A.1 0 1))), (7, .int (zI (A.1 0 0))), (5, .int (zI h)), (4, .int (zI g)), (3, .int (zI i)), (2, .ref (u 0)), (1, .ref (a 0)), (0, .ref b)]) hx hb dL_law_418 hl (by decide) rfl (fun ls hl => ?_)
      have hv9 := lowF_r (shF h 5) (show (0 : Int) < 4 by decide)
      have hvv : (0 : Int) ≤ lowF (shF h 5) 4 ∧ lowF (shF h 5) 4 < valsF A.1 t9 := ⟨by omega, vals_lt (by omega) (fun _ => by omega) (fun _ => by omega) (fun _ => by omega)⟩
      have hv8 := vals_r (t := t9) hwf
      have hpp := wP y hqy.1 hqy.2
      have hp9 : -7 ≤ A.1 1 (6 * y + t9) ∧ A.1 1 (6 * y + t9) ≤ 31 := by rcases Int4 (w := t9) (by omega) with e9 | e9 | e9 | e9 <;> rw [e9] <;> omega
      obtain ⟨C, eC, hC, hC0, hC2, hCv⟩ := set_ok hA hqy hvv
      refine lv_aload_n hx hb dL_law_420 rfl (lv_at hl 11 rfl) ?_
      refine lv_iload hx hb dL_law_421 (lv_at hl 3 rfl) ?_
      refine lv_iload hx hb dL_law_423 (lv_at hl 1 rfl) ?_
      refine z_w (zrV (As := [.int (zI y), .int (zI t9)]) (rest := []) ⟨hx, hb, hml, hown, hts⟩ (k_sprite l G cs a A y t9 ia hA (by omega) (by omega)) gL_law_X6_sprite rfl qX6_sprite rfl rfl ⟨Nat.le_of_ble_eq_true rfl, Nat.le_of_ble_eq_true rfl⟩ hXI hK (va_recv hK.1 hXI.xo (ci := 6) (q0 := 0) rfl rfl) hl.1 rfl (Nat.le_of_ble_eq_true rfl) dL_law_425 (rm1 (by omega))) hS (fun q h9 => hsA q h9) (fun q h9 => hsA q h9) (fun v H locs hpost hle hk hS => ?_)
      obtain ⟨rfl, hXI⟩ := hpost
      have hPa := keepO (Ord.of (b := u) (n := 1) rfl) hPa hk (fun j hj h9 => by obtain ⟨i9, h1, h2, h3⟩ := h9; exact hau i9 h2 (by rw [show j = 0 by omega] at h3; exact h3.symm))
      refine z_topi (b := A.1 1 (6 * y + t9)) (sp_at hqy (by omega)) ?_
      refine lv_istore (lv' := [(14, .int (zI (A.1 1 (6 * y + t9)))), (13, .int (zI (lowF (shF h 5) 4))), (12, .int (zI t9)), (11, .int (zI 1)), (10, .int (zI y)), (9, .int (zI x)), (8, .int (zI (A.1 0 1))), (7, .int (zI (A.1 0 0))), (5, .int (zI h)), (4, .int (zI g)), (3, .int (zI i)), (2, .ref (u 0)), (1, .ref (a 0)), (0, .ref b)]) hx hb dL_law_428 hl (by decide) rfl (fun ls hl => ?_)
      refine lv_aload_n hx hb dL_law_430 rfl (lv_at hl 12 rfl) ?_
      refine lv_iload hx hb dL_law_431 (lv_at hl 4 rfl) ?_
      refine lv_iload hx hb dL_law_433 (lv_at hl 2 rfl) ?_
      refine lv_iload hx hb dL_law_435 (lv_at hl 1 rfl) ?_
      refine z_w (zrV (As := [.int (zI y), .int (zI t9), .int (zI (lowF (shF h 5) 4))]) (rest := []) ⟨hx, hb, hml, hown, hts⟩ (k_set l G cs a A y t9 (lowF (shF h 5) 4) ia hA (by omega) (by omega) (by omega)) gL_law_X6_set rfl qX6_set rfl rfl ⟨Nat.le_of_ble_eq_true rfl, Nat.le_of_ble_eq_true rfl⟩ hXI hK (va_recv hK.1 hXI.xo (ci := 6) (q0 := 0) rfl rfl) hl.1 rfl (Nat.le_of_ble_eq_true rfl) dL_law_437 (rm1 (by omega))) hS (fun q h9 => hsA q h9) (fun q h9 => hsA q h9) (fun v H locs hpost hle hk hS => ?_)
      obtain ⟨hv, hXI⟩ := hpost
      have hE : setF A y t9 (lowF (shF h 5) 4) = (A.1 1 (6 * y + t9), C) := eC
      have hv : v = .int (zI (A.1 1 (6 * y + t9))) := by rw [hE] at hv; exact hv
      have hXI : XI G cs a a C H := by rw [hE] at hXI; exact hXI
      subst hv
      clear hE
      have hPa := keepO (Ord.of (b := u) (n := 1) rfl) hPa hk (fun j hj h9 => by obtain ⟨i9, h1, h2, h3⟩ := h9; exact hau i9 h2 (by rw [show j = 0 by omega] at h3; exact h3.symm))
      refine lv_iload hx hb dL_law_440 (lv_at hl 0 rfl) ?_
      refine z_icmp_ne (tgt := 475) hx hb dL_law_442 (by decide) (by omega) (by omega) (fun c103 => ?_) (fun c103 => ?_)
      · skip
        exfalso; omega
      · skip
        refine lv_aload_n hx hb dL_law_445 rfl (lv_at hl 12 rfl) ?_
        refine lv_iload hx hb dL_law_446 (lv_at hl 4 rfl) ?_
        refine lv_iload hx hb dL_law_448 (lv_at hl 2 rfl) ?_
        have hqC : 0 ≤ y ∧ y < C.1 0 1 := by rw [hC0]; exact hqy
        refine z_w (zrV (As := [.int (zI y), .int (zI t9)]) (rest := []) ⟨hx, hb, hml, hown, hts⟩ (k_sprite l G cs a C y t9 ia hC (by omega) (by omega)) gL_law_X6_sprite rfl qX6_sprite rfl rfl ⟨Nat.le_of_ble_eq_true rfl, Nat.le_of_ble_eq_true rfl⟩ hXI hK (va_recv hK.1 hXI.xo (ci := 6) (q0 := 0) rfl rfl) hl.1 rfl (Nat.le_of_ble_eq_true rfl) dL_law_450 (rm1 (by omega))) hS (fun q h9 => hsA q h9) (fun q h9 => hsA q h9) (fun v H locs hpost hle hk hS => ?_)
        obtain ⟨rfl, hXI⟩ := hpost
        have hPa := keepO (Ord.of (b := u) (n := 1) rfl) hPa hk (fun j hj h9 => by obtain ⟨i9, h1, h2, h3⟩ := h9; exact hau i9 h2 (by rw [show j = 0 by omega] at h3; exact h3.symm))
        refine z_topi (b := lowF (shF h 5) 4) ((sp_at hqC (by omega)).trans hCv) ?_
        refine lv_iload hx hb dL_law_453 (lv_at hl 1 rfl) ?_
        refine z_icmp_ne (tgt := 475) hx hb dL_law_455 (by decide) (by omega) (by omega) (fun c104 => ?_) (fun c104 => ?_)
        · skip
          exfalso; omega
        · skip
          refine lv_aload_n hx hb dL_law_458 rfl (lv_at hl 12 rfl) ?_
          refine lv_iload hx hb dL_law_459 (lv_at hl 4 rfl) ?_
          refine z_iconst (n := 4) hx hb dL_law_461 ?_
          refine z_iconst (n := 0) hx hb dL_law_462 ?_
          refine z_w (zrV (As := [.int (zI y), .int (zI 4), .int (zI 0)]) (rest := []) ⟨hx, hb, hml, hown, hts⟩ (k_set l G cs a C y 4 0 ia hC (by omega) (by omega) (by omega)) gL_law_X6_set rfl qX6_set rfl rfl ⟨Nat.le_of_ble_eq_true rfl, Nat.le_of_ble_eq_true rfl⟩ hXI hK (va_recv hK.1 hXI.xo (ci := 6) (q0 := 0) rfl rfl) hl.1 rfl (Nat.le_of_ble_eq_true rfl) dL_law_463 (rm1 (by omega))) hS (fun q h9 => hsA q h9) (fun q h9 => hsA q h9) (fun v H locs hpost hle hk hS => ?_)
          obtain ⟨hv, hXI⟩ := hpost
          have hE : setF C y 4 0 = ((-2), C) := (set_4 hqC)
          have hv : v = .int (zI (-2)) := by rw [hE] at hv; exact hv
          have hXI : XI G cs a a C H := by rw [hE] at hXI; exact hXI
          subst hv
          clear hE
          have hPa := keepO (Ord.of (b := u) (n := 1) rfl) hPa hk (fun j hj h9 => by obtain ⟨i9, h1, h2, h3⟩ := h9; exact hau i9 h2 (by rw [show j = 0 by omega] at h3; exact h3.symm))
          refine z_bipush (n := -2) hx hb dL_law_466 (by decide) ?_
          refine z_icmp_ne (tgt := 475) hx hb dL_law_468 (by decide) (by omega) (by omega) (fun c105 => ?_) (fun c105 => ?_)
          · skip
            exfalso; omega
          · skip
            refine z_iconst (n := 1) hx hb dL_law_471 ?_
            refine lv_goto (tgt := 476) hx hb dL_law_472 (by decide) ?_
            refine lv_istore (lv' := [(11, .int (zI 1)), (14, .int (zI (A.1 1 (6 * y + t9)))), (13, .int (zI (lowF (shF h 5) 4))), (12, .int (zI t9)), (10, .int (zI y)), (9, .int (zI x)), (8, .int (zI (A.1 0 1))), (7, .int (zI (A.1 0 0))), (5, .int (zI h)), (4, .int (zI g)), (3, .int (zI i)), (2, .ref (u 0)), (1, .ref (a 0)), (0, .ref b)]) hx hb dL_law_476 hl (by decide) rfl (fun ls hl => ?_)
            refine lv_goto (tgt := 964) hx hb dL_law_478 (by decide) ?_
            refine W.widen (k := cells + 1) (n := slots + 64) (by omega) (by omega) ?_
            exact K C P H locs ls (li_same hLI0 hC (by rw [hC0]) (by rw [hC0]) (by rw [hC0]) hC2 (by omega)) hXI hPa hS (lv_sub hl [13, 12, 11, 10, 8, 0] rfl)
    · skip
      refine lv_iload hx hb dL_law_393 (lv_at hl 6 rfl) ?_
      refine z_iconst (n := 5) hx hb dL_law_395 ?_
      refine lv_ishr hx hb dL_law_396 ?_
      refine z_top (v' := .int (zI (shF h 5))) (shF_i _ _) ?_
      refine z_iconst (n := 3) hx hb dL_law_397 ?_
      refine lv_iand hx hb dL_law_398 ?_
      refine z_top (v' := .int (zI (anF (shF h 5) 3))) (anF_i _ _) ?_
      have har := anF_r (shF h 5) 3
      refine z_if_le (tgt := 406) hx hb dL_law_399 (by decide) (by omega) (fun c106 => ?_) (fun c106 => ?_)
      · skip
        refine z_iconst (n := 0) hx hb dL_law_406 ?_
        refine lv_goto (tgt := 418) hx hb dL_law_407 (by decide) ?_
        refine lv_istore (lv' := [(13, .int (zI 0)), (12, .int (zI t9)), (11, .int (zI 1)), (10, .int (zI y)), (9, .int (zI x)), (8, .int (zI (A.1 0 1))), (7, .int (zI (A.1 0 0))), (5, .int (zI h)), (4, .int (zI g)), (3, .int (zI i)), (2, .ref (u 0)), (1, .ref (a 0)), (0, .ref b)]) hx hb dL_law_418 hl (by decide) rfl (fun ls hl => ?_)
        have hvv : (0 : Int) ≤ 0 ∧ 0 < valsF A.1 t9 := ⟨by omega, vals_lt (by omega) (fun _ => by omega) (fun _ => by omega) (fun _ => by omega)⟩
        have hv8 := vals_r (t := t9) hwf
        have hpp := wP y hqy.1 hqy.2
        have hp9 : -7 ≤ A.1 1 (6 * y + t9) ∧ A.1 1 (6 * y + t9) ≤ 31 := by rcases Int4 (w := t9) (by omega) with e9 | e9 | e9 | e9 <;> rw [e9] <;> omega
        obtain ⟨C, eC, hC, hC0, hC2, hCv⟩ := set_ok hA hqy hvv
        refine lv_aload_n hx hb dL_law_420 rfl (lv_at hl 11 rfl) ?_
        refine lv_iload hx hb dL_law_421 (lv_at hl 3 rfl) ?_
        refine lv_iload hx hb dL_law_423 (lv_at hl 1 rfl) ?_
        refine z_w (zrV (As := [.int (zI y), .int (zI t9)]) (rest := []) ⟨hx, hb, hml, hown, hts⟩ (k_sprite l G cs a A y t9 ia hA (by omega) (by omega)) gL_law_X6_sprite rfl qX6_sprite rfl rfl ⟨Nat.le_of_ble_eq_true rfl, Nat.le_of_ble_eq_true rfl⟩ hXI hK (va_recv hK.1 hXI.xo (ci := 6) (q0 := 0) rfl rfl) hl.1 rfl (Nat.le_of_ble_eq_true rfl) dL_law_425 (rm1 (by omega))) hS (fun q h9 => hsA q h9) (fun q h9 => hsA q h9) (fun v H locs hpost hle hk hS => ?_)
        obtain ⟨rfl, hXI⟩ := hpost
        have hPa := keepO (Ord.of (b := u) (n := 1) rfl) hPa hk (fun j hj h9 => by obtain ⟨i9, h1, h2, h3⟩ := h9; exact hau i9 h2 (by rw [show j = 0 by omega] at h3; exact h3.symm))
        refine z_topi (b := A.1 1 (6 * y + t9)) (sp_at hqy (by omega)) ?_
        refine lv_istore (lv' := [(14, .int (zI (A.1 1 (6 * y + t9)))), (13, .int (zI 0)), (12, .int (zI t9)), (11, .int (zI 1)), (10, .int (zI y)), (9, .int (zI x)), (8, .int (zI (A.1 0 1))), (7, .int (zI (A.1 0 0))), (5, .int (zI h)), (4, .int (zI g)), (3, .int (zI i)), (2, .ref (u 0)), (1, .ref (a 0)), (0, .ref b)]) hx hb dL_law_428 hl (by decide) rfl (fun ls hl => ?_)
        refine lv_aload_n hx hb dL_law_430 rfl (lv_at hl 12 rfl) ?_
        refine lv_iload hx hb dL_law_431 (lv_at hl 4 rfl) ?_
        refine lv_iload hx hb dL_law_433 (lv_at hl 2 rfl) ?_
        refine lv_iload hx hb dL_law_435 (lv_at hl 1 rfl) ?_
        refine z_w (zrV (As := [.int (zI y), .int (zI t9), .int (zI 0)]) (rest := []) ⟨hx, hb, hml, hown, hts⟩ (k_set l G cs a A y t9 0 ia hA (by omega) (by omega) (by omega)) gL_law_X6_set rfl qX6_set rfl rfl ⟨Nat.le_of_ble_eq_true rfl, Nat.le_of_ble_eq_true rfl⟩ hXI hK (va_recv hK.1 hXI.xo (ci := 6) (q0 := 0) rfl rfl) hl.1 rfl (Nat.le_of_ble_eq_true rfl) dL_law_437 (rm1 (by omega))) hS (fun q h9 => hsA q h9) (fun q h9 => hsA q h9) (fun v H locs hpost hle hk hS => ?_)
        obtain ⟨hv, hXI⟩ := hpost
        have hE : setF A y t9 0 = (A.1 1 (6 * y + t9), C) := eC
        have hv : v = .int (zI (A.1 1 (6 * y + t9))) := by rw [hE] at hv; exact hv
        have hXI : XI G cs a a C H := by rw [hE] at hXI; exact hXI
        subst hv
        clear hE
        have hPa := keepO (Ord.of (b := u) (n := 1) rfl) hPa hk (fun j hj h9 => by obtain ⟨i9, h1, h2, h3⟩ := h9; exact hau i9 h2 (by rw [show j = 0 by omega] at h3; exact h3.symm))
        refine lv_iload hx hb dL_law_440 (lv_at hl 0 rfl) ?_
        refine z_icmp_ne (tgt := 475) hx hb dL_law_442 (by decide) (by omega) (by omega) (fun c107 => ?_) (fun c107 => ?_)
        · skip
          exfalso; omega
        · skip
          refine lv_aload_n hx hb dL_law_445 rfl (lv_at hl 12 rfl) ?_
          refine lv_iload hx hb dL_law_446 (lv_at hl 4 rfl) ?_
          refine lv_iload hx hb dL_law_448 (lv_at hl 2 rfl) ?_
          have hqC : 0 ≤ y ∧ y < C.1 0 1 := by rw [hC0]; exact hqy
          refine z_w (zrV (As := [.int (zI y), .int (zI t9)]) (rest := []) ⟨hx, hb, hml, hown, hts⟩ (k_sprite l G cs a C y t9 ia hC (by omega) (by omega)) gL_law_X6_sprite rfl qX6_sprite rfl rfl ⟨Nat.le_of_ble_eq_true rfl, Nat.le_of_ble_eq_true rfl⟩ hXI hK (va_recv hK.1 hXI.xo (ci := 6) (q0 := 0) rfl rfl) hl.1 rfl (Nat.le_of_ble_eq_true rfl) dL_law_450 (rm1 (by omega))) hS (fun q h9 => hsA q h9) (fun q h9 => hsA q h9) (fun v H locs hpost hle hk hS => ?_)
          obtain ⟨rfl, hXI⟩ := hpost
          have hPa := keepO (Ord.of (b := u) (n := 1) rfl) hPa hk (fun j hj h9 => by obtain ⟨i9, h1, h2, h3⟩ := h9; exact hau i9 h2 (by rw [show j = 0 by omega] at h3; exact h3.symm))
          refine z_topi (b := 0) ((sp_at hqC (by omega)).trans hCv) ?_
          refine lv_iload hx hb dL_law_453 (lv_at hl 1 rfl) ?_
          refine z_icmp_ne (tgt := 475) hx hb dL_law_455 (by decide) (by omega) (by omega) (fun c108 => ?_) (fun c108 => ?_)
          · skip
            exfalso; omega
          · skip
            refine lv_aload_n hx hb dL_law_458 rfl (lv_at hl 12 rfl) ?_
            refine lv_iload hx hb dL_law_459 (lv_at hl 4 rfl) ?_
            refine z_iconst (n := 4) hx hb dL_law_461 ?_
            refine z_iconst (n := 0) hx hb dL_law_462 ?_
            refine z_w (zrV (As := [.int (zI y), .int (zI 4), .int (zI 0)]) (rest := []) ⟨hx, hb, hml, hown, hts⟩ (k_set l G cs a C y 4 0 ia hC (by omega) (by omega) (by omega)) gL_law_X6_set rfl qX6_set rfl rfl ⟨Nat.le_of_ble_eq_true rfl, Nat.le_of_ble_eq_true rfl⟩ hXI hK (va_recv hK.1 hXI.xo (ci := 6) (q0 := 0) rfl rfl) hl.1 rfl (Nat.le_of_ble_eq_true rfl) dL_law_463 (rm1 (by omega))) hS (fun q h9 => hsA q h9) (fun q h9 => hsA q h9) (fun v H locs hpost hle hk hS => ?_)
            obtain ⟨hv, hXI⟩ := hpost
            have hE : setF C y 4 0 = ((-2), C) := (set_4 hqC)
            have hv : v = .int (zI (-2)) := by rw [hE] at hv; exact hv
            have hXI : XI G cs a a C H := by rw [hE] at hXI; exact hXI
            subst hv
            clear hE
            have hPa := keepO (Ord.of (b := u) (n := 1) rfl) hPa hk (fun j hj h9 => by obtain ⟨i9, h1, h2, h3⟩ := h9; exact hau i9 h2 (by rw [show j = 0 by omega] at h3; exact h3.symm))
            refine z_bipush (n := -2) hx hb dL_law_466 (by decide) ?_
            refine z_icmp_ne (tgt := 475) hx hb dL_law_468 (by decide) (by omega) (by omega) (fun c109 => ?_) (fun c109 => ?_)
            · skip
              exfalso; omega
            · skip
              refine z_iconst (n := 1) hx hb dL_law_471 ?_
              refine lv_goto (tgt := 476) hx hb dL_law_472 (by decide) ?_
              refine lv_istore (lv' := [(11, .int (zI 1)), (14, .int (zI (A.1 1 (6 * y + t9)))), (13, .int (zI 0)), (12, .int (zI t9)), (10, .int (zI y)), (9, .int (zI x)), (8, .int (zI (A.1 0 1))), (7, .int (zI (A.1 0 0))), (5, .int (zI h)), (4, .int (zI g)), (3, .int (zI i)), (2, .ref (u 0)), (1, .ref (a 0)), (0, .ref b)]) hx hb dL_law_476 hl (by decide) rfl (fun ls hl => ?_)
              refine lv_goto (tgt := 964) hx hb dL_law_478 (by decide) ?_
              refine W.widen (k := cells + 1) (n := slots + 64) (by omega) (by omega) ?_
              exact K C P H locs ls (li_same hLI0 hC (by rw [hC0]) (by rw [hC0]) (by rw [hC0]) hC2 (by omega)) hXI hPa hS (lv_sub hl [13, 12, 11, 10, 8, 0] rfl)
      · skip
        refine z_iconst (n := 1) hx hb dL_law_402 ?_
        refine lv_goto (tgt := 418) hx hb dL_law_403 (by decide) ?_
        refine lv_istore (lv' := [(13, .int (zI 1)), (12, .int (zI t9)), (11, .int (zI 1)), (10, .int (zI y)), (9, .int (zI x)), (8, .int (zI (A.1 0 1))), (7, .int (zI (A.1 0 0))), (5, .int (zI h)), (4, .int (zI g)), (3, .int (zI i)), (2, .ref (u 0)), (1, .ref (a 0)), (0, .ref b)]) hx hb dL_law_418 hl (by decide) rfl (fun ls hl => ?_)
        have hvv : (0 : Int) ≤ 1 ∧ 1 < valsF A.1 t9 := ⟨by omega, vals_lt (by omega) (fun _ => by omega) (fun _ => by omega) (fun _ => by omega)⟩
        have hv8 := vals_r (t := t9) hwf
        have hpp := wP y hqy.1 hqy.2
        have hp9 : -7 ≤ A.1 1 (6 * y + t9) ∧ A.1 1 (6 * y + t9) ≤ 31 := by rcases Int4 (w := t9) (by omega) with e9 | e9 | e9 | e9 <;> rw [e9] <;> omega
        obtain ⟨C, eC, hC, hC0, hC2, hCv⟩ := set_ok hA hqy hvv
        refine lv_aload_n hx hb dL_law_420 rfl (lv_at hl 11 rfl) ?_
        refine lv_iload hx hb dL_law_421 (lv_at hl 3 rfl) ?_
        refine lv_iload hx hb dL_law_423 (lv_at hl 1 rfl) ?_
        refine z_w (zrV (As := [.int (zI y), .int (zI t9)]) (rest := []) ⟨hx, hb, hml, hown, hts⟩ (k_sprite l G cs a A y t9 ia hA (by omega) (by omega)) gL_law_X6_sprite rfl qX6_sprite rfl rfl ⟨Nat.le_of_ble_eq_true rfl, Nat.le_of_ble_eq_true rfl⟩ hXI hK (va_recv hK.1 hXI.xo (ci := 6) (q0 := 0) rfl rfl) hl.1 rfl (Nat.le_of_ble_eq_true rfl) dL_law_425 (rm1 (by omega))) hS (fun q h9 => hsA q h9) (fun q h9 => hsA q h9) (fun v H locs hpost hle hk hS => ?_)
        obtain ⟨rfl, hXI⟩ := hpost
        have hPa := keepO (Ord.of (b := u) (n := 1) rfl) hPa hk (fun j hj h9 => by obtain ⟨i9, h1, h2, h3⟩ := h9; exact hau i9 h2 (by rw [show j = 0 by omega] at h3; exact h3.symm))
        refine z_topi (b := A.1 1 (6 * y + t9)) (sp_at hqy (by omega)) ?_
        refine lv_istore (lv' := [(14, .int (zI (A.1 1 (6 * y + t9)))), (13, .int (zI 1)), (12, .int (zI t9)), (11, .int (zI 1)), (10, .int (zI y)), (9, .int (zI x)), (8, .int (zI (A.1 0 1))), (7, .int (zI (A.1 0 0))), (5, .int (zI h)), (4, .int (zI g)), (3, .int (zI i)), (2, .ref (u 0)), (1, .ref (a 0)), (0, .ref b)]) hx hb dL_law_428 hl (by decide) rfl (fun ls hl => ?_)
        refine lv_aload_n hx hb dL_law_430 rfl (lv_at hl 12 rfl) ?_
        refine lv_iload hx hb dL_law_431 (lv_at hl 4 rfl) ?_
        refine lv_iload hx hb dL_law_433 (lv_at hl 2 rfl) ?_
        refine lv_iload hx hb dL_law_435 (lv_at hl 1 rfl) ?_
        refine z_w (zrV (As := [.int (zI y), .int (zI t9), .int (zI 1)]) (rest := []) ⟨hx, hb, hml, hown, hts⟩ (k_set l G cs a A y t9 1 ia hA (by omega) (by omega) (by omega)) gL_law_X6_set rfl qX6_set rfl rfl ⟨Nat.le_of_ble_eq_true rfl, Nat.le_of_ble_eq_true rfl⟩ hXI hK (va_recv hK.1 hXI.xo (ci := 6) (q0 := 0) rfl rfl) hl.1 rfl (Nat.le_of_ble_eq_true rfl) dL_law_437 (rm1 (by omega))) hS (fun q h9 => hsA q h9) (fun q h9 => hsA q h9) (fun v H locs hpost hle hk hS => ?_)
        obtain ⟨hv, hXI⟩ := hpost
        have hE : setF A y t9 1 = (A.1 1 (6 * y + t9), C) := eC
        have hv : v = .int (zI (A.1 1 (6 * y + t9))) := by rw [hE] at hv; exact hv
        have hXI : XI G cs a a C H := by rw [hE] at hXI; exact hXI
        subst hv
        clear hE
        have hPa := keepO (Ord.of (b := u) (n := 1) rfl) hPa hk (fun j hj h9 => by obtain ⟨i9, h1, h2, h3⟩ := h9; exact hau i9 h2 (by rw [show j = 0 by omega] at h3; exact h3.symm))
        refine lv_iload hx hb dL_law_440 (lv_at hl 0 rfl) ?_
        refine z_icmp_ne (tgt := 475) hx hb dL_law_442 (by decide) (by omega) (by omega) (fun c110 => ?_) (fun c110 => ?_)
        · skip
          exfalso; omega
        · skip
          refine lv_aload_n hx hb dL_law_445 rfl (lv_at hl 12 rfl) ?_
          refine lv_iload hx hb dL_law_446 (lv_at hl 4 rfl) ?_
          refine lv_iload hx hb dL_law_448 (lv_at hl 2 rfl) ?_
          have hqC : 0 ≤ y ∧ y < C.1 0 1 := by rw [hC0]; exact hqy
          refine z_w (zrV (As := [.int (zI y), .int (zI t9)]) (rest := []) ⟨hx, hb, hml, hown, hts⟩ (k_sprite l G cs a C y t9 ia hC (by omega) (by omega)) gL_law_X6_sprite rfl qX6_sprite rfl rfl ⟨Nat.le_of_ble_eq_true rfl, Nat.le_of_ble_eq_true rfl⟩ hXI hK (va_recv hK.1 hXI.xo (ci := 6) (q0 := 0) rfl rfl) hl.1 rfl (Nat.le_of_ble_eq_true rfl) dL_law_450 (rm1 (by omega))) hS (fun q h9 => hsA q h9) (fun q h9 => hsA q h9) (fun v H locs hpost hle hk hS => ?_)
          obtain ⟨rfl, hXI⟩ := hpost
          have hPa := keepO (Ord.of (b := u) (n := 1) rfl) hPa hk (fun j hj h9 => by obtain ⟨i9, h1, h2, h3⟩ := h9; exact hau i9 h2 (by rw [show j = 0 by omega] at h3; exact h3.symm))
          refine z_topi (b := 1) ((sp_at hqC (by omega)).trans hCv) ?_
          refine lv_iload hx hb dL_law_453 (lv_at hl 1 rfl) ?_
          refine z_icmp_ne (tgt := 475) hx hb dL_law_455 (by decide) (by omega) (by omega) (fun c111 => ?_) (fun c111 => ?_)
          · skip
            exfalso; omega
          · skip
            refine lv_aload_n hx hb dL_law_458 rfl (lv_at hl 12 rfl) ?_
            refine lv_iload hx hb dL_law_459 (lv_at hl 4 rfl) ?_
            refine z_iconst (n := 4) hx hb dL_law_461 ?_
            refine z_iconst (n := 0) hx hb dL_law_462 ?_
            refine z_w (zrV (As := [.int (zI y), .int (zI 4), .int (zI 0)]) (rest := []) ⟨hx, hb, hml, hown, hts⟩ (k_set l G cs a C y 4 0 ia hC (by omega) (by omega) (by omega)) gL_law_X6_set rfl qX6_set rfl rfl ⟨Nat.le_of_ble_eq_true rfl, Nat.le_of_ble_eq_true rfl⟩ hXI hK (va_recv hK.1 hXI.xo (ci := 6) (q0 := 0) rfl rfl) hl.1 rfl (Nat.le_of_ble_eq_true rfl) dL_law_463 (rm1 (by omega))) hS (fun q h9 => hsA q h9) (fun q h9 => hsA q h9) (fun v H locs hpost hle hk hS => ?_)
            obtain ⟨hv, hXI⟩ := hpost
            have hE : setF C y 4 0 = ((-2), C) := (set_4 hqC)
            have hv : v = .int (zI (-2)) := by rw [hE] at hv; exact hv
            have hXI : XI G cs a a C H := by rw [hE] at hXI; exact hXI
            subst hv
            clear hE
            have hPa := keepO (Ord.of (b := u) (n := 1) rfl) hPa hk (fun j hj h9 => by obtain ⟨i9, h1, h2, h3⟩ := h9; exact hau i9 h2 (by rw [show j = 0 by omega] at h3; exact h3.symm))
            refine z_bipush (n := -2) hx hb dL_law_466 (by decide) ?_
            refine z_icmp_ne (tgt := 475) hx hb dL_law_468 (by decide) (by omega) (by omega) (fun c112 => ?_) (fun c112 => ?_)
            · skip
              exfalso; omega
            · skip
              refine z_iconst (n := 1) hx hb dL_law_471 ?_
              refine lv_goto (tgt := 476) hx hb dL_law_472 (by decide) ?_
              refine lv_istore (lv' := [(11, .int (zI 1)), (14, .int (zI (A.1 1 (6 * y + t9)))), (13, .int (zI 1)), (12, .int (zI t9)), (10, .int (zI y)), (9, .int (zI x)), (8, .int (zI (A.1 0 1))), (7, .int (zI (A.1 0 0))), (5, .int (zI h)), (4, .int (zI g)), (3, .int (zI i)), (2, .ref (u 0)), (1, .ref (a 0)), (0, .ref b)]) hx hb dL_law_476 hl (by decide) rfl (fun ls hl => ?_)
              refine lv_goto (tgt := 964) hx hb dL_law_478 (by decide) ?_
              refine W.widen (k := cells + 1) (n := slots + 64) (by omega) (by omega) ?_
              exact K C P H locs ls (li_same hLI0 hC (by rw [hC0]) (by rw [hC0]) (by rw [hC0]) hC2 (by omega)) hXI hPa hS (lv_sub hl [13, 12, 11, 10, 8, 0] rfl)
  · skip
    refine lv_iload hx hb dL_law_375 (lv_at hl 6 rfl) ?_
    refine z_iconst (n := 5) hx hb dL_law_377 ?_
    refine lv_ishr hx hb dL_law_378 ?_
    refine z_top (v' := .int (zI (shF h 5))) (shF_i _ _) ?_
    refine lv_iload hx hb dL_law_379 (lv_at hl 5 rfl) ?_
    refine z_ro (zrSJ (As := [.int (zI (shF h 5)), .int (zI (A.1 0 0))]) (rest := []) (Pw := fun _ => True) ⟨hx, hb, hml, hown, hts⟩ (c_L_low l G cs (shF h 5) (A.1 0 0) (by omega)) gL_law_L_low rfl qL_low rfl rfl ⟨Nat.le_of_ble_eq_true rfl, Nat.le_of_ble_eq_true rfl⟩ trivial hK hl.1 rfl (Nat.le_of_ble_eq_true rfl) dL_law_381 (rm1 (by omega))) ?_
    refine lv_goto (tgt := 418) hx hb dL_law_384 (by decide) ?_
    refine lv_istore (lv' := [(13, .int (zI (lowF (shF h 5) (A.1 0 0)))), (12, .int (zI t9)), (11, .int (zI 1)), (10, .int (zI y)), (9, .int (zI x)), (8, .int (zI (A.1 0 1))), (7, .int (zI (A.1 0 0))), (5, .int (zI h)), (4, .int (zI g)), (3, .int (zI i)), (2, .ref (u 0)), (1, .ref (a 0)), (0, .ref b)]) hx hb dL_law_418 hl (by decide) rfl (fun ls hl => ?_)
    have hv9 := lowF_r (shF h 5) (show 0 < A.1 0 0 by omega)
    have hvv : (0 : Int) ≤ lowF (shF h 5) (A.1 0 0) ∧ lowF (shF h 5) (A.1 0 0) < valsF A.1 t9 := ⟨by omega, vals_lt (by omega) (fun _ => by omega) (fun _ => by omega) (fun _ => by omega)⟩
    have hv8 := vals_r (t := t9) hwf
    have hpp := wP y hqy.1 hqy.2
    have hp9 : -7 ≤ A.1 1 (6 * y + t9) ∧ A.1 1 (6 * y + t9) ≤ 31 := by rcases Int4 (w := t9) (by omega) with e9 | e9 | e9 | e9 <;> rw [e9] <;> omega
    obtain ⟨C, eC, hC, hC0, hC2, hCv⟩ := set_ok hA hqy hvv
    refine lv_aload_n hx hb dL_law_420 rfl (lv_at hl 11 rfl) ?_
    refine lv_iload hx hb dL_law_421 (lv_at hl 3 rfl) ?_
    refine lv_iload hx hb dL_law_423 (lv_at hl 1 rfl) ?_
    refine z_w (zrV (As := [.int (zI y), .int (zI t9)]) (rest := []) ⟨hx, hb, hml, hown, hts⟩ (k_sprite l G cs a A y t9 ia hA (by omega) (by omega)) gL_law_X6_sprite rfl qX6_sprite rfl rfl ⟨Nat.le_of_ble_eq_true rfl, Nat.le_of_ble_eq_true rfl⟩ hXI hK (va_recv hK.1 hXI.xo (ci := 6) (q0 := 0) rfl rfl) hl.1 rfl (Nat.le_of_ble_eq_true rfl) dL_law_425 (rm1 (by omega))) hS (fun q h9 => hsA q h9) (fun q h9 => hsA q h9) (fun v H locs hpost hle hk hS => ?_)
    obtain ⟨rfl, hXI⟩ := hpost
    have hPa := keepO (Ord.of (b := u) (n := 1) rfl) hPa hk (fun j hj h9 => by obtain ⟨i9, h1, h2, h3⟩ := h9; exact hau i9 h2 (by rw [show j = 0 by omega] at h3; exact h3.symm))
    refine z_topi (b := A.1 1 (6 * y + t9)) (sp_at hqy (by omega)) ?_
    refine lv_istore (lv' := [(14, .int (zI (A.1 1 (6 * y + t9)))), (13, .int (zI (lowF (shF h 5) (A.1 0 0)))), (12, .int (zI t9)), (11, .int (zI 1)), (10, .int (zI y)), (9, .int (zI x)), (8, .int (zI (A.1 0 1))), (7, .int (zI (A.1 0 0))), (5, .int (zI h)), (4, .int (zI g)), (3, .int (zI i)), (2, .ref (u 0)), (1, .ref (a 0)), (0, .ref b)]) hx hb dL_law_428 hl (by decide) rfl (fun ls hl => ?_)
    refine lv_aload_n hx hb dL_law_430 rfl (lv_at hl 12 rfl) ?_
    refine lv_iload hx hb dL_law_431 (lv_at hl 4 rfl) ?_
    refine lv_iload hx hb dL_law_433 (lv_at hl 2 rfl) ?_
    refine lv_iload hx hb dL_law_435 (lv_at hl 1 rfl) ?_
    refine z_w (zrV (As := [.int (zI y), .int (zI t9), .int (zI (lowF (shF h 5) (A.1 0 0)))]) (rest := []) ⟨hx, hb, hml, hown, hts⟩ (k_set l G cs a A y t9 (lowF (shF h 5) (A.1 0 0)) ia hA (by omega) (by omega) (by omega)) gL_law_X6_set rfl qX6_set rfl rfl ⟨Nat.le_of_ble_eq_true rfl, Nat.le_of_ble_eq_true rfl⟩ hXI hK (va_recv hK.1 hXI.xo (ci := 6) (q0 := 0) rfl rfl) hl.1 rfl (Nat.le_of_ble_eq_true rfl) dL_law_437 (rm1 (by omega))) hS (fun q h9 => hsA q h9) (fun q h9 => hsA q h9) (fun v H locs hpost hle hk hS => ?_)
    obtain ⟨hv, hXI⟩ := hpost
    have hE : setF A y t9 (lowF (shF h 5) (A.1 0 0)) = (A.1 1 (6 * y + t9), C) := eC
    have hv : v = .int (zI (A.1 1 (6 * y + t9))) := by rw [hE] at hv; exact hv
    have hXI : XI G cs a a C H := by rw [hE] at hXI; exact hXI
    subst hv
    clear hE
    have hPa := keepO (Ord.of (b := u) (n := 1) rfl) hPa hk (fun j hj h9 => by obtain ⟨i9, h1, h2, h3⟩ := h9; exact hau i9 h2 (by rw [show j = 0 by omega] at h3; exact h3.symm))
    refine lv_iload hx hb dL_law_440 (lv_at hl 0 rfl) ?_
    refine z_icmp_ne (tgt := 475) hx hb dL_law_442 (by decide) (by omega) (by omega) (fun c113 => ?_) (fun c113 => ?_)
    · skip
      exfalso; omega
    · skip
      refine lv_aload_n hx hb dL_law_445 rfl (lv_at hl 12 rfl) ?_
      refine lv_iload hx hb dL_law_446 (lv_at hl 4 rfl) ?_
      refine lv_iload hx hb dL_law_448 (lv_at hl 2 rfl) ?_
      have hqC : 0 ≤ y ∧ y < C.1 0 1 := by rw [hC0]; exact hqy
      refine z_w (zrV (As := [.int (zI y), .int (zI t9)]) (rest := []) ⟨hx, hb, hml, hown, hts⟩ (k_sprite l G cs a C y t9 ia hC (by omega) (by omega)) gL_law_X6_sprite rfl qX6_sprite rfl rfl ⟨Nat.le_of_ble_eq_true rfl, Nat.le_of_ble_eq_true rfl⟩ hXI hK (va_recv hK.1 hXI.xo (ci := 6) (q0 := 0) rfl rfl) hl.1 rfl (Nat.le_of_ble_eq_true rfl) dL_law_450 (rm1 (by omega))) hS (fun q h9 => hsA q h9) (fun q h9 => hsA q h9) (fun v H locs hpost hle hk hS => ?_)
      obtain ⟨rfl, hXI⟩ := hpost
      have hPa := keepO (Ord.of (b := u) (n := 1) rfl) hPa hk (fun j hj h9 => by obtain ⟨i9, h1, h2, h3⟩ := h9; exact hau i9 h2 (by rw [show j = 0 by omega] at h3; exact h3.symm))
      refine z_topi (b := lowF (shF h 5) (A.1 0 0)) ((sp_at hqC (by omega)).trans hCv) ?_
      refine lv_iload hx hb dL_law_453 (lv_at hl 1 rfl) ?_
      refine z_icmp_ne (tgt := 475) hx hb dL_law_455 (by decide) (by omega) (by omega) (fun c114 => ?_) (fun c114 => ?_)
      · skip
        exfalso; omega
      · skip
        refine lv_aload_n hx hb dL_law_458 rfl (lv_at hl 12 rfl) ?_
        refine lv_iload hx hb dL_law_459 (lv_at hl 4 rfl) ?_
        refine z_iconst (n := 4) hx hb dL_law_461 ?_
        refine z_iconst (n := 0) hx hb dL_law_462 ?_
        refine z_w (zrV (As := [.int (zI y), .int (zI 4), .int (zI 0)]) (rest := []) ⟨hx, hb, hml, hown, hts⟩ (k_set l G cs a C y 4 0 ia hC (by omega) (by omega) (by omega)) gL_law_X6_set rfl qX6_set rfl rfl ⟨Nat.le_of_ble_eq_true rfl, Nat.le_of_ble_eq_true rfl⟩ hXI hK (va_recv hK.1 hXI.xo (ci := 6) (q0 := 0) rfl rfl) hl.1 rfl (Nat.le_of_ble_eq_true rfl) dL_law_463 (rm1 (by omega))) hS (fun q h9 => hsA q h9) (fun q h9 => hsA q h9) (fun v H locs hpost hle hk hS => ?_)
        obtain ⟨hv, hXI⟩ := hpost
        have hE : setF C y 4 0 = ((-2), C) := (set_4 hqC)
        have hv : v = .int (zI (-2)) := by rw [hE] at hv; exact hv
        have hXI : XI G cs a a C H := by rw [hE] at hXI; exact hXI
        subst hv
        clear hE
        have hPa := keepO (Ord.of (b := u) (n := 1) rfl) hPa hk (fun j hj h9 => by obtain ⟨i9, h1, h2, h3⟩ := h9; exact hau i9 h2 (by rw [show j = 0 by omega] at h3; exact h3.symm))
        refine z_bipush (n := -2) hx hb dL_law_466 (by decide) ?_
        refine z_icmp_ne (tgt := 475) hx hb dL_law_468 (by decide) (by omega) (by omega) (fun c115 => ?_) (fun c115 => ?_)
        · skip
          exfalso; omega
        · skip
          refine z_iconst (n := 1) hx hb dL_law_471 ?_
          refine lv_goto (tgt := 476) hx hb dL_law_472 (by decide) ?_
          refine lv_istore (lv' := [(11, .int (zI 1)), (14, .int (zI (A.1 1 (6 * y + t9)))), (13, .int (zI (lowF (shF h 5) (A.1 0 0)))), (12, .int (zI t9)), (10, .int (zI y)), (9, .int (zI x)), (8, .int (zI (A.1 0 1))), (7, .int (zI (A.1 0 0))), (5, .int (zI h)), (4, .int (zI g)), (3, .int (zI i)), (2, .ref (u 0)), (1, .ref (a 0)), (0, .ref b)]) hx hb dL_law_476 hl (by decide) rfl (fun ls hl => ?_)
          refine lv_goto (tgt := 964) hx hb dL_law_478 (by decide) ?_
          refine W.widen (k := cells + 1) (n := slots + 64) (by omega) (by omega) ?_
          exact K C P H locs ls (li_same hLI0 hC (by rw [hC0]) (by rw [hC0]) (by rw [hC0]) hC2 (by omega)) hXI hPa hS (lv_sub hl [13, 12, 11, 10, 8, 0] rfl)

set_option maxHeartbeats 4000000 in
set_option maxRecDepth 100000 in
theorem law_s9 (hC : LC p s mM c b L xs) (hK : kK G cs s) (hF : LPl a u s.heap.size) (hXI : XI G cs a a A H) (hPa : va_P G vwCl (paW cs u P) H) (hS : va_S (fun q => s.heap.size ≤ q) s.heap H locs) (hl : lv_has ls 16 [(11, .int (zI 1)), (10, .int (zI y)), (9, .int (zI x)), (8, .int (zI (A.1 0 1))), (7, .int (zI (A.1 0 0))), (5, .int (zI h)), (4, .int (zI g)), (3, .int (zI i)), (2, .ref (u 0)), (1, .ref (a 0)), (0, .ref b)]) (hLI : LI A P (50 * i)) (hi : 0 ≤ i ∧ i < 30) (hpx : 0 ≤ x ∧ x < A.1 0 0) (hqy : 0 ≤ y ∧ y < A.1 0 1) (hc : cells + 1 ≤ 600000 ∧ slots + 64 ≤ 7302249) (K : KT p l e s mM below meth c G cs a u b i h (cells + 1) (slots + 64) Q) : W p l e room_1 s mM #[Value.ref b] below meth c H locs cells slots Q (F0 mM 488 ls []) := by
  obtain ⟨hx, hb, hml, hown, hts, hX, hbl, hL⟩ := hC
  obtain ⟨ia, hau, hza, hzu⟩ := hF
  have hsA : ∀ q, AX a 0 62 q → s.heap.size ≤ q := fun q h9 => by obtain ⟨i9, _, h2, h3⟩ := h9; rw [h3]; exact hza i9 h2
  have hLI0 := hLI
  obtain ⟨hA, h00, h01, h04, hPal⟩ := hLI
  have hwf := hA.1.1
  obtain ⟨w0, w1, w2, w3, w4, wP, wC, wS, wX⟩ := id hwf
  refine lv_iload hx hb dL_law_488 (lv_at hl 6 rfl) ?_
  refine z_bipush (n := 39) hx hb dL_law_490 (by decide) ?_
  refine z_ro (zrSJ (As := [.int (zI g), .int (zI 39)]) (rest := []) (Pw := fun _ => True) ⟨hx, hb, hml, hown, hts⟩ (c_L_low l G cs g 39 (by omega)) gL_law_L_low rfl qL_low rfl rfl ⟨Nat.le_of_ble_eq_true rfl, Nat.le_of_ble_eq_true rfl⟩ trivial hK hl.1 rfl (Nat.le_of_ble_eq_true rfl) dL_law_492 (rm1 (by omega))) ?_
  refine z_bipush (n := 7) hx hb dL_law_495 (by decide) ?_
  refine z_isub hx hb dL_law_497 ?_
  refine lv_istore (lv' := [(12, .int (zI ((lowF g 39) - 7))), (11, .int (zI 1)), (10, .int (zI y)), (9, .int (zI x)), (8, .int (zI (A.1 0 1))), (7, .int (zI (A.1 0 0))), (5, .int (zI h)), (4, .int (zI g)), (3, .int (zI i)), (2, .ref (u 0)), (1, .ref (a 0)), (0, .ref b)]) hx hb dL_law_498 hl (by decide) rfl (fun ls hl => ?_)
  refine lv_iload hx hb dL_law_500 (lv_at hl 7 rfl) ?_
  refine z_bipush (n := 6) hx hb dL_law_502 (by decide) ?_
  refine lv_ishr hx hb dL_law_504 ?_
  refine z_top (v' := .int (zI (shF g 6))) (shF_i _ _) ?_
  refine z_bipush (n := 20) hx hb dL_law_505 (by decide) ?_
  refine z_ro (zrSJ (As := [.int (zI (shF g 6)), .int (zI 20)]) (rest := []) (Pw := fun _ => True) ⟨hx, hb, hml, hown, hts⟩ (c_L_low l G cs (shF g 6) 20 (by omega)) gL_law_L_low rfl qL_low rfl rfl ⟨Nat.le_of_ble_eq_true rfl, Nat.le_of_ble_eq_true rfl⟩ trivial hK hl.1 rfl (Nat.le_of_ble_eq_true rfl) dL_law_507 (rm1 (by omega))) ?_
  refine z_bipush (n := 7) hx hb dL_law_510 (by decide) ?_
  refine z_isub hx hb dL_law_512 ?_
  refine lv_istore (lv' := [(13, .int (zI ((lowF (shF g 6) 20) - 7))), (12, .int (zI ((lowF g 39) - 7))), (11, .int (zI 1)), (10, .int (zI y)), (9, .int (zI x)), (8, .int (zI (A.1 0 1))), (7, .int (zI (A.1 0 0))), (5, .int (zI h)), (4, .int (zI g)), (3, .int (zI i)), (2, .ref (u 0)), (1, .ref (a 0)), (0, .ref b)]) hx hb dL_law_513 hl (by decide) rfl (fun ls hl => ?_)
  refine lv_aload_n hx hb dL_law_515 rfl (lv_at hl 11 rfl) ?_
  refine lv_iload hx hb dL_law_516 (lv_at hl 3 rfl) ?_
  refine lv_iload hx hb dL_law_518 (lv_at hl 1 rfl) ?_
  refine lv_iload hx hb dL_law_520 (lv_at hl 0 rfl) ?_
  have hr1 := lowF_r g (show (0 : Int) < 39 by decide)
  have hr2 := lowF_r (shF g 6) (show (0 : Int) < 20 by decide)
  obtain ⟨C, eC, hC, hC0, hC2, hCx, hCy⟩ := move_ok hA hqy (x := lowF g 39 - 7) (y := lowF (shF g 6) 20 - 7) (by omega) (by omega)
  have hqC : 0 ≤ y ∧ y < C.1 0 1 := by rw [hC0]; exact hqy
  have hcr := cntI_r (isOver C.1 y) (show (0 : Int) ≤ 32 by decide)
  refine z_w (zrV (As := [.int (zI y), .int (zI ((lowF g 39) - 7)), .int (zI ((lowF (shF g 6) 20) - 7))]) (rest := []) ⟨hx, hb, hml, hown, hts⟩ (k_move l G cs a A y ((lowF g 39) - 7) ((lowF (shF g 6) 20) - 7) ia hA (by omega) (by omega) (by omega)) gL_law_X6_move rfl qX6_move rfl rfl ⟨Nat.le_of_ble_eq_true rfl, Nat.le_of_ble_eq_true rfl⟩ hXI hK (va_recv hK.1 hXI.xo (ci := 6) (q0 := 0) rfl rfl) hl.1 rfl (Nat.le_of_ble_eq_true rfl) dL_law_522 (rm1 (by omega))) hS (fun q h9 => hsA q h9) (fun q h9 => hsA q h9) (fun v H locs hpost hle hk hS => ?_)
  obtain ⟨hv, hXI⟩ := hpost
  have hE : moveF A y ((lowF g 39) - 7) ((lowF (shF g 6) 20) - 7) = (cntI (isOver C.1 y) 32, C) := eC
  have hv : v = .int (zI (cntI (isOver C.1 y) 32)) := by rw [hE] at hv; exact hv
  have hXI : XI G cs a a C H := by rw [hE] at hXI; exact hXI
  subst hv
  clear hE
  have hPa := keepO (Ord.of (b := u) (n := 1) rfl) hPa hk (fun j hj h9 => by obtain ⟨i9, h1, h2, h3⟩ := h9; exact hau i9 h2 (by rw [show j = 0 by omega] at h3; exact h3.symm))
  refine lv_aload_n hx hb dL_law_525 rfl (lv_at hl 11 rfl) ?_
  refine lv_iload hx hb dL_law_526 (lv_at hl 3 rfl) ?_
  refine z_bipush (n := 7) hx hb dL_law_528 (by decide) ?_
  refine z_w (zrV (As := [.int (zI y), .int (zI 7)]) (rest := [.int (zI (cntI (isOver C.1 y) 32))]) ⟨hx, hb, hml, hown, hts⟩ (k_sprite l G cs a C y 7 ia hC (by omega) (by omega)) gL_law_X6_sprite rfl qX6_sprite rfl rfl ⟨Nat.le_of_ble_eq_true rfl, Nat.le_of_ble_eq_true rfl⟩ hXI hK (va_recv hK.1 hXI.xo (ci := 6) (q0 := 0) rfl rfl) hl.1 rfl (Nat.le_of_ble_eq_true rfl) dL_law_530 (rm1 (by omega))) hS (fun q h9 => hsA q h9) (fun q h9 => hsA q h9) (fun v H locs hpost hle hk hS => ?_)
  obtain ⟨rfl, hXI⟩ := hpost
  have hPa := keepO (Ord.of (b := u) (n := 1) rfl) hPa hk (fun j hj h9 => by obtain ⟨i9, h1, h2, h3⟩ := h9; exact hau i9 h2 (by rw [show j = 0 by omega] at h3; exact h3.symm))
  refine z_topi (b := cntI (isOver C.1 y) 32) (sp_7 hqC) ?_
  refine z_icmp_ne (tgt := 564) hx hb dL_law_533 (by decide) (by omega) (by omega) (fun c101 => ?_) (fun c101 => ?_)
  · skip
    exfalso; omega
  · skip
    refine lv_aload_n hx hb dL_law_536 rfl (lv_at hl 11 rfl) ?_
    refine lv_iload hx hb dL_law_537 (lv_at hl 3 rfl) ?_
    refine z_iconst (n := 4) hx hb dL_law_539 ?_
    refine z_w (zrV (As := [.int (zI y), .int (zI 4)]) (rest := []) ⟨hx, hb, hml, hown, hts⟩ (k_sprite l G cs a C y 4 ia hC (by omega) (by omega)) gL_law_X6_sprite rfl qX6_sprite rfl rfl ⟨Nat.le_of_ble_eq_true rfl, Nat.le_of_ble_eq_true rfl⟩ hXI hK (va_recv hK.1 hXI.xo (ci := 6) (q0 := 0) rfl rfl) hl.1 rfl (Nat.le_of_ble_eq_true rfl) dL_law_540 (rm1 (by omega))) hS (fun q h9 => hsA q h9) (fun q h9 => hsA q h9) (fun v H locs hpost hle hk hS => ?_)
    obtain ⟨rfl, hXI⟩ := hpost
    have hPa := keepO (Ord.of (b := u) (n := 1) rfl) hPa hk (fun j hj h9 => by obtain ⟨i9, h1, h2, h3⟩ := h9; exact hau i9 h2 (by rw [show j = 0 by omega] at h3; exact h3.symm))
    refine z_topi (b := lowF g 39 - 7) ((sp_at hqC (by decide)).trans hCx) ?_
    refine lv_iload hx hb dL_law_543 (lv_at hl 1 rfl) ?_
    refine z_icmp_ne (tgt := 564) hx hb dL_law_545 (by decide) (by omega) (by omega) (fun c102 => ?_) (fun c102 => ?_)
    · skip
      exfalso; omega
    · skip
      refine lv_aload_n hx hb dL_law_548 rfl (lv_at hl 11 rfl) ?_
      refine lv_iload hx hb dL_law_549 (lv_at hl 3 rfl) ?_
      refine z_iconst (n := 5) hx hb dL_law_551 ?_
      refine z_w (zrV (As := [.int (zI y), .int (zI 5)]) (rest := []) ⟨hx, hb, hml, hown, hts⟩ (k_sprite l G cs a C y 5 ia hC (by omega) (by omega)) gL_law_X6_sprite rfl qX6_sprite rfl rfl ⟨Nat.le_of_ble_eq_true rfl, Nat.le_of_ble_eq_true rfl⟩ hXI hK (va_recv hK.1 hXI.xo (ci := 6) (q0 := 0) rfl rfl) hl.1 rfl (Nat.le_of_ble_eq_true rfl) dL_law_552 (rm1 (by omega))) hS (fun q h9 => hsA q h9) (fun q h9 => hsA q h9) (fun v H locs hpost hle hk hS => ?_)
      obtain ⟨rfl, hXI⟩ := hpost
      have hPa := keepO (Ord.of (b := u) (n := 1) rfl) hPa hk (fun j hj h9 => by obtain ⟨i9, h1, h2, h3⟩ := h9; exact hau i9 h2 (by rw [show j = 0 by omega] at h3; exact h3.symm))
      refine z_topi (b := lowF (shF g 6) 20 - 7) ((sp_at hqC (by decide)).trans hCy) ?_
      refine lv_iload hx hb dL_law_555 (lv_at hl 0 rfl) ?_
      refine z_icmp_ne (tgt := 564) hx hb dL_law_557 (by decide) (by omega) (by omega) (fun c103 => ?_) (fun c103 => ?_)
      · skip
        exfalso; omega
      · skip
        refine z_iconst (n := 1) hx hb dL_law_560 ?_
        refine lv_goto (tgt := 565) hx hb dL_law_561 (by decide) ?_
        refine lv_istore (lv' := [(11, .int (zI 1)), (13, .int (zI ((lowF (shF g 6) 20) - 7))), (12, .int (zI ((lowF g 39) - 7))), (10, .int (zI y)), (9, .int (zI x)), (8, .int (zI (A.1 0 1))), (7, .int (zI (A.1 0 0))), (5, .int (zI h)), (4, .int (zI g)), (3, .int (zI i)), (2, .ref (u 0)), (1, .ref (a 0)), (0, .ref b)]) hx hb dL_law_565 hl (by decide) rfl (fun ls hl => ?_)
        refine lv_goto (tgt := 964) hx hb dL_law_567 (by decide) ?_
        refine W.widen (k := cells + 1) (n := slots + 64) (by omega) (by omega) ?_
        exact K C P H locs ls (li_same hLI0 hC (by rw [hC0]) (by rw [hC0]) (by rw [hC0]) hC2 (by omega)) hXI hPa hS (lv_sub hl [12, 11, 10, 9, 7, 0] rfl)

set_option maxHeartbeats 4000000 in
set_option maxRecDepth 100000 in
theorem law_s10 (hC : LC p s mM c b L xs) (hK : kK G cs s) (hF : LPl a u s.heap.size) (hXI : XI G cs a a A H) (hPa : va_P G vwCl (paW cs u P) H) (hS : va_S (fun q => s.heap.size ≤ q) s.heap H locs) (hl : lv_has ls 16 [(11, .int (zI 1)), (10, .int (zI y)), (9, .int (zI x)), (8, .int (zI (A.1 0 1))), (7, .int (zI (A.1 0 0))), (5, .int (zI h)), (4, .int (zI g)), (3, .int (zI i)), (2, .ref (u 0)), (1, .ref (a 0)), (0, .ref b)]) (hLI : LI A P (50 * i)) (hi : 0 ≤ i ∧ i < 30) (hpx : 0 ≤ x ∧ x < A.1 0 0) (hqy : 0 ≤ y ∧ y < A.1 0 1) (hc : cells + 1 ≤ 600000 ∧ slots + 64 ≤ 7302249) (K : KT p l e s mM below meth c G cs a u b i h (cells + 1) (slots + 64) Q) : W p l e room_1 s mM #[Value.ref b] below meth c H locs cells slots Q (F0 mM 577 ls []) := by
  obtain ⟨hx, hb, hml, hown, hts, hX, hbl, hL⟩ := hC
  obtain ⟨ia, hau, hza, hzu⟩ := hF
  have hsA : ∀ q, AX a 0 62 q → s.heap.size ≤ q := fun q h9 => by obtain ⟨i9, _, h2, h3⟩ := h9; rw [h3]; exact hza i9 h2
  have hLI0 := hLI
  obtain ⟨hA, h00, h01, h04, hPal⟩ := hLI
  have hwf := hA.1.1
  obtain ⟨w0, w1, w2, w3, w4, wP, wC, wS, wX⟩ := id hwf
  refine lv_iload hx hb dL_law_577 (lv_at hl 6 rfl) ?_
  refine z_bipush (n := 32) hx hb dL_law_579 (by decide) ?_
  refine z_ro (zrSJ (As := [.int (zI g), .int (zI 32)]) (rest := []) (Pw := fun _ => True) ⟨hx, hb, hml, hown, hts⟩ (c_L_low l G cs g 32 (by omega)) gL_law_L_low rfl qL_low rfl rfl ⟨Nat.le_of_ble_eq_true rfl, Nat.le_of_ble_eq_true rfl⟩ trivial hK hl.1 rfl (Nat.le_of_ble_eq_true rfl) dL_law_581 (rm1 (by omega))) ?_
  refine lv_istore (lv' := [(12, .int (zI (lowF g 32))), (11, .int (zI 1)), (10, .int (zI y)), (9, .int (zI x)), (8, .int (zI (A.1 0 1))), (7, .int (zI (A.1 0 0))), (5, .int (zI h)), (4, .int (zI g)), (3, .int (zI i)), (2, .ref (u 0)), (1, .ref (a 0)), (0, .ref b)]) hx hb dL_law_584 hl (by decide) rfl (fun ls hl => ?_)
  refine lv_iload hx hb dL_law_586 (lv_at hl 0 rfl) ?_
  refine lv_iload hx hb dL_law_588 (lv_at hl 6 rfl) ?_
  refine z_bipush (n := 32) hx hb dL_law_590 (by decide) ?_
  refine lv_iload hx hb dL_law_592 (lv_at hl 0 rfl) ?_
  refine z_isub hx hb dL_law_594 ?_
  have hr1 := lowF_r g (show (0 : Int) < 32 by decide)
  refine z_ro (zrSJ (As := [.int (zI h), .int (zI (32 - (lowF g 32)))]) (rest := [.int (zI (lowF g 32))]) (Pw := fun _ => True) ⟨hx, hb, hml, hown, hts⟩ (c_L_low l G cs h (32 - (lowF g 32)) (by omega)) gL_law_L_low rfl qL_low rfl rfl ⟨Nat.le_of_ble_eq_true rfl, Nat.le_of_ble_eq_true rfl⟩ trivial hK hl.1 rfl (Nat.le_of_ble_eq_true rfl) dL_law_595 (rm1 (by omega))) ?_
  have hr2 := lowF_r h (show 0 < 32 - lowF g 32 by omega)
  refine z_iadd hx hb dL_law_598 ?_
  refine lv_istore (lv' := [(13, .int (zI ((lowF g 32) + (lowF h (32 - (lowF g 32)))))), (12, .int (zI (lowF g 32))), (11, .int (zI 1)), (10, .int (zI y)), (9, .int (zI x)), (8, .int (zI (A.1 0 1))), (7, .int (zI (A.1 0 0))), (5, .int (zI h)), (4, .int (zI g)), (3, .int (zI i)), (2, .ref (u 0)), (1, .ref (a 0)), (0, .ref b)]) hx hb dL_law_599 hl (by decide) rfl (fun ls hl => ?_)
  refine lv_iload hx hb dL_law_601 (lv_at hl 7 rfl) ?_
  refine z_iconst (n := 5) hx hb dL_law_603 ?_
  refine lv_ishr hx hb dL_law_604 ?_
  refine z_top (v' := .int (zI (shF h 5))) (shF_i _ _) ?_
  refine z_iconst (n := 4) hx hb dL_law_605 ?_
  refine z_ro (zrSJ (As := [.int (zI (shF h 5)), .int (zI 4)]) (rest := []) (Pw := fun _ => True) ⟨hx, hb, hml, hown, hts⟩ (c_L_low l G cs (shF h 5) 4 (by omega)) gL_law_L_low rfl qL_low rfl rfl ⟨Nat.le_of_ble_eq_true rfl, Nat.le_of_ble_eq_true rfl⟩ trivial hK hl.1 rfl (Nat.le_of_ble_eq_true rfl) dL_law_606 (rm1 (by omega))) ?_
  refine lv_istore (lv' := [(14, .int (zI (lowF (shF h 5) 4))), (13, .int (zI ((lowF g 32) + (lowF h (32 - (lowF g 32)))))), (12, .int (zI (lowF g 32))), (11, .int (zI 1)), (10, .int (zI y)), (9, .int (zI x)), (8, .int (zI (A.1 0 1))), (7, .int (zI (A.1 0 0))), (5, .int (zI h)), (4, .int (zI g)), (3, .int (zI i)), (2, .ref (u 0)), (1, .ref (a 0)), (0, .ref b)]) hx hb dL_law_609 hl (by decide) rfl (fun ls hl => ?_)
  refine lv_iload hx hb dL_law_611 (lv_at hl 8 rfl) ?_
  refine z_bipush (n := 7) hx hb dL_law_613 (by decide) ?_
  refine lv_ishr hx hb dL_law_615 ?_
  refine z_top (v' := .int (zI (shF h 7))) (shF_i _ _) ?_
  refine z_iconst (n := 4) hx hb dL_law_616 ?_
  refine z_ro (zrSJ (As := [.int (zI (shF h 7)), .int (zI 4)]) (rest := []) (Pw := fun _ => True) ⟨hx, hb, hml, hown, hts⟩ (c_L_low l G cs (shF h 7) 4 (by omega)) gL_law_L_low rfl qL_low rfl rfl ⟨Nat.le_of_ble_eq_true rfl, Nat.le_of_ble_eq_true rfl⟩ trivial hK hl.1 rfl (Nat.le_of_ble_eq_true rfl) dL_law_617 (rm1 (by omega))) ?_
  refine lv_istore (lv' := [(15, .int (zI (lowF (shF h 7) 4))), (14, .int (zI (lowF (shF h 5) 4))), (13, .int (zI ((lowF g 32) + (lowF h (32 - (lowF g 32)))))), (12, .int (zI (lowF g 32))), (11, .int (zI 1)), (10, .int (zI y)), (9, .int (zI x)), (8, .int (zI (A.1 0 1))), (7, .int (zI (A.1 0 0))), (5, .int (zI h)), (4, .int (zI g)), (3, .int (zI i)), (2, .ref (u 0)), (1, .ref (a 0)), (0, .ref b)]) hx hb dL_law_620 hl (by decide) rfl (fun ls hl => ?_)
  refine lv_aload_n hx hb dL_law_622 rfl (lv_at hl 13 rfl) ?_
  refine lv_iload hx hb dL_law_623 (lv_at hl 3 rfl) ?_
  refine lv_iload hx hb dL_law_625 (lv_at hl 2 rfl) ?_
  refine lv_iload hx hb dL_law_627 (lv_at hl 1 rfl) ?_
  refine lv_iload hx hb dL_law_629 (lv_at hl 0 rfl) ?_
  have hr3 := lowF_r (shF h 5) (show (0 : Int) < 4 by decide)
  have hr4 := lowF_r (shF h 7) (show (0 : Int) < 4 by decide)
  obtain ⟨C, eC, hC, hC0, hC2, hCs⟩ := swap_ok hA (f := lowF g 32) (t := lowF g 32 + lowF h (32 - lowF g 32)) (u := lowF (shF h 5) 4) (v := lowF (shF h 7) 4) (by omega) (by omega) (by omega) (by omega)
  have hcr := cntI_r (hasSw C.1) (show (0 : Int) ≤ 32 by decide)
  refine z_w (zrV (As := [.int (zI (lowF g 32)), .int (zI ((lowF g 32) + (lowF h (32 - (lowF g 32))))), .int (zI (lowF (shF h 5) 4)), .int (zI (lowF (shF h 7) 4))]) (rest := []) ⟨hx, hb, hml, hown, hts⟩ (k_swap l G cs a A (lowF g 32) ((lowF g 32) + (lowF h (32 - (lowF g 32)))) (lowF (shF h 5) 4) (lowF (shF h 7) 4) ia hA (by omega) (by omega) (by omega) (by omega)) gL_law_X6_swap rfl qX6_swap rfl rfl ⟨Nat.le_of_ble_eq_true rfl, Nat.le_of_ble_eq_true rfl⟩ hXI hK (va_recv hK.1 hXI.xo (ci := 6) (q0 := 0) rfl rfl) hl.1 rfl (Nat.le_of_ble_eq_true rfl) dL_law_631 (rm1 (by omega))) hS (fun q h9 => hsA q h9) (fun q h9 => hsA q h9) (fun v H locs hpost hle hk hS => ?_)
  obtain ⟨hv, hXI⟩ := hpost
  have hE : swapF A (lowF g 32) ((lowF g 32) + (lowF h (32 - (lowF g 32)))) (lowF (shF h 5) 4) (lowF (shF h 7) 4) = (cntI (hasSw C.1) 32, C) := eC
  have hv : v = .int (zI (cntI (hasSw C.1) 32)) := by rw [hE] at hv; exact hv
  have hXI : XI G cs a a C H := by rw [hE] at hXI; exact hXI
  subst hv
  clear hE
  have hPa := keepO (Ord.of (b := u) (n := 1) rfl) hPa hk (fun j hj h9 => by obtain ⟨i9, h1, h2, h3⟩ := h9; exact hau i9 h2 (by rw [show j = 0 by omega] at h3; exact h3.symm))
  refine lv_aload_n hx hb dL_law_634 rfl (lv_at hl 13 rfl) ?_
  refine z_iconst (n := 5) hx hb dL_law_635 ?_
  refine z_w (zrV (As := [.int (zI 5)]) (rest := [.int (zI (cntI (hasSw C.1) 32))]) ⟨hx, hb, hml, hown, hts⟩ (k_count l G cs a C 5 ia hC (by omega)) gL_law_X6_count rfl qX6_count rfl rfl ⟨Nat.le_of_ble_eq_true rfl, Nat.le_of_ble_eq_true rfl⟩ hXI hK (va_recv hK.1 hXI.xo (ci := 6) (q0 := 0) rfl rfl) hl.1 rfl (Nat.le_of_ble_eq_true rfl) dL_law_636 (rm1 (by omega))) hS (fun q h9 => hsA q h9) (fun q h9 => hsA q h9) (fun v H locs hpost hle hk hS => ?_)
  obtain ⟨rfl, hXI⟩ := hpost
  have hPa := keepO (Ord.of (b := u) (n := 1) rfl) hPa hk (fun j hj h9 => by obtain ⟨i9, h1, h2, h3⟩ := h9; exact hau i9 h2 (by rw [show j = 0 by omega] at h3; exact h3.symm))
  refine z_topi (b := cntI (hasSw C.1) 32) ct_5 ?_
  refine z_icmp_ne (tgt := 682) hx hb dL_law_639 (by decide) (by omega) (by omega) (fun c101 => ?_) (fun c101 => ?_)
  · skip
    exfalso; omega
  · skip
    refine lv_aload_n hx hb dL_law_642 rfl (lv_at hl 13 rfl) ?_
    refine lv_iload hx hb dL_law_643 (lv_at hl 2 rfl) ?_
    refine z_iconst (n := 3) hx hb dL_law_645 ?_
    have hl9 := ln_34 hC.1.1 (q := lowF g 32 + lowF h (32 - lowF g 32)) (by omega)
    refine z_w (zrV (As := [.int (zI ((lowF g 32) + (lowF h (32 - (lowF g 32))))), .int (zI 3)]) (rest := []) ⟨hx, hb, hml, hown, hts⟩ (k_line l G cs a C ((lowF g 32) + (lowF h (32 - (lowF g 32)))) 3 ia hC (by omega) (by omega)) gL_law_X6_line rfl qX6_line rfl rfl ⟨Nat.le_of_ble_eq_true rfl, Nat.le_of_ble_eq_true rfl⟩ hXI hK (va_recv hK.1 hXI.xo (ci := 6) (q0 := 0) rfl rfl) hl.1 rfl (Nat.le_of_ble_eq_true rfl) dL_law_646 (rm1 (by omega))) hS (fun q h9 => hsA q h9) (fun q h9 => hsA q h9) (fun v H locs hpost hle hk hS => ?_)
    obtain ⟨rfl, hXI⟩ := hpost
    have hPa := keepO (Ord.of (b := u) (n := 1) rfl) hPa hk (fun j hj h9 => by obtain ⟨i9, h1, h2, h3⟩ := h9; exact hau i9 h2 (by rw [show j = 0 by omega] at h3; exact h3.symm))
    refine lv_iload hx hb dL_law_649 (lv_at hl 1 rfl) ?_
    refine lv_iload hx hb dL_law_651 (lv_at hl 0 rfl) ?_
    refine z_icmp_ne (tgt := 661) hx hb dL_law_653 (by decide) (by omega) (by omega) (fun c8 => ?_) (fun c8 => ?_)
    · skip
      rw [if_neg c8] at hCs
      refine lv_iload hx hb dL_law_661 (lv_at hl 1 rfl) ?_
      refine lv_iload hx hb dL_law_663 (lv_at hl 0 rfl) ?_
      refine z_icmp_ge (tgt := 673) hx hb dL_law_665 (by decide) (by omega) (by omega) (fun c7 => ?_) (fun c7 => ?_)
      · skip
        rw [if_neg (by omega)] at hCs
        refine lv_iload hx hb dL_law_673 (lv_at hl 0 rfl) ?_
        refine z_icmp_ne (tgt := 682) hx hb dL_law_675 (by decide) (by omega) (by omega) (fun c102 => ?_) (fun c102 => ?_)
        · skip
          exfalso; omega
        · skip
          refine z_iconst (n := 1) hx hb dL_law_678 ?_
          refine lv_goto (tgt := 683) hx hb dL_law_679 (by decide) ?_
          refine lv_istore (lv' := [(11, .int (zI 1)), (15, .int (zI (lowF (shF h 7) 4))), (14, .int (zI (lowF (shF h 5) 4))), (13, .int (zI ((lowF g 32) + (lowF h (32 - (lowF g 32)))))), (12, .int (zI (lowF g 32))), (10, .int (zI y)), (9, .int (zI x)), (8, .int (zI (A.1 0 1))), (7, .int (zI (A.1 0 0))), (5, .int (zI h)), (4, .int (zI g)), (3, .int (zI i)), (2, .ref (u 0)), (1, .ref (a 0)), (0, .ref b)]) hx hb dL_law_683 hl (by decide) rfl (fun ls hl => ?_)
          refine lv_goto (tgt := 964) hx hb dL_law_685 (by decide) ?_
          refine W.widen (k := cells + 1) (n := slots + 64) (by omega) (by omega) ?_
          exact K C P H locs ls (li_same hLI0 hC (by rw [hC0]) (by rw [hC0]) (by rw [hC0]) hC2 (by omega)) hXI hPa hS (lv_sub hl [14, 13, 12, 11, 9, 0] rfl)
      · skip
        rw [if_pos (by omega)] at hCs
        refine lv_iload hx hb dL_law_668 (lv_at hl 1 rfl) ?_
        refine lv_goto (tgt := 675) hx hb dL_law_670 (by decide) ?_
        refine z_icmp_ne (tgt := 682) hx hb dL_law_675 (by decide) (by omega) (by omega) (fun c103 => ?_) (fun c103 => ?_)
        · skip
          exfalso; omega
        · skip
          refine z_iconst (n := 1) hx hb dL_law_678 ?_
          refine lv_goto (tgt := 683) hx hb dL_law_679 (by decide) ?_
          refine lv_istore (lv' := [(11, .int (zI 1)), (15, .int (zI (lowF (shF h 7) 4))), (14, .int (zI (lowF (shF h 5) 4))), (13, .int (zI ((lowF g 32) + (lowF h (32 - (lowF g 32)))))), (12, .int (zI (lowF g 32))), (10, .int (zI y)), (9, .int (zI x)), (8, .int (zI (A.1 0 1))), (7, .int (zI (A.1 0 0))), (5, .int (zI h)), (4, .int (zI g)), (3, .int (zI i)), (2, .ref (u 0)), (1, .ref (a 0)), (0, .ref b)]) hx hb dL_law_683 hl (by decide) rfl (fun ls hl => ?_)
          refine lv_goto (tgt := 964) hx hb dL_law_685 (by decide) ?_
          refine W.widen (k := cells + 1) (n := slots + 64) (by omega) (by omega) ?_
          exact K C P H locs ls (li_same hLI0 hC (by rw [hC0]) (by rw [hC0]) (by rw [hC0]) hC2 (by omega)) hXI hPa hS (lv_sub hl [14, 13, 12, 11, 9, 0] rfl)
    · skip
      rw [if_pos c8] at hCs
      refine z_bipush (n := -5) hx hb dL_law_656 (by decide) ?_
      refine lv_goto (tgt := 675) hx hb dL_law_658 (by decide) ?_
      refine z_icmp_ne (tgt := 682) hx hb dL_law_675 (by decide) (by omega) (by omega) (fun c104 => ?_) (fun c104 => ?_)
      · skip
        exfalso; omega
      · skip
        refine z_iconst (n := 1) hx hb dL_law_678 ?_
        refine lv_goto (tgt := 683) hx hb dL_law_679 (by decide) ?_
        refine lv_istore (lv' := [(11, .int (zI 1)), (15, .int (zI (lowF (shF h 7) 4))), (14, .int (zI (lowF (shF h 5) 4))), (13, .int (zI ((lowF g 32) + (lowF h (32 - (lowF g 32)))))), (12, .int (zI (lowF g 32))), (10, .int (zI y)), (9, .int (zI x)), (8, .int (zI (A.1 0 1))), (7, .int (zI (A.1 0 0))), (5, .int (zI h)), (4, .int (zI g)), (3, .int (zI i)), (2, .ref (u 0)), (1, .ref (a 0)), (0, .ref b)]) hx hb dL_law_683 hl (by decide) rfl (fun ls hl => ?_)
        refine lv_goto (tgt := 964) hx hb dL_law_685 (by decide) ?_
        refine W.widen (k := cells + 1) (n := slots + 64) (by omega) (by omega) ?_
        exact K C P H locs ls (li_same hLI0 hC (by rw [hC0]) (by rw [hC0]) (by rw [hC0]) hC2 (by omega)) hXI hPa hS (lv_sub hl [14, 13, 12, 11, 9, 0] rfl)

set_option maxHeartbeats 4000000 in
set_option maxRecDepth 100000 in
theorem law_s11 (hC : LC p s mM c b L xs) (hK : kK G cs s) (hF : LPl a u s.heap.size) (hXI : XI G cs a a A H) (hPa : va_P G vwCl (paW cs u P) H) (hS : va_S (fun q => s.heap.size ≤ q) s.heap H locs) (hl : lv_has ls 16 [(11, .int (zI 1)), (10, .int (zI y)), (9, .int (zI x)), (8, .int (zI (A.1 0 1))), (7, .int (zI (A.1 0 0))), (5, .int (zI h)), (4, .int (zI g)), (3, .int (zI i)), (2, .ref (u 0)), (1, .ref (a 0)), (0, .ref b)]) (hLI : LI A P (50 * i)) (hi : 0 ≤ i ∧ i < 30) (hpx : 0 ≤ x ∧ x < A.1 0 0) (hqy : 0 ≤ y ∧ y < A.1 0 1) (hc : cells + 1 ≤ 600000 ∧ slots + 64 ≤ 7302249) (K : KT p l e s mM below meth c G cs a u b i h (cells + 1) (slots + 64) Q) : W p l e room_1 s mM #[Value.ref b] below meth c H locs cells slots Q (F0 mM 695 ls []) := by
  obtain ⟨hx, hb, hml, hown, hts, hX, hbl, hL⟩ := hC
  obtain ⟨ia, hau, hza, hzu⟩ := hF
  have hsA : ∀ q, AX a 0 62 q → s.heap.size ≤ q := fun q h9 => by obtain ⟨i9, _, h2, h3⟩ := h9; rw [h3]; exact hza i9 h2
  have hLI0 := hLI
  obtain ⟨hA, h00, h01, h04, hPal⟩ := hLI
  have hwf := hA.1.1
  obtain ⟨w0, w1, w2, w3, w4, wP, wC, wS, wX⟩ := id hwf
  refine lv_aload_n hx hb dL_law_695 rfl (lv_at hl 9 rfl) ?_
  refine z_bipush (n := 9) hx hb dL_law_696 (by decide) ?_
  refine z_w (zrV (As := [.int (zI 9)]) (rest := []) ⟨hx, hb, hml, hown, hts⟩ (k_count l G cs a A 9 ia hA (by omega)) gL_law_X6_count rfl qX6_count rfl rfl ⟨Nat.le_of_ble_eq_true rfl, Nat.le_of_ble_eq_true rfl⟩ hXI hK (va_recv hK.1 hXI.xo (ci := 6) (q0 := 0) rfl rfl) hl.1 rfl (Nat.le_of_ble_eq_true rfl) dL_law_698 (rm1 (by omega))) hS (fun q h9 => hsA q h9) (fun q h9 => hsA q h9) (fun v H locs hpost hle hk hS => ?_)
  obtain ⟨rfl, hXI⟩ := hpost
  have hPa := keepO (Ord.of (b := u) (n := 1) rfl) hPa hk (fun j hj h9 => by obtain ⟨i9, h1, h2, h3⟩ := h9; exact hau i9 h2 (by rw [show j = 0 by omega] at h3; exact h3.symm))
  refine z_topi (b := A.1 0 2) ct_9 ?_
  refine lv_istore (lv' := [(12, .int (zI (A.1 0 2))), (11, .int (zI 1)), (10, .int (zI y)), (9, .int (zI x)), (8, .int (zI (A.1 0 1))), (7, .int (zI (A.1 0 0))), (5, .int (zI h)), (4, .int (zI g)), (3, .int (zI i)), (2, .ref (u 0)), (1, .ref (a 0)), (0, .ref b)]) hx hb dL_law_701 hl (by decide) rfl (fun ls hl => ?_)
  refine lv_aload_n hx hb dL_law_703 rfl (lv_at hl 10 rfl) ?_
  refine z_iconst (n := 1) hx hb dL_law_704 ?_
  refine lv_iload hx hb dL_law_705 (lv_at hl 6 rfl) ?_
  refine z_bipush (n := 6) hx hb dL_law_707 (by decide) ?_
  refine z_ro (zrSJ (As := [.int (zI h), .int (zI 6)]) (rest := [.int (zI 1), .ref (a 0)]) (Pw := fun _ => True) ⟨hx, hb, hml, hown, hts⟩ (c_L_low l G cs h 6 (by omega)) gL_law_L_low rfl qL_low rfl rfl ⟨Nat.le_of_ble_eq_true rfl, Nat.le_of_ble_eq_true rfl⟩ trivial hK hl.1 rfl (Nat.le_of_ble_eq_true rfl) dL_law_709 (rm1 (by omega))) ?_
  refine z_iadd hx hb dL_law_712 ?_
  have hr1 := lowF_r h (show (0 : Int) < 6 by decide)
  obtain ⟨C, eC, hC, hC0, hC1, hC4, hC2⟩ := setLimit_ok hA (v := 1 + lowF h 6) (by omega)
  refine z_w (zrV (As := [.int (zI (1 + (lowF h 6)))]) (rest := []) ⟨hx, hb, hml, hown, hts⟩ (k_setLimit l G cs a A (1 + (lowF h 6)) ia hA (by omega)) gL_law_X6_setLimit rfl qX6_setLimit rfl rfl ⟨Nat.le_of_ble_eq_true rfl, Nat.le_of_ble_eq_true rfl⟩ hXI hK (va_recv hK.1 hXI.xo (ci := 6) (q0 := 0) rfl rfl) hl.1 rfl (Nat.le_of_ble_eq_true rfl) dL_law_713 (rm1 (by omega))) hS (fun q h9 => hsA q h9) (fun q h9 => hsA q h9) (fun v H locs hpost hle hk hS => ?_)
  obtain ⟨hv, hXI⟩ := hpost
  have hE : setLimitF A (1 + (lowF h 6)) = (A.1 0 2, C) := eC
  have hv : v = .int (zI (A.1 0 2)) := by rw [hE] at hv; exact hv
  have hXI : XI G cs a a C H := by rw [hE] at hXI; exact hXI
  subst hv
  clear hE
  have hPa := keepO (Ord.of (b := u) (n := 1) rfl) hPa hk (fun j hj h9 => by obtain ⟨i9, h1, h2, h3⟩ := h9; exact hau i9 h2 (by rw [show j = 0 by omega] at h3; exact h3.symm))
  refine lv_iload hx hb dL_law_716 (lv_at hl 0 rfl) ?_
  refine z_icmp_ne (tgt := 725) hx hb dL_law_718 (by decide) (by omega) (by omega) (fun c101 => ?_) (fun c101 => ?_)
  · skip
    exfalso; omega
  · skip
    refine z_iconst (n := 1) hx hb dL_law_721 ?_
    refine lv_goto (tgt := 726) hx hb dL_law_722 (by decide) ?_
    refine lv_istore (lv' := [(11, .int (zI 1)), (12, .int (zI (A.1 0 2))), (10, .int (zI y)), (9, .int (zI x)), (8, .int (zI (A.1 0 1))), (7, .int (zI (A.1 0 0))), (5, .int (zI h)), (4, .int (zI g)), (3, .int (zI i)), (2, .ref (u 0)), (1, .ref (a 0)), (0, .ref b)]) hx hb dL_law_726 hl (by decide) rfl (fun ls hl => ?_)
    refine lv_goto (tgt := 964) hx hb dL_law_728 (by decide) ?_
    refine W.widen (k := cells + 1) (n := slots + 64) (by omega) (by omega) ?_
    exact K C P H locs ls (li_same hLI0 hC hC0 hC1 hC4 hC2 (by omega)) hXI hPa hS (lv_sub hl [11, 10, 9, 8, 6, 0] rfl)

set_option maxHeartbeats 4000000 in
set_option maxRecDepth 100000 in
theorem law_s12 (hC : LC p s mM c b L xs) (hK : kK G cs s) (hF : LPl a u s.heap.size) (hXI : XI G cs a a A H) (hPa : va_P G vwCl (paW cs u P) H) (hS : va_S (fun q => s.heap.size ≤ q) s.heap H locs) (hl : lv_has ls 16 [(11, .int (zI 1)), (10, .int (zI y)), (9, .int (zI x)), (8, .int (zI (A.1 0 1))), (7, .int (zI (A.1 0 0))), (5, .int (zI h)), (4, .int (zI g)), (3, .int (zI i)), (2, .ref (u 0)), (1, .ref (a 0)), (0, .ref b)]) (hLI : LI A P (50 * i)) (hi : 0 ≤ i ∧ i < 30) (hpx : 0 ≤ x ∧ x < A.1 0 0) (hqy : 0 ≤ y ∧ y < A.1 0 1) (hc : cells + 1 ≤ 600000 ∧ slots + 64 ≤ 7302249) (K : KT p l e s mM below meth c G cs a u b i h (cells + 1) (slots + 64) Q) : W p l e room_1 s mM #[Value.ref b] below meth c H locs cells slots Q (F0 mM 738 ls []) := by
  obtain ⟨hx, hb, hml, hown, hts, hX, hbl, hL⟩ := hC
  obtain ⟨ia, hau, hza, hzu⟩ := hF
  have hsA : ∀ q, AX a 0 62 q → s.heap.size ≤ q := fun q h9 => by obtain ⟨i9, _, h2, h3⟩ := h9; rw [h3]; exact hza i9 h2
  have hLI0 := hLI
  obtain ⟨hA, h00, h01, h04, hPal⟩ := hLI
  have hwf := hA.1.1
  obtain ⟨w0, w1, w2, w3, w4, wP, wC, wS, wX⟩ := id hwf
  refine lv_aload_n hx hb dL_law_738 rfl (lv_at hl 9 rfl) ?_
  refine z_bipush (n := 10) hx hb dL_law_739 (by decide) ?_
  refine z_w (zrV (As := [.int (zI 10)]) (rest := []) ⟨hx, hb, hml, hown, hts⟩ (k_count l G cs a A 10 ia hA (by omega)) gL_law_X6_count rfl qX6_count rfl rfl ⟨Nat.le_of_ble_eq_true rfl, Nat.le_of_ble_eq_true rfl⟩ hXI hK (va_recv hK.1 hXI.xo (ci := 6) (q0 := 0) rfl rfl) hl.1 rfl (Nat.le_of_ble_eq_true rfl) dL_law_741 (rm1 (by omega))) hS (fun q h9 => hsA q h9) (fun q h9 => hsA q h9) (fun v H locs hpost hle hk hS => ?_)
  obtain ⟨rfl, hXI⟩ := hpost
  have hPa := keepO (Ord.of (b := u) (n := 1) rfl) hPa hk (fun j hj h9 => by obtain ⟨i9, h1, h2, h3⟩ := h9; exact hau i9 h2 (by rw [show j = 0 by omega] at h3; exact h3.symm))
  refine z_topi (b := A.1 0 3) ct_10 ?_
  refine lv_istore (lv' := [(12, .int (zI (A.1 0 3))), (11, .int (zI 1)), (10, .int (zI y)), (9, .int (zI x)), (8, .int (zI (A.1 0 1))), (7, .int (zI (A.1 0 0))), (5, .int (zI h)), (4, .int (zI g)), (3, .int (zI i)), (2, .ref (u 0)), (1, .ref (a 0)), (0, .ref b)]) hx hb dL_law_744 hl (by decide) rfl (fun ls hl => ?_)
  refine lv_aload_n hx hb dL_law_746 rfl (lv_at hl 10 rfl) ?_
  refine lv_iload hx hb dL_law_747 (lv_at hl 6 rfl) ?_
  refine z_bipush (n := 20) hx hb dL_law_749 (by decide) ?_
  refine z_ro (zrSJ (As := [.int (zI h), .int (zI 20)]) (rest := [.ref (a 0)]) (Pw := fun _ => True) ⟨hx, hb, hml, hown, hts⟩ (c_L_low l G cs h 20 (by omega)) gL_law_L_low rfl qL_low rfl rfl ⟨Nat.le_of_ble_eq_true rfl, Nat.le_of_ble_eq_true rfl⟩ trivial hK hl.1 rfl (Nat.le_of_ble_eq_true rfl) dL_law_751 (rm1 (by omega))) ?_
  have hr1 := lowF_r h (show (0 : Int) < 20 by decide)
  obtain ⟨C, eC, hC, hC0, hC1, hC4, hC2⟩ := setStride_ok hA (v := lowF h 20) (by omega)
  refine z_w (zrV (As := [.int (zI (lowF h 20))]) (rest := []) ⟨hx, hb, hml, hown, hts⟩ (k_setStride l G cs a A (lowF h 20) ia hA (by omega)) gL_law_X6_setStride rfl qX6_setStride rfl rfl ⟨Nat.le_of_ble_eq_true rfl, Nat.le_of_ble_eq_true rfl⟩ hXI hK (va_recv hK.1 hXI.xo (ci := 6) (q0 := 0) rfl rfl) hl.1 rfl (Nat.le_of_ble_eq_true rfl) dL_law_754 (rm1 (by omega))) hS (fun q h9 => hsA q h9) (fun q h9 => hsA q h9) (fun v H locs hpost hle hk hS => ?_)
  obtain ⟨hv, hXI⟩ := hpost
  have hE : setStrideF A (lowF h 20) = (A.1 0 3, C) := eC
  have hv : v = .int (zI (A.1 0 3)) := by rw [hE] at hv; exact hv
  have hXI : XI G cs a a C H := by rw [hE] at hXI; exact hXI
  subst hv
  clear hE
  have hPa := keepO (Ord.of (b := u) (n := 1) rfl) hPa hk (fun j hj h9 => by obtain ⟨i9, h1, h2, h3⟩ := h9; exact hau i9 h2 (by rw [show j = 0 by omega] at h3; exact h3.symm))
  refine lv_iload hx hb dL_law_757 (lv_at hl 0 rfl) ?_
  refine z_icmp_ne (tgt := 788) hx hb dL_law_759 (by decide) (by omega) (by omega) (fun c101 => ?_) (fun c101 => ?_)
  · skip
    exfalso; omega
  · skip
    refine lv_aload_n hx hb dL_law_762 rfl (lv_at hl 10 rfl) ?_
    refine z_iconst (n := 1) hx hb dL_law_763 ?_
    refine lv_iload hx hb dL_law_764 (lv_at hl 7 rfl) ?_
    refine z_bipush (n := 50) hx hb dL_law_766 (by decide) ?_
    refine z_ro (zrSJ (As := [.int (zI g), .int (zI 50)]) (rest := [.int (zI 1), .ref (a 0)]) (Pw := fun _ => True) ⟨hx, hb, hml, hown, hts⟩ (c_L_low l G cs g 50 (by omega)) gL_law_L_low rfl qL_low rfl rfl ⟨Nat.le_of_ble_eq_true rfl, Nat.le_of_ble_eq_true rfl⟩ trivial hK hl.1 rfl (Nat.le_of_ble_eq_true rfl) dL_law_768 (rm1 (by omega))) ?_
    refine z_iadd hx hb dL_law_771 ?_
    have hr2 := lowF_r g (show (0 : Int) < 50 by decide)
    obtain ⟨D, eD, hD, hD0, hD1, hD4, hD2⟩ := next_ok hC (v := 1 + lowF g 50) (by omega) (by omega)
    refine z_w (zrV (As := [.int (zI (1 + (lowF g 50)))]) (rest := []) ⟨hx, hb, hml, hown, hts⟩ (k_next l G cs a C (1 + (lowF g 50)) ia hC (by omega)) gL_law_X6_next rfl qX6_next rfl rfl ⟨Nat.le_of_ble_eq_true rfl, Nat.le_of_ble_eq_true rfl⟩ hXI hK (va_recv hK.1 hXI.xo (ci := 6) (q0 := 0) rfl rfl) hl.1 rfl (Nat.le_of_ble_eq_true rfl) dL_law_772 (rm1 (by omega))) hS (fun q h9 => hsA q h9) (fun q h9 => hsA q h9) (fun v H locs hpost hle hk hS => ?_)
    obtain ⟨hv, hXI⟩ := hpost
    have hE : nextF C (1 + (lowF g 50)) = (C.1 0 4 + (1 + lowF g 50), D) := eD
    have hv : v = .int (zI (C.1 0 4 + (1 + lowF g 50))) := by rw [hE] at hv; exact hv
    have hXI : XI G cs a a D H := by rw [hE] at hXI; exact hXI
    subst hv
    clear hE
    have hPa := keepO (Ord.of (b := u) (n := 1) rfl) hPa hk (fun j hj h9 => by obtain ⟨i9, h1, h2, h3⟩ := h9; exact hau i9 h2 (by rw [show j = 0 by omega] at h3; exact h3.symm))
    refine lv_aload_n hx hb dL_law_775 rfl (lv_at hl 10 rfl) ?_
    refine z_bipush (n := 8) hx hb dL_law_776 (by decide) ?_
    refine z_w (zrV (As := [.int (zI 8)]) (rest := [.int (zI (C.1 0 4 + (1 + lowF g 50)))]) ⟨hx, hb, hml, hown, hts⟩ (k_count l G cs a D 8 ia hD (by omega)) gL_law_X6_count rfl qX6_count rfl rfl ⟨Nat.le_of_ble_eq_true rfl, Nat.le_of_ble_eq_true rfl⟩ hXI hK (va_recv hK.1 hXI.xo (ci := 6) (q0 := 0) rfl rfl) hl.1 rfl (Nat.le_of_ble_eq_true rfl) dL_law_778 (rm1 (by omega))) hS (fun q h9 => hsA q h9) (fun q h9 => hsA q h9) (fun v H locs hpost hle hk hS => ?_)
    obtain ⟨rfl, hXI⟩ := hpost
    have hPa := keepO (Ord.of (b := u) (n := 1) rfl) hPa hk (fun j hj h9 => by obtain ⟨i9, h1, h2, h3⟩ := h9; exact hau i9 h2 (by rw [show j = 0 by omega] at h3; exact h3.symm))
    refine z_topi (b := C.1 0 4 + (1 + lowF g 50)) (ct_8.trans hD4) ?_
    refine z_icmp_ne (tgt := 788) hx hb dL_law_781 (by decide) (by omega) (by omega) (fun c102 => ?_) (fun c102 => ?_)
    · skip
      exfalso; omega
    · skip
      refine z_iconst (n := 1) hx hb dL_law_784 ?_
      refine lv_goto (tgt := 789) hx hb dL_law_785 (by decide) ?_
      refine lv_istore (lv' := [(11, .int (zI 1)), (12, .int (zI (A.1 0 3))), (10, .int (zI y)), (9, .int (zI x)), (8, .int (zI (A.1 0 1))), (7, .int (zI (A.1 0 0))), (5, .int (zI h)), (4, .int (zI g)), (3, .int (zI i)), (2, .ref (u 0)), (1, .ref (a 0)), (0, .ref b)]) hx hb dL_law_789 hl (by decide) rfl (fun ls hl => ?_)
      refine lv_goto (tgt := 964) hx hb dL_law_791 (by decide) ?_
      refine W.widen (k := cells + 1) (n := slots + 64) (by omega) (by omega) ?_
      exact K D P H locs ls ⟨hD, by omega, by omega, by omega, pal_same hPal (hD2.trans hC2)⟩ hXI hPa hS (lv_sub hl [11, 10, 9, 8, 6, 0] rfl)

set_option maxHeartbeats 4000000 in
set_option maxRecDepth 100000 in
theorem law_s13 (hC : LC p s mM c b L xs) (hK : kK G cs s) (hF : LPl a u s.heap.size) (hXI : XI G cs a a A H) (hPa : va_P G vwCl (paW cs u P) H) (hS : va_S (fun q => s.heap.size ≤ q) s.heap H locs) (hl : lv_has ls 16 [(11, .int (zI 1)), (10, .int (zI y)), (9, .int (zI x)), (8, .int (zI (A.1 0 1))), (7, .int (zI (A.1 0 0))), (5, .int (zI h)), (4, .int (zI g)), (3, .int (zI i)), (2, .ref (u 0)), (1, .ref (a 0)), (0, .ref b)]) (hLI : LI A P (50 * i)) (hi : 0 ≤ i ∧ i < 30) (hpx : 0 ≤ x ∧ x < A.1 0 0) (hqy : 0 ≤ y ∧ y < A.1 0 1) (hc : cells + 1 ≤ 600000 ∧ slots + 64 ≤ 7302249) (K : KT p l e s mM below meth c G cs a u b i h (cells + 1) (slots + 64) Q) : W p l e room_1 s mM #[Value.ref b] below meth c H locs cells slots Q (F0 mM 801 ls []) := by
  obtain ⟨hx, hb, hml, hown, hts, hX, hbl, hL⟩ := hC
  obtain ⟨ia, hau, hza, hzu⟩ := hF
  have hsA : ∀ q, AX a 0 62 q → s.heap.size ≤ q := fun q h9 => by obtain ⟨i9, _, h2, h3⟩ := h9; rw [h3]; exact hza i9 h2
  have hLI0 := hLI
  obtain ⟨hA, h00, h01, h04, hPal⟩ := hLI
  have hwf := hA.1.1
  obtain ⟨w0, w1, w2, w3, w4, wP, wC, wS, wX⟩ := id hwf
  refine z_iconst (n := 1) hx hb dL_law_801 ?_
  refine lv_iload hx hb dL_law_802 (lv_at hl 6 rfl) ?_
  refine z_iconst (n := 3) hx hb dL_law_804 ?_
  refine z_ro (zrSJ (As := [.int (zI g), .int (zI 3)]) (rest := [.int (zI 1)]) (Pw := fun _ => True) ⟨hx, hb, hml, hown, hts⟩ (c_L_low l G cs g 3 (by omega)) gL_law_L_low rfl qL_low rfl rfl ⟨Nat.le_of_ble_eq_true rfl, Nat.le_of_ble_eq_true rfl⟩ trivial hK hl.1 rfl (Nat.le_of_ble_eq_true rfl) dL_law_805 (rm1 (by omega))) ?_
  refine z_iadd hx hb dL_law_808 ?_
  refine lv_istore (lv' := [(12, .int (zI (1 + (lowF g 3)))), (11, .int (zI 1)), (10, .int (zI y)), (9, .int (zI x)), (8, .int (zI (A.1 0 1))), (7, .int (zI (A.1 0 0))), (5, .int (zI h)), (4, .int (zI g)), (3, .int (zI i)), (2, .ref (u 0)), (1, .ref (a 0)), (0, .ref b)]) hx hb dL_law_809 hl (by decide) rfl (fun ls hl => ?_)
  refine lv_iload hx hb dL_law_811 (lv_at hl 6 rfl) ?_
  refine z_bipush (n := 64) hx hb dL_law_813 (by decide) ?_
  refine z_ro (zrSJ (As := [.int (zI h), .int (zI 64)]) (rest := []) (Pw := fun _ => True) ⟨hx, hb, hml, hown, hts⟩ (c_L_low l G cs h 64 (by omega)) gL_law_L_low rfl qL_low rfl rfl ⟨Nat.le_of_ble_eq_true rfl, Nat.le_of_ble_eq_true rfl⟩ trivial hK hl.1 rfl (Nat.le_of_ble_eq_true rfl) dL_law_815 (rm1 (by omega))) ?_
  refine lv_istore (lv' := [(13, .int (zI (lowF h 64))), (12, .int (zI (1 + (lowF g 3)))), (11, .int (zI 1)), (10, .int (zI y)), (9, .int (zI x)), (8, .int (zI (A.1 0 1))), (7, .int (zI (A.1 0 0))), (5, .int (zI h)), (4, .int (zI g)), (3, .int (zI i)), (2, .ref (u 0)), (1, .ref (a 0)), (0, .ref b)]) hx hb dL_law_818 hl (by decide) rfl (fun ls hl => ?_)
  refine lv_aload_n hx hb dL_law_820 rfl (lv_at hl 11 rfl) ?_
  refine lv_iload hx hb dL_law_821 (lv_at hl 7 rfl) ?_
  refine z_bipush (n := 6) hx hb dL_law_823 (by decide) ?_
  refine lv_ishr hx hb dL_law_825 ?_
  refine z_top (v' := .int (zI (shF h 6))) (shF_i _ _) ?_
  refine z_iconst (n := 4) hx hb dL_law_826 ?_
  refine z_ro (zrSJ (As := [.int (zI (shF h 6)), .int (zI 4)]) (rest := [.ref (a 0)]) (Pw := fun _ => True) ⟨hx, hb, hml, hown, hts⟩ (c_L_low l G cs (shF h 6) 4 (by omega)) gL_law_L_low rfl qL_low rfl rfl ⟨Nat.le_of_ble_eq_true rfl, Nat.le_of_ble_eq_true rfl⟩ trivial hK hl.1 rfl (Nat.le_of_ble_eq_true rfl) dL_law_827 (rm1 (by omega))) ?_
  refine lv_iload hx hb dL_law_830 (lv_at hl 1 rfl) ?_
  refine lv_iload hx hb dL_law_832 (lv_at hl 0 rfl) ?_
  have hr1 := lowF_r g (show (0 : Int) < 3 by decide)
  have hr2 := lowF_r h (show (0 : Int) < 64 by decide)
  have hr3 := lowF_r (shF h 6) (show (0 : Int) < 4 by decide)
  obtain ⟨C, eC, hC, hC0, hC2⟩ := setColor_ok hA (q := lowF (shF h 6) 4) (z := 1 + lowF g 3) (v := lowF h 64) (by omega) (by omega) (by omega)
  have hcv := wC (4 * lowF (shF h 6) 4 + (1 + lowF g 3)) (by omega) (by omega)
  have hPk := hPal (4 * lowF (shF h 6) 4 + (1 + lowF g 3)) (by omega) (by omega) (by omega)
  refine z_w (zrV (As := [.int (zI (lowF (shF h 6) 4)), .int (zI (1 + (lowF g 3))), .int (zI (lowF h 64))]) (rest := []) ⟨hx, hb, hml, hown, hts⟩ (k_setColor l G cs a A (lowF (shF h 6) 4) (1 + (lowF g 3)) (lowF h 64) ia hA (by omega) (by omega) (by omega)) gL_law_X6_setColor rfl qX6_setColor rfl rfl ⟨Nat.le_of_ble_eq_true rfl, Nat.le_of_ble_eq_true rfl⟩ hXI hK (va_recv hK.1 hXI.xo (ci := 6) (q0 := 0) rfl rfl) hl.1 rfl (Nat.le_of_ble_eq_true rfl) dL_law_834 (rm1 (by omega))) hS (fun q h9 => hsA q h9) (fun q h9 => hsA q h9) (fun v H locs hpost hle hk hS => ?_)
  obtain ⟨hv, hXI⟩ := hpost
  have hE : setColorF A (lowF (shF h 6) 4) (1 + (lowF g 3)) (lowF h 64) = (A.1 2 (4 * lowF (shF h 6) 4 + (1 + lowF g 3)), C) := eC
  have hv : v = .int (zI (A.1 2 (4 * lowF (shF h 6) 4 + (1 + lowF g 3)))) := by rw [hE] at hv; exact hv
  have hXI : XI G cs a a C H := by rw [hE] at hXI; exact hXI
  subst hv
  clear hE
  have hPa := keepO (Ord.of (b := u) (n := 1) rfl) hPa hk (fun j hj h9 => by obtain ⟨i9, h1, h2, h3⟩ := h9; exact hau i9 h2 (by rw [show j = 0 by omega] at h3; exact h3.symm))
  refine lv_aload_n hx hb dL_law_837 rfl (lv_at hl 10 rfl) ?_
  refine z_iconst (n := 4) hx hb dL_law_838 ?_
  refine lv_iload hx hb dL_law_839 (lv_at hl 7 rfl) ?_
  refine z_bipush (n := 6) hx hb dL_law_841 (by decide) ?_
  refine lv_ishr hx hb dL_law_843 ?_
  refine z_top (v' := .int (zI (shF h 6))) (shF_i _ _) ?_
  refine z_iconst (n := 4) hx hb dL_law_844 ?_
  refine z_ro (zrSJ (As := [.int (zI (shF h 6)), .int (zI 4)]) (rest := [.int (zI 4), .ref (u 0), .int (zI (A.1 2 (4 * lowF (shF h 6) 4 + (1 + lowF g 3))))]) (Pw := fun _ => True) ⟨hx, hb, hml, hown, hts⟩ (c_L_low l G cs (shF h 6) 4 (by omega)) gL_law_L_low rfl qL_low rfl rfl ⟨Nat.le_of_ble_eq_true rfl, Nat.le_of_ble_eq_true rfl⟩ trivial hK hl.1 rfl (Nat.le_of_ble_eq_true rfl) dL_law_845 (rm1 (by omega))) ?_
  refine z_imul hx hb dL_law_848 ?_
  refine lv_iload hx hb dL_law_849 (lv_at hl 1 rfl) ?_
  refine z_iadd hx hb dL_law_851 ?_
  refine z_iald hx hb hK.1 hPa 0 0 (F := P) rfl rfl (by omega) (by decide) dL_law_852 ?_
  refine z_topi (b := A.1 2 (4 * lowF (shF h 6) 4 + (1 + lowF g 3))) hPk.symm ?_
  refine z_icmp_ne (tgt := 860) hx hb dL_law_853 (by decide) (by omega) (by omega) (fun c101 => ?_) (fun c101 => ?_)
  · skip
    exfalso; omega
  · skip
    refine z_iconst (n := 1) hx hb dL_law_856 ?_
    refine lv_goto (tgt := 861) hx hb dL_law_857 (by decide) ?_
    refine lv_istore (lv' := [(11, .int (zI 1)), (13, .int (zI (lowF h 64))), (12, .int (zI (1 + (lowF g 3)))), (10, .int (zI y)), (9, .int (zI x)), (8, .int (zI (A.1 0 1))), (7, .int (zI (A.1 0 0))), (5, .int (zI h)), (4, .int (zI g)), (3, .int (zI i)), (2, .ref (u 0)), (1, .ref (a 0)), (0, .ref b)]) hx hb dL_law_861 hl (by decide) rfl (fun ls hl => ?_)
    refine lv_aload_n hx hb dL_law_863 rfl (lv_at hl 10 rfl) ?_
    refine z_iconst (n := 4) hx hb dL_law_864 ?_
    refine lv_iload hx hb dL_law_865 (lv_at hl 7 rfl) ?_
    refine z_bipush (n := 6) hx hb dL_law_867 (by decide) ?_
    refine lv_ishr hx hb dL_law_869 ?_
    refine z_top (v' := .int (zI (shF h 6))) (shF_i _ _) ?_
    refine z_iconst (n := 4) hx hb dL_law_870 ?_
    refine z_ro (zrSJ (As := [.int (zI (shF h 6)), .int (zI 4)]) (rest := [.int (zI 4), .ref (u 0)]) (Pw := fun _ => True) ⟨hx, hb, hml, hown, hts⟩ (c_L_low l G cs (shF h 6) 4 (by omega)) gL_law_L_low rfl qL_low rfl rfl ⟨Nat.le_of_ble_eq_true rfl, Nat.le_of_ble_eq_true rfl⟩ trivial hK hl.1 rfl (Nat.le_of_ble_eq_true rfl) dL_law_871 (rm1 (by omega))) ?_
    refine z_imul hx hb dL_law_874 ?_
    refine lv_iload hx hb dL_law_875 (lv_at hl 2 rfl) ?_
    refine z_iadd hx hb dL_law_877 ?_
    refine lv_iload hx hb dL_law_878 (lv_at hl 1 rfl) ?_
    refine z_iast hx hb hK.1 hPa (Ord.D (Ord.of (b := u) (n := 1) rfl) inj1) hS 0 0 (F := P) rfl rfl (by omega) (by decide) hzu dL_law_880 (fun H locs hP1 hle hk hS => ?_)
    have hXI : XI G cs a a C H := hXI.kp (by assumption) hk (fun i hi h9 => hau i hi h9)
    have hPa : va_P G vwCl ([(u 0, .inl (cs 0, 20, .inl (aI (updZ P ((4 * (lowF (shF h 6) 4)) + (1 + (lowF g 3))) (lowF h 64)))))]) H := hP1
    refine lv_goto (tgt := 964) hx hb dL_law_881 (by decide) ?_
    refine W.widen (k := cells + 1) (n := slots + 64) (by omega) (by omega) ?_
    exact K C (updZ P (4 * lowF (shF h 6) 4 + (1 + lowF g 3)) (lowF h 64)) H locs ls ⟨hC, by rw [hC0]; omega, by rw [hC0]; omega, by rw [hC0]; omega, pal_upd hPal hC2⟩ hXI hPa hS (lv_sub hl [12, 11, 10, 9, 7, 0] rfl)

set_option maxHeartbeats 4000000 in
set_option maxRecDepth 100000 in
theorem law_s14 (hC : LC p s mM c b L xs) (hK : kK G cs s) (hF : LPl a u s.heap.size) (hXI : XI G cs a a A H) (hPa : va_P G vwCl (paW cs u P) H) (hS : va_S (fun q => s.heap.size ≤ q) s.heap H locs) (hl : lv_has ls 16 [(11, .int (zI 1)), (10, .int (zI y)), (9, .int (zI x)), (8, .int (zI (A.1 0 1))), (7, .int (zI (A.1 0 0))), (5, .int (zI h)), (4, .int (zI g)), (3, .int (zI i)), (2, .ref (u 0)), (1, .ref (a 0)), (0, .ref b)]) (hLI : LI A P (50 * i)) (hi : 0 ≤ i ∧ i < 30) (hpx : 0 ≤ x ∧ x < A.1 0 0) (hqy : 0 ≤ y ∧ y < A.1 0 1) (hc : cells + 1 ≤ 600000 ∧ slots + 64 ≤ 7302249) (K : KT p l e s mM below meth c G cs a u b i h (cells + 1) (slots + 64) Q) : W p l e room_1 s mM #[Value.ref b] below meth c H locs cells slots Q (F0 mM 891 ls []) := by
  obtain ⟨hx, hb, hml, hown, hts, hX, hbl, hL⟩ := hC
  obtain ⟨ia, hau, hza, hzu⟩ := hF
  have hsA : ∀ q, AX a 0 62 q → s.heap.size ≤ q := fun q h9 => by obtain ⟨i9, _, h2, h3⟩ := h9; rw [h3]; exact hza i9 h2
  have hLI0 := hLI
  obtain ⟨hA, h00, h01, h04, hPal⟩ := hLI
  have hwf := hA.1.1
  obtain ⟨w0, w1, w2, w3, w4, wP, wC, wS, wX⟩ := id hwf
  refine lv_aload_n hx hb dL_law_891 rfl (lv_at hl 9 rfl) ?_
  refine lv_iload hx hb dL_law_892 (lv_at hl 5 rfl) ?_
  refine z_iconst (n := 1) hx hb dL_law_894 ?_
  refine lv_iand hx hb dL_law_895 ?_
  refine z_top (v' := .int (zI (anF h 1))) (anF_i _ _) ?_
  refine z_iconst (n := 1) hx hb dL_law_896 ?_
  have har := anF_r h 1
  refine z_icmp_ne (tgt := 904) hx hb dL_law_897 (by decide) (by omega) (by omega) (fun c101 => ?_) (fun c101 => ?_)
  · skip
    refine z_iconst (n := 0) hx hb dL_law_904 ?_
    refine z_w (zrSJ (As := [.ref (a 0), .int (zI 0)]) (rest := []) ⟨hx, hb, hml, hown, hts⟩ (c_L_packs l G cs a A 0 ia hA (by omega)) gL_law_L_packs rfl qL_packs rfl rfl ⟨Nat.le_of_ble_eq_true rfl, Nat.le_of_ble_eq_true rfl⟩ hXI hK hl.1 rfl (Nat.le_of_ble_eq_true rfl) dL_law_905 (rm1 (by omega))) hS (fun q h9 => hsA q h9) (fun q h9 => hsA q h9) (fun v H locs hpost hle hk hS => ?_)
    obtain ⟨rfl, B9, hB9, eB9, hXI⟩ := hpost
    have hPa := keepO (Ord.of (b := u) (n := 1) rfl) hPa hk (fun j hj h9 => by obtain ⟨i9, h1, h2, h3⟩ := h9; exact hau i9 h2 (by rw [show j = 0 by omega] at h3; exact h3.symm))
    refine lv_istore (lv' := [(11, .int (zI 1)), (10, .int (zI y)), (9, .int (zI x)), (8, .int (zI (A.1 0 1))), (7, .int (zI (A.1 0 0))), (5, .int (zI h)), (4, .int (zI g)), (3, .int (zI i)), (2, .ref (u 0)), (1, .ref (a 0)), (0, .ref b)]) hx hb dL_law_908 hl (by decide) rfl (fun ls hl => ?_)
    refine lv_goto (tgt := 964) hx hb dL_law_910 (by decide) ?_
    refine W.widen (k := cells + 1) (n := slots + 64) (by omega) (by omega) ?_
    exact K B9 P H locs ls (li_same hLI0 hB9 (by rw [eB9]) (by rw [eB9]) (by rw [eB9]) (by rw [eB9]) (by omega)) hXI hPa hS (lv_sub hl [10, 9, 8, 7, 5, 0] rfl)
  · skip
    refine z_iconst (n := 1) hx hb dL_law_900 ?_
    refine lv_goto (tgt := 905) hx hb dL_law_901 (by decide) ?_
    refine z_w (zrSJ (As := [.ref (a 0), .int (zI 1)]) (rest := []) ⟨hx, hb, hml, hown, hts⟩ (c_L_packs l G cs a A 1 ia hA (by omega)) gL_law_L_packs rfl qL_packs rfl rfl ⟨Nat.le_of_ble_eq_true rfl, Nat.le_of_ble_eq_true rfl⟩ hXI hK hl.1 rfl (Nat.le_of_ble_eq_true rfl) dL_law_905 (rm1 (by omega))) hS (fun q h9 => hsA q h9) (fun q h9 => hsA q h9) (fun v H locs hpost hle hk hS => ?_)
    obtain ⟨rfl, B9, hB9, eB9, hXI⟩ := hpost
    have hPa := keepO (Ord.of (b := u) (n := 1) rfl) hPa hk (fun j hj h9 => by obtain ⟨i9, h1, h2, h3⟩ := h9; exact hau i9 h2 (by rw [show j = 0 by omega] at h3; exact h3.symm))
    refine lv_istore (lv' := [(11, .int (zI 1)), (10, .int (zI y)), (9, .int (zI x)), (8, .int (zI (A.1 0 1))), (7, .int (zI (A.1 0 0))), (5, .int (zI h)), (4, .int (zI g)), (3, .int (zI i)), (2, .ref (u 0)), (1, .ref (a 0)), (0, .ref b)]) hx hb dL_law_908 hl (by decide) rfl (fun ls hl => ?_)
    refine lv_goto (tgt := 964) hx hb dL_law_910 (by decide) ?_
    refine W.widen (k := cells + 1) (n := slots + 64) (by omega) (by omega) ?_
    exact K B9 P H locs ls (li_same hLI0 hB9 (by rw [eB9]) (by rw [eB9]) (by rw [eB9]) (by rw [eB9]) (by omega)) hXI hPa hS (lv_sub hl [10, 9, 8, 7, 5, 0] rfl)

set_option maxHeartbeats 4000000 in
set_option maxRecDepth 100000 in
theorem law_s15 (hC : LC p s mM c b L xs) (hK : kK G cs s) (hF : LPl a u s.heap.size) (hXI : XI G cs a a A H) (hPa : va_P G vwCl (paW cs u P) H) (hS : va_S (fun q => s.heap.size ≤ q) s.heap H locs) (hl : lv_has ls 16 [(11, .int (zI 1)), (10, .int (zI y)), (9, .int (zI x)), (8, .int (zI (A.1 0 1))), (7, .int (zI (A.1 0 0))), (5, .int (zI h)), (4, .int (zI g)), (3, .int (zI i)), (2, .ref (u 0)), (1, .ref (a 0)), (0, .ref b)]) (hLI : LI A P (50 * i)) (hi : 0 ≤ i ∧ i < 30) (hpx : 0 ≤ x ∧ x < A.1 0 0) (hqy : 0 ≤ y ∧ y < A.1 0 1) (hc : cells + 1 ≤ 600000 ∧ slots + 64 ≤ 7302249) (K : KT p l e s mM below meth c G cs a u b i h (cells + 1) (slots + 64) Q) : W p l e room_1 s mM #[Value.ref b] below meth c H locs cells slots Q (F0 mM 913 ls []) := by
  obtain ⟨hx, hb, hml, hown, hts, hX, hbl, hL⟩ := hC
  obtain ⟨ia, hau, hza, hzu⟩ := hF
  have hsA : ∀ q, AX a 0 62 q → s.heap.size ≤ q := fun q h9 => by obtain ⟨i9, _, h2, h3⟩ := h9; rw [h3]; exact hza i9 h2
  have hLI0 := hLI
  obtain ⟨hA, h00, h01, h04, hPal⟩ := hLI
  have hwf := hA.1.1
  obtain ⟨w0, w1, w2, w3, w4, wP, wC, wS, wX⟩ := id hwf
  refine lv_aload_n hx hb dL_law_913 rfl (lv_at hl 9 rfl) ?_
  refine lv_iload hx hb dL_law_914 (lv_at hl 2 rfl) ?_
  refine lv_iload hx hb dL_law_916 (lv_at hl 5 rfl) ?_
  refine lv_iload hx hb dL_law_918 (lv_at hl 4 rfl) ?_
  refine z_ro (zrSJ (As := [.int (zI h), .int (zI (A.1 0 0))]) (rest := [.int (zI x), .ref (a 0)]) (Pw := fun _ => True) ⟨hx, hb, hml, hown, hts⟩ (c_L_low l G cs h (A.1 0 0) (by omega)) gL_law_L_low rfl qL_low rfl rfl ⟨Nat.le_of_ble_eq_true rfl, Nat.le_of_ble_eq_true rfl⟩ trivial hK hl.1 rfl (Nat.le_of_ble_eq_true rfl) dL_law_920 (rm1 (by omega))) ?_
  have hr1 := lowF_r h (show 0 < A.1 0 0 by omega)
  refine z_w (zrSJ (As := [.ref (a 0), .int (zI x), .int (zI (lowF h (A.1 0 0)))]) (rest := []) ⟨hx, hb, hml, hown, hts⟩ (c_L_alike l G cs a A x (lowF h (A.1 0 0)) ia hA hpx hr1) gL_law_L_alike rfl qL_alike rfl rfl ⟨Nat.le_of_ble_eq_true rfl, Nat.le_of_ble_eq_true rfl⟩ hXI hK hl.1 rfl (Nat.le_of_ble_eq_true rfl) dL_law_923 (rm1 (by omega))) hS (fun q h9 => hsA q h9) (fun q h9 => hsA q h9) (fun v H locs hpost hle hk hS => ?_)
  obtain ⟨rfl, hXI⟩ := hpost
  have hPa := keepO (Ord.of (b := u) (n := 1) rfl) hPa hk (fun j hj h9 => by obtain ⟨i9, h1, h2, h3⟩ := h9; exact hau i9 h2 (by rw [show j = 0 by omega] at h3; exact h3.symm))
  refine z_if_eq (tgt := 961) hx hb dL_law_926 (by decide) (by omega) (fun c101 => ?_) (fun c101 => ?_)
  · skip
    exfalso; omega
  · skip
    refine lv_iload hx hb dL_law_929 (lv_at hl 1 rfl) ?_
    refine lv_iload hx hb dL_law_931 (lv_at hl 6 rfl) ?_
    refine lv_iload hx hb dL_law_933 (lv_at hl 3 rfl) ?_
    refine z_ro (zrSJ (As := [.int (zI g), .int (zI (A.1 0 1))]) (rest := [.int (zI y)]) (Pw := fun _ => True) ⟨hx, hb, hml, hown, hts⟩ (c_L_low l G cs g (A.1 0 1) (by omega)) gL_law_L_low rfl qL_low rfl rfl ⟨Nat.le_of_ble_eq_true rfl, Nat.le_of_ble_eq_true rfl⟩ trivial hK hl.1 rfl (Nat.le_of_ble_eq_true rfl) dL_law_935 (rm1 (by omega))) ?_
    have hr2 := lowF_r g (show 0 < A.1 0 1 by omega)
    refine z_icmp_eq (tgt := 957) hx hb dL_law_938 (by decide) (by omega) (by omega) (fun c8 => ?_) (fun c8 => ?_)
    · skip
      refine z_iconst (n := 1) hx hb dL_law_957 ?_
      refine lv_goto (tgt := 962) hx hb dL_law_958 (by decide) ?_
      refine lv_istore (lv' := [(11, .int (zI 1)), (10, .int (zI y)), (9, .int (zI x)), (8, .int (zI (A.1 0 1))), (7, .int (zI (A.1 0 0))), (5, .int (zI h)), (4, .int (zI g)), (3, .int (zI i)), (2, .ref (u 0)), (1, .ref (a 0)), (0, .ref b)]) hx hb dL_law_962 hl (by decide) rfl (fun ls hl => ?_)
      refine W.widen (k := cells + 1) (n := slots + 64) (by omega) (by omega) ?_
      exact K A P H locs ls (li_same hLI0 hA rfl rfl rfl rfl (by omega)) hXI hPa hS (lv_sub hl [10, 9, 8, 7, 5, 0] rfl)
    · skip
      refine lv_aload_n hx hb dL_law_941 rfl (lv_at hl 9 rfl) ?_
      refine lv_iload hx hb dL_law_942 (lv_at hl 1 rfl) ?_
      refine lv_iload hx hb dL_law_944 (lv_at hl 6 rfl) ?_
      refine lv_iload hx hb dL_law_946 (lv_at hl 3 rfl) ?_
      refine z_ro (zrSJ (As := [.int (zI g), .int (zI (A.1 0 1))]) (rest := [.int (zI y), .ref (a 0)]) (Pw := fun _ => True) ⟨hx, hb, hml, hown, hts⟩ (c_L_low l G cs g (A.1 0 1) (by omega)) gL_law_L_low rfl qL_low rfl rfl ⟨Nat.le_of_ble_eq_true rfl, Nat.le_of_ble_eq_true rfl⟩ trivial hK hl.1 rfl (Nat.le_of_ble_eq_true rfl) dL_law_948 (rm1 (by omega))) ?_
      refine z_w (zrSJ (As := [.ref (a 0), .int (zI y), .int (zI (lowF g (A.1 0 1)))]) (rest := []) ⟨hx, hb, hml, hown, hts⟩ (c_L_meets l G cs a A y (lowF g (A.1 0 1)) ia hA hqy hr2 c8) gL_law_L_meets rfl qL_meets rfl rfl ⟨Nat.le_of_ble_eq_true rfl, Nat.le_of_ble_eq_true rfl⟩ hXI hK hl.1 rfl (Nat.le_of_ble_eq_true rfl) dL_law_951 (rm1 (by omega))) hS (fun q h9 => hsA q h9) (fun q h9 => hsA q h9) (fun v H locs hpost hle hk hS => ?_)
      obtain ⟨rfl, hXI⟩ := hpost
      have hPa := keepO (Ord.of (b := u) (n := 1) rfl) hPa hk (fun j hj h9 => by obtain ⟨i9, h1, h2, h3⟩ := h9; exact hau i9 h2 (by rw [show j = 0 by omega] at h3; exact h3.symm))
      refine z_if_eq (tgt := 961) hx hb dL_law_954 (by decide) (by omega) (fun c102 => ?_) (fun c102 => ?_)
      · skip
        exfalso; omega
      · skip
        refine z_iconst (n := 1) hx hb dL_law_957 ?_
        refine lv_goto (tgt := 962) hx hb dL_law_958 (by decide) ?_
        refine lv_istore (lv' := [(11, .int (zI 1)), (10, .int (zI y)), (9, .int (zI x)), (8, .int (zI (A.1 0 1))), (7, .int (zI (A.1 0 0))), (5, .int (zI h)), (4, .int (zI g)), (3, .int (zI i)), (2, .ref (u 0)), (1, .ref (a 0)), (0, .ref b)]) hx hb dL_law_962 hl (by decide) rfl (fun ls hl => ?_)
        refine W.widen (k := cells + 1) (n := slots + 64) (by omega) (by omega) ?_
        exact K A P H locs ls (li_same hLI0 hA rfl rfl rfl rfl (by omega)) hXI hPa hS (lv_sub hl [10, 9, 8, 7, 5, 0] rfl)

set_option maxHeartbeats 4000000 in
set_option maxRecDepth 100000 in
theorem law_tail (hC : LC p s mM c b L xs) (hK : kK G cs s) (hF : LPl a u s.heap.size) (hXI : XI G cs a a A H) (hPa : va_P G vwCl (paW cs u P) H) (hS : va_S (fun q => s.heap.size ≤ q) s.heap H locs) (hl : lv_has ls 16 [(0, .ref b), (1, .ref (a 0)), (2, .ref (u 0)), (3, .int (zI i)), (5, .int (zI h)), (11, .int (zI 1))]) (hLI : LI A P (50 * (i + 1))) (hi : 0 ≤ i ∧ i < 30) (hc : cells + 1 ≤ 600000 ∧ slots + 64 ≤ 7302249) (K : KR p l e s mM below meth c G cs a u b i A P (cells + 1) (slots + 64) Q) : W p l e room_1 s mM #[Value.ref b] below meth c H locs cells slots Q (F0 mM 964 ls []) := by
  obtain ⟨hx, hb, hml, hown, hts, hX, hbl, hL⟩ := hC
  obtain ⟨ia, hau, hza, hzu⟩ := hF
  have hsA : ∀ q, AX a 0 62 q → s.heap.size ≤ q := fun q h9 => by obtain ⟨i9, _, h2, h3⟩ := h9; rw [h3]; exact hza i9 h2
  have hLI0 := hLI
  obtain ⟨hA, h00, h01, h04, hPal⟩ := hLI
  have hwf := hA.1.1
  obtain ⟨w0, w1, w2, w3, w4, wP, wC, wS, wX⟩ := id hwf
  refine lv_iload hx hb dL_law_964 (lv_at hl 4 rfl) ?_
  refine z_iconst (n := 4) hx hb dL_law_966 ?_
  refine lv_ishr hx hb dL_law_967 ?_
  refine z_top (v' := .int (zI (shF h 4))) (shF_i _ _) ?_
  refine z_bipush (n := 32) hx hb dL_law_968 (by decide) ?_
  refine z_ro (zrSJ (As := [.int (zI (shF h 4)), .int (zI 32)]) (rest := []) (Pw := fun _ => True) ⟨hx, hb, hml, hown, hts⟩ (c_L_low l G cs (shF h 4) 32 (by omega)) gL_law_L_low rfl qL_low rfl rfl ⟨Nat.le_of_ble_eq_true rfl, Nat.le_of_ble_eq_true rfl⟩ trivial hK hl.1 rfl (Nat.le_of_ble_eq_true rfl) dL_law_970 (rm1 (by omega))) ?_
  refine lv_istore (lv' := [(12, .int (zI (lowF (shF h 4) 32))), (0, .ref b), (1, .ref (a 0)), (2, .ref (u 0)), (3, .int (zI i)), (5, .int (zI h)), (11, .int (zI 1))]) hx hb dL_law_973 hl (by decide) rfl (fun ls hl => ?_)
  have hr1 := lowF_r (shF h 4) (show (0 : Int) < 32 by decide)
  refine lv_iload hx hb dL_law_975 (lv_at hl 6 rfl) ?_
  refine z_if_eq (tgt := 1013) hx hb dL_law_977 (by decide) (by omega) (fun c101 => ?_) (fun c101 => ?_)
  · skip
    exfalso; omega
  · skip
    refine lv_aload_n hx hb dL_law_980 rfl (lv_at hl 2 rfl) ?_
    refine lv_iload hx hb dL_law_981 (lv_at hl 0 rfl) ?_
    refine z_w (zrSJ (As := [.ref (a 0), .int (zI (lowF (shF h 4) 32))]) (rest := []) ⟨hx, hb, hml, hown, hts⟩ (c_L_turns l G cs a A (lowF (shF h 4) 32) ia hA hr1 (by omega)) gL_law_L_turns rfl qL_turns rfl rfl ⟨Nat.le_of_ble_eq_true rfl, Nat.le_of_ble_eq_true rfl⟩ hXI hK hl.1 rfl (Nat.le_of_ble_eq_true rfl) dL_law_983 (rm1 (by omega))) hS (fun q h9 => hsA q h9) (fun q h9 => hsA q h9) (fun v H locs hpost hle hk hS => ?_)
    obtain ⟨rfl, hXI⟩ := hpost
    have hPa := keepO (Ord.of (b := u) (n := 1) rfl) hPa hk (fun j hj h9 => by obtain ⟨i9, h1, h2, h3⟩ := h9; exact hau i9 h2 (by rw [show j = 0 by omega] at h3; exact h3.symm))
    refine z_if_eq (tgt := 1013) hx hb dL_law_986 (by decide) (by omega) (fun c102 => ?_) (fun c102 => ?_)
    · skip
      exfalso; omega
    · skip
      refine lv_aload_n hx hb dL_law_989 rfl (lv_at hl 2 rfl) ?_
      refine lv_aload_n hx hb dL_law_990 rfl (lv_at hl 3 rfl) ?_
      refine lv_iload hx hb dL_law_991 (lv_at hl 0 rfl) ?_
      refine z_w (zrSJ (As := [.ref (a 0), .ref (u 0), .int (zI (lowF (shF h 4) 32))]) (rest := []) (Pw := fun H => XI G cs a a A H ∧ va_P G vwCl ([(u 0, .inl (cs 0, 20, .inl (aI P)))]) H) ⟨hx, hb, hml, hown, hts⟩ (c_L_colors l G cs a A u P (lowF (shF h 4) 32) ia hA hr1 hau hPal) gL_law_L_colors rfl qL_colors rfl rfl ⟨Nat.le_of_ble_eq_true rfl, Nat.le_of_ble_eq_true rfl⟩ ⟨hXI, hPa⟩ hK hl.1 rfl (Nat.le_of_ble_eq_true rfl) dL_law_993 (rm1 (by omega))) hS (fun q h9 => hsA q h9) (fun q h9 => hsA q h9) (fun v H locs hpost hle hk hS => ?_)
      obtain ⟨rfl, hXI, hPa⟩ := hpost
      refine z_if_eq (tgt := 1013) hx hb dL_law_996 (by decide) (by omega) (fun c103 => ?_) (fun c103 => ?_)
      · skip
        exfalso; omega
      · skip
        refine lv_iload_n hx hb dL_law_999 rfl (lv_at hl 4 rfl) ?_
        refine z_iconst (n := 5) hx hb dL_law_1000 ?_
        refine z_irem hx hb dL_law_1001 (by omega) (by omega) ?_
        refine z_iconst (n := 4) hx hb dL_law_1002 ?_
        refine z_icmp_ne (tgt := 1015) hx hb dL_law_1003 (by decide) (by omega) (by omega) (fun c104 => ?_) (fun c104 => ?_)
        · skip
          refine W.widen (k := cells + 1) (n := slots + 64) (by omega) (by omega) ?_
          exact K H locs ls hXI hPa hS (lv_sub hl [1, 2, 3, 4] rfl)
        · skip
          refine lv_aload_n hx hb dL_law_1006 rfl (lv_at hl 2 rfl) ?_
          refine z_w (zrSJ (As := [.ref (a 0)]) (rest := []) ⟨hx, hb, hml, hown, hts⟩ (c_L_sprites l G cs a A ia hA) gL_law_L_sprites rfl qL_sprites rfl rfl ⟨Nat.le_of_ble_eq_true rfl, Nat.le_of_ble_eq_true rfl⟩ hXI hK hl.1 rfl (Nat.le_of_ble_eq_true rfl) dL_law_1007 (rm1 (by omega))) hS (fun q h9 => hsA q h9) (fun q h9 => hsA q h9) (fun v H locs hpost hle hk hS => ?_)
          obtain ⟨rfl, hXI⟩ := hpost
          have hPa := keepO (Ord.of (b := u) (n := 1) rfl) hPa hk (fun j hj h9 => by obtain ⟨i9, h1, h2, h3⟩ := h9; exact hau i9 h2 (by rw [show j = 0 by omega] at h3; exact h3.symm))
          refine z_if_ne (tgt := 1015) hx hb dL_law_1010 (by decide) (by omega) (fun c105 => ?_) (fun c105 => ?_)
          · skip
            refine W.widen (k := cells + 1) (n := slots + 64) (by omega) (by omega) ?_
            exact K H locs ls hXI hPa hS (lv_sub hl [1, 2, 3, 4] rfl)
          · skip
            exfalso; omega
end LW
