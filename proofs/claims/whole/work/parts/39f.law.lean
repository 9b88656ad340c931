section LW2
variable {p : Program} {l : Launch} {e : Env} {s : State} {mM : MethodId} {below : List Frame} {meth : Method} {c : Code} {H : Heap} {locs : List Loc} {cells slots : Nat} {Q : State → Prop} {ls : Array Slot} {G : va_G} {cs : Nat → ClassId} {a m w : Nat → Nat} {A : AS} {b L : Nat} {xs : Nat → Int32} {i : Int}
set_option maxHeartbeats 4000000 in
set_option maxRecDepth 100000 in
/-- the loop over the script, from its head -/
theorem law_loop (hC : LC p s mM c b L xs) (hK : kK G cs s) (hF : LF a m s.heap.size) (hQ : ∀ (H : Heap) (locs : List Loc) (ls : Array Slot), va_S (fun q => s.heap.size ≤ q) s.heap H locs → W p l e room_1 s mM #[Value.ref b] below meth c H locs 600000 7302250 Q (F0 mM 1088 ls [])) :
    ∀ (n : Nat) (i : Int) (A : AS) (w : Nat → Nat) (H : Heap) (locs : List Loc) (cells slots : Nat) (ls : Array Slot), (L - i).toNat < n → 0 ≤ i ∧ i ≤ L → LI G cs a m s.heap.size A w H → va_S (fun q => s.heap.size ≤ q) s.heap H locs → lv_has ls 8 (lvL b a m i) → cells + 2 * (L - i).toNat ≤ 500000 ∧ slots + 52 * (L - i).toNat ≤ 7000000 → W p l e room_1 s mM #[Value.ref b] below meth c H locs cells slots Q (F0 mM 18 ls []) := by
  intro n
  induction n with
  | zero => intro i A w H locs cells slots ls h; exact absurd h (Nat.not_lt_zero _)
  | succ n ih =>
    intro i A w H locs cells slots ls hn hi hLI hS hl hB
    have hC0 := hC
    obtain ⟨hx, hb, hml, hown, hts, hX, hbl, hL⟩ := hC
    have hbA : ¬ (fun q : Nat => s.heap.size ≤ q) b := Nat.not_le.mpr hbl
    refine lv_iload_n hx hb dL_law_18 rfl (lv_at hl 3 rfl) ?_
    refine lv_aload_n hx hb dL_law_19 rfl (lv_at hl 0 rfl) ?_
    refine va_slen hx hb hX hbl hbA hS dL_law_20 ?_
    refine z_top (v' := .int (zI (L : Int))) (congrArg Value.int (zI_nat L)) ?_
    refine z_iconst (n := 5) hx hb dL_law_21 ?_
    refine z_isub hx hb dL_law_22 ?_
    refine z_icmp_gt (tgt := 1088) hx hb dL_law_23 (by decide) (by omega) (by omega) (fun c1 => ?_) (fun c1 => ?_)
    · refine W.widen (k := 600000) (n := 7302250) (by omega) (by omega) ?_
      exact hQ H locs ls hS
    · have K : KT p l e s mM below meth c G cs a m b i (cells + 8) (slots + 260) Q := fun A2 w2 H2 locs2 hLI2 hS2 ls2 hl2 => by
        refine z_iinc (k := 3) (lv' := [(3, .int (zI (i + 5))), (0, .ref b), (1, .ref (a 0)), (2, .ref (m 0))]) hx hb dL_law_1082 hl2 rfl (by decide) rfl (fun ls3 hl3 => ?_)
        refine lv_goto (tgt := 18) hx hb dL_law_1085 (by decide) ?_
        exact ih (i + 5) A2 w2 H2 locs2 _ _ ls3 (by omega) (by omega) hLI2 hS2 (lv_sub hl3 [1, 2, 3, 0] rfl) (by omega)
      refine lv_aload_n hx hb dL_law_26 rfl (lv_at hl 0 rfl) ?_
      refine lv_iload_n hx hb dL_law_27 rfl (lv_at hl 3 rfl) ?_
      refine z_sld hx hb hX hbl hbA hS (by omega) hL dL_law_28 ?_
      refine z_bipush (n := 31) hx hb dL_law_29 (by decide) ?_
      refine lv_iand hx hb dL_law_31 ?_
      refine z_top (v' := .int (zI (sx xs i % 32))) (congrArg Value.int (zI_and31 _)) ?_
      by_cases t0 : sx xs i % 32 = 0
      · refine z_tableIn (j := 0) (off := 128) (tgt := 160) hx hb dL_law_32 t0 (by decide) (by decide) (by decide) rfl (by decide) ?_
        exact law_c0 hC0 hK hF hLI hS hl (by omega) (by omega) K
      by_cases t1 : sx xs i % 32 = 1
      · refine z_tableIn (j := 1) (off := 141) (tgt := 173) hx hb dL_law_32 t1 (by decide) (by decide) (by decide) rfl (by decide) ?_
        exact law_c1 hC0 hK hF hLI hS hl (by omega) (by omega) K
      by_cases t2 : sx xs i % 32 = 2
      · refine z_tableIn (j := 2) (off := 194) (tgt := 226) hx hb dL_law_32 t2 (by decide) (by decide) (by decide) rfl (by decide) ?_
        exact law_c2 hC0 hK hF hLI hS hl (by omega) (by omega) K
      by_cases t3 : sx xs i % 32 = 3
      · refine z_tableIn (j := 3) (off := 219) (tgt := 251) hx hb dL_law_32 t3 (by decide) (by decide) (by decide) rfl (by decide) ?_
        exact law_c3 hC0 hK hF hLI hS hl (by omega) (by omega) K
      by_cases t4 : sx xs i % 32 = 4
      · refine z_tableIn (j := 4) (off := 232) (tgt := 264) hx hb dL_law_32 t4 (by decide) (by decide) (by decide) rfl (by decide) ?_
        exact law_c4 hC0 hK hF hLI hS hl (by omega) (by omega) K
      by_cases t5 : sx xs i % 32 = 5
      · refine z_tableIn (j := 5) (off := 255) (tgt := 287) hx hb dL_law_32 t5 (by decide) (by decide) (by decide) rfl (by decide) ?_
        exact law_c5 hC0 hK hF hLI hS hl (by omega) (by omega) K
      by_cases t6 : sx xs i % 32 = 6
      · refine z_tableIn (j := 6) (off := 294) (tgt := 326) hx hb dL_law_32 t6 (by decide) (by decide) (by decide) rfl (by decide) ?_
        exact law_c6 hC0 hK hF hLI hS hl (by omega) (by omega) K
      by_cases t7 : sx xs i % 32 = 7
      · refine z_tableIn (j := 7) (off := 337) (tgt := 369) hx hb dL_law_32 t7 (by decide) (by decide) (by decide) rfl (by decide) ?_
        exact law_c7 hC0 hK hF hLI hS hl (by omega) (by omega) K
      by_cases t8 : sx xs i % 32 = 8
      · refine z_tableIn (j := 8) (off := 380) (tgt := 412) hx hb dL_law_32 t8 (by decide) (by decide) (by decide) rfl (by decide) ?_
        exact law_c8 hC0 hK hF hLI hS hl (by omega) (by omega) K
      by_cases t9 : sx xs i % 32 = 9
      · refine z_tableIn (j := 9) (off := 423) (tgt := 455) hx hb dL_law_32 t9 (by decide) (by decide) (by decide) rfl (by decide) ?_
        exact law_c9 hC0 hK hF hLI hS hl (by omega) (by omega) K
      by_cases t10 : sx xs i % 32 = 10
      · refine z_tableIn (j := 10) (off := 466) (tgt := 498) hx hb dL_law_32 t10 (by decide) (by decide) (by decide) rfl (by decide) ?_
        exact law_c10 hC0 hK hF hLI hS hl (by omega) (by omega) K
      by_cases t11 : sx xs i % 32 = 11
      · refine z_tableIn (j := 11) (off := 519) (tgt := 551) hx hb dL_law_32 t11 (by decide) (by decide) (by decide) rfl (by decide) ?_
        exact law_c11 hC0 hK hF hLI hS hl (by omega) (by omega) K
      by_cases t12 : sx xs i % 32 = 12
      · refine z_tableIn (j := 12) (off := 542) (tgt := 574) hx hb dL_law_32 t12 (by decide) (by decide) (by decide) rfl (by decide) ?_
        exact law_c12 hC0 hK hF hLI hS hl (by omega) (by omega) K
      by_cases t13 : sx xs i % 32 = 13
      · refine z_tableIn (j := 13) (off := 565) (tgt := 597) hx hb dL_law_32 t13 (by decide) (by decide) (by decide) rfl (by decide) ?_
        exact law_c13 hC0 hK hF hLI hS hl (by omega) (by omega) K
      by_cases t14 : sx xs i % 32 = 14
      · refine z_tableIn (j := 14) (off := 588) (tgt := 620) hx hb dL_law_32 t14 (by decide) (by decide) (by decide) rfl (by decide) ?_
        exact law_c14 hC0 hK hF hLI hS hl (by omega) (by omega) K
      by_cases t15 : sx xs i % 32 = 15
      · refine z_tableIn (j := 15) (off := 601) (tgt := 633) hx hb dL_law_32 t15 (by decide) (by decide) (by decide) rfl (by decide) ?_
        exact law_c15 hC0 hK hF hLI hS hl (by omega) (by omega) K
      by_cases t16 : sx xs i % 32 = 16
      · refine z_tableIn (j := 16) (off := 624) (tgt := 656) hx hb dL_law_32 t16 (by decide) (by decide) (by decide) rfl (by decide) ?_
        exact law_c16 hC0 hK hF hLI hS hl (by omega) (by omega) K
      by_cases t17 : sx xs i % 32 = 17
      · refine z_tableIn (j := 17) (off := 647) (tgt := 679) hx hb dL_law_32 t17 (by decide) (by decide) (by decide) rfl (by decide) ?_
        exact law_c17 hC0 hK hF hLI hS hl (by omega) (by omega) K
      by_cases t18 : sx xs i % 32 = 18
      · refine z_tableIn (j := 18) (off := 690) (tgt := 722) hx hb dL_law_32 t18 (by decide) (by decide) (by decide) rfl (by decide) ?_
        exact law_c18 hC0 hK hF hLI hS hl (by omega) (by omega) K
      by_cases t19 : sx xs i % 32 = 19
      · refine z_tableIn (j := 19) (off := 743) (tgt := 775) hx hb dL_law_32 t19 (by decide) (by decide) (by decide) rfl (by decide) ?_
        exact law_c19 hC0 hK hF hLI hS hl (by omega) (by omega) K
      by_cases t20 : sx xs i % 32 = 20
      · refine z_tableIn (j := 20) (off := 776) (tgt := 808) hx hb dL_law_32 t20 (by decide) (by decide) (by decide) rfl (by decide) ?_
        exact law_c20 hC0 hK hF hLI hS hl (by omega) (by omega) K
      by_cases t21 : sx xs i % 32 = 21
      · refine z_tableIn (j := 21) (off := 809) (tgt := 841) hx hb dL_law_32 t21 (by decide) (by decide) (by decide) rfl (by decide) ?_
        exact law_c21 hC0 hK hF hLI hS hl (by omega) (by omega) K
      by_cases t22 : sx xs i % 32 = 22
      · refine z_tableIn (j := 22) (off := 842) (tgt := 874) hx hb dL_law_32 t22 (by decide) (by decide) (by decide) rfl (by decide) ?_
        exact law_c22 hC0 hK hF hLI hS hl (by omega) (by omega) K
      by_cases t23 : sx xs i % 32 = 23
      · refine z_tableIn (j := 23) (off := 875) (tgt := 907) hx hb dL_law_32 t23 (by decide) (by decide) (by decide) rfl (by decide) ?_
        exact law_c23 hC0 hK hF hLI hS hl (by omega) (by omega) K
      by_cases t24 : sx xs i % 32 = 24
      · refine z_tableIn (j := 24) (off := 928) (tgt := 960) hx hb dL_law_32 t24 (by decide) (by decide) (by decide) rfl (by decide) ?_
        exact law_c24 hC0 hK hF hLI hS hl (by omega) (by omega) K
      by_cases t25 : sx xs i % 32 = 25
      · refine z_tableIn (j := 25) (off := 961) (tgt := 993) hx hb dL_law_32 t25 (by decide) (by decide) (by decide) rfl (by decide) ?_
        exact law_c25 hC0 hK hF hLI hS hl (by omega) (by omega) K
      by_cases t26 : sx xs i % 32 = 26
      · refine z_tableIn (j := 26) (off := 994) (tgt := 1026) hx hb dL_law_32 t26 (by decide) (by decide) (by decide) rfl (by decide) ?_
        exact law_c26 hC0 hK hF hLI hS hl (by omega) (by omega) K
      by_cases t27 : sx xs i % 32 = 27
      · refine z_tableIn (j := 27) (off := 1027) (tgt := 1059) hx hb dL_law_32 t27 (by decide) (by decide) (by decide) rfl (by decide) ?_
        exact law_c27 hC0 hK hF hLI hS hl (by omega) (by omega) K
      refine z_tableOut (tgt := 1082) hx hb dL_law_32 (by omega) (by omega) (by decide) ?_
      refine W.widen (k := cells + 8) (n := slots + 260) (by omega) (by omega) ?_
      exact K A w H locs hLI hS ls hl
end LW2
theorem inlX6 : ∀ w ∈ wsX60, w ∈ wsL_law := fun _ h => List.mem_append_left _ (List.mem_append_left _ (List.mem_append_left _ (List.mem_append_left _ (List.mem_append_left _ (List.mem_append_left _ (List.mem_append_left _ (List.mem_append_left _ (List.mem_append_right _ h))))))))
theorem inlX7 : ∀ w ∈ wsX70, w ∈ wsL_law := fun _ h => List.mem_append_left _ (List.mem_append_left _ (List.mem_append_left _ (List.mem_append_left _ (List.mem_append_left _ (List.mem_append_left _ (List.mem_append_left _ (List.mem_append_right _ h)))))))
set_option maxHeartbeats 4000000 in
set_option maxRecDepth 100000 in
/-- THE LAW, from its entry -/
theorem whole_start {p : Program} {e : Env} {s : State} {m : MethodId} {below : List Frame} {meth : Method} {c : Code} (l : Launch) (hflags : l.flags = flags0) {b L : Nat} {xs : Nat → Int32} (hL : L ≤ 2560) (C0 : lw_At p s m meth c b L xs) : W p l e room_1 s m #[Value.ref b] below meth c s.heap [] 0 0 (lw_Z below #[Value.ref b] s) (entryFrame m ([Value.ref b] : List Value).toArray 8) := by
  obtain ⟨hx, hb, hr, hml, hown, hts0, hX, hbl, hlocks, hgv⟩ := C0
  obtain ⟨G, cs, hK⟩ := kk_start hts0
  have hts : ∀ w ∈ wsL_law, w.before #[Value.ref b] s = true := fun w h => hts0 w (wsL_law_in w h)
  have hown : s.vm.findClass RL = some m.cls := hown
  have hl := lv_entry ([.ref b]) (n := 8) (Nat.le_of_ble_eq_true rfl)
  rw [lg_entry_eq]
  generalize (lg_sl ([.ref b]) ++ List.replicate (8 - (lg_sl ([.ref b])).length) Slot.unset).toArray = ls at hl ⊢
  have hl : lv_has ls 8 [(0, .ref b)] := hl
  obtain ⟨a, ha⟩ : ∃ a : Nat → Nat, ∀ j, a j = s.heap.size + j := ⟨fun j => s.heap.size + j, fun _ => rfl⟩
  have hsa : Seq a := fun j => by rw [ha, ha]; omega
  have hsm : Seq (sh a 62) := seq_sh hsa 62
  have ham : ∀ j, sh a 62 j = s.heap.size + (62 + j) := fun j => ha _
  have hF : LF a (sh a 62) s.heap.size := ⟨seq_inj hsa 62, seq_inj hsm 10, fun i j _ _ h9 => by rw [ha, ham] at h9; omega, fun i _ => by rw [ha]; omega, fun i _ => by rw [ham]; omega⟩
  have hS : va_S (fun q => s.heap.size ≤ q) s.heap s.heap [] := va_S.rf
  have hz : s.heap.size = a 0 := (ha 0).symm
  refine z_new (C := RX6) (T := TX6) (N := 6) (ci := 6) hx hb hts inlX6 tyX6 tyX6_ok hown (hts0 (.classLink RL 7 RX6) (List.mem_of_getElem? (i := 65) (by decide +kernel))) (hts0 (.instantiable RX6 6) (List.mem_of_getElem? (i := 66) (by decide +kernel))) (hts0 (.initialized RX6) (List.mem_of_getElem? (i := 53) (by decide +kernel))) hK.1 hS rfl (fs := [.null, .null, .null, .null, .null, .null]) blX6 (Nat.le_of_ble_eq_true rfl) (Nat.le_of_ble_eq_true rfl) (q := a 0) hz dL_law_0 (fun H hP1 hz9 hk hS => ?_)
  have hz : H.size = a 1 := hz9.trans (hsa 0).symm
  refine lv_dup hx hb dL_law_3 rfl ?_
  refine z_v (zrI (C := RX6) (As := []) (rest := [.ref (a 0)]) (Pw := fun H => va_P G vwCl ([(a 0, .inr (6, [.null, .null, .null, .null, .null, .null]))]) H ∧ H.size = a 1) ⟨hx, hb, hml, hown, hts⟩ (c_X6_init l G cs a hsa) gL_law_X6_init rfl (hts0 (.initialized RX6) (List.mem_of_getElem? (i := 53) (by decide +kernel))) (hts0 (.methodLink RL 9 yX6_init) (List.mem_of_getElem? (i := 67) (by decide +kernel))) (hts0 (.instanceMethod yX6_init) (List.mem_of_getElem? (i := 68) (by decide +kernel))) rfl qX6_init rfl rfl ⟨(Nat.le_of_ble_eq_true rfl), (Nat.le_of_ble_eq_true rfl)⟩ ⟨hP1, hz⟩ hK hl.1 rfl (Nat.le_of_ble_eq_true rfl) dL_law_4 ⟨(Nat.le_of_ble_eq_true rfl), (Nat.le_of_ble_eq_true rfl)⟩) hS (lf_a hF) (lf_a hF) (fun H locs hpost hle hk hS => ?_)
  obtain ⟨hXI, hz⟩ := hpost
  refine lv_astore_n (lv' := [(1, .ref (a 0)), (0, .ref b)]) hx hb dL_law_7 rfl hl (by decide) rfl (fun ls hl => ?_)
  refine z_new (C := RX7) (T := TX7) (N := 12) (ci := 7) hx hb hts inlX7 tyX7 tyX7_ok hown (hts0 (.classLink RL 10 RX7) (List.mem_of_getElem? (i := 716) (by decide +kernel))) (hts0 (.instantiable RX7 12) (List.mem_of_getElem? (i := 717) (by decide +kernel))) (hts0 (.initialized RX7) (List.mem_of_getElem? (i := 60) (by decide +kernel))) hK.1 hS rfl (fs := [.null, .null, .null, .int (zI 0), .null, .null, .null, .null, .int (zI 0), .null, .int (zI 0), .null]) blX7 (Nat.le_of_ble_eq_true rfl) (Nat.le_of_ble_eq_true rfl) (q := (sh a 62) 0) hz dL_law_8 (fun H hP1 hz9 hk hS => ?_)
  have hXI := hXI.keep hk (fun _ _ h => h) (fun _ _ _ _ _ h => h)
  have hz : H.size = (sh a 62) 1 := hz9.trans (hsm 0).symm
  refine lv_dup hx hb dL_law_11 rfl ?_
  refine z_v (zrI (C := RX7) (As := []) (rest := [.ref ((sh a 62) 0)]) (Pw := fun H => va_P G vwCl ([((sh a 62) 0, .inr (7, [.null, .null, .null, .int (zI 0), .null, .null, .null, .null, .int (zI 0), .null, .int (zI 0), .null]))]) H ∧ H.size = (sh a 62) 1) ⟨hx, hb, hml, hown, hts⟩ (c_X7_init l G cs (sh a 62) hsm) gL_law_X7_init rfl (hts0 (.initialized RX7) (List.mem_of_getElem? (i := 60) (by decide +kernel))) (hts0 (.methodLink RL 12 yX7_init) (List.mem_of_getElem? (i := 718) (by decide +kernel))) (hts0 (.instanceMethod yX7_init) (List.mem_of_getElem? (i := 719) (by decide +kernel))) rfl qX7_init rfl rfl ⟨(Nat.le_of_ble_eq_true rfl), (Nat.le_of_ble_eq_true rfl)⟩ ⟨hP1, hz⟩ hK hl.1 rfl (Nat.le_of_ble_eq_true rfl) dL_law_12 ⟨(Nat.le_of_ble_eq_true rfl), (Nat.le_of_ble_eq_true rfl)⟩) hS (lf_m hF) (lf_m hF) (fun H locs hpost hle hk hS => ?_)
  obtain ⟨hMI, hz⟩ := hpost
  have hW : ∀ s9 j9, s9 < 2 → j9 < 8 → A0_.2.2.2.1 s9 = true → s.heap.size ≤ a (8 * s9 + j9) ∧ ∀ i9, i9 < 10 → a (8 * s9 + j9) ≠ (sh a 62) i9 := fun _ _ _ _ h => absurd (show false = true from h) (by decide)
  have hXI := li_x hF hXI hW hk
  refine lv_astore_n (lv' := [(2, .ref ((sh a 62) 0)), (1, .ref (a 0)), (0, .ref b)]) hx hb dL_law_15 rfl hl (by decide) rfl (fun ls hl => ?_)
  refine z_iconst (n := 0) hx hb dL_law_16 ?_
  refine lv_istore_n (lv' := [(3, .int (zI 0)), (2, .ref ((sh a 62) 0)), (1, .ref (a 0)), (0, .ref b)]) hx hb dL_law_17 rfl hl (by decide) rfl (fun ls hl => ?_)
  refine W.widen (k := 72) (n := 5164) (Nat.le_of_ble_eq_true rfl) (Nat.le_of_ble_eq_true rfl) ?_
  have hSD : SnD a a A0_.2.2.2.1 := ⟨fun _ _ _ _ _ _ h => absurd (show false = true from h) (by decide), fun _ _ _ _ _ _ _ _ h => absurd (show false = true from h) (by decide)⟩
  refine law_loop ⟨hx, hb, hml, hown, hts, hX, hbl, hL⟩ hK hF (fun H locs ls hS => ?_) (L + 1) 0 A0_ a H locs 72 5164 ls (by omega) (by omega) ⟨A0_wf, hXI, hMI, hSD, hW⟩ hS (lv_sub hl [3, 2, 1, 0] rfl) (by omega)
  refine lv_iconst (v := 1) hx hb dL_law_1088 (by decide) ?_
  refine va_forget hS.2.2 ?_
  exact W.base (lw_ret (d0 := s.drawn) (Drawn.sameBut.refl s.drawn lw_cs) hx hb hr hlocks dL_law_1089)
