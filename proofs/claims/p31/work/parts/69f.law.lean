/-! The script's cells. -/
def QC : Array Value → State → Outcome → State → Prop := fun _ st o t => (∃ x : Int, o = .returned (some (.int (zI x)))) ∧ t.heap = st.heap
theorem m_introS {l : Launch} {y : MethodName} {ws ws' : List Cond} {rm : Room} {G : va_G} {cs : Nat → ClassId} {As : List Value} {Pw : State → Prop} {Qc : Array Value → State → Outcome → State → Prop} {mc ms : Nat} {free : Addr → Prop} {cc : ByteArray} {maxL : Nat} {ret : Option FieldType} (own : String) (hy : plainName y.cls = true) (hw : ws = Cond.code y cc maxL ret :: ws') (ho : y.cls = own) (hen : (lg_sl As).length ≤ maxL)
    (k : ∀ (p : Program) (e : Env) (s : State) (m : MethodId) (below : List Frame) (meth : Method) (c : Code), p.tables.exec = Jvm.exec → c.code = cc → meth.sig.returnType = ret → (∀ w ∈ ws, w.before As.toArray s = true) → s.vm.findClass own = some m.cls → c.maxLocals = maxL → meth.locks = false → meth.name = y.name → Pw s → kK G cs s → ∀ ls : Array Slot, lv_has ls maxL (lv_args 0 As) → W p l e rm s m As.toArray below meth c s.heap [] 0 0 (MQ below Qc As.toArray s mc ms free) (F0 m 0 ls [])) :
    Met l y ws rm (va_Pc As (fun U => Pw U ∧ kK G cs U)) Qc mc ms free := by
  refine Met.ofW (cc := cc) (maxL := maxL) (ret := ret) hy hw ?_
  intro p e s m args below meth c s₁ B hml hv
  obtain ⟨rfl, hP, hK⟩ := hv
  rw [lg_entry_eq]
  exact k p e s m below meth c B.exec B.bytes B.returns (atoms_spec (ws := ws) B.pre) (by rw [← ho]; exact findClass_of_methodNamed B.named) hml B.notSynchronized (name_of_methodNamed B.named B.method).1 hP hK _ (lv_entry As hen)
section CE
variable {p : Program} {l : Launch} {e : Env} {R : Room} {s : State} {m : MethodId} {args : Array Value} {below : List Frame} {meth : Method} {c : Code} {H : Heap} {locs : List Loc} {cells slots : Nat} {cc : ByteArray} {pc : Nat} {ls : Array Slot} {rest st0 : List Value} {Q : State → Prop} {a : Array Value} {mc ms : Nat} {free : Nat → Prop}
theorem zrSX {nL index maxL : Nat} {Ts ws ws' : List Cond} {own : String} {y : MethodName} {bytes : ByteArray} {ret : Option FieldType} {rm : Room} {G : va_G} {cs : Nat → ClassId} {As : List Value} {Pw : State → Prop} {Qc : Array Value → State → Outcome → State → Prop} (S : CallFix p m c cc nL s args Ts own) (hM : Met l y ws rm (va_Pc As (fun U => Pw U ∧ kK G cs U)) Qc mc ms free) (hT : GoodIn Ts (va_wsS own index y ws)) (hw : ws = Cond.code y bytes maxL ret :: ws')
    (hd : y.cls ≠ "java/lang/invoke/MethodHandle" ∧ y.cls ≠ "java/lang/invoke/VarHandle" ∧ (parseMethodDescriptor y.desc).map (fun d => d.parameters.length) = some As.length) (hrc : rm.cells = mc) (hrs : rm.slots = ms) (hR : rm.frames + 1 ≤ R.frames ∧ 8 + (maxL + 11) + rm.locals ≤ R.locals) (hP1 : ∀ (U : State) (g : JFrame) (mk : MethodId) (a : Array Value), Pw U → Pw (U.calling g mk a)) (hP2 : ∀ U : State, U.heap = H → s.WarmedH U.vm → Pw U) (hK : kK G cs s)
    (hsize : ls.size = nL) (hst : st0 = As.reverse ++ rest) (hroom : (rest.map fun v => v.category).sum ≤ 8) (hdg : decode cc pc = .ok (.invokestatic index, 3)) (hf : cells + mc ≤ R.cells ∧ slots + ms ≤ R.slots) :
    va_Run p l e R s m args below meth c H locs cells slots mc ms (F0 m pc ls st0) rest (Qc As.toArray) free :=
  va_runS S hM (va_cwS As.length S.2.2.2.2 hT hw hrc hrs hd hR) ⟨fun a U g mk q => ⟨q.1, hP1 U g mk a q.2.1, q.2.2.calling g mk a⟩, fun U hU hW => ⟨rfl, hP2 U hU hW, hK.warm hW⟩⟩ rfl rfl hsize hst (lv_room (pc := pc) (ls := ls) (m := m) (rest := st0) hroom) hdg hf
theorem z_cell (hr : va_Run p l e R s m args below meth c H locs cells slots 0 0 (F0 m pc ls st0) rest (QC a) (fun _ => False)) (k : ∀ x : Int, W p l e R s m args below meth c H locs cells slots Q (F0 m (pc + 3) ls (.int (zI x) :: rest))) : W p l e R s m args below meth c H locs cells slots Q (F0 m pc ls st0) := by
  intro T hT X
  obtain ⟨v', st₀, t, T', L, h0, X', hL, e1, e2, ⟨⟨x, hv⟩, hh⟩, st⟩ := hr T hT X
  cases hv
  obtain ⟨t2, a1, b1⟩ := k x T' (by rw [e1, hh, h0]) (Stand.forget X' (fun q h => (hL q h).elim))
  exact ⟨t2, st t2 a1, b1⟩
end CE
set_option maxHeartbeats 4000000 in
set_option maxRecDepth 100000 in
theorem c_L_cell (l : Launch) (G : va_G) (cs : Nat → ClassId) (b L : Nat) (xs : Nat → Int32) (k : Int) (hk : 0 ≤ k ∧ k < 1000) : Met l yL_cell wsL_cell { frames := 0, cells := 0, slots := 0, locals := 0 } (va_Pc [.ref b, .int (zI k)] (fun U => (va_X b L xs U U.heap ∧ b < U.heap.size ∧ L ≤ 260) ∧ kK G cs U)) QC 0 0 (fun _ => False) := by
  refine m_introS (Pw := fun U => va_X b L xs U U.heap ∧ b < U.heap.size ∧ L ≤ 260) (cc := cL_cell) (maxL := 2) (ret := some .int) RL (by decide) rfl rfl (Nat.le_of_ble_eq_true rfl) ?_
  intro pP eE sS mM below meth cC hx hb hr hts hown hml hlk hnm hPre hK ls hl
  obtain ⟨hX, hbl, hL⟩ := hPre
  have hl : lv_has ls 2 [(0, .ref b), (1, .int (zI k))] := hl
  have hS : va_S (fun _ => False) sS.heap sS.heap [] := va_S.rf
  refine lv_iload_n hx hb dL_cell_0 rfl (lv_at hl 1 rfl) ?_
  refine lv_aload_n hx hb dL_cell_1 rfl (lv_at hl 0 rfl) ?_
  refine va_slen hx hb hX hbl (fun h => h) hS dL_cell_2 ?_
  refine z_top (v' := .int (zI (L : Int))) (congrArg Value.int (zI_nat L)) ?_
  refine z_icmp_ge (tgt := 12) hx hb dL_cell_3 (by decide) (by omega) (by omega) (fun c1 => ?_) (fun c1 => ?_)
  · refine lv_ldc (v := 9670009) hx hb hown (hts (.constant RL 7 9670009) (by decide +kernel)) dL_cell_12 ?_
    refine z_top (v' := .int (zI 9670009)) rfl ?_
    refine lv_iload_n hx hb dL_cell_14 rfl (lv_at hl 1 rfl) ?_
    refine z_imul hx hb dL_cell_15 ?_
    refine z_sipush (n := 8803) hx hb dL_cell_16 (by decide) ?_
    refine z_iadd hx hb dL_cell_19 ?_
    exact W.iret hx hb hr (fun t ht _ => ⟨⟨_, rfl⟩, ht⟩) (fun _ h => absurd h List.not_mem_nil) dL_cell_20 hlk
  · refine lv_aload_n hx hb dL_cell_6 rfl (lv_at hl 0 rfl) ?_
    refine lv_iload_n hx hb dL_cell_7 rfl (lv_at hl 1 rfl) ?_
    refine z_sld hx hb hX hbl (fun h => h) hS (by omega) (by omega) dL_cell_8 ?_
    refine lv_goto (tgt := 20) hx hb dL_cell_9 (by decide) ?_
    exact W.iret hx hb hr (fun t ht _ => ⟨⟨_, rfl⟩, ht⟩) (fun _ h => absurd h List.not_mem_nil) dL_cell_20 hlk
section LW2
variable {p : Program} {l : Launch} {e : Env} {s : State} {mM : MethodId} {below : List Frame} {meth : Method} {c : Code} {H : Heap} {locs : List Loc} {cells slots : Nat} {Q : State → Prop} {ls : Array Slot} {G : va_G} {cs : Nat → ClassId} {a u : Nat → Nat} {A : AS} {P : Int → Int} {b L : Nat} {xs : Nat → Int32} {i g h x y : Int}
set_option maxHeartbeats 4000000 in
set_option maxRecDepth 100000 in
theorem law_s3 (hC : LC p s mM c b L xs) (hK : kK G cs s) (hF : LPl a u s.heap.size) (hXI : XI G cs a a A H) (hPa : va_P G vwCl (paW cs u P) H) (hS : va_S (fun q => s.heap.size ≤ q) s.heap H locs) (hl : lv_has ls 16 [(11, .int (zI 1)), (10, .int (zI y)), (9, .int (zI x)), (8, .int (zI (A.1 0 1))), (7, .int (zI (A.1 0 0))), (5, .int (zI h)), (4, .int (zI g)), (3, .int (zI i)), (2, .ref (u 0)), (1, .ref (a 0)), (0, .ref b)]) (hLI : LI A P (50 * i)) (hi : 0 ≤ i ∧ i < 30) (hpx : 0 ≤ x ∧ x < A.1 0 0) (hqy : 0 ≤ y ∧ y < A.1 0 1) (hc : cells + 1 ≤ 600000 ∧ slots + 64 ≤ 7302249) (K : KT p l e s mM below meth c G cs a u b i h (cells + 1) (slots + 64) Q) : W p l e room_1 s mM #[Value.ref b] below meth c H locs cells slots Q (F0 mM 283 ls []) := by
  obtain ⟨hx, hb, hml, hown, hts, hX, hbl, hL⟩ := hC
  obtain ⟨ia, hau, hza, hzu⟩ := hF
  have hsA : ∀ q, AX a 0 62 q → s.heap.size ≤ q := fun q h9 => by obtain ⟨i9, _, h2, h3⟩ := h9; rw [h3]; exact hza i9 h2
  have hLI0 := hLI
  obtain ⟨hA, h00, h01, h04, hPal⟩ := hLI
  have hwf := hA.1.1
  obtain ⟨w0, w1, w2, w3, w4, wP, wC, wS, wX⟩ := id hwf
  have hul := ord_lt (b := u) (n := 1) rfl hPa 0 (by decide)
  refine lv_aload_n hx hb dL_law_283 rfl (lv_at hl 9 rfl) ?_
  refine lv_iload hx hb dL_law_284 (lv_at hl 2 rfl) ?_
  refine lv_iload hx hb dL_law_286 (lv_at hl 6 rfl) ?_
  refine lv_iload hx hb dL_law_288 (lv_at hl 5 rfl) ?_
  refine z_w (zrSJ (As := [.ref (a 0), .int (zI x), .int (zI g), .int (zI h)]) (rest := []) (Pw := fun U => XI G cs a a A U ∧ U.size = (fun j => H.size + j) 0) ⟨hx, hb, hml, hown, hts⟩ (c_L_draws l G cs a A (fun j => H.size + j) x g h ia hA hpx (fun _ => rfl)) gL_law_L_draws rfl qL_draws rfl rfl ⟨Nat.le_of_ble_eq_true rfl, Nat.le_of_ble_eq_true rfl⟩ ⟨hXI, rfl⟩ hK hl.1 rfl (Nat.le_of_ble_eq_true rfl) dL_law_290 (rm1 (by omega))) hS (fun q h9 => h9.elim (hsA q) (fun h8 => Nat.le_trans hS.1 h8)) (fun q h9 => h9.elim (hsA q) (fun h8 => Nat.le_trans hS.1 h8)) (fun v H1 locs1 hpost hle hk hS => ?_)
  obtain ⟨rfl, B, hB, eB, hXI⟩ := hpost
  have hPa := keepO (Ord.of (b := u) (n := 1) rfl) hPa hk (fun j hj h9 => by
    have e0 : j = 0 := by omega
    subst e0
    rcases h9 with h9 | h9
    · obtain ⟨i9, h1, h2, h3⟩ := h9
      exact hau i9 h2 h3.symm
    · have h9 : H.size + 0 ≤ u 0 := h9
      omega)
  refine lv_istore (lv' := [(11, .int (zI 1)), (10, .int (zI y)), (9, .int (zI x)), (8, .int (zI (A.1 0 1))), (7, .int (zI (A.1 0 0))), (5, .int (zI h)), (4, .int (zI g)), (3, .int (zI i)), (2, .ref (u 0)), (1, .ref (a 0)), (0, .ref b)]) hx hb dL_law_293 hl (by decide) rfl (fun ls hl => ?_)
  refine lv_goto (tgt := 964) hx hb dL_law_295 (by decide) ?_
  exact K B P H1 locs1 ls (li_same hLI0 hB (by rw [eB 0 (by decide)]) (by rw [eB 0 (by decide)]) (by rw [eB 0 (by decide)]) (eB 2 (by decide)) (by omega)) hXI hPa hS (lv_sub hl [10, 9, 8, 7, 5, 0] rfl)
set_option maxHeartbeats 4000000 in
set_option maxRecDepth 100000 in
/-- the loop of the law, from its head -/
theorem law_loop (hC : LC p s mM c b L xs) (hK : kK G cs s) (hF : LPl a u s.heap.size) (hQ : ∀ (A : AS) (P : Int → Int) (H : Heap) (locs : List Loc) (ls : Array Slot), LI A P 1500 → XI G cs a a A H → va_S (fun q => s.heap.size ≤ q) s.heap H locs → lv_has ls 16 [(1, .ref (a 0))] → W p l e room_1 s mM #[Value.ref b] below meth c H locs 600000 7302249 Q (F0 mM 1021 ls [])) :
    ∀ (n : Nat) (i : Int) (A : AS) (P : Int → Int) (H : Heap) (locs : List Loc) (cells slots : Nat) (ls : Array Slot), (30 - i).toNat < n → 0 ≤ i ∧ i ≤ 30 → LI A P (50 * i) → XI G cs a a A H → va_P G vwCl (paW cs u P) H → va_S (fun q => s.heap.size ≤ q) s.heap H locs → lv_has ls 16 [(0, .ref b), (1, .ref (a 0)), (2, .ref (u 0)), (3, .int (zI i))] → cells + 2 * (30 - i).toNat ≤ 500000 ∧ slots + 128 * (30 - i).toNat ≤ 7000000 → W p l e room_1 s mM #[Value.ref b] below meth c H locs cells slots Q (F0 mM 61 ls []) := by
  intro n
  induction n with
  | zero => intro i A P H locs cells slots ls h; exact absurd h (Nat.not_lt_zero _)
  | succ n ih =>
    intro i A P H locs cells slots ls hn hi hLI hXI hPa hS hl hB
    have hC0 := hC
    have hF0 := hF
    have hLI0 := hLI
    obtain ⟨hx, hb, hml, hown, hts, hX, hbl, hL⟩ := hC
    obtain ⟨ia, hau, hza, hzu⟩ := hF
    have hsA : ∀ q, AX a 0 62 q → s.heap.size ≤ q := fun q h9 => by obtain ⟨i9, _, h2, h3⟩ := h9; rw [h3]; exact hza i9 h2
    obtain ⟨hA, h00, h01, h04, hPal⟩ := hLI
    have hwf := hA.1.1
    obtain ⟨w0, w1, w2, w3, w4, wP, wC, wS, wX⟩ := id hwf
    have hbA : ¬ (fun q : Nat => s.heap.size ≤ q) b := Nat.not_le.mpr hbl
    refine lv_iload_n hx hb dL_law_61 rfl (lv_at hl 3 rfl) ?_
    refine z_bipush (n := 30) hx hb dL_law_62 (by decide) ?_
    refine z_icmp_ge (tgt := 1021) hx hb dL_law_64 (by decide) (by omega) (by omega) (fun c1 => ?_) (fun c1 => ?_)
    · refine W.widen (k := 600000) (n := 7302249) (by omega) (by omega) ?_
      exact hQ A P H locs ls (by have e9 : 50 * i = 1500 := by omega
                                 rw [e9] at hLI0; exact hLI0) hXI hS (lv_sub hl [1] rfl)
    · have hi9 : 0 ≤ i ∧ i < 30 := ⟨hi.1, c1⟩
      have hXs : ∀ U : State, U.heap = H → s.WarmedH U.vm → va_X b L xs U U.heap ∧ b < U.heap.size ∧ L ≤ 260 := fun U hU hW => by
        rw [hU]
        exact ⟨va_X.moved hW.alike (hX.kept (hS.2.1 b hbl hbA)), Nat.lt_of_lt_of_le hbl hS.1, hL⟩
      refine lv_aload_n hx hb dL_law_67 rfl (lv_at hl 0 rfl) ?_
      refine z_iconst (n := 2) hx hb dL_law_68 ?_
      refine lv_iload_n hx hb dL_law_69 rfl (lv_at hl 3 rfl) ?_
      refine z_imul hx hb dL_law_70 ?_
      refine z_cell (zrSX (As := [.ref b, .int (zI (2 * i))]) (rest := []) (Pw := fun U => va_X b L xs U U.heap ∧ b < U.heap.size ∧ L ≤ 260) ⟨hx, hb, hml, hown, hts⟩ (c_L_cell l G cs b L xs (2 * i) (by omega)) gL_law_L_cell rfl qL_cell rfl rfl ⟨Nat.le_of_ble_eq_true rfl, Nat.le_of_ble_eq_true rfl⟩ (fun U g9 mk a9 h9 => ⟨va_X.moved (u := U) (U := U.calling g9 mk a9) (Vm.Alike.refl U.vm) h9.1, h9.2⟩) hXs hK hl.1 rfl (Nat.le_of_ble_eq_true rfl) dL_law_71 (rm1 (by omega))) (fun g => ?_)
      refine lv_istore (lv' := [(4, .int (zI g)), (0, .ref b), (1, .ref (a 0)), (2, .ref (u 0)), (3, .int (zI i))]) hx hb dL_law_74 hl (by decide) rfl (fun ls hl => ?_)
      refine lv_aload_n hx hb dL_law_76 rfl (lv_at hl 1 rfl) ?_
      refine z_iconst (n := 2) hx hb dL_law_77 ?_
      refine lv_iload_n hx hb dL_law_78 rfl (lv_at hl 4 rfl) ?_
      refine z_imul hx hb dL_law_79 ?_
      refine z_iconst (n := 1) hx hb dL_law_80 ?_
      refine z_iadd hx hb dL_law_81 ?_
      refine z_cell (zrSX (As := [.ref b, .int (zI (2 * i + 1))]) (rest := []) (Pw := fun U => va_X b L xs U U.heap ∧ b < U.heap.size ∧ L ≤ 260) ⟨hx, hb, hml, hown, hts⟩ (c_L_cell l G cs b L xs (2 * i + 1) (by omega)) gL_law_L_cell rfl qL_cell rfl rfl ⟨Nat.le_of_ble_eq_true rfl, Nat.le_of_ble_eq_true rfl⟩ (fun U g9 mk a9 h9 => ⟨va_X.moved (u := U) (U := U.calling g9 mk a9) (Vm.Alike.refl U.vm) h9.1, h9.2⟩) hXs hK hl.1 rfl (Nat.le_of_ble_eq_true rfl) dL_law_82 (rm1 (by omega))) (fun h => ?_)
      refine lv_istore (lv' := [(5, .int (zI h)), (4, .int (zI g)), (0, .ref b), (1, .ref (a 0)), (2, .ref (u 0)), (3, .int (zI i))]) hx hb dL_law_85 hl (by decide) rfl (fun ls hl => ?_)
      have K : KT p l e s mM below meth c G cs a u b i h (cells + 1) (slots + 64) Q := fun A2 P2 H2 locs2 ls2 hLI2 hXI2 hPa2 hS2 hl2 => law_tail hC0 hK hF0 hXI2 hPa2 hS2 hl2 hLI2 hi9 (by omega) (fun H3 locs3 ls3 hXI3 hPa3 hS3 hl3 => by
        refine z_iinc (k := 3) (lv' := [(3, .int (zI (i + 1))), (0, .ref b), (1, .ref (a 0)), (2, .ref (u 0))]) hx hb dL_law_1015 hl3 rfl (by decide) rfl (fun ls4 hl4 => ?_)
        refine lv_goto (tgt := 61) hx hb dL_law_1018 (by decide) ?_
        exact ih (i + 1) A2 P2 H3 locs3 _ _ ls4 (by omega) (by omega) hLI2 hXI3 hPa3 hS3 (lv_sub hl4 [1, 2, 3, 0] rfl) (by omega))
      refine lv_iload hx hb dL_law_87 (lv_at hl 1 rfl) ?_
      refine z_bipush (n := 16) hx hb dL_law_89 (by decide) ?_
      refine z_ro (zrSJ (As := [.int (zI g), .int (zI 16)]) (rest := []) (Pw := fun _ => True) ⟨hx, hb, hml, hown, hts⟩ (c_L_low l G cs g 16 (by omega)) gL_law_L_low rfl qL_low rfl rfl ⟨Nat.le_of_ble_eq_true rfl, Nat.le_of_ble_eq_true rfl⟩ trivial hK hl.1 rfl (Nat.le_of_ble_eq_true rfl) dL_law_91 (rm1 (by omega))) ?_
      have hsr := lowF_r g (show (0 : Int) < 16 by decide)
      refine lv_istore (lv' := [(6, .int (zI (lowF g 16))), (5, .int (zI h)), (4, .int (zI g)), (0, .ref b), (1, .ref (a 0)), (2, .ref (u 0)), (3, .int (zI i))]) hx hb dL_law_94 hl (by decide) rfl (fun ls hl => ?_)
      refine lv_iload hx hb dL_law_96 (lv_at hl 2 rfl) ?_
      refine z_iconst (n := 4) hx hb dL_law_98 ?_
      refine lv_ishr hx hb dL_law_99 ?_
      refine z_top (v' := .int (zI (shF g 4))) (shF_i _ _) ?_
      refine lv_istore (lv' := [(4, .int (zI (shF g 4))), (6, .int (zI (lowF g 16))), (5, .int (zI h)), (0, .ref b), (1, .ref (a 0)), (2, .ref (u 0)), (3, .int (zI i))]) hx hb dL_law_100 hl (by decide) rfl (fun ls hl => ?_)
      refine lv_aload_n hx hb dL_law_102 rfl (lv_at hl 4 rfl) ?_
      refine z_iconst (n := 0) hx hb dL_law_103 ?_
      refine z_w (zrV (As := [.int (zI 0)]) (rest := []) ⟨hx, hb, hml, hown, hts⟩ (k_count l G cs a A 0 ia hA (by omega)) gL_law_X6_count rfl qX6_count rfl rfl ⟨Nat.le_of_ble_eq_true rfl, Nat.le_of_ble_eq_true rfl⟩ hXI hK (va_recv hK.1 hXI.xo (ci := 6) (q0 := 0) rfl rfl) hl.1 rfl (Nat.le_of_ble_eq_true rfl) dL_law_104 (rm1 (by omega))) hS (fun q h9 => hsA q h9) (fun q h9 => hsA q h9) (fun v H locs hpost hle hk hS => ?_)
      obtain ⟨rfl, hXI⟩ := hpost
      have hPa := keepO (Ord.of (b := u) (n := 1) rfl) hPa hk (fun j hj h9 => by obtain ⟨i9, h1, h2, h3⟩ := h9; exact hau i9 h2 (by rw [show j = 0 by omega] at h3; exact h3.symm))
      refine z_topi (b := A.1 0 0) ct_0 ?_
      refine lv_istore (lv' := [(7, .int (zI (A.1 0 0))), (4, .int (zI (shF g 4))), (6, .int (zI (lowF g 16))), (5, .int (zI h)), (0, .ref b), (1, .ref (a 0)), (2, .ref (u 0)), (3, .int (zI i))]) hx hb dL_law_107 hl (by decide) rfl (fun ls hl => ?_)
      refine lv_aload_n hx hb dL_law_109 rfl (lv_at hl 5 rfl) ?_
      refine z_iconst (n := 1) hx hb dL_law_110 ?_
      refine z_w (zrV (As := [.int (zI 1)]) (rest := []) ⟨hx, hb, hml, hown, hts⟩ (k_count l G cs a A 1 ia hA (by omega)) gL_law_X6_count rfl qX6_count rfl rfl ⟨Nat.le_of_ble_eq_true rfl, Nat.le_of_ble_eq_true rfl⟩ hXI hK (va_recv hK.1 hXI.xo (ci := 6) (q0 := 0) rfl rfl) hl.1 rfl (Nat.le_of_ble_eq_true rfl) dL_law_111 (rm1 (by omega))) hS (fun q h9 => hsA q h9) (fun q h9 => hsA q h9) (fun v H locs hpost hle hk hS => ?_)
      obtain ⟨rfl, hXI⟩ := hpost
      have hPa := keepO (Ord.of (b := u) (n := 1) rfl) hPa hk (fun j hj h9 => by obtain ⟨i9, h1, h2, h3⟩ := h9; exact hau i9 h2 (by rw [show j = 0 by omega] at h3; exact h3.symm))
      refine z_topi (b := A.1 0 1) ct_1 ?_
      refine lv_istore (lv' := [(8, .int (zI (A.1 0 1))), (7, .int (zI (A.1 0 0))), (4, .int (zI (shF g 4))), (6, .int (zI (lowF g 16))), (5, .int (zI h)), (0, .ref b), (1, .ref (a 0)), (2, .ref (u 0)), (3, .int (zI i))]) hx hb dL_law_114 hl (by decide) rfl (fun ls hl => ?_)
      refine lv_iload hx hb dL_law_116 (lv_at hl 2 rfl) ?_
      refine lv_iload hx hb dL_law_118 (lv_at hl 1 rfl) ?_
      refine z_ro (zrSJ (As := [.int (zI (shF g 4)), .int (zI (A.1 0 0))]) (rest := []) (Pw := fun _ => True) ⟨hx, hb, hml, hown, hts⟩ (c_L_low l G cs (shF g 4) (A.1 0 0) (by omega)) gL_law_L_low rfl qL_low rfl rfl ⟨Nat.le_of_ble_eq_true rfl, Nat.le_of_ble_eq_true rfl⟩ trivial hK hl.1 rfl (Nat.le_of_ble_eq_true rfl) dL_law_120 (rm1 (by omega))) ?_
      refine lv_istore (lv' := [(9, .int (zI (lowF (shF g 4) (A.1 0 0)))), (8, .int (zI (A.1 0 1))), (7, .int (zI (A.1 0 0))), (4, .int (zI (shF g 4))), (6, .int (zI (lowF g 16))), (5, .int (zI h)), (0, .ref b), (1, .ref (a 0)), (2, .ref (u 0)), (3, .int (zI i))]) hx hb dL_law_123 hl (by decide) rfl (fun ls hl => ?_)
      refine lv_iload hx hb dL_law_125 (lv_at hl 5 rfl) ?_
      refine lv_iload hx hb dL_law_127 (lv_at hl 1 rfl) ?_
      refine z_ro (zrSJ (As := [.int (zI h), .int (zI (A.1 0 1))]) (rest := []) (Pw := fun _ => True) ⟨hx, hb, hml, hown, hts⟩ (c_L_low l G cs h (A.1 0 1) (by omega)) gL_law_L_low rfl qL_low rfl rfl ⟨Nat.le_of_ble_eq_true rfl, Nat.le_of_ble_eq_true rfl⟩ trivial hK hl.1 rfl (Nat.le_of_ble_eq_true rfl) dL_law_129 (rm1 (by omega))) ?_
      refine lv_istore (lv' := [(10, .int (zI (lowF h (A.1 0 1)))), (9, .int (zI (lowF (shF g 4) (A.1 0 0)))), (8, .int (zI (A.1 0 1))), (7, .int (zI (A.1 0 0))), (4, .int (zI (shF g 4))), (6, .int (zI (lowF g 16))), (5, .int (zI h)), (0, .ref b), (1, .ref (a 0)), (2, .ref (u 0)), (3, .int (zI i))]) hx hb dL_law_132 hl (by decide) rfl (fun ls hl => ?_)
      have hpx := lowF_r (shF g 4) (show 0 < A.1 0 0 by omega)
      have hqy := lowF_r h (show 0 < A.1 0 1 by omega)
      refine z_iconst (n := 1) hx hb dL_law_134 ?_
      refine lv_istore (lv' := [(11, .int (zI 1)), (10, .int (zI (lowF h (A.1 0 1)))), (9, .int (zI (lowF (shF g 4) (A.1 0 0)))), (8, .int (zI (A.1 0 1))), (7, .int (zI (A.1 0 0))), (4, .int (zI (shF g 4))), (6, .int (zI (lowF g 16))), (5, .int (zI h)), (0, .ref b), (1, .ref (a 0)), (2, .ref (u 0)), (3, .int (zI i))]) hx hb dL_law_135 hl (by decide) rfl (fun ls hl => ?_)
      refine lv_iload hx hb dL_law_137 (lv_at hl 6 rfl) ?_
      refine z_if_ne (tgt := 167) hx hb dL_law_139 (by decide) (by omega) (fun c101 => ?_) (fun c101 => ?_)
      · skip
        refine lv_iload hx hb dL_law_167 (lv_at hl 6 rfl) ?_
        refine z_iconst (n := 3) hx hb dL_law_169 ?_
        refine z_icmp_ge (tgt := 277) hx hb dL_law_170 (by decide) (by omega) (by omega) (fun c102 => ?_) (fun c102 => ?_)
        · skip
          refine lv_iload hx hb dL_law_277 (lv_at hl 6 rfl) ?_
          refine z_iconst (n := 5) hx hb dL_law_279 ?_
          refine z_icmp_ge (tgt := 298) hx hb dL_law_280 (by decide) (by omega) (by omega) (fun c103 => ?_) (fun c103 => ?_)
          · skip
            refine lv_iload hx hb dL_law_298 (lv_at hl 6 rfl) ?_
            refine z_iconst (n := 5) hx hb dL_law_300 ?_
            refine z_icmp_ne (tgt := 355) hx hb dL_law_301 (by decide) (by omega) (by omega) (fun c104 => ?_) (fun c104 => ?_)
            · skip
              refine lv_iload hx hb dL_law_355 (lv_at hl 6 rfl) ?_
              refine z_bipush (n := 9) hx hb dL_law_357 (by decide) ?_
              refine z_icmp_ge (tgt := 481) hx hb dL_law_359 (by decide) (by omega) (by omega) (fun c105 => ?_) (fun c105 => ?_)
              · skip
                refine lv_iload hx hb dL_law_481 (lv_at hl 6 rfl) ?_
                refine z_bipush (n := 9) hx hb dL_law_483 (by decide) ?_
                refine z_icmp_ne (tgt := 570) hx hb dL_law_485 (by decide) (by omega) (by omega) (fun c106 => ?_) (fun c106 => ?_)
                · skip
                  refine lv_iload hx hb dL_law_570 (lv_at hl 6 rfl) ?_
                  refine z_bipush (n := 10) hx hb dL_law_572 (by decide) ?_
                  refine z_icmp_ne (tgt := 688) hx hb dL_law_574 (by decide) (by omega) (by omega) (fun c107 => ?_) (fun c107 => ?_)
                  · skip
                    refine lv_iload hx hb dL_law_688 (lv_at hl 6 rfl) ?_
                    refine z_bipush (n := 11) hx hb dL_law_690 (by decide) ?_
                    refine z_icmp_ne (tgt := 731) hx hb dL_law_692 (by decide) (by omega) (by omega) (fun c108 => ?_) (fun c108 => ?_)
                    · skip
                      refine lv_iload hx hb dL_law_731 (lv_at hl 6 rfl) ?_
                      refine z_bipush (n := 12) hx hb dL_law_733 (by decide) ?_
                      refine z_icmp_ne (tgt := 794) hx hb dL_law_735 (by decide) (by omega) (by omega) (fun c109 => ?_) (fun c109 => ?_)
                      · skip
                        refine lv_iload hx hb dL_law_794 (lv_at hl 6 rfl) ?_
                        refine z_bipush (n := 13) hx hb dL_law_796 (by decide) ?_
                        refine z_icmp_ne (tgt := 884) hx hb dL_law_798 (by decide) (by omega) (by omega) (fun c110 => ?_) (fun c110 => ?_)
                        · skip
                          refine lv_iload hx hb dL_law_884 (lv_at hl 6 rfl) ?_
                          refine z_bipush (n := 14) hx hb dL_law_886 (by decide) ?_
                          refine z_icmp_ne (tgt := 913) hx hb dL_law_888 (by decide) (by omega) (by omega) (fun c111 => ?_) (fun c111 => ?_)
                          · skip
                            refine W.widen (k := cells) (n := slots) (by omega) (by omega) ?_
                            exact law_s15 hC0 hK hF0 hXI hPa hS (lv_sub hl [0, 1, 2, 3, 4, 7, 5, 11, 10, 9, 8] rfl) hLI0 hi9 hpx hqy (by omega) K
                          · skip
                            refine W.widen (k := cells) (n := slots) (by omega) (by omega) ?_
                            exact law_s14 hC0 hK hF0 hXI hPa hS (lv_sub hl [0, 1, 2, 3, 4, 7, 5, 11, 10, 9, 8] rfl) hLI0 hi9 hpx hqy (by omega) K
                        · skip
                          refine W.widen (k := cells) (n := slots) (by omega) (by omega) ?_
                          exact law_s13 hC0 hK hF0 hXI hPa hS (lv_sub hl [0, 1, 2, 3, 4, 7, 5, 11, 10, 9, 8] rfl) hLI0 hi9 hpx hqy (by omega) K
                      · skip
                        refine W.widen (k := cells) (n := slots) (by omega) (by omega) ?_
                        exact law_s12 hC0 hK hF0 hXI hPa hS (lv_sub hl [0, 1, 2, 3, 4, 7, 5, 11, 10, 9, 8] rfl) hLI0 hi9 hpx hqy (by omega) K
                    · skip
                      refine W.widen (k := cells) (n := slots) (by omega) (by omega) ?_
                      exact law_s11 hC0 hK hF0 hXI hPa hS (lv_sub hl [0, 1, 2, 3, 4, 7, 5, 11, 10, 9, 8] rfl) hLI0 hi9 hpx hqy (by omega) K
                  · skip
                    refine W.widen (k := cells) (n := slots) (by omega) (by omega) ?_
                    exact law_s10 hC0 hK hF0 hXI hPa hS (lv_sub hl [0, 1, 2, 3, 4, 7, 5, 11, 10, 9, 8] rfl) hLI0 hi9 hpx hqy (by omega) K
                · skip
                  refine W.widen (k := cells) (n := slots) (by omega) (by omega) ?_
                  exact law_s9 hC0 hK hF0 hXI hPa hS (lv_sub hl [0, 1, 2, 3, 4, 7, 5, 11, 10, 9, 8] rfl) hLI0 hi9 hpx hqy (by omega) K
              · skip
                refine W.widen (k := cells) (n := slots) (by omega) (by omega) ?_
                exact law_s6 hC0 hK hF0 hXI hPa hS (lv_sub hl [0, 1, 2, 3, 4, 7, 5, 11, 10, 9, 8] rfl) hLI0 hi9 hpx hqy (by omega) K
            · skip
              refine W.widen (k := cells) (n := slots) (by omega) (by omega) ?_
              exact law_s5 hC0 hK hF0 hXI hPa hS (lv_sub hl [0, 1, 2, 3, 4, 7, 5, 11, 10, 9, 8] rfl) hLI0 hi9 hpx hqy (by omega) K
          · skip
            refine W.widen (k := cells) (n := slots) (by omega) (by omega) ?_
            exact law_s3 hC0 hK hF0 hXI hPa hS (lv_sub hl [0, 1, 2, 3, 4, 7, 5, 11, 10, 9, 8] rfl) hLI0 hi9 hpx hqy (by omega) K
        · skip
          refine W.widen (k := cells) (n := slots) (by omega) (by omega) ?_
          exact law_s1 hC0 hK hF0 hXI hPa hS (lv_sub hl [0, 1, 2, 3, 4, 7, 5, 11, 10, 9, 8] rfl) hLI0 hi9 hpx hqy (by omega) K
      · skip
        refine W.widen (k := cells) (n := slots) (by omega) (by omega) ?_
        exact law_s0 hC0 hK hF0 hXI hPa hS (lv_sub hl [0, 1, 2, 3, 4, 7, 5, 11, 10, 9, 8] rfl) hLI0 hi9 hpx hqy (by omega) K
set_option maxHeartbeats 4000000 in
set_option maxRecDepth 100000 in
theorem law_end (hr : meth.sig.returnType = ret) (hlocks : meth.locks = false) (hC : LC p s mM c b L xs) (hK : kK G cs s) (hF : LPl a u s.heap.size) (hLI : LI A P 1500) (hXI : XI G cs a a A H) (hS : va_S (fun q => s.heap.size ≤ q) s.heap H locs) (hl : lv_has ls 16 [(1, .ref (a 0))]) : W p l e room_1 s mM #[Value.ref b] below meth c H locs 600000 7302249 (lw_Z below #[Value.ref b] s) (F0 mM 1021 ls []) := by
  obtain ⟨hx, hb, hml, hown, hts, hX, hbl, hL⟩ := hC
  obtain ⟨ia, hau, hza, hzu⟩ := hF
  have hsA : ∀ q, AX a 0 62 q → s.heap.size ≤ q := fun q h9 => by obtain ⟨i9, _, h2, h3⟩ := h9; rw [h3]; exact hza i9 h2
  obtain ⟨hA, h00, h01, h04, hPal⟩ := hLI
  refine lv_aload_n hx hb dL_law_1021 rfl (lv_at hl 0 rfl) ?_
  refine z_w (zrSJ (As := [.ref (a 0)]) (rest := []) ⟨hx, hb, hml, hown, hts⟩ (c_L_errors l G cs a A ia hA h00.1 h01.1) gL_law_L_errors rfl qL_errors rfl rfl ⟨Nat.le_of_ble_eq_true rfl, Nat.le_of_ble_eq_true rfl⟩ hXI hK hl.1 rfl (Nat.le_of_ble_eq_true rfl) dL_law_1022 (rm1 (by omega))) hS (fun q h9 => hsA q h9) (fun q h9 => hsA q h9) (fun v H locs hpost hle hk hS => ?_)
  obtain ⟨rfl, hXI⟩ := hpost
  refine z_top (v' := .int 1) rfl ?_
  refine W.widen (k := 600000) (n := 7302249) (by omega) (by omega) ?_
  refine va_forget hS.2.2 ?_
  exact W.base (lw_ret (d0 := s.drawn) (Drawn.sameBut.refl s.drawn lw_cs) hx hb hr hlocks dL_law_1025)
end LW2
def palN (n : Int) : Int → Int := fun k => if 0 ≤ k ∧ k < n then 16 * (k / 4) + k % 4 else 0
theorem pal_0 : palN 0 = fun _ => 0 := by
  funext k
  unfold palN
  rw [if_neg (by omega)]
theorem pal_s {n : Int} (hn : 0 ≤ n) : palN (n + 1) = updZ (palN n) n (16 * (n / 4) + n % 4) := by
  funext k
  by_cases e : k = n
  · rw [e, updZ_s]
    unfold palN
    rw [if_pos (by omega)]
  · rw [updZ_n e]
    unfold palN
    by_cases c : 0 ≤ k ∧ k < n
    · rw [if_pos c, if_pos (by omega)]
    · rw [if_neg c, if_neg (by omega)]
theorem s0_pal {k : Int} (h0 : 0 < k) (h1 : k < 16) (h2 : k % 4 ≠ 0) : A0_.1 2 k = palN 16 k := by
  show colP 4 1 k = palN 16 k
  unfold colP palN
  rw [if_pos (by omega), if_pos (by omega)]
set_option maxHeartbeats 4000000 in
set_option maxRecDepth 100000 in
/-- THE LAW, from its entry -/
theorem whole_start {p : Program} {e : Env} {s : State} {m : MethodId} {below : List Frame} {meth : Method} {c : Code} (l : Launch) (hflags : l.flags = flags0) {b L : Nat} {xs : Nat → Int32} (hL : L ≤ 260) (C0 : lw_At p s m meth c b L xs) : W p l e room_1 s m #[Value.ref b] below meth c s.heap [] 0 0 (lw_Z below #[Value.ref b] s) (entryFrame m ([Value.ref b] : List Value).toArray 16) := by
  obtain ⟨hx, hb, hr, hml, hown, hts0, hX, hbl, hlocks, hgv⟩ := C0
  obtain ⟨G, cs, hK⟩ := kk_start hts0
  have hts : ∀ w ∈ wsL_law, w.before #[Value.ref b] s = true := fun w h => hts0 w (wsL_law_in w h)
  have hown : s.vm.findClass RL = some m.cls := hown
  have hl := lv_entry ([.ref b]) (n := 16) (Nat.le_of_ble_eq_true rfl)
  rw [lg_entry_eq]
  generalize (lg_sl ([.ref b]) ++ List.replicate (16 - (lg_sl ([.ref b])).length) Slot.unset).toArray = ls at hl ⊢
  have hl : lv_has ls 16 [(0, .ref b)] := hl
  obtain ⟨a, ha⟩ : ∃ a : Nat → Nat, ∀ j, a j = s.heap.size + j := ⟨fun j => s.heap.size + j, fun _ => rfl⟩
  have hsa : Seq a := fun j => by rw [ha, ha]; omega
  obtain ⟨u, hu⟩ : ∃ u : Nat → Nat, u = sh a 62 := ⟨_, rfl⟩
  have hu0 : u 0 = s.heap.size + 62 := by rw [hu]; exact ha _
  have ia : Inj a 62 := seq_inj hsa 62
  have hau : ∀ i, i < 62 → a i ≠ u 0 := fun i hi h9 => by rw [ha, hu0] at h9; omega
  have hza : ∀ i, i < 62 → s.heap.size ≤ a i := fun i _ => by rw [ha]; omega
  have hzu : s.heap.size ≤ u 0 := by rw [hu0]; omega
  have hF : LPl a u s.heap.size := ⟨ia, hau, hza, hzu⟩
  have hsA : ∀ q, AX a 0 62 q → s.heap.size ≤ q := fun q h9 => by obtain ⟨i9, _, h2, h3⟩ := h9; rw [h3]; exact hza i9 h2
  have hA0 : GA A0_ := ⟨A0_wf, rfl⟩
  have hS : va_S (fun q => s.heap.size ≤ q) s.heap s.heap [] := va_S.rf
  have hz : s.heap.size = a 0 := (ha 0).symm
  refine z_new (C := RX6) (T := TX6) (N := 6) (ci := 6) hx hb hts inlX6 tyX6 tyX6_ok hown (hts0 (.classLink RL 10 RX6) (List.mem_of_getElem? (i := 31) (by decide +kernel))) (hts0 (.instantiable RX6 6) (List.mem_of_getElem? (i := 32) (by decide +kernel))) (hts0 (.initialized RX6) (List.mem_of_getElem? (i := 20) (by decide +kernel))) hK.1 hS rfl (fs := [.null, .null, .null, .null, .null, .null]) blX6 (Nat.le_of_ble_eq_true rfl) (Nat.le_of_ble_eq_true rfl) (q := a 0) hz dL_law_0 (fun H hP1 hz9 hk hS => ?_)
  have hz : H.size = a 1 := hz9.trans (hsa 0).symm
  refine lv_dup hx hb dL_law_3 rfl ?_
  refine z_v (zrI (C := RX6) (As := []) (rest := [.ref (a 0)]) (Pw := fun H => va_P G vwCl ([(a 0, .inr (6, [.null, .null, .null, .null, .null, .null]))]) H ∧ H.size = a 1) ⟨hx, hb, hml, hown, hts⟩ (c_X6_init l G cs a hsa) gL_law_X6_init rfl (hts0 (.initialized RX6) (List.mem_of_getElem? (i := 20) (by decide +kernel))) (hts0 (.methodLink RL 122 yX6_init) (List.mem_of_getElem? (i := 33) (by decide +kernel))) (hts0 (.instanceMethod yX6_init) (List.mem_of_getElem? (i := 34) (by decide +kernel))) rfl qX6_init rfl rfl ⟨(Nat.le_of_ble_eq_true rfl), (Nat.le_of_ble_eq_true rfl)⟩ ⟨hP1, hz⟩ hK hl.1 rfl (Nat.le_of_ble_eq_true rfl) dL_law_4 ⟨(Nat.le_of_ble_eq_true rfl), (Nat.le_of_ble_eq_true rfl)⟩) hS hsA hsA (fun H locs hpost hle hk hS => ?_)
  obtain ⟨hXI, hz⟩ := hpost
  refine lv_astore_n (lv' := [(1, .ref (a 0)), (0, .ref b)]) hx hb dL_law_7 rfl hl (by decide) rfl (fun ls hl => ?_)
  refine z_bipush (n := 20) hx hb dL_law_8 (by decide) ?_
  have hz : H.size = u 0 := hz.trans (by rw [hu]; rfl)
  refine z_newa (atype := .int) (ty := .int) (n := 20) (N := 20) hx hb (hts0 (.arrayClass .int) (List.mem_of_getElem? (i := 105) (by decide +kernel))) rfl hK.1 hS 0 rfl (a0 := (20, .inl (aI (fun _ => 0)))) rfl (by decide) rfl (by decide) (Nat.le_of_ble_eq_true rfl) (Nat.le_of_ble_eq_true rfl) (q := u 0) hz dL_law_10 (fun H hP1 hz9 hk hS => ?_)
  have hXI : XI G cs a a A0_ H := hXI.kp hA0 hk (fun _ _ h9 => h9)
  have hPa : va_P G vwCl (paW cs u (fun _ => 0)) H := hP1
  refine lv_astore_n (lv' := [(2, .ref (u 0)), (1, .ref (a 0)), (0, .ref b)]) hx hb dL_law_12 rfl hl (by decide) rfl (fun ls hl => ?_)
  refine z_iconst (n := 0) hx hb dL_law_13 ?_
  refine lv_istore_n (lv' := [(3, .int (zI 0)), (2, .ref (u 0)), (1, .ref (a 0)), (0, .ref b)]) hx hb dL_law_14 rfl hl (by decide) rfl (fun ls hl => ?_)
  -- loop 15
  refine z_loopH (nL := 16) (fun (k : Int) => [(0, .ref b), (1, .ref (a 0)), (2, .ref (u 0)), (3, .int (zI k))]) (fun (k : Int) (H : Heap) => (0 ≤ k ∧ k ≤ 16) ∧ XI G cs a a A0_ H ∧ va_P G vwCl ([(u 0, .inl (cs 0, 20, .inl (aI (palN k))))]) H) (fun (k : Int) => (16 - k).toNat) (0 : Int) ⟨(by omega), hXI, (by rw [pal_0]; exact hPa)⟩ hS (lv_sub hl [3, 2, 1, 0] rfl) (fun k H locs hIH hS ih ls hl => ?_)
  obtain ⟨hI, hXI, hPa⟩ := hIH
  have hl : lv_has ls 16 [(0, .ref b), (1, .ref (a 0)), (2, .ref (u 0)), (3, .int (zI k))] := hl
  refine lv_iload_n hx hb dL_law_15 rfl (lv_at hl 3 rfl) ?_
  refine z_bipush (n := 16) hx hb dL_law_16 (by decide) ?_
  refine z_icmp_ge (tgt := 40) hx hb dL_law_18 (by decide) (by omega) (by omega) (fun c101 => ?_) (fun c101 => ?_)
  · skip
    have ek : k = 16 := by omega
    subst ek
    refine lv_aload_n hx hb dL_law_40 rfl (lv_at hl 1 rfl) ?_
    obtain ⟨C, eC, gC, gC0, gC1, gC4, gC2⟩ := addPart_ok hA0 (show A0_.1 0 0 < 24 by decide)
    refine z_w (zrV (As := []) (rest := []) ⟨hx, hb, hml, hown, hts⟩ (k_addPart l G cs a A0_  ia hA0 ) gL_law_X6_addPart rfl qX6_addPart rfl rfl ⟨Nat.le_of_ble_eq_true rfl, Nat.le_of_ble_eq_true rfl⟩ hXI hK (va_recv hK.1 hXI.xo (ci := 6) (q0 := 0) rfl rfl) hl.1 rfl (Nat.le_of_ble_eq_true rfl) dL_law_41 (rm1 (by omega))) hS (fun q h9 => hsA q h9) (fun q h9 => hsA q h9) (fun v H locs hpost hle hk hS => ?_)
    obtain ⟨hv, hXI⟩ := hpost
    have hE : addPartF A0_ = (0, C) := (show addPartF A0_ = (0, C) from eC)
    have hv : v = .int (zI 0) := by rw [hE] at hv; exact hv
    have hXI : XI G cs a a C H := by rw [hE] at hXI; exact hXI
    subst hv
    clear hE
    have hPa := keepO (Ord.of (b := u) (n := 1) rfl) hPa hk (fun j hj h9 => by obtain ⟨i9, h1, h2, h3⟩ := h9; exact hau i9 h2 (by rw [show j = 0 by omega] at h3; exact h3.symm))
    refine z_if_ne (tgt := 57) hx hb dL_law_44 (by decide) (by omega) (fun c102 => ?_) (fun c102 => ?_)
    · skip
      exfalso; omega
    · skip
      refine lv_aload_n hx hb dL_law_47 rfl (lv_at hl 1 rfl) ?_
      refine z_iconst (n := 0) hx hb dL_law_48 ?_
      refine z_iconst (n := 3) hx hb dL_law_49 ?_
      refine z_iconst (n := 3) hx hb dL_law_50 ?_
      have z0 : A0_.1 0 0 = 0 := rfl
      have z1 : A0_.1 0 1 = 0 := rfl
      have z4 : A0_.1 0 4 = 0 := rfl
      obtain ⟨D, eD, gD, gD0, gD1, gD4, gD2⟩ := addSprite_ok gC (q := 0) (x := 3) (y := 3) (by omega) (by decide) (by decide) (by omega)
      refine z_w (zrV (As := [.int (zI 0), .int (zI 3), .int (zI 3)]) (rest := []) ⟨hx, hb, hml, hown, hts⟩ (k_addSprite l G cs a C 0 3 3 ia gC (by omega) (by omega) (by omega)) gL_law_X6_addSprite rfl qX6_addSprite rfl rfl ⟨Nat.le_of_ble_eq_true rfl, Nat.le_of_ble_eq_true rfl⟩ hXI hK (va_recv hK.1 hXI.xo (ci := 6) (q0 := 0) rfl rfl) hl.1 rfl (Nat.le_of_ble_eq_true rfl) dL_law_51 (rm1 (by omega))) hS (fun q h9 => hsA q h9) (fun q h9 => hsA q h9) (fun v H locs hpost hle hk hS => ?_)
      obtain ⟨hv, hXI⟩ := hpost
      have hE : addSpriteF C 0 3 3 = (0, D) := (eD.trans (by rw [gC1]; rfl))
      have hv : v = .int (zI 0) := by rw [hE] at hv; exact hv
      have hXI : XI G cs a a D H := by rw [hE] at hXI; exact hXI
      subst hv
      clear hE
      have hPa := keepO (Ord.of (b := u) (n := 1) rfl) hPa hk (fun j hj h9 => by obtain ⟨i9, h1, h2, h3⟩ := h9; exact hau i9 h2 (by rw [show j = 0 by omega] at h3; exact h3.symm))
      refine z_if_eq (tgt := 59) hx hb dL_law_54 (by decide) (by omega) (fun c103 => ?_) (fun c103 => ?_)
      · skip
        refine z_iconst (n := 0) hx hb dL_law_59 ?_
        refine lv_istore_n (lv' := [(3, .int (zI 0)), (0, .ref b), (1, .ref (a 0)), (2, .ref (u 0))]) hx hb dL_law_60 rfl hl (by decide) rfl (fun ls hl => ?_)
        exact law_loop ⟨hx, hb, hml, hown, hts, hX, hbl, hL⟩ hK hF (fun A2 P2 H2 locs2 ls2 hLI2 hXI2 hS2 hl2 => law_end hr hlocks ⟨hx, hb, hml, hown, hts, hX, hbl, hL⟩ hK hF hLI2 hXI2 hS2 hl2) 31 0 D (palN 16) H locs _ _ ls (by omega) (by omega) ⟨gD, by omega, by omega, by omega, fun k k0 k1 k2 => by rw [gD2, gC2]; exact s0_pal k0 k1 k2⟩ hXI hPa hS (lv_sub hl [1, 2, 3, 0] rfl) (by omega)
      · skip
        exfalso; omega
  · skip
    refine lv_aload_n hx hb dL_law_21 rfl (lv_at hl 2 rfl) ?_
    refine lv_iload_n hx hb dL_law_22 rfl (lv_at hl 3 rfl) ?_
    refine z_bipush (n := 16) hx hb dL_law_23 (by decide) ?_
    refine lv_iload_n hx hb dL_law_25 rfl (lv_at hl 3 rfl) ?_
    refine z_iconst (n := 4) hx hb dL_law_26 ?_
    refine z_idiv hx hb dL_law_27 (by omega) (by omega) ?_
    refine z_imul hx hb dL_law_28 ?_
    refine lv_iload_n hx hb dL_law_29 rfl (lv_at hl 3 rfl) ?_
    refine z_iconst (n := 4) hx hb dL_law_30 ?_
    refine z_irem hx hb dL_law_31 (by omega) (by omega) ?_
    refine z_iadd hx hb dL_law_32 ?_
    refine z_iast hx hb hK.1 hPa (Ord.D (Ord.of (b := u) (n := 1) rfl) inj1) hS 0 0 (F := (palN k)) rfl rfl (by omega) (by decide) hzu dL_law_33 (fun H locs hP1 hle hk hS => ?_)
    have hXI : XI G cs a a A0_ H := hXI.kp (by assumption) hk (fun i hi h9 => hau i hi h9)
    have hPa : va_P G vwCl ([(u 0, .inl (cs 0, 20, .inl (aI (updZ (palN k) k ((16 * (k / 4)) + (k % 4))))))]) H := hP1
    refine z_iinc (k := 3) (lv' := [(3, .int (zI (k + 1))), (0, .ref b), (1, .ref (a 0)), (2, .ref (u 0))]) hx hb dL_law_34 hl rfl (by decide) rfl (fun ls hl => ?_)
    refine lv_goto (tgt := 15) hx hb dL_law_37 (by decide) ?_
    exact ih (k + 1) H locs ⟨(by omega), hXI, (by rw [pal_s hI.1]; exact hPa)⟩ hS (by omega) ls (lv_sub hl [1, 2, 3, 0] rfl)
