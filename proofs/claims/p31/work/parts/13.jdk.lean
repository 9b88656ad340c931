theorem pop_end {n : Nat} {z : Int} (h : ((n % 128 : Nat) : Int) = z) : nI n &&& zI 127 = zI z := by
  rw [show zI 127 = nI 127 from rfl, nI_and, show (127 : Nat) = 2 ^ 7 - 1 from rfl, Nat.and_two_pow_sub_one_eq_mod n 7, ← h]
  exact zI_nat _
theorem pop_endI {n : Nat} {z : Int} (h : ((n % 64 : Nat) : Int) = z) : nI n &&& zI 63 = zI z := by
  rw [show zI 63 = nI 63 from rfl, nI_and, show (63 : Nat) = 2 ^ 6 - 1 from rfl, Nat.and_two_pow_sub_one_eq_mod n 6, ← h]
  exact zI_nat _
theorem fmod5' : ∀ n : Fin 16, 0 ≤ zI (n.val : Int) ^^^ zI 5 := by decide +kernel
theorem fmod5 {x : Int} (h : 0 ≤ x ∧ x < 16) : 0 ≤ zI x ^^^ zI 5 := by
  obtain ⟨n, rfl⟩ := Int.eq_ofNat_of_zero_le h.1
  exact fmod5' ⟨n, by omega⟩
theorem m_introF {l : Launch} {y : MethodName} {ws ws' : List Cond} {rm : Room} {G : va_G} {cs : Nat → ClassId} {As : List Value} {Pw : Heap → Prop} {Qc : Array Value → State → Outcome → State → Prop} {mc ms : Nat} {free : Addr → Prop} {cc : ByteArray} {maxL : Nat} {ret : Option FieldType} (own : String) (hy : plainFor y = true) (hw : ws = Cond.code y cc maxL ret :: ws') (ho : y.cls = own) (hen : (lg_sl As).length ≤ maxL)
    (k : ∀ (p : Program) (e : Env) (s : State) (m : MethodId) (below : List Frame) (meth : Method) (c : Code), p.tables.exec = Jvm.exec → c.code = cc → meth.sig.returnType = ret → (∀ w ∈ ws, w.before As.toArray s = true) → s.vm.findClass own = some m.cls → c.maxLocals = maxL → meth.locks = false → meth.name = y.name → Pw s.heap → kK G cs s → ∀ ls : Array Slot, lv_has ls maxL (lv_args 0 As) → W p l e rm s m As.toArray below meth c s.heap [] 0 0 (MQ below Qc As.toArray s mc ms free) (F0 m 0 ls [])) :
    Met l y ws rm (va_Pc As (fun U => Pw U.heap ∧ kK G cs U)) Qc mc ms free := by
  refine MetFree.of_bodySF (code := cc) (maxLocals := maxL) (ret := ret) hy ?_ ?_
  · intro args s m h hn
    obtain ⟨meth, c, h1, h2, h3, h4, h5, h6, -, -⟩ := Cond.code_spec hn (atoms_spec (ws := ws) h _ (by rw [hw]; exact List.mem_cons_self))
    exact ⟨meth, c, h1, h2, h3, h4, h5, h6⟩
  · intro p e s m args below meth c s₁ B hml hP _
    obtain ⟨rfl, hP, hK⟩ := hP
    have hh0 : s₁.heap = s.heap := by rw [B.state]; rfl
    have kk := k p e s m below meth c B.exec B.bytes B.returns (atoms_spec (ws := ws) B.pre) (by rw [← ho]; exact findClass_of_methodNamed B.named) hml B.notSynchronized (name_of_methodNamed B.named B.method).1 hP hK _ (lv_entry As hen)
    rw [← lg_entry_eq] at kk
    obtain ⟨t, a1, o, b1, b2, b3⟩ := kk s₁ hh0 (Stand.of_body B)
    exact ⟨t, o, a1, b1, b2, ⟨b3.1, b3.2⟩⟩
theorem nz_bits {X : Int → Int} {p k : Int} (hk : 0 ≤ k) (h : 0 ≤ X (64 * p + k) ∧ X (64 * p + k) ≤ 3) : (bL X p k.toNat || bH X p k.toNat) = decide (X (64 * p + k) ≠ 0) := by
  unfold bL bH
  rw [show ((k.toNat : Nat) : Int) = k by omega]
  rcases Int4 h with e | e | e | e <;> rw [e] <;> decide
theorem sh_nan' : ∀ n : Fin 65, FP.fdiv (FP.i2f (zI (n.val : Int))) 1115684864 &&& 0x7fffffff ≤ 0x7f800000 := by decide +kernel
theorem sh_nan {n : Int} (h : 0 ≤ n ∧ n ≤ 64) : vf_n32 (FP.fdiv (FP.i2f (zI n)) 1115684864) := by
  obtain ⟨k, rfl⟩ := Int.eq_ofNat_of_zero_le h.1
  exact sh_nan' ⟨k, by omega⟩
set_option maxHeartbeats 4000000 in
set_option maxRecDepth 100000 in
theorem c_J13_bitCount_95d88 (l : Launch) (G : va_G) (cs : Nat → ClassId) (f : Nat → Bool)  : MRO l yJ13_bitCount_95d88 wsJ13_bitCount_95d88 { frames := 0, cells := 0, slots := 0, locals := 0 } G cs [.long (lB f)] (fun _ => True) (.int (zI (cnt (fun k => f k.toNat) 64))) := by
  refine m_intro (Pw := (fun _ => True)) (cc := cJ13_bitCount_95d88) (maxL := 2) (ret := some .int) RJ13 (by decide) rfl rfl (Nat.le_of_ble_eq_true rfl) ?_
  intro pP eE sS mM below meth cC hx hb hr hts hown hml hlk hnm hPre hK ls hl
  have hl : lv_has ls 2 [(0, .long (lB f))] := hl
  obtain ⟨i1, i2, i3, i4, i5, i6, a0, a1, l1, a2, l2, a3, l3, a4, l4, a5, l5, a6, a7⟩ := pop_L f
  refine lv_lload_n hx hb dJ13_bitCount_95d88_0 rfl (lv_at hl 0 rfl) ?_
  refine z_top (v' := .long (lN (bs f 64))) (congrArg Value.long (lB_lN f)) ?_
  refine lv_lload_n hx hb dJ13_bitCount_95d88_1 rfl (lv_at hl 0 rfl) ?_
  refine z_top (v' := .long (lN (bs f 64))) (congrArg Value.long (lB_lN f)) ?_
  refine z_iconst (n := 1) hx hb dJ13_bitCount_95d88_2 ?_
  refine lv_lushr (v := (lN (bs f 64 / 2 ^ 1))) hx hb dJ13_bitCount_95d88_3 (lN_shr (bs_lt f 64) (n := 1) rfl (by decide)) ?_
  refine lv_ldc2 (v := (6148914691236517205)) hx hb hown (hts (.constantLong RJ13 314 (6148914691236517205)) (by decide +kernel)) dJ13_bitCount_95d88_4 ?_
  refine z_top (v' := .long (lN 6148914691236517205)) (congrArg Value.long (rfl : (6148914691236517205 : Int64) = lN 6148914691236517205)) ?_
  refine lv_land hx hb dJ13_bitCount_95d88_7 ?_
  refine z_top (v' := .long (lN ((bs f 64 / 2 ^ 1) &&& 6148914691236517205))) (congrArg Value.long (lN_and _ _)) ?_
  refine lv_lsub hx hb dJ13_bitCount_95d88_8 ?_
  refine z_top (v' := .long (lN i1)) (congrArg Value.long (by rw [lN_sub a0, a1])) ?_
  refine lv_lstore_n (lv' := [(0, .long (lN i1))]) hx hb dJ13_bitCount_95d88_9 rfl hl (by decide) rfl (fun ls hl => ?_)
  refine lv_lload_n hx hb dJ13_bitCount_95d88_10 rfl (lv_at hl 0 rfl) ?_
  refine lv_ldc2 (v := (3689348814741910323)) hx hb hown (hts (.constantLong RJ13 316 (3689348814741910323)) (by decide +kernel)) dJ13_bitCount_95d88_11 ?_
  refine z_top (v' := .long (lN 3689348814741910323)) (congrArg Value.long (rfl : (3689348814741910323 : Int64) = lN 3689348814741910323)) ?_
  refine lv_land hx hb dJ13_bitCount_95d88_14 ?_
  refine z_top (v' := .long (lN (i1 &&& 3689348814741910323))) (congrArg Value.long (lN_and _ _)) ?_
  refine lv_lload_n hx hb dJ13_bitCount_95d88_15 rfl (lv_at hl 0 rfl) ?_
  refine z_iconst (n := 2) hx hb dJ13_bitCount_95d88_16 ?_
  refine lv_lushr (v := (lN (i1 / 2 ^ 2))) hx hb dJ13_bitCount_95d88_17 (lN_shr l1 (n := 2) rfl (by decide)) ?_
  refine lv_ldc2 (v := (3689348814741910323)) hx hb hown (hts (.constantLong RJ13 316 (3689348814741910323)) (by decide +kernel)) dJ13_bitCount_95d88_18 ?_
  refine z_top (v' := .long (lN 3689348814741910323)) (congrArg Value.long (rfl : (3689348814741910323 : Int64) = lN 3689348814741910323)) ?_
  refine lv_land hx hb dJ13_bitCount_95d88_21 ?_
  refine z_top (v' := .long (lN ((i1 / 2 ^ 2) &&& 3689348814741910323))) (congrArg Value.long (lN_and _ _)) ?_
  refine lv_ladd hx hb dJ13_bitCount_95d88_22 ?_
  refine z_top (v' := .long (lN i2)) (congrArg Value.long (by rw [lN_add, a2])) ?_
  refine lv_lstore_n (lv' := [(0, .long (lN i2))]) hx hb dJ13_bitCount_95d88_23 rfl hl (by decide) rfl (fun ls hl => ?_)
  refine lv_lload_n hx hb dJ13_bitCount_95d88_24 rfl (lv_at hl 0 rfl) ?_
  refine lv_lload_n hx hb dJ13_bitCount_95d88_25 rfl (lv_at hl 0 rfl) ?_
  refine z_iconst (n := 4) hx hb dJ13_bitCount_95d88_26 ?_
  refine lv_lushr (v := (lN (i2 / 2 ^ 4))) hx hb dJ13_bitCount_95d88_27 (lN_shr l2 (n := 4) rfl (by decide)) ?_
  refine lv_ladd hx hb dJ13_bitCount_95d88_28 ?_
  refine z_top (v' := .long (lN (i2 + i2 / 2 ^ 4))) (congrArg Value.long (lN_add _ _)) ?_
  refine lv_ldc2 (v := (1085102592571150095)) hx hb hown (hts (.constantLong RJ13 318 (1085102592571150095)) (by decide +kernel)) dJ13_bitCount_95d88_29 ?_
  refine z_top (v' := .long (lN 1085102592571150095)) (congrArg Value.long (rfl : (1085102592571150095 : Int64) = lN 1085102592571150095)) ?_
  refine lv_land hx hb dJ13_bitCount_95d88_32 ?_
  refine z_top (v' := .long (lN i3)) (congrArg Value.long (by rw [lN_and, a3])) ?_
  refine lv_lstore_n (lv' := [(0, .long (lN i3))]) hx hb dJ13_bitCount_95d88_33 rfl hl (by decide) rfl (fun ls hl => ?_)
  refine lv_lload_n hx hb dJ13_bitCount_95d88_34 rfl (lv_at hl 0 rfl) ?_
  refine lv_lload_n hx hb dJ13_bitCount_95d88_35 rfl (lv_at hl 0 rfl) ?_
  refine z_bipush (n := 8) hx hb dJ13_bitCount_95d88_36 (by decide) ?_
  refine lv_lushr (v := (lN (i3 / 2 ^ 8))) hx hb dJ13_bitCount_95d88_38 (lN_shr l3 (n := 8) rfl (by decide)) ?_
  refine lv_ladd hx hb dJ13_bitCount_95d88_39 ?_
  refine z_top (v' := .long (lN i4)) (congrArg Value.long (by rw [lN_add, a4])) ?_
  refine lv_lstore_n (lv' := [(0, .long (lN i4))]) hx hb dJ13_bitCount_95d88_40 rfl hl (by decide) rfl (fun ls hl => ?_)
  refine lv_lload_n hx hb dJ13_bitCount_95d88_41 rfl (lv_at hl 0 rfl) ?_
  refine lv_lload_n hx hb dJ13_bitCount_95d88_42 rfl (lv_at hl 0 rfl) ?_
  refine z_bipush (n := 16) hx hb dJ13_bitCount_95d88_43 (by decide) ?_
  refine lv_lushr (v := (lN (i4 / 2 ^ 16))) hx hb dJ13_bitCount_95d88_45 (lN_shr l4 (n := 16) rfl (by decide)) ?_
  refine lv_ladd hx hb dJ13_bitCount_95d88_46 ?_
  refine z_top (v' := .long (lN i5)) (congrArg Value.long (by rw [lN_add, a5])) ?_
  refine lv_lstore_n (lv' := [(0, .long (lN i5))]) hx hb dJ13_bitCount_95d88_47 rfl hl (by decide) rfl (fun ls hl => ?_)
  refine lv_lload_n hx hb dJ13_bitCount_95d88_48 rfl (lv_at hl 0 rfl) ?_
  refine lv_lload_n hx hb dJ13_bitCount_95d88_49 rfl (lv_at hl 0 rfl) ?_
  refine z_bipush (n := 32) hx hb dJ13_bitCount_95d88_50 (by decide) ?_
  refine lv_lushr (v := (lN (i5 / 2 ^ 32))) hx hb dJ13_bitCount_95d88_52 (lN_shr l5 (n := 32) rfl (by decide)) ?_
  refine lv_ladd hx hb dJ13_bitCount_95d88_53 ?_
  refine z_top (v' := .long (lN i6)) (congrArg Value.long (by rw [lN_add, a6])) ?_
  refine lv_lstore_n (lv' := [(0, .long (lN i6))]) hx hb dJ13_bitCount_95d88_54 rfl hl (by decide) rfl (fun ls hl => ?_)
  refine lv_lload_n hx hb dJ13_bitCount_95d88_55 rfl (lv_at hl 0 rfl) ?_
  refine lv_l2i (v := (nI i6)) hx hb dJ13_bitCount_95d88_56 (lN_i i6) ?_
  refine z_bipush (n := 127) hx hb dJ13_bitCount_95d88_57 (by decide) ?_
  refine lv_iand hx hb dJ13_bitCount_95d88_59 ?_
  refine z_top (v' := .int (zI (cnt (fun k => f k.toNat) 64))) (congrArg Value.int (pop_end a7)) ?_
  exact ro_iret hx hb hr hlk dJ13_bitCount_95d88_60 rfl

set_option maxHeartbeats 4000000 in
set_option maxRecDepth 100000 in
theorem c_J6_bitCount_0f7a4 (l : Launch) (G : va_G) (cs : Nat → ClassId) (f : Nat → Bool)  : MRO l yJ6_bitCount_0f7a4 wsJ6_bitCount_0f7a4 { frames := 0, cells := 0, slots := 0, locals := 0 } G cs [.int (iB f)] (fun _ => True) (.int (zI (cnt (fun k => f k.toNat) 32))) := by
  refine m_intro (Pw := (fun _ => True)) (cc := cJ6_bitCount_0f7a4) (maxL := 1) (ret := some .int) RJ6 (by decide) rfl rfl (Nat.le_of_ble_eq_true rfl) ?_
  intro pP eE sS mM below meth cC hx hb hr hts hown hml hlk hnm hPre hK ls hl
  have hl : lv_has ls 1 [(0, .int (iB f))] := hl
  obtain ⟨i1, i2, i3, i4, i5, a0, a1, l1, a2, l2, a3, l3, a4, l4, a5, a6⟩ := pop_I f
  refine lv_iload_n hx hb dJ6_bitCount_0f7a4_0 rfl (lv_at hl 0 rfl) ?_
  refine z_top (v' := .int (nI (bs f 32))) (congrArg Value.int (iB_nI f)) ?_
  refine lv_iload_n hx hb dJ6_bitCount_0f7a4_1 rfl (lv_at hl 0 rfl) ?_
  refine z_top (v' := .int (nI (bs f 32))) (congrArg Value.int (iB_nI f)) ?_
  refine z_iconst (n := 1) hx hb dJ6_bitCount_0f7a4_2 ?_
  refine lv_iushr (v := (nI (bs f 32 / 2 ^ 1))) hx hb dJ6_bitCount_0f7a4_3 (nI_shr (bs_lt f 32) (n := 1) rfl (by decide)) ?_
  refine lv_ldcw (v := (1431655765)) hx hb hown (hts (.constant RJ6 265 (1431655765)) (by decide +kernel)) dJ6_bitCount_0f7a4_4 ?_
  refine z_top (v' := .int (zI (1431655765))) rfl ?_
  refine z_top (v' := .int (nI 1431655765)) (congrArg Value.int (rfl : zI 1431655765 = nI 1431655765)) ?_
  refine lv_iand hx hb dJ6_bitCount_0f7a4_7 ?_
  refine z_top (v' := .int (nI ((bs f 32 / 2 ^ 1) &&& 1431655765))) (congrArg Value.int (nI_and _ _)) ?_
  refine lv_isub hx hb dJ6_bitCount_0f7a4_8 ?_
  refine z_top (v' := .int (nI i1)) (congrArg Value.int (by rw [nI_sub' a0, a1])) ?_
  refine lv_istore_n (lv' := [(0, .int (nI i1))]) hx hb dJ6_bitCount_0f7a4_9 rfl hl (by decide) rfl (fun ls hl => ?_)
  refine lv_iload_n hx hb dJ6_bitCount_0f7a4_10 rfl (lv_at hl 0 rfl) ?_
  refine lv_ldcw (v := (858993459)) hx hb hown (hts (.constant RJ6 266 (858993459)) (by decide +kernel)) dJ6_bitCount_0f7a4_11 ?_
  refine z_top (v' := .int (zI (858993459))) rfl ?_
  refine z_top (v' := .int (nI 858993459)) (congrArg Value.int (rfl : zI 858993459 = nI 858993459)) ?_
  refine lv_iand hx hb dJ6_bitCount_0f7a4_14 ?_
  refine z_top (v' := .int (nI (i1 &&& 858993459))) (congrArg Value.int (nI_and _ _)) ?_
  refine lv_iload_n hx hb dJ6_bitCount_0f7a4_15 rfl (lv_at hl 0 rfl) ?_
  refine z_iconst (n := 2) hx hb dJ6_bitCount_0f7a4_16 ?_
  refine lv_iushr (v := (nI (i1 / 2 ^ 2))) hx hb dJ6_bitCount_0f7a4_17 (nI_shr l1 (n := 2) rfl (by decide)) ?_
  refine lv_ldcw (v := (858993459)) hx hb hown (hts (.constant RJ6 266 (858993459)) (by decide +kernel)) dJ6_bitCount_0f7a4_18 ?_
  refine z_top (v' := .int (zI (858993459))) rfl ?_
  refine z_top (v' := .int (nI 858993459)) (congrArg Value.int (rfl : zI 858993459 = nI 858993459)) ?_
  refine lv_iand hx hb dJ6_bitCount_0f7a4_21 ?_
  refine z_top (v' := .int (nI ((i1 / 2 ^ 2) &&& 858993459))) (congrArg Value.int (nI_and _ _)) ?_
  refine lv_iadd hx hb dJ6_bitCount_0f7a4_22 ?_
  refine z_top (v' := .int (nI i2)) (congrArg Value.int (by rw [nI_add, a2])) ?_
  refine lv_istore_n (lv' := [(0, .int (nI i2))]) hx hb dJ6_bitCount_0f7a4_23 rfl hl (by decide) rfl (fun ls hl => ?_)
  refine lv_iload_n hx hb dJ6_bitCount_0f7a4_24 rfl (lv_at hl 0 rfl) ?_
  refine lv_iload_n hx hb dJ6_bitCount_0f7a4_25 rfl (lv_at hl 0 rfl) ?_
  refine z_iconst (n := 4) hx hb dJ6_bitCount_0f7a4_26 ?_
  refine lv_iushr (v := (nI (i2 / 2 ^ 4))) hx hb dJ6_bitCount_0f7a4_27 (nI_shr l2 (n := 4) rfl (by decide)) ?_
  refine lv_iadd hx hb dJ6_bitCount_0f7a4_28 ?_
  refine z_top (v' := .int (nI (i2 + i2 / 2 ^ 4))) (congrArg Value.int (nI_add _ _)) ?_
  refine lv_ldcw (v := (252645135)) hx hb hown (hts (.constant RJ6 267 (252645135)) (by decide +kernel)) dJ6_bitCount_0f7a4_29 ?_
  refine z_top (v' := .int (zI (252645135))) rfl ?_
  refine z_top (v' := .int (nI 252645135)) (congrArg Value.int (rfl : zI 252645135 = nI 252645135)) ?_
  refine lv_iand hx hb dJ6_bitCount_0f7a4_32 ?_
  refine z_top (v' := .int (nI i3)) (congrArg Value.int (by rw [nI_and, a3])) ?_
  refine lv_istore_n (lv' := [(0, .int (nI i3))]) hx hb dJ6_bitCount_0f7a4_33 rfl hl (by decide) rfl (fun ls hl => ?_)
  refine lv_iload_n hx hb dJ6_bitCount_0f7a4_34 rfl (lv_at hl 0 rfl) ?_
  refine lv_iload_n hx hb dJ6_bitCount_0f7a4_35 rfl (lv_at hl 0 rfl) ?_
  refine z_bipush (n := 8) hx hb dJ6_bitCount_0f7a4_36 (by decide) ?_
  refine lv_iushr (v := (nI (i3 / 2 ^ 8))) hx hb dJ6_bitCount_0f7a4_38 (nI_shr l3 (n := 8) rfl (by decide)) ?_
  refine lv_iadd hx hb dJ6_bitCount_0f7a4_39 ?_
  refine z_top (v' := .int (nI i4)) (congrArg Value.int (by rw [nI_add, a4])) ?_
  refine lv_istore_n (lv' := [(0, .int (nI i4))]) hx hb dJ6_bitCount_0f7a4_40 rfl hl (by decide) rfl (fun ls hl => ?_)
  refine lv_iload_n hx hb dJ6_bitCount_0f7a4_41 rfl (lv_at hl 0 rfl) ?_
  refine lv_iload_n hx hb dJ6_bitCount_0f7a4_42 rfl (lv_at hl 0 rfl) ?_
  refine z_bipush (n := 16) hx hb dJ6_bitCount_0f7a4_43 (by decide) ?_
  refine lv_iushr (v := (nI (i4 / 2 ^ 16))) hx hb dJ6_bitCount_0f7a4_45 (nI_shr l4 (n := 16) rfl (by decide)) ?_
  refine lv_iadd hx hb dJ6_bitCount_0f7a4_46 ?_
  refine z_top (v' := .int (nI i5)) (congrArg Value.int (by rw [nI_add, a5])) ?_
  refine lv_istore_n (lv' := [(0, .int (nI i5))]) hx hb dJ6_bitCount_0f7a4_47 rfl hl (by decide) rfl (fun ls hl => ?_)
  refine lv_iload_n hx hb dJ6_bitCount_0f7a4_48 rfl (lv_at hl 0 rfl) ?_
  refine z_bipush (n := 63) hx hb dJ6_bitCount_0f7a4_49 (by decide) ?_
  refine lv_iand hx hb dJ6_bitCount_0f7a4_51 ?_
  refine z_top (v' := .int (zI (cnt (fun k => f k.toNat) 32))) (congrArg Value.int (pop_endI a6)) ?_
  exact ro_iret hx hb hr hlk dJ6_bitCount_0f7a4_52 rfl

set_option maxHeartbeats 4000000 in
set_option maxRecDepth 100000 in
theorem c_J9_floorMod_7cf53 (l : Launch) (G : va_G) (cs : Nat → ClassId) (x : Int) (h1 : 0 ≤ x ∧ x < 16) : MRO l yJ9_floorMod_7cf53 wsJ9_floorMod_7cf53 { frames := 0, cells := 0, slots := 0, locals := 0 } G cs [.int (zI x), .int (zI 5)] (fun _ => True) (.int (zI (x % 5))) := by
  refine m_introF (Pw := (fun _ => True)) (cc := cJ9_floorMod_7cf53) (maxL := 3) (ret := some .int) RJ9 (by decide +kernel) rfl rfl (Nat.le_of_ble_eq_true rfl) ?_
  intro pP eE sS mM below meth cC hx hb hr hts hown hml hlk hnm hPre hK ls hl
  have hl : lv_has ls 3 [(0, .int (zI x)), (1, .int (zI 5))] := hl
  refine lv_iload_n hx hb dJ9_floorMod_7cf53_0 rfl (lv_at hl 0 rfl) ?_
  refine lv_iload_n hx hb dJ9_floorMod_7cf53_1 rfl (lv_at hl 1 rfl) ?_
  refine z_irem hx hb dJ9_floorMod_7cf53_2 (by omega) (by omega) ?_
  refine lv_istore_n (lv' := [(2, .int (zI (x % 5))), (0, .int (zI x)), (1, .int (zI 5))]) hx hb dJ9_floorMod_7cf53_3 rfl hl (by decide) rfl (fun ls hl => ?_)
  refine lv_iload_n hx hb dJ9_floorMod_7cf53_4 rfl (lv_at hl 1 rfl) ?_
  refine lv_iload_n hx hb dJ9_floorMod_7cf53_5 rfl (lv_at hl 2 rfl) ?_
  refine lv_ixor hx hb dJ9_floorMod_7cf53_6 ?_
  refine z_top (v' := .int (zI x ^^^ zI 5)) rfl ?_
  refine lv_if_ge (tgt := 18) hx hb dJ9_floorMod_7cf53_7 (by decide) (fun c1 => ?_) (fun c1 => ?_)
  · skip
    refine lv_iload_n hx hb dJ9_floorMod_7cf53_18 rfl (lv_at hl 0 rfl) ?_
    exact ro_iret hx hb hr hlk dJ9_floorMod_7cf53_19 rfl
  · skip
    exact absurd (fmod5 h1) c1

set_option maxHeartbeats 4000000 in
set_option maxRecDepth 100000 in
theorem c_X3_shareOf (l : Launch) (G : va_G) (cs : Nat → ClassId) (b : Nat → Nat) (S : SS) (q : Int) (wf : WF S) (h1 : 0 ≤ q ∧ q < 24) : MRO l yX3_shareOf wsX3_shareOf { frames := 1, cells := 0, slots := 0, locals := 21 } G cs [.ref (b 1), .int (zI q)] (fun H => va_P G vwCl (stW cs b S) H) (.float (shareF S q)) := by
  refine m_intro (Pw := (fun H => va_P G vwCl (stW cs b S) H)) (cc := cX3_shareOf) (maxL := 2) (ret := some .float) RX3 (by decide) rfl rfl (Nat.le_of_ble_eq_true rfl) ?_
  intro pP eE sS mM below meth cC hx hb hr hts hown hml hlk hnm hPre hK ls hl
  have hl : lv_has ls 2 [(0, .ref (b 1)), (1, .int (zI q))] := hl
  have hPs := hPre
  obtain ⟨w0, w1, w2, w3, w4, wP, wC, wS, wX⟩ := wf
  have hn := cnt_r (nzP S q) 64
  refine lv_aload_n hx hb dX3_shareOf_0 rfl (lv_at hl 0 rfl) ?_
  refine lv_iload_n hx hb dX3_shareOf_1 rfl (lv_at hl 1 rfl) ?_
  refine z_ro (zrV (As := [.int (zI q)]) (rest := []) ⟨hx, hb, hml, hown, hts⟩ (c_X3_lowOf l G cs b S q (by omega)) gX3_shareOf_X3_lowOf rfl qX3_lowOf rfl rfl ⟨Nat.le_of_ble_eq_true rfl, Nat.le_of_ble_eq_true rfl⟩ hPs hK (va_recv hK.1 hPs (ci := 3) (q0 := 1) rfl rfl) hl.1 rfl (Nat.le_of_ble_eq_true rfl) dX3_shareOf_2 ⟨Nat.le_of_ble_eq_true rfl, Nat.le_of_ble_eq_true rfl⟩) ?_
  refine lv_aload_n hx hb dX3_shareOf_5 rfl (lv_at hl 0 rfl) ?_
  refine lv_iload_n hx hb dX3_shareOf_6 rfl (lv_at hl 1 rfl) ?_
  refine z_ro (zrV (As := [.int (zI q)]) (rest := [.long (lB (bL (S 5) q))]) ⟨hx, hb, hml, hown, hts⟩ (c_X3_highOf l G cs b S q (by omega)) gX3_shareOf_X3_highOf rfl qX3_highOf rfl rfl ⟨Nat.le_of_ble_eq_true rfl, Nat.le_of_ble_eq_true rfl⟩ hPs hK (va_recv hK.1 hPs (ci := 3) (q0 := 1) rfl rfl) hl.1 rfl (Nat.le_of_ble_eq_true rfl) dX3_shareOf_7 ⟨Nat.le_of_ble_eq_true rfl, Nat.le_of_ble_eq_true rfl⟩) ?_
  refine z_lor hx hb dX3_shareOf_10 ?_
  refine z_ro (zrSJ (As := [.long (lB (fun k => (bL (S 5) q) k || (bH (S 5) q) k))]) (rest := []) (Pw := fun _ => True) ⟨hx, hb, hml, hown, hts⟩ (c_J13_bitCount_95d88 l G cs (fun k => (bL (S 5) q) k || (bH (S 5) q) k)) gX3_shareOf_J13_bitCount_95d88 rfl qJ13_bitCount_95d88 rfl rfl ⟨Nat.le_of_ble_eq_true rfl, Nat.le_of_ble_eq_true rfl⟩ trivial hK hl.1 rfl (Nat.le_of_ble_eq_true rfl) dX3_shareOf_11 ⟨Nat.le_of_ble_eq_true rfl, Nat.le_of_ble_eq_true rfl⟩) ?_
  refine z_topi (b := cnt (nzP S q) 64) (cnt_congr (fun k q1 q2 => nz_bits (p := q) q1 (wX _ (by omega) (by omega)))) ?_
  refine lv_i2f hx hb dX3_shareOf_14 ?_
  refine lv_ldcf (v := (1115684864)) hx hb hown (hts (.constantFloat RX3 53 (1115684864)) (by decide +kernel)) dX3_shareOf_15 ?_
  refine lv_fdiv hx hb dX3_shareOf_17 (sh_nan (by omega)) ?_
  exact ro_fret hx hb hr hlk dX3_shareOf_18 (congrArg _ (by rfl))
