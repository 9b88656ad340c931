/-! Whole arrays copied. -/
section ZC
variable {p : Program} {l : Launch} {e : Env} {R : Room} {s : State} {m : MethodId} {args : Array Value} {below : List Frame} {meth : Method} {c : Code} {H : Heap} {locs : List Loc} {cells slots : Nat} {Q : State → Prop} {cc : ByteArray} {pc : Nat} {ls : Array Slot} {rest : List Value} {A : Nat → Prop} {H0 : Heap} {G : va_G} {cl : List vw_C} {ws ws1 : va_W} {a : Nat} {tys : List (ClassId × FieldType)}
theorem z_copyi (hx : p.tables.exec = Jvm.exec) (hb : c.code = cc) (hml : c.maxLocals = ls.size) {own : String} {index : Nat} (hown : s.vm.findClass own = some m.cls) (hlink : (Cond.methodLink own index arraycopyName).before args s = true) (hnat : (Cond.native arraycopyName).before args s = true) (hstat : (Cond.static arraycopyName).before args s = true) (hini : (Cond.initialized "java/lang/System").before args s = true)
    (hK : va_K G cl tys s) (hP1 : va_P G cl ws1 H) (hP : va_P G cl ws H) (hD : va_D (fun _ => True) ws) (hS : va_S A H0 H locs) (q1 q0 t1 t0 : Nat) {a0 : Nat} {c0 c1 : ClassId} {n : Nat} {f g : Nat → Int32} {z : Int} (ha0 : ws1[q1]? = some (a0, .inl (c0, n, .inl f))) (ha1 : ws[q0]? = some (a, .inl (c1, n, .inl g))) (ht0 : tys[t1]? = some (c0, .int)) (ht1 : tys[t0]? = some (c1, .int)) (hz : z = n) (hn : n < 2147483648) (hA : A a)
    (hframes : 1 ≤ R.frames) (hlocals : (rest.map fun v => v.category).sum + (nativeFrameWords "java/lang/System" "arraycopy" 5 + 11) ≤ R.locals) (hdg : decode cc pc = .ok (.invokestatic index, 3))
    (kk : ∀ (H1 : Heap) (locs1 : List Loc), va_P G cl (ws.set q0 (a, .inl (c1, n, .inl f))) H1 → H.size ≤ H1.size → (∀ q : Nat, q < H.size → ¬ q = a → H1[q]? = H[q]?) → va_S A H0 H1 locs1 → W p l e R s m args below meth c H1 locs1 cells slots Q (F0 m (pc + 3) ls rest)) : W p l e R s m args below meth c H locs cells slots Q (F0 m pc ls (.int (zI z) :: .int (zI 0) :: .ref a :: .int (zI 0) :: .ref a0 :: rest)) := by
  subst hz
  have e0 : (zI 0).toNatClampNeg = 0 := rfl
  have en : (zI (n : Int)).toNatClampNeg = n := by rw [zI_clamp (by omega)]; omega
  have h0 : ¬ (zI 0) < 0 := by decide
  have hn3 : ¬ (zI (n : Int)) < 0 := by rw [zI_0, zI_lt (by omega) (by omega)]; omega
  have t0' : (zI 0).toInt = 0 := rfl
  have tn : (zI (n : Int)).toInt = n := zI_toInt (by omega)
  intro T hT X
  have hc0 : H[a0]? = some (vp_cell c0 (n, .inl f)) := hP1 q1 _ ha0
  have hc1 : H[a]? = some (vp_cell c1 (n, .inl g)) := hP q0 _ ha1
  obtain ⟨-, k0, hk0, cm0, hkk0⟩ := (hK.2 t1 _ ht0).1 n (fun j => .int (f j))
  obtain ⟨-, k1, hk1, cm1, hkk1⟩ := (hK.2 t0 _ ht1).1 n (fun j => .int (g j))
  obtain ⟨vm', X', step⟩ := X.arraycopy hx hown hlink hnat hstat hini (src := a0) (dst := a) (cs := vp_cell c0 (n, .inl f)) (cd := vp_cell c1 (n, .inl g)) (srcPos := zI 0) (destPos := zI 0) (n := zI (n : Int)) (by rw [hT]; exact hc0) (by rw [hT]; exact hc1)
    (fun _ h => by cases h) (fun _ h => by cases h) (fun h => by cases h) (fun h => by cases h) hk0 hk1 hkk0 hkk1 (by simp [refKind]) h0 h0 hn3
    (by rw [t0', tn]; show ¬ _ > ((arrV c0 n (fun j => .int (f j))).slots.size : Int); rw [arrV_size]; omega)
    (by rw [t0', tn]; show ¬ _ > ((arrV c1 n (fun j => .int (g j))).slots.size : Int); rw [arrV_size]; omega)
    (fun vm₁ _ i hi => by
      rw [en] at hi
      have e : (vp_cell c0 (n, .inl f)).slots.getD ((zI 0).toNatClampNeg + i) .null = .int (f ((zI 0).toNatClampNeg + i)) := by
        show (arrV c0 n (fun j => .int (f j))).slots.getD _ _ = _
        rw [Array.getD_eq_getD_getElem?, arrV_read _ _ (by rw [e0]; omega)]
        rfl
      refine ⟨?_, ?_⟩
      · rw [e]
        rfl
      · rw [e]
        exact trivial)
    (g := F0 m pc ls (.int (zI (n : Int)) :: .int (zI 0) :: .ref a :: .int (zI 0) :: .ref a0 :: rest)) rfl (by rw [hml]) (rest := rest) rfl (by rw [hb]; exact hdg) hframes (by show 2 * 0 + _ + _ ≤ _; omega)
  have e1 : copied (vp_cell c0 (n, .inl f)) (vp_cell c1 (n, .inl g)) (zI 0) (zI 0) (zI (n : Int)) = vp_cell c1 (n, .inl f) := by
    refine (va_copied (fun z => .int z) c0 c1 f g (by rw [e0, en]; omega)).trans ?_
    rw [e0, en]
    show arrV c1 n (fun j => Value.int (va_cpy f g 0 0 n j)) = arrV c1 n (fun j => Value.int (f j))
    exact arrV_congr (fun k hk => by unfold va_cpy; rw [if_pos (by omega)]; exact congrArg (fun j => Value.int (f j)) (by omega))
  rw [e1] at X' step
  have hl : a < H.size := (Array.getElem?_eq_some_iff.mp hc1).1
  have hheap : ((T.setVm vm').setCell a (vp_cell c1 (n, .inl f))).heap = H.setIfInBounds a (vp_cell c1 (n, .inl f)) := by rw [← hT]; rfl
  have oq : ∀ q : Nat, q ≠ a → (H.setIfInBounds a (vp_cell c1 (n, .inl f)))[q]? = H[q]? := fun q hq => by simp [Array.getElem?_setIfInBounds, Ne.symm hq]
  obtain ⟨t, a1, b1⟩ := kk _ _ (hP.set hD ha1 (show (H.setIfInBounds a _)[a]? = some _ by simp [Array.getElem?_setIfInBounds, hl]) oq) (by simp) (fun q _ h => oq q h) ⟨by simp; exact hS.1, fun q g1 g2 => by
      rw [oq q (fun e => g2 (by rw [e]; exact hA))]
      exact hS.2.1 q g1 g2, fun q hq => by
      rcases List.mem_append.mp hq with h | h
      · exact hS.2.2 q h
      · obtain ⟨z, -, hz⟩ := List.mem_map.mp h
        rw [← hz]
        exact hA⟩ _ hheap X'
  exact ⟨t, step t a1, b1⟩
theorem z_copyl (hx : p.tables.exec = Jvm.exec) (hb : c.code = cc) (hml : c.maxLocals = ls.size) {own : String} {index : Nat} (hown : s.vm.findClass own = some m.cls) (hlink : (Cond.methodLink own index arraycopyName).before args s = true) (hnat : (Cond.native arraycopyName).before args s = true) (hstat : (Cond.static arraycopyName).before args s = true) (hini : (Cond.initialized "java/lang/System").before args s = true)
    (hK : va_K G cl tys s) (hP1 : va_P G cl ws1 H) (hP : va_P G cl ws H) (hD : va_D (fun _ => True) ws) (hS : va_S A H0 H locs) (q1 q0 t1 t0 : Nat) {a0 : Nat} {c0 c1 : ClassId} {n : Nat} {f g : Nat → Int64} {z : Int} (ha0 : ws1[q1]? = some (a0, .inl (c0, n, .inr (.inl f)))) (ha1 : ws[q0]? = some (a, .inl (c1, n, .inr (.inl g)))) (ht0 : tys[t1]? = some (c0, .long)) (ht1 : tys[t0]? = some (c1, .long)) (hz : z = n) (hn : n < 2147483648) (hA : A a)
    (hframes : 1 ≤ R.frames) (hlocals : (rest.map fun v => v.category).sum + (nativeFrameWords "java/lang/System" "arraycopy" 5 + 11) ≤ R.locals) (hdg : decode cc pc = .ok (.invokestatic index, 3))
    (kk : ∀ (H1 : Heap) (locs1 : List Loc), va_P G cl (ws.set q0 (a, .inl (c1, n, .inr (.inl f)))) H1 → H.size ≤ H1.size → (∀ q : Nat, q < H.size → ¬ q = a → H1[q]? = H[q]?) → va_S A H0 H1 locs1 → W p l e R s m args below meth c H1 locs1 cells slots Q (F0 m (pc + 3) ls rest)) : W p l e R s m args below meth c H locs cells slots Q (F0 m pc ls (.int (zI z) :: .int (zI 0) :: .ref a :: .int (zI 0) :: .ref a0 :: rest)) := by
  subst hz
  have e0 : (zI 0).toNatClampNeg = 0 := rfl
  have en : (zI (n : Int)).toNatClampNeg = n := by rw [zI_clamp (by omega)]; omega
  have h0 : ¬ (zI 0) < 0 := by decide
  have hn3 : ¬ (zI (n : Int)) < 0 := by rw [zI_0, zI_lt (by omega) (by omega)]; omega
  have t0' : (zI 0).toInt = 0 := rfl
  have tn : (zI (n : Int)).toInt = n := zI_toInt (by omega)
  intro T hT X
  have hc0 : H[a0]? = some (vp_cell c0 (n, .inr (.inl f))) := hP1 q1 _ ha0
  have hc1 : H[a]? = some (vp_cell c1 (n, .inr (.inl g))) := hP q0 _ ha1
  obtain ⟨-, k0, hk0, cm0, hkk0⟩ := (hK.2 t1 _ ht0).1 n (fun j => .long (f j))
  obtain ⟨-, k1, hk1, cm1, hkk1⟩ := (hK.2 t0 _ ht1).1 n (fun j => .long (g j))
  obtain ⟨vm', X', step⟩ := X.arraycopy hx hown hlink hnat hstat hini (src := a0) (dst := a) (cs := vp_cell c0 (n, .inr (.inl f))) (cd := vp_cell c1 (n, .inr (.inl g))) (srcPos := zI 0) (destPos := zI 0) (n := zI (n : Int)) (by rw [hT]; exact hc0) (by rw [hT]; exact hc1)
    (fun _ h => by cases h) (fun _ h => by cases h) (fun h => by cases h) (fun h => by cases h) hk0 hk1 hkk0 hkk1 (by simp [refKind]) h0 h0 hn3
    (by rw [t0', tn]; show ¬ _ > ((arrV c0 n (fun j => .long (f j))).slots.size : Int); rw [arrV_size]; omega)
    (by rw [t0', tn]; show ¬ _ > ((arrV c1 n (fun j => .long (g j))).slots.size : Int); rw [arrV_size]; omega)
    (fun vm₁ _ i hi => by
      rw [en] at hi
      have e : (vp_cell c0 (n, .inr (.inl f))).slots.getD ((zI 0).toNatClampNeg + i) .null = .long (f ((zI 0).toNatClampNeg + i)) := by
        show (arrV c0 n (fun j => .long (f j))).slots.getD _ _ = _
        rw [Array.getD_eq_getD_getElem?, arrV_read _ _ (by rw [e0]; omega)]
        rfl
      refine ⟨?_, ?_⟩
      · rw [e]
        rfl
      · rw [e]
        exact trivial)
    (g := F0 m pc ls (.int (zI (n : Int)) :: .int (zI 0) :: .ref a :: .int (zI 0) :: .ref a0 :: rest)) rfl (by rw [hml]) (rest := rest) rfl (by rw [hb]; exact hdg) hframes (by show 2 * 0 + _ + _ ≤ _; omega)
  have e1 : copied (vp_cell c0 (n, .inr (.inl f))) (vp_cell c1 (n, .inr (.inl g))) (zI 0) (zI 0) (zI (n : Int)) = vp_cell c1 (n, .inr (.inl f)) := by
    refine (va_copied (fun z => .long z) c0 c1 f g (by rw [e0, en]; omega)).trans ?_
    rw [e0, en]
    show arrV c1 n (fun j => Value.long (va_cpy f g 0 0 n j)) = arrV c1 n (fun j => Value.long (f j))
    exact arrV_congr (fun k hk => by unfold va_cpy; rw [if_pos (by omega)]; exact congrArg (fun j => Value.long (f j)) (by omega))
  rw [e1] at X' step
  have hl : a < H.size := (Array.getElem?_eq_some_iff.mp hc1).1
  have hheap : ((T.setVm vm').setCell a (vp_cell c1 (n, .inr (.inl f)))).heap = H.setIfInBounds a (vp_cell c1 (n, .inr (.inl f))) := by rw [← hT]; rfl
  have oq : ∀ q : Nat, q ≠ a → (H.setIfInBounds a (vp_cell c1 (n, .inr (.inl f))))[q]? = H[q]? := fun q hq => by simp [Array.getElem?_setIfInBounds, Ne.symm hq]
  obtain ⟨t, a1, b1⟩ := kk _ _ (hP.set hD ha1 (show (H.setIfInBounds a _)[a]? = some _ by simp [Array.getElem?_setIfInBounds, hl]) oq) (by simp) (fun q _ h => oq q h) ⟨by simp; exact hS.1, fun q g1 g2 => by
      rw [oq q (fun e => g2 (by rw [e]; exact hA))]
      exact hS.2.1 q g1 g2, fun q hq => by
      rcases List.mem_append.mp hq with h | h
      · exact hS.2.2 q h
      · obtain ⟨z, -, hz⟩ := List.mem_map.mp h
        rw [← hz]
        exact hA⟩ _ hheap X'
  exact ⟨t, step t a1, b1⟩
end ZC
def mixP (X Y : Int → Int) : Int → Int := fun j => b2 (decide (X j % 2 = 1)) + 2 * b2 (decide (Y j / 2 % 2 = 1))
theorem mix_L (X Y : Int → Int) : pL (mixP X Y) = pL X := by
  funext p
  exact lB_congr (fun k _ => (b2_bits _ _).1)
theorem mix_H (X Y : Int → Int) : pH (mixP X Y) = pH Y := by
  funext p
  exact lB_congr (fun k _ => (b2_bits _ _).2)
/-- what a State holds behind a copy -/
theorem stW_setL2 {cs : Nat → ClassId} {b : Nat → Nat} {S S2 : SS} : (stW cs b S).set 2 (b 2, .inl (cs 1, 24, .inr (.inl (pL (S2 5))))) = stW cs b (up2 S 5 (mixP (S2 5) (S 5))) := by
  have e : ∀ g, g ≠ 5 → up2 S 5 (mixP (S2 5) (S 5)) g = S g := fun g h => up2_n h
  show _ = stW cs b (up2 S 5 (mixP (S2 5) (S 5)))
  unfold stW
  rw [up2_s, e 0 (by decide), e 1 (by decide), e 2 (by decide), e 3 (by decide), e 4 (by decide), mix_H, mix_L]
  rfl
theorem stW_setH2 {cs : Nat → ClassId} {b : Nat → Nat} {S S2 : SS} : (stW cs b (up2 S 5 (mixP (S2 5) (S 5)))).set 3 (b 3, .inl (cs 1, 24, .inr (.inl (pH (S2 5))))) = stW cs b (up2 S 5 (S2 5)) := by
  have e : ∀ F g, g ≠ 5 → up2 S 5 F g = S g := fun F g h => up2_n h
  show List.set (stW cs b (up2 S 5 (mixP (S2 5) (S 5)))) 3 _ = _
  unfold stW
  rw [up2_s, up2_s, e _ 0 (by decide), e _ 1 (by decide), e _ 2 (by decide), e _ 3 (by decide), e _ 4 (by decide), e _ 0 (by decide), e _ 1 (by decide), e _ 2 (by decide), e _ 3 (by decide), e _ 4 (by decide), mix_L]
  rfl
