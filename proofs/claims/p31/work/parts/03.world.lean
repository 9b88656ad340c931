/-! Groups of cells, contracts' forms, calls. -/
section ZW1
theorem zb_nar {x : Int} (h : x = 0 ∨ x = 1) : narrow .boolean (.int (zI x)) = .int (zI x) := by
  rcases h with rfl | rfl <;> rfl
abbrev tyL (cs : Nat → ClassId) : List (ClassId × FieldType) := [(cs 0, .int), (cs 1, .long), (cs 2, .boolean), (cs 3, .char), (cs 4, .object "SpriteLines$State")]
def nK (U : State) : Prop := va_Nw (.methodLinkNest RX5 63 yX6_contains RX6) U ∧ va_Nw (.methodLinkNest RX5 79 yX6_isNoPlaceInPart RX6) U ∧ va_Nw (.methodLinkNest RX4 17 yX3_init RX6) U ∧ va_Nw (.methodLinkNest RX6 34 yX2_init RX6) U ∧ va_AO "SpriteLines$State" U
def kK (G : va_G) (cs : Nat → ClassId) (U : State) : Prop := va_K G vwCl (tyL cs) U ∧ nK U
theorem kK.warm {G : va_G} {cs : Nat → ClassId} {s U : State} (hW : s.WarmedH U.vm) (h : kK G cs s) : kK G cs U := ⟨va_K.moved hW.alike h.1, va_Nw.warmM hW h.2.1, va_Nw.warmM hW h.2.2.1, va_Nw.warmM hW h.2.2.2.1, va_Nw.warmM hW h.2.2.2.2.1, va_AO.moved hW.alike h.2.2.2.2.2⟩
theorem kK.calling {G : va_G} {cs : Nat → ClassId} {U : State} (h : kK G cs U) (g : JFrame) (mk : MethodId) (a : Array Value) : kK G cs (U.calling g mk a) :=
  have e : U.vm = (U.calling g mk a).vm := rfl
  ⟨va_K.moved (u := U) (U := U.calling g mk a) (Vm.Alike.refl U.vm) h.1, va_Nw.same rfl e h.2.1, va_Nw.same rfl e h.2.2.1, va_Nw.same rfl e h.2.2.2.1, va_Nw.same rfl e h.2.2.2.2.1, va_AO.moved (u := U) (U := U.calling g mk a) (Vm.Alike.refl U.vm) h.2.2.2.2.2⟩
/-- a row of addresses from the k-th on -/
def sh (a : Nat → Nat) (k : Nat) : Nat → Nat := fun j => a (k + j)
def AX (a : Nat → Nat) (lo hi : Nat) : Nat → Prop := fun q => ∃ i, lo ≤ i ∧ i < hi ∧ q = a i
def Inj (a : Nat → Nat) (n : Nat) : Prop := ∀ i j, i < n → j < n → a i = a j → i = j
theorem inj_sh {a : Nat → Nat} {n k w : Nat} (h : Inj a n) (hk : k + w ≤ n) : Inj (sh a k) w := fun i j hi hj e => by
  have := h (k + i) (k + j) (by omega) (by omega) e
  omega
theorem ax_sh {a : Nat → Nat} {k lo hi q : Nat} (h : AX (sh a k) lo hi q) : AX a (k + lo) (k + hi) q := by
  obtain ⟨i, h1, h2, h3⟩ := h
  exact ⟨k + i, by omega, by omega, h3⟩
theorem ax_mono {a : Nat → Nat} {lo hi lo' hi' q : Nat} (h : AX a lo hi q) (h1 : lo' ≤ lo) (h2 : hi ≤ hi') : AX a lo' hi' q := by
  obtain ⟨i, q1, q2, q3⟩ := h
  exact ⟨i, by omega, by omega, q3⟩
/-- cells that stand at b 0, b 1 .. -/
def Ord (b : Nat → Nat) (n : Nat) (ws : va_W) : Prop := ∀ (k : Nat) (q : Nat × va_E), ws[k]? = some q → k < n ∧ q.1 = b k
theorem Ord.D {b : Nat → Nat} {n : Nat} {ws : va_W} (h : Ord b n ws) (hi : Inj b n) : va_D (fun _ => True) ws := by
  refine ⟨fun i j p q hp hq e => ?_, fun _ _ _ => trivial⟩
  obtain ⟨h1, h2⟩ := h i p hp
  obtain ⟨h3, h4⟩ := h j q hq
  exact hi i j h1 h3 (by rw [← h2, ← h4, e])
theorem keepP {G : va_G} {cl : List vw_C} {ws : va_W} {H H1 : Heap} {A : Nat → Prop} (hP : va_P G cl ws H) (hk : ∀ q, q < H.size → ¬ A q → H1[q]? = H[q]?) (hd : ∀ (k : Nat) (q : Nat × va_E), ws[k]? = some q → ¬ A q.1) : va_P G cl ws H1 :=
  hP.kept (fun k q h => hk q.1 (va_at.lt (hP k q h)) (hd k q h))
theorem keepO {G : va_G} {cl : List vw_C} {ws : va_W} {H H1 : Heap} {A : Nat → Prop} {b : Nat → Nat} {n : Nat} (ho : Ord b n ws) (hP : va_P G cl ws H) (hk : ∀ q, q < H.size → ¬ A q → H1[q]? = H[q]?) (hd : ∀ j, j < n → ¬ A (b j)) : va_P G cl ws H1 :=
  keepP hP hk (fun k q h => by
    obtain ⟨h1, h2⟩ := ho k q h
    rw [h2]
    exact hd k h1)
/-- the cells of an array are the same where its row is the same up to its length -/
theorem arrV_congr {cA : ClassId} {n : Nat} {f g : Nat → Value} (h : ∀ k, k < n → f k = g k) : arrV cA n f = arrV cA n g := by
  unfold arrV
  have e : (fun j : Fin n => f j.val) = (fun j : Fin n => g j.val) := funext fun j => h j.val j.isLt
  rw [e]
theorem arr_congr {cA : ClassId} {n : Nat} {f g : Nat → Int32} (h : ∀ k, k < n → f k = g k) : vp_cell cA (n, .inl f) = vp_cell cA (n, .inl g) := by
  rw [vp_cell_i, vp_cell_i]
  exact arrV_congr (fun k hk => by rw [h k hk])
theorem arr_congrL {cA : ClassId} {n : Nat} {f g : Nat → Int64} (h : ∀ k, k < n → f k = g k) : vp_cell cA (n, .inr (.inl f)) = vp_cell cA (n, .inr (.inl g)) := by
  rw [vp_cell_l, vp_cell_l]
  exact arrV_congr (fun k hk => by rw [h k hk])
end ZW1
/-! contracts -/
def QRO (v : Value) : Array Value → State → Outcome → State → Prop := fun _ st o t => o = .returned (some v) ∧ t.heap = st.heap
def QW (post : Value → Heap → Prop) (A : Nat → Prop) : Array Value → State → Outcome → State → Prop := fun _ st o t => (∃ v : Value, o = .returned (some v) ∧ post v t.heap) ∧ va_F A st t
def QV (post : Heap → Prop) (A : Nat → Prop) : Array Value → State → Outcome → State → Prop := fun _ st o t => (o = .returned none ∧ post t.heap) ∧ va_F A st t
abbrev MRO (l : Launch) (y : MethodName) (ws : List Cond) (rm : Room) (G : va_G) (cs : Nat → ClassId) (As : List Value) (Pw : Heap → Prop) (v : Value) : Prop := Met l y ws rm (va_Pc As (fun U => Pw U.heap ∧ kK G cs U)) (QRO v) 0 0 (fun _ => False)
abbrev MW (l : Launch) (y : MethodName) (ws : List Cond) (rm : Room) (G : va_G) (cs : Nat → ClassId) (As : List Value) (Pw : Heap → Prop) (post : Value → Heap → Prop) (A : Nat → Prop) (mc ms : Nat) : Prop := Met l y ws rm (va_Pc As (fun U => Pw U.heap ∧ kK G cs U)) (QW post A) mc ms A
abbrev MV (l : Launch) (y : MethodName) (ws : List Cond) (rm : Room) (G : va_G) (cs : Nat → ClassId) (As : List Value) (Pw : Heap → Prop) (post : Heap → Prop) (A : Nat → Prop) (mc ms : Nat) : Prop := Met l y ws rm (va_Pc As (fun U => Pw U.heap ∧ kK G cs U)) (QV post A) mc ms A
theorem m_intro {l : Launch} {y : MethodName} {ws ws' : List Cond} {rm : Room} {G : va_G} {cs : Nat → ClassId} {As : List Value} {Pw : Heap → Prop} {Qc : Array Value → State → Outcome → State → Prop} {mc ms : Nat} {free : Addr → Prop} {cc : ByteArray} {maxL : Nat} {ret : Option FieldType} (own : String) (hy : plainName y.cls = true) (hw : ws = Cond.code y cc maxL ret :: ws') (ho : y.cls = own) (hen : (lg_sl As).length ≤ maxL)
    (k : ∀ (p : Program) (e : Env) (s : State) (m : MethodId) (below : List Frame) (meth : Method) (c : Code), p.tables.exec = Jvm.exec → c.code = cc → meth.sig.returnType = ret → (∀ w ∈ ws, w.before As.toArray s = true) → s.vm.findClass own = some m.cls → c.maxLocals = maxL → meth.locks = false → meth.name = y.name → Pw s.heap → kK G cs s → ∀ ls : Array Slot, lv_has ls maxL (lv_args 0 As) → W p l e rm s m As.toArray below meth c s.heap [] 0 0 (MQ below Qc As.toArray s mc ms free) (F0 m 0 ls [])) :
    Met l y ws rm (va_Pc As (fun U => Pw U.heap ∧ kK G cs U)) Qc mc ms free := by
  refine Met.ofW (cc := cc) (maxL := maxL) (ret := ret) hy hw ?_
  intro p e s m args below meth c s₁ B hml hv
  obtain ⟨rfl, hP, hK⟩ := hv
  rw [lg_entry_eq]
  exact k p e s m below meth c B.exec B.bytes B.returns (atoms_spec (ws := ws) B.pre) (by rw [← ho]; exact findClass_of_methodNamed B.named) hml B.notSynchronized (name_of_methodNamed B.named B.method).1 hP hK _ (lv_entry As hen)
section ZW2
variable {p : Program} {l : Launch} {e : Env} {R : Room} {s : State} {m : MethodId} {args : Array Value} {below : List Frame} {meth : Method} {c : Code} {H : Heap} {locs : List Loc} {cells slots : Nat} {Q : State → Prop} {cc : ByteArray} {pc : Nat} {ls : Array Slot} {rest st0 : List Value} {a : Array Value} {A A0 A1 free : Nat → Prop} {H0 : Heap} {mc ms : Nat}
theorem z_ro {v : Value} (hr : va_Run p l e R s m args below meth c H locs cells slots 0 0 (F0 m pc ls st0) rest (QRO v a) (fun _ => False)) (k : W p l e R s m args below meth c H locs cells slots Q (F0 m (pc + 3) ls (v :: rest))) : W p l e R s m args below meth c H locs cells slots Q (F0 m pc ls st0) := by
  intro T hT X
  obtain ⟨v', st₀, t, T', L, h0, X', hL, e1, e2, ⟨hv, hh⟩, st⟩ := hr T hT X
  cases hv
  obtain ⟨t2, a1, b1⟩ := k T' (by rw [e1, hh, h0]) (Stand.forget X' (fun q h => (hL q h).elim))
  exact ⟨t2, st t2 a1, b1⟩
theorem z_w {post : Value → Heap → Prop} (hr : va_Run p l e R s m args below meth c H locs cells slots mc ms (F0 m pc ls st0) rest (QW post A1 a) free) (hS : va_S A0 H0 H locs) (hA : ∀ q, A1 q → A0 q) (hf : ∀ q, free q → A0 q)
    (kk : ∀ (v : Value) (H1 : Heap) (locs1 : List Loc), post v H1 → H.size ≤ H1.size → (∀ q : Nat, q < H.size → ¬ A1 q → H1[q]? = H[q]?) → va_S A0 H0 H1 locs1 → W p l e R s m args below meth c H1 locs1 (cells + mc) (slots + ms) Q (F0 m (pc + 3) ls (v :: rest))) : W p l e R s m args below meth c H locs cells slots Q (F0 m pc ls st0) := by
  intro T hT X
  obtain ⟨v, st₀, t, T', L, h0, X', hL, e1, e2, ⟨⟨u, hv, hp⟩, hz, hk⟩, st⟩ := hr T hT X
  cases hv
  rw [h0] at hz hk
  obtain ⟨t2, a1, b1⟩ := kk u T'.heap (locs ++ L) (by rw [e1]; exact hp) (by rw [e1]; exact hz) (fun q h1 h2 => by rw [e1]; exact hk q h1 h2)
    ⟨Nat.le_trans hS.1 (by rw [e1]; exact hz), fun q h1 h2 => by rw [e1, hk q (Nat.lt_of_lt_of_le h1 hS.1) (fun z => h2 (hA q z))]; exact hS.2.1 q h1 h2, fun q hq => by
      rcases List.mem_append.mp hq with h | h
      · exact hS.2.2 q h
      · exact hf q.base (hL q h)⟩ T' rfl X'
  exact ⟨t2, st t2 a1, b1⟩
theorem z_v {post : Heap → Prop} (hr : va_Run p l e R s m args below meth c H locs cells slots mc ms (F0 m pc ls st0) rest (QV post A1 a) free) (hS : va_S A0 H0 H locs) (hA : ∀ q, A1 q → A0 q) (hf : ∀ q, free q → A0 q)
    (kk : ∀ (H1 : Heap) (locs1 : List Loc), post H1 → H.size ≤ H1.size → (∀ q : Nat, q < H.size → ¬ A1 q → H1[q]? = H[q]?) → va_S A0 H0 H1 locs1 → W p l e R s m args below meth c H1 locs1 (cells + mc) (slots + ms) Q (F0 m (pc + 3) ls rest)) : W p l e R s m args below meth c H locs cells slots Q (F0 m pc ls st0) := by
  intro T hT X
  obtain ⟨v, st₀, t, T', L, h0, X', hL, e1, e2, ⟨⟨hv, hp⟩, hz, hk⟩, st⟩ := hr T hT X
  cases hv
  rw [h0] at hz hk
  obtain ⟨t2, a1, b1⟩ := kk T'.heap (locs ++ L) (by rw [e1]; exact hp) (by rw [e1]; exact hz) (fun q h1 h2 => by rw [e1]; exact hk q h1 h2)
    ⟨Nat.le_trans hS.1 (by rw [e1]; exact hz), fun q h1 h2 => by rw [e1, hk q (Nat.lt_of_lt_of_le h1 hS.1) (fun z => h2 (hA q z))]; exact hS.2.1 q h1 h2, fun q hq => by
      rcases List.mem_append.mp hq with h | h
      · exact hS.2.2 q h
      · exact hf q.base (hL q h)⟩ T' rfl X'
  exact ⟨t2, st t2 a1, b1⟩
/-- a call of an object's method -/
theorem zrV {nL index maxL : Nat} {Ts ws ws' : List Cond} {own C : String} {y : MethodName} {bytes : ByteArray} {ret : Option FieldType} {rm : Room} {G : va_G} {cs : Nat → ClassId} {b : Nat} {As : List Value} {Pw : Heap → Prop} {Qc : Array Value → State → Outcome → State → Prop} (S : CallFix p m c cc nL s args Ts own) (hM : Met l y ws rm (va_Pc (.ref b :: As) (fun U => Pw U.heap ∧ kK G cs U)) Qc mc ms free) (hT : GoodIn Ts (wsV own index C y ws)) (hw : ws = Cond.code y bytes maxL ret :: ws')
    (hd : y.cls = C ∧ y.cls ≠ "java/lang/invoke/MethodHandle" ∧ y.cls ≠ "java/lang/invoke/VarHandle" ∧ (parseMethodDescriptor y.desc).map (fun d => d.parameters.length) = some As.length) (hrc : rm.cells = mc) (hrs : rm.slots = ms) (hR : rm.frames + 1 ≤ R.frames ∧ 8 + (maxL + 11) + rm.locals ≤ R.locals) (hPw : Pw H) (hK : kK G cs s)
    (hrecv : ∃ cell : Cell, H[b]? = some cell ∧ cell.vm.isStatics = false ∧ s.vm.findClass C = some cell.cls) (hsize : ls.size = nL) (hst : st0 = As.reverse ++ .ref b :: rest) (hroom : (rest.map fun v => v.category).sum ≤ 8) (hdg : decode cc pc = .ok (.invokevirtual index, 3)) (hf : cells + mc ≤ R.cells ∧ slots + ms ≤ R.slots) :
    va_Run p l e R s m args below meth c H locs cells slots mc ms (F0 m pc ls st0) rest (Qc (Value.ref b :: As).toArray) free :=
  va_runV S hM (cwV As.length S.2.2.2.2 hT hw hrc hrs hd hR) ⟨fun a U g mk q => ⟨q.1, q.2.1, q.2.2.calling g mk a⟩, hrecv, fun U hU hW => ⟨rfl, by rw [hU]; exact hPw, hK.warm hW⟩⟩ rfl rfl hsize hst (lv_room (pc := pc) (ls := ls) (m := m) (rest := st0) hroom) hdg hf
/-- a call of the class's own static method -/
theorem zrS {nL index maxL : Nat} {Ts ws ws' : List Cond} {own : String} {y : MethodName} {bytes : ByteArray} {ret : Option FieldType} {rm : Room} {G : va_G} {cs : Nat → ClassId} {As : List Value} {Pw : Heap → Prop} {Qc : Array Value → State → Outcome → State → Prop} (S : CallFix p m c cc nL s args Ts own) (hM : Met l y ws rm (va_Pc As (fun U => Pw U.heap ∧ kK G cs U)) Qc mc ms free) (hT : GoodIn Ts (wsS own index y ws)) (hw : ws = Cond.code y bytes maxL ret :: ws')
    (hd : y.cls = own ∧ y.cls ≠ "java/lang/invoke/MethodHandle" ∧ y.cls ≠ "java/lang/invoke/VarHandle" ∧ (parseMethodDescriptor y.desc).map (fun d => d.parameters.length) = some As.length) (hrc : rm.cells = mc) (hrs : rm.slots = ms) (hR : rm.frames + 1 ≤ R.frames ∧ 8 + (maxL + 11) + rm.locals ≤ R.locals) (hPw : Pw H) (hK : kK G cs s)
    (hsize : ls.size = nL) (hst : st0 = As.reverse ++ rest) (hroom : (rest.map fun v => v.category).sum ≤ 8) (hdg : decode cc pc = .ok (.invokestatic index, 3)) (hf : cells + mc ≤ R.cells ∧ slots + ms ≤ R.slots) :
    va_Run p l e R s m args below meth c H locs cells slots mc ms (F0 m pc ls st0) rest (Qc As.toArray) free :=
  va_runS S hM (cwS As.length S.2.2.2.2 hT hw hrc hrs hd hR) ⟨fun a U g mk q => ⟨q.1, q.2.1, q.2.2.calling g mk a⟩, fun U hU hW => ⟨rfl, by rw [hU]; exact hPw, hK.warm hW⟩⟩ rfl rfl hsize hst (lv_room (pc := pc) (ls := ls) (m := m) (rest := st0) hroom) hdg hf
/-- a call of a nest mate's static method -/
theorem zrSN {nL index maxL : Nat} {Ts ws ws' : List Cond} {own host : String} {y : MethodName} {bytes : ByteArray} {ret : Option FieldType} {rm : Room} {G : va_G} {cs : Nat → ClassId} {As : List Value} {Pw : Heap → Prop} {Qc : Array Value → State → Outcome → State → Prop} (S : CallFix p m c cc nL s args Ts own) (hM : Met l y ws rm (va_Pc As (fun U => Pw U.heap ∧ kK G cs U)) Qc mc ms free) (hT : GoodIn Ts ws) (hw : ws = Cond.code y bytes maxL ret :: ws') (hl : va_Nw (.methodLinkNest own index y host) s) (hini : (Cond.initialized y.cls).before args s = true) (hsta : (Cond.static y).before args s = true)
    (hd : y.cls ≠ "java/lang/invoke/MethodHandle" ∧ y.cls ≠ "java/lang/invoke/VarHandle" ∧ (parseMethodDescriptor y.desc).map (fun d => d.parameters.length) = some As.length) (hrc : rm.cells = mc) (hrs : rm.slots = ms) (hR : rm.frames + 1 ≤ R.frames ∧ 8 + (maxL + 11) + rm.locals ≤ R.locals) (hPw : Pw H) (hK : kK G cs s)
    (hsize : ls.size = nL) (hst : st0 = As.reverse ++ rest) (hroom : (rest.map fun v => v.category).sum ≤ 8) (hdg : decode cc pc = .ok (.invokestatic index, 3)) (hf : cells + mc ≤ R.cells ∧ slots + ms ≤ R.slots) :
    va_Run p l e R s m args below meth c H locs cells slots mc ms (F0 m pc ls st0) rest (Qc As.toArray) free :=
  va_runSN S hM ⟨va_cnB As.length S.2.2.2.2 hT hw hrc hrs hl hini hd hR, hsta, trivial⟩ ⟨fun a U g mk q => ⟨q.1, q.2.1, q.2.2.calling g mk a⟩, fun U hU hW => ⟨rfl, by rw [hU]; exact hPw, hK.warm hW⟩⟩ rfl rfl hsize hst (lv_room (pc := pc) (ls := ls) (m := m) (rest := st0) hroom) hdg hf
-- ends
theorem ro_iret (hx : p.tables.exec = Jvm.exec) (hb : c.code = cc) (hr : meth.sig.returnType = some .int) (hlk : meth.locks = false) {x : Int} {v : Value} (hdg : decode cc pc = .ok (.ireturn, 1)) (hv : Value.int (zI x) = v) : W p l e R s m args below meth c s.heap [] 0 0 (MQ below (QRO v) args s 0 0 (fun _ => False)) (F0 m pc ls [.int (zI x)]) :=
  W.iret hx hb hr (fun t ht _ => ⟨by rw [hv], ht⟩) (fun _ h => absurd h List.not_mem_nil) hdg hlk
theorem ro_zret (hx : p.tables.exec = Jvm.exec) (hb : c.code = cc) (hr : meth.sig.returnType = some .boolean) (hlk : meth.locks = false) {x : Int} {v : Value} (hdg : decode cc pc = .ok (.ireturn, 1)) (h01 : x = 0 ∨ x = 1) (hv : Value.int (zI x) = v) : W p l e R s m args below meth c s.heap [] 0 0 (MQ below (QRO v) args s 0 0 (fun _ => False)) (F0 m pc ls [.int (zI x)]) :=
  W.zret hx hb hr (zb_nar h01) (fun t ht _ => ⟨by rw [hv], ht⟩) (fun _ h => absurd h List.not_mem_nil) hdg hlk
theorem ro_lret (hx : p.tables.exec = Jvm.exec) (hb : c.code = cc) (hr : meth.sig.returnType = some .long) (hlk : meth.locks = false) {x : Int64} {v : Value} (hdg : decode cc pc = .ok (.lreturn, 1)) (hv : Value.long x = v) : W p l e R s m args below meth c s.heap [] 0 0 (MQ below (QRO v) args s 0 0 (fun _ => False)) (F0 m pc ls [.long x]) :=
  W.lret hx hb hr (fun t ht _ => ⟨by rw [hv], ht⟩) (fun _ h => absurd h List.not_mem_nil) hdg hlk
theorem ro_fret (hx : p.tables.exec = Jvm.exec) (hb : c.code = cc) (hr : meth.sig.returnType = some .float) (hlk : meth.locks = false) {x : UInt32} {v : Value} (hdg : decode cc pc = .ok (.freturn, 1)) (hv : Value.float x = v) : W p l e R s m args below meth c s.heap [] 0 0 (MQ below (QRO v) args s 0 0 (fun _ => False)) (F0 m pc ls [.float x]) :=
  W.fret hx hb hr (fun t ht _ => ⟨by rw [hv], ht⟩) (fun _ h => absurd h List.not_mem_nil) hdg hlk
theorem ro_aret (hx : p.tables.exec = Jvm.exec) (hb : c.code = cc) {rt : FieldType} (hr : meth.sig.returnType = some rt) (hrt : (∃ n, rt = .object n) ∨ ∃ t, rt = .array t) (hlk : meth.locks = false) {q : Nat} {v : Value} (hdg : decode cc pc = .ok (.areturn, 1)) (hv : Value.ref q = v) : W p l e R s m args below meth c s.heap [] 0 0 (MQ below (QRO v) args s 0 0 (fun _ => False)) (F0 m pc ls [.ref q]) :=
  W.aret hx hb hr hrt (Or.inr ⟨q, rfl⟩) (fun t ht _ => ⟨by rw [hv], ht⟩) (fun _ h => absurd h List.not_mem_nil) hdg hlk
theorem w_iret (hx : p.tables.exec = Jvm.exec) (hb : c.code = cc) (hr : meth.sig.returnType = some .int) (hlk : meth.locks = false) {x : Int} {post : Value → Heap → Prop} (hdg : decode cc pc = .ok (.ireturn, 1)) (hS : va_S A s.heap H locs) (hp : post (.int (zI x)) H) : W p l e R s m args below meth c H locs cells slots (MQ below (QW post A) args s cells slots A) (F0 m pc ls [.int (zI x)]) :=
  W.iret hx hb hr (fun t ht _ => ⟨⟨_, rfl, by rw [ht]; exact hp⟩, hS.F ht⟩) hS.2.2 hdg hlk
theorem w_zret (hx : p.tables.exec = Jvm.exec) (hb : c.code = cc) (hr : meth.sig.returnType = some .boolean) (hlk : meth.locks = false) {x : Int} {post : Value → Heap → Prop} (hdg : decode cc pc = .ok (.ireturn, 1)) (h01 : x = 0 ∨ x = 1) (hS : va_S A s.heap H locs) (hp : post (.int (zI x)) H) : W p l e R s m args below meth c H locs cells slots (MQ below (QW post A) args s cells slots A) (F0 m pc ls [.int (zI x)]) :=
  W.zret hx hb hr (zb_nar h01) (fun t ht _ => ⟨⟨_, rfl, by rw [ht]; exact hp⟩, hS.F ht⟩) hS.2.2 hdg hlk
theorem w_fret (hx : p.tables.exec = Jvm.exec) (hb : c.code = cc) (hr : meth.sig.returnType = some .float) (hlk : meth.locks = false) {x : UInt32} {post : Value → Heap → Prop} (hdg : decode cc pc = .ok (.freturn, 1)) (hS : va_S A s.heap H locs) (hp : post (.float x) H) : W p l e R s m args below meth c H locs cells slots (MQ below (QW post A) args s cells slots A) (F0 m pc ls [.float x]) :=
  W.fret hx hb hr (fun t ht _ => ⟨⟨_, rfl, by rw [ht]; exact hp⟩, hS.F ht⟩) hS.2.2 hdg hlk
theorem v_ret (hx : p.tables.exec = Jvm.exec) (hb : c.code = cc) (hr : meth.sig.returnType = none) (hlk : meth.locks = false) {post : Heap → Prop} (hdg : decode cc pc = .ok (.return_, 1)) (hS : va_S A s.heap H locs) (hp : post H) : W p l e R s m args below meth c H locs cells slots (MQ below (QV post A) args s cells slots A) (F0 m pc ls []) :=
  W.vret hx hb hr (fun t ht _ => ⟨⟨rfl, by rw [ht]; exact hp⟩, hS.F ht⟩) hS.2.2 hdg hlk
-- loops
theorem z_loop {σ : Type} {nL : Nat} (lv : σ → List (Nat × Value)) (I : σ → Prop) (μ : σ → Nat) (x : σ) (hx : I x) (hl : lv_has ls nL (lv x))
    (step : ∀ x, I x → (∀ x', I x' → μ x' < μ x → ∀ ls', lv_has ls' nL (lv x') → W p l e R s m args below meth c H locs cells slots Q (F0 m pc ls' rest)) → ∀ ls', lv_has ls' nL (lv x) → W p l e R s m args below meth c H locs cells slots Q (F0 m pc ls' rest)) : W p l e R s m args below meth c H locs cells slots Q (F0 m pc ls rest) := by
  have key : ∀ n x, μ x < n → I x → ∀ ls', lv_has ls' nL (lv x) → W p l e R s m args below meth c H locs cells slots Q (F0 m pc ls' rest) := by
    intro n
    induction n with
    | zero => intro x h; exact absurd h (Nat.not_lt_zero _)
    | succ n ih => intro x h hI; exact step x hI (fun x' hI' hm => ih x' (by omega) hI')
  exact key (μ x + 1) x (Nat.lt_succ_self _) hx ls hl
theorem z_loopH {σ : Type} {nL : Nat} (lv : σ → List (Nat × Value)) (I : σ → Heap → Prop) (μ : σ → Nat) (x : σ) (hx : I x H) (hS : va_S A H0 H locs) (hl : lv_has ls nL (lv x))
    (step : ∀ x H locs, I x H → va_S A H0 H locs → (∀ x' H' locs', I x' H' → va_S A H0 H' locs' → μ x' < μ x → ∀ ls', lv_has ls' nL (lv x') → W p l e R s m args below meth c H' locs' cells slots Q (F0 m pc ls' rest)) → ∀ ls', lv_has ls' nL (lv x) → W p l e R s m args below meth c H locs cells slots Q (F0 m pc ls' rest)) : W p l e R s m args below meth c H locs cells slots Q (F0 m pc ls rest) := by
  have key : ∀ n x H locs, μ x < n → I x H → va_S A H0 H locs → ∀ ls', lv_has ls' nL (lv x) → W p l e R s m args below meth c H locs cells slots Q (F0 m pc ls' rest) := by
    intro n
    induction n with
    | zero => intro x H locs h; exact absurd h (Nat.not_lt_zero _)
    | succ n ih => intro x H locs h hI hS; exact step x H locs hI hS (fun x' H' locs' hI' hS' hm => ih x' H' locs' (by omega) hI' hS')
  exact key (μ x + 1) x H locs (Nat.lt_succ_self _) hx hS ls hl
end ZW2
section ZW3
variable {p : Program} {l : Launch} {e : Env} {R : Room} {s : State} {m : MethodId} {args : Array Value} {below : List Frame} {meth : Method} {c : Code} {H : Heap} {locs : List Loc} {cells slots : Nat} {Q : State → Prop} {cc : ByteArray} {pc : Nat} {ls : Array Slot} {rest : List Value} {A : Nat → Prop} {H0 : Heap} {G : va_G} {cl : List vw_C} {ws : va_W} {a : Nat} {tys : List (ClassId × FieldType)}
theorem z_iald (hx : p.tables.exec = Jvm.exec) (hb : c.code = cc) (hK : va_K G cl tys s) (hP : va_P G cl ws H) (q0 t0 : Nat) {cA : ClassId} {n : Nat} {F : Int → Int} (ha : ws[q0]? = some (a, .inl (cA, n, .inl (aI F)))) (ht : tys[t0]? = some (cA, .int)) {i : Int} (hi : 0 ≤ i ∧ i < n) (hn : n < 2147483648) (hdg : decode cc pc = .ok (.iaload, 1))
    (kk : W p l e R s m args below meth c H locs cells slots Q (F0 m (pc + 1) ls (.int (zI (F i)) :: rest))) : W p l e R s m args below meth c H locs cells slots Q (F0 m pc ls (.int (zI i) :: .ref a :: rest)) :=
  va_iald hx hb hK hP q0 t0 ha ht (zI_in hi hn) hdg (by rw [aI_at (by omega)]; exact kk)
theorem z_zald (hx : p.tables.exec = Jvm.exec) (hb : c.code = cc) (hK : va_K G cl tys s) (hP : va_P G cl ws H) (q0 t0 : Nat) {cA : ClassId} {n : Nat} {F : Int → Int} (ha : ws[q0]? = some (a, .inl (cA, n, .inl (aI F)))) (ht : tys[t0]? = some (cA, .boolean)) {i : Int} (hi : 0 ≤ i ∧ i < n) (hn : n < 2147483648) (hdg : decode cc pc = .ok (.baload, 1))
    (kk : W p l e R s m args below meth c H locs cells slots Q (F0 m (pc + 1) ls (.int (zI (F i)) :: rest))) : W p l e R s m args below meth c H locs cells slots Q (F0 m pc ls (.int (zI i) :: .ref a :: rest)) :=
  va_zald hx hb hK hP q0 t0 ha ht (zI_in hi hn) hdg (by rw [aI_at (by omega)]; exact kk)
theorem z_cald (hx : p.tables.exec = Jvm.exec) (hb : c.code = cc) (hK : va_K G cl tys s) (hP : va_P G cl ws H) (q0 t0 : Nat) {cA : ClassId} {n : Nat} {F : Int → Int} (ha : ws[q0]? = some (a, .inl (cA, n, .inl (aI F)))) (ht : tys[t0]? = some (cA, .char)) {i : Int} (hi : 0 ≤ i ∧ i < n) (hn : n < 2147483648) (hdg : decode cc pc = .ok (.caload, 1))
    (kk : W p l e R s m args below meth c H locs cells slots Q (F0 m (pc + 1) ls (.int (zI (F i)) :: rest))) : W p l e R s m args below meth c H locs cells slots Q (F0 m pc ls (.int (zI i) :: .ref a :: rest)) :=
  va_cald hx hb hK hP q0 t0 ha ht (zI_in hi hn) hdg (by rw [aI_at (by omega)]; exact kk)
theorem z_alen (hx : p.tables.exec = Jvm.exec) (hb : c.code = cc) (hK : va_K G cl tys s) (hP : va_P G cl ws H) (q0 t0 : Nat) {cA : ClassId} {x : vp_A} (ha : ws[q0]? = some (a, .inl (cA, x))) {ty : FieldType} (ht : tys[t0]? = some (cA, ty)) (hdg : decode cc pc = .ok (.arraylength, 1))
    (kk : W p l e R s m args below meth c H locs cells slots Q (F0 m (pc + 1) ls (.int (zI (x.1 : Int)) :: rest))) : W p l e R s m args below meth c H locs cells slots Q (F0 m pc ls (.ref a :: rest)) :=
  va_alen hx hb hK hP q0 t0 ha ht (zI_nat x.1) hdg kk
theorem z_iast (hx : p.tables.exec = Jvm.exec) (hb : c.code = cc) (hK : va_K G cl tys s) (hP : va_P G cl ws H) (hD : va_D (fun _ => True) ws) (hS : va_S A H0 H locs) (q0 t0 : Nat) {cA : ClassId} {n : Nat} {F : Int → Int} (ha : ws[q0]? = some (a, .inl (cA, n, .inl (aI F)))) (ht : tys[t0]? = some (cA, .int)) {i x : Int} (hi : 0 ≤ i ∧ i < n) (hn : n < 2147483648) (hA : A a) (hdg : decode cc pc = .ok (.iastore, 1))
    (kk : ∀ (H1 : Heap) (locs1 : List Loc), va_P G cl (ws.set q0 (a, .inl (cA, n, .inl (aI (updZ F i x))))) H1 → H.size ≤ H1.size → (∀ q : Nat, q < H.size → ¬ q = a → H1[q]? = H[q]?) → va_S A H0 H1 locs1 → W p l e R s m args below meth c H1 locs1 cells slots Q (F0 m (pc + 1) ls rest)) : W p l e R s m args below meth c H locs cells slots Q (F0 m pc ls (.int (zI x) :: .int (zI i) :: .ref a :: rest)) := by
  have hin := zI_in hi hn
  refine W.iast hx hb (hP q0 _ ha) ((hK.2 t0 _ ht).1 n (fun j => .int (aI F j))) (fun q => by cases q) (by show ¬ (zI i < 0 ∨ (arrV _ _ _).slots.size ≤ _); rw [arrV_size]; exact hin) rfl rfl hdg fun H1 e z oq => ?_
  refine kk H1 _ (hP.set hD ha ?_ oq) (Nat.le_of_eq z.symm) (fun q _ h => oq q h) (hS.put z oq hA)
  show H1[a]? = some (vp_cell _ _)
  rw [e]
  rw [vp_cell_i, vp_cell_i, arrV_store, ← aI_upd (by omega)]
  congr 2
  funext q
  by_cases hq : q = (zI i).toNatClampNeg
  · subst hq
    simp [updV, upd]
  · simp [updV, upd, hq]
theorem z_zast (hx : p.tables.exec = Jvm.exec) (hb : c.code = cc) (hK : va_K G cl tys s) (hP : va_P G cl ws H) (hD : va_D (fun _ => True) ws) (hS : va_S A H0 H locs) (q0 t0 : Nat) {cA : ClassId} {n : Nat} {F : Int → Int} (ha : ws[q0]? = some (a, .inl (cA, n, .inl (aI F)))) (ht : tys[t0]? = some (cA, .boolean)) {i x : Int} (hi : 0 ≤ i ∧ i < n) (hn : n < 2147483648) (h01 : x = 0 ∨ x = 1) (hA : A a) (hdg : decode cc pc = .ok (.bastore, 1))
    (kk : ∀ (H1 : Heap) (locs1 : List Loc), va_P G cl (ws.set q0 (a, .inl (cA, n, .inl (aI (updZ F i x))))) H1 → H.size ≤ H1.size → (∀ q : Nat, q < H.size → ¬ q = a → H1[q]? = H[q]?) → va_S A H0 H1 locs1 → W p l e R s m args below meth c H1 locs1 cells slots Q (F0 m (pc + 1) ls rest)) : W p l e R s m args below meth c H locs cells slots Q (F0 m pc ls (.int (zI x) :: .int (zI i) :: .ref a :: rest)) := by
  have hin := zI_in hi hn
  have hnar := zb_nar h01
  refine W.zast hx hb (hP q0 _ ha) ((hK.2 t0 _ ht).1 n (fun j => .int (aI F j))) (fun q => by cases q) (by show ¬ (zI i < 0 ∨ (arrV _ _ _).slots.size ≤ _); rw [arrV_size]; exact hin) rfl rfl hdg fun H1 e z oq => ?_
  refine kk H1 _ (hP.set hD ha ?_ oq) (Nat.le_of_eq z.symm) (fun q _ h => oq q h) (hS.put z oq hA)
  show H1[a]? = some (vp_cell _ _)
  rw [e]
  rw [vp_cell_i, vp_cell_i, arrV_store, ← aI_upd (by omega)]
  congr 2
  funext q
  by_cases hq : q = (zI i).toNatClampNeg
  · subst hq
    simp [updV, upd, hnar]
  · simp [updV, upd, hq]
theorem z_cast (hx : p.tables.exec = Jvm.exec) (hb : c.code = cc) (hK : va_K G cl tys s) (hP : va_P G cl ws H) (hD : va_D (fun _ => True) ws) (hS : va_S A H0 H locs) (q0 t0 : Nat) {cA : ClassId} {n : Nat} {F : Int → Int} (ha : ws[q0]? = some (a, .inl (cA, n, .inl (aI F)))) (ht : tys[t0]? = some (cA, .char)) {i x : Int} (hi : 0 ≤ i ∧ i < n) (hn : n < 2147483648) (hnar : narrow .char (.int (zI x)) = .int (zI x)) (hA : A a) (hdg : decode cc pc = .ok (.castore, 1))
    (kk : ∀ (H1 : Heap) (locs1 : List Loc), va_P G cl (ws.set q0 (a, .inl (cA, n, .inl (aI (updZ F i x))))) H1 → H.size ≤ H1.size → (∀ q : Nat, q < H.size → ¬ q = a → H1[q]? = H[q]?) → va_S A H0 H1 locs1 → W p l e R s m args below meth c H1 locs1 cells slots Q (F0 m (pc + 1) ls rest)) : W p l e R s m args below meth c H locs cells slots Q (F0 m pc ls (.int (zI x) :: .int (zI i) :: .ref a :: rest)) := by
  have hin := zI_in hi hn
  refine W.cast hx hb (hP q0 _ ha) ((hK.2 t0 _ ht).1 n (fun j => .int (aI F j))) (fun q => by cases q) (by show ¬ (zI i < 0 ∨ (arrV _ _ _).slots.size ≤ _); rw [arrV_size]; exact hin) rfl rfl hdg fun H1 e z oq => ?_
  refine kk H1 _ (hP.set hD ha ?_ oq) (Nat.le_of_eq z.symm) (fun q _ h => oq q h) (hS.put z oq hA)
  show H1[a]? = some (vp_cell _ _)
  rw [e]
  rw [vp_cell_i, vp_cell_i, arrV_store, ← aI_upd (by omega)]
  congr 2
  funext q
  by_cases hq : q = (zI i).toNatClampNeg
  · subst hq
    simp [updV, upd, hnar]
  · simp [updV, upd, hq]
theorem z_last (hx : p.tables.exec = Jvm.exec) (hb : c.code = cc) (hK : va_K G cl tys s) (hP : va_P G cl ws H) (hD : va_D (fun _ => True) ws) (hS : va_S A H0 H locs) (q0 t0 : Nat) {cA : ClassId} {n : Nat} {f : Nat → Int64} (ha : ws[q0]? = some (a, .inl (cA, n, .inr (.inl f)))) (ht : tys[t0]? = some (cA, .long)) {i : Int} {x : Int64} (hi : 0 ≤ i ∧ i < n) (hn : n < 2147483648) (hA : A a) (hdg : decode cc pc = .ok (.lastore, 1))
    (kk : ∀ (H1 : Heap) (locs1 : List Loc), va_P G cl (ws.set q0 (a, .inl (cA, n, .inr (.inl (vp_updL f i.toNat x))))) H1 → H.size ≤ H1.size → (∀ q : Nat, q < H.size → ¬ q = a → H1[q]? = H[q]?) → va_S A H0 H1 locs1 → W p l e R s m args below meth c H1 locs1 cells slots Q (F0 m (pc + 1) ls rest)) : W p l e R s m args below meth c H locs cells slots Q (F0 m pc ls (.long x :: .int (zI i) :: .ref a :: rest)) := by
  have hin := zI_in hi hn
  refine W.last hx hb (hP q0 _ ha) ((hK.2 t0 _ ht).1 n (fun j => .long (f j))) (fun q => by cases q) (by show ¬ (zI i < 0 ∨ (arrV _ _ _).slots.size ≤ _); rw [arrV_size]; exact hin) rfl rfl hdg fun H1 e z oq => ?_
  refine kk H1 _ (hP.set hD ha ?_ oq) (Nat.le_of_eq z.symm) (fun q _ h => oq q h) (hS.put z oq hA)
  show H1[a]? = some (vp_cell _ _)
  rw [e]
  rw [vp_cell_l, vp_cell_l, arrV_store, zI_clamp (by omega)]
  congr 2
  funext q
  by_cases hq : q = i.toNat
  · subst hq
    simp [updV, vp_updL]
  · simp [updV, vp_updL, hq]
theorem z_put (hx : p.tables.exec = Jvm.exec) (hb : c.code = cc) {own ref C : String} {T : u_T} {N ci index : Nat} {Ts : List Cond} (hts : ∀ w ∈ Ts, w.before args s = true) (hin : ∀ w ∈ u_ws C T N, w ∈ Ts) (ty0 : Nat → FieldType) (hty : ∀ k, k < N → parseFieldDescriptor (T k).2.2.1 = some (ty0 k)) (hnm : ∀ a, a < N → ∀ b, b < N → a ≠ b → (T a).2.1 ≠ (T b).2.1) (hown : s.vm.findClass own = some m.cls) (hK : va_K G cl tys s) (hP : va_P G cl ws H) (hD : va_D (fun _ => True) ws) (hS0 : va_S A H0 H locs) (q0 : Nat) {fs : List Value} (he : ws[q0]? = some (a, .inr (ci, fs))) (hc : cl[ci]? = some (C, T, N)) (k : Nat) (hk : k < N) (hlink : (Cond.fieldLink own index ref (T k).2.1 (T k).2.2.1).before args s = true) (hsame : ∀ x, s.fieldFound? (T k).1 (T k).2.1 (T k).2.2.1 = some x → s.fieldFound? ref (T k).2.1 (T k).2.2.1 = some x) (hfin : (T k).2.2.2 = false) {ty : FieldType} {v : Value} (hd : parseFieldDescriptor (T k).2.2.1 = some ty) (hn : narrow ty v = v) (hfit : fits ty v = true) (hl : k < fs.length) (hA : A a)
    (hdg : decode cc pc = .ok (.putfield index, 3)) (kk : ∀ (H1 : Heap) (locs1 : List Loc), va_P G cl (ws.set q0 (a, .inr (ci, fs.set k v))) H1 → H.size ≤ H1.size → (∀ q : Nat, q < H.size → ¬ q = a → H1[q]? = H[q]?) → va_S A H0 H1 locs1 → W p l e R s m args below meth c H1 locs1 cells slots Q (F0 m (pc + 3) ls rest)) : W p l e R s m args below meth c H locs cells slots Q (F0 m pc ls (v :: .ref a :: rest)) := by
  have hap := va_apart (own := own) hts hin ty0 hty hnm hK hc
  obtain ⟨r, h1, cell, q1, q2, q3, q4⟩ := hP q0 _ he
  have hr : r = (C, T, N) := Option.some.inj (h1.symm.trans hc)
  subst hr
  obtain ⟨hS, hfc, kC, hkC, hkind⟩ := hK.1 ci _ hc
  obtain ⟨cf, kf, fi, f, hi, hsl⟩ := hS k hk
  have hlay := hts _ (hin _ (u_in_lay hk))
  unfold u_lay at hlay
  rw [if_neg (by rw [hfin]; decide)] at hlay
  have hst := (u_facts hfc hkC (u_lays hts hin hk) hi).1
  have h6 := u_store hfc hkC hkind hlay hi hd hn hfit
  refine W.putK hx hb (f := f) ⟨hown, hlink, ⟨_, _, _, hsame _ hi⟩, hst⟩ (by rw [q2]; exact h6) q1 q3 (by rw [hsl]; exact k2_hasslot (q4 k hk)) rfl rfl hdg fun H' e1 e2 e3 => ?_
  rw [hsl] at e1 ⊢
  exact kk H' _ (hP.set hD he ⟨_, hc, t_OB.to (V := updV (vp_V fs) k v) ⟨_, e1, q2, q3, t_set q4 hap hk v⟩ (fun j _ => vp_updV_set hl v j)⟩ e3) (Nat.le_of_eq e2.symm) (fun q _ h => e3 q h) (hS0.put e2 e3 hA)
end ZW3
