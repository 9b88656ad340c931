/-! Rows over rows of bits; facts that the Sheet needs. -/
section MI
variable {p : Program} {l : Launch} {e : Env} {R : Room} {s : State} {m : MethodId} {args : Array Value} {below : List Frame} {meth : Method} {c : Code} {H : Heap} {locs : List Loc} {cells slots : Nat} {Q : State → Prop} {cc : ByteArray} {pc : Nat} {ls : Array Slot} {rest : List Value}
theorem z_land (hx : p.tables.exec = Jvm.exec) (hb : c.code = cc) {f g : Nat → Bool} (hdg : decode cc pc = .ok (.land, 1)) (k : W p l e R s m args below meth c H locs cells slots Q (F0 m (pc + 1) ls (.long (lB (fun k => f k && g k)) :: rest))) : W p l e R s m args below meth c H locs cells slots Q (F0 m pc ls (.long (lB g) :: .long (lB f) :: rest)) := lv_land hx hb hdg (by rw [lB_and]; exact k)
theorem z_lor (hx : p.tables.exec = Jvm.exec) (hb : c.code = cc) {f g : Nat → Bool} (hdg : decode cc pc = .ok (.lor, 1)) (k : W p l e R s m args below meth c H locs cells slots Q (F0 m (pc + 1) ls (.long (lB (fun k => f k || g k)) :: rest))) : W p l e R s m args below meth c H locs cells slots Q (F0 m pc ls (.long (lB g) :: .long (lB f) :: rest)) := lv_lor hx hb hdg (by rw [lB_or]; exact k)
theorem z_lnot (hx : p.tables.exec = Jvm.exec) (hb : c.code = cc) {f : Nat → Bool} (hdg : decode cc pc = .ok (.lxor, 1)) (k : W p l e R s m args below meth c H locs cells slots Q (F0 m (pc + 1) ls (.long (lB (fun k => !f k)) :: rest))) : W p l e R s m args below meth c H locs cells slots Q (F0 m pc ls (.long (-1) :: .long (lB f) :: rest)) := lv_lxor hx hb hdg (by rw [lB_not]; exact k)
theorem z_iandB (hx : p.tables.exec = Jvm.exec) (hb : c.code = cc) {f g : Nat → Bool} (hdg : decode cc pc = .ok (.iand, 1)) (k : W p l e R s m args below meth c H locs cells slots Q (F0 m (pc + 1) ls (.int (iB (fun k => f k && g k)) :: rest))) : W p l e R s m args below meth c H locs cells slots Q (F0 m pc ls (.int (iB g) :: .int (iB f) :: rest)) := lv_iand hx hb hdg (by rw [iB_and]; exact k)
theorem z_iorB (hx : p.tables.exec = Jvm.exec) (hb : c.code = cc) {f g : Nat → Bool} (hdg : decode cc pc = .ok (.ior, 1)) (k : W p l e R s m args below meth c H locs cells slots Q (F0 m (pc + 1) ls (.int (iB (fun k => f k || g k)) :: rest))) : W p l e R s m args below meth c H locs cells slots Q (F0 m pc ls (.int (iB g) :: .int (iB f) :: rest)) := lv_ior hx hb hdg (by rw [iB_or]; exact k)
theorem z_lushr (hx : p.tables.exec = Jvm.exec) (hb : c.code = cc) {f : Nat → Bool} {t : Int} (hdg : decode cc pc = .ok (.lushr, 1)) (ht : 0 ≤ t ∧ t < 64) (k : W p l e R s m args below meth c H locs cells slots Q (F0 m (pc + 1) ls (.long (lB (fun k => decide (k + t.toNat < 64) && f (k + t.toNat))) :: rest))) : W p l e R s m args below meth c H locs cells slots Q (F0 m pc ls (.int (zI t) :: .long (lB f) :: rest)) := lv_lushr hx hb hdg (lB_ushr f ht) k
theorem z_lshl (hx : p.tables.exec = Jvm.exec) (hb : c.code = cc) {f : Nat → Bool} {t : Int} (hdg : decode cc pc = .ok (.lshl, 1)) (ht : 0 ≤ t ∧ t < 64) (k : W p l e R s m args below meth c H locs cells slots Q (F0 m (pc + 1) ls (.long (lB (fun k => decide (t.toNat ≤ k) && f (k - t.toNat))) :: rest))) : W p l e R s m args below meth c H locs cells slots Q (F0 m pc ls (.int (zI t) :: .long (lB f) :: rest)) := lv_lshl hx hb hdg (lB_shl f ht) k
theorem z_ishlB (hx : p.tables.exec = Jvm.exec) (hb : c.code = cc) {f : Nat → Bool} {t : Int} (hdg : decode cc pc = .ok (.ishl, 1)) (ht : 0 ≤ t ∧ t < 32) (k : W p l e R s m args below meth c H locs cells slots Q (F0 m (pc + 1) ls (.int (iB (fun k => decide (t.toNat ≤ k) && f (k - t.toNat))) :: rest))) : W p l e R s m args below meth c H locs cells slots Q (F0 m pc ls (.int (zI t) :: .int (iB f) :: rest)) := lv_ishl hx hb hdg (by rw [iB_shl f ht]; exact k)
theorem z_ishrB (hx : p.tables.exec = Jvm.exec) (hb : c.code = cc) {f : Nat → Bool} {t : Int} (hdg : decode cc pc = .ok (.ishr, 1)) (ht : 0 ≤ t ∧ t < 32) (k : W p l e R s m args below meth c H locs cells slots Q (F0 m (pc + 1) ls (.int (iB (fun k => if k + t.toNat < 32 then f (k + t.toNat) else f 31)) :: rest))) : W p l e R s m args below meth c H locs cells slots Q (F0 m pc ls (.int (zI t) :: .int (iB f) :: rest)) := lv_ishr hx hb hdg (by rw [iB_shr f ht]; exact k)
theorem z_l2iB (hx : p.tables.exec = Jvm.exec) (hb : c.code = cc) {f : Nat → Bool} (hdg : decode cc pc = .ok (.l2i, 1)) (k : W p l e R s m args below meth c H locs cells slots Q (F0 m (pc + 1) ls (.int (iB f) :: rest))) : W p l e R s m args below meth c H locs cells slots Q (F0 m pc ls (.long (lB f) :: rest)) := lv_l2i hx hb hdg (lB_i f) k
end MI
section MJ
theorem Int4 {w : Int} (h : 0 ≤ w ∧ w ≤ 3) : w = 0 ∨ w = 1 ∨ w = 2 ∨ w = 3 := by omega
theorem zI_and1 {w : Int} (h : 0 ≤ w ∧ w ≤ 3) : zI w &&& zI 1 = zI (w % 2) := by rcases Int4 h with rfl | rfl | rfl | rfl <;> decide
theorem zI_and2 {w : Int} (h : 0 ≤ w ∧ w ≤ 3) : zI w &&& zI 2 = zI (2 * (w / 2)) := by rcases Int4 h with rfl | rfl | rfl | rfl <;> decide
theorem zx7 : ∀ r : Fin 8, ∀ q : Fin 8, zI (8 * (r.val : Int) + (q.val : Int)) ^^^ zI 7 = zI (8 * (r.val : Int) + (7 - (q.val : Int))) ∧ zI (8 * (r.val : Int) + (q.val : Int)) ^^^ zI 56 = zI (8 * (7 - (r.val : Int)) + (q.val : Int)) := by decide +kernel
theorem zI_x7 {r q : Int} (hr : 0 ≤ r ∧ r < 8) (hq : 0 ≤ q ∧ q < 8) : zI (8 * r + q) ^^^ zI 7 = zI (8 * r + (7 - q)) := by
  obtain ⟨a, rfl⟩ := Int.eq_ofNat_of_zero_le hr.1
  obtain ⟨b, rfl⟩ := Int.eq_ofNat_of_zero_le hq.1
  exact (zx7 ⟨a, by omega⟩ ⟨b, by omega⟩).1
theorem zI_x56 {r q : Int} (hr : 0 ≤ r ∧ r < 8) (hq : 0 ≤ q ∧ q < 8) : zI (8 * r + q) ^^^ zI 56 = zI (8 * (7 - r) + q) := by
  obtain ⟨a, rfl⟩ := Int.eq_ofNat_of_zero_le hr.1
  obtain ⟨b, rfl⟩ := Int.eq_ofNat_of_zero_le hq.1
  exact (zx7 ⟨a, by omega⟩ ⟨b, by omega⟩).2
theorem iB_bit0 {f : Nat → Bool} {t : Int} (h : 0 ≤ t ∧ t < 64) : iB (fun k => (decide (k + t.toNat < 64) && f (k + t.toNat)) && decide (k = 0)) = zI (b2 (f t.toNat)) := by
  rw [← iB_b2]
  refine iB_congr (fun k hk => ?_)
  by_cases e : k = 0
  · subst e
    simp [show t.toNat < 64 by omega]
  · simp [e]
theorem px_bits {X : Int → Int} {p q : Int} (hq : 0 ≤ q) (h : 0 ≤ X (64 * p + q) ∧ X (64 * p + q) ≤ 3) : b2 (bL X p q.toNat) + 2 * b2 (bH X p q.toNat) = X (64 * p + q) := by
  unfold bL bH
  rw [show ((q.toNat : Nat) : Int) = q by omega]
  rcases Int4 h with e | e | e | e <;> rw [e] <;> decide
/-- the place of a pixel, mirrored -/
def mirK (w : Int) (k : Nat) : Nat := 8 * (if w / 2 % 2 = 1 then 7 - k / 8 else k / 8) + (if w % 2 = 1 then 7 - k % 8 else k % 8)
def exB (n : Nat) (f g : Nat → Bool) : Nat → Bool := fun k => ((decide (k + n < 64) && f (k + n)) && g k) || (decide (n ≤ k) && (f (k - n) && g (k - n)))
def xk (n k : Nat) : Nat := if k / n % 2 = 0 then k + n else k - n
def mk (n k : Nat) : Bool := decide (k / n % 2 = 0)
theorem exB_x {n : Nat} (hn : n = 1 ∨ n = 2 ∨ n = 4 ∨ n = 8 ∨ n = 16 ∨ n = 32) (f : Nat → Bool) : lB (exB n f (mk n)) = lB (fun k => f (xk n k)) := lB_congr (fun k hk => by
  unfold exB mk xk
  by_cases h : k / n % 2 = 0
  · have h1 : k + n < 64 := by rcases hn with rfl | rfl | rfl | rfl | rfl | rfl <;> omega
    have h2 : n ≤ k → ¬ (k - n) / n % 2 = 0 := by rcases hn with rfl | rfl | rfl | rfl | rfl | rfl <;> omega
    have h3 : (decide (n ≤ k) && (f (k - n) && decide ((k - n) / n % 2 = 0))) = false := by
      by_cases q : n ≤ k
      · simp [h2 q]
      · simp [q]
    rw [h3, if_pos h]
    simp [h, h1]
  · have h1 : n ≤ k := by rcases hn with rfl | rfl | rfl | rfl | rfl | rfl <;> omega
    have h2 : (k - n) / n % 2 = 0 := by rcases hn with rfl | rfl | rfl | rfl | rfl | rfl <;> omega
    rw [if_neg h]
    simp [h, h1, h2])
theorem mk_1 : (6148914691236517205 : Int64) = lB (mk 1) := by decide +kernel
theorem mk_2 : (3689348814741910323 : Int64) = lB (mk 2) := by decide +kernel
theorem mk_4 : (1085102592571150095 : Int64) = lB (mk 4) := by decide +kernel
theorem mk_8 : (71777214294589695 : Int64) = lB (mk 8) := by decide +kernel
theorem mk_16 : (281470681808895 : Int64) = lB (mk 16) := by decide +kernel
theorem mk_32 : (4294967295 : Int64) = lB (mk 32) := by decide +kernel
theorem xk_x : ∀ k : Fin 64, xk 1 (xk 2 (xk 4 k.val)) = 8 * (k.val / 8) + (7 - k.val % 8) ∧ xk 8 (xk 16 (xk 32 k.val)) = 8 * (7 - k.val / 8) + k.val % 8 := by decide +kernel
def flX (k : Nat) : Nat := 8 * (k / 8) + (7 - k % 8)
def flY (k : Nat) : Nat := 8 * (7 - k / 8) + k % 8
theorem ex_X (f : Nat → Bool) : lB (fun k => f (xk 1 (xk 2 (xk 4 k)))) = lB (fun k => f (flX k)) := lB_congr (fun k hk => congrArg f (xk_x ⟨k, hk⟩).1)
theorem ex_Y (f : Nat → Bool) : lB (fun k => f (xk 8 (xk 16 (xk 32 k)))) = lB (fun k => f (flY k)) := lB_congr (fun k hk => congrArg f (xk_x ⟨k, hk⟩).2)
theorem mirK_0 {w : Int} {k : Nat} (hk : k < 64) (h : w = 0) : mirK w k = k := by
  subst h
  unfold mirK
  simp
  omega
theorem mirK_1 {w : Int} {k : Nat} (h : w = 1) : mirK w k = flX k := by
  subst h
  unfold mirK flX
  simp
theorem mirK_2 {w : Int} {k : Nat} (h : w = 2) : mirK w k = flY k := by
  subst h
  unfold mirK flY
  simp
theorem mirK_3 {w : Int} {k : Nat} (hk : k < 64) (h : w = 3) : mirK w k = flX (flY k) := by
  subst h
  unfold mirK flX flY
  simp
  omega
theorem mirK_lt {w : Int} {k : Nat} (hk : k < 64) : mirK w k < 64 := by
  unfold mirK
  split <;> split <;> omega
end MJ
theorem pL_at {X : Int → Int} {q : Int} (h : 0 ≤ q ∧ q < 2147483648) : pL X (zI q).toNatClampNeg = lB (bL X q) := by
  rw [zI_clamp h]
  unfold pL
  rw [show ((q.toNat : Nat) : Int) = q by omega]
theorem pH_at {X : Int → Int} {q : Int} (h : 0 ≤ q ∧ q < 2147483648) : pH X (zI q).toNatClampNeg = lB (bH X q) := by
  rw [zI_clamp h]
  unfold pH
  rw [show ((q.toNat : Nat) : Int) = q by omega]
theorem b2_v {v : Int} (h : 0 ≤ v ∧ v ≤ 1) : b2 (decide (v = 1)) = v := by
  rcases (show v = 0 ∨ v = 1 by omega) with rfl | rfl <;> decide
theorem z_min {a b : Int} (ha : -2147483648 ≤ a ∧ a < 2147483648) (hb : -2147483648 ≤ b ∧ b < 2147483648) : (if zI b < zI a then zI b else zI a) = zI (if b < a then b else a) := by
  by_cases h : b < a
  · rw [if_pos ((zI_lt hb ha).mpr h), if_pos h]
  · rw [if_neg (fun q => h ((zI_lt hb ha).mp q)), if_neg h]
theorem z_max {a b : Int} (ha : -2147483648 ≤ a ∧ a < 2147483648) (hb : -2147483648 ≤ b ∧ b < 2147483648) : (if zI a < zI b then zI b else zI a) = zI (if a < b then b else a) := by
  by_cases h : a < b
  · rw [if_pos ((zI_lt ha hb).mpr h), if_pos h]
  · rw [if_neg (fun q => h ((zI_lt ha hb).mp q)), if_neg h]
section MS
variable {p : Program} {l : Launch} {e : Env} {R : Room} {s : State} {m : MethodId} {args : Array Value} {below : List Frame} {meth : Method} {c : Code} {H : Heap} {locs : List Loc} {cells slots : Nat} {cc : ByteArray} {pc : Nat} {ls : Array Slot} {rest st0 : List Value} {mc ms : Nat} {free : Nat → Prop}
/-- a call of a static method of another class -/
theorem zrSJ {nL index maxL : Nat} {Ts ws ws' : List Cond} {own : String} {y : MethodName} {bytes : ByteArray} {ret : Option FieldType} {rm : Room} {G : va_G} {cs : Nat → ClassId} {As : List Value} {Pw : Heap → Prop} {Qc : Array Value → State → Outcome → State → Prop} (S : CallFix p m c cc nL s args Ts own) (hM : Met l y ws rm (va_Pc As (fun U => Pw U.heap ∧ kK G cs U)) Qc mc ms free) (hT : GoodIn Ts (va_wsS own index y ws)) (hw : ws = Cond.code y bytes maxL ret :: ws')
    (hd : y.cls ≠ "java/lang/invoke/MethodHandle" ∧ y.cls ≠ "java/lang/invoke/VarHandle" ∧ (parseMethodDescriptor y.desc).map (fun d => d.parameters.length) = some As.length) (hrc : rm.cells = mc) (hrs : rm.slots = ms) (hR : rm.frames + 1 ≤ R.frames ∧ 8 + (maxL + 11) + rm.locals ≤ R.locals) (hPw : Pw H) (hK : kK G cs s)
    (hsize : ls.size = nL) (hst : st0 = As.reverse ++ rest) (hroom : (rest.map fun v => v.category).sum ≤ 8) (hdg : decode cc pc = .ok (.invokestatic index, 3)) (hf : cells + mc ≤ R.cells ∧ slots + ms ≤ R.slots) :
    va_Run p l e R s m args below meth c H locs cells slots mc ms (F0 m pc ls st0) rest (Qc As.toArray) free :=
  va_runS S hM (va_cwS As.length S.2.2.2.2 hT hw hrc hrs hd hR) ⟨fun a U g mk q => ⟨q.1, q.2.1, q.2.2.calling g mk a⟩, fun U hU hW => ⟨rfl, by rw [hU]; exact hPw, hK.warm hW⟩⟩ rfl rfl hsize hst (lv_room (pc := pc) (ls := ls) (m := m) (rest := st0) hroom) hdg hf
end MS
section ME
variable {p : Program} {l : Launch} {e : Env} {R : Room} {s : State} {m : MethodId} {args : Array Value} {below : List Frame} {meth : Method} {c : Code} {H : Heap} {locs : List Loc} {cells slots : Nat} {cc : ByteArray} {pc : Nat} {ls : Array Slot} {A : Nat → Prop}
theorem ro_Iret (hx : p.tables.exec = Jvm.exec) (hb : c.code = cc) (hr : meth.sig.returnType = some .int) (hlk : meth.locks = false) {x : Int32} {v : Value} (hdg : decode cc pc = .ok (.ireturn, 1)) (hv : Value.int x = v) : W p l e R s m args below meth c s.heap [] 0 0 (MQ below (QRO v) args s 0 0 (fun _ => False)) (F0 m pc ls [.int x]) :=
  W.iret hx hb hr (fun t ht _ => ⟨by rw [hv], ht⟩) (fun _ h => absurd h List.not_mem_nil) hdg hlk
theorem w_Iret (hx : p.tables.exec = Jvm.exec) (hb : c.code = cc) (hr : meth.sig.returnType = some .int) (hlk : meth.locks = false) {x : Int32} {post : Value → Heap → Prop} (hdg : decode cc pc = .ok (.ireturn, 1)) (hS : va_S A s.heap H locs) (hp : post (.int x) H) : W p l e R s m args below meth c H locs cells slots (MQ below (QW post A) args s cells slots A) (F0 m pc ls [.int x]) :=
  W.iret hx hb hr (fun t ht _ => ⟨⟨_, rfl, by rw [ht]; exact hp⟩, hS.F ht⟩) hS.2.2 hdg hlk
end ME
section MR
variable {p : Program} {l : Launch} {e : Env} {R : Room} {s : State} {m : MethodId} {args : Array Value} {below : List Frame} {meth : Method} {c : Code} {H : Heap} {locs : List Loc} {cells slots : Nat} {Q : State → Prop} {cc : ByteArray} {pc : Nat} {ls : Array Slot} {rest : List Value} {A : Nat → Prop} {H0 : Heap} {G : va_G} {cl : List vw_C} {ws : va_W} {a : Nat} {tys : List (ClassId × FieldType)}
theorem z_iastR (hx : p.tables.exec = Jvm.exec) (hb : c.code = cc) (hK : va_K G cl tys s) (hP : va_P G cl ws H) (hD : va_D (fun _ => True) ws) (hS : va_S A H0 H locs) (q0 t0 : Nat) {cA : ClassId} {n : Nat} {f : Nat → Int32} (ha : ws[q0]? = some (a, .inl (cA, n, .inl f))) (ht : tys[t0]? = some (cA, .int)) {i : Int} {x : Int32} (hi : 0 ≤ i ∧ i < n) (hn : n < 2147483648) (hA : A a) (hdg : decode cc pc = .ok (.iastore, 1))
    (kk : ∀ (H1 : Heap) (locs1 : List Loc), va_P G cl (ws.set q0 (a, .inl (cA, n, .inl (upd f i.toNat x)))) H1 → H.size ≤ H1.size → (∀ q : Nat, q < H.size → ¬ q = a → H1[q]? = H[q]?) → va_S A H0 H1 locs1 → W p l e R s m args below meth c H1 locs1 cells slots Q (F0 m (pc + 1) ls rest)) : W p l e R s m args below meth c H locs cells slots Q (F0 m pc ls (.int x :: .int (zI i) :: .ref a :: rest)) := by
  have hin := zI_in hi hn
  refine W.iast hx hb (hP q0 _ ha) ((hK.2 t0 _ ht).1 n (fun j => .int (f j))) (fun q => by cases q) (by show ¬ (zI i < 0 ∨ (arrV _ _ _).slots.size ≤ _); rw [arrV_size]; exact hin) rfl rfl hdg fun H1 e z oq => ?_
  refine kk H1 _ (hP.set hD ha ?_ oq) (Nat.le_of_eq z.symm) (fun q _ h => oq q h) (hS.put z oq hA)
  show H1[a]? = some (vp_cell _ _)
  rw [e]
  rw [vp_cell_i, vp_cell_i, arrV_store, zI_clamp (by omega)]
  congr 2
  funext q
  by_cases hq : q = i.toNat
  · subst hq
    simp [updV, upd]
  · simp [updV, upd, hq]
end MR
