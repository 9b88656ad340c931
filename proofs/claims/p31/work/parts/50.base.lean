/-! The class's contracts over one whole object; rows that the law needs. -/
def GA (A : AS) : Prop := AWF A ∧ A.2.2.2.1 = fun _ => false
theorem ga_sd {A : AS} (a : Nat → Nat) (h : GA A) : SnD a a A.2.2.2.1 := by
  rw [h.2]
  exact ⟨fun _ _ _ _ _ _ h9 => (Bool.false_ne_true h9).elim, fun _ _ _ _ _ _ _ _ h9 => (Bool.false_ne_true h9).elim⟩
theorem ga_keep {A B : AS} (h : GA A) (hB : AWF B) (e : B.2.2.2 = A.2.2.2) : GA B := ⟨hB, by rw [e]; exact h.2⟩
theorem XI.kp {G : va_G} {cs : Nat → ClassId} {a : Nat → Nat} {A : AS} {H H1 : Heap} {A1 : Nat → Prop} (h : XI G cs a a A H) (hA : GA A) (hk : ∀ q, q < H.size → ¬ A1 q → H1[q]? = H[q]?) (ha : ∀ i, i < 62 → ¬ A1 (a i)) : XI G cs a a A H1 := h.keep hk ha (fun s j _ _ h9 => by rw [hA.2] at h9; exact (Bool.false_ne_true h9).elim)
theorem zI_low (x : Int) : zI x &&& zI 2147483647 = zI (x % 2147483648) := by
  refine Int32.toBitVec.inj (BitVec.eq_of_toNat_eq ?_)
  show ((zI x).toBitVec &&& (zI 2147483647).toBitVec).toNat = _
  rw [BitVec.toNat_and, show (zI 2147483647).toBitVec.toNat = 2 ^ 31 - 1 by decide +kernel, Nat.and_two_pow_sub_one_eq_mod]
  show (BitVec.ofInt 32 x).toNat % 2 ^ 31 = (BitVec.ofInt 32 (x % 2147483648)).toNat
  rw [BitVec.toNat_ofInt, BitVec.toNat_ofInt]
  omega
/-- what the law's own functions on ints answer -/
def lowF (v n : Int) : Int := v % 2147483648 % n
theorem lowF_r (v : Int) {n : Int} (h : 0 < n) : 0 ≤ lowF v n ∧ lowF v n < n := ⟨Int.emod_nonneg _ (by omega), Int.emod_lt_of_pos _ h⟩
def shF (v t : Int) : Int := (zI v >>> (zI t &&& 31)).toInt
theorem shF_i (v t : Int) : Value.int (zI v >>> (zI t &&& 31)) = .int (zI (shF v t)) := congrArg Value.int (zI_of _)
def anF (v t : Int) : Int := (zI v &&& zI t).toInt
theorem anF_i (v t : Int) : Value.int (zI v &&& zI t) = .int (zI (anF v t)) := congrArg Value.int (zI_of _)
theorem anF_r (v t : Int) : -2147483648 ≤ anF v t ∧ anF v t < 2147483648 := zI_rng _
def zL (z : Int) : Int64 := Int64.ofInt z
theorem zL_of {a : Int} (h : -2147483648 ≤ a ∧ a < 2147483648) : (zI a).toInt64 = zL a := by
  rw [← Int64.toInt_inj, Int32.toInt_toInt64, zI_toInt h]
  exact (Int64.toInt_ofInt_of_le (by omega) (by omega)).symm
theorem zL_32 (a : Int) : (zL a).toInt32 = zI a := Int64.toInt32_ofInt
theorem zL_mul (a b : Int) : zL a * zL b = zL (a * b) := (Int64.ofInt_mul a b).symm
theorem zL_int {a : Int} (h : -9223372036854775808 ≤ a ∧ a < 9223372036854775808) : (zL a).toInt = a := Int64.toInt_ofInt_of_le (by omega) (by omega)
theorem zL_ne0 {b : Int} (hb : 0 < b ∧ b < 2147483648) : ¬ zL b = 0 := by
  intro h
  have h2 := congrArg Int64.toInt h
  rw [zL_int (by omega)] at h2
  have e2 : (0 : Int64).toInt = 0 := by decide
  rw [e2] at h2
  omega
theorem zL_div {a b : Int} (ha : 0 ≤ a ∧ a < 9223372036854775808) (hb : 0 < b ∧ b < 2147483648) : zL a / zL b = zL (a / b) := by
  have h0 : 0 ≤ a / b := Int.ediv_nonneg ha.1 (by omega)
  have h1 : a / b ≤ a := Int.ediv_le_self _ ha.1
  have hne : zL b ≠ -1 := by
    intro h
    have h2 := congrArg Int64.toInt h
    rw [zL_int (by omega)] at h2
    have e2 : (-1 : Int64).toInt = -1 := by decide
    rw [e2] at h2
    omega
  rw [← Int64.toInt_inj, Int64.toInt_div_of_ne_right _ _ hne, zL_int (by omega), zL_int (by omega), zL_int (by omega), Int.tdiv_eq_ediv_of_nonneg ha.1]
theorem zL_rem {a b : Int} (ha : 0 ≤ a ∧ a < 9223372036854775808) (hb : 0 < b ∧ b < 2147483648) : zL a - zL a / zL b * zL b = zL (a % b) := by
  rw [zL_div ha hb, zL_mul, show zL (a / b * b) = Int64.ofInt (a / b * b) from rfl, show zL a = Int64.ofInt a from rfl, ← Int64.ofInt_sub, Int.emod_def, Int.mul_comm b]
  rfl
theorem k_addPart (l : Launch) (G : va_G) (cs : Nat → ClassId) (a : Nat → Nat) (A : AS)  (ia : Inj a 62) (hA : GA A)  : MW l yX6_addPart wsX6_addPart { frames := 4, cells := 0, slots := 0, locals := 123 } G cs [.ref (a 0)] (fun H => XI G cs a a A H) (fun vv H => vv = .int (zI (addPartF A).1) ∧ XI G cs a a (addPartF A).2 H) (AX a 0 62) 0 0 := by
  obtain ⟨S, ⟨n, L⟩, ⟨tl, X⟩, ⟨k, V⟩⟩ := A
  exact c_X6_addPart l G cs a a S n L tl X k V  ia (ga_sd a hA) hA.1 
theorem k_addSprite (l : Launch) (G : va_G) (cs : Nat → ClassId) (a : Nat → Nat) (A : AS) (q x y : Int) (ia : Inj a 62) (hA : GA A) (r_q : -2147483648 ≤ q ∧ q < 2147483648) (r_x : -2147483648 ≤ x ∧ x < 2147483648) (r_y : -2147483648 ≤ y ∧ y < 2147483648) : MW l yX6_addSprite wsX6_addSprite { frames := 4, cells := 0, slots := 0, locals := 123 } G cs [.ref (a 0), .int (zI q), .int (zI x), .int (zI y)] (fun H => XI G cs a a A H) (fun vv H => vv = .int (zI (addSpriteF A q x y).1) ∧ XI G cs a a (addSpriteF A q x y).2 H) (AX a 0 62) 0 0 := by
  obtain ⟨S, ⟨n, L⟩, ⟨tl, X⟩, ⟨k, V⟩⟩ := A
  exact c_X6_addSprite l G cs a a S n L tl X k V q x y ia (ga_sd a hA) hA.1 r_q r_x r_y
theorem k_alike (l : Launch) (G : va_G) (cs : Nat → ClassId) (a : Nat → Nat) (A : AS) (q t : Int) (ia : Inj a 62) (hA : GA A) (r_q : -2147483648 ≤ q ∧ q < 2147483648) (r_t : -2147483648 ≤ t ∧ t < 2147483648) : MW l yX6_alike wsX6_alike { frames := 3, cells := 0, slots := 0, locals := 76 } G cs [.ref (a 0), .int (zI q), .int (zI t)] (fun H => XI G cs a a A H) (fun vv H => vv = .int (zI (alikeF A.1 q t)) ∧ XI G cs a a A H) (AX a 0 62) 0 0 := by
  obtain ⟨S, ⟨n, L⟩, ⟨tl, X⟩, ⟨k, V⟩⟩ := A
  exact c_X6_alike l G cs a a S n L tl X k V q t ia (ga_sd a hA) hA.1 r_q r_t
theorem k_clearText (l : Launch) (G : va_G) (cs : Nat → ClassId) (a : Nat → Nat) (A : AS)  (ia : Inj a 62) (hA : GA A)  : MW l yX6_clearText wsX6_clearText { frames := 0, cells := 0, slots := 0, locals := 0 } G cs [.ref (a 0)] (fun H => XI G cs a a A H) (fun vv H => vv = .int (zI (clearF A).1) ∧ XI G cs a a (clearF A).2 H) (AX a 0 62) 0 0 := by
  obtain ⟨S, ⟨n, L⟩, ⟨tl, X⟩, ⟨k, V⟩⟩ := A
  exact c_X6_clearText l G cs a a S n L tl X k V  ia (ga_sd a hA) hA.1 
theorem k_color (l : Launch) (G : va_G) (cs : Nat → ClassId) (a : Nat → Nat) (A : AS) (q r : Int) (ia : Inj a 62) (hA : GA A) (r_q : -2147483648 ≤ q ∧ q < 2147483648) (r_r : -2147483648 ≤ r ∧ r < 2147483648) : MW l yX6_color wsX6_color { frames := 4, cells := 0, slots := 0, locals := 99 } G cs [.ref (a 0), .int (zI q), .int (zI r)] (fun H => XI G cs a a A H) (fun vv H => vv = .int (zI (colorF A.1 q r)) ∧ XI G cs a a A H) (AX a 0 62) 0 0 := by
  obtain ⟨S, ⟨n, L⟩, ⟨tl, X⟩, ⟨k, V⟩⟩ := A
  exact c_X6_color l G cs a a S n L tl X k V q r ia (ga_sd a hA) hA.1 r_q r_r
theorem k_count (l : Launch) (G : va_G) (cs : Nat → ClassId) (a : Nat → Nat) (A : AS) (t : Int) (ia : Inj a 62) (hA : GA A) (r_t : -2147483648 ≤ t ∧ t < 2147483648) : MW l yX6_count wsX6_count { frames := 6, cells := 0, slots := 0, locals := 145 } G cs [.ref (a 0), .int (zI t)] (fun H => XI G cs a a A H) (fun vv H => vv = .int (zI (countF A t)) ∧ XI G cs a a A H) (AX a 0 62) 0 0 := by
  obtain ⟨S, ⟨n, L⟩, ⟨tl, X⟩, ⟨k, V⟩⟩ := A
  exact c_X6_count l G cs a a S n L tl X k V t ia (ga_sd a hA) hA.1 r_t
theorem k_draw (l : Launch) (G : va_G) (cs : Nat → ClassId) (a : Nat → Nat) (A : AS) (q : Int) (ia : Inj a 62) (hA : GA A) (r_q : -2147483648 ≤ q ∧ q < 2147483648) : MW l yX6_draw wsX6_draw { frames := 4, cells := 0, slots := 0, locals := 123 } G cs [.ref (a 0), .int (zI q)] (fun H => XI G cs a a A H) (fun vv H => vv = .int (zI (drawF A q).1) ∧ XI G cs a a (drawF A q).2 H) (AX a 0 62) 0 0 := by
  obtain ⟨S, ⟨n, L⟩, ⟨tl, X⟩, ⟨k, V⟩⟩ := A
  exact c_X6_draw l G cs a a S n L tl X k V q ia (ga_sd a hA) hA.1 r_q
theorem k_line (l : Launch) (G : va_G) (cs : Nat → ClassId) (a : Nat → Nat) (A : AS) (q t : Int) (ia : Inj a 62) (hA : GA A) (r_q : -2147483648 ≤ q ∧ q < 2147483648) (r_t : -2147483648 ≤ t ∧ t < 2147483648) : MW l yX6_line wsX6_line { frames := 5, cells := 0, slots := 0, locals := 123 } G cs [.ref (a 0), .int (zI q), .int (zI t)] (fun H => XI G cs a a A H) (fun vv H => vv = .int (zI (lineF A.1 q t)) ∧ XI G cs a a A H) (AX a 0 62) 0 0 := by
  obtain ⟨S, ⟨n, L⟩, ⟨tl, X⟩, ⟨k, V⟩⟩ := A
  exact c_X6_line l G cs a a S n L tl X k V q t ia (ga_sd a hA) hA.1 r_q r_t
theorem k_meet (l : Launch) (G : va_G) (cs : Nat → ClassId) (a : Nat → Nat) (A : AS) (z t : Int) (ia : Inj a 62) (hA : GA A) (r_z : -2147483648 ≤ z ∧ z < 2147483648) (r_t : -2147483648 ≤ t ∧ t < 2147483648) : MW l yX6_meet wsX6_meet { frames := 6, cells := 0, slots := 0, locals := 143 } G cs [.ref (a 0), .int (zI z), .int (zI t)] (fun H => XI G cs a a A H) (fun vv H => vv = .int (zI (meetF A.1 z t)) ∧ XI G cs a a A H) (AX a 0 62) 0 0 := by
  obtain ⟨S, ⟨n, L⟩, ⟨tl, X⟩, ⟨k, V⟩⟩ := A
  exact c_X6_meet l G cs a a S n L tl X k V z t ia (ga_sd a hA) hA.1 r_z r_t
theorem k_move (l : Launch) (G : va_G) (cs : Nat → ClassId) (a : Nat → Nat) (A : AS) (z x y : Int) (ia : Inj a 62) (hA : GA A) (r_z : -2147483648 ≤ z ∧ z < 2147483648) (r_x : -2147483648 ≤ x ∧ x < 2147483648) (r_y : -2147483648 ≤ y ∧ y < 2147483648) : MW l yX6_move wsX6_move { frames := 4, cells := 0, slots := 0, locals := 123 } G cs [.ref (a 0), .int (zI z), .int (zI x), .int (zI y)] (fun H => XI G cs a a A H) (fun vv H => vv = .int (zI (moveF A z x y).1) ∧ XI G cs a a (moveF A z x y).2 H) (AX a 0 62) 0 0 := by
  obtain ⟨S, ⟨n, L⟩, ⟨tl, X⟩, ⟨k, V⟩⟩ := A
  exact c_X6_move l G cs a a S n L tl X k V z x y ia (ga_sd a hA) hA.1 r_z r_x r_y
theorem k_next (l : Launch) (G : va_G) (cs : Nat → ClassId) (a : Nat → Nat) (A : AS) (v : Int) (ia : Inj a 62) (hA : GA A) (r_v : -2147483648 ≤ v ∧ v < 2147483648) : MW l yX6_next wsX6_next { frames := 4, cells := 0, slots := 0, locals := 123 } G cs [.ref (a 0), .int (zI v)] (fun H => XI G cs a a A H) (fun vv H => vv = .int (zI (nextF A v).1) ∧ XI G cs a a (nextF A v).2 H) (AX a 0 62) 0 0 := by
  obtain ⟨S, ⟨n, L⟩, ⟨tl, X⟩, ⟨k, V⟩⟩ := A
  exact c_X6_next l G cs a a S n L tl X k V v ia (ga_sd a hA) hA.1 r_v
theorem k_pack (l : Launch) (G : va_G) (cs : Nat → ClassId) (a : Nat → Nat) (A : AS) (rm : Int) (ia : Inj a 62) (hA : GA A) (hrm : rm = 0 ∨ rm = 1) : MW l yX6_pack wsX6_pack { frames := 5, cells := 0, slots := 0, locals := 123 } G cs [.ref (a 0), .int (zI rm)] (fun H => XI G cs a a A H) (fun vv H => vv = .int (zI (packF A rm).1) ∧ XI G cs a a (packF A rm).2 H) (AX a 0 62) 0 0 := by
  obtain ⟨S, ⟨n, L⟩, ⟨tl, X⟩, ⟨k, V⟩⟩ := A
  exact c_X6_pack l G cs a a S n L tl X k V rm ia (ga_sd a hA) hA.1 hrm
theorem k_pixel (l : Launch) (G : va_G) (cs : Nat → ClassId) (a : Nat → Nat) (A : AS) (q r t : Int) (ia : Inj a 62) (hA : GA A) (r_q : -2147483648 ≤ q ∧ q < 2147483648) (r_r : -2147483648 ≤ r ∧ r < 2147483648) (r_t : -2147483648 ≤ t ∧ t < 2147483648) : MW l yX6_pixel wsX6_pixel { frames := 2, cells := 0, slots := 0, locals := 46 } G cs [.ref (a 0), .int (zI q), .int (zI r), .int (zI t)] (fun H => XI G cs a a A H) (fun vv H => vv = .int (zI (pixelF A.1 q r t)) ∧ XI G cs a a A H) (AX a 0 62) 0 0 := by
  obtain ⟨S, ⟨n, L⟩, ⟨tl, X⟩, ⟨k, V⟩⟩ := A
  exact c_X6_pixel l G cs a a S n L tl X k V q r t ia (ga_sd a hA) hA.1 r_q r_r r_t
theorem k_restore (l : Launch) (G : va_G) (cs : Nat → ClassId) (a : Nat → Nat) (A : AS) (z : Int) (ia : Inj a 62) (hA : GA A) (r_z : -2147483648 ≤ z ∧ z < 2147483648) : MW l yX6_restore wsX6_restore { frames := 4, cells := 0, slots := 0, locals := 123 } G cs [.ref (a 0), .int (zI z)] (fun H => XI G cs a a A H) (fun vv H => vv = .int (zI (restoreF A z).1) ∧ XI G cs a a (restoreF A z).2 H) (AX a 0 62) 0 0 := by
  obtain ⟨S, ⟨n, L⟩, ⟨tl, X⟩, ⟨k, V⟩⟩ := A
  exact c_X6_restore l G cs a a S n L tl X k V z ia (ga_sd a hA) hA.1 r_z
theorem k_set (l : Launch) (G : va_G) (cs : Nat → ClassId) (a : Nat → Nat) (A : AS) (z t v : Int) (ia : Inj a 62) (hA : GA A) (r_z : -2147483648 ≤ z ∧ z < 2147483648) (r_t : -2147483648 ≤ t ∧ t < 2147483648) (r_v : -2147483648 ≤ v ∧ v < 2147483648) : MW l yX6_set wsX6_set { frames := 4, cells := 0, slots := 0, locals := 123 } G cs [.ref (a 0), .int (zI z), .int (zI t), .int (zI v)] (fun H => XI G cs a a A H) (fun vv H => vv = .int (zI (setF A z t v).1) ∧ XI G cs a a (setF A z t v).2 H) (AX a 0 62) 0 0 := by
  obtain ⟨S, ⟨n, L⟩, ⟨tl, X⟩, ⟨k, V⟩⟩ := A
  exact c_X6_set l G cs a a S n L tl X k V z t v ia (ga_sd a hA) hA.1 r_z r_t r_v
theorem k_setColor (l : Launch) (G : va_G) (cs : Nat → ClassId) (a : Nat → Nat) (A : AS) (q z v : Int) (ia : Inj a 62) (hA : GA A) (r_q : -2147483648 ≤ q ∧ q < 2147483648) (r_z : -2147483648 ≤ z ∧ z < 2147483648) (r_v : -2147483648 ≤ v ∧ v < 2147483648) : MW l yX6_setColor wsX6_setColor { frames := 4, cells := 0, slots := 0, locals := 123 } G cs [.ref (a 0), .int (zI q), .int (zI z), .int (zI v)] (fun H => XI G cs a a A H) (fun vv H => vv = .int (zI (setColorF A q z v).1) ∧ XI G cs a a (setColorF A q z v).2 H) (AX a 0 62) 0 0 := by
  obtain ⟨S, ⟨n, L⟩, ⟨tl, X⟩, ⟨k, V⟩⟩ := A
  exact c_X6_setColor l G cs a a S n L tl X k V q z v ia (ga_sd a hA) hA.1 r_q r_z r_v
theorem k_setLimit (l : Launch) (G : va_G) (cs : Nat → ClassId) (a : Nat → Nat) (A : AS) (v : Int) (ia : Inj a 62) (hA : GA A) (r_v : -2147483648 ≤ v ∧ v < 2147483648) : MW l yX6_setLimit wsX6_setLimit { frames := 4, cells := 0, slots := 0, locals := 123 } G cs [.ref (a 0), .int (zI v)] (fun H => XI G cs a a A H) (fun vv H => vv = .int (zI (setLimitF A v).1) ∧ XI G cs a a (setLimitF A v).2 H) (AX a 0 62) 0 0 := by
  obtain ⟨S, ⟨n, L⟩, ⟨tl, X⟩, ⟨k, V⟩⟩ := A
  exact c_X6_setLimit l G cs a a S n L tl X k V v ia (ga_sd a hA) hA.1 r_v
theorem k_setPixel (l : Launch) (G : va_G) (cs : Nat → ClassId) (a : Nat → Nat) (A : AS) (q r t v : Int) (ia : Inj a 62) (hA : GA A) (r_q : -2147483648 ≤ q ∧ q < 2147483648) (r_r : -2147483648 ≤ r ∧ r < 2147483648) (r_t : -2147483648 ≤ t ∧ t < 2147483648) (r_v : -2147483648 ≤ v ∧ v < 2147483648) : MW l yX6_setPixel wsX6_setPixel { frames := 4, cells := 0, slots := 0, locals := 123 } G cs [.ref (a 0), .int (zI q), .int (zI r), .int (zI t), .int (zI v)] (fun H => XI G cs a a A H) (fun vv H => vv = .int (zI (setPixelF A q r t v).1) ∧ XI G cs a a (setPixelF A q r t v).2 H) (AX a 0 62) 0 0 := by
  obtain ⟨S, ⟨n, L⟩, ⟨tl, X⟩, ⟨k, V⟩⟩ := A
  exact c_X6_setPixel l G cs a a S n L tl X k V q r t v ia (ga_sd a hA) hA.1 r_q r_r r_t r_v
theorem k_setStride (l : Launch) (G : va_G) (cs : Nat → ClassId) (a : Nat → Nat) (A : AS) (v : Int) (ia : Inj a 62) (hA : GA A) (r_v : -2147483648 ≤ v ∧ v < 2147483648) : MW l yX6_setStride wsX6_setStride { frames := 4, cells := 0, slots := 0, locals := 123 } G cs [.ref (a 0), .int (zI v)] (fun H => XI G cs a a A H) (fun vv H => vv = .int (zI (setStrideF A v).1) ∧ XI G cs a a (setStrideF A v).2 H) (AX a 0 62) 0 0 := by
  obtain ⟨S, ⟨n, L⟩, ⟨tl, X⟩, ⟨k, V⟩⟩ := A
  exact c_X6_setStride l G cs a a S n L tl X k V v ia (ga_sd a hA) hA.1 r_v
theorem k_shown (l : Launch) (G : va_G) (cs : Nat → ClassId) (a : Nat → Nat) (A : AS) (q t : Int) (ia : Inj a 62) (hA : GA A) (r_q : -2147483648 ≤ q ∧ q < 2147483648) (r_t : -2147483648 ≤ t ∧ t < 2147483648) : MW l yX6_shown wsX6_shown { frames := 4, cells := 0, slots := 0, locals := 97 } G cs [.ref (a 0), .int (zI q), .int (zI t)] (fun H => XI G cs a a A H) (fun vv H => vv = .int (zI (shownF A.1 q t)) ∧ XI G cs a a A H) (AX a 0 62) 0 0 := by
  obtain ⟨S, ⟨n, L⟩, ⟨tl, X⟩, ⟨k, V⟩⟩ := A
  exact c_X6_shown l G cs a a S n L tl X k V q t ia (ga_sd a hA) hA.1 r_q r_t
theorem k_shownIn (l : Launch) (G : va_G) (cs : Nat → ClassId) (a : Nat → Nat) (A : AS) (q z : Int) (ia : Inj a 62) (hA : GA A) (r_q : -2147483648 ≤ q ∧ q < 2147483648) (r_z : -2147483648 ≤ z ∧ z < 2147483648) : MW l yX6_shownIn wsX6_shownIn { frames := 4, cells := 0, slots := 0, locals := 99 } G cs [.ref (a 0), .int (zI q), .int (zI z)] (fun H => XI G cs a a A H) (fun vv H => vv = .int (zI (shownInF A.1 q z)) ∧ XI G cs a a A H) (AX a 0 62) 0 0 := by
  obtain ⟨S, ⟨n, L⟩, ⟨tl, X⟩, ⟨k, V⟩⟩ := A
  exact c_X6_shownIn l G cs a a S n L tl X k V q z ia (ga_sd a hA) hA.1 r_q r_z
theorem k_sprite (l : Launch) (G : va_G) (cs : Nat → ClassId) (a : Nat → Nat) (A : AS) (z t : Int) (ia : Inj a 62) (hA : GA A) (r_z : -2147483648 ≤ z ∧ z < 2147483648) (r_t : -2147483648 ≤ t ∧ t < 2147483648) : MW l yX6_sprite wsX6_sprite { frames := 6, cells := 0, slots := 0, locals := 143 } G cs [.ref (a 0), .int (zI z), .int (zI t)] (fun H => XI G cs a a A H) (fun vv H => vv = .int (zI (spriteF A.1 z t)) ∧ XI G cs a a A H) (AX a 0 62) 0 0 := by
  obtain ⟨S, ⟨n, L⟩, ⟨tl, X⟩, ⟨k, V⟩⟩ := A
  exact c_X6_sprite l G cs a a S n L tl X k V z t ia (ga_sd a hA) hA.1 r_z r_t
theorem k_swap (l : Launch) (G : va_G) (cs : Nat → ClassId) (a : Nat → Nat) (A : AS) (f t u d : Int) (ia : Inj a 62) (hA : GA A) (r_f : -2147483648 ≤ f ∧ f < 2147483648) (r_t : -2147483648 ≤ t ∧ t < 2147483648) (r_u : -2147483648 ≤ u ∧ u < 2147483648) (r_d : -2147483648 ≤ d ∧ d < 2147483648) : MW l yX6_swap wsX6_swap { frames := 4, cells := 0, slots := 0, locals := 123 } G cs [.ref (a 0), .int (zI f), .int (zI t), .int (zI u), .int (zI d)] (fun H => XI G cs a a A H) (fun vv H => vv = .int (zI (swapF A f t u d).1) ∧ XI G cs a a (swapF A f t u d).2 H) (AX a 0 62) 0 0 := by
  obtain ⟨S, ⟨n, L⟩, ⟨tl, X⟩, ⟨k, V⟩⟩ := A
  exact c_X6_swap l G cs a a S n L tl X k V f t u d ia (ga_sd a hA) hA.1 r_f r_t r_u r_d
theorem k_type (l : Launch) (G : va_G) (cs : Nat → ClassId) (a : Nat → Nat) (A : AS) (z : Int) (ia : Inj a 62) (hA : GA A) (hz : narrow .char (.int (zI z)) = .int (zI z)) : MW l yX6_type wsX6_type { frames := 1, cells := 0, slots := 0, locals := 21 } G cs [.ref (a 0), .int (zI z)] (fun H => XI G cs a a A H) (fun vv H => vv = .int (zI (typeF A z).1) ∧ XI G cs a a (typeF A z).2 H) (AX a 0 62) 0 0 := by
  obtain ⟨S, ⟨n, L⟩, ⟨tl, X⟩, ⟨k, V⟩⟩ := A
  exact c_X6_type l G cs a a S n L tl X k V z ia (ga_sd a hA) hA.1 hz
theorem k_undo (l : Launch) (G : va_G) (cs : Nat → ClassId) (a : Nat → Nat) (A : AS)  (ia : Inj a 62) (hA : GA A)  : MW l yX6_undo wsX6_undo { frames := 4, cells := 0, slots := 0, locals := 123 } G cs [.ref (a 0)] (fun H => XI G cs a a A H) (fun vv H => vv = .int (zI (undoF A).1) ∧ XI G cs a a (undoF A).2 H) (AX a 0 62) 0 0 := by
  obtain ⟨S, ⟨n, L⟩, ⟨tl, X⟩, ⟨k, V⟩⟩ := A
  exact c_X6_undo l G cs a a S n L tl X k V  ia (ga_sd a hA) hA.1 
set_option maxHeartbeats 4000000 in
set_option maxRecDepth 100000 in
theorem k_keep (l : Launch) (G : va_G) (cs : Nat → ClassId) (a : Nat → Nat) (A : AS) (z : Int) (_ : Inj a 62) (_ : GA A) (hz : 2 ≤ z ∧ z < 2147483648) : MW l yX6_keep wsX6_keep { frames := 1, cells := 0, slots := 0, locals := 40 } G cs [.ref (a 0), .int (zI z)] (fun H => XI G cs a a A H) (fun vv H => vv = .int (zI (-1)) ∧ XI G cs a a A H) (AX a 0 62) 0 0 := by
  refine m_intro (Pw := (fun H => XI G cs a a A H)) (cc := cX6_keep) (maxL := 2) (ret := some .int) RX6 (by decide) rfl rfl (Nat.le_of_ble_eq_true rfl) ?_
  intro pP eE sS mM below meth cC hx hb hr hts hown hml hlk hnm hPre hK ls hl
  have hl : lv_has ls 2 [(0, .ref (a 0)), (1, .int (zI z))] := hl
  have hXI := hPre
  have hS : va_S (AX a 0 62) sS.heap sS.heap [] := va_S.rf
  refine lv_iload_n hx hb dX6_keep_0 rfl (lv_at hl 1 rfl) ?_
  refine z_ro (zrS (As := [.int (zI z)]) (rest := []) (Pw := fun _ => True) ⟨hx, hb, hml, hown, hts⟩ (c_X6_isNoSlot l G cs z (by omega)) gX6_keep_X6_isNoSlot rfl qX6_isNoSlot rfl rfl ⟨Nat.le_of_ble_eq_true rfl, Nat.le_of_ble_eq_true rfl⟩ trivial hK hl.1 rfl (Nat.le_of_ble_eq_true rfl) dX6_keep_1 ⟨Nat.le_of_ble_eq_true rfl, Nat.le_of_ble_eq_true rfl⟩) ?_
  refine z_bif_eq (tgt := 9) hx hb dX6_keep_4 (by decide) (fun c1 => ?_) (fun c1 => ?_)
  · exfalso
    simp only [decide_eq_false_iff_not] at c1
    omega
  · refine z_iconst (n := -1) hx hb dX6_keep_7 ?_
    exact w_iret hx hb hr hlk dX6_keep_8 hS ⟨rfl, hXI⟩
theorem qL_alike : yL_alike.cls ≠ "java/lang/invoke/MethodHandle" ∧ yL_alike.cls ≠ "java/lang/invoke/VarHandle" ∧ (parseMethodDescriptor yL_alike.desc).map (fun d => d.parameters.length) = some 3 := by decide +kernel
theorem qL_cell : yL_cell.cls ≠ "java/lang/invoke/MethodHandle" ∧ yL_cell.cls ≠ "java/lang/invoke/VarHandle" ∧ (parseMethodDescriptor yL_cell.desc).map (fun d => d.parameters.length) = some 2 := by decide +kernel
theorem qL_colors : yL_colors.cls ≠ "java/lang/invoke/MethodHandle" ∧ yL_colors.cls ≠ "java/lang/invoke/VarHandle" ∧ (parseMethodDescriptor yL_colors.desc).map (fun d => d.parameters.length) = some 3 := by decide +kernel
theorem qL_covers : yL_covers.cls ≠ "java/lang/invoke/MethodHandle" ∧ yL_covers.cls ≠ "java/lang/invoke/VarHandle" ∧ (parseMethodDescriptor yL_covers.desc).map (fun d => d.parameters.length) = some 3 := by decide +kernel
theorem qL_draws : yL_draws.cls ≠ "java/lang/invoke/MethodHandle" ∧ yL_draws.cls ≠ "java/lang/invoke/VarHandle" ∧ (parseMethodDescriptor yL_draws.desc).map (fun d => d.parameters.length) = some 4 := by decide +kernel
theorem qL_errors : yL_errors.cls ≠ "java/lang/invoke/MethodHandle" ∧ yL_errors.cls ≠ "java/lang/invoke/VarHandle" ∧ (parseMethodDescriptor yL_errors.desc).map (fun d => d.parameters.length) = some 1 := by decide +kernel
theorem qL_flipped : yL_flipped.cls ≠ "java/lang/invoke/MethodHandle" ∧ yL_flipped.cls ≠ "java/lang/invoke/VarHandle" ∧ (parseMethodDescriptor yL_flipped.desc).map (fun d => d.parameters.length) = some 5 := by decide +kernel
theorem qL_isShown : yL_isShown.cls ≠ "java/lang/invoke/MethodHandle" ∧ yL_isShown.cls ≠ "java/lang/invoke/VarHandle" ∧ (parseMethodDescriptor yL_isShown.desc).map (fun d => d.parameters.length) = some 3 := by decide +kernel
theorem qL_low : yL_low.cls ≠ "java/lang/invoke/MethodHandle" ∧ yL_low.cls ≠ "java/lang/invoke/VarHandle" ∧ (parseMethodDescriptor yL_low.desc).map (fun d => d.parameters.length) = some 2 := by decide +kernel
theorem qL_meets : yL_meets.cls ≠ "java/lang/invoke/MethodHandle" ∧ yL_meets.cls ≠ "java/lang/invoke/VarHandle" ∧ (parseMethodDescriptor yL_meets.desc).map (fun d => d.parameters.length) = some 3 := by decide +kernel
theorem qL_packs : yL_packs.cls ≠ "java/lang/invoke/MethodHandle" ∧ yL_packs.cls ≠ "java/lang/invoke/VarHandle" ∧ (parseMethodDescriptor yL_packs.desc).map (fun d => d.parameters.length) = some 2 := by decide +kernel
theorem qL_pixelOf : yL_pixelOf.cls ≠ "java/lang/invoke/MethodHandle" ∧ yL_pixelOf.cls ≠ "java/lang/invoke/VarHandle" ∧ (parseMethodDescriptor yL_pixelOf.desc).map (fun d => d.parameters.length) = some 4 := by decide +kernel
theorem qL_print : yL_print.cls ≠ "java/lang/invoke/MethodHandle" ∧ yL_print.cls ≠ "java/lang/invoke/VarHandle" ∧ (parseMethodDescriptor yL_print.desc).map (fun d => d.parameters.length) = some 1 := by decide +kernel
theorem qL_source : yL_source.cls ≠ "java/lang/invoke/MethodHandle" ∧ yL_source.cls ≠ "java/lang/invoke/VarHandle" ∧ (parseMethodDescriptor yL_source.desc).map (fun d => d.parameters.length) = some 3 := by decide +kernel
theorem qL_sprites : yL_sprites.cls ≠ "java/lang/invoke/MethodHandle" ∧ yL_sprites.cls ≠ "java/lang/invoke/VarHandle" ∧ (parseMethodDescriptor yL_sprites.desc).map (fun d => d.parameters.length) = some 1 := by decide +kernel
theorem qL_turns : yL_turns.cls ≠ "java/lang/invoke/MethodHandle" ∧ yL_turns.cls ≠ "java/lang/invoke/VarHandle" ∧ (parseMethodDescriptor yL_turns.desc).map (fun d => d.parameters.length) = some 2 := by decide +kernel
set_option maxHeartbeats 4000000 in
theorem c_L_low (l : Launch) (G : va_G) (cs : Nat → ClassId) (v n : Int) (hn : 0 < n ∧ n < 2147483648) : MRO l yL_low wsL_low { frames := 0, cells := 0, slots := 0, locals := 0 } G cs [.int (zI v), .int (zI n)] (fun _ => True) (.int (zI (lowF v n))) := by
  refine m_intro (Pw := (fun _ => True)) (cc := cL_low) (maxL := 2) (ret := some .int) RL (by decide) rfl rfl (Nat.le_of_ble_eq_true rfl) ?_
  intro pP eE sS mM below meth cC hx hb hr hts hown hml hlk hnm hPre hK ls hl
  have hl : lv_has ls 2 [(0, .int (zI v)), (1, .int (zI n))] := hl
  refine lv_iload_n hx hb dL_low_0 rfl (lv_at hl 0 rfl) ?_
  refine lv_ldc (v := 2147483647) hx hb hown (hts (.constant RL 8 2147483647) (by decide +kernel)) dL_low_1 ?_
  refine z_top (v' := .int (zI 2147483647)) rfl ?_
  refine lv_iand hx hb dL_low_3 ?_
  refine z_top (v' := .int (zI (v % 2147483648))) (congrArg Value.int (zI_low v)) ?_
  refine lv_iload_n hx hb dL_low_4 rfl (lv_at hl 1 rfl) ?_
  refine z_irem hx hb dL_low_5 (by omega) (by omega) ?_
  exact ro_iret hx hb hr hlk dL_low_6 rfl
