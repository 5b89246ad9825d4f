/-! whole numbers as ints and longs -/
theorem iz_toInt (x : Int32) : iz x.toInt = x := Int32.ofInt_toInt x
theorem lz_toInt (x : Int64) : lz x.toInt = x := Int64.ofInt_toInt x
theorem iz_val {a : Int} (h1 : -2147483648 ≤ a) (h2 : a ≤ 2147483647) : (iz a).toInt = a := by
  unfold iz
  rw [Int32.toInt_ofInt, Int.bmod_def, show ((Int32.size : Nat) : Int) = 4294967296 from rfl]
  split <;> omega
theorem lz_val {a : Int} (h1 : -9223372036854775808 ≤ a) (h2 : a ≤ 9223372036854775807) : (lz a).toInt = a := by
  unfold lz
  rw [Int64.toInt_ofInt, Int.bmod_def, show ((Int64.size : Nat) : Int) = 18446744073709551616 from rfl]
  split <;> omega
theorem iz_rng (x : Int32) : -2147483648 ≤ x.toInt ∧ x.toInt ≤ 2147483647 := ⟨Int32.le_toInt x, by have := Int32.toInt_lt x; omega⟩
theorem lz_rng (x : Int64) : -9223372036854775808 ≤ x.toInt ∧ x.toInt ≤ 9223372036854775807 := ⟨Int64.le_toInt x, by have := Int64.toInt_lt x; omega⟩
theorem iz_add (a b : Int) : iz a + iz b = iz (a + b) := (Int32.ofInt_add a b).symm
theorem iz_sub (a b : Int) : iz a - iz b = iz (a - b) := (Int32.ofInt_sub a b).symm
theorem iz_mul (a b : Int) : iz a * iz b = iz (a * b) := (Int32.ofInt_mul a b).symm
theorem iz_neg (a : Int) : - iz a = iz (-a) := (Int32.ofInt_neg a).symm
theorem lz_add (a b : Int) : lz a + lz b = lz (a + b) := (Int64.ofInt_add a b).symm
theorem lz_sub (a b : Int) : lz a - lz b = lz (a - b) := (Int64.ofInt_sub a b).symm
theorem lz_mul (a b : Int) : lz a * lz b = lz (a * b) := (Int64.ofInt_mul a b).symm
theorem lz_neg (a : Int) : - lz a = lz (-a) := (Int64.ofInt_neg a).symm
/-- in the range of an int, of a long -/
def ri (a : Int) : Prop := -2147483648 ≤ a ∧ a ≤ 2147483647
def rl (a : Int) : Prop := -9223372036854775808 ≤ a ∧ a ≤ 9223372036854775807
theorem iz_lt {a b : Int} (ha : ri a) (hb : ri b) : iz a < iz b ↔ a < b := by rw [Int32.lt_iff_toInt_lt, iz_val ha.1 ha.2, iz_val hb.1 hb.2]
theorem iz_le {a b : Int} (ha : ri a) (hb : ri b) : iz a ≤ iz b ↔ a ≤ b := by rw [Int32.le_iff_toInt_le, iz_val ha.1 ha.2, iz_val hb.1 hb.2]
theorem iz_inj {a b : Int} (ha : ri a) (hb : ri b) : iz a = iz b ↔ a = b := ⟨fun h => by have := congrArg Int32.toInt h; rwa [iz_val ha.1 ha.2, iz_val hb.1 hb.2] at this, fun h => by rw [h]⟩
theorem lz_lt {a b : Int} (ha : rl a) (hb : rl b) : lz a < lz b ↔ a < b := by rw [Int64.lt_iff_toInt_lt, lz_val ha.1 ha.2, lz_val hb.1 hb.2]
theorem lz_inj {a b : Int} (ha : rl a) (hb : rl b) : lz a = lz b ↔ a = b := ⟨fun h => by have := congrArg Int64.toInt h; rwa [lz_val ha.1 ha.2, lz_val hb.1 hb.2] at this, fun h => by rw [h]⟩
theorem iz_0 : iz 0 = 0 := rfl
theorem lz_0 : lz 0 = 0 := rfl
theorem iz_l {a : Int} (ha : ri a) : (iz a).toInt64 = lz a := by
  have h : ((iz a).toInt64).toInt = (lz a).toInt := by rw [Int32.toInt_toInt64, iz_val ha.1 ha.2, lz_val (by unfold ri at ha; omega) (by unfold ri at ha; omega)]
  exact Int64.toInt_inj.mp h
theorem lz_i (a : Int) : (lz a).toInt32 = iz a := by
  apply Int32.toInt_inj.mp
  unfold lz iz
  rw [Int64.toInt32_ofInt]
/-- the index of an array -/
theorem iz_ix {k n : Nat} (h : k < n) (hn : n ≤ 2147483647) : vp_in (iz k) n ∧ (iz k).toNatClampNeg = k := by
  have e : (iz k).toInt = k := iz_val (by omega) (by omega)
  exact ⟨vp_in_iff.mpr ⟨by omega, by omega⟩, by rw [Int32.toNatClampNeg, e]; rfl⟩
def bz (b : Bool) : Int := if b = true then 1 else 0
theorem bz_t : bz true = 1 := rfl
theorem bz_f : bz false = 0 := rfl
theorem bz_ri (b : Bool) : ri (bz b) := by cases b <;> (unfold ri bz; simp)
theorem bz_nar (b : Bool) : narrow .boolean (.int (iz (bz b))) = .int (iz (bz b)) := by cases b <;> decide

section RULES
variable {y : MethodName} {cc : ByteArray} {nL : Nat} {rt : Option FieldType} {d mc ms : Nat} {fl : Bool} {Q : QT} {n' n kc ks pc : Nat} {L st : List Value} {ρ : RT} {f : IT} {g : JT}
theorem V_iadd {a b : Int} (hd : decode cc pc = .ok (.iadd, 1))  (h : V y cc nL rt d mc ms fl Q n' n kc ks (pc + 1) L (.int (iz (a + b)) :: st) ρ f g) : V y cc nL rt d mc ms fl Q n' n kc ks pc L (.int (iz b) :: .int (iz a) :: st) ρ f g := by
  intro ad z D cy sl xs p l e R s m args below meth c Z H locs ls C hW hS hL
  have h1 := h ad z D cy sl xs p l e R s m args below meth c Z H locs ls C hW hS hL
  rw [← iz_add] at h1
  exact lv_iadd C.1 C.2.1 hd  h1
theorem V_isub {a b : Int} (hd : decode cc pc = .ok (.isub, 1))  (h : V y cc nL rt d mc ms fl Q n' n kc ks (pc + 1) L (.int (iz (a - b)) :: st) ρ f g) : V y cc nL rt d mc ms fl Q n' n kc ks pc L (.int (iz b) :: .int (iz a) :: st) ρ f g := by
  intro ad z D cy sl xs p l e R s m args below meth c Z H locs ls C hW hS hL
  have h1 := h ad z D cy sl xs p l e R s m args below meth c Z H locs ls C hW hS hL
  rw [← iz_sub] at h1
  exact lv_isub C.1 C.2.1 hd  h1
theorem V_imul {a b : Int} (hd : decode cc pc = .ok (.imul, 1))  (h : V y cc nL rt d mc ms fl Q n' n kc ks (pc + 1) L (.int (iz (a * b)) :: st) ρ f g) : V y cc nL rt d mc ms fl Q n' n kc ks pc L (.int (iz b) :: .int (iz a) :: st) ρ f g := by
  intro ad z D cy sl xs p l e R s m args below meth c Z H locs ls C hW hS hL
  have h1 := h ad z D cy sl xs p l e R s m args below meth c Z H locs ls C hW hS hL
  rw [← iz_mul] at h1
  exact lv_imul C.1 C.2.1 hd  h1
theorem V_ladd {a b : Int} (hd : decode cc pc = .ok (.ladd, 1))  (h : V y cc nL rt d mc ms fl Q n' n kc ks (pc + 1) L (.long (lz (a + b)) :: st) ρ f g) : V y cc nL rt d mc ms fl Q n' n kc ks pc L (.long (lz b) :: .long (lz a) :: st) ρ f g := by
  intro ad z D cy sl xs p l e R s m args below meth c Z H locs ls C hW hS hL
  have h1 := h ad z D cy sl xs p l e R s m args below meth c Z H locs ls C hW hS hL
  rw [← lz_add] at h1
  exact lv_ladd C.1 C.2.1 hd  h1
theorem V_lsub {a b : Int} (hd : decode cc pc = .ok (.lsub, 1))  (h : V y cc nL rt d mc ms fl Q n' n kc ks (pc + 1) L (.long (lz (a - b)) :: st) ρ f g) : V y cc nL rt d mc ms fl Q n' n kc ks pc L (.long (lz b) :: .long (lz a) :: st) ρ f g := by
  intro ad z D cy sl xs p l e R s m args below meth c Z H locs ls C hW hS hL
  have h1 := h ad z D cy sl xs p l e R s m args below meth c Z H locs ls C hW hS hL
  rw [← lz_sub] at h1
  exact lv_lsub C.1 C.2.1 hd  h1
theorem V_lmul {a b : Int} (hd : decode cc pc = .ok (.lmul, 1))  (h : V y cc nL rt d mc ms fl Q n' n kc ks (pc + 1) L (.long (lz (a * b)) :: st) ρ f g) : V y cc nL rt d mc ms fl Q n' n kc ks pc L (.long (lz b) :: .long (lz a) :: st) ρ f g := by
  intro ad z D cy sl xs p l e R s m args below meth c Z H locs ls C hW hS hL
  have h1 := h ad z D cy sl xs p l e R s m args below meth c Z H locs ls C hW hS hL
  rw [← lz_mul] at h1
  exact lv_lmul C.1 C.2.1 hd  h1
theorem V_lneg {a : Int} (hd : decode cc pc = .ok (.lneg, 1))  (h : V y cc nL rt d mc ms fl Q n' n kc ks (pc + 1) L (.long (lz (-a)) :: st) ρ f g) : V y cc nL rt d mc ms fl Q n' n kc ks pc L (.long (lz a) :: st) ρ f g := by
  intro ad z D cy sl xs p l e R s m args below meth c Z H locs ls C hW hS hL
  have h1 := h ad z D cy sl xs p l e R s m args below meth c Z H locs ls C hW hS hL
  rw [← lz_neg] at h1
  exact lv_lneg C.1 C.2.1 hd  h1
theorem V_iand {a b v : Int} (hd : decode cc pc = .ok (.iand, 1)) (hv : iz a &&& iz b = iz v) (h : V y cc nL rt d mc ms fl Q n' n kc ks (pc + 1) L (.int (iz v) :: st) ρ f g) : V y cc nL rt d mc ms fl Q n' n kc ks pc L (.int (iz b) :: .int (iz a) :: st) ρ f g := by
  intro ad z D cy sl xs p l e R s m args below meth c Z H locs ls C hW hS hL
  have h1 := h ad z D cy sl xs p l e R s m args below meth c Z H locs ls C hW hS hL
  rw [← hv] at h1
  exact lv_iand C.1 C.2.1 hd  h1
theorem V_ior {a b v : Int} (hd : decode cc pc = .ok (.ior, 1)) (hv : iz a ||| iz b = iz v) (h : V y cc nL rt d mc ms fl Q n' n kc ks (pc + 1) L (.int (iz v) :: st) ρ f g) : V y cc nL rt d mc ms fl Q n' n kc ks pc L (.int (iz b) :: .int (iz a) :: st) ρ f g := by
  intro ad z D cy sl xs p l e R s m args below meth c Z H locs ls C hW hS hL
  have h1 := h ad z D cy sl xs p l e R s m args below meth c Z H locs ls C hW hS hL
  rw [← hv] at h1
  exact lv_ior C.1 C.2.1 hd  h1
theorem V_ixor {a b v : Int} (hd : decode cc pc = .ok (.ixor, 1)) (hv : iz a ^^^ iz b = iz v) (h : V y cc nL rt d mc ms fl Q n' n kc ks (pc + 1) L (.int (iz v) :: st) ρ f g) : V y cc nL rt d mc ms fl Q n' n kc ks pc L (.int (iz b) :: .int (iz a) :: st) ρ f g := by
  intro ad z D cy sl xs p l e R s m args below meth c Z H locs ls C hW hS hL
  have h1 := h ad z D cy sl xs p l e R s m args below meth c Z H locs ls C hW hS hL
  rw [← hv] at h1
  exact lv_ixor C.1 C.2.1 hd  h1
theorem V_ishl {a b v : Int} (hd : decode cc pc = .ok (.ishl, 1)) (hv : iz a <<< (iz b &&& 31) = iz v) (h : V y cc nL rt d mc ms fl Q n' n kc ks (pc + 1) L (.int (iz v) :: st) ρ f g) : V y cc nL rt d mc ms fl Q n' n kc ks pc L (.int (iz b) :: .int (iz a) :: st) ρ f g := by
  intro ad z D cy sl xs p l e R s m args below meth c Z H locs ls C hW hS hL
  have h1 := h ad z D cy sl xs p l e R s m args below meth c Z H locs ls C hW hS hL
  rw [← hv] at h1
  exact lv_ishl C.1 C.2.1 hd  h1
theorem V_ishr {a b v : Int} (hd : decode cc pc = .ok (.ishr, 1)) (hv : iz a >>> (iz b &&& 31) = iz v) (h : V y cc nL rt d mc ms fl Q n' n kc ks (pc + 1) L (.int (iz v) :: st) ρ f g) : V y cc nL rt d mc ms fl Q n' n kc ks pc L (.int (iz b) :: .int (iz a) :: st) ρ f g := by
  intro ad z D cy sl xs p l e R s m args below meth c Z H locs ls C hW hS hL
  have h1 := h ad z D cy sl xs p l e R s m args below meth c Z H locs ls C hW hS hL
  rw [← hv] at h1
  exact lv_ishr C.1 C.2.1 hd  h1
theorem V_iushr {a b v : Int} (hd : decode cc pc = .ok (.iushr, 1)) (hv : ((iz a).toUInt32 >>> ((iz b).toUInt32 &&& Int32.toUInt32 31)).toInt32 = iz v) (h : V y cc nL rt d mc ms fl Q n' n kc ks (pc + 1) L (.int (iz v) :: st) ρ f g) : V y cc nL rt d mc ms fl Q n' n kc ks pc L (.int (iz b) :: .int (iz a) :: st) ρ f g := by
  intro ad z D cy sl xs p l e R s m args below meth c Z H locs ls C hW hS hL
  have h1 := h ad z D cy sl xs p l e R s m args below meth c Z H locs ls C hW hS hL
  exact lv_iushr C.1 C.2.1 hd hv h1
theorem V_idiv {a b v : Int} (hd : decode cc pc = .ok (.idiv, 1)) (hne : ¬ iz b = 0) (hv : iz a / iz b = iz v) (h : V y cc nL rt d mc ms fl Q n' n kc ks (pc + 1) L (.int (iz v) :: st) ρ f g) : V y cc nL rt d mc ms fl Q n' n kc ks pc L (.int (iz b) :: .int (iz a) :: st) ρ f g := by
  intro ad z D cy sl xs p l e R s m args below meth c Z H locs ls C hW hS hL
  have h1 := h ad z D cy sl xs p l e R s m args below meth c Z H locs ls C hW hS hL
  rw [← hv] at h1
  exact lv_idiv C.1 C.2.1 hd hne h1
theorem V_irem {a b v : Int} (hd : decode cc pc = .ok (.irem, 1)) (hne : ¬ iz b = 0) (hv : iz a - iz a / iz b * iz b = iz v) (h : V y cc nL rt d mc ms fl Q n' n kc ks (pc + 1) L (.int (iz v) :: st) ρ f g) : V y cc nL rt d mc ms fl Q n' n kc ks pc L (.int (iz b) :: .int (iz a) :: st) ρ f g := by
  intro ad z D cy sl xs p l e R s m args below meth c Z H locs ls C hW hS hL
  have h1 := h ad z D cy sl xs p l e R s m args below meth c Z H locs ls C hW hS hL
  rw [← hv] at h1
  exact lv_irem C.1 C.2.1 hd hne h1
theorem V_ldiv {a b v : Int} (hd : decode cc pc = .ok (.ldiv, 1)) (hne : ¬ lz b = 0) (hv : lz a / lz b = lz v) (h : V y cc nL rt d mc ms fl Q n' n kc ks (pc + 1) L (.long (lz v) :: st) ρ f g) : V y cc nL rt d mc ms fl Q n' n kc ks pc L (.long (lz b) :: .long (lz a) :: st) ρ f g := by
  intro ad z D cy sl xs p l e R s m args below meth c Z H locs ls C hW hS hL
  have h1 := h ad z D cy sl xs p l e R s m args below meth c Z H locs ls C hW hS hL
  rw [← hv] at h1
  exact lv_ldiv C.1 C.2.1 hd hne h1
theorem V_lrem {a b v : Int} (hd : decode cc pc = .ok (.lrem, 1)) (hne : ¬ lz b = 0) (hv : lz a - lz a / lz b * lz b = lz v) (h : V y cc nL rt d mc ms fl Q n' n kc ks (pc + 1) L (.long (lz v) :: st) ρ f g) : V y cc nL rt d mc ms fl Q n' n kc ks pc L (.long (lz b) :: .long (lz a) :: st) ρ f g := by
  intro ad z D cy sl xs p l e R s m args below meth c Z H locs ls C hW hS hL
  have h1 := h ad z D cy sl xs p l e R s m args below meth c Z H locs ls C hW hS hL
  rw [← hv] at h1
  exact lv_lrem C.1 C.2.1 hd hne h1
theorem V_land {a b v : Int} (hd : decode cc pc = .ok (.land, 1)) (hv : lz a &&& lz b = lz v) (h : V y cc nL rt d mc ms fl Q n' n kc ks (pc + 1) L (.long (lz v) :: st) ρ f g) : V y cc nL rt d mc ms fl Q n' n kc ks pc L (.long (lz b) :: .long (lz a) :: st) ρ f g := by
  intro ad z D cy sl xs p l e R s m args below meth c Z H locs ls C hW hS hL
  have h1 := h ad z D cy sl xs p l e R s m args below meth c Z H locs ls C hW hS hL
  rw [← hv] at h1
  exact lv_land C.1 C.2.1 hd  h1
theorem V_lor {a b v : Int} (hd : decode cc pc = .ok (.lor, 1)) (hv : lz a ||| lz b = lz v) (h : V y cc nL rt d mc ms fl Q n' n kc ks (pc + 1) L (.long (lz v) :: st) ρ f g) : V y cc nL rt d mc ms fl Q n' n kc ks pc L (.long (lz b) :: .long (lz a) :: st) ρ f g := by
  intro ad z D cy sl xs p l e R s m args below meth c Z H locs ls C hW hS hL
  have h1 := h ad z D cy sl xs p l e R s m args below meth c Z H locs ls C hW hS hL
  rw [← hv] at h1
  exact lv_lor C.1 C.2.1 hd  h1
theorem V_lshl {a b v : Int} (hd : decode cc pc = .ok (.lshl, 1)) (hv : lz a <<< ((iz b).toInt64 &&& 63) = lz v) (h : V y cc nL rt d mc ms fl Q n' n kc ks (pc + 1) L (.long (lz v) :: st) ρ f g) : V y cc nL rt d mc ms fl Q n' n kc ks pc L (.int (iz b) :: .long (lz a) :: st) ρ f g := by
  intro ad z D cy sl xs p l e R s m args below meth c Z H locs ls C hW hS hL
  have h1 := h ad z D cy sl xs p l e R s m args below meth c Z H locs ls C hW hS hL
  exact lv_lshl C.1 C.2.1 hd hv h1
theorem V_lshr {a b v : Int} (hd : decode cc pc = .ok (.lshr, 1)) (hv : lz a >>> ((iz b).toInt64 &&& 63) = lz v) (h : V y cc nL rt d mc ms fl Q n' n kc ks (pc + 1) L (.long (lz v) :: st) ρ f g) : V y cc nL rt d mc ms fl Q n' n kc ks pc L (.int (iz b) :: .long (lz a) :: st) ρ f g := by
  intro ad z D cy sl xs p l e R s m args below meth c Z H locs ls C hW hS hL
  have h1 := h ad z D cy sl xs p l e R s m args below meth c Z H locs ls C hW hS hL
  exact lv_lshr C.1 C.2.1 hd hv h1
theorem V_i2l {a : Int} (hd : decode cc pc = .ok (.i2l, 1)) (ha : ri a) (h : V y cc nL rt d mc ms fl Q n' n kc ks (pc + 1) L (.long (lz a) :: st) ρ f g) : V y cc nL rt d mc ms fl Q n' n kc ks pc L (.int (iz a) :: st) ρ f g := by
  intro ad z D cy sl xs p l e R s m args below meth c Z H locs ls C hW hS hL
  have h1 := h ad z D cy sl xs p l e R s m args below meth c Z H locs ls C hW hS hL
  exact lv_i2l C.1 C.2.1 hd (iz_l ha) h1
theorem V_l2i {a : Int} (hd : decode cc pc = .ok (.l2i, 1))  (h : V y cc nL rt d mc ms fl Q n' n kc ks (pc + 1) L (.int (iz a) :: st) ρ f g) : V y cc nL rt d mc ms fl Q n' n kc ks pc L (.long (lz a) :: st) ρ f g := by
  intro ad z D cy sl xs p l e R s m args below meth c Z H locs ls C hW hS hL
  have h1 := h ad z D cy sl xs p l e R s m args below meth c Z H locs ls C hW hS hL
  exact lv_l2i C.1 C.2.1 hd (lz_i a) h1
theorem V_iconst {a : Int} (hd : decode cc pc = .ok (.iconst a, 1))  (h : V y cc nL rt d mc ms fl Q n' n kc ks (pc + 1) L (.int (iz a) :: st) ρ f g) : V y cc nL rt d mc ms fl Q n' n kc ks pc L (st) ρ f g := by
  intro ad z D cy sl xs p l e R s m args below meth c Z H locs ls C hW hS hL
  have h1 := h ad z D cy sl xs p l e R s m args below meth c Z H locs ls C hW hS hL
  exact lv_iconst C.1 C.2.1 hd rfl h1
theorem V_lconst {k : Fin 2} {a : Int} (hd : decode cc pc = .ok (.lconst k, 1)) (hv : Int64.ofNat (k : Nat) = lz a) (h : V y cc nL rt d mc ms fl Q n' n kc ks (pc + 1) L (.long (lz a) :: st) ρ f g) : V y cc nL rt d mc ms fl Q n' n kc ks pc L (st) ρ f g := by
  intro ad z D cy sl xs p l e R s m args below meth c Z H locs ls C hW hS hL
  have h1 := h ad z D cy sl xs p l e R s m args below meth c Z H locs ls C hW hS hL
  exact lv_lconst C.1 C.2.1 hd hv h1
theorem V_bipush {a : Int} (hd : decode cc pc = .ok (.bipush a, 2)) (hv : (Int8.ofInt a).toInt32 = iz a) (h : V y cc nL rt d mc ms fl Q n' n kc ks (pc + 2) L (.int (iz a) :: st) ρ f g) : V y cc nL rt d mc ms fl Q n' n kc ks pc L (st) ρ f g := by
  intro ad z D cy sl xs p l e R s m args below meth c Z H locs ls C hW hS hL
  have h1 := h ad z D cy sl xs p l e R s m args below meth c Z H locs ls C hW hS hL
  exact lv_bipush C.1 C.2.1 hd hv h1
theorem V_sipush {a : Int} (hd : decode cc pc = .ok (.sipush a, 3)) (hv : (Int16.ofInt a).toInt32 = iz a) (h : V y cc nL rt d mc ms fl Q n' n kc ks (pc + 3) L (.int (iz a) :: st) ρ f g) : V y cc nL rt d mc ms fl Q n' n kc ks pc L (st) ρ f g := by
  intro ad z D cy sl xs p l e R s m args below meth c Z H locs ls C hW hS hL
  have h1 := h ad z D cy sl xs p l e R s m args below meth c Z H locs ls C hW hS hL
  exact lv_sipush C.1 C.2.1 hd hv h1
theorem V_ldc {a : Int} {v : Int32} {idx : Nat} (hm : Cond.constant y.cls idx v ∈ tblG) (hv : v = iz a) (hd : decode cc pc = .ok (.ldc idx, 2)) (h : V y cc nL rt d mc ms fl Q n' n kc ks (pc + 2) L (.int (iz a) :: st) ρ f g) : V y cc nL rt d mc ms fl Q n' n kc ks pc L st ρ f g := by
  intro ad z D cy sl xs p l e R s m args below meth c Z H locs ls C hW hS hL
  have h1 := h ad z D cy sl xs p l e R s m args below meth c Z H locs ls C hW hS hL
  subst hv
  exact lv_ldc C.1 C.2.1 C.2.2.2.1 (C.2.2.2.2.1 _ hm) hd h1
theorem V_ldc_w {a : Int} {v : Int32} {idx : Nat} (hm : Cond.constant y.cls idx v ∈ tblG) (hv : v = iz a) (hd : decode cc pc = .ok (.ldc_w idx, 3)) (h : V y cc nL rt d mc ms fl Q n' n kc ks (pc + 3) L (.int (iz a) :: st) ρ f g) : V y cc nL rt d mc ms fl Q n' n kc ks pc L st ρ f g := by
  intro ad z D cy sl xs p l e R s m args below meth c Z H locs ls C hW hS hL
  have h1 := h ad z D cy sl xs p l e R s m args below meth c Z H locs ls C hW hS hL
  subst hv
  exact lv_ldcw C.1 C.2.1 C.2.2.2.1 (C.2.2.2.2.1 _ hm) hd h1
theorem V_ldc2_w {a : Int} {v : Int64} {idx : Nat} (hm : Cond.constantLong y.cls idx v ∈ tblG) (hv : v = lz a) (hd : decode cc pc = .ok (.ldc2_w idx, 3)) (h : V y cc nL rt d mc ms fl Q n' n kc ks (pc + 3) L (.long (lz a) :: st) ρ f g) : V y cc nL rt d mc ms fl Q n' n kc ks pc L st ρ f g := by
  intro ad z D cy sl xs p l e R s m args below meth c Z H locs ls C hW hS hL
  have h1 := h ad z D cy sl xs p l e R s m args below meth c Z H locs ls C hW hS hL
  subst hv
  exact lv_ldc2 C.1 C.2.1 C.2.2.2.1 (C.2.2.2.2.1 _ hm) hd h1
theorem V_dup {v : Value} (hd : decode cc pc = .ok (.dup, 1)) (hc : v.category = 1) (h : V y cc nL rt d mc ms fl Q n' n kc ks (pc + 1) L (v :: v :: st) ρ f g) : V y cc nL rt d mc ms fl Q n' n kc ks pc L (v :: st) ρ f g := by
  intro ad z D cy sl xs p l e R s m args below meth c Z H locs ls C hW hS hL
  have h1 := h ad z D cy sl xs p l e R s m args below meth c Z H locs ls C hW hS hL
  exact lv_dup C.1 C.2.1 hd (by rw [cv_cat]; exact hc) h1
theorem V_pop {v : Value} (hd : decode cc pc = .ok (.pop, 1)) (hc : v.category = 1) (h : V y cc nL rt d mc ms fl Q n' n kc ks (pc + 1) L (st) ρ f g) : V y cc nL rt d mc ms fl Q n' n kc ks pc L (v :: st) ρ f g := by
  intro ad z D cy sl xs p l e R s m args below meth c Z H locs ls C hW hS hL
  have h1 := h ad z D cy sl xs p l e R s m args below meth c Z H locs ls C hW hS hL
  exact lv_pop C.1 C.2.1 hd (by rw [cv_cat]; exact hc) h1
theorem V_dup2 {v w : Value} (hd : decode cc pc = .ok (.dup2, 1)) (hc : v.category = 1) (hc2 : w.category = 1) (h : V y cc nL rt d mc ms fl Q n' n kc ks (pc + 1) L (v :: w :: v :: w :: st) ρ f g) : V y cc nL rt d mc ms fl Q n' n kc ks pc L (v :: w :: st) ρ f g := by
  intro ad z D cy sl xs p l e R s m args below meth c Z H locs ls C hW hS hL
  have h1 := h ad z D cy sl xs p l e R s m args below meth c Z H locs ls C hW hS hL
  exact lv_dup2_11 C.1 C.2.1 hd (by rw [cv_cat]; exact hc) (by rw [cv_cat]; exact hc2) h1
def cmpz (a b : Int) : Int := if a < b then -1 else if a = b then 0 else 1
theorem cmpz_lg {a b : Int} (ha : rl a) (hb : rl b) : lg_cmp (lz a) (lz b) = iz (cmpz a b) := by
  unfold lg_cmp cmpz
  rcases Int.lt_trichotomy a b with h1 | h1 | h1
  · have e1 : ¬ lz b < lz a := fun h => by have := (lz_lt hb ha).mp h; omega
    have e2 : ¬ lz a = lz b := fun h => by have := (lz_inj ha hb).mp h; omega
    rw [if_neg e1, if_neg e2, if_pos h1]
    rfl
  · subst h1
    have e1 : ¬ lz a < lz a := fun h => by have := (lz_lt ha ha).mp h; omega
    rw [if_neg e1, if_pos rfl, if_neg (Int.lt_irrefl a), if_pos rfl]
    rfl
  · rw [if_pos ((lz_lt hb ha).mpr h1), if_neg (by omega), if_neg (by omega)]
    rfl
theorem V_lcmp {a b : Int} (hd : decode cc pc = .ok (.lcmp, 1)) (ha : rl a) (hb : rl b) (h : V y cc nL rt d mc ms fl Q n' n kc ks (pc + 1) L (.int (iz (cmpz a b)) :: st) ρ f g) : V y cc nL rt d mc ms fl Q n' n kc ks pc L (.long (lz b) :: .long (lz a) :: st) ρ f g := by
  intro ad z D cy sl xs p l e R s m args below meth c Z H locs ls C hW hS hL
  have h1 := h ad z D cy sl xs p l e R s m args below meth c Z H locs ls C hW hS hL
  rw [← cmpz_lg ha hb] at h1
  exact W.lcmp C.1 C.2.1 hd  h1
theorem iz_z {a : Int} (ha : ri a) : iz a = 0 ↔ a = 0 := iz_inj (b := 0) ha (by unfold ri; omega)
theorem iz_nz {a : Int} (ha : ri a) : ¬ iz a = 0 ↔ ¬ a = 0 := not_congr (iz_z ha)
theorem iz_ltz {a : Int} (ha : ri a) : iz a < 0 ↔ a < 0 := iz_lt (b := 0) ha (by unfold ri; omega)
theorem iz_gez {a : Int} (ha : ri a) : 0 ≤ iz a ↔ 0 ≤ a := iz_le (a := 0) (by unfold ri; omega) ha
theorem iz_gtz {a : Int} (ha : ri a) : 0 < iz a ↔ 0 < a := iz_lt (a := 0) (by unfold ri; omega) ha
theorem iz_lez {a : Int} (ha : ri a) : iz a ≤ 0 ↔ a ≤ 0 := iz_le (b := 0) ha (by unfold ri; omega)
theorem V_icmp_eq {a b : Int} {off : Int} {tgt : Nat} (hd : decode cc pc = .ok (.if_icmp .eq off, 3)) (hg : (pc : Int) + off = (tgt : Int)) (ha : ri a) (hb : ri b) (ht : a = b → V y cc nL rt d mc ms fl Q n' n kc ks tgt L st ρ f g) (hf : ¬ (a = b) → V y cc nL rt d mc ms fl Q n' n kc ks (pc + 3) L st ρ f g) : V y cc nL rt d mc ms fl Q n' n kc ks pc L (.int (iz b) :: .int (iz a) :: st) ρ f g := by
  intro ad z D cy sl xs p l e R s m args below meth c Z H locs ls C hW hS hL
  exact lv_icmp_eq C.1 C.2.1 hd hg (fun h0 => ht ((iz_inj ha hb).mp h0) ad z D cy sl xs p l e R s m args below meth c Z H locs ls C hW hS hL) (fun h0 => hf (fun h9 => h0 ((iz_inj ha hb).mpr h9)) ad z D cy sl xs p l e R s m args below meth c Z H locs ls C hW hS hL)
theorem V_icmp_ne {a b : Int} {off : Int} {tgt : Nat} (hd : decode cc pc = .ok (.if_icmp .ne off, 3)) (hg : (pc : Int) + off = (tgt : Int)) (ha : ri a) (hb : ri b) (ht : ¬ a = b → V y cc nL rt d mc ms fl Q n' n kc ks tgt L st ρ f g) (hf : a = b → V y cc nL rt d mc ms fl Q n' n kc ks (pc + 3) L st ρ f g) : V y cc nL rt d mc ms fl Q n' n kc ks pc L (.int (iz b) :: .int (iz a) :: st) ρ f g := by
  intro ad z D cy sl xs p l e R s m args below meth c Z H locs ls C hW hS hL
  exact lv_icmp_ne C.1 C.2.1 hd hg (fun h0 => ht (fun h9 => h0 ((iz_inj ha hb).mpr h9)) ad z D cy sl xs p l e R s m args below meth c Z H locs ls C hW hS hL) (fun h0 => hf ((iz_inj ha hb).mp h0) ad z D cy sl xs p l e R s m args below meth c Z H locs ls C hW hS hL)
theorem V_icmp_lt {a b : Int} {off : Int} {tgt : Nat} (hd : decode cc pc = .ok (.if_icmp .lt off, 3)) (hg : (pc : Int) + off = (tgt : Int)) (ha : ri a) (hb : ri b) (ht : a < b → V y cc nL rt d mc ms fl Q n' n kc ks tgt L st ρ f g) (hf : ¬ (a < b) → V y cc nL rt d mc ms fl Q n' n kc ks (pc + 3) L st ρ f g) : V y cc nL rt d mc ms fl Q n' n kc ks pc L (.int (iz b) :: .int (iz a) :: st) ρ f g := by
  intro ad z D cy sl xs p l e R s m args below meth c Z H locs ls C hW hS hL
  exact lv_icmp_lt C.1 C.2.1 hd hg (fun h0 => ht ((iz_lt ha hb).mp h0) ad z D cy sl xs p l e R s m args below meth c Z H locs ls C hW hS hL) (fun h0 => hf (fun h9 => h0 ((iz_lt ha hb).mpr h9)) ad z D cy sl xs p l e R s m args below meth c Z H locs ls C hW hS hL)
theorem V_icmp_ge {a b : Int} {off : Int} {tgt : Nat} (hd : decode cc pc = .ok (.if_icmp .ge off, 3)) (hg : (pc : Int) + off = (tgt : Int)) (ha : ri a) (hb : ri b) (ht : b ≤ a → V y cc nL rt d mc ms fl Q n' n kc ks tgt L st ρ f g) (hf : ¬ (b ≤ a) → V y cc nL rt d mc ms fl Q n' n kc ks (pc + 3) L st ρ f g) : V y cc nL rt d mc ms fl Q n' n kc ks pc L (.int (iz b) :: .int (iz a) :: st) ρ f g := by
  intro ad z D cy sl xs p l e R s m args below meth c Z H locs ls C hW hS hL
  exact lv_icmp_ge C.1 C.2.1 hd hg (fun h0 => ht ((iz_le hb ha).mp h0) ad z D cy sl xs p l e R s m args below meth c Z H locs ls C hW hS hL) (fun h0 => hf (fun h9 => h0 ((iz_le hb ha).mpr h9)) ad z D cy sl xs p l e R s m args below meth c Z H locs ls C hW hS hL)
theorem V_icmp_gt {a b : Int} {off : Int} {tgt : Nat} (hd : decode cc pc = .ok (.if_icmp .gt off, 3)) (hg : (pc : Int) + off = (tgt : Int)) (ha : ri a) (hb : ri b) (ht : b < a → V y cc nL rt d mc ms fl Q n' n kc ks tgt L st ρ f g) (hf : ¬ (b < a) → V y cc nL rt d mc ms fl Q n' n kc ks (pc + 3) L st ρ f g) : V y cc nL rt d mc ms fl Q n' n kc ks pc L (.int (iz b) :: .int (iz a) :: st) ρ f g := by
  intro ad z D cy sl xs p l e R s m args below meth c Z H locs ls C hW hS hL
  exact lv_icmp_gt C.1 C.2.1 hd hg (fun h0 => ht ((iz_lt hb ha).mp h0) ad z D cy sl xs p l e R s m args below meth c Z H locs ls C hW hS hL) (fun h0 => hf (fun h9 => h0 ((iz_lt hb ha).mpr h9)) ad z D cy sl xs p l e R s m args below meth c Z H locs ls C hW hS hL)
theorem V_icmp_le {a b : Int} {off : Int} {tgt : Nat} (hd : decode cc pc = .ok (.if_icmp .le off, 3)) (hg : (pc : Int) + off = (tgt : Int)) (ha : ri a) (hb : ri b) (ht : a ≤ b → V y cc nL rt d mc ms fl Q n' n kc ks tgt L st ρ f g) (hf : ¬ (a ≤ b) → V y cc nL rt d mc ms fl Q n' n kc ks (pc + 3) L st ρ f g) : V y cc nL rt d mc ms fl Q n' n kc ks pc L (.int (iz b) :: .int (iz a) :: st) ρ f g := by
  intro ad z D cy sl xs p l e R s m args below meth c Z H locs ls C hW hS hL
  exact lv_icmp_le C.1 C.2.1 hd hg (fun h0 => ht ((iz_le ha hb).mp h0) ad z D cy sl xs p l e R s m args below meth c Z H locs ls C hW hS hL) (fun h0 => hf (fun h9 => h0 ((iz_le ha hb).mpr h9)) ad z D cy sl xs p l e R s m args below meth c Z H locs ls C hW hS hL)
theorem V_if_eq {a : Int} {off : Int} {tgt : Nat} (hd : decode cc pc = .ok (.ifCond .eq off, 3)) (hg : (pc : Int) + off = (tgt : Int)) (ha : ri a) (ht : a = 0 → V y cc nL rt d mc ms fl Q n' n kc ks tgt L st ρ f g) (hf : ¬ (a = 0) → V y cc nL rt d mc ms fl Q n' n kc ks (pc + 3) L st ρ f g) : V y cc nL rt d mc ms fl Q n' n kc ks pc L (.int (iz a) :: st) ρ f g := by
  intro ad z D cy sl xs p l e R s m args below meth c Z H locs ls C hW hS hL
  exact lv_if_eq C.1 C.2.1 hd hg (fun h0 => ht ((iz_z ha).mp h0) ad z D cy sl xs p l e R s m args below meth c Z H locs ls C hW hS hL) (fun h0 => hf (fun h9 => h0 ((iz_z ha).mpr h9)) ad z D cy sl xs p l e R s m args below meth c Z H locs ls C hW hS hL)
theorem V_if_ne {a : Int} {off : Int} {tgt : Nat} (hd : decode cc pc = .ok (.ifCond .ne off, 3)) (hg : (pc : Int) + off = (tgt : Int)) (ha : ri a) (ht : ¬ a = 0 → V y cc nL rt d mc ms fl Q n' n kc ks tgt L st ρ f g) (hf : a = 0 → V y cc nL rt d mc ms fl Q n' n kc ks (pc + 3) L st ρ f g) : V y cc nL rt d mc ms fl Q n' n kc ks pc L (.int (iz a) :: st) ρ f g := by
  intro ad z D cy sl xs p l e R s m args below meth c Z H locs ls C hW hS hL
  exact lv_if_ne C.1 C.2.1 hd hg (fun h0 => ht (fun h9 => h0 ((iz_z ha).mpr h9)) ad z D cy sl xs p l e R s m args below meth c Z H locs ls C hW hS hL) (fun h0 => hf ((iz_z ha).mp h0) ad z D cy sl xs p l e R s m args below meth c Z H locs ls C hW hS hL)
theorem V_if_lt {a : Int} {off : Int} {tgt : Nat} (hd : decode cc pc = .ok (.ifCond .lt off, 3)) (hg : (pc : Int) + off = (tgt : Int)) (ha : ri a) (ht : a < 0 → V y cc nL rt d mc ms fl Q n' n kc ks tgt L st ρ f g) (hf : ¬ (a < 0) → V y cc nL rt d mc ms fl Q n' n kc ks (pc + 3) L st ρ f g) : V y cc nL rt d mc ms fl Q n' n kc ks pc L (.int (iz a) :: st) ρ f g := by
  intro ad z D cy sl xs p l e R s m args below meth c Z H locs ls C hW hS hL
  exact lv_if_lt C.1 C.2.1 hd hg (fun h0 => ht ((iz_ltz ha).mp h0) ad z D cy sl xs p l e R s m args below meth c Z H locs ls C hW hS hL) (fun h0 => hf (fun h9 => h0 ((iz_ltz ha).mpr h9)) ad z D cy sl xs p l e R s m args below meth c Z H locs ls C hW hS hL)
theorem V_if_ge {a : Int} {off : Int} {tgt : Nat} (hd : decode cc pc = .ok (.ifCond .ge off, 3)) (hg : (pc : Int) + off = (tgt : Int)) (ha : ri a) (ht : 0 ≤ a → V y cc nL rt d mc ms fl Q n' n kc ks tgt L st ρ f g) (hf : ¬ (0 ≤ a) → V y cc nL rt d mc ms fl Q n' n kc ks (pc + 3) L st ρ f g) : V y cc nL rt d mc ms fl Q n' n kc ks pc L (.int (iz a) :: st) ρ f g := by
  intro ad z D cy sl xs p l e R s m args below meth c Z H locs ls C hW hS hL
  exact lv_if_ge C.1 C.2.1 hd hg (fun h0 => ht ((iz_gez ha).mp h0) ad z D cy sl xs p l e R s m args below meth c Z H locs ls C hW hS hL) (fun h0 => hf (fun h9 => h0 ((iz_gez ha).mpr h9)) ad z D cy sl xs p l e R s m args below meth c Z H locs ls C hW hS hL)
theorem V_if_gt {a : Int} {off : Int} {tgt : Nat} (hd : decode cc pc = .ok (.ifCond .gt off, 3)) (hg : (pc : Int) + off = (tgt : Int)) (ha : ri a) (ht : 0 < a → V y cc nL rt d mc ms fl Q n' n kc ks tgt L st ρ f g) (hf : ¬ (0 < a) → V y cc nL rt d mc ms fl Q n' n kc ks (pc + 3) L st ρ f g) : V y cc nL rt d mc ms fl Q n' n kc ks pc L (.int (iz a) :: st) ρ f g := by
  intro ad z D cy sl xs p l e R s m args below meth c Z H locs ls C hW hS hL
  exact lv_if_gt C.1 C.2.1 hd hg (fun h0 => ht ((iz_gtz ha).mp h0) ad z D cy sl xs p l e R s m args below meth c Z H locs ls C hW hS hL) (fun h0 => hf (fun h9 => h0 ((iz_gtz ha).mpr h9)) ad z D cy sl xs p l e R s m args below meth c Z H locs ls C hW hS hL)
theorem V_if_le {a : Int} {off : Int} {tgt : Nat} (hd : decode cc pc = .ok (.ifCond .le off, 3)) (hg : (pc : Int) + off = (tgt : Int)) (ha : ri a) (ht : a ≤ 0 → V y cc nL rt d mc ms fl Q n' n kc ks tgt L st ρ f g) (hf : ¬ (a ≤ 0) → V y cc nL rt d mc ms fl Q n' n kc ks (pc + 3) L st ρ f g) : V y cc nL rt d mc ms fl Q n' n kc ks pc L (.int (iz a) :: st) ρ f g := by
  intro ad z D cy sl xs p l e R s m args below meth c Z H locs ls C hW hS hL
  exact lv_if_le C.1 C.2.1 hd hg (fun h0 => ht ((iz_lez ha).mp h0) ad z D cy sl xs p l e R s m args below meth c Z H locs ls C hW hS hL) (fun h0 => hf (fun h9 => h0 ((iz_lez ha).mpr h9)) ad z D cy sl xs p l e R s m args below meth c Z H locs ls C hW hS hL)
/-- a truth value on the stack -/
theorem V_bt {b : Bool} {off : Int} {tgt : Nat} (hd : decode cc pc = .ok (.ifCond .eq off, 3)) (hg : (pc : Int) + off = (tgt : Int)) (ht : b = false → V y cc nL rt d mc ms fl Q n' n kc ks tgt L st ρ f g) (hf : b = true → V y cc nL rt d mc ms fl Q n' n kc ks (pc + 3) L st ρ f g) : V y cc nL rt d mc ms fl Q n' n kc ks pc L (.int (iz (bz b)) :: st) ρ f g :=
  V_if_eq hd hg (bz_ri b) (fun h => ht (by cases b <;> simp_all [bz])) (fun h => hf (by cases b <;> simp_all [bz]))
theorem V_bf {b : Bool} {off : Int} {tgt : Nat} (hd : decode cc pc = .ok (.ifCond .ne off, 3)) (hg : (pc : Int) + off = (tgt : Int)) (ht : b = true → V y cc nL rt d mc ms fl Q n' n kc ks tgt L st ρ f g) (hf : b = false → V y cc nL rt d mc ms fl Q n' n kc ks (pc + 3) L st ρ f g) : V y cc nL rt d mc ms fl Q n' n kc ks pc L (.int (iz (bz b)) :: st) ρ f g :=
  V_if_ne hd hg (bz_ri b) (fun h => ht (by cases b <;> simp_all [bz])) (fun h => hf (by cases b <;> simp_all [bz]))
theorem V_goto {off : Int} {tgt : Nat} (hd : decode cc pc = .ok (.goto off, 3)) (hg : (pc : Int) + off = (tgt : Int)) (h : V y cc nL rt d mc ms fl Q n' n kc ks tgt L st ρ f g) : V y cc nL rt d mc ms fl Q n' n kc ks pc L st ρ f g := by
  intro ad z D cy sl xs p l e R s m args below meth c Z H locs ls C hW hS hL
  exact lv_goto C.1 C.2.1 hd hg (h ad z D cy sl xs p l e R s m args below meth c Z H locs ls C hW hS hL)
theorem V_il0n {x : Int} {l : List Value} (hd : decode cc pc = .ok (.iload_n 0, 1)) (h : V y cc nL rt d mc ms fl Q n' n kc ks (pc + 1) (.int (iz x) :: l) (.int (iz x) :: st) ρ f g) : V y cc nL rt d mc ms fl Q n' n kc ks pc (.int (iz x) :: l) st ρ f g := by
  intro ad z D cy sl xs p l0 e R s m args below meth c Z H locs ls C hW hS hL
  exact lv_iload_n C.1 C.2.1 hd rfl (lk_at hL (i := 0) (v := .int (iz x)) rfl rfl) (h ad z D cy sl xs p l0 e R s m args below meth c Z H locs ls C hW hS hL)
theorem V_il0 {x : Int} {l : List Value} (hd : decode cc pc = .ok (.iload 0, 2)) (h : V y cc nL rt d mc ms fl Q n' n kc ks (pc + 2) (.int (iz x) :: l) (.int (iz x) :: st) ρ f g) : V y cc nL rt d mc ms fl Q n' n kc ks pc (.int (iz x) :: l) st ρ f g := by
  intro ad z D cy sl xs p l0 e R s m args below meth c Z H locs ls C hW hS hL
  exact lv_iload C.1 C.2.1 hd  (lk_at hL (i := 0) (v := .int (iz x)) rfl rfl) (h ad z D cy sl xs p l0 e R s m args below meth c Z H locs ls C hW hS hL)
theorem V_ll0n {x : Int} {l : List Value} (hd : decode cc pc = .ok (.lload_n 0, 1)) (h : V y cc nL rt d mc ms fl Q n' n kc ks (pc + 1) (.long (lz x) :: l) (.long (lz x) :: st) ρ f g) : V y cc nL rt d mc ms fl Q n' n kc ks pc (.long (lz x) :: l) st ρ f g := by
  intro ad z D cy sl xs p l0 e R s m args below meth c Z H locs ls C hW hS hL
  exact lv_lload_n C.1 C.2.1 hd rfl (lk_at hL (i := 0) (v := .long (lz x)) rfl rfl) (h ad z D cy sl xs p l0 e R s m args below meth c Z H locs ls C hW hS hL)
theorem V_ll0 {x : Int} {l : List Value} (hd : decode cc pc = .ok (.lload 0, 2)) (h : V y cc nL rt d mc ms fl Q n' n kc ks (pc + 2) (.long (lz x) :: l) (.long (lz x) :: st) ρ f g) : V y cc nL rt d mc ms fl Q n' n kc ks pc (.long (lz x) :: l) st ρ f g := by
  intro ad z D cy sl xs p l0 e R s m args below meth c Z H locs ls C hW hS hL
  exact lv_lload C.1 C.2.1 hd  (lk_at hL (i := 0) (v := .long (lz x)) rfl rfl) (h ad z D cy sl xs p l0 e R s m args below meth c Z H locs ls C hW hS hL)
theorem V_al0n {x : Nat} {l : List Value} (hd : decode cc pc = .ok (.aload_n 0, 1)) (h : V y cc nL rt d mc ms fl Q n' n kc ks (pc + 1) (.ref x :: l) (.ref x :: st) ρ f g) : V y cc nL rt d mc ms fl Q n' n kc ks pc (.ref x :: l) st ρ f g := by
  intro ad z D cy sl xs p l0 e R s m args below meth c Z H locs ls C hW hS hL
  exact lv_aload_n C.1 C.2.1 hd rfl (lk_at hL (i := 0) (v := .ref x) rfl rfl) (h ad z D cy sl xs p l0 e R s m args below meth c Z H locs ls C hW hS hL)
theorem V_al0 {x : Nat} {l : List Value} (hd : decode cc pc = .ok (.aload 0, 2)) (h : V y cc nL rt d mc ms fl Q n' n kc ks (pc + 2) (.ref x :: l) (.ref x :: st) ρ f g) : V y cc nL rt d mc ms fl Q n' n kc ks pc (.ref x :: l) st ρ f g := by
  intro ad z D cy sl xs p l0 e R s m args below meth c Z H locs ls C hW hS hL
  exact lv_aload C.1 C.2.1 hd  (lk_at hL (i := 0) (v := .ref x) rfl rfl) (h ad z D cy sl xs p l0 e R s m args below meth c Z H locs ls C hW hS hL)
theorem V_il1n {a0 : Value} {x : Int} {l : List Value} (hd : decode cc pc = .ok (.iload_n 1, 1)) (h : V y cc nL rt d mc ms fl Q n' n kc ks (pc + 1) (a0 :: .int (iz x) :: l) (.int (iz x) :: st) ρ f g) : V y cc nL rt d mc ms fl Q n' n kc ks pc (a0 :: .int (iz x) :: l) st ρ f g := by
  intro ad z D cy sl xs p l0 e R s m args below meth c Z H locs ls C hW hS hL
  exact lv_iload_n C.1 C.2.1 hd rfl (lk_at hL (i := 1) (v := .int (iz x)) rfl rfl) (h ad z D cy sl xs p l0 e R s m args below meth c Z H locs ls C hW hS hL)
theorem V_il1 {a0 : Value} {x : Int} {l : List Value} (hd : decode cc pc = .ok (.iload 1, 2)) (h : V y cc nL rt d mc ms fl Q n' n kc ks (pc + 2) (a0 :: .int (iz x) :: l) (.int (iz x) :: st) ρ f g) : V y cc nL rt d mc ms fl Q n' n kc ks pc (a0 :: .int (iz x) :: l) st ρ f g := by
  intro ad z D cy sl xs p l0 e R s m args below meth c Z H locs ls C hW hS hL
  exact lv_iload C.1 C.2.1 hd  (lk_at hL (i := 1) (v := .int (iz x)) rfl rfl) (h ad z D cy sl xs p l0 e R s m args below meth c Z H locs ls C hW hS hL)
theorem V_ll1n {a0 : Value} {x : Int} {l : List Value} (hd : decode cc pc = .ok (.lload_n 1, 1)) (h : V y cc nL rt d mc ms fl Q n' n kc ks (pc + 1) (a0 :: .long (lz x) :: l) (.long (lz x) :: st) ρ f g) : V y cc nL rt d mc ms fl Q n' n kc ks pc (a0 :: .long (lz x) :: l) st ρ f g := by
  intro ad z D cy sl xs p l0 e R s m args below meth c Z H locs ls C hW hS hL
  exact lv_lload_n C.1 C.2.1 hd rfl (lk_at hL (i := 1) (v := .long (lz x)) rfl rfl) (h ad z D cy sl xs p l0 e R s m args below meth c Z H locs ls C hW hS hL)
theorem V_ll1 {a0 : Value} {x : Int} {l : List Value} (hd : decode cc pc = .ok (.lload 1, 2)) (h : V y cc nL rt d mc ms fl Q n' n kc ks (pc + 2) (a0 :: .long (lz x) :: l) (.long (lz x) :: st) ρ f g) : V y cc nL rt d mc ms fl Q n' n kc ks pc (a0 :: .long (lz x) :: l) st ρ f g := by
  intro ad z D cy sl xs p l0 e R s m args below meth c Z H locs ls C hW hS hL
  exact lv_lload C.1 C.2.1 hd  (lk_at hL (i := 1) (v := .long (lz x)) rfl rfl) (h ad z D cy sl xs p l0 e R s m args below meth c Z H locs ls C hW hS hL)
theorem V_al1n {a0 : Value} {x : Nat} {l : List Value} (hd : decode cc pc = .ok (.aload_n 1, 1)) (h : V y cc nL rt d mc ms fl Q n' n kc ks (pc + 1) (a0 :: .ref x :: l) (.ref x :: st) ρ f g) : V y cc nL rt d mc ms fl Q n' n kc ks pc (a0 :: .ref x :: l) st ρ f g := by
  intro ad z D cy sl xs p l0 e R s m args below meth c Z H locs ls C hW hS hL
  exact lv_aload_n C.1 C.2.1 hd rfl (lk_at hL (i := 1) (v := .ref x) rfl rfl) (h ad z D cy sl xs p l0 e R s m args below meth c Z H locs ls C hW hS hL)
theorem V_al1 {a0 : Value} {x : Nat} {l : List Value} (hd : decode cc pc = .ok (.aload 1, 2)) (h : V y cc nL rt d mc ms fl Q n' n kc ks (pc + 2) (a0 :: .ref x :: l) (.ref x :: st) ρ f g) : V y cc nL rt d mc ms fl Q n' n kc ks pc (a0 :: .ref x :: l) st ρ f g := by
  intro ad z D cy sl xs p l0 e R s m args below meth c Z H locs ls C hW hS hL
  exact lv_aload C.1 C.2.1 hd  (lk_at hL (i := 1) (v := .ref x) rfl rfl) (h ad z D cy sl xs p l0 e R s m args below meth c Z H locs ls C hW hS hL)
theorem V_il2n {a0 a1 : Value} {x : Int} {l : List Value} (hd : decode cc pc = .ok (.iload_n 2, 1)) (h : V y cc nL rt d mc ms fl Q n' n kc ks (pc + 1) (a0 :: a1 :: .int (iz x) :: l) (.int (iz x) :: st) ρ f g) : V y cc nL rt d mc ms fl Q n' n kc ks pc (a0 :: a1 :: .int (iz x) :: l) st ρ f g := by
  intro ad z D cy sl xs p l0 e R s m args below meth c Z H locs ls C hW hS hL
  exact lv_iload_n C.1 C.2.1 hd rfl (lk_at hL (i := 2) (v := .int (iz x)) rfl rfl) (h ad z D cy sl xs p l0 e R s m args below meth c Z H locs ls C hW hS hL)
theorem V_il2 {a0 a1 : Value} {x : Int} {l : List Value} (hd : decode cc pc = .ok (.iload 2, 2)) (h : V y cc nL rt d mc ms fl Q n' n kc ks (pc + 2) (a0 :: a1 :: .int (iz x) :: l) (.int (iz x) :: st) ρ f g) : V y cc nL rt d mc ms fl Q n' n kc ks pc (a0 :: a1 :: .int (iz x) :: l) st ρ f g := by
  intro ad z D cy sl xs p l0 e R s m args below meth c Z H locs ls C hW hS hL
  exact lv_iload C.1 C.2.1 hd  (lk_at hL (i := 2) (v := .int (iz x)) rfl rfl) (h ad z D cy sl xs p l0 e R s m args below meth c Z H locs ls C hW hS hL)
theorem V_ll2n {a0 a1 : Value} {x : Int} {l : List Value} (hd : decode cc pc = .ok (.lload_n 2, 1)) (h : V y cc nL rt d mc ms fl Q n' n kc ks (pc + 1) (a0 :: a1 :: .long (lz x) :: l) (.long (lz x) :: st) ρ f g) : V y cc nL rt d mc ms fl Q n' n kc ks pc (a0 :: a1 :: .long (lz x) :: l) st ρ f g := by
  intro ad z D cy sl xs p l0 e R s m args below meth c Z H locs ls C hW hS hL
  exact lv_lload_n C.1 C.2.1 hd rfl (lk_at hL (i := 2) (v := .long (lz x)) rfl rfl) (h ad z D cy sl xs p l0 e R s m args below meth c Z H locs ls C hW hS hL)
theorem V_ll2 {a0 a1 : Value} {x : Int} {l : List Value} (hd : decode cc pc = .ok (.lload 2, 2)) (h : V y cc nL rt d mc ms fl Q n' n kc ks (pc + 2) (a0 :: a1 :: .long (lz x) :: l) (.long (lz x) :: st) ρ f g) : V y cc nL rt d mc ms fl Q n' n kc ks pc (a0 :: a1 :: .long (lz x) :: l) st ρ f g := by
  intro ad z D cy sl xs p l0 e R s m args below meth c Z H locs ls C hW hS hL
  exact lv_lload C.1 C.2.1 hd  (lk_at hL (i := 2) (v := .long (lz x)) rfl rfl) (h ad z D cy sl xs p l0 e R s m args below meth c Z H locs ls C hW hS hL)
theorem V_al2n {a0 a1 : Value} {x : Nat} {l : List Value} (hd : decode cc pc = .ok (.aload_n 2, 1)) (h : V y cc nL rt d mc ms fl Q n' n kc ks (pc + 1) (a0 :: a1 :: .ref x :: l) (.ref x :: st) ρ f g) : V y cc nL rt d mc ms fl Q n' n kc ks pc (a0 :: a1 :: .ref x :: l) st ρ f g := by
  intro ad z D cy sl xs p l0 e R s m args below meth c Z H locs ls C hW hS hL
  exact lv_aload_n C.1 C.2.1 hd rfl (lk_at hL (i := 2) (v := .ref x) rfl rfl) (h ad z D cy sl xs p l0 e R s m args below meth c Z H locs ls C hW hS hL)
theorem V_al2 {a0 a1 : Value} {x : Nat} {l : List Value} (hd : decode cc pc = .ok (.aload 2, 2)) (h : V y cc nL rt d mc ms fl Q n' n kc ks (pc + 2) (a0 :: a1 :: .ref x :: l) (.ref x :: st) ρ f g) : V y cc nL rt d mc ms fl Q n' n kc ks pc (a0 :: a1 :: .ref x :: l) st ρ f g := by
  intro ad z D cy sl xs p l0 e R s m args below meth c Z H locs ls C hW hS hL
  exact lv_aload C.1 C.2.1 hd  (lk_at hL (i := 2) (v := .ref x) rfl rfl) (h ad z D cy sl xs p l0 e R s m args below meth c Z H locs ls C hW hS hL)
theorem V_il3n {a0 a1 a2 : Value} {x : Int} {l : List Value} (hd : decode cc pc = .ok (.iload_n 3, 1)) (h : V y cc nL rt d mc ms fl Q n' n kc ks (pc + 1) (a0 :: a1 :: a2 :: .int (iz x) :: l) (.int (iz x) :: st) ρ f g) : V y cc nL rt d mc ms fl Q n' n kc ks pc (a0 :: a1 :: a2 :: .int (iz x) :: l) st ρ f g := by
  intro ad z D cy sl xs p l0 e R s m args below meth c Z H locs ls C hW hS hL
  exact lv_iload_n C.1 C.2.1 hd rfl (lk_at hL (i := 3) (v := .int (iz x)) rfl rfl) (h ad z D cy sl xs p l0 e R s m args below meth c Z H locs ls C hW hS hL)
theorem V_il3 {a0 a1 a2 : Value} {x : Int} {l : List Value} (hd : decode cc pc = .ok (.iload 3, 2)) (h : V y cc nL rt d mc ms fl Q n' n kc ks (pc + 2) (a0 :: a1 :: a2 :: .int (iz x) :: l) (.int (iz x) :: st) ρ f g) : V y cc nL rt d mc ms fl Q n' n kc ks pc (a0 :: a1 :: a2 :: .int (iz x) :: l) st ρ f g := by
  intro ad z D cy sl xs p l0 e R s m args below meth c Z H locs ls C hW hS hL
  exact lv_iload C.1 C.2.1 hd  (lk_at hL (i := 3) (v := .int (iz x)) rfl rfl) (h ad z D cy sl xs p l0 e R s m args below meth c Z H locs ls C hW hS hL)
theorem V_ll3n {a0 a1 a2 : Value} {x : Int} {l : List Value} (hd : decode cc pc = .ok (.lload_n 3, 1)) (h : V y cc nL rt d mc ms fl Q n' n kc ks (pc + 1) (a0 :: a1 :: a2 :: .long (lz x) :: l) (.long (lz x) :: st) ρ f g) : V y cc nL rt d mc ms fl Q n' n kc ks pc (a0 :: a1 :: a2 :: .long (lz x) :: l) st ρ f g := by
  intro ad z D cy sl xs p l0 e R s m args below meth c Z H locs ls C hW hS hL
  exact lv_lload_n C.1 C.2.1 hd rfl (lk_at hL (i := 3) (v := .long (lz x)) rfl rfl) (h ad z D cy sl xs p l0 e R s m args below meth c Z H locs ls C hW hS hL)
theorem V_ll3 {a0 a1 a2 : Value} {x : Int} {l : List Value} (hd : decode cc pc = .ok (.lload 3, 2)) (h : V y cc nL rt d mc ms fl Q n' n kc ks (pc + 2) (a0 :: a1 :: a2 :: .long (lz x) :: l) (.long (lz x) :: st) ρ f g) : V y cc nL rt d mc ms fl Q n' n kc ks pc (a0 :: a1 :: a2 :: .long (lz x) :: l) st ρ f g := by
  intro ad z D cy sl xs p l0 e R s m args below meth c Z H locs ls C hW hS hL
  exact lv_lload C.1 C.2.1 hd  (lk_at hL (i := 3) (v := .long (lz x)) rfl rfl) (h ad z D cy sl xs p l0 e R s m args below meth c Z H locs ls C hW hS hL)
theorem V_al3n {a0 a1 a2 : Value} {x : Nat} {l : List Value} (hd : decode cc pc = .ok (.aload_n 3, 1)) (h : V y cc nL rt d mc ms fl Q n' n kc ks (pc + 1) (a0 :: a1 :: a2 :: .ref x :: l) (.ref x :: st) ρ f g) : V y cc nL rt d mc ms fl Q n' n kc ks pc (a0 :: a1 :: a2 :: .ref x :: l) st ρ f g := by
  intro ad z D cy sl xs p l0 e R s m args below meth c Z H locs ls C hW hS hL
  exact lv_aload_n C.1 C.2.1 hd rfl (lk_at hL (i := 3) (v := .ref x) rfl rfl) (h ad z D cy sl xs p l0 e R s m args below meth c Z H locs ls C hW hS hL)
theorem V_al3 {a0 a1 a2 : Value} {x : Nat} {l : List Value} (hd : decode cc pc = .ok (.aload 3, 2)) (h : V y cc nL rt d mc ms fl Q n' n kc ks (pc + 2) (a0 :: a1 :: a2 :: .ref x :: l) (.ref x :: st) ρ f g) : V y cc nL rt d mc ms fl Q n' n kc ks pc (a0 :: a1 :: a2 :: .ref x :: l) st ρ f g := by
  intro ad z D cy sl xs p l0 e R s m args below meth c Z H locs ls C hW hS hL
  exact lv_aload C.1 C.2.1 hd  (lk_at hL (i := 3) (v := .ref x) rfl rfl) (h ad z D cy sl xs p l0 e R s m args below meth c Z H locs ls C hW hS hL)
theorem V_il4 {a0 a1 a2 a3 : Value} {x : Int} {l : List Value} (hd : decode cc pc = .ok (.iload 4, 2)) (h : V y cc nL rt d mc ms fl Q n' n kc ks (pc + 2) (a0 :: a1 :: a2 :: a3 :: .int (iz x) :: l) (.int (iz x) :: st) ρ f g) : V y cc nL rt d mc ms fl Q n' n kc ks pc (a0 :: a1 :: a2 :: a3 :: .int (iz x) :: l) st ρ f g := by
  intro ad z D cy sl xs p l0 e R s m args below meth c Z H locs ls C hW hS hL
  exact lv_iload C.1 C.2.1 hd  (lk_at hL (i := 4) (v := .int (iz x)) rfl rfl) (h ad z D cy sl xs p l0 e R s m args below meth c Z H locs ls C hW hS hL)
theorem V_ll4 {a0 a1 a2 a3 : Value} {x : Int} {l : List Value} (hd : decode cc pc = .ok (.lload 4, 2)) (h : V y cc nL rt d mc ms fl Q n' n kc ks (pc + 2) (a0 :: a1 :: a2 :: a3 :: .long (lz x) :: l) (.long (lz x) :: st) ρ f g) : V y cc nL rt d mc ms fl Q n' n kc ks pc (a0 :: a1 :: a2 :: a3 :: .long (lz x) :: l) st ρ f g := by
  intro ad z D cy sl xs p l0 e R s m args below meth c Z H locs ls C hW hS hL
  exact lv_lload C.1 C.2.1 hd  (lk_at hL (i := 4) (v := .long (lz x)) rfl rfl) (h ad z D cy sl xs p l0 e R s m args below meth c Z H locs ls C hW hS hL)
theorem V_al4 {a0 a1 a2 a3 : Value} {x : Nat} {l : List Value} (hd : decode cc pc = .ok (.aload 4, 2)) (h : V y cc nL rt d mc ms fl Q n' n kc ks (pc + 2) (a0 :: a1 :: a2 :: a3 :: .ref x :: l) (.ref x :: st) ρ f g) : V y cc nL rt d mc ms fl Q n' n kc ks pc (a0 :: a1 :: a2 :: a3 :: .ref x :: l) st ρ f g := by
  intro ad z D cy sl xs p l0 e R s m args below meth c Z H locs ls C hW hS hL
  exact lv_aload C.1 C.2.1 hd  (lk_at hL (i := 4) (v := .ref x) rfl rfl) (h ad z D cy sl xs p l0 e R s m args below meth c Z H locs ls C hW hS hL)
theorem V_il5 {a0 a1 a2 a3 a4 : Value} {x : Int} {l : List Value} (hd : decode cc pc = .ok (.iload 5, 2)) (h : V y cc nL rt d mc ms fl Q n' n kc ks (pc + 2) (a0 :: a1 :: a2 :: a3 :: a4 :: .int (iz x) :: l) (.int (iz x) :: st) ρ f g) : V y cc nL rt d mc ms fl Q n' n kc ks pc (a0 :: a1 :: a2 :: a3 :: a4 :: .int (iz x) :: l) st ρ f g := by
  intro ad z D cy sl xs p l0 e R s m args below meth c Z H locs ls C hW hS hL
  exact lv_iload C.1 C.2.1 hd  (lk_at hL (i := 5) (v := .int (iz x)) rfl rfl) (h ad z D cy sl xs p l0 e R s m args below meth c Z H locs ls C hW hS hL)
theorem V_ll5 {a0 a1 a2 a3 a4 : Value} {x : Int} {l : List Value} (hd : decode cc pc = .ok (.lload 5, 2)) (h : V y cc nL rt d mc ms fl Q n' n kc ks (pc + 2) (a0 :: a1 :: a2 :: a3 :: a4 :: .long (lz x) :: l) (.long (lz x) :: st) ρ f g) : V y cc nL rt d mc ms fl Q n' n kc ks pc (a0 :: a1 :: a2 :: a3 :: a4 :: .long (lz x) :: l) st ρ f g := by
  intro ad z D cy sl xs p l0 e R s m args below meth c Z H locs ls C hW hS hL
  exact lv_lload C.1 C.2.1 hd  (lk_at hL (i := 5) (v := .long (lz x)) rfl rfl) (h ad z D cy sl xs p l0 e R s m args below meth c Z H locs ls C hW hS hL)
theorem V_al5 {a0 a1 a2 a3 a4 : Value} {x : Nat} {l : List Value} (hd : decode cc pc = .ok (.aload 5, 2)) (h : V y cc nL rt d mc ms fl Q n' n kc ks (pc + 2) (a0 :: a1 :: a2 :: a3 :: a4 :: .ref x :: l) (.ref x :: st) ρ f g) : V y cc nL rt d mc ms fl Q n' n kc ks pc (a0 :: a1 :: a2 :: a3 :: a4 :: .ref x :: l) st ρ f g := by
  intro ad z D cy sl xs p l0 e R s m args below meth c Z H locs ls C hW hS hL
  exact lv_aload C.1 C.2.1 hd  (lk_at hL (i := 5) (v := .ref x) rfl rfl) (h ad z D cy sl xs p l0 e R s m args below meth c Z H locs ls C hW hS hL)
theorem V_il6 {a0 a1 a2 a3 a4 a5 : Value} {x : Int} {l : List Value} (hd : decode cc pc = .ok (.iload 6, 2)) (h : V y cc nL rt d mc ms fl Q n' n kc ks (pc + 2) (a0 :: a1 :: a2 :: a3 :: a4 :: a5 :: .int (iz x) :: l) (.int (iz x) :: st) ρ f g) : V y cc nL rt d mc ms fl Q n' n kc ks pc (a0 :: a1 :: a2 :: a3 :: a4 :: a5 :: .int (iz x) :: l) st ρ f g := by
  intro ad z D cy sl xs p l0 e R s m args below meth c Z H locs ls C hW hS hL
  exact lv_iload C.1 C.2.1 hd  (lk_at hL (i := 6) (v := .int (iz x)) rfl rfl) (h ad z D cy sl xs p l0 e R s m args below meth c Z H locs ls C hW hS hL)
theorem V_ll6 {a0 a1 a2 a3 a4 a5 : Value} {x : Int} {l : List Value} (hd : decode cc pc = .ok (.lload 6, 2)) (h : V y cc nL rt d mc ms fl Q n' n kc ks (pc + 2) (a0 :: a1 :: a2 :: a3 :: a4 :: a5 :: .long (lz x) :: l) (.long (lz x) :: st) ρ f g) : V y cc nL rt d mc ms fl Q n' n kc ks pc (a0 :: a1 :: a2 :: a3 :: a4 :: a5 :: .long (lz x) :: l) st ρ f g := by
  intro ad z D cy sl xs p l0 e R s m args below meth c Z H locs ls C hW hS hL
  exact lv_lload C.1 C.2.1 hd  (lk_at hL (i := 6) (v := .long (lz x)) rfl rfl) (h ad z D cy sl xs p l0 e R s m args below meth c Z H locs ls C hW hS hL)
theorem V_al6 {a0 a1 a2 a3 a4 a5 : Value} {x : Nat} {l : List Value} (hd : decode cc pc = .ok (.aload 6, 2)) (h : V y cc nL rt d mc ms fl Q n' n kc ks (pc + 2) (a0 :: a1 :: a2 :: a3 :: a4 :: a5 :: .ref x :: l) (.ref x :: st) ρ f g) : V y cc nL rt d mc ms fl Q n' n kc ks pc (a0 :: a1 :: a2 :: a3 :: a4 :: a5 :: .ref x :: l) st ρ f g := by
  intro ad z D cy sl xs p l0 e R s m args below meth c Z H locs ls C hW hS hL
  exact lv_aload C.1 C.2.1 hd  (lk_at hL (i := 6) (v := .ref x) rfl rfl) (h ad z D cy sl xs p l0 e R s m args below meth c Z H locs ls C hW hS hL)
theorem V_il7 {a0 a1 a2 a3 a4 a5 a6 : Value} {x : Int} {l : List Value} (hd : decode cc pc = .ok (.iload 7, 2)) (h : V y cc nL rt d mc ms fl Q n' n kc ks (pc + 2) (a0 :: a1 :: a2 :: a3 :: a4 :: a5 :: a6 :: .int (iz x) :: l) (.int (iz x) :: st) ρ f g) : V y cc nL rt d mc ms fl Q n' n kc ks pc (a0 :: a1 :: a2 :: a3 :: a4 :: a5 :: a6 :: .int (iz x) :: l) st ρ f g := by
  intro ad z D cy sl xs p l0 e R s m args below meth c Z H locs ls C hW hS hL
  exact lv_iload C.1 C.2.1 hd  (lk_at hL (i := 7) (v := .int (iz x)) rfl rfl) (h ad z D cy sl xs p l0 e R s m args below meth c Z H locs ls C hW hS hL)
theorem V_ll7 {a0 a1 a2 a3 a4 a5 a6 : Value} {x : Int} {l : List Value} (hd : decode cc pc = .ok (.lload 7, 2)) (h : V y cc nL rt d mc ms fl Q n' n kc ks (pc + 2) (a0 :: a1 :: a2 :: a3 :: a4 :: a5 :: a6 :: .long (lz x) :: l) (.long (lz x) :: st) ρ f g) : V y cc nL rt d mc ms fl Q n' n kc ks pc (a0 :: a1 :: a2 :: a3 :: a4 :: a5 :: a6 :: .long (lz x) :: l) st ρ f g := by
  intro ad z D cy sl xs p l0 e R s m args below meth c Z H locs ls C hW hS hL
  exact lv_lload C.1 C.2.1 hd  (lk_at hL (i := 7) (v := .long (lz x)) rfl rfl) (h ad z D cy sl xs p l0 e R s m args below meth c Z H locs ls C hW hS hL)
theorem V_al7 {a0 a1 a2 a3 a4 a5 a6 : Value} {x : Nat} {l : List Value} (hd : decode cc pc = .ok (.aload 7, 2)) (h : V y cc nL rt d mc ms fl Q n' n kc ks (pc + 2) (a0 :: a1 :: a2 :: a3 :: a4 :: a5 :: a6 :: .ref x :: l) (.ref x :: st) ρ f g) : V y cc nL rt d mc ms fl Q n' n kc ks pc (a0 :: a1 :: a2 :: a3 :: a4 :: a5 :: a6 :: .ref x :: l) st ρ f g := by
  intro ad z D cy sl xs p l0 e R s m args below meth c Z H locs ls C hW hS hL
  exact lv_aload C.1 C.2.1 hd  (lk_at hL (i := 7) (v := .ref x) rfl rfl) (h ad z D cy sl xs p l0 e R s m args below meth c Z H locs ls C hW hS hL)
theorem V_il8 {a0 a1 a2 a3 a4 a5 a6 a7 : Value} {x : Int} {l : List Value} (hd : decode cc pc = .ok (.iload 8, 2)) (h : V y cc nL rt d mc ms fl Q n' n kc ks (pc + 2) (a0 :: a1 :: a2 :: a3 :: a4 :: a5 :: a6 :: a7 :: .int (iz x) :: l) (.int (iz x) :: st) ρ f g) : V y cc nL rt d mc ms fl Q n' n kc ks pc (a0 :: a1 :: a2 :: a3 :: a4 :: a5 :: a6 :: a7 :: .int (iz x) :: l) st ρ f g := by
  intro ad z D cy sl xs p l0 e R s m args below meth c Z H locs ls C hW hS hL
  exact lv_iload C.1 C.2.1 hd  (lk_at hL (i := 8) (v := .int (iz x)) rfl rfl) (h ad z D cy sl xs p l0 e R s m args below meth c Z H locs ls C hW hS hL)
theorem V_ll8 {a0 a1 a2 a3 a4 a5 a6 a7 : Value} {x : Int} {l : List Value} (hd : decode cc pc = .ok (.lload 8, 2)) (h : V y cc nL rt d mc ms fl Q n' n kc ks (pc + 2) (a0 :: a1 :: a2 :: a3 :: a4 :: a5 :: a6 :: a7 :: .long (lz x) :: l) (.long (lz x) :: st) ρ f g) : V y cc nL rt d mc ms fl Q n' n kc ks pc (a0 :: a1 :: a2 :: a3 :: a4 :: a5 :: a6 :: a7 :: .long (lz x) :: l) st ρ f g := by
  intro ad z D cy sl xs p l0 e R s m args below meth c Z H locs ls C hW hS hL
  exact lv_lload C.1 C.2.1 hd  (lk_at hL (i := 8) (v := .long (lz x)) rfl rfl) (h ad z D cy sl xs p l0 e R s m args below meth c Z H locs ls C hW hS hL)
theorem V_al8 {a0 a1 a2 a3 a4 a5 a6 a7 : Value} {x : Nat} {l : List Value} (hd : decode cc pc = .ok (.aload 8, 2)) (h : V y cc nL rt d mc ms fl Q n' n kc ks (pc + 2) (a0 :: a1 :: a2 :: a3 :: a4 :: a5 :: a6 :: a7 :: .ref x :: l) (.ref x :: st) ρ f g) : V y cc nL rt d mc ms fl Q n' n kc ks pc (a0 :: a1 :: a2 :: a3 :: a4 :: a5 :: a6 :: a7 :: .ref x :: l) st ρ f g := by
  intro ad z D cy sl xs p l0 e R s m args below meth c Z H locs ls C hW hS hL
  exact lv_aload C.1 C.2.1 hd  (lk_at hL (i := 8) (v := .ref x) rfl rfl) (h ad z D cy sl xs p l0 e R s m args below meth c Z H locs ls C hW hS hL)
theorem V_il9 {a0 a1 a2 a3 a4 a5 a6 a7 a8 : Value} {x : Int} {l : List Value} (hd : decode cc pc = .ok (.iload 9, 2)) (h : V y cc nL rt d mc ms fl Q n' n kc ks (pc + 2) (a0 :: a1 :: a2 :: a3 :: a4 :: a5 :: a6 :: a7 :: a8 :: .int (iz x) :: l) (.int (iz x) :: st) ρ f g) : V y cc nL rt d mc ms fl Q n' n kc ks pc (a0 :: a1 :: a2 :: a3 :: a4 :: a5 :: a6 :: a7 :: a8 :: .int (iz x) :: l) st ρ f g := by
  intro ad z D cy sl xs p l0 e R s m args below meth c Z H locs ls C hW hS hL
  exact lv_iload C.1 C.2.1 hd  (lk_at hL (i := 9) (v := .int (iz x)) rfl rfl) (h ad z D cy sl xs p l0 e R s m args below meth c Z H locs ls C hW hS hL)
theorem V_ll9 {a0 a1 a2 a3 a4 a5 a6 a7 a8 : Value} {x : Int} {l : List Value} (hd : decode cc pc = .ok (.lload 9, 2)) (h : V y cc nL rt d mc ms fl Q n' n kc ks (pc + 2) (a0 :: a1 :: a2 :: a3 :: a4 :: a5 :: a6 :: a7 :: a8 :: .long (lz x) :: l) (.long (lz x) :: st) ρ f g) : V y cc nL rt d mc ms fl Q n' n kc ks pc (a0 :: a1 :: a2 :: a3 :: a4 :: a5 :: a6 :: a7 :: a8 :: .long (lz x) :: l) st ρ f g := by
  intro ad z D cy sl xs p l0 e R s m args below meth c Z H locs ls C hW hS hL
  exact lv_lload C.1 C.2.1 hd  (lk_at hL (i := 9) (v := .long (lz x)) rfl rfl) (h ad z D cy sl xs p l0 e R s m args below meth c Z H locs ls C hW hS hL)
theorem V_al9 {a0 a1 a2 a3 a4 a5 a6 a7 a8 : Value} {x : Nat} {l : List Value} (hd : decode cc pc = .ok (.aload 9, 2)) (h : V y cc nL rt d mc ms fl Q n' n kc ks (pc + 2) (a0 :: a1 :: a2 :: a3 :: a4 :: a5 :: a6 :: a7 :: a8 :: .ref x :: l) (.ref x :: st) ρ f g) : V y cc nL rt d mc ms fl Q n' n kc ks pc (a0 :: a1 :: a2 :: a3 :: a4 :: a5 :: a6 :: a7 :: a8 :: .ref x :: l) st ρ f g := by
  intro ad z D cy sl xs p l0 e R s m args below meth c Z H locs ls C hW hS hL
  exact lv_aload C.1 C.2.1 hd  (lk_at hL (i := 9) (v := .ref x) rfl rfl) (h ad z D cy sl xs p l0 e R s m args below meth c Z H locs ls C hW hS hL)
theorem V_il10 {a0 a1 a2 a3 a4 a5 a6 a7 a8 a9 : Value} {x : Int} {l : List Value} (hd : decode cc pc = .ok (.iload 10, 2)) (h : V y cc nL rt d mc ms fl Q n' n kc ks (pc + 2) (a0 :: a1 :: a2 :: a3 :: a4 :: a5 :: a6 :: a7 :: a8 :: a9 :: .int (iz x) :: l) (.int (iz x) :: st) ρ f g) : V y cc nL rt d mc ms fl Q n' n kc ks pc (a0 :: a1 :: a2 :: a3 :: a4 :: a5 :: a6 :: a7 :: a8 :: a9 :: .int (iz x) :: l) st ρ f g := by
  intro ad z D cy sl xs p l0 e R s m args below meth c Z H locs ls C hW hS hL
  exact lv_iload C.1 C.2.1 hd  (lk_at hL (i := 10) (v := .int (iz x)) rfl rfl) (h ad z D cy sl xs p l0 e R s m args below meth c Z H locs ls C hW hS hL)
theorem V_ll10 {a0 a1 a2 a3 a4 a5 a6 a7 a8 a9 : Value} {x : Int} {l : List Value} (hd : decode cc pc = .ok (.lload 10, 2)) (h : V y cc nL rt d mc ms fl Q n' n kc ks (pc + 2) (a0 :: a1 :: a2 :: a3 :: a4 :: a5 :: a6 :: a7 :: a8 :: a9 :: .long (lz x) :: l) (.long (lz x) :: st) ρ f g) : V y cc nL rt d mc ms fl Q n' n kc ks pc (a0 :: a1 :: a2 :: a3 :: a4 :: a5 :: a6 :: a7 :: a8 :: a9 :: .long (lz x) :: l) st ρ f g := by
  intro ad z D cy sl xs p l0 e R s m args below meth c Z H locs ls C hW hS hL
  exact lv_lload C.1 C.2.1 hd  (lk_at hL (i := 10) (v := .long (lz x)) rfl rfl) (h ad z D cy sl xs p l0 e R s m args below meth c Z H locs ls C hW hS hL)
theorem V_al10 {a0 a1 a2 a3 a4 a5 a6 a7 a8 a9 : Value} {x : Nat} {l : List Value} (hd : decode cc pc = .ok (.aload 10, 2)) (h : V y cc nL rt d mc ms fl Q n' n kc ks (pc + 2) (a0 :: a1 :: a2 :: a3 :: a4 :: a5 :: a6 :: a7 :: a8 :: a9 :: .ref x :: l) (.ref x :: st) ρ f g) : V y cc nL rt d mc ms fl Q n' n kc ks pc (a0 :: a1 :: a2 :: a3 :: a4 :: a5 :: a6 :: a7 :: a8 :: a9 :: .ref x :: l) st ρ f g := by
  intro ad z D cy sl xs p l0 e R s m args below meth c Z H locs ls C hW hS hL
  exact lv_aload C.1 C.2.1 hd  (lk_at hL (i := 10) (v := .ref x) rfl rfl) (h ad z D cy sl xs p l0 e R s m args below meth c Z H locs ls C hW hS hL)
theorem V_il11 {a0 a1 a2 a3 a4 a5 a6 a7 a8 a9 a10 : Value} {x : Int} {l : List Value} (hd : decode cc pc = .ok (.iload 11, 2)) (h : V y cc nL rt d mc ms fl Q n' n kc ks (pc + 2) (a0 :: a1 :: a2 :: a3 :: a4 :: a5 :: a6 :: a7 :: a8 :: a9 :: a10 :: .int (iz x) :: l) (.int (iz x) :: st) ρ f g) : V y cc nL rt d mc ms fl Q n' n kc ks pc (a0 :: a1 :: a2 :: a3 :: a4 :: a5 :: a6 :: a7 :: a8 :: a9 :: a10 :: .int (iz x) :: l) st ρ f g := by
  intro ad z D cy sl xs p l0 e R s m args below meth c Z H locs ls C hW hS hL
  exact lv_iload C.1 C.2.1 hd  (lk_at hL (i := 11) (v := .int (iz x)) rfl rfl) (h ad z D cy sl xs p l0 e R s m args below meth c Z H locs ls C hW hS hL)
theorem V_ll11 {a0 a1 a2 a3 a4 a5 a6 a7 a8 a9 a10 : Value} {x : Int} {l : List Value} (hd : decode cc pc = .ok (.lload 11, 2)) (h : V y cc nL rt d mc ms fl Q n' n kc ks (pc + 2) (a0 :: a1 :: a2 :: a3 :: a4 :: a5 :: a6 :: a7 :: a8 :: a9 :: a10 :: .long (lz x) :: l) (.long (lz x) :: st) ρ f g) : V y cc nL rt d mc ms fl Q n' n kc ks pc (a0 :: a1 :: a2 :: a3 :: a4 :: a5 :: a6 :: a7 :: a8 :: a9 :: a10 :: .long (lz x) :: l) st ρ f g := by
  intro ad z D cy sl xs p l0 e R s m args below meth c Z H locs ls C hW hS hL
  exact lv_lload C.1 C.2.1 hd  (lk_at hL (i := 11) (v := .long (lz x)) rfl rfl) (h ad z D cy sl xs p l0 e R s m args below meth c Z H locs ls C hW hS hL)
theorem V_al11 {a0 a1 a2 a3 a4 a5 a6 a7 a8 a9 a10 : Value} {x : Nat} {l : List Value} (hd : decode cc pc = .ok (.aload 11, 2)) (h : V y cc nL rt d mc ms fl Q n' n kc ks (pc + 2) (a0 :: a1 :: a2 :: a3 :: a4 :: a5 :: a6 :: a7 :: a8 :: a9 :: a10 :: .ref x :: l) (.ref x :: st) ρ f g) : V y cc nL rt d mc ms fl Q n' n kc ks pc (a0 :: a1 :: a2 :: a3 :: a4 :: a5 :: a6 :: a7 :: a8 :: a9 :: a10 :: .ref x :: l) st ρ f g := by
  intro ad z D cy sl xs p l0 e R s m args below meth c Z H locs ls C hW hS hL
  exact lv_aload C.1 C.2.1 hd  (lk_at hL (i := 11) (v := .ref x) rfl rfl) (h ad z D cy sl xs p l0 e R s m args below meth c Z H locs ls C hW hS hL)
theorem V_il12 {a0 a1 a2 a3 a4 a5 a6 a7 a8 a9 a10 a11 : Value} {x : Int} {l : List Value} (hd : decode cc pc = .ok (.iload 12, 2)) (h : V y cc nL rt d mc ms fl Q n' n kc ks (pc + 2) (a0 :: a1 :: a2 :: a3 :: a4 :: a5 :: a6 :: a7 :: a8 :: a9 :: a10 :: a11 :: .int (iz x) :: l) (.int (iz x) :: st) ρ f g) : V y cc nL rt d mc ms fl Q n' n kc ks pc (a0 :: a1 :: a2 :: a3 :: a4 :: a5 :: a6 :: a7 :: a8 :: a9 :: a10 :: a11 :: .int (iz x) :: l) st ρ f g := by
  intro ad z D cy sl xs p l0 e R s m args below meth c Z H locs ls C hW hS hL
  exact lv_iload C.1 C.2.1 hd  (lk_at hL (i := 12) (v := .int (iz x)) rfl rfl) (h ad z D cy sl xs p l0 e R s m args below meth c Z H locs ls C hW hS hL)
theorem V_ll12 {a0 a1 a2 a3 a4 a5 a6 a7 a8 a9 a10 a11 : Value} {x : Int} {l : List Value} (hd : decode cc pc = .ok (.lload 12, 2)) (h : V y cc nL rt d mc ms fl Q n' n kc ks (pc + 2) (a0 :: a1 :: a2 :: a3 :: a4 :: a5 :: a6 :: a7 :: a8 :: a9 :: a10 :: a11 :: .long (lz x) :: l) (.long (lz x) :: st) ρ f g) : V y cc nL rt d mc ms fl Q n' n kc ks pc (a0 :: a1 :: a2 :: a3 :: a4 :: a5 :: a6 :: a7 :: a8 :: a9 :: a10 :: a11 :: .long (lz x) :: l) st ρ f g := by
  intro ad z D cy sl xs p l0 e R s m args below meth c Z H locs ls C hW hS hL
  exact lv_lload C.1 C.2.1 hd  (lk_at hL (i := 12) (v := .long (lz x)) rfl rfl) (h ad z D cy sl xs p l0 e R s m args below meth c Z H locs ls C hW hS hL)
theorem V_al12 {a0 a1 a2 a3 a4 a5 a6 a7 a8 a9 a10 a11 : Value} {x : Nat} {l : List Value} (hd : decode cc pc = .ok (.aload 12, 2)) (h : V y cc nL rt d mc ms fl Q n' n kc ks (pc + 2) (a0 :: a1 :: a2 :: a3 :: a4 :: a5 :: a6 :: a7 :: a8 :: a9 :: a10 :: a11 :: .ref x :: l) (.ref x :: st) ρ f g) : V y cc nL rt d mc ms fl Q n' n kc ks pc (a0 :: a1 :: a2 :: a3 :: a4 :: a5 :: a6 :: a7 :: a8 :: a9 :: a10 :: a11 :: .ref x :: l) st ρ f g := by
  intro ad z D cy sl xs p l0 e R s m args below meth c Z H locs ls C hW hS hL
  exact lv_aload C.1 C.2.1 hd  (lk_at hL (i := 12) (v := .ref x) rfl rfl) (h ad z D cy sl xs p l0 e R s m args below meth c Z H locs ls C hW hS hL)
theorem V_il13 {a0 a1 a2 a3 a4 a5 a6 a7 a8 a9 a10 a11 a12 : Value} {x : Int} {l : List Value} (hd : decode cc pc = .ok (.iload 13, 2)) (h : V y cc nL rt d mc ms fl Q n' n kc ks (pc + 2) (a0 :: a1 :: a2 :: a3 :: a4 :: a5 :: a6 :: a7 :: a8 :: a9 :: a10 :: a11 :: a12 :: .int (iz x) :: l) (.int (iz x) :: st) ρ f g) : V y cc nL rt d mc ms fl Q n' n kc ks pc (a0 :: a1 :: a2 :: a3 :: a4 :: a5 :: a6 :: a7 :: a8 :: a9 :: a10 :: a11 :: a12 :: .int (iz x) :: l) st ρ f g := by
  intro ad z D cy sl xs p l0 e R s m args below meth c Z H locs ls C hW hS hL
  exact lv_iload C.1 C.2.1 hd  (lk_at hL (i := 13) (v := .int (iz x)) rfl rfl) (h ad z D cy sl xs p l0 e R s m args below meth c Z H locs ls C hW hS hL)
theorem V_ll13 {a0 a1 a2 a3 a4 a5 a6 a7 a8 a9 a10 a11 a12 : Value} {x : Int} {l : List Value} (hd : decode cc pc = .ok (.lload 13, 2)) (h : V y cc nL rt d mc ms fl Q n' n kc ks (pc + 2) (a0 :: a1 :: a2 :: a3 :: a4 :: a5 :: a6 :: a7 :: a8 :: a9 :: a10 :: a11 :: a12 :: .long (lz x) :: l) (.long (lz x) :: st) ρ f g) : V y cc nL rt d mc ms fl Q n' n kc ks pc (a0 :: a1 :: a2 :: a3 :: a4 :: a5 :: a6 :: a7 :: a8 :: a9 :: a10 :: a11 :: a12 :: .long (lz x) :: l) st ρ f g := by
  intro ad z D cy sl xs p l0 e R s m args below meth c Z H locs ls C hW hS hL
  exact lv_lload C.1 C.2.1 hd  (lk_at hL (i := 13) (v := .long (lz x)) rfl rfl) (h ad z D cy sl xs p l0 e R s m args below meth c Z H locs ls C hW hS hL)
theorem V_al13 {a0 a1 a2 a3 a4 a5 a6 a7 a8 a9 a10 a11 a12 : Value} {x : Nat} {l : List Value} (hd : decode cc pc = .ok (.aload 13, 2)) (h : V y cc nL rt d mc ms fl Q n' n kc ks (pc + 2) (a0 :: a1 :: a2 :: a3 :: a4 :: a5 :: a6 :: a7 :: a8 :: a9 :: a10 :: a11 :: a12 :: .ref x :: l) (.ref x :: st) ρ f g) : V y cc nL rt d mc ms fl Q n' n kc ks pc (a0 :: a1 :: a2 :: a3 :: a4 :: a5 :: a6 :: a7 :: a8 :: a9 :: a10 :: a11 :: a12 :: .ref x :: l) st ρ f g := by
  intro ad z D cy sl xs p l0 e R s m args below meth c Z H locs ls C hW hS hL
  exact lv_aload C.1 C.2.1 hd  (lk_at hL (i := 13) (v := .ref x) rfl rfl) (h ad z D cy sl xs p l0 e R s m args below meth c Z H locs ls C hW hS hL)
theorem V_il14 {a0 a1 a2 a3 a4 a5 a6 a7 a8 a9 a10 a11 a12 a13 : Value} {x : Int} {l : List Value} (hd : decode cc pc = .ok (.iload 14, 2)) (h : V y cc nL rt d mc ms fl Q n' n kc ks (pc + 2) (a0 :: a1 :: a2 :: a3 :: a4 :: a5 :: a6 :: a7 :: a8 :: a9 :: a10 :: a11 :: a12 :: a13 :: .int (iz x) :: l) (.int (iz x) :: st) ρ f g) : V y cc nL rt d mc ms fl Q n' n kc ks pc (a0 :: a1 :: a2 :: a3 :: a4 :: a5 :: a6 :: a7 :: a8 :: a9 :: a10 :: a11 :: a12 :: a13 :: .int (iz x) :: l) st ρ f g := by
  intro ad z D cy sl xs p l0 e R s m args below meth c Z H locs ls C hW hS hL
  exact lv_iload C.1 C.2.1 hd  (lk_at hL (i := 14) (v := .int (iz x)) rfl rfl) (h ad z D cy sl xs p l0 e R s m args below meth c Z H locs ls C hW hS hL)
theorem V_ll14 {a0 a1 a2 a3 a4 a5 a6 a7 a8 a9 a10 a11 a12 a13 : Value} {x : Int} {l : List Value} (hd : decode cc pc = .ok (.lload 14, 2)) (h : V y cc nL rt d mc ms fl Q n' n kc ks (pc + 2) (a0 :: a1 :: a2 :: a3 :: a4 :: a5 :: a6 :: a7 :: a8 :: a9 :: a10 :: a11 :: a12 :: a13 :: .long (lz x) :: l) (.long (lz x) :: st) ρ f g) : V y cc nL rt d mc ms fl Q n' n kc ks pc (a0 :: a1 :: a2 :: a3 :: a4 :: a5 :: a6 :: a7 :: a8 :: a9 :: a10 :: a11 :: a12 :: a13 :: .long (lz x) :: l) st ρ f g := by
  intro ad z D cy sl xs p l0 e R s m args below meth c Z H locs ls C hW hS hL
  exact lv_lload C.1 C.2.1 hd  (lk_at hL (i := 14) (v := .long (lz x)) rfl rfl) (h ad z D cy sl xs p l0 e R s m args below meth c Z H locs ls C hW hS hL)
theorem V_al14 {a0 a1 a2 a3 a4 a5 a6 a7 a8 a9 a10 a11 a12 a13 : Value} {x : Nat} {l : List Value} (hd : decode cc pc = .ok (.aload 14, 2)) (h : V y cc nL rt d mc ms fl Q n' n kc ks (pc + 2) (a0 :: a1 :: a2 :: a3 :: a4 :: a5 :: a6 :: a7 :: a8 :: a9 :: a10 :: a11 :: a12 :: a13 :: .ref x :: l) (.ref x :: st) ρ f g) : V y cc nL rt d mc ms fl Q n' n kc ks pc (a0 :: a1 :: a2 :: a3 :: a4 :: a5 :: a6 :: a7 :: a8 :: a9 :: a10 :: a11 :: a12 :: a13 :: .ref x :: l) st ρ f g := by
  intro ad z D cy sl xs p l0 e R s m args below meth c Z H locs ls C hW hS hL
  exact lv_aload C.1 C.2.1 hd  (lk_at hL (i := 14) (v := .ref x) rfl rfl) (h ad z D cy sl xs p l0 e R s m args below meth c Z H locs ls C hW hS hL)
theorem V_il15 {a0 a1 a2 a3 a4 a5 a6 a7 a8 a9 a10 a11 a12 a13 a14 : Value} {x : Int} {l : List Value} (hd : decode cc pc = .ok (.iload 15, 2)) (h : V y cc nL rt d mc ms fl Q n' n kc ks (pc + 2) (a0 :: a1 :: a2 :: a3 :: a4 :: a5 :: a6 :: a7 :: a8 :: a9 :: a10 :: a11 :: a12 :: a13 :: a14 :: .int (iz x) :: l) (.int (iz x) :: st) ρ f g) : V y cc nL rt d mc ms fl Q n' n kc ks pc (a0 :: a1 :: a2 :: a3 :: a4 :: a5 :: a6 :: a7 :: a8 :: a9 :: a10 :: a11 :: a12 :: a13 :: a14 :: .int (iz x) :: l) st ρ f g := by
  intro ad z D cy sl xs p l0 e R s m args below meth c Z H locs ls C hW hS hL
  exact lv_iload C.1 C.2.1 hd  (lk_at hL (i := 15) (v := .int (iz x)) rfl rfl) (h ad z D cy sl xs p l0 e R s m args below meth c Z H locs ls C hW hS hL)
theorem V_ll15 {a0 a1 a2 a3 a4 a5 a6 a7 a8 a9 a10 a11 a12 a13 a14 : Value} {x : Int} {l : List Value} (hd : decode cc pc = .ok (.lload 15, 2)) (h : V y cc nL rt d mc ms fl Q n' n kc ks (pc + 2) (a0 :: a1 :: a2 :: a3 :: a4 :: a5 :: a6 :: a7 :: a8 :: a9 :: a10 :: a11 :: a12 :: a13 :: a14 :: .long (lz x) :: l) (.long (lz x) :: st) ρ f g) : V y cc nL rt d mc ms fl Q n' n kc ks pc (a0 :: a1 :: a2 :: a3 :: a4 :: a5 :: a6 :: a7 :: a8 :: a9 :: a10 :: a11 :: a12 :: a13 :: a14 :: .long (lz x) :: l) st ρ f g := by
  intro ad z D cy sl xs p l0 e R s m args below meth c Z H locs ls C hW hS hL
  exact lv_lload C.1 C.2.1 hd  (lk_at hL (i := 15) (v := .long (lz x)) rfl rfl) (h ad z D cy sl xs p l0 e R s m args below meth c Z H locs ls C hW hS hL)
theorem V_al15 {a0 a1 a2 a3 a4 a5 a6 a7 a8 a9 a10 a11 a12 a13 a14 : Value} {x : Nat} {l : List Value} (hd : decode cc pc = .ok (.aload 15, 2)) (h : V y cc nL rt d mc ms fl Q n' n kc ks (pc + 2) (a0 :: a1 :: a2 :: a3 :: a4 :: a5 :: a6 :: a7 :: a8 :: a9 :: a10 :: a11 :: a12 :: a13 :: a14 :: .ref x :: l) (.ref x :: st) ρ f g) : V y cc nL rt d mc ms fl Q n' n kc ks pc (a0 :: a1 :: a2 :: a3 :: a4 :: a5 :: a6 :: a7 :: a8 :: a9 :: a10 :: a11 :: a12 :: a13 :: a14 :: .ref x :: l) st ρ f g := by
  intro ad z D cy sl xs p l0 e R s m args below meth c Z H locs ls C hW hS hL
  exact lv_aload C.1 C.2.1 hd  (lk_at hL (i := 15) (v := .ref x) rfl rfl) (h ad z D cy sl xs p l0 e R s m args below meth c Z H locs ls C hW hS hL)
theorem V_il16 {a0 a1 a2 a3 a4 a5 a6 a7 a8 a9 a10 a11 a12 a13 a14 a15 : Value} {x : Int} {l : List Value} (hd : decode cc pc = .ok (.iload 16, 2)) (h : V y cc nL rt d mc ms fl Q n' n kc ks (pc + 2) (a0 :: a1 :: a2 :: a3 :: a4 :: a5 :: a6 :: a7 :: a8 :: a9 :: a10 :: a11 :: a12 :: a13 :: a14 :: a15 :: .int (iz x) :: l) (.int (iz x) :: st) ρ f g) : V y cc nL rt d mc ms fl Q n' n kc ks pc (a0 :: a1 :: a2 :: a3 :: a4 :: a5 :: a6 :: a7 :: a8 :: a9 :: a10 :: a11 :: a12 :: a13 :: a14 :: a15 :: .int (iz x) :: l) st ρ f g := by
  intro ad z D cy sl xs p l0 e R s m args below meth c Z H locs ls C hW hS hL
  exact lv_iload C.1 C.2.1 hd  (lk_at hL (i := 16) (v := .int (iz x)) rfl rfl) (h ad z D cy sl xs p l0 e R s m args below meth c Z H locs ls C hW hS hL)
theorem V_ll16 {a0 a1 a2 a3 a4 a5 a6 a7 a8 a9 a10 a11 a12 a13 a14 a15 : Value} {x : Int} {l : List Value} (hd : decode cc pc = .ok (.lload 16, 2)) (h : V y cc nL rt d mc ms fl Q n' n kc ks (pc + 2) (a0 :: a1 :: a2 :: a3 :: a4 :: a5 :: a6 :: a7 :: a8 :: a9 :: a10 :: a11 :: a12 :: a13 :: a14 :: a15 :: .long (lz x) :: l) (.long (lz x) :: st) ρ f g) : V y cc nL rt d mc ms fl Q n' n kc ks pc (a0 :: a1 :: a2 :: a3 :: a4 :: a5 :: a6 :: a7 :: a8 :: a9 :: a10 :: a11 :: a12 :: a13 :: a14 :: a15 :: .long (lz x) :: l) st ρ f g := by
  intro ad z D cy sl xs p l0 e R s m args below meth c Z H locs ls C hW hS hL
  exact lv_lload C.1 C.2.1 hd  (lk_at hL (i := 16) (v := .long (lz x)) rfl rfl) (h ad z D cy sl xs p l0 e R s m args below meth c Z H locs ls C hW hS hL)
theorem V_al16 {a0 a1 a2 a3 a4 a5 a6 a7 a8 a9 a10 a11 a12 a13 a14 a15 : Value} {x : Nat} {l : List Value} (hd : decode cc pc = .ok (.aload 16, 2)) (h : V y cc nL rt d mc ms fl Q n' n kc ks (pc + 2) (a0 :: a1 :: a2 :: a3 :: a4 :: a5 :: a6 :: a7 :: a8 :: a9 :: a10 :: a11 :: a12 :: a13 :: a14 :: a15 :: .ref x :: l) (.ref x :: st) ρ f g) : V y cc nL rt d mc ms fl Q n' n kc ks pc (a0 :: a1 :: a2 :: a3 :: a4 :: a5 :: a6 :: a7 :: a8 :: a9 :: a10 :: a11 :: a12 :: a13 :: a14 :: a15 :: .ref x :: l) st ρ f g := by
  intro ad z D cy sl xs p l0 e R s m args below meth c Z H locs ls C hW hS hL
  exact lv_aload C.1 C.2.1 hd  (lk_at hL (i := 16) (v := .ref x) rfl rfl) (h ad z D cy sl xs p l0 e R s m args below meth c Z H locs ls C hW hS hL)
theorem V_il17 {a0 a1 a2 a3 a4 a5 a6 a7 a8 a9 a10 a11 a12 a13 a14 a15 a16 : Value} {x : Int} {l : List Value} (hd : decode cc pc = .ok (.iload 17, 2)) (h : V y cc nL rt d mc ms fl Q n' n kc ks (pc + 2) (a0 :: a1 :: a2 :: a3 :: a4 :: a5 :: a6 :: a7 :: a8 :: a9 :: a10 :: a11 :: a12 :: a13 :: a14 :: a15 :: a16 :: .int (iz x) :: l) (.int (iz x) :: st) ρ f g) : V y cc nL rt d mc ms fl Q n' n kc ks pc (a0 :: a1 :: a2 :: a3 :: a4 :: a5 :: a6 :: a7 :: a8 :: a9 :: a10 :: a11 :: a12 :: a13 :: a14 :: a15 :: a16 :: .int (iz x) :: l) st ρ f g := by
  intro ad z D cy sl xs p l0 e R s m args below meth c Z H locs ls C hW hS hL
  exact lv_iload C.1 C.2.1 hd  (lk_at hL (i := 17) (v := .int (iz x)) rfl rfl) (h ad z D cy sl xs p l0 e R s m args below meth c Z H locs ls C hW hS hL)
theorem V_ll17 {a0 a1 a2 a3 a4 a5 a6 a7 a8 a9 a10 a11 a12 a13 a14 a15 a16 : Value} {x : Int} {l : List Value} (hd : decode cc pc = .ok (.lload 17, 2)) (h : V y cc nL rt d mc ms fl Q n' n kc ks (pc + 2) (a0 :: a1 :: a2 :: a3 :: a4 :: a5 :: a6 :: a7 :: a8 :: a9 :: a10 :: a11 :: a12 :: a13 :: a14 :: a15 :: a16 :: .long (lz x) :: l) (.long (lz x) :: st) ρ f g) : V y cc nL rt d mc ms fl Q n' n kc ks pc (a0 :: a1 :: a2 :: a3 :: a4 :: a5 :: a6 :: a7 :: a8 :: a9 :: a10 :: a11 :: a12 :: a13 :: a14 :: a15 :: a16 :: .long (lz x) :: l) st ρ f g := by
  intro ad z D cy sl xs p l0 e R s m args below meth c Z H locs ls C hW hS hL
  exact lv_lload C.1 C.2.1 hd  (lk_at hL (i := 17) (v := .long (lz x)) rfl rfl) (h ad z D cy sl xs p l0 e R s m args below meth c Z H locs ls C hW hS hL)
theorem V_al17 {a0 a1 a2 a3 a4 a5 a6 a7 a8 a9 a10 a11 a12 a13 a14 a15 a16 : Value} {x : Nat} {l : List Value} (hd : decode cc pc = .ok (.aload 17, 2)) (h : V y cc nL rt d mc ms fl Q n' n kc ks (pc + 2) (a0 :: a1 :: a2 :: a3 :: a4 :: a5 :: a6 :: a7 :: a8 :: a9 :: a10 :: a11 :: a12 :: a13 :: a14 :: a15 :: a16 :: .ref x :: l) (.ref x :: st) ρ f g) : V y cc nL rt d mc ms fl Q n' n kc ks pc (a0 :: a1 :: a2 :: a3 :: a4 :: a5 :: a6 :: a7 :: a8 :: a9 :: a10 :: a11 :: a12 :: a13 :: a14 :: a15 :: a16 :: .ref x :: l) st ρ f g := by
  intro ad z D cy sl xs p l0 e R s m args below meth c Z H locs ls C hW hS hL
  exact lv_aload C.1 C.2.1 hd  (lk_at hL (i := 17) (v := .ref x) rfl rfl) (h ad z D cy sl xs p l0 e R s m args below meth c Z H locs ls C hW hS hL)
theorem V_il18 {a0 a1 a2 a3 a4 a5 a6 a7 a8 a9 a10 a11 a12 a13 a14 a15 a16 a17 : Value} {x : Int} {l : List Value} (hd : decode cc pc = .ok (.iload 18, 2)) (h : V y cc nL rt d mc ms fl Q n' n kc ks (pc + 2) (a0 :: a1 :: a2 :: a3 :: a4 :: a5 :: a6 :: a7 :: a8 :: a9 :: a10 :: a11 :: a12 :: a13 :: a14 :: a15 :: a16 :: a17 :: .int (iz x) :: l) (.int (iz x) :: st) ρ f g) : V y cc nL rt d mc ms fl Q n' n kc ks pc (a0 :: a1 :: a2 :: a3 :: a4 :: a5 :: a6 :: a7 :: a8 :: a9 :: a10 :: a11 :: a12 :: a13 :: a14 :: a15 :: a16 :: a17 :: .int (iz x) :: l) st ρ f g := by
  intro ad z D cy sl xs p l0 e R s m args below meth c Z H locs ls C hW hS hL
  exact lv_iload C.1 C.2.1 hd  (lk_at hL (i := 18) (v := .int (iz x)) rfl rfl) (h ad z D cy sl xs p l0 e R s m args below meth c Z H locs ls C hW hS hL)
theorem V_ll18 {a0 a1 a2 a3 a4 a5 a6 a7 a8 a9 a10 a11 a12 a13 a14 a15 a16 a17 : Value} {x : Int} {l : List Value} (hd : decode cc pc = .ok (.lload 18, 2)) (h : V y cc nL rt d mc ms fl Q n' n kc ks (pc + 2) (a0 :: a1 :: a2 :: a3 :: a4 :: a5 :: a6 :: a7 :: a8 :: a9 :: a10 :: a11 :: a12 :: a13 :: a14 :: a15 :: a16 :: a17 :: .long (lz x) :: l) (.long (lz x) :: st) ρ f g) : V y cc nL rt d mc ms fl Q n' n kc ks pc (a0 :: a1 :: a2 :: a3 :: a4 :: a5 :: a6 :: a7 :: a8 :: a9 :: a10 :: a11 :: a12 :: a13 :: a14 :: a15 :: a16 :: a17 :: .long (lz x) :: l) st ρ f g := by
  intro ad z D cy sl xs p l0 e R s m args below meth c Z H locs ls C hW hS hL
  exact lv_lload C.1 C.2.1 hd  (lk_at hL (i := 18) (v := .long (lz x)) rfl rfl) (h ad z D cy sl xs p l0 e R s m args below meth c Z H locs ls C hW hS hL)
theorem V_al18 {a0 a1 a2 a3 a4 a5 a6 a7 a8 a9 a10 a11 a12 a13 a14 a15 a16 a17 : Value} {x : Nat} {l : List Value} (hd : decode cc pc = .ok (.aload 18, 2)) (h : V y cc nL rt d mc ms fl Q n' n kc ks (pc + 2) (a0 :: a1 :: a2 :: a3 :: a4 :: a5 :: a6 :: a7 :: a8 :: a9 :: a10 :: a11 :: a12 :: a13 :: a14 :: a15 :: a16 :: a17 :: .ref x :: l) (.ref x :: st) ρ f g) : V y cc nL rt d mc ms fl Q n' n kc ks pc (a0 :: a1 :: a2 :: a3 :: a4 :: a5 :: a6 :: a7 :: a8 :: a9 :: a10 :: a11 :: a12 :: a13 :: a14 :: a15 :: a16 :: a17 :: .ref x :: l) st ρ f g := by
  intro ad z D cy sl xs p l0 e R s m args below meth c Z H locs ls C hW hS hL
  exact lv_aload C.1 C.2.1 hd  (lk_at hL (i := 18) (v := .ref x) rfl rfl) (h ad z D cy sl xs p l0 e R s m args below meth c Z H locs ls C hW hS hL)
theorem V_il19 {a0 a1 a2 a3 a4 a5 a6 a7 a8 a9 a10 a11 a12 a13 a14 a15 a16 a17 a18 : Value} {x : Int} {l : List Value} (hd : decode cc pc = .ok (.iload 19, 2)) (h : V y cc nL rt d mc ms fl Q n' n kc ks (pc + 2) (a0 :: a1 :: a2 :: a3 :: a4 :: a5 :: a6 :: a7 :: a8 :: a9 :: a10 :: a11 :: a12 :: a13 :: a14 :: a15 :: a16 :: a17 :: a18 :: .int (iz x) :: l) (.int (iz x) :: st) ρ f g) : V y cc nL rt d mc ms fl Q n' n kc ks pc (a0 :: a1 :: a2 :: a3 :: a4 :: a5 :: a6 :: a7 :: a8 :: a9 :: a10 :: a11 :: a12 :: a13 :: a14 :: a15 :: a16 :: a17 :: a18 :: .int (iz x) :: l) st ρ f g := by
  intro ad z D cy sl xs p l0 e R s m args below meth c Z H locs ls C hW hS hL
  exact lv_iload C.1 C.2.1 hd  (lk_at hL (i := 19) (v := .int (iz x)) rfl rfl) (h ad z D cy sl xs p l0 e R s m args below meth c Z H locs ls C hW hS hL)
theorem V_ll19 {a0 a1 a2 a3 a4 a5 a6 a7 a8 a9 a10 a11 a12 a13 a14 a15 a16 a17 a18 : Value} {x : Int} {l : List Value} (hd : decode cc pc = .ok (.lload 19, 2)) (h : V y cc nL rt d mc ms fl Q n' n kc ks (pc + 2) (a0 :: a1 :: a2 :: a3 :: a4 :: a5 :: a6 :: a7 :: a8 :: a9 :: a10 :: a11 :: a12 :: a13 :: a14 :: a15 :: a16 :: a17 :: a18 :: .long (lz x) :: l) (.long (lz x) :: st) ρ f g) : V y cc nL rt d mc ms fl Q n' n kc ks pc (a0 :: a1 :: a2 :: a3 :: a4 :: a5 :: a6 :: a7 :: a8 :: a9 :: a10 :: a11 :: a12 :: a13 :: a14 :: a15 :: a16 :: a17 :: a18 :: .long (lz x) :: l) st ρ f g := by
  intro ad z D cy sl xs p l0 e R s m args below meth c Z H locs ls C hW hS hL
  exact lv_lload C.1 C.2.1 hd  (lk_at hL (i := 19) (v := .long (lz x)) rfl rfl) (h ad z D cy sl xs p l0 e R s m args below meth c Z H locs ls C hW hS hL)
theorem V_al19 {a0 a1 a2 a3 a4 a5 a6 a7 a8 a9 a10 a11 a12 a13 a14 a15 a16 a17 a18 : Value} {x : Nat} {l : List Value} (hd : decode cc pc = .ok (.aload 19, 2)) (h : V y cc nL rt d mc ms fl Q n' n kc ks (pc + 2) (a0 :: a1 :: a2 :: a3 :: a4 :: a5 :: a6 :: a7 :: a8 :: a9 :: a10 :: a11 :: a12 :: a13 :: a14 :: a15 :: a16 :: a17 :: a18 :: .ref x :: l) (.ref x :: st) ρ f g) : V y cc nL rt d mc ms fl Q n' n kc ks pc (a0 :: a1 :: a2 :: a3 :: a4 :: a5 :: a6 :: a7 :: a8 :: a9 :: a10 :: a11 :: a12 :: a13 :: a14 :: a15 :: a16 :: a17 :: a18 :: .ref x :: l) st ρ f g := by
  intro ad z D cy sl xs p l0 e R s m args below meth c Z H locs ls C hW hS hL
  exact lv_aload C.1 C.2.1 hd  (lk_at hL (i := 19) (v := .ref x) rfl rfl) (h ad z D cy sl xs p l0 e R s m args below meth c Z H locs ls C hW hS hL)
theorem lk_st1 {ad : Nat → Nat} {ls : Array Slot} {i : Nat} {v : Value} (h : lv_has ls nL ((i, cv ad v) :: (lvL ad L).filter (fun q => !(q.1 == i) && !(q.1 + 1 == i && q.2.category == 2)))) : lk ad ls nL (st1 L i v) := by
  refine lk_sub h (fun q hq => ?_)
  obtain ⟨w, h1, h2, h3⟩ := lvL_mem.mp hq
  rcases st1_spec L i v q.1 w h1 with e | ⟨e1, e2⟩ | ⟨e1, e2, e3⟩
  · subst e; cases h2
  · subst e2
    rw [List.mem_cons]
    exact Or.inl (by rw [← e1, ← h3])
  · rw [List.mem_cons]
    refine Or.inr (List.mem_filter.mpr ⟨lvL_mem.mpr ⟨w, e2, h2, h3⟩, ?_⟩)
    rw [h3, cv_cat]
    simp only [Bool.and_eq_true, Bool.not_eq_true', beq_eq_false_iff_ne, ne_eq, Bool.and_eq_false_imp, beq_iff_eq]
    exact ⟨e1, fun h9 h8 => e3 ⟨h9, h8⟩⟩
theorem lk_st2 {ad : Nat → Nat} {ls : Array Slot} {i : Nat} {v : Value} (h : lv_has ls nL ((i, cv ad v) :: (lvL ad L).filter (fun q => !(q.1 == i) && (!(q.1 == i + 1) && !(q.1 + 1 == i && q.2.category == 2))))) : lk ad ls nL (st2 L i v) := by
  refine lk_sub h (fun q hq => ?_)
  obtain ⟨w, h1, h2, h3⟩ := lvL_mem.mp hq
  rcases st2_spec L i v q.1 w h1 with e | ⟨e1, e2⟩ | ⟨e1, e4, e2, e3⟩
  · subst e; cases h2
  · subst e2
    rw [List.mem_cons]
    exact Or.inl (by rw [← e1, ← h3])
  · rw [List.mem_cons]
    refine Or.inr (List.mem_filter.mpr ⟨lvL_mem.mpr ⟨w, e2, h2, h3⟩, ?_⟩)
    rw [h3, cv_cat]
    simp only [Bool.and_eq_true, Bool.not_eq_true', beq_eq_false_iff_ne, ne_eq, Bool.and_eq_false_imp, beq_iff_eq]
    exact ⟨e1, e4, fun h9 h8 => e3 ⟨h9, h8⟩⟩
theorem V_istoreGn {k : Fin 4} {i : Nat} {x : Int} {L' : List Value} (hd : decode cc pc = .ok (.istore_n k, 1)) (hi : (k : Nat) = i) (hn : i < nL) (hL' : st1 L i (.int (iz x)) = L') (h : V y cc nL rt d mc ms fl Q n' n kc ks (pc + 1) L' st ρ f g) : V y cc nL rt d mc ms fl Q n' n kc ks pc L (.int (iz x) :: st) ρ f g := by
  intro ad z D cy sl xs p l e R s m args below meth c Z H locs ls C hW hS hL
  subst hL'
  refine lv_istore_n C.1 C.2.1 hd hi hL hn rfl (fun ls' hl' => ?_)
  exact h ad z D cy sl xs p l e R s m args below meth c Z H locs ls' C hW hS (lk_st1 hl')
theorem V_istoreG {i : Nat} {x : Int} {L' : List Value} (hd : decode cc pc = .ok (.istore i, 2)) (hn : i < nL) (hL' : st1 L i (.int (iz x)) = L') (h : V y cc nL rt d mc ms fl Q n' n kc ks (pc + 2) L' st ρ f g) : V y cc nL rt d mc ms fl Q n' n kc ks pc L (.int (iz x) :: st) ρ f g := by
  intro ad z D cy sl xs p l e R s m args below meth c Z H locs ls C hW hS hL
  subst hL'
  refine lv_istore C.1 C.2.1 hd hL hn rfl (fun ls' hl' => ?_)
  exact h ad z D cy sl xs p l e R s m args below meth c Z H locs ls' C hW hS (lk_st1 hl')
theorem V_lstoreGn {k : Fin 4} {i : Nat} {x : Int} {L' : List Value} (hd : decode cc pc = .ok (.lstore_n k, 1)) (hi : (k : Nat) = i) (hn : i + 1 < nL) (hL' : st2 L i (.long (lz x)) = L') (h : V y cc nL rt d mc ms fl Q n' n kc ks (pc + 1) L' st ρ f g) : V y cc nL rt d mc ms fl Q n' n kc ks pc L (.long (lz x) :: st) ρ f g := by
  intro ad z D cy sl xs p l e R s m args below meth c Z H locs ls C hW hS hL
  subst hL'
  refine lv_lstore_n C.1 C.2.1 hd hi hL hn rfl (fun ls' hl' => ?_)
  exact h ad z D cy sl xs p l e R s m args below meth c Z H locs ls' C hW hS (lk_st2 hl')
theorem V_lstoreG {i : Nat} {x : Int} {L' : List Value} (hd : decode cc pc = .ok (.lstore i, 2)) (hn : i + 1 < nL) (hL' : st2 L i (.long (lz x)) = L') (h : V y cc nL rt d mc ms fl Q n' n kc ks (pc + 2) L' st ρ f g) : V y cc nL rt d mc ms fl Q n' n kc ks pc L (.long (lz x) :: st) ρ f g := by
  intro ad z D cy sl xs p l e R s m args below meth c Z H locs ls C hW hS hL
  subst hL'
  refine lv_lstore C.1 C.2.1 hd hL hn rfl (fun ls' hl' => ?_)
  exact h ad z D cy sl xs p l e R s m args below meth c Z H locs ls' C hW hS (lk_st2 hl')
theorem V_astoreGn {k : Fin 4} {i : Nat} {x : Nat} {L' : List Value} (hd : decode cc pc = .ok (.astore_n k, 1)) (hi : (k : Nat) = i) (hn : i < nL) (hL' : st1 L i (.ref x) = L') (h : V y cc nL rt d mc ms fl Q n' n kc ks (pc + 1) L' st ρ f g) : V y cc nL rt d mc ms fl Q n' n kc ks pc L (.ref x :: st) ρ f g := by
  intro ad z D cy sl xs p l e R s m args below meth c Z H locs ls C hW hS hL
  subst hL'
  refine lv_astore_n C.1 C.2.1 hd hi hL hn rfl (fun ls' hl' => ?_)
  exact h ad z D cy sl xs p l e R s m args below meth c Z H locs ls' C hW hS (lk_st1 hl')
theorem V_astoreG {i : Nat} {x : Nat} {L' : List Value} (hd : decode cc pc = .ok (.astore i, 2)) (hn : i < nL) (hL' : st1 L i (.ref x) = L') (h : V y cc nL rt d mc ms fl Q n' n kc ks (pc + 2) L' st ρ f g) : V y cc nL rt d mc ms fl Q n' n kc ks pc L (.ref x :: st) ρ f g := by
  intro ad z D cy sl xs p l e R s m args below meth c Z H locs ls C hW hS hL
  subst hL'
  refine lv_astore C.1 C.2.1 hd hL hn rfl (fun ls' hl' => ?_)
  exact h ad z D cy sl xs p l e R s m args below meth c Z H locs ls' C hW hS (lk_st1 hl')
theorem V_iincG {i : Nat} {x k : Int} {L' : List Value} (hd : decode cc pc = .ok (.iinc i k, 3)) (hn : i < nL) (hx : L[i]? = some (.int (iz x))) (hL' : st1 L i (.int (iz (x + k))) = L') (h : V y cc nL rt d mc ms fl Q n' n kc ks (pc + 3) L' st ρ f g) : V y cc nL rt d mc ms fl Q n' n kc ks pc L st ρ f g := by
  intro ad z D cy sl xs p l e R s m args below meth c Z H locs ls C hW hS hL
  subst hL'
  obtain ⟨j, hj⟩ := List.getElem?_of_mem (lvL_mem (ad := ad) (L := L) (q := (i, Value.int (iz x))) |>.mpr ⟨_, hx, rfl, rfl⟩)
  refine lv_iinc C.1 C.2.1 hd hL hj (iz_add x k) hn rfl (fun ls' hl' => ?_)
  exact h ad z D cy sl xs p l e R s m args below meth c Z H locs ls' C hW hS (lk_st1 hl')
theorem V_is0n {b : Value} {x : Int} {l : List Value} (hd : decode cc pc = .ok (.istore_n 0, 1)) (hn : 0 < nL) (h : V y cc nL rt d mc ms fl Q n' n kc ks (pc + 1) (.int (iz x) :: l) st ρ f g) : V y cc nL rt d mc ms fl Q n' n kc ks pc (b :: l) (.int (iz x) :: st) ρ f g :=
  V_istoreGn hd (hi := rfl) (i := 0) hn (by simp [st1, st1]) h
theorem V_is0 {b : Value} {x : Int} {l : List Value} (hd : decode cc pc = .ok (.istore 0, 2)) (hn : 0 < nL) (h : V y cc nL rt d mc ms fl Q n' n kc ks (pc + 2) (.int (iz x) :: l) st ρ f g) : V y cc nL rt d mc ms fl Q n' n kc ks pc (b :: l) (.int (iz x) :: st) ρ f g :=
  V_istoreG hd (i := 0) hn (by simp [st1, st1]) h
theorem V_ls0n {b b2 : Value} {x : Int} {l : List Value} (hd : decode cc pc = .ok (.lstore_n 0, 1)) (hn : 1 < nL) (h : V y cc nL rt d mc ms fl Q n' n kc ks (pc + 1) (.long (lz x) :: .null :: l) st ρ f g) : V y cc nL rt d mc ms fl Q n' n kc ks pc (b :: b2 :: l) (.long (lz x) :: st) ρ f g :=
  V_lstoreGn hd (hi := rfl) (i := 0) hn (by simp [st2, st1]) h
theorem V_ls0 {b b2 : Value} {x : Int} {l : List Value} (hd : decode cc pc = .ok (.lstore 0, 2)) (hn : 1 < nL) (h : V y cc nL rt d mc ms fl Q n' n kc ks (pc + 2) (.long (lz x) :: .null :: l) st ρ f g) : V y cc nL rt d mc ms fl Q n' n kc ks pc (b :: b2 :: l) (.long (lz x) :: st) ρ f g :=
  V_lstoreG hd (i := 0) hn (by simp [st2, st1]) h
theorem V_as0n {b : Value} {x : Nat} {l : List Value} (hd : decode cc pc = .ok (.astore_n 0, 1)) (hn : 0 < nL) (h : V y cc nL rt d mc ms fl Q n' n kc ks (pc + 1) (.ref x :: l) st ρ f g) : V y cc nL rt d mc ms fl Q n' n kc ks pc (b :: l) (.ref x :: st) ρ f g :=
  V_astoreGn hd (hi := rfl) (i := 0) hn (by simp [st1, st1]) h
theorem V_as0 {b : Value} {x : Nat} {l : List Value} (hd : decode cc pc = .ok (.astore 0, 2)) (hn : 0 < nL) (h : V y cc nL rt d mc ms fl Q n' n kc ks (pc + 2) (.ref x :: l) st ρ f g) : V y cc nL rt d mc ms fl Q n' n kc ks pc (b :: l) (.ref x :: st) ρ f g :=
  V_astoreG hd (i := 0) hn (by simp [st1, st1]) h
theorem V_inc0 {x k : Int} {l : List Value} (hd : decode cc pc = .ok (.iinc 0 k, 3)) (hn : 0 < nL) (h : V y cc nL rt d mc ms fl Q n' n kc ks (pc + 3) (.int (iz (x + k)) :: l) st ρ f g) : V y cc nL rt d mc ms fl Q n' n kc ks pc (.int (iz x) :: l) st ρ f g :=
  V_iincG hd hn rfl (by simp [st1]) h
theorem V_is1n {a0 : Value} {b : Value} {x : Int} {l : List Value} (hd : decode cc pc = .ok (.istore_n 1, 1)) (hn : 1 < nL) (h0 : a0.category = 1) (h : V y cc nL rt d mc ms fl Q n' n kc ks (pc + 1) (a0 :: .int (iz x) :: l) st ρ f g) : V y cc nL rt d mc ms fl Q n' n kc ks pc (a0 :: b :: l) (.int (iz x) :: st) ρ f g :=
  V_istoreGn hd (hi := rfl) (i := 1) hn (by simp [st1, st1, h0]) h
theorem V_is1 {a0 : Value} {b : Value} {x : Int} {l : List Value} (hd : decode cc pc = .ok (.istore 1, 2)) (hn : 1 < nL) (h0 : a0.category = 1) (h : V y cc nL rt d mc ms fl Q n' n kc ks (pc + 2) (a0 :: .int (iz x) :: l) st ρ f g) : V y cc nL rt d mc ms fl Q n' n kc ks pc (a0 :: b :: l) (.int (iz x) :: st) ρ f g :=
  V_istoreG hd (i := 1) hn (by simp [st1, st1, h0]) h
theorem V_ls1n {a0 : Value} {b b2 : Value} {x : Int} {l : List Value} (hd : decode cc pc = .ok (.lstore_n 1, 1)) (hn : 2 < nL) (h0 : a0.category = 1) (h : V y cc nL rt d mc ms fl Q n' n kc ks (pc + 1) (a0 :: .long (lz x) :: .null :: l) st ρ f g) : V y cc nL rt d mc ms fl Q n' n kc ks pc (a0 :: b :: b2 :: l) (.long (lz x) :: st) ρ f g :=
  V_lstoreGn hd (hi := rfl) (i := 1) hn (by simp [st2, st1, h0]) h
theorem V_ls1 {a0 : Value} {b b2 : Value} {x : Int} {l : List Value} (hd : decode cc pc = .ok (.lstore 1, 2)) (hn : 2 < nL) (h0 : a0.category = 1) (h : V y cc nL rt d mc ms fl Q n' n kc ks (pc + 2) (a0 :: .long (lz x) :: .null :: l) st ρ f g) : V y cc nL rt d mc ms fl Q n' n kc ks pc (a0 :: b :: b2 :: l) (.long (lz x) :: st) ρ f g :=
  V_lstoreG hd (i := 1) hn (by simp [st2, st1, h0]) h
theorem V_as1n {a0 : Value} {b : Value} {x : Nat} {l : List Value} (hd : decode cc pc = .ok (.astore_n 1, 1)) (hn : 1 < nL) (h0 : a0.category = 1) (h : V y cc nL rt d mc ms fl Q n' n kc ks (pc + 1) (a0 :: .ref x :: l) st ρ f g) : V y cc nL rt d mc ms fl Q n' n kc ks pc (a0 :: b :: l) (.ref x :: st) ρ f g :=
  V_astoreGn hd (hi := rfl) (i := 1) hn (by simp [st1, st1, h0]) h
theorem V_as1 {a0 : Value} {b : Value} {x : Nat} {l : List Value} (hd : decode cc pc = .ok (.astore 1, 2)) (hn : 1 < nL) (h0 : a0.category = 1) (h : V y cc nL rt d mc ms fl Q n' n kc ks (pc + 2) (a0 :: .ref x :: l) st ρ f g) : V y cc nL rt d mc ms fl Q n' n kc ks pc (a0 :: b :: l) (.ref x :: st) ρ f g :=
  V_astoreG hd (i := 1) hn (by simp [st1, st1, h0]) h
theorem V_inc1 {a0 : Value} {x k : Int} {l : List Value} (hd : decode cc pc = .ok (.iinc 1 k, 3)) (hn : 1 < nL) (h0 : a0.category = 1) (h : V y cc nL rt d mc ms fl Q n' n kc ks (pc + 3) (a0 :: .int (iz (x + k)) :: l) st ρ f g) : V y cc nL rt d mc ms fl Q n' n kc ks pc (a0 :: .int (iz x) :: l) st ρ f g :=
  V_iincG hd hn rfl (by simp [st1, h0]) h
theorem V_is2n {a0 a1 : Value} {b : Value} {x : Int} {l : List Value} (hd : decode cc pc = .ok (.istore_n 2, 1)) (hn : 2 < nL) (h0 : a1.category = 1) (h : V y cc nL rt d mc ms fl Q n' n kc ks (pc + 1) (a0 :: a1 :: .int (iz x) :: l) st ρ f g) : V y cc nL rt d mc ms fl Q n' n kc ks pc (a0 :: a1 :: b :: l) (.int (iz x) :: st) ρ f g :=
  V_istoreGn hd (hi := rfl) (i := 2) hn (by simp [st1, st1, h0]) h
theorem V_is2 {a0 a1 : Value} {b : Value} {x : Int} {l : List Value} (hd : decode cc pc = .ok (.istore 2, 2)) (hn : 2 < nL) (h0 : a1.category = 1) (h : V y cc nL rt d mc ms fl Q n' n kc ks (pc + 2) (a0 :: a1 :: .int (iz x) :: l) st ρ f g) : V y cc nL rt d mc ms fl Q n' n kc ks pc (a0 :: a1 :: b :: l) (.int (iz x) :: st) ρ f g :=
  V_istoreG hd (i := 2) hn (by simp [st1, st1, h0]) h
theorem V_ls2n {a0 a1 : Value} {b b2 : Value} {x : Int} {l : List Value} (hd : decode cc pc = .ok (.lstore_n 2, 1)) (hn : 3 < nL) (h0 : a1.category = 1) (h : V y cc nL rt d mc ms fl Q n' n kc ks (pc + 1) (a0 :: a1 :: .long (lz x) :: .null :: l) st ρ f g) : V y cc nL rt d mc ms fl Q n' n kc ks pc (a0 :: a1 :: b :: b2 :: l) (.long (lz x) :: st) ρ f g :=
  V_lstoreGn hd (hi := rfl) (i := 2) hn (by simp [st2, st1, h0]) h
theorem V_ls2 {a0 a1 : Value} {b b2 : Value} {x : Int} {l : List Value} (hd : decode cc pc = .ok (.lstore 2, 2)) (hn : 3 < nL) (h0 : a1.category = 1) (h : V y cc nL rt d mc ms fl Q n' n kc ks (pc + 2) (a0 :: a1 :: .long (lz x) :: .null :: l) st ρ f g) : V y cc nL rt d mc ms fl Q n' n kc ks pc (a0 :: a1 :: b :: b2 :: l) (.long (lz x) :: st) ρ f g :=
  V_lstoreG hd (i := 2) hn (by simp [st2, st1, h0]) h
theorem V_as2n {a0 a1 : Value} {b : Value} {x : Nat} {l : List Value} (hd : decode cc pc = .ok (.astore_n 2, 1)) (hn : 2 < nL) (h0 : a1.category = 1) (h : V y cc nL rt d mc ms fl Q n' n kc ks (pc + 1) (a0 :: a1 :: .ref x :: l) st ρ f g) : V y cc nL rt d mc ms fl Q n' n kc ks pc (a0 :: a1 :: b :: l) (.ref x :: st) ρ f g :=
  V_astoreGn hd (hi := rfl) (i := 2) hn (by simp [st1, st1, h0]) h
theorem V_as2 {a0 a1 : Value} {b : Value} {x : Nat} {l : List Value} (hd : decode cc pc = .ok (.astore 2, 2)) (hn : 2 < nL) (h0 : a1.category = 1) (h : V y cc nL rt d mc ms fl Q n' n kc ks (pc + 2) (a0 :: a1 :: .ref x :: l) st ρ f g) : V y cc nL rt d mc ms fl Q n' n kc ks pc (a0 :: a1 :: b :: l) (.ref x :: st) ρ f g :=
  V_astoreG hd (i := 2) hn (by simp [st1, st1, h0]) h
theorem V_inc2 {a0 a1 : Value} {x k : Int} {l : List Value} (hd : decode cc pc = .ok (.iinc 2 k, 3)) (hn : 2 < nL) (h0 : a1.category = 1) (h : V y cc nL rt d mc ms fl Q n' n kc ks (pc + 3) (a0 :: a1 :: .int (iz (x + k)) :: l) st ρ f g) : V y cc nL rt d mc ms fl Q n' n kc ks pc (a0 :: a1 :: .int (iz x) :: l) st ρ f g :=
  V_iincG hd hn rfl (by simp [st1, h0]) h
theorem V_is3n {a0 a1 a2 : Value} {b : Value} {x : Int} {l : List Value} (hd : decode cc pc = .ok (.istore_n 3, 1)) (hn : 3 < nL) (h0 : a2.category = 1) (h : V y cc nL rt d mc ms fl Q n' n kc ks (pc + 1) (a0 :: a1 :: a2 :: .int (iz x) :: l) st ρ f g) : V y cc nL rt d mc ms fl Q n' n kc ks pc (a0 :: a1 :: a2 :: b :: l) (.int (iz x) :: st) ρ f g :=
  V_istoreGn hd (hi := rfl) (i := 3) hn (by simp [st1, st1, h0]) h
theorem V_is3 {a0 a1 a2 : Value} {b : Value} {x : Int} {l : List Value} (hd : decode cc pc = .ok (.istore 3, 2)) (hn : 3 < nL) (h0 : a2.category = 1) (h : V y cc nL rt d mc ms fl Q n' n kc ks (pc + 2) (a0 :: a1 :: a2 :: .int (iz x) :: l) st ρ f g) : V y cc nL rt d mc ms fl Q n' n kc ks pc (a0 :: a1 :: a2 :: b :: l) (.int (iz x) :: st) ρ f g :=
  V_istoreG hd (i := 3) hn (by simp [st1, st1, h0]) h
theorem V_ls3n {a0 a1 a2 : Value} {b b2 : Value} {x : Int} {l : List Value} (hd : decode cc pc = .ok (.lstore_n 3, 1)) (hn : 4 < nL) (h0 : a2.category = 1) (h : V y cc nL rt d mc ms fl Q n' n kc ks (pc + 1) (a0 :: a1 :: a2 :: .long (lz x) :: .null :: l) st ρ f g) : V y cc nL rt d mc ms fl Q n' n kc ks pc (a0 :: a1 :: a2 :: b :: b2 :: l) (.long (lz x) :: st) ρ f g :=
  V_lstoreGn hd (hi := rfl) (i := 3) hn (by simp [st2, st1, h0]) h
theorem V_ls3 {a0 a1 a2 : Value} {b b2 : Value} {x : Int} {l : List Value} (hd : decode cc pc = .ok (.lstore 3, 2)) (hn : 4 < nL) (h0 : a2.category = 1) (h : V y cc nL rt d mc ms fl Q n' n kc ks (pc + 2) (a0 :: a1 :: a2 :: .long (lz x) :: .null :: l) st ρ f g) : V y cc nL rt d mc ms fl Q n' n kc ks pc (a0 :: a1 :: a2 :: b :: b2 :: l) (.long (lz x) :: st) ρ f g :=
  V_lstoreG hd (i := 3) hn (by simp [st2, st1, h0]) h
theorem V_as3n {a0 a1 a2 : Value} {b : Value} {x : Nat} {l : List Value} (hd : decode cc pc = .ok (.astore_n 3, 1)) (hn : 3 < nL) (h0 : a2.category = 1) (h : V y cc nL rt d mc ms fl Q n' n kc ks (pc + 1) (a0 :: a1 :: a2 :: .ref x :: l) st ρ f g) : V y cc nL rt d mc ms fl Q n' n kc ks pc (a0 :: a1 :: a2 :: b :: l) (.ref x :: st) ρ f g :=
  V_astoreGn hd (hi := rfl) (i := 3) hn (by simp [st1, st1, h0]) h
theorem V_as3 {a0 a1 a2 : Value} {b : Value} {x : Nat} {l : List Value} (hd : decode cc pc = .ok (.astore 3, 2)) (hn : 3 < nL) (h0 : a2.category = 1) (h : V y cc nL rt d mc ms fl Q n' n kc ks (pc + 2) (a0 :: a1 :: a2 :: .ref x :: l) st ρ f g) : V y cc nL rt d mc ms fl Q n' n kc ks pc (a0 :: a1 :: a2 :: b :: l) (.ref x :: st) ρ f g :=
  V_astoreG hd (i := 3) hn (by simp [st1, st1, h0]) h
theorem V_inc3 {a0 a1 a2 : Value} {x k : Int} {l : List Value} (hd : decode cc pc = .ok (.iinc 3 k, 3)) (hn : 3 < nL) (h0 : a2.category = 1) (h : V y cc nL rt d mc ms fl Q n' n kc ks (pc + 3) (a0 :: a1 :: a2 :: .int (iz (x + k)) :: l) st ρ f g) : V y cc nL rt d mc ms fl Q n' n kc ks pc (a0 :: a1 :: a2 :: .int (iz x) :: l) st ρ f g :=
  V_iincG hd hn rfl (by simp [st1, h0]) h
theorem V_is4 {a0 a1 a2 a3 : Value} {b : Value} {x : Int} {l : List Value} (hd : decode cc pc = .ok (.istore 4, 2)) (hn : 4 < nL) (h0 : a3.category = 1) (h : V y cc nL rt d mc ms fl Q n' n kc ks (pc + 2) (a0 :: a1 :: a2 :: a3 :: .int (iz x) :: l) st ρ f g) : V y cc nL rt d mc ms fl Q n' n kc ks pc (a0 :: a1 :: a2 :: a3 :: b :: l) (.int (iz x) :: st) ρ f g :=
  V_istoreG hd (i := 4) hn (by simp [st1, st1, h0]) h
theorem V_ls4 {a0 a1 a2 a3 : Value} {b b2 : Value} {x : Int} {l : List Value} (hd : decode cc pc = .ok (.lstore 4, 2)) (hn : 5 < nL) (h0 : a3.category = 1) (h : V y cc nL rt d mc ms fl Q n' n kc ks (pc + 2) (a0 :: a1 :: a2 :: a3 :: .long (lz x) :: .null :: l) st ρ f g) : V y cc nL rt d mc ms fl Q n' n kc ks pc (a0 :: a1 :: a2 :: a3 :: b :: b2 :: l) (.long (lz x) :: st) ρ f g :=
  V_lstoreG hd (i := 4) hn (by simp [st2, st1, h0]) h
theorem V_as4 {a0 a1 a2 a3 : Value} {b : Value} {x : Nat} {l : List Value} (hd : decode cc pc = .ok (.astore 4, 2)) (hn : 4 < nL) (h0 : a3.category = 1) (h : V y cc nL rt d mc ms fl Q n' n kc ks (pc + 2) (a0 :: a1 :: a2 :: a3 :: .ref x :: l) st ρ f g) : V y cc nL rt d mc ms fl Q n' n kc ks pc (a0 :: a1 :: a2 :: a3 :: b :: l) (.ref x :: st) ρ f g :=
  V_astoreG hd (i := 4) hn (by simp [st1, st1, h0]) h
theorem V_inc4 {a0 a1 a2 a3 : Value} {x k : Int} {l : List Value} (hd : decode cc pc = .ok (.iinc 4 k, 3)) (hn : 4 < nL) (h0 : a3.category = 1) (h : V y cc nL rt d mc ms fl Q n' n kc ks (pc + 3) (a0 :: a1 :: a2 :: a3 :: .int (iz (x + k)) :: l) st ρ f g) : V y cc nL rt d mc ms fl Q n' n kc ks pc (a0 :: a1 :: a2 :: a3 :: .int (iz x) :: l) st ρ f g :=
  V_iincG hd hn rfl (by simp [st1, h0]) h
theorem V_is5 {a0 a1 a2 a3 a4 : Value} {b : Value} {x : Int} {l : List Value} (hd : decode cc pc = .ok (.istore 5, 2)) (hn : 5 < nL) (h0 : a4.category = 1) (h : V y cc nL rt d mc ms fl Q n' n kc ks (pc + 2) (a0 :: a1 :: a2 :: a3 :: a4 :: .int (iz x) :: l) st ρ f g) : V y cc nL rt d mc ms fl Q n' n kc ks pc (a0 :: a1 :: a2 :: a3 :: a4 :: b :: l) (.int (iz x) :: st) ρ f g :=
  V_istoreG hd (i := 5) hn (by simp [st1, st1, h0]) h
theorem V_ls5 {a0 a1 a2 a3 a4 : Value} {b b2 : Value} {x : Int} {l : List Value} (hd : decode cc pc = .ok (.lstore 5, 2)) (hn : 6 < nL) (h0 : a4.category = 1) (h : V y cc nL rt d mc ms fl Q n' n kc ks (pc + 2) (a0 :: a1 :: a2 :: a3 :: a4 :: .long (lz x) :: .null :: l) st ρ f g) : V y cc nL rt d mc ms fl Q n' n kc ks pc (a0 :: a1 :: a2 :: a3 :: a4 :: b :: b2 :: l) (.long (lz x) :: st) ρ f g :=
  V_lstoreG hd (i := 5) hn (by simp [st2, st1, h0]) h
theorem V_as5 {a0 a1 a2 a3 a4 : Value} {b : Value} {x : Nat} {l : List Value} (hd : decode cc pc = .ok (.astore 5, 2)) (hn : 5 < nL) (h0 : a4.category = 1) (h : V y cc nL rt d mc ms fl Q n' n kc ks (pc + 2) (a0 :: a1 :: a2 :: a3 :: a4 :: .ref x :: l) st ρ f g) : V y cc nL rt d mc ms fl Q n' n kc ks pc (a0 :: a1 :: a2 :: a3 :: a4 :: b :: l) (.ref x :: st) ρ f g :=
  V_astoreG hd (i := 5) hn (by simp [st1, st1, h0]) h
theorem V_inc5 {a0 a1 a2 a3 a4 : Value} {x k : Int} {l : List Value} (hd : decode cc pc = .ok (.iinc 5 k, 3)) (hn : 5 < nL) (h0 : a4.category = 1) (h : V y cc nL rt d mc ms fl Q n' n kc ks (pc + 3) (a0 :: a1 :: a2 :: a3 :: a4 :: .int (iz (x + k)) :: l) st ρ f g) : V y cc nL rt d mc ms fl Q n' n kc ks pc (a0 :: a1 :: a2 :: a3 :: a4 :: .int (iz x) :: l) st ρ f g :=
  V_iincG hd hn rfl (by simp [st1, h0]) h
theorem V_is6 {a0 a1 a2 a3 a4 a5 : Value} {b : Value} {x : Int} {l : List Value} (hd : decode cc pc = .ok (.istore 6, 2)) (hn : 6 < nL) (h0 : a5.category = 1) (h : V y cc nL rt d mc ms fl Q n' n kc ks (pc + 2) (a0 :: a1 :: a2 :: a3 :: a4 :: a5 :: .int (iz x) :: l) st ρ f g) : V y cc nL rt d mc ms fl Q n' n kc ks pc (a0 :: a1 :: a2 :: a3 :: a4 :: a5 :: b :: l) (.int (iz x) :: st) ρ f g :=
  V_istoreG hd (i := 6) hn (by simp [st1, st1, h0]) h
theorem V_ls6 {a0 a1 a2 a3 a4 a5 : Value} {b b2 : Value} {x : Int} {l : List Value} (hd : decode cc pc = .ok (.lstore 6, 2)) (hn : 7 < nL) (h0 : a5.category = 1) (h : V y cc nL rt d mc ms fl Q n' n kc ks (pc + 2) (a0 :: a1 :: a2 :: a3 :: a4 :: a5 :: .long (lz x) :: .null :: l) st ρ f g) : V y cc nL rt d mc ms fl Q n' n kc ks pc (a0 :: a1 :: a2 :: a3 :: a4 :: a5 :: b :: b2 :: l) (.long (lz x) :: st) ρ f g :=
  V_lstoreG hd (i := 6) hn (by simp [st2, st1, h0]) h
theorem V_as6 {a0 a1 a2 a3 a4 a5 : Value} {b : Value} {x : Nat} {l : List Value} (hd : decode cc pc = .ok (.astore 6, 2)) (hn : 6 < nL) (h0 : a5.category = 1) (h : V y cc nL rt d mc ms fl Q n' n kc ks (pc + 2) (a0 :: a1 :: a2 :: a3 :: a4 :: a5 :: .ref x :: l) st ρ f g) : V y cc nL rt d mc ms fl Q n' n kc ks pc (a0 :: a1 :: a2 :: a3 :: a4 :: a5 :: b :: l) (.ref x :: st) ρ f g :=
  V_astoreG hd (i := 6) hn (by simp [st1, st1, h0]) h
theorem V_inc6 {a0 a1 a2 a3 a4 a5 : Value} {x k : Int} {l : List Value} (hd : decode cc pc = .ok (.iinc 6 k, 3)) (hn : 6 < nL) (h0 : a5.category = 1) (h : V y cc nL rt d mc ms fl Q n' n kc ks (pc + 3) (a0 :: a1 :: a2 :: a3 :: a4 :: a5 :: .int (iz (x + k)) :: l) st ρ f g) : V y cc nL rt d mc ms fl Q n' n kc ks pc (a0 :: a1 :: a2 :: a3 :: a4 :: a5 :: .int (iz x) :: l) st ρ f g :=
  V_iincG hd hn rfl (by simp [st1, h0]) h
theorem V_is7 {a0 a1 a2 a3 a4 a5 a6 : Value} {b : Value} {x : Int} {l : List Value} (hd : decode cc pc = .ok (.istore 7, 2)) (hn : 7 < nL) (h0 : a6.category = 1) (h : V y cc nL rt d mc ms fl Q n' n kc ks (pc + 2) (a0 :: a1 :: a2 :: a3 :: a4 :: a5 :: a6 :: .int (iz x) :: l) st ρ f g) : V y cc nL rt d mc ms fl Q n' n kc ks pc (a0 :: a1 :: a2 :: a3 :: a4 :: a5 :: a6 :: b :: l) (.int (iz x) :: st) ρ f g :=
  V_istoreG hd (i := 7) hn (by simp [st1, st1, h0]) h
theorem V_ls7 {a0 a1 a2 a3 a4 a5 a6 : Value} {b b2 : Value} {x : Int} {l : List Value} (hd : decode cc pc = .ok (.lstore 7, 2)) (hn : 8 < nL) (h0 : a6.category = 1) (h : V y cc nL rt d mc ms fl Q n' n kc ks (pc + 2) (a0 :: a1 :: a2 :: a3 :: a4 :: a5 :: a6 :: .long (lz x) :: .null :: l) st ρ f g) : V y cc nL rt d mc ms fl Q n' n kc ks pc (a0 :: a1 :: a2 :: a3 :: a4 :: a5 :: a6 :: b :: b2 :: l) (.long (lz x) :: st) ρ f g :=
  V_lstoreG hd (i := 7) hn (by simp [st2, st1, h0]) h
theorem V_as7 {a0 a1 a2 a3 a4 a5 a6 : Value} {b : Value} {x : Nat} {l : List Value} (hd : decode cc pc = .ok (.astore 7, 2)) (hn : 7 < nL) (h0 : a6.category = 1) (h : V y cc nL rt d mc ms fl Q n' n kc ks (pc + 2) (a0 :: a1 :: a2 :: a3 :: a4 :: a5 :: a6 :: .ref x :: l) st ρ f g) : V y cc nL rt d mc ms fl Q n' n kc ks pc (a0 :: a1 :: a2 :: a3 :: a4 :: a5 :: a6 :: b :: l) (.ref x :: st) ρ f g :=
  V_astoreG hd (i := 7) hn (by simp [st1, st1, h0]) h
theorem V_inc7 {a0 a1 a2 a3 a4 a5 a6 : Value} {x k : Int} {l : List Value} (hd : decode cc pc = .ok (.iinc 7 k, 3)) (hn : 7 < nL) (h0 : a6.category = 1) (h : V y cc nL rt d mc ms fl Q n' n kc ks (pc + 3) (a0 :: a1 :: a2 :: a3 :: a4 :: a5 :: a6 :: .int (iz (x + k)) :: l) st ρ f g) : V y cc nL rt d mc ms fl Q n' n kc ks pc (a0 :: a1 :: a2 :: a3 :: a4 :: a5 :: a6 :: .int (iz x) :: l) st ρ f g :=
  V_iincG hd hn rfl (by simp [st1, h0]) h
theorem V_is8 {a0 a1 a2 a3 a4 a5 a6 a7 : Value} {b : Value} {x : Int} {l : List Value} (hd : decode cc pc = .ok (.istore 8, 2)) (hn : 8 < nL) (h0 : a7.category = 1) (h : V y cc nL rt d mc ms fl Q n' n kc ks (pc + 2) (a0 :: a1 :: a2 :: a3 :: a4 :: a5 :: a6 :: a7 :: .int (iz x) :: l) st ρ f g) : V y cc nL rt d mc ms fl Q n' n kc ks pc (a0 :: a1 :: a2 :: a3 :: a4 :: a5 :: a6 :: a7 :: b :: l) (.int (iz x) :: st) ρ f g :=
  V_istoreG hd (i := 8) hn (by simp [st1, st1, h0]) h
theorem V_ls8 {a0 a1 a2 a3 a4 a5 a6 a7 : Value} {b b2 : Value} {x : Int} {l : List Value} (hd : decode cc pc = .ok (.lstore 8, 2)) (hn : 9 < nL) (h0 : a7.category = 1) (h : V y cc nL rt d mc ms fl Q n' n kc ks (pc + 2) (a0 :: a1 :: a2 :: a3 :: a4 :: a5 :: a6 :: a7 :: .long (lz x) :: .null :: l) st ρ f g) : V y cc nL rt d mc ms fl Q n' n kc ks pc (a0 :: a1 :: a2 :: a3 :: a4 :: a5 :: a6 :: a7 :: b :: b2 :: l) (.long (lz x) :: st) ρ f g :=
  V_lstoreG hd (i := 8) hn (by simp [st2, st1, h0]) h
theorem V_as8 {a0 a1 a2 a3 a4 a5 a6 a7 : Value} {b : Value} {x : Nat} {l : List Value} (hd : decode cc pc = .ok (.astore 8, 2)) (hn : 8 < nL) (h0 : a7.category = 1) (h : V y cc nL rt d mc ms fl Q n' n kc ks (pc + 2) (a0 :: a1 :: a2 :: a3 :: a4 :: a5 :: a6 :: a7 :: .ref x :: l) st ρ f g) : V y cc nL rt d mc ms fl Q n' n kc ks pc (a0 :: a1 :: a2 :: a3 :: a4 :: a5 :: a6 :: a7 :: b :: l) (.ref x :: st) ρ f g :=
  V_astoreG hd (i := 8) hn (by simp [st1, st1, h0]) h
theorem V_inc8 {a0 a1 a2 a3 a4 a5 a6 a7 : Value} {x k : Int} {l : List Value} (hd : decode cc pc = .ok (.iinc 8 k, 3)) (hn : 8 < nL) (h0 : a7.category = 1) (h : V y cc nL rt d mc ms fl Q n' n kc ks (pc + 3) (a0 :: a1 :: a2 :: a3 :: a4 :: a5 :: a6 :: a7 :: .int (iz (x + k)) :: l) st ρ f g) : V y cc nL rt d mc ms fl Q n' n kc ks pc (a0 :: a1 :: a2 :: a3 :: a4 :: a5 :: a6 :: a7 :: .int (iz x) :: l) st ρ f g :=
  V_iincG hd hn rfl (by simp [st1, h0]) h
theorem V_is9 {a0 a1 a2 a3 a4 a5 a6 a7 a8 : Value} {b : Value} {x : Int} {l : List Value} (hd : decode cc pc = .ok (.istore 9, 2)) (hn : 9 < nL) (h0 : a8.category = 1) (h : V y cc nL rt d mc ms fl Q n' n kc ks (pc + 2) (a0 :: a1 :: a2 :: a3 :: a4 :: a5 :: a6 :: a7 :: a8 :: .int (iz x) :: l) st ρ f g) : V y cc nL rt d mc ms fl Q n' n kc ks pc (a0 :: a1 :: a2 :: a3 :: a4 :: a5 :: a6 :: a7 :: a8 :: b :: l) (.int (iz x) :: st) ρ f g :=
  V_istoreG hd (i := 9) hn (by simp [st1, st1, h0]) h
theorem V_ls9 {a0 a1 a2 a3 a4 a5 a6 a7 a8 : Value} {b b2 : Value} {x : Int} {l : List Value} (hd : decode cc pc = .ok (.lstore 9, 2)) (hn : 10 < nL) (h0 : a8.category = 1) (h : V y cc nL rt d mc ms fl Q n' n kc ks (pc + 2) (a0 :: a1 :: a2 :: a3 :: a4 :: a5 :: a6 :: a7 :: a8 :: .long (lz x) :: .null :: l) st ρ f g) : V y cc nL rt d mc ms fl Q n' n kc ks pc (a0 :: a1 :: a2 :: a3 :: a4 :: a5 :: a6 :: a7 :: a8 :: b :: b2 :: l) (.long (lz x) :: st) ρ f g :=
  V_lstoreG hd (i := 9) hn (by simp [st2, st1, h0]) h
theorem V_as9 {a0 a1 a2 a3 a4 a5 a6 a7 a8 : Value} {b : Value} {x : Nat} {l : List Value} (hd : decode cc pc = .ok (.astore 9, 2)) (hn : 9 < nL) (h0 : a8.category = 1) (h : V y cc nL rt d mc ms fl Q n' n kc ks (pc + 2) (a0 :: a1 :: a2 :: a3 :: a4 :: a5 :: a6 :: a7 :: a8 :: .ref x :: l) st ρ f g) : V y cc nL rt d mc ms fl Q n' n kc ks pc (a0 :: a1 :: a2 :: a3 :: a4 :: a5 :: a6 :: a7 :: a8 :: b :: l) (.ref x :: st) ρ f g :=
  V_astoreG hd (i := 9) hn (by simp [st1, st1, h0]) h
theorem V_inc9 {a0 a1 a2 a3 a4 a5 a6 a7 a8 : Value} {x k : Int} {l : List Value} (hd : decode cc pc = .ok (.iinc 9 k, 3)) (hn : 9 < nL) (h0 : a8.category = 1) (h : V y cc nL rt d mc ms fl Q n' n kc ks (pc + 3) (a0 :: a1 :: a2 :: a3 :: a4 :: a5 :: a6 :: a7 :: a8 :: .int (iz (x + k)) :: l) st ρ f g) : V y cc nL rt d mc ms fl Q n' n kc ks pc (a0 :: a1 :: a2 :: a3 :: a4 :: a5 :: a6 :: a7 :: a8 :: .int (iz x) :: l) st ρ f g :=
  V_iincG hd hn rfl (by simp [st1, h0]) h
theorem V_is10 {a0 a1 a2 a3 a4 a5 a6 a7 a8 a9 : Value} {b : Value} {x : Int} {l : List Value} (hd : decode cc pc = .ok (.istore 10, 2)) (hn : 10 < nL) (h0 : a9.category = 1) (h : V y cc nL rt d mc ms fl Q n' n kc ks (pc + 2) (a0 :: a1 :: a2 :: a3 :: a4 :: a5 :: a6 :: a7 :: a8 :: a9 :: .int (iz x) :: l) st ρ f g) : V y cc nL rt d mc ms fl Q n' n kc ks pc (a0 :: a1 :: a2 :: a3 :: a4 :: a5 :: a6 :: a7 :: a8 :: a9 :: b :: l) (.int (iz x) :: st) ρ f g :=
  V_istoreG hd (i := 10) hn (by simp [st1, st1, h0]) h
theorem V_ls10 {a0 a1 a2 a3 a4 a5 a6 a7 a8 a9 : Value} {b b2 : Value} {x : Int} {l : List Value} (hd : decode cc pc = .ok (.lstore 10, 2)) (hn : 11 < nL) (h0 : a9.category = 1) (h : V y cc nL rt d mc ms fl Q n' n kc ks (pc + 2) (a0 :: a1 :: a2 :: a3 :: a4 :: a5 :: a6 :: a7 :: a8 :: a9 :: .long (lz x) :: .null :: l) st ρ f g) : V y cc nL rt d mc ms fl Q n' n kc ks pc (a0 :: a1 :: a2 :: a3 :: a4 :: a5 :: a6 :: a7 :: a8 :: a9 :: b :: b2 :: l) (.long (lz x) :: st) ρ f g :=
  V_lstoreG hd (i := 10) hn (by simp [st2, st1, h0]) h
theorem V_as10 {a0 a1 a2 a3 a4 a5 a6 a7 a8 a9 : Value} {b : Value} {x : Nat} {l : List Value} (hd : decode cc pc = .ok (.astore 10, 2)) (hn : 10 < nL) (h0 : a9.category = 1) (h : V y cc nL rt d mc ms fl Q n' n kc ks (pc + 2) (a0 :: a1 :: a2 :: a3 :: a4 :: a5 :: a6 :: a7 :: a8 :: a9 :: .ref x :: l) st ρ f g) : V y cc nL rt d mc ms fl Q n' n kc ks pc (a0 :: a1 :: a2 :: a3 :: a4 :: a5 :: a6 :: a7 :: a8 :: a9 :: b :: l) (.ref x :: st) ρ f g :=
  V_astoreG hd (i := 10) hn (by simp [st1, st1, h0]) h
theorem V_inc10 {a0 a1 a2 a3 a4 a5 a6 a7 a8 a9 : Value} {x k : Int} {l : List Value} (hd : decode cc pc = .ok (.iinc 10 k, 3)) (hn : 10 < nL) (h0 : a9.category = 1) (h : V y cc nL rt d mc ms fl Q n' n kc ks (pc + 3) (a0 :: a1 :: a2 :: a3 :: a4 :: a5 :: a6 :: a7 :: a8 :: a9 :: .int (iz (x + k)) :: l) st ρ f g) : V y cc nL rt d mc ms fl Q n' n kc ks pc (a0 :: a1 :: a2 :: a3 :: a4 :: a5 :: a6 :: a7 :: a8 :: a9 :: .int (iz x) :: l) st ρ f g :=
  V_iincG hd hn rfl (by simp [st1, h0]) h
theorem V_is11 {a0 a1 a2 a3 a4 a5 a6 a7 a8 a9 a10 : Value} {b : Value} {x : Int} {l : List Value} (hd : decode cc pc = .ok (.istore 11, 2)) (hn : 11 < nL) (h0 : a10.category = 1) (h : V y cc nL rt d mc ms fl Q n' n kc ks (pc + 2) (a0 :: a1 :: a2 :: a3 :: a4 :: a5 :: a6 :: a7 :: a8 :: a9 :: a10 :: .int (iz x) :: l) st ρ f g) : V y cc nL rt d mc ms fl Q n' n kc ks pc (a0 :: a1 :: a2 :: a3 :: a4 :: a5 :: a6 :: a7 :: a8 :: a9 :: a10 :: b :: l) (.int (iz x) :: st) ρ f g :=
  V_istoreG hd (i := 11) hn (by simp [st1, st1, h0]) h
theorem V_ls11 {a0 a1 a2 a3 a4 a5 a6 a7 a8 a9 a10 : Value} {b b2 : Value} {x : Int} {l : List Value} (hd : decode cc pc = .ok (.lstore 11, 2)) (hn : 12 < nL) (h0 : a10.category = 1) (h : V y cc nL rt d mc ms fl Q n' n kc ks (pc + 2) (a0 :: a1 :: a2 :: a3 :: a4 :: a5 :: a6 :: a7 :: a8 :: a9 :: a10 :: .long (lz x) :: .null :: l) st ρ f g) : V y cc nL rt d mc ms fl Q n' n kc ks pc (a0 :: a1 :: a2 :: a3 :: a4 :: a5 :: a6 :: a7 :: a8 :: a9 :: a10 :: b :: b2 :: l) (.long (lz x) :: st) ρ f g :=
  V_lstoreG hd (i := 11) hn (by simp [st2, st1, h0]) h
theorem V_as11 {a0 a1 a2 a3 a4 a5 a6 a7 a8 a9 a10 : Value} {b : Value} {x : Nat} {l : List Value} (hd : decode cc pc = .ok (.astore 11, 2)) (hn : 11 < nL) (h0 : a10.category = 1) (h : V y cc nL rt d mc ms fl Q n' n kc ks (pc + 2) (a0 :: a1 :: a2 :: a3 :: a4 :: a5 :: a6 :: a7 :: a8 :: a9 :: a10 :: .ref x :: l) st ρ f g) : V y cc nL rt d mc ms fl Q n' n kc ks pc (a0 :: a1 :: a2 :: a3 :: a4 :: a5 :: a6 :: a7 :: a8 :: a9 :: a10 :: b :: l) (.ref x :: st) ρ f g :=
  V_astoreG hd (i := 11) hn (by simp [st1, st1, h0]) h
theorem V_inc11 {a0 a1 a2 a3 a4 a5 a6 a7 a8 a9 a10 : Value} {x k : Int} {l : List Value} (hd : decode cc pc = .ok (.iinc 11 k, 3)) (hn : 11 < nL) (h0 : a10.category = 1) (h : V y cc nL rt d mc ms fl Q n' n kc ks (pc + 3) (a0 :: a1 :: a2 :: a3 :: a4 :: a5 :: a6 :: a7 :: a8 :: a9 :: a10 :: .int (iz (x + k)) :: l) st ρ f g) : V y cc nL rt d mc ms fl Q n' n kc ks pc (a0 :: a1 :: a2 :: a3 :: a4 :: a5 :: a6 :: a7 :: a8 :: a9 :: a10 :: .int (iz x) :: l) st ρ f g :=
  V_iincG hd hn rfl (by simp [st1, h0]) h
theorem V_is12 {a0 a1 a2 a3 a4 a5 a6 a7 a8 a9 a10 a11 : Value} {b : Value} {x : Int} {l : List Value} (hd : decode cc pc = .ok (.istore 12, 2)) (hn : 12 < nL) (h0 : a11.category = 1) (h : V y cc nL rt d mc ms fl Q n' n kc ks (pc + 2) (a0 :: a1 :: a2 :: a3 :: a4 :: a5 :: a6 :: a7 :: a8 :: a9 :: a10 :: a11 :: .int (iz x) :: l) st ρ f g) : V y cc nL rt d mc ms fl Q n' n kc ks pc (a0 :: a1 :: a2 :: a3 :: a4 :: a5 :: a6 :: a7 :: a8 :: a9 :: a10 :: a11 :: b :: l) (.int (iz x) :: st) ρ f g :=
  V_istoreG hd (i := 12) hn (by simp [st1, st1, h0]) h
theorem V_ls12 {a0 a1 a2 a3 a4 a5 a6 a7 a8 a9 a10 a11 : Value} {b b2 : Value} {x : Int} {l : List Value} (hd : decode cc pc = .ok (.lstore 12, 2)) (hn : 13 < nL) (h0 : a11.category = 1) (h : V y cc nL rt d mc ms fl Q n' n kc ks (pc + 2) (a0 :: a1 :: a2 :: a3 :: a4 :: a5 :: a6 :: a7 :: a8 :: a9 :: a10 :: a11 :: .long (lz x) :: .null :: l) st ρ f g) : V y cc nL rt d mc ms fl Q n' n kc ks pc (a0 :: a1 :: a2 :: a3 :: a4 :: a5 :: a6 :: a7 :: a8 :: a9 :: a10 :: a11 :: b :: b2 :: l) (.long (lz x) :: st) ρ f g :=
  V_lstoreG hd (i := 12) hn (by simp [st2, st1, h0]) h
theorem V_as12 {a0 a1 a2 a3 a4 a5 a6 a7 a8 a9 a10 a11 : Value} {b : Value} {x : Nat} {l : List Value} (hd : decode cc pc = .ok (.astore 12, 2)) (hn : 12 < nL) (h0 : a11.category = 1) (h : V y cc nL rt d mc ms fl Q n' n kc ks (pc + 2) (a0 :: a1 :: a2 :: a3 :: a4 :: a5 :: a6 :: a7 :: a8 :: a9 :: a10 :: a11 :: .ref x :: l) st ρ f g) : V y cc nL rt d mc ms fl Q n' n kc ks pc (a0 :: a1 :: a2 :: a3 :: a4 :: a5 :: a6 :: a7 :: a8 :: a9 :: a10 :: a11 :: b :: l) (.ref x :: st) ρ f g :=
  V_astoreG hd (i := 12) hn (by simp [st1, st1, h0]) h
theorem V_inc12 {a0 a1 a2 a3 a4 a5 a6 a7 a8 a9 a10 a11 : Value} {x k : Int} {l : List Value} (hd : decode cc pc = .ok (.iinc 12 k, 3)) (hn : 12 < nL) (h0 : a11.category = 1) (h : V y cc nL rt d mc ms fl Q n' n kc ks (pc + 3) (a0 :: a1 :: a2 :: a3 :: a4 :: a5 :: a6 :: a7 :: a8 :: a9 :: a10 :: a11 :: .int (iz (x + k)) :: l) st ρ f g) : V y cc nL rt d mc ms fl Q n' n kc ks pc (a0 :: a1 :: a2 :: a3 :: a4 :: a5 :: a6 :: a7 :: a8 :: a9 :: a10 :: a11 :: .int (iz x) :: l) st ρ f g :=
  V_iincG hd hn rfl (by simp [st1, h0]) h
theorem V_is13 {a0 a1 a2 a3 a4 a5 a6 a7 a8 a9 a10 a11 a12 : Value} {b : Value} {x : Int} {l : List Value} (hd : decode cc pc = .ok (.istore 13, 2)) (hn : 13 < nL) (h0 : a12.category = 1) (h : V y cc nL rt d mc ms fl Q n' n kc ks (pc + 2) (a0 :: a1 :: a2 :: a3 :: a4 :: a5 :: a6 :: a7 :: a8 :: a9 :: a10 :: a11 :: a12 :: .int (iz x) :: l) st ρ f g) : V y cc nL rt d mc ms fl Q n' n kc ks pc (a0 :: a1 :: a2 :: a3 :: a4 :: a5 :: a6 :: a7 :: a8 :: a9 :: a10 :: a11 :: a12 :: b :: l) (.int (iz x) :: st) ρ f g :=
  V_istoreG hd (i := 13) hn (by simp [st1, st1, h0]) h
theorem V_ls13 {a0 a1 a2 a3 a4 a5 a6 a7 a8 a9 a10 a11 a12 : Value} {b b2 : Value} {x : Int} {l : List Value} (hd : decode cc pc = .ok (.lstore 13, 2)) (hn : 14 < nL) (h0 : a12.category = 1) (h : V y cc nL rt d mc ms fl Q n' n kc ks (pc + 2) (a0 :: a1 :: a2 :: a3 :: a4 :: a5 :: a6 :: a7 :: a8 :: a9 :: a10 :: a11 :: a12 :: .long (lz x) :: .null :: l) st ρ f g) : V y cc nL rt d mc ms fl Q n' n kc ks pc (a0 :: a1 :: a2 :: a3 :: a4 :: a5 :: a6 :: a7 :: a8 :: a9 :: a10 :: a11 :: a12 :: b :: b2 :: l) (.long (lz x) :: st) ρ f g :=
  V_lstoreG hd (i := 13) hn (by simp [st2, st1, h0]) h
theorem V_as13 {a0 a1 a2 a3 a4 a5 a6 a7 a8 a9 a10 a11 a12 : Value} {b : Value} {x : Nat} {l : List Value} (hd : decode cc pc = .ok (.astore 13, 2)) (hn : 13 < nL) (h0 : a12.category = 1) (h : V y cc nL rt d mc ms fl Q n' n kc ks (pc + 2) (a0 :: a1 :: a2 :: a3 :: a4 :: a5 :: a6 :: a7 :: a8 :: a9 :: a10 :: a11 :: a12 :: .ref x :: l) st ρ f g) : V y cc nL rt d mc ms fl Q n' n kc ks pc (a0 :: a1 :: a2 :: a3 :: a4 :: a5 :: a6 :: a7 :: a8 :: a9 :: a10 :: a11 :: a12 :: b :: l) (.ref x :: st) ρ f g :=
  V_astoreG hd (i := 13) hn (by simp [st1, st1, h0]) h
theorem V_inc13 {a0 a1 a2 a3 a4 a5 a6 a7 a8 a9 a10 a11 a12 : Value} {x k : Int} {l : List Value} (hd : decode cc pc = .ok (.iinc 13 k, 3)) (hn : 13 < nL) (h0 : a12.category = 1) (h : V y cc nL rt d mc ms fl Q n' n kc ks (pc + 3) (a0 :: a1 :: a2 :: a3 :: a4 :: a5 :: a6 :: a7 :: a8 :: a9 :: a10 :: a11 :: a12 :: .int (iz (x + k)) :: l) st ρ f g) : V y cc nL rt d mc ms fl Q n' n kc ks pc (a0 :: a1 :: a2 :: a3 :: a4 :: a5 :: a6 :: a7 :: a8 :: a9 :: a10 :: a11 :: a12 :: .int (iz x) :: l) st ρ f g :=
  V_iincG hd hn rfl (by simp [st1, h0]) h
theorem V_is14 {a0 a1 a2 a3 a4 a5 a6 a7 a8 a9 a10 a11 a12 a13 : Value} {b : Value} {x : Int} {l : List Value} (hd : decode cc pc = .ok (.istore 14, 2)) (hn : 14 < nL) (h0 : a13.category = 1) (h : V y cc nL rt d mc ms fl Q n' n kc ks (pc + 2) (a0 :: a1 :: a2 :: a3 :: a4 :: a5 :: a6 :: a7 :: a8 :: a9 :: a10 :: a11 :: a12 :: a13 :: .int (iz x) :: l) st ρ f g) : V y cc nL rt d mc ms fl Q n' n kc ks pc (a0 :: a1 :: a2 :: a3 :: a4 :: a5 :: a6 :: a7 :: a8 :: a9 :: a10 :: a11 :: a12 :: a13 :: b :: l) (.int (iz x) :: st) ρ f g :=
  V_istoreG hd (i := 14) hn (by simp [st1, st1, h0]) h
theorem V_ls14 {a0 a1 a2 a3 a4 a5 a6 a7 a8 a9 a10 a11 a12 a13 : Value} {b b2 : Value} {x : Int} {l : List Value} (hd : decode cc pc = .ok (.lstore 14, 2)) (hn : 15 < nL) (h0 : a13.category = 1) (h : V y cc nL rt d mc ms fl Q n' n kc ks (pc + 2) (a0 :: a1 :: a2 :: a3 :: a4 :: a5 :: a6 :: a7 :: a8 :: a9 :: a10 :: a11 :: a12 :: a13 :: .long (lz x) :: .null :: l) st ρ f g) : V y cc nL rt d mc ms fl Q n' n kc ks pc (a0 :: a1 :: a2 :: a3 :: a4 :: a5 :: a6 :: a7 :: a8 :: a9 :: a10 :: a11 :: a12 :: a13 :: b :: b2 :: l) (.long (lz x) :: st) ρ f g :=
  V_lstoreG hd (i := 14) hn (by simp [st2, st1, h0]) h
theorem V_as14 {a0 a1 a2 a3 a4 a5 a6 a7 a8 a9 a10 a11 a12 a13 : Value} {b : Value} {x : Nat} {l : List Value} (hd : decode cc pc = .ok (.astore 14, 2)) (hn : 14 < nL) (h0 : a13.category = 1) (h : V y cc nL rt d mc ms fl Q n' n kc ks (pc + 2) (a0 :: a1 :: a2 :: a3 :: a4 :: a5 :: a6 :: a7 :: a8 :: a9 :: a10 :: a11 :: a12 :: a13 :: .ref x :: l) st ρ f g) : V y cc nL rt d mc ms fl Q n' n kc ks pc (a0 :: a1 :: a2 :: a3 :: a4 :: a5 :: a6 :: a7 :: a8 :: a9 :: a10 :: a11 :: a12 :: a13 :: b :: l) (.ref x :: st) ρ f g :=
  V_astoreG hd (i := 14) hn (by simp [st1, st1, h0]) h
theorem V_inc14 {a0 a1 a2 a3 a4 a5 a6 a7 a8 a9 a10 a11 a12 a13 : Value} {x k : Int} {l : List Value} (hd : decode cc pc = .ok (.iinc 14 k, 3)) (hn : 14 < nL) (h0 : a13.category = 1) (h : V y cc nL rt d mc ms fl Q n' n kc ks (pc + 3) (a0 :: a1 :: a2 :: a3 :: a4 :: a5 :: a6 :: a7 :: a8 :: a9 :: a10 :: a11 :: a12 :: a13 :: .int (iz (x + k)) :: l) st ρ f g) : V y cc nL rt d mc ms fl Q n' n kc ks pc (a0 :: a1 :: a2 :: a3 :: a4 :: a5 :: a6 :: a7 :: a8 :: a9 :: a10 :: a11 :: a12 :: a13 :: .int (iz x) :: l) st ρ f g :=
  V_iincG hd hn rfl (by simp [st1, h0]) h
theorem V_is15 {a0 a1 a2 a3 a4 a5 a6 a7 a8 a9 a10 a11 a12 a13 a14 : Value} {b : Value} {x : Int} {l : List Value} (hd : decode cc pc = .ok (.istore 15, 2)) (hn : 15 < nL) (h0 : a14.category = 1) (h : V y cc nL rt d mc ms fl Q n' n kc ks (pc + 2) (a0 :: a1 :: a2 :: a3 :: a4 :: a5 :: a6 :: a7 :: a8 :: a9 :: a10 :: a11 :: a12 :: a13 :: a14 :: .int (iz x) :: l) st ρ f g) : V y cc nL rt d mc ms fl Q n' n kc ks pc (a0 :: a1 :: a2 :: a3 :: a4 :: a5 :: a6 :: a7 :: a8 :: a9 :: a10 :: a11 :: a12 :: a13 :: a14 :: b :: l) (.int (iz x) :: st) ρ f g :=
  V_istoreG hd (i := 15) hn (by simp [st1, st1, h0]) h
theorem V_ls15 {a0 a1 a2 a3 a4 a5 a6 a7 a8 a9 a10 a11 a12 a13 a14 : Value} {b b2 : Value} {x : Int} {l : List Value} (hd : decode cc pc = .ok (.lstore 15, 2)) (hn : 16 < nL) (h0 : a14.category = 1) (h : V y cc nL rt d mc ms fl Q n' n kc ks (pc + 2) (a0 :: a1 :: a2 :: a3 :: a4 :: a5 :: a6 :: a7 :: a8 :: a9 :: a10 :: a11 :: a12 :: a13 :: a14 :: .long (lz x) :: .null :: l) st ρ f g) : V y cc nL rt d mc ms fl Q n' n kc ks pc (a0 :: a1 :: a2 :: a3 :: a4 :: a5 :: a6 :: a7 :: a8 :: a9 :: a10 :: a11 :: a12 :: a13 :: a14 :: b :: b2 :: l) (.long (lz x) :: st) ρ f g :=
  V_lstoreG hd (i := 15) hn (by simp [st2, st1, h0]) h
theorem V_as15 {a0 a1 a2 a3 a4 a5 a6 a7 a8 a9 a10 a11 a12 a13 a14 : Value} {b : Value} {x : Nat} {l : List Value} (hd : decode cc pc = .ok (.astore 15, 2)) (hn : 15 < nL) (h0 : a14.category = 1) (h : V y cc nL rt d mc ms fl Q n' n kc ks (pc + 2) (a0 :: a1 :: a2 :: a3 :: a4 :: a5 :: a6 :: a7 :: a8 :: a9 :: a10 :: a11 :: a12 :: a13 :: a14 :: .ref x :: l) st ρ f g) : V y cc nL rt d mc ms fl Q n' n kc ks pc (a0 :: a1 :: a2 :: a3 :: a4 :: a5 :: a6 :: a7 :: a8 :: a9 :: a10 :: a11 :: a12 :: a13 :: a14 :: b :: l) (.ref x :: st) ρ f g :=
  V_astoreG hd (i := 15) hn (by simp [st1, st1, h0]) h
theorem V_inc15 {a0 a1 a2 a3 a4 a5 a6 a7 a8 a9 a10 a11 a12 a13 a14 : Value} {x k : Int} {l : List Value} (hd : decode cc pc = .ok (.iinc 15 k, 3)) (hn : 15 < nL) (h0 : a14.category = 1) (h : V y cc nL rt d mc ms fl Q n' n kc ks (pc + 3) (a0 :: a1 :: a2 :: a3 :: a4 :: a5 :: a6 :: a7 :: a8 :: a9 :: a10 :: a11 :: a12 :: a13 :: a14 :: .int (iz (x + k)) :: l) st ρ f g) : V y cc nL rt d mc ms fl Q n' n kc ks pc (a0 :: a1 :: a2 :: a3 :: a4 :: a5 :: a6 :: a7 :: a8 :: a9 :: a10 :: a11 :: a12 :: a13 :: a14 :: .int (iz x) :: l) st ρ f g :=
  V_iincG hd hn rfl (by simp [st1, h0]) h
theorem V_is16 {a0 a1 a2 a3 a4 a5 a6 a7 a8 a9 a10 a11 a12 a13 a14 a15 : Value} {b : Value} {x : Int} {l : List Value} (hd : decode cc pc = .ok (.istore 16, 2)) (hn : 16 < nL) (h0 : a15.category = 1) (h : V y cc nL rt d mc ms fl Q n' n kc ks (pc + 2) (a0 :: a1 :: a2 :: a3 :: a4 :: a5 :: a6 :: a7 :: a8 :: a9 :: a10 :: a11 :: a12 :: a13 :: a14 :: a15 :: .int (iz x) :: l) st ρ f g) : V y cc nL rt d mc ms fl Q n' n kc ks pc (a0 :: a1 :: a2 :: a3 :: a4 :: a5 :: a6 :: a7 :: a8 :: a9 :: a10 :: a11 :: a12 :: a13 :: a14 :: a15 :: b :: l) (.int (iz x) :: st) ρ f g :=
  V_istoreG hd (i := 16) hn (by simp [st1, st1, h0]) h
theorem V_ls16 {a0 a1 a2 a3 a4 a5 a6 a7 a8 a9 a10 a11 a12 a13 a14 a15 : Value} {b b2 : Value} {x : Int} {l : List Value} (hd : decode cc pc = .ok (.lstore 16, 2)) (hn : 17 < nL) (h0 : a15.category = 1) (h : V y cc nL rt d mc ms fl Q n' n kc ks (pc + 2) (a0 :: a1 :: a2 :: a3 :: a4 :: a5 :: a6 :: a7 :: a8 :: a9 :: a10 :: a11 :: a12 :: a13 :: a14 :: a15 :: .long (lz x) :: .null :: l) st ρ f g) : V y cc nL rt d mc ms fl Q n' n kc ks pc (a0 :: a1 :: a2 :: a3 :: a4 :: a5 :: a6 :: a7 :: a8 :: a9 :: a10 :: a11 :: a12 :: a13 :: a14 :: a15 :: b :: b2 :: l) (.long (lz x) :: st) ρ f g :=
  V_lstoreG hd (i := 16) hn (by simp [st2, st1, h0]) h
theorem V_as16 {a0 a1 a2 a3 a4 a5 a6 a7 a8 a9 a10 a11 a12 a13 a14 a15 : Value} {b : Value} {x : Nat} {l : List Value} (hd : decode cc pc = .ok (.astore 16, 2)) (hn : 16 < nL) (h0 : a15.category = 1) (h : V y cc nL rt d mc ms fl Q n' n kc ks (pc + 2) (a0 :: a1 :: a2 :: a3 :: a4 :: a5 :: a6 :: a7 :: a8 :: a9 :: a10 :: a11 :: a12 :: a13 :: a14 :: a15 :: .ref x :: l) st ρ f g) : V y cc nL rt d mc ms fl Q n' n kc ks pc (a0 :: a1 :: a2 :: a3 :: a4 :: a5 :: a6 :: a7 :: a8 :: a9 :: a10 :: a11 :: a12 :: a13 :: a14 :: a15 :: b :: l) (.ref x :: st) ρ f g :=
  V_astoreG hd (i := 16) hn (by simp [st1, st1, h0]) h
theorem V_inc16 {a0 a1 a2 a3 a4 a5 a6 a7 a8 a9 a10 a11 a12 a13 a14 a15 : Value} {x k : Int} {l : List Value} (hd : decode cc pc = .ok (.iinc 16 k, 3)) (hn : 16 < nL) (h0 : a15.category = 1) (h : V y cc nL rt d mc ms fl Q n' n kc ks (pc + 3) (a0 :: a1 :: a2 :: a3 :: a4 :: a5 :: a6 :: a7 :: a8 :: a9 :: a10 :: a11 :: a12 :: a13 :: a14 :: a15 :: .int (iz (x + k)) :: l) st ρ f g) : V y cc nL rt d mc ms fl Q n' n kc ks pc (a0 :: a1 :: a2 :: a3 :: a4 :: a5 :: a6 :: a7 :: a8 :: a9 :: a10 :: a11 :: a12 :: a13 :: a14 :: a15 :: .int (iz x) :: l) st ρ f g :=
  V_iincG hd hn rfl (by simp [st1, h0]) h
theorem V_is17 {a0 a1 a2 a3 a4 a5 a6 a7 a8 a9 a10 a11 a12 a13 a14 a15 a16 : Value} {b : Value} {x : Int} {l : List Value} (hd : decode cc pc = .ok (.istore 17, 2)) (hn : 17 < nL) (h0 : a16.category = 1) (h : V y cc nL rt d mc ms fl Q n' n kc ks (pc + 2) (a0 :: a1 :: a2 :: a3 :: a4 :: a5 :: a6 :: a7 :: a8 :: a9 :: a10 :: a11 :: a12 :: a13 :: a14 :: a15 :: a16 :: .int (iz x) :: l) st ρ f g) : V y cc nL rt d mc ms fl Q n' n kc ks pc (a0 :: a1 :: a2 :: a3 :: a4 :: a5 :: a6 :: a7 :: a8 :: a9 :: a10 :: a11 :: a12 :: a13 :: a14 :: a15 :: a16 :: b :: l) (.int (iz x) :: st) ρ f g :=
  V_istoreG hd (i := 17) hn (by simp [st1, st1, h0]) h
theorem V_ls17 {a0 a1 a2 a3 a4 a5 a6 a7 a8 a9 a10 a11 a12 a13 a14 a15 a16 : Value} {b b2 : Value} {x : Int} {l : List Value} (hd : decode cc pc = .ok (.lstore 17, 2)) (hn : 18 < nL) (h0 : a16.category = 1) (h : V y cc nL rt d mc ms fl Q n' n kc ks (pc + 2) (a0 :: a1 :: a2 :: a3 :: a4 :: a5 :: a6 :: a7 :: a8 :: a9 :: a10 :: a11 :: a12 :: a13 :: a14 :: a15 :: a16 :: .long (lz x) :: .null :: l) st ρ f g) : V y cc nL rt d mc ms fl Q n' n kc ks pc (a0 :: a1 :: a2 :: a3 :: a4 :: a5 :: a6 :: a7 :: a8 :: a9 :: a10 :: a11 :: a12 :: a13 :: a14 :: a15 :: a16 :: b :: b2 :: l) (.long (lz x) :: st) ρ f g :=
  V_lstoreG hd (i := 17) hn (by simp [st2, st1, h0]) h
theorem V_as17 {a0 a1 a2 a3 a4 a5 a6 a7 a8 a9 a10 a11 a12 a13 a14 a15 a16 : Value} {b : Value} {x : Nat} {l : List Value} (hd : decode cc pc = .ok (.astore 17, 2)) (hn : 17 < nL) (h0 : a16.category = 1) (h : V y cc nL rt d mc ms fl Q n' n kc ks (pc + 2) (a0 :: a1 :: a2 :: a3 :: a4 :: a5 :: a6 :: a7 :: a8 :: a9 :: a10 :: a11 :: a12 :: a13 :: a14 :: a15 :: a16 :: .ref x :: l) st ρ f g) : V y cc nL rt d mc ms fl Q n' n kc ks pc (a0 :: a1 :: a2 :: a3 :: a4 :: a5 :: a6 :: a7 :: a8 :: a9 :: a10 :: a11 :: a12 :: a13 :: a14 :: a15 :: a16 :: b :: l) (.ref x :: st) ρ f g :=
  V_astoreG hd (i := 17) hn (by simp [st1, st1, h0]) h
theorem V_inc17 {a0 a1 a2 a3 a4 a5 a6 a7 a8 a9 a10 a11 a12 a13 a14 a15 a16 : Value} {x k : Int} {l : List Value} (hd : decode cc pc = .ok (.iinc 17 k, 3)) (hn : 17 < nL) (h0 : a16.category = 1) (h : V y cc nL rt d mc ms fl Q n' n kc ks (pc + 3) (a0 :: a1 :: a2 :: a3 :: a4 :: a5 :: a6 :: a7 :: a8 :: a9 :: a10 :: a11 :: a12 :: a13 :: a14 :: a15 :: a16 :: .int (iz (x + k)) :: l) st ρ f g) : V y cc nL rt d mc ms fl Q n' n kc ks pc (a0 :: a1 :: a2 :: a3 :: a4 :: a5 :: a6 :: a7 :: a8 :: a9 :: a10 :: a11 :: a12 :: a13 :: a14 :: a15 :: a16 :: .int (iz x) :: l) st ρ f g :=
  V_iincG hd hn rfl (by simp [st1, h0]) h
theorem V_is18 {a0 a1 a2 a3 a4 a5 a6 a7 a8 a9 a10 a11 a12 a13 a14 a15 a16 a17 : Value} {b : Value} {x : Int} {l : List Value} (hd : decode cc pc = .ok (.istore 18, 2)) (hn : 18 < nL) (h0 : a17.category = 1) (h : V y cc nL rt d mc ms fl Q n' n kc ks (pc + 2) (a0 :: a1 :: a2 :: a3 :: a4 :: a5 :: a6 :: a7 :: a8 :: a9 :: a10 :: a11 :: a12 :: a13 :: a14 :: a15 :: a16 :: a17 :: .int (iz x) :: l) st ρ f g) : V y cc nL rt d mc ms fl Q n' n kc ks pc (a0 :: a1 :: a2 :: a3 :: a4 :: a5 :: a6 :: a7 :: a8 :: a9 :: a10 :: a11 :: a12 :: a13 :: a14 :: a15 :: a16 :: a17 :: b :: l) (.int (iz x) :: st) ρ f g :=
  V_istoreG hd (i := 18) hn (by simp [st1, st1, h0]) h
theorem V_ls18 {a0 a1 a2 a3 a4 a5 a6 a7 a8 a9 a10 a11 a12 a13 a14 a15 a16 a17 : Value} {b b2 : Value} {x : Int} {l : List Value} (hd : decode cc pc = .ok (.lstore 18, 2)) (hn : 19 < nL) (h0 : a17.category = 1) (h : V y cc nL rt d mc ms fl Q n' n kc ks (pc + 2) (a0 :: a1 :: a2 :: a3 :: a4 :: a5 :: a6 :: a7 :: a8 :: a9 :: a10 :: a11 :: a12 :: a13 :: a14 :: a15 :: a16 :: a17 :: .long (lz x) :: .null :: l) st ρ f g) : V y cc nL rt d mc ms fl Q n' n kc ks pc (a0 :: a1 :: a2 :: a3 :: a4 :: a5 :: a6 :: a7 :: a8 :: a9 :: a10 :: a11 :: a12 :: a13 :: a14 :: a15 :: a16 :: a17 :: b :: b2 :: l) (.long (lz x) :: st) ρ f g :=
  V_lstoreG hd (i := 18) hn (by simp [st2, st1, h0]) h
theorem V_as18 {a0 a1 a2 a3 a4 a5 a6 a7 a8 a9 a10 a11 a12 a13 a14 a15 a16 a17 : Value} {b : Value} {x : Nat} {l : List Value} (hd : decode cc pc = .ok (.astore 18, 2)) (hn : 18 < nL) (h0 : a17.category = 1) (h : V y cc nL rt d mc ms fl Q n' n kc ks (pc + 2) (a0 :: a1 :: a2 :: a3 :: a4 :: a5 :: a6 :: a7 :: a8 :: a9 :: a10 :: a11 :: a12 :: a13 :: a14 :: a15 :: a16 :: a17 :: .ref x :: l) st ρ f g) : V y cc nL rt d mc ms fl Q n' n kc ks pc (a0 :: a1 :: a2 :: a3 :: a4 :: a5 :: a6 :: a7 :: a8 :: a9 :: a10 :: a11 :: a12 :: a13 :: a14 :: a15 :: a16 :: a17 :: b :: l) (.ref x :: st) ρ f g :=
  V_astoreG hd (i := 18) hn (by simp [st1, st1, h0]) h
theorem V_inc18 {a0 a1 a2 a3 a4 a5 a6 a7 a8 a9 a10 a11 a12 a13 a14 a15 a16 a17 : Value} {x k : Int} {l : List Value} (hd : decode cc pc = .ok (.iinc 18 k, 3)) (hn : 18 < nL) (h0 : a17.category = 1) (h : V y cc nL rt d mc ms fl Q n' n kc ks (pc + 3) (a0 :: a1 :: a2 :: a3 :: a4 :: a5 :: a6 :: a7 :: a8 :: a9 :: a10 :: a11 :: a12 :: a13 :: a14 :: a15 :: a16 :: a17 :: .int (iz (x + k)) :: l) st ρ f g) : V y cc nL rt d mc ms fl Q n' n kc ks pc (a0 :: a1 :: a2 :: a3 :: a4 :: a5 :: a6 :: a7 :: a8 :: a9 :: a10 :: a11 :: a12 :: a13 :: a14 :: a15 :: a16 :: a17 :: .int (iz x) :: l) st ρ f g :=
  V_iincG hd hn rfl (by simp [st1, h0]) h
theorem V_is19 {a0 a1 a2 a3 a4 a5 a6 a7 a8 a9 a10 a11 a12 a13 a14 a15 a16 a17 a18 : Value} {b : Value} {x : Int} {l : List Value} (hd : decode cc pc = .ok (.istore 19, 2)) (hn : 19 < nL) (h0 : a18.category = 1) (h : V y cc nL rt d mc ms fl Q n' n kc ks (pc + 2) (a0 :: a1 :: a2 :: a3 :: a4 :: a5 :: a6 :: a7 :: a8 :: a9 :: a10 :: a11 :: a12 :: a13 :: a14 :: a15 :: a16 :: a17 :: a18 :: .int (iz x) :: l) st ρ f g) : V y cc nL rt d mc ms fl Q n' n kc ks pc (a0 :: a1 :: a2 :: a3 :: a4 :: a5 :: a6 :: a7 :: a8 :: a9 :: a10 :: a11 :: a12 :: a13 :: a14 :: a15 :: a16 :: a17 :: a18 :: b :: l) (.int (iz x) :: st) ρ f g :=
  V_istoreG hd (i := 19) hn (by simp [st1, st1, h0]) h
theorem V_ls19 {a0 a1 a2 a3 a4 a5 a6 a7 a8 a9 a10 a11 a12 a13 a14 a15 a16 a17 a18 : Value} {b b2 : Value} {x : Int} {l : List Value} (hd : decode cc pc = .ok (.lstore 19, 2)) (hn : 20 < nL) (h0 : a18.category = 1) (h : V y cc nL rt d mc ms fl Q n' n kc ks (pc + 2) (a0 :: a1 :: a2 :: a3 :: a4 :: a5 :: a6 :: a7 :: a8 :: a9 :: a10 :: a11 :: a12 :: a13 :: a14 :: a15 :: a16 :: a17 :: a18 :: .long (lz x) :: .null :: l) st ρ f g) : V y cc nL rt d mc ms fl Q n' n kc ks pc (a0 :: a1 :: a2 :: a3 :: a4 :: a5 :: a6 :: a7 :: a8 :: a9 :: a10 :: a11 :: a12 :: a13 :: a14 :: a15 :: a16 :: a17 :: a18 :: b :: b2 :: l) (.long (lz x) :: st) ρ f g :=
  V_lstoreG hd (i := 19) hn (by simp [st2, st1, h0]) h
theorem V_as19 {a0 a1 a2 a3 a4 a5 a6 a7 a8 a9 a10 a11 a12 a13 a14 a15 a16 a17 a18 : Value} {b : Value} {x : Nat} {l : List Value} (hd : decode cc pc = .ok (.astore 19, 2)) (hn : 19 < nL) (h0 : a18.category = 1) (h : V y cc nL rt d mc ms fl Q n' n kc ks (pc + 2) (a0 :: a1 :: a2 :: a3 :: a4 :: a5 :: a6 :: a7 :: a8 :: a9 :: a10 :: a11 :: a12 :: a13 :: a14 :: a15 :: a16 :: a17 :: a18 :: .ref x :: l) st ρ f g) : V y cc nL rt d mc ms fl Q n' n kc ks pc (a0 :: a1 :: a2 :: a3 :: a4 :: a5 :: a6 :: a7 :: a8 :: a9 :: a10 :: a11 :: a12 :: a13 :: a14 :: a15 :: a16 :: a17 :: a18 :: b :: l) (.ref x :: st) ρ f g :=
  V_astoreG hd (i := 19) hn (by simp [st1, st1, h0]) h
theorem V_inc19 {a0 a1 a2 a3 a4 a5 a6 a7 a8 a9 a10 a11 a12 a13 a14 a15 a16 a17 a18 : Value} {x k : Int} {l : List Value} (hd : decode cc pc = .ok (.iinc 19 k, 3)) (hn : 19 < nL) (h0 : a18.category = 1) (h : V y cc nL rt d mc ms fl Q n' n kc ks (pc + 3) (a0 :: a1 :: a2 :: a3 :: a4 :: a5 :: a6 :: a7 :: a8 :: a9 :: a10 :: a11 :: a12 :: a13 :: a14 :: a15 :: a16 :: a17 :: a18 :: .int (iz (x + k)) :: l) st ρ f g) : V y cc nL rt d mc ms fl Q n' n kc ks pc (a0 :: a1 :: a2 :: a3 :: a4 :: a5 :: a6 :: a7 :: a8 :: a9 :: a10 :: a11 :: a12 :: a13 :: a14 :: a15 :: a16 :: a17 :: a18 :: .int (iz x) :: l) st ρ f g :=
  V_iincG hd hn rfl (by simp [st1, h0]) h
end RULES
