/-! the JDK's own -/
theorem kc_J6_265 : Cond.constant RJ6 265 (1431655765 : Int32) ∈ tblG := tblG_c5 171 rfl rfl
theorem kc_J6_266 : Cond.constant RJ6 266 (858993459 : Int32) ∈ tblG := tblG_c5 172 rfl rfl
theorem kc_J6_267 : Cond.constant RJ6 267 (252645135 : Int32) ∈ tblG := tblG_c5 173 rfl rfl
theorem iz_us : ∀ k : Nat, k < 32 → (((iz (k : Int)).toUInt32 &&& Int32.toUInt32 31).toBitVec % 32).toNat = k := by decide
theorem iz_ushr {x : Int} {k : Nat} (hk : k < 32) : ((iz x).toUInt32 >>> ((iz (k : Int)).toUInt32 &&& Int32.toUInt32 31)).toInt32 = iz ((U x / 2 ^ k : Nat) : Int) := iz_of (by rw [pk_ushr _ _ k (iz_us k hk), iz_bv])
section JMATH
variable {y : MethodName} {cc : ByteArray} {nL : Nat} {rt : Option FieldType} {d mc ms : Nat} {fl : Bool} {Q : QT} {n' n kc ks pc : Nat} {L rest : List Value} {ρ : RT} {f : IT} {g : JT}
theorem V_mmax {a b : Int} {idx : Nat} (hM : MLs y.cls idx yJ9_max_7cf53 cJ9_max_7cf53 2 (some .int) 2) (hst : Cond.static yJ9_max_7cf53 ∈ tblG) (hd : decode cc pc = .ok (.invokestatic idx, 3)) (ha : ri a) (hb : ri b) (hdd : 1 ≤ d) (hr8 : (rest.map fun v => v.category).sum ≤ 8) (hmc : kc ≤ mc) (hms : ks ≤ ms) (h : V y cc nL rt d mc ms fl Q n' n kc ks (pc + 3) L (.int (iz (if a < b then b else a)) :: rest) ρ f g) : V y cc nL rt d mc ms fl Q n' n kc ks pc L (.int (iz b) :: .int (iz a) :: rest) ρ f g := by
  intro ad z D cy sl xs p l e R s m args below meth c Z H locs ls C hW hS hL
  have h1 := h ad z D cy sl xs p l e R s m args below meth c Z H locs ls C hW hS hL
  have e1 : iz (if a < b then b else a) = if iz a < iz b then iz b else iz a := by
    by_cases q : a < b
    · rw [if_pos q, if_pos ((iz_lt ha hb).mpr q)]
    · rw [if_neg q, if_neg (fun z => q ((iz_lt ha hb).mp z))]
  rw [e1] at h1
  obtain ⟨hx, hcc, hml, hown, hts, hK, hG, hz, ⟨hR1, hR2, hR3, hR4⟩, -⟩ := C
  have hr : ((rest.map (cv ad)).map fun v => v.category).sum ≤ 8 := by rw [cat_sum]; exact hr8
  exact va_mmax hx hcc (by rw [hml]; exact hL.1.symm) hown (hts _ hM.2.2.1) (hts _ hst) (hts _ hM.2.1) (hts _ hM.1) (by omega) (by omega) (by omega) (by omega) hd h1
theorem V_mmin {a b : Int} {idx : Nat} (hM : MLs y.cls idx yJ9_min_7cf53 cJ9_min_7cf53 2 (some .int) 2) (hst : Cond.static yJ9_min_7cf53 ∈ tblG) (hd : decode cc pc = .ok (.invokestatic idx, 3)) (ha : ri a) (hb : ri b) (hdd : 1 ≤ d) (hr8 : (rest.map fun v => v.category).sum ≤ 8) (hmc : kc ≤ mc) (hms : ks ≤ ms) (h : V y cc nL rt d mc ms fl Q n' n kc ks (pc + 3) L (.int (iz (if b < a then b else a)) :: rest) ρ f g) : V y cc nL rt d mc ms fl Q n' n kc ks pc L (.int (iz b) :: .int (iz a) :: rest) ρ f g := by
  intro ad z D cy sl xs p l e R s m args below meth c Z H locs ls C hW hS hL
  have h1 := h ad z D cy sl xs p l e R s m args below meth c Z H locs ls C hW hS hL
  have e1 : iz (if b < a then b else a) = if iz b < iz a then iz b else iz a := by
    by_cases q : b < a
    · rw [if_pos q, if_pos ((iz_lt hb ha).mpr q)]
    · rw [if_neg q, if_neg (fun z => q ((iz_lt hb ha).mp z))]
  rw [e1] at h1
  obtain ⟨hx, hcc, hml, hown, hts, hK, hG, hz, ⟨hR1, hR2, hR3, hR4⟩, -⟩ := C
  have hr : ((rest.map (cv ad)).map fun v => v.category).sum ≤ 8 := by rw [cat_sum]; exact hr8
  exact va_mmin hx hcc (by rw [hml]; exact hL.1.symm) hown (hts _ hM.2.2.1) (hts _ hst) (hts _ hM.2.1) (hts _ hM.1) (by omega) (by omega) (by omega) (by omega) hd h1
end JMATH
section JDK
variable {ρ : RT} {f : IT} {g : JT}
def bct1 (a : Int) : Int := a - ((U ((U a / 2 ^ 1 : Nat) : Int) &&& U 1431655765 : Nat) : Int)
def bct2 (y : Int) : Int := ((U y &&& U 858993459 : Nat) : Int) + ((U ((U y / 2 ^ 2 : Nat) : Int) &&& U 858993459 : Nat) : Int)
def bct3 (z : Int) : Int := ((U (z + ((U z / 2 ^ 4 : Nat) : Int)) &&& U 252645135 : Nat) : Int)
def bct4 (u : Int) : Int := u + ((U u / 2 ^ 8 : Nat) : Int)
def bct5 (v : Int) : Int := v + ((U v / 2 ^ 16 : Nat) : Int)
def bct (a : Int) : Int := ((U (bct5 (bct4 (bct3 (bct2 (bct1 a))))) &&& U 63 : Nat) : Int)
theorem bct_ins : ∀ a : Nat, a < 32 → bct (a : Int) = insN (a : Int) := by decide +kernel
theorem c_bitCount {a : Nat} (ha : a < 32) : C_J6_bitCount_0f7a4 [.int (iz (a : Int))] ρ f g (fun r ρ' f' g' => r = some (.int (iz (insN (a : Int)))) ∧ ρ' = ρ ∧ f' = f ∧ g' = g) := by
  rw [← bct_ins a ha]
  refine Ct.ofV (by decide) rfl (Nat.le_of_ble_eq_true rfl) ?_
  refine V_il0n dJ6_bitCount_0f7a4_0 ?_
  refine V_il0n dJ6_bitCount_0f7a4_1 ?_
  refine V_iconst dJ6_bitCount_0f7a4_2 ?_
  refine V_iushr dJ6_bitCount_0f7a4_3 (iz_ushr (k := 1) (by omega)) ?_
  refine V_ldc_w (a := 1431655765) kc_J6_265 rfl dJ6_bitCount_0f7a4_4 ?_
  refine V_iand dJ6_bitCount_0f7a4_7 (iz_and _ _) ?_
  refine V_isub dJ6_bitCount_0f7a4_8 ?_
  refine V_is0n dJ6_bitCount_0f7a4_9 (by decide) ?_
  refine V_il0n dJ6_bitCount_0f7a4_10 ?_
  refine V_ldc_w (a := 858993459) kc_J6_266 rfl dJ6_bitCount_0f7a4_11 ?_
  refine V_iand dJ6_bitCount_0f7a4_14 (iz_and _ _) ?_
  refine V_il0n dJ6_bitCount_0f7a4_15 ?_
  refine V_iconst dJ6_bitCount_0f7a4_16 ?_
  refine V_iushr dJ6_bitCount_0f7a4_17 (iz_ushr (k := 2) (by omega)) ?_
  refine V_ldc_w (a := 858993459) kc_J6_266 rfl dJ6_bitCount_0f7a4_18 ?_
  refine V_iand dJ6_bitCount_0f7a4_21 (iz_and _ _) ?_
  refine V_iadd dJ6_bitCount_0f7a4_22 ?_
  refine V_is0n dJ6_bitCount_0f7a4_23 (by decide) ?_
  refine V_il0n dJ6_bitCount_0f7a4_24 ?_
  refine V_il0n dJ6_bitCount_0f7a4_25 ?_
  refine V_iconst dJ6_bitCount_0f7a4_26 ?_
  refine V_iushr dJ6_bitCount_0f7a4_27 (iz_ushr (k := 4) (by omega)) ?_
  refine V_iadd dJ6_bitCount_0f7a4_28 ?_
  refine V_ldc_w (a := 252645135) kc_J6_267 rfl dJ6_bitCount_0f7a4_29 ?_
  refine V_iand dJ6_bitCount_0f7a4_32 (iz_and _ _) ?_
  refine V_is0n dJ6_bitCount_0f7a4_33 (by decide) ?_
  refine V_il0n dJ6_bitCount_0f7a4_34 ?_
  refine V_il0n dJ6_bitCount_0f7a4_35 ?_
  refine V_bipush dJ6_bitCount_0f7a4_36 rfl ?_
  refine V_iushr dJ6_bitCount_0f7a4_38 (iz_ushr (k := 8) (by omega)) ?_
  refine V_iadd dJ6_bitCount_0f7a4_39 ?_
  refine V_is0n dJ6_bitCount_0f7a4_40 (by decide) ?_
  refine V_il0n dJ6_bitCount_0f7a4_41 ?_
  refine V_il0n dJ6_bitCount_0f7a4_42 ?_
  refine V_bipush dJ6_bitCount_0f7a4_43 rfl ?_
  refine V_iushr dJ6_bitCount_0f7a4_45 (iz_ushr (k := 16) (by omega)) ?_
  refine V_iadd dJ6_bitCount_0f7a4_46 ?_
  refine V_is0n dJ6_bitCount_0f7a4_47 (by decide) ?_
  refine V_il0n dJ6_bitCount_0f7a4_48 ?_
  refine V_bipush dJ6_bitCount_0f7a4_49 rfl ?_
  refine V_iand dJ6_bitCount_0f7a4_51 (iz_and _ _) ?_
  exact V_ireturn rfl ⟨rfl, rfl, rfl, rfl⟩ dJ6_bitCount_0f7a4_52
end JDK

