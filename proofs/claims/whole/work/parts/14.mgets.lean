/-! the reference's reads -/
theorem c_isDamp {T : TT} {ρ : RT} {f : IT} {g : JT} (hρ : Fx ρ) (hT : MT T f) (hk : TOK T) {k : Nat} (hl : k < nLa T) {ra : Bool} (hr : f 104 68 = bz ra) : C_X12_isDamp [.ref 104, .int (iz k)] ρ f g (fun r ρ' f' g' => r = some (.int (iz (bz (decide (T 111 k = 1) || ra)))) ∧ ρ' = ρ ∧ f' = f ∧ g' = g) := by
  have h6 := hk.la
  have h01 := (hk.lane hl).2.2.2
  refine Ct.ofV (by decide) rfl (Nat.le_of_ble_eq_true rfl) ?_
  refine V_al0n dX12_isDamp_0 ?_
  refine V_getR kk104 (by decide) fl_X12_33 (fx_104_34 hρ) dX12_isDamp_1 ?_
  refine V_il1n dX12_isDamp_4 ?_
  refine V_zald (k := k) kk111 (by decide) (by first | rfl | omega) (by omega) (by first | decide | assumption | omega) (hT.at rfl (by omega : k < 6)) dX12_isDamp_5 ?_
  refine V_if_ne (tgt := 16) dX12_isDamp_6 rfl (by first | assumption | (unfold ri at *; omega)) (fun b6 => ?_) (fun b6 => ?_)
  · have e6 : T 111 k = 1 := by omega
    refine V_iconst dX12_isDamp_16 ?_
    refine V_goto (tgt := 21) dX12_isDamp_17 rfl ?_
    exact V_zreturn rfl (by first | exact Or.inl rfl | exact Or.inr rfl | (unfold bz; split <;> simp)) ⟨by simp [*, bz], rfl, rfl, rfl⟩ dX12_isDamp_21
  · have e6 : T 111 k = 0 := by omega
    refine V_al0n dX12_isDamp_9 ?_
    refine V_getZ kk104 (by decide) fl_X12_285 hr dX12_isDamp_10 ?_
    refine V_bt (tgt := 20) dX12_isDamp_13 rfl (fun b13 => ?_) (fun b13 => ?_)
    · refine V_iconst dX12_isDamp_20 ?_
      exact V_zreturn rfl (by first | exact Or.inl rfl | exact Or.inr rfl | (unfold bz; split <;> simp)) ⟨by simp [*, bz], rfl, rfl, rfl⟩ dX12_isDamp_21
    · refine V_iconst dX12_isDamp_16 ?_
      refine V_goto (tgt := 21) dX12_isDamp_17 rfl ?_
      exact V_zreturn rfl (by first | exact Or.inl rfl | exact Or.inr rfl | (unfold bz; split <;> simp)) ⟨by simp [*, bz], rfl, rfl, rfl⟩ dX12_isDamp_21
theorem c_slopeOf {T : TT} {ρ : RT} {f : IT} {g : JT} (hρ : Fx ρ) (hT : MT T f) (hk : TOK T) {k : Nat} (hl : k < nLa T) {fl : Bool} (hr : f 104 72 = bz fl) : C_X12_slopeOf [.ref 104, .int (iz k)] ρ f g (fun r ρ' f' g' => r = some (.int (iz (if fl = true then 0 else T 109 k))) ∧ ρ' = ρ ∧ f' = f ∧ g' = g) := by
  have h6 := hk.la
  refine Ct.ofV (by decide) rfl (Nat.le_of_ble_eq_true rfl) ?_
  refine V_al0n dX12_slopeOf_0 ?_
  refine V_getZ kk104 (by decide) fl_X12_405 hr dX12_slopeOf_1 ?_
  refine V_bt (tgt := 11) dX12_slopeOf_4 rfl (fun b4 => ?_) (fun b4 => ?_)
  · refine V_al0n dX12_slopeOf_11 ?_
    refine V_getR kk104 (by decide) fl_X12_26 (fx_104_32 hρ) dX12_slopeOf_12 ?_
    refine V_il1n dX12_slopeOf_15 ?_
    refine V_iald (k := k) kk109 (by decide) (by first | rfl | omega) (by omega) (by first | decide | assumption | omega) (hT.at rfl (by omega : k < 6)) dX12_slopeOf_16 ?_
    exact V_ireturn rfl ⟨by simp [*], rfl, rfl, rfl⟩ dX12_slopeOf_17
  · refine V_iconst dX12_slopeOf_7 ?_
    refine V_goto (tgt := 17) dX12_slopeOf_8 rfl ?_
    exact V_ireturn rfl ⟨by simp [*], rfl, rfl, rfl⟩ dX12_slopeOf_17
theorem c_paceOf {T : TT} {ρ : RT} {f : IT} {g : JT} (hρ : Fx ρ) (hT : MT T f) (hk : TOK T) {p k : Nat} (hp : p < nPl T) (hl : k < 6) : C_X12_paceOf [.ref 104, .int (iz p), .int (iz k)] ρ f g (fun r ρ' f' g' => r = some (.int (iz (pce T p k))) ∧ ρ' = ρ ∧ f' = f ∧ g' = g) := by
  have h6 := hk.pl
  obtain ⟨-, hm, -⟩ := hk.plan hp
  refine Ct.ofV (by decide) rfl (Nat.le_of_ble_eq_true rfl) ?_
  refine V_al0n dX12_paceOf_0 ?_
  refine V_getR kk104 (by decide) fl_X12_69 (fx_104_46 hρ) dX12_paceOf_1 ?_
  refine V_bipush dX12_paceOf_4 rfl ?_
  refine V_il1n dX12_paceOf_6 ?_
  refine V_imul dX12_paceOf_7 ?_
  refine V_il2n dX12_paceOf_8 ?_
  refine V_al0n dX12_paceOf_9 ?_
  refine V_getR kk104 (by decide) fl_X12_66 (fx_104_45 hρ) dX12_paceOf_10 ?_
  refine V_il1n dX12_paceOf_13 ?_
  refine V_iald (k := p) kk122 (by decide) (by first | rfl | omega) (by omega) (by first | decide | assumption | omega) (hT.at rfl (by omega : p < 5)) dX12_paceOf_14 ?_
  refine V_icmp_ge (tgt := 22) dX12_paceOf_15 rfl (by first | assumption | (unfold ri at *; omega)) (by first | assumption | (unfold ri at *; omega)) (fun b15 => ?_) (fun b15 => ?_)
  · refine V_al0n dX12_paceOf_22 ?_
    refine V_getR kk104 (by decide) fl_X12_66 (fx_104_45 hρ) dX12_paceOf_23 ?_
    refine V_il1n dX12_paceOf_26 ?_
    refine V_iald (k := p) kk122 (by decide) (by first | rfl | omega) (by omega) (by first | decide | assumption | omega) (hT.at rfl (by omega : p < 5)) dX12_paceOf_27 ?_
    refine V_iconst dX12_paceOf_28 ?_
    refine V_isub dX12_paceOf_29 ?_
    refine V_iadd dX12_paceOf_30 ?_
    refine V_iald (k := 6 * p + (if (k : Int) < T 122 p then k else (T 122 p - 1).toNat)) kk123 (by decide) (by split <;> omega) (by split <;> omega) (by first | decide | assumption | omega) (hT.at (n := 30) rfl (by split <;> omega)) dX12_paceOf_31 ?_
    exact V_ireturn rfl ⟨rfl, rfl, rfl, rfl⟩ dX12_paceOf_32
  · refine V_il2n dX12_paceOf_18 ?_
    refine V_goto (tgt := 30) dX12_paceOf_19 rfl ?_
    refine V_iadd dX12_paceOf_30 ?_
    refine V_iald (k := 6 * p + (if (k : Int) < T 122 p then k else (T 122 p - 1).toNat)) kk123 (by decide) (by split <;> omega) (by split <;> omega) (by first | decide | assumption | omega) (hT.at (n := 30) rfl (by split <;> omega)) dX12_paceOf_31 ?_
    exact V_ireturn rfl ⟨rfl, rfl, rfl, rfl⟩ dX12_paceOf_32
theorem w_find {Q : QT} {ρ : RT} {f : IT} {g : JT} {a len : Nat} (ha : kd a = (13, len)) (hll : len ≤ 2147483647) {o n : Nat} (hon : o + n ≤ len) {x : Int} (hx : ri x) (hr : ∀ j, j < n → ri (f a (o + j)))
    (h1 : ∀ j, j < n → f a (o + j) = x → (∀ i, i < j → f a (o + i) ≠ x) → Q (some (.int (iz (j : Int)))) ρ f g) (h2 : (∀ j, j < n → f a (o + j) ≠ x) → Q (some (.int (iz (-1)))) ρ f g) (k : Nat) (hk : k ≤ n) (hb : ∀ j, j < k → f a (o + j) ≠ x) : V_X12_find Q 3 [.ref a, .int (iz (o : Int)), .int (iz (n : Int)), .int (iz x), .int (iz (k : Int))] [] ρ f g := by
  refine V_il4 dX12_find_3 ?_
  refine V_il2n dX12_find_5 ?_
  refine V_icmp_ge (tgt := 28) dX12_find_6 rfl (by first | assumption | (unfold ri at *; omega)) (by first | assumption | (unfold ri at *; omega)) (fun b6 => ?_) (fun b6 => ?_)
  · refine V_iconst dX12_find_28 ?_
    exact V_ireturn rfl (h2 (fun j hj => hb j (by omega))) dX12_find_29
  · refine V_al0n dX12_find_9 ?_
    refine V_il1n dX12_find_10 ?_
    refine V_il4 dX12_find_11 ?_
    refine V_iadd dX12_find_13 ?_
    refine V_iald (k := o + k) ha (kdlt ha (by decide)) (by first | rfl | omega) (by omega) (by first | decide | assumption | omega) rfl dX12_find_14 ?_
    refine V_il3n dX12_find_15 ?_
    have hrk := hr k (by omega)
    refine V_icmp_ne (tgt := 22) dX12_find_16 rfl (by first | assumption | (unfold ri at *; omega)) (by first | assumption | (unfold ri at *; omega)) (fun b16 => ?_) (fun b16 => ?_)
    · refine V_inc4 dX12_find_22 (by decide) rfl ?_
      refine V_goto (tgt := 3) dX12_find_25 rfl ?_
      exact w_find ha hll hon hx hr h1 h2 (k + 1) (by omega) (fun j hj => by rcases Nat.lt_succ_iff_lt_or_eq.mp hj with h | h; exact hb j h; rw [h]; exact b16)
    · refine V_il4 dX12_find_19 ?_
      exact V_ireturn rfl (h1 k (by omega) b16 hb) dX12_find_21
termination_by n - k
/-- where a name stands among n from the place o on -/
def fnd (r : Nat → Int) (o n : Nat) (x : Int) : Int := ((List.range n).find? (fun j => decide (r (o + j) = x))).elim (-1) (fun j => (j : Int))
theorem fnd_yes {r : Nat → Int} {o n j : Nat} {x : Int} (hj : j < n) (h : r (o + j) = x) (hb : ∀ i, i < j → r (o + i) ≠ x) : fnd r o n x = j := by
  have : (List.range n).find? (fun j => decide (r (o + j) = x)) = some j := by
    rw [List.find?_range_eq_some]
    refine ⟨by simpa using h, by simpa using hj, fun i hi => by simpa using hb i hi⟩
  simp [fnd, this]
theorem fnd_no {r : Nat → Int} {o n : Nat} {x : Int} (hb : ∀ i, i < n → r (o + i) ≠ x) : fnd r o n x = -1 := by
  have : (List.range n).find? (fun j => decide (r (o + j) = x)) = none := by
    rw [List.find?_eq_none]
    intro j hj
    simpa using hb j (by simpa using hj)
  simp [fnd, this]
theorem c_find {ρ : RT} {f : IT} {g : JT} {a len : Nat} (ha : kd a = (13, len)) (hll : len ≤ 2147483647) {o n : Nat} (hon : o + n ≤ len) {x : Int} (hx : ri x) (hr : ∀ j, j < n → ri (f a (o + j))) : C_X12_find [.ref a, .int (iz (o : Int)), .int (iz (n : Int)), .int (iz x)] ρ f g (fun r ρ' f' g' => r = some (.int (iz (fnd (f a) o n x))) ∧ ρ' = ρ ∧ f' = f ∧ g' = g) := by
  refine Ct.ofV (by decide) rfl (Nat.le_of_ble_eq_true rfl) ?_
  refine V_iconst dX12_find_0 ?_
  refine V_is4 dX12_find_1 (by decide) rfl ?_
  exact w_find ha hll hon hx hr (fun j hj h hb => ⟨by rw [fnd_yes hj h hb], rfl, rfl, rfl⟩) (fun hb => ⟨by rw [fnd_no hb], rfl, rfl, rfl⟩) 0 (by omega) (fun j hj => by omega)
theorem c_spot {ρ : RT} {f : IT} {g : JT} {k w l : Int} : C_X12_spot [.int (iz k), .int (iz w), .int (iz l)] ρ f g (fun r ρ' f' g' => r = some (.int (iz (2501 * k + 41 * w + l))) ∧ ρ' = ρ ∧ f' = f ∧ g' = g) := by
  refine Ct.ofV (by decide) rfl (Nat.le_of_ble_eq_true rfl) ?_
  refine V_sipush dX12_spot_0 rfl ?_
  refine V_il0n dX12_spot_3 ?_
  refine V_imul dX12_spot_4 ?_
  refine V_bipush dX12_spot_5 rfl ?_
  refine V_il1n dX12_spot_7 ?_
  refine V_imul dX12_spot_8 ?_
  refine V_iadd dX12_spot_9 ?_
  refine V_il2n dX12_spot_10 ?_
  refine V_iadd dX12_spot_11 ?_
  exact V_ireturn rfl ⟨rfl, rfl, rfl, rfl⟩ dX12_spot_12
def clampF (n : Int) : Int := if n < 0 then 0 else if 60 < n then 60 else n
theorem c_inForm {ρ : RT} {f : IT} {g : JT} {n : Int} (hn : ri n) : C_X12_inForm [.int (iz n)] ρ f g (fun r ρ' f' g' => r = some (.int (iz (clampF n))) ∧ ρ' = ρ ∧ f' = f ∧ g' = g) := by
  refine Ct.ofV (by decide) rfl (Nat.le_of_ble_eq_true rfl) ?_
  refine V_il0n dX12_inForm_0 ?_
  refine V_if_ge (tgt := 8) dX12_inForm_1 rfl (by first | assumption | (unfold ri at *; omega)) (fun b1 => ?_) (fun b1 => ?_)
  · refine V_il0n dX12_inForm_8 ?_
    refine V_bipush dX12_inForm_9 rfl ?_
    refine V_icmp_le (tgt := 19) dX12_inForm_11 rfl (by first | assumption | (unfold ri at *; omega)) (by first | assumption | (unfold ri at *; omega)) (fun b11 => ?_) (fun b11 => ?_)
    · refine V_il0n dX12_inForm_19 ?_
      exact V_ireturn rfl ⟨by unfold clampF; congr 3; (repeat' split) <;> omega, rfl, rfl, rfl⟩ dX12_inForm_20
    · refine V_bipush dX12_inForm_14 rfl ?_
      refine V_goto (tgt := 20) dX12_inForm_16 rfl ?_
      exact V_ireturn rfl ⟨by unfold clampF; congr 3; (repeat' split) <;> omega, rfl, rfl, rfl⟩ dX12_inForm_20
  · refine V_iconst dX12_inForm_4 ?_
    refine V_goto (tgt := 20) dX12_inForm_5 rfl ?_
    exact V_ireturn rfl ⟨by unfold clampF; congr 3; (repeat' split) <;> omega, rfl, rfl, rfl⟩ dX12_inForm_20
theorem c_told {ρ : RT} {f : IT} {g : JT} {n : Int} (hn : ri n) : C_X12_told [.int (iz n)] ρ f g (fun r ρ' f' g' => r = some (.int (iz (if n = 99999 then -2 else n))) ∧ ρ' = ρ ∧ f' = f ∧ g' = g) := by
  refine Ct.ofV (by decide) rfl (Nat.le_of_ble_eq_true rfl) ?_
  refine V_il0n dX12_told_0 ?_
  refine V_ldc (a := 99999) kc_X12_192 rfl dX12_told_1 ?_
  refine V_icmp_ne (tgt := 11) dX12_told_3 rfl (by first | assumption | (unfold ri at *; omega)) (by first | assumption | (unfold ri at *; omega)) (fun b3 => ?_) (fun b3 => ?_)
  · refine V_il0n dX12_told_11 ?_
    exact V_ireturn rfl ⟨by congr 3; split <;> omega, rfl, rfl, rfl⟩ dX12_told_12
  · refine V_bipush dX12_told_6 rfl ?_
    refine V_goto (tgt := 12) dX12_told_8 rfl ?_
    exact V_ireturn rfl ⟨by congr 3; split <;> omega, rfl, rfl, rfl⟩ dX12_told_12
theorem c_knownBy {ρ : RT} {f : IT} {g : JT} {a b : Int} (ha : f 104 91 = a) (hb : f 104 90 = b) (hra : ri a) : C_X12_knownBy [.ref 104] ρ f g (fun r ρ' f' g' => r = some (.int (iz (if a < 0 then b else a))) ∧ ρ' = ρ ∧ f' = f ∧ g' = g) := by
  refine Ct.ofV (by decide) rfl (Nat.le_of_ble_eq_true rfl) ?_
  refine V_al0n dX12_knownBy_0 ?_
  refine V_getI kk104 (by decide) fl_X12_127 ha dX12_knownBy_1 ?_
  refine V_if_ge (tgt := 14) dX12_knownBy_4 rfl (by first | assumption | (unfold ri at *; omega)) (fun b4 => ?_) (fun b4 => ?_)
  · refine V_al0n dX12_knownBy_14 ?_
    refine V_getI kk104 (by decide) fl_X12_127 ha dX12_knownBy_15 ?_
    exact V_ireturn rfl ⟨by congr 3; split <;> omega, rfl, rfl, rfl⟩ dX12_knownBy_18
  · refine V_al0n dX12_knownBy_7 ?_
    refine V_getI kk104 (by decide) fl_X12_298 hb dX12_knownBy_8 ?_
    refine V_goto (tgt := 18) dX12_knownBy_11 rfl ?_
    exact V_ireturn rfl ⟨by congr 3; split <;> omega, rfl, rfl, rfl⟩ dX12_knownBy_18
theorem c_fails {ρ : RT} {f : IT} {g : JT} {n : Int} : C_X12_fails [.ref 104, .int (iz n)] ρ f g (fun r ρ' f' g' => r = some (.int (iz 0)) ∧ ρ' = ρ ∧ f' = u2 f 104 2 n ∧ g' = g) := by
  refine Ct.ofV (by decide) rfl (Nat.le_of_ble_eq_true rfl) ?_
  refine V_al0n dX12_fails_0 ?_
  refine V_il1n dX12_fails_1 ?_
  refine V_putI kk104 (by decide) fl_X12_154 rfl dX12_fails_2 ?_
  refine V_iconst dX12_fails_5 ?_
  exact V_ireturn rfl ⟨rfl, rfl, rfl, rfl⟩ dX12_fails_6
theorem c_thrown {ρ : RT} {f : IT} {g : JT} : C_X12_thrown [.ref 104] ρ f g (fun r ρ' f' g' => r = some (.int (iz (f 104 2))) ∧ ρ' = ρ ∧ f' = f ∧ g' = g) := by
  refine Ct.ofV (by decide) rfl (Nat.le_of_ble_eq_true rfl) ?_
  refine V_al0n dX12_thrown_0 ?_
  refine V_getI kk104 (by decide) fl_X12_154 rfl dX12_thrown_1 ?_
  exact V_ireturn rfl ⟨rfl, rfl, rfl, rfl⟩ dX12_thrown_4
theorem c_mfault {ρ : RT} {f : IT} {g : JT} {n : Int} (hn : ri n) : C_X12_fault [.ref 104, .int (iz n)] ρ f g (fun r ρ' f' g' => r = some (.int (iz (if n = 0 then f 104 4 else if n = 1 then f 104 5 else -1))) ∧ ρ' = ρ ∧ f' = u2 f 104 2 0 ∧ g' = g) := by
  refine Ct.ofV (by decide) rfl (Nat.le_of_ble_eq_true rfl) ?_
  refine V_al0n dX12_fault_0 ?_
  refine V_iconst dX12_fault_1 ?_
  refine V_putI kk104 (by decide) fl_X12_154 rfl dX12_fault_2 ?_
  refine V_il1n dX12_fault_5 ?_
  refine V_if_ne (tgt := 16) dX12_fault_6 rfl (by first | assumption | (unfold ri at *; omega)) (fun b6 => ?_) (fun b6 => ?_)
  · refine V_il1n dX12_fault_16 ?_
    refine V_iconst dX12_fault_17 ?_
    refine V_icmp_ne (tgt := 28) dX12_fault_18 rfl (by first | assumption | (unfold ri at *; omega)) (by first | assumption | (unfold ri at *; omega)) (fun b18 => ?_) (fun b18 => ?_)
    · refine V_iconst dX12_fault_28 ?_
      exact V_ireturn rfl ⟨by congr 3; (repeat' split) <;> first | rfl | omega, rfl, rfl, rfl⟩ dX12_fault_29
    · refine V_al0n dX12_fault_21 ?_
      refine V_getI kk104 (by decide) fl_X12_16 (u2_n (by decide) rfl) dX12_fault_22 ?_
      refine V_goto (tgt := 29) dX12_fault_25 rfl ?_
      exact V_ireturn rfl ⟨by congr 3; (repeat' split) <;> first | rfl | omega, rfl, rfl, rfl⟩ dX12_fault_29
  · refine V_al0n dX12_fault_9 ?_
    refine V_getI kk104 (by decide) fl_X12_160 (u2_n (by decide) rfl) dX12_fault_10 ?_
    refine V_goto (tgt := 29) dX12_fault_13 rfl ?_
    exact V_ireturn rfl ⟨by congr 3; (repeat' split) <;> first | rfl | omega, rfl, rfl, rfl⟩ dX12_fault_29

