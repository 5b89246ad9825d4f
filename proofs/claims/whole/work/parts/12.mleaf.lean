/-! the reference's small methods -/
theorem iz_shr {a : Int} {b : Nat} (ha : ri a) (hb : b < 32) : iz a >>> (iz (b : Int) &&& 31) = iz (a / 2 ^ b) := by
  have hs : ∀ b : Nat, b < 32 → ((iz (b : Int) &&& 31).toBitVec.smod 32).toNat = b := by decide
  have h := pk_shr (iz a) (iz (b : Int) &&& 31) b (hs b hb)
  rw [iz_val ha.1 ha.2, Int.shiftRight_eq_div_pow] at h
  rw [← iz_toInt (iz a >>> (iz (b : Int) &&& 31)), h]
  rfl
theorem iz_and1 (a : Int) : iz a &&& iz 1 = iz (a % 2) := by
  have h := pk_and (iz a) (m := 1) 1 (by decide)
  have e : (iz a).toBitVec.toNat % 2 = (a % 2).toNat := by
    show (BitVec.ofInt 32 a).toNat % 2 = _
    rw [BitVec.toNat_ofInt]
    omega
  rw [show (iz 1 : Int32) = 1 from rfl, h, Nat.pow_one, e]
  have : ((a % 2).toNat : Int) = a % 2 := by omega
  rw [← this]
  exact (Int32.ofInt_eq_ofNat).symm
def zin (n lo hi : Int) : Bool := decide (lo ≤ n ∧ n ≤ hi)
theorem c_isIn {ρ : RT} {f : IT} {g : JT} {n lo hi : Int} (h1 : ri n) (h2 : ri lo) (h3 : ri hi) : C_X12_isIn [.int (iz n), .int (iz lo), .int (iz hi)] ρ f g (fun r ρ' f' g' => r = some (.int (iz (bz (zin n lo hi)))) ∧ ρ' = ρ ∧ f' = f ∧ g' = g) := by
  refine Ct.ofV (by decide) rfl (Nat.le_of_ble_eq_true rfl) ?_
  refine V_il0n dX12_isIn_0 ?_
  refine V_il1n dX12_isIn_1 ?_
  refine V_icmp_lt (tgt := 14) dX12_isIn_2 rfl (by first | assumption | (unfold ri at *; omega)) (by first | assumption | (unfold ri at *; omega)) (fun b2 => ?_) (fun b2 => ?_)
  · refine V_iconst dX12_isIn_14 ?_
    exact V_zreturn rfl (by first | exact Or.inl rfl | exact Or.inr rfl | (unfold bz; split <;> simp)) ⟨by simp only [zin, bz, decide_eq_true_eq]; split <;> first | rfl | (exfalso; omega), rfl, rfl, rfl⟩ dX12_isIn_15
  · refine V_il0n dX12_isIn_5 ?_
    refine V_il2n dX12_isIn_6 ?_
    refine V_icmp_gt (tgt := 14) dX12_isIn_7 rfl (by first | assumption | (unfold ri at *; omega)) (by first | assumption | (unfold ri at *; omega)) (fun b7 => ?_) (fun b7 => ?_)
    · refine V_iconst dX12_isIn_14 ?_
      exact V_zreturn rfl (by first | exact Or.inl rfl | exact Or.inr rfl | (unfold bz; split <;> simp)) ⟨by simp only [zin, bz, decide_eq_true_eq]; split <;> first | rfl | (exfalso; omega), rfl, rfl, rfl⟩ dX12_isIn_15
    · refine V_iconst dX12_isIn_10 ?_
      refine V_goto (tgt := 15) dX12_isIn_11 rfl ?_
      exact V_zreturn rfl (by first | exact Or.inl rfl | exact Or.inr rfl | (unfold bz; split <;> simp)) ⟨by simp only [zin, bz, decide_eq_true_eq]; split <;> first | rfl | (exfalso; omega), rfl, rfl, rfl⟩ dX12_isIn_15
theorem c_isLane {ρ : RT} {f : IT} {g : JT} {k n : Int} (h1 : ri k) (hn : f 104 12 = n) (h2 : ri n) : C_X12_isLane [.ref 104, .int (iz k)] ρ f g (fun r ρ' f' g' => r = some (.int (iz (bz (decide (0 ≤ k ∧ k < n))))) ∧ ρ' = ρ ∧ f' = f ∧ g' = g) := by
  refine Ct.ofV (by decide) rfl (Nat.le_of_ble_eq_true rfl) ?_
  refine V_il1n dX12_isLane_0 ?_
  refine V_if_lt (tgt := 16) dX12_isLane_1 rfl (by first | assumption | (unfold ri at *; omega)) (fun b1 => ?_) (fun b1 => ?_)
  · refine V_iconst dX12_isLane_16 ?_
    exact V_zreturn rfl (by first | exact Or.inl rfl | exact Or.inr rfl | (unfold bz; split <;> simp)) ⟨by simp only [bz, decide_eq_true_eq]; split <;> first | rfl | (exfalso; omega), rfl, rfl, rfl⟩ dX12_isLane_17
  · refine V_il1n dX12_isLane_4 ?_
    refine V_al0n dX12_isLane_5 ?_
    refine V_getI kk104 (by decide) fl_X12_250 hn dX12_isLane_6 ?_
    refine V_icmp_ge (tgt := 16) dX12_isLane_9 rfl (by first | assumption | (unfold ri at *; omega)) (by first | assumption | (unfold ri at *; omega)) (fun b9 => ?_) (fun b9 => ?_)
    · refine V_iconst dX12_isLane_16 ?_
      exact V_zreturn rfl (by first | exact Or.inl rfl | exact Or.inr rfl | (unfold bz; split <;> simp)) ⟨by simp only [bz, decide_eq_true_eq]; split <;> first | rfl | (exfalso; omega), rfl, rfl, rfl⟩ dX12_isLane_17
    · refine V_iconst dX12_isLane_12 ?_
      refine V_goto (tgt := 17) dX12_isLane_13 rfl ?_
      exact V_zreturn rfl (by first | exact Or.inl rfl | exact Or.inr rfl | (unfold bz; split <;> simp)) ⟨by simp only [bz, decide_eq_true_eq]; split <;> first | rfl | (exfalso; omega), rfl, rfl, rfl⟩ dX12_isLane_17
theorem c_isMan {ρ : RT} {f : IT} {g : JT} {k n : Int} (h1 : ri k) (hn : f 104 13 = n) (h2 : ri n) : C_X12_isMan [.ref 104, .int (iz k)] ρ f g (fun r ρ' f' g' => r = some (.int (iz (bz (decide (0 ≤ k ∧ k < n))))) ∧ ρ' = ρ ∧ f' = f ∧ g' = g) := by
  refine Ct.ofV (by decide) rfl (Nat.le_of_ble_eq_true rfl) ?_
  refine V_il1n dX12_isMan_0 ?_
  refine V_if_lt (tgt := 16) dX12_isMan_1 rfl (by first | assumption | (unfold ri at *; omega)) (fun b1 => ?_) (fun b1 => ?_)
  · refine V_iconst dX12_isMan_16 ?_
    exact V_zreturn rfl (by first | exact Or.inl rfl | exact Or.inr rfl | (unfold bz; split <;> simp)) ⟨by simp only [bz, decide_eq_true_eq]; split <;> first | rfl | (exfalso; omega), rfl, rfl, rfl⟩ dX12_isMan_17
  · refine V_il1n dX12_isMan_4 ?_
    refine V_al0n dX12_isMan_5 ?_
    refine V_getI kk104 (by decide) fl_X12_253 hn dX12_isMan_6 ?_
    refine V_icmp_ge (tgt := 16) dX12_isMan_9 rfl (by first | assumption | (unfold ri at *; omega)) (by first | assumption | (unfold ri at *; omega)) (fun b9 => ?_) (fun b9 => ?_)
    · refine V_iconst dX12_isMan_16 ?_
      exact V_zreturn rfl (by first | exact Or.inl rfl | exact Or.inr rfl | (unfold bz; split <;> simp)) ⟨by simp only [bz, decide_eq_true_eq]; split <;> first | rfl | (exfalso; omega), rfl, rfl, rfl⟩ dX12_isMan_17
    · refine V_iconst dX12_isMan_12 ?_
      refine V_goto (tgt := 17) dX12_isMan_13 rfl ?_
      exact V_zreturn rfl (by first | exact Or.inl rfl | exact Or.inr rfl | (unfold bz; split <;> simp)) ⟨by simp only [bz, decide_eq_true_eq]; split <;> first | rfl | (exfalso; omega), rfl, rfl, rfl⟩ dX12_isMan_17
theorem c_isHold {ρ : RT} {f : IT} {g : JT} {k n : Int} (h1 : ri k) (hn : f 104 14 = n) (h2 : ri n) : C_X12_isHold [.ref 104, .int (iz k)] ρ f g (fun r ρ' f' g' => r = some (.int (iz (bz (decide (0 ≤ k ∧ k < n))))) ∧ ρ' = ρ ∧ f' = f ∧ g' = g) := by
  refine Ct.ofV (by decide) rfl (Nat.le_of_ble_eq_true rfl) ?_
  refine V_il1n dX12_isHold_0 ?_
  refine V_if_lt (tgt := 16) dX12_isHold_1 rfl (by first | assumption | (unfold ri at *; omega)) (fun b1 => ?_) (fun b1 => ?_)
  · refine V_iconst dX12_isHold_16 ?_
    exact V_zreturn rfl (by first | exact Or.inl rfl | exact Or.inr rfl | (unfold bz; split <;> simp)) ⟨by simp only [bz, decide_eq_true_eq]; split <;> first | rfl | (exfalso; omega), rfl, rfl, rfl⟩ dX12_isHold_17
  · refine V_il1n dX12_isHold_4 ?_
    refine V_al0n dX12_isHold_5 ?_
    refine V_getI kk104 (by decide) fl_X12_256 hn dX12_isHold_6 ?_
    refine V_icmp_ge (tgt := 16) dX12_isHold_9 rfl (by first | assumption | (unfold ri at *; omega)) (by first | assumption | (unfold ri at *; omega)) (fun b9 => ?_) (fun b9 => ?_)
    · refine V_iconst dX12_isHold_16 ?_
      exact V_zreturn rfl (by first | exact Or.inl rfl | exact Or.inr rfl | (unfold bz; split <;> simp)) ⟨by simp only [bz, decide_eq_true_eq]; split <;> first | rfl | (exfalso; omega), rfl, rfl, rfl⟩ dX12_isHold_17
    · refine V_iconst dX12_isHold_12 ?_
      refine V_goto (tgt := 17) dX12_isHold_13 rfl ?_
      exact V_zreturn rfl (by first | exact Or.inl rfl | exact Or.inr rfl | (unfold bz; split <;> simp)) ⟨by simp only [bz, decide_eq_true_eq]; split <;> first | rfl | (exfalso; omega), rfl, rfl, rfl⟩ dX12_isHold_17
theorem c_isPlan {ρ : RT} {f : IT} {g : JT} {k n : Int} (h1 : ri k) (hn : f 104 15 = n) (h2 : ri n) : C_X12_isPlan [.ref 104, .int (iz k)] ρ f g (fun r ρ' f' g' => r = some (.int (iz (bz (decide (0 ≤ k ∧ k < n))))) ∧ ρ' = ρ ∧ f' = f ∧ g' = g) := by
  refine Ct.ofV (by decide) rfl (Nat.le_of_ble_eq_true rfl) ?_
  refine V_il1n dX12_isPlan_0 ?_
  refine V_if_lt (tgt := 16) dX12_isPlan_1 rfl (by first | assumption | (unfold ri at *; omega)) (fun b1 => ?_) (fun b1 => ?_)
  · refine V_iconst dX12_isPlan_16 ?_
    exact V_zreturn rfl (by first | exact Or.inl rfl | exact Or.inr rfl | (unfold bz; split <;> simp)) ⟨by simp only [bz, decide_eq_true_eq]; split <;> first | rfl | (exfalso; omega), rfl, rfl, rfl⟩ dX12_isPlan_17
  · refine V_il1n dX12_isPlan_4 ?_
    refine V_al0n dX12_isPlan_5 ?_
    refine V_getI kk104 (by decide) fl_X12_259 hn dX12_isPlan_6 ?_
    refine V_icmp_ge (tgt := 16) dX12_isPlan_9 rfl (by first | assumption | (unfold ri at *; omega)) (by first | assumption | (unfold ri at *; omega)) (fun b9 => ?_) (fun b9 => ?_)
    · refine V_iconst dX12_isPlan_16 ?_
      exact V_zreturn rfl (by first | exact Or.inl rfl | exact Or.inr rfl | (unfold bz; split <;> simp)) ⟨by simp only [bz, decide_eq_true_eq]; split <;> first | rfl | (exfalso; omega), rfl, rfl, rfl⟩ dX12_isPlan_17
    · refine V_iconst dX12_isPlan_12 ?_
      refine V_goto (tgt := 17) dX12_isPlan_13 rfl ?_
      exact V_zreturn rfl (by first | exact Or.inl rfl | exact Or.inr rfl | (unfold bz; split <;> simp)) ⟨by simp only [bz, decide_eq_true_eq]; split <;> first | rfl | (exfalso; omega), rfl, rfl, rfl⟩ dX12_isPlan_17
theorem c_isOf {ρ : RT} {f : IT} {g : JT} {a : Int} {k : Nat} (h1 : ri a) (hk : k < 32) : C_X12_isOf [.int (iz a), .int (iz k)] ρ f g (fun r ρ' f' g' => r = some (.int (iz (bz (decide (a / 2 ^ k % 2 = 1))))) ∧ ρ' = ρ ∧ f' = f ∧ g' = g) := by
  refine Ct.ofV (by decide) rfl (Nat.le_of_ble_eq_true rfl) ?_
  refine V_il0n dX12_isOf_0 ?_
  refine V_il1n dX12_isOf_1 ?_
  refine V_ishr dX12_isOf_2 (iz_shr h1 hk) ?_
  refine V_iconst dX12_isOf_3 ?_
  refine V_iand dX12_isOf_4 (iz_and1 _) ?_
  refine V_iconst dX12_isOf_5 ?_
  refine V_icmp_ne (tgt := 13) dX12_isOf_6 rfl (by first | assumption | (unfold ri at *; omega)) (by first | assumption | (unfold ri at *; omega)) (fun b6 => ?_) (fun b6 => ?_)
  · refine V_iconst dX12_isOf_13 ?_
    exact V_zreturn rfl (by first | exact Or.inl rfl | exact Or.inr rfl | (unfold bz; split <;> simp)) ⟨by simp only [bz, decide_eq_true_eq]; split <;> first | rfl | (exfalso; omega), rfl, rfl, rfl⟩ dX12_isOf_14
  · refine V_iconst dX12_isOf_9 ?_
    refine V_goto (tgt := 14) dX12_isOf_10 rfl ?_
    exact V_zreturn rfl (by first | exact Or.inl rfl | exact Or.inr rfl | (unfold bz; split <;> simp)) ⟨by simp only [bz, decide_eq_true_eq]; split <;> first | rfl | (exfalso; omega), rfl, rfl, rfl⟩ dX12_isOf_14
def sumTo (s : Nat → Int) : Nat → Int
  | 0 => 0
  | n + 1 => sumTo s n + s n
theorem sumTo_le {s : Nat → Int} {b : Int} : ∀ n : Nat, (∀ k, k < n → 0 ≤ s k ∧ s k ≤ b) → 0 ≤ sumTo s n ∧ sumTo s n ≤ n * b
  | 0, _ => by simp [sumTo]
  | n + 1, h => by
    have h1 := sumTo_le n (fun k hk => h k (by omega))
    have h2 := h n (by omega)
    have e : ((n + 1 : Nat) : Int) * b = n * b + b := by rw [Int.natCast_add, Int.add_mul]; simp
    simp only [sumTo]
    omega
theorem w_allSteps {Q : QT} {ρ : RT} {f : IT} {g : JT} (hρ : Fx ρ) {N : Nat} (hN : N ≤ 6) (hl : f 104 12 = (N : Int)) {s : Nat → Int} (hs : ∀ k, k < N → f 108 k = s k) (hQ : Q (some (.int (iz (sumTo s N)))) ρ f g) (i : Nat) (hi : i ≤ N) : V_X12_allSteps Q 4 [.ref 104, .int (iz (sumTo s i)), .int (iz (i : Int))] [] ρ f g := by
  refine V_il2n dX12_allSteps_4 ?_
  refine V_al0n dX12_allSteps_5 ?_
  refine V_getI kk104 (by decide) fl_X12_250 hl dX12_allSteps_6 ?_
  refine V_icmp_ge (tgt := 27) dX12_allSteps_9 rfl (by first | assumption | (unfold ri at *; omega)) (by first | assumption | (unfold ri at *; omega)) (fun b9 => ?_) (fun b9 => ?_)
  · have e9 : i = N := by omega
    subst e9
    refine V_il1n dX12_allSteps_27 ?_
    exact V_ireturn rfl hQ dX12_allSteps_28
  · refine V_il1n dX12_allSteps_12 ?_
    refine V_al0n dX12_allSteps_13 ?_
    refine V_getR kk104 (by decide) fl_X12_23 (fx_104_31 hρ) dX12_allSteps_14 ?_
    refine V_il2n dX12_allSteps_17 ?_
    refine V_iald (k := i) kk108 (by decide) (by first | rfl | omega) (by omega) (by first | decide | assumption | omega) (hs i (by omega)) dX12_allSteps_18 ?_
    refine V_iadd dX12_allSteps_19 ?_
    refine V_is1n dX12_allSteps_20 (by decide) rfl ?_
    refine V_inc2 dX12_allSteps_21 (by decide) rfl ?_
    refine V_goto (tgt := 4) dX12_allSteps_24 rfl ?_
    exact w_allSteps hρ hN hl hs hQ (i + 1) (by omega)
termination_by N - i
theorem c_allSteps {ρ : RT} {f : IT} {g : JT} (hρ : Fx ρ) {N : Nat} (hN : N ≤ 6) (hl : f 104 12 = (N : Int)) {s : Nat → Int} (hs : ∀ k, k < N → f 108 k = s k) : C_X12_allSteps [.ref 104] ρ f g (fun r ρ' f' g' => r = some (.int (iz (sumTo s N))) ∧ ρ' = ρ ∧ f' = f ∧ g' = g) := by
  refine Ct.ofV (by decide) rfl (Nat.le_of_ble_eq_true rfl) ?_
  refine V_iconst dX12_allSteps_0 ?_
  refine V_is1n dX12_allSteps_1 (by decide) rfl ?_
  refine V_iconst dX12_allSteps_2 ?_
  refine V_is2n dX12_allSteps_3 (by decide) rfl ?_
  exact w_allSteps hρ hN hl hs ⟨rfl, rfl, rfl, rfl⟩ 0 (by omega)

